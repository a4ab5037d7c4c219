/-! what always holds goes on to hold -/
def okM (X : XS) (m : Nat) : Prop := (xV X 12 m ≤ 2 ∧ xV X 13 m ≤ xV X 10 m ∧ xV X 14 m ≤ xV X 10 m ∧ xV X 15 m ≤ 3 ∧ xV X 16 m < 40 ∧ xV X 17 m ≤ 6 ∧ (xV X 12 m = 0 → xV X 17 m < 6)) ∧ (xV X 19 m ≤ 2 ∧ xV X 21 m ≤ xV X 10 m ∧ xV X 22 m < 16 ∧ xV X 23 m ≤ 8 ∧ (xV X 19 m = 1 → xV X 23 m < 8)) ∧ (∀ i, xB X 0 m i = true → i < xV X 13 m) ∧ (∀ i, xB X 1 m i = true → i < xV X 10 m) ∧ (xV X 19 m = 1 → 0 < x_missing X m) ∧ (xV X 19 m = 0 → ∀ i, xB X 1 m i = false)
theorem xOK.toM {X : XS} (h : xOK X) {m : Nat} (hm : m < 48) : okM X m := ⟨(h.msg hm).2.1, (h.msg hm).2.2, (h.set m).1, (h.set m).2.1, (h.set m).2.2.1, (h.set m).2.2.2⟩
theorem okE.of {X X' : XS} {e : Nat × Nat × Nat} (h : okE X e) (hs : xSm X X') : okE X' e := by
  unfold okE
  rw [hs.1, hs.2.2.2.1]
  exact h
theorem xOK.upd {X X' : XS} {m : Nat} (h : xOK X) (hm : m < xV X 1 0) (hs : xSm X X') (hk : ∀ f, f ∈ [4, 5, 6, 7, 28, 29] → xV X' f = xV X f) (hv : ∀ f i, 12 ≤ f → f < 26 → i ≠ m → xV X' f i = xV X f i) (hB : ∀ w i j, i ≠ m → xB X' w i j = xB X w i j) (hL : xL X' = xL X) (h31 : ∀ i, xV X' 31 i = xV X 31 i ∨ xV X' 31 i < 48) (ok : okM X' m) : xOK X' := by
  have h48 := h.many
  have hmis : ∀ i, i ≠ m → x_missing X' i = x_missing X i := fun i hi => by
    unfold x_missing
    rw [hs.2.2.2.1]
    exact cnt_congr (fun j _ => by rw [hB 1 i j hi])
  have e1 : xV X' 1 0 = xV X 1 0 := congrFun hs.1 0
  refine ⟨⟨?_, fun k hk2 => ?_, fun s hs2 => ?_⟩, fun i hi => ?_, fun i hi => ?_, fun i => ?_, fun i hi => ?_, ⟨fun q e he => ?_, ?_⟩, fun a ha => ?_, fun i hi => ?_⟩
  · rw [e1]
    exact h48
  · rw [hk 4 (by simp), hk 5 (by simp)]
    exact h.link hk2
  · rw [hk 6 (by simp), hk 7 (by simp)]
    exact h.sp hs2
  · have o := h.msg hi
    rw [hs.2.1, hs.2.2.1, hs.2.2.2.1, hs.2.2.2.2]
    refine ⟨o.1, ?_⟩
    by_cases e : i = m
    · subst e
      obtain ⟨k1, k2, -⟩ := ok
      rw [hs.2.2.2.1] at k1 k2
      exact ⟨k1, k2⟩
    · rw [hv 12 i (by decide) (by decide) e, hv 13 i (by decide) (by decide) e, hv 14 i (by decide) (by decide) e, hv 15 i (by decide) (by decide) e, hv 16 i (by decide) (by decide) e, hv 17 i (by decide) (by decide) e, hv 19 i (by decide) (by decide) e, hv 21 i (by decide) (by decide) e, hv 22 i (by decide) (by decide) e, hv 23 i (by decide) (by decide) e]
      exact o.2
  · rw [e1] at hi
    rw [hs.2.2.2.1]
    exact h.len hi
  · by_cases e : i = m
    · subst e
      exact ok.2.2
    · have o := h.set i
      rw [hmis i e, hs.2.2.2.1, hv 13 i (by decide) (by decide) e, hv 19 i (by decide) (by decide) e]
      simp only [hB _ _ _ e]
      exact o
  · rw [e1] at hi
    have o := h.new hi
    refine ⟨fun f h8 h26 => ?_, fun w j => ?_⟩
    · have z := o.1 f h8 h26
      by_cases f12 : 12 ≤ f
      · rw [hv f i f12 h26 (by omega)]
        exact z
      · rcases (show f = 8 ∨ f = 9 ∨ f = 10 ∨ f = 11 by omega) with rfl | rfl | rfl | rfl
        · rw [hs.2.1]; exact z
        · rw [hs.2.2.1]; exact z
        · rw [hs.2.2.2.1]; exact z
        · rw [hs.2.2.2.2]; exact z
    · rw [hB w i j (by omega)]
      exact o.2 w j
  · rw [hL] at he
    exact (h.list.1 q e he).of hs
  · rw [hL]
    exact h.list.2
  · rw [hk 28 (by simp), hk 29 (by simp), e1]
    exact h.host ha
  · rcases h31 i with z | z
    · rw [z]
      exact h.fin hi
    · exact z
/-- numbers that nothing speaks of -/
theorem xOK.fre {X X' : XS} (h : xOK X) (hv : ∀ f, f ∉ [0, 2, 3, 26, 27, 30, 32] → xV X' f = xV X f) (hB : xB X' = xB X) (hL : xL X' = xL X) : xOK X' := by
  have hmis : ∀ i, x_missing X' i = x_missing X i := fun i => missing_of (hv 10 (by decide)) hB
  obtain ⟨h1, h2, h3, h4, h5, h6, h7⟩ := h
  refine ⟨?_, ?_, ?_, ?_, ?_, ?_, ?_⟩
  · unfold okNum
    rw [hv 1 (by decide), hv 4 (by decide), hv 5 (by decide), hv 6 (by decide), hv 7 (by decide)]
    exact h1
  · unfold okMsg
    rw [hv 8 (by decide), hv 9 (by decide), hv 10 (by decide), hv 11 (by decide), hv 12 (by decide), hv 13 (by decide), hv 14 (by decide), hv 15 (by decide), hv 16 (by decide), hv 17 (by decide), hv 19 (by decide), hv 21 (by decide), hv 22 (by decide), hv 23 (by decide)]
    exact h2
  · unfold okLen
    rw [hv 1 (by decide), hv 10 (by decide)]
    exact h3
  · unfold okSet
    simp only [hmis]
    rw [hv 10 (by decide), hv 13 (by decide), hv 19 (by decide), hB]
    exact h4
  · intro m hm
    rw [hv 1 (by decide)] at hm
    obtain ⟨z1, z2⟩ := h5 m hm
    refine ⟨fun f h8 h26 => ?_, fun w i => ?_⟩
    · rw [hv f (by simp; omega)]
      exact z1 f h8 h26
    · rw [hB]
      exact z2 w i
  · unfold okList okE
    rw [hL, hv 1 (by decide), hv 10 (by decide)]
    exact h6
  · unfold okHost
    rw [hv 1 (by decide), hv 28 (by decide), hv 29 (by decide), hv 31 (by decide)]
    exact h7
theorem okArr.mono {X X' : XS} {T : Nat} (h : okArr X T) (hs : xSm X X') (e26 : xV X' 26 = xV X 26) (e30 : xV X' 30 = xV X 30) (e24 : xV X' 24 = xV X 24) (h19 : ∀ m, xV X' 19 m ≠ 0 → xV X 19 m ≠ 0) : okArr X' T := by
  unfold okArr
  rw [e26, e30, e24, hs.1, hs.2.2.1]
  exact ⟨h.1, h.2.1, fun m m' a b c d e f => h.2.2 m m' a b c (h19 m d) (h19 m' e) f⟩
theorem okArr.le {X : XS} {T T' : Nat} (h : okArr X T) (hT : T ≤ T') : okArr X T' := ⟨fun a ha => ⟨Nat.le_trans (h.1 a ha).1 hT, Nat.le_trans (h.1 a ha).2 hT⟩, h.2.1, h.2.2⟩
def rel (Y Z : XS) : Prop := xSm Y Z ∧ xV Z 0 = xV Y 0 ∧ xV Z 32 = xV Y 32
theorem rel.refl (Y : XS) : rel Y Y := ⟨⟨rfl, rfl, rfl, rfl, rfl⟩, rfl, rfl⟩
theorem xSm.trans {X Y Z : XS} (h1 : xSm X Y) (h2 : xSm Y Z) : xSm X Z := ⟨h2.1.trans h1.1, h2.2.1.trans h1.2.1, h2.2.2.1.trans h1.2.2.1, h2.2.2.2.1.trans h1.2.2.2.1, h2.2.2.2.2.trans h1.2.2.2.2⟩
theorem rel.tr {X Y Z : XS} (h1 : rel X Y) (h2 : rel Y Z) : rel X Z := ⟨h1.1.trans h2.1, h2.2.1.trans h1.2.1, h2.2.2.trans h1.2.2⟩
theorem rel_of {Y Z : XS} (h : ∀ f, f ∈ [0, 1, 8, 9, 10, 11, 32] → xV Z f = xV Y f) : rel Y Z := ⟨⟨h 1 (by simp), h 8 (by simp), h 9 (by simp), h 10 (by simp), h 11 (by simp)⟩, h 0 (by simp), h 32 (by simp)⟩
theorem rel_yV (X : XS) {f : Nat} (i v : Nat) (hf : f ∉ [0, 1, 8, 9, 10, 11, 32]) : rel X (yV X f i v) := rel_of (fun g hg => xV_nf (fun e => hf (e ▸ hg)))
theorem rel_v {X Y : XS} (h : xV Y = xV X) : rel X Y := rel_of (fun f _ => by rw [h])
def good (T : Nat) (Y : XS) : Prop := xOK Y ∧ okArr Y T
theorem good.le {T T' : Nat} {Y : XS} (h : good T Y) (hT : T ≤ T') : good T' Y := ⟨h.1, h.2.le hT⟩
/-- nothing of arrivals changes -/
theorem good.of {T : Nat} {X X' : XS} (h : good T X) (ok : xOK X') (hs : rel X X') (hv : ∀ f, f ∈ [19, 24, 26, 30] → xV X' f = xV X f) : good T X' := ⟨ok, h.2.mono hs.1 (hv 26 (by simp)) (hv 30 (by simp)) (hv 24 (by simp)) (fun m => by rw [hv 19 (by simp)]; exact id)⟩
theorem good_drop {T : Nat} {X : XS} (h : good T X) : good T (x_drop X) ∧ rel X (x_drop X) := by
  have r : rel X (x_drop X) := rel_yV X _ _ (by decide)
  refine ⟨h.of (h.1.fre (fun f hf => xV_nf (fun e => hf (by simp [e]))) rfl rfl) r (fun f hf => xV_nf (fun e => ?_)), r⟩
  subst e
  revert hf
  decide
theorem good_sent1 {T : Nat} {X : XS} (a : Nat) (h : good T X) : good T (x_sent1 X a) ∧ rel X (x_sent1 X a) := by
  have r : rel X (x_sent1 X a) := rel_yV X _ _ (by decide)
  refine ⟨h.of (h.1.fre (fun f hf => xV_nf (fun e => hf (by simp [e]))) rfl rfl) r (fun f hf => xV_nf (fun e => ?_)), r⟩
  subst e
  revert hf
  decide
theorem good_due {T : Nat} {X : XS} {a : Nat} {e : Nat × Nat × Nat} (h : good T X) (ha : a < 8) (he : okE X e) : good T (x_due X a e) ∧ rel X (x_due X a e) := by
  have r : rel X (x_due X a e) := rel_v (due_v X a e)
  refine ⟨h.of ?_ r (fun f _ => by rw [due_v]), r⟩
  unfold x_due
  split
  · exact h.1
  case isFalse q =>
    have hl := h.1.list.2.2.1 a ha
    refine h.1.setL _ _ (fun e' he' => ?_) (fun z => by omega) (fun b hb z => ?_) (fun k hk z => by omega)
    · rcases List.mem_append.mp he' with u | u
      · exact h.1.list.1 _ e' u
      · rw [List.mem_singleton.mp u]
        exact he
    · rw [List.length_append]
      show _ + 1 ≤ 24
      omega
theorem good_clr {T : Nat} {X : XS} (q : Nat) (h : good T X) : good T (yL X q []) ∧ rel X (yL X q []) := ⟨h.of (h.1.clrL q) (rel_v rfl) (fun _ _ => rfl), rel_v rfl⟩
theorem good_line {T : Nat} {X : XS} {k p : Nat} {e : Nat × Nat × Nat} (h : good T X) (hk : k < 24) (hp : p ≤ 3) (he : okE X e) : good T (x_line X k e p) ∧ rel X (x_line X k e p) := by
  unfold x_line
  split
  · exact good_drop h
  case isFalse q =>
    have hl := h.1.list.2.1 (4 * k + p) (by omega)
    refine ⟨h.of (h.1.setL _ _ (fun e' he' => ?_) (fun z => ?_) (fun b hb z => by omega) (fun k hk z => by omega)) (rel_v rfl) (fun _ _ => rfl), rel_v rfl⟩
    · rcases List.mem_append.mp he' with u | u
      · exact h.1.list.1 _ e' u
      · rw [List.mem_singleton.mp u]
        exact he
    · rw [List.length_append]
      show _ + 1 ≤ 8
      omega
/-- a number of a link, a spine or a leaf -/
theorem xOK.lnk {X X' : XS} (h : xOK X) (hv : ∀ f, f ∉ [3, 4, 5, 6, 7] → xV X' f = xV X f) (hB : xB X' = xB X) (hL : xL X' = xL X) (h4 : ∀ k, k < 24 → xV X' 4 k ≤ 100 ∧ xV X' 5 k ≤ 3) (h6 : ∀ s, s < 2 → xV X' 6 s ≤ 1 ∧ xV X' 7 s ≤ 1) : xOK X' := by
  have hmis : ∀ i, x_missing X' i = x_missing X i := fun i => missing_of (hv 10 (by decide)) hB
  obtain ⟨h1, h2, h3, h4', h5, h6', h7⟩ := h
  refine ⟨⟨?_, h4, h6⟩, ?_, ?_, ?_, ?_, ?_, ?_⟩
  · rw [hv 1 (by decide)]
    exact h1.1
  · unfold okMsg
    rw [hv 8 (by decide), hv 9 (by decide), hv 10 (by decide), hv 11 (by decide), hv 12 (by decide), hv 13 (by decide), hv 14 (by decide), hv 15 (by decide), hv 16 (by decide), hv 17 (by decide), hv 19 (by decide), hv 21 (by decide), hv 22 (by decide), hv 23 (by decide)]
    exact h2
  · unfold okLen
    rw [hv 1 (by decide), hv 10 (by decide)]
    exact h3
  · unfold okSet
    simp only [hmis]
    rw [hv 10 (by decide), hv 13 (by decide), hv 19 (by decide), hB]
    exact h4'
  · intro m hm
    rw [hv 1 (by decide)] at hm
    obtain ⟨z1, z2⟩ := h5 m hm
    refine ⟨fun f h8 h26 => ?_, fun w i => ?_⟩
    · rw [hv f (by simp; omega)]
      exact z1 f h8 h26
    · rw [hB]
      exact z2 w i
  · unfold okList okE
    rw [hL, hv 1 (by decide), hv 10 (by decide)]
    exact h6'
  · unfold okHost
    rw [hv 1 (by decide), hv 28 (by decide), hv 29 (by decide), hv 31 (by decide)]
    exact h7
theorem good_enter {T : Nat} {X : XS} {k p : Nat} {e : Nat × Nat × Nat} (h : good T X) (hk : k < 24) (hp : p ≤ 3) (he : okE X e) : good T (x_enter X k e p) ∧ rel X (x_enter X k e p) := by
  unfold x_enter
  split
  · have r : rel X (yV (yV X 4 k (xV X 4 k - 1)) 3 0 (xV X 3 0 + 1)) := (rel_yV X _ _ (by decide)).tr (rel_yV _ _ _ (by decide))
    refine ⟨h.of (h.1.lnk (fun f hf => ?_) rfl rfl (fun j hj => ?_) (fun s hs => ?_)) r (fun f hf => ?_), r⟩
    · rw [xV_nf (fun e => hf (by simp [e])), xV_nf (fun e => hf (by simp [e]))]
    · have o := h.1.link hj
      rw [xV_nf (f := 3) (f' := 4) (by decide), xV_nf (f := 3) (f' := 5) (by decide), xV_nf (f := 4) (f' := 5) (by decide), xV_yV]
      refine ⟨?_, o.2⟩
      split
      case isTrue z => have := h.1.link hk; omega
      case isFalse => exact o.1
    · have o := h.1.sp hs
      rw [xV_nf (f := 3) (f' := 6) (by decide), xV_nf (f := 4) (f' := 6) (by decide), xV_nf (f := 3) (f' := 7) (by decide), xV_nf (f := 4) (f' := 7) (by decide)]
      exact o
    · simp only [List.mem_cons, List.not_mem_nil, or_false] at hf
      rcases hf with rfl | rfl | rfl | rfl <;> rw [xV_nf (by decide), xV_nf (by decide)]
  · have g1 : good T (yL X (200 + k) [e]) := h.of (h.1.setL _ _ (fun e' he' => (by rw [List.mem_singleton.mp he']; exact he)) (fun z => by omega) (fun b hb z => by omega) (fun j hj z => Nat.le_refl 1)) (rel_v rfl) (fun _ _ => rfl)
    have r : rel X (yV (yL X (200 + k) [e]) 5 k p) := (rel_v (X := X) (Y := yL X (200 + k) [e]) rfl).tr (rel_yV _ _ _ (by decide))
    refine ⟨h.of (g1.1.lnk (fun f hf => xV_nf (fun e => hf (by simp [e]))) rfl rfl (fun j hj => ?_) (fun s hs => ?_)) r (fun f hf => ?_), r⟩
    · have o := g1.1.link hj
      rw [xV_nf (f := 5) (f' := 4) (by decide), xV_yV]
      refine ⟨o.1, ?_⟩
      split
      · exact hp
      · exact o.2
    · have o := g1.1.sp hs
      rw [xV_nf (by decide), xV_nf (f := 5) (f' := 7) (by decide)]
      exact o
    · simp only [List.mem_cons, List.not_mem_nil, or_false] at hf
      rcases hf with rfl | rfl | rfl | rfl <;> rw [xV_nf (by decide)] <;> rfl
theorem good_atLeaf {T : Nat} {X : XS} {leaf p : Nat} {e : Nat × Nat × Nat} (h : good T X) (hl : leaf < 2) (hp : p ≤ 3) (he : okE X e) : good T (x_atLeaf X leaf e p) ∧ rel X (x_atLeaf X leaf e p) := by
  have hsp := h.1.sp hl
  have hs1 : x_spine X leaf ≤ 1 := by
    unfold x_spine
    split
    · omega
    · split <;> omega
  unfold x_atLeaf
  generalize x_goal X e.1 e.2.1 = gl
  split
  · exact good_line h (by omega) hp he
  · split
    · exact good_drop h
    · generalize x_spine X leaf = s at *
      have r : rel X (yV X 7 leaf s) := rel_yV X _ _ (by decide)
      have g1 : good T (yV X 7 leaf s) := by
        refine h.of (h.1.lnk (fun f hf => xV_nf (fun e => hf (by simp [e]))) rfl rfl (fun j hj => ?_) (fun t ht => ?_)) r (fun f hf => ?_)
        · rw [xV_nf (by decide), xV_nf (f := 7) (f' := 5) (by decide)]
          exact h.1.link hj
        · have o := h.1.sp ht
          rw [xV_nf (f := 7) (f' := 6) (by decide), xV_yV]
          refine ⟨o.1, ?_⟩
          split
          · exact hs1
          · exact o.2
        · simp only [List.mem_cons, List.not_mem_nil, or_false] at hf
          rcases hf with rfl | rfl | rfl | rfl <;> rw [xV_nf (by decide)]
      obtain ⟨g2, r2⟩ := good_line (k := 8 + 6 * leaf + 4 + s) g1 (by omega) hp (he.of r.1)
      exact ⟨g2, r.tr r2⟩
