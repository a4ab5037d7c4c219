/-! THE CLASS: a host's own messages one after another -/
theorem filter_s (p : Nat → Bool) (n : Nat) : (List.range (n + 1)).filter p = (List.range n).filter p ++ if p n then [n] else [] := by
  rw [List.range_succ, List.filter_append]
  cases h : p n <;> simp [h]
theorem for_fold {f f' : XS → Nat → XS} {p : Nat → Bool} {X : XS} : ∀ n, (∀ i, i < n → p i = true → f (x_for i f X) i = f' (x_for i f X) i) → (∀ i, i < n → p i = false → f (x_for i f X) i = x_for i f X) → x_for n f X = ((List.range n).filter p).foldl f' X
  | 0, _, _ => rfl
  | n + 1, h1, h2 => by
    have ih := for_fold n (fun i hi => h1 i (by omega)) (fun i hi => h2 i (by omega))
    show f (x_for n f X) n = _
    rw [filter_s, List.foldl_append, ← ih]
    cases q : p n with
    | true =>
      rw [h1 n (by omega) q]
      rfl
    | false =>
      rw [h2 n (by omega) q]
      rfl
theorem take_filter (p : Nat → Bool) : ∀ M i, i ≤ ((List.range M).filter p).length → ∃ n, n ≤ M ∧ ((List.range M).filter p).take i = (List.range n).filter p
  | 0, i, h => ⟨0, Nat.le_refl 0, by simp⟩
  | M + 1, i, h => by
    by_cases q : i ≤ ((List.range M).filter p).length
    · obtain ⟨n, hn, e⟩ := take_filter p M i q
      refine ⟨n, by omega, ?_⟩
      rw [filter_s, List.take_append_of_le_length q]
      exact e
    · refine ⟨M + 1, Nat.le_refl _, List.take_of_length_le ?_⟩
      rw [filter_s, List.length_append] at h ⊢
      cases z : p M with
      | true =>
        rw [z] at h
        show _ + 1 ≤ i
        omega
      | false =>
        rw [z] at h
        have h : i ≤ ((List.range M).filter p).length + 0 := h
        omega
theorem outs_get {M : Nat} {fr : Nat → Nat} {h i x : Nat} (hx : (outsF M fr h)[i]? = some x) : x < M ∧ fr x = h := by
  have := List.mem_of_getElem? hx
  unfold outsF at this
  rw [List.mem_filter, List.mem_range] at this
  exact ⟨this.1, of_decide_eq_true this.2⟩
theorem outs_len (M : Nat) (fr : Nat → Nat) (h : Nat) : (outsF M fr h).length ≤ M := by
  unfold outsF
  have := List.length_filter_le (fun x => decide (fr x = h)) (List.range M)
  rw [List.length_range] at this
  exact this
theorem WX.out {S : jS} {w : Nat → Nat → Nat} {hx : Nat} {X : XS} (h : WX S w hx X) {a i x : Nat} (ha : a < 8) (e : (outsF (xV X 1 0) (xV X 8) a)[i]? = some x) : sP S 12 (w 12 (1 + a)) i = some (w 3 x) := by
  refine h.r 12 (1 + a) i (show 1 + a < 17 by omega) ?_
  show (if 1 + a = 0 then _ else if 1 + a < 9 then ((outsF (xV X 1 0) (xV X 8) (1 + a - 1))[i]?).map (fun x => (3, x)) else _) = _
  rw [if_neg (by omega), if_pos (by omega), Nat.add_sub_cancel_left, e]
  rfl
theorem WX.inc {S : jS} {w : Nat → Nat → Nat} {hx : Nat} {X : XS} (h : WX S w hx X) {a i x : Nat} (ha : a < 8) (e : (outsF (xV X 1 0) (xV X 9) a)[i]? = some x) : sP S 12 (w 12 (9 + a)) i = some (w 3 x) := by
  refine h.r 12 (9 + a) i (show 9 + a < 17 by omega) ?_
  show (if 9 + a = 0 then _ else if 9 + a < 9 then _ else ((outsF (xV X 1 0) (xV X 9) (9 + a - 9))[i]?).map (fun x => (3, x))) = _
  rw [if_neg (by omega), if_neg (by omega), Nat.add_sub_cancel_left, e]
  rfl
theorem WX.aout {S : jS} {w : Nat → Nat → Nat} {hx : Nat} {X : XS} (h : WX S w hx X) {a : Nat} (ha : a < 8) : aAt S 12 (w 12 (1 + a)) 48 := h.a 12 (1 + a) (by decide) (show 1 + a < 17 by omega)
theorem WX.ainc {S : jS} {w : Nat → Nat → Nat} {hx : Nat} {X : XS} (h : WX S w hx X) {a : Nat} (ha : a < 8) : aAt S 12 (w 12 (9 + a)) 48 := h.a 12 (9 + a) (by decide) (show 9 + a < 17 by omega)
theorem WX.hout {S : jS} {w : Nat → Nat → Nat} {hx : Nat} {X : XS} (h : WX S w hx X) {a : Nat} (ha : a < 8) : sP S 2 (w 2 a) 0 = some (w 12 (1 + a)) := h.r 2 a 0 ha rfl
theorem WX.hinc {S : jS} {w : Nat → Nat → Nat} {hx : Nat} {X : XS} (h : WX S w hx X) {a : Nat} (ha : a < 8) : sP S 2 (w 2 a) 1 = some (w 12 (9 + a)) := h.r 2 a 1 ha rfl
theorem WX.cout {S : jS} {w : Nat → Nat → Nat} {hx : Nat} {X : XS} (h : WX S w hx X) {a : Nat} (ha : a < 8) : sI S 2 (w 2 a) 6 = nI (outsF (xV X 1 0) (xV X 8) a).length := (h.2.2.2.2.2.2.2.2.2.2.1 a ha).1
theorem WX.cinc {S : jS} {w : Nat → Nat → Nat} {hx : Nat} {X : XS} (h : WX S w hx X) {a : Nat} (ha : a < 8) : sI S 2 (w 2 a) 7 = nI (outsF (xV X 1 0) (xV X 9) a).length := (h.2.2.2.2.2.2.2.2.2.2.1 a ha).2
theorem want_0 (X : XS) (m i : Nat) : xV (x_want X m i) = xV X := by
  unfold x_want
  split <;> rfl
theorem watch1_0 (X : XS) (x : Nat) : xV (x_watch1 X x) 0 = xV X 0 := by
  unfold x_watch1
  split
  · rw [xV_nf (by decide)]
  · split
    · rw [xV_nf (by decide), xV_nf (by decide), xV_nf (by decide), xV_nf (by decide)]
    · rw [want_0, xV_nf (by decide), xV_nf (by decide)]
theorem watch_0 (X : XS) (h : Nat) : ∀ n, xV (x_watch X h n) 0 = xV X 0
  | 0 => rfl
  | n + 1 => by
    show xV (if xV (x_watch X h n) 8 n = h ∧ xV (x_watch X h n) 12 n = 0 then x_watch1 (x_watch X h n) n else x_watch X h n) 0 = _
    split
    · rw [watch1_0, watch_0 X h n]
    · exact watch_0 X h n
/-- watching is going through the host's own messages -/
theorem watch_fold {X : XS} {h n : Nat} (hI : ∀ i, i ≤ n → xSm X (x_watch X h i)) : x_watch X h n = (outsF n (xV X 8) h).foldl (fun Y x => if xV Y 12 x = 0 then x_watch1 Y x else Y) X := by
  unfold x_watch outsF
  refine for_fold n (fun i hi hp => ?_) (fun i hi hp => ?_)
  · have e : xV (x_watch X h i) 8 i = h := by rw [(hI i (by omega)).2.1]; exact of_decide_eq_true hp
    show (if xV (x_watch X h i) 8 i = h ∧ xV (x_watch X h i) 12 i = 0 then _ else _) = if xV (x_watch X h i) 12 i = 0 then _ else _
    by_cases q : xV (x_watch X h i) 12 i = 0
    · rw [if_pos ⟨e, q⟩, if_pos q]
    · rw [if_neg (fun z => q z.2), if_neg q]
  · have e : ¬ xV (x_watch X h i) 8 i = h := by rw [(hI i (by omega)).2.1]; exact of_decide_eq_false hp
    show (if xV (x_watch X h i) 8 i = h ∧ xV (x_watch X h i) 12 i = 0 then _ else _) = _
    rw [if_neg (fun z => e z.1)]
set_option maxRecDepth 100000 in
theorem cx_workAsSender (l : Launch) (g : jG) (hgt : Nat) {S : jS} {w : Nat → Nat → Nat} {hx : Nat} {X : XS} {a : Nat} (hW : WX S w hx X) (ha : a < 8) (hI : ∀ i, i ≤ xV X 1 0 → xOK (x_watch X a i) ∧ xSm X (x_watch X a i)) (hh : 3 ≤ hgt) : CT l g mX3_workAsSender hgt 0 0 [.ref (w 2 a), .int (nI (xV X 0 0))] S (xQ w hx none (x_watch X a (xV X 1 0))) := by
  have h48 : xV X 1 0 ≤ 48 := (hI 0 (Nat.zero_le _)).1.many
  have hlen := outs_len (xV X 1 0) (xV X 8) a
  have hfold := watch_fold (X := X) (h := a) (n := xV X 1 0) (fun i hi => (hI i hi).2)
  have hY : ∀ i, i ≤ (outsF (xV X 1 0) (xV X 8) a).length → xOK (((outsF (xV X 1 0) (xV X 8) a).take i).foldl (fun Y x => if xV Y 12 x = 0 then x_watch1 Y x else Y) X) ∧ xSm X (((outsF (xV X 1 0) (xV X 8) a).take i).foldl (fun Y x => if xV Y 12 x = 0 then x_watch1 Y x else Y) X) ∧ xV (((outsF (xV X 1 0) (xV X 8) a).take i).foldl (fun Y x => if xV Y 12 x = 0 then x_watch1 Y x else Y) X) 0 = xV X 0 := by
    intro i hi
    obtain ⟨n, hn, e⟩ := take_filter (fun x => decide (xV X 8 x = a)) (xV X 1 0) i hi
    have e2 : (outsF (xV X 1 0) (xV X 8) a).take i = outsF n (xV X 8) a := e
    rw [e2, ← watch_fold (X := X) (h := a) (n := n) (fun j hj => (hI j (by omega)).2)]
    exact ⟨(hI n hn).1, (hI n hn).2, watch_0 X a n⟩
  rw [hfold]
  refine CT_of qX3_workAsSender (Nat.le_of_ble_eq_true rfl) ?_
  refine J_iconst (pc := 0) (v := nI 0) dX3_workAsSender_0 (by decide) ?_
  refine J_istore_n (pc := 1) dX3_workAsSender_1 rfl (by decide) ?_
  have loop : ∀ i, i ≤ (outsF (xV X 1 0) (xV X 8) a).length → ∀ S, WX S w hx (((outsF (xV X 1 0) (xV X 8) a).take i).foldl (fun Y x => if xV Y 12 x = 0 then x_watch1 Y x else Y) X) → J l g mX3_workAsSender hgt 0 0 (xQ w hx none ((outsF (xV X 1 0) (xV X 8) a).foldl (fun Y x => if xV Y 12 x = 0 then x_watch1 Y x else Y) X)) 2 [(2, .int (nI i)), (0, .ref (w 2 a)), (1, .int (nI (xV X 0 0)))] [] S 0 0 := by
    refine down _ ?_ ?_
    · intro S hW
      obtain ⟨-, y2, -⟩ := hY _ (Nat.le_refl _)
      rw [List.take_length] at hW y2
      have hc := hW.cout ha
      rw [y2.1, y2.2.1] at hc
      refine J_iload_n (pc := 2) dX3_workAsSender_2 rfl rfl ?_
      refine J_aload_n (pc := 3) dX3_workAsSender_3 rfl rfl ?_
      refine J_geti (pc := 4) (i := 6) cl2 (hW.ho ha) (by decide) rfl hc kX3_43 dX3_workAsSender_4 ?_
      refine J_icmp_geN (pc := 7) (tgt := 29) dX3_workAsSender_7 rfl (by omega) (by omega) (fun B => ?_) (fun B => ?_)
      · refine J_vret (pc := 29) dX3_workAsSender_29 rfl (by omega) (by omega) ?_
        exact ⟨rfl, hW⟩
      · omega
    · intro i hi ih S hW
      obtain ⟨y1, y2, y3⟩ := hY i (by omega)
      obtain ⟨x, hx2⟩ : ∃ x, (outsF (xV X 1 0) (xV X 8) a)[i]? = some x := ⟨_, List.getElem?_eq_getElem hi⟩
      have hxm := outs_get hx2
      rw [List.take_add_one, hx2, List.foldl_append] at ih
      generalize ((outsF (xV X 1 0) (xV X 8) a).take i).foldl (fun Y x => if xV Y 12 x = 0 then x_watch1 Y x else Y) X = Y at hW y1 y2 y3 ih
      have hc := hW.cout ha
      have ho := hW.out ha (i := i) (x := x) (by rw [y2.1, y2.2.1]; exact hx2)
      rw [y2.1, y2.2.1] at hc
      have hm : x < xV Y 1 0 := by rw [y2.1]; exact hxm.1
      have o := y1.msg (m := x) (by omega)
      rw [← y3] at ih ⊢
      refine J_iload_n (pc := 2) dX3_workAsSender_2 rfl rfl ?_
      refine J_aload_n (pc := 3) dX3_workAsSender_3 rfl rfl ?_
      refine J_geti (pc := 4) (i := 6) cl2 (hW.ho ha) (by decide) rfl hc kX3_43 dX3_workAsSender_4 ?_
      refine J_icmp_geN (pc := 7) (tgt := 29) dX3_workAsSender_7 rfl (by omega) (by omega) (fun B => ?_) (fun B => ?_)
      · omega
      · refine J_aload_n (pc := 10) dX3_workAsSender_10 rfl rfl ?_
        refine J_getr (pc := 11) (i := 0) cl2 (hW.ho ha) (by decide) rfl (hW.hout ha) kX3_11 dX3_workAsSender_11 ?_
        refine J_iload_n (pc := 14) dX3_workAsSender_14 rfl rfl ?_
        refine J_rald12 (pc := 15) (hW.aout ha) rfl (show i < 48 by omega) (by first | omega | exact mLn_lt _) ho dX3_workAsSender_15 ?_
        refine J_getrN (pc := 16) (i := 4) (host := RX9) cl3 (hW.mo hm) (by decide) rfl (hW.ms hm) (by decide +kernel) dX3_workAsSender_16 ?_
        refine J_iload_n (pc := 19) dX3_workAsSender_19 rfl rfl ?_
        refine J_callV (pc := 20) (cx_growQuiet l g (hgt - 1) hW hm o.2.1.1 (by omega) o.2.1.2.2.2.2.1 o.2.1.2.2.2.2.2.2 (by omega)) qX8_growQuiet vX8_growQuiet cl6 rfl (hW.s hm) kX3_159 dX3_workAsSender_20 rfl rfl (Nat.le_of_ble_eq_true rfl) (by omega) (by omega) (by omega) ?_
        rintro _ S' ⟨rfl, hW'⟩
        refine J_iinc (pc := 23) dX3_workAsSender_23 rfl (inc1 _) (by decide) ?_
        refine J_goto (pc := 26) (tgt := 2) dX3_workAsSender_26 rfl ?_
        exact J_lvk (ih S' hW') ⟨rfl, rfl, rfl, trivial⟩
  exact J_lvk (loop 0 (Nat.zero_le _) S hW) ⟨rfl, rfl, rfl, trivial⟩
