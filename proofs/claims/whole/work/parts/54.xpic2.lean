/-! THE CLASS's memory: the picture -/
def outsF (M : Nat) (fr : Nat → Nat) (h : Nat) : List Nat := (List.range M).filter (fun x => fr x = h)
def lenA (c i : Nat) : Nat := match c with
  | 9 => if i < 64 then 8 else if i < 74 then 24 else if i = 74 then 2 else if i < 91 then 16 else if i < 99 then 3 else 64
  | 10 => 2
  | 11 => 8
  | 12 => 48
  | _ => 64
def rf (M : Nat) (fr go : Nat → Nat) (c i k : Nat) : Option (Nat × Nat) := match c with
  | 7 => if k = 0 then some (1, 0) else if k = 1 then some (11, 0) else if k = 2 then some (12, 0) else none
  | 1 => if k = 0 then some (9, 72) else if k = 1 then some (9, 73) else if k = 2 then some (13, 0) else if k = 3 then some (10, 0) else if k = 4 then some (9, 74) else none
  | 2 => if k = 0 then some (12, 1 + i) else if k = 1 then some (12, 9 + i) else if k = 2 then some (0, i) else if k = 3 then some (5, 64 + i) else if k = 4 then some (9, 91 + i) else if k = 5 then some (9, 99 + i) else none
  | 0 => if k = 0 then some (9, 75 + i) else if k = 1 then some (9, 83 + i) else none
  | 5 => if k = 0 then some (9, i) else none
  | 3 => if k = 4 then some (6, i) else if k = 5 then some (4, i) else none
  | 11 => if k < 8 then some (2, k) else none
  | 13 => if k < 64 then some (5, k) else none
  | 12 => if i = 0 then (if k < M then some (3, k) else none) else if i < 9 then ((outsF M fr (i - 1))[k]?).map (fun x => (3, x)) else ((outsF M go (i - 9))[k]?).map (fun x => (3, x))
  | _ => none
def xObj (S : jS) (w : Nat → Nat → Nat) (M : Nat) : Prop := ∀ c i, i < cN M c → sAt S c (w c i) ∧ (9 ≤ c → sN S (w c i) = lenA c i)
def xInj (w : Nat → Nat → Nat) (M : Nat) : Prop := ∀ c i i', i < cN M c → i' < cN M c → w c i = w c i' → i = i'
def xRef (S : jS) (w : Nat → Nat → Nat) (M : Nat) (fr go : Nat → Nat) : Prop := ∀ c i k c' i', i < cN M c → rf M fr go c i k = some (c', i') → sP S c (w c i) k = some (w c' i')
def xNum (S : jS) (w : Nat → Nat → Nat) (M : Nat) (X : XS) : Prop := ∀ f i, i < dmN M f → sI S (c1 f) (w (c1 f) (c2 f i)) (c3 f i) = nI (xV X f i)
def xFix (S : jS) (w : Nat → Nat → Nat) (M : Nat) (ln md : Nat → Nat) : Prop := ∀ m, m < M → sI S 3 (w 3 m) 0 = nI m ∧ sI S 6 (w 6 m) 0 = nI (ln m) ∧ sI S 4 (w 4 m) 0 = nI (ln m) ∧ sI S 4 (w 4 m) 1 = nI (md m)
def xSet (S : jS) (w : Nat → Nat → Nat) (M : Nat) (b : Nat → Nat → Nat → Bool) : Prop := ∀ m, m < M → isB (sJ S 6 (w 6 m) 5) (b 0 m) ∧ isB (sJ S 4 (w 4 m) 4) (b 1 m)
def pkF (fr go : Nat → Nat) (e : Nat × Nat × Nat) (p : Nat) : Nat := pkN e.1 p (if e.1 = 0 then go e.2.1 else fr e.2.1) e.2.1 e.2.2
def pkH (fr go : Nat → Nat) (l : List (Nat × Nat × Nat)) (p : Nat) : Int32 := match l with
  | [] => -1
  | e :: _ => nI (pkF fr go e p)
def xLnk (S : jS) (w : Nat → Nat → Nat) (fr go : Nat → Nat) (L : Nat → List (Nat × Nat × Nat)) (p : Nat → Nat) : Prop := ∀ k, k < 24 → sI S 9 (w 9 72) k = pkH fr go (L (200 + k)) (p k)
def pr (r : Nat) : Nat := if r < 64 then r % 4 else 0
def rN (r : Nat) : Nat := if r < 64 then 8 else 24
def xRow1 (S : jS) (w : Nat → Nat → Nat) (fr go : Nat → Nat) (r : Nat) (L : List (Nat × Nat × Nat)) : Prop := ∃ f, f < rN r ∧ L.length ≤ rN r ∧ sI S 5 (w 5 r) 1 = nI f ∧ sI S 5 (w 5 r) 2 = nI L.length ∧ ∀ i e, L[i]? = some e → sI S 9 (w 9 r) ((f + i) % rN r) = nI (pkF fr go e (pr r))
def xRows (S : jS) (w : Nat → Nat → Nat) (fr go : Nat → Nat) (L : Nat → List (Nat × Nat × Nat)) : Prop := ∀ r, r < 72 → xRow1 S w fr go r (L (32 + r))
def xSpi (S : jS) (w : Nat → Nat → Nat) (off : Nat → Nat) : Prop := ∀ s, s < 2 → sI S 10 (w 10 0) s = nI (1 - off s)
def xCho (S : jS) (w : Nat → Nat → Nat) (hx : Nat) (many what : Nat → Nat) : Prop := ∀ h, h < 8 → h ≠ hx → ∀ k, k < 3 → sI S 9 (w 9 (91 + h)) k = if k < many h then nI (what (3 * h + k)) else -1
def xCnt (S : jS) (w : Nat → Nat → Nat) (M : Nat) (fr go : Nat → Nat) : Prop := ∀ h, h < 8 → sI S 2 (w 2 h) 6 = nI (outsF M fr h).length ∧ sI S 2 (w 2 h) 7 = nI (outsF M go h).length
def xCut1 (S : jS) (w : Nat → Nat → Nat) (h : Nat) (L : List Nat) (a b : Nat) : Prop := sI S 0 (w 0 h) 2 = nI (L.length % 16) ∧ sI S 0 (w 0 h) 3 = nI (min L.length 16) ∧ sI S 0 (w 0 h) 4 = nI a ∧ sI S 0 (w 0 h) 5 = nI b ∧ ∀ t v, L[t]? = some v → L.length ≤ t + 16 → sI S 9 (w 9 (75 + h)) (t % 16) = nI v
def xCut (S : jS) (w : Nat → Nat → Nat) (X : XS) : Prop := ∀ h, h < 8 → xCut1 S w h (x_lens X h) (x_cut X h 1) (x_cut X h 2)
/-- the picture; the choices of host hx are left out -/
def WX (S : jS) (w : Nat → Nat → Nat) (hx : Nat) (X : XS) : Prop := xObj S w (xV X 1 0) ∧ xInj w (xV X 1 0) ∧ xRef S w (xV X 1 0) (xV X 8) (xV X 9) ∧ xNum S w (xV X 1 0) X ∧ xFix S w (xV X 1 0) (xV X 10) (xV X 11) ∧ xSet S w (xV X 1 0) (xB X) ∧ xLnk S w (xV X 8) (xV X 9) (xL X) (xV X 5) ∧ xRows S w (xV X 8) (xV X 9) (xL X) ∧ xSpi S w (xV X 6) ∧ xCho S w hx (xV X 28) (xV X 29) ∧ xCnt S w (xV X 1 0) (xV X 8) (xV X 9) ∧ xCut S w X
theorem pkF_goal (X : XS) (e : Nat × Nat × Nat) (p : Nat) : pkF (xV X 8) (xV X 9) e p = pkN e.1 p (x_goal X e.1 e.2.1) e.2.1 e.2.2 := rfl
theorem x_lens_of {X X' : XS} (h1 : xV X' 1 0 = xV X 1 0) (h8 : xV X' 8 = xV X 8) (h10 : xV X' 10 = xV X 10) (h : Nat) : x_lens X' h = x_lens X h := by
  unfold x_lens
  rw [h1, h8, h10]
theorem x_cut_of {X X' : XS} (h1 : xV X' 1 0 = xV X 1 0) (h8 : xV X' 8 = xV X 8) (h10 : xV X' 10 = xV X 10) (h t : Nat) : x_cut X' h t = x_cut X h t := by
  unfold x_cut x_late
  rw [x_lens_of h1 h8 h10]
theorem xCut.of {S : jS} {w : Nat → Nat → Nat} {X X' : XS} (h : xCut S w X) (h1 : xV X' 1 0 = xV X 1 0) (h8 : xV X' 8 = xV X 8) (h10 : xV X' 10 = xV X 10) : xCut S w X' := by
  intro a ha
  rw [x_lens_of h1 h8 h10, x_cut_of h1 h8 h10, x_cut_of h1 h8 h10]
  exact h a ha
/-- a write into one cell leaves the cells of the picture that are another's -/
theorem xInj.oth {w : Nat → Nat → Nat} {M : Nat} (h : xInj w M) {S : jS} {c i k c' i' k' : Nat} {v : Int32} (hi : i < cN M c) (hi' : i' < cN M c') (hn : ¬ (c' = c ∧ i' = i ∧ k' = k)) : sI (uI S c (w c i) k v) c' (w c' i') k' = sI S c' (w c' i') k' := by
  rw [sI_uI, if_neg]
  rintro ⟨e, e2, e3⟩
  subst e
  exact hn ⟨rfl, h c' i' i hi' hi e2, e3⟩
theorem xRow1.keep {S S' : jS} {w : Nat → Nat → Nat} {fr go : Nat → Nat} {r : Nat} {L : List (Nat × Nat × Nat)} (h : xRow1 S w fr go r L) (h5 : ∀ k, sI S' 5 (w 5 r) k = sI S 5 (w 5 r) k) (h9 : ∀ k, sI S' 9 (w 9 r) k = sI S 9 (w 9 r) k) : xRow1 S' w fr go r L := by
  obtain ⟨f, a1, a2, a3, a4, a5⟩ := h
  refine ⟨f, a1, a2, ?_, ?_, ?_⟩
  · rw [h5]; exact a3
  · rw [h5]; exact a4
  · intro i e he
    rw [h9]
    exact a5 i e he
theorem xCut.keep {S S' : jS} {w : Nat → Nat → Nat} {X : XS} (h : xCut S w X) (h0 : ∀ a k, a < 8 → sI S' 0 (w 0 a) k = sI S 0 (w 0 a) k) (h9 : ∀ a k, a < 8 → sI S' 9 (w 9 (75 + a)) k = sI S 9 (w 9 (75 + a)) k) : xCut S' w X := by
  intro a ha
  obtain ⟨a1, a2, a3, a4, a5⟩ := h a ha
  refine ⟨?_, ?_, ?_, ?_, ?_⟩
  · rw [h0 a _ ha]; exact a1
  · rw [h0 a _ ha]; exact a2
  · rw [h0 a _ ha]; exact a3
  · rw [h0 a _ ha]; exact a4
  · intro t v hv hl
    rw [h9 a _ ha]
    exact a5 t v hv hl
/-- only cells of numbers change -/
theorem WX.num {S S' : jS} {w : Nat → Nat → Nat} {hx : Nat} {X X' : XS} (h : WX S w hx X) (hS : S'.1 = S.1 ∧ S'.2.1 = S.2.1 ∧ S'.2.2.2 = S.2.2.2) (hc : ∀ c i k, i < cN (xV X 1 0) c → nCell c i k = false → sI S' c (w c i) k = sI S c (w c i) k) (hv : ∀ f, f ∈ [1, 5, 6, 8, 9, 10, 11, 28, 29] → xV X' f = xV X f) (hL : xL X' = xL X) (hB : xB X' = xB X) (hN : xNum S' w (xV X 1 0) X') : WX S' w hx X' := by
  obtain ⟨q1, q2, q3, q4, q5, q6, q7, q8, q9, q10, q11, q12⟩ := h
  have e1 : xV X' 1 0 = xV X 1 0 := by rw [hv 1 (by simp)]
  have eP : sP S' = sP S := by unfold sP; rw [hS.2.2]
  have eJ : sJ S' = sJ S := by unfold sJ; rw [hS.2.2]
  have eN : sN S' = sN S := by unfold sN; rw [hS.2.2]
  have eA : ∀ c a, sAt S' c a ↔ sAt S c a := fun c a => by unfold sAt; rw [hS.1, hS.2.1]
  unfold WX
  rw [e1, hv 5 (by simp), hv 6 (by simp), hv 8 (by simp), hv 9 (by simp), hv 10 (by simp), hv 11 (by simp), hv 28 (by simp), hv 29 (by simp), hL, hB]
  refine ⟨?_, q2, ?_, hN, ?_, ?_, ?_, ?_, ?_, ?_, ?_, ?_⟩
  · intro c i hi
    rw [eA, eN]
    exact q1 c i hi
  · intro c i k c' i' hi hr
    rw [eP]
    exact q3 c i k c' i' hi hr
  · intro m hm
    rw [hc 3 m 0 hm rfl, hc 6 m 0 hm rfl, hc 4 m 0 hm rfl, hc 4 m 1 hm rfl]
    exact q5 m hm
  · intro m hm
    rw [eJ]
    exact q6 m hm
  · intro k hk
    rw [hc 9 72 k (show 72 < 107 by decide) rfl]
    exact q7 k hk
  · intro r hr
    refine (q8 r hr).keep (fun k => hc 5 r k hr rfl) (fun k => hc 9 r k (show r < 107 by omega) ?_)
    show ((r == 73) || (r == 74) || decide (99 ≤ r)) = false
    simp
    omega
  · intro s hs
    rw [hc 10 0 s (show 0 < 1 by decide) rfl]
    exact q9 s hs
  · intro a ha hne k hk
    rw [hc 9 (91 + a) k (show 91 + a < 107 by omega) ?_]
    · exact q10 a ha hne k hk
    · show ((91 + a == 73) || (91 + a == 74) || decide (99 ≤ 91 + a)) = false
      simp
      omega
  · intro a ha
    rw [hc 2 a 6 ha rfl, hc 2 a 7 ha rfl]
    exact q11 a ha
  · refine (q12.of e1 (hv 8 (by simp)) (hv 10 (by simp))).keep (fun a k ha => hc 0 a k ha rfl) (fun a k ha => hc 9 (75 + a) k (show 75 + a < 107 by omega) ?_)
    show ((75 + a == 73) || (75 + a == 74) || decide (99 ≤ 75 + a)) = false
    simp
    omega
/-- a number is written -/
theorem WX.wV {S : jS} {w : Nat → Nat → Nat} {hx : Nat} {X : XS} (h : WX S w hx X) (f i v : Nat) (hi : i < dmN (xV X 1 0) f) (hf : f ∉ [1, 5, 6, 8, 9, 10, 11, 28, 29]) : WX (uI S (c1 f) (w (c1 f) (c2 f i)) (c3 f i) (nI v)) w hx (yV X f i v) := by
  have hcell := nCell_is (xV X 1 0) f i hi
  have hinj := h.2.1
  refine h.num ⟨rfl, rfl, rfl⟩ ?_ (fun a ha => xV_nf (fun z => hf (z ▸ ha))) rfl rfl ?_
  · intro c j k hj hk
    refine hinj.oth hcell.2 hj ?_
    rintro ⟨e1, e2, e3⟩
    rw [e1, e2, e3, hcell.1] at hk
    exact absurd hk (by decide)
  · intro a j hj
    rw [xV_yV]
    by_cases e : a = f ∧ j = i
    · obtain ⟨e1, e2⟩ := e
      subst e1 e2
      rw [if_pos ⟨rfl, rfl⟩, sI_same]
    · rw [if_neg e, hinj.oth hcell.2 (nCell_is _ a j hj).2]
      · exact h.2.2.2.1 a j hj
      · rintro ⟨e1, e2, e3⟩
        exact e (cell_inj hj hi e1 e2 e3)
