/-! THE CLASS's memory: other writes -/
theorem nCell_T {c i k : Nat} (h : nCell c i k = true) : ¬ (c = 5 ∨ c = 10 ∨ (c = 9 ∧ (i < 73 ∨ (91 ≤ i ∧ i < 99)))) := by
  rintro (e | e | ⟨e, e2⟩)
  · subst e; exact Bool.noConfusion h
  · subst e; exact Bool.noConfusion h
  · subst e
    have h : ((i == 73) || (i == 74) || decide (99 ≤ i)) = true := h
    simp at h
    omega
theorem WX.upd {S S' : jS} {w : Nat → Nat → Nat} {hx hx' : Nat} {X X' : XS} (h : WX S w hx X) (T : Nat → Nat → Bool) (hS : S'.1 = S.1 ∧ S'.2.1 = S.2.1 ∧ S'.2.2.2 = S.2.2.2) (hT : ∀ c i, T c i = true → c = 5 ∨ c = 10 ∨ (c = 9 ∧ (i < 73 ∨ (91 ≤ i ∧ i < 99)))) (hc : ∀ c i k, i < cN (xV X 1 0) c → T c i = false → sI S' c (w c i) k = sI S c (w c i) k) (hv : ∀ f, f ∉ [5, 6, 28, 29] → xV X' f = xV X f) (hB : xB X' = xB X) (hl : xLnk S' w (xV X 8) (xV X 9) (xL X') (xV X' 5)) (hr : xRows S' w (xV X 8) (xV X 9) (xL X')) (hs : xSpi S' w (xV X' 6)) (hch : xCho S' w hx' (xV X' 28) (xV X' 29)) : WX S' w hx' X' := by
  obtain ⟨q1, q2, q3, q4, q5, q6, q7, q8, q9, q10, q11, q12⟩ := h
  have e1 : xV X' 1 0 = xV X 1 0 := by rw [hv 1 (by simp)]
  have eP : sP S' = sP S := by unfold sP; rw [hS.2.2]
  have eJ : sJ S' = sJ S := by unfold sJ; rw [hS.2.2]
  have eN : sN S' = sN S := by unfold sN; rw [hS.2.2]
  have eA : ∀ c a, sAt S' c a ↔ sAt S c a := fun c a => by unfold sAt; rw [hS.1, hS.2.1]
  have hF : ∀ c i, ¬ (c = 5 ∨ c = 10 ∨ (c = 9 ∧ (i < 73 ∨ (91 ≤ i ∧ i < 99)))) → T c i = false := fun c i z => by
    cases q : T c i with
    | false => rfl
    | true => exact absurd (hT c i q) z
  unfold WX
  rw [e1, hv 8 (by simp), hv 9 (by simp), hv 10 (by simp), hv 11 (by simp), hB]
  refine ⟨?_, q2, ?_, ?_, ?_, ?_, hl, hr, hs, hch, ?_, ?_⟩
  · intro c i hi
    rw [eA, eN]
    exact q1 c i hi
  · intro c i k c' i' hi hr
    rw [eP]
    exact q3 c i k c' i' hi hr
  · intro f i hi
    have z := nCell_is _ f i hi
    rw [hc _ _ _ z.2 (hF _ _ (nCell_T z.1)), q4 f i hi, hv f ?_]
    intro hm
    simp at hm
    rcases hm with e | e | e | e <;> subst e <;> exact absurd hi (Nat.not_lt_zero i)
  · intro m hm
    rw [hc 3 m 0 hm (hF _ _ (by omega)), hc 6 m 0 hm (hF _ _ (by omega)), hc 4 m 0 hm (hF _ _ (by omega)), hc 4 m 1 hm (hF _ _ (by omega))]
    exact q5 m hm
  · intro m hm
    rw [eJ]
    exact q6 m hm
  · intro a ha
    rw [hc 2 a 6 ha (hF _ _ (by omega)), hc 2 a 7 ha (hF _ _ (by omega))]
    exact q11 a ha
  · exact (q12.of e1 (hv 8 (by simp)) (hv 10 (by simp))).keep (fun a k ha => hc 0 a k ha (hF _ _ (by omega))) (fun a k ha => hc 9 (75 + a) k (show 75 + a < 107 by omega) (hF _ _ (by omega)))
/-- what goes onto a link or off it -/
theorem WX.wLnk {S : jS} {w : Nat → Nat → Nat} {hx : Nat} {X X' : XS} (h : WX S w hx X) {k : Nat} (hv : ∀ f, f ≠ 5 → xV X' f = xV X f) (h5 : ∀ j, j ≠ k → xV X' 5 j = xV X 5 j) (hL : ∀ q, q ≠ 200 + k → xL X' q = xL X q) (hk : k < 24) (hB : xB X' = xB X) {v : Int32} (e : v = pkH (xV X 8) (xV X 9) (xL X' (200 + k)) (xV X' 5 k)) : WX (uI S 9 (w 9 72) k v) w hx X' := by
  have hin := h.2.1
  have ho : ∀ {c i j : Nat}, i < cN (xV X 1 0) c → ¬ (c = 9 ∧ i = 72) → sI (uI S 9 (w 9 72) k v) c (w c i) j = sI S c (w c i) j := fun hi hn => hin.oth (show 72 < 107 by decide) hi (fun z => hn ⟨z.1, z.2.1⟩)
  refine h.upd (fun c i => decide (c = 9 ∧ i = 72)) ⟨rfl, rfl, rfl⟩ ?_ ?_ ?_ hB ?_ ?_ ?_ ?_
  · intro c i z
    have z := of_decide_eq_true z
    omega
  · intro c i j hi z
    exact ho hi (of_decide_eq_false z)
  · intro f hf
    exact hv f (fun z => hf (by simp [z]))
  · intro j hj
    by_cases q : j = k
    · subst q
      rw [sI_same]
      exact e
    · rw [sI_nk q rfl, h5 j q, hL (200 + j) (by omega)]
      exact h.2.2.2.2.2.2.1 j hj
  · intro r hr
    rw [hL (32 + r) (by omega)]
    exact (h.2.2.2.2.2.2.2.1 r hr).keep (fun j => ho hr (by omega)) (fun j => ho (show r < 107 by omega) (by omega))
  · intro s hs
    rw [ho (show 0 < 1 by decide) (by omega), hv 6 (by decide)]
    exact h.2.2.2.2.2.2.2.2.1 s hs
  · intro a ha hne j hj
    rw [ho (show 91 + a < 107 by omega) (by omega), hv 28 (by decide), hv 29 (by decide)]
    exact h.2.2.2.2.2.2.2.2.2.1 a ha hne j hj
/-- a spine is put on or off -/
theorem WX.wSpi {S : jS} {w : Nat → Nat → Nat} {hx : Nat} {X : XS} (h : WX S w hx X) {s v : Nat} (hs : s < 2) : WX (uI S 10 (w 10 0) s (nI (1 - v))) w hx (yV X 6 s v) := by
  have hin := h.2.1
  have ho : ∀ {c i j : Nat}, i < cN (xV X 1 0) c → ¬ (c = 10) → sI (uI S 10 (w 10 0) s (nI (1 - v))) c (w c i) j = sI S c (w c i) j := fun hi hn => hin.oth (show 0 < 1 by decide) hi (fun z => hn z.1)
  refine h.upd (fun c i => decide (c = 10)) ⟨rfl, rfl, rfl⟩ ?_ ?_ ?_ rfl ?_ ?_ ?_ ?_
  · intro c i z
    have z := of_decide_eq_true z
    omega
  · intro c i j hi z
    exact ho hi (of_decide_eq_false z)
  · intro f hf
    exact xV_nf (fun z => hf (by simp [z]))
  · intro j hj
    rw [ho (show 72 < 107 by decide) (by omega), xV_nf (by decide)]
    exact h.2.2.2.2.2.2.1 j hj
  · intro r hr
    exact (h.2.2.2.2.2.2.2.1 r hr).keep (fun j => ho hr (by omega)) (fun j => ho (show r < 107 by omega) (by omega))
  · intro j hj
    rw [xV_yV]
    by_cases q : j = s
    · subst q
      rw [sI_same, if_pos ⟨rfl, rfl⟩]
    · rw [sI_nk q rfl, if_neg (fun z => q z.2)]
      exact h.2.2.2.2.2.2.2.2.1 j hj
  · intro a ha hne j hj
    rw [ho (show 91 + a < 107 by omega) (by omega), xV_nf (by decide), xV_nf (by decide)]
    exact h.2.2.2.2.2.2.2.2.2.1 a ha hne j hj
/-- the choices of one host, while it chooses -/
theorem WX.wCho {S : jS} {w : Nat → Nat → Nat} {hx : Nat} {X X' : XS} (h : WX S w hx X) {k : Nat} {v : Int32} (hh : hx < 8) (hv : ∀ f, f ≠ 28 → f ≠ 29 → xV X' f = xV X f) (h28 : ∀ a, a ≠ hx → xV X' 28 a = xV X 28 a) (h29 : ∀ a j, a ≠ hx → j < 3 → xV X' 29 (3 * a + j) = xV X 29 (3 * a + j)) (hB : xB X' = xB X) (hL : xL X' = xL X) : WX (uI S 9 (w 9 (91 + hx)) k v) w hx X' := by
  have hin := h.2.1
  have ho : ∀ {c i j : Nat}, i < cN (xV X 1 0) c → ¬ (c = 9 ∧ i = 91 + hx) → sI (uI S 9 (w 9 (91 + hx)) k v) c (w c i) j = sI S c (w c i) j := fun hi hn => hin.oth (show 91 + hx < 107 by omega) hi (fun z => hn ⟨z.1, z.2.1⟩)
  refine h.upd (fun c i => decide (c = 9 ∧ i = 91 + hx)) ⟨rfl, rfl, rfl⟩ ?_ ?_ ?_ hB ?_ ?_ ?_ ?_
  · intro c i z
    have z := of_decide_eq_true z
    omega
  · intro c i j hi z
    exact ho hi (of_decide_eq_false z)
  · intro f hf
    exact hv f (fun z => hf (by simp [z])) (fun z => hf (by simp [z]))
  · intro j hj
    rw [ho (show 72 < 107 by decide) (by omega), hv 5 (by decide) (by decide), hL]
    exact h.2.2.2.2.2.2.1 j hj
  · intro r hr
    rw [hL]
    exact (h.2.2.2.2.2.2.2.1 r hr).keep (fun j => ho hr (by omega)) (fun j => ho (show r < 107 by omega) (by omega))
  · intro s hs
    rw [ho (show 0 < 1 by decide) (by omega), hv 6 (by decide) (by decide)]
    exact h.2.2.2.2.2.2.2.2.1 s hs
  · intro a ha hne j hj
    rw [ho (show 91 + a < 107 by omega) (by omega), h28 a hne, h29 a j hne hj]
    exact h.2.2.2.2.2.2.2.2.2.1 a ha hne j hj
/-- the row r becomes L -/
theorem WX.wRow {S S' : jS} {w : Nat → Nat → Nat} {hx r : Nat} {X : XS} (h : WX S w hx X) (hr : r < 72) (L : List (Nat × Nat × Nat)) (hS : S'.1 = S.1 ∧ S'.2.1 = S.2.1 ∧ S'.2.2.2 = S.2.2.2) (ho : ∀ {c i j : Nat}, i < cN (xV X 1 0) c → ¬ (i = r ∧ (c = 5 ∨ c = 9)) → sI S' c (w c i) j = sI S c (w c i) j) (hn : xRow1 S' w (xV X 8) (xV X 9) r L) : WX S' w hx (yL X (32 + r) L) := by
  refine h.upd (X' := yL X (32 + r) L) (fun c i => decide (i = r ∧ (c = 5 ∨ c = 9))) hS ?_ ?_ (fun _ _ => rfl) rfl ?_ ?_ ?_ ?_
  · intro c i z
    have z := of_decide_eq_true z
    omega
  · intro c i j hi z
    exact ho hi (of_decide_eq_false z)
  · intro j hj
    rw [ho (show 72 < 107 by decide) (by omega), xL_yL, if_neg (by omega)]
    exact h.2.2.2.2.2.2.1 j hj
  · intro a ha
    rw [xL_yL]
    by_cases q : a = r
    · subst q
      rw [if_pos rfl]
      exact hn
    · rw [if_neg (by omega)]
      exact (h.2.2.2.2.2.2.2.1 a ha).keep (fun j => ho ha (by omega)) (fun j => ho (show a < 107 by omega) (by omega))
  · intro s hs
    rw [ho (show 0 < 1 by decide) (by omega)]
    exact h.2.2.2.2.2.2.2.2.1 s hs
  · intro a ha hne j hj
    rw [ho (show 91 + a < 107 by omega) (by omega)]
    exact h.2.2.2.2.2.2.2.2.2.1 a ha hne j hj
/-- a set of a message is written -/
theorem WX.wJ {S : jS} {w : Nat → Nat → Nat} {hx m : Nat} {X X' : XS} {z : Int64} (h : WX S w hx X) (c k u : Nat) (hcu : (c, k, u) = (6, 5, 0) ∨ (c, k, u) = (4, 4, 1)) (hv : xV X' = xV X) (hL : xL X' = xL X) (hB : ∀ a b, ¬ (a = u ∧ b = m) → xB X' a b = xB X a b) (hm : m < xV X 1 0) (hz : isB z (xB X' u m)) : WX (uJ S c (w c m) k z) w hx X' := by
  obtain ⟨q1, q2, q3, q4, q5, q6, q7, q8, q9, q10, q11, q12⟩ := h
  unfold WX
  rw [hv, hL]
  refine ⟨q1, q2, q3, ?_, q5, ?_, q7, q8, q9, q10, q11, q12.of (by rw [hv]) (by rw [hv]) (by rw [hv])⟩
  · intro f i hi
    rw [hv]
    exact q4 f i hi
  · intro b hb
    have a6 := q2 6 b m hb hm
    have a4 := q2 4 b m hb hm
    rw [sJ_uJ, sJ_uJ]
    rcases hcu with e | e
    · cases e
      rw [if_neg (c := 4 = 6 ∧ _) (by omega), hB 1 b (by omega)]
      by_cases q : b = m
      · subst q
        rw [if_pos ⟨rfl, rfl, rfl⟩]
        exact ⟨hz, (q6 b hb).2⟩
      · rw [if_neg (fun z => q (a6 z.2.1)), hB 0 b (by omega)]
        exact q6 b hb
    · cases e
      rw [if_neg (c := 6 = 4 ∧ _) (by omega), hB 0 b (by omega)]
      by_cases q : b = m
      · subst q
        rw [if_pos ⟨rfl, rfl, rfl⟩]
        exact ⟨(q6 b hb).1, hz⟩
      · rw [if_neg (fun z => q (a4 z.2.1)), hB 1 b (by omega)]
        exact q6 b hb
