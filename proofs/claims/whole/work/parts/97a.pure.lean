/-! what always holds goes on to hold: what comes to a host -/
/-- a packet of m, number c, has come in -/
def tkH (X Y : XS) (m c T : Nat) : Prop := rel X Y ∧ (∀ f, f ∉ [19, 21, 22, 23, 24, 26] → xV Y f = xV X f) ∧ (∀ f i, f ≠ 26 → i ≠ m → xV Y f i = xV X f i) ∧ (xV Y 19 m = 1 ∧ xV Y 21 m ≤ xV X 10 m ∧ xV Y 22 m = 0 ∧ xV Y 23 m = 0) ∧ xL Y = xL X ∧ (∀ w i j, xB Y w i j = if w = 1 ∧ i = m ∧ j = c then true else xB X w i j) ∧ okArr Y (T + 1)
theorem tk_known {X : XS} {m c T : Nat} (h : good T X) (hm : m < xV X 1 0) (h1 : xV X 19 m = 1) : tkH X (x_take X m c) m c T := by
  have h48 := h.1.many
  have o := h.1.toM (m := m) (by omega)
  have r : rel X (x_take X m c) := ((rel_yV X (f := 22) m 0 (by decide)).tr (rel_yV _ (f := 23) m 0 (by decide))).tr (rel_v rfl)
  refine ⟨r, fun f hf => ?_, fun f i _ hi => ?_, ⟨?_, ?_, ?_, ?_⟩, rfl, fun w i j => ?_, ?_⟩
  · unfold x_take
    rw [xV_yB, xV_nf (fun e => hf (by simp [e])), xV_nf (fun e => hf (by simp [e]))]
  · unfold x_take
    rw [xV_yB, xV_yV, if_neg (fun z => hi z.2), xV_yV, if_neg (fun z => hi z.2)]
  · unfold x_take
    rw [xV_yB, xV_nf (by decide), xV_nf (by decide)]
    exact h1
  · unfold x_take
    rw [xV_yB, xV_nf (by decide), xV_nf (by decide)]
    exact o.2.1.2.1
  · unfold x_take
    rw [xV_yB, xV_nf (by decide), xV_yV, if_pos ⟨rfl, rfl⟩]
  · unfold x_take
    rw [xV_yB, xV_yV, if_pos ⟨rfl, rfl⟩]
  · unfold x_take
    rw [xB_yB]
    rfl
  · refine (h.2.mono r.1 ?_ ?_ ?_ (fun i hi => ?_)).le (by omega)
    · unfold x_take
      rw [xV_yB, xV_nf (by decide), xV_nf (by decide)]
    · unfold x_take
      rw [xV_yB, xV_nf (by decide), xV_nf (by decide)]
    · unfold x_take
      rw [xV_yB, xV_nf (by decide), xV_nf (by decide)]
    · unfold x_take at hi
      rw [xV_yB, xV_nf (by decide), xV_nf (by decide)] at hi
      exact hi
theorem tk_know {X : XS} {m c T : Nat} (h : good T X) (hm : m < xV X 1 0) (h0 : xV X 19 m = 0) : tkH X (x_take (x_know X m) m c) m c T := by
  have h48 := h.1.many
  have o := h.1.toM (m := m) (by omega)
  have o9 := (h.1.msg (m := m) (by omega)).1.2.1
  have r : rel X (x_take (x_know X m) m c) := (((((rel_yV X (f := 19) m 1 (by decide)).tr (rel_yV _ (f := 26) _ _ (by decide))).tr (rel_yV _ (f := 24) _ _ (by decide))).tr (rel_yV _ (f := 21) _ _ (by decide))).tr ((rel_yV _ (f := 22) m 0 (by decide)).tr (rel_yV _ (f := 23) m 0 (by decide)))).tr (rel_v rfl)
  have e19 : ∀ i, xV (x_take (x_know X m) m c) 19 i = if i = m then 1 else xV X 19 i := fun i => by
    unfold x_take x_know
    rw [xV_yB, xV_nf (by decide), xV_nf (by decide), xV_nf (by decide), xV_nf (by decide), xV_nf (by decide), xV_yV]
    simp
  have e24 : ∀ i, xV (x_take (x_know X m) m c) 24 i = if i = m then xV X 26 (xV X 9 m) + 1 else xV X 24 i := fun i => by
    unfold x_take x_know
    rw [xV_yB, xV_nf (by decide), xV_nf (by decide), xV_nf (by decide), xV_yV, xV_nf (f := 26) (f' := 24) (by decide), xV_nf (f := 19) (f' := 24) (by decide)]
    simp
  have e26 : ∀ i, xV (x_take (x_know X m) m c) 26 i = if i = xV X 9 m then xV X 26 (xV X 9 m) + 1 else xV X 26 i := fun i => by
    unfold x_take x_know
    rw [xV_yB, xV_nf (by decide), xV_nf (by decide), xV_nf (by decide), xV_nf (by decide), xV_yV, xV_nf (f := 19) (f' := 26) (by decide)]
    simp
  have eo : ∀ f, f ∉ [19, 21, 22, 23, 24, 26] → xV (x_take (x_know X m) m c) f = xV X f := fun f hf => by
    unfold x_take x_know
    rw [xV_yB, xV_nf (fun e => hf (by simp [e])), xV_nf (fun e => hf (by simp [e])), xV_nf (fun e => hf (by simp [e])), xV_nf (fun e => hf (by simp [e])), xV_nf (fun e => hf (by simp [e])), xV_nf (fun e => hf (by simp [e]))]
  refine ⟨r, eo, fun f i h26 hi => ?_, ⟨?_, ?_, ?_, ?_⟩, rfl, fun w i j => ?_, ?_⟩
  · unfold x_take x_know
    rw [xV_yB, xV_yV, if_neg (fun z => hi z.2), xV_yV, if_neg (fun z => hi z.2), xV_yV, if_neg (fun z => hi z.2), xV_yV, if_neg (fun z => hi z.2), xV_nf h26, xV_yV, if_neg (fun z => hi z.2)]
  · rw [e19, if_pos rfl]
  · unfold x_take x_know
    rw [xV_yB, xV_nf (by decide), xV_nf (by decide), xV_yV, if_pos ⟨rfl, rfl⟩]
    split <;> omega
  · unfold x_take x_know
    rw [xV_yB, xV_nf (by decide), xV_yV, if_pos ⟨rfl, rfl⟩]
  · unfold x_take x_know
    rw [xV_yB, xV_yV, if_pos ⟨rfl, rfl⟩]
  · unfold x_take x_know
    rw [xB_yB]
    rfl
  · obtain ⟨a1, a2, a3⟩ := h.2
    have e1 : xV (x_take (x_know X m) m c) 1 = xV X 1 := r.1.1
    have e9 : xV (x_take (x_know X m) m c) 9 = xV X 9 := r.1.2.2.1
    have hb : ∀ i, i < xV X 1 0 → xV X 9 i < 8 := fun i hi => (h.1.msg (m := i) (by omega)).1.2.1
    refine ⟨fun a ha => ?_, fun i hi => ?_, fun i i' hi hi' q1 q2 q3 q4 => ?_⟩
    · have z := a1 a ha
      rw [e26, eo 30 (by decide)]
      split
      · have := a1 _ o9
        omega
      · omega
    · rw [e1] at hi
      rw [e24, e9, e26]
      by_cases e : i = m
      · rw [if_pos e, e, if_pos rfl]
        exact Nat.le_refl _
      · rw [if_neg e]
        have z := a2 i hi
        split
        case isTrue u => rw [u] at z; omega
        case isFalse => exact z
    · rw [e1] at hi hi'
      rw [e9] at q1
      rw [e19] at q2 q3
      rw [e24, e24] at q4
      by_cases e : i = m
      · by_cases e' : i' = m
        · rw [e, e']
        · rw [if_pos e, if_neg e'] at q4
          have z := a2 i' hi'
          rw [← q1, e] at z
          omega
      · by_cases e' : i' = m
        · rw [if_neg e, if_pos e'] at q4
          have z := a2 i hi
          rw [q1, e'] at z
          omega
        · rw [if_neg e, if_neg e'] at q4
          rw [if_neg e] at q2
          rw [if_neg e'] at q3
          exact a3 i i' hi hi' q1 q2 q3 q4
theorem tkH.ok {X Y : XS} {m c T : Nat} (t : tkH X Y m c T) (h : good T X) (hm : m < xV X 1 0) (hc : c < xV X 10 m) (h0 : 0 < x_missing Y m) : good (T + 1) Y ∧ rel X Y := by
  obtain ⟨r, eo, en, ⟨m1, m2, m3, m4⟩, eL, eB, ar⟩ := t
  have h48 := h.1.many
  have o := h.1.toM (m := m) (by omega)
  refine ⟨⟨h.1.upd hm r.1 (fun f hf => eo f ?_) (fun f i h12 h26 hi => en f i (by omega) hi) (fun w i j hi => ?_) eL (fun i => Or.inl (by rw [eo 31 (by decide)])) ?_, ar⟩, r⟩
  · simp only [List.mem_cons, List.not_mem_nil, or_false] at hf ⊢
    omega
  · rw [eB, if_neg (fun z => hi z.2.1)]
  · refine ⟨?_, ?_, fun i hi => ?_, fun i hi => ?_, fun _ => h0, fun z => by omega⟩
    · rw [eo 12 (by decide), eo 13 (by decide), eo 14 (by decide), eo 15 (by decide), eo 16 (by decide), eo 17 (by decide), eo 10 (by decide)]
      exact o.1
    · rw [eo 10 (by decide)]
      refine ⟨by omega, m2, by omega, by omega, fun _ => by omega⟩
    · rw [eo 13 (by decide)]
      rw [eB, if_neg (by omega)] at hi
      exact o.2.2.1 i hi
    · rw [eo 10 (by decide)]
      rw [eB] at hi
      by_cases e : i = c
      · rw [e]
        exact hc
      · rw [if_neg (fun z => e z.2.2)] at hi
        exact o.2.2.2.1 i hi
theorem tkH.fin {X Y : XS} {m c T : Nat} (t : tkH X Y m c T) (h : good T X) (hm : m < xV X 1 0) (hc : c < xV X 10 m) : good (T + 1) (x_finish Y m) ∧ rel X (x_finish Y m) := by
  obtain ⟨r, eo, en, ⟨m1, m2, m3, m4⟩, eL, eB, ar⟩ := t
  have h48 := h.1.many
  have o := h.1.toM (m := m) (by omega)
  have r2 : rel Y (x_finish Y m) := ((((rel_yV Y (f := 19) m 2 (by decide)).tr (rel_yV _ (f := 20) _ _ (by decide))).tr (rel_yV _ (f := 25) _ _ (by decide))).tr (rel_yV _ (f := 31) _ _ (by decide))).tr (rel_yV _ (f := 30) _ _ (by decide))
  have fo : ∀ f, f ∉ [19, 20, 25, 30, 31] → xV (x_finish Y m) f = xV Y f := fun f hf => by
    unfold x_finish
    rw [xV_nf (fun e => hf (by simp [e])), xV_nf (fun e => hf (by simp [e])), xV_nf (fun e => hf (by simp [e])), xV_nf (fun e => hf (by simp [e])), xV_nf (fun e => hf (by simp [e]))]
  have f19 : ∀ i, xV (x_finish Y m) 19 i = if i = m then 2 else xV Y 19 i := fun i => by
    unfold x_finish
    rw [xV_nf (by decide), xV_nf (by decide), xV_nf (by decide), xV_nf (by decide), xV_yV]
    simp
  have f30 : ∀ i, xV (x_finish Y m) 30 i = if i = xV Y 9 m then xV Y 30 (xV Y 9 m) + 1 else xV Y 30 i := fun i => by
    unfold x_finish
    rw [xV_yV, xV_nf (f := 31) (f' := 30) (by decide), xV_nf (f := 25) (f' := 30) (by decide), xV_nf (f := 20) (f' := 30) (by decide), xV_nf (f := 19) (f' := 30) (by decide)]
    simp
  have f31 : ∀ i, xV (x_finish Y m) 31 i = xV Y 31 i ∨ xV (x_finish Y m) 31 i = m := fun i => by
    unfold x_finish
    rw [xV_nf (by decide), xV_yV, xV_nf (f := 25) (f' := 31) (by decide), xV_nf (f := 20) (f' := 31) (by decide), xV_nf (f := 19) (f' := 31) (by decide)]
    split
    · exact Or.inr rfl
    · exact Or.inl rfl
  have fn : ∀ f i, 12 ≤ f → f < 26 → i ≠ m → xV (x_finish Y m) f i = xV Y f i := fun f i h12 h26 hi => by
    unfold x_finish
    rw [xV_nf (by omega), xV_nf (by omega), xV_yV, if_neg (fun z => hi z.2), xV_yV, if_neg (fun z => hi z.2), xV_yV, if_neg (fun z => hi z.2)]
  have fB : xB (x_finish Y m) = xB Y := rfl
  have fL : xL (x_finish Y m) = xL Y := rfl
  have R := r.tr r2
  refine ⟨⟨h.1.upd hm R.1 (fun f hf => (fo f ?_).trans (eo f ?_)) (fun f i h12 h26 hi => (fn f i h12 h26 hi).trans (en f i (by omega) hi)) (fun w i j hi => ?_) (fL.trans eL) (fun i => ?_) ?_, ?_⟩, R⟩
  · simp only [List.mem_cons, List.not_mem_nil, or_false] at hf ⊢
    omega
  · simp only [List.mem_cons, List.not_mem_nil, or_false] at hf ⊢
    omega
  · rw [fB, eB, if_neg (fun z => hi z.2.1)]
  · rcases f31 i with z | z
    · exact Or.inl (z.trans (by rw [eo 31 (by decide)]))
    · exact Or.inr (by omega)
  · have z19 : xV (x_finish Y m) 19 m = 2 := by rw [f19, if_pos rfl]
    refine ⟨?_, ?_, fun i hi => ?_, fun i hi => ?_, fun z => by omega, fun z => by omega⟩
    · rw [fo 12 (by decide), fo 13 (by decide), fo 14 (by decide), fo 15 (by decide), fo 16 (by decide), fo 17 (by decide), fo 10 (by decide), eo 12 (by decide), eo 13 (by decide), eo 14 (by decide), eo 15 (by decide), eo 16 (by decide), eo 17 (by decide), eo 10 (by decide)]
      exact o.1
    · rw [fo 10 (by decide), fo 21 (by decide), fo 22 (by decide), fo 23 (by decide), eo 10 (by decide)]
      refine ⟨by omega, m2, by omega, by omega, fun _ => by omega⟩
    · rw [fo 13 (by decide), eo 13 (by decide)]
      rw [fB, eB, if_neg (by omega)] at hi
      exact o.2.2.1 i hi
    · rw [fo 10 (by decide), eo 10 (by decide)]
      rw [fB, eB] at hi
      by_cases e : i = c
      · rw [e]
        exact hc
      · rw [if_neg (fun z => e z.2.2)] at hi
        exact o.2.2.2.1 i hi
  · refine ⟨fun a ha => ?_, fun i hi => ?_, fun i i' hi hi' q1 q2 q3 q4 => ?_⟩
    · rw [fo 26 (by decide), f30, eo 30 (by decide)]
      refine ⟨(ar.1 a ha).1, ?_⟩
      have z := h.2.1 a ha
      split
      case isTrue u =>
        rw [← u]
        omega
      case isFalse => omega
    · rw [r2.1.1] at hi
      rw [fo 24 (by decide), fo 26 (by decide), fo 9 (by decide)]
      exact ar.2.1 i hi
    · rw [r2.1.1] at hi hi'
      rw [fo 9 (by decide)] at q1
      rw [fo 24 (by decide)] at q4
      refine ar.2.2 i i' hi hi' q1 ?_ ?_ q4
      · rw [f19] at q2
        by_cases e : i = m
        · rw [e, m1]
          decide
        · rw [if_neg e] at q2
          exact q2
      · rw [f19] at q3
        by_cases e : i' = m
        · rw [e, m1]
          decide
        · rw [if_neg e] at q3
          exact q3
theorem okE_mk {X : XS} {k m c : Nat} (hk : k < 4) (hm : m < xV X 1 0) (hc : c < 4096) (h0 : k = 0 → c < xV X 10 m) (h1 : k = 1 → c / 4 ≤ xV X 10 m) (h2 : k = 2 → c / 64 ≤ xV X 10 m) : okE X (k, m, c) := ⟨hk, hm, hc, h0, h1, h2⟩
theorem good_data {T : Nat} {X : XS} {m c : Nat} (h : good T X) (hm : m < xV X 1 0) (hc : c < xV X 10 m) : good (T + 1) (x_data X m c) ∧ rel X (x_data X m c) := by
  have h48 := h.1.many
  have o9 := (h.1.msg (m := m) (by omega)).1.2.1
  have o19 := (h.1.toM (m := m) (by omega)).2.1.1
  have he : ∀ Z : XS, rel X Z → okE Z (3, m, 0) := fun Z r => by
    refine okE_mk (by decide) ?_ (by decide) (fun z => absurd z (by decide)) (fun z => absurd z (by decide)) (fun z => absurd z (by decide))
    rw [r.1.1]
    exact hm
  unfold x_data
  by_cases q2 : xV X 19 m = 2
  · rw [if_pos q2]
    obtain ⟨g, r⟩ := good_due (e := (3, m, 0)) h o9 (he X (rel.refl X))
    exact ⟨g.le (by omega), r⟩
  · rw [if_neg q2]
    have t : tkH X (x_take (if xV X 19 m = 0 then x_know X m else X) m c) m c T := by
      split
      case isTrue q => exact tk_know h hm q
      case isFalse q => exact tk_known h hm (by omega)
    generalize x_take (if xV X 19 m = 0 then x_know X m else X) m c = Y at *
    split
    case isTrue q => exact t.ok h hm hc q
    case isFalse q =>
      obtain ⟨g, r⟩ := t.fin h hm hc
      obtain ⟨g2, r2⟩ := good_due (e := (3, m, 0)) g o9 (he _ r)
      exact ⟨g2, r.tr r2⟩
