/-! what always holds goes on to hold: answers, silence, forgetting -/
/-- only numbers and sets of m change, none of its arrival -/
theorem good.msg {T : Nat} {X X' : XS} {m : Nat} (h : good T X) (hm : m < xV X 1 0) (hv : ∀ f, f ∉ [12, 13, 14, 15, 16, 17, 18, 19, 20, 21, 22, 23, 25] → xV X' f = xV X f) (hn : ∀ f i, i ≠ m → xV X' f i = xV X f i) (hB : ∀ w i j, i ≠ m → xB X' w i j = xB X w i j) (hL : xL X' = xL X) (h19 : xV X' 19 m ≠ 0 → xV X 19 m ≠ 0) (ok : okM X' m) : good T X' ∧ rel X X' := by
  have r : rel X X' := rel_of (fun f hf => hv f (by simp only [List.mem_cons, List.not_mem_nil, or_false] at hf ⊢; omega))
  refine ⟨⟨h.1.upd hm r.1 (fun f hf => hv f (by simp only [List.mem_cons, List.not_mem_nil, or_false] at hf ⊢; omega)) (fun f i _ _ hi => hn f i hi) hB hL (fun i => Or.inl (by rw [hv 31 (by decide)])) ok, h.2.mono r.1 (hv 26 (by decide)) (hv 30 (by decide)) (hv 24 (by decide)) (fun i hi => ?_)⟩, r⟩
  by_cases e : i = m
  · rw [e] at hi ⊢
    exact h19 hi
  · rw [hn 19 i e] at hi
    exact hi
theorem good_want {T : Nat} {X : XS} {m : Nat} (i : Nat) (h : good T X) (hm : m < xV X 1 0) : good T (x_want X m i) ∧ rel X (x_want X m i) := by
  have h48 := h.1.many
  have o := h.1.toM (m := m) (by omega)
  unfold x_want
  split
  case isTrue q =>
    refine h.msg hm (fun _ _ => rfl) (fun _ _ _ => rfl) (fun w a j ha => ?_) rfl id ⟨o.1, o.2.1, fun j hj => ?_, o.2.2.2.1, o.2.2.2.2.1, o.2.2.2.2.2⟩
    · rw [xB_yB, if_neg (fun z => ha z.2.1)]
    · rw [xB_yB] at hj
      by_cases e : j = i
      · rw [e]
        exact q
      · rw [if_neg (fun z => e z.2.2)] at hj
        exact o.2.2.1 j hj
  case isFalse => exact ⟨h, rel.refl X⟩
theorem good_answer {T : Nat} {X : XS} {k m c : Nat} (h : good T X) (hm : m < xV X 1 0) (h1 : k = 1 → c / 4 ≤ xV X 10 m) (h2 : k = 2 → c / 64 ≤ xV X 10 m) : good T (x_answer X k m c) ∧ rel X (x_answer X k m c) := by
  have h48 := h.1.many
  have o := h.1.toM (m := m) (by omega)
  unfold x_answer
  by_cases q : xV X 12 m ≠ 0
  · rw [if_pos q]
    exact ⟨h, rel.refl X⟩
  rw [if_neg q]
  by_cases k1 : k = 1
  · rw [if_pos k1]
    have h1 := h1 k1
    have o14 := o.1.2.2.1
    refine h.msg hm (fun f hf => ?_) (fun f i hi => ?_) (fun _ _ _ _ => rfl) rfl (fun z => ?_) ?_
    · rw [xV_nf (fun e => hf (by simp [e])), xV_nf (fun e => hf (by simp [e])), xV_nf (fun e => hf (by simp [e])), xV_nf (fun e => hf (by simp [e]))]
    · rw [xV_yV, if_neg (fun z => hi z.2), xV_yV, if_neg (fun z => hi z.2), xV_yV, if_neg (fun z => hi z.2), xV_yV, if_neg (fun z => hi z.2)]
    · rw [xV_nf (by decide), xV_nf (by decide), xV_nf (by decide), xV_nf (by decide)] at z
      exact z
    · unfold okM x_missing
      simp only [xV_yV, xB_yV, reduceIte, Nat.reduceEqDiff, false_and, true_and, if_false, and_self]
      refine ⟨⟨o.1.1, o.1.2.1, by split <;> omega, by omega, by omega, by omega, fun _ => by omega⟩, o.2⟩
  rw [if_neg k1]
  by_cases k2 : k = 2
  · rw [if_pos k2]
    have h2 := h2 k2
    have o14 := o.1.2.2.1
    have g : good T (yV (yV (yV X 16 m 0) 17 m 0) 14 m (if c / 64 > xV X 14 m then c / 64 else xV X 14 m)) ∧ rel X (yV (yV (yV X 16 m 0) 17 m 0) 14 m (if c / 64 > xV X 14 m then c / 64 else xV X 14 m)) := by
      refine h.msg hm (fun f hf => ?_) (fun f i hi => ?_) (fun _ _ _ _ => rfl) rfl (fun z => ?_) ?_
      · rw [xV_nf (fun e => hf (by simp [e])), xV_nf (fun e => hf (by simp [e])), xV_nf (fun e => hf (by simp [e]))]
      · rw [xV_yV, if_neg (fun z => hi z.2), xV_yV, if_neg (fun z => hi z.2), xV_yV, if_neg (fun z => hi z.2)]
      · rw [xV_nf (by decide), xV_nf (by decide), xV_nf (by decide)] at z
        exact z
      · unfold okM x_missing
        simp only [xV_yV, xB_yV, reduceIte, Nat.reduceEqDiff, false_and, true_and, if_false, and_self]
        refine ⟨⟨o.1.1, o.1.2.1, by split <;> omega, o.1.2.2.2.1, by omega, by omega, fun _ => by omega⟩, o.2⟩
    obtain ⟨g1, r1⟩ := g
    obtain ⟨g2, r2⟩ := good_want (m := m) (c % 64) g1 (by rw [r1.1.1]; exact hm)
    exact ⟨g2, r1.tr r2⟩
  rw [if_neg k2]
  refine h.msg hm (fun f hf => ?_) (fun f i hi => ?_) (fun _ _ _ _ => rfl) rfl (fun z => ?_) ?_
  · rw [xV_nf (fun e => hf (by simp [e])), xV_nf (fun e => hf (by simp [e])), xV_nf (fun e => hf (by simp [e])), xV_nf (fun e => hf (by simp [e]))]
  · rw [xV_yV, if_neg (fun z => hi z.2), xV_yV, if_neg (fun z => hi z.2), xV_yV, if_neg (fun z => hi z.2), xV_yV, if_neg (fun z => hi z.2)]
  · rw [xV_nf (by decide), xV_nf (by decide), xV_nf (by decide), xV_nf (by decide)] at z
    exact z
  · unfold okM x_missing
    simp only [xV_yV, xB_yV, reduceIte, Nat.reduceEqDiff, false_and, true_and, if_false, and_self]
    refine ⟨⟨by omega, o.1.2.1, o.1.2.2.1, o.1.2.2.2.1, by omega, by omega, fun z => by omega⟩, o.2⟩
theorem good_watch1 {T : Nat} {X : XS} {m : Nat} (h : good T X) (hm : m < xV X 1 0) (h0 : xV X 12 m = 0) : good T (x_watch1 X m) ∧ rel X (x_watch1 X m) := by
  have h48 := h.1.many
  have o := h.1.toM (m := m) (by omega)
  have o17 := o.1.2.2.2.2.2.2 h0
  unfold x_watch1
  split
  case isTrue q =>
    refine h.msg hm (fun f hf => ?_) (fun f i hi => ?_) (fun _ _ _ _ => rfl) rfl (fun z => ?_) ?_
    · rw [xV_nf (fun e => hf (by simp [e]))]
    · rw [xV_yV, if_neg (fun z => hi z.2)]
    · rw [xV_nf (by decide)] at z
      exact z
    · unfold okM x_missing
      simp only [xV_yV, xB_yV, reduceIte, Nat.reduceEqDiff, false_and, true_and, if_false, and_self]
      exact ⟨⟨o.1.1, o.1.2.1, o.1.2.2.1, o.1.2.2.2.1, q, o.1.2.2.2.2.2⟩, o.2⟩
  case isFalse q =>
    split
    case isTrue q2 =>
      refine h.msg hm (fun f hf => ?_) (fun f i hi => ?_) (fun _ _ _ _ => rfl) rfl (fun z => ?_) ?_
      · rw [xV_nf (fun e => hf (by simp [e])), xV_nf (fun e => hf (by simp [e])), xV_nf (fun e => hf (by simp [e])), xV_nf (fun e => hf (by simp [e]))]
      · rw [xV_yV, if_neg (fun z => hi z.2), xV_yV, if_neg (fun z => hi z.2), xV_yV, if_neg (fun z => hi z.2), xV_yV, if_neg (fun z => hi z.2)]
      · rw [xV_nf (by decide), xV_nf (by decide), xV_nf (by decide), xV_nf (by decide)] at z
        exact z
      · unfold okM x_missing
        simp only [xV_yV, xB_yV, reduceIte, Nat.reduceEqDiff, false_and, true_and, if_false, and_self]
        exact ⟨⟨by omega, o.1.2.1, o.1.2.2.1, o.1.2.2.2.1, by omega, by omega, fun z => (by simp at z)⟩, o.2⟩
    case isFalse q2 =>
      have g : good T (yV (yV X 16 m 0) 17 m (xV X 17 m + 1)) ∧ rel X (yV (yV X 16 m 0) 17 m (xV X 17 m + 1)) := by
        refine h.msg hm (fun f hf => ?_) (fun f i hi => ?_) (fun _ _ _ _ => rfl) rfl (fun z => ?_) ?_
        · rw [xV_nf (fun e => hf (by simp [e])), xV_nf (fun e => hf (by simp [e]))]
        · rw [xV_yV, if_neg (fun z => hi z.2), xV_yV, if_neg (fun z => hi z.2)]
        · rw [xV_nf (by decide), xV_nf (by decide)] at z
          exact z
        · unfold okM x_missing
          simp only [xV_yV, xB_yV, reduceIte, Nat.reduceEqDiff, false_and, true_and, if_false, and_self]
          exact ⟨⟨o.1.1, o.1.2.1, o.1.2.2.1, o.1.2.2.2.1, by omega, by omega, fun z => by omega⟩, o.2⟩
      obtain ⟨g1, r1⟩ := g
      obtain ⟨g2, r2⟩ := good_want (m := m) 0 g1 (by rw [r1.1.1]; exact hm)
      exact ⟨g2, r1.tr r2⟩
theorem good_forget {T : Nat} {X : XS} {m : Nat} (h : good T X) (hm : m < xV X 1 0) : good T (x_forget X m) ∧ rel X (x_forget X m) := by
  have h48 := h.1.many
  have o := h.1.toM (m := m) (by omega)
  have z19 : xV (x_forget X m) 19 m = 0 := by
    unfold x_forget
    rw [xV_yC, xV_yV, if_pos ⟨rfl, rfl⟩]
  have eo : ∀ f, f ≠ 19 → xV (x_forget X m) f = xV X f := fun f hf => by
    unfold x_forget
    rw [xV_yC, xV_nf hf]
  have eB : ∀ w i j, xB (x_forget X m) w i j = if w = 1 ∧ i = m then false else xB X w i j := fun w i j => by
    unfold x_forget
    rw [xB_yC]
    rfl
  refine h.msg hm (fun f hf => eo f (fun e => hf (by simp [e]))) (fun f i hi => ?_) (fun w i j hi => ?_) rfl (fun z => absurd z19 z) ?_
  · unfold x_forget
    rw [xV_yC, xV_yV, if_neg (fun z => hi z.2)]
  · rw [eB, if_neg (fun z => hi z.2)]
  · refine ⟨?_, ?_, fun i hi => ?_, fun i hi => ?_, fun z => by omega, fun _ i => ?_⟩
    · rw [eo 12 (by decide), eo 13 (by decide), eo 14 (by decide), eo 15 (by decide), eo 16 (by decide), eo 17 (by decide), eo 10 (by decide)]
      exact o.1
    · rw [eo 10 (by decide), eo 21 (by decide), eo 22 (by decide), eo 23 (by decide)]
      exact ⟨by omega, o.2.1.2.1, o.2.1.2.2.1, o.2.1.2.2.2.1, fun z => by omega⟩
    · rw [eo 13 (by decide)]
      rw [eB, if_neg (by omega)] at hi
      exact o.2.2.1 i hi
    · rw [eB, if_pos ⟨rfl, rfl⟩] at hi
      cases hi
    · rw [eB, if_pos ⟨rfl, rfl⟩]
theorem good_listen {T : Nat} {X : XS} {a m : Nat} (h : good T X) (ha : a < 8) (hm : m < xV X 1 0) (h1 : xV X 19 m = 1) : good T (x_listen X a m) ∧ rel X (x_listen X a m) := by
  have h48 := h.1.many
  have o := h.1.toM (m := m) (by omega)
  have s := h.1.msg (m := m) (by omega)
  have o23 := o.2.1.2.2.2.2 h1
  have up : ∀ v, v ≤ 8 → (v < 8 ∨ True) → xV X 23 m + 1 = v → True := fun _ _ _ _ => trivial
  have hl := lst_le (fun i => !xB X 1 m i) 60
  unfold x_listen
  generalize lst (fun i => !xB X 1 m i) 60 = L at *
  split
  case isTrue q =>
    refine h.msg hm (fun f hf => ?_) (fun f i hi => ?_) (fun _ _ _ _ => rfl) rfl (fun z => ?_) ?_
    · rw [xV_nf (fun e => hf (by simp [e]))]
    · rw [xV_yV, if_neg (fun z => hi z.2)]
    · rw [xV_nf (by decide)] at z
      exact z
    · unfold okM x_missing
      simp only [xV_yV, xB_yV, reduceIte, Nat.reduceEqDiff, false_and, true_and, if_false, and_self]
      exact ⟨o.1, ⟨o.2.1.1, o.2.1.2.1, q, o.2.1.2.2.2⟩, o.2.2⟩
  case isFalse q =>
    split
    case isTrue q2 =>
      -- it is forgotten: on the way 23 is 8 while it is known, so both at once
      have z19 : xV (x_forget (yV (yV X 22 m 0) 23 m (xV X 23 m + 1)) m) 19 m = 0 := by
        unfold x_forget
        rw [xV_yC, xV_yV, if_pos ⟨rfl, rfl⟩]
      have z22 : xV (x_forget (yV (yV X 22 m 0) 23 m (xV X 23 m + 1)) m) 22 m = 0 := by
        unfold x_forget
        rw [xV_yC, xV_nf (by decide), xV_nf (by decide), xV_yV, if_pos ⟨rfl, rfl⟩]
      have z23 : xV (x_forget (yV (yV X 22 m 0) 23 m (xV X 23 m + 1)) m) 23 m = 8 := by
        unfold x_forget
        rw [xV_yC, xV_nf (by decide), xV_yV, if_pos ⟨rfl, rfl⟩]
        exact q2
      have eo : ∀ f, f ∉ [19, 22, 23] → xV (x_forget (yV (yV X 22 m 0) 23 m (xV X 23 m + 1)) m) f = xV X f := fun f hf => by
        unfold x_forget
        rw [xV_yC, xV_nf (fun e => hf (by simp [e])), xV_nf (fun e => hf (by simp [e])), xV_nf (fun e => hf (by simp [e]))]
      have eB : ∀ w i j, xB (x_forget (yV (yV X 22 m 0) 23 m (xV X 23 m + 1)) m) w i j = if w = 1 ∧ i = m then false else xB X w i j := fun w i j => by
        unfold x_forget
        rw [xB_yC]
        rfl
      refine h.msg hm (fun f hf => eo f ?_) (fun f i hi => ?_) (fun w i j hi => ?_) rfl (fun z => absurd z19 z) ?_
      · simp only [List.mem_cons, List.not_mem_nil, or_false] at hf ⊢
        omega
      · unfold x_forget
        rw [xV_yC, xV_yV, if_neg (fun z => hi z.2), xV_yV, if_neg (fun z => hi z.2), xV_yV, if_neg (fun z => hi z.2)]
      · rw [eB, if_neg (fun z => hi z.2)]
      · refine ⟨?_, ?_, fun i hi => ?_, fun i hi => ?_, fun z => by omega, fun _ i => ?_⟩
        · rw [eo 12 (by decide), eo 13 (by decide), eo 14 (by decide), eo 15 (by decide), eo 16 (by decide), eo 17 (by decide), eo 10 (by decide)]
          exact o.1
        · rw [eo 10 (by decide), eo 21 (by decide)]
          exact ⟨by omega, o.2.1.2.1, by omega, by omega, fun z => by omega⟩
        · rw [eo 13 (by decide)]
          rw [eB, if_neg (by omega)] at hi
          exact o.2.2.1 i hi
        · rw [eB, if_pos ⟨rfl, rfl⟩] at hi
          cases hi
        · rw [eB, if_pos ⟨rfl, rfl⟩]
    case isFalse q2 =>
      have g : good T (yV (yV X 22 m 0) 23 m (xV X 23 m + 1)) ∧ rel X (yV (yV X 22 m 0) 23 m (xV X 23 m + 1)) := by
        refine h.msg hm (fun f hf => ?_) (fun f i hi => ?_) (fun _ _ _ _ => rfl) rfl (fun z => ?_) ?_
        · rw [xV_nf (fun e => hf (by simp [e])), xV_nf (fun e => hf (by simp [e]))]
        · rw [xV_yV, if_neg (fun z => hi z.2), xV_yV, if_neg (fun z => hi z.2)]
        · rw [xV_nf (by decide), xV_nf (by decide)] at z
          exact z
        · unfold okM x_missing
          simp only [xV_yV, xB_yV, reduceIte, Nat.reduceEqDiff, false_and, true_and, if_false, and_self]
          exact ⟨o.1, ⟨o.2.1.1, o.2.1.2.1, by omega, by omega, fun z => by omega⟩, o.2.2⟩
      obtain ⟨g1, r1⟩ := g
      obtain ⟨g2, r2⟩ := good_due (a := a) (e := (2, m, 64 * xV X 21 m + L)) g1 ha (okE_mk (by decide) (by rw [r1.1.1]; exact hm) (by omega) (fun z => absurd z (by decide)) (fun z => absurd z (by decide)) (fun _ => by rw [r1.1.2.2.2.1]; omega))
      exact ⟨g2, r1.tr r2⟩
