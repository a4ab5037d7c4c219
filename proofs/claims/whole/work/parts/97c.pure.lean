/-! what always holds goes on to hold: a slot -/
theorem good_arrive {T : Nat} {X : XS} {k : Nat} (h : good T X) (hk : k < 24) : good (T + 1) (x_arrive X k) ∧ rel X (x_arrive X k) := by
  unfold x_arrive
  cases hl : xL X (200 + k) with
  | nil => exact ⟨h.le (by omega), rel.refl X⟩
  | cons e t =>
    dsimp only
    have he : okE X e := h.1.list.1 (200 + k) e (by rw [hl]; exact List.mem_cons_self)
    have h5 := (h.1.link hk).2
    obtain ⟨g, r⟩ := good_clr (200 + k) h
    have he' : okE (yL X (200 + k) []) e := he.of r.1
    split
    · obtain ⟨g2, r2⟩ := good_atLeaf (leaf := k / 4) g (by omega) h5 he'
      exact ⟨g2.le (by omega), r.tr r2⟩
    · split
      · obtain ⟨g2, r2⟩ := good_atLeaf (leaf := (k - 20) % 2) g (by omega) h5 he'
        exact ⟨g2.le (by omega), r.tr r2⟩
      · split
        · split
          · obtain ⟨g2, r2⟩ := good_drop g
            exact ⟨g2.le (by omega), r.tr r2⟩
          · have hgl : x_goal X e.1 e.2.1 < 8 := by
              have h48 := h.1.many
              have hm := he.2.1
              have o := h.1.msg (m := e.2.1) (by omega)
              unfold x_goal
              split
              · exact o.1.2.1
              · exact o.1.1
            generalize x_goal X e.1 e.2.1 = gl at *
            obtain ⟨g2, r2⟩ := good_line (k := 20 + 2 * ((k - 8) % 6 - 4) + gl / 4) g (by omega) h5 he'
            exact ⟨g2.le (by omega), r.tr r2⟩
        · split
          case isTrue q =>
            obtain ⟨g2, r2⟩ := good_data g he'.2.1 (he'.2.2.2.1 q)
            exact ⟨g2, r.tr r2⟩
          case isFalse q =>
            obtain ⟨g2, r2⟩ := good_answer g he'.2.1 he'.2.2.2.2.1 he'.2.2.2.2.2
            exact ⟨g2.le (by omega), r.tr r2⟩
theorem good_tail {T : Nat} {X : XS} {q : Nat} {e : Nat × Nat × Nat} {t : List (Nat × Nat × Nat)} (h : good T X) (hl : xL X q = e :: t) : good T (yL X q t) ∧ rel X (yL X q t) := by
  refine ⟨h.of (h.1.setL q t (fun e' he' => h.1.list.1 q e' (by rw [hl]; exact List.mem_cons_of_mem _ he')) (fun z => ?_) (fun a ha z => ?_) (fun k hk z => ?_)) (rel_v rfl) (fun _ _ => rfl), rel_v rfl⟩
  · have := h.1.list.2.1 q z
    rw [hl, List.length_cons] at this
    omega
  · have := h.1.list.2.2.1 a ha
    rw [← z, hl, List.length_cons] at this
    omega
  · have := h.1.list.2.2.2 k hk
    rw [← z, hl, List.length_cons] at this
    omega
theorem good_serve {T : Nat} {X : XS} {k : Nat} (h : good T X) (hk : k < 24) : good T (x_serve X k) ∧ rel X (x_serve X k) := by
  have h4 : x_firstQ X k ≤ 4 := lst_le _ _
  unfold x_serve
  generalize x_firstQ X k = p at *
  split
  · exact ⟨h, rel.refl X⟩
  · cases hl : xL X (4 * k + p) with
    | nil => exact ⟨h, rel.refl X⟩
    | cons e t =>
      dsimp only
      split
      · exact ⟨h, rel.refl X⟩
      · obtain ⟨g, r⟩ := good_tail h hl
        have he : okE X e := h.1.list.1 _ e (by rw [hl]; exact List.mem_cons_self)
        obtain ⟨g2, r2⟩ := good_enter (k := k) (p := p) g hk (by omega) (he.of r.1)
        exact ⟨g2, r.tr r2⟩
theorem good_listens {T : Nat} {X : XS} {a : Nat} (h : good T X) (ha : a < 8) : ∀ n, n ≤ xV X 1 0 → good T (x_listens X a n) ∧ rel X (x_listens X a n)
  | 0, _ => ⟨h, rel.refl X⟩
  | n + 1, hn => by
    obtain ⟨g, r⟩ := good_listens h ha n (by omega)
    show good T (if xV (x_listens X a n) 9 n = a ∧ xV (x_listens X a n) 19 n = 1 then x_listen (x_listens X a n) a n else x_listens X a n) ∧ rel X (if xV (x_listens X a n) 9 n = a ∧ xV (x_listens X a n) 19 n = 1 then x_listen (x_listens X a n) a n else x_listens X a n)
    split
    case isTrue q =>
      obtain ⟨g2, r2⟩ := good_listen (m := n) g ha (by rw [r.1.1]; omega) q.2
      exact ⟨g2, r.tr r2⟩
    case isFalse => exact ⟨g, r⟩
theorem good_forgets {T : Nat} {X : XS} {a : Nat} (h : good T X) : ∀ n, n ≤ xV X 1 0 → good T (x_forgets X a n) ∧ rel X (x_forgets X a n)
  | 0, _ => ⟨h, rel.refl X⟩
  | n + 1, hn => by
    obtain ⟨g, r⟩ := good_forgets (a := a) h n (by omega)
    show good T (if xV (x_forgets X a n) 9 n = a ∧ (xV (x_forgets X a n) 19 n = 2 ∧ xV (x_forgets X a n) 11 n = 1 ∧ nI 30 ≤ nI (xV (x_forgets X a n) 0 0) - nI (xV (x_forgets X a n) 25 n)) then x_forget (x_forgets X a n) n else x_forgets X a n) ∧ rel X (if xV (x_forgets X a n) 9 n = a ∧ (xV (x_forgets X a n) 19 n = 2 ∧ xV (x_forgets X a n) 11 n = 1 ∧ nI 30 ≤ nI (xV (x_forgets X a n) 0 0) - nI (xV (x_forgets X a n) 25 n)) then x_forget (x_forgets X a n) n else x_forgets X a n)
    split
    · obtain ⟨g2, r2⟩ := good_forget (m := n) g (by rw [r.1.1]; omega)
      exact ⟨g2, r.tr r2⟩
    · exact ⟨g, r⟩
theorem good_watch {T : Nat} {X : XS} {a : Nat} (h : good T X) : ∀ n, n ≤ xV X 1 0 → good T (x_watch X a n) ∧ rel X (x_watch X a n)
  | 0, _ => ⟨h, rel.refl X⟩
  | n + 1, hn => by
    obtain ⟨g, r⟩ := good_watch (a := a) h n (by omega)
    show good T (if xV (x_watch X a n) 8 n = a ∧ xV (x_watch X a n) 12 n = 0 then x_watch1 (x_watch X a n) n else x_watch X a n) ∧ rel X (if xV (x_watch X a n) 8 n = a ∧ xV (x_watch X a n) 12 n = 0 then x_watch1 (x_watch X a n) n else x_watch X a n)
    split
    case isTrue q =>
      obtain ⟨g2, r2⟩ := good_watch1 (m := n) g (by rw [r.1.1]; omega) q.2
      exact ⟨g2, r.tr r2⟩
    case isFalse => exact ⟨g, r⟩
/-- the choices of a host -/
theorem xOK.hst {X X' : XS} (h : xOK X) (hv : ∀ f, f ≠ 28 → f ≠ 29 → xV X' f = xV X f) (hB : xB X' = xB X) (hL : xL X' = xL X) (ho : ∀ a, a < 8 → xV X' 28 a ≤ 3 ∧ ∀ k, k < xV X' 28 a → xV X' 29 (3 * a + k) < xV X 1 0) : xOK X' := by
  have hmis : ∀ i, x_missing X' i = x_missing X i := fun i => missing_of (hv 10 (by decide) (by decide)) hB
  obtain ⟨h1, h2, h3, h4, h5, h6, h7⟩ := h
  refine ⟨?_, ?_, ?_, ?_, ?_, ?_, ⟨fun a ha => ?_, ?_⟩⟩
  · unfold okNum
    rw [hv 1 (by decide) (by decide), hv 4 (by decide) (by decide), hv 5 (by decide) (by decide), hv 6 (by decide) (by decide), hv 7 (by decide) (by decide)]
    exact h1
  · unfold okMsg
    rw [hv 8 (by decide) (by decide), hv 9 (by decide) (by decide), hv 10 (by decide) (by decide), hv 11 (by decide) (by decide), hv 12 (by decide) (by decide), hv 13 (by decide) (by decide), hv 14 (by decide) (by decide), hv 15 (by decide) (by decide), hv 16 (by decide) (by decide), hv 17 (by decide) (by decide), hv 19 (by decide) (by decide), hv 21 (by decide) (by decide), hv 22 (by decide) (by decide), hv 23 (by decide) (by decide)]
    exact h2
  · unfold okLen
    rw [hv 1 (by decide) (by decide), hv 10 (by decide) (by decide)]
    exact h3
  · unfold okSet
    simp only [hmis]
    rw [hv 10 (by decide) (by decide), hv 13 (by decide) (by decide), hv 19 (by decide) (by decide), hB]
    exact h4
  · intro m hm
    rw [hv 1 (by decide) (by decide)] at hm
    obtain ⟨z1, z2⟩ := h5 m hm
    refine ⟨fun f h8 h26 => ?_, fun w i => ?_⟩
    · rw [hv f (by omega) (by omega)]
      exact z1 f h8 h26
    · rw [hB]
      exact z2 w i
  · unfold okList okE
    rw [hL, hv 1 (by decide) (by decide), hv 10 (by decide) (by decide)]
    exact h6
  · rw [hv 1 (by decide) (by decide)]
    exact ho a ha
  · rw [hv 31 (by decide) (by decide)]
    exact h7.2
theorem good_pick {T : Nat} {X : XS} {a k m : Nat} (h : good T X) (ha : a < 8) (hk : k < 3) (hm : m < xV X 1 0) (h28 : xV X 28 a = k) : good T (x_pick X a k m) ∧ rel X (x_pick X a k m) := by
  have h48 := h.1.many
  have r0 : rel X (yV (yV X 29 (3 * a + k) m) 28 a (xV X 28 a + 1)) := (rel_yV X _ _ (by decide)).tr (rel_yV _ _ _ (by decide))
  have g0 : good T (yV (yV X 29 (3 * a + k) m) 28 a (xV X 28 a + 1)) := by
    refine h.of (h.1.hst (fun f h1 h2 => ?_) rfl rfl (fun b hb => ?_)) r0 (fun f hf => ?_)
    · rw [xV_nf h1, xV_nf h2]
    · have o := h.1.host hb
      rw [xV_yV, xV_nf (f := 29) (f' := 28) (by decide), xV_nf (f := 28) (f' := 29) (by decide)]
      by_cases e : b = a
      · subst e
        rw [if_pos ⟨rfl, rfl⟩]
        refine ⟨by omega, fun j hj => ?_⟩
        rw [xV_yV]
        by_cases e2 : j = k
        · rw [if_pos ⟨rfl, by omega⟩]
          exact hm
        · rw [if_neg (by omega)]
          exact o.2 j (by omega)
      · rw [if_neg (fun z => e z.2)]
        refine ⟨o.1, fun j hj => ?_⟩
        rw [xV_yV, if_neg (by omega)]
        exact o.2 j hj
    · simp only [List.mem_cons, List.not_mem_nil, or_false] at hf
      rcases hf with rfl | rfl | rfl | rfl <;> rw [xV_nf (by decide), xV_nf (by decide)]
  have o := h.1.toM (m := m) (by omega)
  have s := h.1.msg (m := m) (by omega)
  have ht : x_target X m ≤ xV X 10 m := by
    unfold x_target
    split <;> omega
  unfold x_pick
  generalize x_target X m = t at *
  split
  · exact ⟨g0, r0⟩
  · generalize hZ : yV (yV X 29 (3 * a + k) m) 28 a (xV X 28 a + 1) = Z at *
    have hmZ : m < xV Z 1 0 := by rw [r0.1.1]; exact hm
    have e10 : xV Z 10 = xV X 10 := r0.1.2.2.2.1
    have oZ := g0.1.toM (m := m) (by omega)
    obtain ⟨g1, r1⟩ : good T (yV Z 21 m t) ∧ rel Z (yV Z 21 m t) := by
      refine g0.msg hmZ (fun f hf => ?_) (fun f i hi => ?_) (fun _ _ _ _ => rfl) rfl (fun z => ?_) ?_
      · rw [xV_nf (fun e => hf (by simp [e]))]
      · rw [xV_yV, if_neg (fun z => hi z.2)]
      · rw [xV_nf (by decide)] at z
        exact z
      · unfold okM x_missing
        simp only [xV_yV, xB_yV, reduceIte, Nat.reduceEqDiff, false_and, true_and, if_false, and_self]
        exact ⟨oZ.1, ⟨oZ.2.1.1, by rw [e10]; exact ht, oZ.2.1.2.2⟩, oZ.2.2⟩
    obtain ⟨g2, r2⟩ := good_due (a := a) (e := (1, m, 4 * t + 1 + k)) g1 ha (okE_mk (by decide) (by rw [r1.1.1]; exact hmZ) (by omega) (fun z => absurd z (by decide)) (fun _ => by rw [r1.1.2.2.2.1, e10]; omega) (fun z => absurd z (by decide)))
    exact ⟨g2, r0.tr (r1.tr r2)⟩
/-- what a host chooses, and to the end -/
theorem good_picks {T : Nat} {X : XS} {a : Nat} (h : good T X) (ha : a < 8) (hD : arrD X a (xV X 1 0)) (h0 : xV X 28 a = 0) : ∀ k, k ≤ 3 → good T (x_picks X a k) ∧ rel X (x_picks X a k) ∧ ∃ last, pkI X a k last
  | 0, _ => ⟨h, rel.refl X, none, pkI_0 h0⟩
  | k + 1, hk => by
    obtain ⟨g, r, last, hp⟩ := good_picks h ha hD h0 k (by omega)
    have hp2 := pkI_s hD hp
    have e := nxt_eq hp
    rw [picks_s]
    cases hb : x_best (x_picks X a k) a (xV X 1 0) with
    | none => exact ⟨g, r, _, hp2⟩
    | some m =>
      dsimp only
      have hno : k = 0 ∨ last ≠ none := by
        rcases Nat.eq_zero_or_pos k with z | z
        · exact Or.inl z
        · refine Or.inr (fun q => ?_)
          rw [hp.2.2 (by omega) q] at hb
          cases hb
      obtain ⟨g2, r2⟩ := good_pick (k := k) (m := m) g ha (by omega) (by rw [r.1.1]; exact x_best_lt hb) (hp.2.1 hno).1
      exact ⟨g2, r.tr r2, _, hp2⟩
theorem okArr.arrD {X : XS} {T : Nat} (h : okArr X T) (a : Nat) : arrD X a (xV X 1 0) := fun x y hx hy h1 h2 h3 h4 h5 => h.2.2 x y hx hy (h1.trans h2.symm) (by omega) (by omega) h5
theorem good_receive {T : Nat} {X : XS} {a : Nat} (h : good T X) (ha : a < 8) (hT : T < 2 ^ 31) : okReceive X a ∧ arrD (x_forgets (x_listens X a (xV X 1 0)) a (xV X 1 0)) a (xV X 1 0) ∧ good T (x_receive X a) ∧ rel X (x_receive X a) := by
  have h48 := h.1.many
  have l1 := fun i hi => good_listens (T := T) h ha i hi
  obtain ⟨g1, r1⟩ := l1 _ (Nat.le_refl _)
  have e1 : xV (x_listens X a (xV X 1 0)) 1 0 = xV X 1 0 := by rw [r1.1.1]
  have l2 := fun i hi => good_forgets (T := T) (a := a) g1 i hi
  rw [e1] at l2
  obtain ⟨g2, r2⟩ := l2 _ (Nat.le_refl _)
  have R2 := r1.tr r2
  have hD : arrD (x_forgets (x_listens X a (xV X 1 0)) a (xV X 1 0)) a (xV X 1 0) := by
    have := g2.2.arrD a
    rw [R2.1.1] at this
    exact this
  have r3 : rel (x_forgets (x_listens X a (xV X 1 0)) a (xV X 1 0)) (yV (x_forgets (x_listens X a (xV X 1 0)) a (xV X 1 0)) 28 a 0) := rel_yV _ _ _ (by decide)
  have g3 : good T (yV (x_forgets (x_listens X a (xV X 1 0)) a (xV X 1 0)) 28 a 0) := by
    refine g2.of (g2.1.hst (fun f h1 h2 => xV_nf h1) rfl rfl (fun b hb => ?_)) r3 (fun f hf => ?_)
    · have o := g2.1.host hb
      rw [xV_yV, xV_nf (f := 28) (f' := 29) (by decide)]
      split
      · exact ⟨by omega, fun j hj => absurd hj (Nat.not_lt_zero j)⟩
      · exact o
    · simp only [List.mem_cons, List.not_mem_nil, or_false] at hf
      rcases hf with rfl | rfl | rfl | rfl <;> rw [xV_nf (by decide)]
  have R3 := R2.tr r3
  have hD3 : arrD (yV (x_forgets (x_listens X a (xV X 1 0)) a (xV X 1 0)) 28 a 0) a (xV (yV (x_forgets (x_listens X a (xV X 1 0)) a (xV X 1 0)) 28 a 0) 1 0) := g3.2.arrD a
  have h0 : xV (yV (x_forgets (x_listens X a (xV X 1 0)) a (xV X 1 0)) 28 a 0) 28 a = 0 := by rw [xV_yV, if_pos ⟨rfl, rfl⟩]
  have l3 := good_picks g3 ha hD3 h0
  refine ⟨⟨fun i hi => ⟨(l1 i hi).1.1, (l1 i hi).2.1⟩, fun i hi => ⟨(l2 i hi).1.1, (r1.tr (l2 i hi).2).1⟩, fun k hk => ?_⟩, hD, ?_, ?_⟩
  · obtain ⟨g4, r4, -⟩ := l3 k hk
    refine ⟨g4.1, (R3.tr r4).1, fun m hm => ?_⟩
    generalize x_picks (yV (x_forgets (x_listens X a (xV X 1 0)) a (xV X 1 0)) 28 a 0) a k = Y at *
    have hb := g4.1.many
    by_cases q : m < xV Y 1 0
    · have z1 := g4.2.2.1 m q
      have z2 := (g4.2.1 _ (g4.1.msg (m := m) hm).1.2.1).1
      omega
    · have := (g4.1.new (m := m) (by omega)).1 24 (by decide) (by decide)
      omega
  · unfold x_receive
    exact (l3 3 (Nat.le_refl _)).1
  · unfold x_receive
    exact R3.tr (l3 3 (Nat.le_refl _)).2.1
theorem short_can {X : XS} {h : Nat} : ∀ {n m : Nat}, x_short X h n = some m → x_can X h m = true
  | 0, m, e => by cases e
  | n + 1, m, e => by
    have e : (if x_can X h n = true ∧ (∀ y, x_short X h n = some y → x_left X n < x_left X y) then some n else x_short X h n) = some m := e
    split at e
    case isTrue q =>
      cases e
      exact q.1
    case isFalse => exact short_can e
theorem can_is {X : XS} {h m : Nat} (e : x_can X h m = true) : x_least X m < 60 ∨ xV X 13 m < xV X 14 m := by
  unfold x_can at e
  simp only [Bool.and_eq_true, Bool.or_eq_true, decide_eq_true_eq] at e
  exact e.2
theorem good_place {T : Nat} {X : XS} {m : Nat} (h : good T X) (hm : m < xV X 1 0) (hc : x_least X m < 60 ∨ xV X 13 m < xV X 14 m) : good T (x_takePlace X m) ∧ rel X (x_takePlace X m) ∧ x_place X m < xV X 10 m := by
  have h48 := h.1.many
  have o := h.1.toM (m := m) (by omega)
  have hl : x_least X m < 60 → xB X 0 m (x_least X m) = true := fun z => lst_is (f := xB X 0 m) z
  unfold x_takePlace x_place
  generalize x_least X m = L at *
  by_cases q : L < 60
  · rw [if_pos q, if_pos q]
    have hb := o.2.2.1 L (hl q)
    have o13 := o.1.2.1
    refine ⟨?_, ?_, by omega⟩
    · refine (h.msg (X' := yB X 0 m L false) hm (fun _ _ => rfl) (fun _ _ _ => rfl) (fun w a j ha => ?_) rfl id ⟨o.1, o.2.1, fun j hj => ?_, o.2.2.2.1, o.2.2.2.2.1, o.2.2.2.2.2⟩).1
      · rw [xB_yB, if_neg (fun z => ha z.2.1)]
      · rw [xB_yB] at hj
        split at hj
        · cases hj
        · exact o.2.2.1 j hj
    · exact rel_v rfl
  · rw [if_neg q, if_neg q]
    have hc : xV X 13 m < xV X 14 m := by omega
    have o14 := o.1.2.2.1
    have g : good T (yV X 13 m (xV X 13 m + 1)) ∧ rel X (yV X 13 m (xV X 13 m + 1)) := by
      refine h.msg hm (fun f hf => ?_) (fun f i hi => ?_) (fun _ _ _ _ => rfl) rfl (fun z => ?_) ?_
      · rw [xV_nf (fun e => hf (by simp [e]))]
      · rw [xV_yV, if_neg (fun z => hi z.2)]
      · rw [xV_nf (by decide)] at z
        exact z
      · unfold okM x_missing
        simp only [xV_yV, xB_yV, reduceIte, Nat.reduceEqDiff, false_and, true_and, if_false, and_self]
        exact ⟨⟨o.1.1, by omega, o.1.2.2⟩, o.2.1, fun i hi => by have := o.2.2.1 i hi; omega, o.2.2.2⟩
    exact ⟨g.1, g.2, by omega⟩
theorem good_send {T : Nat} {X : XS} {a : Nat} (h : good T X) (ha : a < 8) : good T (x_send X a) ∧ rel X (x_send X a) ∧ ∀ m, x_short X a (xV X 1 0) = some m → xOK (x_takePlace X m) := by
  have h48 := h.1.many
  have place : ∀ m, x_short X a (xV X 1 0) = some m → good T (x_takePlace X m) ∧ rel X (x_takePlace X m) ∧ x_place X m < xV X 10 m := fun m hs => good_place h (short_lt hs) (can_is (short_can hs))
  refine and_assoc.mp ⟨?_, fun m hs => (place m hs).1.1⟩
  unfold x_send
  cases hl : xL X (96 + a) with
  | cons e t =>
    dsimp only
    obtain ⟨g, r⟩ := good_tail h hl
    obtain ⟨g2, r2⟩ := good_sent1 a g
    have he : okE X e := h.1.list.1 _ e (by rw [hl]; exact List.mem_cons_self)
    obtain ⟨g3, r3⟩ := good_enter (k := a) (p := 0) (e := e) g2 (by omega) (by decide) (he.of (r.tr r2).1)
    exact ⟨g3, (r.tr r2).tr r3⟩
  | nil =>
    cases hs : x_short X a (xV X 1 0) with
    | none => exact ⟨h, rel.refl X⟩
    | some m =>
      dsimp only
      have hm := short_lt hs
      obtain ⟨g, r, hp⟩ := place m hs
      obtain ⟨g2, r2⟩ := good_sent1 a g
      have R := r.tr r2
      have o := h.1.msg (m := m) (by omega)
      have hp4 : x_prio X a m (x_place X m) < 4 := x_prio_le _ _ _ o.2.1.2.2.2.1
      generalize x_prio X a m (x_place X m) = P at *
      generalize x_place X m = pl at *
      obtain ⟨g3, r3⟩ := good_enter (k := a) (p := P) (e := (0, m, pl)) g2 (by omega) (by omega) (okE_mk (by decide) (by rw [R.1.1]; exact hm) (by omega) (fun _ => by rw [R.1.2.2.2.1]; exact hp) (fun z => absurd z (by decide)) (fun z => absurd z (by decide)))
      exact ⟨g3, R.tr r3⟩
theorem good_host {T : Nat} {X : XS} {a : Nat} (h : good T X) (ha : a < 8) (hT : T < 2 ^ 31) : okHostW X a ∧ arrD (x_forgets (x_listens X a (xV X 1 0)) a (xV X 1 0)) a (xV X 1 0) ∧ good T (x_host X a) ∧ rel X (x_host X a) := by
  obtain ⟨h1, h2, g1, r1⟩ := good_receive h ha hT
  have e1 : xV (x_receive X a) 1 0 = xV X 1 0 := by rw [r1.1.1]
  have l := fun i hi => good_watch (T := T) (a := a) g1 i hi
  rw [e1] at l
  obtain ⟨g2, r2⟩ := l _ (Nat.le_refl _)
  obtain ⟨g3, r3, h3⟩ := good_send g2 ha
  exact ⟨⟨h1, r1.1, fun i hi => ⟨(l i hi).1.1, (l i hi).2.1⟩, h3⟩, h2, g3, r1.tr (r2.tr r3)⟩
theorem good_clock {T : Nat} {X : XS} (h : good T X) (v : Nat) : good T (yV X 0 0 v) := by
  refine ⟨h.1.fre (fun f hf => xV_nf (fun e => hf (by simp [e]))) rfl rfl, h.2.mono ⟨xV_nf (by decide), xV_nf (by decide), xV_nf (by decide), xV_nf (by decide), xV_nf (by decide)⟩ (xV_nf (by decide)) (xV_nf (by decide)) (xV_nf (by decide)) (fun m => ?_)⟩
  rw [xV_nf (by decide)]
  exact id
theorem good_sA {T : Nat} {X : XS} (h : good T X) : ∀ i, i ≤ 24 → good (T + i) (sA X i) ∧ rel (yV X 0 0 (xV X 0 0 + 1)) (sA X i)
  | 0, _ => ⟨good_clock h _, rel.refl _⟩
  | i + 1, hi => by
    obtain ⟨g, r⟩ := good_sA h i (by omega)
    obtain ⟨g2, r2⟩ := good_arrive (k := i) g (by omega)
    exact ⟨g2, r.tr r2⟩
theorem good_sB {T : Nat} {X : XS} (h : good T (sA X 24)) : ∀ j, j ≤ 16 → good T (sB X j) ∧ rel (sA X 24) (sB X j)
  | 0, _ => ⟨h, rel.refl _⟩
  | j + 1, hj => by
    obtain ⟨g, r⟩ := good_sB h j (by omega)
    obtain ⟨g2, r2⟩ := good_serve (k := 8 + j) g (by omega)
    exact ⟨g2, r.tr r2⟩
theorem good_sC {T : Nat} {X : XS} (h : good T (sB X 16)) (hT : T < 2 ^ 31) : ∀ a, a ≤ 8 → good T (sC X a) ∧ rel (sB X 16) (sC X a)
  | 0, _ => ⟨h, rel.refl _⟩
  | a + 1, ha => by
    obtain ⟨g, r⟩ := good_sC h hT a (by omega)
    obtain ⟨-, -, g2, r2⟩ := good_host (a := a) g (by omega) hT
    exact ⟨g2, r.tr r2⟩
theorem good_slot1 {T : Nat} {X : XS} (h : good T X) (hT : T + 24 < 2 ^ 31) : okX X ∧ good (T + 24) (x_slot1 X) ∧ rel (yV X 0 0 (xV X 0 0 + 1)) (x_slot1 X) := by
  have a1 := fun i hi => good_sA (T := T) h i hi
  obtain ⟨gA, rA⟩ := a1 24 (Nat.le_refl _)
  have b1 := fun j hj => good_sB gA j hj
  obtain ⟨gB, rB⟩ := b1 16 (Nat.le_refl _)
  have c1 := fun a ha => good_sC gB hT a ha
  obtain ⟨gC, rC⟩ := c1 8 (Nat.le_refl _)
  refine ⟨⟨⟨fun i hi => ⟨(a1 i hi).1.1, fun a ha => ?_⟩, fun j hj => (b1 j hj).1.1, fun a ha => (good_host (c1 a (by omega)).1 ha hT).1⟩, fun a ha => (good_host (c1 a (by omega)).1 ha hT).2.1⟩, gC, rA.tr (rB.tr rC)⟩
  have := ((a1 i hi).1.2.1 a ha).2
  omega
theorem good_slots {T : Nat} {X : XS} (h : good T X) : ∀ k, T + 24 * k < 2 ^ 31 → good (T + 24 * k) (x_slots X k) ∧ xV (x_slots X k) 0 0 = xV X 0 0 + k ∧ xV (x_slots X k) 32 = xV X 32
  | 0, _ => ⟨h, rfl, rfl⟩
  | k + 1, hk => by
    obtain ⟨g, e0, e32⟩ := good_slots h k (by omega)
    obtain ⟨-, g2, r2⟩ := good_slot1 g (by omega)
    rw [x_slots_s]
    refine ⟨g2.le (by omega), ?_, ?_⟩
    · rw [r2.2.1, xV_yV, if_pos ⟨rfl, rfl⟩, e0]
      omega
    · rw [r2.2.2, xV_nf (by decide)]
      exact e32
theorem slots_okX {T : Nat} {X : XS} (h : good T X) {n : Nat} (hn : T + 24 * n < 2 ^ 31) : ∀ k, k < n → okX (x_slots X k) := fun k hk => (good_slot1 (good_slots h k (by omega)).1 (by omega)).1
