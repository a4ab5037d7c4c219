/-! THE CLASS: the links are filled out of the queues -/
theorem xOK.okP {X : XS} (h : xOK X) {q p : Nat} {e : Nat × Nat × Nat} (he : e ∈ xL X q) (hp : p < 4) : okP X e p := by
  obtain ⟨a1, a2, a3, -⟩ := h.list.1 q e he
  have := h.many
  have hm := h.msg (m := e.2.1) (by omega)
  refine ⟨a1, hp, ?_, by omega, a3⟩
  unfold x_goal
  split <;> omega
theorem okP.lt {X : XS} {e : Nat × Nat × Nat} {p : Nat} (h : okP X e p) : pkF (xV X 8) (xV X 9) e p < 2 ^ 25 := pkN_lt h.1 h.2.1 h.2.2.1 h.2.2.2.1 h.2.2.2.2
set_option maxRecDepth 100000 in
theorem cx_isServed (l : Launch) (g : jG) (hgt : Nat) {S : jS} {w : Nat → Nat → Nat} {hx : Nat} {X : XS} {k : Nat} (hW : WX S w hx X) (hk : k < 24) (hs : ∀ s, s < 2 → xV X 6 s ≤ 1) : CT l g mX2_isServed hgt 0 0 [.ref (w 1 0), .int (nI k)] S (jPure (.int (bI (decide (¬ (20 ≤ k ∧ xV X 6 ((k - 20) / 2) = 1))))) S) := by
  refine CT_of qX2_isServed (Nat.le_of_ble_eq_true rfl) ?_
  refine J_iload_n (pc := 0) dX2_isServed_0 rfl rfl ?_
  refine J_bipush (pc := 1) (v := nI 20) dX2_isServed_1 (by decide) ?_
  refine J_icmp_ltN (pc := 3) (tgt := 20) dX2_isServed_3 rfl (by omega) (by omega) (fun B => ?_) (fun B => ?_)
  · rw [decide_eq_true (by omega)]
    refine J_iconst (pc := 20) (v := nI 1) dX2_isServed_20 (by decide) ?_
    refine J_goto (pc := 21) (tgt := 25) dX2_isServed_21 rfl ?_
    refine J_zret (pc := 25) dX2_isServed_25 rfl rfl (by omega) (by omega) ?_
    exact ⟨rfl, rfl⟩
  · have h2 : (k - 20) / 2 < 2 := by omega
    have hv := hs _ h2
    refine J_aload_n (pc := 6) dX2_isServed_6 rfl rfl ?_
    refine J_getr (pc := 7) (i := 3) cl1 hW.fo (by decide) rfl hW.f3 kX2_24 dX2_isServed_7 ?_
    refine J_iload_n (pc := 10) dX2_isServed_10 rfl rfl ?_
    refine J_bipush (pc := 11) (v := nI 20) dX2_isServed_11 (by decide) ?_
    refine J_isubN (b := 20) dX2_isServed_13 (by omega) ?_
    refine J_iconst (pc := 14) (v := nI 2) dX2_isServed_14 (by decide) ?_
    refine J_idivN (b := 2) dX2_isServed_15 (by omega) (by decide) (by decide) ?_
    refine J_zald (pc := 16) hW.az rfl h2 (by first | omega | exact mLn_lt _) (hW.spi h2) dX2_isServed_16 ?_
    refine J_if_eqN (pc := 17) (tgt := 24) dX2_isServed_17 rfl (by omega) (fun B2 => ?_) (fun B2 => ?_)
    · rw [decide_eq_false (by omega)]
      refine J_iconst (pc := 24) (v := nI 0) dX2_isServed_24 (by decide) ?_
      refine J_zret (pc := 25) dX2_isServed_25 rfl rfl (by omega) (by omega) ?_
      exact ⟨rfl, rfl⟩
    · rw [decide_eq_true (by omega)]
      refine J_iconst (pc := 20) (v := nI 1) dX2_isServed_20 (by decide) ?_
      refine J_goto (pc := 21) (tgt := 25) dX2_isServed_21 rfl ?_
      refine J_zret (pc := 25) dX2_isServed_25 rfl rfl (by omega) (by omega) ?_
      exact ⟨rfl, rfl⟩
def x_fill (X : XS) (k : Nat) : XS := match xL X (4 * k + x_firstQ X k) with
    | [] => X
    | e :: t => if x_firstQ X k = 4 then X else x_enter (yL X (4 * k + x_firstQ X k) t) k e (x_firstQ X k)
theorem x_serve_fill (X : XS) (k : Nat) : x_serve X k = if 20 ≤ k ∧ xV X 6 ((k - 20) / 2) = 1 then X else x_fill X k := rfl
set_option maxRecDepth 100000 in
theorem cx_fill (l : Launch) (g : jG) (hgt : Nat) {S : jS} {w : Nat → Nat → Nat} {hx : Nat} {X : XS} {k : Nat} (hW : WX S w hx X) (hI : xOK X) (h8 : 8 ≤ k) (hk : k < 24) (hh : 1 ≤ hgt) : CT l g mX2_fill hgt 0 0 [.ref (w 1 0), .int (nI k)] S (xQ w hx none (x_fill X k)) := by
  refine CT_of qX2_fill (Nat.le_of_ble_eq_true rfl) ?_
  refine J_iconst (pc := 0) (v := nI 0) dX2_fill_0 (by decide) ?_
  refine J_istore_n (pc := 1) dX2_fill_1 rfl (by decide) ?_
  have loop : ∀ i, i ≤ 4 → (∀ j, j < i → xL X (4 * k + j) = []) → J l g mX2_fill hgt 0 0 (xQ w hx none (x_fill X k)) 2 [(2, .int (nI i)), (0, .ref (w 1 0)), (1, .int (nI k))] [] S 0 0 := by
    refine down _ ?_ ?_
    · intro he
      refine J_iload_n (pc := 2) dX2_fill_2 rfl rfl ?_
      refine J_iconst (pc := 3) (v := nI 4) dX2_fill_3 (by decide) ?_
      refine J_icmp_geN (pc := 4) (tgt := 35) dX2_fill_4 rfl (by omega) (by omega) (fun B => ?_) (fun B => ?_)
      · refine J_vret (pc := 35) dX2_fill_35 rfl (by omega) (by omega) ?_
        refine ⟨rfl, ?_⟩
        have h4 : x_firstQ X k = 4 := lst_none (fun j hj => by simp [he j hj])
        unfold x_fill
        rw [h4]
        split
        · exact hW
        · rw [if_pos rfl]
          exact hW
      · omega
    · intro i hi ih he
      have hr : (k - 8) * 4 + i < 72 := by omega
      have e1 : 4 * k + i = 32 + ((k - 8) * 4 + i) := by omega
      have e2 : pr ((k - 8) * 4 + i) = i := by
        unfold pr
        rw [if_pos (by omega)]
        omega
      obtain ⟨f, hrow, hpl⟩ := hW.row hr
      refine J_iload_n (pc := 2) dX2_fill_2 rfl rfl ?_
      refine J_iconst (pc := 3) (v := nI 4) dX2_fill_3 (by decide) ?_
      refine J_icmp_geN (pc := 4) (tgt := 35) dX2_fill_4 rfl (by omega) (by omega) (fun B => ?_) (fun B => ?_)
      · omega
      · refine J_aload_n (pc := 7) dX2_fill_7 rfl rfl ?_
        refine J_iload_n (pc := 8) dX2_fill_8 rfl rfl ?_
        refine J_iload_n (pc := 9) dX2_fill_9 rfl rfl ?_
        refine J_callV (pc := 10) (cx_queueOf l g (hgt - 1) hW h8 hk hi) qX2_queueOf vX2_queueOf cl1 rfl hW.fo kX2_95 dX2_fill_10 rfl rfl (Nat.le_of_ble_eq_true rfl) (by omega) (by omega) (by omega) ?_
        rintro _ _ ⟨rfl, rfl⟩
        refine J_callV (pc := 13) (c_Row_take l g (hgt - 1) hrow) qX7_take vX7_take cl5 rfl hrow.1 kX2_107 dX2_fill_13 rfl rfl (Nat.le_of_ble_eq_true rfl) (by omega) (by omega) (by omega) ?_
        intro r S' hq
        cases hL : xL X (32 + ((k - 8) * 4 + i)) with
        | nil =>
          rw [hL, List.length_nil, if_pos rfl] at hq
          obtain ⟨rfl, rfl⟩ := hq
          refine J_istore_n (pc := 16) dX2_fill_16 rfl (by decide) ?_
          refine J_iload_n (pc := 17) dX2_fill_17 rfl rfl ?_
          refine J_iconst (pc := 18) (v := (-1)) dX2_fill_18 (by decide) ?_
          refine J_icmp_eq (pc := 19) (tgt := 29) dX2_fill_19 rfl (fun _ => ?_) (fun hc9 => absurd ((by decide)) hc9)
          refine J_iinc (pc := 29) dX2_fill_29 rfl (inc1 _) (by decide) ?_
          refine J_goto (pc := 32) (tgt := 2) dX2_fill_32 rfl ?_
          refine J_lvk (ih (fun j hj => ?_)) ⟨rfl, rfl, rfl, trivial⟩
          by_cases q : j = i
          · rw [q, e1]
            exact hL
          · exact he j (by omega)
        | cons e t =>
          obtain ⟨hW', hv⟩ := hW.take hr hrow hpl hL
          rw [e2] at hv
          rw [if_neg (by rw [hL, List.length_cons]; omega), hv] at hq
          obtain ⟨rfl, rfl⟩ := hq
          have ho : okP X e i := hI.okP (q := 32 + ((k - 8) * 4 + i)) (by rw [hL]; exact List.mem_cons_self) hi
          have hlt := ho.lt
          refine J_istore_n (pc := 16) dX2_fill_16 rfl (by decide) ?_
          refine J_iload_n (pc := 17) dX2_fill_17 rfl rfl ?_
          refine J_iconst (pc := 18) (v := (-1)) dX2_fill_18 (by decide) ?_
          refine J_icmp_eq (pc := 19) (tgt := 29) dX2_fill_19 rfl (fun hc9 => absurd hc9 ((nI_m1 (by omega)))) (fun _ => ?_)
          refine J_aload_n (pc := 22) dX2_fill_22 rfl rfl ?_
          refine J_iload_n (pc := 23) dX2_fill_23 rfl rfl ?_
          refine J_iload_n (pc := 24) dX2_fill_24 rfl rfl ?_
          refine J_callV (pc := 25) (cx_putOn l g (hgt - 1) (e := e) (p := i) hW' hk (hI.link hk).1) qX2_putOn vX2_putOn cl1 rfl hW'.fo kX2_111 dX2_fill_25 rfl rfl (Nat.le_of_ble_eq_true rfl) (by omega) (by omega) (by omega) ?_
          rintro _ _ ⟨rfl, hW⟩
          refine J_vret (pc := 28) dX2_fill_28 rfl (by omega) (by omega) ?_
          refine ⟨rfl, ?_⟩
          have hf : x_firstQ X k = i := lst_of hi (by rw [e1, hL]; simp) (fun j hj => by simp [he j hj])
          unfold x_fill
          rw [hf, e1, hL]
          show WX _ w hx (if i = 4 then X else _)
          rw [if_neg (by omega)]
          exact hW
  exact J_lvk (loop 0 (by decide) (fun j hj => absurd hj (by omega))) ⟨rfl, rfl, rfl, trivial⟩
set_option maxRecDepth 100000 in
theorem cx_fillLinks (l : Launch) (g : jG) (hgt : Nat) {S : jS} {w : Nat → Nat → Nat} {hx : Nat} {X : XS} (hW : WX S w hx X) (hI : ∀ j, j ≤ 16 → xOK (x_for j (fun Y j => x_serve Y (8 + j)) X)) (hh : 2 ≤ hgt) : CT l g mX2_fillLinks hgt 0 0 [.ref (w 1 0)] S (xQ w hx none (x_for 16 (fun Y j => x_serve Y (8 + j)) X)) := by
  refine CT_of qX2_fillLinks (Nat.le_of_ble_eq_true rfl) ?_
  refine J_bipush (pc := 0) (v := nI 8) dX2_fillLinks_0 (by decide) ?_
  refine J_istore_n (pc := 2) dX2_fillLinks_2 rfl (by decide) ?_
  have loop : ∀ i, i ≤ 16 → ∀ S, WX S w hx (x_for i (fun Y j => x_serve Y (8 + j)) X) → J l g mX2_fillLinks hgt 0 0 (xQ w hx none (x_for 16 (fun Y j => x_serve Y (8 + j)) X)) 3 [(1, .int (nI (8 + i))), (0, .ref (w 1 0))] [] S 0 0 := by
    refine down _ ?_ ?_
    · intro S hW
      refine J_iload_n (pc := 3) dX2_fillLinks_3 rfl rfl ?_
      refine J_bipush (pc := 4) (v := nI 24) dX2_fillLinks_4 (by decide) ?_
      refine J_icmp_geN (pc := 6) (tgt := 28) dX2_fillLinks_6 rfl (by omega) (by omega) (fun B => ?_) (fun B => ?_)
      · refine J_vret (pc := 28) dX2_fillLinks_28 rfl (by omega) (by omega) ?_
        exact ⟨rfl, hW⟩
      · omega
    · intro i hi ih S hW
      have hO := hI i (by omega)
      have hs : x_for (i + 1) (fun Y j => x_serve Y (8 + j)) X = x_serve (x_for i (fun Y j => x_serve Y (8 + j)) X) (8 + i) := rfl
      generalize x_for i (fun Y j => x_serve Y (8 + j)) X = Y at hW hO hs
      rw [x_serve_fill] at hs
      have next : ∀ S', WX S' w hx (x_for (i + 1) (fun Y j => x_serve Y (8 + j)) X) → J l g mX2_fillLinks hgt 0 0 (xQ w hx none (x_for 16 (fun Y j => x_serve Y (8 + j)) X)) 22 [(1, .int (nI (8 + i))), (0, .ref (w 1 0))] [] S' 0 0 := by
        intro S' hW'
        refine J_iinc (pc := 22) dX2_fillLinks_22 rfl (inc1 _) (by decide) ?_
        refine J_goto (pc := 25) (tgt := 3) dX2_fillLinks_25 rfl ?_
        exact J_lvk (ih S' hW') ⟨rfl, rfl, trivial⟩
      refine J_iload_n (pc := 3) dX2_fillLinks_3 rfl rfl ?_
      refine J_bipush (pc := 4) (v := nI 24) dX2_fillLinks_4 (by decide) ?_
      refine J_icmp_geN (pc := 6) (tgt := 28) dX2_fillLinks_6 rfl (by omega) (by omega) (fun B => ?_) (fun B => ?_)
      · omega
      · refine J_aload_n (pc := 9) dX2_fillLinks_9 rfl rfl ?_
        refine J_iload_n (pc := 10) dX2_fillLinks_10 rfl rfl ?_
        refine J_callV (pc := 11) (cx_isServed l g (hgt - 1) hW (show 8 + i < 24 by omega) (fun s hs => (hO.sp hs).1)) qX2_isServed vX2_isServed cl1 rfl hW.fo kX2_102 dX2_fillLinks_11 rfl rfl (Nat.le_of_ble_eq_true rfl) (by omega) (by omega) (by omega) ?_
        rintro _ _ ⟨rfl, rfl⟩
        refine J_if_eqB (pc := 14) (tgt := 22) dX2_fillLinks_14 rfl (fun B2 => ?_) (fun B2 => ?_)
        · have B2 := of_decide_eq_false B2
          refine next S ?_
          rw [hs, if_pos (Decidable.not_not.mp B2)]
          exact hW
        · have B2 := of_decide_eq_true B2
          refine J_aload_n (pc := 17) dX2_fillLinks_17 rfl rfl ?_
          refine J_iload_n (pc := 18) dX2_fillLinks_18 rfl rfl ?_
          refine J_callV (pc := 19) (cx_fill l g (hgt - 1) hW hO (show 8 ≤ 8 + i by omega) (by omega) (by omega)) qX2_fill vX2_fill cl1 rfl hW.fo kX2_105 dX2_fillLinks_19 rfl rfl (Nat.le_of_ble_eq_true rfl) (by omega) (by omega) (by omega) ?_
          rintro _ _ ⟨rfl, hW⟩
          refine next _ ?_
          rw [hs, if_neg B2]
          exact hW
  exact J_lvk (loop 0 (by decide) S hW) ⟨rfl, rfl, trivial⟩
