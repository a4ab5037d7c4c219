/-! THE CLASS: looking at the links and the queues -/
set_option maxRecDepth 100000 in
theorem cx_look (l : Launch) (g : jG) (hgt : Nat) {S : jS} {w : Nat → Nat → Nat} {hx : Nat} {X : XS} (k : Int32) (hW : WX S w hx X) (hh : 1 ≤ hgt) : CT l g mX2_look hgt 0 0 [.ref (w 1 0), .int k] S (jPure (.int (if k < 0 ∨ nI 24 ≤ k then -1 else pkH (xV X 8) (xV X 9) (xL X (200 + cl k)) (xV X 5 (cl k)))) S) := by
  refine CT_of qX2_look (Nat.le_of_ble_eq_true rfl) ?_
  refine J_iload_n (pc := 0) dX2_look_0 rfl rfl ?_
  refine J_callS (pc := 1) (cx_isLink l g (hgt - 1) k) qX2_isLink vX2_isLink kX2_60 dX2_look_1 rfl rfl (Nat.le_of_ble_eq_true rfl) (by omega) (by omega) (by omega) ?_
  rintro _ _ ⟨rfl, rfl⟩
  refine J_if_eqB (pc := 4) (tgt := 16) dX2_look_4 rfl (fun B => ?_) (fun B => ?_)
  · have B := Decidable.not_not.mp (of_decide_eq_false B)
    rw [if_pos B]
    refine J_iconst (pc := 16) (v := (-1)) dX2_look_16 (by decide) ?_
    refine J_iret (pc := 17) dX2_look_17 rfl (by omega) (by omega) ?_
    exact ⟨rfl, rfl⟩
  · have B := of_decide_eq_true B
    rw [if_neg B]
    obtain ⟨j, hj, rfl⟩ : ∃ j : Nat, j < 24 ∧ k = nI j := by
      rcases pk_ix k (n := 24) (by decide) with q | q | q
      · exact absurd (Or.inl q) B
      · exact absurd (Or.inr q) B
      · exact q
    rw [cl_nI (by omega)]
    refine J_aload_n (pc := 7) dX2_look_7 rfl rfl ?_
    refine J_getr (pc := 8) (i := 0) cl1 hW.fo (by decide) rfl hW.f0 kX2_11 dX2_look_8 ?_
    refine J_iload_n (pc := 11) dX2_look_11 rfl rfl ?_
    refine J_iald (pc := 12) hW.a72 rfl hj (by first | omega | exact mLn_lt _) (hW.lnk hj) dX2_look_12 ?_
    refine J_goto (pc := 13) (tgt := 17) dX2_look_13 rfl ?_
    refine J_iret (pc := 17) dX2_look_17 rfl (by omega) (by omega) ?_
    exact ⟨rfl, rfl⟩
set_option maxRecDepth 100000 in
theorem cx_waiting (l : Launch) (g : jG) (hgt : Nat) {S : jS} {w : Nat → Nat → Nat} {hx : Nat} {X : XS} (k p : Int32) (hW : WX S w hx X) (hh : 1 ≤ hgt) : CT l g mX2_waiting hgt 0 0 [.ref (w 1 0), .int k, .int p] S (jPure (.int (p_queue X k p)) S) := by
  unfold p_queue
  have bad : (k < nI 8 ∨ nI 24 ≤ k ∨ p < 0 ∨ nI 3 < p) → J l g mX2_waiting hgt 0 0 (jPure (.int (if k < nI 8 ∨ nI 24 ≤ k ∨ p < 0 ∨ nI 3 < p then -1 else nI (xL X (4 * cl k + cl p)).length)) S) 26 [(0, .ref (w 1 0)), (1, .int k), (2, .int p)] [] S 0 0 := by
    intro q
    rw [if_pos q]
    refine J_iconst (pc := 26) (v := nI 0) dX2_waiting_26 (by decide) ?_
    refine J_istore_n (pc := 27) dX2_waiting_27 rfl (by decide) ?_
    refine J_iload_n (pc := 28) dX2_waiting_28 rfl rfl ?_
    refine J_if_eq (pc := 29) (tgt := 44) dX2_waiting_29 rfl (fun _ => ?_) (fun hc9 => absurd (rfl) hc9)
    refine J_iconst (pc := 44) (v := (-1)) dX2_waiting_44 (by decide) ?_
    refine J_iret (pc := 45) dX2_waiting_45 rfl (by omega) (by omega) ?_
    exact ⟨rfl, rfl⟩
  refine CT_of qX2_waiting (Nat.le_of_ble_eq_true rfl) ?_
  refine J_iload_n (pc := 0) dX2_waiting_0 rfl rfl ?_
  refine J_callS (pc := 1) (cx_isLink l g (hgt - 1) k) qX2_isLink vX2_isLink kX2_60 dX2_waiting_1 rfl rfl (Nat.le_of_ble_eq_true rfl) (by omega) (by omega) (by omega) ?_
  rintro _ _ ⟨rfl, rfl⟩
  refine J_if_eqB (pc := 4) (tgt := 26) dX2_waiting_4 rfl (fun B => ?_) (fun B => ?_)
  · have B := Decidable.not_not.mp (of_decide_eq_false B)
    refine J_lvk (bad ?_) ⟨rfl, rfl, rfl, trivial⟩
    rcases B with q | q
    · exact Or.inl (Int32.lt_trans q (by decide))
    · exact Or.inr (Or.inl q)
  · have B := of_decide_eq_true B
    obtain ⟨j, hj, rfl⟩ : ∃ j : Nat, j < 24 ∧ k = nI j := by
      rcases pk_ix k (n := 24) (by decide) with q | q | q
      · exact absurd (Or.inl q) B
      · exact absurd (Or.inr q) B
      · exact q
    refine J_iload_n (pc := 7) dX2_waiting_7 rfl rfl ?_
    refine J_bipush (pc := 8) (v := nI 8) dX2_waiting_8 (by decide) ?_
    refine J_icmp_lt (pc := 10) (tgt := 26) dX2_waiting_10 rfl (fun B2 => ?_) (fun B2 => ?_)
    · exact J_lvk (bad (Or.inl B2)) ⟨rfl, rfl, rfl, trivial⟩
    · have j8 : 8 ≤ j := by
        have := (Decidable.not_iff_not.mpr (nI_ltI (a := j) (b := 8) (by omega) (by decide))).mp B2
        omega
      refine J_iload_n (pc := 13) dX2_waiting_13 rfl rfl ?_
      refine J_if_lt (pc := 14) (tgt := 26) dX2_waiting_14 rfl (fun B3 => ?_) (fun B3 => ?_)
      · exact J_lvk (bad (Or.inr (Or.inr (Or.inl B3)))) ⟨rfl, rfl, rfl, trivial⟩
      · refine J_iload_n (pc := 17) dX2_waiting_17 rfl rfl ?_
        refine J_iconst (pc := 18) (v := nI 4) dX2_waiting_18 (by decide) ?_
        rcases pk_ix p (n := 4) (by decide) with q | q | ⟨i, hi, rfl⟩
        · exact absurd q B3
        · refine J_icmp_ge (pc := 19) (tgt := 26) dX2_waiting_19 rfl (fun _ => ?_) (fun hc9 => absurd (q) hc9)
          exact J_lvk (bad (Or.inr (Or.inr (Or.inr (Int32.lt_of_lt_of_le (by decide) q))))) ⟨rfl, rfl, rfl, trivial⟩
        · have hr : (j - 8) * 4 + i < 72 := by omega
          obtain ⟨f, hrow, hpl⟩ := hW.row hr
          rw [if_neg (by
            rintro (z | z | z | z)
            · exact B2 z
            · have := (nI_leI (a := 24) (b := j) (by decide) (by omega)).mp z; omega
            · exact B3 z
            · have := (nI_ltI (a := 3) (b := i) (by decide) (by omega)).mp z; omega), cl_nI (by omega), cl_nI (by omega), show 4 * j + i = 32 + ((j - 8) * 4 + i) by omega]
          refine J_icmp_geN (pc := 19) (tgt := 26) dX2_waiting_19 rfl (by omega) (by omega) (fun B4 => ?_) (fun B4 => ?_)
          · omega
          · refine J_iconst (pc := 22) (v := nI 1) dX2_waiting_22 (by decide) ?_
            refine J_goto (pc := 23) (tgt := 27) dX2_waiting_23 rfl ?_
            refine J_istore_n (pc := 27) dX2_waiting_27 rfl (by decide) ?_
            refine J_iload_n (pc := 28) dX2_waiting_28 rfl rfl ?_
            refine J_if_eq (pc := 29) (tgt := 44) dX2_waiting_29 rfl (fun hc9 => absurd hc9 ((by decide))) (fun _ => ?_)
            refine J_aload_n (pc := 32) dX2_waiting_32 rfl rfl ?_
            refine J_iload_n (pc := 33) dX2_waiting_33 rfl rfl ?_
            refine J_iload_n (pc := 34) dX2_waiting_34 rfl rfl ?_
            refine J_callV (pc := 35) (cx_queueOf l g (hgt - 1) hW j8 hj hi) qX2_queueOf vX2_queueOf cl1 rfl hW.fo kX2_95 dX2_waiting_35 rfl rfl (Nat.le_of_ble_eq_true rfl) (by omega) (by omega) (by omega) ?_
            rintro _ _ ⟨rfl, rfl⟩
            refine J_callV (pc := 38) (c_Row_size l g (hgt - 1) hrow) qX7_size vX7_size cl5 rfl hrow.1 kX2_114 dX2_waiting_38 rfl rfl (Nat.le_of_ble_eq_true rfl) (by omega) (by omega) (by omega) ?_
            rintro _ _ ⟨rfl, rfl⟩
            refine J_goto (pc := 41) (tgt := 45) dX2_waiting_41 rfl ?_
            refine J_iret (pc := 45) dX2_waiting_45 rfl (by omega) (by omega) ?_
            exact ⟨rfl, rfl⟩
