/-! THE CLASS: whether a packet is in -/
set_option maxRecDepth 100000 in
theorem cx_holds (l : Launch) (g : jG) (hgt : Nat) {S : jS} {w : Nat → Nat → Nat} {hx : Nat} {X : XS} {m : Nat} (i : Int32) (hW : WX S w hx X) (hm : m < xV X 1 0) (h10 : xV X 10 m ≤ 60) (hh : 1 ≤ hgt) : CT l g mX6_holds hgt 0 0 [.ref (w 4 m), .int i] S (jPure (.int (if i < 0 ∨ nI (xV X 10 m) ≤ i then nI 0 else bI (xB X 1 m (cl i)))) S) := by
  refine CT_of qX6_holds (Nat.le_of_ble_eq_true rfl) ?_
  refine J_iload_n (pc := 0) dX6_holds_0 rfl rfl ?_
  refine J_if_lt (pc := 1) (tgt := 27) dX6_holds_1 rfl (fun B1 => ?_) (fun B1 => ?_)
  · rw [if_pos (Or.inl B1)]
    refine J_iconst (pc := 27) (v := nI 0) dX6_holds_27 (by decide) ?_
    refine J_zret (pc := 28) dX6_holds_28 rfl rfl (by omega) (by omega) ?_
    exact ⟨rfl, rfl⟩
  · refine J_iload_n (pc := 4) dX6_holds_4 rfl rfl ?_
    refine J_aload_n (pc := 5) dX6_holds_5 rfl rfl ?_
    refine J_geti (pc := 6) (i := 0) cl4 (hW.q hm) (by decide) rfl (hW.len4 hm) kX6_37 dX6_holds_6 ?_
    refine J_icmp_ge (pc := 9) (tgt := 27) dX6_holds_9 rfl (fun B2 => ?_) (fun B2 => ?_)
    · rw [if_pos (Or.inr B2)]
      refine J_iconst (pc := 27) (v := nI 0) dX6_holds_27 (by decide) ?_
      refine J_zret (pc := 28) dX6_holds_28 rfl rfl (by omega) (by omega) ?_
      exact ⟨rfl, rfl⟩
    · rw [if_neg (fun z => z.elim B1 B2)]
      obtain ⟨j, hj, rfl⟩ : ∃ j : Nat, j < xV X 10 m ∧ i = nI j := by
        rcases pk_ix i (n := xV X 10 m) (by omega) with q | q | q
        · exact absurd q B1
        · exact absurd q B2
        · exact q
      rw [cl_nI (by omega)]
      refine J_aload_n (pc := 12) dX6_holds_12 rfl rfl ?_
      refine J_getl (pc := 13) (i := 4) cl4 (hW.q hm) (by decide) rfl rfl kX6_18 dX6_holds_13 ?_
      refine J_iload_n (pc := 16) dX6_holds_16 rfl rfl ?_
      refine J_callS (pc := 17) (cx_has l g (hgt - 1) (hW.held hm) (show j < 64 by omega)) qX0_has vX0_has kX6_44 dX6_holds_17 rfl rfl (Nat.le_of_ble_eq_true rfl) (by omega) (by omega) (by omega) ?_
      rintro _ _ ⟨rfl, rfl⟩
      refine J_if_eqB (pc := 20) (tgt := 27) dX6_holds_20 rfl (fun B3 => ?_) (fun B3 => ?_)
      · rw [B3]
        refine J_iconst (pc := 27) (v := nI 0) dX6_holds_27 (by decide) ?_
        refine J_zret (pc := 28) dX6_holds_28 rfl rfl (by omega) (by omega) ?_
        exact ⟨rfl, rfl⟩
      · rw [B3]
        refine J_iconst (pc := 23) (v := nI 1) dX6_holds_23 (by decide) ?_
        refine J_goto (pc := 24) (tgt := 28) dX6_holds_24 rfl ?_
        refine J_zret (pc := 28) dX6_holds_28 rfl rfl (by omega) (by omega) ?_
        exact ⟨rfl, rfl⟩
