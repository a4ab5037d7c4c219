/-! THE CLASS: how many packets are under way -/
set_option maxRecDepth 100000 in
theorem cx_underWay (l : Launch) (g : jG) (hgt : Nat) {S : jS} {w : Nat → Nat → Nat} {hx : Nat} {X : XS} (hW : WX S w hx X) (hI : xOK X) (hh : 1 ≤ hgt) : CT l g mX2_underWay hgt 0 0 [.ref (w 1 0)] S (jPure (.int (nI (x_under X 24 + x_wait X 64))) S) := by
  refine CT_of qX2_underWay (Nat.le_of_ble_eq_true rfl) ?_
  refine J_iconst (pc := 0) (v := nI 0) dX2_underWay_0 (by decide) ?_
  refine J_istore_n (pc := 1) dX2_underWay_1 rfl (by decide) ?_
  refine J_iconst (pc := 2) (v := nI 0) dX2_underWay_2 (by decide) ?_
  refine J_istore_n (pc := 3) dX2_underWay_3 rfl (by decide) ?_
  have loop2 : ∀ j, j ≤ 64 → J l g mX2_underWay hgt 0 0 (jPure (.int (nI (x_under X 24 + x_wait X 64))) S) 36 [(2, .int (nI j)), (1, .int (nI (x_under X 24 + x_wait X j))), (0, .ref (w 1 0))] [] S 0 0 := by
    refine down _ ?_ ?_
    · refine J_iload_n (pc := 36) dX2_underWay_36 rfl rfl ?_
      refine J_aload_n (pc := 37) dX2_underWay_37 rfl rfl ?_
      refine J_getr (pc := 38) (i := 2) cl1 hW.fo (by decide) rfl hW.f2 kX2_20 dX2_underWay_38 ?_
      refine J_alenR (pc := 41) (hW.aq.1) (congrArg nI hW.aq.2) dX2_underWay_41 ?_
      refine J_icmp_geN (pc := 42) (tgt := 63) dX2_underWay_42 rfl (by omega) (by omega) (fun B => ?_) (fun B => ?_)
      · refine J_iload_n (pc := 63) dX2_underWay_63 rfl rfl ?_
        refine J_iret (pc := 64) dX2_underWay_64 rfl (by omega) (by omega) ?_
        exact ⟨rfl, rfl⟩
      · omega
    · intro j hj ih
      obtain ⟨f, hrow, hpl⟩ := hW.row (r := j) (by omega)
      refine J_iload_n (pc := 36) dX2_underWay_36 rfl rfl ?_
      refine J_aload_n (pc := 37) dX2_underWay_37 rfl rfl ?_
      refine J_getr (pc := 38) (i := 2) cl1 hW.fo (by decide) rfl hW.f2 kX2_20 dX2_underWay_38 ?_
      refine J_alenR (pc := 41) (hW.aq.1) (congrArg nI hW.aq.2) dX2_underWay_41 ?_
      refine J_icmp_geN (pc := 42) (tgt := 63) dX2_underWay_42 rfl (by omega) (by omega) (fun B => ?_) (fun B => ?_)
      · omega
      · refine J_iload_n (pc := 45) dX2_underWay_45 rfl rfl ?_
        refine J_aload_n (pc := 46) dX2_underWay_46 rfl rfl ?_
        refine J_getr (pc := 47) (i := 2) cl1 hW.fo (by decide) rfl hW.f2 kX2_20 dX2_underWay_47 ?_
        refine J_iload_n (pc := 50) dX2_underWay_50 rfl rfl ?_
        refine J_rald13 (pc := 51) hW.aq rfl hj (by first | omega | exact mLn_lt _) (hW.r 13 0 j Nat.one_pos (if_pos hj)) dX2_underWay_51 ?_
        refine J_callV (pc := 52) (c_Row_size l g (hgt - 1) hrow) qX7_size vX7_size cl5 rfl hrow.1 kX2_114 dX2_underWay_52 rfl rfl (Nat.le_of_ble_eq_true rfl) (by omega) (by omega) (by omega) ?_
        rintro _ _ ⟨rfl, rfl⟩
        refine J_iaddN dX2_underWay_55 ?_
        refine J_istore_n (pc := 56) dX2_underWay_56 rfl (by decide) ?_
        refine J_iinc (pc := 57) dX2_underWay_57 rfl (inc1 _) (by decide) ?_
        refine J_goto (pc := 60) (tgt := 36) dX2_underWay_60 rfl ?_
        refine J_lvk ih ⟨rfl, ?_, rfl, trivial⟩
        show _ = some (Value.int (nI (x_under X 24 + (x_wait X j + (xL X (32 + j)).length))))
        rw [← Nat.add_assoc]
        rfl
  have loop1 : ∀ i, i ≤ 24 → J l g mX2_underWay hgt 0 0 (jPure (.int (nI (x_under X 24 + x_wait X 64))) S) 4 [(2, .int (nI i)), (1, .int (nI (x_under X i))), (0, .ref (w 1 0))] [] S 0 0 := by
    refine down _ ?_ ?_
    · refine J_iload_n (pc := 4) dX2_underWay_4 rfl rfl ?_
      refine J_bipush (pc := 5) (v := nI 24) dX2_underWay_5 (by decide) ?_
      refine J_icmp_geN (pc := 7) (tgt := 34) dX2_underWay_7 rfl (by omega) (by omega) (fun B => ?_) (fun B => ?_)
      · refine J_iconst (pc := 34) (v := nI 0) dX2_underWay_34 (by decide) ?_
        refine J_istore_n (pc := 35) dX2_underWay_35 rfl (by decide) ?_
        exact J_lvk (loop2 0 (by omega)) ⟨rfl, rfl, rfl, trivial⟩
      · omega
    · intro i hi ih
      have hs : x_under X (i + 1) = x_under X i + if (xL X (200 + i)).length = 0 then 0 else 1 := rfl
      have hlk := hW.lnk hi
      rw [hs] at ih
      refine J_iload_n (pc := 4) dX2_underWay_4 rfl rfl ?_
      refine J_bipush (pc := 5) (v := nI 24) dX2_underWay_5 (by decide) ?_
      refine J_icmp_geN (pc := 7) (tgt := 34) dX2_underWay_7 rfl (by omega) (by omega) (fun B => ?_) (fun B => ?_)
      · omega
      · cases hl : xL X (200 + i) with
        | nil =>
          rw [hl, List.length_nil, if_pos rfl] at ih
          rw [hl] at hlk
          refine J_iload_n (pc := 10) dX2_underWay_10 rfl rfl ?_
          refine J_aload_n (pc := 11) dX2_underWay_11 rfl rfl ?_
          refine J_getr (pc := 12) (i := 0) cl1 hW.fo (by decide) rfl hW.f0 kX2_11 dX2_underWay_12 ?_
          refine J_iload_n (pc := 15) dX2_underWay_15 rfl rfl ?_
          refine J_iald (pc := 16) hW.a72 rfl hi (by first | omega | exact mLn_lt _) hlk dX2_underWay_16 ?_
          refine J_iconst (pc := 17) (v := (-1)) dX2_underWay_17 (by decide) ?_
          refine J_icmp_ne (pc := 18) (tgt := 25) dX2_underWay_18 rfl (fun hc9 => absurd (rfl) hc9) (fun _ => ?_)
          refine J_iconst (pc := 21) (v := nI 0) dX2_underWay_21 (by decide) ?_
          refine J_goto (pc := 22) (tgt := 26) dX2_underWay_22 rfl ?_
          refine J_iaddN (b := 0) dX2_underWay_26 ?_
          refine J_istore_n (pc := 27) dX2_underWay_27 rfl (by decide) ?_
          refine J_iinc (pc := 28) dX2_underWay_28 rfl (inc1 _) (by decide) ?_
          refine J_goto (pc := 31) (tgt := 4) dX2_underWay_31 rfl ?_
          exact J_lvk ih ⟨rfl, rfl, rfl, trivial⟩
        | cons e t =>
          have ho : okP X e (xV X 5 i) := hI.okP (q := 200 + i) (by rw [hl]; exact List.mem_cons_self) (by have := (hI.link hi).2; omega)
          have hlt := ho.lt
          rw [hl, List.length_cons, if_neg (by omega)] at ih
          rw [hl] at hlk
          have hlk : sI S 9 (w 9 72) i = nI (pkF (xV X 8) (xV X 9) e (xV X 5 i)) := hlk
          refine J_iload_n (pc := 10) dX2_underWay_10 rfl rfl ?_
          refine J_aload_n (pc := 11) dX2_underWay_11 rfl rfl ?_
          refine J_getr (pc := 12) (i := 0) cl1 hW.fo (by decide) rfl hW.f0 kX2_11 dX2_underWay_12 ?_
          refine J_iload_n (pc := 15) dX2_underWay_15 rfl rfl ?_
          refine J_iald (pc := 16) hW.a72 rfl hi (by first | omega | exact mLn_lt _) hlk dX2_underWay_16 ?_
          refine J_iconst (pc := 17) (v := (-1)) dX2_underWay_17 (by decide) ?_
          refine J_icmp_ne (pc := 18) (tgt := 25) dX2_underWay_18 rfl (fun _ => ?_) (fun hc9 => absurd hc9 ((nI_m1 (by omega))))
          refine J_iconst (pc := 25) (v := nI 1) dX2_underWay_25 (by decide) ?_
          refine J_iaddN (b := 1) dX2_underWay_26 ?_
          refine J_istore_n (pc := 27) dX2_underWay_27 rfl (by decide) ?_
          refine J_iinc (pc := 28) dX2_underWay_28 rfl (inc1 _) (by decide) ?_
          refine J_goto (pc := 31) (tgt := 4) dX2_underWay_31 rfl ?_
          exact J_lvk ih ⟨rfl, rfl, rfl, trivial⟩
  exact J_lvk (loop1 0 (by omega)) ⟨rfl, rfl, rfl, trivial⟩
