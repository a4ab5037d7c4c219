set_option maxRecDepth 100000 in
theorem cm_atLeaf (l : Launch) (g : jG) (hgt : Nat) {S : jS} {b : Nat} {ad : Nat → Nat} {X : XS} {leaf k m c p : Nat} (hW : WM S b ad X) (hI : xOK X) (hlf : leaf < 2) (hk : k < 4) (hm : m < 48) (hp : p < 4) (hh : 1 ≤ hgt) : CT l g mX10_atLeaf hgt 0 0 [.ref b, .int (nI leaf), .int (nI k), .int (nI m), .int (nI c), .int (nI p)] S (mPost b ad (x_atLeaf X leaf (k, m, c) p)) := by
  have h1 := hI.msg hm
  have hg : x_goal X k m < 8 := by unfold x_goal; split <;> omega
  have s0 := hI.sp (s := 0) (by decide)
  have s1 := hI.sp (s := 1) (by decide)
  have hs := (hI.sp hlf).2
  refine CT_of qX10_atLeaf (Nat.le_of_ble_eq_true rfl) ?_
  refine J_aload_n (pc := 0) dX10_atLeaf_0 rfl rfl ?_
  refine J_iload_n (pc := 1) dX10_atLeaf_1 rfl rfl ?_
  refine J_iload_n (pc := 2) dX10_atLeaf_2 rfl rfl ?_
  refine J_callV (pc := 3) (cm_goal l g (hgt - 1) hW hk hm) qX10_goal vX10_goal cl8 rfl hW.o kX10_147 dX10_atLeaf_3 rfl rfl (Nat.le_of_ble_eq_true rfl) (by omega) (by omega) (by omega) ?_
  rintro _ _ ⟨rfl, rfl⟩
  refine J_istore (pc := 6) dX10_atLeaf_6 (by decide) ?_
  refine J_iload (pc := 8) dX10_atLeaf_8 rfl ?_
  refine J_iconst (pc := 10) (v := nI 4) dX10_atLeaf_10 (by decide) ?_
  first | refine J_idivN (pc := 11) dX10_atLeaf_11 (by omega) (by omega) (by omega) ?_ | refine J_idiv (pc := 11) dX10_atLeaf_11 (by decide) ?_
  refine J_iload_n (pc := 12) dX10_atLeaf_12 rfl rfl ?_
  refine J_icmp_neN (pc := 13) (tgt := 39) dX10_atLeaf_13 rfl (by omega) (by omega) (fun hl => ?_) (fun hl => ?_)
  · refine J_aload_n (pc := 39) dX10_atLeaf_39 rfl rfl ?_
    refine J_getr (pc := 40) (i := 12) cl8 hW.o (by decide) rfl (hW.r 12 rfl) kX10_37 dX10_atLeaf_40 ?_
    refine J_iconst (pc := 43) (v := nI 0) dX10_atLeaf_43 (by decide) ?_
    refine J_zald (pc := 44) (hW.a 12 rfl) rfl (by decide) (by first | omega | exact mLn_lt _) (hW.2.2.2.1 0 (by decide)) dX10_atLeaf_44 ?_
    have tail : ∀ s, s < 2 → s = x_spine X leaf → ¬ (xV X 6 0 = 1 ∧ xV X 6 1 = 1) → J l g mX10_atLeaf hgt 0 0 (mPost b ad (x_atLeaf X leaf (k, m, c) p)) 102 [(6, .int (nI (x_goal X k m))), (0, .ref b), (1, .int (nI leaf)), (2, .int (nI k)), (3, .int (nI m)), (4, .int (nI c)), (5, .int (nI p))] [.int (nI s)] S 0 0 := by
      intro s hs2 he hno
      refine J_istore (pc := 102) dX10_atLeaf_102 (by decide) ?_
      refine J_aload_n (pc := 104) dX10_atLeaf_104 rfl rfl ?_
      refine J_getr (pc := 105) (i := 13) cl8 hW.o (by decide) rfl (hW.r 13 rfl) kX10_41 dX10_atLeaf_105 ?_
      refine J_iload_n (pc := 108) dX10_atLeaf_108 rfl rfl ?_
      refine J_iload (pc := 109) dX10_atLeaf_109 rfl ?_
      refine J_mst (pc := 111) hW 7 rfl rfl (by show _ < 2; omega) rfl dX10_atLeaf_111 (fun hW => ?_)
      refine J_aload_n (pc := 112) dX10_atLeaf_112 rfl rfl ?_
      refine J_bipush (pc := 113) (v := nI 8) dX10_atLeaf_113 (by decide) ?_
      refine J_bipush (pc := 115) (v := nI 6) dX10_atLeaf_115 (by decide) ?_
      refine J_iload_n (pc := 117) dX10_atLeaf_117 rfl rfl ?_
      first | refine J_imulN (pc := 118) dX10_atLeaf_118 ?_ | refine J_imul (pc := 118) dX10_atLeaf_118 ?_
      first | refine J_iaddN (pc := 119) dX10_atLeaf_119 ?_ | refine J_iadd (pc := 119) dX10_atLeaf_119 ?_
      refine J_iconst (pc := 120) (v := nI 4) dX10_atLeaf_120 (by decide) ?_
      first | refine J_iaddN (pc := 121) dX10_atLeaf_121 ?_ | refine J_iadd (pc := 121) dX10_atLeaf_121 ?_
      refine J_iload (pc := 122) dX10_atLeaf_122 rfl ?_
      first | refine J_iaddN (pc := 124) dX10_atLeaf_124 ?_ | refine J_iadd (pc := 124) dX10_atLeaf_124 ?_
      refine J_iload_n (pc := 125) dX10_atLeaf_125 rfl rfl ?_
      refine J_iload_n (pc := 126) dX10_atLeaf_126 rfl rfl ?_
      refine J_iload (pc := 127) dX10_atLeaf_127 rfl ?_
      refine J_iload (pc := 129) dX10_atLeaf_129 rfl ?_
      refine J_callV (pc := 131) (cm_line l g (hgt - 1) (k := k) (m := m) (c := c) hW (show 8 + 6 * leaf + 4 + s < 24 by omega) hp) qX10_line vX10_line cl8 rfl hW.o kX10_151 dX10_atLeaf_131 rfl rfl (Nat.le_of_ble_eq_true rfl) (by omega) (by omega) (by omega) ?_
      rintro _ _ ⟨rfl, hW⟩
      refine J_vret (pc := 134) dX10_atLeaf_134 rfl (by omega) (by omega) ?_
      refine ⟨rfl, ?_⟩
      rw [x_atLeaf, if_neg hl, if_neg hno, ← he]
      exact hW
    refine J_if_eqN (pc := 45) (tgt := 68) dX10_atLeaf_45 rfl (by omega) (fun h0 => ?_) (fun h0 => ?_)
    · refine J_aload_n (pc := 68) dX10_atLeaf_68 rfl rfl ?_
      refine J_getr (pc := 69) (i := 12) cl8 hW.o (by decide) rfl (hW.r 12 rfl) kX10_37 dX10_atLeaf_69 ?_
      refine J_iconst (pc := 72) (v := nI 0) dX10_atLeaf_72 (by decide) ?_
      refine J_zald (pc := 73) (hW.a 12 rfl) rfl (by decide) (by first | omega | exact mLn_lt _) (hW.2.2.2.1 0 (by decide)) dX10_atLeaf_73 ?_
      refine J_if_eqN (pc := 74) (tgt := 81) dX10_atLeaf_74 rfl (by omega) (fun h0 => ?_) (fun h0 => ?_)
      · refine J_aload_n (pc := 81) dX10_atLeaf_81 rfl rfl ?_
        refine J_getr (pc := 82) (i := 12) cl8 hW.o (by decide) rfl (hW.r 12 rfl) kX10_37 dX10_atLeaf_82 ?_
        refine J_iconst (pc := 85) (v := nI 1) dX10_atLeaf_85 (by decide) ?_
        refine J_zald (pc := 86) (hW.a 12 rfl) rfl (by decide) (by first | omega | exact mLn_lt _) (hW.2.2.2.1 1 (by decide)) dX10_atLeaf_86 ?_
        refine J_if_eqN (pc := 87) (tgt := 94) dX10_atLeaf_87 rfl (by omega) (fun h2 => ?_) (fun h2 => ?_)
        · refine J_iconst (pc := 94) (v := nI 1) dX10_atLeaf_94 (by decide) ?_
          refine J_aload_n (pc := 95) dX10_atLeaf_95 rfl rfl ?_
          refine J_getr (pc := 96) (i := 13) cl8 hW.o (by decide) rfl (hW.r 13 rfl) kX10_41 dX10_atLeaf_96 ?_
          refine J_iload_n (pc := 99) dX10_atLeaf_99 rfl rfl ?_
          refine J_mld (pc := 100) hW 7 rfl rfl (by show _ < 2; omega) dX10_atLeaf_100 ?_
          first | refine J_isubN (pc := 101) dX10_atLeaf_101 (by omega) ?_ | refine J_isub (pc := 101) dX10_atLeaf_101 ?_
          refine J_lvk (tail (1 - xV X 7 leaf) (by omega) (by rw [x_spine, if_neg (by omega), if_neg (by omega)]) (by omega)) (by exact ⟨rfl, rfl, rfl, rfl, rfl, rfl, rfl, trivial⟩)
        · refine J_iconst (pc := 90) (v := nI 0) dX10_atLeaf_90 (by decide) ?_
          refine J_goto (pc := 91) (tgt := 102) dX10_atLeaf_91 rfl ?_
          refine J_lvk (tail 0 (by omega) (by rw [x_spine, if_neg (by omega), if_pos (by omega)]) (by omega)) (by exact ⟨rfl, rfl, rfl, rfl, rfl, rfl, rfl, trivial⟩)
      · omega
    · refine J_aload_n (pc := 48) dX10_atLeaf_48 rfl rfl ?_
      refine J_getr (pc := 49) (i := 12) cl8 hW.o (by decide) rfl (hW.r 12 rfl) kX10_37 dX10_atLeaf_49 ?_
      refine J_iconst (pc := 52) (v := nI 1) dX10_atLeaf_52 (by decide) ?_
      refine J_zald (pc := 53) (hW.a 12 rfl) rfl (by decide) (by first | omega | exact mLn_lt _) (hW.2.2.2.1 1 (by decide)) dX10_atLeaf_53 ?_
      refine J_if_eqN (pc := 54) (tgt := 68) dX10_atLeaf_54 rfl (by omega) (fun h2 => ?_) (fun h2 => ?_)
      · refine J_aload_n (pc := 68) dX10_atLeaf_68 rfl rfl ?_
        refine J_getr (pc := 69) (i := 12) cl8 hW.o (by decide) rfl (hW.r 12 rfl) kX10_37 dX10_atLeaf_69 ?_
        refine J_iconst (pc := 72) (v := nI 0) dX10_atLeaf_72 (by decide) ?_
        refine J_zald (pc := 73) (hW.a 12 rfl) rfl (by decide) (by first | omega | exact mLn_lt _) (hW.2.2.2.1 0 (by decide)) dX10_atLeaf_73 ?_
        refine J_if_eqN (pc := 74) (tgt := 81) dX10_atLeaf_74 rfl (by omega) (fun h3 => ?_) (fun h3 => ?_)
        · omega
        · refine J_iconst (pc := 77) (v := nI 1) dX10_atLeaf_77 (by decide) ?_
          refine J_goto (pc := 78) (tgt := 102) dX10_atLeaf_78 rfl ?_
          refine J_lvk (tail 1 (by omega) (by rw [x_spine, if_pos (by omega)]) (by omega)) (by exact ⟨rfl, rfl, rfl, rfl, rfl, rfl, rfl, trivial⟩)
      · refine J_aload_n (pc := 57) dX10_atLeaf_57 rfl rfl ?_
        refine J_dup (pc := 58) dX10_atLeaf_58 rfl ?_
        refine J_geti (pc := 59) (i := 14) cl8 hW.o (by decide) rfl hW.2.2.1.2.2.1 kX10_144 dX10_atLeaf_59 ?_
        refine J_iconst (pc := 62) (v := nI 1) dX10_atLeaf_62 (by decide) ?_
        first | refine J_iaddN (pc := 63) dX10_atLeaf_63 ?_ | refine J_iadd (pc := 63) dX10_atLeaf_63 ?_
        refine J_mss (pc := 64) hW 14 2 (by decide) rfl kX10_144 dX10_atLeaf_64 (fun hW => ?_)
        refine J_vret (pc := 67) dX10_atLeaf_67 rfl (by omega) (by omega) ?_
        exact ⟨rfl, by rw [x_atLeaf, if_neg hl, if_pos (by omega)]; exact hW⟩
  · refine J_aload_n (pc := 16) dX10_atLeaf_16 rfl rfl ?_
    refine J_bipush (pc := 17) (v := nI 8) dX10_atLeaf_17 (by decide) ?_
    refine J_bipush (pc := 19) (v := nI 6) dX10_atLeaf_19 (by decide) ?_
    refine J_iload_n (pc := 21) dX10_atLeaf_21 rfl rfl ?_
    first | refine J_imulN (pc := 22) dX10_atLeaf_22 ?_ | refine J_imul (pc := 22) dX10_atLeaf_22 ?_
    first | refine J_iaddN (pc := 23) dX10_atLeaf_23 ?_ | refine J_iadd (pc := 23) dX10_atLeaf_23 ?_
    refine J_iload (pc := 24) dX10_atLeaf_24 rfl ?_
    refine J_iconst (pc := 26) (v := nI 4) dX10_atLeaf_26 (by decide) ?_
    first | refine J_iremN (pc := 27) dX10_atLeaf_27 (by omega) (by omega) (by omega) ?_ | refine J_irem (pc := 27) dX10_atLeaf_27 (by decide) ?_
    first | refine J_iaddN (pc := 28) dX10_atLeaf_28 ?_ | refine J_iadd (pc := 28) dX10_atLeaf_28 ?_
    refine J_iload_n (pc := 29) dX10_atLeaf_29 rfl rfl ?_
    refine J_iload_n (pc := 30) dX10_atLeaf_30 rfl rfl ?_
    refine J_iload (pc := 31) dX10_atLeaf_31 rfl ?_
    refine J_iload (pc := 33) dX10_atLeaf_33 rfl ?_
    refine J_callV (pc := 35) (cm_line l g (hgt - 1) (k := k) (m := m) (c := c) hW (show 8 + 6 * leaf + x_goal X k m % 4 < 24 by omega) hp) qX10_line vX10_line cl8 rfl hW.o kX10_151 dX10_atLeaf_35 rfl rfl (Nat.le_of_ble_eq_true rfl) (by omega) (by omega) (by omega) ?_
    rintro _ _ ⟨rfl, hW⟩
    refine J_vret (pc := 38) dX10_atLeaf_38 rfl (by omega) (by omega) ?_
    exact ⟨rfl, by rw [x_atLeaf, if_pos hl]; exact hW⟩
theorem yV_same (X : XS) (f i a b : Nat) : yV (yV X f i a) f i b = yV X f i b := by
  unfold yV
  simp only [Prod.mk.injEq, and_true]
  funext f' i'
  by_cases h : f' = f ∧ i' = i <;> simp [h]
set_option maxRecDepth 100000 in
theorem cm_listen (l : Launch) (g : jG) (hgt : Nat) {S : jS} {b : Nat} {ad : Nat → Nat} {X : XS} {h m : Nat} (hW : WM S b ad X) (hI : xOK X) (hm : m < 48) (hh8 : h < 8) (hk : xV X 19 m = 1) (hh : 1 ≤ hgt) : CT l g mX10_listen hgt 0 0 [.ref b, .int (nI h), .int (nI m)] S (mPost b ad (x_listen X h m)) := by
  have h1 := hI.msg hm
  refine CT_of qX10_listen (Nat.le_of_ble_eq_true rfl) ?_
  refine J_aload_n (pc := 0) dX10_listen_0 rfl rfl ?_
  refine J_getr (pc := 1) (i := 31) cl8 hW.o (by decide) rfl (hW.r 31 rfl) kX10_89 dX10_listen_1 ?_
  refine J_iload_n (pc := 4) dX10_listen_4 rfl rfl ?_
  refine J_dup2_11 (pc := 5) dX10_listen_5 rfl rfl ?_
  refine J_mld (pc := 6) hW 22 rfl rfl (by show _ < 48; omega) dX10_listen_6 ?_
  refine J_iconst (pc := 7) (v := nI 1) dX10_listen_7 (by decide) ?_
  first | refine J_iaddN (pc := 8) dX10_listen_8 ?_ | refine J_iadd (pc := 8) dX10_listen_8 ?_
  refine J_mst (pc := 9) hW 22 rfl rfl (by show _ < 48; omega) rfl dX10_listen_9 (fun hW => ?_)
  refine J_aload_n (pc := 10) dX10_listen_10 rfl rfl ?_
  refine J_getr (pc := 11) (i := 31) cl8 hW.o (by decide) rfl (hW.r 31 rfl) kX10_89 dX10_listen_11 ?_
  refine J_iload_n (pc := 14) dX10_listen_14 rfl rfl ?_
  refine J_mld (pc := 15) hW 22 rfl rfl (by show _ < 48; omega) dX10_listen_15 ?_
  refine J_bipush (pc := 16) (v := nI 16) dX10_listen_16 (by decide) ?_
  simp only [xV_yV, xV_yL, xV_yB, xV_yC, xL_yV, xL_yL, xL_yB, xL_yC, xB_yV, xB_yL, xB_yB, xB_yC, true_and, and_true, and_self, false_and, and_false, reduceIte, Nat.reduceEqDiff, if_true, if_false, reduceCtorEq] 
  refine J_icmp_geN (pc := 18) (tgt := 22) dX10_listen_18 rfl (by omega) (by omega) (fun h2 => ?_) (fun h2 => ?_)
  · refine J_aload_n (pc := 22) dX10_listen_22 rfl rfl ?_
    refine J_getr (pc := 23) (i := 31) cl8 hW.o (by decide) rfl (hW.r 31 rfl) kX10_89 dX10_listen_23 ?_
    refine J_iload_n (pc := 26) dX10_listen_26 rfl rfl ?_
    refine J_iconst (pc := 27) (v := nI 0) dX10_listen_27 (by decide) ?_
    refine J_mst (pc := 28) hW 22 rfl rfl (by show _ < 48; omega) rfl dX10_listen_28 (fun hW => ?_)
    refine J_aload_n (pc := 29) dX10_listen_29 rfl rfl ?_
    refine J_getr (pc := 30) (i := 32) cl8 hW.o (by decide) rfl (hW.r 32 rfl) kX10_92 dX10_listen_30 ?_
    refine J_iload_n (pc := 33) dX10_listen_33 rfl rfl ?_
    refine J_dup2_11 (pc := 34) dX10_listen_34 rfl rfl ?_
    refine J_mld (pc := 35) hW 23 rfl rfl (by show _ < 48; omega) dX10_listen_35 ?_
    refine J_iconst (pc := 36) (v := nI 1) dX10_listen_36 (by decide) ?_
    first | refine J_iaddN (pc := 37) dX10_listen_37 ?_ | refine J_iadd (pc := 37) dX10_listen_37 ?_
    refine J_mst (pc := 38) hW 23 rfl rfl (by show _ < 48; omega) rfl dX10_listen_38 (fun hW => ?_)
    refine J_aload_n (pc := 39) dX10_listen_39 rfl rfl ?_
    refine J_getr (pc := 40) (i := 32) cl8 hW.o (by decide) rfl (hW.r 32 rfl) kX10_92 dX10_listen_40 ?_
    refine J_iload_n (pc := 43) dX10_listen_43 rfl rfl ?_
    refine J_mld (pc := 44) hW 23 rfl rfl (by show _ < 48; omega) dX10_listen_44 ?_
    refine J_bipush (pc := 45) (v := nI 8) dX10_listen_45 (by decide) ?_
    rw [yV_same] at hW
    simp only [xV_yV, xV_yL, xV_yB, xV_yC, xL_yV, xL_yL, xL_yB, xL_yC, xB_yV, xB_yL, xB_yB, xB_yC, true_and, and_true, and_self, false_and, and_false, reduceIte, Nat.reduceEqDiff, if_true, if_false, reduceCtorEq] at hW ⊢
    refine J_icmp_neN (pc := 47) (tgt := 56) dX10_listen_47 rfl (by omega) (by omega) (fun h3 => ?_) (fun h3 => ?_)
    · refine J_iconst (pc := 56) (v := nI 0) dX10_listen_56 (by decide) ?_
      refine J_istore_n (pc := 57) dX10_listen_57 rfl (by decide) ?_
      have hlt : lst (fun i => !xB X 1 m i) 60 < 60 := by
        by_cases z : lst (fun i => !xB X 1 m i) 60 < 60
        · exact z
        · have hz : lst (fun i => !xB X 1 m i) 60 = 60 := Nat.le_antisymm (lst_le _ _) (Nat.not_lt.mp z)
          have := (hI.set m).2.2.1 hk
          have z0 : cnt (fun i => !xB X 1 m i) (xV X 10 m) = 0 := cnt_0 (fun i hi => lst_no (f := fun i => !xB X 1 m i) (n := 60) (by omega))
          rw [x_missing] at this
          omega
      generalize hS2 : uI (uI (uI S 9 (ad (mK 22)) m (nI (xV X 22 m + 1))) 9 (ad (mK 22)) m (nI 0)) 9 (ad (mK 23)) m (nI (xV X 23 m + 1)) = S2 at hW ⊢
      have loop : ∀ i, i ≤ lst (fun i => !xB X 1 m i) 60 → J l g mX10_listen hgt 0 0 (mPost b ad (x_listen X h m)) 58 [(3, .int (nI i)), (0, .ref b), (1, .int (nI h)), (2, .int (nI m))] [] S2 0 0 := by
        refine down _ ?_ ?_
        · refine J_aload_n (pc := 58) dX10_listen_58 rfl rfl ?_
          refine J_getr (pc := 59) (i := 35) cl8 hW.o (by decide) rfl (hW.r 35 rfl) kX10_101 dX10_listen_59 ?_
          refine J_bipush (pc := 62) (v := nI 60) dX10_listen_62 (by decide) ?_
          refine J_iload_n (pc := 64) dX10_listen_64 rfl rfl ?_
          first | refine J_imulN (pc := 65) dX10_listen_65 ?_ | refine J_imul (pc := 65) dX10_listen_65 ?_
          refine J_iload_n (pc := 66) dX10_listen_66 rfl rfl ?_
          first | refine J_iaddN (pc := 67) dX10_listen_67 ?_ | refine J_iadd (pc := 67) dX10_listen_67 ?_
          refine J_zald (pc := 68) (hW.a 35 rfl) rfl (show _ < 2880 by omega) (by first | omega | exact mLn_lt _) (hW.b1 hm (by omega)) dX10_listen_68 ?_
          simp only [xV_yV, xV_yL, xV_yB, xV_yC, xL_yV, xL_yL, xL_yB, xL_yC, xB_yV, xB_yL, xB_yB, xB_yC, true_and, and_true, and_self, false_and, and_false, reduceIte, Nat.reduceEqDiff, if_true, if_false, reduceCtorEq] 
          refine J_if_eqB (pc := 69) (tgt := 78) dX10_listen_69 rfl (fun h4 => ?_) (fun h4 => ?_)
          · refine J_aload_n (pc := 78) dX10_listen_78 rfl rfl ?_
            refine J_iload_n (pc := 79) dX10_listen_79 rfl rfl ?_
            refine J_iconst (pc := 80) (v := nI 2) dX10_listen_80 (by decide) ?_
            refine J_iload_n (pc := 81) dX10_listen_81 rfl rfl ?_
            refine J_bipush (pc := 82) (v := nI 64) dX10_listen_82 (by decide) ?_
            refine J_aload_n (pc := 84) dX10_listen_84 rfl rfl ?_
            refine J_getr (pc := 85) (i := 30) cl8 hW.o (by decide) rfl (hW.r 30 rfl) kX10_86 dX10_listen_85 ?_
            refine J_iload_n (pc := 88) dX10_listen_88 rfl rfl ?_
            refine J_mld (pc := 89) hW 21 rfl rfl (by show _ < 48; omega) dX10_listen_89 ?_
            simp only [xV_yV, xV_yL, xV_yB, xV_yC, xL_yV, xL_yL, xL_yB, xL_yC, xB_yV, xB_yL, xB_yB, xB_yC, true_and, and_true, and_self, false_and, and_false, reduceIte, Nat.reduceEqDiff, if_true, if_false, reduceCtorEq] 
            first | refine J_imulN (pc := 90) dX10_listen_90 ?_ | refine J_imul (pc := 90) dX10_listen_90 ?_
            refine J_iload_n (pc := 91) dX10_listen_91 rfl rfl ?_
            first | refine J_iaddN (pc := 92) dX10_listen_92 ?_ | refine J_iadd (pc := 92) dX10_listen_92 ?_
            refine J_callV (pc := 93) (cm_becomeDue l g (hgt - 1) (k := 2) (m := m) (c := 64 * xV X 21 m + lst (fun i => !xB X 1 m i) 60) hW hh8) qX10_becomeDue vX10_becomeDue cl8 rfl hW.o kX10_169 dX10_listen_93 rfl rfl (Nat.le_of_ble_eq_true rfl) (by omega) (by omega) (by omega) ?_
            rintro _ _ ⟨rfl, hW⟩
            refine J_vret (pc := 96) dX10_listen_96 rfl (by omega) (by omega) ?_
            refine ⟨rfl, ?_⟩
            rw [x_listen, if_neg (by omega), if_neg h3]
            exact hW
          · have := lst_is hlt
            rw [h4] at this
            cases this
        · intro i hi ih
          refine J_aload_n (pc := 58) dX10_listen_58 rfl rfl ?_
          refine J_getr (pc := 59) (i := 35) cl8 hW.o (by decide) rfl (hW.r 35 rfl) kX10_101 dX10_listen_59 ?_
          refine J_bipush (pc := 62) (v := nI 60) dX10_listen_62 (by decide) ?_
          refine J_iload_n (pc := 64) dX10_listen_64 rfl rfl ?_
          first | refine J_imulN (pc := 65) dX10_listen_65 ?_ | refine J_imul (pc := 65) dX10_listen_65 ?_
          refine J_iload_n (pc := 66) dX10_listen_66 rfl rfl ?_
          first | refine J_iaddN (pc := 67) dX10_listen_67 ?_ | refine J_iadd (pc := 67) dX10_listen_67 ?_
          refine J_zald (pc := 68) (hW.a 35 rfl) rfl (show _ < 2880 by omega) (by first | omega | exact mLn_lt _) (hW.b1 hm (by omega)) dX10_listen_68 ?_
          simp only [xV_yV, xV_yL, xV_yB, xV_yC, xL_yV, xL_yL, xL_yB, xL_yC, xB_yV, xB_yL, xB_yB, xB_yC, true_and, and_true, and_self, false_and, and_false, reduceIte, Nat.reduceEqDiff, if_true, if_false, reduceCtorEq] 
          refine J_if_eqB (pc := 69) (tgt := 78) dX10_listen_69 rfl (fun h4 => ?_) (fun h4 => ?_)
          · have := lst_no hi
            rw [h4] at this
            cases this
          · refine J_iinc (pc := 72) dX10_listen_72 rfl (inc1 _) (by decide) ?_
            refine J_goto (pc := 75) (tgt := 58) dX10_listen_75 rfl ?_
            exact J_lvk ih ⟨rfl, rfl, rfl, rfl, trivial⟩
      exact J_lvk (loop 0 (Nat.zero_le _)) ⟨rfl, rfl, rfl, rfl, trivial⟩
    · refine J_aload_n (pc := 50) dX10_listen_50 rfl rfl ?_
      refine J_iload_n (pc := 51) dX10_listen_51 rfl rfl ?_
      refine J_callV (pc := 52) (cm_forget l g (hgt - 1) hW hm) qX10_forget vX10_forget cl8 rfl hW.o kX10_183 dX10_listen_52 rfl rfl (Nat.le_of_ble_eq_true rfl) (by omega) (by omega) (by omega) ?_
      rintro _ _ ⟨rfl, hW⟩
      refine J_vret (pc := 55) dX10_listen_55 rfl (by omega) (by omega) ?_
      refine ⟨rfl, ?_⟩
      rw [x_listen, if_neg (by omega), if_pos h3]
      exact hW
  · refine J_vret (pc := 21) dX10_listen_21 rfl (by omega) (by omega) ?_
    exact ⟨rfl, by rw [x_listen, if_pos (by omega)]; exact hW⟩
set_option maxRecDepth 100000 in
theorem cm_data (l : Launch) (g : jG) (hgt : Nat) {S : jS} {b : Nat} {ad : Nat → Nat} {X : XS} {m c : Nat} (hW : WM S b ad X) (hI : xOK X) (hm : m < 48) (hc60 : c < 60) (hfin : xV X 30 (xV X 9 m) < 2 ^ 31) (hh : 1 ≤ hgt) : CT l g mX10_data hgt 0 0 [.ref b, .int (nI m), .int (nI c)] S (mPost b ad (x_data X m c)) := by
  have h1 := hI.msg hm
  refine CT_of qX10_data (Nat.le_of_ble_eq_true rfl) ?_
  refine J_aload_n (pc := 0) dX10_data_0 rfl rfl ?_
  refine J_getr (pc := 1) (i := 17) cl8 hW.o (by decide) rfl (hW.r 17 rfl) kX10_47 dX10_data_1 ?_
  refine J_iload_n (pc := 4) dX10_data_4 rfl rfl ?_
  refine J_mld (pc := 5) hW 9 rfl rfl (by show _ < 48; omega) dX10_data_5 ?_
  refine J_istore_n (pc := 6) dX10_data_6 rfl (by decide) ?_
  refine J_aload_n (pc := 7) dX10_data_7 rfl rfl ?_
  refine J_getr (pc := 8) (i := 28) cl8 hW.o (by decide) rfl (hW.r 28 rfl) kX10_80 dX10_data_8 ?_
  refine J_iload_n (pc := 11) dX10_data_11 rfl rfl ?_
  refine J_mld (pc := 12) hW 19 rfl rfl (by show _ < 48; omega) dX10_data_12 ?_
  refine J_iconst (pc := 13) (v := nI 2) dX10_data_13 (by decide) ?_
  refine J_icmp_neN (pc := 14) (tgt := 26) dX10_data_14 rfl (by omega) (by omega) (fun h2 => ?_) (fun h2 => ?_)
  · have tail : ∀ (S : jS) (X0 : XS), WM S b ad X0 → X0 = (if xV X 19 m = 0 then x_know X m else X) → J l g mX10_data hgt 0 0 (mPost b ad (x_data X m c)) 90 [(3, .int (nI (xV X 9 m))), (0, .ref b), (1, .int (nI m)), (2, .int (nI c))] [] S 0 0 := by
      intro S X0 hW hX0
      have e10 : xV X0 10 = xV X 10 := by
        rw [hX0]
        split
        · unfold x_know
          rw [xV_nf (by decide), xV_nf (by decide), xV_nf (by decide), xV_nf (by decide)]
        · rfl
      have e9 : xV X0 9 = xV X 9 := by
        rw [hX0]
        split
        · unfold x_know
          rw [xV_nf (by decide), xV_nf (by decide), xV_nf (by decide), xV_nf (by decide)]
        · rfl
      have e30 : xV X0 30 = xV X 30 := by
        rw [hX0]
        split
        · unfold x_know
          rw [xV_nf (by decide), xV_nf (by decide), xV_nf (by decide), xV_nf (by decide)]
        · rfl
      refine J_aload_n (pc := 90) dX10_data_90 rfl rfl ?_
      refine J_getr (pc := 91) (i := 31) cl8 hW.o (by decide) rfl (hW.r 31 rfl) kX10_89 dX10_data_91 ?_
      refine J_iload_n (pc := 94) dX10_data_94 rfl rfl ?_
      refine J_iconst (pc := 95) (v := nI 0) dX10_data_95 (by decide) ?_
      refine J_mst (pc := 96) hW 22 rfl rfl (by show _ < 48; omega) rfl dX10_data_96 (fun hW => ?_)
      refine J_aload_n (pc := 97) dX10_data_97 rfl rfl ?_
      refine J_getr (pc := 98) (i := 32) cl8 hW.o (by decide) rfl (hW.r 32 rfl) kX10_92 dX10_data_98 ?_
      refine J_iload_n (pc := 101) dX10_data_101 rfl rfl ?_
      refine J_iconst (pc := 102) (v := nI 0) dX10_data_102 (by decide) ?_
      refine J_mst (pc := 103) hW 23 rfl rfl (by show _ < 48; omega) rfl dX10_data_103 (fun hW => ?_)
      refine J_aload_n (pc := 104) dX10_data_104 rfl rfl ?_
      refine J_getr (pc := 105) (i := 35) cl8 hW.o (by decide) rfl (hW.r 35 rfl) kX10_101 dX10_data_105 ?_
      refine J_bipush (pc := 108) (v := nI 60) dX10_data_108 (by decide) ?_
      refine J_iload_n (pc := 110) dX10_data_110 rfl rfl ?_
      first | refine J_imulN (pc := 111) dX10_data_111 ?_ | refine J_imul (pc := 111) dX10_data_111 ?_
      refine J_iload_n (pc := 112) dX10_data_112 rfl rfl ?_
      first | refine J_iaddN (pc := 113) dX10_data_113 ?_ | refine J_iadd (pc := 113) dX10_data_113 ?_
      refine J_iconst (pc := 114) (v := nI 1) dX10_data_114 (by decide) ?_
      refine J_zast (pc := 115) (hW.a 35 rfl) rfl (show _ < 2880 by omega) (by first | omega | exact mLn_lt _) rfl dX10_data_115 ?_
      have hW := hW.wB 1 35 (by decide) m c hc60 true
      have hWt : WM _ b ad (x_take X0 m c) := hW
      clear hW
      have hW := hWt
      have e10t : xV (x_take X0 m c) 10 = xV X 10 := by
        unfold x_take
        rw [xV_yB, xV_nf (by decide), xV_nf (by decide), e10]
      have e9t : xV (x_take X0 m c) 9 = xV X 9 := by
        unfold x_take
        rw [xV_yB, xV_nf (by decide), xV_nf (by decide), e9]
      have e30t : xV (x_take X0 m c) 30 = xV X 30 := by
        unfold x_take
        rw [xV_yB, xV_nf (by decide), xV_nf (by decide), e30]
      have c1 : x_missing (x_take X0 m c) m ≤ 60 := Nat.le_trans (cnt_le _ _) (by rw [e10t]; exact h1.1.2.2.1)
      generalize hXt : x_take X0 m c = Xt at hW c1 e10t e9t e30t
      refine J_aload_n (pc := 116) dX10_data_116 rfl rfl ?_
      refine J_iload_n (pc := 117) dX10_data_117 rfl rfl ?_
      refine J_callV (pc := 118) (cm_missing l g (hgt - 1) hW (by rw [e10t]; exact h1.1.2.2.1) hm) qX10_missing vX10_missing cl8 rfl hW.o kX10_173 dX10_data_118 rfl rfl (Nat.le_of_ble_eq_true rfl) (by omega) (by omega) (by omega) ?_
      rintro _ _ ⟨rfl, rfl⟩
      refine J_if_leN (pc := 121) (tgt := 125) dX10_data_121 rfl (by omega) (fun h3 => ?_) (fun h3 => ?_)
      · refine J_aload_n (pc := 125) dX10_data_125 rfl rfl ?_
        refine J_getr (pc := 126) (i := 28) cl8 hW.o (by decide) rfl (hW.r 28 rfl) kX10_80 dX10_data_126 ?_
        refine J_iload_n (pc := 129) dX10_data_129 rfl rfl ?_
        refine J_iconst (pc := 130) (v := nI 2) dX10_data_130 (by decide) ?_
        refine J_mst (pc := 131) hW 19 rfl rfl (by show _ < 48; omega) rfl dX10_data_131 (fun hW => ?_)
        refine J_aload_n (pc := 132) dX10_data_132 rfl rfl ?_
        refine J_getr (pc := 133) (i := 29) cl8 hW.o (by decide) rfl (hW.r 29 rfl) kX10_83 dX10_data_133 ?_
        refine J_iload_n (pc := 136) dX10_data_136 rfl rfl ?_
        refine J_dup2_11 (pc := 137) dX10_data_137 rfl rfl ?_
        refine J_mld (pc := 138) hW 20 rfl rfl (by show _ < 48; omega) dX10_data_138 ?_
        refine J_iconst (pc := 139) (v := nI 1) dX10_data_139 (by decide) ?_
        first | refine J_iaddN (pc := 140) dX10_data_140 ?_ | refine J_iadd (pc := 140) dX10_data_140 ?_
        refine J_mst (pc := 141) hW 20 rfl rfl (by show _ < 48; omega) rfl dX10_data_141 (fun hW => ?_)
        refine J_aload_n (pc := 142) dX10_data_142 rfl rfl ?_
        refine J_getr (pc := 143) (i := 34) cl8 hW.o (by decide) rfl (hW.r 34 rfl) kX10_98 dX10_data_143 ?_
        refine J_iload_n (pc := 146) dX10_data_146 rfl rfl ?_
        refine J_aload_n (pc := 147) dX10_data_147 rfl rfl ?_
        refine J_geti (pc := 148) (i := 1) cl8 hW.o (by decide) rfl hW.2.2.1.1 kX10_177 dX10_data_148 ?_
        refine J_mst (pc := 151) hW 25 rfl rfl (by show _ < 48; omega) rfl dX10_data_151 (fun hW => ?_)
        refine J_aload_n (pc := 152) dX10_data_152 rfl rfl ?_
        refine J_getr (pc := 153) (i := 45) cl8 hW.o (by decide) rfl (hW.r 45 rfl) kX10_131 dX10_data_153 ?_
        refine J_bipush (pc := 156) (v := nI 64) dX10_data_156 (by decide) ?_
        refine J_iload_n (pc := 158) dX10_data_158 rfl rfl ?_
        first | refine J_imulN (pc := 159) dX10_data_159 ?_ | refine J_imul (pc := 159) dX10_data_159 ?_
        refine J_aload_n (pc := 160) dX10_data_160 rfl rfl ?_
        refine J_getr (pc := 161) (i := 44) cl8 hW.o (by decide) rfl (hW.r 44 rfl) kX10_128 dX10_data_161 ?_
        refine J_iload_n (pc := 164) dX10_data_164 rfl rfl ?_
        refine J_mld (pc := 165) hW 30 rfl rfl (by show _ < 8; omega) dX10_data_165 ?_
        simp only [xV_yV, xV_yL, xV_yB, xV_yC, xL_yV, xL_yL, xL_yB, xL_yC, xB_yV, xB_yL, xB_yB, xB_yC, true_and, and_true, and_self, false_and, and_false, reduceIte, Nat.reduceEqDiff, if_true, if_false, reduceCtorEq] 
        rw [e30t]
        refine J_bipush (pc := 166) (v := nI 64) dX10_data_166 (by decide) ?_
        first | refine J_iremN (pc := 168) dX10_data_168 (by omega) (by omega) (by omega) ?_ | refine J_irem (pc := 168) dX10_data_168 (by decide) ?_
        first | refine J_iaddN (pc := 169) dX10_data_169 ?_ | refine J_iadd (pc := 169) dX10_data_169 ?_
        refine J_iload_n (pc := 170) dX10_data_170 rfl rfl ?_
        refine J_mst (pc := 171) hW 31 rfl rfl (by show _ < 512; omega) rfl dX10_data_171 (fun hW => ?_)
        refine J_aload_n (pc := 172) dX10_data_172 rfl rfl ?_
        refine J_getr (pc := 173) (i := 44) cl8 hW.o (by decide) rfl (hW.r 44 rfl) kX10_128 dX10_data_173 ?_
        refine J_iload_n (pc := 176) dX10_data_176 rfl rfl ?_
        refine J_dup2_11 (pc := 177) dX10_data_177 rfl rfl ?_
        refine J_mld (pc := 178) hW 30 rfl rfl (by show _ < 8; omega) dX10_data_178 ?_
        refine J_iconst (pc := 179) (v := nI 1) dX10_data_179 (by decide) ?_
        first | refine J_iaddN (pc := 180) dX10_data_180 ?_ | refine J_iadd (pc := 180) dX10_data_180 ?_
        refine J_mst (pc := 181) hW 30 rfl rfl (by show _ < 8; omega) rfl dX10_data_181 (fun hW => ?_)
        refine J_aload_n (pc := 182) dX10_data_182 rfl rfl ?_
        refine J_iload_n (pc := 183) dX10_data_183 rfl rfl ?_
        refine J_iconst (pc := 184) (v := nI 3) dX10_data_184 (by decide) ?_
        refine J_iload_n (pc := 185) dX10_data_185 rfl rfl ?_
        refine J_iconst (pc := 186) (v := nI 0) dX10_data_186 (by decide) ?_
        simp only [xV_yV, xV_yL, xV_yB, xV_yC, xL_yV, xL_yL, xL_yB, xL_yC, xB_yV, xB_yL, xB_yB, xB_yC, true_and, and_true, and_self, false_and, and_false, reduceIte, Nat.reduceEqDiff, if_true, if_false, reduceCtorEq] at hW ⊢
        rw [e30t] at hW ⊢
        refine J_callV (pc := 187) (cm_becomeDue l g (hgt - 1) (k := 3) (m := m) (c := 0) hW h1.1.2.1) qX10_becomeDue vX10_becomeDue cl8 rfl hW.o kX10_169 dX10_data_187 rfl rfl (Nat.le_of_ble_eq_true rfl) (by omega) (by omega) (by omega) ?_
        rintro _ _ ⟨rfl, hW⟩
        refine J_vret (pc := 190) dX10_data_190 rfl (by omega) (by omega) ?_
        refine ⟨rfl, ?_⟩
        rw [x_data, if_neg h2, ← hX0, hXt, if_neg (by omega), x_finish, e9t, e30t]
        exact hW
      · refine J_vret (pc := 124) dX10_data_124 rfl (by omega) (by omega) ?_
        refine ⟨rfl, ?_⟩
        rw [x_data, if_neg h2, ← hX0, hXt, if_pos h3]
        exact hW
    refine J_aload_n (pc := 26) dX10_data_26 rfl rfl ?_
    refine J_getr (pc := 27) (i := 28) cl8 hW.o (by decide) rfl (hW.r 28 rfl) kX10_80 dX10_data_27 ?_
    refine J_iload_n (pc := 30) dX10_data_30 rfl rfl ?_
    refine J_mld (pc := 31) hW 19 rfl rfl (by show _ < 48; omega) dX10_data_31 ?_
    refine J_if_neN (pc := 32) (tgt := 90) dX10_data_32 rfl (by omega) (fun h4 => ?_) (fun h4 => ?_)
    · exact J_lvk (tail S X hW (by rw [if_neg h4])) ⟨rfl, rfl, rfl, rfl, trivial⟩
    · refine J_aload_n (pc := 35) dX10_data_35 rfl rfl ?_
      refine J_getr (pc := 36) (i := 28) cl8 hW.o (by decide) rfl (hW.r 28 rfl) kX10_80 dX10_data_36 ?_
      refine J_iload_n (pc := 39) dX10_data_39 rfl rfl ?_
      refine J_iconst (pc := 40) (v := nI 1) dX10_data_40 (by decide) ?_
      refine J_mst (pc := 41) hW 19 rfl rfl (by show _ < 48; omega) rfl dX10_data_41 (fun hW => ?_)
      refine J_aload_n (pc := 42) dX10_data_42 rfl rfl ?_
      refine J_getr (pc := 43) (i := 36) cl8 hW.o (by decide) rfl (hW.r 36 rfl) kX10_104 dX10_data_43 ?_
      refine J_iload_n (pc := 46) dX10_data_46 rfl rfl ?_
      refine J_dup2_11 (pc := 47) dX10_data_47 rfl rfl ?_
      refine J_mld (pc := 48) hW 26 rfl rfl (by show _ < 8; omega) dX10_data_48 ?_
      refine J_iconst (pc := 49) (v := nI 1) dX10_data_49 (by decide) ?_
      first | refine J_iaddN (pc := 50) dX10_data_50 ?_ | refine J_iadd (pc := 50) dX10_data_50 ?_
      refine J_mst (pc := 51) hW 26 rfl rfl (by show _ < 8; omega) rfl dX10_data_51 (fun hW => ?_)
      refine J_aload_n (pc := 52) dX10_data_52 rfl rfl ?_
      refine J_getr (pc := 53) (i := 33) cl8 hW.o (by decide) rfl (hW.r 33 rfl) kX10_95 dX10_data_53 ?_
      refine J_iload_n (pc := 56) dX10_data_56 rfl rfl ?_
      refine J_aload_n (pc := 57) dX10_data_57 rfl rfl ?_
      refine J_getr (pc := 58) (i := 36) cl8 hW.o (by decide) rfl (hW.r 36 rfl) kX10_104 dX10_data_58 ?_
      refine J_iload_n (pc := 61) dX10_data_61 rfl rfl ?_
      refine J_mld (pc := 62) hW 26 rfl rfl (by show _ < 8; omega) dX10_data_62 ?_
      refine J_mst (pc := 63) hW 24 rfl rfl (by show _ < 48; omega) rfl dX10_data_63 (fun hW => ?_)
      refine J_aload_n (pc := 64) dX10_data_64 rfl rfl ?_
      refine J_getr (pc := 65) (i := 30) cl8 hW.o (by decide) rfl (hW.r 30 rfl) kX10_86 dX10_data_65 ?_
      refine J_iload_n (pc := 68) dX10_data_68 rfl rfl ?_
      refine J_aload_n (pc := 69) dX10_data_69 rfl rfl ?_
      refine J_getr (pc := 70) (i := 18) cl8 hW.o (by decide) rfl (hW.r 18 rfl) kX10_50 dX10_data_70 ?_
      refine J_iload_n (pc := 73) dX10_data_73 rfl rfl ?_
      refine J_mld (pc := 74) hW 10 rfl rfl (by show _ < 48; omega) dX10_data_74 ?_
      refine J_iconst (pc := 75) (v := nI 4) dX10_data_75 (by decide) ?_
      simp only [xV_yV, xV_yL, xV_yB, xV_yC, xL_yV, xL_yL, xL_yB, xL_yC, xB_yV, xB_yL, xB_yB, xB_yC, true_and, and_true, and_self, false_and, and_false, reduceIte, Nat.reduceEqDiff, if_true, if_false, reduceCtorEq] at hW ⊢
      refine J_icmp_geN (pc := 76) (tgt := 88) dX10_data_76 rfl (by omega) (by omega) (fun h5 => ?_) (fun h5 => ?_)
      · refine J_iconst (pc := 88) (v := nI 4) dX10_data_88 (by decide) ?_
        refine J_mst (pc := 89) hW 21 rfl rfl (by show _ < 48; omega) rfl dX10_data_89 (fun hW => ?_)
        refine J_lvk (tail _ _ hW ?_) ⟨rfl, rfl, rfl, rfl, trivial⟩
        rw [if_pos h4, x_know, if_neg (by omega)]
      · refine J_aload_n (pc := 79) dX10_data_79 rfl rfl ?_
        refine J_getr (pc := 80) (i := 18) cl8 hW.o (by decide) rfl (hW.r 18 rfl) kX10_50 dX10_data_80 ?_
        refine J_iload_n (pc := 83) dX10_data_83 rfl rfl ?_
        refine J_mld (pc := 84) hW 10 rfl rfl (by show _ < 48; omega) dX10_data_84 ?_
        refine J_goto (pc := 85) (tgt := 89) dX10_data_85 rfl ?_
        simp only [xV_yV, xV_yL, xV_yB, xV_yC, xL_yV, xL_yL, xL_yB, xL_yC, xB_yV, xB_yL, xB_yB, xB_yC, true_and, and_true, and_self, false_and, and_false, reduceIte, Nat.reduceEqDiff, if_true, if_false, reduceCtorEq] at hW ⊢
        refine J_mst (pc := 89) hW 21 rfl rfl (by show _ < 48; omega) rfl dX10_data_89 (fun hW => ?_)
        refine J_lvk (tail _ _ hW ?_) ⟨rfl, rfl, rfl, rfl, trivial⟩
        rw [if_pos h4, x_know, if_pos (by omega)]
  · refine J_aload_n (pc := 17) dX10_data_17 rfl rfl ?_
    refine J_iload_n (pc := 18) dX10_data_18 rfl rfl ?_
    refine J_iconst (pc := 19) (v := nI 3) dX10_data_19 (by decide) ?_
    refine J_iload_n (pc := 20) dX10_data_20 rfl rfl ?_
    refine J_iconst (pc := 21) (v := nI 0) dX10_data_21 (by decide) ?_
    refine J_callV (pc := 22) (cm_becomeDue l g (hgt - 1) (k := 3) (m := m) (c := 0) hW h1.1.2.1) qX10_becomeDue vX10_becomeDue cl8 rfl hW.o kX10_169 dX10_data_22 rfl rfl (Nat.le_of_ble_eq_true rfl) (by omega) (by omega) (by omega) ?_
    rintro _ _ ⟨rfl, hW⟩
    refine J_vret (pc := 25) dX10_data_25 rfl (by omega) (by omega) ?_
    exact ⟨rfl, by rw [x_data, if_pos h2]; exact hW⟩
