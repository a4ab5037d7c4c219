/-- of one shape: how many messages, from, to, length, mode -/
def xSm (X Y : XS) : Prop := xV Y 1 = xV X 1 ∧ xV Y 8 = xV X 8 ∧ xV Y 9 = xV X 9 ∧ xV Y 10 = xV X 10 ∧ xV Y 11 = xV X 11
set_option maxRecDepth 100000 in
theorem cm_watch (l : Launch) (g : jG) (hgt : Nat) {S : jS} {b : Nat} {ad : Nat → Nat} {X : XS} {h : Nat} (hW : WM S b ad X) (hI : ∀ i, i ≤ xV X 1 0 → xOK (x_watch X h i) ∧ xSm X (x_watch X h i)) (hh8 : h < 8) (hh : 1 ≤ hgt) : CT l g mX10_watch hgt 0 0 [.ref b, .int (nI h)] S (mPost b ad (x_watch X h (xV X 1 0))) := by
  have h48 : xV X 1 0 ≤ 48 := (hI 0 (Nat.zero_le _)).1.many
  refine CT_of qX10_watch (Nat.le_of_ble_eq_true rfl) ?_
  refine J_iconst (pc := 0) (v := nI 0) dX10_watch_0 (by decide) ?_
  refine J_istore_n (pc := 1) dX10_watch_1 rfl (by decide) ?_
  have loop : ∀ i, i ≤ xV X 1 0 → ∀ S, WM S b ad (x_watch X h i) → J l g mX10_watch hgt 0 0 (mPost b ad (x_watch X h (xV X 1 0))) 2 [(2, .int (nI i)), (0, .ref b), (1, .int (nI h))] [] S 0 0 := by
    refine down _ ?_ ?_
    · intro S hW
      have hN := congrFun (hI _ (Nat.le_refl _)).2.1 0
      refine J_iload_n (pc := 2) dX10_watch_2 rfl rfl ?_
      refine J_aload_n (pc := 3) dX10_watch_3 rfl rfl ?_
      refine J_geti (pc := 4) (i := 2) cl8 hW.o (by decide) rfl hW.2.2.1.2.1 kX10_138 dX10_watch_4 ?_
      rw [hN]
      refine J_icmp_geN (pc := 7) (tgt := 116) dX10_watch_7 rfl (by omega) (by omega) (fun h0 => ?_) (fun h0 => ?_)
      · refine J_vret (pc := 116) dX10_watch_116 rfl (by omega) (by omega) ?_
        exact ⟨rfl, hW⟩
      · omega
    · intro i hi ih S hW
      obtain ⟨hO, hN⟩ := hI i (by omega)
      have hN := congrFun hN.1 0
      have h1 := hO.msg (m := i) (by omega)
      have hs : x_watch X h (i + 1) = if xV (x_watch X h i) 8 i = h ∧ xV (x_watch X h i) 12 i = 0 then x_watch1 (x_watch X h i) i else x_watch X h i := rfl
      generalize x_watch X h i = Y at hW h1 hs hN
      have next : ∀ S', WM S' b ad (x_watch X h (i + 1)) → J l g mX10_watch hgt 0 0 (mPost b ad (x_watch X h (xV X 1 0))) 110 [(2, .int (nI i)), (0, .ref b), (1, .int (nI h))] [] S' 0 0 := by
        intro S' hW'
        refine J_iinc (pc := 110) dX10_watch_110 rfl (inc1 _) (by decide) ?_
        refine J_goto (pc := 113) (tgt := 2) dX10_watch_113 rfl ?_
        exact J_lvk (ih S' hW') ⟨rfl, rfl, rfl, trivial⟩
      refine J_iload_n (pc := 2) dX10_watch_2 rfl rfl ?_
      refine J_aload_n (pc := 3) dX10_watch_3 rfl rfl ?_
      refine J_geti (pc := 4) (i := 2) cl8 hW.o (by decide) rfl hW.2.2.1.2.1 kX10_138 dX10_watch_4 ?_
      rw [hN]
      refine J_icmp_geN (pc := 7) (tgt := 116) dX10_watch_7 rfl (by omega) (by omega) (fun h0 => ?_) (fun h0 => ?_)
      · omega
      · refine J_aload_n (pc := 10) dX10_watch_10 rfl rfl ?_
        refine J_getr (pc := 11) (i := 16) cl8 hW.o (by decide) rfl (hW.r 16 rfl) kX10_44 dX10_watch_11 ?_
        refine J_iload_n (pc := 14) dX10_watch_14 rfl rfl ?_
        refine J_mld (pc := 15) hW 8 rfl rfl (by show _ < 48; omega) dX10_watch_15 ?_
        refine J_iload_n (pc := 16) dX10_watch_16 rfl rfl ?_
        refine J_icmp_neN (pc := 17) (tgt := 110) dX10_watch_17 rfl (by omega) (by omega) (fun h2 => ?_) (fun h2 => ?_)
        · exact next S (by rw [hs, if_neg (fun z => h2 z.1)]; exact hW)
        · refine J_aload_n (pc := 20) dX10_watch_20 rfl rfl ?_
          refine J_getr (pc := 21) (i := 20) cl8 hW.o (by decide) rfl (hW.r 20 rfl) kX10_56 dX10_watch_21 ?_
          refine J_iload_n (pc := 24) dX10_watch_24 rfl rfl ?_
          refine J_mld (pc := 25) hW 12 rfl rfl (by show _ < 48; omega) dX10_watch_25 ?_
          refine J_if_eqN (pc := 26) (tgt := 32) dX10_watch_26 rfl (by omega) (fun h3 => ?_) (fun h3 => ?_)
          · rw [if_pos ⟨h2, h3⟩] at hs
            refine J_aload_n (pc := 32) dX10_watch_32 rfl rfl ?_
            refine J_getr (pc := 33) (i := 24) cl8 hW.o (by decide) rfl (hW.r 24 rfl) kX10_68 dX10_watch_33 ?_
            refine J_iload_n (pc := 36) dX10_watch_36 rfl rfl ?_
            refine J_dup2_11 (pc := 37) dX10_watch_37 rfl rfl ?_
            refine J_mld (pc := 38) hW 16 rfl rfl (by show _ < 48; omega) dX10_watch_38 ?_
            refine J_iconst (pc := 39) (v := nI 1) dX10_watch_39 (by decide) ?_
            first | refine J_iaddN (pc := 40) dX10_watch_40 ?_ | refine J_iadd (pc := 40) dX10_watch_40 ?_
            refine J_mst (pc := 41) hW 16 rfl rfl (by show _ < 48; omega) rfl dX10_watch_41 (fun hW => ?_)
            refine J_aload_n (pc := 42) dX10_watch_42 rfl rfl ?_
            refine J_getr (pc := 43) (i := 24) cl8 hW.o (by decide) rfl (hW.r 24 rfl) kX10_68 dX10_watch_43 ?_
            refine J_iload_n (pc := 46) dX10_watch_46 rfl rfl ?_
            refine J_mld (pc := 47) hW 16 rfl rfl (by show _ < 48; omega) dX10_watch_47 ?_
            refine J_bipush (pc := 48) (v := nI 40) dX10_watch_48 (by decide) ?_
            simp only [xV_yV, xV_yL, xV_yB, xV_yC, xL_yV, xL_yL, xL_yB, xL_yC, xB_yV, xB_yL, xB_yB, xB_yC, true_and, and_true, and_self, false_and, and_false, reduceIte, Nat.reduceEqDiff, if_true, if_false, reduceCtorEq] at hW ⊢
            refine J_icmp_geN (pc := 50) (tgt := 56) dX10_watch_50 rfl (by omega) (by omega) (fun h4 => ?_) (fun h4 => ?_)
            · refine J_aload_n (pc := 56) dX10_watch_56 rfl rfl ?_
              refine J_getr (pc := 57) (i := 24) cl8 hW.o (by decide) rfl (hW.r 24 rfl) kX10_68 dX10_watch_57 ?_
              refine J_iload_n (pc := 60) dX10_watch_60 rfl rfl ?_
              refine J_iconst (pc := 61) (v := nI 0) dX10_watch_61 (by decide) ?_
              refine J_mst (pc := 62) hW 16 rfl rfl (by show _ < 48; omega) rfl dX10_watch_62 (fun hW => ?_)
              refine J_aload_n (pc := 63) dX10_watch_63 rfl rfl ?_
              refine J_getr (pc := 64) (i := 25) cl8 hW.o (by decide) rfl (hW.r 25 rfl) kX10_71 dX10_watch_64 ?_
              refine J_iload_n (pc := 67) dX10_watch_67 rfl rfl ?_
              refine J_dup2_11 (pc := 68) dX10_watch_68 rfl rfl ?_
              refine J_mld (pc := 69) hW 17 rfl rfl (by show _ < 48; omega) dX10_watch_69 ?_
              refine J_iconst (pc := 70) (v := nI 1) dX10_watch_70 (by decide) ?_
              first | refine J_iaddN (pc := 71) dX10_watch_71 ?_ | refine J_iadd (pc := 71) dX10_watch_71 ?_
              refine J_mst (pc := 72) hW 17 rfl rfl (by show _ < 48; omega) rfl dX10_watch_72 (fun hW => ?_)
              refine J_aload_n (pc := 73) dX10_watch_73 rfl rfl ?_
              refine J_getr (pc := 74) (i := 25) cl8 hW.o (by decide) rfl (hW.r 25 rfl) kX10_71 dX10_watch_74 ?_
              refine J_iload_n (pc := 77) dX10_watch_77 rfl rfl ?_
              refine J_mld (pc := 78) hW 17 rfl rfl (by show _ < 48; omega) dX10_watch_78 ?_
              refine J_bipush (pc := 79) (v := nI 6) dX10_watch_79 (by decide) ?_
              rw [yV_same] at hW
              simp only [xV_yV, xV_yL, xV_yB, xV_yC, xL_yV, xL_yL, xL_yB, xL_yC, xB_yV, xB_yL, xB_yB, xB_yC, true_and, and_true, and_self, false_and, and_false, reduceIte, Nat.reduceEqDiff, if_true, if_false, reduceCtorEq] at hW ⊢
              refine J_icmp_neN (pc := 81) (tgt := 104) dX10_watch_81 rfl (by omega) (by omega) (fun h5 => ?_) (fun h5 => ?_)
              · refine J_aload_n (pc := 104) dX10_watch_104 rfl rfl ?_
                refine J_iload_n (pc := 105) dX10_watch_105 rfl rfl ?_
                refine J_iconst (pc := 106) (v := nI 0) dX10_watch_106 (by decide) ?_
                refine J_callV (pc := 107) (cm_want2 l g (hgt - 1) (i := 0) hW (by simp only [xV_yV]; simp; omega) (by omega) (by omega)) qX10_want vX10_want cl8 rfl hW.o kX10_194 dX10_watch_107 rfl rfl (Nat.le_of_ble_eq_true rfl) (by omega) (by omega) (by omega) ?_
                rintro _ _ ⟨rfl, hW⟩
                refine next _ ?_
                rw [hs, x_watch1, if_neg (by omega), if_neg h5]
                exact hW
              · refine J_aload_n (pc := 84) dX10_watch_84 rfl rfl ?_
                refine J_getr (pc := 85) (i := 20) cl8 hW.o (by decide) rfl (hW.r 20 rfl) kX10_56 dX10_watch_85 ?_
                refine J_iload_n (pc := 88) dX10_watch_88 rfl rfl ?_
                refine J_iconst (pc := 89) (v := nI 2) dX10_watch_89 (by decide) ?_
                refine J_mst (pc := 90) hW 12 rfl rfl (by show _ < 48; omega) rfl dX10_watch_90 (fun hW => ?_)
                refine J_aload_n (pc := 91) dX10_watch_91 rfl rfl ?_
                refine J_getr (pc := 92) (i := 26) cl8 hW.o (by decide) rfl (hW.r 26 rfl) kX10_74 dX10_watch_92 ?_
                refine J_iload_n (pc := 95) dX10_watch_95 rfl rfl ?_
                refine J_aload_n (pc := 96) dX10_watch_96 rfl rfl ?_
                refine J_geti (pc := 97) (i := 1) cl8 hW.o (by decide) rfl hW.2.2.1.1 kX10_177 dX10_watch_97 ?_
                refine J_mst (pc := 100) hW 18 rfl rfl (by show _ < 48; omega) rfl dX10_watch_100 (fun hW => ?_)
                refine J_goto (pc := 101) (tgt := 110) dX10_watch_101 rfl ?_
                simp only [xV_yV, xV_yL, xV_yB, xV_yC, xL_yV, xL_yL, xL_yB, xL_yC, xB_yV, xB_yL, xB_yB, xB_yC, true_and, and_true, and_self, false_and, and_false, reduceIte, Nat.reduceEqDiff, if_true, if_false, reduceCtorEq] at hW ⊢
                refine next _ ?_
                rw [hs, x_watch1, if_neg (by omega), if_pos h5]
                exact hW
            · refine J_goto (pc := 53) (tgt := 110) dX10_watch_53 rfl ?_
              refine next _ ?_
              rw [hs, x_watch1, if_pos (by omega)]
              exact hW
          · refine J_goto (pc := 29) (tgt := 110) dX10_watch_29 rfl ?_
            exact next S (by rw [hs, if_neg (fun z => h3 z.2)]; exact hW)
  exact loop 0 (Nat.zero_le _) S hW
