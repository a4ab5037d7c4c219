set_option maxRecDepth 100000 in
theorem cm_arrive (l : Launch) (g : jG) (hgt : Nat) {S : jS} {b : Nat} {ad : Nat → Nat} {X : XS} {link : Nat} {e : Nat × Nat × Nat} {t : List (Nat × Nat × Nat)} (hW : WM S b ad X) (hI : xOK X) (hF : ∀ h, h < 8 → xV X 30 h < 2 ^ 31) (hl : link < 24) (he : xL X (200 + link) = e :: t) (hh : 2 ≤ hgt) : CT l g mX10_arrive hgt 0 0 [.ref b, .int (nI link)] S (mPost b ad (x_arrive X link)) := by
  obtain ⟨v1, v2, v3⟩ := (hW.2.2.2.2.2.1 link hl).2 e t he
  obtain ⟨o1, o2, o3, o4, -⟩ := hI.list.1 (200 + link) e (by rw [he]; exact List.mem_cons_self)
  have h48 := hI.many
  have hm : e.2.1 < 48 := by omega
  have h1 := hI.msg hm
  have hp := (hI.link hl).2
  have hI2 : xOK (yL X (200 + link) []) := hI.clrL _
  have fin : x_arrive X link = (if link < 8 then x_atLeaf (yL X (200 + link) []) (link / 4) e (xV X 5 link)
    else if 20 ≤ link then x_atLeaf (yL X (200 + link) []) ((link - 20) % 2) e (xV X 5 link)
    else if 4 ≤ (link - 8) % 6 then
      (if xV X 6 ((link - 8) % 6 - 4) = 1 then x_drop (yL X (200 + link) []) else x_line (yL X (200 + link) []) (20 + 2 * ((link - 8) % 6 - 4) + x_goal X e.1 e.2.1 / 4) e (xV X 5 link))
    else if e.1 = 0 then x_data (yL X (200 + link) []) e.2.1 e.2.2
    else x_answer (yL X (200 + link) []) e.1 e.2.1 e.2.2) := by
    rw [x_arrive, he]
  refine CT_of qX10_arrive (Nat.le_of_ble_eq_true rfl) ?_
  refine J_aload_n (pc := 0) dX10_arrive_0 rfl rfl ?_
  refine J_getr (pc := 1) (i := 3) cl8 hW.o (by decide) rfl (hW.r 3 rfl) kX10_7 dX10_arrive_1 ?_
  refine J_iload_n (pc := 4) dX10_arrive_4 rfl rfl ?_
  refine J_iald (pc := 5) (hW.a 3 rfl) rfl hl (by first | omega | exact mLn_lt _) v1 dX10_arrive_5 ?_
  refine J_istore_n (pc := 6) dX10_arrive_6 rfl (by decide) ?_
  refine J_aload_n (pc := 7) dX10_arrive_7 rfl rfl ?_
  refine J_getr (pc := 8) (i := 4) cl8 hW.o (by decide) rfl (hW.r 4 rfl) kX10_13 dX10_arrive_8 ?_
  refine J_iload_n (pc := 11) dX10_arrive_11 rfl rfl ?_
  refine J_iald (pc := 12) (hW.a 4 rfl) rfl hl (by first | omega | exact mLn_lt _) v2 dX10_arrive_12 ?_
  refine J_istore_n (pc := 13) dX10_arrive_13 rfl (by decide) ?_
  refine J_aload_n (pc := 14) dX10_arrive_14 rfl rfl ?_
  refine J_getr (pc := 15) (i := 5) cl8 hW.o (by decide) rfl (hW.r 5 rfl) kX10_16 dX10_arrive_15 ?_
  refine J_iload_n (pc := 18) dX10_arrive_18 rfl rfl ?_
  refine J_iald (pc := 19) (hW.a 5 rfl) rfl hl (by first | omega | exact mLn_lt _) v3 dX10_arrive_19 ?_
  refine J_istore (pc := 20) dX10_arrive_20 (by decide) ?_
  refine J_aload_n (pc := 22) dX10_arrive_22 rfl rfl ?_
  refine J_getr (pc := 23) (i := 6) cl8 hW.o (by decide) rfl (hW.r 6 rfl) kX10_19 dX10_arrive_23 ?_
  refine J_iload_n (pc := 26) dX10_arrive_26 rfl rfl ?_
  refine J_mld (pc := 27) hW 5 rfl rfl (by show _ < 24; omega) dX10_arrive_27 ?_
  refine J_istore (pc := 28) dX10_arrive_28 (by decide) ?_
  refine J_aload_n (pc := 30) dX10_arrive_30 rfl rfl ?_
  refine J_getr (pc := 31) (i := 3) cl8 hW.o (by decide) rfl (hW.r 3 rfl) kX10_7 dX10_arrive_31 ?_
  refine J_iload_n (pc := 34) dX10_arrive_34 rfl rfl ?_
  refine J_iconst (pc := 35) (v := (-1)) dX10_arrive_35 (by decide) ?_
  refine J_iast (pc := 36) (hW.a 3 rfl) rfl hl (by first | omega | exact mLn_lt _) dX10_arrive_36 ?_
  have hW := hW.wL0 link
  refine J_iload_n (pc := 37) dX10_arrive_37 rfl rfl ?_
  refine J_bipush (pc := 38) (v := nI 8) dX10_arrive_38 (by decide) ?_
  refine J_icmp_geN (pc := 40) (tgt := 59) dX10_arrive_40 rfl (by omega) (by omega) (fun c1 => ?_) (fun c1 => ?_)
  · refine J_iload_n (pc := 59) dX10_arrive_59 rfl rfl ?_
    refine J_bipush (pc := 60) (v := nI 20) dX10_arrive_60 (by decide) ?_
    refine J_icmp_ltN (pc := 62) (tgt := 84) dX10_arrive_62 rfl (by omega) (by omega) (fun c2 => ?_) (fun c2 => ?_)
    · refine J_iload_n (pc := 84) dX10_arrive_84 rfl rfl ?_
      refine J_bipush (pc := 85) (v := nI 8) dX10_arrive_85 (by decide) ?_
      first | refine J_isubN (pc := 87) dX10_arrive_87 (by omega) ?_ | refine J_isub (pc := 87) dX10_arrive_87 ?_
      refine J_bipush (pc := 88) (v := nI 6) dX10_arrive_88 (by decide) ?_
      first | refine J_iremN (pc := 90) dX10_arrive_90 (by omega) (by omega) (by omega) ?_ | refine J_irem (pc := 90) dX10_arrive_90 (by decide) ?_
      refine J_iconst (pc := 91) (v := nI 4) dX10_arrive_91 (by decide) ?_
      refine J_icmp_ltN (pc := 92) (tgt := 158) dX10_arrive_92 rfl (by omega) (by omega) (fun c3 => ?_) (fun c3 => ?_)
      · rw [if_neg (by omega), if_neg (by omega), if_neg (by omega)] at fin
        refine J_iload_n (pc := 158) dX10_arrive_158 rfl rfl ?_
        refine J_if_neN (pc := 159) (tgt := 172) dX10_arrive_159 rfl (by omega) (fun c4 => ?_) (fun c4 => ?_)
        · rw [if_neg c4] at fin
          refine J_aload_n (pc := 172) dX10_arrive_172 rfl rfl ?_
          refine J_iload_n (pc := 173) dX10_arrive_173 rfl rfl ?_
          refine J_iload_n (pc := 174) dX10_arrive_174 rfl rfl ?_
          refine J_iload (pc := 175) dX10_arrive_175 rfl ?_
          refine J_callV (pc := 177) (cm_answer l g (hgt - 1) hW hI2 hm o1 o3 (by omega)) qX10_answer vX10_answer cl8 rfl hW.o kX10_162 dX10_arrive_177 rfl rfl (Nat.le_of_ble_eq_true rfl) (by omega) (by omega) (by omega) ?_
          rintro _ _ ⟨rfl, hW⟩
          refine J_vret (pc := 180) dX10_arrive_180 rfl (by omega) (by omega) ?_
          exact ⟨rfl, by rw [fin]; exact hW⟩
        · rw [if_pos c4] at fin
          refine J_aload_n (pc := 162) dX10_arrive_162 rfl rfl ?_
          refine J_iload_n (pc := 163) dX10_arrive_163 rfl rfl ?_
          refine J_iload (pc := 164) dX10_arrive_164 rfl ?_
          refine J_callV (pc := 166) (cm_data l g (hgt - 1) hW hI2 hm (by have := o4 c4; omega) (hF _ h1.1.2.1) (by omega)) qX10_data vX10_data cl8 rfl hW.o kX10_158 dX10_arrive_166 rfl rfl (Nat.le_of_ble_eq_true rfl) (by omega) (by omega) (by omega) ?_
          rintro _ _ ⟨rfl, hW⟩
          refine J_goto (pc := 169) (tgt := 180) dX10_arrive_169 rfl ?_
          refine J_vret (pc := 180) dX10_arrive_180 rfl (by omega) (by omega) ?_
          exact ⟨rfl, by rw [fin]; exact hW⟩
      · rw [if_neg (by omega), if_neg (by omega), if_pos (by omega)] at fin
        have hs := hI.sp (s := (link - 8) % 6 - 4) (by omega)
        refine J_iload_n (pc := 95) dX10_arrive_95 rfl rfl ?_
        refine J_bipush (pc := 96) (v := nI 8) dX10_arrive_96 (by decide) ?_
        first | refine J_isubN (pc := 98) dX10_arrive_98 (by omega) ?_ | refine J_isub (pc := 98) dX10_arrive_98 ?_
        refine J_bipush (pc := 99) (v := nI 6) dX10_arrive_99 (by decide) ?_
        first | refine J_iremN (pc := 101) dX10_arrive_101 (by omega) (by omega) (by omega) ?_ | refine J_irem (pc := 101) dX10_arrive_101 (by decide) ?_
        refine J_iconst (pc := 102) (v := nI 4) dX10_arrive_102 (by decide) ?_
        first | refine J_isubN (pc := 103) dX10_arrive_103 (by omega) ?_ | refine J_isub (pc := 103) dX10_arrive_103 ?_
        refine J_istore (pc := 104) dX10_arrive_104 (by decide) ?_
        refine J_aload_n (pc := 106) dX10_arrive_106 rfl rfl ?_
        refine J_getr (pc := 107) (i := 12) cl8 hW.o (by decide) rfl (hW.r 12 rfl) kX10_37 dX10_arrive_107 ?_
        refine J_iload (pc := 110) dX10_arrive_110 rfl ?_
        refine J_zald (pc := 112) (hW.a 12 rfl) rfl (show _ < 2 by omega) (by first | omega | exact mLn_lt _) (hW.2.2.2.1 _ (by omega)) dX10_arrive_112 ?_
        simp only [xV_yV, xV_yL, xV_yB, xV_yC, xL_yV, xL_yL, xL_yB, xL_yC, xB_yV, xB_yL, xB_yB, xB_yC, true_and, and_true, and_self, false_and, and_false, reduceIte, Nat.reduceEqDiff, if_true, if_false, reduceCtorEq] 
        refine J_if_eqN (pc := 113) (tgt := 129) dX10_arrive_113 rfl (by omega) (fun c4 => ?_) (fun c4 => ?_)
        · rw [if_neg (by omega)] at fin
          have hg : x_goal X e.1 e.2.1 < 8 := by unfold x_goal; split <;> omega
          refine J_aload_n (pc := 129) dX10_arrive_129 rfl rfl ?_
          refine J_bipush (pc := 130) (v := nI 20) dX10_arrive_130 (by decide) ?_
          refine J_iconst (pc := 132) (v := nI 2) dX10_arrive_132 (by decide) ?_
          refine J_iload (pc := 133) dX10_arrive_133 rfl ?_
          first | refine J_imulN (pc := 135) dX10_arrive_135 ?_ | refine J_imul (pc := 135) dX10_arrive_135 ?_
          first | refine J_iaddN (pc := 136) dX10_arrive_136 ?_ | refine J_iadd (pc := 136) dX10_arrive_136 ?_
          refine J_aload_n (pc := 137) dX10_arrive_137 rfl rfl ?_
          refine J_iload_n (pc := 138) dX10_arrive_138 rfl rfl ?_
          refine J_iload_n (pc := 139) dX10_arrive_139 rfl rfl ?_
          refine J_callV (pc := 140) (cm_goal l g (hgt - 1) hW o1 hm) qX10_goal vX10_goal cl8 rfl hW.o kX10_147 dX10_arrive_140 rfl rfl (Nat.le_of_ble_eq_true rfl) (by omega) (by omega) (by omega) ?_
          rintro _ _ ⟨rfl, rfl⟩
          rw [show x_goal (yL X (200 + link) []) e.1 e.2.1 = x_goal X e.1 e.2.1 from rfl]
          refine J_iconst (pc := 143) (v := nI 4) dX10_arrive_143 (by decide) ?_
          first | refine J_idivN (pc := 144) dX10_arrive_144 (by omega) (by omega) (by omega) ?_ | refine J_idiv (pc := 144) dX10_arrive_144 (by decide) ?_
          first | refine J_iaddN (pc := 145) dX10_arrive_145 ?_ | refine J_iadd (pc := 145) dX10_arrive_145 ?_
          refine J_iload_n (pc := 146) dX10_arrive_146 rfl rfl ?_
          refine J_iload_n (pc := 147) dX10_arrive_147 rfl rfl ?_
          refine J_iload (pc := 148) dX10_arrive_148 rfl ?_
          refine J_iload (pc := 150) dX10_arrive_150 rfl ?_
          refine J_callV (pc := 152) (cm_line l g (hgt - 1) (k := e.1) (m := e.2.1) (c := e.2.2) (p := xV X 5 link) hW (show 20 + 2 * ((link - 8) % 6 - 4) + x_goal X e.1 e.2.1 / 4 < 24 by omega) (by omega)) qX10_line vX10_line cl8 rfl hW.o kX10_151 dX10_arrive_152 rfl rfl (Nat.le_of_ble_eq_true rfl) (by omega) (by omega) (by omega) ?_
          rintro _ _ ⟨rfl, hW⟩
          refine J_goto (pc := 155) (tgt := 180) dX10_arrive_155 rfl ?_
          refine J_vret (pc := 180) dX10_arrive_180 rfl (by omega) (by omega) ?_
          exact ⟨rfl, by rw [fin]; exact hW⟩
        · rw [if_pos (by omega)] at fin
          refine J_aload_n (pc := 116) dX10_arrive_116 rfl rfl ?_
          refine J_dup (pc := 117) dX10_arrive_117 rfl ?_
          refine J_geti (pc := 118) (i := 14) cl8 hW.o (by decide) rfl hW.2.2.1.2.2.1 kX10_144 dX10_arrive_118 ?_
          refine J_iconst (pc := 121) (v := nI 1) dX10_arrive_121 (by decide) ?_
          first | refine J_iaddN (pc := 122) dX10_arrive_122 ?_ | refine J_iadd (pc := 122) dX10_arrive_122 ?_
          refine J_mss (pc := 123) hW 14 2 (by decide) rfl kX10_144 dX10_arrive_123 (fun hW => ?_)
          refine J_goto (pc := 126) (tgt := 155) dX10_arrive_126 rfl ?_
          refine J_goto (pc := 155) (tgt := 180) dX10_arrive_155 rfl ?_
          refine J_vret (pc := 180) dX10_arrive_180 rfl (by omega) (by omega) ?_
          exact ⟨rfl, by rw [fin]; exact hW⟩
    · rw [if_neg (by omega), if_pos (by omega)] at fin
      refine J_aload_n (pc := 65) dX10_arrive_65 rfl rfl ?_
      refine J_iload_n (pc := 66) dX10_arrive_66 rfl rfl ?_
      refine J_bipush (pc := 67) (v := nI 20) dX10_arrive_67 (by decide) ?_
      first | refine J_isubN (pc := 69) dX10_arrive_69 (by omega) ?_ | refine J_isub (pc := 69) dX10_arrive_69 ?_
      refine J_iconst (pc := 70) (v := nI 2) dX10_arrive_70 (by decide) ?_
      first | refine J_iremN (pc := 71) dX10_arrive_71 (by omega) (by omega) (by omega) ?_ | refine J_irem (pc := 71) dX10_arrive_71 (by decide) ?_
      refine J_iload_n (pc := 72) dX10_arrive_72 rfl rfl ?_
      refine J_iload_n (pc := 73) dX10_arrive_73 rfl rfl ?_
      refine J_iload (pc := 74) dX10_arrive_74 rfl ?_
      refine J_iload (pc := 76) dX10_arrive_76 rfl ?_
      refine J_callV (pc := 78) (cm_atLeaf l g (hgt - 1) (c := e.2.2) (p := xV X 5 link) hW hI2 (show (link - 20) % 2 < 2 by omega) o1 hm (by omega) (by omega)) qX10_atLeaf vX10_atLeaf cl8 rfl hW.o kX10_155 dX10_arrive_78 rfl rfl (Nat.le_of_ble_eq_true rfl) (by omega) (by omega) (by omega) ?_
      rintro _ _ ⟨rfl, hW⟩
      refine J_goto (pc := 81) (tgt := 180) dX10_arrive_81 rfl ?_
      refine J_vret (pc := 180) dX10_arrive_180 rfl (by omega) (by omega) ?_
      exact ⟨rfl, by rw [fin]; exact hW⟩
  · rw [if_pos (by omega)] at fin
    refine J_aload_n (pc := 43) dX10_arrive_43 rfl rfl ?_
    refine J_iload_n (pc := 44) dX10_arrive_44 rfl rfl ?_
    refine J_iconst (pc := 45) (v := nI 4) dX10_arrive_45 (by decide) ?_
    first | refine J_idivN (pc := 46) dX10_arrive_46 (by omega) (by omega) (by omega) ?_ | refine J_idiv (pc := 46) dX10_arrive_46 (by decide) ?_
    refine J_iload_n (pc := 47) dX10_arrive_47 rfl rfl ?_
    refine J_iload_n (pc := 48) dX10_arrive_48 rfl rfl ?_
    refine J_iload (pc := 49) dX10_arrive_49 rfl ?_
    refine J_iload (pc := 51) dX10_arrive_51 rfl ?_
    refine J_callV (pc := 53) (cm_atLeaf l g (hgt - 1) (c := e.2.2) (p := xV X 5 link) hW hI2 (show link / 4 < 2 by omega) o1 hm (by omega) (by omega)) qX10_atLeaf vX10_atLeaf cl8 rfl hW.o kX10_155 dX10_arrive_53 rfl rfl (Nat.le_of_ble_eq_true rfl) (by omega) (by omega) (by omega) ?_
    rintro _ _ ⟨rfl, hW⟩
    refine J_goto (pc := 56) (tgt := 180) dX10_arrive_56 rfl ?_
    refine J_vret (pc := 180) dX10_arrive_180 rfl (by omega) (by omega) ?_
    exact ⟨rfl, by rw [fin]; exact hW⟩
