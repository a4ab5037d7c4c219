/-! the reference's methods: rows of packets -/
abbrev mPost (b : Nat) (ad : Nat → Nat) (X : XS) : Option Value → jS → Prop := fun r S' => r = none ∧ WM S' b ad X
set_option maxRecDepth 100000 in
theorem cm_goal (l : Launch) (g : jG) (hgt : Nat) {S : jS} {b : Nat} {ad : Nat → Nat} {X : XS} {k m : Nat} (hW : WM S b ad X) (hk : k < 4) (hm : m < 48) : CT l g mX10_goal hgt 0 0 [.ref b, .int (nI k), .int (nI m)] S (jPure (.int (nI (x_goal X k m))) S) := by
  refine CT_of qX10_goal (Nat.le_of_ble_eq_true rfl) ?_
  refine J_iload_n (pc := 0) dX10_goal_0 rfl rfl ?_
  refine J_if_neN (pc := 1) (tgt := 13) dX10_goal_1 rfl (by omega) (fun hc => ?_) (fun hc => ?_)
  · refine J_aload_n (pc := 13) dX10_goal_13 rfl rfl ?_
    refine J_getr (pc := 14) (i := 16) cl8 hW.o (by decide) rfl (hW.r 16 rfl) kX10_44 dX10_goal_14 ?_
    refine J_iload_n (pc := 17) dX10_goal_17 rfl rfl ?_
    refine J_mld (pc := 18) hW 8 rfl rfl (by show _ < 48; omega) dX10_goal_18 ?_
    refine J_iret (pc := 19) dX10_goal_19 rfl (by omega) (by omega) ?_
    exact ⟨by rw [x_goal, if_neg hc], rfl⟩
  · refine J_aload_n (pc := 4) dX10_goal_4 rfl rfl ?_
    refine J_getr (pc := 5) (i := 17) cl8 hW.o (by decide) rfl (hW.r 17 rfl) kX10_47 dX10_goal_5 ?_
    refine J_iload_n (pc := 8) dX10_goal_8 rfl rfl ?_
    refine J_mld (pc := 9) hW 9 rfl rfl (by show _ < 48; omega) dX10_goal_9 ?_
    refine J_goto (pc := 10) (tgt := 19) dX10_goal_10 rfl ?_
    refine J_iret (pc := 19) dX10_goal_19 rfl (by omega) (by omega) ?_
    exact ⟨by rw [x_goal, if_pos hc], rfl⟩
set_option maxRecDepth 100000 in
theorem cm_enter (l : Launch) (g : jG) (hgt : Nat) {S : jS} {b : Nat} {ad : Nat → Nat} {X : XS} {link k m c p : Nat} (hW : WM S b ad X) (h1 : xV X 4 link ≤ 100) (hl : link < 24) : CT l g mX10_enter hgt 0 0 [.ref b, .int (nI link), .int (nI k), .int (nI m), .int (nI c), .int (nI p)] S (mPost b ad (x_enter X link (k, m, c) p)) := by
  refine CT_of qX10_enter (Nat.le_of_ble_eq_true rfl) ?_
  refine J_aload_n (pc := 0) dX10_enter_0 rfl rfl ?_
  refine J_getr (pc := 1) (i := 7) cl8 hW.o (by decide) rfl (hW.r 7 rfl) kX10_22 dX10_enter_1 ?_
  refine J_iload_n (pc := 4) dX10_enter_4 rfl rfl ?_
  refine J_mld (pc := 5) hW 4 rfl rfl (by show _ < 24; omega) dX10_enter_5 ?_
  refine J_if_leN (pc := 6) (tgt := 30) dX10_enter_6 rfl (by omega) (fun hc => ?_) (fun hc => ?_)
  · refine J_aload_n (pc := 30) dX10_enter_30 rfl rfl ?_
    refine J_getr (pc := 31) (i := 3) cl8 hW.o (by decide) rfl (hW.r 3 rfl) kX10_7 dX10_enter_31 ?_
    refine J_iload_n (pc := 34) dX10_enter_34 rfl rfl ?_
    refine J_iload_n (pc := 35) dX10_enter_35 rfl rfl ?_
    refine J_iast (pc := 36) (hW.a 3 rfl) rfl hl (by first | omega | exact mLn_lt _) dX10_enter_36 ?_
    refine J_aload_n (pc := 37) dX10_enter_37 rfl rfl ?_
    refine J_getr (pc := 38) (i := 4) cl8 hW.o (by decide) rfl (hW.r 4 rfl) kX10_13 dX10_enter_38 ?_
    refine J_iload_n (pc := 41) dX10_enter_41 rfl rfl ?_
    refine J_iload_n (pc := 42) dX10_enter_42 rfl rfl ?_
    refine J_iast (pc := 43) (hW.a 4 rfl) rfl hl (by first | omega | exact mLn_lt _) dX10_enter_43 ?_
    refine J_aload_n (pc := 44) dX10_enter_44 rfl rfl ?_
    refine J_getr (pc := 45) (i := 5) cl8 hW.o (by decide) rfl (hW.r 5 rfl) kX10_16 dX10_enter_45 ?_
    refine J_iload_n (pc := 48) dX10_enter_48 rfl rfl ?_
    refine J_iload (pc := 49) dX10_enter_49 rfl ?_
    refine J_iast (pc := 51) (hW.a 5 rfl) rfl hl (by first | omega | exact mLn_lt _) dX10_enter_51 ?_
    have hW := hW.wL1 link (k, m, c)
    refine J_aload_n (pc := 52) dX10_enter_52 rfl rfl ?_
    refine J_getr (pc := 53) (i := 6) cl8 hW.o (by decide) rfl (hW.r 6 rfl) kX10_19 dX10_enter_53 ?_
    refine J_iload_n (pc := 56) dX10_enter_56 rfl rfl ?_
    refine J_iload (pc := 57) dX10_enter_57 rfl ?_
    refine J_mst (pc := 59) hW 5 rfl rfl (by show _ < 24; omega) rfl dX10_enter_59 (fun hW => ?_)
    refine J_vret (pc := 60) dX10_enter_60 rfl (by omega) (by omega) ?_
    exact ⟨rfl, by rw [x_enter, if_neg (by omega)]; exact hW⟩
  · refine J_aload_n (pc := 9) dX10_enter_9 rfl rfl ?_
    refine J_getr (pc := 10) (i := 7) cl8 hW.o (by decide) rfl (hW.r 7 rfl) kX10_22 dX10_enter_10 ?_
    refine J_iload_n (pc := 13) dX10_enter_13 rfl rfl ?_
    refine J_dup2_11 (pc := 14) dX10_enter_14 rfl rfl ?_
    refine J_mld (pc := 15) hW 4 rfl rfl (by show _ < 24; omega) dX10_enter_15 ?_
    refine J_iconst (pc := 16) (v := nI 1) dX10_enter_16 (by decide) ?_
    first | refine J_isubN (pc := 17) dX10_enter_17 (by omega) ?_ | refine J_isub (pc := 17) dX10_enter_17 ?_
    refine J_mst (pc := 18) hW 4 rfl rfl (by show _ < 24; omega) rfl dX10_enter_18 (fun hW => ?_)
    refine J_aload_n (pc := 19) dX10_enter_19 rfl rfl ?_
    refine J_dup (pc := 20) dX10_enter_20 rfl ?_
    refine J_geti (pc := 21) (i := 15) cl8 hW.o (by decide) rfl hW.2.2.1.2.2.2.1 kX10_141 dX10_enter_21 ?_
    refine J_iconst (pc := 24) (v := nI 1) dX10_enter_24 (by decide) ?_
    first | refine J_iaddN (pc := 25) dX10_enter_25 ?_ | refine J_iadd (pc := 25) dX10_enter_25 ?_
    refine J_mss (pc := 26) hW 15 3 (by decide) rfl kX10_141 dX10_enter_26 (fun hW => ?_)
    refine J_vret (pc := 29) dX10_enter_29 rfl (by omega) (by omega) ?_
    exact ⟨rfl, by rw [x_enter, if_pos (by omega)]; exact hW⟩
set_option maxRecDepth 100000 in
theorem cm_line (l : Launch) (g : jG) (hgt : Nat) {S : jS} {b : Nat} {ad : Nat → Nat} {X : XS} {link k m c p : Nat} (hW : WM S b ad X) (hl : link < 24) (hp : p < 4) : CT l g mX10_line hgt 0 0 [.ref b, .int (nI link), .int (nI k), .int (nI m), .int (nI c), .int (nI p)] S (mPost b ad (x_line X link (k, m, c) p)) := by
  have hq : 4 * link + p < 96 := by omega
  obtain ⟨h8, hw, -⟩ := hW.2.2.2.2.2.2.1 _ hq
  refine CT_of qX10_line (Nat.le_of_ble_eq_true rfl) ?_
  refine J_iconst (pc := 0) (v := nI 4) dX10_line_0 (by decide) ?_
  refine J_iload_n (pc := 1) dX10_line_1 rfl rfl ?_
  first | refine J_imulN (pc := 2) dX10_line_2 ?_ | refine J_imul (pc := 2) dX10_line_2 ?_
  refine J_iload (pc := 3) dX10_line_3 rfl ?_
  first | refine J_iaddN (pc := 5) dX10_line_5 ?_ | refine J_iadd (pc := 5) dX10_line_5 ?_
  refine J_istore (pc := 6) dX10_line_6 (by decide) ?_
  refine J_aload_n (pc := 8) dX10_line_8 rfl rfl ?_
  refine J_getr (pc := 9) (i := 8) cl8 hW.o (by decide) rfl (hW.r 8 rfl) kX10_25 dX10_line_9 ?_
  refine J_iload (pc := 12) dX10_line_12 rfl ?_
  refine J_iald (pc := 14) (hW.a 8 rfl) rfl hq (by first | omega | exact mLn_lt _) hw dX10_line_14 ?_
  refine J_bipush (pc := 15) (v := nI 8) dX10_line_15 (by decide) ?_
  refine J_icmp_neN (pc := 17) (tgt := 31) dX10_line_17 rfl (by omega) (by omega) (fun hc => ?_) (fun hc => ?_)
  · have hlt : (xL X (4 * link + p)).length < 8 := by omega
    refine J_bipush (pc := 31) (v := nI 8) dX10_line_31 (by decide) ?_
    refine J_iload (pc := 33) dX10_line_33 rfl ?_
    first | refine J_imulN (pc := 35) dX10_line_35 ?_ | refine J_imul (pc := 35) dX10_line_35 ?_
    refine J_aload_n (pc := 36) dX10_line_36 rfl rfl ?_
    refine J_getr (pc := 37) (i := 8) cl8 hW.o (by decide) rfl (hW.r 8 rfl) kX10_25 dX10_line_37 ?_
    refine J_iload (pc := 40) dX10_line_40 rfl ?_
    refine J_iald (pc := 42) (hW.a 8 rfl) rfl hq (by first | omega | exact mLn_lt _) hw dX10_line_42 ?_
    first | refine J_iaddN (pc := 43) dX10_line_43 ?_ | refine J_iadd (pc := 43) dX10_line_43 ?_
    refine J_istore (pc := 44) dX10_line_44 (by decide) ?_
    refine J_aload_n (pc := 46) dX10_line_46 rfl rfl ?_
    refine J_getr (pc := 47) (i := 9) cl8 hW.o (by decide) rfl (hW.r 9 rfl) kX10_28 dX10_line_47 ?_
    refine J_iload (pc := 50) dX10_line_50 rfl ?_
    refine J_iload_n (pc := 52) dX10_line_52 rfl rfl ?_
    refine J_iast (pc := 53) (hW.a 9 rfl) rfl (show _ < 768 by omega) (by first | omega | exact mLn_lt _) dX10_line_53 ?_
    refine J_aload_n (pc := 54) dX10_line_54 rfl rfl ?_
    refine J_getr (pc := 55) (i := 10) cl8 hW.o (by decide) rfl (hW.r 10 rfl) kX10_31 dX10_line_55 ?_
    refine J_iload (pc := 58) dX10_line_58 rfl ?_
    refine J_iload_n (pc := 60) dX10_line_60 rfl rfl ?_
    refine J_iast (pc := 61) (hW.a 10 rfl) rfl (show _ < 768 by omega) (by first | omega | exact mLn_lt _) dX10_line_61 ?_
    refine J_aload_n (pc := 62) dX10_line_62 rfl rfl ?_
    refine J_getr (pc := 63) (i := 11) cl8 hW.o (by decide) rfl (hW.r 11 rfl) kX10_34 dX10_line_63 ?_
    refine J_iload (pc := 66) dX10_line_66 rfl ?_
    refine J_iload (pc := 68) dX10_line_68 rfl ?_
    refine J_iast (pc := 70) (hW.a 11 rfl) rfl (show _ < 768 by omega) (by first | omega | exact mLn_lt _) dX10_line_70 ?_
    have n1 := hW.ne (k := 9) (k' := 8) rfl rfl (by decide)
    have n2 := hW.ne (k := 10) (k' := 8) rfl rfl (by decide)
    have n3 := hW.ne (k := 11) (k' := 8) rfl rfl (by decide)
    refine J_aload_n (pc := 71) dX10_line_71 rfl rfl ?_
    refine J_getr (pc := 72) (i := 8) cl8 hW.o (by decide) rfl (hW.r 8 rfl) kX10_25 dX10_line_72 ?_
    refine J_iload (pc := 75) dX10_line_75 rfl ?_
    refine J_dup2_11 (pc := 77) dX10_line_77 rfl rfl ?_
    refine J_iald (pc := 78) (hW.a 8 rfl) rfl hq (by first | omega | exact mLn_lt _) (sI_na n3.symm (sI_na n2.symm (sI_na n1.symm hw))) dX10_line_78 ?_
    refine J_iconst (pc := 79) (v := nI 1) dX10_line_79 (by decide) ?_
    first | refine J_iaddN (pc := 80) dX10_line_80 ?_ | refine J_iadd (pc := 80) dX10_line_80 ?_
    refine J_iast (pc := 81) (hW.a 8 rfl) rfl hq (by first | omega | exact mLn_lt _) dX10_line_81 ?_
    have hW := hW.wQ1 _ hq hlt (k, m, c) rfl
    refine J_vret (pc := 82) dX10_line_82 rfl (by omega) (by omega) ?_
    exact ⟨rfl, by rw [x_line, if_neg hc]; exact hW⟩
  · refine J_aload_n (pc := 20) dX10_line_20 rfl rfl ?_
    refine J_dup (pc := 21) dX10_line_21 rfl ?_
    refine J_geti (pc := 22) (i := 14) cl8 hW.o (by decide) rfl hW.2.2.1.2.2.1 kX10_144 dX10_line_22 ?_
    refine J_iconst (pc := 25) (v := nI 1) dX10_line_25 (by decide) ?_
    first | refine J_iaddN (pc := 26) dX10_line_26 ?_ | refine J_iadd (pc := 26) dX10_line_26 ?_
    refine J_mss (pc := 27) hW 14 2 (by decide) rfl kX10_144 dX10_line_27 (fun hW => ?_)
    refine J_vret (pc := 30) dX10_line_30 rfl (by omega) (by omega) ?_
    exact ⟨rfl, by rw [x_line, if_pos hc]; exact hW⟩
set_option maxRecDepth 100000 in
theorem cm_becomeDue (l : Launch) (g : jG) (hgt : Nat) {S : jS} {b : Nat} {ad : Nat → Nat} {X : XS} {h k m c : Nat} (hW : WM S b ad X) (hh : h < 8) : CT l g mX10_becomeDue hgt 0 0 [.ref b, .int (nI h), .int (nI k), .int (nI m), .int (nI c)] S (mPost b ad (x_due X h (k, m, c))) := by
  obtain ⟨h8, hw, -⟩ := hW.2.2.2.2.2.2.2 h hh
  refine CT_of qX10_becomeDue (Nat.le_of_ble_eq_true rfl) ?_
  refine J_aload_n (pc := 0) dX10_becomeDue_0 rfl rfl ?_
  refine J_getr (pc := 1) (i := 37) cl8 hW.o (by decide) rfl (hW.r 37 rfl) kX10_107 dX10_becomeDue_1 ?_
  refine J_iload_n (pc := 4) dX10_becomeDue_4 rfl rfl ?_
  refine J_iald (pc := 5) (hW.a 37 rfl) rfl hh (by first | omega | exact mLn_lt _) hw dX10_becomeDue_5 ?_
  refine J_bipush (pc := 6) (v := nI 24) dX10_becomeDue_6 (by decide) ?_
  refine J_icmp_neN (pc := 8) (tgt := 12) dX10_becomeDue_8 rfl (by omega) (by omega) (fun hc => ?_) (fun hc => ?_)
  · have hlt : (xL X (96 + h)).length < 24 := by omega
    refine J_bipush (pc := 12) (v := nI 24) dX10_becomeDue_12 (by decide) ?_
    refine J_iload_n (pc := 14) dX10_becomeDue_14 rfl rfl ?_
    first | refine J_imulN (pc := 15) dX10_becomeDue_15 ?_ | refine J_imul (pc := 15) dX10_becomeDue_15 ?_
    refine J_aload_n (pc := 16) dX10_becomeDue_16 rfl rfl ?_
    refine J_getr (pc := 17) (i := 37) cl8 hW.o (by decide) rfl (hW.r 37 rfl) kX10_107 dX10_becomeDue_17 ?_
    refine J_iload_n (pc := 20) dX10_becomeDue_20 rfl rfl ?_
    refine J_iald (pc := 21) (hW.a 37 rfl) rfl hh (by first | omega | exact mLn_lt _) hw dX10_becomeDue_21 ?_
    first | refine J_iaddN (pc := 22) dX10_becomeDue_22 ?_ | refine J_iadd (pc := 22) dX10_becomeDue_22 ?_
    refine J_istore (pc := 23) dX10_becomeDue_23 (by decide) ?_
    refine J_aload_n (pc := 25) dX10_becomeDue_25 rfl rfl ?_
    refine J_getr (pc := 26) (i := 38) cl8 hW.o (by decide) rfl (hW.r 38 rfl) kX10_110 dX10_becomeDue_26 ?_
    refine J_iload (pc := 29) dX10_becomeDue_29 rfl ?_
    refine J_iload_n (pc := 31) dX10_becomeDue_31 rfl rfl ?_
    refine J_iast (pc := 32) (hW.a 38 rfl) rfl (show _ < 192 by omega) (by first | omega | exact mLn_lt _) dX10_becomeDue_32 ?_
    refine J_aload_n (pc := 33) dX10_becomeDue_33 rfl rfl ?_
    refine J_getr (pc := 34) (i := 39) cl8 hW.o (by decide) rfl (hW.r 39 rfl) kX10_113 dX10_becomeDue_34 ?_
    refine J_iload (pc := 37) dX10_becomeDue_37 rfl ?_
    refine J_iload_n (pc := 39) dX10_becomeDue_39 rfl rfl ?_
    refine J_iast (pc := 40) (hW.a 39 rfl) rfl (show _ < 192 by omega) (by first | omega | exact mLn_lt _) dX10_becomeDue_40 ?_
    refine J_aload_n (pc := 41) dX10_becomeDue_41 rfl rfl ?_
    refine J_getr (pc := 42) (i := 40) cl8 hW.o (by decide) rfl (hW.r 40 rfl) kX10_116 dX10_becomeDue_42 ?_
    refine J_iload (pc := 45) dX10_becomeDue_45 rfl ?_
    refine J_iload (pc := 47) dX10_becomeDue_47 rfl ?_
    refine J_iast (pc := 49) (hW.a 40 rfl) rfl (show _ < 192 by omega) (by first | omega | exact mLn_lt _) dX10_becomeDue_49 ?_
    have n1 := hW.ne (k := 38) (k' := 37) rfl rfl (by decide)
    have n2 := hW.ne (k := 39) (k' := 37) rfl rfl (by decide)
    have n3 := hW.ne (k := 40) (k' := 37) rfl rfl (by decide)
    refine J_aload_n (pc := 50) dX10_becomeDue_50 rfl rfl ?_
    refine J_getr (pc := 51) (i := 37) cl8 hW.o (by decide) rfl (hW.r 37 rfl) kX10_107 dX10_becomeDue_51 ?_
    refine J_iload_n (pc := 54) dX10_becomeDue_54 rfl rfl ?_
    refine J_dup2_11 (pc := 55) dX10_becomeDue_55 rfl rfl ?_
    refine J_iald (pc := 56) (hW.a 37 rfl) rfl hh (by first | omega | exact mLn_lt _) (sI_na n3.symm (sI_na n2.symm (sI_na n1.symm hw))) dX10_becomeDue_56 ?_
    refine J_iconst (pc := 57) (v := nI 1) dX10_becomeDue_57 (by decide) ?_
    first | refine J_iaddN (pc := 58) dX10_becomeDue_58 ?_ | refine J_iadd (pc := 58) dX10_becomeDue_58 ?_
    refine J_iast (pc := 59) (hW.a 37 rfl) rfl hh (by first | omega | exact mLn_lt _) dX10_becomeDue_59 ?_
    have hW := hW.wD1 _ hh hlt (k, m, c) rfl
    refine J_vret (pc := 60) dX10_becomeDue_60 rfl (by omega) (by omega) ?_
    exact ⟨rfl, by rw [x_due, if_neg hc]; exact hW⟩
  · refine J_vret (pc := 11) dX10_becomeDue_11 rfl (by omega) (by omega) ?_
    exact ⟨rfl, by rw [x_due, if_pos hc]; exact hW⟩
