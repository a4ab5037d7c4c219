set_option maxRecDepth 100000 in
theorem jm_sendDue (l : Launch) (g : jG) (hgt : Nat) {S : jS} {b : Nat} {ad : Nat → Nat} {X : XS} {h : Nat} {e : Nat × Nat × Nat} {t : List (Nat × Nat × Nat)} (hW : WM S b ad X) (hI : xOK X) (hh8 : h < 8) (hl2 : xL X (96 + h) = e :: t) (hh : 1 ≤ hgt) : J l g mX10_send hgt 0 0 (mPost b ad (x_send X h)) 9 [(0, .ref b), (1, .int (nI h))] [] S 0 0 := by
  obtain ⟨q8, qw, qe⟩ := hW.2.2.2.2.2.2.2 h hh8
  have he := qe 0 e (by rw [hl2]; rfl)
  rw [hl2, List.length_cons] at q8 qw
  refine J_bipush (pc := 9) (v := nI 24) dX10_send_9 (by decide) ?_
  refine J_iload_n (pc := 11) dX10_send_11 rfl rfl ?_
  first | refine J_imulN (pc := 12) dX10_send_12 ?_ | refine J_imul (pc := 12) dX10_send_12 ?_
  refine J_istore_n (pc := 13) dX10_send_13 rfl (by decide) ?_
  refine J_aload_n (pc := 14) dX10_send_14 rfl rfl ?_
  refine J_getr (pc := 15) (i := 38) cl8 hW.o (by decide) rfl (hW.r 38 rfl) kX10_110 dX10_send_15 ?_
  refine J_iload_n (pc := 18) dX10_send_18 rfl rfl ?_
  refine J_iald (pc := 19) (hW.a 38 rfl) rfl (show _ < 192 by omega) (by first | omega | exact mLn_lt _) he.1 dX10_send_19 ?_
  refine J_istore_n (pc := 20) dX10_send_20 rfl (by decide) ?_
  refine J_aload_n (pc := 21) dX10_send_21 rfl rfl ?_
  refine J_getr (pc := 22) (i := 39) cl8 hW.o (by decide) rfl (hW.r 39 rfl) kX10_113 dX10_send_22 ?_
  refine J_iload_n (pc := 25) dX10_send_25 rfl rfl ?_
  refine J_iald (pc := 26) (hW.a 39 rfl) rfl (show _ < 192 by omega) (by first | omega | exact mLn_lt _) he.2.1 dX10_send_26 ?_
  refine J_istore (pc := 27) dX10_send_27 (by decide) ?_
  refine J_aload_n (pc := 29) dX10_send_29 rfl rfl ?_
  refine J_getr (pc := 30) (i := 40) cl8 hW.o (by decide) rfl (hW.r 40 rfl) kX10_116 dX10_send_30 ?_
  refine J_iload_n (pc := 33) dX10_send_33 rfl rfl ?_
  refine J_iald (pc := 34) (hW.a 40 rfl) rfl (show _ < 192 by omega) (by first | omega | exact mLn_lt _) he.2.2 dX10_send_34 ?_
  refine J_istore (pc := 35) dX10_send_35 (by decide) ?_
  refine J_aload_n (pc := 37) dX10_send_37 rfl rfl ?_
  refine J_getr (pc := 38) (i := 37) cl8 hW.o (by decide) rfl (hW.r 37 rfl) kX10_107 dX10_send_38 ?_
  refine J_iload_n (pc := 41) dX10_send_41 rfl rfl ?_
  refine J_dup2_11 (pc := 42) dX10_send_42 rfl rfl ?_
  refine J_iald (pc := 43) (hW.a 37 rfl) rfl hh8 (by first | omega | exact mLn_lt _) qw dX10_send_43 ?_
  refine J_iconst (pc := 44) (v := nI 1) dX10_send_44 (by decide) ?_
  first | refine J_isubN (pc := 45) dX10_send_45 (by omega) ?_ | refine J_isub (pc := 45) dX10_send_45 ?_
  refine J_iast (pc := 46) (hW.a 37 rfl) rfl hh8 (by first | omega | exact mLn_lt _) dX10_send_46 ?_
  refine J_iload_n (pc := 47) dX10_send_47 rfl rfl ?_
  refine J_istore (pc := 48) dX10_send_48 (by decide) ?_
  have sloop : ∀ j, j ≤ t.length → ∀ S2, mOnly ad mLs S S2 → (∀ k, mArr k = true → k ≠ 37 → k ≠ 38 → k ≠ 39 → k ≠ 40 → sI S2 9 (ad k) = sI S 9 (ad k)) → sI S2 9 (ad 37) = upd (sI S 9 (ad 37)) h (nI t.length) → sI S2 9 (ad 38) = shf (sI S 9 (ad 38)) (24 * h) j → sI S2 9 (ad 39) = shf (sI S 9 (ad 39)) (24 * h) j → sI S2 9 (ad 40) = shf (sI S 9 (ad 40)) (24 * h) j → J l g mX10_send hgt 0 0 (mPost b ad (x_send X h)) 50 [(6, .int (nI (24 * h + j))), (5, .int (nI e.2.2)), (4, .int (nI e.2.1)), (3, .int (nI e.1)), (2, .int (nI (24 * h))), (0, .ref b), (1, .int (nI h))] [] S2 0 0 := by
    refine down _ ?_ ?_
    · intro S2 hO e0 ew ek ea ec
      have hw2 : sI S2 9 (ad 37) h = nI t.length := by rw [ew]; simp [upd]
      refine J_iload (pc := 50) dX10_send_50 rfl ?_
      refine J_iload_n (pc := 52) dX10_send_52 rfl rfl ?_
      refine J_aload_n (pc := 53) dX10_send_53 rfl rfl ?_
      refine J_getr (pc := 54) (i := 37) cl8 (hO.o hW) (by decide) rfl (hO.r hW 37 rfl) kX10_107 dX10_send_54 ?_
      refine J_iload_n (pc := 57) dX10_send_57 rfl rfl ?_
      refine J_iald (pc := 58) (hO.a hW 37 rfl) rfl hh8 (by first | omega | exact mLn_lt _) hw2 dX10_send_58 ?_
      first | refine J_iaddN (pc := 59) dX10_send_59 ?_ | refine J_iadd (pc := 59) dX10_send_59 ?_
      refine J_icmp_geN (pc := 60) (tgt := 117) dX10_send_60 rfl (by omega) (by omega) (fun h2 => ?_) (fun h2 => ?_)
      · have hW := hW.wD0 _ hh8 hl2 hO e0 ew ek ea ec
        refine J_aload_n (pc := 117) dX10_send_117 rfl rfl ?_
        refine J_getr (pc := 118) (i := 41) cl8 hW.o (by decide) rfl (hW.r 41 rfl) kX10_119 dX10_send_118 ?_
        refine J_iload_n (pc := 121) dX10_send_121 rfl rfl ?_
        refine J_dup2_11 (pc := 122) dX10_send_122 rfl rfl ?_
        refine J_mld (pc := 123) hW 27 rfl rfl (by show _ < 8; omega) dX10_send_123 ?_
        refine J_iconst (pc := 124) (v := nI 1) dX10_send_124 (by decide) ?_
        first | refine J_iaddN (pc := 125) dX10_send_125 ?_ | refine J_iadd (pc := 125) dX10_send_125 ?_
        refine J_mst (pc := 126) hW 27 rfl rfl (by show _ < 8; omega) rfl dX10_send_126 (fun hW => ?_)
        refine J_aload_n (pc := 127) dX10_send_127 rfl rfl ?_
        refine J_iload_n (pc := 128) dX10_send_128 rfl rfl ?_
        refine J_iload_n (pc := 129) dX10_send_129 rfl rfl ?_
        refine J_iload (pc := 130) dX10_send_130 rfl ?_
        refine J_iload (pc := 132) dX10_send_132 rfl ?_
        refine J_iconst (pc := 134) (v := nI 0) dX10_send_134 (by decide) ?_
        refine J_callV (pc := 135) (cm_enter l g (hgt - 1) (k := e.1) (m := e.2.1) (c := e.2.2) (p := 0) hW (by rw [xV_nf (by decide), xV_yL]; exact (hI.link (show h < 24 by omega)).1) (show h < 24 by omega)) qX10_enter vX10_enter cl8 rfl hW.o kX10_166 dX10_send_135 rfl rfl (Nat.le_of_ble_eq_true rfl) (by omega) (by omega) (by omega) ?_
        rintro _ _ ⟨rfl, hW⟩
        refine J_vret (pc := 138) dX10_send_138 rfl (by omega) (by omega) ?_
        refine ⟨rfl, ?_⟩
        rw [x_send, hl2]
        exact hW
      · omega
    · intro j hj ih S2 hO e0 ew ek ea ec
      have n1 := hW.ne (k := 38) (k' := 37) rfl rfl (by decide)
      have n2 := hW.ne (k := 39) (k' := 37) rfl rfl (by decide)
      have n3 := hW.ne (k := 40) (k' := 37) rfl rfl (by decide)
      have n4 := hW.ne (k := 38) (k' := 39) rfl rfl (by decide)
      have n5 := hW.ne (k := 38) (k' := 40) rfl rfl (by decide)
      have n6 := hW.ne (k := 39) (k' := 40) rfl rfl (by decide)
      have hw2 : sI S2 9 (ad 37) h = nI t.length := by rw [ew]; simp [upd]
      refine J_iload (pc := 50) dX10_send_50 rfl ?_
      refine J_iload_n (pc := 52) dX10_send_52 rfl rfl ?_
      refine J_aload_n (pc := 53) dX10_send_53 rfl rfl ?_
      refine J_getr (pc := 54) (i := 37) cl8 (hO.o hW) (by decide) rfl (hO.r hW 37 rfl) kX10_107 dX10_send_54 ?_
      refine J_iload_n (pc := 57) dX10_send_57 rfl rfl ?_
      refine J_iald (pc := 58) (hO.a hW 37 rfl) rfl hh8 (by first | omega | exact mLn_lt _) hw2 dX10_send_58 ?_
      first | refine J_iaddN (pc := 59) dX10_send_59 ?_ | refine J_iadd (pc := 59) dX10_send_59 ?_
      refine J_icmp_geN (pc := 60) (tgt := 117) dX10_send_60 rfl (by omega) (by omega) (fun h2 => ?_) (fun h2 => ?_)
      · omega
      · refine J_aload_n (pc := 63) dX10_send_63 rfl rfl ?_
        refine J_getr (pc := 64) (i := 38) cl8 (hO.o hW) (by decide) rfl (hO.r hW 38 rfl) kX10_110 dX10_send_64 ?_
        refine J_iload (pc := 67) dX10_send_67 rfl ?_
        refine J_aload_n (pc := 69) dX10_send_69 rfl rfl ?_
        refine J_getr (pc := 70) (i := 38) cl8 (hO.o hW) (by decide) rfl (hO.r hW 38 rfl) kX10_110 dX10_send_70 ?_
        refine J_iload (pc := 73) dX10_send_73 rfl ?_
        refine J_iconst (pc := 75) (v := nI 1) dX10_send_75 (by decide) ?_
        first | refine J_iaddN (pc := 76) dX10_send_76 ?_ | refine J_iadd (pc := 76) dX10_send_76 ?_
        refine J_iald (pc := 77) (hO.a hW 38 rfl) rfl (show _ < 192 by omega) (by first | omega | exact mLn_lt _) (congrFun ek _) dX10_send_77 ?_
        refine J_iast (pc := 78) (hO.a hW 38 rfl) rfl (show _ < 192 by omega) (by first | omega | exact mLn_lt _) dX10_send_78 ?_
        refine J_aload_n (pc := 79) dX10_send_79 rfl rfl ?_
        refine J_getr (pc := 80) (i := 39) cl8 (hO.o hW) (by decide) rfl (hO.r hW 39 rfl) kX10_113 dX10_send_80 ?_
        refine J_iload (pc := 83) dX10_send_83 rfl ?_
        refine J_aload_n (pc := 85) dX10_send_85 rfl rfl ?_
        refine J_getr (pc := 86) (i := 39) cl8 (hO.o hW) (by decide) rfl (hO.r hW 39 rfl) kX10_113 dX10_send_86 ?_
        refine J_iload (pc := 89) dX10_send_89 rfl ?_
        refine J_iconst (pc := 91) (v := nI 1) dX10_send_91 (by decide) ?_
        first | refine J_iaddN (pc := 92) dX10_send_92 ?_ | refine J_iadd (pc := 92) dX10_send_92 ?_
        refine J_iald (pc := 93) (hO.a hW 39 rfl) rfl (show _ < 192 by omega) (by first | omega | exact mLn_lt _) ((congrFun (sl_a n4.symm) _).trans (congrFun ea _)) dX10_send_93 ?_
        refine J_iast (pc := 94) (hO.a hW 39 rfl) rfl (show _ < 192 by omega) (by first | omega | exact mLn_lt _) dX10_send_94 ?_
        refine J_aload_n (pc := 95) dX10_send_95 rfl rfl ?_
        refine J_getr (pc := 96) (i := 40) cl8 (hO.o hW) (by decide) rfl (hO.r hW 40 rfl) kX10_116 dX10_send_96 ?_
        refine J_iload (pc := 99) dX10_send_99 rfl ?_
        refine J_aload_n (pc := 101) dX10_send_101 rfl rfl ?_
        refine J_getr (pc := 102) (i := 40) cl8 (hO.o hW) (by decide) rfl (hO.r hW 40 rfl) kX10_116 dX10_send_102 ?_
        refine J_iload (pc := 105) dX10_send_105 rfl ?_
        refine J_iconst (pc := 107) (v := nI 1) dX10_send_107 (by decide) ?_
        first | refine J_iaddN (pc := 108) dX10_send_108 ?_ | refine J_iadd (pc := 108) dX10_send_108 ?_
        refine J_iald (pc := 109) (hO.a hW 40 rfl) rfl (show _ < 192 by omega) (by first | omega | exact mLn_lt _) ((congrFun (sl_a n6.symm) _).trans ((congrFun (sl_a n5.symm) _).trans (congrFun ec _))) dX10_send_109 ?_
        refine J_iast (pc := 110) (hO.a hW 40 rfl) rfl (show _ < 192 by omega) (by first | omega | exact mLn_lt _) dX10_send_110 ?_
        refine J_iinc (pc := 111) dX10_send_111 rfl (inc1 _) (by decide) ?_
        refine J_goto (pc := 114) (tgt := 50) dX10_send_114 rfl ?_
        refine J_lvk (ih _ (((hO.wr hW rfl (by decide)).wr hW rfl (by decide)).wr hW rfl (by decide)) ?_ ?_ ?_ ?_ ?_) ⟨rfl, rfl, rfl, rfl, rfl, rfl, rfl, trivial⟩
        · intro k hk k8 k9 ka kb
          rw [sl_a (hW.ne hk rfl kb), sl_a (hW.ne hk rfl ka), sl_a (hW.ne hk rfl k9)]
          exact e0 k hk k8 k9 ka kb
        · rw [sl_a n3.symm, sl_a n2.symm, sl_a n1.symm]
          exact ew
        · rw [sl_a n5, sl_a n4, sl_s, ek, shf_s]
        · rw [sl_a n6, sl_s, sl_a n4.symm, ea, shf_s]
        · rw [sl_s, sl_a n6.symm, sl_a n5.symm, ec, shf_s]
  refine J_lvk (sloop 0 (Nat.zero_le _) _ (mOnly.rf.wr hW rfl (by decide)) ?_ sl_s ?_ ?_ ?_) ⟨rfl, rfl, rfl, rfl, rfl, rfl, rfl, trivial⟩
  · intro k hk k8 k9 ka kb
    exact sl_a (hW.ne hk rfl k8)
  · rw [shf_0]; exact sl_a (hW.ne rfl rfl (by decide))
  · rw [shf_0]; exact sl_a (hW.ne rfl rfl (by decide))
  · rw [shf_0]; exact sl_a (hW.ne rfl rfl (by decide))
theorem li_m1 {a : Nat} : ((if a < 60 then nI a else -1) = (-1 : Int32)) ↔ ¬ a < 60 := by
  by_cases h : a < 60
  · rw [if_pos h]
    refine ⟨fun z => ?_, fun z => absurd h z⟩
    have h1 : (nI a).toInt = a := nI_toInt (by omega)
    have h2 : (nI a).toInt = -1 := by rw [z]; rfl
    omega
  · rw [if_neg h]
    exact ⟨fun _ => h, fun _ => rfl⟩
theorem x_short_lt {X : XS} {h : Nat} : ∀ {n x : Nat}, x_short X h n = some x → x < n
  | 0, x, e => by cases e
  | n + 1, x, e => by
    unfold x_short at e
    split at e
    · cases e
      omega
    · have := x_short_lt e
      omega
theorem x_left_le {X : XS} {m : Nat} (h : xV X 10 m ≤ 60) : x_left X m ≤ 120 := by
  have := cnt_le (xB X 0 m) 60
  unfold x_left
  omega
set_option maxRecDepth 100000 in
theorem jm_short (l : Launch) (g : jG) (hgt : Nat) {S : jS} {b : Nat} {ad : Nat → Nat} {X : XS} {h : Nat} {Q : Option Value → jS → Prop} (hW : WM S b ad X) (hI : xOK X) (hh8 : h < 8) (hh : 1 ≤ hgt)
    (kk : J l g mX10_send hgt 0 0 Q 232 [(2, .int (oI (x_short X h (xV X 1 0)))), (0, .ref b), (1, .int (nI h))] [] S 0 0) : J l g mX10_send hgt 0 0 Q 139 [(0, .ref b), (1, .int (nI h))] [] S 0 0 := by
  have h48 := hI.many
  refine J_iconst (pc := 139) (v := (-1)) dX10_send_139 (by decide) ?_
  refine J_istore_n (pc := 140) dX10_send_140 rfl (by decide) ?_
  refine J_iconst (pc := 141) (v := nI 0) dX10_send_141 (by decide) ?_
  refine J_istore_n (pc := 142) dX10_send_142 rfl (by decide) ?_
  have loop : ∀ i, i ≤ xV X 1 0 → J l g mX10_send hgt 0 0 Q 143 [(3, .int (nI i)), (2, .int (oI (x_short X h i))), (0, .ref b), (1, .int (nI h))] [] S 0 0 := by
    refine down _ ?_ ?_
    · refine J_iload_n (pc := 143) dX10_send_143 rfl rfl ?_
      refine J_aload_n (pc := 144) dX10_send_144 rfl rfl ?_
      refine J_geti (pc := 145) (i := 2) cl8 hW.o (by decide) rfl hW.2.2.1.2.1 kX10_138 dX10_send_145 ?_
      refine J_icmp_geN (pc := 148) (tgt := 232) dX10_send_148 rfl (by omega) (by omega) (fun h0 => ?_) (fun h0 => ?_)
      · exact J_lvk kk ⟨rfl, rfl, rfl, trivial⟩
      · omega
    · intro i hi ih
      have h1 := hI.msg (m := i) (by omega)
      have hs : x_short X h (i + 1) = if x_can X h i = true ∧ (∀ y, x_short X h i = some y → x_left X i < x_left X y) then some i else x_short X h i := rfl
      have next : J l g mX10_send hgt 0 0 Q 226 [(3, .int (nI i)), (2, .int (oI (x_short X h (i + 1)))), (0, .ref b), (1, .int (nI h))] [] S 0 0 := by
        refine J_iinc (pc := 226) dX10_send_226 rfl (inc1 _) (by decide) ?_
        refine J_goto (pc := 229) (tgt := 143) dX10_send_229 rfl ?_
        exact J_lvk ih ⟨rfl, rfl, rfl, rfl, trivial⟩
      have nxno : ¬ (x_can X h i = true ∧ (∀ y, x_short X h i = some y → x_left X i < x_left X y)) → J l g mX10_send hgt 0 0 Q 226 [(3, .int (nI i)), (2, .int (oI (x_short X h i))), (0, .ref b), (1, .int (nI h))] [] S 0 0 := by
        intro z
        rw [if_neg z] at hs
        rw [hs] at next
        exact next
      have no : x_can X h i = false → J l g mX10_send hgt 0 0 Q 198 [(3, .int (nI i)), (2, .int (oI (x_short X h i))), (0, .ref b), (1, .int (nI h))] [] S 0 0 := by
        intro z
        refine J_iconst (pc := 198) (v := nI 0) dX10_send_198 (by decide) ?_
        refine J_istore (pc := 199) dX10_send_199 (by decide) ?_
        refine J_iload (pc := 201) dX10_send_201 rfl ?_
        refine J_if_eqN (pc := 203) (tgt := 226) dX10_send_203 rfl (by omega) (fun z1 => ?_) (fun z1 => ?_)
        · exact J_lvk (nxno (fun w => by rw [z] at w; cases w.1)) ⟨rfl, rfl, rfl, rfl, trivial⟩
        · exact absurd rfl z1
      have yes : x_can X h i = true → J l g mX10_send hgt 0 0 Q 194 [(3, .int (nI i)), (2, .int (oI (x_short X h i))), (0, .ref b), (1, .int (nI h))] [] S 0 0 := by
        intro z
        refine J_iconst (pc := 194) (v := nI 1) dX10_send_194 (by decide) ?_
        refine J_goto (pc := 195) (tgt := 199) dX10_send_195 rfl ?_
        refine J_istore (pc := 199) dX10_send_199 (by decide) ?_
        refine J_iload (pc := 201) dX10_send_201 rfl ?_
        refine J_if_eqN (pc := 203) (tgt := 226) dX10_send_203 rfl (by omega) (fun z1 => ?_) (fun z1 => ?_)
        · cases z1
        · refine J_iload_n (pc := 206) dX10_send_206 rfl rfl ?_
          refine J_iconst (pc := 207) (v := (-1)) dX10_send_207 (by decide) ?_
          have take : (∀ y, x_short X h i = some y → x_left X i < x_left X y) → J l g mX10_send hgt 0 0 Q 224 [(3, .int (nI i)), (2, .int (oI (x_short X h i))), (0, .ref b), (1, .int (nI h))] [] S 0 0 := by
            intro w
            rw [if_pos ⟨z, w⟩] at hs
            rw [hs] at next
            refine J_iload_n (pc := 224) dX10_send_224 rfl rfl ?_
            refine J_istore_n (pc := 225) dX10_send_225 rfl (by decide) ?_
            exact J_lvk next ⟨rfl, rfl, rfl, rfl, trivial⟩
          refine J_icmp_eq (pc := 208) (tgt := 224) dX10_send_208 rfl (fun h5 => ?_) (fun h5 => ?_)
          · have h5 := (oI_m1 (fun x hx => by have := x_short_lt hx; omega)).mp h5
            exact J_lvk (take (fun y hy => by rw [h5] at hy; cases hy)) ⟨rfl, rfl, rfl, rfl, trivial⟩
          · cases hb : x_short X h i with
            | none => rw [hb] at h5; exact absurd rfl h5
            | some y =>
              have hy := x_short_lt hb
              have l1 := x_left_le (X := X) (m := i) h1.1.2.2.1
              have l2 := x_left_le (X := X) (m := y) (hI.msg (m := y) (by omega)).1.2.2.1
              rw [hb] at take nxno
              refine J_aload_n (pc := 211) dX10_send_211 rfl rfl ?_
              refine J_iload_n (pc := 212) dX10_send_212 rfl rfl ?_
              refine J_callV (pc := 213) (cm_left l g (hgt - 1) hW hI (show i < 48 by omega)) qX10_left vX10_left cl8 rfl hW.o kX10_200 dX10_send_213 rfl rfl (Nat.le_of_ble_eq_true rfl) (by omega) (by omega) (by omega) ?_
              rintro _ _ ⟨rfl, rfl⟩
              refine J_aload_n (pc := 216) dX10_send_216 rfl rfl ?_
              refine J_iload_n (pc := 217) dX10_send_217 rfl rfl ?_
              refine J_callV (pc := 218) (cm_left l g (hgt - 1) hW hI (show y < 48 by omega)) qX10_left vX10_left cl8 rfl hW.o kX10_200 dX10_send_218 rfl rfl (Nat.le_of_ble_eq_true rfl) (by omega) (by omega) (by omega) ?_
              rintro _ _ ⟨rfl, rfl⟩
              refine J_icmp_geN (pc := 221) (tgt := 226) dX10_send_221 rfl (by omega) (by omega) (fun h6 => ?_) (fun h6 => ?_)
              · exact J_lvk (nxno (fun w => by have := w.2 y rfl; omega)) ⟨rfl, rfl, rfl, rfl, trivial⟩
              · exact J_lvk (take (fun y' hy' => by cases hy'; exact h6)) ⟨rfl, rfl, rfl, rfl, trivial⟩
      refine J_iload_n (pc := 143) dX10_send_143 rfl rfl ?_
      refine J_aload_n (pc := 144) dX10_send_144 rfl rfl ?_
      refine J_geti (pc := 145) (i := 2) cl8 hW.o (by decide) rfl hW.2.2.1.2.1 kX10_138 dX10_send_145 ?_
      refine J_icmp_geN (pc := 148) (tgt := 232) dX10_send_148 rfl (by omega) (by omega) (fun h0 => ?_) (fun h0 => ?_)
      · omega
      · refine J_aload_n (pc := 151) dX10_send_151 rfl rfl ?_
        refine J_getr (pc := 152) (i := 16) cl8 hW.o (by decide) rfl (hW.r 16 rfl) kX10_44 dX10_send_152 ?_
        refine J_iload_n (pc := 155) dX10_send_155 rfl rfl ?_
        refine J_mld (pc := 156) hW 8 rfl rfl (by show _ < 48; omega) dX10_send_156 ?_
        refine J_iload_n (pc := 157) dX10_send_157 rfl rfl ?_
        refine J_icmp_neN (pc := 158) (tgt := 198) dX10_send_158 rfl (by omega) (by omega) (fun h2 => ?_) (fun h2 => ?_)
        · exact no (by simp [x_can, h2])
        · refine J_aload_n (pc := 161) dX10_send_161 rfl rfl ?_
          refine J_getr (pc := 162) (i := 20) cl8 hW.o (by decide) rfl (hW.r 20 rfl) kX10_56 dX10_send_162 ?_
          refine J_iload_n (pc := 165) dX10_send_165 rfl rfl ?_
          refine J_mld (pc := 166) hW 12 rfl rfl (by show _ < 48; omega) dX10_send_166 ?_
          refine J_if_neN (pc := 167) (tgt := 198) dX10_send_167 rfl (by omega) (fun h3 => ?_) (fun h3 => ?_)
          · exact no (by simp [x_can, h3])
          · refine J_aload_n (pc := 170) dX10_send_170 rfl rfl ?_
            refine J_iload_n (pc := 171) dX10_send_171 rfl rfl ?_
            refine J_callV (pc := 172) (cm_least l g (hgt - 1) hW (show i < 48 by omega)) qX10_least vX10_least cl8 rfl hW.o kX10_197 dX10_send_172 rfl rfl (Nat.le_of_ble_eq_true rfl) (by omega) (by omega) (by omega) ?_
            rintro _ _ ⟨rfl, rfl⟩
            refine J_iconst (pc := 175) (v := (-1)) dX10_send_175 (by decide) ?_
            refine J_icmp_ne (pc := 176) (tgt := 194) dX10_send_176 rfl (fun h4 => ?_) (fun h4 => ?_)
            · have h4 : x_least X i < 60 := Decidable.byContradiction (fun z => h4 (li_m1.mpr z))
              exact yes (by simp [x_can, h2, h3, h4])
            · have h4 := li_m1.mp h4
              refine J_aload_n (pc := 179) dX10_send_179 rfl rfl ?_
              refine J_getr (pc := 180) (i := 21) cl8 hW.o (by decide) rfl (hW.r 21 rfl) kX10_59 dX10_send_180 ?_
              refine J_iload_n (pc := 183) dX10_send_183 rfl rfl ?_
              refine J_mld (pc := 184) hW 13 rfl rfl (by show _ < 48; omega) dX10_send_184 ?_
              refine J_aload_n (pc := 185) dX10_send_185 rfl rfl ?_
              refine J_getr (pc := 186) (i := 22) cl8 hW.o (by decide) rfl (hW.r 22 rfl) kX10_62 dX10_send_186 ?_
              refine J_iload_n (pc := 189) dX10_send_189 rfl rfl ?_
              refine J_mld (pc := 190) hW 14 rfl rfl (by show _ < 48; omega) dX10_send_190 ?_
              refine J_icmp_geN (pc := 191) (tgt := 198) dX10_send_191 rfl (by omega) (by omega) (fun h5 => ?_) (fun h5 => ?_)
              · exact no (by simp [x_can, h4]; omega)
              · exact yes (by simp [x_can, h2, h3, h5])
  exact J_lvk (loop 0 (Nat.zero_le _)) ⟨rfl, rfl, rfl, rfl, trivial⟩
theorem x_cut_sm {X Y : XS} (h : xSm X Y) (a t : Nat) : x_cut Y a t = x_cut X a t := by
  have e1 : x_lens Y a = x_lens X a := by
    unfold x_lens
    rw [h.1, h.2.1, h.2.2.2.1]
  have e2 : x_late Y a = x_late X a := by
    unfold x_late
    rw [e1]
  unfold x_cut
  rw [e2]
theorem cut_le {X : XS} {a t : Nat} : x_cut X a t ≤ 61 := by
  unfold x_cut
  split
  · omega
  · exact lst_le _ _
theorem xSm_takePlace (X : XS) (m : Nat) : xSm X (x_takePlace X m) := by
  unfold x_takePlace
  split
  · exact ⟨rfl, rfl, rfl, rfl, rfl⟩
  · exact ⟨xV_nf (by decide), xV_nf (by decide), xV_nf (by decide), xV_nf (by decide), xV_nf (by decide)⟩
set_option maxRecDepth 100000 in
theorem cm_send (l : Launch) (g : jG) (hgt : Nat) {S : jS} {b : Nat} {ad : Nat → Nat} {X : XS} {h : Nat} (hW : WM S b ad X) (hI : xOK X) (hT : ∀ m, x_short X h (xV X 1 0) = some m → xOK (x_takePlace X m)) (hh8 : h < 8) (hh : 2 ≤ hgt) : CT l g mX10_send hgt 0 0 [.ref b, .int (nI h)] S (mPost b ad (x_send X h)) := by
  obtain ⟨q8, qw, qe⟩ := hW.2.2.2.2.2.2.2 h hh8
  have h48 := hI.many
  refine CT_of qX10_send (Nat.le_of_ble_eq_true rfl) ?_
  refine J_aload_n (pc := 0) dX10_send_0 rfl rfl ?_
  refine J_getr (pc := 1) (i := 37) cl8 hW.o (by decide) rfl (hW.r 37 rfl) kX10_107 dX10_send_1 ?_
  refine J_iload_n (pc := 4) dX10_send_4 rfl rfl ?_
  refine J_iald (pc := 5) (hW.a 37 rfl) rfl hh8 (by first | omega | exact mLn_lt _) qw dX10_send_5 ?_
  refine J_if_leN (pc := 6) (tgt := 139) dX10_send_6 rfl (by omega) (fun h0 => ?_) (fun h0 => ?_)
  · have hnil : xL X (96 + h) = [] := List.eq_nil_of_length_eq_zero h0
    refine jm_short l g hgt hW hI hh8 (by omega) ?_
    refine J_iload_n (pc := 232) dX10_send_232 rfl rfl ?_
    refine J_iconst (pc := 233) (v := (-1)) dX10_send_233 (by decide) ?_
    refine J_icmp_ne (pc := 234) (tgt := 238) dX10_send_234 rfl (fun h5 => ?_) (fun h5 => ?_)
    · cases hb : x_short X h (xV X 1 0) with
      | none => rw [hb] at h5; exact absurd rfl h5
      | some m =>
        have hm := x_short_lt hb
        have h1 := hI.msg (m := m) (by omega)
        have hI2 := hT m hb
        have hsm := xSm_takePlace X m
        have fin : x_send X h = x_enter (x_sent1 (x_takePlace X m) h) h (0, m, x_place X m) (x_prio X h m (x_place X m)) := by
          rw [x_send, hnil]
          show (match x_short X h (xV X 1 0) with | none => X | some m => _) = _
          rw [hb]
        have hcan : x_place X m < 60 := by
          have : x_can X h m = true := by
            have key : ∀ n, x_short X h n = some m → x_can X h m = true := by
              intro n
              induction n with
              | zero => intro z; cases z
              | succ n ih =>
                intro z
                unfold x_short at z
                split at z
                · rename_i w
                  cases z
                  exact w.1
                · exact ih z
            exact key _ hb
          unfold x_place
          split
          · assumption
          · rename_i w
            simp [x_can, w] at this
            omega
        have tail : ∀ S2, WM S2 b ad (x_takePlace X m) → J l g mX10_send hgt 0 0 (mPost b ad (x_send X h)) 281 [(3, .int (nI (x_place X m))), (2, .int (nI m)), (0, .ref b), (1, .int (nI h))] [] S2 0 0 := by
          intro S2 hW
          have e10 : xV (x_takePlace X m) 10 = xV X 10 := hsm.2.2.2.1
          have e15 : xV (x_takePlace X m) 15 = xV X 15 := by
            unfold x_takePlace
            split
            · rfl
            · exact xV_nf (by decide)
          have e4 : xV (x_takePlace X m) 4 = xV X 4 := by
            unfold x_takePlace
            split
            · rfl
            · exact xV_nf (by decide)
          have ec := x_cut_sm hsm h
          generalize x_takePlace X m = Y at hW hI2 e10 e15 e4 ec fin
          have last : ∀ p, p = x_prio X h m (x_place X m) → J l g mX10_send hgt 0 0 (mPost b ad (x_send X h)) 334 [(3, .int (nI (x_place X m))), (2, .int (nI m)), (0, .ref b), (1, .int (nI h))] [.int (nI p)] S2 0 0 := by
            intro p hp
            refine J_istore (pc := 334) dX10_send_334 (by decide) ?_
            refine J_aload_n (pc := 336) dX10_send_336 rfl rfl ?_
            refine J_getr (pc := 337) (i := 41) cl8 hW.o (by decide) rfl (hW.r 41 rfl) kX10_119 dX10_send_337 ?_
            refine J_iload_n (pc := 340) dX10_send_340 rfl rfl ?_
            refine J_dup2_11 (pc := 341) dX10_send_341 rfl rfl ?_
            refine J_mld (pc := 342) hW 27 rfl rfl (by show _ < 8; omega) dX10_send_342 ?_
            refine J_iconst (pc := 343) (v := nI 1) dX10_send_343 (by decide) ?_
            first | refine J_iaddN (pc := 344) dX10_send_344 ?_ | refine J_iadd (pc := 344) dX10_send_344 ?_
            refine J_mst (pc := 345) hW 27 rfl rfl (by show _ < 8; omega) rfl dX10_send_345 (fun hW => ?_)
            refine J_aload_n (pc := 346) dX10_send_346 rfl rfl ?_
            refine J_iload_n (pc := 347) dX10_send_347 rfl rfl ?_
            refine J_iconst (pc := 348) (v := nI 0) dX10_send_348 (by decide) ?_
            refine J_iload_n (pc := 349) dX10_send_349 rfl rfl ?_
            refine J_iload_n (pc := 350) dX10_send_350 rfl rfl ?_
            refine J_iload (pc := 351) dX10_send_351 rfl ?_
            refine J_callV (pc := 353) (cm_enter l g (hgt - 1) (k := 0) (m := m) (c := x_place X m) (p := p) hW (by rw [xV_nf (by decide), e4]; exact (hI.link (show h < 24 by omega)).1) (show h < 24 by omega)) qX10_enter vX10_enter cl8 rfl hW.o kX10_166 dX10_send_353 rfl rfl (Nat.le_of_ble_eq_true rfl) (by omega) (by omega) (by omega) ?_
            rintro _ _ ⟨rfl, hW⟩
            refine J_vret (pc := 356) dX10_send_356 rfl (by omega) (by omega) ?_
            refine ⟨rfl, ?_⟩
            rw [fin, ← hp]
            exact hW
          have c1 : x_cut X h 1 ≤ 61 := cut_le
          have c2 : x_cut X h 2 ≤ 61 := cut_le
          refine J_iload_n (pc := 281) dX10_send_281 rfl rfl ?_
          refine J_iconst (pc := 282) (v := nI 4) dX10_send_282 (by decide) ?_
          refine J_icmp_ltN (pc := 283) (tgt := 295) dX10_send_283 rfl (by omega) (by omega) (fun h6 => ?_) (fun h6 => ?_)
          · refine J_aload_n (pc := 295) dX10_send_295 rfl rfl ?_
            refine J_getr (pc := 296) (i := 18) cl8 hW.o (by decide) rfl (hW.r 18 rfl) kX10_50 dX10_send_296 ?_
            refine J_iload_n (pc := 299) dX10_send_299 rfl rfl ?_
            refine J_mld (pc := 300) hW 10 rfl rfl (by show _ < 48; omega) dX10_send_300 ?_
            refine J_aload_n (pc := 301) dX10_send_301 rfl rfl ?_
            refine J_iload_n (pc := 302) dX10_send_302 rfl rfl ?_
            refine J_iconst (pc := 303) (v := nI 1) dX10_send_303 (by decide) ?_
            refine J_callV (pc := 304) (cm_cutoff l g (hgt - 1) hW hI2 hh8 (by decide) (show 1 < 3 by decide) (by omega)) qX10_cutoff vX10_cutoff cl8 rfl hW.o kX10_203 dX10_send_304 rfl rfl (Nat.le_of_ble_eq_true rfl) (by omega) (by omega) (by omega) ?_
            rintro _ _ ⟨rfl, rfl⟩
            rw [ec, e10]
            refine J_icmp_gtN (pc := 307) (tgt := 314) dX10_send_307 rfl (by omega) (by omega) (fun h7 => ?_) (fun h7 => ?_)
            · refine J_aload_n (pc := 314) dX10_send_314 rfl rfl ?_
              refine J_getr (pc := 315) (i := 18) cl8 hW.o (by decide) rfl (hW.r 18 rfl) kX10_50 dX10_send_315 ?_
              refine J_iload_n (pc := 318) dX10_send_318 rfl rfl ?_
              refine J_mld (pc := 319) hW 10 rfl rfl (by show _ < 48; omega) dX10_send_319 ?_
              refine J_aload_n (pc := 320) dX10_send_320 rfl rfl ?_
              refine J_iload_n (pc := 321) dX10_send_321 rfl rfl ?_
              refine J_iconst (pc := 322) (v := nI 2) dX10_send_322 (by decide) ?_
              refine J_callV (pc := 323) (cm_cutoff l g (hgt - 1) hW hI2 hh8 (by decide) (show 2 < 3 by decide) (by omega)) qX10_cutoff vX10_cutoff cl8 rfl hW.o kX10_203 dX10_send_323 rfl rfl (Nat.le_of_ble_eq_true rfl) (by omega) (by omega) (by omega) ?_
              rintro _ _ ⟨rfl, rfl⟩
              rw [ec, e10]
              refine J_icmp_gtN (pc := 326) (tgt := 333) dX10_send_326 rfl (by omega) (by omega) (fun h8 => ?_) (fun h8 => ?_)
              · refine J_iconst (pc := 333) (v := nI 3) dX10_send_333 (by decide) ?_
                exact last 3 (by rw [x_prio, if_neg (by omega), if_neg (by omega), if_neg (by omega)])
              · refine J_iconst (pc := 329) (v := nI 2) dX10_send_329 (by decide) ?_
                refine J_goto (pc := 330) (tgt := 334) dX10_send_330 rfl ?_
                exact last 2 (by rw [x_prio, if_neg (by omega), if_neg (by omega), if_pos (by omega)])
            · refine J_iconst (pc := 310) (v := nI 1) dX10_send_310 (by decide) ?_
              refine J_goto (pc := 311) (tgt := 334) dX10_send_311 rfl ?_
              exact last 1 (by rw [x_prio, if_neg (by omega), if_pos (by omega)])
          · refine J_aload_n (pc := 286) dX10_send_286 rfl rfl ?_
            refine J_getr (pc := 287) (i := 23) cl8 hW.o (by decide) rfl (hW.r 23 rfl) kX10_65 dX10_send_287 ?_
            refine J_iload_n (pc := 290) dX10_send_290 rfl rfl ?_
            refine J_mld (pc := 291) hW 15 rfl rfl (by show _ < 48; omega) dX10_send_291 ?_
            refine J_goto (pc := 292) (tgt := 334) dX10_send_292 rfl ?_
            rw [e15]
            exact last _ (by rw [x_prio, if_pos (by omega)])
        refine J_aload_n (pc := 238) dX10_send_238 rfl rfl ?_
        refine J_iload_n (pc := 239) dX10_send_239 rfl rfl ?_
        refine J_callV (pc := 240) (cm_least l g (hgt - 1) hW (show m < 48 by omega)) qX10_least vX10_least cl8 rfl hW.o kX10_197 dX10_send_240 rfl rfl (Nat.le_of_ble_eq_true rfl) (by omega) (by omega) (by omega) ?_
        rintro _ _ ⟨rfl, rfl⟩
        refine J_istore_n (pc := 243) dX10_send_243 rfl (by decide) ?_
        refine J_iload_n (pc := 244) dX10_send_244 rfl rfl ?_
        refine J_iconst (pc := 245) (v := (-1)) dX10_send_245 (by decide) ?_
        refine J_icmp_ne (pc := 246) (tgt := 269) dX10_send_246 rfl (fun h4 => ?_) (fun h4 => ?_)
        · have h4 : x_least X m < 60 := Decidable.byContradiction (fun z => h4 (li_m1.mpr z))
          rw [if_pos h4]
          refine J_aload_n (pc := 269) dX10_send_269 rfl rfl ?_
          refine J_getr (pc := 270) (i := 27) cl8 hW.o (by decide) rfl (hW.r 27 rfl) kX10_77 dX10_send_270 ?_
          refine J_bipush (pc := 273) (v := nI 60) dX10_send_273 (by decide) ?_
          refine J_iload_n (pc := 275) dX10_send_275 rfl rfl ?_
          first | refine J_imulN (pc := 276) dX10_send_276 ?_ | refine J_imul (pc := 276) dX10_send_276 ?_
          refine J_iload_n (pc := 277) dX10_send_277 rfl rfl ?_
          first | refine J_iaddN (pc := 278) dX10_send_278 ?_ | refine J_iadd (pc := 278) dX10_send_278 ?_
          refine J_iconst (pc := 279) (v := nI 0) dX10_send_279 (by decide) ?_
          refine J_zast (pc := 280) (hW.a 27 rfl) rfl (show _ < 2880 by omega) (by first | omega | exact mLn_lt _) rfl dX10_send_280 ?_
          have hW := hW.wB 0 27 (by decide) m (x_least X m) h4 false
          have ep : x_place X m = x_least X m := by rw [x_place, if_pos h4]
          refine J_lvk (tail _ (by rw [x_takePlace, if_pos h4]; exact hW)) ⟨by rw [ep]; rfl, rfl, rfl, rfl, trivial⟩
        · have h4 := li_m1.mp h4
          refine J_aload_n (pc := 249) dX10_send_249 rfl rfl ?_
          refine J_getr (pc := 250) (i := 21) cl8 hW.o (by decide) rfl (hW.r 21 rfl) kX10_59 dX10_send_250 ?_
          refine J_iload_n (pc := 253) dX10_send_253 rfl rfl ?_
          refine J_mld (pc := 254) hW 13 rfl rfl (by show _ < 48; omega) dX10_send_254 ?_
          refine J_istore_n (pc := 255) dX10_send_255 rfl (by decide) ?_
          refine J_aload_n (pc := 256) dX10_send_256 rfl rfl ?_
          refine J_getr (pc := 257) (i := 21) cl8 hW.o (by decide) rfl (hW.r 21 rfl) kX10_59 dX10_send_257 ?_
          refine J_iload_n (pc := 260) dX10_send_260 rfl rfl ?_
          refine J_dup2_11 (pc := 261) dX10_send_261 rfl rfl ?_
          refine J_mld (pc := 262) hW 13 rfl rfl (by show _ < 48; omega) dX10_send_262 ?_
          refine J_iconst (pc := 263) (v := nI 1) dX10_send_263 (by decide) ?_
          first | refine J_iaddN (pc := 264) dX10_send_264 ?_ | refine J_iadd (pc := 264) dX10_send_264 ?_
          refine J_mst (pc := 265) hW 13 rfl rfl (by show _ < 48; omega) rfl dX10_send_265 (fun hW => ?_)
          refine J_goto (pc := 266) (tgt := 281) dX10_send_266 rfl ?_
          have ep : x_place X m = xV X 13 m := by rw [x_place, if_neg h4]
          refine J_lvk (tail _ (by rw [x_takePlace, if_neg h4]; exact hW)) ⟨by rw [ep]; rfl, rfl, rfl, rfl, trivial⟩
    · have h5 := (oI_m1 (fun x hx => by have := x_short_lt hx; omega)).mp h5
      refine J_vret (pc := 237) dX10_send_237 rfl (by omega) (by omega) ?_
      refine ⟨rfl, ?_⟩
      rw [x_send, hnil]
      show WM _ b ad (match x_short X h (xV X 1 0) with | none => X | some m => _)
      rw [h5]
      exact hW
  · cases hz : xL X (96 + h) with
    | nil => rw [hz] at h0; exact absurd h0 (by decide)
    | cons e t => exact jm_sendDue l g hgt hW hI hh8 hz (by omega)
