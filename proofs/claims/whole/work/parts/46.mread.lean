theorem bad_neg {m : Int32} {n : Nat} (h : ¬ (m < 0 ∨ nI n ≤ m)) (hn : n < 2 ^ 31) : ∃ j, j < n ∧ m = nI j := ix_in hn (fun z => h (Or.inl z)) (fun z => h (Or.inr z))
set_option maxRecDepth 100000 in
theorem cm_isMessage (l : Launch) (g : jG) (hgt : Nat) {S : jS} {b : Nat} {ad : Nat → Nat} {X : XS} (m : Int32) (hW : WM S b ad X) : CT l g mX10_isMessage hgt 0 0 [.ref b, .int m] S (jPure (.int (bI (decide (¬ (m < 0 ∨ nI (xV X 1 0) ≤ m))))) S) := by
  refine CT_of qX10_isMessage (Nat.le_of_ble_eq_true rfl) ?_
  refine J_iload_n (pc := 0) dX10_isMessage_0 rfl rfl ?_
  refine J_if_lt (pc := 1) (tgt := 16) dX10_isMessage_1 rfl (fun h1 => ?_) (fun h1 => ?_)
  · refine J_iconst (pc := 16) (v := nI 0) dX10_isMessage_16 (by decide) ?_
    refine J_zret (pc := 17) dX10_isMessage_17 rfl rfl (by omega) (by omega) ?_
    exact ⟨by rw [decide_eq_false (by simp [h1])]; rfl, rfl⟩
  · refine J_iload_n (pc := 4) dX10_isMessage_4 rfl rfl ?_
    refine J_aload_n (pc := 5) dX10_isMessage_5 rfl rfl ?_
    refine J_geti (pc := 6) (i := 2) cl8 hW.o (by decide) rfl hW.2.2.1.2.1 kX10_138 dX10_isMessage_6 ?_
    refine J_icmp_ge (pc := 9) (tgt := 16) dX10_isMessage_9 rfl (fun h2 => ?_) (fun h2 => ?_)
    · refine J_iconst (pc := 16) (v := nI 0) dX10_isMessage_16 (by decide) ?_
      refine J_zret (pc := 17) dX10_isMessage_17 rfl rfl (by omega) (by omega) ?_
      exact ⟨by rw [decide_eq_false (by simp [h2])]; rfl, rfl⟩
    · refine J_iconst (pc := 12) (v := nI 1) dX10_isMessage_12 (by decide) ?_
      refine J_goto (pc := 13) (tgt := 17) dX10_isMessage_13 rfl ?_
      refine J_zret (pc := 17) dX10_isMessage_17 rfl rfl (by omega) (by omega) ?_
      exact ⟨by rw [decide_eq_true (by simp [h1, h2])]; rfl, rfl⟩
set_option maxRecDepth 100000 in
theorem cm_sent (l : Launch) (g : jG) (hgt : Nat) {S : jS} {b : Nat} {ad : Nat → Nat} {X : XS} (m w : Int32) (hW : WM S b ad X) (hI : xOK (yV X 32 0 0)) (hh : 1 ≤ hgt) : CT l g mX10_sent hgt 0 0 [.ref b, .int m, .int w] S (mPub b ad (p_sent (yV X 32 0 0) m w) (yV X 32 0 0)) := by
  refine CT_of qX10_sent (Nat.le_of_ble_eq_true rfl) ?_
  show J _ _ _ _ _ _ _ 0 [(0, .ref b), (1, .int m), (2, .int w)] [] S 0 0
  refine J_aload_n (pc := 0) dX10_sent_0 rfl rfl ?_
  refine J_iconst (pc := 1) (v := nI 0) dX10_sent_1 (by decide) ?_
  refine J_mss (pc := 2) hW 0 32 (by decide) rfl kX10_134 dX10_sent_2 (fun hW => ?_)
  generalize yV X 32 0 0 = X at hW hI
  generalize uI S 8 b 0 (nI 0) = S at hW
  refine J_aload_n (pc := 5) dX10_sent_5 rfl rfl ?_
  refine J_iload_n (pc := 6) dX10_sent_6 rfl rfl ?_
  refine J_callV (pc := 7) (cm_isMessage l g (hgt - 1) m hW) qX10_isMessage vX10_isMessage cl8 rfl hW.o kX10_225 dX10_sent_7 rfl rfl (Nat.le_of_ble_eq_true rfl) (by omega) (by omega) (by omega) ?_
  rintro _ _ ⟨rfl, rfl⟩
  refine J_if_neB (pc := 10) (tgt := 15) dX10_sent_10 rfl (fun h1 => ?_) (fun h1 => ?_)
  · have h1 := of_decide_eq_true h1
    have h48 := hI.many
    unfold p_sent
    rw [if_neg h1]
    obtain ⟨m, hm, rfl⟩ := bad_neg h1 (by omega)
    rw [cl_nI (by omega)]
    refine J_iload_n (pc := 15) dX10_sent_15 rfl rfl ?_
    rcases pk_ix w (n := 8) (by decide) with h2 | h2 | ⟨j, hj, rfl⟩
    · refine J_tableOut (pc := 16) (tgt := 119) dX10_sent_16 ((Or.inl (by have := Int32.lt_iff_toInt_lt.mp h2; exact this))) rfl ?_
      refine J_iconst (pc := 119) (v := (-1)) dX10_sent_119 (by decide) ?_
      refine J_iret (pc := 120) dX10_sent_120 rfl (by omega) (by omega) ?_
      refine ⟨?_, hW⟩
      have : ∀ k, k < 8 → ¬ w = nI k := fun k hk e => by subst e; exact absurd h2 (nI_pos (by omega))
      simp [p_sentV, this]
    · refine J_tableOut (pc := 16) (tgt := 119) dX10_sent_16 ((Or.inr (by have := Int32.le_iff_toInt_le.mp h2; rw [nI_toInt (by decide)] at this; omega))) rfl ?_
      refine J_iconst (pc := 119) (v := (-1)) dX10_sent_119 (by decide) ?_
      refine J_iret (pc := 120) dX10_sent_120 rfl (by omega) (by omega) ?_
      refine ⟨?_, hW⟩
      have : ∀ k, k < 8 → ¬ w = nI k := fun k hk e => by subst e; have := (nI_leI (by decide) (by omega)).mp h2; omega
      simp [p_sentV, this]
    · rcases (show j = 0 ∨ j = 1 ∨ j = 2 ∨ j = 3 ∨ j = 4 ∨ j = 5 ∨ j = 6 ∨ j = 7 by omega) with rfl | rfl | rfl | rfl | rfl | rfl | rfl | rfl
      · refine J_tableIn (pc := 16) (off := 48) (tgt := 64) dX10_sent_16 (by decide) (by decide) (by decide) rfl ?_
        refine J_aload_n (pc := 64) dX10_sent_64 rfl rfl ?_
        refine J_getr (pc := 65) (i := 20) cl8 hW.o (by decide) rfl (hW.r 20 rfl) kX10_56 dX10_sent_65 ?_
        refine J_iload_n (pc := 68) dX10_sent_68 rfl rfl ?_
        refine J_mld (pc := 69) hW 12 rfl rfl (by show _ < 48; omega) dX10_sent_69 ?_
        refine J_iret (pc := 70) dX10_sent_70 rfl (by omega) (by omega) ?_
        exact ⟨rfl, hW⟩
      · refine J_tableIn (pc := 16) (off := 55) (tgt := 71) dX10_sent_16 (by decide) (by decide) (by decide) rfl ?_
        refine J_aload_n (pc := 71) dX10_sent_71 rfl rfl ?_
        refine J_getr (pc := 72) (i := 21) cl8 hW.o (by decide) rfl (hW.r 21 rfl) kX10_59 dX10_sent_72 ?_
        refine J_iload_n (pc := 75) dX10_sent_75 rfl rfl ?_
        refine J_mld (pc := 76) hW 13 rfl rfl (by show _ < 48; omega) dX10_sent_76 ?_
        refine J_iret (pc := 77) dX10_sent_77 rfl (by omega) (by omega) ?_
        exact ⟨rfl, hW⟩
      · refine J_tableIn (pc := 16) (off := 62) (tgt := 78) dX10_sent_16 (by decide) (by decide) (by decide) rfl ?_
        refine J_aload_n (pc := 78) dX10_sent_78 rfl rfl ?_
        refine J_getr (pc := 79) (i := 22) cl8 hW.o (by decide) rfl (hW.r 22 rfl) kX10_62 dX10_sent_79 ?_
        refine J_iload_n (pc := 82) dX10_sent_82 rfl rfl ?_
        refine J_mld (pc := 83) hW 14 rfl rfl (by show _ < 48; omega) dX10_sent_83 ?_
        refine J_iret (pc := 84) dX10_sent_84 rfl (by omega) (by omega) ?_
        exact ⟨rfl, hW⟩
      · refine J_tableIn (pc := 16) (off := 69) (tgt := 85) dX10_sent_16 (by decide) (by decide) (by decide) rfl ?_
        refine J_aload_n (pc := 85) dX10_sent_85 rfl rfl ?_
        refine J_iload_n (pc := 86) dX10_sent_86 rfl rfl ?_
        refine J_callV (pc := 87) (cm_left l g (hgt - 1) hW hI (show m < 48 by omega)) qX10_left vX10_left cl8 rfl hW.o kX10_200 dX10_sent_87 rfl rfl (Nat.le_of_ble_eq_true rfl) (by omega) (by omega) (by omega) ?_
        rintro _ _ ⟨rfl, rfl⟩
        refine J_iret (pc := 90) dX10_sent_90 rfl (by omega) (by omega) ?_
        exact ⟨rfl, hW⟩
      · refine J_tableIn (pc := 16) (off := 75) (tgt := 91) dX10_sent_16 (by decide) (by decide) (by decide) rfl ?_
        refine J_aload_n (pc := 91) dX10_sent_91 rfl rfl ?_
        refine J_getr (pc := 92) (i := 24) cl8 hW.o (by decide) rfl (hW.r 24 rfl) kX10_68 dX10_sent_92 ?_
        refine J_iload_n (pc := 95) dX10_sent_95 rfl rfl ?_
        refine J_mld (pc := 96) hW 16 rfl rfl (by show _ < 48; omega) dX10_sent_96 ?_
        refine J_iret (pc := 97) dX10_sent_97 rfl (by omega) (by omega) ?_
        exact ⟨rfl, hW⟩
      · refine J_tableIn (pc := 16) (off := 82) (tgt := 98) dX10_sent_16 (by decide) (by decide) (by decide) rfl ?_
        refine J_aload_n (pc := 98) dX10_sent_98 rfl rfl ?_
        refine J_getr (pc := 99) (i := 25) cl8 hW.o (by decide) rfl (hW.r 25 rfl) kX10_71 dX10_sent_99 ?_
        refine J_iload_n (pc := 102) dX10_sent_102 rfl rfl ?_
        refine J_mld (pc := 103) hW 17 rfl rfl (by show _ < 48; omega) dX10_sent_103 ?_
        refine J_iret (pc := 104) dX10_sent_104 rfl (by omega) (by omega) ?_
        exact ⟨rfl, hW⟩
      · refine J_tableIn (pc := 16) (off := 89) (tgt := 105) dX10_sent_16 (by decide) (by decide) (by decide) rfl ?_
        refine J_aload_n (pc := 105) dX10_sent_105 rfl rfl ?_
        refine J_getr (pc := 106) (i := 23) cl8 hW.o (by decide) rfl (hW.r 23 rfl) kX10_65 dX10_sent_106 ?_
        refine J_iload_n (pc := 109) dX10_sent_109 rfl rfl ?_
        refine J_mld (pc := 110) hW 15 rfl rfl (by show _ < 48; omega) dX10_sent_110 ?_
        refine J_iret (pc := 111) dX10_sent_111 rfl (by omega) (by omega) ?_
        exact ⟨rfl, hW⟩
      · refine J_tableIn (pc := 16) (off := 96) (tgt := 112) dX10_sent_16 (by decide) (by decide) (by decide) rfl ?_
        refine J_aload_n (pc := 112) dX10_sent_112 rfl rfl ?_
        refine J_getr (pc := 113) (i := 26) cl8 hW.o (by decide) rfl (hW.r 26 rfl) kX10_74 dX10_sent_113 ?_
        refine J_iload_n (pc := 116) dX10_sent_116 rfl rfl ?_
        refine J_mld (pc := 117) hW 18 rfl rfl (by show _ < 48; omega) dX10_sent_117 ?_
        refine J_iret (pc := 118) dX10_sent_118 rfl (by omega) (by omega) ?_
        exact ⟨rfl, hW⟩
  · have h1 := of_decide_eq_false h1
    refine J_iconst (pc := 13) (v := (-1)) dX10_sent_13 (by decide) ?_
    refine J_iret (pc := 14) dX10_sent_14 rfl (by omega) (by omega) ?_
    exact ⟨by rw [p_sent, if_pos (Decidable.not_not.mp h1)], hW⟩
set_option maxRecDepth 100000 in
theorem cm_received (l : Launch) (g : jG) (hgt : Nat) {S : jS} {b : Nat} {ad : Nat → Nat} {X : XS} (m w : Int32) (hW : WM S b ad X) (hI : xOK (yV X 32 0 0)) (hh : 1 ≤ hgt) : CT l g mX10_received hgt 0 0 [.ref b, .int m, .int w] S (mPub b ad (p_received (yV X 32 0 0) m w) (yV X 32 0 0)) := by
  refine CT_of qX10_received (Nat.le_of_ble_eq_true rfl) ?_
  show J _ _ _ _ _ _ _ 0 [(0, .ref b), (1, .int m), (2, .int w)] [] S 0 0
  refine J_aload_n (pc := 0) dX10_received_0 rfl rfl ?_
  refine J_iconst (pc := 1) (v := nI 0) dX10_received_1 (by decide) ?_
  refine J_mss (pc := 2) hW 0 32 (by decide) rfl kX10_134 dX10_received_2 (fun hW => ?_)
  generalize yV X 32 0 0 = X at hW hI
  generalize uI S 8 b 0 (nI 0) = S at hW
  have fail : (m < 0 ∨ nI (xV X 1 0) ≤ m ∨ w < 0 ∨ nI 6 < w) → J l g mX10_received hgt 0 0 (mPub b ad (p_received X m w) X) 23 [(0, .ref b), (1, .int m), (2, .int w)] [] S 0 0 := by
    intro z
    refine J_iconst (pc := 23) (v := (-1)) dX10_received_23 (by decide) ?_
    refine J_iret (pc := 24) dX10_received_24 rfl (by omega) (by omega) ?_
    exact ⟨by rw [p_received, if_pos z], hW⟩
  refine J_aload_n (pc := 5) dX10_received_5 rfl rfl ?_
  refine J_iload_n (pc := 6) dX10_received_6 rfl rfl ?_
  refine J_callV (pc := 7) (cm_isMessage l g (hgt - 1) m hW) qX10_isMessage vX10_isMessage cl8 rfl hW.o kX10_225 dX10_received_7 rfl rfl (Nat.le_of_ble_eq_true rfl) (by omega) (by omega) (by omega) ?_
  rintro _ _ ⟨rfl, rfl⟩
  refine J_if_eqB (pc := 10) (tgt := 23) dX10_received_10 rfl (fun h1 => ?_) (fun h1 => ?_)
  · have h1 := Decidable.not_not.mp (of_decide_eq_false h1)
    exact fail (by rcases h1 with h | h <;> simp [h])
  · have h1 := of_decide_eq_true h1
    refine J_iload_n (pc := 13) dX10_received_13 rfl rfl ?_
    refine J_if_lt (pc := 14) (tgt := 23) dX10_received_14 rfl (fun h2 => ?_) (fun h2 => ?_)
    · exact fail (by simp [h2])
    · refine J_iload_n (pc := 17) dX10_received_17 rfl rfl ?_
      refine J_bipush (pc := 18) (v := nI 6) dX10_received_18 (by decide) ?_
      refine J_icmp_le (pc := 20) (tgt := 25) dX10_received_20 rfl (fun h3 => ?_) (fun h3 => ?_)
      · have h3 : ¬ nI 6 < w := Int32.not_lt.mpr h3
        have h48 := hI.many
        unfold p_received
        rw [if_neg (fun z => by rcases z with z | z | z | z; (· exact h1 (Or.inl z)); (· exact h1 (Or.inr z)); (· exact h2 z); (· exact h3 z))]
        obtain ⟨m, hm, rfl⟩ := bad_neg h1 (by omega)
        have hm1 := hI.msg (m := m) (by omega)
        rw [cl_nI (by omega)]
        obtain ⟨w, hw, rfl⟩ := ix_le (n := 6) (by decide) h2 h3
        unfold p_recV
        have q0 := nI_eq (a := w) (b := 0) (by omega) (by decide)
        have q1 := nI_eq (a := w) (b := 1) (by omega) (by decide)
        have q2 := nI_eq (a := w) (b := 2) (by omega) (by decide)
        have q3 := nI_eq (a := w) (b := 3) (by omega) (by decide)
        have q4 := nI_eq (a := w) (b := 4) (by omega) (by decide)
        have q5 := nI_eq (a := w) (b := 5) (by omega) (by decide)
        refine J_iload_n (pc := 25) dX10_received_25 rfl rfl ?_
        refine J_if_neN (pc := 26) (tgt := 36) dX10_received_26 rfl (by omega) (fun c0 => ?_) (fun c0 => ?_)
        · rw [if_neg (fun z => c0 (q0.mp z))]
          refine J_iload_n (pc := 36) dX10_received_36 rfl rfl ?_
          refine J_iconst (pc := 37) (v := nI 1) dX10_received_37 (by decide) ?_
          refine J_icmp_neN (pc := 38) (tgt := 48) dX10_received_38 rfl (by omega) (by omega) (fun c1 => ?_) (fun c1 => ?_)
          · rw [if_neg (fun z => c1 (q1.mp z))]
            refine J_aload_n (pc := 48) dX10_received_48 rfl rfl ?_
            refine J_getr (pc := 49) (i := 28) cl8 hW.o (by decide) rfl (hW.r 28 rfl) kX10_80 dX10_received_49 ?_
            refine J_iload_n (pc := 52) dX10_received_52 rfl rfl ?_
            refine J_mld (pc := 53) hW 19 rfl rfl (by show _ < 48; omega) dX10_received_53 ?_
            refine J_iconst (pc := 54) (v := nI 1) dX10_received_54 (by decide) ?_
            refine J_icmp_eqN (pc := 55) (tgt := 60) dX10_received_55 rfl (by omega) (by omega) (fun c2 => ?_) (fun c2 => ?_)
            · rw [if_neg (fun z => z c2)]
              refine J_iload_n (pc := 60) dX10_received_60 rfl rfl ?_
              refine J_iconst (pc := 61) (v := nI 2) dX10_received_61 (by decide) ?_
              refine J_icmp_neN (pc := 62) (tgt := 73) dX10_received_62 rfl (by omega) (by omega) (fun c3 => ?_) (fun c3 => ?_)
              · rw [if_neg (fun z => c3 (q2.mp z))]
                refine J_iload_n (pc := 73) dX10_received_73 rfl rfl ?_
                refine J_iconst (pc := 74) (v := nI 3) dX10_received_74 (by decide) ?_
                refine J_icmp_neN (pc := 75) (tgt := 87) dX10_received_75 rfl (by omega) (by omega) (fun c4 => ?_) (fun c4 => ?_)
                · rw [if_neg (fun z => c4 (q3.mp z))]
                  refine J_iload_n (pc := 87) dX10_received_87 rfl rfl ?_
                  refine J_iconst (pc := 88) (v := nI 4) dX10_received_88 (by decide) ?_
                  refine J_icmp_neN (pc := 89) (tgt := 101) dX10_received_89 rfl (by omega) (by omega) (fun c5 => ?_) (fun c5 => ?_)
                  · rw [if_neg (fun z => c5 (q4.mp z))]
                    refine J_iload_n (pc := 101) dX10_received_101 rfl rfl ?_
                    refine J_iconst (pc := 102) (v := nI 5) dX10_received_102 (by decide) ?_
                    refine J_icmp_neN (pc := 103) (tgt := 115) dX10_received_103 rfl (by omega) (by omega) (fun c6 => ?_) (fun c6 => ?_)
                    · rw [if_neg (fun z => c6 (q5.mp z))]
                      refine J_aload_n (pc := 115) dX10_received_115 rfl rfl ?_
                      refine J_getr (pc := 116) (i := 33) cl8 hW.o (by decide) rfl (hW.r 33 rfl) kX10_95 dX10_received_116 ?_
                      refine J_iload_n (pc := 119) dX10_received_119 rfl rfl ?_
                      refine J_mld (pc := 120) hW 24 rfl rfl (by show _ < 48; omega) dX10_received_120 ?_
                      refine J_iret (pc := 121) dX10_received_121 rfl (by omega) (by omega) ?_
                      exact ⟨rfl, hW⟩
                    · rw [if_pos (q5.mpr c6)]
                      refine J_aload_n (pc := 106) dX10_received_106 rfl rfl ?_
                      refine J_getr (pc := 107) (i := 32) cl8 hW.o (by decide) rfl (hW.r 32 rfl) kX10_92 dX10_received_107 ?_
                      refine J_iload_n (pc := 110) dX10_received_110 rfl rfl ?_
                      refine J_mld (pc := 111) hW 23 rfl rfl (by show _ < 48; omega) dX10_received_111 ?_
                      refine J_goto (pc := 112) (tgt := 121) dX10_received_112 rfl ?_
                      refine J_iret (pc := 121) dX10_received_121 rfl (by omega) (by omega) ?_
                      exact ⟨rfl, hW⟩
                  · rw [if_pos (q4.mpr c5)]
                    refine J_aload_n (pc := 92) dX10_received_92 rfl rfl ?_
                    refine J_getr (pc := 93) (i := 31) cl8 hW.o (by decide) rfl (hW.r 31 rfl) kX10_89 dX10_received_93 ?_
                    refine J_iload_n (pc := 96) dX10_received_96 rfl rfl ?_
                    refine J_mld (pc := 97) hW 22 rfl rfl (by show _ < 48; omega) dX10_received_97 ?_
                    refine J_goto (pc := 98) (tgt := 121) dX10_received_98 rfl ?_
                    refine J_iret (pc := 121) dX10_received_121 rfl (by omega) (by omega) ?_
                    exact ⟨rfl, hW⟩
                · rw [if_pos (q3.mpr c4)]
                  refine J_aload_n (pc := 78) dX10_received_78 rfl rfl ?_
                  refine J_getr (pc := 79) (i := 30) cl8 hW.o (by decide) rfl (hW.r 30 rfl) kX10_86 dX10_received_79 ?_
                  refine J_iload_n (pc := 82) dX10_received_82 rfl rfl ?_
                  refine J_mld (pc := 83) hW 21 rfl rfl (by show _ < 48; omega) dX10_received_83 ?_
                  refine J_goto (pc := 84) (tgt := 121) dX10_received_84 rfl ?_
                  refine J_iret (pc := 121) dX10_received_121 rfl (by omega) (by omega) ?_
                  exact ⟨rfl, hW⟩
              · rw [if_pos (q2.mpr c3)]
                refine J_aload_n (pc := 65) dX10_received_65 rfl rfl ?_
                refine J_iload_n (pc := 66) dX10_received_66 rfl rfl ?_
                refine J_callV (pc := 67) (cm_missing l g (hgt - 1) hW hm1.1.2.2.1 (show m < 48 by omega)) qX10_missing vX10_missing cl8 rfl hW.o kX10_173 dX10_received_67 rfl rfl (Nat.le_of_ble_eq_true rfl) (by omega) (by omega) (by omega) ?_
                rintro _ _ ⟨rfl, rfl⟩
                refine J_goto (pc := 70) (tgt := 121) dX10_received_70 rfl ?_
                refine J_iret (pc := 121) dX10_received_121 rfl (by omega) (by omega) ?_
                exact ⟨rfl, hW⟩
            · rw [if_pos c2]
              refine J_iconst (pc := 58) (v := nI 0) dX10_received_58 (by decide) ?_
              refine J_iret (pc := 59) dX10_received_59 rfl (by omega) (by omega) ?_
              exact ⟨rfl, hW⟩
          · rw [if_pos (q1.mpr c1)]
            refine J_aload_n (pc := 41) dX10_received_41 rfl rfl ?_
            refine J_getr (pc := 42) (i := 29) cl8 hW.o (by decide) rfl (hW.r 29 rfl) kX10_83 dX10_received_42 ?_
            refine J_iload_n (pc := 45) dX10_received_45 rfl rfl ?_
            refine J_mld (pc := 46) hW 20 rfl rfl (by show _ < 48; omega) dX10_received_46 ?_
            refine J_iret (pc := 47) dX10_received_47 rfl (by omega) (by omega) ?_
            exact ⟨rfl, hW⟩
        · rw [if_pos (q0.mpr c0)]
          refine J_aload_n (pc := 29) dX10_received_29 rfl rfl ?_
          refine J_getr (pc := 30) (i := 28) cl8 hW.o (by decide) rfl (hW.r 28 rfl) kX10_80 dX10_received_30 ?_
          refine J_iload_n (pc := 33) dX10_received_33 rfl rfl ?_
          refine J_mld (pc := 34) hW 19 rfl rfl (by show _ < 48; omega) dX10_received_34 ?_
          refine J_iret (pc := 35) dX10_received_35 rfl (by omega) (by omega) ?_
          exact ⟨rfl, hW⟩
      · exact fail (by simp [Int32.not_le.mp h3])
set_option maxRecDepth 100000 in
theorem cm_in (l : Launch) (g : jG) (hgt : Nat) {S : jS} {b : Nat} {ad : Nat → Nat} {X : XS} (m i : Int32) (hW : WM S b ad X) (hI : xOK (yV X 32 0 0)) (hh : 1 ≤ hgt) : CT l g mX10_in hgt 0 0 [.ref b, .int m, .int i] S (mPub b ad (p_in (yV X 32 0 0) m i) (yV X 32 0 0)) := by
  refine CT_of qX10_in (Nat.le_of_ble_eq_true rfl) ?_
  show J _ _ _ _ _ _ _ 0 [(0, .ref b), (1, .int m), (2, .int i)] [] S 0 0
  refine J_aload_n (pc := 0) dX10_in_0 rfl rfl ?_
  refine J_iconst (pc := 1) (v := nI 0) dX10_in_1 (by decide) ?_
  refine J_mss (pc := 2) hW 0 32 (by decide) rfl kX10_134 dX10_in_2 (fun hW => ?_)
  generalize yV X 32 0 0 = X at hW hI
  generalize uI S 8 b 0 (nI 0) = S at hW
  have fail : (m < 0 ∨ nI (xV X 1 0) ≤ m ∨ i < 0 ∨ nI (xV X 10 (cl m)) ≤ i) → J l g mX10_in hgt 0 0 (mPub b ad (p_in X m i) X) 45 [(0, .ref b), (1, .int m), (2, .int i)] [] S 0 0 := by
    intro z
    refine J_iconst (pc := 45) (v := nI 0) dX10_in_45 (by decide) ?_
    refine J_zret (pc := 46) dX10_in_46 rfl rfl (by omega) (by omega) ?_
    exact ⟨by rw [p_in, if_pos z], hW⟩
  refine J_aload_n (pc := 5) dX10_in_5 rfl rfl ?_
  refine J_iload_n (pc := 6) dX10_in_6 rfl rfl ?_
  refine J_callV (pc := 7) (cm_isMessage l g (hgt - 1) m hW) qX10_isMessage vX10_isMessage cl8 rfl hW.o kX10_225 dX10_in_7 rfl rfl (Nat.le_of_ble_eq_true rfl) (by omega) (by omega) (by omega) ?_
  rintro _ _ ⟨rfl, rfl⟩
  refine J_if_eqB (pc := 10) (tgt := 45) dX10_in_10 rfl (fun h1 => ?_) (fun h1 => ?_)
  · have h1 := Decidable.not_not.mp (of_decide_eq_false h1)
    exact fail (by rcases h1 with h | h <;> simp [h])
  · have h1 := of_decide_eq_true h1
    have h48 := hI.many
    obtain ⟨m, hm, rfl⟩ := bad_neg h1 (by omega)
    have hm1 := hI.msg (m := m) (by omega)
    have ec := cl_nI (n := m) (by omega)
    refine J_iload_n (pc := 13) dX10_in_13 rfl rfl ?_
    refine J_if_lt (pc := 14) (tgt := 45) dX10_in_14 rfl (fun h2 => ?_) (fun h2 => ?_)
    · exact fail (by simp [h2])
    · refine J_iload_n (pc := 17) dX10_in_17 rfl rfl ?_
      refine J_aload_n (pc := 18) dX10_in_18 rfl rfl ?_
      refine J_getr (pc := 19) (i := 18) cl8 hW.o (by decide) rfl (hW.r 18 rfl) kX10_50 dX10_in_19 ?_
      refine J_iload_n (pc := 22) dX10_in_22 rfl rfl ?_
      refine J_mld (pc := 23) hW 10 rfl rfl (by show _ < 48; omega) dX10_in_23 ?_
      refine J_icmp_ge (pc := 24) (tgt := 45) dX10_in_24 rfl (fun h3 => ?_) (fun h3 => ?_)
      · exact fail (by rw [ec]; simp [h3])
      · unfold p_in
        rw [if_neg (fun z => by rw [ec] at z; rcases z with z | z | z | z; (· exact h1 (Or.inl z)); (· exact h1 (Or.inr z)); (· exact h2 z); (· exact h3 z)), ec]
        obtain ⟨i, hi, rfl⟩ := ix_in (n := xV X 10 m) (by omega) h2 h3
        rw [cl_nI (by omega)]
        refine J_aload_n (pc := 27) dX10_in_27 rfl rfl ?_
        refine J_getr (pc := 28) (i := 35) cl8 hW.o (by decide) rfl (hW.r 35 rfl) kX10_101 dX10_in_28 ?_
        refine J_bipush (pc := 31) (v := nI 60) dX10_in_31 (by decide) ?_
        refine J_iload_n (pc := 33) dX10_in_33 rfl rfl ?_
        first | refine J_imulN (pc := 34) dX10_in_34 ?_ | refine J_imul (pc := 34) dX10_in_34 ?_
        refine J_iload_n (pc := 35) dX10_in_35 rfl rfl ?_
        first | refine J_iaddN (pc := 36) dX10_in_36 ?_ | refine J_iadd (pc := 36) dX10_in_36 ?_
        refine J_zald (pc := 37) (hW.a 35 rfl) rfl (show _ < 2880 by omega) (by first | omega | exact mLn_lt _) (hW.b1 (show m < 48 by omega) (show i < 60 by omega)) dX10_in_37 ?_
        refine J_if_eqB (pc := 38) (tgt := 45) dX10_in_38 rfl (fun c0 => ?_) (fun c0 => ?_)
        · refine J_iconst (pc := 45) (v := nI 0) dX10_in_45 (by decide) ?_
          refine J_zret (pc := 46) dX10_in_46 rfl rfl (by omega) (by omega) ?_
          exact ⟨by rw [c0]; rfl, hW⟩
        · refine J_iconst (pc := 41) (v := nI 1) dX10_in_41 (by decide) ?_
          refine J_goto (pc := 42) (tgt := 46) dX10_in_42 rfl ?_
          refine J_zret (pc := 46) dX10_in_46 rfl rfl (by omega) (by omega) ?_
          exact ⟨by rw [c0]; rfl, hW⟩
set_option maxRecDepth 100000 in
theorem cm_finished (l : Launch) (g : jG) (hgt : Nat) {S : jS} {b : Nat} {ad : Nat → Nat} {X : XS} (h k : Int32) (hW : WM S b ad X) (hF : ∀ a, a < 8 → xV (yV X 32 0 0) 30 a < 2 ^ 31) : CT l g mX10_finished hgt 0 0 [.ref b, .int h, .int k] S (mPub b ad (p_finished (yV X 32 0 0) h k) (yV X 32 0 0)) := by
  refine CT_of qX10_finished (Nat.le_of_ble_eq_true rfl) ?_
  show J _ _ _ _ _ _ _ 0 [(0, .ref b), (1, .int h), (2, .int k)] [] S 0 0
  refine J_aload_n (pc := 0) dX10_finished_0 rfl rfl ?_
  refine J_iconst (pc := 1) (v := nI 0) dX10_finished_1 (by decide) ?_
  refine J_mss (pc := 2) hW 0 32 (by decide) rfl kX10_134 dX10_finished_2 (fun hW => ?_)
  generalize yV X 32 0 0 = X at hW hF
  generalize uI S 8 b 0 (nI 0) = S at hW
  have fail : (h < 0 ∨ nI 8 ≤ h ∨ k < 0 ∨ nI 63 < k ∨ nI (xV X 30 (cl h)) ≤ k) → J l g mX10_finished hgt 0 0 (mPub b ad (p_finished X h k) X) 35 [(0, .ref b), (1, .int h), (2, .int k)] [] S 0 0 := by
    intro z
    refine J_iconst (pc := 35) (v := (-1)) dX10_finished_35 (by decide) ?_
    refine J_iret (pc := 36) dX10_finished_36 rfl (by omega) (by omega) ?_
    exact ⟨by rw [p_finished, if_pos z], hW⟩
  refine J_iload_n (pc := 5) dX10_finished_5 rfl rfl ?_
  refine J_if_lt (pc := 6) (tgt := 35) dX10_finished_6 rfl (fun h1 => ?_) (fun h1 => ?_)
  · exact fail (by simp [h1])
  refine J_iload_n (pc := 9) dX10_finished_9 rfl rfl ?_
  refine J_bipush (pc := 10) (v := nI 8) dX10_finished_10 (by decide) ?_
  refine J_icmp_ge (pc := 12) (tgt := 35) dX10_finished_12 rfl (fun h2 => ?_) (fun h2 => ?_)
  · exact fail (by simp [h2])
  refine J_iload_n (pc := 15) dX10_finished_15 rfl rfl ?_
  refine J_if_lt (pc := 16) (tgt := 35) dX10_finished_16 rfl (fun h3 => ?_) (fun h3 => ?_)
  · exact fail (by simp [h3])
  refine J_iload_n (pc := 19) dX10_finished_19 rfl rfl ?_
  refine J_bipush (pc := 20) (v := nI 63) dX10_finished_20 (by decide) ?_
  refine J_icmp_gt (pc := 22) (tgt := 35) dX10_finished_22 rfl (fun h4 => ?_) (fun h4 => ?_)
  · exact fail (by simp [h4])
  obtain ⟨h, hh8, rfl⟩ := ix_in (n := 8) (by decide) h1 h2
  have ec := cl_nI (n := h) (by omega)
  have hf := hF h hh8
  refine J_iload_n (pc := 25) dX10_finished_25 rfl rfl ?_
  refine J_aload_n (pc := 26) dX10_finished_26 rfl rfl ?_
  refine J_getr (pc := 27) (i := 44) cl8 hW.o (by decide) rfl (hW.r 44 rfl) kX10_128 dX10_finished_27 ?_
  refine J_iload_n (pc := 30) dX10_finished_30 rfl rfl ?_
  refine J_mld (pc := 31) hW 30 rfl rfl (by show _ < 8; omega) dX10_finished_31 ?_
  refine J_icmp_lt (pc := 32) (tgt := 37) dX10_finished_32 rfl (fun h5 => ?_) (fun h5 => ?_)
  · have h5 : ¬ nI (xV X 30 h) ≤ k := Int32.not_le.mpr h5
    unfold p_finished
    rw [if_neg (fun z => by rw [ec] at z; rcases z with z | z | z | z | z; (· exact h1 z); (· exact h2 z); (· exact h3 z); (· exact h4 z); (· exact h5 z)), ec]
    obtain ⟨k, hk, rfl⟩ := ix_in (n := xV X 30 h) hf h3 h5
    rw [cl_nI (by omega)]
    refine J_aload_n (pc := 37) dX10_finished_37 rfl rfl ?_
    refine J_getr (pc := 38) (i := 45) cl8 hW.o (by decide) rfl (hW.r 45 rfl) kX10_131 dX10_finished_38 ?_
    refine J_bipush (pc := 41) (v := nI 64) dX10_finished_41 (by decide) ?_
    refine J_iload_n (pc := 43) dX10_finished_43 rfl rfl ?_
    first | refine J_imulN (pc := 44) dX10_finished_44 ?_ | refine J_imul (pc := 44) dX10_finished_44 ?_
    refine J_aload_n (pc := 45) dX10_finished_45 rfl rfl ?_
    refine J_getr (pc := 46) (i := 44) cl8 hW.o (by decide) rfl (hW.r 44 rfl) kX10_128 dX10_finished_46 ?_
    refine J_iload_n (pc := 49) dX10_finished_49 rfl rfl ?_
    refine J_mld (pc := 50) hW 30 rfl rfl (by show _ < 8; omega) dX10_finished_50 ?_
    refine J_iconst (pc := 51) (v := nI 1) dX10_finished_51 (by decide) ?_
    first | refine J_isubN (pc := 52) dX10_finished_52 (by omega) ?_ | refine J_isub (pc := 52) dX10_finished_52 ?_
    refine J_iload_n (pc := 53) dX10_finished_53 rfl rfl ?_
    first | refine J_isubN (pc := 54) dX10_finished_54 (by omega) ?_ | refine J_isub (pc := 54) dX10_finished_54 ?_
    refine J_bipush (pc := 55) (v := nI 64) dX10_finished_55 (by decide) ?_
    first | refine J_iremN (pc := 57) dX10_finished_57 (by omega) (by omega) (by omega) ?_ | refine J_irem (pc := 57) dX10_finished_57 (by decide) ?_
    first | refine J_iaddN (pc := 58) dX10_finished_58 ?_ | refine J_iadd (pc := 58) dX10_finished_58 ?_
    refine J_mld (pc := 59) hW 31 rfl rfl (by show _ < 512; omega) dX10_finished_59 ?_
    refine J_iret (pc := 60) dX10_finished_60 rfl (by omega) (by omega) ?_
    exact ⟨rfl, hW⟩
  · exact fail (by rw [ec]; simp [Int32.not_lt.mp h5])
set_option maxRecDepth 100000 in
theorem cm_chosen (l : Launch) (g : jG) (hgt : Nat) {S : jS} {b : Nat} {ad : Nat → Nat} {X : XS} (h k : Int32) (hW : WM S b ad X) (hI : xOK (yV X 32 0 0)) : CT l g mX10_chosen hgt 0 0 [.ref b, .int h, .int k] S (mPub b ad (p_chosen (yV X 32 0 0) h k) (yV X 32 0 0)) := by
  refine CT_of qX10_chosen (Nat.le_of_ble_eq_true rfl) ?_
  show J _ _ _ _ _ _ _ 0 [(0, .ref b), (1, .int h), (2, .int k)] [] S 0 0
  refine J_aload_n (pc := 0) dX10_chosen_0 rfl rfl ?_
  refine J_iconst (pc := 1) (v := nI 0) dX10_chosen_1 (by decide) ?_
  refine J_mss (pc := 2) hW 0 32 (by decide) rfl kX10_134 dX10_chosen_2 (fun hW => ?_)
  generalize yV X 32 0 0 = X at hW hI
  generalize uI S 8 b 0 (nI 0) = S at hW
  have fail : (h < 0 ∨ nI 8 ≤ h ∨ k < 0 ∨ nI (xV X 28 (cl h)) ≤ k) → J l g mX10_chosen hgt 0 0 (mPub b ad (p_chosen X h k) X) 29 [(0, .ref b), (1, .int h), (2, .int k)] [] S 0 0 := by
    intro z
    refine J_iconst (pc := 29) (v := (-1)) dX10_chosen_29 (by decide) ?_
    refine J_goto (pc := 30) (tgt := 43) dX10_chosen_30 rfl ?_
    refine J_iret (pc := 43) dX10_chosen_43 rfl (by omega) (by omega) ?_
    exact ⟨by rw [p_chosen, if_pos z], hW⟩
  refine J_iload_n (pc := 5) dX10_chosen_5 rfl rfl ?_
  refine J_if_lt (pc := 6) (tgt := 29) dX10_chosen_6 rfl (fun h1 => ?_) (fun h1 => ?_)
  · exact fail (by simp [h1])
  refine J_iload_n (pc := 9) dX10_chosen_9 rfl rfl ?_
  refine J_bipush (pc := 10) (v := nI 8) dX10_chosen_10 (by decide) ?_
  refine J_icmp_ge (pc := 12) (tgt := 29) dX10_chosen_12 rfl (fun h2 => ?_) (fun h2 => ?_)
  · exact fail (by simp [h2])
  refine J_iload_n (pc := 15) dX10_chosen_15 rfl rfl ?_
  refine J_if_lt (pc := 16) (tgt := 29) dX10_chosen_16 rfl (fun h3 => ?_) (fun h3 => ?_)
  · exact fail (by simp [h3])
  obtain ⟨h, hh8, rfl⟩ := ix_in (n := 8) (by decide) h1 h2
  have ec := cl_nI (n := h) (by omega)
  have hc3 := (hI.host hh8).1
  refine J_iload_n (pc := 19) dX10_chosen_19 rfl rfl ?_
  refine J_aload_n (pc := 20) dX10_chosen_20 rfl rfl ?_
  refine J_getr (pc := 21) (i := 43) cl8 hW.o (by decide) rfl (hW.r 43 rfl) kX10_125 dX10_chosen_21 ?_
  refine J_iload_n (pc := 24) dX10_chosen_24 rfl rfl ?_
  refine J_mld (pc := 25) hW 28 rfl rfl (by show _ < 8; omega) dX10_chosen_25 ?_
  refine J_icmp_lt (pc := 26) (tgt := 33) dX10_chosen_26 rfl (fun h5 => ?_) (fun h5 => ?_)
  · have h5 : ¬ nI (xV X 28 h) ≤ k := Int32.not_le.mpr h5
    unfold p_chosen
    rw [if_neg (fun z => by rw [ec] at z; rcases z with z | z | z | z; (· exact h1 z); (· exact h2 z); (· exact h3 z); (· exact h5 z)), ec]
    obtain ⟨k, hk, rfl⟩ := ix_in (n := xV X 28 h) (by omega) h3 h5
    rw [cl_nI (by omega)]
    refine J_aload_n (pc := 33) dX10_chosen_33 rfl rfl ?_
    refine J_getr (pc := 34) (i := 42) cl8 hW.o (by decide) rfl (hW.r 42 rfl) kX10_122 dX10_chosen_34 ?_
    refine J_iconst (pc := 37) (v := nI 3) dX10_chosen_37 (by decide) ?_
    refine J_iload_n (pc := 38) dX10_chosen_38 rfl rfl ?_
    first | refine J_imulN (pc := 39) dX10_chosen_39 ?_ | refine J_imul (pc := 39) dX10_chosen_39 ?_
    refine J_iload_n (pc := 40) dX10_chosen_40 rfl rfl ?_
    first | refine J_iaddN (pc := 41) dX10_chosen_41 ?_ | refine J_iadd (pc := 41) dX10_chosen_41 ?_
    refine J_mld (pc := 42) hW 29 rfl rfl (by show _ < 24; omega) dX10_chosen_42 ?_
    refine J_iret (pc := 43) dX10_chosen_43 rfl (by omega) (by omega) ?_
    exact ⟨rfl, hW⟩
  · exact fail (by rw [ec]; simp [Int32.not_lt.mp h5])
