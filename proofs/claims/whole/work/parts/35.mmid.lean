/-- the places of a set below n are cleared -/
def yCn (X : XS) (w m n : Nat) : XS := (X.1, X.2.1, fun w' m' i' => if w' = w ∧ m' = m ∧ i' < n then false else X.2.2 w' m' i')
theorem yCn_s (X : XS) (w m n : Nat) : yB (yCn X w m n) w m n false = yCn X w m (n + 1) := by
  unfold yB yCn
  simp only [Prod.mk.injEq, true_and]
  funext w' m' i'
  by_cases h1 : w' = w ∧ m' = m
  · by_cases h2 : i' < n
    · simp [h1, h2, Nat.lt_succ_of_lt h2]
    · by_cases h3 : i' = n
      · simp [h1, h3]
      · have h4 : ¬ i' < n + 1 := by omega
        simp [h1, h2, h3, h4]
  · have h2 : ∀ p : Prop, ¬ (w' = w ∧ m' = m ∧ p) := fun p z => h1 ⟨z.1, z.2.1⟩
    simp [h2]
theorem yCn_0 (X : XS) (w m : Nat) : yCn X w m 0 = X := by
  unfold yCn
  simp
set_option maxRecDepth 100000 in
theorem cm_forget (l : Launch) (g : jG) (hgt : Nat) {S : jS} {b : Nat} {ad : Nat → Nat} {X : XS} {m : Nat} (hW : WM S b ad X) (hm : m < 48) : CT l g mX10_forget hgt 0 0 [.ref b, .int (nI m)] S (mPost b ad (x_forget X m)) := by
  refine CT_of qX10_forget (Nat.le_of_ble_eq_true rfl) ?_
  refine J_aload_n (pc := 0) dX10_forget_0 rfl rfl ?_
  refine J_getr (pc := 1) (i := 28) cl8 hW.o (by decide) rfl (hW.r 28 rfl) kX10_80 dX10_forget_1 ?_
  refine J_iload_n (pc := 4) dX10_forget_4 rfl rfl ?_
  refine J_iconst (pc := 5) (v := nI 0) dX10_forget_5 (by decide) ?_
  refine J_mst (pc := 6) hW 19 rfl rfl (by show _ < 48; omega) rfl dX10_forget_6 (fun hW => ?_)
  refine J_iconst (pc := 7) (v := nI 0) dX10_forget_7 (by decide) ?_
  refine J_istore_n (pc := 8) dX10_forget_8 rfl (by decide) ?_
  have loop : ∀ i, i ≤ 60 → ∀ S, WM S b ad (yCn (yV X 19 m 0) 1 m i) → J l g mX10_forget hgt 0 0 (mPost b ad (x_forget X m)) 9 [(2, .int (nI i)), (0, .ref b), (1, .int (nI m))] [] S 0 0 := by
    refine down _ ?_ ?_
    · intro S hW
      refine J_iload_n (pc := 9) dX10_forget_9 rfl rfl ?_
      refine J_bipush (pc := 10) (v := nI 60) dX10_forget_10 (by decide) ?_
      refine J_icmp_geN (pc := 12) (tgt := 33) dX10_forget_12 rfl (by omega) (by omega) (fun hc => ?_) (fun hc => ?_)
      · refine J_vret (pc := 33) dX10_forget_33 rfl (by omega) (by omega) ?_
        refine ⟨rfl, hW.congB rfl rfl (fun w' m' i' hi' => ?_)⟩
        unfold x_forget yCn yC xB
        by_cases h : w' = 1 ∧ m' = m
        · simp [h, hi']
        · have h2 : ∀ p : Prop, ¬ (w' = 1 ∧ m' = m ∧ p) := fun p z => h ⟨z.1, z.2.1⟩
          simp [h, h2]
      · omega
    · intro i hi ih S hW
      refine J_iload_n (pc := 9) dX10_forget_9 rfl rfl ?_
      refine J_bipush (pc := 10) (v := nI 60) dX10_forget_10 (by decide) ?_
      refine J_icmp_geN (pc := 12) (tgt := 33) dX10_forget_12 rfl (by omega) (by omega) (fun hc => ?_) (fun hc => ?_)
      · omega
      · refine J_aload_n (pc := 15) dX10_forget_15 rfl rfl ?_
        refine J_getr (pc := 16) (i := 35) cl8 hW.o (by decide) rfl (hW.r 35 rfl) kX10_101 dX10_forget_16 ?_
        refine J_bipush (pc := 19) (v := nI 60) dX10_forget_19 (by decide) ?_
        refine J_iload_n (pc := 21) dX10_forget_21 rfl rfl ?_
        first | refine J_imulN (pc := 22) dX10_forget_22 ?_ | refine J_imul (pc := 22) dX10_forget_22 ?_
        refine J_iload_n (pc := 23) dX10_forget_23 rfl rfl ?_
        first | refine J_iaddN (pc := 24) dX10_forget_24 ?_ | refine J_iadd (pc := 24) dX10_forget_24 ?_
        refine J_iconst (pc := 25) (v := nI 0) dX10_forget_25 (by decide) ?_
        refine J_zast (pc := 26) (hW.a 35 rfl) rfl (show _ < 2880 by omega) (by first | omega | exact mLn_lt _) rfl dX10_forget_26 ?_
        have hW := hW.wB 1 35 (by decide) m i (by omega) false
        rw [yCn_s] at hW
        refine J_iinc (pc := 27) dX10_forget_27 rfl (inc1 _) (by decide) ?_
        refine J_goto (pc := 30) (tgt := 9) dX10_forget_30 rfl ?_
        exact J_lvk (ih _ hW) ⟨rfl, rfl, rfl, trivial⟩
  exact loop 0 (by omega) _ (by rw [yCn_0]; exact hW)
set_option maxRecDepth 100000 in
theorem cm_isAhead (l : Launch) (g : jG) (hgt : Nat) {S : jS} {b : Nat} {ad : Nat → Nat} {X : XS} {x y : Nat} (hW : WM S b ad X) (hI : xOK X) (hx : x < 48) (hy : y < 48) (hax : xV X 24 x < 2 ^ 31) (hay : xV X 24 y < 2 ^ 31) (hh : 1 ≤ hgt) : CT l g mX10_isAhead hgt 0 0 [.ref b, .int (nI x), .int (nI y)] S (jPure (.int (bI (x_ahead X x y))) S) := by
  have h1 := hI.msg hx
  have h2 := hI.msg hy
  have c1 : x_missing X x ≤ 60 := Nat.le_trans (cnt_le _ _) h1.1.2.2.1
  have c2 : x_missing X y ≤ 60 := Nat.le_trans (cnt_le _ _) h2.1.2.2.1
  refine CT_of qX10_isAhead (Nat.le_of_ble_eq_true rfl) ?_
  refine J_aload_n (pc := 0) dX10_isAhead_0 rfl rfl ?_
  refine J_iload_n (pc := 1) dX10_isAhead_1 rfl rfl ?_
  refine J_callV (pc := 2) (cm_missing l g (hgt - 1) hW h1.1.2.2.1 hx) qX10_missing vX10_missing cl8 rfl hW.o kX10_173 dX10_isAhead_2 rfl rfl (Nat.le_of_ble_eq_true rfl) (by omega) (by omega) (by omega) ?_
  rintro _ _ ⟨rfl, rfl⟩
  refine J_istore_n (pc := 5) dX10_isAhead_5 rfl (by decide) ?_
  refine J_aload_n (pc := 6) dX10_isAhead_6 rfl rfl ?_
  refine J_iload_n (pc := 7) dX10_isAhead_7 rfl rfl ?_
  refine J_callV (pc := 8) (cm_missing l g (hgt - 1) hW h2.1.2.2.1 hy) qX10_missing vX10_missing cl8 rfl hW.o kX10_173 dX10_isAhead_8 rfl rfl (Nat.le_of_ble_eq_true rfl) (by omega) (by omega) (by omega) ?_
  rintro _ _ ⟨rfl, rfl⟩
  refine J_istore (pc := 11) dX10_isAhead_11 (by decide) ?_
  refine J_iload_n (pc := 13) dX10_isAhead_13 rfl rfl ?_
  refine J_iload (pc := 14) dX10_isAhead_14 rfl ?_
  refine J_icmp_eqN (pc := 16) (tgt := 33) dX10_isAhead_16 rfl (by omega) (by omega) (fun hc => ?_) (fun hc => ?_)
  · refine J_aload_n (pc := 33) dX10_isAhead_33 rfl rfl ?_
    refine J_getr (pc := 34) (i := 33) cl8 hW.o (by decide) rfl (hW.r 33 rfl) kX10_95 dX10_isAhead_34 ?_
    refine J_iload_n (pc := 37) dX10_isAhead_37 rfl rfl ?_
    refine J_mld (pc := 38) hW 24 rfl rfl (by show _ < 48; omega) dX10_isAhead_38 ?_
    refine J_aload_n (pc := 39) dX10_isAhead_39 rfl rfl ?_
    refine J_getr (pc := 40) (i := 33) cl8 hW.o (by decide) rfl (hW.r 33 rfl) kX10_95 dX10_isAhead_40 ?_
    refine J_iload_n (pc := 43) dX10_isAhead_43 rfl rfl ?_
    refine J_mld (pc := 44) hW 24 rfl rfl (by show _ < 48; omega) dX10_isAhead_44 ?_
    refine J_icmp_geN (pc := 45) (tgt := 52) dX10_isAhead_45 rfl (by omega) (by omega) (fun hd => ?_) (fun hd => ?_)
    · refine J_iconst (pc := 52) (v := nI 0) dX10_isAhead_52 (by decide) ?_
      refine J_zret (pc := 53) dX10_isAhead_53 rfl rfl (by omega) (by omega) ?_
      exact ⟨by rw [x_ahead, if_neg (by omega), decide_eq_false (by omega)]; rfl, rfl⟩
    · refine J_iconst (pc := 48) (v := nI 1) dX10_isAhead_48 (by decide) ?_
      refine J_goto (pc := 49) (tgt := 53) dX10_isAhead_49 rfl ?_
      refine J_zret (pc := 53) dX10_isAhead_53 rfl rfl (by omega) (by omega) ?_
      exact ⟨by rw [x_ahead, if_neg (by omega), decide_eq_true (by omega)]; rfl, rfl⟩
  · refine J_iload_n (pc := 19) dX10_isAhead_19 rfl rfl ?_
    refine J_iload (pc := 20) dX10_isAhead_20 rfl ?_
    refine J_icmp_geN (pc := 22) (tgt := 29) dX10_isAhead_22 rfl (by omega) (by omega) (fun hd => ?_) (fun hd => ?_)
    · refine J_iconst (pc := 29) (v := nI 0) dX10_isAhead_29 (by decide) ?_
      refine J_goto (pc := 30) (tgt := 53) dX10_isAhead_30 rfl ?_
      refine J_zret (pc := 53) dX10_isAhead_53 rfl rfl (by omega) (by omega) ?_
      exact ⟨by rw [x_ahead, if_pos (by omega), decide_eq_false (by omega)]; rfl, rfl⟩
    · refine J_iconst (pc := 25) (v := nI 1) dX10_isAhead_25 (by decide) ?_
      refine J_goto (pc := 26) (tgt := 53) dX10_isAhead_26 rfl ?_
      refine J_zret (pc := 53) dX10_isAhead_53 rfl rfl (by omega) (by omega) ?_
      exact ⟨by rw [x_ahead, if_pos (by omega), decide_eq_true (by omega)]; rfl, rfl⟩
set_option maxRecDepth 100000 in
theorem cm_isChosen (l : Launch) (g : jG) (hgt : Nat) {S : jS} {b : Nat} {ad : Nat → Nat} {X : XS} {h x : Nat} (hW : WM S b ad X) (hI : xOK X) (hh : h < 8) (hx : x < 48) : CT l g mX10_isChosen hgt 0 0 [.ref b, .int (nI h), .int (nI x)] S (jPure (.int (bI (x_chosen X h x))) S) := by
  obtain ⟨h3, hc48⟩ := hI.host hh
  have h48 := hI.many
  refine CT_of qX10_isChosen (Nat.le_of_ble_eq_true rfl) ?_
  refine J_iconst (pc := 0) (v := nI 0) dX10_isChosen_0 (by decide) ?_
  refine J_istore_n (pc := 1) dX10_isChosen_1 rfl (by decide) ?_
  have loop : ∀ i, i ≤ xV X 28 h → (∀ j, j < i → decide (xV X 29 (3 * h + j) = x) = false) → J l g mX10_isChosen hgt 0 0 (jPure (.int (bI (x_chosen X h x))) S) 2 [(3, .int (nI i)), (0, .ref b), (1, .int (nI h)), (2, .int (nI x))] [] S 0 0 := by
    refine down _ ?_ ?_
    · intro hno
      refine J_iload_n (pc := 2) dX10_isChosen_2 rfl rfl ?_
      refine J_aload_n (pc := 3) dX10_isChosen_3 rfl rfl ?_
      refine J_getr (pc := 4) (i := 43) cl8 hW.o (by decide) rfl (hW.r 43 rfl) kX10_125 dX10_isChosen_4 ?_
      refine J_iload_n (pc := 7) dX10_isChosen_7 rfl rfl ?_
      refine J_mld (pc := 8) hW 28 rfl rfl (by show _ < 8; omega) dX10_isChosen_8 ?_
      refine J_icmp_geN (pc := 9) (tgt := 34) dX10_isChosen_9 rfl (by omega) (by omega) (fun hc => ?_) (fun hc => ?_)
      · refine J_iconst (pc := 34) (v := nI 0) dX10_isChosen_34 (by decide) ?_
        refine J_zret (pc := 35) dX10_isChosen_35 rfl rfl (by omega) (by omega) ?_
        refine ⟨?_, rfl⟩
        rw [x_chosen, cnt_0 hno]
        rfl
      · omega
    · intro i hi ih hno
      have := hc48 i hi
      refine J_iload_n (pc := 2) dX10_isChosen_2 rfl rfl ?_
      refine J_aload_n (pc := 3) dX10_isChosen_3 rfl rfl ?_
      refine J_getr (pc := 4) (i := 43) cl8 hW.o (by decide) rfl (hW.r 43 rfl) kX10_125 dX10_isChosen_4 ?_
      refine J_iload_n (pc := 7) dX10_isChosen_7 rfl rfl ?_
      refine J_mld (pc := 8) hW 28 rfl rfl (by show _ < 8; omega) dX10_isChosen_8 ?_
      refine J_icmp_geN (pc := 9) (tgt := 34) dX10_isChosen_9 rfl (by omega) (by omega) (fun hc => ?_) (fun hc => ?_)
      · omega
      · refine J_aload_n (pc := 12) dX10_isChosen_12 rfl rfl ?_
        refine J_getr (pc := 13) (i := 42) cl8 hW.o (by decide) rfl (hW.r 42 rfl) kX10_122 dX10_isChosen_13 ?_
        refine J_iconst (pc := 16) (v := nI 3) dX10_isChosen_16 (by decide) ?_
        refine J_iload_n (pc := 17) dX10_isChosen_17 rfl rfl ?_
        first | refine J_imulN (pc := 18) dX10_isChosen_18 ?_ | refine J_imul (pc := 18) dX10_isChosen_18 ?_
        refine J_iload_n (pc := 19) dX10_isChosen_19 rfl rfl ?_
        first | refine J_iaddN (pc := 20) dX10_isChosen_20 ?_ | refine J_iadd (pc := 20) dX10_isChosen_20 ?_
        refine J_mld (pc := 21) hW 29 rfl rfl (by show _ < 24; omega) dX10_isChosen_21 ?_
        refine J_iload_n (pc := 22) dX10_isChosen_22 rfl rfl ?_
        refine J_icmp_neN (pc := 23) (tgt := 28) dX10_isChosen_23 rfl (by omega) (by omega) (fun hd => ?_) (fun hd => ?_)
        · refine J_iinc (pc := 28) dX10_isChosen_28 rfl (inc1 _) (by decide) ?_
          refine J_goto (pc := 31) (tgt := 2) dX10_isChosen_31 rfl ?_
          refine J_lv ?_ (ih (fun j hj => ?_))
          · exact ⟨rfl, rfl, rfl, rfl, trivial⟩
          · by_cases e : j = i
            · subst e
              exact decide_eq_false hd
            · exact hno j (by omega)
        · refine J_iconst (pc := 26) (v := nI 1) dX10_isChosen_26 (by decide) ?_
          refine J_zret (pc := 27) dX10_isChosen_27 rfl rfl (by omega) (by omega) ?_
          refine ⟨?_, rfl⟩
          have := cnt_pos (f := fun k => decide (xV X 29 (3 * h + k) = x)) hi (decide_eq_true hd)
          rw [x_chosen, decide_eq_true (by omega)]
          rfl
  exact loop 0 (by omega) (fun j hj => absurd hj (Nat.not_lt_zero _))
set_option maxRecDepth 100000 in
theorem cm_answer (l : Launch) (g : jG) (hgt : Nat) {S : jS} {b : Nat} {ad : Nat → Nat} {X : XS} {k m c : Nat} (hW : WM S b ad X) (hI : xOK X) (hm : m < 48) (hk : k < 4) (hc : c < 4096) (hh : 1 ≤ hgt) : CT l g mX10_answer hgt 0 0 [.ref b, .int (nI k), .int (nI m), .int (nI c)] S (mPost b ad (x_answer X k m c)) := by
  have h1 := hI.msg hm
  refine CT_of qX10_answer (Nat.le_of_ble_eq_true rfl) ?_
  refine J_aload_n (pc := 0) dX10_answer_0 rfl rfl ?_
  refine J_getr (pc := 1) (i := 20) cl8 hW.o (by decide) rfl (hW.r 20 rfl) kX10_56 dX10_answer_1 ?_
  refine J_iload_n (pc := 4) dX10_answer_4 rfl rfl ?_
  refine J_mld (pc := 5) hW 12 rfl rfl (by show _ < 48; omega) dX10_answer_5 ?_
  refine J_if_eqN (pc := 6) (tgt := 10) dX10_answer_6 rfl (by omega) (fun h0 => ?_) (fun h0 => ?_)
  · refine J_aload_n (pc := 10) dX10_answer_10 rfl rfl ?_
    refine J_getr (pc := 11) (i := 24) cl8 hW.o (by decide) rfl (hW.r 24 rfl) kX10_68 dX10_answer_11 ?_
    refine J_iload_n (pc := 14) dX10_answer_14 rfl rfl ?_
    refine J_iconst (pc := 15) (v := nI 0) dX10_answer_15 (by decide) ?_
    refine J_mst (pc := 16) hW 16 rfl rfl (by show _ < 48; omega) rfl dX10_answer_16 (fun hW => ?_)
    refine J_aload_n (pc := 17) dX10_answer_17 rfl rfl ?_
    refine J_getr (pc := 18) (i := 25) cl8 hW.o (by decide) rfl (hW.r 25 rfl) kX10_71 dX10_answer_18 ?_
    refine J_iload_n (pc := 21) dX10_answer_21 rfl rfl ?_
    refine J_iconst (pc := 22) (v := nI 0) dX10_answer_22 (by decide) ?_
    refine J_mst (pc := 23) hW 17 rfl rfl (by show _ < 48; omega) rfl dX10_answer_23 (fun hW => ?_)
    refine J_iload_n (pc := 24) dX10_answer_24 rfl rfl ?_
    refine J_iconst (pc := 25) (v := nI 1) dX10_answer_25 (by decide) ?_
    refine J_icmp_neN (pc := 26) (tgt := 71) dX10_answer_26 rfl (by omega) (by omega) (fun hk1 => ?_) (fun hk1 => ?_)
    · refine J_iload_n (pc := 71) dX10_answer_71 rfl rfl ?_
      refine J_iconst (pc := 72) (v := nI 2) dX10_answer_72 (by decide) ?_
      refine J_icmp_neN (pc := 73) (tgt := 120) dX10_answer_73 rfl (by omega) (by omega) (fun hk2 => ?_) (fun hk2 => ?_)
      · refine J_aload_n (pc := 120) dX10_answer_120 rfl rfl ?_
        refine J_getr (pc := 121) (i := 20) cl8 hW.o (by decide) rfl (hW.r 20 rfl) kX10_56 dX10_answer_121 ?_
        refine J_iload_n (pc := 124) dX10_answer_124 rfl rfl ?_
        refine J_iconst (pc := 125) (v := nI 1) dX10_answer_125 (by decide) ?_
        refine J_mst (pc := 126) hW 12 rfl rfl (by show _ < 48; omega) rfl dX10_answer_126 (fun hW => ?_)
        refine J_aload_n (pc := 127) dX10_answer_127 rfl rfl ?_
        refine J_getr (pc := 128) (i := 26) cl8 hW.o (by decide) rfl (hW.r 26 rfl) kX10_74 dX10_answer_128 ?_
        refine J_iload_n (pc := 131) dX10_answer_131 rfl rfl ?_
        refine J_aload_n (pc := 132) dX10_answer_132 rfl rfl ?_
        refine J_geti (pc := 133) (i := 1) cl8 hW.o (by decide) rfl hW.2.2.1.1 kX10_177 dX10_answer_133 ?_
        refine J_mst (pc := 136) hW 18 rfl rfl (by show _ < 48; omega) rfl dX10_answer_136 (fun hW => ?_)
        refine J_vret (pc := 137) dX10_answer_137 rfl (by omega) (by omega) ?_
        exact ⟨rfl, by rw [x_answer, if_neg (by omega), if_neg hk1, if_neg hk2]; exact hW⟩
      · refine J_aload_n (pc := 76) dX10_answer_76 rfl rfl ?_
        refine J_getr (pc := 77) (i := 22) cl8 hW.o (by decide) rfl (hW.r 22 rfl) kX10_62 dX10_answer_77 ?_
        refine J_iload_n (pc := 80) dX10_answer_80 rfl rfl ?_
        refine J_iload_n (pc := 81) dX10_answer_81 rfl rfl ?_
        refine J_bipush (pc := 82) (v := nI 64) dX10_answer_82 (by decide) ?_
        first | refine J_idivN (pc := 84) dX10_answer_84 (by omega) (by omega) (by omega) ?_ | refine J_idiv (pc := 84) dX10_answer_84 (by decide) ?_
        refine J_aload_n (pc := 85) dX10_answer_85 rfl rfl ?_
        refine J_getr (pc := 86) (i := 22) cl8 hW.o (by decide) rfl (hW.r 22 rfl) kX10_62 dX10_answer_86 ?_
        refine J_iload_n (pc := 89) dX10_answer_89 rfl rfl ?_
        refine J_mld (pc := 90) hW 14 rfl rfl (by show _ < 48; omega) dX10_answer_90 ?_
        simp only [xV_yV, xV_yL, xV_yB, xV_yC, xL_yV, xL_yL, xL_yB, xL_yC, xB_yV, xB_yL, xB_yB, xB_yC, true_and, and_true, and_self, false_and, and_false, reduceIte, Nat.reduceEqDiff, if_true, if_false, reduceCtorEq] 
        refine J_icmp_leN (pc := 91) (tgt := 101) dX10_answer_91 rfl (by omega) (by omega) (fun hp => ?_) (fun hp => ?_)
        · refine J_aload_n (pc := 101) dX10_answer_101 rfl rfl ?_
          refine J_getr (pc := 102) (i := 22) cl8 hW.o (by decide) rfl (hW.r 22 rfl) kX10_62 dX10_answer_102 ?_
          refine J_iload_n (pc := 105) dX10_answer_105 rfl rfl ?_
          refine J_mld (pc := 106) hW 14 rfl rfl (by show _ < 48; omega) dX10_answer_106 ?_
          simp only [xV_yV, xV_yL, xV_yB, xV_yC, xL_yV, xL_yL, xL_yB, xL_yC, xB_yV, xB_yL, xB_yB, xB_yC, true_and, and_true, and_self, false_and, and_false, reduceIte, Nat.reduceEqDiff, if_true, if_false, reduceCtorEq] 
          refine J_mst (pc := 107) hW 14 rfl rfl (by show _ < 48; omega) rfl dX10_answer_107 (fun hW => ?_)
          refine J_aload_n (pc := 108) dX10_answer_108 rfl rfl ?_
          refine J_iload_n (pc := 109) dX10_answer_109 rfl rfl ?_
          refine J_iload_n (pc := 110) dX10_answer_110 rfl rfl ?_
          refine J_bipush (pc := 111) (v := nI 64) dX10_answer_111 (by decide) ?_
          first | refine J_iremN (pc := 113) dX10_answer_113 (by omega) (by omega) (by omega) ?_ | refine J_irem (pc := 113) dX10_answer_113 (by decide) ?_
          have hI2 : (xV X 13 m ≤ 60) := by omega
          refine J_callV (pc := 114) (cm_want2 l g (hgt - 1) (i := c % 64) hW (by simp only [xV_yV]; simp; omega) hm (by omega)) qX10_want vX10_want cl8 rfl hW.o kX10_194 dX10_answer_114 rfl rfl (Nat.le_of_ble_eq_true rfl) (by omega) (by omega) (by omega) ?_
          rintro _ _ ⟨rfl, hW⟩
          refine J_goto (pc := 117) (tgt := 137) dX10_answer_117 rfl ?_
          refine J_vret (pc := 137) dX10_answer_137 rfl (by omega) (by omega) ?_
          exact ⟨rfl, by rw [x_answer, if_neg (by omega), if_neg hk1, if_pos hk2, if_neg (by omega)]; exact hW⟩
        · refine J_iload_n (pc := 94) dX10_answer_94 rfl rfl ?_
          refine J_bipush (pc := 95) (v := nI 64) dX10_answer_95 (by decide) ?_
          first | refine J_idivN (pc := 97) dX10_answer_97 (by omega) (by omega) (by omega) ?_ | refine J_idiv (pc := 97) dX10_answer_97 (by decide) ?_
          refine J_goto (pc := 98) (tgt := 107) dX10_answer_98 rfl ?_
          refine J_mst (pc := 107) hW 14 rfl rfl (by show _ < 48; omega) rfl dX10_answer_107 (fun hW => ?_)
          refine J_aload_n (pc := 108) dX10_answer_108 rfl rfl ?_
          refine J_iload_n (pc := 109) dX10_answer_109 rfl rfl ?_
          refine J_iload_n (pc := 110) dX10_answer_110 rfl rfl ?_
          refine J_bipush (pc := 111) (v := nI 64) dX10_answer_111 (by decide) ?_
          first | refine J_iremN (pc := 113) dX10_answer_113 (by omega) (by omega) (by omega) ?_ | refine J_irem (pc := 113) dX10_answer_113 (by decide) ?_
          refine J_callV (pc := 114) (cm_want2 l g (hgt - 1) (i := c % 64) hW (by simp only [xV_yV]; simp; omega) hm (by omega)) qX10_want vX10_want cl8 rfl hW.o kX10_194 dX10_answer_114 rfl rfl (Nat.le_of_ble_eq_true rfl) (by omega) (by omega) (by omega) ?_
          rintro _ _ ⟨rfl, hW⟩
          refine J_goto (pc := 117) (tgt := 137) dX10_answer_117 rfl ?_
          refine J_vret (pc := 137) dX10_answer_137 rfl (by omega) (by omega) ?_
          exact ⟨rfl, by rw [x_answer, if_neg (by omega), if_neg hk1, if_pos hk2, if_pos (by omega)]; exact hW⟩
    · refine J_aload_n (pc := 29) dX10_answer_29 rfl rfl ?_
      refine J_getr (pc := 30) (i := 22) cl8 hW.o (by decide) rfl (hW.r 22 rfl) kX10_62 dX10_answer_30 ?_
      refine J_iload_n (pc := 33) dX10_answer_33 rfl rfl ?_
      refine J_iload_n (pc := 34) dX10_answer_34 rfl rfl ?_
      refine J_iconst (pc := 35) (v := nI 4) dX10_answer_35 (by decide) ?_
      first | refine J_idivN (pc := 36) dX10_answer_36 (by omega) (by omega) (by omega) ?_ | refine J_idiv (pc := 36) dX10_answer_36 (by decide) ?_
      refine J_aload_n (pc := 37) dX10_answer_37 rfl rfl ?_
      refine J_getr (pc := 38) (i := 22) cl8 hW.o (by decide) rfl (hW.r 22 rfl) kX10_62 dX10_answer_38 ?_
      refine J_iload_n (pc := 41) dX10_answer_41 rfl rfl ?_
      refine J_mld (pc := 42) hW 14 rfl rfl (by show _ < 48; omega) dX10_answer_42 ?_
      simp only [xV_yV, xV_yL, xV_yB, xV_yC, xL_yV, xL_yL, xL_yB, xL_yC, xB_yV, xB_yL, xB_yB, xB_yC, true_and, and_true, and_self, false_and, and_false, reduceIte, Nat.reduceEqDiff, if_true, if_false, reduceCtorEq] 
      refine J_icmp_leN (pc := 43) (tgt := 52) dX10_answer_43 rfl (by omega) (by omega) (fun hp => ?_) (fun hp => ?_)
      · refine J_aload_n (pc := 52) dX10_answer_52 rfl rfl ?_
        refine J_getr (pc := 53) (i := 22) cl8 hW.o (by decide) rfl (hW.r 22 rfl) kX10_62 dX10_answer_53 ?_
        refine J_iload_n (pc := 56) dX10_answer_56 rfl rfl ?_
        refine J_mld (pc := 57) hW 14 rfl rfl (by show _ < 48; omega) dX10_answer_57 ?_
        simp only [xV_yV, xV_yL, xV_yB, xV_yC, xL_yV, xL_yL, xL_yB, xL_yC, xB_yV, xB_yL, xB_yB, xB_yC, true_and, and_true, and_self, false_and, and_false, reduceIte, Nat.reduceEqDiff, if_true, if_false, reduceCtorEq] 
        refine J_mst (pc := 58) hW 14 rfl rfl (by show _ < 48; omega) rfl dX10_answer_58 (fun hW => ?_)
        refine J_aload_n (pc := 59) dX10_answer_59 rfl rfl ?_
        refine J_getr (pc := 60) (i := 23) cl8 hW.o (by decide) rfl (hW.r 23 rfl) kX10_65 dX10_answer_60 ?_
        refine J_iload_n (pc := 63) dX10_answer_63 rfl rfl ?_
        refine J_iload_n (pc := 64) dX10_answer_64 rfl rfl ?_
        refine J_iconst (pc := 65) (v := nI 4) dX10_answer_65 (by decide) ?_
        first | refine J_iremN (pc := 66) dX10_answer_66 (by omega) (by omega) (by omega) ?_ | refine J_irem (pc := 66) dX10_answer_66 (by decide) ?_
        refine J_mst (pc := 67) hW 15 rfl rfl (by show _ < 48; omega) rfl dX10_answer_67 (fun hW => ?_)
        refine J_goto (pc := 68) (tgt := 137) dX10_answer_68 rfl ?_
        refine J_vret (pc := 137) dX10_answer_137 rfl (by omega) (by omega) ?_
        exact ⟨rfl, by rw [x_answer, if_neg (by omega), if_pos hk1, if_neg (by omega)]; exact hW⟩
      · refine J_iload_n (pc := 46) dX10_answer_46 rfl rfl ?_
        refine J_iconst (pc := 47) (v := nI 4) dX10_answer_47 (by decide) ?_
        first | refine J_idivN (pc := 48) dX10_answer_48 (by omega) (by omega) (by omega) ?_ | refine J_idiv (pc := 48) dX10_answer_48 (by decide) ?_
        refine J_goto (pc := 49) (tgt := 58) dX10_answer_49 rfl ?_
        refine J_mst (pc := 58) hW 14 rfl rfl (by show _ < 48; omega) rfl dX10_answer_58 (fun hW => ?_)
        refine J_aload_n (pc := 59) dX10_answer_59 rfl rfl ?_
        refine J_getr (pc := 60) (i := 23) cl8 hW.o (by decide) rfl (hW.r 23 rfl) kX10_65 dX10_answer_60 ?_
        refine J_iload_n (pc := 63) dX10_answer_63 rfl rfl ?_
        refine J_iload_n (pc := 64) dX10_answer_64 rfl rfl ?_
        refine J_iconst (pc := 65) (v := nI 4) dX10_answer_65 (by decide) ?_
        first | refine J_iremN (pc := 66) dX10_answer_66 (by omega) (by omega) (by omega) ?_ | refine J_irem (pc := 66) dX10_answer_66 (by decide) ?_
        refine J_mst (pc := 67) hW 15 rfl rfl (by show _ < 48; omega) rfl dX10_answer_67 (fun hW => ?_)
        refine J_goto (pc := 68) (tgt := 137) dX10_answer_68 rfl ?_
        refine J_vret (pc := 137) dX10_answer_137 rfl (by omega) (by omega) ?_
        exact ⟨rfl, by rw [x_answer, if_neg (by omega), if_pos hk1, if_pos (by omega)]; exact hW⟩
  · refine J_vret (pc := 9) dX10_answer_9 rfl (by omega) (by omega) ?_
    exact ⟨rfl, by rw [x_answer, if_pos h0]; exact hW⟩
