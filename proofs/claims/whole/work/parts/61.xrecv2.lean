/-! THE CLASS: what a message is for its receiver, on -/
set_option maxRecDepth 100000 in
theorem cx_growSilence (l : Launch) (g : jG) (hgt : Nat) {S : jS} {w : Nat → Nat → Nat} {hx : Nat} {X : XS} {m : Nat} (hW : WX S w hx X) (hm : m < xV X 1 0) (h22 : xV X 22 m < 16) (h23 : xV X 23 m < 8) (hh : 1 ≤ hgt) : CT l g mX6_growSilence hgt 0 0 [.ref (w 4 m)] S (fun r S' => if xV X 22 m + 1 < 16 then r = some (.int 0) ∧ WX S' w hx (yV X 22 m (xV X 22 m + 1)) else if xV X 23 m + 1 = 8 then r = some (.int 0) ∧ WX S' w hx (x_forget (yV (yV X 22 m 0) 23 m (xV X 23 m + 1)) m) else r = some (.int 1) ∧ WX S' w hx (yV (yV X 22 m 0) 23 m (xV X 23 m + 1))) := by
  refine CT_of qX6_growSilence (Nat.le_of_ble_eq_true rfl) ?_
  refine J_aload_n (pc := 0) dX6_growSilence_0 rfl rfl ?_
  refine J_dup (pc := 1) dX6_growSilence_1 rfl ?_
  refine J_geti (pc := 2) (i := 6) cl4 (hW.q hm) (by decide) rfl (hW.n22 hm) kX6_25 dX6_growSilence_2 ?_
  refine J_iconst (pc := 5) (v := nI 1) dX6_growSilence_5 (by decide) ?_
  refine J_iaddN (b := 1) dX6_growSilence_6 ?_
  refine J_puti (pc := 7) (i := 6) cl4 (hW.q hm) (by decide) rfl rfl rfl rfl kX6_25 dX6_growSilence_7 ?_
  have hW1 : WX (uI S 4 (w 4 m) 6 (nI (xV X 22 m + 1))) w hx (yV X 22 m (xV X 22 m + 1)) := hW.wV 22 m _ hm (by decide)
  refine J_aload_n (pc := 10) dX6_growSilence_10 rfl rfl ?_
  refine J_geti (pc := 11) (i := 6) cl4 (hW1.q hm) (by decide) rfl (sI_same _ _ _ _ _) kX6_25 dX6_growSilence_11 ?_
  refine J_bipush (pc := 14) (v := nI 16) dX6_growSilence_14 (by decide) ?_
  refine J_icmp_geN (pc := 16) (tgt := 21) dX6_growSilence_16 rfl (by omega) (by omega) (fun B => ?_) (fun B => ?_)
  · refine J_aload_n (pc := 21) dX6_growSilence_21 rfl rfl ?_
    refine J_iconst (pc := 22) (v := nI 0) dX6_growSilence_22 (by decide) ?_
    refine J_puti (pc := 23) (i := 6) cl4 (hW1.q hm) (by decide) rfl rfl rfl rfl kX6_25 dX6_growSilence_23 ?_
    have hW2 : WX (uI (uI S 4 (w 4 m) 6 (nI (xV X 22 m + 1))) 4 (w 4 m) 6 (nI 0)) w hx (yV X 22 m 0) := by
      rw [← yV_yV X 22 m (xV X 22 m + 1) 0]
      exact hW1.wV 22 m _ hm (by decide)
    generalize uI (uI S 4 (w 4 m) 6 (nI (xV X 22 m + 1))) 4 (w 4 m) 6 (nI 0) = S2 at hW2 ⊢
    have h2 : sI S2 4 (w 4 m) 7 = nI (xV X 23 m) := hW2.n23 hm
    refine J_aload_n (pc := 26) dX6_growSilence_26 rfl rfl ?_
    refine J_dup (pc := 27) dX6_growSilence_27 rfl ?_
    refine J_geti (pc := 28) (i := 7) cl4 (hW2.q hm) (by decide) rfl h2 kX6_28 dX6_growSilence_28 ?_
    refine J_iconst (pc := 31) (v := nI 1) dX6_growSilence_31 (by decide) ?_
    refine J_iaddN (b := 1) dX6_growSilence_32 ?_
    refine J_puti (pc := 33) (i := 7) cl4 (hW2.q hm) (by decide) rfl rfl rfl rfl kX6_28 dX6_growSilence_33 ?_
    have hW3 : WX (uI S2 4 (w 4 m) 7 (nI (xV X 23 m + 1))) w hx (yV (yV X 22 m 0) 23 m (xV X 23 m + 1)) := hW2.wV 23 m _ hm (by decide)
    refine J_aload_n (pc := 36) dX6_growSilence_36 rfl rfl ?_
    refine J_geti (pc := 37) (i := 7) cl4 (hW3.q hm) (by decide) rfl (sI_same _ _ _ _ _) kX6_28 dX6_growSilence_37 ?_
    refine J_bipush (pc := 40) (v := nI 8) dX6_growSilence_40 (by decide) ?_
    refine J_icmp_ltN (pc := 42) (tgt := 51) dX6_growSilence_42 rfl (by omega) (by omega) (fun B3 => ?_) (fun B3 => ?_)
    · refine J_iconst (pc := 51) (v := nI 1) dX6_growSilence_51 (by decide) ?_
      refine J_zret (pc := 52) dX6_growSilence_52 rfl rfl (by omega) (by omega) ?_
      rw [if_neg (by omega), if_neg (by omega)]
      exact ⟨rfl, hW3⟩
    · refine J_aload_n (pc := 45) dX6_growSilence_45 rfl rfl ?_
      refine J_callV (pc := 46) (cx_forget l g (hgt - 1) hW3 hm) qX6_forget vX6_forget cl4 rfl (hW3.q hm) kX6_77 dX6_growSilence_46 rfl rfl (Nat.le_of_ble_eq_true rfl) (by omega) (by omega) (by omega) ?_
      rintro _ _ ⟨rfl, hW⟩
      refine J_iconst (pc := 49) (v := nI 0) dX6_growSilence_49 (by decide) ?_
      refine J_zret (pc := 50) dX6_growSilence_50 rfl rfl (by omega) (by omega) ?_
      rw [if_neg (by omega), if_pos (by omega)]
      exact ⟨rfl, hW⟩
  · refine J_iconst (pc := 19) (v := nI 0) dX6_growSilence_19 (by decide) ?_
    refine J_zret (pc := 20) dX6_growSilence_20 rfl rfl (by omega) (by omega) ?_
    rw [if_pos (by omega)]
    exact ⟨rfl, hW1⟩
set_option maxRecDepth 100000 in
theorem cx_countOfAsk (l : Launch) (g : jG) (hgt : Nat) {S : jS} {w : Nat → Nat → Nat} {hx : Nat} {X : XS} {m : Nat} (hW : WX S w hx X) (hm : m < xV X 1 0) (hl : lst (fun i => !xB X 1 m i) 60 < 60) (hh : 2 ≤ hgt) : CT l g mX6_countOfAsk hgt 0 0 [.ref (w 4 m)] S (jPure (.int (nI (64 * xV X 21 m + lst (fun i => !xB X 1 m i) 60))) S) := by
  refine CT_of qX6_countOfAsk (Nat.le_of_ble_eq_true rfl) ?_
  refine J_bipush (pc := 0) (v := nI 64) dX6_countOfAsk_0 (by decide) ?_
  refine J_aload_n (pc := 2) dX6_countOfAsk_2 rfl rfl ?_
  refine J_geti (pc := 3) (i := 5) cl4 (hW.q hm) (by decide) rfl (hW.n21 hm) kX6_22 dX6_countOfAsk_3 ?_
  refine J_imulN (a := 64) dX6_countOfAsk_6 ?_
  refine J_aload_n (pc := 7) dX6_countOfAsk_7 rfl rfl ?_
  refine J_getl (pc := 8) (i := 4) cl4 (hW.q hm) (by decide) rfl rfl kX6_18 dX6_countOfAsk_8 ?_
  refine J_ldc2 (pc := 11) kX6_80 dX6_countOfAsk_11 ?_
  refine J_lxor (pc := 14) dX6_countOfAsk_14 ?_
  refine J_callS (pc := 15) (cx_least l g (hgt - 2) (isB_not (hW.held hm)) (show lst (fun i => !xB X 1 m i) 60 < 64 by omega) (lst_is (f := fun i => !xB X 1 m i) hl) (fun j hj => lst_no (f := fun i => !xB X 1 m i) hj)) qX0_least vX0_least kX6_82 dX6_countOfAsk_15 rfl rfl (Nat.le_of_ble_eq_true rfl) (by omega) (by omega) (by omega) ?_
  rintro _ _ ⟨rfl, rfl⟩
  refine J_iaddN dX6_countOfAsk_18 ?_
  refine J_iret (pc := 19) dX6_countOfAsk_19 rfl (by omega) (by omega) ?_
  exact ⟨rfl, rfl⟩
set_option maxRecDepth 100000 in
theorem cx_forgetIfOld (l : Launch) (g : jG) (hgt : Nat) {S : jS} {w : Nat → Nat → Nat} {hx : Nat} {X : XS} {m : Nat} (hW : WX S w hx X) (hm : m < xV X 1 0) (h19 : xV X 19 m ≤ 2) (h11 : xV X 11 m ≤ 1) (hh : 1 ≤ hgt) : CT l g mX6_forgetIfOld hgt 0 0 [.ref (w 4 m), .int (nI (xV X 0 0))] S (xQ w hx none (if xV X 19 m = 2 ∧ xV X 11 m = 1 ∧ nI 30 ≤ nI (xV X 0 0) - nI (xV X 25 m) then x_forget X m else X)) := by
  refine CT_of qX6_forgetIfOld (Nat.le_of_ble_eq_true rfl) ?_
  refine J_aload_n (pc := 0) dX6_forgetIfOld_0 rfl rfl ?_
  refine J_geti (pc := 1) (i := 1) cl4 (hW.q hm) (by decide) rfl (hW.mod4 hm) kX6_40 dX6_forgetIfOld_1 ?_
  refine J_if_eqN (pc := 4) (tgt := 29) dX6_forgetIfOld_4 rfl (by omega) (fun B => ?_) (fun B => ?_)
  · rw [if_neg (by omega)]
    refine J_vret (pc := 29) dX6_forgetIfOld_29 rfl (by omega) (by omega) ?_
    exact ⟨rfl, hW⟩
  · refine J_aload_n (pc := 7) dX6_forgetIfOld_7 rfl rfl ?_
    refine J_callV (pc := 8) (cx_isFinished l g (hgt - 1) hW hm h19) qX6_isFinished vX6_isFinished cl4 rfl (hW.q hm) kX6_85 dX6_forgetIfOld_8 rfl rfl (Nat.le_of_ble_eq_true rfl) (by omega) (by omega) (by omega) ?_
    rintro _ _ ⟨rfl, rfl⟩
    refine J_if_eqB (pc := 11) (tgt := 29) dX6_forgetIfOld_11 rfl (fun B2 => ?_) (fun B2 => ?_)
    · have B2 := of_decide_eq_false B2
      rw [if_neg (fun z => B2 z.1)]
      refine J_vret (pc := 29) dX6_forgetIfOld_29 rfl (by omega) (by omega) ?_
      exact ⟨rfl, hW⟩
    · have B2 := of_decide_eq_true B2
      refine J_iload_n (pc := 14) dX6_forgetIfOld_14 rfl rfl ?_
      refine J_aload_n (pc := 15) dX6_forgetIfOld_15 rfl rfl ?_
      refine J_geti (pc := 16) (i := 9) cl4 (hW.q hm) (by decide) rfl (hW.n25 hm) kX6_34 dX6_forgetIfOld_16 ?_
      first | refine J_isubN (pc := 19) dX6_forgetIfOld_19 (by omega) ?_ | refine J_isub (pc := 19) dX6_forgetIfOld_19 ?_
      refine J_bipush (pc := 20) (v := nI 30) dX6_forgetIfOld_20 (by decide) ?_
      refine J_icmp_lt (pc := 22) (tgt := 29) dX6_forgetIfOld_22 rfl (fun B3 => ?_) (fun B3 => ?_)
      · rw [if_neg (fun z => absurd z.2.2 (Int32.not_le.mpr B3))]
        refine J_vret (pc := 29) dX6_forgetIfOld_29 rfl (by omega) (by omega) ?_
        exact ⟨rfl, hW⟩
      · rw [if_pos ⟨B2, by omega, Int32.not_lt.mp B3⟩]
        refine J_aload_n (pc := 25) dX6_forgetIfOld_25 rfl rfl ?_
        refine J_callV (pc := 26) (cx_forget l g (hgt - 1) hW hm) qX6_forget vX6_forget cl4 rfl (hW.q hm) kX6_77 dX6_forgetIfOld_26 rfl rfl (Nat.le_of_ble_eq_true rfl) (by omega) (by omega) (by omega) ?_
        rintro _ _ ⟨rfl, hW⟩
        refine J_vret (pc := 29) dX6_forgetIfOld_29 rfl (by omega) (by omega) ?_
        exact ⟨rfl, hW⟩
set_option maxRecDepth 100000 in
theorem cx_isAheadOf (l : Launch) (g : jG) (hgt : Nat) {S : jS} {w : Nat → Nat → Nat} {hx : Nat} {X : XS} {m : Nat} (hW : WX S w hx X) (hm : m < xV X 1 0) {y : Nat} (hy : y < xV X 1 0) (ho : okH X m) (ho2 : okH X y) (ha : xV X 24 m < 2 ^ 31) (hb : xV X 24 y < 2 ^ 31) (hh : 2 ≤ hgt) : CT l g mX6_isAheadOf hgt 0 0 [.ref (w 4 m), .ref (w 4 y)] S (jPure (.int (bI (x_ahead X m y))) S) := by
  have c1 := ho.cnt
  have c2 := ho2.cnt
  have d1 := ho.2
  have d2 := ho2.2
  unfold x_ahead
  refine CT_of qX6_isAheadOf (Nat.le_of_ble_eq_true rfl) ?_
  refine J_aload_n (pc := 0) dX6_isAheadOf_0 rfl rfl ?_
  refine J_callV (pc := 1) (cx_missing l g (hgt - 1) hW hm ho (by omega)) qX6_missing vX6_missing cl4 rfl (hW.q hm) kX6_73 dX6_isAheadOf_1 rfl rfl (Nat.le_of_ble_eq_true rfl) (by omega) (by omega) (by omega) ?_
  rintro _ _ ⟨rfl, rfl⟩
  refine J_aload_n (pc := 4) dX6_isAheadOf_4 rfl rfl ?_
  refine J_callV (pc := 5) (cx_missing l g (hgt - 1) hW hy ho2 (by omega)) qX6_missing vX6_missing cl4 rfl (hW.q hy) kX6_73 dX6_isAheadOf_5 rfl rfl (Nat.le_of_ble_eq_true rfl) (by omega) (by omega) (by omega) ?_
  rintro _ _ ⟨rfl, rfl⟩
  refine J_icmp_eqN (pc := 8) (tgt := 28) dX6_isAheadOf_8 rfl (by omega) (by omega) (fun B => ?_) (fun B => ?_)
  · rw [if_neg (by omega)]
    refine J_aload_n (pc := 28) dX6_isAheadOf_28 rfl rfl ?_
    refine J_geti (pc := 29) (i := 8) cl4 (hW.q hm) (by decide) rfl (hW.n24 hm) kX6_31 dX6_isAheadOf_29 ?_
    refine J_aload_n (pc := 32) dX6_isAheadOf_32 rfl rfl ?_
    refine J_geti (pc := 33) (i := 8) cl4 (hW.q hy) (by decide) rfl (hW.n24 hy) kX6_31 dX6_isAheadOf_33 ?_
    refine J_icmp_geN (pc := 36) (tgt := 43) dX6_isAheadOf_36 rfl (by omega) (by omega) (fun B2 => ?_) (fun B2 => ?_)
    · rw [decide_eq_false (by omega)]
      refine J_iconst (pc := 43) (v := nI 0) dX6_isAheadOf_43 (by decide) ?_
      refine J_zret (pc := 44) dX6_isAheadOf_44 rfl rfl (by omega) (by omega) ?_
      exact ⟨rfl, rfl⟩
    · rw [decide_eq_true (by omega)]
      refine J_iconst (pc := 39) (v := nI 1) dX6_isAheadOf_39 (by decide) ?_
      refine J_goto (pc := 40) (tgt := 44) dX6_isAheadOf_40 rfl ?_
      refine J_zret (pc := 44) dX6_isAheadOf_44 rfl rfl (by omega) (by omega) ?_
      exact ⟨rfl, rfl⟩
  · rw [if_pos B]
    refine J_aload_n (pc := 11) dX6_isAheadOf_11 rfl rfl ?_
    refine J_callV (pc := 12) (cx_missing l g (hgt - 1) hW hm ho (by omega)) qX6_missing vX6_missing cl4 rfl (hW.q hm) kX6_73 dX6_isAheadOf_12 rfl rfl (Nat.le_of_ble_eq_true rfl) (by omega) (by omega) (by omega) ?_
    rintro _ _ ⟨rfl, rfl⟩
    refine J_aload_n (pc := 15) dX6_isAheadOf_15 rfl rfl ?_
    refine J_callV (pc := 16) (cx_missing l g (hgt - 1) hW hy ho2 (by omega)) qX6_missing vX6_missing cl4 rfl (hW.q hy) kX6_73 dX6_isAheadOf_16 rfl rfl (Nat.le_of_ble_eq_true rfl) (by omega) (by omega) (by omega) ?_
    rintro _ _ ⟨rfl, rfl⟩
    refine J_icmp_geN (pc := 19) (tgt := 26) dX6_isAheadOf_19 rfl (by omega) (by omega) (fun B2 => ?_) (fun B2 => ?_)
    · rw [decide_eq_false (by omega)]
      refine J_iconst (pc := 26) (v := nI 0) dX6_isAheadOf_26 (by decide) ?_
      refine J_zret (pc := 27) dX6_isAheadOf_27 rfl rfl (by omega) (by omega) ?_
      exact ⟨rfl, rfl⟩
    · rw [decide_eq_true (by omega)]
      refine J_iconst (pc := 22) (v := nI 1) dX6_isAheadOf_22 (by decide) ?_
      refine J_goto (pc := 23) (tgt := 27) dX6_isAheadOf_23 rfl ?_
      refine J_zret (pc := 27) dX6_isAheadOf_27 rfl rfl (by omega) (by omega) ?_
      exact ⟨rfl, rfl⟩
set_option maxRecDepth 100000 in
theorem cx_growGranted (l : Launch) (g : jG) (hgt : Nat) {S : jS} {w : Nat → Nat → Nat} {hx : Nat} {X : XS} {m : Nat} (hW : WX S w hx X) (hm : m < xV X 1 0) (ho : okH X m) (h21 : xV X 21 m ≤ 60) (hh : 2 ≤ hgt) : CT l g mX6_growGranted hgt 0 0 [.ref (w 4 m)] S (fun r S' => if x_target X m ≤ xV X 21 m then r = some (.int 0) ∧ S = S' else r = some (.int 1) ∧ WX S' w hx (yV X 21 m (x_target X m))) := by
  have c1 := ho.cnt
  have d1 := ho.2
  have e : min (xV X 10 m - x_missing X m + 6) (xV X 10 m) = x_target X m := by
    unfold x_target
    split <;> omega
  have ht : x_target X m ≤ 60 := by rw [← e]; omega
  refine CT_of qX6_growGranted (Nat.le_of_ble_eq_true rfl) ?_
  refine J_aload_n (pc := 0) dX6_growGranted_0 rfl rfl ?_
  refine J_geti (pc := 1) (i := 0) cl4 (hW.q hm) (by decide) rfl (hW.len4 hm) kX6_37 dX6_growGranted_1 ?_
  refine J_aload_n (pc := 4) dX6_growGranted_4 rfl rfl ?_
  refine J_callV (pc := 5) (cx_missing l g (hgt - 1) hW hm ho (by omega)) qX6_missing vX6_missing cl4 rfl (hW.q hm) kX6_73 dX6_growGranted_5 rfl rfl (Nat.le_of_ble_eq_true rfl) (by omega) (by omega) (by omega) ?_
  rintro _ _ ⟨rfl, rfl⟩
  refine J_isubN dX6_growGranted_8 (by omega) ?_
  refine J_bipush (pc := 9) (v := nI 6) dX6_growGranted_9 (by decide) ?_
  refine J_iaddN (b := 6) dX6_growGranted_11 ?_
  refine J_aload_n (pc := 12) dX6_growGranted_12 rfl rfl ?_
  refine J_geti (pc := 13) (i := 0) cl4 (hW.q hm) (by decide) rfl (hW.len4 hm) kX6_37 dX6_growGranted_13 ?_
  refine J_callS (pc := 16) (cx_min l g (hgt - 1) (by omega) (by omega)) qJ9_min_7cf53 vJ9_min_7cf53 kX6_66 dX6_growGranted_16 rfl rfl (Nat.le_of_ble_eq_true rfl) (by omega) (by omega) (by omega) ?_
  rintro _ _ ⟨rfl, rfl⟩
  rw [e]
  refine J_istore_n (pc := 19) dX6_growGranted_19 rfl (by decide) ?_
  refine J_iload_n (pc := 20) dX6_growGranted_20 rfl rfl ?_
  refine J_aload_n (pc := 21) dX6_growGranted_21 rfl rfl ?_
  refine J_geti (pc := 22) (i := 5) cl4 (hW.q hm) (by decide) rfl (hW.n21 hm) kX6_22 dX6_growGranted_22 ?_
  refine J_icmp_gtN (pc := 25) (tgt := 30) dX6_growGranted_25 rfl (by omega) (by omega) (fun B => ?_) (fun B => ?_)
  · refine J_aload_n (pc := 30) dX6_growGranted_30 rfl rfl ?_
    refine J_iload_n (pc := 31) dX6_growGranted_31 rfl rfl ?_
    refine J_puti (pc := 32) (i := 5) cl4 (hW.q hm) (by decide) rfl rfl rfl rfl kX6_22 dX6_growGranted_32 ?_
    refine J_iconst (pc := 35) (v := nI 1) dX6_growGranted_35 (by decide) ?_
    refine J_zret (pc := 36) dX6_growGranted_36 rfl rfl (by omega) (by omega) ?_
    rw [if_neg (by omega)]
    exact ⟨rfl, hW.wV 21 m _ hm (by decide)⟩
  · refine J_iconst (pc := 28) (v := nI 0) dX6_growGranted_28 (by decide) ?_
    refine J_zret (pc := 29) dX6_growGranted_29 rfl rfl (by omega) (by omega) ?_
    rw [if_pos (by omega)]
    exact ⟨rfl, rfl⟩
set_option maxRecDepth 100000 in
theorem cx_countOfGrant (l : Launch) (g : jG) (hgt : Nat) {S : jS} {w : Nat → Nat → Nat} {hx : Nat} {X : XS} {m : Nat} (hW : WX S w hx X) (hm : m < xV X 1 0) {k : Nat} : CT l g mX6_countOfGrant hgt 0 0 [.ref (w 4 m), .int (nI k)] S (jPure (.int (nI (4 * xV X 21 m + 1 + k))) S) := by
  refine CT_of qX6_countOfGrant (Nat.le_of_ble_eq_true rfl) ?_
  refine J_iconst (pc := 0) (v := nI 4) dX6_countOfGrant_0 (by decide) ?_
  refine J_aload_n (pc := 1) dX6_countOfGrant_1 rfl rfl ?_
  refine J_geti (pc := 2) (i := 5) cl4 (hW.q hm) (by decide) rfl (hW.n21 hm) kX6_22 dX6_countOfGrant_2 ?_
  refine J_imulN (a := 4) dX6_countOfGrant_5 ?_
  refine J_iconst (pc := 6) (v := nI 1) dX6_countOfGrant_6 (by decide) ?_
  refine J_iaddN (b := 1) dX6_countOfGrant_7 ?_
  refine J_iload_n (pc := 8) dX6_countOfGrant_8 rfl rfl ?_
  refine J_iaddN dX6_countOfGrant_9 ?_
  refine J_iret (pc := 10) dX6_countOfGrant_10 rfl (by omega) (by omega) ?_
  exact ⟨rfl, rfl⟩
