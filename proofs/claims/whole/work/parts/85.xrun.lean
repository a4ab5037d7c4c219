/-! THE CLASS: a slot -/
theorem nP_v (X : XS) (a : Nat) {f : Nat} (h1 : f ≠ 13) (h2 : f ≠ 27) : xV (nP X a).2 f = xV X f := by
  unfold nP
  cases xL X (96 + a) with
  | cons e t =>
    dsimp only
    unfold x_sent1
    rw [xV_nf h2, xV_yL]
  | nil =>
    cases x_short X a (xV X 1 0) with
    | none => rfl
    | some m =>
      dsimp only
      unfold x_sent1
      rw [xV_nf h2, tp_v X m h1]
theorem nP_lt {X : XS} {a : Nat} (hI : xOK X) {e : (Nat × Nat × Nat) × Nat} (h : (nP X a).1 = some e) : pkF (xV X 8) (xV X 9) e.1 e.2 < 2 ^ 25 := by
  cases hL : xL X (96 + a) with
  | cons e' t =>
    rw [nP_cons hL] at h
    cases h
    have ho : okP X e' 0 := hI.okP (q := 96 + a) (by rw [hL]; exact List.mem_cons_self) (by decide)
    exact ho.lt
  | nil =>
    rw [nP_nil hL] at h
    refine nD_lt (a := a) hI ?_
    unfold nQ at h
    cases hd : (nD X a).1 with
    | none => rw [hd] at h; cases h
    | some e' => rw [hd] at h; exact h
/-- what has to hold on the way through a slot, for the class -/
def okX (X : XS) : Prop := okSlot1 X ∧ ∀ h, h < 8 → arrD (x_forgets (x_listens (sC X h) h (xV (sC X h) 1 0)) h (xV (sC X h) 1 0)) h (xV (sC X h) 1 0)
set_option maxRecDepth 100000 in
theorem cx_runSlot (l : Launch) (g : jG) (hgt : Nat) {S : jS} {w : Nat → Nat → Nat} {X : XS} (hW : WX S w 8 X) (hI : okX X) (hh : 6 ≤ hgt) : CT l g mX9_runSlot hgt 0 0 [.ref (w 7 0)] S (xQ w 8 none (x_slot1 X)) := by
  obtain ⟨⟨iA, iB, iC⟩, iD⟩ := hI
  have loop : ∀ h, h ≤ 8 → ∀ S, WX S w 8 (sC X h) → J l g mX9_runSlot hgt 0 0 (xQ w 8 none (x_slot1 X)) 23 [(1, .int (nI h)), (0, .ref (w 7 0))] [] S 0 0 := by
    refine down _ ?_ ?_
    · intro S hW
      refine J_iload_n (pc := 23) dX9_runSlot_23 rfl rfl ?_
      refine J_bipush (pc := 24) (v := nI 8) dX9_runSlot_24 (by decide) ?_
      refine J_icmp_geN (pc := 26) (tgt := 85) dX9_runSlot_26 rfl (by omega) (by omega) (fun B => ?_) (fun B => ?_)
      · refine J_vret (pc := 85) dX9_runSlot_85 rfl (by omega) (by omega) ?_
        exact ⟨rfl, hW⟩
      · omega
    · intro h h8 ih S hW
      have hs : sC X (h + 1) = x_host (sC X h) h := rfl
      have hC := iC h h8
      have hD := iD h h8
      rw [hs] at ih
      clear hs
      generalize sC X h = Y at *
      obtain ⟨i1, i2, i3, i4⟩ := hC
      have e1 : xV (x_receive Y h) 1 0 = xV Y 1 0 := congrFun i2.1 0
      unfold x_host at ih
      rw [← e1] at ih i3
      refine J_iload_n (pc := 23) dX9_runSlot_23 rfl rfl ?_
      refine J_bipush (pc := 24) (v := nI 8) dX9_runSlot_24 (by decide) ?_
      refine J_icmp_geN (pc := 26) (tgt := 85) dX9_runSlot_26 rfl (by omega) (by omega) (fun B => ?_) (fun B => ?_)
      · omega
      · refine J_aload_n (pc := 29) dX9_runSlot_29 rfl rfl ?_
        refine J_getr (pc := 30) (i := 1) cl7 hW.ro (by decide) rfl hW.rhos kX9_18 dX9_runSlot_30 ?_
        refine J_iload_n (pc := 33) dX9_runSlot_33 rfl rfl ?_
        refine J_rald11 (pc := 34) hW.ahos rfl h8 (by first | omega | exact mLn_lt _) (hW.ehos h8) dX9_runSlot_34 ?_
        refine J_aload_n (pc := 35) dX9_runSlot_35 rfl rfl ?_
        refine J_geti (pc := 36) (i := 4) cl7 hW.ro (by decide) rfl hW.rclk kX9_32 dX9_runSlot_36 ?_
        refine J_callV (pc := 39) (cx_workAsReceiver l g (hgt - 1) hW h8 i1 hD (by omega)) qX3_workAsReceiver vX3_workAsReceiver cl2 rfl (hW.ho h8) kX9_123 dX9_runSlot_39 rfl rfl (Nat.le_of_ble_eq_true rfl) (by omega) (by omega) (by omega) ?_
        rintro _ S1 ⟨rfl, hW1⟩
        refine J_aload_n (pc := 42) dX9_runSlot_42 rfl rfl ?_
        refine J_getr (pc := 43) (i := 1) cl7 hW1.ro (by decide) rfl hW1.rhos kX9_18 dX9_runSlot_43 ?_
        refine J_iload_n (pc := 46) dX9_runSlot_46 rfl rfl ?_
        refine J_rald11 (pc := 47) hW1.ahos rfl h8 (by first | omega | exact mLn_lt _) (hW1.ehos h8) dX9_runSlot_47 ?_
        refine J_aload_n (pc := 48) dX9_runSlot_48 rfl rfl ?_
        refine J_geti (pc := 49) (i := 4) cl7 hW1.ro (by decide) rfl hW1.rclk kX9_32 dX9_runSlot_49 ?_
        refine J_callV (pc := 52) (cx_workAsSender l g (hgt - 1) hW1 h8 i3 (by omega)) qX3_workAsSender vX3_workAsSender cl2 rfl (hW1.ho h8) kX9_127 dX9_runSlot_52 rfl rfl (Nat.le_of_ble_eq_true rfl) (by omega) (by omega) (by omega) ?_
        rintro _ S2 ⟨rfl, hW2⟩
        have hO := (i3 _ (Nat.le_refl _)).1
        generalize x_watch (x_receive Y h) h (xV (x_receive Y h) 1 0) = Z at *
        have next : ∀ S', WX S' w 8 (x_send Z h) → J l g mX9_runSlot hgt 0 0 (xQ w 8 none (x_slot1 X)) 79 [(1, .int (nI h)), (0, .ref (w 7 0))] [] S' 0 0 := by
          intro S' hW'
          refine J_iinc (pc := 79) dX9_runSlot_79 rfl (inc1 _) (by decide) ?_
          refine J_goto (pc := 82) (tgt := 23) dX9_runSlot_82 rfl ?_
          exact J_lvk (ih S' hW') ⟨rfl, rfl, trivial⟩
        rw [x_send_nP] at next
        refine J_aload_n (pc := 55) dX9_runSlot_55 rfl rfl ?_
        refine J_getr (pc := 56) (i := 1) cl7 hW2.ro (by decide) rfl hW2.rhos kX9_18 dX9_runSlot_56 ?_
        refine J_iload_n (pc := 59) dX9_runSlot_59 rfl rfl ?_
        refine J_rald11 (pc := 60) hW2.ahos rfl h8 (by first | omega | exact mLn_lt _) (hW2.ehos h8) dX9_runSlot_60 ?_
        refine J_callV (pc := 61) (cx_nextPacket l g (hgt - 1) hW2 h8 hO (by omega)) qX3_nextPacket vX3_nextPacket cl2 rfl (hW2.ho h8) kX9_130 dX9_runSlot_61 rfl rfl (Nat.le_of_ble_eq_true rfl) (by omega) (by omega) (by omega) ?_
        intro r S3 hq
        obtain ⟨rfl, hW3⟩ := hq
        have hlt := fun e => nP_lt (a := h) hO (e := e)
        have v8 : xV (nP Z h).2 8 = xV Z 8 := nP_v Z h (by decide) (by decide)
        have v9 : xV (nP Z h).2 9 = xV Z 9 := nP_v Z h (by decide) (by decide)
        have v4 : xV (nP Z h).2 4 = xV Z 4 := nP_v Z h (by decide) (by decide)
        have h4 := (hO.link (show h < 24 by omega)).1
        rw [← v4] at h4
        generalize (nP Z h).1 = o at *
        generalize (nP Z h).2 = U at *
        cases o with
        | none =>
          dsimp only at next
          refine J_istore_n (pc := 64) dX9_runSlot_64 rfl (by decide) ?_
          refine J_iload_n (pc := 65) dX9_runSlot_65 rfl rfl ?_
          refine J_iconst (pc := 66) (v := (-1)) dX9_runSlot_66 (by decide) ?_
          refine J_icmp_eq (pc := 67) (tgt := 79) dX9_runSlot_67 rfl (fun _ => ?_) (fun hc9 => absurd (rfl) hc9)
          exact J_lvk (next S3 hW3) ⟨rfl, rfl, trivial⟩
        | some e =>
          dsimp only at next
          have hlt := hlt e rfl
          rw [← v8, ← v9] at hlt ⊢
          show J l g mX9_runSlot hgt 0 0 (xQ w 8 none (x_slot1 X)) 64 _ [.int (nI (pkF (xV U 8) (xV U 9) e.1 e.2))] S3 0 0
          refine J_istore_n (pc := 64) dX9_runSlot_64 rfl (by decide) ?_
          refine J_iload_n (pc := 65) dX9_runSlot_65 rfl rfl ?_
          refine J_iconst (pc := 66) (v := (-1)) dX9_runSlot_66 (by decide) ?_
          refine J_icmp_eq (pc := 67) (tgt := 79) dX9_runSlot_67 rfl (fun hc9 => absurd hc9 ((nI_m1 (by omega)))) (fun _ => ?_)
          refine J_aload_n (pc := 70) dX9_runSlot_70 rfl rfl ?_
          refine J_getr (pc := 71) (i := 0) cl7 hW3.ro (by decide) rfl hW3.rfab kX9_10 dX9_runSlot_71 ?_
          refine J_iload_n (pc := 74) dX9_runSlot_74 rfl rfl ?_
          refine J_iload_n (pc := 75) dX9_runSlot_75 rfl rfl ?_
          refine J_callV (pc := 76) (cx_putOn l g (hgt - 1) (k := h) (e := e.1) (p := e.2) hW3 (by omega) h4) qX2_putOn vX2_putOn cl1 rfl hW3.fo kX9_134 dX9_runSlot_76 rfl rfl (Nat.le_of_ble_eq_true rfl) (by omega) (by omega) (by omega) ?_
          rintro _ S4 ⟨rfl, hW4⟩
          exact J_lvk (next S4 hW4) ⟨rfl, rfl, trivial⟩
  refine CT_of qX9_runSlot (Nat.le_of_ble_eq_true rfl) ?_
  refine J_aload_n (pc := 0) dX9_runSlot_0 rfl rfl ?_
  refine J_dup (pc := 1) dX9_runSlot_1 rfl ?_
  refine J_geti (pc := 2) (i := 4) cl7 hW.ro (by decide) rfl hW.rclk kX9_32 dX9_runSlot_2 ?_
  refine J_iconst (pc := 5) (v := nI 1) dX9_runSlot_5 (by decide) ?_
  refine J_iaddN (b := 1) dX9_runSlot_6 ?_
  refine J_puti (pc := 7) (i := 4) cl7 hW.ro (by decide) rfl rfl rfl rfl kX9_32 dX9_runSlot_7 ?_
  have hW0 : WX (uI S 7 (w 7 0) 4 (nI (xV X 0 0 + 1))) w 8 (yV X 0 0 (xV X 0 0 + 1)) := hW.wV 0 0 _ Nat.one_pos (by decide)
  refine J_aload_n (pc := 10) dX9_runSlot_10 rfl rfl ?_
  refine J_callV (pc := 11) (cx_arriveAll l g (hgt - 1) hW0 iA (by omega)) qX9_arriveAll vX9_arriveAll cl7 rfl hW0.ro kX9_117 dX9_runSlot_11 rfl rfl (Nat.le_of_ble_eq_true rfl) (by omega) (by omega) (by omega) ?_
  rintro _ S1 ⟨rfl, hW1⟩
  refine J_aload_n (pc := 14) dX9_runSlot_14 rfl rfl ?_
  refine J_getr (pc := 15) (i := 0) cl7 hW1.ro (by decide) rfl hW1.rfab kX9_10 dX9_runSlot_15 ?_
  refine J_callV (pc := 18) (cx_fillLinks l g (hgt - 1) hW1 iB (by omega)) qX2_fillLinks vX2_fillLinks cl1 rfl hW1.fo kX9_120 dX9_runSlot_18 rfl rfl (Nat.le_of_ble_eq_true rfl) (by omega) (by omega) (by omega) ?_
  rintro _ S2 ⟨rfl, hW2⟩
  refine J_iconst (pc := 21) (v := nI 0) dX9_runSlot_21 (by decide) ?_
  refine J_istore_n (pc := 22) dX9_runSlot_22 rfl (by decide) ?_
  exact J_lvk (loop 0 (by omega) S2 hW2) ⟨rfl, rfl, trivial⟩
set_option maxRecDepth 100000 in
theorem cx_slot (l : Launch) (g : jG) (hgt : Nat) {S : jS} {w : Nat → Nat → Nat} {X : XS} {n : Nat} (hW : WX S w 8 X) (h1 : 1 ≤ n) (h2 : n ≤ 200) (hI : ∀ k, k < n → okX (x_slots X k)) (hh : 7 ≤ hgt) : CT l g mX9_slot hgt 0 0 [.ref (w 7 0), .int (nI n)] S (xQ w 8 (some (.int (nI (xV (x_slots X n) 0 0)))) (x_slots X n)) := by
  refine CT_of qX9_slot (Nat.le_of_ble_eq_true rfl) ?_
  refine J_iload_n (pc := 0) dX9_slot_0 rfl rfl ?_
  refine J_iconst (pc := 1) (v := nI 1) dX9_slot_1 (by decide) ?_
  refine J_icmp_ltN (pc := 2) (tgt := 12) dX9_slot_2 rfl (by omega) (by omega) (fun B => ?_) (fun B => ?_)
  · omega
  · refine J_iload_n (pc := 5) dX9_slot_5 rfl rfl ?_
    refine J_sipush (pc := 6) (v := nI 200) dX9_slot_6 (by decide) ?_
    refine J_icmp_leN (pc := 9) (tgt := 22) dX9_slot_9 rfl (by omega) (by omega) (fun B2 => ?_) (fun B2 => ?_)
    · refine J_iconst (pc := 22) (v := nI 0) dX9_slot_22 (by decide) ?_
      refine J_istore_n (pc := 23) dX9_slot_23 rfl (by decide) ?_
      have loop : ∀ k, k ≤ n → ∀ S, WX S w 8 (x_slots X k) → J l g mX9_slot hgt 0 0 (xQ w 8 (some (.int (nI (xV (x_slots X n) 0 0)))) (x_slots X n)) 24 [(2, .int (nI k)), (0, .ref (w 7 0)), (1, .int (nI n))] [] S 0 0 := by
        refine down _ ?_ ?_
        · intro S hW
          refine J_iload_n (pc := 24) dX9_slot_24 rfl rfl ?_
          refine J_iload_n (pc := 25) dX9_slot_25 rfl rfl ?_
          refine J_icmp_geN (pc := 26) (tgt := 39) dX9_slot_26 rfl (by omega) (by omega) (fun B3 => ?_) (fun B3 => ?_)
          · refine J_aload_n (pc := 39) dX9_slot_39 rfl rfl ?_
            refine J_geti (pc := 40) (i := 4) cl7 hW.ro (by decide) rfl hW.rclk kX9_32 dX9_slot_40 ?_
            refine J_iret (pc := 43) dX9_slot_43 rfl (by omega) (by omega) ?_
            exact ⟨rfl, hW⟩
          · omega
        · intro k hk ih S hW
          refine J_iload_n (pc := 24) dX9_slot_24 rfl rfl ?_
          refine J_iload_n (pc := 25) dX9_slot_25 rfl rfl ?_
          refine J_icmp_geN (pc := 26) (tgt := 39) dX9_slot_26 rfl (by omega) (by omega) (fun B3 => ?_) (fun B3 => ?_)
          · omega
          · refine J_aload_n (pc := 29) dX9_slot_29 rfl rfl ?_
            refine J_callV (pc := 30) (cx_runSlot l g (hgt - 1) hW (hI k hk) (by omega)) qX9_runSlot vX9_runSlot cl7 rfl hW.ro kX9_60 dX9_slot_30 rfl rfl (Nat.le_of_ble_eq_true rfl) (by omega) (by omega) (by omega) ?_
            rintro _ S' ⟨rfl, hW'⟩
            rw [← x_slots_s] at hW'
            refine J_iinc (pc := 33) dX9_slot_33 rfl (inc1 _) (by decide) ?_
            refine J_goto (pc := 36) (tgt := 24) dX9_slot_36 rfl ?_
            exact J_lvk (ih S' hW') ⟨rfl, rfl, rfl, trivial⟩
      exact J_lvk (loop 0 (Nat.zero_le _) S hW) ⟨rfl, rfl, rfl, trivial⟩
    · omega
