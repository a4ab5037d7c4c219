set_option maxRecDepth 100000 in
theorem cm_queue (l : Launch) (g : jG) (hgt : Nat) {S : jS} {b : Nat} {ad : Nat → Nat} {X : XS} (k p : Int32) (hW : WM S b ad X) : CT l g mX10_queue hgt 0 0 [.ref b, .int k, .int p] S (mPub b ad (p_queue (yV X 32 0 0) k p) (yV X 32 0 0)) := by
  refine CT_of qX10_queue (Nat.le_of_ble_eq_true rfl) ?_
  show J _ _ _ _ _ _ _ 0 [(0, .ref b), (1, .int k), (2, .int p)] [] S 0 0
  refine J_aload_n (pc := 0) dX10_queue_0 rfl rfl ?_
  refine J_iconst (pc := 1) (v := nI 0) dX10_queue_1 (by decide) ?_
  refine J_mss (pc := 2) hW 0 32 (by decide) rfl kX10_134 dX10_queue_2 (fun hW => ?_)
  generalize yV X 32 0 0 = X at hW
  generalize uI S 8 b 0 (nI 0) = S at hW
  have fail : (k < nI 8 ∨ nI 24 ≤ k ∨ p < 0 ∨ nI 3 < p) → J l g mX10_queue hgt 0 0 (mPub b ad (p_queue X k p) X) 26 [(0, .ref b), (1, .int k), (2, .int p)] [] S 0 0 := by
    intro z
    refine J_iconst (pc := 26) (v := (-1)) dX10_queue_26 (by decide) ?_
    refine J_goto (pc := 27) (tgt := 40) dX10_queue_27 rfl ?_
    refine J_iret (pc := 40) dX10_queue_40 rfl (by omega) (by omega) ?_
    exact ⟨by rw [p_queue, if_pos z], hW⟩
  refine J_iload_n (pc := 5) dX10_queue_5 rfl rfl ?_
  refine J_bipush (pc := 6) (v := nI 8) dX10_queue_6 (by decide) ?_
  refine J_icmp_lt (pc := 8) (tgt := 26) dX10_queue_8 rfl (fun h1 => ?_) (fun h1 => ?_)
  · exact fail (by simp [h1])
  refine J_iload_n (pc := 11) dX10_queue_11 rfl rfl ?_
  refine J_bipush (pc := 12) (v := nI 24) dX10_queue_12 (by decide) ?_
  refine J_icmp_ge (pc := 14) (tgt := 26) dX10_queue_14 rfl (fun h2 => ?_) (fun h2 => ?_)
  · exact fail (by simp [h2])
  refine J_iload_n (pc := 17) dX10_queue_17 rfl rfl ?_
  refine J_if_lt (pc := 18) (tgt := 26) dX10_queue_18 rfl (fun h3 => ?_) (fun h3 => ?_)
  · exact fail (by simp [h3])
  refine J_iload_n (pc := 21) dX10_queue_21 rfl rfl ?_
  refine J_iconst (pc := 22) (v := nI 3) dX10_queue_22 (by decide) ?_
  refine J_icmp_le (pc := 23) (tgt := 30) dX10_queue_23 rfl (fun h4 => ?_) (fun h4 => ?_)
  · have h4 : ¬ nI 3 < p := Int32.not_lt.mpr h4
    unfold p_queue
    rw [if_neg (fun z => by rcases z with z | z | z | z; (· exact h1 z); (· exact h2 z); (· exact h3 z); (· exact h4 z))]
    obtain ⟨k, hk, rfl⟩ := ix_in (n := 24) (by decide) (fun z => h1 (Int32.lt_trans z (by decide))) h2
    obtain ⟨p, hp, rfl⟩ := ix_le (n := 3) (by decide) h3 h4
    rw [cl_nI (by omega), cl_nI (by omega)]
    refine J_aload_n (pc := 30) dX10_queue_30 rfl rfl ?_
    refine J_getr (pc := 31) (i := 8) cl8 hW.o (by decide) rfl (hW.r 8 rfl) kX10_25 dX10_queue_31 ?_
    refine J_iconst (pc := 34) (v := nI 4) dX10_queue_34 (by decide) ?_
    refine J_iload_n (pc := 35) dX10_queue_35 rfl rfl ?_
    first | refine J_imulN (pc := 36) dX10_queue_36 ?_ | refine J_imul (pc := 36) dX10_queue_36 ?_
    refine J_iload_n (pc := 37) dX10_queue_37 rfl rfl ?_
    first | refine J_iaddN (pc := 38) dX10_queue_38 ?_ | refine J_iadd (pc := 38) dX10_queue_38 ?_
    refine J_iald (pc := 39) (hW.a 8 rfl) rfl (show _ < 96 by omega) (by first | omega | exact mLn_lt _) (hW.2.2.2.2.2.2.1 _ (show 4 * k + p < 96 by omega)).2.1 dX10_queue_39 ?_
    refine J_iret (pc := 40) dX10_queue_40 rfl (by omega) (by omega) ?_
    exact ⟨rfl, hW⟩
  · exact fail (by simp [Int32.not_le.mp h4])
set_option maxRecDepth 100000 in
theorem cm_packet (l : Launch) (g : jG) (hgt : Nat) {S : jS} {b : Nat} {ad : Nat → Nat} {X : XS} (k w : Int32) (hW : WM S b ad X) (hI : xOK (yV X 32 0 0)) : CT l g mX10_packet hgt 0 0 [.ref b, .int k, .int w] S (mPub b ad (p_packet (yV X 32 0 0) k w) (yV X 32 0 0)) := by
  refine CT_of qX10_packet (Nat.le_of_ble_eq_true rfl) ?_
  show J _ _ _ _ _ _ _ 0 [(0, .ref b), (1, .int k), (2, .int w)] [] S 0 0
  refine J_aload_n (pc := 0) dX10_packet_0 rfl rfl ?_
  refine J_iconst (pc := 1) (v := nI 0) dX10_packet_1 (by decide) ?_
  refine J_mss (pc := 2) hW 0 32 (by decide) rfl kX10_134 dX10_packet_2 (fun hW => ?_)
  generalize yV X 32 0 0 = X at hW hI
  generalize uI S 8 b 0 (nI 0) = S at hW
  have fail : p_packet X k w = -1 → J l g mX10_packet hgt 0 0 (mPub b ad (p_packet X k w) X) 34 [(0, .ref b), (1, .int k), (2, .int w)] [] S 0 0 := by
    intro z
    refine J_iconst (pc := 34) (v := (-1)) dX10_packet_34 (by decide) ?_
    refine J_iret (pc := 35) dX10_packet_35 rfl (by omega) (by omega) ?_
    exact ⟨by rw [z], hW⟩
  refine J_iload_n (pc := 5) dX10_packet_5 rfl rfl ?_
  refine J_if_lt (pc := 6) (tgt := 34) dX10_packet_6 rfl (fun h1 => ?_) (fun h1 => ?_)
  · exact fail (by rw [p_packet, if_pos (Or.inl h1)])
  refine J_iload_n (pc := 9) dX10_packet_9 rfl rfl ?_
  refine J_bipush (pc := 10) (v := nI 24) dX10_packet_10 (by decide) ?_
  refine J_icmp_ge (pc := 12) (tgt := 34) dX10_packet_12 rfl (fun h2 => ?_) (fun h2 => ?_)
  · exact fail (by rw [p_packet, if_pos (Or.inr h2)])
  have hno : ¬ (k < 0 ∨ nI 24 ≤ k) := fun z => z.elim h1 h2
  obtain ⟨k, hk, rfl⟩ := ix_in (n := 24) (by decide) h1 h2
  have hlk := hW.2.2.2.2.2.1 k hk
  unfold p_packet at fail ⊢
  rw [if_neg hno, cl_nI (by omega)] at fail ⊢
  cases hl : xL X (200 + k) with
  | nil =>
    rw [hl] at fail
    refine J_aload_n (pc := 15) dX10_packet_15 rfl rfl ?_
    refine J_getr (pc := 16) (i := 3) cl8 hW.o (by decide) rfl (hW.r 3 rfl) kX10_7 dX10_packet_16 ?_
    refine J_iload_n (pc := 19) dX10_packet_19 rfl rfl ?_
    refine J_iald (pc := 20) (hW.a 3 rfl) rfl hk (by first | omega | exact mLn_lt _) (hlk.1 hl) dX10_packet_20 ?_
    refine J_iconst (pc := 21) (v := (-1)) dX10_packet_21 (by decide) ?_
    refine J_icmp_eq (pc := 22) (tgt := 34) dX10_packet_22 rfl (fun _ => ?_) (fun hc9 => absurd (rfl) hc9)
    exact fail rfl
  | cons e t =>
    rw [hl] at fail
    have ho := hI.list.1 _ e (by rw [hl]; exact List.mem_cons_self)
    obtain ⟨v1, v2, v3⟩ := hlk.2 e t hl
    refine J_aload_n (pc := 15) dX10_packet_15 rfl rfl ?_
    refine J_getr (pc := 16) (i := 3) cl8 hW.o (by decide) rfl (hW.r 3 rfl) kX10_7 dX10_packet_16 ?_
    refine J_iload_n (pc := 19) dX10_packet_19 rfl rfl ?_
    refine J_iald (pc := 20) (hW.a 3 rfl) rfl hk (by first | omega | exact mLn_lt _) v1 dX10_packet_20 ?_
    refine J_iconst (pc := 21) (v := (-1)) dX10_packet_21 (by decide) ?_
    refine J_icmp_eq (pc := 22) (tgt := 34) dX10_packet_22 rfl (fun hc9 => absurd hc9 ((fun z => by have := (oI_m1 (o := some e.1) (fun x hx => by cases hx; have := ho.1; omega)).mp z; cases this))) (fun _ => ?_)
    dsimp only at fail ⊢
    refine J_iload_n (pc := 25) dX10_packet_25 rfl rfl ?_
    refine J_if_lt (pc := 26) (tgt := 34) dX10_packet_26 rfl (fun h3 => ?_) (fun h3 => ?_)
    · exact fail (by rw [if_pos (Or.inl h3)])
    refine J_iload_n (pc := 29) dX10_packet_29 rfl rfl ?_
    refine J_iconst (pc := 30) (v := nI 3) dX10_packet_30 (by decide) ?_
    refine J_icmp_le (pc := 31) (tgt := 36) dX10_packet_31 rfl (fun h4 => ?_) (fun h4 => ?_)
    · have h4 : ¬ nI 3 < w := Int32.not_lt.mpr h4
      rw [if_neg (fun z => z.elim h3 h4)]
      clear fail
      obtain ⟨w, hw, rfl⟩ := ix_le (n := 3) (by decide) h3 h4
      have q0 := nI_eq (a := w) (b := 0) (by omega) (by decide)
      have q1 := nI_eq (a := w) (b := 1) (by omega) (by decide)
      have q2 := nI_eq (a := w) (b := 2) (by omega) (by decide)
      refine J_iload_n (pc := 36) dX10_packet_36 rfl rfl ?_
      refine J_if_neN (pc := 37) (tgt := 49) dX10_packet_37 rfl (by omega) (fun c0 => ?_) (fun c0 => ?_)
      · rw [if_neg (fun z => c0 (q0.mp z))]
        refine J_iload_n (pc := 49) dX10_packet_49 rfl rfl ?_
        refine J_iconst (pc := 50) (v := nI 1) dX10_packet_50 (by decide) ?_
        refine J_icmp_neN (pc := 51) (tgt := 63) dX10_packet_51 rfl (by omega) (by omega) (fun c1 => ?_) (fun c1 => ?_)
        · rw [if_neg (fun z => c1 (q1.mp z))]
          refine J_iload_n (pc := 63) dX10_packet_63 rfl rfl ?_
          refine J_iconst (pc := 64) (v := nI 2) dX10_packet_64 (by decide) ?_
          refine J_icmp_neN (pc := 65) (tgt := 77) dX10_packet_65 rfl (by omega) (by omega) (fun c2 => ?_) (fun c2 => ?_)
          · rw [if_neg (fun z => c2 (q2.mp z))]
            refine J_aload_n (pc := 77) dX10_packet_77 rfl rfl ?_
            refine J_getr (pc := 78) (i := 6) cl8 hW.o (by decide) rfl (hW.r 6 rfl) kX10_19 dX10_packet_78 ?_
            refine J_iload_n (pc := 81) dX10_packet_81 rfl rfl ?_
            refine J_mld (pc := 82) hW 5 rfl rfl (by show _ < 24; omega) dX10_packet_82 ?_
            refine J_iret (pc := 83) dX10_packet_83 rfl (by omega) (by omega) ?_
            exact ⟨rfl, hW⟩
          · rw [if_pos (q2.mpr c2)]
            refine J_aload_n (pc := 68) dX10_packet_68 rfl rfl ?_
            refine J_getr (pc := 69) (i := 5) cl8 hW.o (by decide) rfl (hW.r 5 rfl) kX10_16 dX10_packet_69 ?_
            refine J_iload_n (pc := 72) dX10_packet_72 rfl rfl ?_
            refine J_iald (pc := 73) (hW.a 5 rfl) rfl hk (by first | omega | exact mLn_lt _) v3 dX10_packet_73 ?_
            refine J_goto (pc := 74) (tgt := 83) dX10_packet_74 rfl ?_
            refine J_iret (pc := 83) dX10_packet_83 rfl (by omega) (by omega) ?_
            exact ⟨rfl, hW⟩
        · rw [if_pos (q1.mpr c1)]
          refine J_aload_n (pc := 54) dX10_packet_54 rfl rfl ?_
          refine J_getr (pc := 55) (i := 4) cl8 hW.o (by decide) rfl (hW.r 4 rfl) kX10_13 dX10_packet_55 ?_
          refine J_iload_n (pc := 58) dX10_packet_58 rfl rfl ?_
          refine J_iald (pc := 59) (hW.a 4 rfl) rfl hk (by first | omega | exact mLn_lt _) v2 dX10_packet_59 ?_
          refine J_goto (pc := 60) (tgt := 83) dX10_packet_60 rfl ?_
          refine J_iret (pc := 83) dX10_packet_83 rfl (by omega) (by omega) ?_
          exact ⟨rfl, hW⟩
      · rw [if_pos (q0.mpr c0)]
        refine J_aload_n (pc := 40) dX10_packet_40 rfl rfl ?_
        refine J_getr (pc := 41) (i := 3) cl8 hW.o (by decide) rfl (hW.r 3 rfl) kX10_7 dX10_packet_41 ?_
        refine J_iload_n (pc := 44) dX10_packet_44 rfl rfl ?_
        refine J_iald (pc := 45) (hW.a 3 rfl) rfl hk (by first | omega | exact mLn_lt _) v1 dX10_packet_45 ?_
        refine J_goto (pc := 46) (tgt := 83) dX10_packet_46 rfl ?_
        refine J_iret (pc := 83) dX10_packet_83 rfl (by omega) (by omega) ?_
        exact ⟨rfl, hW⟩
    · exact fail (by rw [if_pos (Or.inr (Int32.not_le.mp h4))])
set_option maxRecDepth 100000 in
theorem cm_total (l : Launch) (g : jG) (hgt : Nat) {S : jS} {b : Nat} {ad : Nat → Nat} {X : XS} (w : Int32) (hW : WM S b ad X) (hI : xOK (yV X 32 0 0)) : CT l g mX10_total hgt 0 0 [.ref b, .int w] S (mPub b ad (p_total (yV X 32 0 0) w) (yV X 32 0 0)) := by
  refine CT_of qX10_total (Nat.le_of_ble_eq_true rfl) ?_
  show J _ _ _ _ _ _ _ 0 [(0, .ref b), (1, .int w)] [] S 0 0
  refine J_aload_n (pc := 0) dX10_total_0 rfl rfl ?_
  refine J_iconst (pc := 1) (v := nI 0) dX10_total_1 (by decide) ?_
  refine J_mss (pc := 2) hW 0 32 (by decide) rfl kX10_134 dX10_total_2 (fun hW => ?_)
  generalize yV X 32 0 0 = X at hW hI
  generalize uI S 8 b 0 (nI 0) = S at hW
  unfold p_total
  refine J_iload_n (pc := 5) dX10_total_5 rfl rfl ?_
  refine J_if_ne (pc := 6) (tgt := 14) dX10_total_6 rfl (fun c0 => ?_) (fun c0 => ?_)
  · have c0 : ¬ w = nI 0 := c0
    rw [if_neg c0]
    refine J_iload_n (pc := 14) dX10_total_14 rfl rfl ?_
    refine J_iconst (pc := 15) (v := nI 1) dX10_total_15 (by decide) ?_
    refine J_icmp_ne (pc := 16) (tgt := 24) dX10_total_16 rfl (fun c1 => ?_) (fun c1 => ?_)
    · rw [if_neg c1]
      refine J_iload_n (pc := 24) dX10_total_24 rfl rfl ?_
      refine J_iconst (pc := 25) (v := nI 2) dX10_total_25 (by decide) ?_
      refine J_icmp_eq (pc := 26) (tgt := 31) dX10_total_26 rfl (fun c2 => ?_) (fun c2 => ?_)
      · rw [if_pos c2]
        refine J_iconst (pc := 31) (v := nI 0) dX10_total_31 (by decide) ?_
        refine J_istore_n (pc := 32) dX10_total_32 rfl (by decide) ?_
        refine J_iconst (pc := 33) (v := nI 0) dX10_total_33 (by decide) ?_
        refine J_istore_n (pc := 34) dX10_total_34 rfl (by decide) ?_
        have loop2 : ∀ j, j ≤ 64 → J l g mX10_total hgt 0 0 (mPub b ad (nI (x_under X 24 + x_wait X 64)) X) 68 [(3, .int (nI (32 + j))), (2, .int (nI (x_under X 24 + x_wait X j))), (0, .ref b), (1, .int w)] [] S 0 0 := by
          refine down _ ?_ ?_
          · refine J_iload_n (pc := 68) dX10_total_68 rfl rfl ?_
            refine J_bipush (pc := 69) (v := nI 96) dX10_total_69 (by decide) ?_
            refine J_icmp_geN (pc := 71) (tgt := 89) dX10_total_71 rfl (by omega) (by omega) (fun h0 => ?_) (fun h0 => ?_)
            · refine J_iload_n (pc := 89) dX10_total_89 rfl rfl ?_
              refine J_iret (pc := 90) dX10_total_90 rfl (by omega) (by omega) ?_
              exact ⟨rfl, hW⟩
            · omega
          · intro j hj ih
            refine J_iload_n (pc := 68) dX10_total_68 rfl rfl ?_
            refine J_bipush (pc := 69) (v := nI 96) dX10_total_69 (by decide) ?_
            refine J_icmp_geN (pc := 71) (tgt := 89) dX10_total_71 rfl (by omega) (by omega) (fun h0 => ?_) (fun h0 => ?_)
            · omega
            · refine J_iload_n (pc := 74) dX10_total_74 rfl rfl ?_
              refine J_aload_n (pc := 75) dX10_total_75 rfl rfl ?_
              refine J_getr (pc := 76) (i := 8) cl8 hW.o (by decide) rfl (hW.r 8 rfl) kX10_25 dX10_total_76 ?_
              refine J_iload_n (pc := 79) dX10_total_79 rfl rfl ?_
              refine J_iald (pc := 80) (hW.a 8 rfl) rfl (show _ < 96 by omega) (by first | omega | exact mLn_lt _) (hW.2.2.2.2.2.2.1 _ (show 32 + j < 96 by omega)).2.1 dX10_total_80 ?_
              first | refine J_iaddN (pc := 81) dX10_total_81 ?_ | refine J_iadd (pc := 81) dX10_total_81 ?_
              refine J_istore_n (pc := 82) dX10_total_82 rfl (by decide) ?_
              refine J_iinc (pc := 83) dX10_total_83 rfl (inc1 _) (by decide) ?_
              refine J_goto (pc := 86) (tgt := 68) dX10_total_86 rfl ?_
              refine J_lvk ih ⟨rfl, ?_, rfl, rfl, trivial⟩
              show _ = some (Value.int (nI (x_under X 24 + (x_wait X j + (xL X (32 + j)).length))))
              rw [← Nat.add_assoc]
              rfl
        have loop1 : ∀ i, i ≤ 24 → J l g mX10_total hgt 0 0 (mPub b ad (nI (x_under X 24 + x_wait X 64)) X) 35 [(3, .int (nI i)), (2, .int (nI (x_under X i))), (0, .ref b), (1, .int w)] [] S 0 0 := by
          refine down _ ?_ ?_
          · refine J_iload_n (pc := 35) dX10_total_35 rfl rfl ?_
            refine J_bipush (pc := 36) (v := nI 24) dX10_total_36 (by decide) ?_
            refine J_icmp_geN (pc := 38) (tgt := 65) dX10_total_38 rfl (by omega) (by omega) (fun h0 => ?_) (fun h0 => ?_)
            · refine J_bipush (pc := 65) (v := nI 32) dX10_total_65 (by decide) ?_
              refine J_istore_n (pc := 67) dX10_total_67 rfl (by decide) ?_
              exact J_lvk (loop2 0 (by omega)) ⟨rfl, rfl, rfl, rfl, trivial⟩
            · omega
          · intro i hi ih
            have hs : x_under X (i + 1) = x_under X i + if (xL X (200 + i)).length = 0 then 0 else 1 := rfl
            have hlk := hW.2.2.2.2.2.1 i hi
            refine J_iload_n (pc := 35) dX10_total_35 rfl rfl ?_
            refine J_bipush (pc := 36) (v := nI 24) dX10_total_36 (by decide) ?_
            refine J_icmp_geN (pc := 38) (tgt := 65) dX10_total_38 rfl (by omega) (by omega) (fun h0 => ?_) (fun h0 => ?_)
            · omega
            · cases hl : xL X (200 + i) with
              | nil =>
                rw [hl] at hs
                refine J_iload_n (pc := 41) dX10_total_41 rfl rfl ?_
                refine J_aload_n (pc := 42) dX10_total_42 rfl rfl ?_
                refine J_getr (pc := 43) (i := 3) cl8 hW.o (by decide) rfl (hW.r 3 rfl) kX10_7 dX10_total_43 ?_
                refine J_iload_n (pc := 46) dX10_total_46 rfl rfl ?_
                refine J_iald (pc := 47) (hW.a 3 rfl) rfl hi (by first | omega | exact mLn_lt _) (hlk.1 hl) dX10_total_47 ?_
                refine J_iconst (pc := 48) (v := (-1)) dX10_total_48 (by decide) ?_
                refine J_icmp_ne (pc := 49) (tgt := 56) dX10_total_49 rfl (fun hc9 => absurd (rfl) hc9) (fun _ => ?_)
                refine J_iconst (pc := 52) (v := nI 0) dX10_total_52 (by decide) ?_
                refine J_goto (pc := 53) (tgt := 57) dX10_total_53 rfl ?_
                first | refine J_iaddN (pc := 57) dX10_total_57 ?_ | refine J_iadd (pc := 57) dX10_total_57 ?_
                refine J_istore_n (pc := 58) dX10_total_58 rfl (by decide) ?_
                refine J_iinc (pc := 59) dX10_total_59 rfl (inc1 _) (by decide) ?_
                refine J_goto (pc := 62) (tgt := 35) dX10_total_62 rfl ?_
                refine J_lvk ih ⟨rfl, ?_, rfl, rfl, trivial⟩
                rw [hs]; rfl
              | cons e t =>
                rw [hl] at hs
                have ho := hI.list.1 _ e (by rw [hl]; exact List.mem_cons_self)
                refine J_iload_n (pc := 41) dX10_total_41 rfl rfl ?_
                refine J_aload_n (pc := 42) dX10_total_42 rfl rfl ?_
                refine J_getr (pc := 43) (i := 3) cl8 hW.o (by decide) rfl (hW.r 3 rfl) kX10_7 dX10_total_43 ?_
                refine J_iload_n (pc := 46) dX10_total_46 rfl rfl ?_
                refine J_iald (pc := 47) (hW.a 3 rfl) rfl hi (by first | omega | exact mLn_lt _) (hlk.2 e t hl).1 dX10_total_47 ?_
                refine J_iconst (pc := 48) (v := (-1)) dX10_total_48 (by decide) ?_
                refine J_icmp_ne (pc := 49) (tgt := 56) dX10_total_49 rfl (fun _ => ?_) (fun hc9 => absurd hc9 ((fun z => by have := (oI_m1 (o := some e.1) (fun x hx => by cases hx; have := ho.1; omega)).mp z; cases this)))
                refine J_iconst (pc := 56) (v := nI 1) dX10_total_56 (by decide) ?_
                first | refine J_iaddN (pc := 57) dX10_total_57 ?_ | refine J_iadd (pc := 57) dX10_total_57 ?_
                refine J_istore_n (pc := 58) dX10_total_58 rfl (by decide) ?_
                refine J_iinc (pc := 59) dX10_total_59 rfl (inc1 _) (by decide) ?_
                refine J_goto (pc := 62) (tgt := 35) dX10_total_62 rfl ?_
                refine J_lvk ih ⟨rfl, ?_, rfl, rfl, trivial⟩
                rw [hs, if_neg (by simp)]; rfl
        exact J_lvk (loop1 0 (by omega)) ⟨rfl, rfl, rfl, rfl, trivial⟩
      · rw [if_neg c2]
        refine J_iconst (pc := 29) (v := (-1)) dX10_total_29 (by decide) ?_
        refine J_iret (pc := 30) dX10_total_30 rfl (by omega) (by omega) ?_
        exact ⟨rfl, hW⟩
    · rw [if_pos c1]
      refine J_aload_n (pc := 19) dX10_total_19 rfl rfl ?_
      refine J_geti (pc := 20) (i := 15) cl8 hW.o (by decide) rfl hW.2.2.1.2.2.2.1 kX10_141 dX10_total_20 ?_
      refine J_iret (pc := 23) dX10_total_23 rfl (by omega) (by omega) ?_
      exact ⟨rfl, hW⟩
  · have c0 : w = nI 0 := c0
    rw [if_pos c0]
    refine J_aload_n (pc := 9) dX10_total_9 rfl rfl ?_
    refine J_geti (pc := 10) (i := 14) cl8 hW.o (by decide) rfl hW.2.2.1.2.2.1 kX10_144 dX10_total_10 ?_
    refine J_iret (pc := 13) dX10_total_13 rfl (by omega) (by omega) ?_
    exact ⟨rfl, hW⟩
set_option maxRecDepth 100000 in
theorem cm_host (l : Launch) (g : jG) (hgt : Nat) {S : jS} {b : Nat} {ad : Nat → Nat} {X : XS} (h w : Int32) (hW : WM S b ad X) (hI : xOK (yV X 32 0 0)) (hh : 2 ≤ hgt) : CT l g mX10_host hgt 0 0 [.ref b, .int h, .int w] S (mPub b ad (p_host (yV X 32 0 0) h w) (yV X 32 0 0)) := by
  refine CT_of qX10_host (Nat.le_of_ble_eq_true rfl) ?_
  show J _ _ _ _ _ _ _ 0 [(0, .ref b), (1, .int h), (2, .int w)] [] S 0 0
  refine J_aload_n (pc := 0) dX10_host_0 rfl rfl ?_
  refine J_iconst (pc := 1) (v := nI 0) dX10_host_1 (by decide) ?_
  refine J_mss (pc := 2) hW 0 32 (by decide) rfl kX10_134 dX10_host_2 (fun hW => ?_)
  generalize yV X 32 0 0 = X at hW hI
  generalize uI S 8 b 0 (nI 0) = S at hW
  have h48 := hI.many
  have fail : (h < 0 ∨ nI 8 ≤ h ∨ w < 0 ∨ nI 5 < w) → J l g mX10_host hgt 0 0 (mPub b ad (p_host X h w) X) 24 [(0, .ref b), (1, .int h), (2, .int w)] [] S 0 0 := by
    intro z
    refine J_iconst (pc := 24) (v := (-1)) dX10_host_24 (by decide) ?_
    refine J_iret (pc := 25) dX10_host_25 rfl (by omega) (by omega) ?_
    exact ⟨by rw [p_host, if_pos z], hW⟩
  refine J_iload_n (pc := 5) dX10_host_5 rfl rfl ?_
  refine J_if_lt (pc := 6) (tgt := 24) dX10_host_6 rfl (fun h1 => ?_) (fun h1 => ?_)
  · exact fail (by simp [h1])
  refine J_iload_n (pc := 9) dX10_host_9 rfl rfl ?_
  refine J_bipush (pc := 10) (v := nI 8) dX10_host_10 (by decide) ?_
  refine J_icmp_ge (pc := 12) (tgt := 24) dX10_host_12 rfl (fun h2 => ?_) (fun h2 => ?_)
  · exact fail (by simp [h2])
  refine J_iload_n (pc := 15) dX10_host_15 rfl rfl ?_
  refine J_if_lt (pc := 16) (tgt := 24) dX10_host_16 rfl (fun h3 => ?_) (fun h3 => ?_)
  · exact fail (by simp [h3])
  refine J_iload_n (pc := 19) dX10_host_19 rfl rfl ?_
  refine J_iconst (pc := 20) (v := nI 5) dX10_host_20 (by decide) ?_
  refine J_icmp_le (pc := 21) (tgt := 26) dX10_host_21 rfl (fun h4 => ?_) (fun h4 => ?_)
  · have h4 : ¬ nI 5 < w := Int32.not_lt.mpr h4
    unfold p_host
    rw [if_neg (fun z => by rcases z with z | z | z | z; (· exact h1 z); (· exact h2 z); (· exact h3 z); (· exact h4 z))]
    clear fail
    obtain ⟨h, hh8, rfl⟩ := ix_in (n := 8) (by decide) h1 h2
    obtain ⟨w, hw, rfl⟩ := ix_le (n := 5) (by decide) h3 h4
    rw [cl_nI (by omega)]
    unfold p_hostV
    have q0 := nI_eq (a := w) (b := 0) (by omega) (by decide)
    have q1 := nI_eq (a := w) (b := 1) (by omega) (by decide)
    have q2 := nI_eq (a := w) (b := 2) (by omega) (by decide)
    have q3 := nI_eq (a := w) (b := 3) (by omega) (by decide)
    have q4 := nI_eq (a := w) (b := 4) (by omega) (by decide)
    refine J_iconst (pc := 26) (v := nI 0) dX10_host_26 (by decide) ?_
    refine J_istore_n (pc := 27) dX10_host_27 rfl (by decide) ?_
    refine J_iload_n (pc := 28) dX10_host_28 rfl rfl ?_
    refine J_if_neN (pc := 29) (tgt := 119) dX10_host_29 rfl (by omega) (fun c0 => ?_) (fun c0 => ?_)
    · rw [if_neg (fun z => c0 (q0.mp z))]
      refine J_iload_n (pc := 119) dX10_host_119 rfl rfl ?_
      refine J_iconst (pc := 120) (v := nI 1) dX10_host_120 (by decide) ?_
      refine J_icmp_neN (pc := 121) (tgt := 133) dX10_host_121 rfl (by omega) (by omega) (fun c1 => ?_) (fun c1 => ?_)
      · rw [if_neg (fun z => c1 (q1.mp z))]
        refine J_iload_n (pc := 133) dX10_host_133 rfl rfl ?_
        refine J_iconst (pc := 134) (v := nI 4) dX10_host_134 (by decide) ?_
        refine J_icmp_geN (pc := 135) (tgt := 149) dX10_host_135 rfl (by omega) (by omega) (fun c2 => ?_) (fun c2 => ?_)
        · rw [if_neg (fun z => by have := q2.mp z; omega), if_neg (fun z => by have := q3.mp z; omega)]
          refine J_iload_n (pc := 149) dX10_host_149 rfl rfl ?_
          refine J_iconst (pc := 150) (v := nI 4) dX10_host_150 (by decide) ?_
          refine J_icmp_neN (pc := 151) (tgt := 163) dX10_host_151 rfl (by omega) (by omega) (fun c3 => ?_) (fun c3 => ?_)
          · rw [if_neg (fun z => c3 (q4.mp z))]
            refine J_aload_n (pc := 163) dX10_host_163 rfl rfl ?_
            refine J_getr (pc := 164) (i := 44) cl8 hW.o (by decide) rfl (hW.r 44 rfl) kX10_128 dX10_host_164 ?_
            refine J_iload_n (pc := 167) dX10_host_167 rfl rfl ?_
            refine J_mld (pc := 168) hW 30 rfl rfl (by show _ < 8; omega) dX10_host_168 ?_
            refine J_iret (pc := 169) dX10_host_169 rfl (by omega) (by omega) ?_
            exact ⟨rfl, hW⟩
          · rw [if_pos (q4.mpr c3)]
            refine J_aload_n (pc := 154) dX10_host_154 rfl rfl ?_
            refine J_getr (pc := 155) (i := 41) cl8 hW.o (by decide) rfl (hW.r 41 rfl) kX10_119 dX10_host_155 ?_
            refine J_iload_n (pc := 158) dX10_host_158 rfl rfl ?_
            refine J_mld (pc := 159) hW 27 rfl rfl (by show _ < 8; omega) dX10_host_159 ?_
            refine J_goto (pc := 160) (tgt := 169) dX10_host_160 rfl ?_
            refine J_iret (pc := 169) dX10_host_169 rfl (by omega) (by omega) ?_
            exact ⟨rfl, hW⟩
        · refine J_aload_n (pc := 138) dX10_host_138 rfl rfl ?_
          refine J_iload_n (pc := 139) dX10_host_139 rfl rfl ?_
          refine J_iload_n (pc := 140) dX10_host_140 rfl rfl ?_
          refine J_iconst (pc := 141) (v := nI 1) dX10_host_141 (by decide) ?_
          first | refine J_isubN (pc := 142) dX10_host_142 (by omega) ?_ | refine J_isub (pc := 142) dX10_host_142 ?_
          refine J_callV (pc := 143) (cm_cutoff l g (hgt - 1) hW hI hh8 (show 1 ≤ w - 1 by omega) (show w - 1 < 3 by omega) (by omega)) qX10_cutoff vX10_cutoff cl8 rfl hW.o kX10_203 dX10_host_143 rfl rfl (Nat.le_of_ble_eq_true rfl) (by omega) (by omega) (by omega) ?_
          rintro _ _ ⟨rfl, rfl⟩
          refine J_goto (pc := 146) (tgt := 169) dX10_host_146 rfl ?_
          refine J_iret (pc := 169) dX10_host_169 rfl (by omega) (by omega) ?_
          refine ⟨?_, hW⟩
          rcases (show w = 2 ∨ w = 3 by omega) with rfl | rfl
          · rw [if_pos rfl]
          · rw [if_neg (by decide), if_pos rfl]
      · rw [if_pos (q1.mpr c1)]
        refine J_aload_n (pc := 124) dX10_host_124 rfl rfl ?_
        refine J_getr (pc := 125) (i := 37) cl8 hW.o (by decide) rfl (hW.r 37 rfl) kX10_107 dX10_host_125 ?_
        refine J_iload_n (pc := 128) dX10_host_128 rfl rfl ?_
        refine J_iald (pc := 129) (hW.a 37 rfl) rfl hh8 (by first | omega | exact mLn_lt _) (hW.2.2.2.2.2.2.2 h hh8).2.1 dX10_host_129 ?_
        refine J_goto (pc := 130) (tgt := 169) dX10_host_130 rfl ?_
        refine J_iret (pc := 169) dX10_host_169 rfl (by omega) (by omega) ?_
        exact ⟨rfl, hW⟩
    · rw [if_pos (q0.mpr c0)]
      refine J_iconst (pc := 32) (v := nI 0) dX10_host_32 (by decide) ?_
      refine J_istore (pc := 33) dX10_host_33 (by decide) ?_
      have loop : ∀ i, i ≤ xV X 1 0 → J l g mX10_host hgt 0 0 (mPub b ad (nI (x_gni X h (xV X 1 0))) X) 35 [(4, .int (nI i)), (3, .int (nI (x_gni X h i))), (0, .ref b), (1, .int (nI h)), (2, .int (nI w))] [] S 0 0 := by
        refine down _ ?_ ?_
        · refine J_iload (pc := 35) dX10_host_35 rfl ?_
          refine J_aload_n (pc := 37) dX10_host_37 rfl rfl ?_
          refine J_geti (pc := 38) (i := 2) cl8 hW.o (by decide) rfl hW.2.2.1.2.1 kX10_138 dX10_host_38 ?_
          refine J_icmp_geN (pc := 41) (tgt := 117) dX10_host_41 rfl (by omega) (by omega) (fun z0 => ?_) (fun z0 => ?_)
          · refine J_iload_n (pc := 117) dX10_host_117 rfl rfl ?_
            refine J_iret (pc := 118) dX10_host_118 rfl (by omega) (by omega) ?_
            exact ⟨rfl, hW⟩
          · omega
        · intro i hi ih
          have hm1 := hI.msg (m := i) (by omega)
          have hmis : x_missing X i ≤ xV X 10 i := cnt_le _ _
          have hs : x_gni X h (i + 1) = x_gni X h i + x_gni1 X h i := rfl
          refine J_iload (pc := 35) dX10_host_35 rfl ?_
          refine J_aload_n (pc := 37) dX10_host_37 rfl rfl ?_
          refine J_geti (pc := 38) (i := 2) cl8 hW.o (by decide) rfl hW.2.2.1.2.1 kX10_138 dX10_host_38 ?_
          refine J_icmp_geN (pc := 41) (tgt := 117) dX10_host_41 rfl (by omega) (by omega) (fun z0 => ?_) (fun z0 => ?_)
          · omega
          · refine J_aload_n (pc := 44) dX10_host_44 rfl rfl ?_
            refine J_getr (pc := 45) (i := 18) cl8 hW.o (by decide) rfl (hW.r 18 rfl) kX10_50 dX10_host_45 ?_
            refine J_iload (pc := 48) dX10_host_48 rfl ?_
            refine J_mld (pc := 50) hW 10 rfl rfl (by show _ < 48; omega) dX10_host_50 ?_
            refine J_aload_n (pc := 51) dX10_host_51 rfl rfl ?_
            refine J_iload (pc := 52) dX10_host_52 rfl ?_
            refine J_callV (pc := 54) (cm_missing l g (hgt - 1) hW hm1.1.2.2.1 (show i < 48 by omega)) qX10_missing vX10_missing cl8 rfl hW.o kX10_173 dX10_host_54 rfl rfl (Nat.le_of_ble_eq_true rfl) (by omega) (by omega) (by omega) ?_
            rintro _ _ ⟨rfl, rfl⟩
            have last : ∀ v, v = x_gni1 X h i → J l g mX10_host hgt 0 0 (mPub b ad (nI (x_gni X h (xV X 1 0))) X) 109 [(5, .int (nI (xV X 10 i - x_missing X i))), (4, .int (nI i)), (3, .int (nI (x_gni X h i))), (0, .ref b), (1, .int (nI h)), (2, .int (nI w))] [.int (nI v), .int (nI (x_gni X h i))] S 0 0 := by
              intro v hv
              first | refine J_iaddN (pc := 109) dX10_host_109 ?_ | refine J_iadd (pc := 109) dX10_host_109 ?_
              refine J_istore_n (pc := 110) dX10_host_110 rfl (by decide) ?_
              refine J_iinc (pc := 111) dX10_host_111 rfl (inc1 _) (by decide) ?_
              refine J_goto (pc := 114) (tgt := 35) dX10_host_114 rfl ?_
              refine J_lvk ih ⟨rfl, ?_, rfl, rfl, rfl, trivial⟩
              rw [hs, hv]; rfl
            have zero : x_gni1 X h i = 0 → J l g mX10_host hgt 0 0 (mPub b ad (nI (x_gni X h (xV X 1 0))) X) 108 [(5, .int (nI (xV X 10 i - x_missing X i))), (4, .int (nI i)), (3, .int (nI (x_gni X h i))), (0, .ref b), (1, .int (nI h)), (2, .int (nI w))] [.int (nI (x_gni X h i))] S 0 0 := by
              intro hz
              refine J_iconst (pc := 108) (v := nI 0) dX10_host_108 (by decide) ?_
              exact last 0 hz.symm
            first | refine J_isubN (pc := 57) dX10_host_57 (by omega) ?_ | refine J_isub (pc := 57) dX10_host_57 ?_
            refine J_istore (pc := 58) dX10_host_58 (by decide) ?_
            refine J_iload_n (pc := 60) dX10_host_60 rfl rfl ?_
            refine J_aload_n (pc := 61) dX10_host_61 rfl rfl ?_
            refine J_getr (pc := 62) (i := 17) cl8 hW.o (by decide) rfl (hW.r 17 rfl) kX10_47 dX10_host_62 ?_
            refine J_iload (pc := 65) dX10_host_65 rfl ?_
            refine J_mld (pc := 67) hW 9 rfl rfl (by show _ < 48; omega) dX10_host_67 ?_
            refine J_iload_n (pc := 68) dX10_host_68 rfl rfl ?_
            refine J_icmp_neN (pc := 69) (tgt := 108) dX10_host_69 rfl (by omega) (by omega) (fun z1 => ?_) (fun z1 => ?_)
            · exact J_lvk (zero (by rw [x_gni1, if_neg (fun z => z1 z.1)])) ⟨rfl, rfl, rfl, rfl, rfl, rfl, trivial⟩
            · refine J_aload_n (pc := 72) dX10_host_72 rfl rfl ?_
              refine J_getr (pc := 73) (i := 28) cl8 hW.o (by decide) rfl (hW.r 28 rfl) kX10_80 dX10_host_73 ?_
              refine J_iload (pc := 76) dX10_host_76 rfl ?_
              refine J_mld (pc := 78) hW 19 rfl rfl (by show _ < 48; omega) dX10_host_78 ?_
              refine J_iconst (pc := 79) (v := nI 1) dX10_host_79 (by decide) ?_
              refine J_icmp_neN (pc := 80) (tgt := 108) dX10_host_80 rfl (by omega) (by omega) (fun z2 => ?_) (fun z2 => ?_)
              · exact J_lvk (zero (by rw [x_gni1, if_neg (fun z => z2 z.2)])) ⟨rfl, rfl, rfl, rfl, rfl, rfl, trivial⟩
              · refine J_aload_n (pc := 83) dX10_host_83 rfl rfl ?_
                refine J_getr (pc := 84) (i := 30) cl8 hW.o (by decide) rfl (hW.r 30 rfl) kX10_86 dX10_host_84 ?_
                refine J_iload (pc := 87) dX10_host_87 rfl ?_
                refine J_mld (pc := 89) hW 21 rfl rfl (by show _ < 48; omega) dX10_host_89 ?_
                refine J_iload (pc := 90) dX10_host_90 rfl ?_
                refine J_icmp_leN (pc := 92) (tgt := 108) dX10_host_92 rfl (by omega) (by omega) (fun z3 => ?_) (fun z3 => ?_)
                · exact J_lvk (zero (by rw [x_gni1, if_pos ⟨z1, z2⟩]; omega)) ⟨rfl, rfl, rfl, rfl, rfl, rfl, trivial⟩
                · refine J_aload_n (pc := 95) dX10_host_95 rfl rfl ?_
                  refine J_getr (pc := 96) (i := 30) cl8 hW.o (by decide) rfl (hW.r 30 rfl) kX10_86 dX10_host_96 ?_
                  refine J_iload (pc := 99) dX10_host_99 rfl ?_
                  refine J_mld (pc := 101) hW 21 rfl rfl (by show _ < 48; omega) dX10_host_101 ?_
                  refine J_iload (pc := 102) dX10_host_102 rfl ?_
                  first | refine J_isubN (pc := 104) dX10_host_104 (by omega) ?_ | refine J_isub (pc := 104) dX10_host_104 ?_
                  refine J_goto (pc := 105) (tgt := 109) dX10_host_105 rfl ?_
                  exact J_lvk (last _ (by rw [x_gni1, if_pos ⟨z1, z2⟩])) ⟨rfl, rfl, rfl, rfl, rfl, rfl, trivial⟩
      exact J_lvk (loop 0 (Nat.zero_le _)) ⟨rfl, rfl, rfl, rfl, rfl, trivial⟩
  · exact fail (by simp [Int32.not_le.mp h4])
