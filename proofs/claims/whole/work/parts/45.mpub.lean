abbrev mPub (b : Nat) (ad : Nat → Nat) (v : Int32) (X : XS) : Option Value → jS → Prop := fun r S' => r = some (.int v) ∧ WM S' b ad X
theorem ix_in {x : Int32} {n : Nat} (hn : n < 2 ^ 31) (h0 : ¬ x < 0) (h1 : ¬ nI n ≤ x) : ∃ j, j < n ∧ x = nI j := by
  rcases pk_ix x hn with h | h | h
  · exact absurd h h0
  · exact absurd h h1
  · exact h
theorem ix_le {x : Int32} {n : Nat} (hn : n < 2 ^ 30) (h0 : ¬ x < 0) (h1 : ¬ nI n < x) : ∃ j, j ≤ n ∧ x = nI j := by
  obtain ⟨j, hj, e⟩ := nI_of h0
  subst e
  refine ⟨j, ?_, rfl⟩
  have := (Decidable.not_iff_not.mpr (nI_ltI (a := n) (b := j) (by omega) hj)).mp h1
  omega
set_option maxRecDepth 100000 in
theorem cm_message (l : Launch) (g : jG) (hgt : Nat) {S : jS} {b : Nat} {ad : Nat → Nat} {X : XS} (x y n m : Int32) (hW : WM S b ad X) (hI : xV X 1 0 ≤ 48) : CT l g mX10_message hgt 0 0 [.ref b, .int x, .int y, .int n, .int m] S (mPub b ad (p_message (yV X 32 0 0) x y n m).1 (p_message (yV X 32 0 0) x y n m).2) := by
  refine CT_of qX10_message (Nat.le_of_ble_eq_true rfl) ?_
  show J _ _ _ _ _ _ _ 0 [(0, .ref b), (1, .int x), (2, .int y), (3, .int n), (4, .int m)] [] S 0 0
  refine J_aload_n (pc := 0) dX10_message_0 rfl rfl ?_
  refine J_iconst (pc := 1) (v := nI 0) dX10_message_1 (by decide) ?_
  refine J_mss (pc := 2) hW 0 32 (by decide) rfl kX10_134 dX10_message_2 (fun hW => ?_)
  have e1 : xV (yV X 32 0 0) 1 = xV X 1 := xV_nf (by decide)
  rw [← congrFun e1 0] at hI
  generalize yV X 32 0 0 = X at hW hI
  clear e1
  generalize uI S 8 b 0 (nI 0) = S at hW
  have fail : (x < 0 ∨ nI 8 ≤ x ∨ y < 0 ∨ nI 8 ≤ y ∨ x = y ∨ n < nI 1 ∨ nI 60 < n ∨ m < 0 ∨ nI 1 < m ∨ xV X 1 0 = 48) → J l g mX10_message hgt 0 0 (mPub b ad (p_message X x y n m).1 (p_message X x y n m).2) 61 [(0, .ref b), (1, .int x), (2, .int y), (3, .int n), (4, .int m)] [] S 0 0 := by
    intro z
    refine J_iconst (pc := 61) (v := (-1)) dX10_message_61 (by decide) ?_
    refine J_iret (pc := 62) dX10_message_62 rfl (by omega) (by omega) ?_
    unfold p_message
    rw [if_pos z]
    exact ⟨rfl, hW⟩
  refine J_iload_n (pc := 5) dX10_message_5 rfl rfl ?_
  refine J_if_lt (pc := 6) (tgt := 61) dX10_message_6 rfl (fun h1 => ?_) (fun h1 => ?_)
  · exact fail (by simp [h1])
  refine J_iload_n (pc := 9) dX10_message_9 rfl rfl ?_
  refine J_bipush (pc := 10) (v := nI 8) dX10_message_10 (by decide) ?_
  refine J_icmp_ge (pc := 12) (tgt := 61) dX10_message_12 rfl (fun h2 => ?_) (fun h2 => ?_)
  · exact fail (by simp [h2])
  refine J_iload_n (pc := 15) dX10_message_15 rfl rfl ?_
  refine J_if_lt (pc := 16) (tgt := 61) dX10_message_16 rfl (fun h3 => ?_) (fun h3 => ?_)
  · exact fail (by simp [h3])
  refine J_iload_n (pc := 19) dX10_message_19 rfl rfl ?_
  refine J_bipush (pc := 20) (v := nI 8) dX10_message_20 (by decide) ?_
  refine J_icmp_ge (pc := 22) (tgt := 61) dX10_message_22 rfl (fun h4 => ?_) (fun h4 => ?_)
  · exact fail (by simp [h4])
  refine J_iload_n (pc := 25) dX10_message_25 rfl rfl ?_
  refine J_iload_n (pc := 26) dX10_message_26 rfl rfl ?_
  refine J_icmp_eq (pc := 27) (tgt := 61) dX10_message_27 rfl (fun h5 => ?_) (fun h5 => ?_)
  · exact fail (by simp [h5])
  refine J_iload_n (pc := 30) dX10_message_30 rfl rfl ?_
  refine J_iconst (pc := 31) (v := nI 1) dX10_message_31 (by decide) ?_
  refine J_icmp_lt (pc := 32) (tgt := 61) dX10_message_32 rfl (fun h6 => ?_) (fun h6 => ?_)
  · exact fail (by simp [h6])
  refine J_iload_n (pc := 35) dX10_message_35 rfl rfl ?_
  refine J_bipush (pc := 36) (v := nI 60) dX10_message_36 (by decide) ?_
  refine J_icmp_gt (pc := 38) (tgt := 61) dX10_message_38 rfl (fun h7 => ?_) (fun h7 => ?_)
  · exact fail (by simp [h7])
  refine J_iload (pc := 41) dX10_message_41 rfl ?_
  refine J_if_lt (pc := 43) (tgt := 61) dX10_message_43 rfl (fun h8 => ?_) (fun h8 => ?_)
  · exact fail (by simp [h8])
  refine J_iload (pc := 46) dX10_message_46 rfl ?_
  refine J_iconst (pc := 48) (v := nI 1) dX10_message_48 (by decide) ?_
  refine J_icmp_gt (pc := 49) (tgt := 61) dX10_message_49 rfl (fun h9 => ?_) (fun h9 => ?_)
  · exact fail (by simp [h9])
  refine J_aload_n (pc := 52) dX10_message_52 rfl rfl ?_
  refine J_geti (pc := 53) (i := 2) cl8 hW.o (by decide) rfl hW.2.2.1.2.1 kX10_138 dX10_message_53 ?_
  refine J_bipush (pc := 56) (v := nI 48) dX10_message_56 (by decide) ?_
  refine J_icmp_neN (pc := 58) (tgt := 63) dX10_message_58 rfl (by omega) (by omega) (fun h10 => ?_) (fun h10 => ?_)
  · have z : ¬ (x < 0 ∨ nI 8 ≤ x ∨ y < 0 ∨ nI 8 ≤ y ∨ x = y ∨ n < nI 1 ∨ nI 60 < n ∨ m < 0 ∨ nI 1 < m ∨ xV X 1 0 = 48) := by
      simp [h1, h2, h3, h4, h5, h6, h7, h8, h9, h10]
    have hn0 : ¬ n < 0 := fun w => h6 (Int32.lt_trans w (by decide))
    unfold p_message
    rw [if_neg z]
    obtain ⟨x, hx, rfl⟩ := ix_in (n := 8) (by decide) h1 h2
    obtain ⟨y, hy, rfl⟩ := ix_in (n := 8) (by decide) h3 h4
    obtain ⟨n, hn, rfl⟩ := ix_le (n := 60) (by decide) hn0 h7
    obtain ⟨m, hm, rfl⟩ := ix_le (n := 1) (by decide) h8 h9
    rw [cl_nI (by omega), cl_nI (by omega), cl_nI (by omega), cl_nI (by omega)]
    unfold x_begin
    refine J_aload_n (pc := 63) dX10_message_63 rfl rfl ?_
    refine J_geti (pc := 64) (i := 2) cl8 hW.o (by decide) rfl hW.2.2.1.2.1 kX10_138 dX10_message_64 ?_
    refine J_istore (pc := 67) dX10_message_67 (by decide) ?_
    refine J_aload_n (pc := 69) dX10_message_69 rfl rfl ?_
    refine J_dup (pc := 70) dX10_message_70 rfl ?_
    refine J_geti (pc := 71) (i := 2) cl8 hW.o (by decide) rfl hW.2.2.1.2.1 kX10_138 dX10_message_71 ?_
    refine J_iconst (pc := 74) (v := nI 1) dX10_message_74 (by decide) ?_
    first | refine J_iaddN (pc := 75) dX10_message_75 ?_ | refine J_iadd (pc := 75) dX10_message_75 ?_
    refine J_mss (pc := 76) hW 2 1 (by decide) rfl kX10_138 dX10_message_76 (fun hW => ?_)
    refine J_aload_n (pc := 79) dX10_message_79 rfl rfl ?_
    refine J_getr (pc := 80) (i := 16) cl8 hW.o (by decide) rfl (hW.r 16 rfl) kX10_44 dX10_message_80 ?_
    refine J_iload (pc := 83) dX10_message_83 rfl ?_
    refine J_iload_n (pc := 85) dX10_message_85 rfl rfl ?_
    refine J_mst (pc := 86) hW 8 rfl rfl (by show _ < 48; omega) rfl dX10_message_86 (fun hW => ?_)
    refine J_aload_n (pc := 87) dX10_message_87 rfl rfl ?_
    refine J_getr (pc := 88) (i := 17) cl8 hW.o (by decide) rfl (hW.r 17 rfl) kX10_47 dX10_message_88 ?_
    refine J_iload (pc := 91) dX10_message_91 rfl ?_
    refine J_iload_n (pc := 93) dX10_message_93 rfl rfl ?_
    refine J_mst (pc := 94) hW 9 rfl rfl (by show _ < 48; omega) rfl dX10_message_94 (fun hW => ?_)
    refine J_aload_n (pc := 95) dX10_message_95 rfl rfl ?_
    refine J_getr (pc := 96) (i := 18) cl8 hW.o (by decide) rfl (hW.r 18 rfl) kX10_50 dX10_message_96 ?_
    refine J_iload (pc := 99) dX10_message_99 rfl ?_
    refine J_iload_n (pc := 101) dX10_message_101 rfl rfl ?_
    refine J_mst (pc := 102) hW 10 rfl rfl (by show _ < 48; omega) rfl dX10_message_102 (fun hW => ?_)
    refine J_aload_n (pc := 103) dX10_message_103 rfl rfl ?_
    refine J_getr (pc := 104) (i := 19) cl8 hW.o (by decide) rfl (hW.r 19 rfl) kX10_53 dX10_message_104 ?_
    refine J_iload (pc := 107) dX10_message_107 rfl ?_
    refine J_iload (pc := 109) dX10_message_109 rfl ?_
    refine J_mst (pc := 111) hW 11 rfl rfl (by show _ < 48; omega) rfl dX10_message_111 (fun hW => ?_)
    refine J_aload_n (pc := 112) dX10_message_112 rfl rfl ?_
    refine J_getr (pc := 113) (i := 22) cl8 hW.o (by decide) rfl (hW.r 22 rfl) kX10_62 dX10_message_113 ?_
    refine J_iload (pc := 116) dX10_message_116 rfl ?_
    refine J_iload_n (pc := 118) dX10_message_118 rfl rfl ?_
    refine J_iconst (pc := 119) (v := nI 4) dX10_message_119 (by decide) ?_
    refine J_icmp_geN (pc := 120) (tgt := 127) dX10_message_120 rfl (by omega) (by omega) (fun h11 => ?_) (fun h11 => ?_)
    · refine J_iconst (pc := 127) (v := nI 4) dX10_message_127 (by decide) ?_
      refine J_mst (pc := 128) hW 14 rfl rfl (by show _ < 48; omega) rfl dX10_message_128 (fun hW => ?_)
      refine J_aload_n (pc := 129) dX10_message_129 rfl rfl ?_
      refine J_getr (pc := 130) (i := 23) cl8 hW.o (by decide) rfl (hW.r 23 rfl) kX10_65 dX10_message_130 ?_
      refine J_iload (pc := 133) dX10_message_133 rfl ?_
      refine J_iconst (pc := 135) (v := nI 3) dX10_message_135 (by decide) ?_
      refine J_mst (pc := 136) hW 15 rfl rfl (by show _ < 48; omega) rfl dX10_message_136 (fun hW => ?_)
      refine J_iload (pc := 137) dX10_message_137 rfl ?_
      refine J_iret (pc := 139) dX10_message_139 rfl (by omega) (by omega) ?_
      exact ⟨rfl, by rw [if_neg (by omega)]; exact hW⟩
    · refine J_iload_n (pc := 123) dX10_message_123 rfl rfl ?_
      refine J_goto (pc := 124) (tgt := 128) dX10_message_124 rfl ?_
      refine J_mst (pc := 128) hW 14 rfl rfl (by show _ < 48; omega) rfl dX10_message_128 (fun hW => ?_)
      refine J_aload_n (pc := 129) dX10_message_129 rfl rfl ?_
      refine J_getr (pc := 130) (i := 23) cl8 hW.o (by decide) rfl (hW.r 23 rfl) kX10_65 dX10_message_130 ?_
      refine J_iload (pc := 133) dX10_message_133 rfl ?_
      refine J_iconst (pc := 135) (v := nI 3) dX10_message_135 (by decide) ?_
      refine J_mst (pc := 136) hW 15 rfl rfl (by show _ < 48; omega) rfl dX10_message_136 (fun hW => ?_)
      refine J_iload (pc := 137) dX10_message_137 rfl ?_
      refine J_iret (pc := 139) dX10_message_139 rfl (by omega) (by omega) ?_
      exact ⟨rfl, by rw [if_pos (by omega)]; exact hW⟩
  · exact fail (by simp [h10])
set_option maxRecDepth 100000 in
theorem cm_lose (l : Launch) (g : jG) (hgt : Nat) {S : jS} {b : Nat} {ad : Nat → Nat} {X : XS} (k c : Int32) (hW : WM S b ad X) : CT l g mX10_lose hgt 0 0 [.ref b, .int k, .int c] S (mPub b ad (p_lose (yV X 32 0 0) k c).1 (p_lose (yV X 32 0 0) k c).2) := by
  refine CT_of qX10_lose (Nat.le_of_ble_eq_true rfl) ?_
  show J _ _ _ _ _ _ _ 0 [(0, .ref b), (1, .int k), (2, .int c)] [] S 0 0
  refine J_aload_n (pc := 0) dX10_lose_0 rfl rfl ?_
  refine J_iconst (pc := 1) (v := nI 0) dX10_lose_1 (by decide) ?_
  refine J_mss (pc := 2) hW 0 32 (by decide) rfl kX10_134 dX10_lose_2 (fun hW => ?_)
  generalize yV X 32 0 0 = X at hW
  generalize uI S 8 b 0 (nI 0) = S at hW
  have fail : (k < 0 ∨ nI 24 ≤ k ∨ c < 0 ∨ nI 100 < c) → J l g mX10_lose hgt 0 0 (mPub b ad (p_lose X k c).1 (p_lose X k c).2) 25 [(0, .ref b), (1, .int k), (2, .int c)] [] S 0 0 := by
    intro z
    refine J_iconst (pc := 25) (v := nI 0) dX10_lose_25 (by decide) ?_
    refine J_zret (pc := 26) dX10_lose_26 rfl rfl (by omega) (by omega) ?_
    unfold p_lose
    rw [if_pos z]
    exact ⟨rfl, hW⟩
  refine J_iload_n (pc := 5) dX10_lose_5 rfl rfl ?_
  refine J_if_lt (pc := 6) (tgt := 25) dX10_lose_6 rfl (fun h1 => ?_) (fun h1 => ?_)
  · exact fail (by simp [h1])
  refine J_iload_n (pc := 9) dX10_lose_9 rfl rfl ?_
  refine J_bipush (pc := 10) (v := nI 24) dX10_lose_10 (by decide) ?_
  refine J_icmp_ge (pc := 12) (tgt := 25) dX10_lose_12 rfl (fun h2 => ?_) (fun h2 => ?_)
  · exact fail (by simp [h2])
  refine J_iload_n (pc := 15) dX10_lose_15 rfl rfl ?_
  refine J_if_lt (pc := 16) (tgt := 25) dX10_lose_16 rfl (fun h3 => ?_) (fun h3 => ?_)
  · exact fail (by simp [h3])
  refine J_iload_n (pc := 19) dX10_lose_19 rfl rfl ?_
  refine J_bipush (pc := 20) (v := nI 100) dX10_lose_20 (by decide) ?_
  refine J_icmp_le (pc := 22) (tgt := 27) dX10_lose_22 rfl (fun h4 => ?_) (fun h4 => ?_)
  · have h4 : ¬ nI 100 < c := Int32.not_lt.mpr h4
    unfold p_lose
    rw [if_neg (by simp [h1, h2, h3, h4])]
    obtain ⟨k, hk, rfl⟩ := ix_in (n := 24) (by decide) h1 h2
    obtain ⟨c, hc, rfl⟩ := ix_le (n := 100) (by decide) h3 h4
    rw [cl_nI (by omega), cl_nI (by omega)]
    refine J_aload_n (pc := 27) dX10_lose_27 rfl rfl ?_
    refine J_getr (pc := 28) (i := 7) cl8 hW.o (by decide) rfl (hW.r 7 rfl) kX10_22 dX10_lose_28 ?_
    refine J_iload_n (pc := 31) dX10_lose_31 rfl rfl ?_
    refine J_iload_n (pc := 32) dX10_lose_32 rfl rfl ?_
    refine J_mst (pc := 33) hW 4 rfl rfl (by show _ < 24; omega) rfl dX10_lose_33 (fun hW => ?_)
    refine J_iconst (pc := 34) (v := nI 1) dX10_lose_34 (by decide) ?_
    refine J_zret (pc := 35) dX10_lose_35 rfl rfl (by omega) (by omega) ?_
    exact ⟨rfl, hW⟩
  · exact fail (by simp [Int32.not_le.mp h4])
theorem WM.wO {S : jS} {b : Nat} {ad : Nat → Nat} {X : XS} (h : WM S b ad X) (s v : Nat) : WM (uI S 10 (ad 12) s (nI v)) b ad (yV X 6 s v) := by
  have n1 := h.ne (k := 27) (k' := 12) rfl rfl (by decide)
  have n2 := h.ne (k := 35) (k' := 12) rfl rfl (by decide)
  refine ⟨h.1, fun f' hf' j hj => ?_, ?_, ?_, ?_, ?_, ?_, ?_⟩
  · rw [xV_nf (fun e => by subst e; revert hf'; decide)]
    exact sI_nc (by decide) (h.2.1 f' hf' j hj)
  · obtain ⟨s1, s2, s3, s4, s5⟩ := h.2.2.1
    unfold mSca
    rw [xV_nf (by decide), xV_nf (by decide), xV_nf (by decide), xV_nf (by decide), xV_nf (by decide)]
    exact ⟨sI_nc (by decide) s1, sI_nc (by decide) s2, sI_nc (by decide) s3, sI_nc (by decide) s4, sI_nc (by decide) s5⟩
  · intro s' hs'
    rw [xV_yV, sI_uI]
    by_cases e : s' = s
    · simp [e]
    · simp only [e, and_false, if_false]
      exact h.2.2.2.1 s' hs'
  · intro m hm i hi
    exact ⟨sI_na n1 (h.2.2.2.2.1 m hm i hi).1, sI_na n2 (h.2.2.2.2.1 m hm i hi).2⟩
  · intro k' hk'
    have := h.2.2.2.2.2.1 k' hk'
    exact ⟨fun e => sI_nc (by decide) (this.1 e), fun e t he => ⟨sI_nc (by decide) (this.2 e t he).1, sI_nc (by decide) (this.2 e t he).2.1, sI_nc (by decide) (this.2 e t he).2.2⟩⟩
  · intro q hq
    have := h.2.2.2.2.2.2.1 q hq
    exact ⟨this.1, sI_nc (by decide) this.2.1, fun j e he => ⟨sI_nc (by decide) (this.2.2 j e he).1, sI_nc (by decide) (this.2.2 j e he).2.1, sI_nc (by decide) (this.2.2 j e he).2.2⟩⟩
  · intro q hq
    have := h.2.2.2.2.2.2.2 q hq
    exact ⟨this.1, sI_nc (by decide) this.2.1, fun j e he => ⟨sI_nc (by decide) (this.2.2 j e he).1, sI_nc (by decide) (this.2.2 j e he).2.1, sI_nc (by decide) (this.2.2 j e he).2.2⟩⟩
set_option maxRecDepth 100000 in
theorem cm_spine (l : Launch) (g : jG) (hgt : Nat) {S : jS} {b : Nat} {ad : Nat → Nat} {X : XS} (s on : Int32) (hW : WM S b ad X) : CT l g mX10_spine hgt 0 0 [.ref b, .int s, .int on] S (mPub b ad (p_spine (yV X 32 0 0) s on).1 (p_spine (yV X 32 0 0) s on).2) := by
  refine CT_of qX10_spine (Nat.le_of_ble_eq_true rfl) ?_
  show J _ _ _ _ _ _ _ 0 [(0, .ref b), (1, .int s), (2, .int on)] [] S 0 0
  refine J_aload_n (pc := 0) dX10_spine_0 rfl rfl ?_
  refine J_iconst (pc := 1) (v := nI 0) dX10_spine_1 (by decide) ?_
  refine J_mss (pc := 2) hW 0 32 (by decide) rfl kX10_134 dX10_spine_2 (fun hW => ?_)
  generalize yV X 32 0 0 = X at hW
  generalize uI S 8 b 0 (nI 0) = S at hW
  have ok : ∀ s', s' < 2 → s = nI s' → J l g mX10_spine hgt 0 0 (mPub b ad (p_spine X s on).1 (p_spine X s on).2) 16 [(0, .ref b), (1, .int s), (2, .int on)] [] S 0 0 := by
    intro s' hs e
    subst e
    unfold p_spine
    rw [if_neg (fun z => by rcases (show s' = 0 ∨ s' = 1 by omega) with rfl | rfl; (· exact z.1 rfl); (· exact z.2 rfl)), cl_nI (by omega)]
    refine J_aload_n (pc := 16) dX10_spine_16 rfl rfl ?_
    refine J_getr (pc := 17) (i := 12) cl8 hW.o (by decide) rfl (hW.r 12 rfl) kX10_37 dX10_spine_17 ?_
    refine J_iload_n (pc := 20) dX10_spine_20 rfl rfl ?_
    refine J_iload_n (pc := 21) dX10_spine_21 rfl rfl ?_
    refine J_if_ne (pc := 22) (tgt := 29) dX10_spine_22 rfl (fun h1 => ?_) (fun h1 => ?_)
    · rw [if_neg h1]
      refine J_iconst (pc := 29) (v := nI 0) dX10_spine_29 (by decide) ?_
      refine J_zast (pc := 30) (hW.a 12 rfl) rfl hs (by first | omega | exact mLn_lt _) rfl dX10_spine_30 ?_
      have hW := hW.wO s' 0
      refine J_iconst (pc := 31) (v := nI 1) dX10_spine_31 (by decide) ?_
      refine J_zret (pc := 32) dX10_spine_32 rfl rfl (by omega) (by omega) ?_
      exact ⟨rfl, hW⟩
    · rw [if_pos h1]
      refine J_iconst (pc := 25) (v := nI 1) dX10_spine_25 (by decide) ?_
      refine J_goto (pc := 26) (tgt := 30) dX10_spine_26 rfl ?_
      refine J_zast (pc := 30) (hW.a 12 rfl) rfl hs (by first | omega | exact mLn_lt _) rfl dX10_spine_30 ?_
      have hW := hW.wO s' 1
      refine J_iconst (pc := 31) (v := nI 1) dX10_spine_31 (by decide) ?_
      refine J_zret (pc := 32) dX10_spine_32 rfl rfl (by omega) (by omega) ?_
      exact ⟨rfl, hW⟩
  refine J_iload_n (pc := 5) dX10_spine_5 rfl rfl ?_
  refine J_if_eq (pc := 6) (tgt := 16) dX10_spine_6 rfl (fun h1 => ?_) (fun h1 => ?_)
  · exact ok 0 (by decide) h1
  · refine J_iload_n (pc := 9) dX10_spine_9 rfl rfl ?_
    refine J_iconst (pc := 10) (v := nI 1) dX10_spine_10 (by decide) ?_
    refine J_icmp_eq (pc := 11) (tgt := 16) dX10_spine_11 rfl (fun h2 => ?_) (fun h2 => ?_)
    · exact ok 1 (by decide) h2
    · refine J_iconst (pc := 14) (v := nI 0) dX10_spine_14 (by decide) ?_
      refine J_zret (pc := 15) dX10_spine_15 rfl rfl (by omega) (by omega) ?_
      unfold p_spine
      rw [if_pos ⟨h1, h2⟩]
      exact ⟨rfl, hW⟩
