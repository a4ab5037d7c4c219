/-! THE CLASS: what a host tells, on -/
set_option maxRecDepth 100000 in
theorem cx_hostTell (l : Launch) (g : jG) (hgt : Nat) {S : jS} {w : Nat → Nat → Nat} {hx : Nat} {X : XS} {a : Nat} (v : Int32) (hW : WX S w hx X) (ha : a < 8) (hI : xOK X) (hh : 3 ≤ hgt) : CT l g mX3_tell hgt 0 0 [.ref (w 2 a), .int v] S (jPure (.int (if v < 0 ∨ nI 5 < v then -1 else p_hostV X a v)) S) := by
  have hr : 64 + a < 72 := by omega
  obtain ⟨f, hrow, hpl⟩ := hW.row hr
  unfold p_hostV
  rw [show 96 + a = 32 + (64 + a) by omega]
  generalize hy : x_gni X a (xV X 1 0) = y
  generalize hz : (xL X (32 + (64 + a))).length = z
  generalize hk1 : x_cut X a 1 = k1
  generalize hk2 : x_cut X a 2 = k2
  refine CT_of qX3_tell (Nat.le_of_ble_eq_true rfl) ?_
  refine J_iload_n (pc := 0) dX3_tell_0 rfl rfl ?_
  rcases pk_ix v (n := 6) (by decide) with q | q | ⟨j, hj, rfl⟩
  · refine J_tableOut (pc := 1) (tgt := 79) dX3_tell_1 ((Or.inl (by have := Int32.lt_iff_toInt_lt.mp q; exact this))) rfl ?_
    rw [if_pos (Or.inl q)]
    refine J_iconst (pc := 79) (v := (-1)) dX3_tell_79 (by decide) ?_
    refine J_iret (pc := 80) dX3_tell_80 rfl (by omega) (by omega) ?_
    exact ⟨rfl, rfl⟩
  · refine J_tableOut (pc := 1) (tgt := 79) dX3_tell_1 ((Or.inr (by have := Int32.le_iff_toInt_le.mp q; rw [nI_toInt (by decide)] at this; omega))) rfl ?_
    rw [if_pos (Or.inr (Int32.lt_of_lt_of_le (by decide) q))]
    refine J_iconst (pc := 79) (v := (-1)) dX3_tell_79 (by decide) ?_
    refine J_iret (pc := 80) dX3_tell_80 rfl (by omega) (by omega) ?_
    exact ⟨rfl, rfl⟩
  · rcases (show j = 0 ∨ j = 1 ∨ j = 2 ∨ j = 3 ∨ j = 4 ∨ j = 5 by omega) with rfl | rfl | rfl | rfl | rfl | rfl
    · refine J_tableIn (pc := 1) (off := 39) (tgt := 40) dX3_tell_1 (by decide) (by decide) (by decide) rfl ?_
      rw [if_neg (by decide), if_pos rfl]
      refine J_aload_n (pc := 40) dX3_tell_40 rfl rfl ?_
      refine J_callV (pc := 41) (cx_hostGni l g (hgt - 1) hW ha hI (by omega)) qX3_grantedAndNotIn vX3_grantedAndNotIn cl2 rfl (hW.ho ha) kX3_194 dX3_tell_41 rfl rfl (Nat.le_of_ble_eq_true rfl) (by omega) (by omega) (by omega) ?_
      rintro _ _ ⟨rfl, rfl⟩
      rw [hy]
      refine J_iret (pc := 44) dX3_tell_44 rfl (by omega) (by omega) ?_
      exact ⟨rfl, rfl⟩
    · refine J_tableIn (pc := 1) (off := 44) (tgt := 45) dX3_tell_1 (by decide) (by decide) (by decide) rfl ?_
      rw [if_neg (by decide), if_neg (by decide), if_pos rfl]
      refine J_aload_n (pc := 45) dX3_tell_45 rfl rfl ?_
      refine J_getr (pc := 46) (i := 3) cl2 (hW.ho ha) (by decide) rfl (hW.hdue ha) kX3_32 dX3_tell_46 ?_
      refine J_callV (pc := 49) (c_Row_size l g (hgt - 1) hrow) qX7_size vX7_size cl5 rfl hrow.1 kX3_164 dX3_tell_49 rfl rfl (Nat.le_of_ble_eq_true rfl) (by omega) (by omega) (by omega) ?_
      rintro _ _ ⟨rfl, rfl⟩
      rw [hz]
      refine J_iret (pc := 52) dX3_tell_52 rfl (by omega) (by omega) ?_
      exact ⟨rfl, rfl⟩
    · refine J_tableIn (pc := 1) (off := 52) (tgt := 53) dX3_tell_1 (by decide) (by decide) (by decide) rfl ?_
      rw [if_neg (by decide), if_neg (by decide), if_neg (by decide), if_pos rfl]
      refine J_aload_n (pc := 53) dX3_tell_53 rfl rfl ?_
      refine J_getr (pc := 54) (i := 2) cl2 (hW.ho ha) (by decide) rfl (hW.hcut ha) kX3_23 dX3_tell_54 ?_
      refine J_callV (pc := 57) (cx_cutFirst l g (hgt - 1) hW ha) qX1_first vX1_first cl0 rfl (hW.o 0 a ha) kX3_197 dX3_tell_57 rfl rfl (Nat.le_of_ble_eq_true rfl) (by omega) (by omega) (by omega) ?_
      rintro _ _ ⟨rfl, rfl⟩
      rw [hk1]
      refine J_iret (pc := 60) dX3_tell_60 rfl (by omega) (by omega) ?_
      exact ⟨rfl, rfl⟩
    · refine J_tableIn (pc := 1) (off := 60) (tgt := 61) dX3_tell_1 (by decide) (by decide) (by decide) rfl ?_
      rw [if_neg (by decide), if_neg (by decide), if_neg (by decide), if_neg (by decide), if_pos rfl]
      refine J_aload_n (pc := 61) dX3_tell_61 rfl rfl ?_
      refine J_getr (pc := 62) (i := 2) cl2 (hW.ho ha) (by decide) rfl (hW.hcut ha) kX3_23 dX3_tell_62 ?_
      refine J_callV (pc := 65) (cx_cutSecond l g (hgt - 1) hW ha) qX1_second vX1_second cl0 rfl (hW.o 0 a ha) kX3_200 dX3_tell_65 rfl rfl (Nat.le_of_ble_eq_true rfl) (by omega) (by omega) (by omega) ?_
      rintro _ _ ⟨rfl, rfl⟩
      rw [hk2]
      refine J_iret (pc := 68) dX3_tell_68 rfl (by omega) (by omega) ?_
      exact ⟨rfl, rfl⟩
    · refine J_tableIn (pc := 1) (off := 68) (tgt := 69) dX3_tell_1 (by decide) (by decide) (by decide) rfl ?_
      rw [if_neg (by decide), if_neg (by decide), if_neg (by decide), if_neg (by decide), if_neg (by decide), if_pos rfl]
      refine J_aload_n (pc := 69) dX3_tell_69 rfl rfl ?_
      refine J_geti (pc := 70) (i := 10) cl2 (hW.ho ha) (by decide) rfl (hW.n27 ha) kX3_56 dX3_tell_70 ?_
      refine J_iret (pc := 73) dX3_tell_73 rfl (by omega) (by omega) ?_
      exact ⟨rfl, rfl⟩
    · refine J_tableIn (pc := 1) (off := 73) (tgt := 74) dX3_tell_1 (by decide) (by decide) (by decide) rfl ?_
      rw [if_neg (by decide), if_neg (by decide), if_neg (by decide), if_neg (by decide), if_neg (by decide), if_neg (by decide)]
      refine J_aload_n (pc := 74) dX3_tell_74 rfl rfl ?_
      refine J_geti (pc := 75) (i := 9) cl2 (hW.ho ha) (by decide) rfl (hW.n30 ha) kX3_53 dX3_tell_75 ?_
      refine J_iret (pc := 78) dX3_tell_78 rfl (by omega) (by omega) ?_
      exact ⟨rfl, rfl⟩
set_option maxRecDepth 100000 in
theorem cx_choice (l : Launch) (g : jG) (hgt : Nat) {S : jS} {w : Nat → Nat → Nat} {X : XS} {a : Nat} (k : Int32) (hW : WX S w 8 X) (ha : a < 8) (h28 : xV X 28 a ≤ 3) : CT l g mX3_choice hgt 0 0 [.ref (w 2 a), .int k] S (jPure (.int (if k < 0 ∨ nI (xV X 28 a) ≤ k then -1 else nI (xV X 29 (3 * a + cl k)))) S) := by
  refine CT_of qX3_choice (Nat.le_of_ble_eq_true rfl) ?_
  refine J_iload_n (pc := 0) dX3_choice_0 rfl rfl ?_
  refine J_if_lt (pc := 1) (tgt := 18) dX3_choice_1 rfl (fun B1 => ?_) (fun B1 => ?_)
  · rw [if_pos (Or.inl B1)]
    refine J_iconst (pc := 18) (v := (-1)) dX3_choice_18 (by decide) ?_
    refine J_iret (pc := 19) dX3_choice_19 rfl (by omega) (by omega) ?_
    exact ⟨rfl, rfl⟩
  · refine J_iload_n (pc := 4) dX3_choice_4 rfl rfl ?_
    refine J_iconst (pc := 5) (v := nI 3) dX3_choice_5 (by decide) ?_
    refine J_icmp_ge (pc := 6) (tgt := 18) dX3_choice_6 rfl (fun B2 => ?_) (fun B2 => ?_)
    · rw [if_pos (Or.inr (Int32.le_trans ((nI_leI (a := xV X 28 a) (b := 3) (by omega) (by decide)).mpr h28) B2))]
      refine J_iconst (pc := 18) (v := (-1)) dX3_choice_18 (by decide) ?_
      refine J_iret (pc := 19) dX3_choice_19 rfl (by omega) (by omega) ?_
      exact ⟨rfl, rfl⟩
    · obtain ⟨j, hj, rfl⟩ := ix_in (n := 3) (by decide) B1 B2
      have hc := hW.2.2.2.2.2.2.2.2.2.1 a ha (by omega) j hj
      rw [cl_nI (by omega)]
      refine J_aload_n (pc := 9) dX3_choice_9 rfl rfl ?_
      refine J_getr (pc := 10) (i := 4) cl2 (hW.ho ha) (by decide) rfl (hW.hcho ha) kX3_36 dX3_choice_10 ?_
      refine J_iload_n (pc := 13) dX3_choice_13 rfl rfl ?_
      refine J_iald (pc := 14) (hW.acho ha) rfl hj (by first | omega | exact mLn_lt _) hc dX3_choice_14 ?_
      refine J_goto (pc := 15) (tgt := 19) dX3_choice_15 rfl ?_
      refine J_iret (pc := 19) dX3_choice_19 rfl (by omega) (by omega) ?_
      refine ⟨?_, rfl⟩
      have e := nI_leI (a := xV X 28 a) (b := j) (by omega) (by omega)
      by_cases q : j < xV X 28 a
      · rw [if_pos q, if_neg (fun z => by rcases z with z | z; (· exact B1 z); (· have := e.mp z; omega))]
      · rw [if_neg q, if_pos (Or.inr (e.mpr (by omega)))]
theorem WX.nend {S : jS} {w : Nat → Nat → Nat} {hx : Nat} {X : XS} (h : WX S w hx X) {a j : Nat} (ha : a < 8) (hj : j < 64) : sI S 9 (w 9 (99 + a)) j = nI (xV X 31 (64 * a + j)) := by
  have z : sI S 9 (w 9 (99 + (64 * a + j) / 64)) ((64 * a + j) % 64) = nI (xV X 31 (64 * a + j)) := h.v 31 (64 * a + j) (show _ < 512 by omega)
  rw [show (64 * a + j) / 64 = a by omega, show (64 * a + j) % 64 = j by omega] at z
  exact z
set_option maxRecDepth 100000 in
theorem cx_latestFinished (l : Launch) (g : jG) (hgt : Nat) {S : jS} {w : Nat → Nat → Nat} {hx : Nat} {X : XS} {a : Nat} (k : Int32) (hW : WX S w hx X) (ha : a < 8) (h30 : xV X 30 a < 2 ^ 31) (hh : 1 ≤ hgt) : CT l g mX3_latestFinished hgt 0 0 [.ref (w 2 a), .int k] S (jPure (.int (if k < 0 ∨ nI 63 < k ∨ nI (xV X 30 a) ≤ k then -1 else nI (xV X 31 (64 * a + (xV X 30 a - 1 - cl k) % 64)))) S) := by
  have bad : (k < 0 ∨ nI 63 < k ∨ nI (xV X 30 a) ≤ k) → J l g mX3_latestFinished hgt 0 0 (jPure (.int (if k < 0 ∨ nI 63 < k ∨ nI (xV X 30 a) ≤ k then -1 else nI (xV X 31 (64 * a + (xV X 30 a - 1 - cl k) % 64)))) S) 22 [(0, .ref (w 2 a)), (1, .int k)] [] S 0 0 := by
    intro q
    rw [if_pos q]
    refine J_iconst (pc := 22) (v := nI 0) dX3_latestFinished_22 (by decide) ?_
    refine J_istore_n (pc := 23) dX3_latestFinished_23 rfl (by decide) ?_
    refine J_iload_n (pc := 24) dX3_latestFinished_24 rfl rfl ?_
    refine J_if_eq (pc := 25) (tgt := 49) dX3_latestFinished_25 rfl (fun _ => ?_) (fun hc9 => absurd (rfl) hc9)
    refine J_iconst (pc := 49) (v := (-1)) dX3_latestFinished_49 (by decide) ?_
    refine J_iret (pc := 50) dX3_latestFinished_50 rfl (by omega) (by omega) ?_
    exact ⟨rfl, rfl⟩
  refine CT_of qX3_latestFinished (Nat.le_of_ble_eq_true rfl) ?_
  refine J_iload_n (pc := 0) dX3_latestFinished_0 rfl rfl ?_
  refine J_if_lt (pc := 1) (tgt := 22) dX3_latestFinished_1 rfl (fun B1 => ?_) (fun B1 => ?_)
  · exact J_lvk (bad (Or.inl B1)) ⟨rfl, rfl, trivial⟩
  · refine J_iload_n (pc := 4) dX3_latestFinished_4 rfl rfl ?_
    refine J_bipush (pc := 5) (v := nI 64) dX3_latestFinished_5 (by decide) ?_
    refine J_icmp_ge (pc := 7) (tgt := 22) dX3_latestFinished_7 rfl (fun B2 => ?_) (fun B2 => ?_)
    · exact J_lvk (bad (Or.inr (Or.inl (Int32.lt_of_lt_of_le (by decide) B2)))) ⟨rfl, rfl, trivial⟩
    · obtain ⟨j, hj, rfl⟩ := ix_in (n := 64) (by decide) B1 B2
      refine J_iload_n (pc := 10) dX3_latestFinished_10 rfl rfl ?_
      refine J_aload_n (pc := 11) dX3_latestFinished_11 rfl rfl ?_
      refine J_geti (pc := 12) (i := 9) cl2 (hW.ho ha) (by decide) rfl (hW.n30 ha) kX3_53 dX3_latestFinished_12 ?_
      refine J_icmp_ge (pc := 15) (tgt := 22) dX3_latestFinished_15 rfl (fun B3 => ?_) (fun B3 => ?_)
      · exact J_lvk (bad (Or.inr (Or.inr B3))) ⟨rfl, rfl, trivial⟩
      · have e := nI_leI (a := xV X 30 a) (b := j) (by omega) (by omega)
        have hj2 : j < xV X 30 a := by
          have := (Decidable.not_iff_not.mpr e).mp B3
          omega
        rw [if_neg (by
          rintro (z | z | z)
          · exact B1 z
          · have := (nI_ltI (a := 63) (b := j) (by decide) (by omega)).mp z; omega
          · exact B3 z), cl_nI (by omega)]
        have hmod : (xV X 30 a - 1 - j) % 64 < 64 := Nat.mod_lt _ (by decide)
        refine J_iconst (pc := 18) (v := nI 1) dX3_latestFinished_18 (by decide) ?_
        refine J_goto (pc := 19) (tgt := 23) dX3_latestFinished_19 rfl ?_
        refine J_istore_n (pc := 23) dX3_latestFinished_23 rfl (by decide) ?_
        refine J_iload_n (pc := 24) dX3_latestFinished_24 rfl rfl ?_
        refine J_if_eq (pc := 25) (tgt := 49) dX3_latestFinished_25 rfl (fun hc9 => absurd hc9 ((by decide))) (fun _ => ?_)
        refine J_aload_n (pc := 28) dX3_latestFinished_28 rfl rfl ?_
        refine J_getr (pc := 29) (i := 5) cl2 (hW.ho ha) (by decide) rfl (hW.hend ha) kX3_40 dX3_latestFinished_29 ?_
        refine J_aload_n (pc := 32) dX3_latestFinished_32 rfl rfl ?_
        refine J_geti (pc := 33) (i := 9) cl2 (hW.ho ha) (by decide) rfl (hW.n30 ha) kX3_53 dX3_latestFinished_33 ?_
        refine J_iconst (pc := 36) (v := nI 1) dX3_latestFinished_36 (by decide) ?_
        refine J_isubN (b := 1) dX3_latestFinished_37 (by omega) ?_
        refine J_iload_n (pc := 38) dX3_latestFinished_38 rfl rfl ?_
        refine J_isubN dX3_latestFinished_39 (by omega) ?_
        refine J_bipush (pc := 40) (v := nI 64) dX3_latestFinished_40 (by decide) ?_
        refine J_callS (pc := 42) (cx_floorMod l g (hgt - 1) (a := xV X 30 a - 1 - j) (b := 64) (by omega) (by decide) (by decide)) qJ9_floorMod_7cf53 vJ9_floorMod_7cf53 kX3_104 dX3_latestFinished_42 rfl rfl (Nat.le_of_ble_eq_true rfl) (by omega) (by omega) (by omega) ?_
        rintro _ _ ⟨rfl, rfl⟩
        refine J_iald (pc := 45) (hW.aend ha) rfl hmod (by first | omega | exact mLn_lt _) (hW.nend ha hmod) dX3_latestFinished_45 ?_
        refine J_goto (pc := 46) (tgt := 50) dX3_latestFinished_46 rfl ?_
        refine J_iret (pc := 50) dX3_latestFinished_50 rfl (by omega) (by omega) ?_
        exact ⟨rfl, rfl⟩
