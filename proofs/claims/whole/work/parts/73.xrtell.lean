/-! THE CLASS: what the receiver of a message tells -/
set_option maxRecDepth 100000 in
theorem cx_recvTell (l : Launch) (g : jG) (hgt : Nat) {S : jS} {w : Nat → Nat → Nat} {hx : Nat} {X : XS} {m : Nat} (v : Int32) (hW : WX S w hx X) (hm : m < xV X 1 0) (ho : okH X m) (h19 : xV X 19 m ≤ 2) (hh : 2 ≤ hgt) : CT l g mX6_tell hgt 0 0 [.ref (w 4 m), .int v] S (jPure (.int (if v < 0 ∨ nI 6 < v then -1 else p_recV X m v)) S) := by
  unfold p_recV
  generalize hy : x_missing X m = y
  refine CT_of qX6_tell (Nat.le_of_ble_eq_true rfl) ?_
  refine J_iload_n (pc := 0) dX6_tell_0 rfl rfl ?_
  rcases pk_ix v (n := 7) (by decide) with q | q | ⟨j, hj, rfl⟩
  · refine J_tableOut (pc := 1) (tgt := 134) dX6_tell_1 ((Or.inl (by have := Int32.lt_iff_toInt_lt.mp q; exact this))) rfl ?_
    rw [if_pos (Or.inl q)]
    refine J_iconst (pc := 134) (v := (-1)) dX6_tell_134 (by decide) ?_
    refine J_iret (pc := 135) dX6_tell_135 rfl (by omega) (by omega) ?_
    exact ⟨rfl, rfl⟩
  · refine J_tableOut (pc := 1) (tgt := 134) dX6_tell_1 ((Or.inr (by have := Int32.le_iff_toInt_le.mp q; rw [nI_toInt (by decide)] at this; omega))) rfl ?_
    rw [if_pos (Or.inr (Int32.lt_of_lt_of_le (by decide) q))]
    refine J_iconst (pc := 134) (v := (-1)) dX6_tell_134 (by decide) ?_
    refine J_iret (pc := 135) dX6_tell_135 rfl (by omega) (by omega) ?_
    exact ⟨rfl, rfl⟩
  · rcases (show j = 0 ∨ j = 1 ∨ j = 2 ∨ j = 3 ∨ j = 4 ∨ j = 5 ∨ j = 6 by omega) with rfl | rfl | rfl | rfl | rfl | rfl | rfl
    · refine J_tableIn (pc := 1) (off := 43) (tgt := 44) dX6_tell_1 (by decide) (by decide) (by decide) rfl ?_
      rw [if_neg (by decide), if_pos rfl]
      refine J_aload_n (pc := 44) dX6_tell_44 rfl rfl ?_
      refine J_geti (pc := 45) (i := 2) cl4 (hW.q hm) (by decide) rfl (hW.n19 hm) kX6_11 dX6_tell_45 ?_
      refine J_iret (pc := 48) dX6_tell_48 rfl (by omega) (by omega) ?_
      exact ⟨rfl, rfl⟩
    · refine J_tableIn (pc := 1) (off := 48) (tgt := 49) dX6_tell_1 (by decide) (by decide) (by decide) rfl ?_
      rw [if_neg (by decide), if_neg (by decide), if_pos rfl]
      refine J_aload_n (pc := 49) dX6_tell_49 rfl rfl ?_
      refine J_geti (pc := 50) (i := 3) cl4 (hW.q hm) (by decide) rfl (hW.n20 hm) kX6_15 dX6_tell_50 ?_
      refine J_iret (pc := 53) dX6_tell_53 rfl (by omega) (by omega) ?_
      exact ⟨rfl, rfl⟩
    · refine J_tableIn (pc := 1) (off := 53) (tgt := 54) dX6_tell_1 (by decide) (by decide) (by decide) rfl ?_
      rw [if_neg (by decide), if_neg (by decide), if_neg (by decide)]
      refine J_aload_n (pc := 54) dX6_tell_54 rfl rfl ?_
      refine J_callV (pc := 55) (cx_isKnown l g (hgt - 1) hW hm h19) qX6_isKnown vX6_isKnown cl4 rfl (hW.q hm) kX6_56 dX6_tell_55 rfl rfl (Nat.le_of_ble_eq_true rfl) (by omega) (by omega) (by omega) ?_
      rintro _ _ ⟨rfl, rfl⟩
      refine J_if_eqB (pc := 58) (tgt := 68) dX6_tell_58 rfl (fun B => ?_) (fun B => ?_)
      · have B := of_decide_eq_false B
        rw [if_pos B]
        refine J_iconst (pc := 68) (v := nI 0) dX6_tell_68 (by decide) ?_
        refine J_iret (pc := 69) dX6_tell_69 rfl (by omega) (by omega) ?_
        exact ⟨rfl, rfl⟩
      · have B := of_decide_eq_true B
        rw [if_neg (fun z => z B), if_pos rfl]
        refine J_aload_n (pc := 61) dX6_tell_61 rfl rfl ?_
        refine J_callV (pc := 62) (cx_missing l g (hgt - 1) hW hm ho (by omega)) qX6_missing vX6_missing cl4 rfl (hW.q hm) kX6_73 dX6_tell_62 rfl rfl (Nat.le_of_ble_eq_true rfl) (by omega) (by omega) (by omega) ?_
        rintro _ _ ⟨rfl, rfl⟩
        rw [hy]
        refine J_goto (pc := 65) (tgt := 69) dX6_tell_65 rfl ?_
        refine J_iret (pc := 69) dX6_tell_69 rfl (by omega) (by omega) ?_
        exact ⟨rfl, rfl⟩
    · refine J_tableIn (pc := 1) (off := 69) (tgt := 70) dX6_tell_1 (by decide) (by decide) (by decide) rfl ?_
      rw [if_neg (by decide), if_neg (by decide), if_neg (by decide)]
      refine J_aload_n (pc := 70) dX6_tell_70 rfl rfl ?_
      refine J_callV (pc := 71) (cx_isKnown l g (hgt - 1) hW hm h19) qX6_isKnown vX6_isKnown cl4 rfl (hW.q hm) kX6_56 dX6_tell_71 rfl rfl (Nat.le_of_ble_eq_true rfl) (by omega) (by omega) (by omega) ?_
      rintro _ _ ⟨rfl, rfl⟩
      refine J_if_eqB (pc := 74) (tgt := 84) dX6_tell_74 rfl (fun B => ?_) (fun B => ?_)
      · have B := of_decide_eq_false B
        rw [if_pos B]
        refine J_iconst (pc := 84) (v := nI 0) dX6_tell_84 (by decide) ?_
        refine J_iret (pc := 85) dX6_tell_85 rfl (by omega) (by omega) ?_
        exact ⟨rfl, rfl⟩
      · have B := of_decide_eq_true B
        rw [if_neg (fun z => z B), if_neg (by decide), if_pos rfl]
        refine J_aload_n (pc := 77) dX6_tell_77 rfl rfl ?_
        refine J_geti (pc := 78) (i := 5) cl4 (hW.q hm) (by decide) rfl (hW.n21 hm) kX6_22 dX6_tell_78 ?_
        refine J_goto (pc := 81) (tgt := 85) dX6_tell_81 rfl ?_
        refine J_iret (pc := 85) dX6_tell_85 rfl (by omega) (by omega) ?_
        exact ⟨rfl, rfl⟩
    · refine J_tableIn (pc := 1) (off := 85) (tgt := 86) dX6_tell_1 (by decide) (by decide) (by decide) rfl ?_
      rw [if_neg (by decide), if_neg (by decide), if_neg (by decide)]
      refine J_aload_n (pc := 86) dX6_tell_86 rfl rfl ?_
      refine J_callV (pc := 87) (cx_isKnown l g (hgt - 1) hW hm h19) qX6_isKnown vX6_isKnown cl4 rfl (hW.q hm) kX6_56 dX6_tell_87 rfl rfl (Nat.le_of_ble_eq_true rfl) (by omega) (by omega) (by omega) ?_
      rintro _ _ ⟨rfl, rfl⟩
      refine J_if_eqB (pc := 90) (tgt := 100) dX6_tell_90 rfl (fun B => ?_) (fun B => ?_)
      · have B := of_decide_eq_false B
        rw [if_pos B]
        refine J_iconst (pc := 100) (v := nI 0) dX6_tell_100 (by decide) ?_
        refine J_iret (pc := 101) dX6_tell_101 rfl (by omega) (by omega) ?_
        exact ⟨rfl, rfl⟩
      · have B := of_decide_eq_true B
        rw [if_neg (fun z => z B), if_neg (by decide), if_neg (by decide), if_pos rfl]
        refine J_aload_n (pc := 93) dX6_tell_93 rfl rfl ?_
        refine J_geti (pc := 94) (i := 6) cl4 (hW.q hm) (by decide) rfl (hW.n22 hm) kX6_25 dX6_tell_94 ?_
        refine J_goto (pc := 97) (tgt := 101) dX6_tell_97 rfl ?_
        refine J_iret (pc := 101) dX6_tell_101 rfl (by omega) (by omega) ?_
        exact ⟨rfl, rfl⟩
    · refine J_tableIn (pc := 1) (off := 101) (tgt := 102) dX6_tell_1 (by decide) (by decide) (by decide) rfl ?_
      rw [if_neg (by decide), if_neg (by decide), if_neg (by decide)]
      refine J_aload_n (pc := 102) dX6_tell_102 rfl rfl ?_
      refine J_callV (pc := 103) (cx_isKnown l g (hgt - 1) hW hm h19) qX6_isKnown vX6_isKnown cl4 rfl (hW.q hm) kX6_56 dX6_tell_103 rfl rfl (Nat.le_of_ble_eq_true rfl) (by omega) (by omega) (by omega) ?_
      rintro _ _ ⟨rfl, rfl⟩
      refine J_if_eqB (pc := 106) (tgt := 116) dX6_tell_106 rfl (fun B => ?_) (fun B => ?_)
      · have B := of_decide_eq_false B
        rw [if_pos B]
        refine J_iconst (pc := 116) (v := nI 0) dX6_tell_116 (by decide) ?_
        refine J_iret (pc := 117) dX6_tell_117 rfl (by omega) (by omega) ?_
        exact ⟨rfl, rfl⟩
      · have B := of_decide_eq_true B
        rw [if_neg (fun z => z B), if_neg (by decide), if_neg (by decide), if_neg (by decide), if_pos rfl]
        refine J_aload_n (pc := 109) dX6_tell_109 rfl rfl ?_
        refine J_geti (pc := 110) (i := 7) cl4 (hW.q hm) (by decide) rfl (hW.n23 hm) kX6_28 dX6_tell_110 ?_
        refine J_goto (pc := 113) (tgt := 117) dX6_tell_113 rfl ?_
        refine J_iret (pc := 117) dX6_tell_117 rfl (by omega) (by omega) ?_
        exact ⟨rfl, rfl⟩
    · refine J_tableIn (pc := 1) (off := 117) (tgt := 118) dX6_tell_1 (by decide) (by decide) (by decide) rfl ?_
      rw [if_neg (by decide), if_neg (by decide), if_neg (by decide)]
      refine J_aload_n (pc := 118) dX6_tell_118 rfl rfl ?_
      refine J_callV (pc := 119) (cx_isKnown l g (hgt - 1) hW hm h19) qX6_isKnown vX6_isKnown cl4 rfl (hW.q hm) kX6_56 dX6_tell_119 rfl rfl (Nat.le_of_ble_eq_true rfl) (by omega) (by omega) (by omega) ?_
      rintro _ _ ⟨rfl, rfl⟩
      refine J_if_eqB (pc := 122) (tgt := 132) dX6_tell_122 rfl (fun B => ?_) (fun B => ?_)
      · have B := of_decide_eq_false B
        rw [if_pos B]
        refine J_iconst (pc := 132) (v := nI 0) dX6_tell_132 (by decide) ?_
        refine J_iret (pc := 133) dX6_tell_133 rfl (by omega) (by omega) ?_
        exact ⟨rfl, rfl⟩
      · have B := of_decide_eq_true B
        rw [if_neg (fun z => z B), if_neg (by decide), if_neg (by decide), if_neg (by decide), if_neg (by decide)]
        refine J_aload_n (pc := 125) dX6_tell_125 rfl rfl ?_
        refine J_geti (pc := 126) (i := 8) cl4 (hW.q hm) (by decide) rfl (hW.n24 hm) kX6_31 dX6_tell_126 ?_
        refine J_goto (pc := 129) (tgt := 133) dX6_tell_129 rfl ?_
        refine J_iret (pc := 133) dX6_tell_133 rfl (by omega) (by omega) ?_
        exact ⟨rfl, rfl⟩
