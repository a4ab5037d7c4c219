/-! THE CLASS: what the sender of a message tells -/
set_option maxRecDepth 100000 in
theorem cx_sendTell (l : Launch) (g : jG) (hgt : Nat) {S : jS} {w : Nat → Nat → Nat} {hx : Nat} {X : XS} {m : Nat} (v : Int32) (hW : WX S w hx X) (hm : m < xV X 1 0) (ho : okW X m) (hh : 2 ≤ hgt) : CT l g mX8_tell hgt 0 0 [.ref (w 6 m), .int v] S (jPure (.int (p_sentV X m v)) S) := by
  refine CT_of qX8_tell (Nat.le_of_ble_eq_true rfl) ?_
  refine J_iload_n (pc := 0) dX8_tell_0 rfl rfl ?_
  rcases pk_ix v (n := 8) (by decide) with h2 | h2 | ⟨j, hj, rfl⟩
  · refine J_tableOut (pc := 1) (tgt := 88) dX8_tell_1 ((Or.inl (by have := Int32.lt_iff_toInt_lt.mp h2; exact this))) rfl ?_
    refine J_iconst (pc := 88) (v := (-1)) dX8_tell_88 (by decide) ?_
    refine J_iret (pc := 89) dX8_tell_89 rfl (by omega) (by omega) ?_
    have : ∀ k, k < 8 → ¬ v = nI k := fun k hk e => by subst e; exact absurd h2 (nI_pos (by omega))
    refine ⟨?_, rfl⟩
    simp [p_sentV, this]
  · refine J_tableOut (pc := 1) (tgt := 88) dX8_tell_1 ((Or.inr (by have := Int32.le_iff_toInt_le.mp h2; rw [nI_toInt (by decide)] at this; omega))) rfl ?_
    refine J_iconst (pc := 88) (v := (-1)) dX8_tell_88 (by decide) ?_
    refine J_iret (pc := 89) dX8_tell_89 rfl (by omega) (by omega) ?_
    have : ∀ k, k < 8 → ¬ v = nI k := fun k hk e => by subst e; have := (nI_leI (by decide) (by omega)).mp h2; omega
    refine ⟨?_, rfl⟩
    simp [p_sentV, this]
  · rcases (show j = 0 ∨ j = 1 ∨ j = 2 ∨ j = 3 ∨ j = 4 ∨ j = 5 ∨ j = 6 ∨ j = 7 by omega) with rfl | rfl | rfl | rfl | rfl | rfl | rfl | rfl
    · refine J_tableIn (pc := 1) (off := 47) (tgt := 48) dX8_tell_1 (by decide) (by decide) (by decide) rfl ?_
      refine J_aload_n (pc := 48) dX8_tell_48 rfl rfl ?_
      refine J_geti (pc := 49) (i := 1) cl6 (hW.s hm) (by decide) rfl (hW.n12 hm) kX8_11 dX8_tell_49 ?_
      refine J_iret (pc := 52) dX8_tell_52 rfl (by omega) (by omega) ?_
      exact ⟨rfl, rfl⟩
    · refine J_tableIn (pc := 1) (off := 52) (tgt := 53) dX8_tell_1 (by decide) (by decide) (by decide) rfl ?_
      refine J_aload_n (pc := 53) dX8_tell_53 rfl rfl ?_
      refine J_geti (pc := 54) (i := 2) cl6 (hW.s hm) (by decide) rfl (hW.n13 hm) kX8_15 dX8_tell_54 ?_
      refine J_iret (pc := 57) dX8_tell_57 rfl (by omega) (by omega) ?_
      exact ⟨rfl, rfl⟩
    · refine J_tableIn (pc := 1) (off := 57) (tgt := 58) dX8_tell_1 (by decide) (by decide) (by decide) rfl ?_
      refine J_aload_n (pc := 58) dX8_tell_58 rfl rfl ?_
      refine J_geti (pc := 59) (i := 3) cl6 (hW.s hm) (by decide) rfl (hW.n14 hm) kX8_43 dX8_tell_59 ?_
      refine J_iret (pc := 62) dX8_tell_62 rfl (by omega) (by omega) ?_
      exact ⟨rfl, rfl⟩
    · refine J_tableIn (pc := 1) (off := 62) (tgt := 63) dX8_tell_1 (by decide) (by decide) (by decide) rfl ?_
      refine J_aload_n (pc := 63) dX8_tell_63 rfl rfl ?_
      refine J_callV (pc := 64) (cx_left l g (hgt - 1) hW hm ho (by omega)) qX8_left vX8_left cl6 rfl (hW.s hm) kX8_92 dX8_tell_64 rfl rfl (Nat.le_of_ble_eq_true rfl) (by omega) (by omega) (by omega) ?_
      rintro _ _ ⟨rfl, rfl⟩
      have e : p_sentV X m (nI 3) = nI (x_left X m) := by
        unfold p_sentV
        rw [if_neg (by decide), if_neg (by decide), if_neg (by decide), if_pos rfl]
      rw [e]
      generalize x_left X m = y
      refine J_iret (pc := 67) dX8_tell_67 rfl (by omega) (by omega) ?_
      exact ⟨rfl, rfl⟩
    · refine J_tableIn (pc := 1) (off := 67) (tgt := 68) dX8_tell_1 (by decide) (by decide) (by decide) rfl ?_
      refine J_aload_n (pc := 68) dX8_tell_68 rfl rfl ?_
      refine J_geti (pc := 69) (i := 6) cl6 (hW.s hm) (by decide) rfl (hW.n16 hm) kX8_25 dX8_tell_69 ?_
      refine J_iret (pc := 72) dX8_tell_72 rfl (by omega) (by omega) ?_
      exact ⟨rfl, rfl⟩
    · refine J_tableIn (pc := 1) (off := 72) (tgt := 73) dX8_tell_1 (by decide) (by decide) (by decide) rfl ?_
      refine J_aload_n (pc := 73) dX8_tell_73 rfl rfl ?_
      refine J_geti (pc := 74) (i := 7) cl6 (hW.s hm) (by decide) rfl (hW.n17 hm) kX8_28 dX8_tell_74 ?_
      refine J_iret (pc := 77) dX8_tell_77 rfl (by omega) (by omega) ?_
      exact ⟨rfl, rfl⟩
    · refine J_tableIn (pc := 1) (off := 77) (tgt := 78) dX8_tell_1 (by decide) (by decide) (by decide) rfl ?_
      refine J_aload_n (pc := 78) dX8_tell_78 rfl rfl ?_
      refine J_geti (pc := 79) (i := 4) cl6 (hW.s hm) (by decide) rfl (hW.n15 hm) kX8_18 dX8_tell_79 ?_
      refine J_iret (pc := 82) dX8_tell_82 rfl (by omega) (by omega) ?_
      exact ⟨rfl, rfl⟩
    · refine J_tableIn (pc := 1) (off := 82) (tgt := 83) dX8_tell_1 (by decide) (by decide) (by decide) rfl ?_
      refine J_aload_n (pc := 83) dX8_tell_83 rfl rfl ?_
      refine J_geti (pc := 84) (i := 8) cl6 (hW.s hm) (by decide) rfl (hW.n18 hm) kX8_31 dX8_tell_84 ?_
      refine J_iret (pc := 87) dX8_tell_87 rfl (by omega) (by omega) ?_
      exact ⟨rfl, rfl⟩
