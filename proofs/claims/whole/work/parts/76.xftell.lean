/-! THE CLASS: what the links and switches tell, all together -/
set_option maxRecDepth 100000 in
theorem cx_fabTell (l : Launch) (g : jG) (hgt : Nat) {S : jS} {w : Nat → Nat → Nat} {hx : Nat} {X : XS} (v : Int32) (hW : WX S w hx X) (hI : xOK X) (hh : 2 ≤ hgt) : CT l g mX2_tell hgt 0 0 [.ref (w 1 0), .int v] S (jPure (.int (p_total X v)) S) := by
  unfold p_total
  generalize hy : x_under X 24 + x_wait X 64 = y
  refine CT_of qX2_tell (Nat.le_of_ble_eq_true rfl) ?_
  refine J_iload_n (pc := 0) dX2_tell_0 rfl rfl ?_
  rcases pk_ix v (n := 3) (by decide) with q | q | ⟨j, hj, rfl⟩
  · refine J_tableOut (pc := 1) (tgt := 43) dX2_tell_1 ((Or.inl (by have := Int32.lt_iff_toInt_lt.mp q; exact this))) rfl ?_
    have z : ∀ k, k < 3 → ¬ v = nI k := fun k hk e => by subst e; exact absurd q (nI_pos (by omega))
    rw [if_neg (z 0 (by decide)), if_neg (z 1 (by decide)), if_neg (z 2 (by decide))]
    refine J_iconst (pc := 43) (v := (-1)) dX2_tell_43 (by decide) ?_
    refine J_iret (pc := 44) dX2_tell_44 rfl (by omega) (by omega) ?_
    exact ⟨rfl, rfl⟩
  · refine J_tableOut (pc := 1) (tgt := 43) dX2_tell_1 ((Or.inr (by have := Int32.le_iff_toInt_le.mp q; rw [nI_toInt (by decide)] at this; omega))) rfl ?_
    have z : ∀ k, k < 3 → ¬ v = nI k := fun k hk e => by subst e; have := (nI_leI (by decide) (by omega)).mp q; omega
    rw [if_neg (z 0 (by decide)), if_neg (z 1 (by decide)), if_neg (z 2 (by decide))]
    refine J_iconst (pc := 43) (v := (-1)) dX2_tell_43 (by decide) ?_
    refine J_iret (pc := 44) dX2_tell_44 rfl (by omega) (by omega) ?_
    exact ⟨rfl, rfl⟩
  · rcases (show j = 0 ∨ j = 1 ∨ j = 2 by omega) with rfl | rfl | rfl
    · refine J_tableIn (pc := 1) (off := 27) (tgt := 28) dX2_tell_1 (by decide) (by decide) (by decide) rfl ?_
      rw [if_pos rfl]
      refine J_aload_n (pc := 28) dX2_tell_28 rfl rfl ?_
      refine J_geti (pc := 29) (i := 5) cl1 hW.fo (by decide) rfl hW.t2 kX2_31 dX2_tell_29 ?_
      refine J_iret (pc := 32) dX2_tell_32 rfl (by omega) (by omega) ?_
      exact ⟨rfl, rfl⟩
    · refine J_tableIn (pc := 1) (off := 32) (tgt := 33) dX2_tell_1 (by decide) (by decide) (by decide) rfl ?_
      rw [if_neg (by decide), if_pos rfl]
      refine J_aload_n (pc := 33) dX2_tell_33 rfl rfl ?_
      refine J_geti (pc := 34) (i := 6) cl1 hW.fo (by decide) rfl hW.t3 kX2_35 dX2_tell_34 ?_
      refine J_iret (pc := 37) dX2_tell_37 rfl (by omega) (by omega) ?_
      exact ⟨rfl, rfl⟩
    · refine J_tableIn (pc := 1) (off := 37) (tgt := 38) dX2_tell_1 (by decide) (by decide) (by decide) rfl ?_
      rw [if_neg (by decide), if_neg (by decide), if_pos rfl]
      refine J_aload_n (pc := 38) dX2_tell_38 rfl rfl ?_
      refine J_callV (pc := 39) (cx_underWay l g (hgt - 1) hW hI (by omega)) qX2_underWay vX2_underWay cl1 rfl hW.fo kX2_117 dX2_tell_39 rfl rfl (Nat.le_of_ble_eq_true rfl) (by omega) (by omega) (by omega) ?_
      rintro _ _ ⟨rfl, rfl⟩
      rw [hy]
      refine J_iret (pc := 42) dX2_tell_42 rfl (by omega) (by omega) ?_
      exact ⟨rfl, rfl⟩
