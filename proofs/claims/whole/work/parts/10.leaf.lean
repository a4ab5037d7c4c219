theorem inc1 (j : Nat) : nI j + Int32.ofInt 1 = nI (j + 1) := by rw [nI_succ]; rfl
section JX
variable {l : Launch} {g : jG} {me : jM} {hgt mc ms : Nat} {Q : Option Value → jS → Prop} {pc : Nat} {lv : List (Nat × Value)} {rest : List Value} {S : jS} {nc ns : Nat}
theorem J_lcmp {x y : Int64} (hdg : decode me.2.1 pc = .ok (.lcmp, 1)) (k : J l g me hgt mc ms Q (pc + 1) lv (.int (lg_cmp x y) :: rest) S nc ns) : J l g me hgt mc ms Q pc lv (.long y :: .long x :: rest) S nc ns := fun zA zp ze zs zm za zb zt zc zH zo zl zh zv zw => W.lcmp zh.1 zh.2.1 hdg (k zA zp ze zs zm za zb zt zc zH zo zl zh zv zw)
end JX
/-- the answer v, the memory as it was -/
abbrev jPure (v : Value) (S : jS) : Option Value → jS → Prop := fun r S' => r = some v ∧ S = S'
/-- a ring of n places at p, its object at a: first f, size s -/
def rowAt (S : jS) (a p n f s : Nat) : Prop := sAt S 5 a ∧ sP S 5 a 0 = some p ∧ sI S 5 a 1 = nI f ∧ sI S 5 a 2 = nI s ∧ aAt S 9 p n ∧ f < n ∧ s ≤ n ∧ n < 2 ^ 20
set_option maxRecDepth 100000 in
theorem c_Row_size (l : Launch) (g : jG) (hgt : Nat) {S : jS} {a p n f s : Nat} (h : rowAt S a p n f s) : CT l g mX7_size hgt 0 0 [.ref a] S (jPure (.int (nI s)) S) := by
  obtain ⟨h1, h2, h3, h4, h5, h6, h7, h8⟩ := h
  refine CT_of qX7_size (Nat.le_of_ble_eq_true rfl) ?_
  refine J_aload_n (pc := 0) dX7_size_0 rfl rfl ?_
  refine J_geti (pc := 1) (i := 2) cl5 h1 (by decide) rfl h4 kX7_13 dX7_size_1 ?_
  refine J_iret (pc := 4) dX7_size_4 rfl (by omega) (by omega) ?_
  exact ⟨rfl, rfl⟩
set_option maxRecDepth 100000 in
theorem c_Row_put (l : Launch) (g : jG) (hgt : Nat) {S : jS} {a p n f s : Nat} (x : Int32) (h : rowAt S a p n f s) : CT l g mX7_put hgt 0 0 [.ref a, .int x] S (fun r S' => if s = n then r = some (.int 0) ∧ S' = S else r = some (.int 1) ∧ S' = uI (uI S 9 p ((f + s) % n) x) 5 a 2 (nI (s + 1))) := by
  obtain ⟨h1, h2, h3, h4, h5, h6, h7, h8⟩ := h
  refine CT_of qX7_put (Nat.le_of_ble_eq_true rfl) ?_
  refine J_aload_n (pc := 0) dX7_put_0 rfl rfl ?_
  refine J_geti (pc := 1) (i := 2) cl5 h1 (by decide) rfl h4 kX7_13 dX7_put_1 ?_
  refine J_aload_n (pc := 4) dX7_put_4 rfl rfl ?_
  refine J_getr (pc := 5) (i := 0) cl5 h1 (by decide) rfl h2 kX7_16 dX7_put_5 ?_
  refine J_alenI (pc := 8) h5.1 (Or.inl rfl) (congrArg nI h5.2) dX7_put_8 ?_
  refine J_icmp_lt (pc := 9) (tgt := 14) dX7_put_9 rfl (fun hc => ?_) (fun hc => ?_)
  · have hc := (nI_ltI (by omega) (by omega)).mp hc
    refine J_aload_n (pc := 14) dX7_put_14 rfl rfl ?_
    refine J_geti (pc := 15) (i := 1) cl5 h1 (by decide) rfl h3 kX7_7 dX7_put_15 ?_
    refine J_aload_n (pc := 18) dX7_put_18 rfl rfl ?_
    refine J_geti (pc := 19) (i := 2) cl5 h1 (by decide) rfl h4 kX7_13 dX7_put_19 ?_
    first | refine J_iaddN (pc := 22) dX7_put_22 ?_ | refine J_iadd (pc := 22) dX7_put_22 ?_
    refine J_istore_n (pc := 23) dX7_put_23 rfl (by decide) ?_
    refine J_aload_n (pc := 24) dX7_put_24 rfl rfl ?_
    refine J_getr (pc := 25) (i := 0) cl5 h1 (by decide) rfl h2 kX7_16 dX7_put_25 ?_
    refine J_iload_n (pc := 28) dX7_put_28 rfl rfl ?_
    refine J_aload_n (pc := 29) dX7_put_29 rfl rfl ?_
    refine J_getr (pc := 30) (i := 0) cl5 h1 (by decide) rfl h2 kX7_16 dX7_put_30 ?_
    refine J_alenI (pc := 33) h5.1 (Or.inl rfl) (congrArg nI h5.2) dX7_put_33 ?_
    rw [nI_add]
    refine J_icmp_ge (pc := 34) (tgt := 41) dX7_put_34 rfl (fun hc => ?_) (fun hc => ?_)
    · have hc := (nI_leI (by omega) (by omega)).mp hc
      have e : (f + s) % n = f + s - n := by rw [Nat.mod_eq_sub_mod hc, Nat.mod_eq_of_lt (by omega)]
      refine J_iload_n (pc := 41) dX7_put_41 rfl rfl ?_
      refine J_aload_n (pc := 42) dX7_put_42 rfl rfl ?_
      refine J_getr (pc := 43) (i := 0) cl5 h1 (by decide) rfl h2 kX7_16 dX7_put_43 ?_
      refine J_alenI (pc := 46) h5.1 (Or.inl rfl) (congrArg nI h5.2) dX7_put_46 ?_
      first | refine J_isubN (pc := 47) dX7_put_47 (by omega) ?_ | refine J_isub (pc := 47) dX7_put_47 ?_
      refine J_top ((pk_sub hc).trans (congrArg nI e.symm)) ?_
      refine J_iload_n (pc := 48) dX7_put_48 rfl rfl ?_
      refine J_iast (pc := 49) h5 rfl (Nat.mod_lt _ (by omega)) (by first | omega | exact mLn_lt _) dX7_put_49 ?_
      refine J_aload_n (pc := 50) dX7_put_50 rfl rfl ?_
      refine J_dup (pc := 51) dX7_put_51 rfl ?_
      refine J_geti (pc := 52) (i := 2) cl5 h1 (by decide) rfl h4 kX7_13 dX7_put_52 ?_
      refine J_iconst (pc := 55) (v := nI 1) dX7_put_55 (by decide) ?_
      first | refine J_iaddN (pc := 56) dX7_put_56 ?_ | refine J_iadd (pc := 56) dX7_put_56 ?_
      rw [nI_add]
      refine J_puti (pc := 57) (i := 2) cl5 h1 (by decide) rfl rfl rfl rfl kX7_13 dX7_put_57 ?_
      refine J_iconst (pc := 60) (v := nI 1) dX7_put_60 (by decide) ?_
      refine J_zret (pc := 61) dX7_put_61 rfl rfl (by omega) (by omega) ?_
      show if s = n then _ else _
      rw [if_neg (by omega)]
      exact ⟨rfl, rfl⟩
    · have hc := (Decidable.not_iff_not.mpr (nI_leI (by omega) (by omega))).mp hc
      have e : (f + s) % n = f + s := Nat.mod_eq_of_lt (by omega)
      refine J_iload_n (pc := 37) dX7_put_37 rfl rfl ?_
      refine J_goto (pc := 38) (tgt := 48) dX7_put_38 rfl ?_
      refine J_top (congrArg nI e.symm) ?_
      refine J_iload_n (pc := 48) dX7_put_48 rfl rfl ?_
      refine J_iast (pc := 49) h5 rfl (Nat.mod_lt _ (by omega)) (by first | omega | exact mLn_lt _) dX7_put_49 ?_
      refine J_aload_n (pc := 50) dX7_put_50 rfl rfl ?_
      refine J_dup (pc := 51) dX7_put_51 rfl ?_
      refine J_geti (pc := 52) (i := 2) cl5 h1 (by decide) rfl h4 kX7_13 dX7_put_52 ?_
      refine J_iconst (pc := 55) (v := nI 1) dX7_put_55 (by decide) ?_
      first | refine J_iaddN (pc := 56) dX7_put_56 ?_ | refine J_iadd (pc := 56) dX7_put_56 ?_
      rw [nI_add]
      refine J_puti (pc := 57) (i := 2) cl5 h1 (by decide) rfl rfl rfl rfl kX7_13 dX7_put_57 ?_
      refine J_iconst (pc := 60) (v := nI 1) dX7_put_60 (by decide) ?_
      refine J_zret (pc := 61) dX7_put_61 rfl rfl (by omega) (by omega) ?_
      show if s = n then _ else _
      rw [if_neg (by omega)]
      exact ⟨rfl, rfl⟩
  · have hc := (Decidable.not_iff_not.mpr (nI_ltI (by omega) (by omega))).mp hc
    refine J_iconst (pc := 12) (v := nI 0) dX7_put_12 (by decide) ?_
    refine J_zret (pc := 13) dX7_put_13 rfl rfl (by omega) (by omega) ?_
    show if s = n then _ else _
    rw [if_pos (by omega)]
    exact ⟨rfl, rfl⟩
set_option maxRecDepth 100000 in
theorem c_Row_take (l : Launch) (g : jG) (hgt : Nat) {S : jS} {a p n f s : Nat} (h : rowAt S a p n f s) : CT l g mX7_take hgt 0 0 [.ref a] S (fun r S' => if s = 0 then r = some (.int (-1)) ∧ S' = S else r = some (.int (sI S 9 p f)) ∧ S' = uI (uI S 5 a 1 (nI ((f + 1) % n))) 5 a 2 (nI (s - 1))) := by
  obtain ⟨h1, h2, h3, h4, h5, h6, h7, h8⟩ := h
  refine CT_of qX7_take (Nat.le_of_ble_eq_true rfl) ?_
  refine J_aload_n (pc := 0) dX7_take_0 rfl rfl ?_
  refine J_geti (pc := 1) (i := 2) cl5 h1 (by decide) rfl h4 kX7_13 dX7_take_1 ?_
  refine J_if_ne (pc := 4) (tgt := 9) dX7_take_4 rfl (fun hc => ?_) (fun hc => ?_)
  · have hc : ¬ s = 0 := fun e => hc (by rw [e]; rfl)
    refine J_aload_n (pc := 9) dX7_take_9 rfl rfl ?_
    refine J_getr (pc := 10) (i := 0) cl5 h1 (by decide) rfl h2 kX7_16 dX7_take_10 ?_
    refine J_aload_n (pc := 13) dX7_take_13 rfl rfl ?_
    refine J_geti (pc := 14) (i := 1) cl5 h1 (by decide) rfl h3 kX7_7 dX7_take_14 ?_
    refine J_iald (pc := 17) h5 rfl h6 (by first | omega | exact mLn_lt _) rfl dX7_take_17 ?_
    refine J_istore_n (pc := 18) dX7_take_18 rfl (by decide) ?_
    refine J_aload_n (pc := 19) dX7_take_19 rfl rfl ?_
    refine J_aload_n (pc := 20) dX7_take_20 rfl rfl ?_
    refine J_geti (pc := 21) (i := 1) cl5 h1 (by decide) rfl h3 kX7_7 dX7_take_21 ?_
    refine J_iconst (pc := 24) (v := nI 1) dX7_take_24 (by decide) ?_
    first | refine J_iaddN (pc := 25) dX7_take_25 ?_ | refine J_iadd (pc := 25) dX7_take_25 ?_
    refine J_aload_n (pc := 26) dX7_take_26 rfl rfl ?_
    refine J_getr (pc := 27) (i := 0) cl5 h1 (by decide) rfl h2 kX7_16 dX7_take_27 ?_
    refine J_alenI (pc := 30) h5.1 (Or.inl rfl) (congrArg nI h5.2) dX7_take_30 ?_
    rw [nI_add]
    refine J_icmp_ge (pc := 31) (tgt := 43) dX7_take_31 rfl (fun hc => ?_) (fun hc => ?_)
    · have hc := (nI_leI (by omega) (by omega)).mp hc
      have e : (f + 1) % n = 0 := by rw [show f + 1 = n by omega, Nat.mod_self]
      refine J_iconst (pc := 43) (v := nI 0) dX7_take_43 (by decide) ?_
      refine J_top (congrArg nI e.symm) ?_
      refine J_puti (pc := 44) (i := 1) cl5 h1 (by decide) rfl rfl rfl rfl kX7_7 dX7_take_44 ?_
      refine J_aload_n (pc := 47) dX7_take_47 rfl rfl ?_
      refine J_dup (pc := 48) dX7_take_48 rfl ?_
      refine J_geti (pc := 49) (i := 2) cl5 h1 (by decide) rfl (sI_nk (by decide) h4) kX7_13 dX7_take_49 ?_
      refine J_iconst (pc := 52) (v := nI 1) dX7_take_52 (by decide) ?_
      first | refine J_isubN (pc := 53) dX7_take_53 (by omega) ?_ | refine J_isub (pc := 53) dX7_take_53 ?_
      refine J_top (pk_sub (by omega)) ?_
      refine J_puti (pc := 54) (i := 2) cl5 h1 (by decide) rfl rfl rfl rfl kX7_13 dX7_take_54 ?_
      refine J_iload_n (pc := 57) dX7_take_57 rfl rfl ?_
      refine J_iret (pc := 58) dX7_take_58 rfl (by omega) (by omega) ?_
      show if s = 0 then _ else _
      rw [if_neg (by omega)]
      exact ⟨rfl, rfl⟩
    · have hc := (Decidable.not_iff_not.mpr (nI_leI (by omega) (by omega))).mp hc
      have e : (f + 1) % n = f + 1 := Nat.mod_eq_of_lt (by omega)
      refine J_aload_n (pc := 34) dX7_take_34 rfl rfl ?_
      refine J_geti (pc := 35) (i := 1) cl5 h1 (by decide) rfl h3 kX7_7 dX7_take_35 ?_
      refine J_iconst (pc := 38) (v := nI 1) dX7_take_38 (by decide) ?_
      first | refine J_iaddN (pc := 39) dX7_take_39 ?_ | refine J_iadd (pc := 39) dX7_take_39 ?_
      refine J_goto (pc := 40) (tgt := 44) dX7_take_40 rfl ?_
      refine J_top ((nI_add _ _).trans (congrArg nI e.symm)) ?_
      refine J_puti (pc := 44) (i := 1) cl5 h1 (by decide) rfl rfl rfl rfl kX7_7 dX7_take_44 ?_
      refine J_aload_n (pc := 47) dX7_take_47 rfl rfl ?_
      refine J_dup (pc := 48) dX7_take_48 rfl ?_
      refine J_geti (pc := 49) (i := 2) cl5 h1 (by decide) rfl (sI_nk (by decide) h4) kX7_13 dX7_take_49 ?_
      refine J_iconst (pc := 52) (v := nI 1) dX7_take_52 (by decide) ?_
      first | refine J_isubN (pc := 53) dX7_take_53 (by omega) ?_ | refine J_isub (pc := 53) dX7_take_53 ?_
      refine J_top (pk_sub (by omega)) ?_
      refine J_puti (pc := 54) (i := 2) cl5 h1 (by decide) rfl rfl rfl rfl kX7_13 dX7_take_54 ?_
      refine J_iload_n (pc := 57) dX7_take_57 rfl rfl ?_
      refine J_iret (pc := 58) dX7_take_58 rfl (by omega) (by omega) ?_
      show if s = 0 then _ else _
      rw [if_neg (by omega)]
      exact ⟨rfl, rfl⟩
  · have hc : s = 0 := by
      have h := (nI_eq (a := s) (b := 0) (by omega) (by omega)).mp hc
      exact h
    refine J_iconst (pc := 7) (v := (-1)) dX7_take_7 (by decide) ?_
    refine J_iret (pc := 8) dX7_take_8 rfl (by omega) (by omega) ?_
    show if s = 0 then _ else _
    rw [if_pos hc]
    exact ⟨rfl, rfl⟩
