set_option maxRecDepth 100000 in
theorem cm_rankOf (l : Launch) (g : jG) (hgt : Nat) {S : jS} {b : Nat} {ad : Nat → Nat} {X : XS} {h f x : Nat} (hW : WM S b ad X) (hI : xOK X) (hh8 : h < 8) (hf : f ≤ xV X 1 0) (hx : x < 48) : CT l g mX10_rankOf hgt 0 0 [.ref b, .int (nI h), .int (nI f), .int (nI x)] S (jPure (.int (nI (cnt (x_rank X h f x) (xV X 1 0)))) S) := by
  have h48 := hI.many
  have hx1 := (hI.msg hx).1
  refine CT_of qX10_rankOf (Nat.le_of_ble_eq_true rfl) ?_
  refine J_iconst (pc := 0) (v := nI 0) dX10_rankOf_0 (by decide) ?_
  refine J_istore (pc := 1) dX10_rankOf_1 (by decide) ?_
  refine J_iload_n (pc := 3) dX10_rankOf_3 rfl rfl ?_
  refine J_istore (pc := 4) dX10_rankOf_4 (by decide) ?_
  have c0 : cnt (x_rank X h f x) f = 0 := cnt_0 (fun i hi => by unfold x_rank win; simp; omega)
  have loop : ∀ i, i ≤ xV X 1 0 → f ≤ i → J l g mX10_rankOf hgt 0 0 (jPure (.int (nI (cnt (x_rank X h f x) (xV X 1 0)))) S) 6 [(5, .int (nI i)), (4, .int (nI (cnt (x_rank X h f x) i))), (0, .ref b), (1, .int (nI h)), (2, .int (nI f)), (3, .int (nI x))] [] S 0 0 := by
    refine down _ ?_ ?_
    · intro _
      refine J_iload (pc := 6) dX10_rankOf_6 rfl ?_
      refine J_aload_n (pc := 8) dX10_rankOf_8 rfl rfl ?_
      refine J_geti (pc := 9) (i := 2) cl8 hW.o (by decide) rfl hW.2.2.1.2.1 kX10_138 dX10_rankOf_9 ?_
      refine J_icmp_geN (pc := 12) (tgt := 80) dX10_rankOf_12 rfl (by omega) (by omega) (fun h0 => ?_) (fun h0 => ?_)
      · refine J_iload (pc := 80) dX10_rankOf_80 rfl ?_
        refine J_iret (pc := 82) dX10_rankOf_82 rfl (by omega) (by omega) ?_
        exact ⟨rfl, rfl⟩
      · omega
    · intro i hi ih hfi
      have ih := ih (by omega)
      have hi1 := (hI.msg (m := i) (by omega)).1
      have e : cnt (x_rank X h f x) (i + 1) = cnt (x_rank X h f x) i + if x_rank X h f x i then 1 else 0 := rfl
      have yes : x_rank X h f x i = true → J l g mX10_rankOf hgt 0 0 (jPure (.int (nI (cnt (x_rank X h f x) (xV X 1 0)))) S) 66 [(5, .int (nI i)), (4, .int (nI (cnt (x_rank X h f x) i))), (0, .ref b), (1, .int (nI h)), (2, .int (nI f)), (3, .int (nI x))] [.int (nI (cnt (x_rank X h f x) i))] S 0 0 := by
        intro z
        rw [z] at e
        refine J_iconst (pc := 66) (v := nI 1) dX10_rankOf_66 (by decide) ?_
        refine J_goto (pc := 67) (tgt := 71) dX10_rankOf_67 rfl ?_
        first | refine J_iaddN (pc := 71) dX10_rankOf_71 ?_ | refine J_iadd (pc := 71) dX10_rankOf_71 ?_
        refine J_istore (pc := 72) dX10_rankOf_72 (by decide) ?_
        refine J_iinc (pc := 74) dX10_rankOf_74 rfl (inc1 _) (by decide) ?_
        refine J_goto (pc := 77) (tgt := 6) dX10_rankOf_77 rfl ?_
        refine J_lvk ih ⟨rfl, ?_, rfl, rfl, rfl, rfl, trivial⟩
        rw [e]; rfl
      have no : x_rank X h f x i = false → J l g mX10_rankOf hgt 0 0 (jPure (.int (nI (cnt (x_rank X h f x) (xV X 1 0)))) S) 70 [(5, .int (nI i)), (4, .int (nI (cnt (x_rank X h f x) i))), (0, .ref b), (1, .int (nI h)), (2, .int (nI f)), (3, .int (nI x))] [.int (nI (cnt (x_rank X h f x) i))] S 0 0 := by
        intro z
        rw [z] at e
        refine J_iconst (pc := 70) (v := nI 0) dX10_rankOf_70 (by decide) ?_
        first | refine J_iaddN (pc := 71) dX10_rankOf_71 ?_ | refine J_iadd (pc := 71) dX10_rankOf_71 ?_
        refine J_istore (pc := 72) dX10_rankOf_72 (by decide) ?_
        refine J_iinc (pc := 74) dX10_rankOf_74 rfl (inc1 _) (by decide) ?_
        refine J_goto (pc := 77) (tgt := 6) dX10_rankOf_77 rfl ?_
        refine J_lvk ih ⟨rfl, ?_, rfl, rfl, rfl, rfl, trivial⟩
        rw [e]; rfl
      refine J_iload (pc := 6) dX10_rankOf_6 rfl ?_
      refine J_aload_n (pc := 8) dX10_rankOf_8 rfl rfl ?_
      refine J_geti (pc := 9) (i := 2) cl8 hW.o (by decide) rfl hW.2.2.1.2.1 kX10_138 dX10_rankOf_9 ?_
      refine J_icmp_geN (pc := 12) (tgt := 80) dX10_rankOf_12 rfl (by omega) (by omega) (fun h0 => ?_) (fun h0 => ?_)
      · omega
      · refine J_iload (pc := 15) dX10_rankOf_15 rfl ?_
        refine J_aload_n (pc := 17) dX10_rankOf_17 rfl rfl ?_
        refine J_getr (pc := 18) (i := 16) cl8 hW.o (by decide) rfl (hW.r 16 rfl) kX10_44 dX10_rankOf_18 ?_
        refine J_iload (pc := 21) dX10_rankOf_21 rfl ?_
        refine J_mld (pc := 23) hW 8 rfl rfl (by show _ < 48; omega) dX10_rankOf_23 ?_
        refine J_iload_n (pc := 24) dX10_rankOf_24 rfl rfl ?_
        refine J_icmp_neN (pc := 25) (tgt := 70) dX10_rankOf_25 rfl (by omega) (by omega) (fun h2 => ?_) (fun h2 => ?_)
        · exact no (by simp [x_rank, win, h2])
        · refine J_aload_n (pc := 28) dX10_rankOf_28 rfl rfl ?_
          refine J_getr (pc := 29) (i := 18) cl8 hW.o (by decide) rfl (hW.r 18 rfl) kX10_50 dX10_rankOf_29 ?_
          refine J_iload (pc := 32) dX10_rankOf_32 rfl ?_
          refine J_mld (pc := 34) hW 10 rfl rfl (by show _ < 48; omega) dX10_rankOf_34 ?_
          refine J_aload_n (pc := 35) dX10_rankOf_35 rfl rfl ?_
          refine J_getr (pc := 36) (i := 18) cl8 hW.o (by decide) rfl (hW.r 18 rfl) kX10_50 dX10_rankOf_36 ?_
          refine J_iload_n (pc := 39) dX10_rankOf_39 rfl rfl ?_
          refine J_mld (pc := 40) hW 10 rfl rfl (by show _ < 48; omega) dX10_rankOf_40 ?_
          refine J_icmp_ltN (pc := 41) (tgt := 66) dX10_rankOf_41 rfl (by omega) (by omega) (fun h3 => ?_) (fun h3 => ?_)
          · exact yes (by simp [x_rank, win, h2, h3, hfi])
          · refine J_aload_n (pc := 44) dX10_rankOf_44 rfl rfl ?_
            refine J_getr (pc := 45) (i := 18) cl8 hW.o (by decide) rfl (hW.r 18 rfl) kX10_50 dX10_rankOf_45 ?_
            refine J_iload (pc := 48) dX10_rankOf_48 rfl ?_
            refine J_mld (pc := 50) hW 10 rfl rfl (by show _ < 48; omega) dX10_rankOf_50 ?_
            refine J_aload_n (pc := 51) dX10_rankOf_51 rfl rfl ?_
            refine J_getr (pc := 52) (i := 18) cl8 hW.o (by decide) rfl (hW.r 18 rfl) kX10_50 dX10_rankOf_52 ?_
            refine J_iload_n (pc := 55) dX10_rankOf_55 rfl rfl ?_
            refine J_mld (pc := 56) hW 10 rfl rfl (by show _ < 48; omega) dX10_rankOf_56 ?_
            refine J_icmp_neN (pc := 57) (tgt := 70) dX10_rankOf_57 rfl (by omega) (by omega) (fun h4 => ?_) (fun h4 => ?_)
            · exact no (by simp [x_rank, win, h4]; omega)
            · refine J_iload (pc := 60) dX10_rankOf_60 rfl ?_
              refine J_iload_n (pc := 62) dX10_rankOf_62 rfl rfl ?_
              refine J_icmp_geN (pc := 63) (tgt := 70) dX10_rankOf_63 rfl (by omega) (by omega) (fun h5 => ?_) (fun h5 => ?_)
              · exact no (by simp [x_rank, win, h4]; omega)
              · exact yes (by simp [x_rank, win, h2, h4, h5, hfi])
  refine J_lvk (loop f hf (Nat.le_refl _)) ⟨rfl, ?_, rfl, rfl, rfl, rfl, trivial⟩
  rw [c0]
  rfl
set_option maxRecDepth 100000 in
theorem cm_cutoff (l : Launch) (g : jG) (hgt : Nat) {S : jS} {b : Nat} {ad : Nat → Nat} {X : XS} {h t : Nat} (hW : WM S b ad X) (hI : xOK X) (hh8 : h < 8) (ht1 : 1 ≤ t) (ht : t < 3) (hh : 1 ≤ hgt) : CT l g mX10_cutoff hgt 0 0 [.ref b, .int (nI h), .int (nI t)] S (jPure (.int (nI (x_cut X h t))) S) := by
  have h48 := hI.many
  refine CT_of qX10_cutoff (Nat.le_of_ble_eq_true rfl) ?_
  refine J_iconst (pc := 0) (v := nI 0) dX10_cutoff_0 (by decide) ?_
  refine J_istore_n (pc := 1) dX10_cutoff_1 rfl (by decide) ?_
  refine J_aload_n (pc := 2) dX10_cutoff_2 rfl rfl ?_
  refine J_geti (pc := 3) (i := 2) cl8 hW.o (by decide) rfl hW.2.2.1.2.1 kX10_138 dX10_cutoff_3 ?_
  refine J_istore (pc := 6) dX10_cutoff_6 (by decide) ?_
  have part2 : ∀ f, f ≤ xV X 1 0 → (f = 0 ∨ cnt (win X h f) (xV X 1 0) = 16) → cnt (win X h f) (xV X 1 0) ≤ 16 → J l g mX10_cutoff hgt 0 0 (jPure (.int (nI (x_cut X h t))) S) 44 [(4, .int (nI f)), (3, .int (nI (cnt (win X h f) (xV X 1 0)))), (0, .ref b), (1, .int (nI h)), (2, .int (nI t))] [] S 0 0 := by
    intro f hf hz h16
    have hlate := late_win hf hz h16
    generalize hc : cnt (win X h f) (xV X 1 0) = c at hz h16
    refine J_iload (pc := 44) dX10_cutoff_44 rfl ?_
    refine J_istore (pc := 46) dX10_cutoff_46 (by decide) ?_
    have loop : ∀ i, i ≤ xV X 1 0 → f ≤ i → (∀ j, f ≤ j → j < i → win X h f j = true → cnt (x_rank X h f j) (xV X 1 0) ≠ t * c / 3) → J l g mX10_cutoff hgt 0 0 (jPure (.int (nI (x_cut X h t))) S) 48 [(5, .int (nI i)), (4, .int (nI f)), (3, .int (nI c)), (0, .ref b), (1, .int (nI h)), (2, .int (nI t))] [] S 0 0 := by
      refine down _ ?_ ?_
      · intro _ hno
        refine J_iload (pc := 48) dX10_cutoff_48 rfl ?_
        refine J_aload_n (pc := 50) dX10_cutoff_50 rfl rfl ?_
        refine J_geti (pc := 51) (i := 2) cl8 hW.o (by decide) rfl hW.2.2.1.2.1 kX10_138 dX10_cutoff_51 ?_
        refine J_icmp_geN (pc := 54) (tgt := 99) dX10_cutoff_54 rfl (by omega) (by omega) (fun h0 => ?_) (fun h0 => ?_)
        · refine J_iconst (pc := 99) (v := nI 0) dX10_cutoff_99 (by decide) ?_
          refine J_iret (pc := 100) dX10_cutoff_100 rfl (by omega) (by omega) ?_
          refine ⟨?_, rfl⟩
          by_cases c0 : c = 0
          · have : x_late X h = [] := by
              apply List.eq_nil_of_length_eq_zero
              rw [hlate, List.length_map, cnt_len, hc, c0]
            rw [x_cut, if_pos this]
          · exfalso
            have hk : t * c / 3 < c := by
              have : t * c ≤ 2 * c := Nat.mul_le_mul_right c (by omega)
              omega
            obtain ⟨x, hx, hw, hr⟩ := cut_ex (X := X) (h := h) (f := f) (k := t * c / 3) (fun x hx => (hI.msg (m := x) (by omega)).1.2.2.1) (by rw [hc]; exact hk)
            exact hno x (by unfold win at hw; simp at hw; exact hw.1) hx hw hr
        · omega
      · intro i hi ih hfi hno
        have hi1 := (hI.msg (m := i) (by omega)).1
        have next : (win X h f i = true → cnt (x_rank X h f i) (xV X 1 0) ≠ t * c / 3) → J l g mX10_cutoff hgt 0 0 (jPure (.int (nI (x_cut X h t))) S) 93 [(5, .int (nI i)), (4, .int (nI f)), (3, .int (nI c)), (0, .ref b), (1, .int (nI h)), (2, .int (nI t))] [] S 0 0 := by
          intro z
          refine J_iinc (pc := 93) dX10_cutoff_93 rfl (inc1 _) (by decide) ?_
          refine J_goto (pc := 96) (tgt := 48) dX10_cutoff_96 rfl ?_
          refine J_lvk (ih (by omega) (fun j h1 h2 h3 => ?_)) ⟨rfl, rfl, rfl, rfl, rfl, rfl, trivial⟩
          by_cases e : j = i
          · subst e
            exact z h3
          · exact hno j h1 (by omega) h3
        refine J_iload (pc := 48) dX10_cutoff_48 rfl ?_
        refine J_aload_n (pc := 50) dX10_cutoff_50 rfl rfl ?_
        refine J_geti (pc := 51) (i := 2) cl8 hW.o (by decide) rfl hW.2.2.1.2.1 kX10_138 dX10_cutoff_51 ?_
        refine J_icmp_geN (pc := 54) (tgt := 99) dX10_cutoff_54 rfl (by omega) (by omega) (fun h0 => ?_) (fun h0 => ?_)
        · omega
        · refine J_aload_n (pc := 57) dX10_cutoff_57 rfl rfl ?_
          refine J_getr (pc := 58) (i := 16) cl8 hW.o (by decide) rfl (hW.r 16 rfl) kX10_44 dX10_cutoff_58 ?_
          refine J_iload (pc := 61) dX10_cutoff_61 rfl ?_
          refine J_mld (pc := 63) hW 8 rfl rfl (by show _ < 48; omega) dX10_cutoff_63 ?_
          refine J_iload_n (pc := 64) dX10_cutoff_64 rfl rfl ?_
          refine J_icmp_neN (pc := 65) (tgt := 93) dX10_cutoff_65 rfl (by omega) (by omega) (fun h2 => ?_) (fun h2 => ?_)
          · exact next (fun z => by unfold win at z; simp at z; exact absurd z.2 h2)
          · have hw : win X h f i = true := by simp [win, h2, hfi]
            have hrl : cnt (x_rank X h f i) (xV X 1 0) ≤ xV X 1 0 := cnt_le _ _
            have htc : t * c ≤ 2 * 16 := Nat.mul_le_mul (by omega) h16
            refine J_aload_n (pc := 68) dX10_cutoff_68 rfl rfl ?_
            refine J_iload_n (pc := 69) dX10_cutoff_69 rfl rfl ?_
            refine J_iload (pc := 70) dX10_cutoff_70 rfl ?_
            refine J_iload (pc := 72) dX10_cutoff_72 rfl ?_
            refine J_callV (pc := 74) (cm_rankOf l g (hgt - 1) hW hI hh8 hf (show i < 48 by omega)) qX10_rankOf vX10_rankOf cl8 rfl hW.o kX10_206 dX10_cutoff_74 rfl rfl (Nat.le_of_ble_eq_true rfl) (by omega) (by omega) (by omega) ?_
            rintro _ _ ⟨rfl, rfl⟩
            refine J_iload_n (pc := 77) dX10_cutoff_77 rfl rfl ?_
            refine J_iload_n (pc := 78) dX10_cutoff_78 rfl rfl ?_
            first | refine J_imulN (pc := 79) dX10_cutoff_79 ?_ | refine J_imul (pc := 79) dX10_cutoff_79 ?_
            refine J_iconst (pc := 80) (v := nI 3) dX10_cutoff_80 (by decide) ?_
            first | refine J_idivN (pc := 81) dX10_cutoff_81 (by omega) (by omega) (by omega) ?_ | refine J_idiv (pc := 81) dX10_cutoff_81 (by decide) ?_
            refine J_icmp_neN (pc := 82) (tgt := 93) dX10_cutoff_82 rfl (by omega) (by omega) (fun h3 => ?_) (fun h3 => ?_)
            · exact next (fun _ => h3)
            · refine J_aload_n (pc := 85) dX10_cutoff_85 rfl rfl ?_
              refine J_getr (pc := 86) (i := 18) cl8 hW.o (by decide) rfl (hW.r 18 rfl) kX10_50 dX10_cutoff_86 ?_
              refine J_iload (pc := 89) dX10_cutoff_89 rfl ?_
              refine J_mld (pc := 91) hW 10 rfl rfl (by show _ < 48; omega) dX10_cutoff_91 ?_
              refine J_iret (pc := 92) dX10_cutoff_92 rfl (by omega) (by omega) ?_
              exact ⟨by rw [cut_of hlate hi hw hi1.2.2.1 (by rw [hc]; exact h3)], rfl⟩
    exact J_lvk (loop f hf (Nat.le_refl _) (fun j h1 h2 => by omega)) ⟨rfl, rfl, rfl, rfl, rfl, rfl, trivial⟩
  have loop1 : ∀ f, f ≤ xV X 1 0 → cnt (win X h f) (xV X 1 0) ≤ 16 → J l g mX10_cutoff hgt 0 0 (jPure (.int (nI (x_cut X h t))) S) 8 [(4, .int (nI f)), (3, .int (nI (cnt (win X h f) (xV X 1 0)))), (0, .ref b), (1, .int (nI h)), (2, .int (nI t))] [] S 0 0 := by
    intro f
    induction f with
    | zero =>
      intro hf h16
      refine J_iload (pc := 8) dX10_cutoff_8 rfl ?_
      refine J_if_leN (pc := 10) (tgt := 44) dX10_cutoff_10 rfl (by omega) (fun h0 => ?_) (fun h0 => ?_)
      · exact part2 0 hf (Or.inl rfl) h16
      · omega
    | succ f ih =>
      intro hf h16
      have hf1 := (hI.msg (m := f) (by omega)).1
      have e : cnt (win X h f) (xV X 1 0) = cnt (win X h (f + 1)) (xV X 1 0) + if xV X 8 f = h then 1 else 0 := by
        rw [cnt_add (f := win X h f) (f' := win X h (f + 1)) (f2 := fun y => decide (y = f) && decide (xV X 8 y = h))]
        · congr 1
          have : ∀ n, f < n → cnt (fun y => decide (y = f) && decide (xV X 8 y = h)) n = if xV X 8 f = h then 1 else 0 := by
            intro n hn
            induction n with
            | zero => omega
            | succ n ihn =>
              show cnt _ n + _ = _
              by_cases en : f = n
              · subst en
                rw [cnt_0 (fun i hi => by simp; omega)]
                simp
              · have en2 : ¬ n = f := by omega
                rw [ihn (by omega)]
                simp [en2]
          exact this _ (by omega)
        · intro i
          unfold win
          by_cases h1 : i = f
          · subst h1
            by_cases h2 : xV X 8 i = h <;> simp [h2] <;> omega
          · by_cases h3 : f ≤ i
            · have h4 : f + 1 ≤ i := by omega
              simp [h1, h3, h4]
            · have h4 : ¬ f + 1 ≤ i := by omega
              simp [h1, h3, h4]
      refine J_iload (pc := 8) dX10_cutoff_8 rfl ?_
      refine J_if_leN (pc := 10) (tgt := 44) dX10_cutoff_10 rfl (by omega) (fun h0 => ?_) (fun h0 => ?_)
      · omega
      · refine J_iload_n (pc := 13) dX10_cutoff_13 rfl rfl ?_
        refine J_bipush (pc := 14) (v := nI 16) dX10_cutoff_14 (by decide) ?_
        refine J_icmp_geN (pc := 16) (tgt := 44) dX10_cutoff_16 rfl (by omega) (by omega) (fun h2 => ?_) (fun h2 => ?_)
        · exact part2 (f + 1) hf (Or.inr (by omega)) h16
        · refine J_iinc (pc := 19) dX10_cutoff_19 rfl (dec1 _) (by decide) ?_
          refine J_iload_n (pc := 22) dX10_cutoff_22 rfl rfl ?_
          refine J_aload_n (pc := 23) dX10_cutoff_23 rfl rfl ?_
          refine J_getr (pc := 24) (i := 16) cl8 hW.o (by decide) rfl (hW.r 16 rfl) kX10_44 dX10_cutoff_24 ?_
          refine J_iload (pc := 27) dX10_cutoff_27 rfl ?_
          refine J_mld (pc := 29) hW 8 rfl rfl (by show _ < 48; omega) dX10_cutoff_29 ?_
          refine J_iload_n (pc := 30) dX10_cutoff_30 rfl rfl ?_
          refine J_icmp_neN (pc := 31) (tgt := 38) dX10_cutoff_31 rfl (by omega) (by omega) (fun h3 => ?_) (fun h3 => ?_)
          · rw [if_neg h3] at e
            refine J_iconst (pc := 38) (v := nI 0) dX10_cutoff_38 (by decide) ?_
            first | refine J_iaddN (pc := 39) dX10_cutoff_39 ?_ | refine J_iadd (pc := 39) dX10_cutoff_39 ?_
            refine J_istore_n (pc := 40) dX10_cutoff_40 rfl (by decide) ?_
            refine J_goto (pc := 41) (tgt := 8) dX10_cutoff_41 rfl ?_
            refine J_lvk (ih (by omega) (by omega)) ⟨rfl, ?_, rfl, rfl, rfl, trivial⟩
            rw [e]; rfl
          · rw [if_pos h3] at e
            refine J_iconst (pc := 34) (v := nI 1) dX10_cutoff_34 (by decide) ?_
            refine J_goto (pc := 35) (tgt := 39) dX10_cutoff_35 rfl ?_
            first | refine J_iaddN (pc := 39) dX10_cutoff_39 ?_ | refine J_iadd (pc := 39) dX10_cutoff_39 ?_
            refine J_istore_n (pc := 40) dX10_cutoff_40 rfl (by decide) ?_
            refine J_goto (pc := 41) (tgt := 8) dX10_cutoff_41 rfl ?_
            refine J_lvk (ih (by omega) (by omega)) ⟨rfl, ?_, rfl, rfl, rfl, trivial⟩
            rw [e]; rfl
  have c0 : cnt (win X h (xV X 1 0)) (xV X 1 0) = 0 := cnt_0 (fun i hi => by unfold win; simp; omega)
  refine J_lvk (loop1 (xV X 1 0) (Nat.le_refl _) (by omega)) ⟨rfl, ?_, rfl, rfl, rfl, trivial⟩
  rw [c0]
  rfl
