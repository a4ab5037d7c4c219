def shf (f : Nat → Int32) (base j : Nat) : Nat → Int32 := fun x => if base ≤ x ∧ x < base + j then f (x + 1) else f x
theorem shf_in {f : Nat → Int32} {base j x : Nat} (h1 : base ≤ x) (h2 : x < base + j) : shf f base j x = f (x + 1) := if_pos ⟨h1, h2⟩
theorem shf_out {f : Nat → Int32} {base j x : Nat} (h : x < base ∨ base + j ≤ x) : shf f base j x = f x := if_neg (by omega)
theorem shf_0 (f : Nat → Int32) (base : Nat) : shf f base 0 = f := funext fun x => shf_out (by omega)
theorem shf_s (f : Nat → Int32) (base j : Nat) : upd (shf f base j) (base + j) (shf f base j (base + j + 1)) = shf f base (j + 1) := by
  funext x
  unfold upd
  rw [shf_out (x := base + j + 1) (by omega)]
  by_cases h : x = base + j
  · subst h
    rw [if_pos rfl, shf_in (by omega) (by omega)]
  · rw [if_neg h]
    by_cases h2 : base ≤ x ∧ x < base + j
    · rw [shf_in h2.1 h2.2, shf_in h2.1 (by omega)]
    · rw [shf_out (by omega), shf_out (by omega)]
theorem WM.wQ0 {S S' : jS} {b : Nat} {ad : Nat → Nat} {X : XS} (h : WM S b ad X) (q : Nat) (hq : q < 96) {e : Nat × Nat × Nat} {t : List (Nat × Nat × Nat)} (hl : xL X (q) = e :: t) (ho : mOnly ad mLs S S') (e0 : ∀ k, mArr k = true → k ≠ 8 → k ≠ 9 → k ≠ 10 → k ≠ 11 → sI S' 9 (ad k) = sI S 9 (ad k)) (ew : sI S' 9 (ad 8) = upd (sI S 9 (ad 8)) q (nI t.length)) (ek : sI S' 9 (ad 9) = shf (sI S 9 (ad 9)) (8 * q) t.length) (ea : sI S' 9 (ad 10) = shf (sI S 9 (ad 10)) (8 * q) t.length) (ec : sI S' 9 (ad 11) = shf (sI S 9 (ad 11)) (8 * q) t.length) : WM S' b ad (yL X (q) t) := by
  have key : mQue S' ad (yL X (q) t) := by
    intro j hj
    have this := h.2.2.2.2.2.2.1 j hj
    by_cases ej : j = q
    · subst ej
      rw [xL_yL, if_pos rfl, ew, ek, ea, ec]
      rw [hl] at this
      refine ⟨by have := this.1; rw [List.length_cons] at this; omega, by simp [upd], fun i e' he => ?_⟩
      have hi : i < t.length := (List.getElem?_eq_some_iff.mp he).1
      have u := this.2.2 (i + 1) e' (by rw [List.getElem?_cons_succ]; exact he)
      rw [shf_in (by omega) (by omega), shf_in (by omega) (by omega), shf_in (by omega) (by omega)]
      exact u
    · rw [xL_yL, if_neg (by omega), ew, ek, ea, ec]
      have h8 := this.1
      have hq8 := (h.2.2.2.2.2.2.1 q hq).1
      rw [hl, List.length_cons] at hq8
      refine ⟨this.1, by simp [upd, ej]; exact this.2.1, fun i e' he => ?_⟩
      have hi : i < (xL X (j)).length := (List.getElem?_eq_some_iff.mp he).1
      rw [shf_out (by omega), shf_out (by omega), shf_out (by omega)]
      exact this.2.2 i e' he
  refine h.lists ho rfl rfl (mLnk.keep h.2.2.2.2.2.1 ?_ ?_ ?_ ?_) key (mDue.keep h.2.2.2.2.2.2.2 ?_ ?_ ?_ ?_ ?_)
  all_goals first | exact e0 _ rfl (by decide) (by decide) (by decide) (by decide) | (intro z hz; rw [xL_yL, if_neg (by omega)])
theorem WM.wD0 {S S' : jS} {b : Nat} {ad : Nat → Nat} {X : XS} (h : WM S b ad X) (q : Nat) (hq : q < 8) {e : Nat × Nat × Nat} {t : List (Nat × Nat × Nat)} (hl : xL X (96 + q) = e :: t) (ho : mOnly ad mLs S S') (e0 : ∀ k, mArr k = true → k ≠ 37 → k ≠ 38 → k ≠ 39 → k ≠ 40 → sI S' 9 (ad k) = sI S 9 (ad k)) (ew : sI S' 9 (ad 37) = upd (sI S 9 (ad 37)) q (nI t.length)) (ek : sI S' 9 (ad 38) = shf (sI S 9 (ad 38)) (24 * q) t.length) (ea : sI S' 9 (ad 39) = shf (sI S 9 (ad 39)) (24 * q) t.length) (ec : sI S' 9 (ad 40) = shf (sI S 9 (ad 40)) (24 * q) t.length) : WM S' b ad (yL X (96 + q) t) := by
  have key : mDue S' ad (yL X (96 + q) t) := by
    intro j hj
    have this := h.2.2.2.2.2.2.2 j hj
    by_cases ej : j = q
    · subst ej
      rw [xL_yL, if_pos rfl, ew, ek, ea, ec]
      rw [hl] at this
      refine ⟨by have := this.1; rw [List.length_cons] at this; omega, by simp [upd], fun i e' he => ?_⟩
      have hi : i < t.length := (List.getElem?_eq_some_iff.mp he).1
      have u := this.2.2 (i + 1) e' (by rw [List.getElem?_cons_succ]; exact he)
      rw [shf_in (by omega) (by omega), shf_in (by omega) (by omega), shf_in (by omega) (by omega)]
      exact u
    · rw [xL_yL, if_neg (by omega), ew, ek, ea, ec]
      have h8 := this.1
      have hq8 := (h.2.2.2.2.2.2.2 q hq).1
      rw [hl, List.length_cons] at hq8
      refine ⟨this.1, by simp [upd, ej]; exact this.2.1, fun i e' he => ?_⟩
      have hi : i < (xL X (96 + j)).length := (List.getElem?_eq_some_iff.mp he).1
      rw [shf_out (by omega), shf_out (by omega), shf_out (by omega)]
      exact this.2.2 i e' he
  refine h.lists ho rfl rfl (mLnk.keep h.2.2.2.2.2.1 ?_ ?_ ?_ ?_) (mQue.keep h.2.2.2.2.2.2.1 ?_ ?_ ?_ ?_ ?_) key
  all_goals first | exact e0 _ rfl (by decide) (by decide) (by decide) (by decide) | (intro z hz; rw [xL_yL, if_neg (by omega)])
theorem mOnly.sub {ad : Nat → Nat} {ks ks' : List Nat} {S S' : jS} (h : mOnly ad ks S S') (hs : ∀ k ∈ ks, k ∈ ks') : mOnly ad ks' S S' := ⟨h.1, h.2.1, h.2.2.1, h.2.2.2.1, h.2.2.2.2.1, h.2.2.2.2.2.1, fun k hk hn => h.2.2.2.2.2.2 k hk (fun z => hn (hs k z))⟩
theorem mOnly.o {ad : Nat → Nat} {ks : List Nat} {S S' : jS} {b : Nat} {X : XS} (h : mOnly ad ks S S') (hW : WM S b ad X) : sAt S' 8 b := (h.shape hW.1).1
theorem mOnly.r {ad : Nat → Nat} {ks : List Nat} {S S' : jS} {b : Nat} {X : XS} (h : mOnly ad ks S S') (hW : WM S b ad X) (k : Nat) (hk : mArr k = true) : sP S' 8 b k = some (ad k) := (h.shape hW.1).2.1 k hk
theorem mOnly.a {ad : Nat → Nat} {ks : List Nat} {S S' : jS} {b : Nat} {X : XS} (h : mOnly ad ks S S') (hW : WM S b ad X) (k : Nat) (hk : mArr k = true) : aAt S' (mKd k) (ad k) (mLn k) := (h.shape hW.1).2.2.1 k hk
set_option maxRecDepth 100000 in
theorem cm_serve (l : Launch) (g : jG) (hgt : Nat) {S : jS} {b : Nat} {ad : Nat → Nat} {X : XS} {link : Nat} (hW : WM S b ad X) (hI : xOK X) (hl8 : 8 ≤ link) (hl : link < 24) (hh : 1 ≤ hgt) : CT l g mX10_serve hgt 0 0 [.ref b, .int (nI link)] S (mPost b ad (x_serve X link)) := by
  refine CT_of qX10_serve (Nat.le_of_ble_eq_true rfl) ?_
  refine J_iload_n (pc := 0) dX10_serve_0 rfl rfl ?_
  refine J_bipush (pc := 1) (v := nI 20) dX10_serve_1 (by decide) ?_
  have tail : ¬ (20 ≤ link ∧ xV X 6 ((link - 20) / 2) = 1) → J l g mX10_serve hgt 0 0 (mPost b ad (x_serve X link)) 21 [(0, .ref b), (1, .int (nI link))] [] S 0 0 := by
    intro hno
    refine J_iconst (pc := 21) (v := nI 0) dX10_serve_21 (by decide) ?_
    refine J_istore_n (pc := 22) dX10_serve_22 rfl (by decide) ?_
    have hp4 : x_firstQ X link ≤ 4 := lst_le _ _
    have after : J l g mX10_serve hgt 0 0 (mPost b ad (x_serve X link)) 47 [(2, .int (nI (x_firstQ X link))), (0, .ref b), (1, .int (nI link))] [] S 0 0 := by
      refine J_iload_n (pc := 47) dX10_serve_47 rfl rfl ?_
      refine J_iconst (pc := 48) (v := nI 4) dX10_serve_48 (by decide) ?_
      refine J_icmp_neN (pc := 49) (tgt := 53) dX10_serve_49 rfl (by omega) (by omega) (fun h0 => ?_) (fun h0 => ?_)
      · have hp : x_firstQ X link < 4 := by omega
        have hne : (xL X (4 * link + x_firstQ X link)).length ≠ 0 := by
          have := lst_is (f := fun p => decide ((xL X (4 * link + p)).length ≠ 0)) (n := 4) hp
          exact of_decide_eq_true this
        have hq : 4 * link + x_firstQ X link < 96 := by omega
        obtain ⟨q8, qw, qe⟩ := hW.2.2.2.2.2.2.1 _ hq
        generalize hpp : x_firstQ X link = p at *
        obtain ⟨e, t, hl2⟩ : ∃ e t, xL X (4 * link + p) = e :: t := by
          cases hz : xL X (4 * link + p) with
          | nil => rw [hz] at hne; exact absurd rfl hne
          | cons e t => exact ⟨e, t, rfl⟩
        have he := qe 0 e (by rw [hl2]; rfl)
        rw [hl2, List.length_cons] at q8 qw
        refine J_iconst (pc := 53) (v := nI 4) dX10_serve_53 (by decide) ?_
        refine J_iload_n (pc := 54) dX10_serve_54 rfl rfl ?_
        first | refine J_imulN (pc := 55) dX10_serve_55 ?_ | refine J_imul (pc := 55) dX10_serve_55 ?_
        refine J_iload_n (pc := 56) dX10_serve_56 rfl rfl ?_
        first | refine J_iaddN (pc := 57) dX10_serve_57 ?_ | refine J_iadd (pc := 57) dX10_serve_57 ?_
        refine J_istore_n (pc := 58) dX10_serve_58 rfl (by decide) ?_
        refine J_aload_n (pc := 59) dX10_serve_59 rfl rfl ?_
        refine J_getr (pc := 60) (i := 9) cl8 hW.o (by decide) rfl (hW.r 9 rfl) kX10_28 dX10_serve_60 ?_
        refine J_bipush (pc := 63) (v := nI 8) dX10_serve_63 (by decide) ?_
        refine J_iload_n (pc := 65) dX10_serve_65 rfl rfl ?_
        first | refine J_imulN (pc := 66) dX10_serve_66 ?_ | refine J_imul (pc := 66) dX10_serve_66 ?_
        refine J_iald (pc := 67) (hW.a 9 rfl) rfl (show _ < 768 by omega) (by first | omega | exact mLn_lt _) he.1 dX10_serve_67 ?_
        refine J_istore (pc := 68) dX10_serve_68 (by decide) ?_
        refine J_aload_n (pc := 70) dX10_serve_70 rfl rfl ?_
        refine J_getr (pc := 71) (i := 10) cl8 hW.o (by decide) rfl (hW.r 10 rfl) kX10_31 dX10_serve_71 ?_
        refine J_bipush (pc := 74) (v := nI 8) dX10_serve_74 (by decide) ?_
        refine J_iload_n (pc := 76) dX10_serve_76 rfl rfl ?_
        first | refine J_imulN (pc := 77) dX10_serve_77 ?_ | refine J_imul (pc := 77) dX10_serve_77 ?_
        refine J_iald (pc := 78) (hW.a 10 rfl) rfl (show _ < 768 by omega) (by first | omega | exact mLn_lt _) he.2.1 dX10_serve_78 ?_
        refine J_istore (pc := 79) dX10_serve_79 (by decide) ?_
        refine J_aload_n (pc := 81) dX10_serve_81 rfl rfl ?_
        refine J_getr (pc := 82) (i := 11) cl8 hW.o (by decide) rfl (hW.r 11 rfl) kX10_34 dX10_serve_82 ?_
        refine J_bipush (pc := 85) (v := nI 8) dX10_serve_85 (by decide) ?_
        refine J_iload_n (pc := 87) dX10_serve_87 rfl rfl ?_
        first | refine J_imulN (pc := 88) dX10_serve_88 ?_ | refine J_imul (pc := 88) dX10_serve_88 ?_
        refine J_iald (pc := 89) (hW.a 11 rfl) rfl (show _ < 768 by omega) (by first | omega | exact mLn_lt _) he.2.2 dX10_serve_89 ?_
        refine J_istore (pc := 90) dX10_serve_90 (by decide) ?_
        refine J_aload_n (pc := 92) dX10_serve_92 rfl rfl ?_
        refine J_getr (pc := 93) (i := 8) cl8 hW.o (by decide) rfl (hW.r 8 rfl) kX10_25 dX10_serve_93 ?_
        refine J_iload_n (pc := 96) dX10_serve_96 rfl rfl ?_
        refine J_dup2_11 (pc := 97) dX10_serve_97 rfl rfl ?_
        refine J_iald (pc := 98) (hW.a 8 rfl) rfl hq (by first | omega | exact mLn_lt _) qw dX10_serve_98 ?_
        refine J_iconst (pc := 99) (v := nI 1) dX10_serve_99 (by decide) ?_
        first | refine J_isubN (pc := 100) dX10_serve_100 (by omega) ?_ | refine J_isub (pc := 100) dX10_serve_100 ?_
        refine J_iast (pc := 101) (hW.a 8 rfl) rfl hq (by first | omega | exact mLn_lt _) dX10_serve_101 ?_
        refine J_bipush (pc := 102) (v := nI 8) dX10_serve_102 (by decide) ?_
        refine J_iload_n (pc := 104) dX10_serve_104 rfl rfl ?_
        first | refine J_imulN (pc := 105) dX10_serve_105 ?_ | refine J_imul (pc := 105) dX10_serve_105 ?_
        refine J_istore (pc := 106) dX10_serve_106 (by decide) ?_
        have sloop : ∀ j, j ≤ t.length → ∀ S2, mOnly ad mLs S S2 → (∀ k, mArr k = true → k ≠ 8 → k ≠ 9 → k ≠ 10 → k ≠ 11 → sI S2 9 (ad k) = sI S 9 (ad k)) → sI S2 9 (ad 8) = upd (sI S 9 (ad 8)) (4 * link + p) (nI t.length) → sI S2 9 (ad 9) = shf (sI S 9 (ad 9)) (8 * (4 * link + p)) j → sI S2 9 (ad 10) = shf (sI S 9 (ad 10)) (8 * (4 * link + p)) j → sI S2 9 (ad 11) = shf (sI S 9 (ad 11)) (8 * (4 * link + p)) j → J l g mX10_serve hgt 0 0 (mPost b ad (x_serve X link)) 108 [(7, .int (nI (8 * (4 * link + p) + j))), (6, .int (nI e.2.2)), (5, .int (nI e.2.1)), (4, .int (nI e.1)), (3, .int (nI (4 * link + p))), (2, .int (nI p)), (0, .ref b), (1, .int (nI link))] [] S2 0 0 := by
          refine down _ ?_ ?_
          · intro S2 hO e0 ew ek ea ec
            have hw2 : sI S2 9 (ad 8) (4 * link + p) = nI t.length := by rw [ew]; simp [upd]
            refine J_iload (pc := 108) dX10_serve_108 rfl ?_
            refine J_bipush (pc := 110) (v := nI 8) dX10_serve_110 (by decide) ?_
            refine J_iload_n (pc := 112) dX10_serve_112 rfl rfl ?_
            first | refine J_imulN (pc := 113) dX10_serve_113 ?_ | refine J_imul (pc := 113) dX10_serve_113 ?_
            refine J_aload_n (pc := 114) dX10_serve_114 rfl rfl ?_
            refine J_getr (pc := 115) (i := 8) cl8 (hO.o hW) (by decide) rfl (hO.r hW 8 rfl) kX10_25 dX10_serve_115 ?_
            refine J_iload_n (pc := 118) dX10_serve_118 rfl rfl ?_
            refine J_iald (pc := 119) (hO.a hW 8 rfl) rfl hq (by first | omega | exact mLn_lt _) hw2 dX10_serve_119 ?_
            first | refine J_iaddN (pc := 120) dX10_serve_120 ?_ | refine J_iadd (pc := 120) dX10_serve_120 ?_
            refine J_icmp_geN (pc := 121) (tgt := 178) dX10_serve_121 rfl (by omega) (by omega) (fun h2 => ?_) (fun h2 => ?_)
            · have hW2 := hW.wQ0 _ hq hl2 hO e0 ew ek ea ec
              refine J_aload_n (pc := 178) dX10_serve_178 rfl rfl ?_
              refine J_iload_n (pc := 179) dX10_serve_179 rfl rfl ?_
              refine J_iload (pc := 180) dX10_serve_180 rfl ?_
              refine J_iload (pc := 182) dX10_serve_182 rfl ?_
              refine J_iload (pc := 184) dX10_serve_184 rfl ?_
              refine J_iload_n (pc := 186) dX10_serve_186 rfl rfl ?_
              refine J_callV (pc := 187) (cm_enter l g (hgt - 1) (k := e.1) (m := e.2.1) (c := e.2.2) (p := p) hW2 (by rw [xV_yL]; exact (hI.link hl).1) hl) qX10_enter vX10_enter cl8 rfl hW2.o kX10_166 dX10_serve_187 rfl rfl (Nat.le_of_ble_eq_true rfl) (by omega) (by omega) (by omega) ?_
              rintro _ _ ⟨rfl, hW⟩
              refine J_vret (pc := 190) dX10_serve_190 rfl (by omega) (by omega) ?_
              refine ⟨rfl, ?_⟩
              rw [x_serve, if_neg hno, hpp, hl2]
              show WM _ b ad (if p = 4 then _ else _)
              rw [if_neg h0]
              exact hW
            · omega
          · intro j hj ih S2 hO e0 ew ek ea ec
            have n1 := hW.ne (k := 9) (k' := 8) rfl rfl (by decide)
            have n2 := hW.ne (k := 10) (k' := 8) rfl rfl (by decide)
            have n3 := hW.ne (k := 11) (k' := 8) rfl rfl (by decide)
            have n4 := hW.ne (k := 9) (k' := 10) rfl rfl (by decide)
            have n5 := hW.ne (k := 9) (k' := 11) rfl rfl (by decide)
            have n6 := hW.ne (k := 10) (k' := 11) rfl rfl (by decide)
            have hw2 : sI S2 9 (ad 8) (4 * link + p) = nI t.length := by rw [ew]; simp [upd]
            refine J_iload (pc := 108) dX10_serve_108 rfl ?_
            refine J_bipush (pc := 110) (v := nI 8) dX10_serve_110 (by decide) ?_
            refine J_iload_n (pc := 112) dX10_serve_112 rfl rfl ?_
            first | refine J_imulN (pc := 113) dX10_serve_113 ?_ | refine J_imul (pc := 113) dX10_serve_113 ?_
            refine J_aload_n (pc := 114) dX10_serve_114 rfl rfl ?_
            refine J_getr (pc := 115) (i := 8) cl8 (hO.o hW) (by decide) rfl (hO.r hW 8 rfl) kX10_25 dX10_serve_115 ?_
            refine J_iload_n (pc := 118) dX10_serve_118 rfl rfl ?_
            refine J_iald (pc := 119) (hO.a hW 8 rfl) rfl hq (by first | omega | exact mLn_lt _) hw2 dX10_serve_119 ?_
            first | refine J_iaddN (pc := 120) dX10_serve_120 ?_ | refine J_iadd (pc := 120) dX10_serve_120 ?_
            refine J_icmp_geN (pc := 121) (tgt := 178) dX10_serve_121 rfl (by omega) (by omega) (fun h2 => ?_) (fun h2 => ?_)
            · omega
            · refine J_aload_n (pc := 124) dX10_serve_124 rfl rfl ?_
              refine J_getr (pc := 125) (i := 9) cl8 (hO.o hW) (by decide) rfl (hO.r hW 9 rfl) kX10_28 dX10_serve_125 ?_
              refine J_iload (pc := 128) dX10_serve_128 rfl ?_
              refine J_aload_n (pc := 130) dX10_serve_130 rfl rfl ?_
              refine J_getr (pc := 131) (i := 9) cl8 (hO.o hW) (by decide) rfl (hO.r hW 9 rfl) kX10_28 dX10_serve_131 ?_
              refine J_iload (pc := 134) dX10_serve_134 rfl ?_
              refine J_iconst (pc := 136) (v := nI 1) dX10_serve_136 (by decide) ?_
              first | refine J_iaddN (pc := 137) dX10_serve_137 ?_ | refine J_iadd (pc := 137) dX10_serve_137 ?_
              refine J_iald (pc := 138) (hO.a hW 9 rfl) rfl (show _ < 768 by omega) (by first | omega | exact mLn_lt _) (congrFun ek _) dX10_serve_138 ?_
              refine J_iast (pc := 139) (hO.a hW 9 rfl) rfl (show _ < 768 by omega) (by first | omega | exact mLn_lt _) dX10_serve_139 ?_
              refine J_aload_n (pc := 140) dX10_serve_140 rfl rfl ?_
              refine J_getr (pc := 141) (i := 10) cl8 (hO.o hW) (by decide) rfl (hO.r hW 10 rfl) kX10_31 dX10_serve_141 ?_
              refine J_iload (pc := 144) dX10_serve_144 rfl ?_
              refine J_aload_n (pc := 146) dX10_serve_146 rfl rfl ?_
              refine J_getr (pc := 147) (i := 10) cl8 (hO.o hW) (by decide) rfl (hO.r hW 10 rfl) kX10_31 dX10_serve_147 ?_
              refine J_iload (pc := 150) dX10_serve_150 rfl ?_
              refine J_iconst (pc := 152) (v := nI 1) dX10_serve_152 (by decide) ?_
              first | refine J_iaddN (pc := 153) dX10_serve_153 ?_ | refine J_iadd (pc := 153) dX10_serve_153 ?_
              refine J_iald (pc := 154) (hO.a hW 10 rfl) rfl (show _ < 768 by omega) (by first | omega | exact mLn_lt _) ((congrFun (sl_a n4.symm) _).trans (congrFun ea _)) dX10_serve_154 ?_
              refine J_iast (pc := 155) (hO.a hW 10 rfl) rfl (show _ < 768 by omega) (by first | omega | exact mLn_lt _) dX10_serve_155 ?_
              refine J_aload_n (pc := 156) dX10_serve_156 rfl rfl ?_
              refine J_getr (pc := 157) (i := 11) cl8 (hO.o hW) (by decide) rfl (hO.r hW 11 rfl) kX10_34 dX10_serve_157 ?_
              refine J_iload (pc := 160) dX10_serve_160 rfl ?_
              refine J_aload_n (pc := 162) dX10_serve_162 rfl rfl ?_
              refine J_getr (pc := 163) (i := 11) cl8 (hO.o hW) (by decide) rfl (hO.r hW 11 rfl) kX10_34 dX10_serve_163 ?_
              refine J_iload (pc := 166) dX10_serve_166 rfl ?_
              refine J_iconst (pc := 168) (v := nI 1) dX10_serve_168 (by decide) ?_
              first | refine J_iaddN (pc := 169) dX10_serve_169 ?_ | refine J_iadd (pc := 169) dX10_serve_169 ?_
              refine J_iald (pc := 170) (hO.a hW 11 rfl) rfl (show _ < 768 by omega) (by first | omega | exact mLn_lt _) ((congrFun (sl_a n6.symm) _).trans ((congrFun (sl_a n5.symm) _).trans (congrFun ec _))) dX10_serve_170 ?_
              refine J_iast (pc := 171) (hO.a hW 11 rfl) rfl (show _ < 768 by omega) (by first | omega | exact mLn_lt _) dX10_serve_171 ?_
              refine J_iinc (pc := 172) dX10_serve_172 rfl (inc1 _) (by decide) ?_
              refine J_goto (pc := 175) (tgt := 108) dX10_serve_175 rfl ?_
              refine J_lvk (ih _ (((hO.wr hW rfl (by decide)).wr hW rfl (by decide)).wr hW rfl (by decide)) ?_ ?_ ?_ ?_ ?_) ⟨rfl, rfl, rfl, rfl, rfl, rfl, rfl, rfl, trivial⟩
              · intro k hk k8 k9 ka kb
                rw [sl_a (hW.ne hk rfl kb), sl_a (hW.ne hk rfl ka), sl_a (hW.ne hk rfl k9)]
                exact e0 k hk k8 k9 ka kb
              · rw [sl_a n3.symm, sl_a n2.symm, sl_a n1.symm]
                exact ew
              · rw [sl_a n5, sl_a n4, sl_s, ek, shf_s]
              · rw [sl_a n6, sl_s, sl_a n4.symm, ea, shf_s]
              · rw [sl_s, sl_a n6.symm, sl_a n5.symm, ec, shf_s]
        refine J_lvk (sloop 0 (Nat.zero_le _) _ (mOnly.rf.wr hW rfl (by decide)) ?_ sl_s ?_ ?_ ?_) ⟨rfl, rfl, rfl, rfl, rfl, rfl, rfl, rfl, trivial⟩
        · intro k hk k8 k9 ka kb
          exact sl_a (hW.ne hk rfl k8)
        · rw [shf_0]; exact sl_a (hW.ne rfl rfl (by decide))
        · rw [shf_0]; exact sl_a (hW.ne rfl rfl (by decide))
        · rw [shf_0]; exact sl_a (hW.ne rfl rfl (by decide))
      · refine J_vret (pc := 52) dX10_serve_52 rfl (by omega) (by omega) ?_
        refine ⟨rfl, ?_⟩
        rw [x_serve, if_neg hno, h0]
        split
        · exact hW
        · rw [if_pos rfl]; exact hW
    have loop : ∀ i, i ≤ x_firstQ X link → J l g mX10_serve hgt 0 0 (mPost b ad (x_serve X link)) 23 [(2, .int (nI i)), (0, .ref b), (1, .int (nI link))] [] S 0 0 := by
      refine down _ ?_ ?_
      · refine J_iload_n (pc := 23) dX10_serve_23 rfl rfl ?_
        refine J_iconst (pc := 24) (v := nI 4) dX10_serve_24 (by decide) ?_
        refine J_icmp_geN (pc := 25) (tgt := 47) dX10_serve_25 rfl (by omega) (by omega) (fun h0 => ?_) (fun h0 => ?_)
        · exact after
        · have hp : x_firstQ X link < 4 := by omega
          obtain ⟨q8, qw, qe⟩ := hW.2.2.2.2.2.2.1 (4 * link + x_firstQ X link) (by omega)
          refine J_aload_n (pc := 28) dX10_serve_28 rfl rfl ?_
          refine J_getr (pc := 29) (i := 8) cl8 hW.o (by decide) rfl (hW.r 8 rfl) kX10_25 dX10_serve_29 ?_
          refine J_iconst (pc := 32) (v := nI 4) dX10_serve_32 (by decide) ?_
          refine J_iload_n (pc := 33) dX10_serve_33 rfl rfl ?_
          first | refine J_imulN (pc := 34) dX10_serve_34 ?_ | refine J_imul (pc := 34) dX10_serve_34 ?_
          refine J_iload_n (pc := 35) dX10_serve_35 rfl rfl ?_
          first | refine J_iaddN (pc := 36) dX10_serve_36 ?_ | refine J_iadd (pc := 36) dX10_serve_36 ?_
          refine J_iald (pc := 37) (hW.a 8 rfl) rfl (show _ < 96 by omega) (by first | omega | exact mLn_lt _) qw dX10_serve_37 ?_
          refine J_if_neN (pc := 38) (tgt := 47) dX10_serve_38 rfl (by omega) (fun h1 => ?_) (fun h1 => ?_)
          · exact after
          · have := lst_is (f := fun p => decide ((xL X (4 * link + p)).length ≠ 0)) (n := 4) hp
            exact absurd h1 (of_decide_eq_true this)
      · intro i hi ih
        obtain ⟨q8, qw, qe⟩ := hW.2.2.2.2.2.2.1 (4 * link + i) (by omega)
        refine J_iload_n (pc := 23) dX10_serve_23 rfl rfl ?_
        refine J_iconst (pc := 24) (v := nI 4) dX10_serve_24 (by decide) ?_
        refine J_icmp_geN (pc := 25) (tgt := 47) dX10_serve_25 rfl (by omega) (by omega) (fun h0 => ?_) (fun h0 => ?_)
        · omega
        · refine J_aload_n (pc := 28) dX10_serve_28 rfl rfl ?_
          refine J_getr (pc := 29) (i := 8) cl8 hW.o (by decide) rfl (hW.r 8 rfl) kX10_25 dX10_serve_29 ?_
          refine J_iconst (pc := 32) (v := nI 4) dX10_serve_32 (by decide) ?_
          refine J_iload_n (pc := 33) dX10_serve_33 rfl rfl ?_
          first | refine J_imulN (pc := 34) dX10_serve_34 ?_ | refine J_imul (pc := 34) dX10_serve_34 ?_
          refine J_iload_n (pc := 35) dX10_serve_35 rfl rfl ?_
          first | refine J_iaddN (pc := 36) dX10_serve_36 ?_ | refine J_iadd (pc := 36) dX10_serve_36 ?_
          refine J_iald (pc := 37) (hW.a 8 rfl) rfl (show _ < 96 by omega) (by first | omega | exact mLn_lt _) qw dX10_serve_37 ?_
          refine J_if_neN (pc := 38) (tgt := 47) dX10_serve_38 rfl (by omega) (fun h1 => ?_) (fun h1 => ?_)
          · have := lst_no (f := fun p => decide ((xL X (4 * link + p)).length ≠ 0)) (n := 4) hi
            exact absurd h1 (fun z => of_decide_eq_false this z)
          · refine J_iinc (pc := 41) dX10_serve_41 rfl (inc1 _) (by decide) ?_
            refine J_goto (pc := 44) (tgt := 23) dX10_serve_44 rfl ?_
            exact J_lvk ih ⟨rfl, rfl, rfl, trivial⟩
    exact J_lvk (loop 0 (Nat.zero_le _)) ⟨rfl, rfl, rfl, trivial⟩
  refine J_icmp_ltN (pc := 3) (tgt := 21) dX10_serve_3 rfl (by omega) (by omega) (fun h0 => ?_) (fun h0 => ?_)
  · exact J_lvk (tail (by omega)) ⟨rfl, rfl, trivial⟩
  · have hs := hI.sp (s := (link - 20) / 2) (by omega)
    refine J_aload_n (pc := 6) dX10_serve_6 rfl rfl ?_
    refine J_getr (pc := 7) (i := 12) cl8 hW.o (by decide) rfl (hW.r 12 rfl) kX10_37 dX10_serve_7 ?_
    refine J_iload_n (pc := 10) dX10_serve_10 rfl rfl ?_
    refine J_bipush (pc := 11) (v := nI 20) dX10_serve_11 (by decide) ?_
    first | refine J_isubN (pc := 13) dX10_serve_13 (by omega) ?_ | refine J_isub (pc := 13) dX10_serve_13 ?_
    refine J_iconst (pc := 14) (v := nI 2) dX10_serve_14 (by decide) ?_
    first | refine J_idivN (pc := 15) dX10_serve_15 (by omega) (by omega) (by omega) ?_ | refine J_idiv (pc := 15) dX10_serve_15 (by decide) ?_
    refine J_zald (pc := 16) (hW.a 12 rfl) rfl (show _ < 2 by omega) (by first | omega | exact mLn_lt _) (hW.2.2.2.1 _ (by omega)) dX10_serve_16 ?_
    refine J_if_eqN (pc := 17) (tgt := 21) dX10_serve_17 rfl (by omega) (fun h1 => ?_) (fun h1 => ?_)
    · exact J_lvk (tail (by omega)) ⟨rfl, rfl, trivial⟩
    · refine J_vret (pc := 20) dX10_serve_20 rfl (by omega) (by omega) ?_
      exact ⟨rfl, by rw [x_serve, if_pos (by omega)]; exact hW⟩
