def mE (k i : Nat) : Int32 := if k = 13 ∧ i < 2 then nI 1 else 0
/-- the reference while it is made: the arrays of the fields ds are there -/
def mNew (S : jS) (b : Nat) (ds : List Nat) : Prop := sAt S 8 b ∧ (∀ k, sI S 8 b k = 0) ∧ ∃ ad : Nat → Nat, (∀ k, k ∈ ds → sP S 8 b k = some (ad k) ∧ aAt S (mKd k) (ad k) (mLn k) ∧ ∀ i, sI S (mKd k) (ad k) i = mE k i) ∧ ∀ k k', k ∈ ds → k' ∈ ds → ad k = ad k' → k = k'
theorem mKd_ne (k : Nat) : (8 : Nat) ≠ mKd k := by
  unfold mKd
  split <;> decide
theorem mNew.step {S S2 : jS} {b : Nat} {ds : List Nat} (h : mNew S b ds) (k : Nat) (hk : k ∉ ds) {q : Nat} (hq : q ∉ S.1) (e1 : S2.1 = S.1 ++ [q]) (e2 : S2.2.1 = va_up S.2.1 q (mKd k)) (e3 : ∀ c a i, ¬ (c = mKd k ∧ a = q) → sP S2 c a i = sP S c a i) (e4 : sN S2 = va_up (sN S) q (mLn k)) (e5 : ∀ c a i, ¬ (c = mKd k ∧ a = q) → sI S2 c a i = sI S c a i) (e6 : ∀ i, sI S2 (mKd k) q i = mE k i) : mNew (uP S2 8 b k (some q)) b (k :: ds) := by
  obtain ⟨hO, hz, ad, hd, hi⟩ := h
  have hat : ∀ c a, sAt S c a → sAt S2 c a := fun c a z => ⟨by rw [e1]; exact List.mem_append_left _ z.1, by
    have hne : a ≠ q := fun e => hq (by rw [← e]; exact z.1)
    rw [e2, va_up_ne _ _ hne]
    exact z.2⟩
  have hnew : sAt S2 (mKd k) q := ⟨by rw [e1]; exact List.mem_append_right _ List.mem_cons_self, by rw [e2, va_up_self]⟩
  have hbq : b ≠ q := fun e => hq (by rw [← e]; exact hO.1)
  have hold : ∀ k', k' ∈ ds → ad k' ≠ q := fun k' hk' e => hq (by rw [← e]; exact (hd k' hk').2.1.1.1)
  refine ⟨hat _ _ hO, fun j => by rw [sI_uP, e5 _ _ _ (fun z => hbq z.2)]; exact hz j, va_up ad k q, fun k' hk' => ?_, fun k1 k2 h1 h2 he => ?_⟩
  · by_cases ek : k' = k
    · subst ek
      rw [va_up_self]
      exact ⟨sP_same _ _ _ _ _, ⟨hnew, by rw [sN_uP, e4, va_up_self]⟩, e6⟩
    · have hk' : k' ∈ ds := (List.mem_cons.mp hk').resolve_left ek
      obtain ⟨d1, d2, d3⟩ := hd k' hk'
      rw [va_up_ne _ _ ek]
      refine ⟨sP_nk ek ((e3 _ _ _ (fun z => hbq z.2)).trans d1), ⟨hat _ _ d2.1, by rw [sN_uP, e4, va_up_ne _ _ (hold k' hk')]; exact d2.2⟩, fun i => ?_⟩
      rw [sI_uP, e5 _ _ _ (fun z => hold k' hk' z.2)]
      exact d3 i
  · by_cases a1 : k1 = k
    · by_cases a2 : k2 = k
      · rw [a1, a2]
      · have h2 : k2 ∈ ds := (List.mem_cons.mp h2).resolve_left a2
        rw [a1, va_up_self, va_up_ne _ _ a2] at he
        exact absurd he.symm (hold k2 h2)
    · have h1 : k1 ∈ ds := (List.mem_cons.mp h1).resolve_left a1
      by_cases a2 : k2 = k
      · rw [a2, va_up_self, va_up_ne _ _ a1] at he
        exact absurd he (hold k1 h1)
      · have h2 : k2 ∈ ds := (List.mem_cons.mp h2).resolve_left a2
        rw [va_up_ne _ _ a1, va_up_ne _ _ a2] at he
        exact hi k1 k2 h1 h2 he
theorem mNew.step0 {S : jS} {b : Nat} {ds : List Nat} (h : mNew S b ds) (k : Nat) (hk : k ∉ ds) (h13 : k ≠ 13) {q : Nat} (hq : q ∉ S.1) : mNew (uP (nX S q (mKd k) (mLn k)) 8 b k (some q)) b (k :: ds) :=
  h.step k hk hq rfl rfl (fun c a i z => by rw [sP_new, if_neg z]) rfl (fun c a i z => by rw [sI_new, if_neg z]) (fun i => by rw [sI_new, if_pos ⟨rfl, rfl⟩, mE, if_neg (fun z => h13 z.1)])
theorem mNew.step13 {S : jS} {b : Nat} {ds : List Nat} (h : mNew S b ds) (hk : 13 ∉ ds) {q : Nat} (hq : q ∉ S.1) : mNew (uP (uI (uI (nX S q 9 2) 9 q 0 (nI 1)) 9 q 1 (nI 1)) 8 b 13 (some q)) b (13 :: ds) := by
  refine h.step 13 hk hq (S2 := uI (uI (nX S q 9 2) 9 q 0 (nI 1)) 9 q 1 (nI 1)) rfl rfl (fun c a i z => ?_) rfl (fun c a i z => ?_) (fun i => ?_)
  · have z : ¬ (c = 9 ∧ a = q) := z
    show sP (nX S q 9 2) c a i = _
    rw [sP_new, if_neg z]
  · have z : ¬ (c = 9 ∧ a = q) := z
    rw [sI_uI, if_neg (fun w => z ⟨w.1, w.2.1⟩), sI_uI, if_neg (fun w => z ⟨w.1, w.2.1⟩), sI_new, if_neg z]
  · show sI (uI (uI (nX S q 9 2) 9 q 0 (nI 1)) 9 q 1 (nI 1)) 9 q i = mE 13 i
    by_cases i1 : i = 1
    · subst i1
      rw [sI_same, mE, if_pos ⟨rfl, by decide⟩]
    · rw [sI_nk i1 rfl]
      by_cases i0 : i = 0
      · subst i0
        rw [sI_same, mE, if_pos ⟨rfl, by decide⟩]
      · rw [sI_nk i0 rfl, sI_new, if_pos ⟨rfl, rfl⟩, mE, if_neg (by omega)]
def x0 : XS := (fun f i => if f = 7 ∧ i < 2 then 1 else 0, fun _ => [], fun _ _ _ => false)
abbrev mAll : List Nat := [45, 44, 43, 42, 41, 40, 39, 38, 37, 36, 35, 34, 33, 32, 31, 30, 29, 28, 27, 26, 25, 24, 23, 22, 21, 20, 19, 18, 17, 16, 13, 12, 11, 10, 9, 8, 7, 6, 5, 4, 3]
theorem mAll_in : ∀ k, k < 46 → mArr k = true → k ∈ mAll := by decide
theorem mArr_lt {k : Nat} (h : mArr k = true) : k < 46 := by
  unfold mArr at h
  simp only [Bool.and_eq_true, decide_eq_true_eq] at h
  exact h.1.2
theorem mNew.done {S S' : jS} {b : Nat} {ad : Nat → Nat} (hO : sAt S 8 b) (hz : ∀ k, sI S 8 b k = 0) (hd : ∀ k, k ∈ mAll → sP S 8 b k = some (ad k) ∧ aAt S (mKd k) (ad k) (mLn k) ∧ ∀ i, sI S (mKd k) (ad k) i = mE k i) (hi : ∀ k k', k ∈ mAll → k' ∈ mAll → ad k = ad k' → k = k') (hs : mOnly ad [3] S S') (h3 : ∀ j, j < 24 → sI S' 9 (ad 3) j = -1) : WM S' b ad x0 := by
  have hsh : mShape S b ad := ⟨hO, fun k hk => (hd k (mAll_in k (mArr_lt hk) hk)).1, fun k hk => (hd k (mAll_in k (mArr_lt hk) hk)).2.1, fun k k' hk hk' => hi k k' (mAll_in k (mArr_lt hk) hk) (mAll_in k' (mArr_lt hk') hk')⟩
  have hsh' := hs.shape hsh
  obtain ⟨-, -, -, -, e8, e10, e9⟩ := hs
  have c9 : ∀ k, mArr k = true → k ≠ 3 → mKd k = 9 → ∀ i, sI S' 9 (ad k) i = mE k i := fun k hk h3 hkd i => by
    rw [e9 k hk (by simp [h3])]
    have := (hd k (mAll_in k (mArr_lt hk) hk)).2.2 i
    rw [hkd] at this
    exact this
  have c10 : ∀ k, mArr k = true → mKd k = 10 → ∀ i, sI S' 10 (ad k) i = mE k i := fun k hk hkd i => by
    rw [e10]
    have := (hd k (mAll_in k (mArr_lt hk) hk)).2.2 i
    rw [hkd] at this
    exact this
  refine ⟨hsh', fun f hf i hi => ?_, ?_, fun s hs => ?_, fun m hm i hi => ⟨?_, ?_⟩, fun k hk => ⟨fun _ => h3 k hk, fun e t z => by cases z⟩, fun q hq => ⟨Nat.zero_le _, ?_, fun i e z => by cases z⟩, fun h hh => ⟨Nat.zero_le _, ?_, fun i e z => by cases z⟩⟩
  · have hm := mK_arr f (mAttr_lt hf) hf
    rw [c9 _ hm.1 (fun z => mK_oth f (mAttr_lt hf) hf 3 (by decide) z.symm) hm.2]
    by_cases e7 : f = 7
    · subst e7
      have hi2 : i < 2 := hi
      rw [mE, if_pos ⟨rfl, hi2⟩]
      show nI 1 = nI (if 7 = 7 ∧ i < 2 then 1 else 0)
      rw [if_pos ⟨rfl, hi2⟩]
    · have : mK f ≠ 13 := fun z => e7 (mK_inj f (mAttr_lt hf) 7 (by decide) hf rfl z)
      rw [mE, if_neg (fun z => this z.1)]
      show 0 = nI (if f = 7 ∧ i < 2 then 1 else 0)
      rw [if_neg (fun z => e7 z.1)]
      rfl
  · unfold mSca
    rw [e8]
    exact ⟨hz 1, hz 2, hz 14, hz 15, hz 0⟩
  · rw [c10 12 rfl rfl]
    rfl
  · rw [c10 27 rfl rfl]
    rfl
  · rw [c10 35 rfl rfl]
    rfl
  · rw [c9 8 rfl (by decide) rfl]
    rfl
  · rw [c9 37 rfl (by decide) rfl]
    rfl
set_option maxRecDepth 100000 in
set_option maxHeartbeats 4000000 in
theorem cm_init (l : Launch) (g : jG) (hgt : Nat) {S : jS} {b : Nat} (hO : sAt S 8 b) (hz : ∀ k, sI S 8 b k = 0) (hh : 1 ≤ hgt) : CT l g mX10_init hgt 41 10300 [.ref b] S (fun r S' => r = none ∧ ∃ ad, WM S' b ad x0) := by
  have hN : mNew S b [] := ⟨hO, hz, fun _ => 0, (fun k hk => by cases hk), (fun k k' hk => by cases hk)⟩
  refine CT_of qX10_init (Nat.le_of_ble_eq_true rfl) ?_
  show J _ _ _ _ _ _ _ 0 [(0, .ref b)] [] S 0 0
  refine J_aload_n (pc := 0) dX10_init_0 rfl rfl ?_
  refine J_objInit (pc := 1) kX10_1 dX10_init_1 (by decide) hh ?_
  have hO := hN.1
  refine J_aload_n (pc := 4) dX10_init_4 rfl rfl ?_
  refine J_bipush (pc := 5) (v := nI 24) dX10_init_5 (by decide) ?_
  refine J_newaI (pc := 7) rfl (by decide) dX10_init_7 (by omega) (by omega) (fun q hq => ?_)
  refine J_putrF (pc := 9) (i := 3) cl8 (sAt_old hO hq) (by decide) rfl rfl rfl rfl rfl rfl kX10_7 dX10_init_9 ?_
  have hN : mNew (uP (nX S q 9 24) 8 b 3 (some q)) b [3] := hN.step0 3 (by decide) (by decide) hq
  generalize uP (nX S q 9 24) 8 b 3 (some q) = S at hN ⊢
  have hO := hN.1
  refine J_aload_n (pc := 12) dX10_init_12 rfl rfl ?_
  refine J_bipush (pc := 13) (v := nI 24) dX10_init_13 (by decide) ?_
  refine J_newaI (pc := 15) rfl (by decide) dX10_init_15 (by omega) (by omega) (fun q hq => ?_)
  refine J_putrF (pc := 17) (i := 4) cl8 (sAt_old hO hq) (by decide) rfl rfl rfl rfl rfl rfl kX10_13 dX10_init_17 ?_
  have hN : mNew (uP (nX S q 9 24) 8 b 4 (some q)) b [4, 3] := hN.step0 4 (by decide) (by decide) hq
  generalize uP (nX S q 9 24) 8 b 4 (some q) = S at hN ⊢
  have hO := hN.1
  refine J_aload_n (pc := 20) dX10_init_20 rfl rfl ?_
  refine J_bipush (pc := 21) (v := nI 24) dX10_init_21 (by decide) ?_
  refine J_newaI (pc := 23) rfl (by decide) dX10_init_23 (by omega) (by omega) (fun q hq => ?_)
  refine J_putrF (pc := 25) (i := 5) cl8 (sAt_old hO hq) (by decide) rfl rfl rfl rfl rfl rfl kX10_16 dX10_init_25 ?_
  have hN : mNew (uP (nX S q 9 24) 8 b 5 (some q)) b [5, 4, 3] := hN.step0 5 (by decide) (by decide) hq
  generalize uP (nX S q 9 24) 8 b 5 (some q) = S at hN ⊢
  have hO := hN.1
  refine J_aload_n (pc := 28) dX10_init_28 rfl rfl ?_
  refine J_bipush (pc := 29) (v := nI 24) dX10_init_29 (by decide) ?_
  refine J_newaI (pc := 31) rfl (by decide) dX10_init_31 (by omega) (by omega) (fun q hq => ?_)
  refine J_putrF (pc := 33) (i := 6) cl8 (sAt_old hO hq) (by decide) rfl rfl rfl rfl rfl rfl kX10_19 dX10_init_33 ?_
  have hN : mNew (uP (nX S q 9 24) 8 b 6 (some q)) b [6, 5, 4, 3] := hN.step0 6 (by decide) (by decide) hq
  generalize uP (nX S q 9 24) 8 b 6 (some q) = S at hN ⊢
  have hO := hN.1
  refine J_aload_n (pc := 36) dX10_init_36 rfl rfl ?_
  refine J_bipush (pc := 37) (v := nI 24) dX10_init_37 (by decide) ?_
  refine J_newaI (pc := 39) rfl (by decide) dX10_init_39 (by omega) (by omega) (fun q hq => ?_)
  refine J_putrF (pc := 41) (i := 7) cl8 (sAt_old hO hq) (by decide) rfl rfl rfl rfl rfl rfl kX10_22 dX10_init_41 ?_
  have hN : mNew (uP (nX S q 9 24) 8 b 7 (some q)) b [7, 6, 5, 4, 3] := hN.step0 7 (by decide) (by decide) hq
  generalize uP (nX S q 9 24) 8 b 7 (some q) = S at hN ⊢
  have hO := hN.1
  refine J_aload_n (pc := 44) dX10_init_44 rfl rfl ?_
  refine J_bipush (pc := 45) (v := nI 96) dX10_init_45 (by decide) ?_
  refine J_newaI (pc := 47) rfl (by decide) dX10_init_47 (by omega) (by omega) (fun q hq => ?_)
  refine J_putrF (pc := 49) (i := 8) cl8 (sAt_old hO hq) (by decide) rfl rfl rfl rfl rfl rfl kX10_25 dX10_init_49 ?_
  have hN : mNew (uP (nX S q 9 96) 8 b 8 (some q)) b [8, 7, 6, 5, 4, 3] := hN.step0 8 (by decide) (by decide) hq
  generalize uP (nX S q 9 96) 8 b 8 (some q) = S at hN ⊢
  have hO := hN.1
  refine J_aload_n (pc := 52) dX10_init_52 rfl rfl ?_
  refine J_sipush (pc := 53) (v := nI 768) dX10_init_53 (by decide) ?_
  refine J_newaI (pc := 56) rfl (by decide) dX10_init_56 (by omega) (by omega) (fun q hq => ?_)
  refine J_putrF (pc := 58) (i := 9) cl8 (sAt_old hO hq) (by decide) rfl rfl rfl rfl rfl rfl kX10_28 dX10_init_58 ?_
  have hN : mNew (uP (nX S q 9 768) 8 b 9 (some q)) b [9, 8, 7, 6, 5, 4, 3] := hN.step0 9 (by decide) (by decide) hq
  generalize uP (nX S q 9 768) 8 b 9 (some q) = S at hN ⊢
  have hO := hN.1
  refine J_aload_n (pc := 61) dX10_init_61 rfl rfl ?_
  refine J_sipush (pc := 62) (v := nI 768) dX10_init_62 (by decide) ?_
  refine J_newaI (pc := 65) rfl (by decide) dX10_init_65 (by omega) (by omega) (fun q hq => ?_)
  refine J_putrF (pc := 67) (i := 10) cl8 (sAt_old hO hq) (by decide) rfl rfl rfl rfl rfl rfl kX10_31 dX10_init_67 ?_
  have hN : mNew (uP (nX S q 9 768) 8 b 10 (some q)) b [10, 9, 8, 7, 6, 5, 4, 3] := hN.step0 10 (by decide) (by decide) hq
  generalize uP (nX S q 9 768) 8 b 10 (some q) = S at hN ⊢
  have hO := hN.1
  refine J_aload_n (pc := 70) dX10_init_70 rfl rfl ?_
  refine J_sipush (pc := 71) (v := nI 768) dX10_init_71 (by decide) ?_
  refine J_newaI (pc := 74) rfl (by decide) dX10_init_74 (by omega) (by omega) (fun q hq => ?_)
  refine J_putrF (pc := 76) (i := 11) cl8 (sAt_old hO hq) (by decide) rfl rfl rfl rfl rfl rfl kX10_34 dX10_init_76 ?_
  have hN : mNew (uP (nX S q 9 768) 8 b 11 (some q)) b [11, 10, 9, 8, 7, 6, 5, 4, 3] := hN.step0 11 (by decide) (by decide) hq
  generalize uP (nX S q 9 768) 8 b 11 (some q) = S at hN ⊢
  have hO := hN.1
  refine J_aload_n (pc := 79) dX10_init_79 rfl rfl ?_
  refine J_iconst (pc := 80) (v := nI 2) dX10_init_80 (by decide) ?_
  refine J_newaZ (pc := 81) rfl (by decide) dX10_init_81 (by omega) (by omega) (fun q hq => ?_)
  refine J_putrF (pc := 83) (i := 12) cl8 (sAt_old hO hq) (by decide) rfl rfl rfl rfl rfl rfl kX10_37 dX10_init_83 ?_
  have hN : mNew (uP (nX S q 10 2) 8 b 12 (some q)) b [12, 11, 10, 9, 8, 7, 6, 5, 4, 3] := hN.step0 12 (by decide) (by decide) hq
  generalize uP (nX S q 10 2) 8 b 12 (some q) = S at hN ⊢
  have hO := hN.1
  refine J_aload_n (pc := 86) dX10_init_86 rfl rfl ?_
  refine J_iconst (pc := 87) (v := nI 2) dX10_init_87 (by decide) ?_
  refine J_newaI (pc := 88) rfl (by decide) dX10_init_88 (by omega) (by omega) (fun q hq => ?_)
  have hA : aAt (nX S q 9 2) 9 q 2 := ⟨sAt_new, va_up_self _ _ _⟩
  refine J_dup (pc := 90) dX10_init_90 rfl ?_
  refine J_iconst (pc := 91) (v := nI 0) dX10_init_91 (by decide) ?_
  refine J_iconst (pc := 92) (v := nI 1) dX10_init_92 (by decide) ?_
  refine J_iast (pc := 93) hA rfl (show 0 < 2 by decide) (by first | omega | exact mLn_lt _) dX10_init_93 ?_
  refine J_dup (pc := 94) dX10_init_94 rfl ?_
  refine J_iconst (pc := 95) (v := nI 1) dX10_init_95 (by decide) ?_
  refine J_iconst (pc := 96) (v := nI 1) dX10_init_96 (by decide) ?_
  refine J_iast (pc := 97) hA rfl (show 1 < 2 by decide) (by first | omega | exact mLn_lt _) dX10_init_97 ?_
  refine J_putrF (pc := 98) (i := 13) cl8 (sAt_old (n := 2) hO hq) (by decide) rfl rfl rfl rfl rfl rfl kX10_41 dX10_init_98 ?_
  have hN : mNew (uP (uI (uI (nX S q 9 2) 9 q 0 (nI 1)) 9 q 1 (nI 1)) 8 b 13 (some q)) b [13, 12, 11, 10, 9, 8, 7, 6, 5, 4, 3] := hN.step13 (by decide) hq
  generalize uP (uI (uI (nX S q 9 2) 9 q 0 (nI 1)) 9 q 1 (nI 1)) 8 b 13 (some q) = S at hN ⊢
  have hO := hN.1
  refine J_aload_n (pc := 101) dX10_init_101 rfl rfl ?_
  refine J_bipush (pc := 102) (v := nI 48) dX10_init_102 (by decide) ?_
  refine J_newaI (pc := 104) rfl (by decide) dX10_init_104 (by omega) (by omega) (fun q hq => ?_)
  refine J_putrF (pc := 106) (i := 16) cl8 (sAt_old hO hq) (by decide) rfl rfl rfl rfl rfl rfl kX10_44 dX10_init_106 ?_
  have hN : mNew (uP (nX S q 9 48) 8 b 16 (some q)) b [16, 13, 12, 11, 10, 9, 8, 7, 6, 5, 4, 3] := hN.step0 16 (by decide) (by decide) hq
  generalize uP (nX S q 9 48) 8 b 16 (some q) = S at hN ⊢
  have hO := hN.1
  refine J_aload_n (pc := 109) dX10_init_109 rfl rfl ?_
  refine J_bipush (pc := 110) (v := nI 48) dX10_init_110 (by decide) ?_
  refine J_newaI (pc := 112) rfl (by decide) dX10_init_112 (by omega) (by omega) (fun q hq => ?_)
  refine J_putrF (pc := 114) (i := 17) cl8 (sAt_old hO hq) (by decide) rfl rfl rfl rfl rfl rfl kX10_47 dX10_init_114 ?_
  have hN : mNew (uP (nX S q 9 48) 8 b 17 (some q)) b [17, 16, 13, 12, 11, 10, 9, 8, 7, 6, 5, 4, 3] := hN.step0 17 (by decide) (by decide) hq
  generalize uP (nX S q 9 48) 8 b 17 (some q) = S at hN ⊢
  have hO := hN.1
  refine J_aload_n (pc := 117) dX10_init_117 rfl rfl ?_
  refine J_bipush (pc := 118) (v := nI 48) dX10_init_118 (by decide) ?_
  refine J_newaI (pc := 120) rfl (by decide) dX10_init_120 (by omega) (by omega) (fun q hq => ?_)
  refine J_putrF (pc := 122) (i := 18) cl8 (sAt_old hO hq) (by decide) rfl rfl rfl rfl rfl rfl kX10_50 dX10_init_122 ?_
  have hN : mNew (uP (nX S q 9 48) 8 b 18 (some q)) b [18, 17, 16, 13, 12, 11, 10, 9, 8, 7, 6, 5, 4, 3] := hN.step0 18 (by decide) (by decide) hq
  generalize uP (nX S q 9 48) 8 b 18 (some q) = S at hN ⊢
  have hO := hN.1
  refine J_aload_n (pc := 125) dX10_init_125 rfl rfl ?_
  refine J_bipush (pc := 126) (v := nI 48) dX10_init_126 (by decide) ?_
  refine J_newaI (pc := 128) rfl (by decide) dX10_init_128 (by omega) (by omega) (fun q hq => ?_)
  refine J_putrF (pc := 130) (i := 19) cl8 (sAt_old hO hq) (by decide) rfl rfl rfl rfl rfl rfl kX10_53 dX10_init_130 ?_
  have hN : mNew (uP (nX S q 9 48) 8 b 19 (some q)) b [19, 18, 17, 16, 13, 12, 11, 10, 9, 8, 7, 6, 5, 4, 3] := hN.step0 19 (by decide) (by decide) hq
  generalize uP (nX S q 9 48) 8 b 19 (some q) = S at hN ⊢
  have hO := hN.1
  refine J_aload_n (pc := 133) dX10_init_133 rfl rfl ?_
  refine J_bipush (pc := 134) (v := nI 48) dX10_init_134 (by decide) ?_
  refine J_newaI (pc := 136) rfl (by decide) dX10_init_136 (by omega) (by omega) (fun q hq => ?_)
  refine J_putrF (pc := 138) (i := 20) cl8 (sAt_old hO hq) (by decide) rfl rfl rfl rfl rfl rfl kX10_56 dX10_init_138 ?_
  have hN : mNew (uP (nX S q 9 48) 8 b 20 (some q)) b [20, 19, 18, 17, 16, 13, 12, 11, 10, 9, 8, 7, 6, 5, 4, 3] := hN.step0 20 (by decide) (by decide) hq
  generalize uP (nX S q 9 48) 8 b 20 (some q) = S at hN ⊢
  have hO := hN.1
  refine J_aload_n (pc := 141) dX10_init_141 rfl rfl ?_
  refine J_bipush (pc := 142) (v := nI 48) dX10_init_142 (by decide) ?_
  refine J_newaI (pc := 144) rfl (by decide) dX10_init_144 (by omega) (by omega) (fun q hq => ?_)
  refine J_putrF (pc := 146) (i := 21) cl8 (sAt_old hO hq) (by decide) rfl rfl rfl rfl rfl rfl kX10_59 dX10_init_146 ?_
  have hN : mNew (uP (nX S q 9 48) 8 b 21 (some q)) b [21, 20, 19, 18, 17, 16, 13, 12, 11, 10, 9, 8, 7, 6, 5, 4, 3] := hN.step0 21 (by decide) (by decide) hq
  generalize uP (nX S q 9 48) 8 b 21 (some q) = S at hN ⊢
  have hO := hN.1
  refine J_aload_n (pc := 149) dX10_init_149 rfl rfl ?_
  refine J_bipush (pc := 150) (v := nI 48) dX10_init_150 (by decide) ?_
  refine J_newaI (pc := 152) rfl (by decide) dX10_init_152 (by omega) (by omega) (fun q hq => ?_)
  refine J_putrF (pc := 154) (i := 22) cl8 (sAt_old hO hq) (by decide) rfl rfl rfl rfl rfl rfl kX10_62 dX10_init_154 ?_
  have hN : mNew (uP (nX S q 9 48) 8 b 22 (some q)) b [22, 21, 20, 19, 18, 17, 16, 13, 12, 11, 10, 9, 8, 7, 6, 5, 4, 3] := hN.step0 22 (by decide) (by decide) hq
  generalize uP (nX S q 9 48) 8 b 22 (some q) = S at hN ⊢
  have hO := hN.1
  refine J_aload_n (pc := 157) dX10_init_157 rfl rfl ?_
  refine J_bipush (pc := 158) (v := nI 48) dX10_init_158 (by decide) ?_
  refine J_newaI (pc := 160) rfl (by decide) dX10_init_160 (by omega) (by omega) (fun q hq => ?_)
  refine J_putrF (pc := 162) (i := 23) cl8 (sAt_old hO hq) (by decide) rfl rfl rfl rfl rfl rfl kX10_65 dX10_init_162 ?_
  have hN : mNew (uP (nX S q 9 48) 8 b 23 (some q)) b [23, 22, 21, 20, 19, 18, 17, 16, 13, 12, 11, 10, 9, 8, 7, 6, 5, 4, 3] := hN.step0 23 (by decide) (by decide) hq
  generalize uP (nX S q 9 48) 8 b 23 (some q) = S at hN ⊢
  have hO := hN.1
  refine J_aload_n (pc := 165) dX10_init_165 rfl rfl ?_
  refine J_bipush (pc := 166) (v := nI 48) dX10_init_166 (by decide) ?_
  refine J_newaI (pc := 168) rfl (by decide) dX10_init_168 (by omega) (by omega) (fun q hq => ?_)
  refine J_putrF (pc := 170) (i := 24) cl8 (sAt_old hO hq) (by decide) rfl rfl rfl rfl rfl rfl kX10_68 dX10_init_170 ?_
  have hN : mNew (uP (nX S q 9 48) 8 b 24 (some q)) b [24, 23, 22, 21, 20, 19, 18, 17, 16, 13, 12, 11, 10, 9, 8, 7, 6, 5, 4, 3] := hN.step0 24 (by decide) (by decide) hq
  generalize uP (nX S q 9 48) 8 b 24 (some q) = S at hN ⊢
  have hO := hN.1
  refine J_aload_n (pc := 173) dX10_init_173 rfl rfl ?_
  refine J_bipush (pc := 174) (v := nI 48) dX10_init_174 (by decide) ?_
  refine J_newaI (pc := 176) rfl (by decide) dX10_init_176 (by omega) (by omega) (fun q hq => ?_)
  refine J_putrF (pc := 178) (i := 25) cl8 (sAt_old hO hq) (by decide) rfl rfl rfl rfl rfl rfl kX10_71 dX10_init_178 ?_
  have hN : mNew (uP (nX S q 9 48) 8 b 25 (some q)) b [25, 24, 23, 22, 21, 20, 19, 18, 17, 16, 13, 12, 11, 10, 9, 8, 7, 6, 5, 4, 3] := hN.step0 25 (by decide) (by decide) hq
  generalize uP (nX S q 9 48) 8 b 25 (some q) = S at hN ⊢
  have hO := hN.1
  refine J_aload_n (pc := 181) dX10_init_181 rfl rfl ?_
  refine J_bipush (pc := 182) (v := nI 48) dX10_init_182 (by decide) ?_
  refine J_newaI (pc := 184) rfl (by decide) dX10_init_184 (by omega) (by omega) (fun q hq => ?_)
  refine J_putrF (pc := 186) (i := 26) cl8 (sAt_old hO hq) (by decide) rfl rfl rfl rfl rfl rfl kX10_74 dX10_init_186 ?_
  have hN : mNew (uP (nX S q 9 48) 8 b 26 (some q)) b [26, 25, 24, 23, 22, 21, 20, 19, 18, 17, 16, 13, 12, 11, 10, 9, 8, 7, 6, 5, 4, 3] := hN.step0 26 (by decide) (by decide) hq
  generalize uP (nX S q 9 48) 8 b 26 (some q) = S at hN ⊢
  have hO := hN.1
  refine J_aload_n (pc := 189) dX10_init_189 rfl rfl ?_
  refine J_sipush (pc := 190) (v := nI 2880) dX10_init_190 (by decide) ?_
  refine J_newaZ (pc := 193) rfl (by decide) dX10_init_193 (by omega) (by omega) (fun q hq => ?_)
  refine J_putrF (pc := 195) (i := 27) cl8 (sAt_old hO hq) (by decide) rfl rfl rfl rfl rfl rfl kX10_77 dX10_init_195 ?_
  have hN : mNew (uP (nX S q 10 2880) 8 b 27 (some q)) b [27, 26, 25, 24, 23, 22, 21, 20, 19, 18, 17, 16, 13, 12, 11, 10, 9, 8, 7, 6, 5, 4, 3] := hN.step0 27 (by decide) (by decide) hq
  generalize uP (nX S q 10 2880) 8 b 27 (some q) = S at hN ⊢
  have hO := hN.1
  refine J_aload_n (pc := 198) dX10_init_198 rfl rfl ?_
  refine J_bipush (pc := 199) (v := nI 48) dX10_init_199 (by decide) ?_
  refine J_newaI (pc := 201) rfl (by decide) dX10_init_201 (by omega) (by omega) (fun q hq => ?_)
  refine J_putrF (pc := 203) (i := 28) cl8 (sAt_old hO hq) (by decide) rfl rfl rfl rfl rfl rfl kX10_80 dX10_init_203 ?_
  have hN : mNew (uP (nX S q 9 48) 8 b 28 (some q)) b [28, 27, 26, 25, 24, 23, 22, 21, 20, 19, 18, 17, 16, 13, 12, 11, 10, 9, 8, 7, 6, 5, 4, 3] := hN.step0 28 (by decide) (by decide) hq
  generalize uP (nX S q 9 48) 8 b 28 (some q) = S at hN ⊢
  have hO := hN.1
  refine J_aload_n (pc := 206) dX10_init_206 rfl rfl ?_
  refine J_bipush (pc := 207) (v := nI 48) dX10_init_207 (by decide) ?_
  refine J_newaI (pc := 209) rfl (by decide) dX10_init_209 (by omega) (by omega) (fun q hq => ?_)
  refine J_putrF (pc := 211) (i := 29) cl8 (sAt_old hO hq) (by decide) rfl rfl rfl rfl rfl rfl kX10_83 dX10_init_211 ?_
  have hN : mNew (uP (nX S q 9 48) 8 b 29 (some q)) b [29, 28, 27, 26, 25, 24, 23, 22, 21, 20, 19, 18, 17, 16, 13, 12, 11, 10, 9, 8, 7, 6, 5, 4, 3] := hN.step0 29 (by decide) (by decide) hq
  generalize uP (nX S q 9 48) 8 b 29 (some q) = S at hN ⊢
  have hO := hN.1
  refine J_aload_n (pc := 214) dX10_init_214 rfl rfl ?_
  refine J_bipush (pc := 215) (v := nI 48) dX10_init_215 (by decide) ?_
  refine J_newaI (pc := 217) rfl (by decide) dX10_init_217 (by omega) (by omega) (fun q hq => ?_)
  refine J_putrF (pc := 219) (i := 30) cl8 (sAt_old hO hq) (by decide) rfl rfl rfl rfl rfl rfl kX10_86 dX10_init_219 ?_
  have hN : mNew (uP (nX S q 9 48) 8 b 30 (some q)) b [30, 29, 28, 27, 26, 25, 24, 23, 22, 21, 20, 19, 18, 17, 16, 13, 12, 11, 10, 9, 8, 7, 6, 5, 4, 3] := hN.step0 30 (by decide) (by decide) hq
  generalize uP (nX S q 9 48) 8 b 30 (some q) = S at hN ⊢
  have hO := hN.1
  refine J_aload_n (pc := 222) dX10_init_222 rfl rfl ?_
  refine J_bipush (pc := 223) (v := nI 48) dX10_init_223 (by decide) ?_
  refine J_newaI (pc := 225) rfl (by decide) dX10_init_225 (by omega) (by omega) (fun q hq => ?_)
  refine J_putrF (pc := 227) (i := 31) cl8 (sAt_old hO hq) (by decide) rfl rfl rfl rfl rfl rfl kX10_89 dX10_init_227 ?_
  have hN : mNew (uP (nX S q 9 48) 8 b 31 (some q)) b [31, 30, 29, 28, 27, 26, 25, 24, 23, 22, 21, 20, 19, 18, 17, 16, 13, 12, 11, 10, 9, 8, 7, 6, 5, 4, 3] := hN.step0 31 (by decide) (by decide) hq
  generalize uP (nX S q 9 48) 8 b 31 (some q) = S at hN ⊢
  have hO := hN.1
  refine J_aload_n (pc := 230) dX10_init_230 rfl rfl ?_
  refine J_bipush (pc := 231) (v := nI 48) dX10_init_231 (by decide) ?_
  refine J_newaI (pc := 233) rfl (by decide) dX10_init_233 (by omega) (by omega) (fun q hq => ?_)
  refine J_putrF (pc := 235) (i := 32) cl8 (sAt_old hO hq) (by decide) rfl rfl rfl rfl rfl rfl kX10_92 dX10_init_235 ?_
  have hN : mNew (uP (nX S q 9 48) 8 b 32 (some q)) b [32, 31, 30, 29, 28, 27, 26, 25, 24, 23, 22, 21, 20, 19, 18, 17, 16, 13, 12, 11, 10, 9, 8, 7, 6, 5, 4, 3] := hN.step0 32 (by decide) (by decide) hq
  generalize uP (nX S q 9 48) 8 b 32 (some q) = S at hN ⊢
  have hO := hN.1
  refine J_aload_n (pc := 238) dX10_init_238 rfl rfl ?_
  refine J_bipush (pc := 239) (v := nI 48) dX10_init_239 (by decide) ?_
  refine J_newaI (pc := 241) rfl (by decide) dX10_init_241 (by omega) (by omega) (fun q hq => ?_)
  refine J_putrF (pc := 243) (i := 33) cl8 (sAt_old hO hq) (by decide) rfl rfl rfl rfl rfl rfl kX10_95 dX10_init_243 ?_
  have hN : mNew (uP (nX S q 9 48) 8 b 33 (some q)) b [33, 32, 31, 30, 29, 28, 27, 26, 25, 24, 23, 22, 21, 20, 19, 18, 17, 16, 13, 12, 11, 10, 9, 8, 7, 6, 5, 4, 3] := hN.step0 33 (by decide) (by decide) hq
  generalize uP (nX S q 9 48) 8 b 33 (some q) = S at hN ⊢
  have hO := hN.1
  refine J_aload_n (pc := 246) dX10_init_246 rfl rfl ?_
  refine J_bipush (pc := 247) (v := nI 48) dX10_init_247 (by decide) ?_
  refine J_newaI (pc := 249) rfl (by decide) dX10_init_249 (by omega) (by omega) (fun q hq => ?_)
  refine J_putrF (pc := 251) (i := 34) cl8 (sAt_old hO hq) (by decide) rfl rfl rfl rfl rfl rfl kX10_98 dX10_init_251 ?_
  have hN : mNew (uP (nX S q 9 48) 8 b 34 (some q)) b [34, 33, 32, 31, 30, 29, 28, 27, 26, 25, 24, 23, 22, 21, 20, 19, 18, 17, 16, 13, 12, 11, 10, 9, 8, 7, 6, 5, 4, 3] := hN.step0 34 (by decide) (by decide) hq
  generalize uP (nX S q 9 48) 8 b 34 (some q) = S at hN ⊢
  have hO := hN.1
  refine J_aload_n (pc := 254) dX10_init_254 rfl rfl ?_
  refine J_sipush (pc := 255) (v := nI 2880) dX10_init_255 (by decide) ?_
  refine J_newaZ (pc := 258) rfl (by decide) dX10_init_258 (by omega) (by omega) (fun q hq => ?_)
  refine J_putrF (pc := 260) (i := 35) cl8 (sAt_old hO hq) (by decide) rfl rfl rfl rfl rfl rfl kX10_101 dX10_init_260 ?_
  have hN : mNew (uP (nX S q 10 2880) 8 b 35 (some q)) b [35, 34, 33, 32, 31, 30, 29, 28, 27, 26, 25, 24, 23, 22, 21, 20, 19, 18, 17, 16, 13, 12, 11, 10, 9, 8, 7, 6, 5, 4, 3] := hN.step0 35 (by decide) (by decide) hq
  generalize uP (nX S q 10 2880) 8 b 35 (some q) = S at hN ⊢
  have hO := hN.1
  refine J_aload_n (pc := 263) dX10_init_263 rfl rfl ?_
  refine J_bipush (pc := 264) (v := nI 8) dX10_init_264 (by decide) ?_
  refine J_newaI (pc := 266) rfl (by decide) dX10_init_266 (by omega) (by omega) (fun q hq => ?_)
  refine J_putrF (pc := 268) (i := 36) cl8 (sAt_old hO hq) (by decide) rfl rfl rfl rfl rfl rfl kX10_104 dX10_init_268 ?_
  have hN : mNew (uP (nX S q 9 8) 8 b 36 (some q)) b [36, 35, 34, 33, 32, 31, 30, 29, 28, 27, 26, 25, 24, 23, 22, 21, 20, 19, 18, 17, 16, 13, 12, 11, 10, 9, 8, 7, 6, 5, 4, 3] := hN.step0 36 (by decide) (by decide) hq
  generalize uP (nX S q 9 8) 8 b 36 (some q) = S at hN ⊢
  have hO := hN.1
  refine J_aload_n (pc := 271) dX10_init_271 rfl rfl ?_
  refine J_bipush (pc := 272) (v := nI 8) dX10_init_272 (by decide) ?_
  refine J_newaI (pc := 274) rfl (by decide) dX10_init_274 (by omega) (by omega) (fun q hq => ?_)
  refine J_putrF (pc := 276) (i := 37) cl8 (sAt_old hO hq) (by decide) rfl rfl rfl rfl rfl rfl kX10_107 dX10_init_276 ?_
  have hN : mNew (uP (nX S q 9 8) 8 b 37 (some q)) b [37, 36, 35, 34, 33, 32, 31, 30, 29, 28, 27, 26, 25, 24, 23, 22, 21, 20, 19, 18, 17, 16, 13, 12, 11, 10, 9, 8, 7, 6, 5, 4, 3] := hN.step0 37 (by decide) (by decide) hq
  generalize uP (nX S q 9 8) 8 b 37 (some q) = S at hN ⊢
  have hO := hN.1
  refine J_aload_n (pc := 279) dX10_init_279 rfl rfl ?_
  refine J_sipush (pc := 280) (v := nI 192) dX10_init_280 (by decide) ?_
  refine J_newaI (pc := 283) rfl (by decide) dX10_init_283 (by omega) (by omega) (fun q hq => ?_)
  refine J_putrF (pc := 285) (i := 38) cl8 (sAt_old hO hq) (by decide) rfl rfl rfl rfl rfl rfl kX10_110 dX10_init_285 ?_
  have hN : mNew (uP (nX S q 9 192) 8 b 38 (some q)) b [38, 37, 36, 35, 34, 33, 32, 31, 30, 29, 28, 27, 26, 25, 24, 23, 22, 21, 20, 19, 18, 17, 16, 13, 12, 11, 10, 9, 8, 7, 6, 5, 4, 3] := hN.step0 38 (by decide) (by decide) hq
  generalize uP (nX S q 9 192) 8 b 38 (some q) = S at hN ⊢
  have hO := hN.1
  refine J_aload_n (pc := 288) dX10_init_288 rfl rfl ?_
  refine J_sipush (pc := 289) (v := nI 192) dX10_init_289 (by decide) ?_
  refine J_newaI (pc := 292) rfl (by decide) dX10_init_292 (by omega) (by omega) (fun q hq => ?_)
  refine J_putrF (pc := 294) (i := 39) cl8 (sAt_old hO hq) (by decide) rfl rfl rfl rfl rfl rfl kX10_113 dX10_init_294 ?_
  have hN : mNew (uP (nX S q 9 192) 8 b 39 (some q)) b [39, 38, 37, 36, 35, 34, 33, 32, 31, 30, 29, 28, 27, 26, 25, 24, 23, 22, 21, 20, 19, 18, 17, 16, 13, 12, 11, 10, 9, 8, 7, 6, 5, 4, 3] := hN.step0 39 (by decide) (by decide) hq
  generalize uP (nX S q 9 192) 8 b 39 (some q) = S at hN ⊢
  have hO := hN.1
  refine J_aload_n (pc := 297) dX10_init_297 rfl rfl ?_
  refine J_sipush (pc := 298) (v := nI 192) dX10_init_298 (by decide) ?_
  refine J_newaI (pc := 301) rfl (by decide) dX10_init_301 (by omega) (by omega) (fun q hq => ?_)
  refine J_putrF (pc := 303) (i := 40) cl8 (sAt_old hO hq) (by decide) rfl rfl rfl rfl rfl rfl kX10_116 dX10_init_303 ?_
  have hN : mNew (uP (nX S q 9 192) 8 b 40 (some q)) b [40, 39, 38, 37, 36, 35, 34, 33, 32, 31, 30, 29, 28, 27, 26, 25, 24, 23, 22, 21, 20, 19, 18, 17, 16, 13, 12, 11, 10, 9, 8, 7, 6, 5, 4, 3] := hN.step0 40 (by decide) (by decide) hq
  generalize uP (nX S q 9 192) 8 b 40 (some q) = S at hN ⊢
  have hO := hN.1
  refine J_aload_n (pc := 306) dX10_init_306 rfl rfl ?_
  refine J_bipush (pc := 307) (v := nI 8) dX10_init_307 (by decide) ?_
  refine J_newaI (pc := 309) rfl (by decide) dX10_init_309 (by omega) (by omega) (fun q hq => ?_)
  refine J_putrF (pc := 311) (i := 41) cl8 (sAt_old hO hq) (by decide) rfl rfl rfl rfl rfl rfl kX10_119 dX10_init_311 ?_
  have hN : mNew (uP (nX S q 9 8) 8 b 41 (some q)) b [41, 40, 39, 38, 37, 36, 35, 34, 33, 32, 31, 30, 29, 28, 27, 26, 25, 24, 23, 22, 21, 20, 19, 18, 17, 16, 13, 12, 11, 10, 9, 8, 7, 6, 5, 4, 3] := hN.step0 41 (by decide) (by decide) hq
  generalize uP (nX S q 9 8) 8 b 41 (some q) = S at hN ⊢
  have hO := hN.1
  refine J_aload_n (pc := 314) dX10_init_314 rfl rfl ?_
  refine J_bipush (pc := 315) (v := nI 24) dX10_init_315 (by decide) ?_
  refine J_newaI (pc := 317) rfl (by decide) dX10_init_317 (by omega) (by omega) (fun q hq => ?_)
  refine J_putrF (pc := 319) (i := 42) cl8 (sAt_old hO hq) (by decide) rfl rfl rfl rfl rfl rfl kX10_122 dX10_init_319 ?_
  have hN : mNew (uP (nX S q 9 24) 8 b 42 (some q)) b [42, 41, 40, 39, 38, 37, 36, 35, 34, 33, 32, 31, 30, 29, 28, 27, 26, 25, 24, 23, 22, 21, 20, 19, 18, 17, 16, 13, 12, 11, 10, 9, 8, 7, 6, 5, 4, 3] := hN.step0 42 (by decide) (by decide) hq
  generalize uP (nX S q 9 24) 8 b 42 (some q) = S at hN ⊢
  have hO := hN.1
  refine J_aload_n (pc := 322) dX10_init_322 rfl rfl ?_
  refine J_bipush (pc := 323) (v := nI 8) dX10_init_323 (by decide) ?_
  refine J_newaI (pc := 325) rfl (by decide) dX10_init_325 (by omega) (by omega) (fun q hq => ?_)
  refine J_putrF (pc := 327) (i := 43) cl8 (sAt_old hO hq) (by decide) rfl rfl rfl rfl rfl rfl kX10_125 dX10_init_327 ?_
  have hN : mNew (uP (nX S q 9 8) 8 b 43 (some q)) b [43, 42, 41, 40, 39, 38, 37, 36, 35, 34, 33, 32, 31, 30, 29, 28, 27, 26, 25, 24, 23, 22, 21, 20, 19, 18, 17, 16, 13, 12, 11, 10, 9, 8, 7, 6, 5, 4, 3] := hN.step0 43 (by decide) (by decide) hq
  generalize uP (nX S q 9 8) 8 b 43 (some q) = S at hN ⊢
  have hO := hN.1
  refine J_aload_n (pc := 330) dX10_init_330 rfl rfl ?_
  refine J_bipush (pc := 331) (v := nI 8) dX10_init_331 (by decide) ?_
  refine J_newaI (pc := 333) rfl (by decide) dX10_init_333 (by omega) (by omega) (fun q hq => ?_)
  refine J_putrF (pc := 335) (i := 44) cl8 (sAt_old hO hq) (by decide) rfl rfl rfl rfl rfl rfl kX10_128 dX10_init_335 ?_
  have hN : mNew (uP (nX S q 9 8) 8 b 44 (some q)) b [44, 43, 42, 41, 40, 39, 38, 37, 36, 35, 34, 33, 32, 31, 30, 29, 28, 27, 26, 25, 24, 23, 22, 21, 20, 19, 18, 17, 16, 13, 12, 11, 10, 9, 8, 7, 6, 5, 4, 3] := hN.step0 44 (by decide) (by decide) hq
  generalize uP (nX S q 9 8) 8 b 44 (some q) = S at hN ⊢
  have hO := hN.1
  refine J_aload_n (pc := 338) dX10_init_338 rfl rfl ?_
  refine J_sipush (pc := 339) (v := nI 512) dX10_init_339 (by decide) ?_
  refine J_newaI (pc := 342) rfl (by decide) dX10_init_342 (by omega) (by omega) (fun q hq => ?_)
  refine J_putrF (pc := 344) (i := 45) cl8 (sAt_old hO hq) (by decide) rfl rfl rfl rfl rfl rfl kX10_131 dX10_init_344 ?_
  have hN : mNew (uP (nX S q 9 512) 8 b 45 (some q)) b [45, 44, 43, 42, 41, 40, 39, 38, 37, 36, 35, 34, 33, 32, 31, 30, 29, 28, 27, 26, 25, 24, 23, 22, 21, 20, 19, 18, 17, 16, 13, 12, 11, 10, 9, 8, 7, 6, 5, 4, 3] := hN.step0 45 (by decide) (by decide) hq
  generalize uP (nX S q 9 512) 8 b 45 (some q) = S at hN ⊢
  obtain ⟨hO, hz, ad, hd, hi⟩ := hN
  refine J_iconst (pc := 347) (v := nI 0) dX10_init_347 (by decide) ?_
  refine J_istore_n (pc := 348) dX10_init_348 rfl (by decide) ?_
  have loop : ∀ i, i ≤ 24 → ∀ S2, mOnly ad [3] S S2 → (∀ j, j < i → sI S2 9 (ad 3) j = -1) → J l g mX10_init hgt 41 10300 (fun r S' => r = none ∧ ∃ ad, WM S' b ad x0) 349 [(1, .int (nI i)), (0, .ref b)] [] S2 41 10300 := by
    refine down _ ?_ ?_
    · intro S2 hs h3
      refine J_iload_n (pc := 349) dX10_init_349 rfl rfl ?_
      refine J_bipush (pc := 350) (v := nI 24) dX10_init_350 (by decide) ?_
      refine J_icmp_geN (pc := 352) (tgt := 368) dX10_init_352 rfl (by omega) (by omega) (fun h0 => ?_) (fun h0 => ?_)
      · refine J_vret (pc := 368) dX10_init_368 rfl (by omega) (by omega) ?_
        exact ⟨rfl, ad, mNew.done hO hz hd hi hs h3⟩
      · omega
    · intro i hi' ih S2 hs h3
      have hsh : mShape S b ad := ⟨hO, fun k hk => (hd k (mAll_in k (mArr_lt hk) hk)).1, fun k hk => (hd k (mAll_in k (mArr_lt hk) hk)).2.1, fun k k' hk hk' => hi k k' (mAll_in k (mArr_lt hk) hk) (mAll_in k' (mArr_lt hk') hk')⟩
      have hs2 := hs.shape hsh
      refine J_iload_n (pc := 349) dX10_init_349 rfl rfl ?_
      refine J_bipush (pc := 350) (v := nI 24) dX10_init_350 (by decide) ?_
      refine J_icmp_geN (pc := 352) (tgt := 368) dX10_init_352 rfl (by omega) (by omega) (fun h0 => ?_) (fun h0 => ?_)
      · omega
      · refine J_aload_n (pc := 355) dX10_init_355 rfl rfl ?_
        refine J_getr (pc := 356) (i := 3) cl8 hs2.1 (by decide) rfl (hs2.2.1 3 rfl) kX10_7 dX10_init_356 ?_
        refine J_iload_n (pc := 359) dX10_init_359 rfl rfl ?_
        refine J_iconst (pc := 360) (v := (-1)) dX10_init_360 (by decide) ?_
        refine J_iast (pc := 361) (hs2.2.2.1 3 rfl) rfl hi' (by first | omega | exact mLn_lt _) dX10_init_361 ?_
        refine J_iinc (pc := 362) dX10_init_362 rfl (inc1 _) (by decide) ?_
        refine J_goto (pc := 365) (tgt := 349) dX10_init_365 rfl ?_
        refine J_lvk (ih _ ?_ (fun j hj => ?_)) ⟨rfl, rfl, trivial⟩
        · obtain ⟨h1, h2, h4, h5, h6, h7, h8⟩ := hs
          refine ⟨h1, h2, h4, h5, (sl_c (by decide)).trans h6, (sl_c (by decide)).trans h7, fun k' hk' hn => ?_⟩
          rw [sl_a (fun e => hn (by rw [hs2.2.2.2 k' 3 hk' rfl e]; decide))]
          exact h8 k' hk' hn
        · by_cases e : j = i
          · subst e
            exact sI_same _ _ _ _ _
          · exact sI_nk e (h3 j (by omega))
  exact J_lvk (loop 0 (by omega) S mOnly.rf (fun j hj => absurd hj (Nat.not_lt_zero _))) ⟨rfl, rfl, trivial⟩
