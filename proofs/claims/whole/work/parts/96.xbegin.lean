/-! THE CLASS: message, the walk -/
theorem lens_60 {X : XS} (hI : xOK X) (h : Nat) : ∀ v ∈ x_lens X h, v ≤ 60 := by
  intro v hv
  unfold x_lens at hv
  obtain ⟨x, hx, rfl⟩ := List.mem_map.mp hv
  have := List.mem_range.mp (List.mem_filter.mp hx).1
  have h48 := hI.many
  exact (hI.msg (m := x) (by omega)).1.2.2.1
theorem lens_len (X : XS) (h : Nat) : (x_lens X h).length ≤ xV X 1 0 := by
  unfold x_lens
  rw [List.length_map]
  exact outs_len (xV X 1 0) (xV X 8) h
theorem WX.cutH {S : jS} {w : Nat → Nat → Nat} {hx : Nat} {X : XS} (h : WX S w hx X) {a : Nat} (ha : a < 8) : cutH S (w 0 a) (w 9 (75 + a)) (w 9 (83 + a)) (x_lens X a) := by
  obtain ⟨y1, y2, y3, y4, y5⟩ := h.2.2.2.2.2.2.2.2.2.2.2 a ha
  have l1 : lenA 9 (75 + a) = 16 := by
    show (if 75 + a < 64 then 8 else if 75 + a < 74 then 24 else if 75 + a = 74 then 2 else if 75 + a < 91 then 16 else if 75 + a < 99 then 3 else 64) = 16
    rw [if_neg (by omega), if_neg (by omega), if_neg (by omega), if_pos (by omega)]
  have l2 : lenA 9 (83 + a) = 16 := by
    show (if 83 + a < 64 then 8 else if 83 + a < 74 then 24 else if 83 + a = 74 then 2 else if 83 + a < 91 then 16 else if 83 + a < 99 then 3 else 64) = 16
    rw [if_neg (by omega), if_neg (by omega), if_neg (by omega), if_pos (by omega)]
  have a1 := h.a 9 (75 + a) (by decide) (show 75 + a < 107 by omega)
  have a2 := h.a 9 (83 + a) (by decide) (show 83 + a < 107 by omega)
  rw [l1] at a1
  rw [l2] at a2
  refine ⟨h.o 0 a ha, h.r 0 a 0 ha rfl, h.r 0 a 1 ha rfl, a1, a2, fun e => ?_, y1, y2, y5⟩
  have := h.2.1 9 _ _ (show 75 + a < 107 by omega) (show 83 + a < 107 by omega) e
  omega
set_option maxRecDepth 100000 in
theorem cx_message (l : Launch) (g : jG) (hgt : Nat) {S : jS} {w : Nat → Nat → Nat} {X : XS} (x y n m : Int32) (hW : WX S w 8 X) (hI : xOK X) (hh : 3 ≤ hgt) : CT l g mX9_message hgt 3 25 [.ref (w 7 0), .int x, .int y, .int n, .int m] S (fun r S' => r = some (.int (p_message X x y n m).1) ∧ ∃ w', w' 7 0 = w 7 0 ∧ WX S' w' 8 (p_message X x y n m).2) := by
  have h48 := hI.many
  have hh2 : 2 ≤ hgt - 1 := by omega
  have jn3 : jN 3 = 6 := rfl
  have hh3 : hgt - 1 + 1 ≤ hgt := by omega
  generalize hP : p_message X x y n m = P
  have fail : (x < 0 ∨ nI 8 ≤ x ∨ y < 0 ∨ nI 8 ≤ y ∨ x = y ∨ n < nI 1 ∨ nI 60 < n ∨ m < 0 ∨ nI 1 < m ∨ xV X 1 0 = 48) → J l g mX9_message hgt 3 25 (fun r S' => r = some (.int P.1) ∧ ∃ w', w' 7 0 = w 7 0 ∧ WX S' w' 8 P.2) 74 [] [] S 0 0 := by
    intro z
    refine J_iconst (pc := 74) (v := (-1)) dX9_message_74 (by decide) ?_
    refine J_iret (pc := 75) dX9_message_75 rfl (by omega) (by omega) ?_
    rw [← hP]
    unfold p_message
    rw [if_pos z]
    exact ⟨rfl, w, rfl, hW⟩
  have good : ¬ (x < 0 ∨ nI 8 ≤ x ∨ y < 0 ∨ nI 8 ≤ y ∨ x = y ∨ n < nI 1 ∨ nI 60 < n ∨ m < 0 ∨ nI 1 < m ∨ xV X 1 0 = 48) → J l g mX9_message hgt 3 25 (fun r S' => r = some (.int P.1) ∧ ∃ w', w' 7 0 = w 7 0 ∧ WX S' w' 8 P.2) 76 [(0, .ref (w 7 0)), (1, .int x), (2, .int y), (3, .int n), (4, .int m)] [] S 0 0 := by
    intro z
    unfold p_message at hP
    rw [if_neg z] at hP
    simp only [not_or] at z
    obtain ⟨z1, z2, z3, z4, z5, z6, z7, z8, z9, z10⟩ := z
    have hn0 : ¬ n < 0 := fun u => z6 (Int32.lt_trans u (by decide))
    obtain ⟨a, ha, rfl⟩ := ix_in (n := 8) (by decide) z1 z2
    obtain ⟨b, hb, rfl⟩ := ix_in (n := 8) (by decide) z3 z4
    obtain ⟨n, hn, rfl⟩ := ix_le (n := 60) (by decide) hn0 z7
    obtain ⟨m, hm, rfl⟩ := ix_le (n := 1) (by decide) z8 z9
    rw [cl_nI (by omega), cl_nI (by omega), cl_nI (by omega), cl_nI (by omega)] at hP
    have hM : xV X 1 0 < 48 := by omega
    clear fail z1 z2 z3 z4 z5 z6 z7 z8 z9 z10 hn0
    rw [← hP]
    clear hP
    refine J_new (pc := 76) cl3 kX9_22 ist3 ini3 dX9_message_76 (by first | decide | omega) (by first | decide | omega) (fun q hq => ?_)
    refine J_dup (pc := 79) dX9_message_79 rfl ?_
    have A1 := isA_new (c := 3) (n := 0) hq
    have hin0 : ∀ c i, i < cN (xV X 1 0) c → w c i ∈ S.1 := fun c i hi => (hW.1 c i hi).1.1
    have hW1 : WX (nX S q 3 0) w 8 X := hW.mv (fun c i hi => ⟨rfl, same_new (fun e => hq (e ▸ hin0 c i hi)), List.mem_append_left _ (hin0 c i hi)⟩)
    have hin1 : ∀ c i, i < cN (xV X 1 0) c → w c i ∈ (nX S q 3 0).1 ∧ w c i ≠ q := fun c i hi => ⟨List.mem_append_left _ (hin0 c i hi), fun e => hq (e ▸ hin0 c i hi)⟩
    clear hW hin0 hq
    generalize nX S q 3 0 = S1 at *
    refine J_aload_n (pc := 80) dX9_message_80 rfl rfl ?_
    refine J_geti (pc := 81) (i := 3) cl7 hW1.ro (by decide) rfl hW1.rmany kX9_28 dX9_message_81 ?_
    refine J_iload_n (pc := 84) dX9_message_84 rfl rfl ?_
    refine J_iload_n (pc := 85) dX9_message_85 rfl rfl ?_
    refine J_iload_n (pc := 86) dX9_message_86 rfl rfl ?_
    refine J_iload (pc := 87) dX9_message_87 rfl ?_
    refine J_callI (pc := 89) (cx_msgInit l g (hgt - 1) (M := xV X 1 0) (x := a) (y := b) (n := n) (md := m) A1 hn hm hh2) qX4_init rfl vX4_init kX9_40 dX9_message_89 rfl rfl (Nat.le_of_ble_eq_true rfl) hh3 (by first | decide | omega) (by first | decide | omega) ?_
    rintro _ S2 ⟨rfl, C, s, t, hs, ht, ⟨f3, e3, A3⟩, ⟨f6, e6, A6⟩, j6, ⟨f4, e4, A4⟩, j4⟩
    obtain ⟨w', hw'⟩ : ∃ w' : Nat → Nat → Nat, w' = fun c i => if c = 3 ∧ i = xV X 1 0 then q else if c = 4 ∧ i = xV X 1 0 then t else if c = 6 ∧ i = xV X 1 0 then s else w c i := ⟨_, rfl⟩
    have w3 : w' 3 (xV X 1 0) = q := by rw [hw']; exact if_pos ⟨rfl, rfl⟩
    have w4 : w' 4 (xV X 1 0) = t := by rw [hw']; dsimp only; rw [if_neg (by omega), if_pos ⟨rfl, rfl⟩]
    have w6 : w' 6 (xV X 1 0) = s := by rw [hw']; dsimp only; rw [if_neg (by omega), if_neg (by omega), if_pos ⟨rfl, rfl⟩]
    have wo : ∀ c i, i < cN (xV X 1 0) c → w' c i = w c i := fun c i hi => by
      rw [hw']
      dsimp only
      have z3 : ¬ (c = 3 ∧ i = xV X 1 0) := fun z => by rw [z.1] at hi; have hi : i < xV X 1 0 := hi; omega
      have z4 : ¬ (c = 4 ∧ i = xV X 1 0) := fun z => by rw [z.1] at hi; have hi : i < xV X 1 0 := hi; omega
      have z6 : ¬ (c = 6 ∧ i = xV X 1 0) := fun z => by rw [z.1] at hi; have hi : i < xV X 1 0 := hi; omega
      rw [if_neg z3, if_neg z4, if_neg z6]
    have hW2 : WX S2 w' 8 X := hW1.mv (fun c i hi => ⟨wo c i hi, C.2.2 _ (hin1 c i hi).1 (hin1 c i hi).2, C.1 _ (hin1 c i hi).1⟩)
    have inj : ∀ i, i < xV X 1 0 → w' 3 i ≠ w' 3 (xV X 1 0) ∧ w' 4 i ≠ w' 4 (xV X 1 0) ∧ w' 6 i ≠ w' 6 (xV X 1 0) := fun i hi => by
      rw [w3, w4, w6, wo 3 i hi, wo 4 i hi, wo 6 i hi]
      exact ⟨(hin1 3 i hi).2, fun e => ht (e ▸ (hin1 4 i hi).1), fun e => hs (e ▸ (hin1 6 i hi).1)⟩
    rw [← w3] at A3
    rw [← w4] at A4 j4 A3
    rw [← w6] at A6 j6 A3
    have w7 : w' 7 0 = w 7 0 := wo 7 0 Nat.one_pos
    rw [← w3, ← w7]
    have hin := hW2.2.1
    clear hW1 hin1 wo w3 w4 w6 A1 hw' C hs ht w7
    have lo48 : (outsF (xV X 1 0) (xV X 8) a).length < 48 := Nat.lt_of_le_of_lt (outs_len _ _ _) hM
    have li48 : (outsF (xV X 1 0) (xV X 9) b).length < 48 := Nat.lt_of_le_of_lt (outs_len _ _ _) hM
    have hL := lens_len X a
    have h60 := lens_60 hI a
    have hO : ∀ {c x}, sAt S2 c x → sAt (uI (uP S2 12 (w' 12 0) (xV X 1 0) (some (w' 3 (xV X 1 0)))) 7 (w' 7 0) 3 (nI (xV X 1 0 + 1))) c x := fun z => z
    refine J_astore (pc := 92) dX9_message_92 (by decide) ?_
    refine J_aload_n (pc := 94) dX9_message_94 rfl rfl ?_
    refine J_getr (pc := 95) (i := 2) cl7 hW2.ro (by decide) rfl hW2.rmes kX9_24 dX9_message_95 ?_
    refine J_aload_n (pc := 98) dX9_message_98 rfl rfl ?_
    refine J_geti (pc := 99) (i := 3) cl7 hW2.ro (by decide) rfl hW2.rmany kX9_28 dX9_message_99 ?_
    refine J_aload (pc := 102) dX9_message_102 rfl ?_
    refine J_rast12 (pc := 104) hW2.ames rfl hM (by first | omega | exact mLn_lt _) A3.at dX9_message_104 ?_
    refine J_aload_n (pc := 105) dX9_message_105 rfl rfl ?_
    refine J_dup (pc := 106) dX9_message_106 rfl ?_
    refine J_geti (pc := 107) (i := 3) cl7 (show sAt (uP S2 12 (w' 12 0) (xV X 1 0) (some (w' 3 (xV X 1 0)))) 7 (w' 7 0) from hW2.ro) (by decide) rfl (show sI (uP S2 12 (w' 12 0) (xV X 1 0) (some (w' 3 (xV X 1 0)))) 7 (w' 7 0) 3 = nI (xV X 1 0) from hW2.rmany) kX9_28 dX9_message_107 ?_
    refine J_iconst (pc := 110) (v := nI 1) dX9_message_110 (by decide) ?_
    refine J_iaddN (b := 1) dX9_message_111 ?_
    refine J_puti (pc := 112) (i := 3) cl7 (show sAt (uP S2 12 (w' 12 0) (xV X 1 0) (some (w' 3 (xV X 1 0)))) 7 (w' 7 0) from hW2.ro) (by decide) rfl rfl rfl rfl kX9_28 dX9_message_112 ?_
    have pI : ∀ c i k, i < cN (xV X 1 0) c → ¬ (c = 7 ∧ k = 3) → sI (uI (uP S2 12 (w' 12 0) (xV X 1 0) (some (w' 3 (xV X 1 0)))) 7 (w' 7 0) 3 (nI (xV X 1 0 + 1))) c (w' c i) k = sI S2 c (w' c i) k := fun c i k hi hne => by
      rw [sI_uI, if_neg (fun z => hne ⟨z.1, z.2.2⟩), sI_uP]
    have pP : ∀ c i k, i < cN (xV X 1 0) c → ¬ (c = 12 ∧ i = 0 ∧ k = xV X 1 0) → sP (uI (uP S2 12 (w' 12 0) (xV X 1 0) (some (w' 3 (xV X 1 0)))) 7 (w' 7 0) 3 (nI (xV X 1 0 + 1))) c (w' c i) k = sP S2 c (w' c i) k := fun c i k hi hne => by
      rw [sP_uI]
      exact hin.othP (show 0 < 17 by decide) hi hne
    have pP0 : sP (uI (uP S2 12 (w' 12 0) (xV X 1 0) (some (w' 3 (xV X 1 0)))) 7 (w' 7 0) 3 (nI (xV X 1 0 + 1))) 12 (w' 12 0) (xV X 1 0) = some (w' 3 (xV X 1 0)) := by
      rw [sP_uI, sP_uP, if_pos ⟨rfl, rfl, rfl⟩]
    have pI0 : sI (uI (uP S2 12 (w' 12 0) (xV X 1 0) (some (w' 3 (xV X 1 0)))) 7 (w' 7 0) 3 (nI (xV X 1 0 + 1))) 7 (w' 7 0) 3 = nI (xV X 1 0 + 1) := sI_same _ _ _ _ _
    have pJ : sJ (uI (uP S2 12 (w' 12 0) (xV X 1 0) (some (w' 3 (xV X 1 0)))) 7 (w' 7 0) 3 (nI (xV X 1 0 + 1))) = sJ S2 := rfl
    have pN : sN (uI (uP S2 12 (w' 12 0) (xV X 1 0) (some (w' 3 (xV X 1 0)))) 7 (w' 7 0) 3 (nI (xV X 1 0 + 1))) = sN S2 := rfl
    have pn3 : ∀ k, sI (uI (uP S2 12 (w' 12 0) (xV X 1 0) (some (w' 3 (xV X 1 0)))) 7 (w' 7 0) 3 (nI (xV X 1 0 + 1))) 3 (w' 3 (xV X 1 0)) k = f3 k := fun k => by
      rw [sI_uI, if_neg (by omega), sI_uP]
      exact A3.2.2.2.1 k
    have pn6 : ∀ k, sI (uI (uP S2 12 (w' 12 0) (xV X 1 0) (some (w' 3 (xV X 1 0)))) 7 (w' 7 0) 3 (nI (xV X 1 0 + 1))) 6 (w' 6 (xV X 1 0)) k = f6 k := fun k => by
      rw [sI_uI, if_neg (by omega), sI_uP]
      exact A6.2.2.2.1 k
    have pn4 : ∀ k, sI (uI (uP S2 12 (w' 12 0) (xV X 1 0) (some (w' 3 (xV X 1 0)))) 7 (w' 7 0) 3 (nI (xV X 1 0 + 1))) 4 (w' 4 (xV X 1 0)) k = f4 k := fun k => by
      rw [sI_uI, if_neg (by omega), sI_uP]
      exact A4.2.2.2.1 k
    have pq : ∀ k, sP (uI (uP S2 12 (w' 12 0) (xV X 1 0) (some (w' 3 (xV X 1 0)))) 7 (w' 7 0) 3 (nI (xV X 1 0 + 1))) 3 (w' 3 (xV X 1 0)) k = if k = 5 then some (w' 4 (xV X 1 0)) else if k = 4 then some (w' 6 (xV X 1 0)) else none := fun k => by
      rw [sP_uI, sP_uP, if_neg (by omega)]
      exact A3.2.2.2.2 k
    have hA : ∀ {c x N}, aAt S2 c x N → aAt (uI (uP S2 12 (w' 12 0) (xV X 1 0) (some (w' 3 (xV X 1 0)))) 7 (w' 7 0) 3 (nI (xV X 1 0 + 1))) c x N := fun z => z
    generalize uI (uP S2 12 (w' 12 0) (xV X 1 0) (some (w' 3 (xV X 1 0)))) 7 (w' 7 0) 3 (nI (xV X 1 0 + 1)) = S4 at *
    have r1 : sP S4 7 (w' 7 0) 1 = some (w' 11 0) := by rw [pP 7 0 1 Nat.one_pos (by omega)]; exact hW2.rhos
    have r2 : sP S4 11 (w' 11 0) a = some (w' 2 a) := by rw [pP 11 0 a Nat.one_pos (by omega)]; exact hW2.ehos ha
    have r3 : sP S4 2 (w' 2 a) 0 = some (w' 12 (1 + a)) := by rw [pP 2 a 0 ha (by omega)]; exact hW2.hout ha
    have r4 : sI S4 2 (w' 2 a) 6 = nI (outsF (xV X 1 0) (xV X 8) a).length := by rw [pI 2 a 6 ha (by omega)]; exact hW2.cout ha
    have r5 : sI S4 3 (w' 3 (xV X 1 0)) 3 = nI n := (pn3 3).trans e3.2.2.2
    have r6 : sP S4 2 (w' 2 a) 2 = some (w' 0 a) := by rw [pP 2 a 2 ha (by omega)]; exact hW2.hcut ha
    have rC : cutH S4 (w' 0 a) (w' 9 (75 + a)) (w' 9 (83 + a)) (x_lens X a) := by
      obtain ⟨c1, c2, c3, c4, c5, c6, c7, c8, c9⟩ := hW2.cutH ha
      refine ⟨hO c1, ?_, ?_, hA c4, hA c5, c6, ?_, ?_, fun t v hv ht => ?_⟩
      · rw [pP 0 a 0 ha (by omega)]; exact c2
      · rw [pP 0 a 1 ha (by omega)]; exact c3
      · rw [pI 0 a 2 ha (by omega)]; exact c7
      · rw [pI 0 a 3 ha (by omega)]; exact c8
      · rw [pI 9 (75 + a) _ (show 75 + a < 107 by omega) (by omega)]; exact c9 t v hv ht
    refine J_aload_n (pc := 115) dX9_message_115 rfl rfl ?_
    refine J_getr (pc := 116) (i := 1) cl7 (hO hW2.ro) (by decide) rfl r1 kX9_18 dX9_message_116 ?_
    refine J_iload_n (pc := 119) dX9_message_119 rfl rfl ?_
    refine J_rald11 (pc := 120) (hA hW2.ahos) rfl ha (by first | omega | exact mLn_lt _) r2 dX9_message_120 ?_
    refine J_aload (pc := 121) dX9_message_121 rfl ?_
    refine J_callV (pc := 123) (cx_addOutgoing l g (hgt - 1) (hO (hW2.ho ha)) r3 (hA (hW2.aout ha)) r4 lo48 (hO A3.at) r5 r6 rC h60 hn (by omega) hh2) qX3_addOutgoing vX3_addOutgoing cl2 rfl (hO (hW2.ho ha)) kX9_43 dX9_message_123 rfl rfl (Nat.le_of_ble_eq_true rfl) hh3 (by omega) (by omega) ?_
    rintro _ S5 ⟨rfl, C5, k2, k3, k4, k5, k9⟩
    have la9 : 75 + a < 107 := by omega
    have so9 : 83 + a < 107 := by omega
    have sI5 : ∀ c i k, i < cN (xV X 1 0) c → ¬ ((c = 7 ∧ k = 3) ∨ (c = 2 ∧ i = a ∧ k = 6) ∨ (c = 0 ∧ i = a) ∨ (c = 9 ∧ (i = 75 + a ∨ i = 83 + a))) → sI S5 c (w' c i) k = sI S2 c (w' c i) k := fun c i k hi hne => by
      rw [C5.2.2.2 c (w' c i) k ?_ ?_, hin.oth ha hi (by omega), sI_uP, pI c i k hi (by omega)]
      · rintro ⟨rfl, e⟩
        exact hne (Or.inr (Or.inr (Or.inl ⟨rfl, hin 0 i a hi ha e⟩)))
      · rintro ⟨rfl, e | e⟩
        · exact hne (Or.inr (Or.inr (Or.inr ⟨rfl, Or.inl (hin 9 i _ hi la9 e)⟩)))
        · exact hne (Or.inr (Or.inr (Or.inr ⟨rfl, Or.inr (hin 9 i _ hi so9 e)⟩)))
    have hP5 : sP S5 = sP (uP S4 12 (w' 12 (1 + a)) (outsF (xV X 1 0) (xV X 8) a).length (some (w' 3 (xV X 1 0)))) := by
      unfold sP
      rw [C5.2.2.1]
      rfl
    have hJ5 : sJ S5 = sJ S2 := by
      rw [← pJ]
      unfold sJ
      rw [C5.2.2.1]
      rfl
    have hN5 : sN S5 = sN S2 := by
      rw [← pN]
      unfold sN
      rw [C5.2.2.1]
      rfl
    have hO5 : ∀ {c x}, sAt S2 c x → sAt S5 c x := fun {c x} z => by
      have z := hO z
      unfold sAt at z ⊢
      rw [C5.1, C5.2.1]
      exact z
    have hA5 : ∀ {c x N}, aAt S2 c x N → aAt S5 c x N := fun z => ⟨hO5 z.1, by rw [hN5]; exact z.2⟩
    have sP5 : ∀ c i k, i < cN (xV X 1 0) c → ¬ ((c = 12 ∧ i = 0 ∧ k = xV X 1 0) ∨ (c = 12 ∧ i = 1 + a ∧ k = (outsF (xV X 1 0) (xV X 8) a).length)) → sP S5 c (w' c i) k = sP S2 c (w' c i) k := fun c i k hi hne => by
      rw [hP5, hin.othP (show 1 + a < 17 by omega) hi (by omega), pP c i k hi (by omega)]
    have nn : ∀ c x k, c = 3 ∨ c = 4 ∨ c = 6 → sI S5 c x k = sI S4 c x k := fun c x k hc => by
      rw [C5.2.2.2 c x k (by omega) (by omega), sI_uI, if_neg (by omega), sI_uP]
    have r1 : sP S5 7 (w' 7 0) 1 = some (w' 11 0) := by rw [sP5 7 0 1 Nat.one_pos (by omega)]; exact hW2.rhos
    have r2 : sP S5 11 (w' 11 0) b = some (w' 2 b) := by rw [sP5 11 0 b Nat.one_pos (by omega)]; exact hW2.ehos hb
    have r3 : sP S5 2 (w' 2 b) 1 = some (w' 12 (9 + b)) := by rw [sP5 2 b 1 hb (by omega)]; exact hW2.hinc hb
    have r4 : sI S5 2 (w' 2 b) 7 = nI (outsF (xV X 1 0) (xV X 9) b).length := by rw [sI5 2 b 7 hb (by omega)]; exact hW2.cinc hb
    refine J_aload_n (pc := 126) dX9_message_126 rfl rfl ?_
    refine J_getr (pc := 127) (i := 1) cl7 (hO5 hW2.ro) (by decide) rfl r1 kX9_18 dX9_message_127 ?_
    refine J_iload_n (pc := 130) dX9_message_130 rfl rfl ?_
    refine J_rald11 (pc := 131) (hA5 hW2.ahos) rfl hb (by first | omega | exact mLn_lt _) r2 dX9_message_131 ?_
    refine J_aload (pc := 132) dX9_message_132 rfl ?_
    refine J_callV (pc := 134) (cx_addIncoming l g (hgt - 1) (hO5 (hW2.ho hb)) r3 (hA5 (hW2.ainc hb)) r4 li48 (hO5 A3.at)) qX3_addIncoming vX3_addIncoming cl2 rfl (hO5 (hW2.ho hb)) kX9_47 dX9_message_134 rfl rfl (Nat.le_of_ble_eq_true rfl) hh3 (by omega) (by omega) ?_
    rintro _ S6 ⟨rfl, e6S⟩
    have hI6 : ∀ c x k, ¬ (c = 2 ∧ k = 7) → sI S6 c x k = sI S5 c x k := fun c x k hne => by
      rw [e6S, sI_uI, if_neg (fun z => hne ⟨z.1, z.2.2⟩), sI_uP]
    have hO6 : ∀ {c x}, sAt S2 c x → sAt S6 c x := fun z => by
      rw [e6S]
      exact hO5 z
    have r0 : sI S6 3 (w' 3 (xV X 1 0)) 0 = nI (xV X 1 0) := by
      rw [hI6 _ _ _ (by omega), nn 3 _ _ (Or.inl rfl), pn3]
      exact e3.1
    refine J_aload (pc := 137) dX9_message_137 rfl ?_
    refine J_getiN (pc := 139) (i := 0) (host := RX9) cl3 (hO6 A3.at) (by decide) rfl r0 (by decide +kernel) dX9_message_139 ?_
    refine J_iret (pc := 142) dX9_message_142 rfl (by decide) (by decide) ?_
    refine ⟨rfl, w', rfl, ?_⟩
    have hN6 : sN S6 = sN S2 := by rw [e6S]; exact hN5
    have hJ6 : sJ S6 = sJ S2 := by rw [e6S]; exact hJ5
    refine hW2.grow hI ha hb (fun c x z => hO6 z) (fun c i hi => by rw [hN6]) inj (hO6 A3.at) (hO6 A4.at) (hO6 A6.at) ?_ (fun c i k hi => by rw [hJ6]) ?_ ?_ ?_ ?_ ?_ ?_ ?_ ?_ ?_ ?_ ?_ ?_ ?_ ?_ ?_
    · intro c i k hi hne
      rw [e6S, hin.oth hb hi (by omega), sI_uP]
      exact sI5 c i k hi (by omega)
    · intro c i k hi hne
      rw [e6S, sP_uI, hin.othP (show 9 + b < 17 by omega) hi (by omega)]
      exact sP5 c i k hi (by omega)
    · rw [e6S, sP_uI, hin.othP (show 9 + b < 17 by omega) (show 0 < 17 by decide) (by omega), hP5, hin.othP (show 1 + a < 17 by omega) (show 0 < 17 by decide) (by omega)]
      exact pP0
    · rw [e6S, sP_uI, hin.othP (show 9 + b < 17 by omega) (show 1 + a < 17 by omega) (by omega), hP5, sP_same]
    · rw [e6S, sP_uI, sP_same]
    · rw [e6S, sP_uI, sP_uP, if_neg (by omega), hP5, sP_uP, if_neg (by omega), pq]
      rfl
    · rw [e6S, sP_uI, sP_uP, if_neg (by omega), hP5, sP_uP, if_neg (by omega), pq]
      rfl
    · rw [hI6 _ _ _ (by omega), C5.2.2.2 7 (w' 7 0) 3 (by omega) (by omega), sI_uI, if_neg (by omega), sI_uP]
      exact pI0
    · rw [hI6 _ _ _ (by omega), C5.2.2.2 2 (w' 2 a) 6 (by omega) (by omega), sI_same]
    · rw [e6S, sI_same]
    · have e : ∀ k, sI S6 3 (w' 3 (xV X 1 0)) k = f3 k := fun k => by rw [hI6 _ _ _ (by omega), nn 3 _ _ (Or.inl rfl), pn3]
      unfold newM
      rw [e, e, e, e]
      exact e3
    · have e : ∀ k, sI S6 6 (w' 6 (xV X 1 0)) k = f6 k := fun k => by rw [hI6 _ _ _ (by omega), nn 6 _ _ (Or.inr (Or.inr rfl)), pn6]
      unfold newS
      rw [e, e, e, e, e, e, e, e]
      exact e6
    · have e : ∀ k, sI S6 4 (w' 4 (xV X 1 0)) k = f4 k := fun k => by rw [hI6 _ _ _ (by omega), nn 4 _ _ (Or.inr (Or.inl rfl)), pn4]
      unfold newR
      rw [e, e, e, e, e, e, e, e, e]
      exact e4
    · rw [hJ6]
      exact j6
    · rw [hJ6]
      exact j4
    · refine ⟨?_, ?_, ?_, ?_, fun t v hv ht => ?_⟩
      · rw [hI6 _ _ _ (by omega)]; exact k2
      · rw [hI6 _ _ _ (by omega)]; exact k3
      · rw [hI6 _ _ _ (by omega)]; exact k4
      · rw [hI6 _ _ _ (by omega)]; exact k5
      · rw [hI6 _ _ _ (by omega)]; exact k9 t v hv ht
  have from53 : ∀ c5 c6 : Bool, (c5 = true ↔ ¬ (x < 0 ∨ nI 8 ≤ x ∨ y < 0 ∨ nI 8 ≤ y ∨ x = y)) → (c6 = true ↔ ¬ (n < nI 1 ∨ nI 60 < n ∨ m < 0 ∨ nI 1 < m)) → J l g mX9_message hgt 3 25 (fun r S' => r = some (.int P.1) ∧ ∃ w', w' 7 0 = w 7 0 ∧ WX S' w' 8 P.2) 53 [(5, .int (bI c5)), (0, .ref (w 7 0)), (1, .int x), (2, .int y), (3, .int n), (4, .int m)] [.int (bI c6)] S 0 0 := by
    intro c5 c6 h5 h6
    refine J_istore (pc := 53) dX9_message_53 (by decide) ?_
    refine J_iload (pc := 55) dX9_message_55 rfl ?_
    refine J_if_eqB (pc := 57) (tgt := 74) dX9_message_57 rfl (fun B5 => ?_) (fun B5 => ?_)
    · refine J_lvk (fail ?_) trivial
      refine Decidable.not_not.mp (fun z => ?_)
      rw [B5] at h5
      have := (Decidable.not_iff_not.mpr h5).mp (by decide)
      exact this (fun u => z (by rcases u with u | u | u | u | u <;> simp [u]))
    · refine J_iload (pc := 60) dX9_message_60 rfl ?_
      refine J_if_eqB (pc := 62) (tgt := 74) dX9_message_62 rfl (fun B6 => ?_) (fun B6 => ?_)
      · refine J_lvk (fail ?_) trivial
        refine Decidable.not_not.mp (fun z => ?_)
        rw [B6] at h6
        have := (Decidable.not_iff_not.mpr h6).mp (by decide)
        exact this (fun u => z (by rcases u with u | u | u | u <;> simp [u]))
      · have g5 := h5.mp B5
        have g6 := h6.mp B6
        refine J_aload_n (pc := 65) dX9_message_65 rfl rfl ?_
        refine J_geti (pc := 66) (i := 3) cl7 hW.ro (by decide) rfl hW.rmany kX9_28 dX9_message_66 ?_
        refine J_bipush (pc := 69) (v := nI 48) dX9_message_69 (by decide) ?_
        refine J_icmp_ltN (pc := 71) (tgt := 76) dX9_message_71 rfl (by omega) (by omega) (fun B7 => ?_) (fun B7 => ?_)
        · refine J_lvk (good (fun u => ?_)) ⟨rfl, rfl, rfl, rfl, rfl, trivial⟩
          rcases u with u | u | u | u | u | u | u | u | u | u
          · exact g5 (Or.inl u)
          · exact g5 (Or.inr (Or.inl u))
          · exact g5 (Or.inr (Or.inr (Or.inl u)))
          · exact g5 (Or.inr (Or.inr (Or.inr (Or.inl u))))
          · exact g5 (Or.inr (Or.inr (Or.inr (Or.inr u))))
          · exact g6 (Or.inl u)
          · exact g6 (Or.inr (Or.inl u))
          · exact g6 (Or.inr (Or.inr (Or.inl u)))
          · exact g6 (Or.inr (Or.inr (Or.inr u)))
          · omega
        · refine J_lvk (fail ?_) trivial
          have : xV X 1 0 = 48 := by omega
          simp [this]
  have from24 : ∀ c5 : Bool, (c5 = true ↔ ¬ (x < 0 ∨ nI 8 ≤ x ∨ y < 0 ∨ nI 8 ≤ y ∨ x = y)) → J l g mX9_message hgt 3 25 (fun r S' => r = some (.int P.1) ∧ ∃ w', w' 7 0 = w 7 0 ∧ WX S' w' 8 P.2) 24 [(0, .ref (w 7 0)), (1, .int x), (2, .int y), (3, .int n), (4, .int m)] [.int (bI c5)] S 0 0 := by
    intro c5 h5
    have lows : ∀ u : Int32, u < 0 → u < nI 1 := fun u z => Int32.lt_trans z (by decide)
    refine J_istore (pc := 24) dX9_message_24 (by decide) ?_
    refine J_iload_n (pc := 26) dX9_message_26 rfl rfl ?_
    refine J_iconst (pc := 27) (v := nI 1) dX9_message_27 (by decide) ?_
    refine J_icmp_lt (pc := 28) (tgt := 52) dX9_message_28 rfl (fun h1 => ?_) (fun h1 => ?_)
    · refine J_iconst (pc := 52) (v := nI 0) dX9_message_52 (by decide) ?_
      exact J_lvk (from53 c5 false h5 ⟨fun z => absurd z (by decide), fun z => absurd (Or.inl h1) z⟩) ⟨rfl, rfl, rfl, rfl, rfl, rfl, trivial⟩
    · refine J_iload_n (pc := 31) dX9_message_31 rfl rfl ?_
      refine J_bipush (pc := 32) (v := nI 60) dX9_message_32 (by decide) ?_
      refine J_icmp_gt (pc := 34) (tgt := 52) dX9_message_34 rfl (fun h2 => ?_) (fun h2 => ?_)
      · refine J_iconst (pc := 52) (v := nI 0) dX9_message_52 (by decide) ?_
        exact J_lvk (from53 c5 false h5 ⟨fun z => absurd z (by decide), fun z => absurd (Or.inr (Or.inl h2)) z⟩) ⟨rfl, rfl, rfl, rfl, rfl, rfl, trivial⟩
      · refine J_iload (pc := 37) dX9_message_37 rfl ?_
        refine J_if_eq (pc := 39) (tgt := 48) dX9_message_39 rfl (fun h3 => ?_) (fun h3 => ?_)
        · refine J_iconst (pc := 48) (v := nI 1) dX9_message_48 (by decide) ?_
          refine J_goto (pc := 49) (tgt := 53) dX9_message_49 rfl ?_
          refine J_lvk (from53 c5 true h5 ⟨fun _ u => ?_, fun _ => rfl⟩) ⟨rfl, rfl, rfl, rfl, rfl, rfl, trivial⟩
          rw [h3] at u
          rcases u with u | u | u | u
          · exact h1 u
          · exact h2 u
          · exact absurd u (by decide)
          · exact absurd u (by decide)
        · refine J_iload (pc := 42) dX9_message_42 rfl ?_
          refine J_iconst (pc := 44) (v := nI 1) dX9_message_44 (by decide) ?_
          refine J_icmp_ne (pc := 45) (tgt := 52) dX9_message_45 rfl (fun h4 => ?_) (fun h4 => ?_)
          · refine J_iconst (pc := 52) (v := nI 0) dX9_message_52 (by decide) ?_
            refine J_lvk (from53 c5 false h5 ⟨fun z => absurd z (by decide), fun z => ?_⟩) ⟨rfl, rfl, rfl, rfl, rfl, rfl, trivial⟩
            exfalso
            refine z (Or.inr (Or.inr ?_))
            by_cases u : m < 0
            · exact Or.inl u
            · refine Or.inr (Decidable.not_not.mp (fun v => ?_))
              obtain ⟨j, hj, rfl⟩ := ix_le (n := 1) (by decide) u v
              rcases (show j = 0 ∨ j = 1 by omega) with rfl | rfl
              · exact h3 rfl
              · exact h4 rfl
          · refine J_iconst (pc := 48) (v := nI 1) dX9_message_48 (by decide) ?_
            refine J_goto (pc := 49) (tgt := 53) dX9_message_49 rfl ?_
            refine J_lvk (from53 c5 true h5 ⟨fun _ u => ?_, fun _ => rfl⟩) ⟨rfl, rfl, rfl, rfl, rfl, rfl, trivial⟩
            rw [h4] at u
            rcases u with u | u | u | u
            · exact h1 u
            · exact h2 u
            · exact absurd u (by decide)
            · exact absurd u (by decide)
  refine CT_of qX9_message (Nat.le_of_ble_eq_true rfl) ?_
  refine J_iload_n (pc := 0) dX9_message_0 rfl rfl ?_
  refine J_callS (pc := 1) (cx_isHost l g (hgt - 1) x) qX9_isHost vX9_isHost kX9_36 dX9_message_1 rfl rfl (Nat.le_of_ble_eq_true rfl) (by omega) (by omega) (by omega) ?_
  rintro _ _ ⟨rfl, rfl⟩
  refine J_if_eqB (pc := 4) (tgt := 23) dX9_message_4 rfl (fun B1 => ?_) (fun B1 => ?_)
  · have B1 := Decidable.not_not.mp (of_decide_eq_false B1)
    refine J_iconst (pc := 23) (v := nI 0) dX9_message_23 (by decide) ?_
    exact J_lvk (from24 false ⟨fun z => absurd z (by decide), fun z => absurd (by rcases B1 with u | u; (· exact Or.inl u); (· exact Or.inr (Or.inl u))) z⟩) ⟨rfl, rfl, rfl, rfl, rfl, trivial⟩
  · have B1 := of_decide_eq_true B1
    refine J_iload_n (pc := 7) dX9_message_7 rfl rfl ?_
    refine J_callS (pc := 8) (cx_isHost l g (hgt - 1) y) qX9_isHost vX9_isHost kX9_36 dX9_message_8 rfl rfl (Nat.le_of_ble_eq_true rfl) (by omega) (by omega) (by omega) ?_
    rintro _ _ ⟨rfl, rfl⟩
    refine J_if_eqB (pc := 11) (tgt := 23) dX9_message_11 rfl (fun B2 => ?_) (fun B2 => ?_)
    · have B2 := Decidable.not_not.mp (of_decide_eq_false B2)
      refine J_iconst (pc := 23) (v := nI 0) dX9_message_23 (by decide) ?_
      exact J_lvk (from24 false ⟨fun z => absurd z (by decide), fun z => absurd (by rcases B2 with u | u; (· exact Or.inr (Or.inr (Or.inl u))); (· exact Or.inr (Or.inr (Or.inr (Or.inl u))))) z⟩) ⟨rfl, rfl, rfl, rfl, rfl, trivial⟩
    · have B2 := of_decide_eq_true B2
      refine J_iload_n (pc := 14) dX9_message_14 rfl rfl ?_
      refine J_iload_n (pc := 15) dX9_message_15 rfl rfl ?_
      refine J_icmp_eq (pc := 16) (tgt := 23) dX9_message_16 rfl (fun B3 => ?_) (fun B3 => ?_)
      · refine J_iconst (pc := 23) (v := nI 0) dX9_message_23 (by decide) ?_
        exact J_lvk (from24 false ⟨fun z => absurd z (by decide), fun z => absurd (Or.inr (Or.inr (Or.inr (Or.inr B3)))) z⟩) ⟨rfl, rfl, rfl, rfl, rfl, trivial⟩
      · refine J_iconst (pc := 19) (v := nI 1) dX9_message_19 (by decide) ?_
        refine J_goto (pc := 20) (tgt := 24) dX9_message_20 rfl ?_
        refine J_lvk (from24 true ⟨fun _ u => ?_, fun _ => rfl⟩) ⟨rfl, rfl, rfl, rfl, rfl, trivial⟩
        rcases u with u | u | u | u | u
        · exact B1 (Or.inl u)
        · exact B1 (Or.inr u)
        · exact B2 (Or.inl u)
        · exact B2 (Or.inr u)
        · exact B3 u
