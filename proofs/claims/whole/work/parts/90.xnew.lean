/-! THE CLASS: a new net is the state x0 -/
def pos (c i : Nat) : Nat := match c with
  | 0 => 139 + 10 * i
  | 1 => 0
  | 2 => 136 + 10 * i
  | 5 => if i < 64 then 6 + 2 * i else 142 + 10 * (i - 64)
  | 7 => 216
  | 9 => if i < 64 then 7 + 2 * i else if i < 72 then 143 + 10 * (i - 64) else if i = 72 then 1 else if i = 73 then 2 else if i = 74 then 5 else if i < 83 then 140 + 10 * (i - 75) else if i < 91 then 141 + 10 * (i - 83) else if i < 99 then 144 + 10 * (i - 91) else 145 + 10 * (i - 99)
  | 10 => 4
  | 11 => 134
  | 12 => if i = 0 then 135 else if i < 9 then 137 + 10 * (i - 1) else 138 + 10 * (i - 9)
  | 13 => 3
  | _ => 300
set_option maxRecDepth 100000 in
theorem pos_ok : ∀ c, c < 14 → ∀ i, i < cN 0 c → pos c i < 217 ∧ kp (pos c i) = c ∧ (9 ≤ c → lp (pos c i) = lenA c i) := by decide +kernel
def rOK (c i k : Nat) : Bool := match rf 0 (fun _ => 0) (fun _ => 0) c i k with
  | none => true
  | some (c', i') => rp (pos c i) k == some (pos c' i')
set_option maxRecDepth 100000 in
theorem rOK_ok : ∀ c, c < 14 → ∀ i, i < cN 0 c → ∀ k, k < 64 → rOK c i k = true := by decide +kernel
theorem cN_lt {M c i : Nat} (h : i < cN M c) : c < 14 := by
  refine Decidable.not_not.mp (fun z => ?_)
  obtain ⟨d, rfl⟩ : ∃ d, c = d + 14 := ⟨c - 14, by omega⟩
  exact absurd h (Nat.not_lt_zero i)
theorem rf_64 {i k : Nat} (c : Nat) (hk : 64 ≤ k) : rf 0 (fun _ => 0) (fun _ => 0) c i k = none := by
  unfold rf
  split
  all_goals (repeat' split)
  all_goals first | rfl | omega | (unfold outsF; rfl)
theorem pos_inj : ∀ c i i', i < cN 0 c → i' < cN 0 c → pos c i = pos c i' → i = i' := by
  intro c i i' hi hi' e
  have hc := cN_lt hi
  rcases (show c = 0 ∨ c = 1 ∨ c = 2 ∨ c = 3 ∨ c = 4 ∨ c = 5 ∨ c = 6 ∨ c = 7 ∨ c = 8 ∨ c = 9 ∨ c = 10 ∨ c = 11 ∨ c = 12 ∨ c = 13 by omega) with rfl | rfl | rfl | rfl | rfl | rfl | rfl | rfl | rfl | rfl | rfl | rfl | rfl | rfl
  · have e : 139 + 10 * i = 139 + 10 * i' := e
    omega
  · have h1 : i < 1 := hi
    have h2 : i' < 1 := hi'
    omega
  · have e : 136 + 10 * i = 136 + 10 * i' := e
    omega
  · exact absurd hi (Nat.not_lt_zero i)
  · exact absurd hi (Nat.not_lt_zero i)
  · have h1 : i < 72 := hi
    have h2 : i' < 72 := hi'
    have e : (if i < 64 then 6 + 2 * i else 142 + 10 * (i - 64)) = if i' < 64 then 6 + 2 * i' else 142 + 10 * (i' - 64) := e
    split at e <;> split at e <;> omega
  · exact absurd hi (Nat.not_lt_zero i)
  · have h1 : i < 1 := hi
    have h2 : i' < 1 := hi'
    omega
  · exact absurd hi (Nat.not_lt_zero i)
  · have h1 : i < 107 := hi
    have h2 : i' < 107 := hi'
    have key : ∀ i, i < 107 → ∀ i', i' < 107 → pos 9 i = pos 9 i' → i = i' := by decide +kernel
    exact key i h1 i' h2 e
  · have h1 : i < 1 := hi
    have h2 : i' < 1 := hi'
    omega
  · have h1 : i < 1 := hi
    have h2 : i' < 1 := hi'
    omega
  · have h1 : i < 17 := hi
    have h2 : i' < 17 := hi'
    have key : ∀ i, i < 17 → ∀ i', i' < 17 → pos 12 i = pos 12 i' → i = i' := by decide +kernel
    exact key i h1 i' h2 e
  · have h1 : i < 1 := hi
    have h2 : i' < 1 := hi'
    omega
set_option maxRecDepth 100000 in
theorem ip_num : ∀ f, f < 32 → ∀ i, i < dmN 0 f → ip (pos (c1 f) (c2 f i)) (c3 f i) = nI (if f = 7 ∧ i < 2 then 1 else 0) := by decide +kernel
set_option maxRecDepth 100000 in
theorem ip_lnk : ∀ k, k < 24 → ip (pos 9 72) k = -1 := by decide +kernel
set_option maxRecDepth 100000 in
theorem ip_row : ∀ r, r < 72 → ip (pos 5 r) 1 = nI 0 ∧ ip (pos 5 r) 2 = nI 0 := by decide +kernel
set_option maxRecDepth 100000 in
theorem ip_spi : ∀ s, s < 2 → ip (pos 10 0) s = nI 1 := by decide +kernel
set_option maxRecDepth 100000 in
theorem ip_cho : ∀ h, h < 8 → ∀ k, k < 3 → ip (pos 9 (91 + h)) k = -1 := by decide +kernel
set_option maxRecDepth 100000 in
theorem ip_hst : ∀ h, h < 8 → ip (pos 2 h) 6 = nI 0 ∧ ip (pos 2 h) 7 = nI 0 ∧ ip (pos 0 h) 2 = nI 0 ∧ ip (pos 0 h) 3 = nI 0 ∧ ip (pos 0 h) 4 = nI 0 ∧ ip (pos 0 h) 5 = nI 0 := by decide +kernel
theorem dmN_lt {M f i : Nat} (h : i < dmN M f) : f < 32 := by
  refine Decidable.not_not.mp (fun z => ?_)
  obtain ⟨d, rfl⟩ : ∃ d, f = d + 32 := ⟨f - 32, by omega⟩
  exact absurd h (Nat.not_lt_zero i)
theorem WX_new {S : jS} {ad : Nat → Nat} (hf : ∀ p, p < 217 → fullP S ad p) (hi : ∀ p p', p < 217 → p' < 217 → ad p = ad p' → p = p') : WX S (fun c i => ad (pos c i)) 8 x0 := by
  have hI : ∀ c i k, i < cN 0 c → sI S c (ad (pos c i)) k = ip (pos c i) k := fun c i k h => by
    obtain ⟨z1, z2, -⟩ := pos_ok c (cN_lt h) i h
    have := (hf _ z1).2.2.2.1 k
    rw [z2] at this
    exact this
  have eM : xV x0 1 0 = 0 := rfl
  unfold WX
  rw [eM]
  refine ⟨?_, ?_, ?_, ?_, ?_, ?_, ?_, ?_, ?_, ?_, ?_, ?_⟩
  · intro c i h
    obtain ⟨z1, z2, z3⟩ := pos_ok c (cN_lt h) i h
    have a := hf _ z1
    refine ⟨⟨a.1, a.2.1.trans z2⟩, fun h9 => ?_⟩
    exact a.2.2.1.trans (z3 h9)
  · intro c i i' h h' e
    exact pos_inj c i i' h h' (hi _ _ (pos_ok c (cN_lt h) i h).1 (pos_ok c (cN_lt h) i' h').1 e)
  · intro c i k c' i' h hr
    obtain ⟨z1, z2, -⟩ := pos_ok c (cN_lt h) i h
    have hr : rf 0 (fun _ => 0) (fun _ => 0) c i k = some (c', i') := hr
    have hk : k < 64 := by
      refine Decidable.not_not.mp (fun z => ?_)
      rw [rf_64 c (by omega)] at hr
      cases hr
    have ho := rOK_ok c (cN_lt h) i h k hk
    unfold rOK at ho
    rw [hr] at ho
    have ho : rp (pos c i) k = some (pos c' i') := eq_of_beq ho
    have := (hf _ z1).2.2.2.2 k
    rw [z2] at this
    dsimp only at this ⊢
    rw [ho] at this
    exact this
  · intro f i h
    have hc := nCell_is 0 f i h
    rw [hI _ _ _ hc.2, ip_num f (dmN_lt h) i h]
    rfl
  · intro m hm
    exact absurd hm (Nat.not_lt_zero m)
  · intro m hm
    exact absurd hm (Nat.not_lt_zero m)
  · intro k hk
    rw [hI 9 72 k (show 72 < 107 by decide), ip_lnk k hk]
    rfl
  · intro r hr
    have z := ip_row r hr
    refine ⟨0, by unfold rN; split <;> omega, Nat.zero_le _, ?_, ?_, fun i e he => ?_⟩
    · rw [hI 5 r 1 hr]
      exact z.1
    · rw [hI 5 r 2 hr]
      exact z.2
    · cases he
  · intro s hs
    rw [hI 10 0 s Nat.one_pos, ip_spi s hs]
    rfl
  · intro h hh _ k hk
    rw [hI 9 (91 + h) k (show 91 + h < 107 by omega), ip_cho h hh k hk]
    exact (if_neg (Nat.not_lt_zero k)).symm
  · intro h hh
    have z := ip_hst h hh
    rw [hI 2 h 6 hh, hI 2 h 7 hh]
    exact ⟨z.1, z.2.1⟩
  · intro h hh
    have z := ip_hst h hh
    have e : x_lens x0 h = [] := rfl
    have e2 : ∀ t, x_cut x0 h t = 0 := fun t => by
      unfold x_cut x_late
      rw [e]
      rfl
    rw [e, e2, e2]
    refine ⟨?_, ?_, ?_, ?_, fun t v hv => by cases hv⟩
    · rw [hI 0 h 2 hh]
      exact z.2.2.1
    · rw [hI 0 h 3 hh]
      exact z.2.2.2.1
    · rw [hI 0 h 4 hh]
      exact z.2.2.2.2.1
    · rw [hI 0 h 5 hh]
      exact z.2.2.2.2.2
set_option maxRecDepth 100000 in
theorem cx_init (l : Launch) (g : jG) (hgt : Nat) {S0 : jS} {b : Nat} (hB : isA S0 7 b 0 (fun _ => 0) (fun _ => none)) (hh : 3 ≤ hgt) : CT l g mX9_init hgt 216 2795 [.ref b] S0 (fun r S' => r = none ∧ ∃ w : Nat → Nat → Nat, w 7 0 = b ∧ WX S' w 8 x0) := by
  have hb0 := hB.1
  have hh1 : 1 ≤ hgt := by omega
  have hh2 : 2 ≤ hgt - 1 := by omega
  have hh3 : hgt - 1 + 1 ≤ hgt := by omega
  have jn2 : jN 2 = 11 := rfl
  refine CT_of qX9_init (Nat.le_of_ble_eq_true rfl) ?_
  have E := ext.refl S0 b
  have B := hB
  refine J_aload_n (pc := 0) dX9_init_0 rfl rfl ?_
  refine J_objInit (pc := 1) kX9_1 dX9_init_1 (by decide) hh1 ?_
  refine J_aload_n (pc := 4) dX9_init_4 rfl rfl ?_
  refine J_new (pc := 5) cl1 kX9_7 ist1 ini1 dX9_init_5 (by first | decide | omega) (by first | decide | omega) (fun q1 h1 => ?_)
  have f1 := h1
  have nb1 : q1 ≠ b := fun e => h1 (e ▸ hb0)
  have A1 := isA_new (c := 1) (n := 0) h1
  replace E := E.tr (ext_new (c := 1) (n := 0) h1 B.1)
  replace B := B.nw (c' := 1) (n' := 0) h1
  generalize nX S0 q1 1 0 = S1 at *
  refine J_dup (pc := 8) dX9_init_8 rfl ?_
  refine J_callI (pc := 9) (cx_fabInit l g (hgt - 1) A1 hh2) qX2_init rfl vX2_init kX9_9 dX9_init_9 rfl rfl (Nat.le_of_ble_eq_true rfl) hh3 (by first | decide | omega) (by first | decide | omega) ?_
  rintro _ S2 ⟨rfl, C, v, v0, fF, fn, fi⟩
  have mF : ∀ s, s < 134 → v s ∉ S0.1 := by
    intro s hs z
    by_cases e : s = 0
    · rw [e, v0] at z
      exact f1 z
    · exact fn s (by omega) hs (E.1 _ z)
  have nF : ∀ s, s < 134 → v s ≠ b := fun s hs e => mF s hs (e ▸ hb0)
  replace B := B.keep C nb1.symm
  replace E := E.sub hb0 f1 C
  clear C A1 h1 fn
  refine J_putrF (pc := 12) (i := 0) cl7 B.at (by decide) rfl rfl rfl rfl rfl rfl kX9_10 dX9_init_12 ?_
  replace fF : ∀ s, s < 134 → fullF (uP S2 7 b 0 (some q1)) v s := fun s hs => (fF s hs).keep (ext_uP _ _ _ _ _) (nF s hs)
  replace E := E.tr (ext_uP S2 7 b 0 (some q1))
  replace B := B.wP 0 (some q1)
  generalize uP S2 7 b 0 (some q1) = S3 at *
  refine J_aload_n (pc := 15) dX9_init_15 rfl rfl ?_
  refine J_bipush (pc := 16) (v := nI 8) dX9_init_16 (by decide) ?_
  refine J_newr11 (pc := 18) rfl (by first | decide | omega) kX9_16 dX9_init_18 (by first | decide | omega) (by first | decide | omega) (fun qH hH => ?_)
  have fH : qH ∉ S0.1 := fun z => hH (E.1 qH z)
  have nH : qH ≠ b := fun e => hH (e ▸ B.1)
  have nFH : ∀ s, s < 134 → v s ≠ qH := fun s hs e => hH (e ▸ (fF s hs).1)
  have aH := isA_new (c := 11) (n := 8) hH
  replace fF : ∀ s, s < 134 → fullF (nX S3 qH 11 8) v s := fun s hs => (fF s hs).keep (ext_new hH B.1) (nF s hs)
  replace E := E.tr (ext_new (c := 11) (n := 8) hH B.1)
  replace B := B.nw (c' := 11) (n' := 8) hH
  clear hH
  generalize nX S3 qH 11 8 = S4 at *
  refine J_putrF (pc := 21) (i := 1) cl7 B.at (by decide) rfl rfl rfl rfl rfl rfl kX9_18 dX9_init_21 ?_
  replace fF : ∀ s, s < 134 → fullF (uP S4 7 b 1 (some qH)) v s := fun s hs => (fF s hs).keep (ext_uP _ _ _ _ _) (nF s hs)
  replace aH := aH.keep (ext_uP S4 7 b 1 (some qH)) nH
  replace E := E.tr (ext_uP S4 7 b 1 (some qH))
  replace B := B.wP 1 (some qH)
  generalize uP S4 7 b 1 (some qH) = S5 at *
  refine J_aload_n (pc := 24) dX9_init_24 rfl rfl ?_
  refine J_bipush (pc := 25) (v := nI 48) dX9_init_25 (by decide) ?_
  refine J_newr12 (pc := 27) rfl (by first | decide | omega) kX9_22 dX9_init_27 (by first | decide | omega) (by first | decide | omega) (fun qM hM => ?_)
  have nM : qM ≠ b := fun e => hM (e ▸ B.1)
  have nMH : qM ≠ qH := fun e => hM (e ▸ aH.1)
  have nFM : ∀ s, s < 134 → v s ≠ qM := fun s hs e => hM (e ▸ (fF s hs).1)
  have aM := isA_new (c := 12) (n := 48) hM
  replace fF : ∀ s, s < 134 → fullF (nX S5 qM 12 48) v s := fun s hs => (fF s hs).keep (ext_new hM B.1) (nF s hs)
  replace aH := aH.nw (c' := 12) (n' := 48) hM
  replace E := E.tr (ext_new (c := 12) (n := 48) hM B.1)
  replace B := B.nw (c' := 12) (n' := 48) hM
  clear hM
  generalize nX S5 qM 12 48 = S6 at *
  refine J_putrF (pc := 30) (i := 2) cl7 B.at (by decide) rfl rfl rfl rfl rfl rfl kX9_24 dX9_init_30 ?_
  replace fF : ∀ s, s < 134 → fullF (uP S6 7 b 2 (some qM)) v s := fun s hs => (fF s hs).keep (ext_uP _ _ _ _ _) (nF s hs)
  replace aH := aH.keep (ext_uP S6 7 b 2 (some qM)) nH
  replace aM := aM.keep (ext_uP S6 7 b 2 (some qM)) nM
  replace E := E.tr (ext_uP S6 7 b 2 (some qM))
  replace B := B.wP 2 (some qM)
  generalize uP S6 7 b 2 (some qM) = S7 at *
  refine J_aload_n (pc := 33) dX9_init_33 rfl rfl ?_
  refine J_iconst (pc := 34) (v := nI 0) dX9_init_34 (by decide) ?_
  refine J_puti (pc := 35) (i := 3) cl7 B.at (by decide) rfl rfl rfl rfl kX9_28 dX9_init_35 ?_
  replace fF : ∀ s, s < 134 → fullF (uI S7 7 b 3 (nI 0)) v s := fun s hs => (fF s hs).keep (ext_uI _ _ _ _ _) (nF s hs)
  replace aH := aH.keep (ext_uI S7 7 b 3 (nI 0)) nH
  replace aM := aM.keep (ext_uI S7 7 b 3 (nI 0)) nM
  replace E := E.tr (ext_uI S7 7 b 3 (nI 0))
  replace B := B.w0 3
  generalize uI S7 7 b 3 (nI 0) = S8 at *
  refine J_aload_n (pc := 38) dX9_init_38 rfl rfl ?_
  refine J_iconst (pc := 39) (v := nI 0) dX9_init_39 (by decide) ?_
  refine J_puti (pc := 40) (i := 4) cl7 B.at (by decide) rfl rfl rfl rfl kX9_32 dX9_init_40 ?_
  replace fF : ∀ s, s < 134 → fullF (uI S8 7 b 4 (nI 0)) v s := fun s hs => (fF s hs).keep (ext_uI _ _ _ _ _) (nF s hs)
  replace aH := aH.keep (ext_uI S8 7 b 4 (nI 0)) nH
  replace aM := aM.keep (ext_uI S8 7 b 4 (nI 0)) nM
  replace E := E.tr (ext_uI S8 7 b 4 (nI 0))
  replace B := B.w0 4
  generalize uI S8 7 b 4 (nI 0) = S9 at *
  rw [← v0] at B
  have F0 : netJ S0 S9 S9 b qH qM 0 v (fun _ _ => 0) := ⟨E, fun _ h => h, B, fF, aM, aH.cg rfl rfl rfl (fun _ => rfl) (fun k => (if_neg (Nat.not_lt_zero k)).symm), fun i hi => absurd hi (Nat.not_lt_zero i), fun i i' s s' hi => absurd hi (Nat.not_lt_zero i)⟩
  have mF1 : ∀ s, s < 134 → v s ∈ S9.1 ∧ v s ≠ qH ∧ v s ≠ qM ∧ v s ≠ b := fun s hs => ⟨(fF s hs).1, nFH s hs, nFM s hs, nF s hs⟩
  have mH : qH ∈ S9.1 := aH.1
  have mM : qM ∈ S9.1 := aM.1
  have mb : b ∈ S9.1 := B.1
  clear aH aM B E fF
  have loop : ∀ h, h ≤ 8 → ∀ S u, netJ S0 S9 S b qH qM h v u → J l g mX9_init hgt 216 2795 (fun r S' => r = none ∧ ∃ w : Nat → Nat → Nat, w 7 0 = b ∧ WX S' w 8 x0) 45 [(1, .int (nI h)), (0, .ref b)] [] S (136 + 10 * h) (883 + 239 * h) := by
    refine down _ ?_ ?_
    · intro S u F
      refine J_iload_n (pc := 45) dX9_init_45 rfl rfl ?_
      refine J_bipush (pc := 46) (v := nI 8) dX9_init_46 (by decide) ?_
      refine J_icmp_ge (pc := 48) (tgt := 70) dX9_init_48 rfl (fun _ => ?_) (fun hc9 => absurd ((by decide)) hc9)
      refine J_vret (pc := 70) dX9_init_70 rfl (by decide) (by decide) ?_
      exact ⟨rfl, fun c i => adP v u qH qM b (pos c i), rfl, WX_new F.all (F.inj mF1 fi mH mM mb nH nMH nM)⟩
    · intro h h8 ih S u F
      obtain ⟨-, -, B, -, -, aH, -⟩ := id F
      refine J_iload_n (pc := 45) dX9_init_45 rfl rfl ?_
      refine J_bipush (pc := 46) (v := nI 8) dX9_init_46 (by decide) ?_
      refine J_icmp_geN (pc := 48) (tgt := 70) dX9_init_48 rfl (by omega) (by omega) (fun q => ?_) (fun q => ?_)
      · omega
      · refine J_aload_n (pc := 51) dX9_init_51 rfl rfl ?_
        refine J_getr (pc := 52) (i := 1) cl7 B.at (by decide) rfl (B.2.2.2.2 1) kX9_18 dX9_init_52 ?_
        refine J_iload_n (pc := 55) dX9_init_55 rfl rfl ?_
        refine J_new (pc := 56) cl2 kX9_16 ist2 ini2 dX9_init_56 (by first | decide | omega) (by first | decide | omega) (fun x hx => ?_)
        have a1 := isA_new (c := 2) (n := 0) hx
        have aH1 := aH.nw (c' := 2) (n' := 0) hx
        have nxH : qH ≠ x := fun e => hx (e ▸ aH.1)
        generalize e1 : nX S x 2 0 = T at *
        refine J_dup (pc := 59) dX9_init_59 rfl ?_
        refine J_callI (pc := 60) (cx_hostInit l g (hgt - 1) a1 hh2) qX3_init rfl vX3_init kX9_35 dX9_init_60 rfl rfl (Nat.le_of_ble_eq_true rfl) hh3 (by first | decide | omega) (by first | decide | omega) ?_
        rintro _ S' ⟨rfl, C, u0, h0, hf, hn, hi⟩
        have G := F.step hb0 hx e1.symm C h0 hf hn hi fH mH nH nMH nFH
        have R : isA S' 2 (u0 0) 0 (iH 0) (fun k => (rH 0 k).map u0) := hf 0 (by decide)
        rw [h0] at R
        refine J_rast11 (pc := 63) (aH1.keep C nxH).ar rfl h8 (by first | omega | exact mLn_lt _) R.at dX9_init_63 ?_
        refine J_iinc (pc := 64) dX9_init_64 rfl (inc1 _) (by decide) ?_
        refine J_goto (pc := 67) (tgt := 45) dX9_init_67 rfl ?_
        exact J_lvk (J_cnt (ih _ _ G) (by omega) (by omega)) ⟨rfl, rfl, trivial⟩
  refine J_iconst (pc := 43) (v := nI 0) dX9_init_43 (by decide) ?_
  refine J_istore_n (pc := 44) dX9_init_44 rfl (by decide) ?_
  exact J_lvk (loop 0 (by omega) S9 _ F0) ⟨rfl, rfl, trivial⟩
