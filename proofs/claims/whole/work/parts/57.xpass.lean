/-! THE CLASS: through the switches -/
theorem nI_m1 {x : Nat} (h : x < 2 ^ 31) : ¬ nI x = -1 := fun e => by
  have := (nI_leI (a := 0) (by decide) h).mpr (by omega)
  rw [e] at this
  exact absurd this (by decide)
def okP (X : XS) (e : Nat × Nat × Nat) (p : Nat) : Prop := e.1 < 4 ∧ p < 4 ∧ x_goal X e.1 e.2.1 < 8 ∧ e.2.1 < 64 ∧ e.2.2 < 4096
set_option maxRecDepth 100000 in
theorem cx_queueOf (l : Launch) (g : jG) (hgt : Nat) {S : jS} {w : Nat → Nat → Nat} {hx : Nat} {X : XS} {k p : Nat} (hW : WX S w hx X) (h8 : 8 ≤ k) (hk : k < 24) (hp : p < 4) : CT l g mX2_queueOf hgt 0 0 [.ref (w 1 0), .int (nI k), .int (nI p)] S (jPure (.ref (w 5 ((k - 8) * 4 + p))) S) := by
  refine CT_of qX2_queueOf (Nat.le_of_ble_eq_true rfl) ?_
  refine J_aload_n (pc := 0) dX2_queueOf_0 rfl rfl ?_
  refine J_getr (pc := 1) (i := 2) cl1 hW.fo (by decide) rfl hW.f2 kX2_20 dX2_queueOf_1 ?_
  refine J_iload_n (pc := 4) dX2_queueOf_4 rfl rfl ?_
  refine J_bipush (pc := 5) (v := nI 8) dX2_queueOf_5 (by decide) ?_
  refine J_isubN (b := 8) dX2_queueOf_7 (by omega) ?_
  refine J_iconst (pc := 8) (v := nI 4) dX2_queueOf_8 (by decide) ?_
  refine J_imulN (b := 4) dX2_queueOf_9 ?_
  refine J_iload_n (pc := 10) dX2_queueOf_10 rfl rfl ?_
  refine J_iaddN dX2_queueOf_11 ?_
  refine J_rald13 (pc := 12) hW.aq rfl (show (k - 8) * 4 + p < 64 by omega) (by first | omega | exact mLn_lt _) (hW.r 13 0 _ Nat.one_pos (if_pos (by omega))) dX2_queueOf_12 ?_
  refine J_aret (pc := 13) dX2_queueOf_13 rfl (Or.inr ⟨_, rfl⟩) (by omega) (by omega) ?_
  exact ⟨rfl, rfl⟩
set_option maxRecDepth 100000 in
theorem cx_enqueue (l : Launch) (g : jG) (hgt : Nat) {S : jS} {w : Nat → Nat → Nat} {hx : Nat} {X : XS} {k p : Nat} {e : Nat × Nat × Nat} (hW : WX S w hx X) (h8 : 8 ≤ k) (hk : k < 24) (ho : okP X e p) (hh : 1 ≤ hgt) : CT l g mX2_enqueue hgt 0 0 [.ref (w 1 0), .int (nI k), .int (nI (pkF (xV X 8) (xV X 9) e p))] S (xQ w hx none (x_line X k e p)) := by
  obtain ⟨o1, hp, o3, o4, o5⟩ := ho
  have hr : (k - 8) * 4 + p < 72 := by omega
  have e1 : 4 * k + p = 32 + ((k - 8) * 4 + p) := by omega
  have e2 : pr ((k - 8) * 4 + p) = p := by
    unfold pr
    rw [if_pos (by omega)]
    omega
  have e3 : rN ((k - 8) * 4 + p) = 8 := if_pos (by omega)
  obtain ⟨f, hrow, hpl⟩ := hW.row hr
  refine CT_of qX2_enqueue (Nat.le_of_ble_eq_true rfl) ?_
  refine J_aload_n (pc := 0) dX2_enqueue_0 rfl rfl ?_
  refine J_iload_n (pc := 1) dX2_enqueue_1 rfl rfl ?_
  refine J_iload_n (pc := 2) dX2_enqueue_2 rfl rfl ?_
  refine J_callS (pc := 3) (cx_priorityOf l g (hgt - 1) o1 hp o3 o4 o5) qX5_priorityOf vX5_priorityOf kX2_92 dX2_enqueue_3 rfl rfl (Nat.le_of_ble_eq_true rfl) (by omega) (by omega) (by omega) ?_
  rintro _ _ ⟨rfl, rfl⟩
  refine J_callV (pc := 6) (cx_queueOf l g (hgt - 1) hW h8 hk hp) qX2_queueOf vX2_queueOf cl1 rfl hW.fo kX2_95 dX2_enqueue_6 rfl rfl (Nat.le_of_ble_eq_true rfl) (by omega) (by omega) (by omega) ?_
  rintro _ _ ⟨rfl, rfl⟩
  refine J_iload_n (pc := 9) dX2_enqueue_9 rfl rfl ?_
  refine J_callV (pc := 10) (c_Row_put l g (hgt - 1) _ hrow) qX7_put vX7_put cl5 rfl hrow.1 kX2_99 dX2_enqueue_10 rfl rfl (Nat.le_of_ble_eq_true rfl) (by omega) (by omega) (by omega) ?_
  intro r S' hq
  unfold x_line
  rw [e1]
  split at hq
  case isTrue hl =>
    rw [if_pos (by omega)]
    obtain ⟨rfl, rfl⟩ := hq
    refine J_if_ne (pc := 13) (tgt := 26) dX2_enqueue_13 rfl (fun hc9 => absurd ((by decide)) hc9) (fun _ => ?_)
    refine J_aload_n (pc := 16) dX2_enqueue_16 rfl rfl ?_
    refine J_dup (pc := 17) dX2_enqueue_17 rfl ?_
    refine J_geti (pc := 18) (i := 5) cl1 hW.fo (by decide) rfl hW.t2 kX2_31 dX2_enqueue_18 ?_
    refine J_iconst (pc := 21) (v := nI 1) dX2_enqueue_21 (by decide) ?_
    refine J_iaddN (b := 1) dX2_enqueue_22 ?_
    refine J_puti (pc := 23) (i := 5) cl1 hW.fo (by decide) rfl rfl rfl rfl kX2_31 dX2_enqueue_23 ?_
    refine J_vret (pc := 26) dX2_enqueue_26 rfl (by omega) (by omega) ?_
    exact ⟨rfl, hW.wV 2 0 _ Nat.one_pos (by decide)⟩
  case isFalse hl =>
    rw [if_neg (by omega)]
    obtain ⟨rfl, rfl⟩ := hq
    refine J_if_ne (pc := 13) (tgt := 26) dX2_enqueue_13 rfl (fun _ => ?_) (fun hc9 => absurd hc9 ((by decide)))
    refine J_vret (pc := 26) dX2_enqueue_26 rfl (by omega) (by omega) ?_
    refine ⟨rfl, ?_⟩
    have := hrow.2.2.2.2.2.2.1
    have z := hW.put hr hrow hpl (by omega) e
    rw [e2] at z
    exact z
/-- the spine that a leaf takes: chosen anew -/
theorem b_nI (x : Nat) (hx : x ≤ 1) : nI (1 - x) = bI (decide (x = 0)) := by
  have : x = 0 ∨ x = 1 := by omega
  rcases this with e | e <;> subst e <;> rfl
set_option maxRecDepth 100000 in
theorem cx_chooseSpine (l : Launch) (g : jG) (hgt : Nat) {S : jS} {w : Nat → Nat → Nat} {hx : Nat} {X : XS} {leaf : Nat} (hW : WX S w hx X) (hl : leaf < 2) (hs : ∀ s, s < 2 → xV X 6 s ≤ 1 ∧ xV X 7 s ≤ 1) : CT l g mX2_chooseSpine hgt 0 0 [.ref (w 1 0), .int (nI leaf)] S (fun r S' => if xV X 6 0 = 1 ∧ xV X 6 1 = 1 then r = some (.int (-1)) ∧ S = S' else r = some (.int (nI (x_spine X leaf))) ∧ WX S' w hx (yV X 7 leaf (x_spine X leaf))) := by
  have s0 := hs 0 (by decide)
  have s1 := hs 1 (by decide)
  have hb := (hs leaf hl).2
  have tail : ∀ c, c < 2 → (¬ (xV X 6 0 = 1 ∧ xV X 6 1 = 1) → c = x_spine X leaf ∧ xV X 6 c = 0) → ((xV X 6 0 = 1 ∧ xV X 6 1 = 1) → xV X 6 c = 1) → J l g mX2_chooseSpine hgt 0 0 (fun r S' => if xV X 6 0 = 1 ∧ xV X 6 1 = 1 then r = some (.int (-1)) ∧ S = S' else r = some (.int (nI (x_spine X leaf))) ∧ WX S' w hx (yV X 7 leaf (x_spine X leaf))) 25 [(0, .ref (w 1 0)), (1, .int (nI leaf))] [.int (nI c)] S 0 0 := by
    intro c hc h1 h2
    refine J_istore_n (pc := 25) dX2_chooseSpine_25 rfl (by decide) ?_
    refine J_aload_n (pc := 26) dX2_chooseSpine_26 rfl rfl ?_
    refine J_getr (pc := 27) (i := 3) cl1 hW.fo (by decide) rfl hW.f3 kX2_24 dX2_chooseSpine_27 ?_
    refine J_iload_n (pc := 30) dX2_chooseSpine_30 rfl rfl ?_
    refine J_zald (pc := 31) hW.az rfl hc (by first | omega | exact mLn_lt _) (hW.spi hc) dX2_chooseSpine_31 ?_
    by_cases q : xV X 6 0 = 1 ∧ xV X 6 1 = 1
    · rw [h2 q]
      refine J_if_ne (pc := 32) (tgt := 37) dX2_chooseSpine_32 rfl (fun hc9 => absurd ((by decide)) hc9) (fun _ => ?_)
      refine J_iconst (pc := 35) (v := (-1)) dX2_chooseSpine_35 (by decide) ?_
      refine J_iret (pc := 36) dX2_chooseSpine_36 rfl (by omega) (by omega) ?_
      rw [if_pos q]
      exact ⟨rfl, rfl⟩
    · rw [(h1 q).2]
      refine J_if_ne (pc := 32) (tgt := 37) dX2_chooseSpine_32 rfl (fun _ => ?_) (fun hc9 => absurd hc9 ((by decide)))
      refine J_aload_n (pc := 37) dX2_chooseSpine_37 rfl rfl ?_
      refine J_getr (pc := 38) (i := 4) cl1 hW.fo (by decide) rfl hW.f4 kX2_28 dX2_chooseSpine_38 ?_
      refine J_iload_n (pc := 41) dX2_chooseSpine_41 rfl rfl ?_
      refine J_iload_n (pc := 42) dX2_chooseSpine_42 rfl rfl ?_
      refine J_iast (pc := 43) hW.a74 rfl hl (by first | omega | exact mLn_lt _) dX2_chooseSpine_43 ?_
      refine J_iload_n (pc := 44) dX2_chooseSpine_44 rfl rfl ?_
      refine J_iret (pc := 45) dX2_chooseSpine_45 rfl (by omega) (by omega) ?_
      rw [if_neg q, ← (h1 q).1]
      exact ⟨rfl, hW.wV 7 leaf c hl (by decide)⟩
  refine CT_of qX2_chooseSpine (Nat.le_of_ble_eq_true rfl) ?_
  refine J_iconst (pc := 0) (v := nI 1) dX2_chooseSpine_0 (by decide) ?_
  refine J_aload_n (pc := 1) dX2_chooseSpine_1 rfl rfl ?_
  refine J_getr (pc := 2) (i := 4) cl1 hW.fo (by decide) rfl hW.f4 kX2_28 dX2_chooseSpine_2 ?_
  refine J_iload_n (pc := 5) dX2_chooseSpine_5 rfl rfl ?_
  refine J_iald (pc := 6) hW.a74 rfl hl (by first | omega | exact mLn_lt _) (hW.t7 hl) dX2_chooseSpine_6 ?_
  refine J_isubN (a := 1) dX2_chooseSpine_7 (by omega) ?_
  refine J_istore_n (pc := 8) dX2_chooseSpine_8 rfl (by decide) ?_
  refine J_aload_n (pc := 9) dX2_chooseSpine_9 rfl rfl ?_
  refine J_getr (pc := 10) (i := 3) cl1 hW.fo (by decide) rfl hW.f3 kX2_24 dX2_chooseSpine_10 ?_
  refine J_iload_n (pc := 13) dX2_chooseSpine_13 rfl rfl ?_
  refine J_zald (pc := 14) hW.az rfl (show 1 - xV X 7 leaf < 2 by omega) (by first | omega | exact mLn_lt _) (hW.spi (by omega)) dX2_chooseSpine_14 ?_
  refine J_if_eqN (pc := 15) (tgt := 22) dX2_chooseSpine_15 rfl (by omega) (fun B => ?_) (fun B => ?_)
  · refine J_iconst (pc := 22) (v := nI 1) dX2_chooseSpine_22 (by decide) ?_
    refine J_iload_n (pc := 23) dX2_chooseSpine_23 rfl rfl ?_
    refine J_isubN (a := 1) dX2_chooseSpine_24 (by omega) ?_
    refine J_lvk (tail (1 - (1 - xV X 7 leaf)) (by omega) (fun q => ?_) (fun q => ?_)) ⟨rfl, rfl, trivial⟩
    · unfold x_spine
      rcases (show xV X 7 leaf = 0 ∨ xV X 7 leaf = 1 by omega) with h7 | h7 <;> rw [h7] at B ⊢ <;> simp only [Nat.sub_zero, Nat.sub_self] at B ⊢ <;> first | omega | (refine ⟨?_, ?_⟩ <;> (try (repeat' split)) <;> omega)
    · rcases (show xV X 7 leaf = 0 ∨ xV X 7 leaf = 1 by omega) with h7 | h7 <;> rw [h7] at B ⊢ <;> simp only [Nat.sub_zero, Nat.sub_self] at B ⊢ <;> first | omega | (refine ⟨?_, ?_⟩ <;> (try (repeat' split)) <;> omega)
  · refine J_iload_n (pc := 18) dX2_chooseSpine_18 rfl rfl ?_
    refine J_goto (pc := 19) (tgt := 25) dX2_chooseSpine_19 rfl ?_
    refine J_lvk (tail (1 - xV X 7 leaf) (by omega) (fun q => ?_) (fun q => ?_)) ⟨rfl, rfl, trivial⟩
    · unfold x_spine
      rcases (show xV X 7 leaf = 0 ∨ xV X 7 leaf = 1 by omega) with h7 | h7 <;> rw [h7] at B ⊢ <;> simp only [Nat.sub_zero, Nat.sub_self] at B ⊢ <;> first | omega | (refine ⟨?_, ?_⟩ <;> (try (repeat' split)) <;> omega)
    · rcases (show xV X 7 leaf = 0 ∨ xV X 7 leaf = 1 by omega) with h7 | h7 <;> rw [h7] at B ⊢ <;> simp only [Nat.sub_zero, Nat.sub_self] at B ⊢ <;> first | omega | (refine ⟨?_, ?_⟩ <;> (try (repeat' split)) <;> omega)
theorem okP.of {X X' : XS} {e : Nat × Nat × Nat} {p : Nat} (h : okP X e p) (h8 : xV X' 8 = xV X 8) (h9 : xV X' 9 = xV X 9) : okP X' e p := by
  unfold okP x_goal at *
  rw [h8, h9]
  exact h
set_option maxRecDepth 100000 in
theorem cx_passLeaf (l : Launch) (g : jG) (hgt : Nat) {S : jS} {w : Nat → Nat → Nat} {hx : Nat} {X : XS} {k p : Nat} {e : Nat × Nat × Nat} (hW : WX S w hx X) (hk : k < 24) (hk2 : k < 8 ∨ 20 ≤ k) (ho : okP X e p) (hs : ∀ s, s < 2 → xV X 6 s ≤ 1 ∧ xV X 7 s ≤ 1) (hh : 2 ≤ hgt) : CT l g mX2_passLeaf hgt 0 0 [.ref (w 1 0), .int (nI k), .int (nI (pkF (xV X 8) (xV X 9) e p))] S (xQ w hx none (x_atLeaf X (if k < 8 then k / 4 else (k - 20) % 2) e p)) := by
  obtain ⟨o1, hp, o3, o4, o5⟩ := ho
  have hlf : (if k < 8 then k / 4 else (k - 20) % 2) < 2 := by split <;> omega
  refine CT_of qX2_passLeaf (Nat.le_of_ble_eq_true rfl) ?_
  refine J_iload_n (pc := 0) dX2_passLeaf_0 rfl rfl ?_
  refine J_callS (pc := 1) (cx_leafAtEnd l g (hgt - 1) hk hk2 (by omega)) qX2_leafAtEnd vX2_leafAtEnd kX2_73 dX2_passLeaf_1 rfl rfl (Nat.le_of_ble_eq_true rfl) (by omega) (by omega) (by omega) ?_
  rintro _ _ ⟨rfl, rfl⟩
  generalize (if k < 8 then k / 4 else (k - 20) % 2) = leaf at hlf ⊢
  refine J_istore_n (pc := 4) dX2_passLeaf_4 rfl (by decide) ?_
  refine J_iload_n (pc := 5) dX2_passLeaf_5 rfl rfl ?_
  refine J_callS (pc := 6) (cx_goalOf l g (hgt - 1) o1 hp o3 o4 o5) qX5_goalOf vX5_goalOf kX2_76 dX2_passLeaf_6 rfl rfl (Nat.le_of_ble_eq_true rfl) (by omega) (by omega) (by omega) ?_
  rintro _ _ ⟨rfl, rfl⟩
  refine J_istore (pc := 9) dX2_passLeaf_9 (by decide) ?_
  refine J_iload (pc := 11) dX2_passLeaf_11 rfl ?_
  refine J_callS (pc := 13) (cx_leafOfHost l g (hgt - 1) (show x_goal X e.1 e.2.1 < 24 by omega)) qX2_leafOfHost vX2_leafOfHost kX2_57 dX2_passLeaf_13 rfl rfl (Nat.le_of_ble_eq_true rfl) (by omega) (by omega) (by omega) ?_
  rintro _ _ ⟨rfl, rfl⟩
  refine J_iload_n (pc := 16) dX2_passLeaf_16 rfl rfl ?_
  unfold x_atLeaf
  refine J_icmp_neN (pc := 17) (tgt := 34) dX2_passLeaf_17 rfl (by omega) (by omega) (fun B => ?_) (fun B => ?_)
  · rw [if_neg B]
    refine J_aload_n (pc := 34) dX2_passLeaf_34 rfl rfl ?_
    refine J_iload_n (pc := 35) dX2_passLeaf_35 rfl rfl ?_
    refine J_callV (pc := 36) (cx_chooseSpine l g (hgt - 1) hW hlf hs) qX2_chooseSpine vX2_chooseSpine cl1 rfl hW.fo kX2_86 dX2_passLeaf_36 rfl rfl (Nat.le_of_ble_eq_true rfl) (by omega) (by omega) (by omega) ?_
    intro r S' hq
    split at hq
    case isTrue hl =>
      rw [if_pos hl]
      obtain ⟨rfl, rfl⟩ := hq
      refine J_istore (pc := 39) dX2_passLeaf_39 (by decide) ?_
      refine J_iload (pc := 41) dX2_passLeaf_41 rfl ?_
      refine J_iconst (pc := 43) (v := (-1)) dX2_passLeaf_43 (by decide) ?_
      refine J_icmp_ne (pc := 44) (tgt := 60) dX2_passLeaf_44 rfl (fun hc9 => absurd ((by decide)) hc9) (fun _ => ?_)
      refine J_aload_n (pc := 47) dX2_passLeaf_47 rfl rfl ?_
      refine J_dup (pc := 48) dX2_passLeaf_48 rfl ?_
      refine J_geti (pc := 49) (i := 5) cl1 hW.fo (by decide) rfl hW.t2 kX2_31 dX2_passLeaf_49 ?_
      refine J_iconst (pc := 52) (v := nI 1) dX2_passLeaf_52 (by decide) ?_
      refine J_iaddN (b := 1) dX2_passLeaf_53 ?_
      refine J_puti (pc := 54) (i := 5) cl1 hW.fo (by decide) rfl rfl rfl rfl kX2_31 dX2_passLeaf_54 ?_
      refine J_goto (pc := 57) (tgt := 73) dX2_passLeaf_57 rfl ?_
      refine J_vret (pc := 73) dX2_passLeaf_73 rfl (by omega) (by omega) ?_
      exact ⟨rfl, hW.wV 2 0 _ Nat.one_pos (by decide)⟩
    case isFalse hl =>
      rw [if_neg hl]
      obtain ⟨rfl, hW⟩ := hq
      have hx2 : x_spine X leaf < 2 := by
        have := hs leaf hlf
        unfold x_spine
        repeat' split
        all_goals omega
      generalize x_spine X leaf = s at *
      refine J_istore (pc := 39) dX2_passLeaf_39 (by decide) ?_
      refine J_iload (pc := 41) dX2_passLeaf_41 rfl ?_
      refine J_iconst (pc := 43) (v := (-1)) dX2_passLeaf_43 (by decide) ?_
      refine J_icmp_ne (pc := 44) (tgt := 60) dX2_passLeaf_44 rfl (fun _ => ?_) (fun hc9 => absurd hc9 ((nI_m1 (by omega))))
      refine J_aload_n (pc := 60) dX2_passLeaf_60 rfl rfl ?_
      refine J_iload_n (pc := 61) dX2_passLeaf_61 rfl rfl ?_
      refine J_iconst (pc := 62) (v := nI 4) dX2_passLeaf_62 (by decide) ?_
      refine J_iload (pc := 63) dX2_passLeaf_63 rfl ?_
      refine J_iaddN (a := 4) dX2_passLeaf_65 ?_
      refine J_callS (pc := 66) (cx_linkFromLeaf l g (hgt - 1) _ _) qX2_linkFromLeaf vX2_linkFromLeaf kX2_79 dX2_passLeaf_66 rfl rfl (Nat.le_of_ble_eq_true rfl) (by omega) (by omega) (by omega) ?_
      rintro _ _ ⟨rfl, rfl⟩
      refine J_iload_n (pc := 69) dX2_passLeaf_69 rfl rfl ?_
      refine J_callV (pc := 70) (cx_enqueue l g (hgt - 1) (e := e) (p := p) hW (show 8 ≤ 8 + 6 * leaf + (4 + s) by omega) (by omega) (okP.of ⟨o1, hp, o3, o4, o5⟩ (xV_nf (by decide)) (xV_nf (by decide))) (by omega)) qX2_enqueue vX2_enqueue cl1 rfl hW.fo kX2_83 dX2_passLeaf_70 rfl rfl (Nat.le_of_ble_eq_true rfl) (by omega) (by omega) (by omega) ?_
      rintro _ _ ⟨rfl, hW⟩
      refine J_vret (pc := 73) dX2_passLeaf_73 rfl (by omega) (by omega) ?_
      rw [← Nat.add_assoc] at hW
      exact ⟨rfl, hW⟩
  · rw [if_pos B]
    refine J_aload_n (pc := 20) dX2_passLeaf_20 rfl rfl ?_
    refine J_iload_n (pc := 21) dX2_passLeaf_21 rfl rfl ?_
    refine J_iload (pc := 22) dX2_passLeaf_22 rfl ?_
    refine J_iconst (pc := 24) (v := nI 4) dX2_passLeaf_24 (by decide) ?_
    refine J_iremN (b := 4) dX2_passLeaf_25 (by omega) (by decide) (by decide) ?_
    refine J_callS (pc := 26) (cx_linkFromLeaf l g (hgt - 1) _ _) qX2_linkFromLeaf vX2_linkFromLeaf kX2_79 dX2_passLeaf_26 rfl rfl (Nat.le_of_ble_eq_true rfl) (by omega) (by omega) (by omega) ?_
    rintro _ _ ⟨rfl, rfl⟩
    refine J_iload_n (pc := 29) dX2_passLeaf_29 rfl rfl ?_
    refine J_callV (pc := 30) (cx_enqueue l g (hgt - 1) (e := e) (p := p) hW (show 8 ≤ 8 + 6 * leaf + x_goal X e.1 e.2.1 % 4 by omega) (by omega) ⟨o1, hp, o3, o4, o5⟩ (by omega)) qX2_enqueue vX2_enqueue cl1 rfl hW.fo kX2_83 dX2_passLeaf_30 rfl rfl (Nat.le_of_ble_eq_true rfl) (by omega) (by omega) (by omega) ?_
    rintro _ _ ⟨rfl, hW⟩
    refine J_vret (pc := 33) dX2_passLeaf_33 rfl (by omega) (by omega) ?_
    exact ⟨rfl, hW⟩
set_option maxRecDepth 100000 in
theorem cx_passSpine (l : Launch) (g : jG) (hgt : Nat) {S : jS} {w : Nat → Nat → Nat} {hx : Nat} {X : XS} {k p : Nat} {e : Nat × Nat × Nat} (hW : WX S w hx X) (hk : k < 20) (h8 : 8 ≤ k) (h4 : 4 ≤ (k - 8) % 6) (ho : okP X e p) (hs : ∀ s, s < 2 → xV X 6 s ≤ 1 ∧ xV X 7 s ≤ 1) (hh : 2 ≤ hgt) : CT l g mX2_passSpine hgt 0 0 [.ref (w 1 0), .int (nI k), .int (nI (pkF (xV X 8) (xV X 9) e p))] S (xQ w hx none (if xV X 6 ((k - 8) % 6 - 4) = 1 then x_drop X else x_line X (20 + 2 * ((k - 8) % 6 - 4) + x_goal X e.1 e.2.1 / 4) e p)) := by
  have ho' := ho
  obtain ⟨o1, hp, o3, o4, o5⟩ := ho
  have hs2 : (k - 8) % 6 - 4 < 2 := by omega
  have hsv := (hs _ hs2).1
  refine CT_of qX2_passSpine (Nat.le_of_ble_eq_true rfl) ?_
  refine J_iload_n (pc := 0) dX2_passSpine_0 rfl rfl ?_
  refine J_callS (pc := 1) (cx_portOfLeaf l g (hgt - 1) (by omega) h8) qX2_portOfLeaf vX2_portOfLeaf kX2_53 dX2_passSpine_1 rfl rfl (Nat.le_of_ble_eq_true rfl) (by omega) (by omega) (by omega) ?_
  rintro _ _ ⟨rfl, rfl⟩
  refine J_iconst (pc := 4) (v := nI 4) dX2_passSpine_4 (by decide) ?_
  refine J_isubN (b := 4) dX2_passSpine_5 h4 ?_
  refine J_istore_n (pc := 6) dX2_passSpine_6 rfl (by decide) ?_
  refine J_aload_n (pc := 7) dX2_passSpine_7 rfl rfl ?_
  refine J_getr (pc := 8) (i := 3) cl1 hW.fo (by decide) rfl hW.f3 kX2_24 dX2_passSpine_8 ?_
  refine J_iload_n (pc := 11) dX2_passSpine_11 rfl rfl ?_
  refine J_zald (pc := 12) hW.az rfl hs2 (by first | omega | exact mLn_lt _) (hW.spi hs2) dX2_passSpine_12 ?_
  refine J_if_eqN (pc := 13) (tgt := 35) dX2_passSpine_13 rfl (by omega) (fun B => ?_) (fun B => ?_)
  · rw [if_pos (by omega)]
    refine J_aload_n (pc := 35) dX2_passSpine_35 rfl rfl ?_
    refine J_dup (pc := 36) dX2_passSpine_36 rfl ?_
    refine J_geti (pc := 37) (i := 5) cl1 hW.fo (by decide) rfl hW.t2 kX2_31 dX2_passSpine_37 ?_
    refine J_iconst (pc := 40) (v := nI 1) dX2_passSpine_40 (by decide) ?_
    refine J_iaddN (b := 1) dX2_passSpine_41 ?_
    refine J_puti (pc := 42) (i := 5) cl1 hW.fo (by decide) rfl rfl rfl rfl kX2_31 dX2_passSpine_42 ?_
    refine J_vret (pc := 45) dX2_passSpine_45 rfl (by omega) (by omega) ?_
    exact ⟨rfl, hW.wV 2 0 _ Nat.one_pos (by decide)⟩
  · rw [if_neg (by omega)]
    refine J_aload_n (pc := 16) dX2_passSpine_16 rfl rfl ?_
    refine J_iload_n (pc := 17) dX2_passSpine_17 rfl rfl ?_
    refine J_iload_n (pc := 18) dX2_passSpine_18 rfl rfl ?_
    refine J_callS (pc := 19) (cx_goalOf l g (hgt - 1) o1 hp o3 o4 o5) qX5_goalOf vX5_goalOf kX2_76 dX2_passSpine_19 rfl rfl (Nat.le_of_ble_eq_true rfl) (by omega) (by omega) (by omega) ?_
    rintro _ _ ⟨rfl, rfl⟩
    refine J_callS (pc := 22) (cx_leafOfHost l g (hgt - 1) (show x_goal X e.1 e.2.1 < 24 by omega)) qX2_leafOfHost vX2_leafOfHost kX2_57 dX2_passSpine_22 rfl rfl (Nat.le_of_ble_eq_true rfl) (by omega) (by omega) (by omega) ?_
    rintro _ _ ⟨rfl, rfl⟩
    refine J_callS (pc := 25) (cx_linkFromSpine l g (hgt - 1) _ _) qX2_linkFromSpine vX2_linkFromSpine kX2_89 dX2_passSpine_25 rfl rfl (Nat.le_of_ble_eq_true rfl) (by omega) (by omega) (by omega) ?_
    rintro _ _ ⟨rfl, rfl⟩
    refine J_iload_n (pc := 28) dX2_passSpine_28 rfl rfl ?_
    refine J_callV (pc := 29) (cx_enqueue l g (hgt - 1) (e := e) (p := p) hW (show 8 ≤ 20 + 2 * ((k - 8) % 6 - 4) + x_goal X e.1 e.2.1 / 4 by omega) (by omega) ho' (by omega)) qX2_enqueue vX2_enqueue cl1 rfl hW.fo kX2_83 dX2_passSpine_29 rfl rfl (Nat.le_of_ble_eq_true rfl) (by omega) (by omega) (by omega) ?_
    rintro _ _ ⟨rfl, hW⟩
    refine J_goto (pc := 32) (tgt := 45) dX2_passSpine_32 rfl ?_
    refine J_vret (pc := 45) dX2_passSpine_45 rfl (by omega) (by omega) ?_
    exact ⟨rfl, hW⟩
set_option maxRecDepth 100000 in
theorem cx_passOn (l : Launch) (g : jG) (hgt : Nat) {S : jS} {w : Nat → Nat → Nat} {hx : Nat} {X : XS} {k p : Nat} {e : Nat × Nat × Nat} (hW : WX S w hx X) (hk : k < 24) (hn : ¬ (8 ≤ k ∧ k < 20 ∧ (k - 8) % 6 < 4)) (ho : okP X e p) (hs : ∀ s, s < 2 → xV X 6 s ≤ 1 ∧ xV X 7 s ≤ 1) (hh : 3 ≤ hgt) : CT l g mX2_passOn hgt 0 0 [.ref (w 1 0), .int (nI k), .int (nI (pkF (xV X 8) (xV X 9) e p))] S (xQ w hx none (if k < 8 then x_atLeaf X (k / 4) e p else if 20 ≤ k then x_atLeaf X ((k - 20) % 2) e p else if xV X 6 ((k - 8) % 6 - 4) = 1 then x_drop X else x_line X (20 + 2 * ((k - 8) % 6 - 4) + x_goal X e.1 e.2.1 / 4) e p)) := by
  refine CT_of qX2_passOn (Nat.le_of_ble_eq_true rfl) ?_
  refine J_iload_n (pc := 0) dX2_passOn_0 rfl rfl ?_
  refine J_callS (pc := 1) (cx_endsAtSpine l g (hgt - 1) hk (by omega)) qX2_endsAtSpine vX2_endsAtSpine kX2_63 dX2_passOn_1 rfl rfl (Nat.le_of_ble_eq_true rfl) (by omega) (by omega) (by omega) ?_
  rintro _ _ ⟨rfl, rfl⟩
  refine J_if_eqB (pc := 4) (tgt := 16) dX2_passOn_4 rfl (fun B => ?_) (fun B => ?_)
  · have B := of_decide_eq_false B
    refine J_aload_n (pc := 16) dX2_passOn_16 rfl rfl ?_
    refine J_iload_n (pc := 17) dX2_passOn_17 rfl rfl ?_
    refine J_iload_n (pc := 18) dX2_passOn_18 rfl rfl ?_
    refine J_callV (pc := 19) (cx_passLeaf l g (hgt - 1) hW hk (by omega) ho hs (by omega)) qX2_passLeaf vX2_passLeaf cl1 rfl hW.fo kX2_70 dX2_passOn_19 rfl rfl (Nat.le_of_ble_eq_true rfl) (by omega) (by omega) (by omega) ?_
    rintro _ _ ⟨rfl, hW⟩
    refine J_vret (pc := 22) dX2_passOn_22 rfl (by omega) (by omega) ?_
    refine ⟨rfl, ?_⟩
    by_cases q : k < 8
    · rw [if_pos q] at hW ⊢
      exact hW
    · rw [if_neg q] at hW ⊢
      rw [if_pos (by omega)]
      exact hW
  · have B := of_decide_eq_true B
    refine J_aload_n (pc := 7) dX2_passOn_7 rfl rfl ?_
    refine J_iload_n (pc := 8) dX2_passOn_8 rfl rfl ?_
    refine J_iload_n (pc := 9) dX2_passOn_9 rfl rfl ?_
    refine J_callV (pc := 10) (cx_passSpine l g (hgt - 1) hW (by omega) (by omega) (by omega) ho hs (by omega)) qX2_passSpine vX2_passSpine cl1 rfl hW.fo kX2_66 dX2_passOn_10 rfl rfl (Nat.le_of_ble_eq_true rfl) (by omega) (by omega) (by omega) ?_
    rintro _ _ ⟨rfl, hW⟩
    refine J_goto (pc := 13) (tgt := 22) dX2_passOn_13 rfl ?_
    refine J_vret (pc := 22) dX2_passOn_22 rfl (by omega) (by omega) ?_
    refine ⟨rfl, ?_⟩
    rw [if_neg (by omega), if_neg (by omega)]
    exact hW
