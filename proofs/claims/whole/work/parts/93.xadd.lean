/-! THE CLASS: the cutoffs when a message begins -/
def late (L : List Nat) : List Nat := L.drop (L.length - 16)
def cutL (L : List Nat) (t : Nat) : Nat := if late L = [] then 0 else lst (fun v => decide (t * (late L).length / 3 < cle (late L) v)) 61
theorem x_cut_L (X : XS) (h t : Nat) : x_cut X h t = cutL (x_lens X h) t := rfl
/-- only the fields of o and the cells of la and so change -/
def onC (S S' : jS) (o la so : Nat) : Prop := S'.1 = S.1 ∧ S'.2.1 = S.2.1 ∧ S'.2.2.2 = S.2.2.2 ∧ ∀ c x k, ¬ (c = 0 ∧ x = o) → ¬ (c = 9 ∧ (x = la ∨ x = so)) → sI S' c x k = sI S c x k
/-- what the cutoffs at o hold: the row of the lengths L -/
def cutH (S : jS) (o la so : Nat) (L : List Nat) : Prop := sAt S 0 o ∧ sP S 0 o 0 = some la ∧ sP S 0 o 1 = some so ∧ aAt S 9 la 16 ∧ aAt S 9 so 16 ∧ la ≠ so ∧ sI S 0 o 2 = nI (L.length % 16) ∧ sI S 0 o 3 = nI (min L.length 16) ∧ ∀ t v, L[t]? = some v → L.length ≤ t + 16 → sI S 9 la (t % 16) = nI v
set_option maxRecDepth 100000 in
theorem cx_add (l : Launch) (g : jG) (hgt : Nat) {S : jS} {o la so n : Nat} {L : List Nat} (hC : cutH S o la so L) (h60 : ∀ v ∈ L, v ≤ 60) (hn : n ≤ 60) (hL : L.length < 1000) (hh : 1 ≤ hgt) : CT l g mX1_add hgt 0 0 [.ref o, .int (nI n)] S (fun r S' => r = none ∧ onC S S' o la so ∧ sI S' 0 o 2 = nI ((L ++ [n]).length % 16) ∧ sI S' 0 o 3 = nI (min (L ++ [n]).length 16) ∧ sI S' 0 o 4 = nI (cutL (L ++ [n]) 1) ∧ sI S' 0 o 5 = nI (cutL (L ++ [n]) 2) ∧ ∀ t v, (L ++ [n])[t]? = some v → (L ++ [n]).length ≤ t + 16 → sI S' 9 la (t % 16) = nI v) := by
  obtain ⟨h1, h2, h3, h4, h5, h6, h7, h8, h9⟩ := hC
  have hlen : (L ++ [n]).length = L.length + 1 := by rw [List.length_append]; rfl
  have hmem : ∀ v ∈ L ++ [n], v ≤ 60 := fun v hv => by
    rcases List.mem_append.mp hv with z | z
    · exact h60 v z
    · rw [List.mem_singleton.mp z]
      exact hn
  have hring : ∀ t v, (L ++ [n])[t]? = some v → (L ++ [n]).length ≤ t + 16 → sI (uI S 9 la (L.length % 16) (nI n)) 9 la (t % 16) = nI v := by
    intro t v hv ht
    rw [hlen] at ht
    rw [sI_uI]
    by_cases q : t = L.length
    · subst q
      rw [List.getElem?_append_right (Nat.le_refl _), Nat.sub_self] at hv
      cases hv
      rw [if_pos ⟨rfl, rfl, rfl⟩]
    · have hlt : t < L.length := by
        have : t < (L ++ [n]).length := by
          refine Decidable.not_not.mp (fun z => ?_)
          rw [List.getElem?_eq_none (by omega)] at hv
          cases hv
        omega
      rw [List.getElem?_append_left hlt] at hv
      rw [if_neg (by omega)]
      exact h9 t v hv (by omega)
  generalize L ++ [n] = L' at *
  have k1 : L.length % 16 < 16 := by omega
  refine CT_of qX1_add (Nat.le_of_ble_eq_true rfl) ?_
  refine J_aload_n (pc := 0) dX1_add_0 rfl rfl ?_
  refine J_getr (pc := 1) (i := 0) cl0 h1 (by decide) rfl h2 kX1_9 dX1_add_1 ?_
  refine J_aload_n (pc := 4) dX1_add_4 rfl rfl ?_
  refine J_geti (pc := 5) (i := 2) cl0 h1 (by decide) rfl h7 kX1_16 dX1_add_5 ?_
  refine J_iload_n (pc := 8) dX1_add_8 rfl rfl ?_
  refine J_iast (pc := 9) h4 rfl k1 (by first | omega | exact mLn_lt _) dX1_add_9 ?_
  have fin : ∀ S3, sAt S3 0 o → sP S3 0 o 1 = some so → onC S S3 o la so → sI S3 0 o 2 = nI (L'.length % 16) → sI S3 0 o 3 = nI (min L'.length 16) → cutO S3 o la so (min L'.length 16) (fun k => L'.getD (if L'.length ≤ 16 then k else L'.length - 16 + (k + 16 - L'.length % 16) % 16) 0) → (∀ t v, L'[t]? = some v → L'.length ≤ t + 16 → sI S3 9 la (t % 16) = nI v) → J l g mX1_add hgt 0 0 (fun r S' => r = none ∧ onC S S' o la so ∧ sI S' 0 o 2 = nI (L'.length % 16) ∧ sI S' 0 o 3 = nI (min L'.length 16) ∧ sI S' 0 o 4 = nI (cutL L' 1) ∧ sI S' 0 o 5 = nI (cutL L' 2) ∧ ∀ t v, L'[t]? = some v → L'.length ≤ t + 16 → sI S' 9 la (t % 16) = nI v) 50 [(0, .ref o)] [] S3 0 0 := by
    intro S3 g1 g2 g3 g4 g5 g6 g7
    have hlat : ∀ t v, L'[t]? = some v → L'.length ≤ t + 16 → L'.getD (if L'.length ≤ 16 then t % 16 else L'.length - 16 + (t % 16 + 16 - L'.length % 16) % 16) 0 = v := by
      intro t v hv ht
      have hlt : t < L'.length := by
        refine Decidable.not_not.mp (fun z => ?_)
        rw [List.getElem?_eq_none (by omega)] at hv
        cases hv
      have e : (if L'.length ≤ 16 then t % 16 else L'.length - 16 + (t % 16 + 16 - L'.length % 16) % 16) = t := by
        split <;> omega
      rw [e, List.getD_eq_getElem?_getD, hv]
      rfl
    obtain ⟨lat, el⟩ : ∃ lat : Nat → Nat, lat = (fun k => L'.getD (if L'.length ≤ 16 then k else L'.length - 16 + (k + 16 - L'.length % 16) % 16) 0) := ⟨_, rfl⟩
    rw [← el] at g6
    have hlat2 : ∀ t v, L'[t]? = some v → L'.length ≤ t + 16 → lat (t % 16) = v := fun t v hv ht => by
      rw [el]
      exact hlat t v hv ht
    have hcle : ∀ u, cnt (fun k => decide (lat k ≤ u)) (min L'.length 16) = cle (late L') u := fun u => ring_cle hlat2 u
    have hl60 : ∀ k, k < min L'.length 16 → lat k ≤ 60 := by
      intro k hk
      rw [el]
      exact hmem _ (getD_mem (by split <;> omega))
    clear el hlat
    have hne : ¬ late L' = [] := by
      intro z
      have := congrArg List.length z
      unfold late at this
      rw [List.length_drop, List.length_nil] at this
      omega
    have hll : (late L').length = min L'.length 16 := by
      unfold late
      rw [List.length_drop]
      omega
    refine J_aload_n (pc := 50) dX1_add_50 rfl rfl ?_
    refine J_callV (pc := 51) (cx_sort l g (hgt - 1) g6 (by omega) hl60) qX1_sort vX1_sort cl0 rfl g1 kX1_35 dX1_add_51 rfl rfl (Nat.le_of_ble_eq_true rfl) (by omega) (by omega) (by omega) ?_
    rintro _ S4 ⟨rfl, z1, s, z2, z3, z4, z5⟩
    have hcut : ∀ t, t * min L'.length 16 / 3 < min L'.length 16 → cutL L' t = s (t * min L'.length 16 / 3) := by
      intro t ht
      unfold cutL
      rw [if_neg hne, hll]
      exact cut_sorted (L := late L') (n := min L'.length 16) z3 (fun u => (z4 u).trans (hcle u)) ht (z5 _ ht)
    have c1 := hcut 1 (by omega)
    have c2 := hcut 2 (by omega)
    rw [c1, c2, Nat.one_mul]
    have j1 : min L'.length 16 / 3 < 16 := by omega
    have j2 : 2 * min L'.length 16 / 3 < 16 := by omega
    have m1 : sAt S4 0 o := z1.at g1
    have m2 : sP S4 0 o 1 = some so := by rw [z1.P]; exact g2
    have m3 : sI S4 0 o 3 = nI (min L'.length 16) := by rw [z1.2.2.2 0 o 3 (by omega)]; exact g5
    have m5 : aAt S4 9 so 16 := z1.ar g6.2.2.2.2.1
    have m6 : sI S4 0 o 2 = nI (L'.length % 16) := by rw [z1.2.2.2 0 o 2 (by omega)]; exact g4
    have m7 : ∀ t v, L'[t]? = some v → L'.length ≤ t + 16 → sI S4 9 la (t % 16) = nI v := fun t v hv ht => by
      rw [z1.2.2.2 9 la _ (fun z => h6 z.2)]
      exact g7 t v hv ht
    have m8 : onC S S4 o la so := ⟨z1.1.trans g3.1, z1.2.1.trans g3.2.1, z1.2.2.1.trans g3.2.2.1, fun c x k q1 q2 => (z1.2.2.2 c x k (fun z => q2 ⟨z.1, Or.inr z.2⟩)).trans (g3.2.2.2 c x k q1 q2)⟩
    clear z1 g1 g2 g3 g4 g5 g6 g7 hcle hlat2 hl60 z3 z4 c1 c2 hcut
    have n16 : min L'.length 16 ≤ 16 := Nat.min_le_right _ _
    have n1 : 1 ≤ min L'.length 16 := by omega
    generalize min L'.length 16 = N at *
    refine J_aload_n (pc := 54) dX1_add_54 rfl rfl ?_
    refine J_aload_n (pc := 55) dX1_add_55 rfl rfl ?_
    refine J_getr (pc := 56) (i := 1) cl0 m1 (by decide) rfl m2 kX1_13 dX1_add_56 ?_
    refine J_aload_n (pc := 59) dX1_add_59 rfl rfl ?_
    refine J_geti (pc := 60) (i := 3) cl0 m1 (by decide) rfl m3 kX1_20 dX1_add_60 ?_
    refine J_iconst (pc := 63) (v := nI 3) dX1_add_63 (by decide) ?_
    refine J_idivN (b := 3) dX1_add_64 (by omega) (by decide) (by decide) ?_
    refine J_iald (pc := 65) m5 rfl j1 (by first | omega | exact mLn_lt _) (z2 _ (by omega)) dX1_add_65 ?_
    refine J_puti (pc := 66) (i := 4) cl0 m1 (by decide) rfl rfl rfl rfl kX1_23 dX1_add_66 ?_
    have m2' : sP (uI S4 0 o 4 (nI (s (N / 3)))) 0 o 1 = some so := m2
    have m3' : sI (uI S4 0 o 4 (nI (s (N / 3)))) 0 o 3 = nI N := by rw [sI_uI, if_neg (by omega)]; exact m3
    have m1' : sAt (uI S4 0 o 4 (nI (s (N / 3)))) 0 o := m1
    refine J_aload_n (pc := 69) dX1_add_69 rfl rfl ?_
    refine J_aload_n (pc := 70) dX1_add_70 rfl rfl ?_
    refine J_getr (pc := 71) (i := 1) cl0 m1' (by decide) rfl m2' kX1_13 dX1_add_71 ?_
    refine J_iconst (pc := 74) (v := nI 2) dX1_add_74 (by decide) ?_
    refine J_aload_n (pc := 75) dX1_add_75 rfl rfl ?_
    refine J_geti (pc := 76) (i := 3) cl0 m1' (by decide) rfl m3' kX1_20 dX1_add_76 ?_
    refine J_imulN (a := 2) dX1_add_79 ?_
    refine J_iconst (pc := 80) (v := nI 3) dX1_add_80 (by decide) ?_
    refine J_idivN (b := 3) dX1_add_81 (by omega) (by decide) (by decide) ?_
    have m9 : sI (uI S4 0 o 4 (nI (s (N / 3)))) 9 so (2 * N / 3) = nI (s (2 * N / 3)) := by rw [sI_uI, if_neg (by omega)]; exact z2 _ (by omega)
    have m5' : aAt (uI S4 0 o 4 (nI (s (N / 3)))) 9 so 16 := m5
    refine J_iald (pc := 82) m5' rfl j2 (by first | omega | exact mLn_lt _) m9 dX1_add_82 ?_
    refine J_puti (pc := 83) (i := 5) cl0 m1' (by decide) rfl rfl rfl rfl kX1_26 dX1_add_83 ?_
    refine J_vret (pc := 86) dX1_add_86 rfl (by omega) (by omega) ?_
    refine ⟨rfl, ⟨m8.1, m8.2.1, m8.2.2.1, fun c x k q1 q2 => ?_⟩, ?_, ?_, ?_, ?_, fun t v hv ht => ?_⟩
    · rw [sI_uI, if_neg (fun z => q1 ⟨z.1, z.2.1⟩), sI_uI, if_neg (fun z => q1 ⟨z.1, z.2.1⟩)]
      exact m8.2.2.2 c x k q1 q2
    · rw [sI_uI, if_neg (by omega), sI_uI, if_neg (by omega)]
      exact m6
    · rw [sI_uI, if_neg (by omega), sI_uI, if_neg (by omega)]
      exact m3
    · rw [sI_uI, if_neg (by omega), sI_same]
    · rw [sI_same]
    · rw [sI_uI, if_neg (by omega), sI_uI, if_neg (by omega)]
      exact m7 t v hv ht
  have step2 : ∀ S2, S2 = uI (uI S 9 la (L.length % 16) (nI n)) 0 o 2 (nI (L'.length % 16)) → J l g mX1_add hgt 0 0 (fun r S' => r = none ∧ onC S S' o la so ∧ sI S' 0 o 2 = nI (L'.length % 16) ∧ sI S' 0 o 3 = nI (min L'.length 16) ∧ sI S' 0 o 4 = nI (cutL L' 1) ∧ sI S' 0 o 5 = nI (cutL L' 2) ∧ ∀ t v, L'[t]? = some v → L'.length ≤ t + 16 → sI S' 9 la (t % 16) = nI v) 35 [(0, .ref o)] [] S2 0 0 := by
    intro S2 e2
    have p1 : sAt S2 0 o := by rw [e2]; exact h1
    have p3 : sI S2 0 o 3 = nI (min L.length 16) := by
      rw [e2, sI_uI, if_neg (by omega), sI_uI, if_neg (by omega)]
      exact h8
    refine J_aload_n (pc := 35) dX1_add_35 rfl rfl ?_
    refine J_aload_n (pc := 36) dX1_add_36 rfl rfl ?_
    refine J_geti (pc := 37) (i := 3) cl0 p1 (by decide) rfl p3 kX1_20 dX1_add_37 ?_
    refine J_iconst (pc := 40) (v := nI 1) dX1_add_40 (by decide) ?_
    refine J_iaddN (b := 1) dX1_add_41 ?_
    refine J_bipush (pc := 42) (v := nI 16) dX1_add_42 (by decide) ?_
    refine J_callS (pc := 44) (cx_min l g (hgt - 1) (a := min L.length 16 + 1) (b := 16) (by omega) (by decide)) qJ9_min_7cf53 vJ9_min_7cf53 kX1_29 dX1_add_44 rfl rfl (Nat.le_of_ble_eq_true rfl) (by omega) (by omega) (by omega) ?_
    rintro _ _ ⟨rfl, rfl⟩
    rw [show min (min L.length 16 + 1) 16 = min L'.length 16 by omega]
    refine J_puti (pc := 47) (i := 3) cl0 p1 (by decide) rfl rfl rfl rfl kX1_20 dX1_add_47 ?_
    refine J_lvk (fin _ p1 ?_ ?_ ?_ ?_ ?_ ?_) ⟨rfl, trivial⟩
    · rw [e2]
      exact h3
    · rw [e2]
      refine ⟨rfl, rfl, rfl, fun c x k q1 q2 => ?_⟩
      rw [sI_uI, if_neg (fun z => q1 ⟨z.1, z.2.1⟩), sI_uI, if_neg (fun z => q1 ⟨z.1, z.2.1⟩), sI_uI, if_neg (fun z => q2 ⟨z.1, Or.inl z.2.1⟩)]
    · rw [e2, sI_uI, if_neg (by omega), sI_same]
    · rw [sI_same]
    · refine ⟨p1, by rw [e2]; exact h2, by rw [e2]; exact h3, by rw [e2]; exact h4, by rw [e2]; exact h5, h6, by rw [sI_same], fun k hk => ?_⟩
      show sI _ 9 la k = nI (L'.getD (if L'.length ≤ 16 then k else L'.length - 16 + (k + 16 - L'.length % 16) % 16) 0)
      rw [sI_uI, if_neg (by omega), e2, sI_uI, if_neg (by omega)]
      have hlt : (if L'.length ≤ 16 then k else L'.length - 16 + (k + 16 - L'.length % 16) % 16) < L'.length := by split <;> omega
      have hk2 : (if L'.length ≤ 16 then k else L'.length - 16 + (k + 16 - L'.length % 16) % 16) % 16 = k := by split <;> omega
      have hge : L'.length ≤ (if L'.length ≤ 16 then k else L'.length - 16 + (k + 16 - L'.length % 16) % 16) + 16 := by split <;> omega
      generalize (if L'.length ≤ 16 then k else L'.length - 16 + (k + 16 - L'.length % 16) % 16) = t at *
      have := hring t (L'.getD t 0) (by rw [List.getD_eq_getElem?_getD, List.getElem?_eq_getElem hlt]; rfl) hge
      rw [hk2] at this
      exact this
    · intro t v hv ht
      rw [sI_uI, if_neg (by omega), e2, sI_uI, if_neg (by omega)]
      exact hring t v hv ht
  have p1 : sAt (uI S 9 la (L.length % 16) (nI n)) 0 o := h1
  have p2 : sI (uI S 9 la (L.length % 16) (nI n)) 0 o 2 = nI (L.length % 16) := by rw [sI_uI, if_neg (by omega)]; exact h7
  refine J_aload_n (pc := 10) dX1_add_10 rfl rfl ?_
  refine J_aload_n (pc := 11) dX1_add_11 rfl rfl ?_
  refine J_geti (pc := 12) (i := 2) cl0 p1 (by decide) rfl p2 kX1_16 dX1_add_12 ?_
  refine J_iconst (pc := 15) (v := nI 1) dX1_add_15 (by decide) ?_
  refine J_iaddN (b := 1) dX1_add_16 ?_
  refine J_bipush (pc := 17) (v := nI 16) dX1_add_17 (by decide) ?_
  refine J_icmp_geN (pc := 19) (tgt := 31) dX1_add_19 rfl (by omega) (by omega) (fun B => ?_) (fun B => ?_)
  · refine J_iconst (pc := 31) (v := nI 0) dX1_add_31 (by decide) ?_
    refine J_puti (pc := 32) (i := 2) cl0 p1 (by decide) rfl rfl rfl rfl kX1_16 dX1_add_32 ?_
    refine J_lvk (step2 _ ?_) ⟨rfl, trivial⟩
    rw [show L'.length % 16 = 0 by omega]
  · refine J_aload_n (pc := 22) dX1_add_22 rfl rfl ?_
    refine J_geti (pc := 23) (i := 2) cl0 p1 (by decide) rfl p2 kX1_16 dX1_add_23 ?_
    refine J_iconst (pc := 26) (v := nI 1) dX1_add_26 (by decide) ?_
    refine J_iaddN (b := 1) dX1_add_27 ?_
    refine J_goto (pc := 28) (tgt := 32) dX1_add_28 rfl ?_
    refine J_puti (pc := 32) (i := 2) cl0 p1 (by decide) rfl rfl rfl rfl kX1_16 dX1_add_32 ?_
    refine J_lvk (step2 _ ?_) ⟨rfl, trivial⟩
    rw [show L'.length % 16 = L.length % 16 + 1 by omega]
