/-! THE CLASS: the constructor of a message; the cutoffs when a message begins -/
theorem isA.wJ {S : jS} {c b n : Nat} {f : Nat → Int32} {p : Nat → Option Nat} (h : isA S c b n f p) (c' k : Nat) (v : Int64) : isA (uJ S c' b k v) c b n f p := ⟨h.1, h.2.1, h.2.2.1, h.2.2.2.1, h.2.2.2.2⟩
def newS (f : Nat → Int32) (n : Nat) : Prop := f 0 = nI n ∧ f 1 = nI 0 ∧ f 2 = nI 0 ∧ f 3 = nI (if n < 4 then n else 4) ∧ f 4 = nI 3 ∧ f 6 = nI 0 ∧ f 7 = nI 0 ∧ f 8 = nI 0
def newR (f : Nat → Int32) (n md : Nat) : Prop := f 0 = nI n ∧ f 1 = nI md ∧ f 2 = nI 0 ∧ f 3 = nI 0 ∧ f 5 = nI 0 ∧ f 6 = nI 0 ∧ f 7 = nI 0 ∧ f 8 = nI 0 ∧ f 9 = nI 0
set_option maxRecDepth 100000 in
theorem cx_sendInit (l : Launch) (g : jG) (hgt : Nat) {S : jS} {b n : Nat} (hB : isA S 6 b 0 (fun _ => 0) (fun _ => none)) (hn : n ≤ 60) (hh : 1 ≤ hgt) : CT l g mX8_init hgt 0 0 [.ref b, .int (nI n)] S (fun r S' => r = none ∧ ext S S' b ∧ sJ S' 6 b 5 = 0 ∧ ∃ f, newS f n ∧ isA S' 6 b 0 f (fun _ => none)) := by
  refine CT_of qX8_init (Nat.le_of_ble_eq_true rfl) ?_
  refine J_aload_n (pc := 0) dX8_init_0 rfl rfl ?_
  refine J_objInit (pc := 1) kX8_3 dX8_init_1 (by decide) hh ?_
  refine J_aload_n (pc := 4) dX8_init_4 rfl rfl ?_
  refine J_iconst (pc := 5) (v := nI 0) dX8_init_5 (by decide) ?_
  refine J_puti (pc := 6) (i := 1) cl6 hB.at (by decide) rfl rfl rfl rfl kX8_11 dX8_init_6 ?_
  have E := ext_uI S 6 b 1 (nI 0)
  have B := hB.wI 1 (nI 0)
  generalize uI S 6 b 1 (nI 0) = S1 at *
  refine J_aload_n (pc := 9) dX8_init_9 rfl rfl ?_
  refine J_iconst (pc := 10) (v := nI 0) dX8_init_10 (by decide) ?_
  refine J_puti (pc := 11) (i := 2) cl6 B.at (by decide) rfl rfl rfl rfl kX8_15 dX8_init_11 ?_
  replace E := E.tr (ext_uI S1 6 b 2 (nI 0))
  replace B := B.wI 2 (nI 0)
  generalize uI S1 6 b 2 (nI 0) = S2 at *
  refine J_aload_n (pc := 14) dX8_init_14 rfl rfl ?_
  refine J_iconst (pc := 15) (v := nI 3) dX8_init_15 (by decide) ?_
  refine J_puti (pc := 16) (i := 4) cl6 B.at (by decide) rfl rfl rfl rfl kX8_18 dX8_init_16 ?_
  replace E := E.tr (ext_uI S2 6 b 4 (nI 3))
  replace B := B.wI 4 (nI 3)
  generalize uI S2 6 b 4 (nI 3) = S3 at *
  refine J_aload_n (pc := 19) dX8_init_19 rfl rfl ?_
  refine J_lconst (pc := 20) (v := 0) dX8_init_20 rfl ?_
  refine J_putl (pc := 21) (i := 5) cl6 B.at (by decide) rfl rfl rfl rfl kX8_21 dX8_init_21 ?_
  replace E := E.tr (ext_uJ S3 6 b 5 0)
  replace B := B.wJ 6 5 0
  have zJ : sJ (uJ S3 6 b 5 0) 6 b 5 = 0 := by rw [sJ_uJ, if_pos ⟨rfl, rfl, rfl⟩]
  generalize uJ S3 6 b 5 0 = S4 at *
  refine J_aload_n (pc := 24) dX8_init_24 rfl rfl ?_
  refine J_iconst (pc := 25) (v := nI 0) dX8_init_25 (by decide) ?_
  refine J_puti (pc := 26) (i := 6) cl6 B.at (by decide) rfl rfl rfl rfl kX8_25 dX8_init_26 ?_
  replace zJ : sJ (uI S4 6 b 6 (nI 0)) 6 b 5 = 0 := zJ
  replace E := E.tr (ext_uI S4 6 b 6 (nI 0))
  replace B := B.wI 6 (nI 0)
  generalize uI S4 6 b 6 (nI 0) = S5 at *
  refine J_aload_n (pc := 29) dX8_init_29 rfl rfl ?_
  refine J_iconst (pc := 30) (v := nI 0) dX8_init_30 (by decide) ?_
  refine J_puti (pc := 31) (i := 7) cl6 B.at (by decide) rfl rfl rfl rfl kX8_28 dX8_init_31 ?_
  replace zJ : sJ (uI S5 6 b 7 (nI 0)) 6 b 5 = 0 := zJ
  replace E := E.tr (ext_uI S5 6 b 7 (nI 0))
  replace B := B.wI 7 (nI 0)
  generalize uI S5 6 b 7 (nI 0) = S6 at *
  refine J_aload_n (pc := 34) dX8_init_34 rfl rfl ?_
  refine J_iconst (pc := 35) (v := nI 0) dX8_init_35 (by decide) ?_
  refine J_puti (pc := 36) (i := 8) cl6 B.at (by decide) rfl rfl rfl rfl kX8_31 dX8_init_36 ?_
  replace zJ : sJ (uI S6 6 b 8 (nI 0)) 6 b 5 = 0 := zJ
  replace E := E.tr (ext_uI S6 6 b 8 (nI 0))
  replace B := B.wI 8 (nI 0)
  generalize uI S6 6 b 8 (nI 0) = S7 at *
  refine J_aload_n (pc := 39) dX8_init_39 rfl rfl ?_
  refine J_iload_n (pc := 40) dX8_init_40 rfl rfl ?_
  refine J_putiF (pc := 41) (i := 0) cl6 B.at (by decide) rfl rfl rfl rfl rfl rfl kX8_34 dX8_init_41 ?_
  replace zJ : sJ (uI S7 6 b 0 (nI n)) 6 b 5 = 0 := zJ
  replace E := E.tr (ext_uI S7 6 b 0 (nI n))
  replace B := B.wI 0 (nI n)
  generalize uI S7 6 b 0 (nI n) = S8 at *
  refine J_aload_n (pc := 44) dX8_init_44 rfl rfl ?_
  refine J_iconst (pc := 45) (v := nI 4) dX8_init_45 (by decide) ?_
  refine J_iload_n (pc := 46) dX8_init_46 rfl rfl ?_
  refine J_callS (pc := 47) (cx_min l g (hgt - 1) (a := 4) (b := n) (by decide) (by omega)) qJ9_min_7cf53 vJ9_min_7cf53 kX8_37 dX8_init_47 rfl rfl (Nat.le_of_ble_eq_true rfl) (by omega) (by omega) (by omega) ?_
  rintro _ _ ⟨rfl, rfl⟩
  rw [show min 4 n = if n < 4 then n else 4 by split <;> omega]
  refine J_puti (pc := 50) (i := 3) cl6 B.at (by decide) rfl rfl rfl rfl kX8_43 dX8_init_50 ?_
  refine J_vret (pc := 53) dX8_init_53 rfl (by omega) (by omega) ?_
  exact ⟨rfl, E.tr (ext_uI _ _ _ _ _), zJ, _, ⟨rfl, rfl, rfl, rfl, rfl, rfl, rfl, rfl⟩, B.wI 3 _⟩
set_option maxRecDepth 100000 in
theorem cx_recvInit (l : Launch) (g : jG) (hgt : Nat) {S : jS} {b n md : Nat} (hB : isA S 4 b 0 (fun _ => 0) (fun _ => none)) (hm : md ≤ 1) (hh : 1 ≤ hgt) : CT l g mX6_init hgt 0 0 [.ref b, .int (nI n), .int (nI md)] S (fun r S' => r = none ∧ ext S S' b ∧ sJ S' 4 b 4 = 0 ∧ ∃ f, newR f n md ∧ isA S' 4 b 0 f (fun _ => none)) := by
  have hz : nI md = nI 0 ∨ nI md = nI 1 := by
    rcases (show md = 0 ∨ md = 1 by omega) with rfl | rfl
    · exact Or.inl rfl
    · exact Or.inr rfl
  refine CT_of qX6_init (Nat.le_of_ble_eq_true rfl) ?_
  refine J_aload_n (pc := 0) dX6_init_0 rfl rfl ?_
  refine J_objInit (pc := 1) kX6_3 dX6_init_1 (by decide) hh ?_
  refine J_aload_n (pc := 4) dX6_init_4 rfl rfl ?_
  refine J_iconst (pc := 5) (v := nI 0) dX6_init_5 (by decide) ?_
  refine J_puti (pc := 6) (i := 2) cl4 hB.at (by decide) rfl rfl rfl rfl kX6_11 dX6_init_6 ?_
  have E := ext_uI S 4 b 2 (nI 0)
  have B := hB.w0 2
  generalize uI S 4 b 2 (nI 0) = S1 at *
  refine J_aload_n (pc := 9) dX6_init_9 rfl rfl ?_
  refine J_iconst (pc := 10) (v := nI 0) dX6_init_10 (by decide) ?_
  refine J_puti (pc := 11) (i := 3) cl4 B.at (by decide) rfl rfl rfl rfl kX6_15 dX6_init_11 ?_
  replace E := E.tr (ext_uI S1 4 b 3 (nI 0))
  replace B := B.w0 3
  generalize uI S1 4 b 3 (nI 0) = S2 at *
  refine J_aload_n (pc := 14) dX6_init_14 rfl rfl ?_
  refine J_lconst (pc := 15) (v := 0) dX6_init_15 rfl ?_
  refine J_putl (pc := 16) (i := 4) cl4 B.at (by decide) rfl rfl rfl rfl kX6_18 dX6_init_16 ?_
  replace E := E.tr (ext_uJ S2 4 b 4 0)
  replace B := B.wJ 4 4 0
  have zJ : sJ (uJ S2 4 b 4 0) 4 b 4 = 0 := by rw [sJ_uJ, if_pos ⟨rfl, rfl, rfl⟩]
  generalize uJ S2 4 b 4 0 = S3 at *
  refine J_aload_n (pc := 19) dX6_init_19 rfl rfl ?_
  refine J_iconst (pc := 20) (v := nI 0) dX6_init_20 (by decide) ?_
  refine J_puti (pc := 21) (i := 5) cl4 B.at (by decide) rfl rfl rfl rfl kX6_22 dX6_init_21 ?_
  replace zJ : sJ (uI S3 4 b 5 (nI 0)) 4 b 4 = 0 := zJ
  replace E := E.tr (ext_uI S3 4 b 5 (nI 0))
  replace B := B.w0 5
  generalize uI S3 4 b 5 (nI 0) = S4 at *
  refine J_aload_n (pc := 24) dX6_init_24 rfl rfl ?_
  refine J_iconst (pc := 25) (v := nI 0) dX6_init_25 (by decide) ?_
  refine J_puti (pc := 26) (i := 6) cl4 B.at (by decide) rfl rfl rfl rfl kX6_25 dX6_init_26 ?_
  replace zJ : sJ (uI S4 4 b 6 (nI 0)) 4 b 4 = 0 := zJ
  replace E := E.tr (ext_uI S4 4 b 6 (nI 0))
  replace B := B.w0 6
  generalize uI S4 4 b 6 (nI 0) = S5 at *
  refine J_aload_n (pc := 29) dX6_init_29 rfl rfl ?_
  refine J_iconst (pc := 30) (v := nI 0) dX6_init_30 (by decide) ?_
  refine J_puti (pc := 31) (i := 7) cl4 B.at (by decide) rfl rfl rfl rfl kX6_28 dX6_init_31 ?_
  replace zJ : sJ (uI S5 4 b 7 (nI 0)) 4 b 4 = 0 := zJ
  replace E := E.tr (ext_uI S5 4 b 7 (nI 0))
  replace B := B.w0 7
  generalize uI S5 4 b 7 (nI 0) = S6 at *
  refine J_aload_n (pc := 34) dX6_init_34 rfl rfl ?_
  refine J_iconst (pc := 35) (v := nI 0) dX6_init_35 (by decide) ?_
  refine J_puti (pc := 36) (i := 8) cl4 B.at (by decide) rfl rfl rfl rfl kX6_31 dX6_init_36 ?_
  replace zJ : sJ (uI S6 4 b 8 (nI 0)) 4 b 4 = 0 := zJ
  replace E := E.tr (ext_uI S6 4 b 8 (nI 0))
  replace B := B.w0 8
  generalize uI S6 4 b 8 (nI 0) = S7 at *
  refine J_aload_n (pc := 39) dX6_init_39 rfl rfl ?_
  refine J_iconst (pc := 40) (v := nI 0) dX6_init_40 (by decide) ?_
  refine J_puti (pc := 41) (i := 9) cl4 B.at (by decide) rfl rfl rfl rfl kX6_34 dX6_init_41 ?_
  replace zJ : sJ (uI S7 4 b 9 (nI 0)) 4 b 4 = 0 := zJ
  replace E := E.tr (ext_uI S7 4 b 9 (nI 0))
  replace B := B.w0 9
  generalize uI S7 4 b 9 (nI 0) = S8 at *
  refine J_aload_n (pc := 44) dX6_init_44 rfl rfl ?_
  refine J_iload_n (pc := 45) dX6_init_45 rfl rfl ?_
  refine J_putiF (pc := 46) (i := 0) cl4 B.at (by decide) rfl rfl rfl rfl rfl rfl kX6_37 dX6_init_46 ?_
  replace zJ : sJ (uI S8 4 b 0 (nI n)) 4 b 4 = 0 := zJ
  replace E := E.tr (ext_uI S8 4 b 0 (nI n))
  replace B := B.wI 0 (nI n)
  generalize uI S8 4 b 0 (nI n) = S9 at *
  rcases hz with hz | hz
  · rw [hz]
    refine J_aload_n (pc := 49) dX6_init_49 rfl rfl ?_
    refine J_iload_n (pc := 50) dX6_init_50 rfl rfl ?_
    refine J_putiF (pc := 51) (i := 1) cl4 B.at (by decide) rfl rfl rfl rfl rfl rfl kX6_40 dX6_init_51 ?_
    refine J_vret (pc := 54) dX6_init_54 rfl (by omega) (by omega) ?_
    exact ⟨rfl, E.tr (ext_uI _ _ _ _ _), zJ, fun j => if j = 1 then nI 0 else if j = 0 then nI n else 0, ⟨rfl, hz.symm, rfl, rfl, rfl, rfl, rfl, rfl, rfl⟩, B.wI 1 _⟩
  · rw [hz]
    refine J_aload_n (pc := 49) dX6_init_49 rfl rfl ?_
    refine J_iload_n (pc := 50) dX6_init_50 rfl rfl ?_
    refine J_putiF (pc := 51) (i := 1) cl4 B.at (by decide) rfl rfl rfl rfl rfl rfl kX6_40 dX6_init_51 ?_
    refine J_vret (pc := 54) dX6_init_54 rfl (by omega) (by omega) ?_
    exact ⟨rfl, E.tr (ext_uI _ _ _ _ _), zJ, fun j => if j = 1 then nI 1 else if j = 0 then nI n else 0, ⟨rfl, hz.symm, rfl, rfl, rfl, rfl, rfl, rfl, rfl⟩, B.wI 1 _⟩
def newM (f : Nat → Int32) (M a b n : Nat) : Prop := f 0 = nI M ∧ f 1 = nI a ∧ f 2 = nI b ∧ f 3 = nI n
set_option maxRecDepth 100000 in
theorem cx_msgInit (l : Launch) (g : jG) (hgt : Nat) {S : jS} {b M x y n md : Nat} (hB : isA S 3 b 0 (fun _ => 0) (fun _ => none)) (hn : n ≤ 60) (hm : md ≤ 1) (hh : 2 ≤ hgt) : CT l g mX4_init hgt 2 19 [.ref b, .int (nI M), .int (nI x), .int (nI y), .int (nI n), .int (nI md)] S (fun r S' => r = none ∧ ext S S' b ∧ ∃ s t, s ∉ S.1 ∧ t ∉ S.1 ∧ (∃ f, newM f M x y n ∧ isA S' 3 b 0 f (fun k => if k = 5 then some t else if k = 4 then some s else none)) ∧ (∃ f, newS f n ∧ isA S' 6 s 0 f (fun _ => none)) ∧ sJ S' 6 s 5 = 0 ∧ (∃ f, newR f n md ∧ isA S' 4 t 0 f (fun _ => none)) ∧ sJ S' 4 t 4 = 0) := by
  have hb0 := hB.1
  have hh1 : 1 ≤ hgt := by omega
  have hh2 : 1 ≤ hgt - 1 := by omega
  have hh3 : hgt - 1 + 1 ≤ hgt := by omega
  refine CT_of qX4_init (Nat.le_of_ble_eq_true rfl) ?_
  refine J_aload_n (pc := 0) dX4_init_0 rfl rfl ?_
  refine J_objInit (pc := 1) kX4_1 dX4_init_1 (by decide) hh1 ?_
  refine J_aload_n (pc := 4) dX4_init_4 rfl rfl ?_
  refine J_iload_n (pc := 5) dX4_init_5 rfl rfl ?_
  refine J_putiF (pc := 6) (i := 0) cl3 hB.at (by decide) rfl rfl rfl rfl rfl rfl kX4_7 dX4_init_6 ?_
  have E := ext_uI S 3 b 0 (nI M)
  have B := hB.wI 0 (nI M)
  generalize uI S 3 b 0 (nI M) = S1 at *
  refine J_aload_n (pc := 9) dX4_init_9 rfl rfl ?_
  refine J_iload_n (pc := 10) dX4_init_10 rfl rfl ?_
  refine J_putiF (pc := 11) (i := 1) cl3 B.at (by decide) rfl rfl rfl rfl rfl rfl kX4_13 dX4_init_11 ?_
  replace E := E.tr (ext_uI S1 3 b 1 (nI x))
  replace B := B.wI 1 (nI x)
  generalize uI S1 3 b 1 (nI x) = S2 at *
  refine J_aload_n (pc := 14) dX4_init_14 rfl rfl ?_
  refine J_iload_n (pc := 15) dX4_init_15 rfl rfl ?_
  refine J_putiF (pc := 16) (i := 2) cl3 B.at (by decide) rfl rfl rfl rfl rfl rfl kX4_16 dX4_init_16 ?_
  replace E := E.tr (ext_uI S2 3 b 2 (nI y))
  replace B := B.wI 2 (nI y)
  generalize uI S2 3 b 2 (nI y) = S3 at *
  refine J_aload_n (pc := 19) dX4_init_19 rfl rfl ?_
  refine J_iload (pc := 20) dX4_init_20 rfl ?_
  refine J_putiF (pc := 22) (i := 3) cl3 B.at (by decide) rfl rfl rfl rfl rfl rfl kX4_19 dX4_init_22 ?_
  replace E := E.tr (ext_uI S3 3 b 3 (nI n))
  replace B := B.wI 3 (nI n)
  generalize uI S3 3 b 3 (nI n) = S4 at *
  refine J_aload_n (pc := 25) dX4_init_25 rfl rfl ?_
  refine J_new (pc := 26) cl6 kX4_22 ist6 ini6 dX4_init_26 (by first | decide | omega) (by first | decide | omega) (fun s hs => ?_)
  have fs : s ∉ S.1 := fun z => hs (E.1 s z)
  have ns : s ≠ b := fun e => hs (e ▸ B.1)
  have A := isA_new (c := 6) (n := 0) hs
  replace E := E.tr (ext_new (c := 6) (n := 0) hs B.1)
  replace B := B.nw (c' := 6) (n' := 0) hs
  clear hs
  generalize nX S4 s 6 0 = S5 at *
  refine J_dup (pc := 29) dX4_init_29 rfl ?_
  refine J_iload (pc := 30) dX4_init_30 rfl ?_
  refine J_callI (pc := 32) (cx_sendInit l g (hgt - 1) (n := n) A hn hh2) qX8_init rfl vX8_init kX4_24 dX4_init_32 rfl rfl (Nat.le_of_ble_eq_true rfl) hh3 (by first | decide | omega) (by first | decide | omega) ?_
  rintro _ S6 ⟨rfl, C, zJ, f6, h6, A6⟩
  replace B := B.keep C ns.symm
  replace E := E.sub hb0 fs C
  clear C A
  refine J_putrF (pc := 35) (i := 4) cl3 B.at (by decide) rfl rfl rfl rfl rfl rfl kX4_27 dX4_init_35 ?_
  replace zJ : sJ (uP S6 3 b 4 (some s)) 6 s 5 = 0 := zJ
  replace A6 := A6.keep (ext_uP S6 3 b 4 (some s)) ns
  replace E := E.tr (ext_uP S6 3 b 4 (some s))
  replace B := B.wP 4 (some s)
  generalize uP S6 3 b 4 (some s) = S7 at *
  refine J_aload_n (pc := 38) dX4_init_38 rfl rfl ?_
  refine J_new (pc := 39) cl4 kX4_31 ist4 ini4 dX4_init_39 (by first | decide | omega) (by first | decide | omega) (fun t ht => ?_)
  have ft : t ∉ S.1 := fun z => ht (E.1 t z)
  have nt : t ≠ b := fun e => ht (e ▸ B.1)
  have nst : s ≠ t := fun e => ht (e ▸ A6.1)
  have A4 := isA_new (c := 4) (n := 0) ht
  replace zJ : sJ (nX S7 t 4 0) 6 s 5 = 0 := ((same_new (S := S7) (c := 4) (n := 0) nst).2.2.1 6 5).trans zJ
  replace A6 := A6.nw (c' := 4) (n' := 0) ht
  replace E := E.tr (ext_new (c := 4) (n := 0) ht B.1)
  replace B := B.nw (c' := 4) (n' := 0) ht
  clear ht
  generalize nX S7 t 4 0 = S8 at *
  have tail : J l g mX4_init hgt 2 19 (fun r S' => r = none ∧ ext S S' b ∧ ∃ s t, s ∉ S.1 ∧ t ∉ S.1 ∧ (∃ f, newM f M x y n ∧ isA S' 3 b 0 f (fun k => if k = 5 then some t else if k = 4 then some s else none)) ∧ (∃ f, newS f n ∧ isA S' 6 s 0 f (fun _ => none)) ∧ sJ S' 6 s 5 = 0 ∧ (∃ f, newR f n md ∧ isA S' 4 t 0 f (fun _ => none)) ∧ sJ S' 4 t 4 = 0) 56 [(0, .ref b)] [.int (nI md), .int (nI n), .ref t, .ref t, .ref b] S8 (0 + 1 + 0 + 1) (0 + jN 6 + 0 + jN 4) := by
    refine J_callI (pc := 56) (cx_recvInit l g (hgt - 1) (n := n) (md := md) A4 hm hh2) qX6_init rfl vX6_init kX4_33 dX4_init_56 rfl rfl (Nat.le_of_ble_eq_true rfl) hh3 (by first | decide | omega) (by first | decide | omega) ?_
    rintro _ S9 ⟨rfl, C, zJ4, f4, h4, A4'⟩
    replace zJ : sJ S9 6 s 5 = 0 := ((C.2.2 s A6.1 nst).2.2.1 6 5).trans zJ
    replace A6 := A6.keep C nst
    replace B := B.keep C nt.symm
    replace E := E.sub hb0 ft C
    refine J_putrF (pc := 59) (i := 5) cl3 B.at (by decide) rfl rfl rfl rfl rfl rfl kX4_36 dX4_init_59 ?_
    refine J_vret (pc := 62) dX4_init_62 rfl (by decide) (by decide) ?_
    exact ⟨rfl, E.tr (ext_uP _ _ _ _ _), s, t, fs, ft, ⟨_, ⟨rfl, rfl, rfl, rfl⟩, B.wP 5 (some t)⟩, ⟨f6, h6, A6.keep (ext_uP _ _ _ _ _) ns⟩, zJ, ⟨f4, h4, A4'.keep (ext_uP _ _ _ _ _) nt⟩, zJ4⟩
  refine J_dup (pc := 42) dX4_init_42 rfl ?_
  refine J_iload (pc := 43) dX4_init_43 rfl ?_
  refine J_iload (pc := 45) dX4_init_45 rfl ?_
  refine J_iconst (pc := 47) (v := nI 1) dX4_init_47 (by decide) ?_
  rcases (show md = 0 ∨ md = 1 by omega) with rfl | rfl
  · refine J_icmp_ne (pc := 48) (tgt := 55) dX4_init_48 rfl (fun _ => ?_) (fun hc9 => absurd hc9 ((by decide)))
    refine J_iconst (pc := 55) (v := nI 0) dX4_init_55 (by decide) ?_
    exact J_lvk tail ⟨rfl, trivial⟩
  · refine J_icmp_ne (pc := 48) (tgt := 55) dX4_init_48 rfl (fun hc9 => absurd (rfl) hc9) (fun _ => ?_)
    refine J_iconst (pc := 51) (v := nI 1) dX4_init_51 (by decide) ?_
    refine J_goto (pc := 52) (tgt := 56) dX4_init_52 rfl ?_
    exact J_lvk tail ⟨rfl, trivial⟩
