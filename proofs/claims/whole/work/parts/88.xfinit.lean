/-! THE CLASS: the constructor of the links and switches; its objects: 0 itself, 1 on a link, 2 to lose, 3 the queues, 4 spine is on, 5 last spine, 6 + 2 j the row j, 7 + 2 j its places -/
def kF (s : Nat) : Nat := if s = 0 then 1 else if s = 3 then 13 else if s = 4 then 10 else if s < 6 then 9 else if s % 2 = 0 then 5 else 9
def lF (s : Nat) : Nat := if s = 0 then 0 else if s < 3 then 24 else if s = 3 then 64 else if s < 6 then 2 else if s % 2 = 0 then 0 else 8
def iF (s : Nat) : Nat → Int32 := fun k => if s = 1 ∧ k < 24 then -1 else if (s = 4 ∨ s = 5) ∧ k < 2 then nI 1 else 0
def rF (s : Nat) : Nat → Option Nat := fun k => if s = 0 then (if k < 5 then some (k + 1) else none) else if s = 3 then (if k < 64 then some (6 + 2 * k) else none) else if 6 ≤ s ∧ s % 2 = 0 ∧ k = 0 then some (s + 1) else none
def fullF (S : jS) (v : Nat → Nat) (s : Nat) : Prop := isA S (kF s) (v s) (lF s) (iF s) (fun k => (rF s k).map v)
theorem isA.cg {S : jS} {c a n c' a' n' : Nat} {f f' : Nat → Int32} {p p' : Nat → Option Nat} (h : isA S c a n f p) (ec : c = c') (ea : a = a') (en : n = n') (ef : ∀ k, f k = f' k) (ep : ∀ k, p k = p' k) : isA S c' a' n' f' p' := by
  subst ec ea en
  exact ⟨h.1, h.2.1, h.2.2.1, fun k => (h.2.2.2.1 k).trans (ef k), fun k => (h.2.2.2.2 k).trans (ep k)⟩
/-- what the fabric looks like while its rows are made -/
def fabJ (S0 S : jS) (b q1 q2 q3 q4 q5 j : Nat) (r a : Nat → Nat) : Prop := ext S0 S b ∧ isA S 1 b 0 (fun _ => 0) (fun k => if k = 4 then some q5 else if k = 3 then some q4 else if k = 2 then some q3 else if k = 1 then some q2 else if k = 0 then some q1 else none) ∧ isA S 9 q1 24 (fun k => if k < 24 then -1 else 0) (fun _ => none) ∧ isA S 9 q2 24 (fun _ => 0) (fun _ => none) ∧ isA S 10 q4 2 (fun _ => 0) (fun _ => none) ∧ isA S 9 q5 2 (fun _ => 0) (fun _ => none) ∧ isA S 13 q3 64 (fun _ => 0) (fun k => if k < j then some (r k) else none) ∧ (∀ i, i < j → isA S 5 (r i) 0 (fun _ => 0) (fun k => if k = 0 then some (a i) else none) ∧ isA S 9 (a i) 8 (fun _ => 0) (fun _ => none)) ∧ (∀ i, i < j → r i ∉ S0.1 ∧ a i ∉ S0.1 ∧ r i ∉ [b, q1, q2, q3, q4, q5] ∧ a i ∉ [b, q1, q2, q3, q4, q5]) ∧ ∀ i i', i < j → i' < j → (r i = r i' → i = i') ∧ (a i = a i' → i = i')
theorem fabJ.mem {S0 S : jS} {b q1 q2 q3 q4 q5 j : Nat} {r a : Nat → Nat} (h : fabJ S0 S b q1 q2 q3 q4 q5 j r a) : ∀ x, x ∈ [b, q1, q2, q3, q4, q5] → x ∈ S.1 := by
  obtain ⟨E, B, a1, a2, a4, a5, a3, -⟩ := h
  intro x hx
  simp only [List.mem_cons, List.not_mem_nil, or_false] at hx
  rcases hx with rfl | rfl | rfl | rfl | rfl | rfl
  · exact B.1
  · exact a1.1
  · exact a2.1
  · exact a3.1
  · exact a4.1
  · exact a5.1
/-- one more row -/
theorem fabJ.step {S0 S S1 S' : jS} {b q1 q2 q3 q4 q5 j q q' : Nat} {r a : Nat → Nat} (h : fabJ S0 S b q1 q2 q3 q4 q5 j r a) (hb0 : b ∈ S0.1) (hq : q ∉ S.1) (e1 : S1 = nX S q 5 0) (C : ext S1 S' q) (hq' : q' ∉ S1.1) (R : isA S' 5 q 0 (fun _ => 0) (fun k => if k = 0 then some q' else none)) (A : isA S' 9 q' 8 (fun _ => 0) (fun _ => none)) (f3 : q3 ∉ S0.1) (n3 : q3 ≠ b ∧ q1 ≠ q3 ∧ q2 ≠ q3 ∧ q4 ≠ q3 ∧ q5 ≠ q3) : fabJ S0 (uP S' 13 q3 j (some q)) b q1 q2 q3 q4 q5 (j + 1) (va_up r j q) (va_up a j q') := by
  have hmem := h.mem
  obtain ⟨E, B, a1, a2, a4, a5, a3, rows, fresh, inj⟩ := h
  have hqS0 : q ∉ S0.1 := fun z => hq (E.1 q z)
  have hin : ∀ x, x ∈ S.1 → x ∈ S1.1 := fun x z => by rw [e1]; exact List.mem_append_left _ z
  have hq1 : q ∈ S1.1 := by rw [e1]; exact List.mem_append_right _ List.mem_cons_self
  have hq'S : q' ∉ S.1 := fun z => hq' (hin q' z)
  have hqq' : q ≠ q' := fun e => hq' (e ▸ hq1)
  have hL : q ∉ [b, q1, q2, q3, q4, q5] := fun z => hq (hmem q z)
  have hL' : q' ∉ [b, q1, q2, q3, q4, q5] := fun z => hq'S (hmem q' z)
  have hq3 : q ≠ q3 := fun e => hL (by rw [e]; simp)
  have hq3' : q' ≠ q3 := fun e => hL' (by rw [e]; simp)
  have mv : ∀ {c x n : Nat} {f : Nat → Int32} {p : Nat → Option Nat}, isA S c x n f p → x ≠ q3 → isA (uP S' 13 q3 j (some q)) c x n f p := by
    intro c x n f p hx hne
    have h1 : isA S1 c x n f p := by rw [e1]; exact hx.nw hq
    exact (h1.keep C (fun e => hq (e ▸ hx.1))).keep (ext_uP _ _ _ _ _) hne
  have hE1 : ext S0 S1 b := by
    rw [e1]
    exact E.tr (ext_new hq B.1)
  have hE2 : ext S0 S' b := hE1.sub hb0 hqS0 C
  have a3' : isA S' 13 q3 64 (fun _ => 0) (fun k => if k < j then some (r k) else none) := by
    have h1 : isA S1 13 q3 64 (fun _ => 0) (fun k => if k < j then some (r k) else none) := by rw [e1]; exact a3.nw hq
    exact h1.keep C (fun e => hq3 e.symm)
  refine ⟨hE2.sub hb0 f3 (ext_uP _ _ _ _ _), mv B n3.1.symm, mv a1 n3.2.1, mv a2 n3.2.2.1, mv a4 n3.2.2.2.1, mv a5 n3.2.2.2.2, ?_, ?_, ?_, ?_⟩
  · refine (a3'.wP j (some q)).cg rfl rfl rfl (fun _ => rfl) (fun k => ?_)
    try dsimp only
    by_cases e : k = j
    · subst e
      rw [if_pos rfl, if_pos (by omega), va_up_self]
    · rw [if_neg e, va_up_ne _ _ e]
      by_cases e2 : k < j
      · rw [if_pos e2, if_pos (by omega)]
      · rw [if_neg e2, if_neg (by omega)]
  · intro i hi
    by_cases e : i = j
    · subst e
      rw [va_up_self, va_up_self]
      exact ⟨R.keep (ext_uP _ _ _ _ _) hq3, A.keep (ext_uP _ _ _ _ _) hq3'⟩
    · rw [va_up_ne _ _ e, va_up_ne _ _ e]
      obtain ⟨x, y⟩ := rows i (by omega)
      obtain ⟨-, -, z1, z2⟩ := fresh i (by omega)
      exact ⟨mv x (fun u => z1 (by rw [u]; simp)), mv y (fun u => z2 (by rw [u]; simp))⟩
  · intro i hi
    by_cases e : i = j
    · subst e
      rw [va_up_self, va_up_self]
      exact ⟨hqS0, fun z => hq'S (E.1 q' z), hL, hL'⟩
    · rw [va_up_ne _ _ e, va_up_ne _ _ e]
      exact fresh i (by omega)
  · have old : ∀ i, i < j → r i ∈ S.1 ∧ a i ∈ S.1 := fun i hi => ⟨(rows i hi).1.1, (rows i hi).2.1⟩
    intro i i' hi hi'
    by_cases e : i = j
    · by_cases e' : i' = j
      · exact ⟨fun _ => by rw [e, e'], fun _ => by rw [e, e']⟩
      · have o := old i' (by omega)
        rw [e, va_up_self, va_up_self, va_up_ne _ _ e', va_up_ne _ _ e']
        exact ⟨fun z => absurd o.1 (z ▸ hq), fun z => absurd o.2 (z ▸ hq'S)⟩
    · by_cases e' : i' = j
      · have o := old i (by omega)
        rw [e', va_up_self, va_up_self, va_up_ne _ _ e, va_up_ne _ _ e]
        exact ⟨fun z => absurd o.1 (z.symm ▸ hq), fun z => absurd o.2 (z.symm ▸ hq'S)⟩
      · rw [va_up_ne _ _ e, va_up_ne _ _ e, va_up_ne _ _ e', va_up_ne _ _ e']
        exact inj i i' (by omega) (by omega)
set_option maxRecDepth 100000 in
theorem cx_fabInit (l : Launch) (g : jG) (hgt : Nat) {S0 : jS} {b : Nat} (hB : isA S0 1 b 0 (fun _ => 0) (fun _ => none)) (hh : 2 ≤ hgt) : CT l g mX2_init hgt 133 820 [.ref b] S0 (fun rr S' => rr = none ∧ ext S0 S' b ∧ ∃ v : Nat → Nat, v 0 = b ∧ (∀ s, s < 134 → fullF S' v s) ∧ (∀ s, 1 ≤ s → s < 134 → v s ∉ S0.1) ∧ ∀ s s', s < 134 → s' < 134 → v s = v s' → s = s') := by
  have hb0 := hB.1
  have hh1 : 1 ≤ hgt := by omega
  have hh2 : 1 ≤ hgt - 1 := by omega
  have hh3 : hgt - 1 + 1 ≤ hgt := by omega
  have jn5 : jN 5 = 3 := rfl
  refine CT_of qX2_init (Nat.le_of_ble_eq_true rfl) ?_
  have E := ext.refl S0 b
  have B := hB
  refine J_aload_n (pc := 0) dX2_init_0 rfl rfl ?_
  refine J_objInit (pc := 1) kX2_3 dX2_init_1 (by decide) hh1 ?_
  refine J_aload_n (pc := 4) dX2_init_4 rfl rfl ?_
  refine J_bipush (pc := 5) (v := nI 24) dX2_init_5 (by decide) ?_
  refine J_newaI (pc := 7) rfl (by first | decide | omega) dX2_init_7 (by first | decide | omega) (by first | decide | omega) (fun q1 h1 => ?_)
  have f1 : q1 ∉ S0.1 := fun z => h1 (E.1 q1 z)
  have nb1 : q1 ≠ b := fun e => h1 (e ▸ B.1)
  have a1 := isA_new (c := 9) (n := 24) h1
  replace E := E.tr (ext_new (c := 9) (n := 24) h1 B.1)
  replace B := B.nw (c' := 9) (n' := 24) h1
  clear h1
  generalize nX S0 q1 9 24 = S1 at *
  refine J_putrF (pc := 9) (i := 0) cl1 B.at (by decide) rfl rfl rfl rfl rfl rfl kX2_11 dX2_init_9 ?_
  replace a1 := a1.keep (ext_uP S1 1 b 0 (some q1)) nb1
  replace E := E.tr (ext_uP S1 1 b 0 (some q1))
  replace B := B.wP 0 (some q1)
  generalize uP S1 1 b 0 (some q1) = S2 at *
  refine J_aload_n (pc := 12) dX2_init_12 rfl rfl ?_
  refine J_bipush (pc := 13) (v := nI 24) dX2_init_13 (by decide) ?_
  refine J_newaI (pc := 15) rfl (by first | decide | omega) dX2_init_15 (by first | decide | omega) (by first | decide | omega) (fun q2 h2 => ?_)
  have f2 : q2 ∉ S0.1 := fun z => h2 (E.1 q2 z)
  have nb2 : q2 ≠ b := fun e => h2 (e ▸ B.1)
  have n2_1 : q2 ≠ q1 := fun e => h2 (e ▸ a1.1)
  replace a1 := a1.nw (c' := 9) (n' := 24) h2
  have a2 := isA_new (c := 9) (n := 24) h2
  replace E := E.tr (ext_new (c := 9) (n := 24) h2 B.1)
  replace B := B.nw (c' := 9) (n' := 24) h2
  clear h2
  generalize nX S2 q2 9 24 = S3 at *
  refine J_putrF (pc := 17) (i := 1) cl1 B.at (by decide) rfl rfl rfl rfl rfl rfl kX2_15 dX2_init_17 ?_
  replace a1 := a1.keep (ext_uP S3 1 b 1 (some q2)) nb1
  replace a2 := a2.keep (ext_uP S3 1 b 1 (some q2)) nb2
  replace E := E.tr (ext_uP S3 1 b 1 (some q2))
  replace B := B.wP 1 (some q2)
  generalize uP S3 1 b 1 (some q2) = S4 at *
  refine J_aload_n (pc := 20) dX2_init_20 rfl rfl ?_
  refine J_bipush (pc := 21) (v := nI 64) dX2_init_21 (by decide) ?_
  refine J_newr13 (pc := 23) rfl (by first | decide | omega) kX2_18 dX2_init_23 (by first | decide | omega) (by first | decide | omega) (fun q3 h3 => ?_)
  have f3 : q3 ∉ S0.1 := fun z => h3 (E.1 q3 z)
  have nb3 : q3 ≠ b := fun e => h3 (e ▸ B.1)
  have n3_1 : q3 ≠ q1 := fun e => h3 (e ▸ a1.1)
  have n3_2 : q3 ≠ q2 := fun e => h3 (e ▸ a2.1)
  replace a1 := a1.nw (c' := 13) (n' := 64) h3
  replace a2 := a2.nw (c' := 13) (n' := 64) h3
  have a3 := isA_new (c := 13) (n := 64) h3
  replace E := E.tr (ext_new (c := 13) (n := 64) h3 B.1)
  replace B := B.nw (c' := 13) (n' := 64) h3
  clear h3
  generalize nX S4 q3 13 64 = S5 at *
  refine J_putrF (pc := 26) (i := 2) cl1 B.at (by decide) rfl rfl rfl rfl rfl rfl kX2_20 dX2_init_26 ?_
  replace a1 := a1.keep (ext_uP S5 1 b 2 (some q3)) nb1
  replace a2 := a2.keep (ext_uP S5 1 b 2 (some q3)) nb2
  replace a3 := a3.keep (ext_uP S5 1 b 2 (some q3)) nb3
  replace E := E.tr (ext_uP S5 1 b 2 (some q3))
  replace B := B.wP 2 (some q3)
  generalize uP S5 1 b 2 (some q3) = S6 at *
  refine J_aload_n (pc := 29) dX2_init_29 rfl rfl ?_
  refine J_iconst (pc := 30) (v := nI 2) dX2_init_30 (by decide) ?_
  refine J_newaZ (pc := 31) rfl (by first | decide | omega) dX2_init_31 (by first | decide | omega) (by first | decide | omega) (fun q4 h4 => ?_)
  have f4 : q4 ∉ S0.1 := fun z => h4 (E.1 q4 z)
  have nb4 : q4 ≠ b := fun e => h4 (e ▸ B.1)
  have n4_1 : q4 ≠ q1 := fun e => h4 (e ▸ a1.1)
  have n4_2 : q4 ≠ q2 := fun e => h4 (e ▸ a2.1)
  have n4_3 : q4 ≠ q3 := fun e => h4 (e ▸ a3.1)
  replace a1 := a1.nw (c' := 10) (n' := 2) h4
  replace a2 := a2.nw (c' := 10) (n' := 2) h4
  replace a3 := a3.nw (c' := 10) (n' := 2) h4
  have a4 := isA_new (c := 10) (n := 2) h4
  replace E := E.tr (ext_new (c := 10) (n := 2) h4 B.1)
  replace B := B.nw (c' := 10) (n' := 2) h4
  clear h4
  generalize nX S6 q4 10 2 = S7 at *
  refine J_putrF (pc := 33) (i := 3) cl1 B.at (by decide) rfl rfl rfl rfl rfl rfl kX2_24 dX2_init_33 ?_
  replace a1 := a1.keep (ext_uP S7 1 b 3 (some q4)) nb1
  replace a2 := a2.keep (ext_uP S7 1 b 3 (some q4)) nb2
  replace a3 := a3.keep (ext_uP S7 1 b 3 (some q4)) nb3
  replace a4 := a4.keep (ext_uP S7 1 b 3 (some q4)) nb4
  replace E := E.tr (ext_uP S7 1 b 3 (some q4))
  replace B := B.wP 3 (some q4)
  generalize uP S7 1 b 3 (some q4) = S8 at *
  refine J_aload_n (pc := 36) dX2_init_36 rfl rfl ?_
  refine J_iconst (pc := 37) (v := nI 2) dX2_init_37 (by decide) ?_
  refine J_newaI (pc := 38) rfl (by first | decide | omega) dX2_init_38 (by first | decide | omega) (by first | decide | omega) (fun q5 h5 => ?_)
  have f5 : q5 ∉ S0.1 := fun z => h5 (E.1 q5 z)
  have nb5 : q5 ≠ b := fun e => h5 (e ▸ B.1)
  have n5_1 : q5 ≠ q1 := fun e => h5 (e ▸ a1.1)
  have n5_2 : q5 ≠ q2 := fun e => h5 (e ▸ a2.1)
  have n5_3 : q5 ≠ q3 := fun e => h5 (e ▸ a3.1)
  have n5_4 : q5 ≠ q4 := fun e => h5 (e ▸ a4.1)
  replace a1 := a1.nw (c' := 9) (n' := 2) h5
  replace a2 := a2.nw (c' := 9) (n' := 2) h5
  replace a3 := a3.nw (c' := 9) (n' := 2) h5
  replace a4 := a4.nw (c' := 9) (n' := 2) h5
  have a5 := isA_new (c := 9) (n := 2) h5
  replace E := E.tr (ext_new (c := 9) (n := 2) h5 B.1)
  replace B := B.nw (c' := 9) (n' := 2) h5
  clear h5
  generalize nX S8 q5 9 2 = S9 at *
  refine J_putrF (pc := 40) (i := 4) cl1 B.at (by decide) rfl rfl rfl rfl rfl rfl kX2_28 dX2_init_40 ?_
  replace a1 := a1.keep (ext_uP S9 1 b 4 (some q5)) nb1
  replace a2 := a2.keep (ext_uP S9 1 b 4 (some q5)) nb2
  replace a3 := a3.keep (ext_uP S9 1 b 4 (some q5)) nb3
  replace a4 := a4.keep (ext_uP S9 1 b 4 (some q5)) nb4
  replace a5 := a5.keep (ext_uP S9 1 b 4 (some q5)) nb5
  replace E := E.tr (ext_uP S9 1 b 4 (some q5))
  replace B := B.wP 4 (some q5)
  generalize uP S9 1 b 4 (some q5) = S10 at *
  refine J_aload_n (pc := 43) dX2_init_43 rfl rfl ?_
  refine J_iconst (pc := 44) (v := nI 0) dX2_init_44 (by decide) ?_
  refine J_puti (pc := 45) (i := 5) cl1 B.at (by decide) rfl rfl rfl rfl kX2_31 dX2_init_45 ?_
  replace a1 := a1.keep (ext_uI S10 1 b 5 (nI 0)) nb1
  replace a2 := a2.keep (ext_uI S10 1 b 5 (nI 0)) nb2
  replace a3 := a3.keep (ext_uI S10 1 b 5 (nI 0)) nb3
  replace a4 := a4.keep (ext_uI S10 1 b 5 (nI 0)) nb4
  replace a5 := a5.keep (ext_uI S10 1 b 5 (nI 0)) nb5
  replace E := E.tr (ext_uI S10 1 b 5 (nI 0))
  replace B := B.w0 5
  generalize uI S10 1 b 5 (nI 0) = S11 at *
  refine J_aload_n (pc := 48) dX2_init_48 rfl rfl ?_
  refine J_iconst (pc := 49) (v := nI 0) dX2_init_49 (by decide) ?_
  refine J_puti (pc := 50) (i := 6) cl1 B.at (by decide) rfl rfl rfl rfl kX2_35 dX2_init_50 ?_
  replace a1 := a1.keep (ext_uI S11 1 b 6 (nI 0)) nb1
  replace a2 := a2.keep (ext_uI S11 1 b 6 (nI 0)) nb2
  replace a3 := a3.keep (ext_uI S11 1 b 6 (nI 0)) nb3
  replace a4 := a4.keep (ext_uI S11 1 b 6 (nI 0)) nb4
  replace a5 := a5.keep (ext_uI S11 1 b 6 (nI 0)) nb5
  replace E := E.tr (ext_uI S11 1 b 6 (nI 0))
  replace B := B.w0 6
  generalize uI S11 1 b 6 (nI 0) = S12 at *
  refine J_aload_n (pc := 53) dX2_init_53 rfl rfl ?_
  refine J_getr (pc := 54) (i := 0) cl1 B.at (by decide) rfl (B.2.2.2.2 0) kX2_11 dX2_init_54 ?_
  refine J_iconst (pc := 57) (v := (-1)) dX2_init_57 (by decide) ?_
  refine J_callS (pc := 58) (cx_fillA l g (hgt - 1) (-1) a1 (by decide)) qJ7_fill_53178 vJ7_fill_53178 kX2_40 dX2_init_58 rfl rfl (Nat.le_of_ble_eq_true rfl) hh3 (by decide) (by decide) ?_
  rintro _ T ⟨rfl, C, a1'⟩
  replace a2 := a2.keep C n2_1
  replace a3 := a3.keep C n3_1
  replace a4 := a4.keep C n4_1
  replace a5 := a5.keep C n5_1
  replace B := B.keep C nb1.symm
  replace E := E.sub hb0 f1 C
  have n3 : q3 ≠ b ∧ q1 ≠ q3 ∧ q2 ≠ q3 ∧ q4 ≠ q3 ∧ q5 ≠ q3 := ⟨nb3, n3_1.symm, n3_2.symm, n4_3, n5_3⟩
  have key : [b, q1, q2, q3, q4, q5].Nodup := by
    simp only [List.nodup_cons, List.mem_cons, List.not_mem_nil, or_false, not_or, not_false_eq_true, List.nodup_nil, and_true]
    exact ⟨⟨nb1.symm, nb2.symm, nb3.symm, nb4.symm, nb5.symm⟩, ⟨n2_1.symm, n3_1.symm, n4_1.symm, n5_1.symm⟩, ⟨n3_2.symm, n4_2.symm, n5_2.symm⟩, ⟨n4_3.symm, n5_3.symm⟩, n5_4.symm⟩
  have F0 : fabJ S0 T b q1 q2 q3 q4 q5 0 (fun _ => 0) (fun _ => 0) := ⟨E, B, a1', a2, a4, a5, a3.cg rfl rfl rfl (fun _ => rfl) (fun k => (if_neg (Nat.not_lt_zero k)).symm), fun i hi => absurd hi (Nat.not_lt_zero i), fun i hi => absurd hi (Nat.not_lt_zero i), fun i i' hi => absurd hi (Nat.not_lt_zero i)⟩
  clear a1' a2 a3 a4 a5 B E C a1 hB
  have last : ∀ S r a, fabJ S0 S b q1 q2 q3 q4 q5 64 r a → J l g mX2_init hgt 133 820 (fun rr S' => rr = none ∧ ext S0 S' b ∧ ∃ v : Nat → Nat, v 0 = b ∧ (∀ s, s < 134 → fullF S' v s) ∧ (∀ s, 1 ≤ s → s < 134 → v s ∉ S0.1) ∧ ∀ s s', s < 134 → s' < 134 → v s = v s' → s = s') 93 [(0, .ref b)] [] S (5 + 2 * 64) (116 + 11 * 64) := by
    intro S r a F
    have hmem := F.mem
    obtain ⟨E, B, a1, a2, a4, a5, a3, rows, fresh, inj⟩ := F
    have mI : ∀ {T U : jS} {x : Nat}, ext T U x → x ∈ [q4, q5] → ∀ {c y n : Nat} {f : Nat → Int32} {p : Nat → Option Nat}, isA T c y n f p → y ≠ x → isA U c y n f p := fun C _ _ _ _ _ _ h hne => h.keep C hne
    refine J_iconst (pc := 93) (v := nI 0) dX2_init_93 (by decide) ?_
    refine J_istore_n (pc := 94) dX2_init_94 rfl (by decide) ?_
    refine J_iload_n (pc := 95) dX2_init_95 rfl rfl ?_
    refine J_iconst (pc := 96) (v := nI 2) dX2_init_96 (by decide) ?_
    refine J_icmp_ge (pc := 97) (tgt := 113) dX2_init_97 rfl (fun hc9 => absurd hc9 ((by decide))) (fun _ => ?_)
    refine J_aload_n (pc := 100) dX2_init_100 rfl rfl ?_
    refine J_getr (pc := 101) (i := 3) cl1 B.at (by decide) rfl (B.2.2.2.2 3) kX2_24 dX2_init_101 ?_
    refine J_iload_n (pc := 104) dX2_init_104 rfl rfl ?_
    refine J_iconst (pc := 105) (v := nI 1) dX2_init_105 (by decide) ?_
    refine J_zast (pc := 106) a4.ar rfl (show 0 < 2 by decide) (by first | omega | exact mLn_lt _) rfl dX2_init_106 ?_
    refine J_iinc (pc := 107) dX2_init_107 rfl (inc1 _) (by decide) ?_
    refine J_goto (pc := 110) (tgt := 95) dX2_init_110 rfl ?_
    refine J_iload_n (pc := 95) dX2_init_95 rfl rfl ?_
    refine J_iconst (pc := 96) (v := nI 2) dX2_init_96 (by decide) ?_
    have C1 := ext_uI S 10 q4 0 (nI 1)
    have x4 := a4.wI 0 (nI 1)
    have xE := E.sub hb0 f4 C1
    have xB := B.keep C1 nb4.symm
    have x1 := a1.keep C1 n4_1.symm
    have x2 := a2.keep C1 n4_2.symm
    have x3 := a3.keep C1 n4_3.symm
    have x5 := a5.keep C1 n5_4
    have xr : ∀ i, i < 64 → isA (uI S 10 q4 0 (nI 1)) 5 (r i) 0 (fun _ => 0) (fun k => if k = 0 then some (a i) else none) ∧ isA (uI S 10 q4 0 (nI 1)) 9 (a i) 8 (fun _ => 0) (fun _ => none) := fun i hi => ⟨(rows i hi).1.keep C1 (fun u => (fresh i hi).2.2.1 (by rw [u]; simp)), (rows i hi).2.keep C1 (fun u => (fresh i hi).2.2.2 (by rw [u]; simp))⟩
    clear C1 E B a1 a2 a3 a4 a5 rows
    generalize uI S 10 q4 0 (nI 1) = S' at *
    refine J_icmp_ge (pc := 97) (tgt := 113) dX2_init_97 rfl (fun hc9 => absurd hc9 ((by decide))) (fun _ => ?_)
    refine J_aload_n (pc := 100) dX2_init_100 rfl rfl ?_
    refine J_getr (pc := 101) (i := 3) cl1 xB.at (by decide) rfl (xB.2.2.2.2 3) kX2_24 dX2_init_101 ?_
    refine J_iload_n (pc := 104) dX2_init_104 rfl rfl ?_
    refine J_iconst (pc := 105) (v := nI 1) dX2_init_105 (by decide) ?_
    refine J_zast (pc := 106) x4.ar rfl (show 1 < 2 by decide) (by first | omega | exact mLn_lt _) rfl dX2_init_106 ?_
    refine J_iinc (pc := 107) dX2_init_107 rfl (inc1 _) (by decide) ?_
    refine J_goto (pc := 110) (tgt := 95) dX2_init_110 rfl ?_
    refine J_iload_n (pc := 95) dX2_init_95 rfl rfl ?_
    refine J_iconst (pc := 96) (v := nI 2) dX2_init_96 (by decide) ?_
    have C1 := ext_uI S' 10 q4 1 (nI 1)
    have a4 := x4.wI 1 (nI 1)
    have E := xE.sub hb0 f4 C1
    have B := xB.keep C1 nb4.symm
    have a1 := x1.keep C1 n4_1.symm
    have a2 := x2.keep C1 n4_2.symm
    have a3 := x3.keep C1 n4_3.symm
    have a5 := x5.keep C1 n5_4
    have rows : ∀ i, i < 64 → isA (uI S' 10 q4 1 (nI 1)) 5 (r i) 0 (fun _ => 0) (fun k => if k = 0 then some (a i) else none) ∧ isA (uI S' 10 q4 1 (nI 1)) 9 (a i) 8 (fun _ => 0) (fun _ => none) := fun i hi => ⟨(xr i hi).1.keep C1 (fun u => (fresh i hi).2.2.1 (by rw [u]; simp)), (xr i hi).2.keep C1 (fun u => (fresh i hi).2.2.2 (by rw [u]; simp))⟩
    clear C1 xE xB x1 x2 x3 x4 x5 xr
    generalize uI S' 10 q4 1 (nI 1) = S'' at *
    refine J_icmp_ge (pc := 97) (tgt := 113) dX2_init_97 rfl (fun _ => ?_) (fun hc9 => absurd ((by decide)) hc9)
    refine J_aload_n (pc := 113) dX2_init_113 rfl rfl ?_
    refine J_getr (pc := 114) (i := 4) cl1 B.at (by decide) rfl (B.2.2.2.2 4) kX2_28 dX2_init_114 ?_
    refine J_iconst (pc := 117) (v := nI 1) dX2_init_117 (by decide) ?_
    refine J_callS (pc := 118) (cx_fillA l g (hgt - 1) (nI 1) a5 (by decide)) qJ7_fill_53178 vJ7_fill_53178 kX2_40 dX2_init_118 rfl rfl (Nat.le_of_ble_eq_true rfl) hh3 (by decide) (by decide) ?_
    rintro _ T ⟨rfl, C, x5⟩
    refine J_vret (pc := 121) dX2_init_121 rfl (by decide) (by decide) ?_
    have x1 := a1.keep C n5_1.symm
    have x2 := a2.keep C n5_2.symm
    have x3 := a3.keep C n5_3.symm
    have x4 := a4.keep C n5_4.symm
    have xB := B.keep C nb5.symm
    have xr : ∀ i, i < 64 → isA T 5 (r i) 0 (fun _ => 0) (fun k => if k = 0 then some (a i) else none) ∧ isA T 9 (a i) 8 (fun _ => 0) (fun _ => none) := fun i hi => ⟨(rows i hi).1.keep C (fun u => (fresh i hi).2.2.1 (by rw [u]; simp)), (rows i hi).2.keep C (fun u => (fresh i hi).2.2.2 (by rw [u]; simp))⟩
    have xE := E.sub hb0 f5 C
    have v6 : ∀ s, 6 ≤ s → s % 2 = 0 → (fun s => if s < 6 then [b, q1, q2, q3, q4, q5].getD s 0 else if s % 2 = 0 then r ((s - 6) / 2) else a ((s - 6) / 2)) s = r ((s - 6) / 2) := fun s h6 h2 => by
      try dsimp only
      rw [if_neg (by omega), if_pos h2]
    have v7 : ∀ s, 6 ≤ s → ¬ s % 2 = 0 → (fun s => if s < 6 then [b, q1, q2, q3, q4, q5].getD s 0 else if s % 2 = 0 then r ((s - 6) / 2) else a ((s - 6) / 2)) s = a ((s - 6) / 2) := fun s h6 h2 => by
      try dsimp only
      rw [if_neg (by omega), if_neg h2]
    have v5 : ∀ s, s < 6 → (fun s => if s < 6 then [b, q1, q2, q3, q4, q5].getD s 0 else if s % 2 = 0 then r ((s - 6) / 2) else a ((s - 6) / 2)) s = [b, q1, q2, q3, q4, q5].getD s 0 := fun s h6 => if_pos h6
    refine ⟨rfl, xE, fun s => if s < 6 then [b, q1, q2, q3, q4, q5].getD s 0 else if s % 2 = 0 then r ((s - 6) / 2) else a ((s - 6) / 2), rfl, ?_, ?_, ?_⟩
    · generalize hv : (fun s => if s < 6 then [b, q1, q2, q3, q4, q5].getD s 0 else if s % 2 = 0 then r ((s - 6) / 2) else a ((s - 6) / 2)) = v at *
      have w0 : v 0 = b := v5 0 (by decide)
      have w1 : v 1 = q1 := v5 1 (by decide)
      have w2 : v 2 = q2 := v5 2 (by decide)
      have w3 : v 3 = q3 := v5 3 (by decide)
      have w4 : v 4 = q4 := v5 4 (by decide)
      have w5 : v 5 = q5 := v5 5 (by decide)
      intro s hs
      by_cases h6 : 6 ≤ s
      · have hi : (s - 6) / 2 < 64 := by omega
        by_cases h2 : s % 2 = 0
        · refine (xr _ hi).1.cg ?_ (v6 s h6 h2).symm ?_ (fun k => ?_) (fun k => ?_)
          · unfold kF
            rw [if_neg (by omega), if_neg (by omega), if_neg (by omega), if_neg (by omega), if_pos h2]
          · unfold lF
            rw [if_neg (by omega), if_neg (by omega), if_neg (by omega), if_neg (by omega), if_pos h2]
          · unfold iF
            rw [if_neg (by omega), if_neg (by omega)]
          · unfold rF
            try dsimp only
            rw [if_neg (c := s = 0) (by omega), if_neg (c := s = 3) (by omega)]
            by_cases e : k = 0
            · rw [if_pos e, if_pos ⟨h6, h2, e⟩]
              show _ = some (v (s + 1))
              rw [v7 (s + 1) (by omega) (by omega), show (s + 1 - 6) / 2 = (s - 6) / 2 by omega]
            · rw [if_neg e, if_neg (fun z => e z.2.2)]
              rfl
        · refine (xr _ hi).2.cg ?_ (v7 s h6 h2).symm ?_ (fun k => ?_) (fun k => ?_)
          · unfold kF
            rw [if_neg (by omega), if_neg (by omega), if_neg (by omega), if_neg (by omega), if_neg h2]
          · unfold lF
            rw [if_neg (by omega), if_neg (by omega), if_neg (by omega), if_neg (by omega), if_neg h2]
          · unfold iF
            rw [if_neg (by omega), if_neg (by omega)]
          · unfold rF
            rw [if_neg (c := s = 0) (by omega), if_neg (c := s = 3) (by omega), if_neg (fun z => h2 z.2.1)]
            rfl
      · rcases (show s = 0 ∨ s = 1 ∨ s = 2 ∨ s = 3 ∨ s = 4 ∨ s = 5 by omega) with rfl | rfl | rfl | rfl | rfl | rfl
        · refine xB.cg rfl w0.symm rfl (fun k => ?_) (fun k => ?_)
          · unfold iF
            rw [if_neg (by omega), if_neg (by omega)]
          · unfold rF
            rw [if_pos rfl]
            try dsimp only
            by_cases e4 : k = 4
            · rw [if_pos e4, if_pos (by omega), e4]
              exact congrArg some w5.symm
            rw [if_neg e4]
            by_cases e3 : k = 3
            · rw [if_pos e3, if_pos (by omega), e3]
              exact congrArg some w4.symm
            rw [if_neg e3]
            by_cases e2 : k = 2
            · rw [if_pos e2, if_pos (by omega), e2]
              exact congrArg some w3.symm
            rw [if_neg e2]
            by_cases e1 : k = 1
            · rw [if_pos e1, if_pos (by omega), e1]
              exact congrArg some w2.symm
            rw [if_neg e1]
            by_cases e0 : k = 0
            · rw [if_pos e0, if_pos (by omega), e0]
              exact congrArg some w1.symm
            rw [if_neg e0, if_neg (by omega)]
            rfl
        · refine x1.cg rfl w1.symm rfl (fun k => ?_) (fun k => rfl)
          unfold iF
          try dsimp only
          by_cases e : k < 24
          · rw [if_pos e, if_pos ⟨rfl, e⟩]
          · rw [if_neg e, if_neg (fun z => e z.2), if_neg (by omega)]
        · refine x2.cg rfl w2.symm rfl (fun k => ?_) (fun k => rfl)
          unfold iF
          rw [if_neg (by omega), if_neg (by omega)]
        · refine x3.cg rfl w3.symm rfl (fun k => ?_) (fun k => ?_)
          · unfold iF
            rw [if_neg (by omega), if_neg (by omega)]
          · unfold rF
            rw [if_neg (c := 3 = 0) (by decide), if_pos (c := 3 = 3) rfl]
            try dsimp only
            by_cases e : k < 64
            · rw [if_pos e, if_pos e]
              show _ = some (v (6 + 2 * k))
              rw [v6 (6 + 2 * k) (by omega) (by omega), show (6 + 2 * k - 6) / 2 = k by omega]
            · rw [if_neg e, if_neg e]
              rfl
        · refine x4.cg rfl w4.symm rfl (fun k => ?_) (fun k => rfl)
          unfold iF
          try dsimp only
          rw [if_neg (c := 4 = 1 ∧ k < 24) (by omega)]
          by_cases e1 : k = 1
          · rw [if_pos e1, if_pos ⟨Or.inl rfl, by omega⟩]
          · rw [if_neg e1]
            by_cases e0 : k = 0
            · rw [if_pos e0, if_pos ⟨Or.inl rfl, by omega⟩]
            · rw [if_neg e0, if_neg (by omega)]
        · refine x5.cg rfl w5.symm rfl (fun k => ?_) (fun k => rfl)
          unfold iF
          try dsimp only
          rw [if_neg (c := 5 = 1 ∧ k < 24) (by omega)]
          by_cases e : k < 2
          · rw [if_pos e, if_pos ⟨Or.inr rfl, e⟩]
          · rw [if_neg e, if_neg (fun z => e z.2)]
    · intro s h1 hs
      by_cases h6 : 6 ≤ s
      · have hi : (s - 6) / 2 < 64 := by omega
        by_cases h2 : s % 2 = 0
        · rw [v6 s h6 h2]
          exact (fresh _ hi).1
        · rw [v7 s h6 h2]
          exact (fresh _ hi).2.1
      · rw [v5 s (by omega)]
        rcases (show s = 1 ∨ s = 2 ∨ s = 3 ∨ s = 4 ∨ s = 5 by omega) with rfl | rfl | rfl | rfl | rfl
        · exact f1
        · exact f2
        · exact f3
        · exact f4
        · exact f5
    · intro s s' hs hs' e
      have kind : ∀ i i', i < 64 → i' < 64 → r i ≠ a i' := fun i i' hi hi' u => by
        have z1 := (rows i hi).1.2.1
        have z2 := (rows i' hi').2.2.1
        rw [u, z2] at z1
        exact absurd z1 (by decide)
      by_cases h6 : 6 ≤ s
      · have hi : (s - 6) / 2 < 64 := by omega
        by_cases h6' : 6 ≤ s'
        · have hi' : (s' - 6) / 2 < 64 := by omega
          by_cases h2 : s % 2 = 0
          · rw [v6 s h6 h2] at e
            by_cases h2' : s' % 2 = 0
            · rw [v6 s' h6' h2'] at e
              have := (inj _ _ hi hi').1 e
              omega
            · rw [v7 s' h6' h2'] at e
              exact absurd e (kind _ _ hi hi')
          · rw [v7 s h6 h2] at e
            by_cases h2' : s' % 2 = 0
            · rw [v6 s' h6' h2'] at e
              exact absurd e.symm (kind _ _ hi' hi)
            · rw [v7 s' h6' h2'] at e
              have := (inj _ _ hi hi').2 e
              omega
        · have hm := getD_mem (l := [b, q1, q2, q3, q4, q5]) (i := s') (show s' < 6 by omega)
          rw [v5 s' (by omega)] at e
          rw [← e] at hm
          by_cases h2 : s % 2 = 0
          · rw [v6 s h6 h2] at hm
            exact absurd hm (fresh _ hi).2.2.1
          · rw [v7 s h6 h2] at hm
            exact absurd hm (fresh _ hi).2.2.2
      · by_cases h6' : 6 ≤ s'
        · have hi' : (s' - 6) / 2 < 64 := by omega
          have hm := getD_mem (l := [b, q1, q2, q3, q4, q5]) (i := s) (show s < 6 by omega)
          rw [v5 s (by omega)] at e
          rw [e] at hm
          by_cases h2 : s' % 2 = 0
          · rw [v6 s' h6' h2] at hm
            exact absurd hm (fresh _ hi').2.2.1
          · rw [v7 s' h6' h2] at hm
            exact absurd hm (fresh _ hi').2.2.2
        · rw [v5 s (by omega), v5 s' (by omega)] at e
          exact nodup_inj key (show s < 6 by omega) (show s' < 6 by omega) e
  have loop : ∀ j, j ≤ 64 → ∀ S r a, fabJ S0 S b q1 q2 q3 q4 q5 j r a → J l g mX2_init hgt 133 820 (fun rr S' => rr = none ∧ ext S0 S' b ∧ ∃ v : Nat → Nat, v 0 = b ∧ (∀ s, s < 134 → fullF S' v s) ∧ (∀ s, 1 ≤ s → s < 134 → v s ∉ S0.1) ∧ ∀ s s', s < 134 → s' < 134 → v s = v s' → s = s') 63 [(1, .int (nI j)), (0, .ref b)] [] S (5 + 2 * j) (116 + 11 * j) := by
    clear nb1 nb2 nb3 nb4 nb5 n2_1 n3_1 n3_2 n4_1 n4_2 n4_3 n5_1 n5_2 n5_3 n5_4
    refine down _ ?_ ?_
    · intro S r a F
      obtain ⟨-, B, -, -, -, -, a3, -⟩ := id F
      refine J_iload_n (pc := 63) dX2_init_63 rfl rfl ?_
      refine J_aload_n (pc := 64) dX2_init_64 rfl rfl ?_
      refine J_getr (pc := 65) (i := 2) cl1 B.at (by decide) rfl (B.2.2.2.2 2) kX2_20 dX2_init_65 ?_
      refine J_alenR (pc := 68) (a3.at) (congrArg nI a3.2.2.1) dX2_init_68 ?_
      refine J_icmp_geN (pc := 69) (tgt := 93) dX2_init_69 rfl (by omega) (by omega) (fun q => ?_) (fun q => ?_)
      · exact J_lvk (last S r a F) ⟨rfl, trivial⟩
      · omega
    · intro j hj ih S r a F
      obtain ⟨-, B, -, -, -, -, a3, -⟩ := id F
      have m3 : q3 ∈ S.1 := a3.1
      refine J_iload_n (pc := 63) dX2_init_63 rfl rfl ?_
      refine J_aload_n (pc := 64) dX2_init_64 rfl rfl ?_
      refine J_getr (pc := 65) (i := 2) cl1 B.at (by decide) rfl (B.2.2.2.2 2) kX2_20 dX2_init_65 ?_
      refine J_alenR (pc := 68) (a3.at) (congrArg nI a3.2.2.1) dX2_init_68 ?_
      refine J_icmp_geN (pc := 69) (tgt := 93) dX2_init_69 rfl (by omega) (by omega) (fun q => ?_) (fun q => ?_)
      · omega
      · refine J_aload_n (pc := 72) dX2_init_72 rfl rfl ?_
        refine J_getr (pc := 73) (i := 2) cl1 B.at (by decide) rfl (B.2.2.2.2 2) kX2_20 dX2_init_73 ?_
        refine J_iload_n (pc := 76) dX2_init_76 rfl rfl ?_
        refine J_new (pc := 77) cl5 kX2_18 ist5 ini5 dX2_init_77 (by first | decide | omega) (by first | decide | omega) (fun x hx => ?_)
        have h1 := isA_new (c := 5) (n := 0) hx
        generalize e1 : nX S x 5 0 = S1 at *
        refine J_dup (pc := 80) dX2_init_80 rfl ?_
        refine J_bipush (pc := 81) (v := nI 8) dX2_init_81 (by decide) ?_
        refine J_callI (pc := 83) (cx_rowInit l g (hgt - 1) (n := 8) h1 (by decide) hh2) qX7_init rfl vX7_init kX2_46 dX2_init_83 rfl rfl (Nat.le_of_ble_eq_true rfl) hh3 (by first | decide | omega) (by first | decide | omega) ?_
        rintro _ S' ⟨rfl, C, x', hx', R, A⟩
        have G := F.step hb0 hx e1.symm C hx' R A f3 n3
        have a3' : isA S1 13 q3 64 (fun _ => 0) (fun k => if k < j then some (r k) else none) := by rw [← e1]; exact a3.nw hx
        have a3'' := a3'.keep C (fun e => hx (e ▸ m3))
        refine J_rast13 (pc := 86) a3''.ar rfl hj (by first | omega | exact mLn_lt _) R.at dX2_init_86 ?_
        refine J_iinc (pc := 87) dX2_init_87 rfl (inc1 _) (by decide) ?_
        refine J_goto (pc := 90) (tgt := 63) dX2_init_90 rfl ?_
        exact J_lvk (J_cnt (ih _ _ _ G) (by omega) (by omega)) ⟨rfl, rfl, trivial⟩
  refine J_iconst (pc := 61) (v := nI 0) dX2_init_61 (by decide) ?_
  refine J_istore_n (pc := 62) dX2_init_62 rfl (by decide) ?_
  exact J_lvk (loop 0 (by omega) T _ _ F0) ⟨rfl, rfl, trivial⟩
