/-! THE CLASS: the constructor of a host; its objects: 0 itself, 1 outgoing, 2 incoming, 3 cutoffs, 4 latest, 5 sorted, 6 due, 7 its places, 8 choices, 9 ended -/
def kH (s : Nat) : Nat := match s with
  | 0 => 2
  | 1 => 12
  | 2 => 12
  | 3 => 0
  | 6 => 5
  | _ => 9
def lH (s : Nat) : Nat := match s with
  | 0 => 0
  | 1 => 48
  | 2 => 48
  | 3 => 0
  | 4 => 16
  | 5 => 16
  | 6 => 0
  | 7 => 24
  | 8 => 3
  | _ => 64
def iH (s : Nat) : Nat → Int32 := match s with
  | 8 => fun k => if k < 3 then -1 else 0
  | _ => fun _ => 0
def rH (s : Nat) : Nat → Option Nat := match s with
  | 0 => fun k => if k = 5 then some 9 else if k = 4 then some 8 else if k = 3 then some 6 else if k = 2 then some 3 else if k = 1 then some 2 else if k = 0 then some 1 else none
  | 3 => fun k => if k = 1 then some 5 else if k = 0 then some 4 else none
  | 6 => fun k => if k = 0 then some 7 else none
  | _ => fun _ => none
def fullH (S : jS) (v : Nat → Nat) (s : Nat) : Prop := isA S (kH s) (v s) (lH s) (iH s) (fun k => (rH s k).map v)
theorem lt10 {P : Nat → Prop} (h0 : P 0) (h1 : P 1) (h2 : P 2) (h3 : P 3) (h4 : P 4) (h5 : P 5) (h6 : P 6) (h7 : P 7) (h8 : P 8) (h9 : P 9) : ∀ s, s < 10 → P s := by
  intro s hs
  rcases (show s = 0 ∨ s = 1 ∨ s = 2 ∨ s = 3 ∨ s = 4 ∨ s = 5 ∨ s = 6 ∨ s = 7 ∨ s = 8 ∨ s = 9 by omega) with rfl | rfl | rfl | rfl | rfl | rfl | rfl | rfl | rfl | rfl <;> assumption
theorem getD_mem {l : List Nat} : ∀ {i : Nat}, i < l.length → l.getD i 0 ∈ l := by
  induction l with
  | nil => intro i h; exact absurd h (Nat.not_lt_zero i)
  | cons x l ih =>
    intro i h
    cases i with
    | zero => exact List.mem_cons_self
    | succ i => exact List.mem_cons_of_mem _ (ih (i := i) (by simpa using h))
theorem nodup_inj {l : List Nat} (hn : l.Nodup) : ∀ {i j : Nat}, i < l.length → j < l.length → l.getD i 0 = l.getD j 0 → i = j := by
  induction l with
  | nil => intro i j h; exact absurd h (Nat.not_lt_zero i)
  | cons x l ih =>
    have h1 := List.nodup_cons.mp hn
    intro i j hi hj e
    cases i with
    | zero =>
      cases j with
      | zero => rfl
      | succ j =>
        have e : x = l.getD j 0 := e
        exact absurd (e ▸ getD_mem (by simpa using hj)) h1.1
    | succ i =>
      cases j with
      | zero =>
        have e : l.getD i 0 = x := e
        exact absurd (e ▸ getD_mem (by simpa using hi)) h1.1
      | succ j =>
        have e : l.getD i 0 = l.getD j 0 := e
        rw [ih h1.2 (by simpa using hi) (by simpa using hj) e]
set_option maxRecDepth 100000 in
theorem cx_hostInit (l : Launch) (g : jG) (hgt : Nat) {S0 : jS} {b : Nat} (hB : isA S0 2 b 0 (fun _ => 0) (fun _ => none)) (hh : 2 ≤ hgt) : CT l g mX3_init hgt 9 228 [.ref b] S0 (fun r S' => r = none ∧ ext S0 S' b ∧ ∃ v : Nat → Nat, v 0 = b ∧ (∀ s, s < 10 → fullH S' v s) ∧ (∀ s, 1 ≤ s → s < 10 → v s ∉ S0.1) ∧ ∀ s s', s < 10 → s' < 10 → v s = v s' → s = s') := by
  have hb0 := hB.1
  have hh1 : 1 ≤ hgt := by omega
  have hh2 : 1 ≤ hgt - 1 := by omega
  have hh3 : hgt - 1 + 1 ≤ hgt := by omega
  refine CT_of qX3_init (Nat.le_of_ble_eq_true rfl) ?_
  have E := ext.refl S0 b
  have B := hB
  refine J_aload_n (pc := 0) dX3_init_0 rfl rfl ?_
  refine J_objInit (pc := 1) kX3_3 dX3_init_1 (by decide) hh1 ?_
  refine J_aload_n (pc := 4) dX3_init_4 rfl rfl ?_
  refine J_bipush (pc := 5) (v := nI 48) dX3_init_5 (by decide) ?_
  refine J_newr12 (pc := 7) rfl (by first | decide | omega) kX3_9 dX3_init_7 (by first | decide | omega) (by first | decide | omega) (fun q1 h1 => ?_)
  have f1 : q1 ∉ S0.1 := fun z => h1 (E.1 q1 z)
  have nb1 : q1 ≠ b := fun e => h1 (e ▸ B.1)
  have a1 := isA_new (c := 12) (n := 48) h1
  replace E := E.tr (ext_new (c := 12) (n := 48) h1 B.1)
  replace B := B.nw (c' := 12) (n' := 48) h1
  clear h1
  generalize nX S0 q1 12 48 = S1 at *
  refine J_putrF (pc := 10) (i := 0) cl2 B.at (by decide) rfl rfl rfl rfl rfl rfl kX3_11 dX3_init_10 ?_
  replace a1 := a1.keep (ext_uP S1 2 b 0 (some q1)) nb1
  replace E := E.tr (ext_uP S1 2 b 0 (some q1))
  replace B := B.wP 0 (some q1)
  generalize uP S1 2 b 0 (some q1) = S2 at *
  refine J_aload_n (pc := 13) dX3_init_13 rfl rfl ?_
  refine J_bipush (pc := 14) (v := nI 48) dX3_init_14 (by decide) ?_
  refine J_newr12 (pc := 16) rfl (by first | decide | omega) kX3_9 dX3_init_16 (by first | decide | omega) (by first | decide | omega) (fun q2 h2 => ?_)
  have f2 : q2 ∉ S0.1 := fun z => h2 (E.1 q2 z)
  have nb2 : q2 ≠ b := fun e => h2 (e ▸ B.1)
  have n2_1 : q2 ≠ q1 := fun e => h2 (e ▸ a1.1)
  replace a1 := a1.nw (c' := 12) (n' := 48) h2
  have a2 := isA_new (c := 12) (n := 48) h2
  replace E := E.tr (ext_new (c := 12) (n := 48) h2 B.1)
  replace B := B.nw (c' := 12) (n' := 48) h2
  clear h2
  generalize nX S2 q2 12 48 = S3 at *
  refine J_putrF (pc := 19) (i := 1) cl2 B.at (by decide) rfl rfl rfl rfl rfl rfl kX3_17 dX3_init_19 ?_
  replace a1 := a1.keep (ext_uP S3 2 b 1 (some q2)) nb1
  replace a2 := a2.keep (ext_uP S3 2 b 1 (some q2)) nb2
  replace E := E.tr (ext_uP S3 2 b 1 (some q2))
  replace B := B.wP 1 (some q2)
  generalize uP S3 2 b 1 (some q2) = S4 at *
  refine J_aload_n (pc := 22) dX3_init_22 rfl rfl ?_
  refine J_new (pc := 23) cl0 kX3_20 ist0 ini0 dX3_init_23 (by first | decide | omega) (by first | decide | omega) (fun q3 h3 => ?_)
  have f3 : q3 ∉ S0.1 := fun z => h3 (E.1 q3 z)
  have nb3 : q3 ≠ b := fun e => h3 (e ▸ B.1)
  have n3_1 : q3 ≠ q1 := fun e => h3 (e ▸ a1.1)
  have n3_2 : q3 ≠ q2 := fun e => h3 (e ▸ a2.1)
  replace a1 := a1.nw (c' := 0) (n' := 0) h3
  replace a2 := a2.nw (c' := 0) (n' := 0) h3
  have a3 := isA_new (c := 0) (n := 0) h3
  replace E := E.tr (ext_new (c := 0) (n := 0) h3 B.1)
  replace B := B.nw (c' := 0) (n' := 0) h3
  clear h3
  generalize nX S4 q3 0 0 = S5 at *
  refine J_dup (pc := 26) dX3_init_26 rfl ?_
  refine J_callIN (pc := 27) (cx_cutInit l g (hgt - 1) a3 hh2) qX1_init rfl vX1_init (host := RX9) (by decide +kernel) dX3_init_27 rfl rfl (Nat.le_of_ble_eq_true rfl) hh3 (by first | decide | omega) (by first | decide | omega) ?_
  rintro _ S6 ⟨rfl, C, q4, q5, h4, h5, n5_4, a3', a4, a5⟩
  have f4 : q4 ∉ S0.1 := fun z => h4 (E.1 q4 z)
  have nb4 : q4 ≠ b := fun e => h4 (e ▸ B.1)
  have n4_1 : q4 ≠ q1 := fun e => h4 (e ▸ a1.1)
  have n4_2 : q4 ≠ q2 := fun e => h4 (e ▸ a2.1)
  have n4_3 : q4 ≠ q3 := fun e => h4 (e ▸ a3.1)
  have f5 : q5 ∉ S0.1 := fun z => h5 (E.1 q5 z)
  have nb5 : q5 ≠ b := fun e => h5 (e ▸ B.1)
  have n5_1 : q5 ≠ q1 := fun e => h5 (e ▸ a1.1)
  have n5_2 : q5 ≠ q2 := fun e => h5 (e ▸ a2.1)
  have n5_3 : q5 ≠ q3 := fun e => h5 (e ▸ a3.1)
  replace a1 := a1.keep C n3_1.symm
  replace a2 := a2.keep C n3_2.symm
  replace B := B.keep C nb3.symm
  replace E := E.sub hb0 f3 C
  replace a3 := a3'
  clear C h4 h5
  refine J_putrF (pc := 30) (i := 2) cl2 B.at (by decide) rfl rfl rfl rfl rfl rfl kX3_23 dX3_init_30 ?_
  replace a1 := a1.keep (ext_uP S6 2 b 2 (some q3)) nb1
  replace a2 := a2.keep (ext_uP S6 2 b 2 (some q3)) nb2
  replace a3 := a3.keep (ext_uP S6 2 b 2 (some q3)) nb3
  replace a4 := a4.keep (ext_uP S6 2 b 2 (some q3)) nb4
  replace a5 := a5.keep (ext_uP S6 2 b 2 (some q3)) nb5
  replace E := E.tr (ext_uP S6 2 b 2 (some q3))
  replace B := B.wP 2 (some q3)
  generalize uP S6 2 b 2 (some q3) = S7 at *
  refine J_aload_n (pc := 33) dX3_init_33 rfl rfl ?_
  refine J_new (pc := 34) cl5 kX3_27 ist5 ini5 dX3_init_34 (by first | decide | omega) (by first | decide | omega) (fun q6 h6 => ?_)
  have f6 : q6 ∉ S0.1 := fun z => h6 (E.1 q6 z)
  have nb6 : q6 ≠ b := fun e => h6 (e ▸ B.1)
  have n6_1 : q6 ≠ q1 := fun e => h6 (e ▸ a1.1)
  have n6_2 : q6 ≠ q2 := fun e => h6 (e ▸ a2.1)
  have n6_3 : q6 ≠ q3 := fun e => h6 (e ▸ a3.1)
  have n6_4 : q6 ≠ q4 := fun e => h6 (e ▸ a4.1)
  have n6_5 : q6 ≠ q5 := fun e => h6 (e ▸ a5.1)
  replace a1 := a1.nw (c' := 5) (n' := 0) h6
  replace a2 := a2.nw (c' := 5) (n' := 0) h6
  replace a3 := a3.nw (c' := 5) (n' := 0) h6
  replace a4 := a4.nw (c' := 5) (n' := 0) h6
  replace a5 := a5.nw (c' := 5) (n' := 0) h6
  have a6 := isA_new (c := 5) (n := 0) h6
  replace E := E.tr (ext_new (c := 5) (n := 0) h6 B.1)
  replace B := B.nw (c' := 5) (n' := 0) h6
  clear h6
  generalize nX S7 q6 5 0 = S8 at *
  refine J_dup (pc := 37) dX3_init_37 rfl ?_
  refine J_bipush (pc := 38) (v := nI 24) dX3_init_38 (by decide) ?_
  refine J_callI (pc := 40) (cx_rowInit l g (hgt - 1) (n := 24) a6 (by decide) hh2) qX7_init rfl vX7_init kX3_29 dX3_init_40 rfl rfl (Nat.le_of_ble_eq_true rfl) hh3 (by first | decide | omega) (by first | decide | omega) ?_
  rintro _ S9 ⟨rfl, C, q7, h7, a6', a7⟩
  have f7 : q7 ∉ S0.1 := fun z => h7 (E.1 q7 z)
  have nb7 : q7 ≠ b := fun e => h7 (e ▸ B.1)
  have n7_1 : q7 ≠ q1 := fun e => h7 (e ▸ a1.1)
  have n7_2 : q7 ≠ q2 := fun e => h7 (e ▸ a2.1)
  have n7_3 : q7 ≠ q3 := fun e => h7 (e ▸ a3.1)
  have n7_4 : q7 ≠ q4 := fun e => h7 (e ▸ a4.1)
  have n7_5 : q7 ≠ q5 := fun e => h7 (e ▸ a5.1)
  have n7_6 : q7 ≠ q6 := fun e => h7 (e ▸ a6.1)
  replace a1 := a1.keep C n6_1.symm
  replace a2 := a2.keep C n6_2.symm
  replace a3 := a3.keep C n6_3.symm
  replace a4 := a4.keep C n6_4.symm
  replace a5 := a5.keep C n6_5.symm
  replace B := B.keep C nb6.symm
  replace E := E.sub hb0 f6 C
  replace a6 := a6'
  clear C h7
  refine J_putrF (pc := 43) (i := 3) cl2 B.at (by decide) rfl rfl rfl rfl rfl rfl kX3_32 dX3_init_43 ?_
  replace a1 := a1.keep (ext_uP S9 2 b 3 (some q6)) nb1
  replace a2 := a2.keep (ext_uP S9 2 b 3 (some q6)) nb2
  replace a3 := a3.keep (ext_uP S9 2 b 3 (some q6)) nb3
  replace a4 := a4.keep (ext_uP S9 2 b 3 (some q6)) nb4
  replace a5 := a5.keep (ext_uP S9 2 b 3 (some q6)) nb5
  replace a6 := a6.keep (ext_uP S9 2 b 3 (some q6)) nb6
  replace a7 := a7.keep (ext_uP S9 2 b 3 (some q6)) nb7
  replace E := E.tr (ext_uP S9 2 b 3 (some q6))
  replace B := B.wP 3 (some q6)
  generalize uP S9 2 b 3 (some q6) = S10 at *
  refine J_aload_n (pc := 46) dX3_init_46 rfl rfl ?_
  refine J_iconst (pc := 47) (v := nI 3) dX3_init_47 (by decide) ?_
  refine J_newaI (pc := 48) rfl (by first | decide | omega) dX3_init_48 (by first | decide | omega) (by first | decide | omega) (fun q8 h8 => ?_)
  have f8 : q8 ∉ S0.1 := fun z => h8 (E.1 q8 z)
  have nb8 : q8 ≠ b := fun e => h8 (e ▸ B.1)
  have n8_1 : q8 ≠ q1 := fun e => h8 (e ▸ a1.1)
  have n8_2 : q8 ≠ q2 := fun e => h8 (e ▸ a2.1)
  have n8_3 : q8 ≠ q3 := fun e => h8 (e ▸ a3.1)
  have n8_4 : q8 ≠ q4 := fun e => h8 (e ▸ a4.1)
  have n8_5 : q8 ≠ q5 := fun e => h8 (e ▸ a5.1)
  have n8_6 : q8 ≠ q6 := fun e => h8 (e ▸ a6.1)
  have n8_7 : q8 ≠ q7 := fun e => h8 (e ▸ a7.1)
  replace a1 := a1.nw (c' := 9) (n' := 3) h8
  replace a2 := a2.nw (c' := 9) (n' := 3) h8
  replace a3 := a3.nw (c' := 9) (n' := 3) h8
  replace a4 := a4.nw (c' := 9) (n' := 3) h8
  replace a5 := a5.nw (c' := 9) (n' := 3) h8
  replace a6 := a6.nw (c' := 9) (n' := 3) h8
  replace a7 := a7.nw (c' := 9) (n' := 3) h8
  have a8 := isA_new (c := 9) (n := 3) h8
  replace E := E.tr (ext_new (c := 9) (n := 3) h8 B.1)
  replace B := B.nw (c' := 9) (n' := 3) h8
  clear h8
  generalize nX S10 q8 9 3 = S11 at *
  refine J_putrF (pc := 50) (i := 4) cl2 B.at (by decide) rfl rfl rfl rfl rfl rfl kX3_36 dX3_init_50 ?_
  replace a1 := a1.keep (ext_uP S11 2 b 4 (some q8)) nb1
  replace a2 := a2.keep (ext_uP S11 2 b 4 (some q8)) nb2
  replace a3 := a3.keep (ext_uP S11 2 b 4 (some q8)) nb3
  replace a4 := a4.keep (ext_uP S11 2 b 4 (some q8)) nb4
  replace a5 := a5.keep (ext_uP S11 2 b 4 (some q8)) nb5
  replace a6 := a6.keep (ext_uP S11 2 b 4 (some q8)) nb6
  replace a7 := a7.keep (ext_uP S11 2 b 4 (some q8)) nb7
  replace a8 := a8.keep (ext_uP S11 2 b 4 (some q8)) nb8
  replace E := E.tr (ext_uP S11 2 b 4 (some q8))
  replace B := B.wP 4 (some q8)
  generalize uP S11 2 b 4 (some q8) = S12 at *
  refine J_aload_n (pc := 53) dX3_init_53 rfl rfl ?_
  refine J_bipush (pc := 54) (v := nI 64) dX3_init_54 (by decide) ?_
  refine J_newaI (pc := 56) rfl (by first | decide | omega) dX3_init_56 (by first | decide | omega) (by first | decide | omega) (fun q9 h9 => ?_)
  have f9 : q9 ∉ S0.1 := fun z => h9 (E.1 q9 z)
  have nb9 : q9 ≠ b := fun e => h9 (e ▸ B.1)
  have n9_1 : q9 ≠ q1 := fun e => h9 (e ▸ a1.1)
  have n9_2 : q9 ≠ q2 := fun e => h9 (e ▸ a2.1)
  have n9_3 : q9 ≠ q3 := fun e => h9 (e ▸ a3.1)
  have n9_4 : q9 ≠ q4 := fun e => h9 (e ▸ a4.1)
  have n9_5 : q9 ≠ q5 := fun e => h9 (e ▸ a5.1)
  have n9_6 : q9 ≠ q6 := fun e => h9 (e ▸ a6.1)
  have n9_7 : q9 ≠ q7 := fun e => h9 (e ▸ a7.1)
  have n9_8 : q9 ≠ q8 := fun e => h9 (e ▸ a8.1)
  replace a1 := a1.nw (c' := 9) (n' := 64) h9
  replace a2 := a2.nw (c' := 9) (n' := 64) h9
  replace a3 := a3.nw (c' := 9) (n' := 64) h9
  replace a4 := a4.nw (c' := 9) (n' := 64) h9
  replace a5 := a5.nw (c' := 9) (n' := 64) h9
  replace a6 := a6.nw (c' := 9) (n' := 64) h9
  replace a7 := a7.nw (c' := 9) (n' := 64) h9
  replace a8 := a8.nw (c' := 9) (n' := 64) h9
  have a9 := isA_new (c := 9) (n := 64) h9
  replace E := E.tr (ext_new (c := 9) (n := 64) h9 B.1)
  replace B := B.nw (c' := 9) (n' := 64) h9
  clear h9
  generalize nX S12 q9 9 64 = S13 at *
  refine J_putrF (pc := 58) (i := 5) cl2 B.at (by decide) rfl rfl rfl rfl rfl rfl kX3_40 dX3_init_58 ?_
  replace a1 := a1.keep (ext_uP S13 2 b 5 (some q9)) nb1
  replace a2 := a2.keep (ext_uP S13 2 b 5 (some q9)) nb2
  replace a3 := a3.keep (ext_uP S13 2 b 5 (some q9)) nb3
  replace a4 := a4.keep (ext_uP S13 2 b 5 (some q9)) nb4
  replace a5 := a5.keep (ext_uP S13 2 b 5 (some q9)) nb5
  replace a6 := a6.keep (ext_uP S13 2 b 5 (some q9)) nb6
  replace a7 := a7.keep (ext_uP S13 2 b 5 (some q9)) nb7
  replace a8 := a8.keep (ext_uP S13 2 b 5 (some q9)) nb8
  replace a9 := a9.keep (ext_uP S13 2 b 5 (some q9)) nb9
  replace E := E.tr (ext_uP S13 2 b 5 (some q9))
  replace B := B.wP 5 (some q9)
  generalize uP S13 2 b 5 (some q9) = S14 at *
  refine J_aload_n (pc := 61) dX3_init_61 rfl rfl ?_
  refine J_iconst (pc := 62) (v := nI 0) dX3_init_62 (by decide) ?_
  refine J_puti (pc := 63) (i := 6) cl2 B.at (by decide) rfl rfl rfl rfl kX3_43 dX3_init_63 ?_
  replace a1 := a1.keep (ext_uI S14 2 b 6 (nI 0)) nb1
  replace a2 := a2.keep (ext_uI S14 2 b 6 (nI 0)) nb2
  replace a3 := a3.keep (ext_uI S14 2 b 6 (nI 0)) nb3
  replace a4 := a4.keep (ext_uI S14 2 b 6 (nI 0)) nb4
  replace a5 := a5.keep (ext_uI S14 2 b 6 (nI 0)) nb5
  replace a6 := a6.keep (ext_uI S14 2 b 6 (nI 0)) nb6
  replace a7 := a7.keep (ext_uI S14 2 b 6 (nI 0)) nb7
  replace a8 := a8.keep (ext_uI S14 2 b 6 (nI 0)) nb8
  replace a9 := a9.keep (ext_uI S14 2 b 6 (nI 0)) nb9
  replace E := E.tr (ext_uI S14 2 b 6 (nI 0))
  replace B := B.w0 6
  generalize uI S14 2 b 6 (nI 0) = S15 at *
  refine J_aload_n (pc := 66) dX3_init_66 rfl rfl ?_
  refine J_iconst (pc := 67) (v := nI 0) dX3_init_67 (by decide) ?_
  refine J_puti (pc := 68) (i := 7) cl2 B.at (by decide) rfl rfl rfl rfl kX3_47 dX3_init_68 ?_
  replace a1 := a1.keep (ext_uI S15 2 b 7 (nI 0)) nb1
  replace a2 := a2.keep (ext_uI S15 2 b 7 (nI 0)) nb2
  replace a3 := a3.keep (ext_uI S15 2 b 7 (nI 0)) nb3
  replace a4 := a4.keep (ext_uI S15 2 b 7 (nI 0)) nb4
  replace a5 := a5.keep (ext_uI S15 2 b 7 (nI 0)) nb5
  replace a6 := a6.keep (ext_uI S15 2 b 7 (nI 0)) nb6
  replace a7 := a7.keep (ext_uI S15 2 b 7 (nI 0)) nb7
  replace a8 := a8.keep (ext_uI S15 2 b 7 (nI 0)) nb8
  replace a9 := a9.keep (ext_uI S15 2 b 7 (nI 0)) nb9
  replace E := E.tr (ext_uI S15 2 b 7 (nI 0))
  replace B := B.w0 7
  generalize uI S15 2 b 7 (nI 0) = S16 at *
  refine J_aload_n (pc := 71) dX3_init_71 rfl rfl ?_
  refine J_iconst (pc := 72) (v := nI 0) dX3_init_72 (by decide) ?_
  refine J_puti (pc := 73) (i := 8) cl2 B.at (by decide) rfl rfl rfl rfl kX3_50 dX3_init_73 ?_
  replace a1 := a1.keep (ext_uI S16 2 b 8 (nI 0)) nb1
  replace a2 := a2.keep (ext_uI S16 2 b 8 (nI 0)) nb2
  replace a3 := a3.keep (ext_uI S16 2 b 8 (nI 0)) nb3
  replace a4 := a4.keep (ext_uI S16 2 b 8 (nI 0)) nb4
  replace a5 := a5.keep (ext_uI S16 2 b 8 (nI 0)) nb5
  replace a6 := a6.keep (ext_uI S16 2 b 8 (nI 0)) nb6
  replace a7 := a7.keep (ext_uI S16 2 b 8 (nI 0)) nb7
  replace a8 := a8.keep (ext_uI S16 2 b 8 (nI 0)) nb8
  replace a9 := a9.keep (ext_uI S16 2 b 8 (nI 0)) nb9
  replace E := E.tr (ext_uI S16 2 b 8 (nI 0))
  replace B := B.w0 8
  generalize uI S16 2 b 8 (nI 0) = S17 at *
  refine J_aload_n (pc := 76) dX3_init_76 rfl rfl ?_
  refine J_iconst (pc := 77) (v := nI 0) dX3_init_77 (by decide) ?_
  refine J_puti (pc := 78) (i := 9) cl2 B.at (by decide) rfl rfl rfl rfl kX3_53 dX3_init_78 ?_
  replace a1 := a1.keep (ext_uI S17 2 b 9 (nI 0)) nb1
  replace a2 := a2.keep (ext_uI S17 2 b 9 (nI 0)) nb2
  replace a3 := a3.keep (ext_uI S17 2 b 9 (nI 0)) nb3
  replace a4 := a4.keep (ext_uI S17 2 b 9 (nI 0)) nb4
  replace a5 := a5.keep (ext_uI S17 2 b 9 (nI 0)) nb5
  replace a6 := a6.keep (ext_uI S17 2 b 9 (nI 0)) nb6
  replace a7 := a7.keep (ext_uI S17 2 b 9 (nI 0)) nb7
  replace a8 := a8.keep (ext_uI S17 2 b 9 (nI 0)) nb8
  replace a9 := a9.keep (ext_uI S17 2 b 9 (nI 0)) nb9
  replace E := E.tr (ext_uI S17 2 b 9 (nI 0))
  replace B := B.w0 9
  generalize uI S17 2 b 9 (nI 0) = S18 at *
  refine J_aload_n (pc := 81) dX3_init_81 rfl rfl ?_
  refine J_iconst (pc := 82) (v := nI 0) dX3_init_82 (by decide) ?_
  refine J_puti (pc := 83) (i := 10) cl2 B.at (by decide) rfl rfl rfl rfl kX3_56 dX3_init_83 ?_
  replace a1 := a1.keep (ext_uI S18 2 b 10 (nI 0)) nb1
  replace a2 := a2.keep (ext_uI S18 2 b 10 (nI 0)) nb2
  replace a3 := a3.keep (ext_uI S18 2 b 10 (nI 0)) nb3
  replace a4 := a4.keep (ext_uI S18 2 b 10 (nI 0)) nb4
  replace a5 := a5.keep (ext_uI S18 2 b 10 (nI 0)) nb5
  replace a6 := a6.keep (ext_uI S18 2 b 10 (nI 0)) nb6
  replace a7 := a7.keep (ext_uI S18 2 b 10 (nI 0)) nb7
  replace a8 := a8.keep (ext_uI S18 2 b 10 (nI 0)) nb8
  replace a9 := a9.keep (ext_uI S18 2 b 10 (nI 0)) nb9
  replace E := E.tr (ext_uI S18 2 b 10 (nI 0))
  replace B := B.w0 10
  generalize uI S18 2 b 10 (nI 0) = S19 at *
  refine J_aload_n (pc := 86) dX3_init_86 rfl rfl ?_
  refine J_getr (pc := 87) (i := 4) cl2 B.at (by decide) rfl (B.2.2.2.2 4) kX3_36 dX3_init_87 ?_
  refine J_iconst (pc := 90) (v := (-1)) dX3_init_90 (by decide) ?_
  refine J_callS (pc := 91) (cx_fillA l g (hgt - 1) (-1) a8 (by decide)) qJ7_fill_53178 vJ7_fill_53178 kX3_59 dX3_init_91 rfl rfl (Nat.le_of_ble_eq_true rfl) hh3 (by decide) (by decide) ?_
  rintro _ T ⟨rfl, C, a8'⟩
  replace a1 := a1.keep C n8_1.symm
  replace a2 := a2.keep C n8_2.symm
  replace a3 := a3.keep C n8_3.symm
  replace a4 := a4.keep C n8_4.symm
  replace a5 := a5.keep C n8_5.symm
  replace a6 := a6.keep C n8_6.symm
  replace a7 := a7.keep C n8_7.symm
  replace a9 := a9.keep C n9_8
  replace B := B.keep C nb8.symm
  replace E := E.sub hb0 f8 C
  refine J_vret (pc := 94) dX3_init_94 rfl (by decide) (by decide) ?_
  refine ⟨rfl, E, fun s => [b, q1, q2, q3, q4, q5, q6, q7, q8, q9].getD s 0, rfl, ?_, ?_, ?_⟩
  · refine lt10 ?_ ?_ ?_ ?_ ?_ ?_ ?_ ?_ ?_ ?_
    · refine ⟨B.1, B.2.1, B.2.2.1, B.2.2.2.1, fun k => ?_⟩
      refine (B.2.2.2.2 k).trans ?_
      show (if k = 5 then some q9 else if k = 4 then some q8 else if k = 3 then some q6 else if k = 2 then some q3 else if k = 1 then some q2 else if k = 0 then some q1 else none) = Option.map (fun s => [b, q1, q2, q3, q4, q5, q6, q7, q8, q9].getD s 0) (if k = 5 then some 9 else if k = 4 then some 8 else if k = 3 then some 6 else if k = 2 then some 3 else if k = 1 then some 2 else if k = 0 then some 1 else none)
      by_cases e : k = 5
      · rw [if_pos e, if_pos e]
        rfl
      rw [if_neg e, if_neg e]
      clear e
      by_cases e : k = 4
      · rw [if_pos e, if_pos e]
        rfl
      rw [if_neg e, if_neg e]
      clear e
      by_cases e : k = 3
      · rw [if_pos e, if_pos e]
        rfl
      rw [if_neg e, if_neg e]
      clear e
      by_cases e : k = 2
      · rw [if_pos e, if_pos e]
        rfl
      rw [if_neg e, if_neg e]
      clear e
      by_cases e : k = 1
      · rw [if_pos e, if_pos e]
        rfl
      rw [if_neg e, if_neg e]
      clear e
      by_cases e : k = 0
      · rw [if_pos e, if_pos e]
        rfl
      rw [if_neg e, if_neg e]
      clear e
      rfl
    · refine ⟨a1.1, a1.2.1, a1.2.2.1, a1.2.2.2.1, fun k => ?_⟩
      refine (a1.2.2.2.2 k).trans ?_
      rfl
    · refine ⟨a2.1, a2.2.1, a2.2.2.1, a2.2.2.2.1, fun k => ?_⟩
      refine (a2.2.2.2.2 k).trans ?_
      rfl
    · refine ⟨a3.1, a3.2.1, a3.2.2.1, a3.2.2.2.1, fun k => ?_⟩
      refine (a3.2.2.2.2 k).trans ?_
      show (if k = 1 then some q5 else if k = 0 then some q4 else none) = Option.map (fun s => [b, q1, q2, q3, q4, q5, q6, q7, q8, q9].getD s 0) (if k = 1 then some 5 else if k = 0 then some 4 else none)
      by_cases e : k = 1
      · rw [if_pos e, if_pos e]
        rfl
      rw [if_neg e, if_neg e]
      clear e
      by_cases e : k = 0
      · rw [if_pos e, if_pos e]
        rfl
      rw [if_neg e, if_neg e]
      clear e
      rfl
    · refine ⟨a4.1, a4.2.1, a4.2.2.1, a4.2.2.2.1, fun k => ?_⟩
      refine (a4.2.2.2.2 k).trans ?_
      rfl
    · refine ⟨a5.1, a5.2.1, a5.2.2.1, a5.2.2.2.1, fun k => ?_⟩
      refine (a5.2.2.2.2 k).trans ?_
      rfl
    · refine ⟨a6.1, a6.2.1, a6.2.2.1, a6.2.2.2.1, fun k => ?_⟩
      refine (a6.2.2.2.2 k).trans ?_
      show (if k = 0 then some q7 else none) = Option.map (fun s => [b, q1, q2, q3, q4, q5, q6, q7, q8, q9].getD s 0) (if k = 0 then some 7 else none)
      by_cases e : k = 0
      · rw [if_pos e, if_pos e]
        rfl
      rw [if_neg e, if_neg e]
      clear e
      rfl
    · refine ⟨a7.1, a7.2.1, a7.2.2.1, a7.2.2.2.1, fun k => ?_⟩
      refine (a7.2.2.2.2 k).trans ?_
      rfl
    · refine ⟨a8'.1, a8'.2.1, a8'.2.2.1, a8'.2.2.2.1, fun k => ?_⟩
      refine (a8'.2.2.2.2 k).trans ?_
      rfl
    · refine ⟨a9.1, a9.2.1, a9.2.2.1, a9.2.2.2.1, fun k => ?_⟩
      refine (a9.2.2.2.2 k).trans ?_
      rfl
  · intro s h1 hs
    have := lt10 (P := fun s => 1 ≤ s → [b, q1, q2, q3, q4, q5, q6, q7, q8, q9].getD s 0 ∉ S0.1) (fun z => absurd z (by decide)) (fun _ => f1) (fun _ => f2) (fun _ => f3) (fun _ => f4) (fun _ => f5) (fun _ => f6) (fun _ => f7) (fun _ => f8) (fun _ => f9) s hs
    exact this h1
  · have key : [b, q1, q2, q3, q4, q5, q6, q7, q8, q9].Nodup := by
      simp only [List.nodup_cons, List.mem_cons, List.not_mem_nil, or_false, not_or, not_false_eq_true, List.nodup_nil, and_true]
      exact ⟨⟨nb1.symm, nb2.symm, nb3.symm, nb4.symm, nb5.symm, nb6.symm, nb7.symm, nb8.symm, nb9.symm⟩, ⟨n2_1.symm, n3_1.symm, n4_1.symm, n5_1.symm, n6_1.symm, n7_1.symm, n8_1.symm, n9_1.symm⟩, ⟨n3_2.symm, n4_2.symm, n5_2.symm, n6_2.symm, n7_2.symm, n8_2.symm, n9_2.symm⟩, ⟨n4_3.symm, n5_3.symm, n6_3.symm, n7_3.symm, n8_3.symm, n9_3.symm⟩, ⟨n5_4.symm, n6_4.symm, n7_4.symm, n8_4.symm, n9_4.symm⟩, ⟨n6_5.symm, n7_5.symm, n8_5.symm, n9_5.symm⟩, ⟨n7_6.symm, n8_6.symm, n9_6.symm⟩, ⟨n8_7.symm, n9_7.symm⟩, n9_8.symm⟩
    intro s s' hs hs' e
    have e : [b, q1, q2, q3, q4, q5, q6, q7, q8, q9].getD s 0 = [b, q1, q2, q3, q4, q5, q6, q7, q8, q9].getD s' 0 := e
    exact nodup_inj key hs hs' e
