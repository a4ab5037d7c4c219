/-! THE CLASS: the next packet of a host -/
theorem tp_v (X : XS) (m : Nat) {f : Nat} (h : f ≠ 13) : xV (x_takePlace X m) f = xV X f := by
  unfold x_takePlace
  split
  · rfl
  · exact xV_nf h
theorem x_prio_le {X : XS} (h m i : Nat) (h15 : xV X 15 m ≤ 3) : x_prio X h m i < 4 := by
  unfold x_prio
  repeat' split
  all_goals omega
def vP (fr go : Nat → Nat) (o : Option ((Nat × Nat × Nat) × Nat)) : Int32 := match o with
  | none => -1
  | some e => nI (pkF fr go e.1 e.2)
def nD (X : XS) (h : Nat) : Option ((Nat × Nat × Nat) × Nat) × XS := match x_short X h (xV X 1 0) with
  | none => (none, X)
  | some m => (some ((0, m, x_place X m), x_prio X h m (x_place X m)), x_takePlace X m)
def nP (X : XS) (h : Nat) : Option ((Nat × Nat × Nat) × Nat) × XS := match xL X (96 + h) with
  | e :: t => (some (e, 0), x_sent1 (yL X (96 + h) t) h)
  | [] => match x_short X h (xV X 1 0) with
    | none => (none, X)
    | some m => (some ((0, m, x_place X m), x_prio X h m (x_place X m)), x_sent1 (x_takePlace X m) h)
theorem x_send_nP (X : XS) (h : Nat) : x_send X h = match (nP X h).1 with
    | none => (nP X h).2
    | some e => x_enter (nP X h).2 h e.1 e.2 := by
  unfold x_send nP
  cases xL X (96 + h) with
  | cons e t => dsimp only
  | nil =>
    cases x_short X h (xV X 1 0) with
    | none => dsimp only
    | some m => dsimp only
theorem pkF_0 (fr go : Nat → Nat) (m c p : Nat) : pkF fr go (0, m, c) p = pkN 0 p (go m) m c := by
  unfold pkF
  rw [if_pos rfl]
theorem vP_s (fr go : Nat → Nat) (e : Nat × Nat × Nat) (p : Nat) : vP fr go (some (e, p)) = nI (pkF fr go e p) := rfl
theorem short_lt {X : XS} {h : Nat} : ∀ {n m : Nat}, x_short X h n = some m → m < n
  | 0, m, e => by cases e
  | n + 1, m, e => by
    have e : (if x_can X h n = true ∧ (∀ y, x_short X h n = some y → x_left X n < x_left X y) then some n else x_short X h n) = some m := e
    split at e
    · cases e
      omega
    · have := short_lt e
      omega
set_option maxRecDepth 100000 in
theorem cx_nextData (l : Launch) (g : jG) (hgt : Nat) {S : jS} {w : Nat → Nat → Nat} {hx : Nat} {X : XS} {a : Nat} (hW : WX S w hx X) (ha : a < 8) (hI : xOK X) (hh : 3 ≤ hgt) : CT l g mX3_nextData hgt 0 0 [.ref (w 2 a)] S (xQ w hx (some (.int (vP (xV X 8) (xV X 9) (nD X a).1))) (nD X a).2) := by
  have h48 := hI.many
  unfold nD
  refine CT_of qX3_nextData (Nat.le_of_ble_eq_true rfl) ?_
  refine J_aload_n (pc := 0) dX3_nextData_0 rfl rfl ?_
  refine J_callV (pc := 1) (cx_shortestToSend l g (hgt - 1) hW ha hI (by omega)) qX3_shortestToSend vX3_shortestToSend cl2 rfl (hW.ho ha) kX3_172 dX3_nextData_1 rfl rfl (Nat.le_of_ble_eq_true rfl) (by omega) (by omega) (by omega) ?_
  rintro _ _ ⟨rfl, rfl⟩
  cases hs : x_short X a (xV X 1 0) with
  | none =>
    refine J_astore_nN (pc := 4) dX3_nextData_4 rfl (by decide) ?_
    refine J_aload_nN (pc := 5) dX3_nextData_5 rfl rfl ?_
    refine J_ifnonnullN (pc := 6) dX3_nextData_6 ?_
    refine J_iconst (pc := 9) (v := (-1)) dX3_nextData_9 (by decide) ?_
    refine J_iret (pc := 10) dX3_nextData_10 rfl (by omega) (by omega) ?_
    exact ⟨rfl, hW⟩
  | some m =>
    have hm := short_lt hs
    have o := hI.msg (m := m) (by omega)
    have oW := hI.okW hm
    have hpl : x_place X m ≤ 60 := by
      unfold x_place
      split <;> omega
    refine J_astore_n (pc := 4) dX3_nextData_4 rfl (by decide) ?_
    refine J_aload_n (pc := 5) dX3_nextData_5 rfl rfl ?_
    refine J_ifnonnull (pc := 6) (tgt := 11) dX3_nextData_6 rfl ?_
    refine J_aload_n (pc := 11) dX3_nextData_11 rfl rfl ?_
    refine J_getrN (pc := 12) (i := 4) (host := RX9) cl3 (hW.mo hm) (by decide) rfl (hW.ms hm) (by decide +kernel) dX3_nextData_12 ?_
    refine J_callV (pc := 15) (cx_takePlace l g (hgt - 1) hW hm oW (by omega)) qX8_takePlace vX8_takePlace cl6 rfl (hW.s hm) kX3_176 dX3_nextData_15 rfl rfl (Nat.le_of_ble_eq_true rfl) (by omega) (by omega) (by omega) ?_
    intro r S1 hq
    obtain ⟨rfl, hW1⟩ := hq
    have e1 : xV (x_takePlace X m) 1 0 = xV X 1 0 := by rw [tp_v X m (by decide)]
    have hm1 : m < xV (x_takePlace X m) 1 0 := by rw [e1]; exact hm
    have n9 := hW1.n9 hm1
    have n10 := hW1.n10 hm1
    have n15 : xV (x_takePlace X m) 15 m = xV X 15 m := by rw [tp_v X m (by decide)]
    have c1 : x_cut (x_takePlace X m) a 1 = x_cut X a 1 := x_cut_of e1 (tp_v X m (by decide)) (tp_v X m (by decide)) _ _
    have c2 : x_cut (x_takePlace X m) a 2 = x_cut X a 2 := x_cut_of e1 (tp_v X m (by decide)) (tp_v X m (by decide)) _ _
    rw [tp_v X m (by decide)] at n9 n10
    have hp4 : x_prio X a m (x_place X m) < 4 := x_prio_le _ _ _ o.2.1.2.2.2.1
    have qA : 4 ≤ x_place X m → xV X 15 m = x_prio X a m (x_place X m) := fun z => by
      unfold x_prio
      rw [if_pos z]
    have qB : ¬ 4 ≤ x_place X m → (if xV X 10 m ≤ x_cut X a 1 then 1 else if xV X 10 m ≤ x_cut X a 2 then 2 else 3) = x_prio X a m (x_place X m) := fun z => by
      unfold x_prio
      rw [if_neg z]
    dsimp only
    rw [vP_s, pkF_0]
    generalize x_prio X a m (x_place X m) = P at *
    generalize x_place X m = pl at *
    generalize x_takePlace X m = Y at *
    generalize x_cut X a 1 = k1 at *
    generalize x_cut X a 2 = k2 at *
    have tail : J l g mX3_nextData hgt 0 0 (xQ w hx (some (.int (nI (pkN 0 P (xV X 9 m) m pl)))) Y) 45 [(2, .int (nI pl)), (0, .ref (w 2 a)), (1, .ref (w 3 m))] [.int (nI P)] S1 0 0 := by
      refine J_istore_n (pc := 45) dX3_nextData_45 rfl (by decide) ?_
      refine J_iconst (pc := 46) (v := nI 0) dX3_nextData_46 (by decide) ?_
      refine J_aload_n (pc := 47) dX3_nextData_47 rfl rfl ?_
      refine J_iload_n (pc := 48) dX3_nextData_48 rfl rfl ?_
      refine J_iload_n (pc := 49) dX3_nextData_49 rfl rfl ?_
      refine J_aload_n (pc := 50) dX3_nextData_50 rfl rfl ?_
      refine J_getiN (pc := 51) (i := 2) (host := RX9) cl3 (hW1.mo hm1) (by decide) rfl n9 (by decide +kernel) dX3_nextData_51 ?_
      refine J_callS (pc := 54) (cx_pack l g (hgt - 1) (k := 0) (hW1.mo hm1) (hW1.mnum hm1) (by decide) hp4 o.1.2.1 (by omega) (show pl < 4096 by omega)) qX5_pack vX5_pack kX3_116 dX3_nextData_54 rfl rfl (Nat.le_of_ble_eq_true rfl) (by omega) (by omega) (by omega) ?_
      rintro _ _ ⟨rfl, rfl⟩
      refine J_iret (pc := 57) dX3_nextData_57 rfl (by omega) (by omega) ?_
      exact ⟨rfl, hW1⟩
    refine J_istore_n (pc := 18) dX3_nextData_18 rfl (by decide) ?_
    refine J_iload_n (pc := 19) dX3_nextData_19 rfl rfl ?_
    refine J_iconst (pc := 20) (v := nI 4) dX3_nextData_20 (by decide) ?_
    refine J_icmp_geN (pc := 21) (tgt := 38) dX3_nextData_21 rfl (by omega) (by omega) (fun B => ?_) (fun B => ?_)
    · refine J_aload_n (pc := 38) dX3_nextData_38 rfl rfl ?_
      refine J_getrN (pc := 39) (i := 4) (host := RX9) cl3 (hW1.mo hm1) (by decide) rfl (hW1.ms hm1) (by decide +kernel) dX3_nextData_39 ?_
      refine J_callV (pc := 42) (cx_level l g (hgt - 1) hW1 hm1) qX8_level vX8_level cl6 rfl (hW1.s hm1) kX3_182 dX3_nextData_42 rfl rfl (Nat.le_of_ble_eq_true rfl) (by omega) (by omega) (by omega) ?_
      rintro _ _ ⟨rfl, rfl⟩
      rw [n15, qA (by omega)]
      exact J_lvk tail ⟨rfl, rfl, rfl, trivial⟩
    · refine J_aload_n (pc := 24) dX3_nextData_24 rfl rfl ?_
      refine J_getr (pc := 25) (i := 2) cl2 (hW1.ho ha) (by decide) rfl (hW1.hcut ha) kX3_23 dX3_nextData_25 ?_
      refine J_aload_n (pc := 28) dX3_nextData_28 rfl rfl ?_
      refine J_getiN (pc := 29) (i := 3) (host := RX9) cl3 (hW1.mo hm1) (by decide) rfl n10 (by decide +kernel) dX3_nextData_29 ?_
      refine J_callV (pc := 32) (cx_priorityFor l g (hgt - 1) hW1 ha (by omega)) qX1_priorityFor vX1_priorityFor cl0 rfl (hW1.o 0 a ha) kX3_179 dX3_nextData_32 rfl rfl (Nat.le_of_ble_eq_true rfl) (by omega) (by omega) (by omega) ?_
      rintro _ _ ⟨rfl, rfl⟩
      rw [c1, c2, qB (by omega)]
      refine J_goto (pc := 35) (tgt := 45) dX3_nextData_35 rfl ?_
      exact J_lvk tail ⟨rfl, rfl, rfl, trivial⟩
