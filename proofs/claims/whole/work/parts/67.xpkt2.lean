/-! THE CLASS: the next packet of a host, on -/
def nQ (o : Option ((Nat × Nat × Nat) × Nat)) (Y : XS) (a : Nat) : Option ((Nat × Nat × Nat) × Nat) × XS := match o with
  | none => (none, Y)
  | some e => (some e, x_sent1 Y a)
theorem nP_nil {X : XS} {a : Nat} (h : xL X (96 + a) = []) : nP X a = nQ (nD X a).1 (nD X a).2 a := by
  unfold nP nD nQ
  rw [h]
  cases x_short X a (xV X 1 0) with
  | none => dsimp only
  | some m => dsimp only
theorem nP_cons {X : XS} {a : Nat} {e : Nat × Nat × Nat} {t : List (Nat × Nat × Nat)} (h : xL X (96 + a) = e :: t) : nP X a = (some (e, 0), x_sent1 (yL X (96 + a) t) a) := by
  unfold nP
  rw [h]
theorem nD_lt {X : XS} {a : Nat} (hI : xOK X) {e : (Nat × Nat × Nat) × Nat} (h : (nD X a).1 = some e) : pkF (xV X 8) (xV X 9) e.1 e.2 < 2 ^ 25 := by
  have h48 := hI.many
  unfold nD at h
  cases hs : x_short X a (xV X 1 0) with
  | none => rw [hs] at h; cases h
  | some m =>
    rw [hs] at h
    dsimp only at h
    have hm := short_lt hs
    have o := hI.msg (m := m) (by omega)
    have hp4 : x_prio X a m (x_place X m) < 4 := x_prio_le _ _ _ o.2.1.2.2.2.1
    have hpl : x_place X m ≤ 60 := by
      unfold x_place
      split <;> omega
    generalize x_prio X a m (x_place X m) = P at *
    generalize x_place X m = pl at *
    cases h
    dsimp only
    rw [pkF_0]
    exact pkN_lt (by decide) hp4 o.1.2.1 (by omega) (by omega)
set_option maxRecDepth 100000 in
theorem cx_nextPacket (l : Launch) (g : jG) (hgt : Nat) {S : jS} {w : Nat → Nat → Nat} {hx : Nat} {X : XS} {a : Nat} (hW : WX S w hx X) (ha : a < 8) (hI : xOK X) (hh : 4 ≤ hgt) : CT l g mX3_nextPacket hgt 0 0 [.ref (w 2 a)] S (xQ w hx (some (.int (vP (xV X 8) (xV X 9) (nP X a).1))) (nP X a).2) := by
  have hr : 64 + a < 72 := by omega
  have e1 : 96 + a = 32 + (64 + a) := by omega
  have e2 : pr (64 + a) = 0 := if_neg (by omega)
  obtain ⟨f, hrow, hpl⟩ := hW.row hr
  have h24 := hrow.2.2.2.2.2.2.1
  have h20 := hrow.2.2.2.2.2.2.2
  have tail : ∀ (Q : Option Value → jS → Prop) (v : Nat) (Y : XS) (S1 : jS), v < 2 ^ 31 → WX S1 w hx Y → (∀ S2, WX S2 w hx (x_sent1 Y a) → Q (some (.int (nI v))) S2) → J l g mX3_nextPacket hgt 0 0 Q 24 [(0, .ref (w 2 a))] [.int (nI v)] S1 0 0 := by
    intro Q v Y S1 hv hW1 hQ
    refine J_istore_n (pc := 24) dX3_nextPacket_24 rfl (by decide) ?_
    refine J_iload_n (pc := 25) dX3_nextPacket_25 rfl rfl ?_
    refine J_iconst (pc := 26) (v := (-1)) dX3_nextPacket_26 (by decide) ?_
    refine J_icmp_eq (pc := 27) (tgt := 40) dX3_nextPacket_27 rfl (fun hc9 => absurd hc9 ((nI_m1 hv))) (fun _ => ?_)
    refine J_aload_n (pc := 30) dX3_nextPacket_30 rfl rfl ?_
    refine J_dup (pc := 31) dX3_nextPacket_31 rfl ?_
    refine J_geti (pc := 32) (i := 10) cl2 (hW1.ho ha) (by decide) rfl (hW1.n27 ha) kX3_56 dX3_nextPacket_32 ?_
    refine J_iconst (pc := 35) (v := nI 1) dX3_nextPacket_35 (by decide) ?_
    refine J_iaddN (b := 1) dX3_nextPacket_36 ?_
    refine J_puti (pc := 37) (i := 10) cl2 (hW1.ho ha) (by decide) rfl rfl rfl rfl kX3_56 dX3_nextPacket_37 ?_
    refine J_iload_n (pc := 40) dX3_nextPacket_40 rfl rfl ?_
    refine J_iret (pc := 41) dX3_nextPacket_41 rfl (by omega) (by omega) ?_
    exact hQ _ (hW1.wV 27 a _ ha (by decide))
  refine CT_of qX3_nextPacket (Nat.le_of_ble_eq_true rfl) ?_
  refine J_aload_n (pc := 0) dX3_nextPacket_0 rfl rfl ?_
  refine J_getr (pc := 1) (i := 3) cl2 (hW.ho ha) (by decide) rfl (hW.hdue ha) kX3_32 dX3_nextPacket_1 ?_
  refine J_callV (pc := 4) (c_Row_size l g (hgt - 1) hrow) qX7_size vX7_size cl5 rfl hrow.1 kX3_164 dX3_nextPacket_4 rfl rfl (Nat.le_of_ble_eq_true rfl) (by omega) (by omega) (by omega) ?_
  rintro _ _ ⟨rfl, rfl⟩
  cases hL : xL X (32 + (64 + a)) with
  | nil =>
    rw [List.length_nil]
    refine J_if_le (pc := 7) (tgt := 20) dX3_nextPacket_7 rfl (fun _ => ?_) (fun hc9 => absurd ((by decide)) hc9)
    rw [nP_nil (by rw [e1]; exact hL)]
    refine J_aload_n (pc := 20) dX3_nextPacket_20 rfl rfl ?_
    refine J_callV (pc := 21) (cx_nextData l g (hgt - 1) hW ha hI (by omega)) qX3_nextData vX3_nextData cl2 rfl (hW.ho ha) kX3_169 dX3_nextPacket_21 rfl rfl (Nat.le_of_ble_eq_true rfl) (by omega) (by omega) (by omega) ?_
    intro r S1 hq
    obtain ⟨rfl, hW1⟩ := hq
    have hlt := fun e => nD_lt (a := a) hI (e := e)
    generalize (nD X a).1 = o at *
    generalize (nD X a).2 = Y at *
    cases o with
    | none =>
      refine J_istore_n (pc := 24) dX3_nextPacket_24 rfl (by decide) ?_
      refine J_iload_n (pc := 25) dX3_nextPacket_25 rfl rfl ?_
      refine J_iconst (pc := 26) (v := (-1)) dX3_nextPacket_26 (by decide) ?_
      refine J_icmp_eq (pc := 27) (tgt := 40) dX3_nextPacket_27 rfl (fun _ => ?_) (fun hc9 => absurd (rfl) hc9)
      refine J_iload_n (pc := 40) dX3_nextPacket_40 rfl rfl ?_
      refine J_iret (pc := 41) dX3_nextPacket_41 rfl (by omega) (by omega) ?_
      exact ⟨rfl, hW1⟩
    | some e =>
      have hlt := hlt e rfl
      refine J_lvk (tail _ (pkF (xV X 8) (xV X 9) e.1 e.2) Y S1 (by omega) hW1 (fun S2 h2 => ⟨rfl, h2⟩)) ⟨rfl, trivial⟩
  | cons e t =>
    obtain ⟨hW1, hv⟩ := hW.take hr hrow hpl hL
    rw [e2] at hv
    have ho : okP X e 0 := hI.okP (q := 32 + (64 + a)) (by rw [hL]; exact List.mem_cons_self) (by decide)
    have hlt := ho.lt
    have hlen : 0 < (xL X (32 + (64 + a))).length := by rw [hL, List.length_cons]; omega
    rw [nP_cons (by rw [e1]; exact hL)]
    rw [← hL]
    generalize hn : (xL X (32 + (64 + a))).length = n at *
    refine J_if_leN (pc := 7) (tgt := 20) dX3_nextPacket_7 rfl (by omega) (fun B => ?_) (fun B => ?_)
    · omega
    · refine J_aload_n (pc := 10) dX3_nextPacket_10 rfl rfl ?_
      refine J_getr (pc := 11) (i := 3) cl2 (hW.ho ha) (by decide) rfl (hW.hdue ha) kX3_32 dX3_nextPacket_11 ?_
      refine J_callV (pc := 14) (c_Row_take l g (hgt - 1) hrow) qX7_take vX7_take cl5 rfl hrow.1 kX3_167 dX3_nextPacket_14 rfl rfl (Nat.le_of_ble_eq_true rfl) (by omega) (by omega) (by omega) ?_
      intro r S1 hq
      rw [if_neg (by omega), hv] at hq
      obtain ⟨rfl, rfl⟩ := hq
      refine J_goto (pc := 17) (tgt := 24) dX3_nextPacket_17 rfl ?_
      refine J_lvk (tail _ (pkF (xV X 8) (xV X 9) e 0) (yL X (96 + a) t) _ (by omega) (by rw [e1]; exact hW1) (fun S2 h2 => ⟨rfl, h2⟩)) ⟨rfl, trivial⟩
