/-! THE CLASS: DATA comes to a host -/
/-- what the coming of DATA needs -/
def okD (Y : XS) (m c : Nat) : Prop := okH Y m ∧ c < xV Y 10 m ∧ xV Y 1 0 ≤ 48 ∧ xV Y 8 m < 8 ∧ xV Y 9 m < 8 ∧ xV Y 30 (xV Y 9 m) < 2 ^ 31
set_option maxRecDepth 100000 in
theorem jx_take (l : Launch) (g : jG) (hgt : Nat) {S : jS} {w : Nat → Nat → Nat} {hx : Nat} {Y Z : XS} {m c clk : Nat} {lv : List (Nat × Value)} (hlv : lvIn lv [(4, .ref (w 4 m)), (0, .ref (w 2 (xV Y 9 m))), (1, .ref (w 3 m)), (2, .int (nI c)), (3, .int (nI clk))]) (hclk : clk = xV Y 0 0) (hW : WX S w hx Y) (hm : m < xV Y 1 0) (ho : okD Y m c) (h1 : xV Y 19 m = 1) (hh : 3 ≤ hgt) (hZ : Z = if 0 < x_missing (x_take Y m c) m then x_take Y m c else x_due (x_finish (x_take Y m c) m) (xV Y 9 m) (3, m, 0)) : J l g mX3_takeData hgt 0 0 (xQ w hx none Z) 33 lv [] S 0 0 := by
  obtain ⟨o1, o2, o3, o4, o5, o6⟩ := ho
  subst hclk
  refine J_lvk ?_ hlv
  refine J_aload (pc := 33) dX3_takeData_33 rfl ?_
  refine J_callV (pc := 35) (cx_isKnown l g (hgt - 1) hW hm (by omega)) qX6_isKnown vX6_isKnown cl4 rfl (hW.q hm) kX3_84 dX3_takeData_35 rfl rfl (Nat.le_of_ble_eq_true rfl) (by omega) (by omega) (by omega) ?_
  rintro _ _ ⟨rfl, rfl⟩
  rw [decide_eq_true h1]
  refine J_if_eq (pc := 38) (tgt := 61) dX3_takeData_38 rfl (fun hc9 => absurd hc9 ((by decide))) (fun _ => ?_)
  refine J_aload (pc := 41) dX3_takeData_41 rfl ?_
  refine J_iload_n (pc := 43) dX3_takeData_43 rfl rfl ?_
  refine J_iload_n (pc := 44) dX3_takeData_44 rfl rfl ?_
  refine J_callV (pc := 45) (cx_take l g (hgt - 1) hW hm o1 o2 (by omega)) qX6_take vX6_take cl4 rfl (hW.q hm) kX3_87 dX3_takeData_45 rfl rfl (Nat.le_of_ble_eq_true rfl) (by omega) (by omega) (by omega) ?_
  intro r S1 hq
  obtain ⟨rfl, hW1⟩ := hq
  by_cases q : x_missing (x_take Y m c) m = 0
  · rw [if_pos q] at hW1
    rw [if_neg (by omega)] at hZ
    have e19 : xV (yV (yV (yV (x_take Y m c) 19 m 2) 20 m (xV Y 20 m + 1)) 25 m (xV Y 0 0)) 19 m = 2 := by
      rw [xV_nf (by decide), xV_nf (by decide), xV_yV, if_pos ⟨rfl, rfl⟩]
    refine J_aload (pc := 48) dX3_takeData_48 rfl ?_
    refine J_callV (pc := 50) (cx_isFinished l g (hgt - 1) hW1 hm (Nat.le_trans (Nat.le_of_eq e19) (by decide))) qX6_isFinished vX6_isFinished cl4 rfl (hW1.q hm) kX3_91 dX3_takeData_50 rfl rfl (Nat.le_of_ble_eq_true rfl) (by omega) (by omega) (by omega) ?_
    rintro _ _ ⟨rfl, rfl⟩
    rw [decide_eq_true e19]
    refine J_if_eq (pc := 53) (tgt := 61) dX3_takeData_53 rfl (fun hc9 => absurd hc9 ((by decide))) (fun _ => ?_)
    refine J_aload_n (pc := 56) dX3_takeData_56 rfl rfl ?_
    refine J_aload_n (pc := 57) dX3_takeData_57 rfl rfl ?_
    refine J_callV (pc := 58) (cx_noteFinished l g (hgt - 1) (a := xV Y 9 m) hW1 o5 hm o6 (by omega)) qX3_noteFinished vX3_noteFinished cl2 rfl (hW1.ho o5) kX3_94 dX3_takeData_58 rfl rfl (Nat.le_of_ble_eq_true rfl) (by omega) (by omega) (by omega) ?_
    intro r S2 hq
    obtain ⟨rfl, hW2⟩ := hq
    have hW2 : WX S2 w hx (x_finish (x_take Y m c) m) := hW2
    have e19 : xV (x_finish (x_take Y m c) m) 19 m = 2 := by
      unfold x_finish
      rw [xV_nf (by decide), xV_nf (by decide), xV_nf (by decide), xV_nf (by decide), xV_yV, if_pos ⟨rfl, rfl⟩]
    refine J_aload (pc := 61) dX3_takeData_61 rfl ?_
    refine J_callV (pc := 63) (cx_isFinished l g (hgt - 1) hW2 hm (Nat.le_of_eq e19)) qX6_isFinished vX6_isFinished cl4 rfl (hW2.q hm) kX3_91 dX3_takeData_63 rfl rfl (Nat.le_of_ble_eq_true rfl) (by omega) (by omega) (by omega) ?_
    rintro _ _ ⟨rfl, rfl⟩
    rw [decide_eq_true e19]
    refine J_if_eq (pc := 66) (tgt := 76) dX3_takeData_66 rfl (fun hc9 => absurd hc9 ((by decide))) (fun _ => ?_)
    refine J_aload_n (pc := 69) dX3_takeData_69 rfl rfl ?_
    refine J_iconst (pc := 70) (v := nI 3) dX3_takeData_70 (by decide) ?_
    refine J_aload_n (pc := 71) dX3_takeData_71 rfl rfl ?_
    refine J_iconst (pc := 72) (v := nI 0) dX3_takeData_72 (by decide) ?_
    refine J_callV (pc := 73) (cx_putDue l g (hgt - 1) (a := xV Y 9 m) (k := 3) (c := 0) hW2 o5 hm o3 o4 (by decide) (by decide) (by decide) (by omega)) qX3_putDue vX3_putDue cl2 rfl (hW2.ho o5) kX3_100 dX3_takeData_73 rfl rfl (Nat.le_of_ble_eq_true rfl) (by omega) (by omega) (by omega) ?_
    rintro _ _ ⟨rfl, hW3⟩
    refine J_vret (pc := 76) dX3_takeData_76 rfl (by omega) (by omega) ?_
    rw [hZ]
    exact ⟨rfl, hW3⟩
  · rw [if_neg q] at hW1
    rw [if_pos (by omega)] at hZ
    have e19 : xV (x_take Y m c) 19 m = 1 := h1
    refine J_aload (pc := 48) dX3_takeData_48 rfl ?_
    refine J_callV (pc := 50) (cx_isFinished l g (hgt - 1) hW1 hm (Nat.le_trans (Nat.le_of_eq e19) (by decide))) qX6_isFinished vX6_isFinished cl4 rfl (hW1.q hm) kX3_91 dX3_takeData_50 rfl rfl (Nat.le_of_ble_eq_true rfl) (by omega) (by omega) (by omega) ?_
    rintro _ _ ⟨rfl, rfl⟩
    rw [decide_eq_false (by rw [e19]; decide)]
    refine J_if_eq (pc := 53) (tgt := 61) dX3_takeData_53 rfl (fun _ => ?_) (fun hc9 => absurd (rfl) hc9)
    refine J_aload (pc := 61) dX3_takeData_61 rfl ?_
    refine J_callV (pc := 63) (cx_isFinished l g (hgt - 1) hW1 hm (Nat.le_trans (Nat.le_of_eq e19) (by decide))) qX6_isFinished vX6_isFinished cl4 rfl (hW1.q hm) kX3_91 dX3_takeData_63 rfl rfl (Nat.le_of_ble_eq_true rfl) (by omega) (by omega) (by omega) ?_
    rintro _ _ ⟨rfl, rfl⟩
    rw [decide_eq_false (by rw [e19]; decide)]
    refine J_if_eq (pc := 66) (tgt := 76) dX3_takeData_66 rfl (fun _ => ?_) (fun hc9 => absurd (rfl) hc9)
    refine J_vret (pc := 76) dX3_takeData_76 rfl (by omega) (by omega) ?_
    rw [hZ]
    exact ⟨rfl, hW1⟩
set_option maxRecDepth 100000 in
theorem cx_takeData (l : Launch) (g : jG) (hgt : Nat) {S : jS} {w : Nat → Nat → Nat} {hx : Nat} {X : XS} {m c : Nat} (hW : WX S w hx X) (hm : m < xV X 1 0) (hI : xOK X) (hc : c < xV X 10 m) (h30 : xV X 30 (xV X 9 m) < 2 ^ 31) (hh : 3 ≤ hgt) : CT l g mX3_takeData hgt 0 0 [.ref (w 2 (xV X 9 m)), .ref (w 3 m), .int (nI c), .int (nI (xV X 0 0))] S (xQ w hx none (x_data X m c)) := by
  have h48 := hI.many
  have o := hI.msg (m := m) (by omega)
  have o9 := o.1.2.1
  have oH := hI.okH hm
  unfold x_data
  refine CT_of qX3_takeData (Nat.le_of_ble_eq_true rfl) ?_
  refine J_aload_n (pc := 0) dX3_takeData_0 rfl rfl ?_
  refine J_getrN (pc := 1) (i := 5) (host := RX9) cl3 (hW.mo hm) (by decide) rfl (hW.mr hm) (by decide +kernel) dX3_takeData_1 ?_
  refine J_astore (pc := 4) dX3_takeData_4 (by decide) ?_
  refine J_aload (pc := 6) dX3_takeData_6 rfl ?_
  refine J_callV (pc := 8) (cx_isUnknown l g (hgt - 1) hW hm o.2.2.1) qX6_isUnknown vX6_isUnknown cl4 rfl (hW.q hm) kX3_75 dX3_takeData_8 rfl rfl (Nat.le_of_ble_eq_true rfl) (by omega) (by omega) (by omega) ?_
  rintro _ _ ⟨rfl, rfl⟩
  refine J_if_eqB (pc := 11) (tgt := 33) dX3_takeData_11 rfl (fun B => ?_) (fun B => ?_)
  · have B := of_decide_eq_false B
    rw [if_neg (c := xV X 19 m = 0) B]
    by_cases q : xV X 19 m = 2
    · rw [if_pos q]
      refine J_aload (pc := 33) dX3_takeData_33 rfl ?_
      refine J_callV (pc := 35) (cx_isKnown l g (hgt - 1) hW hm o.2.2.1) qX6_isKnown vX6_isKnown cl4 rfl (hW.q hm) kX3_84 dX3_takeData_35 rfl rfl (Nat.le_of_ble_eq_true rfl) (by omega) (by omega) (by omega) ?_
      rintro _ _ ⟨rfl, rfl⟩
      rw [decide_eq_false (by omega)]
      refine J_if_eq (pc := 38) (tgt := 61) dX3_takeData_38 rfl (fun _ => ?_) (fun hc9 => absurd (rfl) hc9)
      refine J_aload (pc := 61) dX3_takeData_61 rfl ?_
      refine J_callV (pc := 63) (cx_isFinished l g (hgt - 1) hW hm o.2.2.1) qX6_isFinished vX6_isFinished cl4 rfl (hW.q hm) kX3_91 dX3_takeData_63 rfl rfl (Nat.le_of_ble_eq_true rfl) (by omega) (by omega) (by omega) ?_
      rintro _ _ ⟨rfl, rfl⟩
      rw [decide_eq_true q]
      refine J_if_eq (pc := 66) (tgt := 76) dX3_takeData_66 rfl (fun hc9 => absurd hc9 ((by decide))) (fun _ => ?_)
      refine J_aload_n (pc := 69) dX3_takeData_69 rfl rfl ?_
      refine J_iconst (pc := 70) (v := nI 3) dX3_takeData_70 (by decide) ?_
      refine J_aload_n (pc := 71) dX3_takeData_71 rfl rfl ?_
      refine J_iconst (pc := 72) (v := nI 0) dX3_takeData_72 (by decide) ?_
      refine J_callV (pc := 73) (cx_putDue l g (hgt - 1) (a := xV X 9 m) (k := 3) (c := 0) hW o9 hm h48 o.1.1 (by decide) (by decide) (by decide) (by omega)) qX3_putDue vX3_putDue cl2 rfl (hW.ho o9) kX3_100 dX3_takeData_73 rfl rfl (Nat.le_of_ble_eq_true rfl) (by omega) (by omega) (by omega) ?_
      rintro _ _ ⟨rfl, hW⟩
      refine J_vret (pc := 76) dX3_takeData_76 rfl (by omega) (by omega) ?_
      exact ⟨rfl, hW⟩
    · rw [if_neg q]
      exact jx_take l g hgt ⟨rfl, rfl, rfl, rfl, rfl, trivial⟩ rfl hW hm ⟨oH, hc, h48, o.1.1, o9, h30⟩ (by omega) hh rfl
  · have B := of_decide_eq_true B
    rw [if_neg (by omega), if_pos B]
    refine J_aload_n (pc := 14) dX3_takeData_14 rfl rfl ?_
    refine J_dup (pc := 15) dX3_takeData_15 rfl ?_
    refine J_geti (pc := 16) (i := 8) cl2 (hW.ho o9) (by decide) rfl (hW.n26 o9) kX3_50 dX3_takeData_16 ?_
    refine J_iconst (pc := 19) (v := nI 1) dX3_takeData_19 (by decide) ?_
    refine J_iaddN (b := 1) dX3_takeData_20 ?_
    refine J_puti (pc := 21) (i := 8) cl2 (hW.ho o9) (by decide) rfl rfl rfl rfl kX3_50 dX3_takeData_21 ?_
    have hW1 : WX (uI S 2 (w 2 (xV X 9 m)) 8 (nI (xV X 26 (xV X 9 m) + 1))) w hx (yV X 26 (xV X 9 m) (xV X 26 (xV X 9 m) + 1)) := hW.wV 26 _ _ o9 (by decide)
    refine J_aload (pc := 24) dX3_takeData_24 rfl ?_
    refine J_aload_n (pc := 26) dX3_takeData_26 rfl rfl ?_
    refine J_geti (pc := 27) (i := 8) cl2 (hW1.ho o9) (by decide) rfl (sI_same _ _ _ _ _) kX3_50 dX3_takeData_27 ?_
    refine J_callV (pc := 30) (cx_begin l g (hgt - 1) (a := xV X 26 (xV X 9 m) + 1) hW1 hm ((hI.set m).2.2.2 B) o.1.2.2.1 (by omega)) qX6_begin vX6_begin cl4 rfl (hW1.q hm) kX3_81 dX3_takeData_30 rfl rfl (Nat.le_of_ble_eq_true rfl) (by omega) (by omega) (by omega) ?_
    intro r S2 hq
    obtain ⟨rfl, hW2⟩ := hq
    have e : yV (yV (yV (yV X 26 (xV X 9 m) (xV X 26 (xV X 9 m) + 1)) 19 m 1) 24 m (xV X 26 (xV X 9 m) + 1)) 21 m (if xV (yV X 26 (xV X 9 m) (xV X 26 (xV X 9 m) + 1)) 10 m < 4 then xV (yV X 26 (xV X 9 m) (xV X 26 (xV X 9 m) + 1)) 10 m else 4) = x_know X m := by
      rw [xV_nf (f' := 10) (by decide), yV_comm X (f := 26) (f' := 19) _ _ _ _ (by decide)]
      rfl
    rw [e] at hW2
    have e19 : xV (x_know X m) 19 m = 1 := by
      unfold x_know
      rw [xV_nf (by decide), xV_nf (by decide), xV_nf (by decide), xV_yV, if_pos ⟨rfl, rfl⟩]
    exact jx_take l g hgt (Y := x_know X m) ⟨rfl, rfl, rfl, rfl, rfl, trivial⟩ rfl hW2 hm ⟨oH, hc, h48, o.1.1, o9, h30⟩ e19 hh rfl
