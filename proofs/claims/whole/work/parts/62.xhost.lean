/-! THE CLASS: a host -/
theorem WX.ho {S : jS} {w : Nat → Nat → Nat} {hx : Nat} {X : XS} (h : WX S w hx X) {a : Nat} (ha : a < 8) : sAt S 2 (w 2 a) := h.o 2 a ha
theorem WX.mo {S : jS} {w : Nat → Nat → Nat} {hx : Nat} {X : XS} (h : WX S w hx X) {m : Nat} (hm : m < xV X 1 0) : sAt S 3 (w 3 m) := h.o 3 m hm
theorem WX.mnum {S : jS} {w : Nat → Nat → Nat} {hx : Nat} {X : XS} (h : WX S w hx X) {m : Nat} (hm : m < xV X 1 0) : sI S 3 (w 3 m) 0 = nI m := (h.2.2.2.2.1 m hm).1
theorem WX.n8 {S : jS} {w : Nat → Nat → Nat} {hx : Nat} {X : XS} (h : WX S w hx X) {m : Nat} (hm : m < xV X 1 0) : sI S 3 (w 3 m) 1 = nI (xV X 8 m) := h.v 8 m hm
theorem WX.n9 {S : jS} {w : Nat → Nat → Nat} {hx : Nat} {X : XS} (h : WX S w hx X) {m : Nat} (hm : m < xV X 1 0) : sI S 3 (w 3 m) 2 = nI (xV X 9 m) := h.v 9 m hm
theorem WX.n10 {S : jS} {w : Nat → Nat → Nat} {hx : Nat} {X : XS} (h : WX S w hx X) {m : Nat} (hm : m < xV X 1 0) : sI S 3 (w 3 m) 3 = nI (xV X 10 m) := h.v 10 m hm
theorem WX.n26 {S : jS} {w : Nat → Nat → Nat} {hx : Nat} {X : XS} (h : WX S w hx X) {a : Nat} (ha : a < 8) : sI S 2 (w 2 a) 8 = nI (xV X 26 a) := h.v 26 a ha
theorem WX.n27 {S : jS} {w : Nat → Nat → Nat} {hx : Nat} {X : XS} (h : WX S w hx X) {a : Nat} (ha : a < 8) : sI S 2 (w 2 a) 10 = nI (xV X 27 a) := h.v 27 a ha
theorem WX.n30 {S : jS} {w : Nat → Nat → Nat} {hx : Nat} {X : XS} (h : WX S w hx X) {a : Nat} (ha : a < 8) : sI S 2 (w 2 a) 9 = nI (xV X 30 a) := h.v 30 a ha
theorem WX.ms {S : jS} {w : Nat → Nat → Nat} {hx : Nat} {X : XS} (h : WX S w hx X) {m : Nat} (hm : m < xV X 1 0) : sP S 3 (w 3 m) 4 = some (w 6 m) := h.r 3 m 4 hm rfl
theorem WX.mr {S : jS} {w : Nat → Nat → Nat} {hx : Nat} {X : XS} (h : WX S w hx X) {m : Nat} (hm : m < xV X 1 0) : sP S 3 (w 3 m) 5 = some (w 4 m) := h.r 3 m 5 hm rfl
theorem WX.hdue {S : jS} {w : Nat → Nat → Nat} {hx : Nat} {X : XS} (h : WX S w hx X) {a : Nat} (ha : a < 8) : sP S 2 (w 2 a) 3 = some (w 5 (64 + a)) := h.r 2 a 3 ha rfl
theorem WX.hend {S : jS} {w : Nat → Nat → Nat} {hx : Nat} {X : XS} (h : WX S w hx X) {a : Nat} (ha : a < 8) : sP S 2 (w 2 a) 5 = some (w 9 (99 + a)) := h.r 2 a 5 ha rfl
theorem WX.aend {S : jS} {w : Nat → Nat → Nat} {hx : Nat} {X : XS} (h : WX S w hx X) {a : Nat} (ha : a < 8) : aAt S 9 (w 9 (99 + a)) 64 := by
  have := h.a 9 (99 + a) (by decide) (show 99 + a < 107 by omega)
  have e : lenA 9 (99 + a) = 64 := by
    show (if 99 + a < 64 then 8 else if 99 + a < 74 then 24 else if 99 + a = 74 then 2 else if 99 + a < 91 then 16 else if 99 + a < 99 then 3 else 64) = 64
    rw [if_neg (by omega), if_neg (by omega), if_neg (by omega), if_neg (by omega), if_neg (by omega)]
  rw [e] at this
  exact this
theorem yV_comm (X : XS) {f f' : Nat} (i i' a b : Nat) (h : f ≠ f') : yV (yV X f i a) f' i' b = yV (yV X f' i' b) f i a := by
  unfold yV
  refine Prod.ext ?_ rfl
  funext p q
  show (if p = f' ∧ q = i' then b else if p = f ∧ q = i then a else X.1 p q) = if p = f ∧ q = i then a else if p = f' ∧ q = i' then b else X.1 p q
  by_cases e : p = f
  · subst e
    rw [if_neg (fun z => h z.1)]
    split
    · rfl
    · rw [if_neg (fun z => h z.1)]
  · rw [if_neg (c := p = f ∧ q = i) (fun z => e z.1), if_neg (c := p = f ∧ q = i) (fun z => e z.1)]
set_option maxRecDepth 100000 in
theorem cx_putDue (l : Launch) (g : jG) (hgt : Nat) {S : jS} {w : Nat → Nat → Nat} {hx : Nat} {X : XS} {a k m c : Nat} (hW : WX S w hx X) (ha : a < 8) (hm : m < xV X 1 0) (h48 : xV X 1 0 ≤ 48) (h8 : xV X 8 m < 8) (hk : k < 4) (hk0 : k ≠ 0) (hc : c < 4096) (hh : 1 ≤ hgt) : CT l g mX3_putDue hgt 0 0 [.ref (w 2 a), .int (nI k), .ref (w 3 m), .int (nI c)] S (xQ w hx none (x_due X a (k, m, c))) := by
  have hr : 64 + a < 72 := by omega
  have e1 : 96 + a = 32 + (64 + a) := by omega
  have e2 : pr (64 + a) = 0 := if_neg (by omega)
  have e3 : rN (64 + a) = 24 := if_neg (by omega)
  have e4 : pkN k 0 (xV X 8 m) m c = pkF (xV X 8) (xV X 9) (k, m, c) (pr (64 + a)) := by
    unfold pkF
    rw [e2, if_neg hk0]
  obtain ⟨f, hrow, hpl⟩ := hW.row hr
  refine CT_of qX3_putDue (Nat.le_of_ble_eq_true rfl) ?_
  refine J_aload_n (pc := 0) dX3_putDue_0 rfl rfl ?_
  refine J_getr (pc := 1) (i := 3) cl2 (hW.ho ha) (by decide) rfl (hW.hdue ha) kX3_32 dX3_putDue_1 ?_
  refine J_iload_n (pc := 4) dX3_putDue_4 rfl rfl ?_
  refine J_aload_n (pc := 5) dX3_putDue_5 rfl rfl ?_
  refine J_iload_n (pc := 6) dX3_putDue_6 rfl rfl ?_
  refine J_iconst (pc := 7) (v := nI 0) dX3_putDue_7 (by decide) ?_
  refine J_aload_n (pc := 8) dX3_putDue_8 rfl rfl ?_
  refine J_getiN (pc := 9) (i := 1) (host := RX9) cl3 (hW.mo hm) (by decide) rfl (hW.n8 hm) (by decide +kernel) dX3_putDue_9 ?_
  refine J_callS (pc := 12) (cx_pack l g (hgt - 1) (p := 0) (hW.mo hm) (hW.mnum hm) hk (by decide) h8 (by omega) hc) qX5_pack vX5_pack kX3_116 dX3_putDue_12 rfl rfl (Nat.le_of_ble_eq_true rfl) (by omega) (by omega) (by omega) ?_
  rintro _ _ ⟨rfl, rfl⟩
  refine J_callV (pc := 15) (c_Row_put l g (hgt - 1) _ hrow) qX7_put vX7_put cl5 rfl hrow.1 kX3_120 dX3_putDue_15 rfl rfl (Nat.le_of_ble_eq_true rfl) (by omega) (by omega) (by omega) ?_
  intro r S' hq
  unfold x_due
  rw [e1]
  split at hq
  case isTrue hl =>
    rw [if_pos (by omega)]
    obtain ⟨rfl, rfl⟩ := hq
    refine J_pop (pc := 18) dX3_putDue_18 rfl ?_
    refine J_vret (pc := 19) dX3_putDue_19 rfl (by omega) (by omega) ?_
    exact ⟨rfl, hW⟩
  case isFalse hl =>
    rw [if_neg (by omega)]
    obtain ⟨rfl, rfl⟩ := hq
    refine J_pop (pc := 18) dX3_putDue_18 rfl ?_
    refine J_vret (pc := 19) dX3_putDue_19 rfl (by omega) (by omega) ?_
    refine ⟨rfl, ?_⟩
    have := hrow.2.2.2.2.2.2.1
    rw [e4]
    exact hW.put hr hrow hpl (by omega) (k, m, c)
set_option maxRecDepth 100000 in
theorem cx_noteFinished (l : Launch) (g : jG) (hgt : Nat) {S : jS} {w : Nat → Nat → Nat} {hx : Nat} {X : XS} {a m : Nat} (hW : WX S w hx X) (ha : a < 8) (hm : m < xV X 1 0) (h30 : xV X 30 a < 2 ^ 31) (hh : 1 ≤ hgt) : CT l g mX3_noteFinished hgt 0 0 [.ref (w 2 a), .ref (w 3 m)] S (xQ w hx none (yV (yV X 31 (64 * a + xV X 30 a % 64) m) 30 a (xV X 30 a + 1))) := by
  refine CT_of qX3_noteFinished (Nat.le_of_ble_eq_true rfl) ?_
  refine J_aload_n (pc := 0) dX3_noteFinished_0 rfl rfl ?_
  refine J_getr (pc := 1) (i := 5) cl2 (hW.ho ha) (by decide) rfl (hW.hend ha) kX3_40 dX3_noteFinished_1 ?_
  refine J_aload_n (pc := 4) dX3_noteFinished_4 rfl rfl ?_
  refine J_geti (pc := 5) (i := 9) cl2 (hW.ho ha) (by decide) rfl (hW.n30 ha) kX3_53 dX3_noteFinished_5 ?_
  refine J_bipush (pc := 8) (v := nI 64) dX3_noteFinished_8 (by decide) ?_
  refine J_callS (pc := 10) (cx_floorMod l g (hgt - 1) (b := 64) h30 (by decide) (by decide)) qJ9_floorMod_7cf53 vJ9_floorMod_7cf53 kX3_104 dX3_noteFinished_10 rfl rfl (Nat.le_of_ble_eq_true rfl) (by omega) (by omega) (by omega) ?_
  rintro _ _ ⟨rfl, rfl⟩
  have hj : xV X 30 a % 64 < 64 := Nat.mod_lt _ (by decide)
  have hW1 : WX (uI S 9 (w 9 (99 + a)) (xV X 30 a % 64) (nI m)) w hx (yV X 31 (64 * a + xV X 30 a % 64) m) := by
    have z : WX (uI S 9 (w 9 (99 + (64 * a + xV X 30 a % 64) / 64)) ((64 * a + xV X 30 a % 64) % 64) (nI m)) w hx (yV X 31 (64 * a + xV X 30 a % 64) m) := hW.wV 31 (64 * a + xV X 30 a % 64) m (show _ < 512 by omega) (by decide)
    rw [show (64 * a + xV X 30 a % 64) / 64 = a by omega, show (64 * a + xV X 30 a % 64) % 64 = xV X 30 a % 64 by omega] at z
    exact z
  refine J_aload_n (pc := 13) dX3_noteFinished_13 rfl rfl ?_
  refine J_getiN (pc := 14) (i := 0) (host := RX9) cl3 (hW.mo hm) (by decide) rfl (hW.mnum hm) (by decide +kernel) dX3_noteFinished_14 ?_
  refine J_iast (pc := 17) (hW.aend ha) rfl hj (by first | omega | exact mLn_lt _) dX3_noteFinished_17 ?_
  have h30' : sI (uI S 9 (w 9 (99 + a)) (xV X 30 a % 64) (nI m)) 2 (w 2 a) 9 = nI (xV X 30 a) := hW1.n30 ha
  refine J_aload_n (pc := 18) dX3_noteFinished_18 rfl rfl ?_
  refine J_dup (pc := 19) dX3_noteFinished_19 rfl ?_
  refine J_geti (pc := 20) (i := 9) cl2 (hW1.ho ha) (by decide) rfl h30' kX3_53 dX3_noteFinished_20 ?_
  refine J_iconst (pc := 23) (v := nI 1) dX3_noteFinished_23 (by decide) ?_
  refine J_iaddN (b := 1) dX3_noteFinished_24 ?_
  refine J_puti (pc := 25) (i := 9) cl2 (hW1.ho ha) (by decide) rfl rfl rfl rfl kX3_53 dX3_noteFinished_25 ?_
  refine J_vret (pc := 28) dX3_noteFinished_28 rfl (by omega) (by omega) ?_
  exact ⟨rfl, hW1.wV 30 a _ ha (by decide)⟩
set_option maxRecDepth 100000 in
theorem cx_listen (l : Launch) (g : jG) (hgt : Nat) {S : jS} {w : Nat → Nat → Nat} {hx : Nat} {X : XS} {a m : Nat} (hW : WX S w hx X) (ha : a < 8) (hm : m < xV X 1 0) (hI : xOK X) (hh : 3 ≤ hgt) : CT l g mX3_listen hgt 0 0 [.ref (w 2 a), .ref (w 3 m)] S (xQ w hx none (if xV X 19 m = 1 then x_listen X a m else X)) := by
  have h48 := hI.many
  have o := hI.msg (m := m) (by omega)
  refine CT_of qX3_listen (Nat.le_of_ble_eq_true rfl) ?_
  refine J_aload_n (pc := 0) dX3_listen_0 rfl rfl ?_
  refine J_getrN (pc := 1) (i := 5) (host := RX9) cl3 (hW.mo hm) (by decide) rfl (hW.mr hm) (by decide +kernel) dX3_listen_1 ?_
  refine J_callV (pc := 4) (cx_isKnown l g (hgt - 1) hW hm o.2.2.1) qX6_isKnown vX6_isKnown cl4 rfl (hW.q hm) kX3_84 dX3_listen_4 rfl rfl (Nat.le_of_ble_eq_true rfl) (by omega) (by omega) (by omega) ?_
  rintro _ _ ⟨rfl, rfl⟩
  refine J_if_eqB (pc := 7) (tgt := 33) dX3_listen_7 rfl (fun B => ?_) (fun B => ?_)
  · have B := of_decide_eq_false B
    rw [if_neg B]
    refine J_vret (pc := 33) dX3_listen_33 rfl (by omega) (by omega) ?_
    exact ⟨rfl, hW⟩
  · have B := of_decide_eq_true B
    rw [if_pos B]
    unfold x_listen
    refine J_aload_n (pc := 10) dX3_listen_10 rfl rfl ?_
    refine J_getrN (pc := 11) (i := 5) (host := RX9) cl3 (hW.mo hm) (by decide) rfl (hW.mr hm) (by decide +kernel) dX3_listen_11 ?_
    refine J_callV (pc := 14) (cx_growSilence l g (hgt - 1) hW hm o.2.2.2.2.1 (o.2.2.2.2.2.2 B) (by omega)) qX6_growSilence vX6_growSilence cl4 rfl (hW.q hm) kX3_133 dX3_listen_14 rfl rfl (Nat.le_of_ble_eq_true rfl) (by omega) (by omega) (by omega) ?_
    intro r S' hq
    by_cases q1 : xV X 22 m + 1 < 16
    · rw [if_pos q1] at hq ⊢
      obtain ⟨rfl, hW⟩ := hq
      refine J_if_eq (pc := 17) (tgt := 33) dX3_listen_17 rfl (fun _ => ?_) (fun hc9 => absurd (rfl) hc9)
      refine J_vret (pc := 33) dX3_listen_33 rfl (by omega) (by omega) ?_
      exact ⟨rfl, hW⟩
    · rw [if_neg q1] at hq ⊢
      by_cases q2 : xV X 23 m + 1 = 8
      · rw [if_pos q2] at hq ⊢
        obtain ⟨rfl, hW⟩ := hq
        refine J_if_eq (pc := 17) (tgt := 33) dX3_listen_17 rfl (fun _ => ?_) (fun hc9 => absurd (rfl) hc9)
        refine J_vret (pc := 33) dX3_listen_33 rfl (by omega) (by omega) ?_
        exact ⟨rfl, hW⟩
      · rw [if_neg q2] at hq ⊢
        obtain ⟨rfl, hW⟩ := hq
        have hl : lst (fun i => !xB X 1 m i) 60 < 60 := by
          have hmiss := (hI.set m).2.2.1 B
          have hle := lst_le (fun i => !xB X 1 m i) 60
          refine Decidable.not_not.mp (fun q => ?_)
          have hz : x_missing X m = 0 := cnt_0 (fun i hi => lst_no (f := fun i => !xB X 1 m i) (n := 60) (by omega))
          omega
        refine J_if_eq (pc := 17) (tgt := 33) dX3_listen_17 rfl (fun hc9 => absurd hc9 ((by decide))) (fun _ => ?_)
        refine J_aload_n (pc := 20) dX3_listen_20 rfl rfl ?_
        refine J_iconst (pc := 21) (v := nI 2) dX3_listen_21 (by decide) ?_
        refine J_aload_n (pc := 22) dX3_listen_22 rfl rfl ?_
        refine J_aload_n (pc := 23) dX3_listen_23 rfl rfl ?_
        refine J_getrN (pc := 24) (i := 5) (host := RX9) cl3 (hW.mo hm) (by decide) rfl (hW.mr hm) (by decide +kernel) dX3_listen_24 ?_
        refine J_callV (pc := 27) (cx_countOfAsk l g (hgt - 1) hW hm hl (by omega)) qX6_countOfAsk vX6_countOfAsk cl4 rfl (hW.q hm) kX3_136 dX3_listen_27 rfl rfl (Nat.le_of_ble_eq_true rfl) (by omega) (by omega) (by omega) ?_
        rintro _ _ ⟨rfl, rfl⟩
        refine J_callV (pc := 30) (cx_putDue l g (hgt - 1) (k := 2) hW ha hm h48 o.1.1 (by decide) (by decide) (show 64 * xV X 21 m + lst (fun i => !xB X 1 m i) 60 < 4096 by omega) (by omega)) qX3_putDue vX3_putDue cl2 rfl (hW.ho ha) kX3_100 dX3_listen_30 rfl rfl (Nat.le_of_ble_eq_true rfl) (by omega) (by omega) (by omega) ?_
        rintro _ _ ⟨rfl, hW⟩
        refine J_vret (pc := 33) dX3_listen_33 rfl (by omega) (by omega) ?_
        exact ⟨rfl, hW⟩
