/-! THE CLASS: what a message is for its sender -/
theorem WX.s {S : jS} {w : Nat → Nat → Nat} {hx : Nat} {X : XS} (h : WX S w hx X) {m : Nat} (hm : m < xV X 1 0) : sAt S 6 (w 6 m) := h.o 6 m hm
theorem WX.len6 {S : jS} {w : Nat → Nat → Nat} {hx : Nat} {X : XS} (h : WX S w hx X) {m : Nat} (hm : m < xV X 1 0) : sI S 6 (w 6 m) 0 = nI (xV X 10 m) := (h.2.2.2.2.1 m hm).2.1
theorem WX.want {S : jS} {w : Nat → Nat → Nat} {hx : Nat} {X : XS} (h : WX S w hx X) {m : Nat} (hm : m < xV X 1 0) : isB (sJ S 6 (w 6 m) 5) (xB X 0 m) := (h.2.2.2.2.2.1 m hm).1
theorem WX.n12 {S : jS} {w : Nat → Nat → Nat} {hx : Nat} {X : XS} (h : WX S w hx X) {m : Nat} (hm : m < xV X 1 0) : sI S 6 (w 6 m) 1 = nI (xV X 12 m) := h.v 12 m hm
theorem WX.n13 {S : jS} {w : Nat → Nat → Nat} {hx : Nat} {X : XS} (h : WX S w hx X) {m : Nat} (hm : m < xV X 1 0) : sI S 6 (w 6 m) 2 = nI (xV X 13 m) := h.v 13 m hm
theorem WX.n14 {S : jS} {w : Nat → Nat → Nat} {hx : Nat} {X : XS} (h : WX S w hx X) {m : Nat} (hm : m < xV X 1 0) : sI S 6 (w 6 m) 3 = nI (xV X 14 m) := h.v 14 m hm
theorem WX.n15 {S : jS} {w : Nat → Nat → Nat} {hx : Nat} {X : XS} (h : WX S w hx X) {m : Nat} (hm : m < xV X 1 0) : sI S 6 (w 6 m) 4 = nI (xV X 15 m) := h.v 15 m hm
theorem WX.n16 {S : jS} {w : Nat → Nat → Nat} {hx : Nat} {X : XS} (h : WX S w hx X) {m : Nat} (hm : m < xV X 1 0) : sI S 6 (w 6 m) 6 = nI (xV X 16 m) := h.v 16 m hm
theorem WX.n17 {S : jS} {w : Nat → Nat → Nat} {hx : Nat} {X : XS} (h : WX S w hx X) {m : Nat} (hm : m < xV X 1 0) : sI S 6 (w 6 m) 7 = nI (xV X 17 m) := h.v 17 m hm
theorem WX.n18 {S : jS} {w : Nat → Nat → Nat} {hx : Nat} {X : XS} (h : WX S w hx X) {m : Nat} (hm : m < xV X 1 0) : sI S 6 (w 6 m) 8 = nI (xV X 18 m) := h.v 18 m hm
theorem cnt_60 {f : Nat → Bool} (h : ∀ i, f i = true → i < 60) : cnt f 64 = cnt f 60 := by
  have e : ∀ i, 60 ≤ i → f i = false := fun i hi => by
    cases q : f i with
    | false => rfl
    | true => have := h i q; omega
  show (((cnt f 60 + if f 60 then 1 else 0) + if f 61 then 1 else 0) + if f 62 then 1 else 0) + (if f 63 then 1 else 0) = _
  rw [e 60 (by omega), e 61 (by omega), e 62 (by omega), e 63 (by omega)]
  rfl
theorem isB_lst {z : Int64} {f : Nat → Bool} (hz : isB z f) (h : ∀ i, f i = true → i < 60) : z = 0 ↔ ¬ lst f 60 < 60 := by
  rw [isB_z hz]
  constructor
  · intro e q
    have := lst_is q
    rw [e _ (by omega)] at this
    exact absurd this (by decide)
  · intro q i hi
    have := lst_le f 60
    cases p : f i with
    | false => rfl
    | true =>
      have h1 := h i p
      have := lst_no (f := f) (n := 60) (i := i) (by omega)
      rw [p] at this
      exact absurd this (by decide)
/-- what is wanted of m lies below 60 -/
def okW (X : XS) (m : Nat) : Prop := (∀ i, xB X 0 m i = true → i < xV X 13 m) ∧ xV X 13 m ≤ xV X 10 m ∧ xV X 10 m ≤ 60
theorem okW.b {X : XS} {m : Nat} (h : okW X m) : ∀ i, xB X 0 m i = true → i < 60 := fun i hi => by
  have := h.1 i hi
  have := h.2
  omega
theorem xOK.okW {X : XS} (h : xOK X) {m : Nat} (hm : m < xV X 1 0) : okW X m := by
  have a := h.msg (m := m) (by have := h.many; omega)
  exact ⟨(h.set m).1, a.2.1.2.1, a.1.2.2.1⟩
set_option maxRecDepth 100000 in
theorem cx_left (l : Launch) (g : jG) (hgt : Nat) {S : jS} {w : Nat → Nat → Nat} {hx : Nat} {X : XS} {m : Nat} (hW : WX S w hx X) (hm : m < xV X 1 0) (ho : okW X m) (hh : 1 ≤ hgt) : CT l g mX8_left hgt 0 0 [.ref (w 6 m)] S (jPure (.int (nI (x_left X m))) S) := by
  refine CT_of qX8_left (Nat.le_of_ble_eq_true rfl) ?_
  refine J_aload_n (pc := 0) dX8_left_0 rfl rfl ?_
  refine J_geti (pc := 1) (i := 0) cl6 (hW.s hm) (by decide) rfl (hW.len6 hm) kX8_34 dX8_left_1 ?_
  refine J_aload_n (pc := 4) dX8_left_4 rfl rfl ?_
  refine J_geti (pc := 5) (i := 2) cl6 (hW.s hm) (by decide) rfl (hW.n13 hm) kX8_15 dX8_left_5 ?_
  refine J_isubN dX8_left_8 ho.2.1 ?_
  refine J_aload_n (pc := 9) dX8_left_9 rfl rfl ?_
  refine J_getl (pc := 10) (i := 5) cl6 (hW.s hm) (by decide) rfl rfl kX8_21 dX8_left_10 ?_
  refine J_callS (pc := 13) (cx_bitCount l g (hgt - 1) (hW.want hm)) qJ13_bitCount_95d88 vJ13_bitCount_95d88 kX8_46 dX8_left_13 rfl rfl (Nat.le_of_ble_eq_true rfl) (by omega) (by omega) (by omega) ?_
  rintro _ _ ⟨rfl, rfl⟩
  refine J_iaddN dX8_left_16 ?_
  refine J_iret (pc := 17) dX8_left_17 rfl (by omega) (by omega) ?_
  rw [cnt_60 ho.b]
  exact ⟨rfl, rfl⟩
set_option maxRecDepth 100000 in
theorem cx_level (l : Launch) (g : jG) (hgt : Nat) {S : jS} {w : Nat → Nat → Nat} {hx : Nat} {X : XS} {m : Nat} (hW : WX S w hx X) (hm : m < xV X 1 0) : CT l g mX8_level hgt 0 0 [.ref (w 6 m)] S (jPure (.int (nI (xV X 15 m))) S) := by
  refine CT_of qX8_level (Nat.le_of_ble_eq_true rfl) ?_
  refine J_aload_n (pc := 0) dX8_level_0 rfl rfl ?_
  refine J_geti (pc := 1) (i := 4) cl6 (hW.s hm) (by decide) rfl (hW.n15 hm) kX8_18 dX8_level_1 ?_
  refine J_iret (pc := 4) dX8_level_4 rfl (by omega) (by omega) ?_
  exact ⟨rfl, rfl⟩
def x_can1 (X : XS) (m : Nat) : Bool := decide (xV X 12 m = 0) && (decide (x_least X m < 60) || decide (xV X 13 m < xV X 14 m))
set_option maxRecDepth 100000 in
theorem cx_canSend (l : Launch) (g : jG) (hgt : Nat) {S : jS} {w : Nat → Nat → Nat} {hx : Nat} {X : XS} {m : Nat} (hW : WX S w hx X) (hm : m < xV X 1 0) (ho : okW X m) (h12 : xV X 12 m ≤ 2) (h14 : xV X 14 m ≤ 60) : CT l g mX8_canSend hgt 0 0 [.ref (w 6 m)] S (jPure (.int (bI (x_can1 X m))) S) := by
  have hz := isB_lst (hW.want hm) ho.b
  have ho1 := ho.2
  unfold x_can1 x_least
  refine CT_of qX8_canSend (Nat.le_of_ble_eq_true rfl) ?_
  refine J_aload_n (pc := 0) dX8_canSend_0 rfl rfl ?_
  refine J_geti (pc := 1) (i := 1) cl6 (hW.s hm) (by decide) rfl (hW.n12 hm) kX8_11 dX8_canSend_1 ?_
  refine J_if_neN (pc := 4) (tgt := 31) dX8_canSend_4 rfl (by omega) (fun B => ?_) (fun B => ?_)
  · rw [decide_eq_false B]
    refine J_iconst (pc := 31) (v := nI 0) dX8_canSend_31 (by decide) ?_
    refine J_zret (pc := 32) dX8_canSend_32 rfl rfl (by omega) (by omega) ?_
    exact ⟨rfl, rfl⟩
  · rw [decide_eq_true B]
    refine J_aload_n (pc := 7) dX8_canSend_7 rfl rfl ?_
    refine J_getl (pc := 8) (i := 5) cl6 (hW.s hm) (by decide) rfl rfl kX8_21 dX8_canSend_8 ?_
    refine J_lconst (pc := 11) (v := 0) dX8_canSend_11 rfl ?_
    refine J_lcmp (pc := 12) dX8_canSend_12 ?_
    refine J_if_ne (pc := 13) (tgt := 27) dX8_canSend_13 rfl (fun B2 => ?_) (fun B2 => ?_)
    · have B2 : lst (xB X 0 m) 60 < 60 := Decidable.not_not.mp (fun q => B2 ((lg_cmp_eq _ _).mpr (hz.mpr q)))
      rw [decide_eq_true B2]
      refine J_iconst (pc := 27) (v := nI 1) dX8_canSend_27 (by decide) ?_
      refine J_goto (pc := 28) (tgt := 32) dX8_canSend_28 rfl ?_
      refine J_zret (pc := 32) dX8_canSend_32 rfl rfl (by omega) (by omega) ?_
      exact ⟨rfl, rfl⟩
    · have B2 : ¬ lst (xB X 0 m) 60 < 60 := hz.mp ((lg_cmp_eq _ _).mp B2)
      rw [decide_eq_false B2]
      refine J_aload_n (pc := 16) dX8_canSend_16 rfl rfl ?_
      refine J_geti (pc := 17) (i := 2) cl6 (hW.s hm) (by decide) rfl (hW.n13 hm) kX8_15 dX8_canSend_17 ?_
      refine J_aload_n (pc := 20) dX8_canSend_20 rfl rfl ?_
      refine J_geti (pc := 21) (i := 3) cl6 (hW.s hm) (by decide) rfl (hW.n14 hm) kX8_43 dX8_canSend_21 ?_
      refine J_icmp_geN (pc := 24) (tgt := 31) dX8_canSend_24 rfl (by omega) (by omega) (fun B3 => ?_) (fun B3 => ?_)
      · rw [decide_eq_false (by omega)]
        refine J_iconst (pc := 31) (v := nI 0) dX8_canSend_31 (by decide) ?_
        refine J_zret (pc := 32) dX8_canSend_32 rfl rfl (by omega) (by omega) ?_
        exact ⟨rfl, rfl⟩
      · rw [decide_eq_true (by omega)]
        refine J_iconst (pc := 27) (v := nI 1) dX8_canSend_27 (by decide) ?_
        refine J_goto (pc := 28) (tgt := 32) dX8_canSend_28 rfl ?_
        refine J_zret (pc := 32) dX8_canSend_32 rfl rfl (by omega) (by omega) ?_
        exact ⟨rfl, rfl⟩
theorem xB_yB_f {X : XS} {u m i : Nat} {b : Bool} : (fun j => if j = i then b else xB X u m j) = xB (yB X u m i b) u m := funext fun j => by
  rw [xB_yB]
  by_cases q : j = i
  · rw [if_pos q, if_pos ⟨rfl, rfl, q⟩]
  · rw [if_neg q, if_neg (fun z => q z.2.2)]
/-- one more or one less of a set -/
theorem WX.wB {S : jS} {w : Nat → Nat → Nat} {hx m i : Nat} {X : XS} {b : Bool} {z : Int64} (h : WX S w hx X) (c k u : Nat) (hcu : (c, k, u) = (6, 5, 0) ∨ (c, k, u) = (4, 4, 1)) (hm : m < xV X 1 0) (hz : isB z (fun j => if j = i then b else xB X u m j)) : WX (uJ S c (w c m) k z) w hx (yB X u m i b) := by
  refine h.wJ c k u hcu (X' := yB X u m i b) rfl rfl (fun a d hn => funext fun j => ?_) hm (by rw [← xB_yB_f]; exact hz)
  rw [xB_yB, if_neg (fun q => hn ⟨q.1, q.2.1⟩)]
set_option maxRecDepth 100000 in
theorem cx_takePlace (l : Launch) (g : jG) (hgt : Nat) {S : jS} {w : Nat → Nat → Nat} {hx : Nat} {X : XS} {m : Nat} (hW : WX S w hx X) (hm : m < xV X 1 0) (ho : okW X m) (hh : 2 ≤ hgt) : CT l g mX8_takePlace hgt 0 0 [.ref (w 6 m)] S (xQ w hx (some (.int (nI (x_place X m)))) (x_takePlace X m)) := by
  have hz := isB_lst (hW.want hm) ho.b
  unfold x_place x_takePlace x_least
  refine CT_of qX8_takePlace (Nat.le_of_ble_eq_true rfl) ?_
  refine J_aload_n (pc := 0) dX8_takePlace_0 rfl rfl ?_
  refine J_getl (pc := 1) (i := 5) cl6 (hW.s hm) (by decide) rfl rfl kX8_21 dX8_takePlace_1 ?_
  refine J_lconst (pc := 4) (v := 0) dX8_takePlace_4 rfl ?_
  refine J_lcmp (pc := 5) dX8_takePlace_5 ?_
  refine J_if_ne (pc := 6) (tgt := 26) dX8_takePlace_6 rfl (fun B2 => ?_) (fun B2 => ?_)
  · have B2 : lst (xB X 0 m) 60 < 60 := Decidable.not_not.mp (fun q => B2 ((lg_cmp_eq _ _).mpr (hz.mpr q)))
    rw [if_pos B2, if_pos B2]
    refine J_aload_n (pc := 26) dX8_takePlace_26 rfl rfl ?_
    refine J_getl (pc := 27) (i := 5) cl6 (hW.s hm) (by decide) rfl rfl kX8_21 dX8_takePlace_27 ?_
    refine J_callS (pc := 30) (cx_least l g (hgt - 2) (hW.want hm) (show lst (xB X 0 m) 60 < 64 by omega) (lst_is B2) (fun j hj => lst_no hj)) qX0_least vX0_least kX8_52 dX8_takePlace_30 rfl rfl (Nat.le_of_ble_eq_true rfl) (by omega) (by omega) (by omega) ?_
    rintro _ _ ⟨rfl, rfl⟩
    refine J_istore_n (pc := 33) dX8_takePlace_33 rfl (by decide) ?_
    refine J_aload_n (pc := 34) dX8_takePlace_34 rfl rfl ?_
    refine J_aload_n (pc := 35) dX8_takePlace_35 rfl rfl ?_
    refine J_getl (pc := 36) (i := 5) cl6 (hW.s hm) (by decide) rfl rfl kX8_21 dX8_takePlace_36 ?_
    refine J_iload_n (pc := 39) dX8_takePlace_39 rfl rfl ?_
    refine J_callS (pc := 40) (cx_without l g (hgt - 1) _ _) qX0_without vX0_without kX8_57 dX8_takePlace_40 rfl rfl (Nat.le_of_ble_eq_true rfl) (by omega) (by omega) (by omega) ?_
    rintro _ _ ⟨rfl, rfl⟩
    refine J_putl (pc := 43) (i := 5) cl6 (hW.s hm) (by decide) rfl rfl rfl rfl kX8_21 dX8_takePlace_43 ?_
    refine J_iload_n (pc := 46) dX8_takePlace_46 rfl rfl ?_
    refine J_iret (pc := 47) dX8_takePlace_47 rfl (by omega) (by omega) ?_
    exact ⟨rfl, hW.wB 6 5 0 (Or.inl rfl) hm (isB_out (hW.want hm) (by omega))⟩
  · have B2 : ¬ lst (xB X 0 m) 60 < 60 := hz.mp ((lg_cmp_eq _ _).mp B2)
    rw [if_neg B2, if_neg B2]
    refine J_aload_n (pc := 9) dX8_takePlace_9 rfl rfl ?_
    refine J_dup (pc := 10) dX8_takePlace_10 rfl ?_
    refine J_geti (pc := 11) (i := 2) cl6 (hW.s hm) (by decide) rfl (hW.n13 hm) kX8_15 dX8_takePlace_11 ?_
    refine J_iconst (pc := 14) (v := nI 1) dX8_takePlace_14 (by decide) ?_
    refine J_iaddN (b := 1) dX8_takePlace_15 ?_
    refine J_puti (pc := 16) (i := 2) cl6 (hW.s hm) (by decide) rfl rfl rfl rfl kX8_15 dX8_takePlace_16 ?_
    have hW1 : WX (uI S 6 (w 6 m) 2 (nI (xV X 13 m + 1))) w hx (yV X 13 m (xV X 13 m + 1)) := hW.wV 13 m _ hm (by decide)
    refine J_aload_n (pc := 19) dX8_takePlace_19 rfl rfl ?_
    refine J_geti (pc := 20) (i := 2) cl6 (hW1.s hm) (by decide) rfl (sI_same _ _ _ _ _) kX8_15 dX8_takePlace_20 ?_
    refine J_iconst (pc := 23) (v := nI 1) dX8_takePlace_23 (by decide) ?_
    refine J_isubN (b := 1) dX8_takePlace_24 (by omega) ?_
    refine J_iret (pc := 25) dX8_takePlace_25 rfl (by omega) (by omega) ?_
    exact ⟨rfl, hW1⟩
set_option maxRecDepth 100000 in
theorem cx_want (l : Launch) (g : jG) (hgt : Nat) {S : jS} {w : Nat → Nat → Nat} {hx : Nat} {X : XS} {m i : Nat} (hW : WX S w hx X) (hm : m < xV X 1 0) (h13 : xV X 13 m ≤ 60) (hi : i < 64) (hh : 1 ≤ hgt) : CT l g mX8_want hgt 0 0 [.ref (w 6 m), .int (nI i)] S (xQ w hx none (x_want X m i)) := by
  unfold x_want
  refine CT_of qX8_want (Nat.le_of_ble_eq_true rfl) ?_
  refine J_iload_n (pc := 0) dX8_want_0 rfl rfl ?_
  refine J_aload_n (pc := 1) dX8_want_1 rfl rfl ?_
  refine J_geti (pc := 2) (i := 2) cl6 (hW.s hm) (by decide) rfl (hW.n13 hm) kX8_15 dX8_want_2 ?_
  refine J_icmp_geN (pc := 5) (tgt := 20) dX8_want_5 rfl (by omega) (by omega) (fun B => ?_) (fun B => ?_)
  · rw [if_neg (by omega)]
    refine J_vret (pc := 20) dX8_want_20 rfl (by omega) (by omega) ?_
    exact ⟨rfl, hW⟩
  · rw [if_pos (by omega)]
    refine J_aload_n (pc := 8) dX8_want_8 rfl rfl ?_
    refine J_aload_n (pc := 9) dX8_want_9 rfl rfl ?_
    refine J_getl (pc := 10) (i := 5) cl6 (hW.s hm) (by decide) rfl rfl kX8_21 dX8_want_10 ?_
    refine J_iload_n (pc := 13) dX8_want_13 rfl rfl ?_
    refine J_callS (pc := 14) (cx_with l g (hgt - 1) _ _) qX0_with vX0_with kX8_89 dX8_want_14 rfl rfl (Nat.le_of_ble_eq_true rfl) (by omega) (by omega) (by omega) ?_
    rintro _ _ ⟨rfl, rfl⟩
    refine J_putl (pc := 17) (i := 5) cl6 (hW.s hm) (by decide) rfl rfl rfl rfl kX8_21 dX8_want_17 ?_
    refine J_vret (pc := 20) dX8_want_20 rfl (by omega) (by omega) ?_
    exact ⟨rfl, hW.wB 6 5 0 (Or.inl rfl) hm (isB_or (hW.want hm) (by omega))⟩
set_option maxRecDepth 100000 in
theorem cx_end (l : Launch) (g : jG) (hgt : Nat) {S : jS} {w : Nat → Nat → Nat} {hx : Nat} {X : XS} {m a c : Nat} (hW : WX S w hx X) (hm : m < xV X 1 0) : CT l g mX8_end hgt 0 0 [.ref (w 6 m), .int (nI a), .int (nI c)] S (xQ w hx none (yV (yV X 12 m a) 18 m c)) := by
  refine CT_of qX8_end (Nat.le_of_ble_eq_true rfl) ?_
  refine J_aload_n (pc := 0) dX8_end_0 rfl rfl ?_
  refine J_iload_n (pc := 1) dX8_end_1 rfl rfl ?_
  refine J_puti (pc := 2) (i := 1) cl6 (hW.s hm) (by decide) rfl rfl rfl rfl kX8_11 dX8_end_2 ?_
  have hW1 : WX (uI S 6 (w 6 m) 1 (nI a)) w hx (yV X 12 m a) := hW.wV 12 m _ hm (by decide)
  refine J_aload_n (pc := 5) dX8_end_5 rfl rfl ?_
  refine J_iload_n (pc := 6) dX8_end_6 rfl rfl ?_
  refine J_puti (pc := 7) (i := 8) cl6 (hW1.s hm) (by decide) rfl rfl rfl rfl kX8_31 dX8_end_7 ?_
  refine J_vret (pc := 10) dX8_end_10 rfl (by omega) (by omega) ?_
  exact ⟨rfl, hW1.wV 18 m _ hm (by decide)⟩
set_option maxRecDepth 100000 in
theorem cx_targetOfGrant (l : Launch) (g : jG) (hgt : Nat) {S : jS} {c : Nat} (hc : c < 2 ^ 31) : CT l g mX6_targetOfGrant hgt 0 0 [.int (nI c)] S (jPure (.int (nI (c / 4))) S) := by
  refine CT_of qX6_targetOfGrant (Nat.le_of_ble_eq_true rfl) ?_
  refine J_iload_n (pc := 0) dX6_targetOfGrant_0 rfl rfl ?_
  refine J_iconst (pc := 1) (v := nI 4) dX6_targetOfGrant_1 (by decide) ?_
  refine J_idivN (b := 4) dX6_targetOfGrant_2 hc (by decide) (by decide) ?_
  refine J_iret (pc := 3) dX6_targetOfGrant_3 rfl (by omega) (by omega) ?_
  exact ⟨rfl, rfl⟩
set_option maxRecDepth 100000 in
theorem cx_levelOfGrant (l : Launch) (g : jG) (hgt : Nat) {S : jS} {c : Nat} (hc : c < 2 ^ 31) : CT l g mX6_levelOfGrant hgt 0 0 [.int (nI c)] S (jPure (.int (nI (c % 4))) S) := by
  refine CT_of qX6_levelOfGrant (Nat.le_of_ble_eq_true rfl) ?_
  refine J_iload_n (pc := 0) dX6_levelOfGrant_0 rfl rfl ?_
  refine J_iconst (pc := 1) (v := nI 4) dX6_levelOfGrant_1 (by decide) ?_
  refine J_iremN (b := 4) dX6_levelOfGrant_2 hc (by decide) (by decide) ?_
  refine J_iret (pc := 3) dX6_levelOfGrant_3 rfl (by omega) (by omega) ?_
  exact ⟨rfl, rfl⟩
set_option maxRecDepth 100000 in
theorem cx_grantedOfAsk (l : Launch) (g : jG) (hgt : Nat) {S : jS} {c : Nat} (hc : c < 2 ^ 31) : CT l g mX6_grantedOfAsk hgt 0 0 [.int (nI c)] S (jPure (.int (nI (c / 64))) S) := by
  refine CT_of qX6_grantedOfAsk (Nat.le_of_ble_eq_true rfl) ?_
  refine J_iload_n (pc := 0) dX6_grantedOfAsk_0 rfl rfl ?_
  refine J_bipush (pc := 1) (v := nI 64) dX6_grantedOfAsk_1 (by decide) ?_
  refine J_idivN (b := 64) dX6_grantedOfAsk_3 hc (by decide) (by decide) ?_
  refine J_iret (pc := 4) dX6_grantedOfAsk_4 rfl (by omega) (by omega) ?_
  exact ⟨rfl, rfl⟩
set_option maxRecDepth 100000 in
theorem cx_placeOfAsk (l : Launch) (g : jG) (hgt : Nat) {S : jS} {c : Nat} (hc : c < 2 ^ 31) : CT l g mX6_placeOfAsk hgt 0 0 [.int (nI c)] S (jPure (.int (nI (c % 64))) S) := by
  refine CT_of qX6_placeOfAsk (Nat.le_of_ble_eq_true rfl) ?_
  refine J_iload_n (pc := 0) dX6_placeOfAsk_0 rfl rfl ?_
  refine J_bipush (pc := 1) (v := nI 64) dX6_placeOfAsk_1 (by decide) ?_
  refine J_iremN (b := 64) dX6_placeOfAsk_3 hc (by decide) (by decide) ?_
  refine J_iret (pc := 4) dX6_placeOfAsk_4 rfl (by omega) (by omega) ?_
  exact ⟨rfl, rfl⟩
theorem yV_yV (X : XS) (f i a b : Nat) : yV (yV X f i a) f i b = yV X f i b := by
  unfold yV
  refine Prod.ext ?_ rfl
  funext f' i'
  show (if f' = f ∧ i' = i then b else if f' = f ∧ i' = i then a else X.1 f' i') = if f' = f ∧ i' = i then b else X.1 f' i'
  split <;> rfl
theorem max_if (a b : Nat) : max a b = if b > a then b else a := by
  split <;> omega
set_option maxRecDepth 100000 in
theorem cx_growQuiet (l : Launch) (g : jG) (hgt : Nat) {S : jS} {w : Nat → Nat → Nat} {hx : Nat} {X : XS} {m : Nat} (hW : WX S w hx X) (hm : m < xV X 1 0) (h12 : xV X 12 m ≤ 2) (h13 : xV X 13 m ≤ 60) (h16 : xV X 16 m < 40) (h17 : xV X 12 m = 0 → xV X 17 m < 6) (hh : 2 ≤ hgt) : CT l g mX8_growQuiet hgt 0 0 [.ref (w 6 m), .int (nI (xV X 0 0))] S (xQ w hx none (if xV X 12 m = 0 then x_watch1 X m else X)) := by
  refine CT_of qX8_growQuiet (Nat.le_of_ble_eq_true rfl) ?_
  refine J_aload_n (pc := 0) dX8_growQuiet_0 rfl rfl ?_
  refine J_geti (pc := 1) (i := 1) cl6 (hW.s hm) (by decide) rfl (hW.n12 hm) kX8_11 dX8_growQuiet_1 ?_
  refine J_if_eqN (pc := 4) (tgt := 8) dX8_growQuiet_4 rfl (by omega) (fun B => ?_) (fun B => ?_)
  · have h17 := h17 B
    rw [if_pos B]
    unfold x_watch1
    refine J_aload_n (pc := 8) dX8_growQuiet_8 rfl rfl ?_
    refine J_dup (pc := 9) dX8_growQuiet_9 rfl ?_
    refine J_geti (pc := 10) (i := 6) cl6 (hW.s hm) (by decide) rfl (hW.n16 hm) kX8_25 dX8_growQuiet_10 ?_
    refine J_iconst (pc := 13) (v := nI 1) dX8_growQuiet_13 (by decide) ?_
    refine J_iaddN (b := 1) dX8_growQuiet_14 ?_
    refine J_puti (pc := 15) (i := 6) cl6 (hW.s hm) (by decide) rfl rfl rfl rfl kX8_25 dX8_growQuiet_15 ?_
    have hW1 : WX (uI S 6 (w 6 m) 6 (nI (xV X 16 m + 1))) w hx (yV X 16 m (xV X 16 m + 1)) := hW.wV 16 m _ hm (by decide)
    refine J_aload_n (pc := 18) dX8_growQuiet_18 rfl rfl ?_
    refine J_geti (pc := 19) (i := 6) cl6 (hW1.s hm) (by decide) rfl (sI_same _ _ _ _ _) kX8_25 dX8_growQuiet_19 ?_
    refine J_bipush (pc := 22) (v := nI 40) dX8_growQuiet_22 (by decide) ?_
    refine J_icmp_geN (pc := 24) (tgt := 28) dX8_growQuiet_24 rfl (by omega) (by omega) (fun B2 => ?_) (fun B2 => ?_)
    · rw [if_neg (by omega)]
      refine J_aload_n (pc := 28) dX8_growQuiet_28 rfl rfl ?_
      refine J_iconst (pc := 29) (v := nI 0) dX8_growQuiet_29 (by decide) ?_
      refine J_puti (pc := 30) (i := 6) cl6 (hW1.s hm) (by decide) rfl rfl rfl rfl kX8_25 dX8_growQuiet_30 ?_
      have hW2 : WX (uI (uI S 6 (w 6 m) 6 (nI (xV X 16 m + 1))) 6 (w 6 m) 6 (nI 0)) w hx (yV X 16 m 0) := by
        rw [← yV_yV X 16 m (xV X 16 m + 1) 0]
        exact hW1.wV 16 m _ hm (by decide)
      generalize uI (uI S 6 (w 6 m) 6 (nI (xV X 16 m + 1))) 6 (w 6 m) 6 (nI 0) = S2 at hW2 ⊢
      have h2 : sI S2 6 (w 6 m) 7 = nI (xV X 17 m) := hW2.n17 hm
      refine J_aload_n (pc := 33) dX8_growQuiet_33 rfl rfl ?_
      refine J_dup (pc := 34) dX8_growQuiet_34 rfl ?_
      refine J_geti (pc := 35) (i := 7) cl6 (hW2.s hm) (by decide) rfl h2 kX8_28 dX8_growQuiet_35 ?_
      refine J_iconst (pc := 38) (v := nI 1) dX8_growQuiet_38 (by decide) ?_
      refine J_iaddN (b := 1) dX8_growQuiet_39 ?_
      refine J_puti (pc := 40) (i := 7) cl6 (hW2.s hm) (by decide) rfl rfl rfl rfl kX8_28 dX8_growQuiet_40 ?_
      have hW3 : WX (uI S2 6 (w 6 m) 7 (nI (xV X 17 m + 1))) w hx (yV (yV X 16 m 0) 17 m (xV X 17 m + 1)) := hW2.wV 17 m _ hm (by decide)
      refine J_aload_n (pc := 43) dX8_growQuiet_43 rfl rfl ?_
      refine J_geti (pc := 44) (i := 7) cl6 (hW3.s hm) (by decide) rfl (sI_same _ _ _ _ _) kX8_28 dX8_growQuiet_44 ?_
      refine J_bipush (pc := 47) (v := nI 6) dX8_growQuiet_47 (by decide) ?_
      refine J_icmp_ltN (pc := 49) (tgt := 61) dX8_growQuiet_49 rfl (by omega) (by omega) (fun B3 => ?_) (fun B3 => ?_)
      · rw [if_neg (by omega)]
        refine J_aload_n (pc := 61) dX8_growQuiet_61 rfl rfl ?_
        refine J_iconst (pc := 62) (v := nI 0) dX8_growQuiet_62 (by decide) ?_
        refine J_callV (pc := 63) (cx_want l g (hgt - 1) (i := 0) hW3 hm h13 (by omega) (by omega)) qX8_want vX8_want cl6 rfl (hW3.s hm) kX8_81 dX8_growQuiet_63 rfl rfl (Nat.le_of_ble_eq_true rfl) (by omega) (by omega) (by omega) ?_
        rintro _ _ ⟨rfl, hW⟩
        refine J_vret (pc := 66) dX8_growQuiet_66 rfl (by omega) (by omega) ?_
        exact ⟨rfl, hW⟩
      · rw [if_pos (by omega)]
        refine J_aload_n (pc := 52) dX8_growQuiet_52 rfl rfl ?_
        refine J_iconst (pc := 53) (v := nI 2) dX8_growQuiet_53 (by decide) ?_
        refine J_iload_n (pc := 54) dX8_growQuiet_54 rfl rfl ?_
        refine J_callV (pc := 55) (cx_end l g (hgt - 1) (a := 2) (c := xV X 0 0) hW3 hm) qX8_end vX8_end cl6 rfl (hW3.s hm) kX8_85 dX8_growQuiet_55 rfl rfl (Nat.le_of_ble_eq_true rfl) (by omega) (by omega) (by omega) ?_
        rintro _ _ ⟨rfl, hW⟩
        refine J_goto (pc := 58) (tgt := 66) dX8_growQuiet_58 rfl ?_
        refine J_vret (pc := 66) dX8_growQuiet_66 rfl (by omega) (by omega) ?_
        exact ⟨rfl, hW⟩
    · rw [if_pos (by omega)]
      refine J_vret (pc := 27) dX8_growQuiet_27 rfl (by omega) (by omega) ?_
      exact ⟨rfl, hW1⟩
  · rw [if_neg B]
    refine J_vret (pc := 7) dX8_growQuiet_7 rfl (by omega) (by omega) ?_
    exact ⟨rfl, hW⟩
set_option maxRecDepth 100000 in
theorem cx_takeAnswer (l : Launch) (g : jG) (hgt : Nat) {S : jS} {w : Nat → Nat → Nat} {hx : Nat} {X : XS} {m k c : Nat} (hW : WX S w hx X) (hm : m < xV X 1 0) (h12 : xV X 12 m ≤ 2) (h13 : xV X 13 m ≤ 60) (h14 : xV X 14 m ≤ 60) (hk : k < 4) (hc : c < 4096) (hh : 2 ≤ hgt) : CT l g mX8_takeAnswer hgt 0 0 [.ref (w 6 m), .int (nI k), .int (nI c), .int (nI (xV X 0 0))] S (xQ w hx none (x_answer X k m c)) := by
  unfold x_answer
  refine CT_of qX8_takeAnswer (Nat.le_of_ble_eq_true rfl) ?_
  refine J_aload_n (pc := 0) dX8_takeAnswer_0 rfl rfl ?_
  refine J_geti (pc := 1) (i := 1) cl6 (hW.s hm) (by decide) rfl (hW.n12 hm) kX8_11 dX8_takeAnswer_1 ?_
  refine J_if_eqN (pc := 4) (tgt := 8) dX8_takeAnswer_4 rfl (by omega) (fun B => ?_) (fun B => ?_)
  · rw [if_neg (by omega)]
    refine J_aload_n (pc := 8) dX8_takeAnswer_8 rfl rfl ?_
    refine J_iconst (pc := 9) (v := nI 0) dX8_takeAnswer_9 (by decide) ?_
    refine J_puti (pc := 10) (i := 6) cl6 (hW.s hm) (by decide) rfl rfl rfl rfl kX8_25 dX8_takeAnswer_10 ?_
    have hW1 : WX (uI S 6 (w 6 m) 6 (nI 0)) w hx (yV X 16 m 0) := hW.wV 16 m _ hm (by decide)
    refine J_aload_n (pc := 13) dX8_takeAnswer_13 rfl rfl ?_
    refine J_iconst (pc := 14) (v := nI 0) dX8_takeAnswer_14 (by decide) ?_
    refine J_puti (pc := 15) (i := 7) cl6 (hW1.s hm) (by decide) rfl rfl rfl rfl kX8_28 dX8_takeAnswer_15 ?_
    have hW2 : WX (uI (uI S 6 (w 6 m) 6 (nI 0)) 6 (w 6 m) 7 (nI 0)) w hx (yV (yV X 16 m 0) 17 m 0) := hW1.wV 17 m _ hm (by decide)
    generalize uI (uI S 6 (w 6 m) 6 (nI 0)) 6 (w 6 m) 7 (nI 0) = S2 at hW2 ⊢
    have h14' : sI S2 6 (w 6 m) 3 = nI (xV X 14 m) := hW2.n14 hm
    refine J_iload_n (pc := 18) dX8_takeAnswer_18 rfl rfl ?_
    refine J_iconst (pc := 19) (v := nI 1) dX8_takeAnswer_19 (by decide) ?_
    refine J_icmp_neN (pc := 20) (tgt := 49) dX8_takeAnswer_20 rfl (by omega) (by omega) (fun B2 => ?_) (fun B2 => ?_)
    · rw [if_neg B2]
      refine J_iload_n (pc := 49) dX8_takeAnswer_49 rfl rfl ?_
      refine J_iconst (pc := 50) (v := nI 2) dX8_takeAnswer_50 (by decide) ?_
      refine J_icmp_neN (pc := 51) (tgt := 80) dX8_takeAnswer_51 rfl (by omega) (by omega) (fun B3 => ?_) (fun B3 => ?_)
      · rw [if_neg B3]
        refine J_aload_n (pc := 80) dX8_takeAnswer_80 rfl rfl ?_
        refine J_iconst (pc := 81) (v := nI 1) dX8_takeAnswer_81 (by decide) ?_
        refine J_iload_n (pc := 82) dX8_takeAnswer_82 rfl rfl ?_
        refine J_callV (pc := 83) (cx_end l g (hgt - 1) (a := 1) (c := xV X 0 0) hW2 hm) qX8_end vX8_end cl6 rfl (hW2.s hm) kX8_85 dX8_takeAnswer_83 rfl rfl (Nat.le_of_ble_eq_true rfl) (by omega) (by omega) (by omega) ?_
        rintro _ _ ⟨rfl, hW⟩
        refine J_vret (pc := 86) dX8_takeAnswer_86 rfl (by omega) (by omega) ?_
        exact ⟨rfl, hW⟩
      · rw [if_pos B3]
        refine J_aload_n (pc := 54) dX8_takeAnswer_54 rfl rfl ?_
        refine J_aload_n (pc := 55) dX8_takeAnswer_55 rfl rfl ?_
        refine J_geti (pc := 56) (i := 3) cl6 (hW2.s hm) (by decide) rfl h14' kX8_43 dX8_takeAnswer_56 ?_
        refine J_iload_n (pc := 59) dX8_takeAnswer_59 rfl rfl ?_
        refine J_callS (pc := 60) (cx_grantedOfAsk l g (hgt - 1) (by omega)) qX6_grantedOfAsk vX6_grantedOfAsk kX8_75 dX8_takeAnswer_60 rfl rfl (Nat.le_of_ble_eq_true rfl) (by omega) (by omega) (by omega) ?_
        rintro _ _ ⟨rfl, rfl⟩
        refine J_callS (pc := 63) (cx_max l g (hgt - 1) (by omega) (by omega)) qJ9_max_7cf53 vJ9_max_7cf53 kX8_69 dX8_takeAnswer_63 rfl rfl (Nat.le_of_ble_eq_true rfl) (by omega) (by omega) (by omega) ?_
        rintro _ _ ⟨rfl, rfl⟩
        rw [max_if]
        refine J_puti (pc := 66) (i := 3) cl6 (hW2.s hm) (by decide) rfl rfl rfl rfl kX8_43 dX8_takeAnswer_66 ?_
        have hW3 := hW2.wV 14 m (if c / 64 > xV X 14 m then c / 64 else xV X 14 m) hm (by decide)
        refine J_aload_n (pc := 69) dX8_takeAnswer_69 rfl rfl ?_
        refine J_iload_n (pc := 70) dX8_takeAnswer_70 rfl rfl ?_
        refine J_callS (pc := 71) (cx_placeOfAsk l g (hgt - 1) (by omega)) qX6_placeOfAsk vX6_placeOfAsk kX8_78 dX8_takeAnswer_71 rfl rfl (Nat.le_of_ble_eq_true rfl) (by omega) (by omega) (by omega) ?_
        rintro _ _ ⟨rfl, rfl⟩
        refine J_callV (pc := 74) (cx_want l g (hgt - 1) (i := c % 64) hW3 hm h13 (by omega) (by omega)) qX8_want vX8_want cl6 rfl (hW3.s hm) kX8_81 dX8_takeAnswer_74 rfl rfl (Nat.le_of_ble_eq_true rfl) (by omega) (by omega) (by omega) ?_
        rintro _ _ ⟨rfl, hW⟩
        refine J_goto (pc := 77) (tgt := 86) dX8_takeAnswer_77 rfl ?_
        refine J_vret (pc := 86) dX8_takeAnswer_86 rfl (by omega) (by omega) ?_
        exact ⟨rfl, hW⟩
    · rw [if_pos B2]
      refine J_aload_n (pc := 23) dX8_takeAnswer_23 rfl rfl ?_
      refine J_aload_n (pc := 24) dX8_takeAnswer_24 rfl rfl ?_
      refine J_geti (pc := 25) (i := 3) cl6 (hW2.s hm) (by decide) rfl h14' kX8_43 dX8_takeAnswer_25 ?_
      refine J_iload_n (pc := 28) dX8_takeAnswer_28 rfl rfl ?_
      refine J_callS (pc := 29) (cx_targetOfGrant l g (hgt - 1) (by omega)) qX6_targetOfGrant vX6_targetOfGrant kX8_63 dX8_takeAnswer_29 rfl rfl (Nat.le_of_ble_eq_true rfl) (by omega) (by omega) (by omega) ?_
      rintro _ _ ⟨rfl, rfl⟩
      refine J_callS (pc := 32) (cx_max l g (hgt - 1) (by omega) (by omega)) qJ9_max_7cf53 vJ9_max_7cf53 kX8_69 dX8_takeAnswer_32 rfl rfl (Nat.le_of_ble_eq_true rfl) (by omega) (by omega) (by omega) ?_
      rintro _ _ ⟨rfl, rfl⟩
      rw [max_if]
      refine J_puti (pc := 35) (i := 3) cl6 (hW2.s hm) (by decide) rfl rfl rfl rfl kX8_43 dX8_takeAnswer_35 ?_
      have hW3 := hW2.wV 14 m (if c / 4 > xV X 14 m then c / 4 else xV X 14 m) hm (by decide)
      refine J_aload_n (pc := 38) dX8_takeAnswer_38 rfl rfl ?_
      refine J_iload_n (pc := 39) dX8_takeAnswer_39 rfl rfl ?_
      refine J_callS (pc := 40) (cx_levelOfGrant l g (hgt - 1) (by omega)) qX6_levelOfGrant vX6_levelOfGrant kX8_72 dX8_takeAnswer_40 rfl rfl (Nat.le_of_ble_eq_true rfl) (by omega) (by omega) (by omega) ?_
      rintro _ _ ⟨rfl, rfl⟩
      refine J_puti (pc := 43) (i := 4) cl6 (hW3.s hm) (by decide) rfl rfl rfl rfl kX8_18 dX8_takeAnswer_43 ?_
      refine J_goto (pc := 46) (tgt := 86) dX8_takeAnswer_46 rfl ?_
      refine J_vret (pc := 86) dX8_takeAnswer_86 rfl (by omega) (by omega) ?_
      exact ⟨rfl, hW3.wV 15 m _ hm (by decide)⟩
  · rw [if_pos B]
    refine J_vret (pc := 7) dX8_takeAnswer_7 rfl (by omega) (by omega) ?_
    exact ⟨rfl, hW⟩
