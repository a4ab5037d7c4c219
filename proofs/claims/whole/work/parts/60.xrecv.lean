/-! THE CLASS: what a message is for its receiver -/
theorem WX.q {S : jS} {w : Nat → Nat → Nat} {hx : Nat} {X : XS} (h : WX S w hx X) {m : Nat} (hm : m < xV X 1 0) : sAt S 4 (w 4 m) := h.o 4 m hm
theorem WX.len4 {S : jS} {w : Nat → Nat → Nat} {hx : Nat} {X : XS} (h : WX S w hx X) {m : Nat} (hm : m < xV X 1 0) : sI S 4 (w 4 m) 0 = nI (xV X 10 m) := (h.2.2.2.2.1 m hm).2.2.1
theorem WX.mod4 {S : jS} {w : Nat → Nat → Nat} {hx : Nat} {X : XS} (h : WX S w hx X) {m : Nat} (hm : m < xV X 1 0) : sI S 4 (w 4 m) 1 = nI (xV X 11 m) := (h.2.2.2.2.1 m hm).2.2.2
theorem WX.held {S : jS} {w : Nat → Nat → Nat} {hx : Nat} {X : XS} (h : WX S w hx X) {m : Nat} (hm : m < xV X 1 0) : isB (sJ S 4 (w 4 m) 4) (xB X 1 m) := (h.2.2.2.2.2.1 m hm).2
theorem WX.n19 {S : jS} {w : Nat → Nat → Nat} {hx : Nat} {X : XS} (h : WX S w hx X) {m : Nat} (hm : m < xV X 1 0) : sI S 4 (w 4 m) 2 = nI (xV X 19 m) := h.v 19 m hm
theorem WX.n20 {S : jS} {w : Nat → Nat → Nat} {hx : Nat} {X : XS} (h : WX S w hx X) {m : Nat} (hm : m < xV X 1 0) : sI S 4 (w 4 m) 3 = nI (xV X 20 m) := h.v 20 m hm
theorem WX.n21 {S : jS} {w : Nat → Nat → Nat} {hx : Nat} {X : XS} (h : WX S w hx X) {m : Nat} (hm : m < xV X 1 0) : sI S 4 (w 4 m) 5 = nI (xV X 21 m) := h.v 21 m hm
theorem WX.n22 {S : jS} {w : Nat → Nat → Nat} {hx : Nat} {X : XS} (h : WX S w hx X) {m : Nat} (hm : m < xV X 1 0) : sI S 4 (w 4 m) 6 = nI (xV X 22 m) := h.v 22 m hm
theorem WX.n23 {S : jS} {w : Nat → Nat → Nat} {hx : Nat} {X : XS} (h : WX S w hx X) {m : Nat} (hm : m < xV X 1 0) : sI S 4 (w 4 m) 7 = nI (xV X 23 m) := h.v 23 m hm
theorem WX.n24 {S : jS} {w : Nat → Nat → Nat} {hx : Nat} {X : XS} (h : WX S w hx X) {m : Nat} (hm : m < xV X 1 0) : sI S 4 (w 4 m) 8 = nI (xV X 24 m) := h.v 24 m hm
theorem WX.n25 {S : jS} {w : Nat → Nat → Nat} {hx : Nat} {X : XS} (h : WX S w hx X) {m : Nat} (hm : m < xV X 1 0) : sI S 4 (w 4 m) 9 = nI (xV X 25 m) := h.v 25 m hm
theorem cnt_not (f : Nat → Bool) : ∀ n, cnt f n + cnt (fun i => !f i) n = n
  | 0 => rfl
  | n + 1 => by
    have := cnt_not f n
    show (cnt f n + if f n then 1 else 0) + (cnt (fun i => !f i) n + if !f n then 1 else 0) = n + 1
    cases f n <;> simp <;> omega
theorem cnt_ge {f : Nat → Bool} {a : Nat} (h : ∀ i, f i = true → i < a) : ∀ d, cnt f (a + d) = cnt f a
  | 0 => rfl
  | d + 1 => by
    have := cnt_ge h d
    show cnt f (a + d) + (if f (a + d) then 1 else 0) = _
    rw [this]
    cases q : f (a + d) with
    | false => rfl
    | true => have := h _ q; omega
/-- what is in of m lies below its length -/
def okH (X : XS) (m : Nat) : Prop := (∀ i, xB X 1 m i = true → i < xV X 10 m) ∧ xV X 10 m ≤ 60
theorem okH.cnt {X : XS} {m : Nat} (h : okH X m) : cnt (xB X 1 m) 64 + x_missing X m = xV X 10 m := by
  have e := cnt_ge h.1 (64 - xV X 10 m)
  have := h.2
  rw [show xV X 10 m + (64 - xV X 10 m) = 64 by omega] at e
  rw [e]
  exact cnt_not _ _
theorem xOK.okH {X : XS} (h : xOK X) {m : Nat} (hm : m < xV X 1 0) : okH X m := by
  have a := h.msg (m := m) (by have := h.many; omega)
  exact ⟨(h.set m).2.1, a.1.2.2.1⟩
set_option maxRecDepth 100000 in
theorem cx_isUnknown (l : Launch) (g : jG) (hgt : Nat) {S : jS} {w : Nat → Nat → Nat} {hx : Nat} {X : XS} {m : Nat} (hW : WX S w hx X) (hm : m < xV X 1 0) (h19 : xV X 19 m ≤ 2) : CT l g mX6_isUnknown hgt 0 0 [.ref (w 4 m)] S (jPure (.int (bI (decide (xV X 19 m = 0)))) S) := by
  refine CT_of qX6_isUnknown (Nat.le_of_ble_eq_true rfl) ?_
  refine J_aload_n (pc := 0) dX6_isUnknown_0 rfl rfl ?_
  refine J_geti (pc := 1) (i := 2) cl4 (hW.q hm) (by decide) rfl (hW.n19 hm) kX6_11 dX6_isUnknown_1 ?_
  refine J_if_neN (pc := 4) (tgt := 11) dX6_isUnknown_4 rfl (by omega) (fun B => ?_) (fun B => ?_)
  · rw [decide_eq_false B]
    refine J_iconst (pc := 11) (v := nI 0) dX6_isUnknown_11 (by decide) ?_
    refine J_zret (pc := 12) dX6_isUnknown_12 rfl rfl (by omega) (by omega) ?_
    exact ⟨rfl, rfl⟩
  · rw [decide_eq_true B]
    refine J_iconst (pc := 7) (v := nI 1) dX6_isUnknown_7 (by decide) ?_
    refine J_goto (pc := 8) (tgt := 12) dX6_isUnknown_8 rfl ?_
    refine J_zret (pc := 12) dX6_isUnknown_12 rfl rfl (by omega) (by omega) ?_
    exact ⟨rfl, rfl⟩
set_option maxRecDepth 100000 in
theorem cx_isKnown (l : Launch) (g : jG) (hgt : Nat) {S : jS} {w : Nat → Nat → Nat} {hx : Nat} {X : XS} {m : Nat} (hW : WX S w hx X) (hm : m < xV X 1 0) (h19 : xV X 19 m ≤ 2) : CT l g mX6_isKnown hgt 0 0 [.ref (w 4 m)] S (jPure (.int (bI (decide (xV X 19 m = 1)))) S) := by
  refine CT_of qX6_isKnown (Nat.le_of_ble_eq_true rfl) ?_
  refine J_aload_n (pc := 0) dX6_isKnown_0 rfl rfl ?_
  refine J_geti (pc := 1) (i := 2) cl4 (hW.q hm) (by decide) rfl (hW.n19 hm) kX6_11 dX6_isKnown_1 ?_
  refine J_iconst (pc := 4) (v := nI 1) dX6_isKnown_4 (by decide) ?_
  refine J_icmp_neN (pc := 5) (tgt := 12) dX6_isKnown_5 rfl (by omega) (by omega) (fun B => ?_) (fun B => ?_)
  · rw [decide_eq_false B]
    refine J_iconst (pc := 12) (v := nI 0) dX6_isKnown_12 (by decide) ?_
    refine J_zret (pc := 13) dX6_isKnown_13 rfl rfl (by omega) (by omega) ?_
    exact ⟨rfl, rfl⟩
  · rw [decide_eq_true B]
    refine J_iconst (pc := 8) (v := nI 1) dX6_isKnown_8 (by decide) ?_
    refine J_goto (pc := 9) (tgt := 13) dX6_isKnown_9 rfl ?_
    refine J_zret (pc := 13) dX6_isKnown_13 rfl rfl (by omega) (by omega) ?_
    exact ⟨rfl, rfl⟩
set_option maxRecDepth 100000 in
theorem cx_isFinished (l : Launch) (g : jG) (hgt : Nat) {S : jS} {w : Nat → Nat → Nat} {hx : Nat} {X : XS} {m : Nat} (hW : WX S w hx X) (hm : m < xV X 1 0) (h19 : xV X 19 m ≤ 2) : CT l g mX6_isFinished hgt 0 0 [.ref (w 4 m)] S (jPure (.int (bI (decide (xV X 19 m = 2)))) S) := by
  refine CT_of qX6_isFinished (Nat.le_of_ble_eq_true rfl) ?_
  refine J_aload_n (pc := 0) dX6_isFinished_0 rfl rfl ?_
  refine J_geti (pc := 1) (i := 2) cl4 (hW.q hm) (by decide) rfl (hW.n19 hm) kX6_11 dX6_isFinished_1 ?_
  refine J_iconst (pc := 4) (v := nI 2) dX6_isFinished_4 (by decide) ?_
  refine J_icmp_neN (pc := 5) (tgt := 12) dX6_isFinished_5 rfl (by omega) (by omega) (fun B => ?_) (fun B => ?_)
  · rw [decide_eq_false B]
    refine J_iconst (pc := 12) (v := nI 0) dX6_isFinished_12 (by decide) ?_
    refine J_zret (pc := 13) dX6_isFinished_13 rfl rfl (by omega) (by omega) ?_
    exact ⟨rfl, rfl⟩
  · rw [decide_eq_true B]
    refine J_iconst (pc := 8) (v := nI 1) dX6_isFinished_8 (by decide) ?_
    refine J_goto (pc := 9) (tgt := 13) dX6_isFinished_9 rfl ?_
    refine J_zret (pc := 13) dX6_isFinished_13 rfl rfl (by omega) (by omega) ?_
    exact ⟨rfl, rfl⟩
set_option maxRecDepth 100000 in
theorem cx_missing (l : Launch) (g : jG) (hgt : Nat) {S : jS} {w : Nat → Nat → Nat} {hx : Nat} {X : XS} {m : Nat} (hW : WX S w hx X) (hm : m < xV X 1 0) (ho : okH X m) (hh : 1 ≤ hgt) : CT l g mX6_missing hgt 0 0 [.ref (w 4 m)] S (jPure (.int (nI (x_missing X m))) S) := by
  have hc := ho.cnt
  refine CT_of qX6_missing (Nat.le_of_ble_eq_true rfl) ?_
  refine J_aload_n (pc := 0) dX6_missing_0 rfl rfl ?_
  refine J_geti (pc := 1) (i := 0) cl4 (hW.q hm) (by decide) rfl (hW.len4 hm) kX6_37 dX6_missing_1 ?_
  refine J_aload_n (pc := 4) dX6_missing_4 rfl rfl ?_
  refine J_getl (pc := 5) (i := 4) cl4 (hW.q hm) (by decide) rfl rfl kX6_18 dX6_missing_5 ?_
  refine J_callS (pc := 8) (cx_bitCount l g (hgt - 1) (hW.held hm)) qJ13_bitCount_95d88 vJ13_bitCount_95d88 kX6_50 dX6_missing_8 rfl rfl (Nat.le_of_ble_eq_true rfl) (by omega) (by omega) (by omega) ?_
  rintro _ _ ⟨rfl, rfl⟩
  refine J_isubN dX6_missing_11 (by omega) ?_
  refine J_iret (pc := 12) dX6_missing_12 rfl (by omega) (by omega) ?_
  rw [show xV X 10 m - cnt (xB X 1 m) 64 = x_missing X m by omega]
  exact ⟨rfl, rfl⟩
set_option maxRecDepth 100000 in
theorem cx_begin (l : Launch) (g : jG) (hgt : Nat) {S : jS} {w : Nat → Nat → Nat} {hx : Nat} {X : XS} {m : Nat} (hW : WX S w hx X) (hm : m < xV X 1 0) {a : Nat} (hb : ∀ i, xB X 1 m i = false) (h10 : xV X 10 m ≤ 60) (hh : 1 ≤ hgt) : CT l g mX6_begin hgt 0 0 [.ref (w 4 m), .int (nI a)] S (xQ w hx none (yV (yV (yV X 19 m 1) 24 m a) 21 m (if xV X 10 m < 4 then xV X 10 m else 4))) := by
  refine CT_of qX6_begin (Nat.le_of_ble_eq_true rfl) ?_
  refine J_aload_n (pc := 0) dX6_begin_0 rfl rfl ?_
  refine J_iconst (pc := 1) (v := nI 1) dX6_begin_1 (by decide) ?_
  refine J_puti (pc := 2) (i := 2) cl4 (hW.q hm) (by decide) rfl rfl rfl rfl kX6_11 dX6_begin_2 ?_
  have hW1 : WX (uI S 4 (w 4 m) 2 (nI 1)) w hx (yV X 19 m 1) := hW.wV 19 m _ hm (by decide)
  refine J_aload_n (pc := 5) dX6_begin_5 rfl rfl ?_
  refine J_iload_n (pc := 6) dX6_begin_6 rfl rfl ?_
  refine J_puti (pc := 7) (i := 8) cl4 (hW1.q hm) (by decide) rfl rfl rfl rfl kX6_31 dX6_begin_7 ?_
  have hW2 : WX (uI (uI S 4 (w 4 m) 2 (nI 1)) 4 (w 4 m) 8 (nI a)) w hx (yV (yV X 19 m 1) 24 m a) := hW1.wV 24 m _ hm (by decide)
  refine J_aload_n (pc := 10) dX6_begin_10 rfl rfl ?_
  refine J_lconst (pc := 11) (v := 0) dX6_begin_11 rfl ?_
  refine J_putl (pc := 12) (i := 4) cl4 (hW2.q hm) (by decide) rfl rfl rfl rfl kX6_18 dX6_begin_12 ?_
  have hW3 := hW2.wJ (X' := yV (yV X 19 m 1) 24 m a) (z := 0) 4 4 1 (Or.inr rfl) rfl rfl (fun _ _ _ => rfl) hm (isB_congr isB_0 (fun i _ => (hb i).symm))
  have h10' : sI (uJ (uI (uI S 4 (w 4 m) 2 (nI 1)) 4 (w 4 m) 8 (nI a)) 4 (w 4 m) 4 0) 4 (w 4 m) 0 = nI (xV X 10 m) := hW3.len4 hm
  refine J_aload_n (pc := 15) dX6_begin_15 rfl rfl ?_
  refine J_iconst (pc := 16) (v := nI 4) dX6_begin_16 (by decide) ?_
  refine J_aload_n (pc := 17) dX6_begin_17 rfl rfl ?_
  refine J_geti (pc := 18) (i := 0) cl4 (hW3.q hm) (by decide) rfl h10' kX6_37 dX6_begin_18 ?_
  refine J_callS (pc := 21) (cx_min l g (hgt - 1) (a := 4) (by decide) (by omega)) qJ9_min_7cf53 vJ9_min_7cf53 kX6_66 dX6_begin_21 rfl rfl (Nat.le_of_ble_eq_true rfl) (by omega) (by omega) (by omega) ?_
  rintro _ _ ⟨rfl, rfl⟩
  rw [show min 4 (xV X 10 m) = if xV X 10 m < 4 then xV X 10 m else 4 by split <;> omega]
  refine J_puti (pc := 24) (i := 5) cl4 (hW3.q hm) (by decide) rfl rfl rfl rfl kX6_22 dX6_begin_24 ?_
  refine J_vret (pc := 27) dX6_begin_27 rfl (by omega) (by omega) ?_
  exact ⟨rfl, hW3.wV 21 m _ hm (by decide)⟩
set_option maxRecDepth 100000 in
theorem cx_forget (l : Launch) (g : jG) (hgt : Nat) {S : jS} {w : Nat → Nat → Nat} {hx : Nat} {X : XS} {m : Nat} (hW : WX S w hx X) (hm : m < xV X 1 0) : CT l g mX6_forget hgt 0 0 [.ref (w 4 m)] S (xQ w hx none (x_forget X m)) := by
  refine CT_of qX6_forget (Nat.le_of_ble_eq_true rfl) ?_
  refine J_aload_n (pc := 0) dX6_forget_0 rfl rfl ?_
  refine J_iconst (pc := 1) (v := nI 0) dX6_forget_1 (by decide) ?_
  refine J_puti (pc := 2) (i := 2) cl4 (hW.q hm) (by decide) rfl rfl rfl rfl kX6_11 dX6_forget_2 ?_
  have hW1 : WX (uI S 4 (w 4 m) 2 (nI 0)) w hx (yV X 19 m 0) := hW.wV 19 m _ hm (by decide)
  refine J_aload_n (pc := 5) dX6_forget_5 rfl rfl ?_
  refine J_lconst (pc := 6) (v := 0) dX6_forget_6 rfl ?_
  refine J_putl (pc := 7) (i := 4) cl4 (hW1.q hm) (by decide) rfl rfl rfl rfl kX6_18 dX6_forget_7 ?_
  refine J_vret (pc := 10) dX6_forget_10 rfl (by omega) (by omega) ?_
  refine ⟨rfl, hW1.wJ (X' := x_forget X m) (z := 0) 4 4 1 (Or.inr rfl) rfl rfl (fun a b hn => funext fun j => ?_) hm (isB_congr isB_0 (fun i _ => ?_))⟩
  · unfold x_forget
    rw [xB_yC, if_neg hn]
  · unfold x_forget
    rw [xB_yC, if_pos ⟨rfl, rfl⟩]
set_option maxRecDepth 100000 in
theorem cx_take (l : Launch) (g : jG) (hgt : Nat) {S : jS} {w : Nat → Nat → Nat} {hx : Nat} {X : XS} {m : Nat} (hW : WX S w hx X) (hm : m < xV X 1 0) {c : Nat} (ho : okH X m) (hc : c < xV X 10 m) (hh : 2 ≤ hgt) : CT l g mX6_take hgt 0 0 [.ref (w 4 m), .int (nI c), .int (nI (xV X 0 0))] S (xQ w hx none (if x_missing (x_take X m c) m = 0 then yV (yV (yV (x_take X m c) 19 m 2) 20 m (xV X 20 m + 1)) 25 m (xV X 0 0) else x_take X m c)) := by
  have ho1 := ho.2
  have ho2 : okH (x_take X m c) m := by
    refine ⟨fun i hi => ?_, ho.2⟩
    unfold x_take at hi
    rw [xB_yB] at hi
    by_cases q : i = c
    · subst q
      exact hc
    · rw [if_neg (fun z => q z.2.2)] at hi
      exact ho.1 i hi
  have hmm := ho2.cnt
  have e10 : xV (x_take X m c) 10 m = xV X 10 m := rfl
  refine CT_of qX6_take (Nat.le_of_ble_eq_true rfl) ?_
  refine J_aload_n (pc := 0) dX6_take_0 rfl rfl ?_
  refine J_iconst (pc := 1) (v := nI 0) dX6_take_1 (by decide) ?_
  refine J_puti (pc := 2) (i := 6) cl4 (hW.q hm) (by decide) rfl rfl rfl rfl kX6_25 dX6_take_2 ?_
  have hW1 : WX (uI S 4 (w 4 m) 6 (nI 0)) w hx (yV X 22 m 0) := hW.wV 22 m _ hm (by decide)
  refine J_aload_n (pc := 5) dX6_take_5 rfl rfl ?_
  refine J_iconst (pc := 6) (v := nI 0) dX6_take_6 (by decide) ?_
  refine J_puti (pc := 7) (i := 7) cl4 (hW1.q hm) (by decide) rfl rfl rfl rfl kX6_28 dX6_take_7 ?_
  have hW2 : WX (uI (uI S 4 (w 4 m) 6 (nI 0)) 4 (w 4 m) 7 (nI 0)) w hx (yV (yV X 22 m 0) 23 m 0) := hW1.wV 23 m _ hm (by decide)
  generalize uI (uI S 4 (w 4 m) 6 (nI 0)) 4 (w 4 m) 7 (nI 0) = S2 at hW2 ⊢
  refine J_aload_n (pc := 10) dX6_take_10 rfl rfl ?_
  refine J_aload_n (pc := 11) dX6_take_11 rfl rfl ?_
  refine J_getl (pc := 12) (i := 4) cl4 (hW2.q hm) (by decide) rfl rfl kX6_18 dX6_take_12 ?_
  refine J_iload_n (pc := 15) dX6_take_15 rfl rfl ?_
  refine J_callS (pc := 16) (cx_with l g (hgt - 1) _ _) qX0_with vX0_with kX6_69 dX6_take_16 rfl rfl (Nat.le_of_ble_eq_true rfl) (by omega) (by omega) (by omega) ?_
  rintro _ _ ⟨rfl, rfl⟩
  refine J_putl (pc := 19) (i := 4) cl4 (hW2.q hm) (by decide) rfl rfl rfl rfl kX6_18 dX6_take_19 ?_
  have hW3 : WX (uJ S2 4 (w 4 m) 4 (sJ S2 4 (w 4 m) 4 ||| b1 c)) w hx (x_take X m c) := hW2.wB 4 4 1 (Or.inr rfl) hm (isB_or (hW2.held hm) (by omega))
  generalize uJ S2 4 (w 4 m) 4 (sJ S2 4 (w 4 m) 4 ||| b1 c) = S3 at hW3 ⊢
  refine J_aload_n (pc := 22) dX6_take_22 rfl rfl ?_
  refine J_callV (pc := 23) (cx_missing l g (hgt - 1) hW3 hm ho2 (by omega)) qX6_missing vX6_missing cl4 rfl (hW3.q hm) kX6_73 dX6_take_23 rfl rfl (Nat.le_of_ble_eq_true rfl) (by omega) (by omega) (by omega) ?_
  rintro _ _ ⟨rfl, rfl⟩
  refine J_if_neN (pc := 26) (tgt := 49) dX6_take_26 rfl (by omega) (fun B => ?_) (fun B => ?_)
  · rw [if_neg B]
    refine J_vret (pc := 49) dX6_take_49 rfl (by omega) (by omega) ?_
    exact ⟨rfl, hW3⟩
  · rw [if_pos B]
    refine J_aload_n (pc := 29) dX6_take_29 rfl rfl ?_
    refine J_iconst (pc := 30) (v := nI 2) dX6_take_30 (by decide) ?_
    refine J_puti (pc := 31) (i := 2) cl4 (hW3.q hm) (by decide) rfl rfl rfl rfl kX6_11 dX6_take_31 ?_
    have hW4 : WX (uI S3 4 (w 4 m) 2 (nI 2)) w hx (yV (x_take X m c) 19 m 2) := hW3.wV 19 m _ hm (by decide)
    have h20 : sI (uI S3 4 (w 4 m) 2 (nI 2)) 4 (w 4 m) 3 = nI (xV X 20 m) := hW4.n20 hm
    refine J_aload_n (pc := 34) dX6_take_34 rfl rfl ?_
    refine J_dup (pc := 35) dX6_take_35 rfl ?_
    refine J_geti (pc := 36) (i := 3) cl4 (hW4.q hm) (by decide) rfl h20 kX6_15 dX6_take_36 ?_
    refine J_iconst (pc := 39) (v := nI 1) dX6_take_39 (by decide) ?_
    refine J_iaddN (b := 1) dX6_take_40 ?_
    refine J_puti (pc := 41) (i := 3) cl4 (hW4.q hm) (by decide) rfl rfl rfl rfl kX6_15 dX6_take_41 ?_
    have hW5 : WX (uI (uI S3 4 (w 4 m) 2 (nI 2)) 4 (w 4 m) 3 (nI (xV X 20 m + 1))) w hx (yV (yV (x_take X m c) 19 m 2) 20 m (xV X 20 m + 1)) := hW4.wV 20 m _ hm (by decide)
    refine J_aload_n (pc := 44) dX6_take_44 rfl rfl ?_
    refine J_iload_n (pc := 45) dX6_take_45 rfl rfl ?_
    refine J_puti (pc := 46) (i := 9) cl4 (hW5.q hm) (by decide) rfl rfl rfl rfl kX6_34 dX6_take_46 ?_
    refine J_vret (pc := 49) dX6_take_49 rfl (by omega) (by omega) ?_
    exact ⟨rfl, hW5.wV 25 m _ hm (by decide)⟩
