/-! THE CLASS: what a host sends -/
def sh (X : XS) (b : Option Nat) (x : Nat) : Option Nat := if x_can1 X x = true ∧ (∀ y, b = some y → x_left X x < x_left X y) then some x else b
theorem short_fold (X : XS) (h : Nat) : ∀ n, x_short X h n = (outsF n (xV X 8) h).foldl (sh X) none
  | 0 => rfl
  | n + 1 => by
    have ih := short_fold X h n
    unfold outsF at ih ⊢
    rw [filter_s, List.foldl_append, ← ih]
    show (if x_can X h n = true ∧ (∀ y, x_short X h n = some y → x_left X n < x_left X y) then some n else x_short X h n) = _
    have e : x_can X h n = (decide (xV X 8 n = h) && x_can1 X n) := by
      unfold x_can x_can1
      rw [Bool.and_assoc]
    rw [e]
    by_cases q : xV X 8 n = h
    · rw [decide_eq_true q]
      simp only [Bool.true_and, if_true, List.foldl_cons, List.foldl_nil]
      rfl
    · rw [decide_eq_false q]
      simp
def bV (w : Nat → Nat → Nat) (b : Option Nat) : Value := match b with
  | none => .null
  | some y => .ref (w 3 y)
set_option maxRecDepth 100000 in
theorem cx_shortestToSend (l : Launch) (g : jG) (hgt : Nat) {S : jS} {w : Nat → Nat → Nat} {hx : Nat} {X : XS} {a : Nat} (hW : WX S w hx X) (ha : a < 8) (hI : xOK X) (hh : 2 ≤ hgt) : CT l g mX3_shortestToSend hgt 0 0 [.ref (w 2 a)] S (jPure (bV w (x_short X a (xV X 1 0))) S) := by
  have h48 := hI.many
  have hlen := outs_len (xV X 1 0) (xV X 8) a
  rw [short_fold]
  refine CT_of qX3_shortestToSend (Nat.le_of_ble_eq_true rfl) ?_
  refine J_null (pc := 0) dX3_shortestToSend_0 ?_
  refine J_astore_nN (pc := 1) dX3_shortestToSend_1 rfl (by decide) ?_
  refine J_iconst (pc := 2) (v := nI 0) dX3_shortestToSend_2 (by decide) ?_
  refine J_istore_n (pc := 3) dX3_shortestToSend_3 rfl (by decide) ?_
  have loop : ∀ i, i ≤ (outsF (xV X 1 0) (xV X 8) a).length → ∀ b, b = ((outsF (xV X 1 0) (xV X 8) a).take i).foldl (sh X) none → (∀ y, b = some y → y < xV X 1 0) → J l g mX3_shortestToSend hgt 0 0 (jPure (bV w ((outsF (xV X 1 0) (xV X 8) a).foldl (sh X) none)) S) 4 [(1, bV w b), (2, .int (nI i)), (0, .ref (w 2 a))] [] S 0 0 := by
    refine down _ ?_ ?_
    · intro b hb hy
      rw [List.take_length] at hb
      rw [← hb]
      refine J_iload_n (pc := 4) dX3_shortestToSend_4 rfl rfl ?_
      refine J_aload_n (pc := 5) dX3_shortestToSend_5 rfl rfl ?_
      refine J_geti (pc := 6) (i := 6) cl2 (hW.ho ha) (by decide) rfl (hW.cout ha) kX3_43 dX3_shortestToSend_6 ?_
      refine J_icmp_geN (pc := 9) (tgt := 58) dX3_shortestToSend_9 rfl (by omega) (by omega) (fun B => ?_) (fun B => ?_)
      · cases b with
        | none =>
          refine J_aload_nN (pc := 58) dX3_shortestToSend_58 rfl rfl ?_
          refine J_aret (pc := 59) dX3_shortestToSend_59 rfl (Or.inl rfl) (by omega) (by omega) ?_
          exact ⟨rfl, rfl⟩
        | some y =>
          refine J_aload_n (pc := 58) dX3_shortestToSend_58 rfl rfl ?_
          refine J_aret (pc := 59) dX3_shortestToSend_59 rfl (Or.inr ⟨_, rfl⟩) (by omega) (by omega) ?_
          exact ⟨rfl, rfl⟩
      · omega
    · intro i hi ih b hb hy
      obtain ⟨x, hx2⟩ : ∃ x, (outsF (xV X 1 0) (xV X 8) a)[i]? = some x := ⟨_, List.getElem?_eq_getElem hi⟩
      have hm := (outs_get hx2).1
      have o := hI.msg (m := x) (by omega)
      have oW := hI.okW hm
      rw [List.take_add_one, hx2, List.foldl_append, ← hb] at ih
      have next : ∀ b', b' = sh X b x → J l g mX3_shortestToSend hgt 0 0 (jPure (bV w ((outsF (xV X 1 0) (xV X 8) a).foldl (sh X) none)) S) 52 [(1, bV w b'), (2, .int (nI i)), (0, .ref (w 2 a))] [] S 0 0 := by
        intro b' e
        have hb2 : ∀ y, b' = some y → y < xV X 1 0 := by
          intro y hy2
          rw [e] at hy2
          unfold sh at hy2
          split at hy2
          · cases hy2
            exact hm
          · exact hy y hy2
        cases b' with
        | none =>
          refine J_iinc (pc := 52) dX3_shortestToSend_52 rfl (inc1 _) (by decide) ?_
          refine J_goto (pc := 55) (tgt := 4) dX3_shortestToSend_55 rfl ?_
          exact J_lvk (ih none e hb2) ⟨rfl, rfl, rfl, trivial⟩
        | some z =>
          refine J_iinc (pc := 52) dX3_shortestToSend_52 rfl (inc1 _) (by decide) ?_
          refine J_goto (pc := 55) (tgt := 4) dX3_shortestToSend_55 rfl ?_
          exact J_lvk (ih (some z) e hb2) ⟨rfl, rfl, rfl, trivial⟩
      refine J_iload_n (pc := 4) dX3_shortestToSend_4 rfl rfl ?_
      refine J_aload_n (pc := 5) dX3_shortestToSend_5 rfl rfl ?_
      refine J_geti (pc := 6) (i := 6) cl2 (hW.ho ha) (by decide) rfl (hW.cout ha) kX3_43 dX3_shortestToSend_6 ?_
      refine J_icmp_geN (pc := 9) (tgt := 58) dX3_shortestToSend_9 rfl (by omega) (by omega) (fun B => ?_) (fun B => ?_)
      · omega
      · refine J_aload_n (pc := 12) dX3_shortestToSend_12 rfl rfl ?_
        refine J_getr (pc := 13) (i := 0) cl2 (hW.ho ha) (by decide) rfl (hW.hout ha) kX3_11 dX3_shortestToSend_13 ?_
        refine J_iload_n (pc := 16) dX3_shortestToSend_16 rfl rfl ?_
        refine J_rald12 (pc := 17) (hW.aout ha) rfl (show i < 48 by omega) (by first | omega | exact mLn_lt _) (hW.out ha hx2) dX3_shortestToSend_17 ?_
        refine J_astore_n (pc := 18) dX3_shortestToSend_18 rfl (by decide) ?_
        refine J_aload_n (pc := 19) dX3_shortestToSend_19 rfl rfl ?_
        refine J_getrN (pc := 20) (i := 4) (host := RX9) cl3 (hW.mo hm) (by decide) rfl (hW.ms hm) (by decide +kernel) dX3_shortestToSend_20 ?_
        refine J_callV (pc := 23) (cx_canSend l g (hgt - 1) hW hm oW o.2.1.1 (by omega)) qX8_canSend vX8_canSend cl6 rfl (hW.s hm) kX3_188 dX3_shortestToSend_23 rfl rfl (Nat.le_of_ble_eq_true rfl) (by omega) (by omega) (by omega) ?_
        rintro _ _ ⟨rfl, rfl⟩
        refine J_if_eqB (pc := 26) (tgt := 52) dX3_shortestToSend_26 rfl (fun B2 => ?_) (fun B2 => ?_)
        · refine J_lvk (next b ?_) ⟨rfl, rfl, rfl, trivial⟩
          unfold sh
          rw [if_neg (fun z => by rw [B2] at z; exact absurd z.1 (by decide))]
        · cases b with
          | none =>
            refine J_aload_nN (pc := 29) dX3_shortestToSend_29 rfl rfl ?_
            refine J_ifnullN (pc := 30) (tgt := 50) dX3_shortestToSend_30 rfl ?_
            refine J_aload_n (pc := 50) dX3_shortestToSend_50 rfl rfl ?_
            refine J_astore_n (pc := 51) dX3_shortestToSend_51 rfl (by decide) ?_
            refine J_lvk (next (some x) ?_) ⟨rfl, rfl, rfl, trivial⟩
            unfold sh
            rw [if_pos ⟨B2, fun y hy => by cases hy⟩]
          | some y =>
            have hym := hy y rfl
            have oy := hI.okW hym
            have l1 : x_left X x ≤ 200 := by
              have := cnt_le (xB X 0 x) 60
              have := oW.2
              unfold x_left
              omega
            have l2 : x_left X y ≤ 200 := by
              have := cnt_le (xB X 0 y) 60
              have := oy.2
              unfold x_left
              omega
            refine J_aload_n (pc := 29) dX3_shortestToSend_29 rfl rfl ?_
            refine J_ifnull (pc := 30) dX3_shortestToSend_30 ?_
            refine J_aload_n (pc := 33) dX3_shortestToSend_33 rfl rfl ?_
            refine J_getrN (pc := 34) (i := 4) (host := RX9) cl3 (hW.mo hm) (by decide) rfl (hW.ms hm) (by decide +kernel) dX3_shortestToSend_34 ?_
            refine J_callV (pc := 37) (cx_left l g (hgt - 1) hW hm oW (by omega)) qX8_left vX8_left cl6 rfl (hW.s hm) kX3_191 dX3_shortestToSend_37 rfl rfl (Nat.le_of_ble_eq_true rfl) (by omega) (by omega) (by omega) ?_
            rintro _ _ ⟨rfl, rfl⟩
            refine J_aload_n (pc := 40) dX3_shortestToSend_40 rfl rfl ?_
            refine J_getrN (pc := 41) (i := 4) (host := RX9) cl3 (hW.mo hym) (by decide) rfl (hW.ms hym) (by decide +kernel) dX3_shortestToSend_41 ?_
            refine J_callV (pc := 44) (cx_left l g (hgt - 1) hW hym oy (by omega)) qX8_left vX8_left cl6 rfl (hW.s hym) kX3_191 dX3_shortestToSend_44 rfl rfl (Nat.le_of_ble_eq_true rfl) (by omega) (by omega) (by omega) ?_
            rintro _ _ ⟨rfl, rfl⟩
            refine J_icmp_geN (pc := 47) (tgt := 52) dX3_shortestToSend_47 rfl (by omega) (by omega) (fun B3 => ?_) (fun B3 => ?_)
            · refine J_lvk (next (some y) ?_) ⟨rfl, rfl, rfl, trivial⟩
              unfold sh
              rw [if_neg (fun z => by have := z.2 y rfl; omega)]
            · refine J_aload_n (pc := 50) dX3_shortestToSend_50 rfl rfl ?_
              refine J_astore_n (pc := 51) dX3_shortestToSend_51 rfl (by decide) ?_
              refine J_lvk (next (some x) ?_) ⟨rfl, rfl, rfl, trivial⟩
              unfold sh
              rw [if_pos ⟨B2, fun y' hy' => by cases hy'; omega⟩]
  exact J_lvk (loop 0 (Nat.zero_le _) none rfl (fun y hy => by cases hy)) ⟨rfl, rfl, rfl, trivial⟩
theorem WX.hcut {S : jS} {w : Nat → Nat → Nat} {hx : Nat} {X : XS} (h : WX S w hx X) {a : Nat} (ha : a < 8) : sP S 2 (w 2 a) 2 = some (w 0 a) := h.r 2 a 2 ha rfl
theorem WX.k1 {S : jS} {w : Nat → Nat → Nat} {hx : Nat} {X : XS} (h : WX S w hx X) {a : Nat} (ha : a < 8) : sI S 0 (w 0 a) 4 = nI (x_cut X a 1) := (h.2.2.2.2.2.2.2.2.2.2.2 a ha).2.2.1
theorem WX.k2 {S : jS} {w : Nat → Nat → Nat} {hx : Nat} {X : XS} (h : WX S w hx X) {a : Nat} (ha : a < 8) : sI S 0 (w 0 a) 5 = nI (x_cut X a 2) := (h.2.2.2.2.2.2.2.2.2.2.2 a ha).2.2.2.1
theorem x_cut_le (X : XS) (h t : Nat) : x_cut X h t ≤ 61 := by
  unfold x_cut
  split
  · omega
  · exact lst_le _ _
set_option maxRecDepth 100000 in
theorem cx_priorityFor (l : Launch) (g : jG) (hgt : Nat) {S : jS} {w : Nat → Nat → Nat} {hx : Nat} {X : XS} {a n : Nat} (hW : WX S w hx X) (ha : a < 8) (hn : n < 2 ^ 31) : CT l g mX1_priorityFor hgt 0 0 [.ref (w 0 a), .int (nI n)] S (jPure (.int (nI (if n ≤ x_cut X a 1 then 1 else if n ≤ x_cut X a 2 then 2 else 3))) S) := by
  have k1 := x_cut_le X a 1
  have k2 := x_cut_le X a 2
  have h0 : sAt S 0 (w 0 a) := hW.o 0 a ha
  refine CT_of qX1_priorityFor (Nat.le_of_ble_eq_true rfl) ?_
  refine J_iload_n (pc := 0) dX1_priorityFor_0 rfl rfl ?_
  refine J_aload_n (pc := 1) dX1_priorityFor_1 rfl rfl ?_
  refine J_geti (pc := 2) (i := 4) cl0 h0 (by decide) rfl (hW.k1 ha) kX1_23 dX1_priorityFor_2 ?_
  refine J_icmp_gtN (pc := 5) (tgt := 10) dX1_priorityFor_5 rfl (by omega) (by omega) (fun B => ?_) (fun B => ?_)
  · rw [if_neg (by omega)]
    refine J_iload_n (pc := 10) dX1_priorityFor_10 rfl rfl ?_
    refine J_aload_n (pc := 11) dX1_priorityFor_11 rfl rfl ?_
    refine J_geti (pc := 12) (i := 5) cl0 h0 (by decide) rfl (hW.k2 ha) kX1_26 dX1_priorityFor_12 ?_
    refine J_icmp_gtN (pc := 15) (tgt := 22) dX1_priorityFor_15 rfl (by omega) (by omega) (fun B2 => ?_) (fun B2 => ?_)
    · rw [if_neg (by omega)]
      refine J_iconst (pc := 22) (v := nI 3) dX1_priorityFor_22 (by decide) ?_
      refine J_iret (pc := 23) dX1_priorityFor_23 rfl (by omega) (by omega) ?_
      exact ⟨rfl, rfl⟩
    · rw [if_pos (by omega)]
      refine J_iconst (pc := 18) (v := nI 2) dX1_priorityFor_18 (by decide) ?_
      refine J_goto (pc := 19) (tgt := 23) dX1_priorityFor_19 rfl ?_
      refine J_iret (pc := 23) dX1_priorityFor_23 rfl (by omega) (by omega) ?_
      exact ⟨rfl, rfl⟩
  · rw [if_pos (by omega)]
    refine J_iconst (pc := 8) (v := nI 1) dX1_priorityFor_8 (by decide) ?_
    refine J_iret (pc := 9) dX1_priorityFor_9 rfl (by omega) (by omega) ?_
    exact ⟨rfl, rfl⟩
