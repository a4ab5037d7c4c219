/-! THE CLASS: the calls that only look -/
theorem WX.ro {S : jS} {w : Nat → Nat → Nat} {hx : Nat} {X : XS} (h : WX S w hx X) : sAt S 7 (w 7 0) := h.o 7 0 Nat.one_pos
theorem WX.rfab {S : jS} {w : Nat → Nat → Nat} {hx : Nat} {X : XS} (h : WX S w hx X) : sP S 7 (w 7 0) 0 = some (w 1 0) := h.r 7 0 0 Nat.one_pos rfl
theorem WX.rhos {S : jS} {w : Nat → Nat → Nat} {hx : Nat} {X : XS} (h : WX S w hx X) : sP S 7 (w 7 0) 1 = some (w 11 0) := h.r 7 0 1 Nat.one_pos rfl
theorem WX.rmes {S : jS} {w : Nat → Nat → Nat} {hx : Nat} {X : XS} (h : WX S w hx X) : sP S 7 (w 7 0) 2 = some (w 12 0) := h.r 7 0 2 Nat.one_pos rfl
theorem WX.rmany {S : jS} {w : Nat → Nat → Nat} {hx : Nat} {X : XS} (h : WX S w hx X) : sI S 7 (w 7 0) 3 = nI (xV X 1 0) := h.v 1 0 Nat.one_pos
theorem WX.rclk {S : jS} {w : Nat → Nat → Nat} {hx : Nat} {X : XS} (h : WX S w hx X) : sI S 7 (w 7 0) 4 = nI (xV X 0 0) := h.v 0 0 Nat.one_pos
theorem WX.ahos {S : jS} {w : Nat → Nat → Nat} {hx : Nat} {X : XS} (h : WX S w hx X) : aAt S 11 (w 11 0) 8 := h.a 11 0 (by decide) Nat.one_pos
theorem WX.ames {S : jS} {w : Nat → Nat → Nat} {hx : Nat} {X : XS} (h : WX S w hx X) : aAt S 12 (w 12 0) 48 := h.a 12 0 (by decide) (show 0 < 17 by decide)
theorem WX.ehos {S : jS} {w : Nat → Nat → Nat} {hx : Nat} {X : XS} (h : WX S w hx X) {a : Nat} (ha : a < 8) : sP S 11 (w 11 0) a = some (w 2 a) := h.r 11 0 a Nat.one_pos (if_pos ha)
theorem WX.emes {S : jS} {w : Nat → Nat → Nat} {hx : Nat} {X : XS} (h : WX S w hx X) {m : Nat} (hm : m < xV X 1 0) : sP S 12 (w 12 0) m = some (w 3 m) := h.r 12 0 m (show 0 < 17 by decide) (if_pos hm)
def fM (X : XS) (m : Int32) : Option Nat := if m < 0 ∨ nI (xV X 1 0) ≤ m then none else some (cl m)
theorem fM_some {X : XS} {m : Int32} {x : Nat} (h48 : xV X 1 0 ≤ 48) (h : fM X m = some x) : m = nI x ∧ x < xV X 1 0 ∧ cl m = x ∧ ¬ (m < 0 ∨ nI (xV X 1 0) ≤ m) := by
  unfold fM at h
  split at h
  · cases h
  case isFalse z =>
    cases h
    obtain ⟨j, hj, rfl⟩ := ix_in (n := xV X 1 0) (by omega) (fun q => z (Or.inl q)) (fun q => z (Or.inr q))
    rw [cl_nI (by omega)]
    exact ⟨rfl, hj, rfl, z⟩
theorem fM_none {X : XS} {m : Int32} (h : fM X m = none) : m < 0 ∨ nI (xV X 1 0) ≤ m := by
  unfold fM at h
  split at h
  case isTrue z => exact z
  · cases h
set_option maxRecDepth 100000 in
theorem cx_find (l : Launch) (g : jG) (hgt : Nat) {S : jS} {w : Nat → Nat → Nat} {hx : Nat} {X : XS} (m : Int32) (hW : WX S w hx X) (h48 : xV X 1 0 ≤ 48) : CT l g mX9_find hgt 0 0 [.ref (w 7 0), .int m] S (jPure (bV w (fM X m)) S) := by
  refine CT_of qX9_find (Nat.le_of_ble_eq_true rfl) ?_
  refine J_iload_n (pc := 0) dX9_find_0 rfl rfl ?_
  refine J_if_lt (pc := 1) (tgt := 21) dX9_find_1 rfl (fun B1 => ?_) (fun B1 => ?_)
  · unfold fM
    rw [if_pos (Or.inl B1)]
    refine J_null (pc := 21) dX9_find_21 ?_
    refine J_aret (pc := 22) dX9_find_22 rfl (Or.inl rfl) (by omega) (by omega) ?_
    exact ⟨rfl, rfl⟩
  · refine J_iload_n (pc := 4) dX9_find_4 rfl rfl ?_
    refine J_aload_n (pc := 5) dX9_find_5 rfl rfl ?_
    refine J_geti (pc := 6) (i := 3) cl7 hW.ro (by decide) rfl hW.rmany kX9_28 dX9_find_6 ?_
    refine J_icmp_ge (pc := 9) (tgt := 21) dX9_find_9 rfl (fun B2 => ?_) (fun B2 => ?_)
    · unfold fM
      rw [if_pos (Or.inr B2)]
      refine J_null (pc := 21) dX9_find_21 ?_
      refine J_aret (pc := 22) dX9_find_22 rfl (Or.inl rfl) (by omega) (by omega) ?_
      exact ⟨rfl, rfl⟩
    · unfold fM
      rw [if_neg (fun z => by rcases z with z | z; (· exact B1 z); (· exact B2 z))]
      obtain ⟨j, hj, rfl⟩ := ix_in (n := xV X 1 0) (by omega) B1 B2
      rw [cl_nI (by omega)]
      refine J_aload_n (pc := 12) dX9_find_12 rfl rfl ?_
      refine J_getr (pc := 13) (i := 2) cl7 hW.ro (by decide) rfl hW.rmes kX9_24 dX9_find_13 ?_
      refine J_iload_n (pc := 16) dX9_find_16 rfl rfl ?_
      refine J_rald12 (pc := 17) hW.ames rfl (show j < 48 by omega) (by first | omega | exact mLn_lt _) (hW.emes hj) dX9_find_17 ?_
      refine J_goto (pc := 18) (tgt := 22) dX9_find_18 rfl ?_
      refine J_aret (pc := 22) dX9_find_22 rfl (Or.inr ⟨_, rfl⟩) (by omega) (by omega) ?_
      exact ⟨rfl, rfl⟩
set_option maxRecDepth 100000 in
theorem cx_sent (l : Launch) (g : jG) (hgt : Nat) {S : jS} {w : Nat → Nat → Nat} {hx : Nat} {X : XS} (m v : Int32) (hW : WX S w hx X) (hI : xOK X) (hh : 3 ≤ hgt) : CT l g mX9_sent hgt 0 0 [.ref (w 7 0), .int m, .int v] S (jPure (.int (p_sent X m v)) S) := by
  have h48 := hI.many
  unfold p_sent
  refine CT_of qX9_sent (Nat.le_of_ble_eq_true rfl) ?_
  refine J_aload_n (pc := 0) dX9_sent_0 rfl rfl ?_
  refine J_iload_n (pc := 1) dX9_sent_1 rfl rfl ?_
  refine J_callV (pc := 2) (cx_find l g (hgt - 1) m hW h48) qX9_find vX9_find cl7 rfl hW.ro kX9_74 dX9_sent_2 rfl rfl (Nat.le_of_ble_eq_true rfl) (by omega) (by omega) (by omega) ?_
  rintro _ _ ⟨rfl, rfl⟩
  cases hf : fM X m with
  | none =>
    rw [if_pos (fM_none hf)]
    refine J_astore_nN (pc := 5) dX9_sent_5 rfl (by decide) ?_
    refine J_aload_nN (pc := 6) dX9_sent_6 rfl rfl ?_
    refine J_ifnonnullN (pc := 7) dX9_sent_7 ?_
    refine J_iconst (pc := 10) (v := (-1)) dX9_sent_10 (by decide) ?_
    refine J_goto (pc := 11) (tgt := 22) dX9_sent_11 rfl ?_
    refine J_iret (pc := 22) dX9_sent_22 rfl (by omega) (by omega) ?_
    exact ⟨rfl, rfl⟩
  | some x =>
    obtain ⟨rfl, hx, e, z⟩ := fM_some h48 hf
    rw [if_neg z, e]
    refine J_astore_n (pc := 5) dX9_sent_5 rfl (by decide) ?_
    refine J_aload_n (pc := 6) dX9_sent_6 rfl rfl ?_
    refine J_ifnonnull (pc := 7) (tgt := 14) dX9_sent_7 rfl ?_
    refine J_aload_n (pc := 14) dX9_sent_14 rfl rfl ?_
    refine J_getrN (pc := 15) (i := 4) (host := RX9) cl3 (hW.mo hx) (by decide) rfl (hW.ms hx) (by decide +kernel) dX9_sent_15 ?_
    refine J_iload_n (pc := 18) dX9_sent_18 rfl rfl ?_
    refine J_callV (pc := 19) (cx_sendTell l g (hgt - 1) v hW hx (hI.okW hx) (by omega)) qX8_tell vX8_tell cl6 rfl (hW.s hx) kX9_82 dX9_sent_19 rfl rfl (Nat.le_of_ble_eq_true rfl) (by omega) (by omega) (by omega) ?_
    rintro _ _ ⟨rfl, rfl⟩
    refine J_iret (pc := 22) dX9_sent_22 rfl (by omega) (by omega) ?_
    exact ⟨rfl, rfl⟩
set_option maxRecDepth 100000 in
theorem cx_received (l : Launch) (g : jG) (hgt : Nat) {S : jS} {w : Nat → Nat → Nat} {hx : Nat} {X : XS} (m v : Int32) (hW : WX S w hx X) (hI : xOK X) (hh : 3 ≤ hgt) : CT l g mX9_received hgt 0 0 [.ref (w 7 0), .int m, .int v] S (jPure (.int (p_received X m v)) S) := by
  have h48 := hI.many
  unfold p_received
  refine CT_of qX9_received (Nat.le_of_ble_eq_true rfl) ?_
  refine J_aload_n (pc := 0) dX9_received_0 rfl rfl ?_
  refine J_iload_n (pc := 1) dX9_received_1 rfl rfl ?_
  refine J_callV (pc := 2) (cx_find l g (hgt - 1) m hW h48) qX9_find vX9_find cl7 rfl hW.ro kX9_74 dX9_received_2 rfl rfl (Nat.le_of_ble_eq_true rfl) (by omega) (by omega) (by omega) ?_
  rintro _ _ ⟨rfl, rfl⟩
  cases hf : fM X m with
  | none =>
    have z := fM_none hf
    rw [if_pos (by rcases z with z | z; (· exact Or.inl z); (· exact Or.inr (Or.inl z)))]
    refine J_astore_nN (pc := 5) dX9_received_5 rfl (by decide) ?_
    refine J_aload_nN (pc := 6) dX9_received_6 rfl rfl ?_
    refine J_ifnonnullN (pc := 7) dX9_received_7 ?_
    refine J_iconst (pc := 10) (v := (-1)) dX9_received_10 (by decide) ?_
    refine J_goto (pc := 11) (tgt := 22) dX9_received_11 rfl ?_
    refine J_iret (pc := 22) dX9_received_22 rfl (by omega) (by omega) ?_
    exact ⟨rfl, rfl⟩
  | some x =>
    obtain ⟨rfl, hx, e, z⟩ := fM_some h48 hf
    have o := hI.msg (m := x) (by omega)
    rw [e]
    refine J_astore_n (pc := 5) dX9_received_5 rfl (by decide) ?_
    refine J_aload_n (pc := 6) dX9_received_6 rfl rfl ?_
    refine J_ifnonnull (pc := 7) (tgt := 14) dX9_received_7 rfl ?_
    refine J_aload_n (pc := 14) dX9_received_14 rfl rfl ?_
    refine J_getrN (pc := 15) (i := 5) (host := RX9) cl3 (hW.mo hx) (by decide) rfl (hW.mr hx) (by decide +kernel) dX9_received_15 ?_
    refine J_iload_n (pc := 18) dX9_received_18 rfl rfl ?_
    refine J_callV (pc := 19) (cx_recvTell l g (hgt - 1) v hW hx (hI.okH hx) o.2.2.1 (by omega)) qX6_tell vX6_tell cl4 rfl (hW.q hx) kX9_92 dX9_received_19 rfl rfl (Nat.le_of_ble_eq_true rfl) (by omega) (by omega) (by omega) ?_
    rintro _ _ ⟨rfl, rfl⟩
    refine J_iret (pc := 22) dX9_received_22 rfl (by omega) (by omega) ?_
    refine ⟨?_, rfl⟩
    by_cases q : v < 0 ∨ nI 6 < v
    · rw [if_pos q, if_pos (Or.inr (Or.inr q))]
    · rw [if_neg q, if_neg (fun u => by rcases u with u | u | u; (· exact z (Or.inl u)); (· exact z (Or.inr u)); (· exact q u))]
set_option maxRecDepth 100000 in
theorem cx_in (l : Launch) (g : jG) (hgt : Nat) {S : jS} {w : Nat → Nat → Nat} {hx : Nat} {X : XS} (m i : Int32) (hW : WX S w hx X) (hI : xOK X) (hh : 2 ≤ hgt) : CT l g mX9_in hgt 0 0 [.ref (w 7 0), .int m, .int i] S (jPure (.int (p_in X m i)) S) := by
  have h48 := hI.many
  unfold p_in
  refine CT_of qX9_in (Nat.le_of_ble_eq_true rfl) ?_
  refine J_aload_n (pc := 0) dX9_in_0 rfl rfl ?_
  refine J_iload_n (pc := 1) dX9_in_1 rfl rfl ?_
  refine J_callV (pc := 2) (cx_find l g (hgt - 1) m hW h48) qX9_find vX9_find cl7 rfl hW.ro kX9_74 dX9_in_2 rfl rfl (Nat.le_of_ble_eq_true rfl) (by omega) (by omega) (by omega) ?_
  rintro _ _ ⟨rfl, rfl⟩
  cases hf : fM X m with
  | none =>
    have z := fM_none hf
    rw [if_pos (by rcases z with z | z; (· exact Or.inl z); (· exact Or.inr (Or.inl z)))]
    refine J_astore_nN (pc := 5) dX9_in_5 rfl (by decide) ?_
    refine J_aload_nN (pc := 6) dX9_in_6 rfl rfl ?_
    refine J_ifnullN (pc := 7) (tgt := 25) dX9_in_7 rfl ?_
    refine J_iconst (pc := 25) (v := nI 0) dX9_in_25 (by decide) ?_
    refine J_zret (pc := 26) dX9_in_26 rfl rfl (by omega) (by omega) ?_
    exact ⟨rfl, rfl⟩
  | some x =>
    obtain ⟨rfl, hx, e, z⟩ := fM_some h48 hf
    have o := hI.msg (m := x) (by omega)
    rw [e]
    have e2 : (if nI x < 0 ∨ nI (xV X 1 0) ≤ nI x ∨ i < 0 ∨ nI (xV X 10 x) ≤ i then nI 0 else bI (xB X 1 x (cl i))) = if i < 0 ∨ nI (xV X 10 x) ≤ i then nI 0 else bI (xB X 1 x (cl i)) := by
      by_cases q : i < 0 ∨ nI (xV X 10 x) ≤ i
      · rw [if_pos q, if_pos (Or.inr (Or.inr q))]
      · rw [if_neg q, if_neg (fun u => by rcases u with u | u | u; (· exact z (Or.inl u)); (· exact z (Or.inr u)); (· exact q u))]
    rw [e2]
    refine J_astore_n (pc := 5) dX9_in_5 rfl (by decide) ?_
    refine J_aload_n (pc := 6) dX9_in_6 rfl rfl ?_
    refine J_ifnull (pc := 7) dX9_in_7 ?_
    refine J_aload_n (pc := 10) dX9_in_10 rfl rfl ?_
    refine J_getrN (pc := 11) (i := 5) (host := RX9) cl3 (hW.mo hx) (by decide) rfl (hW.mr hx) (by decide +kernel) dX9_in_11 ?_
    refine J_iload_n (pc := 14) dX9_in_14 rfl rfl ?_
    refine J_callV (pc := 15) (cx_holds l g (hgt - 1) i hW hx o.1.2.2.1 (by omega)) qX6_holds vX6_holds cl4 rfl (hW.q hx) kX9_95 dX9_in_15 rfl rfl (Nat.le_of_ble_eq_true rfl) (by omega) (by omega) (by omega) ?_
    rintro _ _ ⟨rfl, rfl⟩
    generalize hv : (if i < 0 ∨ nI (xV X 10 x) ≤ i then nI 0 else bI (xB X 1 x (cl i))) = v
    have hv2 : v = bI true ∨ v = bI false := by
      rw [← hv]
      split
      · exact Or.inr rfl
      · cases xB X 1 x (cl i)
        · exact Or.inr rfl
        · exact Or.inl rfl
    rcases hv2 with rfl | rfl
    · refine J_if_eq (pc := 18) (tgt := 25) dX9_in_18 rfl (fun hc9 => absurd hc9 ((by decide))) (fun _ => ?_)
      refine J_iconst (pc := 21) (v := nI 1) dX9_in_21 (by decide) ?_
      refine J_goto (pc := 22) (tgt := 26) dX9_in_22 rfl ?_
      refine J_zret (pc := 26) dX9_in_26 rfl rfl (by omega) (by omega) ?_
      exact ⟨rfl, rfl⟩
    · refine J_if_eq (pc := 18) (tgt := 25) dX9_in_18 rfl (fun _ => ?_) (fun hc9 => absurd (rfl) hc9)
      refine J_iconst (pc := 25) (v := nI 0) dX9_in_25 (by decide) ?_
      refine J_zret (pc := 26) dX9_in_26 rfl rfl (by omega) (by omega) ?_
      exact ⟨rfl, rfl⟩
set_option maxRecDepth 100000 in
theorem cx_finished (l : Launch) (g : jG) (hgt : Nat) {S : jS} {w : Nat → Nat → Nat} {hx : Nat} {X : XS} (h k : Int32) (hW : WX S w hx X) (h30 : ∀ a, a < 8 → xV X 30 a < 2 ^ 31) (hh : 2 ≤ hgt) : CT l g mX9_finished hgt 0 0 [.ref (w 7 0), .int h, .int k] S (jPure (.int (p_finished X h k)) S) := by
  unfold p_finished
  refine CT_of qX9_finished (Nat.le_of_ble_eq_true rfl) ?_
  refine J_iload_n (pc := 0) dX9_finished_0 rfl rfl ?_
  refine J_callS (pc := 1) (cx_isHost l g (hgt - 1) h) qX9_isHost vX9_isHost kX9_36 dX9_finished_1 rfl rfl (Nat.le_of_ble_eq_true rfl) (by omega) (by omega) (by omega) ?_
  rintro _ _ ⟨rfl, rfl⟩
  refine J_if_eqB (pc := 4) (tgt := 20) dX9_finished_4 rfl (fun B => ?_) (fun B => ?_)
  · have B := Decidable.not_not.mp (of_decide_eq_false B)
    rw [if_pos (by rcases B with z | z; (· exact Or.inl z); (· exact Or.inr (Or.inl z)))]
    refine J_iconst (pc := 20) (v := (-1)) dX9_finished_20 (by decide) ?_
    refine J_iret (pc := 21) dX9_finished_21 rfl (by omega) (by omega) ?_
    exact ⟨rfl, rfl⟩
  · have B := of_decide_eq_true B
    obtain ⟨a, ha, rfl⟩ := ix_in (n := 8) (by decide) (fun z => B (Or.inl z)) (fun z => B (Or.inr z))
    rw [cl_nI (by omega)]
    refine J_aload_n (pc := 7) dX9_finished_7 rfl rfl ?_
    refine J_getr (pc := 8) (i := 1) cl7 hW.ro (by decide) rfl hW.rhos kX9_18 dX9_finished_8 ?_
    refine J_iload_n (pc := 11) dX9_finished_11 rfl rfl ?_
    refine J_rald11 (pc := 12) hW.ahos rfl ha (by first | omega | exact mLn_lt _) (hW.ehos ha) dX9_finished_12 ?_
    refine J_iload_n (pc := 13) dX9_finished_13 rfl rfl ?_
    refine J_callV (pc := 14) (cx_latestFinished l g (hgt - 1) k hW ha (h30 a ha) (by omega)) qX3_latestFinished vX3_latestFinished cl2 rfl (hW.ho ha) kX9_98 dX9_finished_14 rfl rfl (Nat.le_of_ble_eq_true rfl) (by omega) (by omega) (by omega) ?_
    rintro _ _ ⟨rfl, rfl⟩
    refine J_goto (pc := 17) (tgt := 21) dX9_finished_17 rfl ?_
    refine J_iret (pc := 21) dX9_finished_21 rfl (by omega) (by omega) ?_
    refine ⟨?_, rfl⟩
    by_cases q : k < 0 ∨ nI 63 < k ∨ nI (xV X 30 a) ≤ k
    · rw [if_pos q, if_pos (Or.inr (Or.inr q))]
    · rw [if_neg q, if_neg (fun u => by rcases u with u | u | u; (· exact B (Or.inl u)); (· exact B (Or.inr u)); (· exact q u))]
set_option maxRecDepth 100000 in
theorem cx_chosen (l : Launch) (g : jG) (hgt : Nat) {S : jS} {w : Nat → Nat → Nat} {X : XS} (h k : Int32) (hW : WX S w 8 X) (hI : xOK X) (hh : 1 ≤ hgt) : CT l g mX9_chosen hgt 0 0 [.ref (w 7 0), .int h, .int k] S (jPure (.int (p_chosen X h k)) S) := by
  unfold p_chosen
  refine CT_of qX9_chosen (Nat.le_of_ble_eq_true rfl) ?_
  refine J_iload_n (pc := 0) dX9_chosen_0 rfl rfl ?_
  refine J_callS (pc := 1) (cx_isHost l g (hgt - 1) h) qX9_isHost vX9_isHost kX9_36 dX9_chosen_1 rfl rfl (Nat.le_of_ble_eq_true rfl) (by omega) (by omega) (by omega) ?_
  rintro _ _ ⟨rfl, rfl⟩
  refine J_if_eqB (pc := 4) (tgt := 20) dX9_chosen_4 rfl (fun B => ?_) (fun B => ?_)
  · have B := Decidable.not_not.mp (of_decide_eq_false B)
    rw [if_pos (by rcases B with z | z; (· exact Or.inl z); (· exact Or.inr (Or.inl z)))]
    refine J_iconst (pc := 20) (v := (-1)) dX9_chosen_20 (by decide) ?_
    refine J_iret (pc := 21) dX9_chosen_21 rfl (by omega) (by omega) ?_
    exact ⟨rfl, rfl⟩
  · have B := of_decide_eq_true B
    obtain ⟨a, ha, rfl⟩ := ix_in (n := 8) (by decide) (fun z => B (Or.inl z)) (fun z => B (Or.inr z))
    rw [cl_nI (by omega)]
    refine J_aload_n (pc := 7) dX9_chosen_7 rfl rfl ?_
    refine J_getr (pc := 8) (i := 1) cl7 hW.ro (by decide) rfl hW.rhos kX9_18 dX9_chosen_8 ?_
    refine J_iload_n (pc := 11) dX9_chosen_11 rfl rfl ?_
    refine J_rald11 (pc := 12) hW.ahos rfl ha (by first | omega | exact mLn_lt _) (hW.ehos ha) dX9_chosen_12 ?_
    refine J_iload_n (pc := 13) dX9_chosen_13 rfl rfl ?_
    refine J_callV (pc := 14) (cx_choice l g (hgt - 1) k hW ha (hI.host ha).1) qX3_choice vX3_choice cl2 rfl (hW.ho ha) kX9_101 dX9_chosen_14 rfl rfl (Nat.le_of_ble_eq_true rfl) (by omega) (by omega) (by omega) ?_
    rintro _ _ ⟨rfl, rfl⟩
    refine J_goto (pc := 17) (tgt := 21) dX9_chosen_17 rfl ?_
    refine J_iret (pc := 21) dX9_chosen_21 rfl (by omega) (by omega) ?_
    refine ⟨?_, rfl⟩
    by_cases q : k < 0 ∨ nI (xV X 28 a) ≤ k
    · rw [if_pos q, if_pos (Or.inr (Or.inr q))]
    · rw [if_neg q, if_neg (fun u => by rcases u with u | u | u; (· exact B (Or.inl u)); (· exact B (Or.inr u)); (· exact q u))]
set_option maxRecDepth 100000 in
theorem cx_host (l : Launch) (g : jG) (hgt : Nat) {S : jS} {w : Nat → Nat → Nat} {hx : Nat} {X : XS} (h v : Int32) (hW : WX S w hx X) (hI : xOK X) (hh : 4 ≤ hgt) : CT l g mX9_host hgt 0 0 [.ref (w 7 0), .int h, .int v] S (jPure (.int (p_host X h v)) S) := by
  unfold p_host
  refine CT_of qX9_host (Nat.le_of_ble_eq_true rfl) ?_
  refine J_iload_n (pc := 0) dX9_host_0 rfl rfl ?_
  refine J_callS (pc := 1) (cx_isHost l g (hgt - 1) h) qX9_isHost vX9_isHost kX9_36 dX9_host_1 rfl rfl (Nat.le_of_ble_eq_true rfl) (by omega) (by omega) (by omega) ?_
  rintro _ _ ⟨rfl, rfl⟩
  refine J_if_eqB (pc := 4) (tgt := 20) dX9_host_4 rfl (fun B => ?_) (fun B => ?_)
  · have B := Decidable.not_not.mp (of_decide_eq_false B)
    rw [if_pos (by rcases B with z | z; (· exact Or.inl z); (· exact Or.inr (Or.inl z)))]
    refine J_iconst (pc := 20) (v := (-1)) dX9_host_20 (by decide) ?_
    refine J_iret (pc := 21) dX9_host_21 rfl (by omega) (by omega) ?_
    exact ⟨rfl, rfl⟩
  · have B := of_decide_eq_true B
    obtain ⟨a, ha, rfl⟩ := ix_in (n := 8) (by decide) (fun z => B (Or.inl z)) (fun z => B (Or.inr z))
    rw [cl_nI (by omega)]
    refine J_aload_n (pc := 7) dX9_host_7 rfl rfl ?_
    refine J_getr (pc := 8) (i := 1) cl7 hW.ro (by decide) rfl hW.rhos kX9_18 dX9_host_8 ?_
    refine J_iload_n (pc := 11) dX9_host_11 rfl rfl ?_
    refine J_rald11 (pc := 12) hW.ahos rfl ha (by first | omega | exact mLn_lt _) (hW.ehos ha) dX9_host_12 ?_
    refine J_iload_n (pc := 13) dX9_host_13 rfl rfl ?_
    refine J_callV (pc := 14) (cx_hostTell l g (hgt - 1) v hW ha hI (by omega)) qX3_tell vX3_tell cl2 rfl (hW.ho ha) kX9_104 dX9_host_14 rfl rfl (Nat.le_of_ble_eq_true rfl) (by omega) (by omega) (by omega) ?_
    rintro _ _ ⟨rfl, rfl⟩
    refine J_goto (pc := 17) (tgt := 21) dX9_host_17 rfl ?_
    refine J_iret (pc := 21) dX9_host_21 rfl (by omega) (by omega) ?_
    refine ⟨?_, rfl⟩
    by_cases q : v < 0 ∨ nI 5 < v
    · rw [if_pos q, if_pos (Or.inr (Or.inr q))]
    · rw [if_neg q, if_neg (fun u => by rcases u with u | u | u; (· exact B (Or.inl u)); (· exact B (Or.inr u)); (· exact q u))]
set_option maxRecDepth 100000 in
theorem cx_queue (l : Launch) (g : jG) (hgt : Nat) {S : jS} {w : Nat → Nat → Nat} {hx : Nat} {X : XS} (k p : Int32) (hW : WX S w hx X) (hh : 2 ≤ hgt) : CT l g mX9_queue hgt 0 0 [.ref (w 7 0), .int k, .int p] S (jPure (.int (p_queue X k p)) S) := by
  refine CT_of qX9_queue (Nat.le_of_ble_eq_true rfl) ?_
  refine J_aload_n (pc := 0) dX9_queue_0 rfl rfl ?_
  refine J_getr (pc := 1) (i := 0) cl7 hW.ro (by decide) rfl hW.rfab kX9_10 dX9_queue_1 ?_
  refine J_iload_n (pc := 4) dX9_queue_4 rfl rfl ?_
  refine J_iload_n (pc := 5) dX9_queue_5 rfl rfl ?_
  refine J_callV (pc := 6) (cx_waiting l g (hgt - 1) k p hW (by omega)) qX2_waiting vX2_waiting cl1 rfl hW.fo kX9_105 dX9_queue_6 rfl rfl (Nat.le_of_ble_eq_true rfl) (by omega) (by omega) (by omega) ?_
  rintro _ _ ⟨rfl, rfl⟩
  refine J_iret (pc := 9) dX9_queue_9 rfl (by omega) (by omega) ?_
  exact ⟨rfl, rfl⟩
set_option maxRecDepth 100000 in
theorem cx_total (l : Launch) (g : jG) (hgt : Nat) {S : jS} {w : Nat → Nat → Nat} {hx : Nat} {X : XS} (v : Int32) (hW : WX S w hx X) (hI : xOK X) (hh : 3 ≤ hgt) : CT l g mX9_total hgt 0 0 [.ref (w 7 0), .int v] S (jPure (.int (p_total X v)) S) := by
  refine CT_of qX9_total (Nat.le_of_ble_eq_true rfl) ?_
  refine J_aload_n (pc := 0) dX9_total_0 rfl rfl ?_
  refine J_getr (pc := 1) (i := 0) cl7 hW.ro (by decide) rfl hW.rfab kX9_10 dX9_total_1 ?_
  refine J_iload_n (pc := 4) dX9_total_4 rfl rfl ?_
  refine J_callV (pc := 5) (cx_fabTell l g (hgt - 1) v hW hI (by omega)) qX2_tell vX2_tell cl1 rfl hW.fo kX9_116 dX9_total_5 rfl rfl (Nat.le_of_ble_eq_true rfl) (by omega) (by omega) (by omega) ?_
  rintro _ _ ⟨rfl, rfl⟩
  refine J_iret (pc := 8) dX9_total_8 rfl (by omega) (by omega) ?_
  exact ⟨rfl, rfl⟩
