/-! THE LAW FROM ITS ENTRY: what the tables know; the two objects; the row of one long -/
def j00 : jS := ([], fun _ => 0, fun _ _ _ => 0, fun _ _ _ => 0, fun _ _ _ => none, fun _ => 0)
theorem jK_start {s : State} {b : Nat} (hts : ∀ w ∈ lw_tbl, w.before #[Value.ref b] s = true) : ∃ g : jG, jK g s := by
  have ht0 : ∀ w ∈ T0, w.before #[Value.ref b] s = true := fun w hw => hts w (List.mem_filter.mp hw).1
  have hC : ∀ c : Nat, ∃ (cC : ClassId) (iS : Nat → Nat), ∀ q : vw_C, vwCl[c]? = some q → u_Kn s q.1 q.2.1 q.2.2 cC iS := by
    intro c
    match c with
    | 0 =>
      obtain ⟨cC, iS, h⟩ := u_known (C := RX1) (T := TX1) (N := 6) (n := 6) ht0 iT0 (ht0 _ ist0)
      exact ⟨cC, iS, fun q hq => by cases hq; exact h⟩
    | 1 =>
      obtain ⟨cC, iS, h⟩ := u_known (C := RX2) (T := TX2) (N := 7) (n := 7) ht0 iT1 (ht0 _ ist1)
      exact ⟨cC, iS, fun q hq => by cases hq; exact h⟩
    | 2 =>
      obtain ⟨cC, iS, h⟩ := u_known (C := RX3) (T := TX3) (N := 11) (n := 11) ht0 iT2 (ht0 _ ist2)
      exact ⟨cC, iS, fun q hq => by cases hq; exact h⟩
    | 3 =>
      obtain ⟨cC, iS, h⟩ := u_known (C := RX4) (T := TX4) (N := 6) (n := 6) ht0 iT3 (ht0 _ ist3)
      exact ⟨cC, iS, fun q hq => by cases hq; exact h⟩
    | 4 =>
      obtain ⟨cC, iS, h⟩ := u_known (C := RX6) (T := TX6) (N := 10) (n := 10) ht0 iT4 (ht0 _ ist4)
      exact ⟨cC, iS, fun q hq => by cases hq; exact h⟩
    | 5 =>
      obtain ⟨cC, iS, h⟩ := u_known (C := RX7) (T := TX7) (N := 3) (n := 3) ht0 iT5 (ht0 _ ist5)
      exact ⟨cC, iS, fun q hq => by cases hq; exact h⟩
    | 6 =>
      obtain ⟨cC, iS, h⟩ := u_known (C := RX8) (T := TX8) (N := 9) (n := 9) ht0 iT6 (ht0 _ ist6)
      exact ⟨cC, iS, fun q hq => by cases hq; exact h⟩
    | 7 =>
      obtain ⟨cC, iS, h⟩ := u_known (C := RX9) (T := TX9) (N := 5) (n := 5) ht0 iT7 (ht0 _ ist7)
      exact ⟨cC, iS, fun q hq => by cases hq; exact h⟩
    | 8 =>
      obtain ⟨cC, iS, h⟩ := u_known (C := RX10) (T := TX10) (N := 46) (n := 46) ht0 iT8 (ht0 _ ist8)
      exact ⟨cC, iS, fun q hq => by cases hq; exact h⟩
    | c + 9 => exact ⟨0, fun _ => 0, fun q hq => by simp [vwCl] at hq⟩
  obtain ⟨c9, k9, p9, u1, u2, u3⟩ := Cond.arrayClass_spec (ht0 _ arrI)
  obtain ⟨c10, k10, p10, v1, v2, v3⟩ := Cond.arrayClass_spec (ht0 _ arrZ)
  have o11 : (Cond.arrayOver (.object RX3)).before #[Value.ref b] s = true := hts _ (by decide +kernel)
  have o12 : (Cond.arrayOver (.object RX4)).before #[Value.ref b] s = true := hts _ (by decide +kernel)
  have o13 : (Cond.arrayOver (.object RX7)).before #[Value.ref b] s = true := hts _ (by decide +kernel)
  obtain ⟨p11, c11, k11, w1, -, w3, w4, w5⟩ := Cond.arrayOver_spec o11
  obtain ⟨p12, c12, k12, x1, -, x3, x4, x5⟩ := Cond.arrayOver_spec o12
  obtain ⟨p13, c13, k13, y1, -, y3, y4, y5⟩ := Cond.arrayOver_spec o13
  have hN : ∀ w ∈ jNs, w ∈ lw_tbl := by decide +kernel
  have hNo : ∀ w ∈ jNs, w.onTables = true := by decide +kernel
  refine ⟨(fun c => (hC c).choose, fun c => (hC c).choose_spec.choose, fun k => if k = 9 then c9 else if k = 10 then c10 else if k = 11 then c11 else if k = 12 then c12 else c13), ⟨fun c q hq => (hC c).choose_spec.choose_spec q hq, ?_⟩, va_AO.of o11, va_AO.of o12, va_AO.of o13, fun w hw => va_Nw.of (hNo w hw) (hts w (hN w hw))⟩
  intro k q hq
  match k with
  | 0 => cases hq; exact ⟨fun n z => ⟨fun k h => (by cases h), k9, u2, p9, u3⟩, u1⟩
  | 1 => cases hq; exact ⟨fun n z => ⟨fun k h => (by cases h), k10, v2, p10, v3⟩, v1⟩
  | 2 => cases hq; exact ⟨fun n z => ⟨fun k h => (by cases h), k11, w3, p11, w4⟩, k11, p11, w3, w4, w1, w5⟩
  | 3 => cases hq; exact ⟨fun n z => ⟨fun k h => (by cases h), k12, x3, p12, x4⟩, k12, p12, x3, x4, x1, x5⟩
  | 4 => cases hq; exact ⟨fun n z => ⟨fun k h => (by cases h), k13, y3, p13, y4⟩, k13, p13, y3, y4, y1, y5⟩
  | k + 5 => simp [jTys] at hq
theorem stX_start {s : State} {b : Nat} (hts : ∀ w ∈ lw_tbl, w.before #[Value.ref b] s = true) (hgv : (Jvm.Cond.and given_1 narrow_1).before #[Value.ref b] s = true) : stX (jA0 s) s s.heap := by
  have hs := flat_of_before _ hgv
  have r1 : (Cond.isRef (.static Bundle.tN "UNASSIGNED_STACK" Bundle.steD)).before #[Value.ref b] s = true := hs _ (by decide +kernel)
  have r2 : (Cond.isRef (.static Bundle.tN "SUPPRESSED_SENTINEL" Bundle.listD)).before #[Value.ref b] s = true := hs _ (by decide +kernel)
  have r3 : (Cond.exactly (.string RX9 55) "java/lang/String").before #[Value.ref b] s = true := hs _ (by decide +kernel)
  have i1 : (Cond.initialized Bundle.tN).before #[Value.ref b] s = true := hts _ (by decide +kernel)
  have l1 : (Cond.laysStatic Bundle.tN "UNASSIGNED_STACK" Bundle.steD).before #[Value.ref b] s = true := hts _ (by decide +kernel)
  have l2 : (Cond.laysStatic Bundle.tN "SUPPRESSED_SENTINEL" Bundle.listD).before #[Value.ref b] s = true := hts _ (by decide +kernel)
  have g1 : (Cond.stringRef RX9 55 "n is not 1 .. 200").before #[Value.ref b] s = true := hts _ (by decide +kernel)
  obtain ⟨a, c, cell, k, q1, -⟩ := Cond.exactly_spec (args := #[Value.ref b]) (first := s) (o := none) (s := s) (idx := []) r3
  exact ⟨vx_Zqof l1 i1 r1 (fun a h => Nat.not_le.mpr h), vx_Zqof l2 i1 r2 (fun a h => Nat.not_le.mpr h), fun w hw => va_Nw.of (eNs_on w hw) (hts w (eX_cast w hw)), a, vk_R.of g1 q1⟩
/-- a new object's cell -/
theorem cell_new (g : jG) {S : jS} {q c : Nat} (hC : c < 9) : cellOf g (nX S q c 0) q = .inr (c, (List.range (jN c)).map (fun j => defaultValue (jTy c j))) := by
  rw [cell_obj g (S := nX S q c 0) sAt_new hC]
  unfold fvs
  congr 2
  apply List.map_congr_left
  intro j hj
  rcases okTys c hC j (List.mem_range.mp hj) with h | h | h | ⟨C, h⟩ | ⟨t, h⟩ <;> rw [h] <;> simp [fv, nX, defaultValue, va_rf]
theorem isA_new0 {q c : Nat} : isA (nX j00 q c 0) c q 0 (fun _ => 0) (fun _ => none) := ⟨List.mem_append_right _ List.mem_cons_self, va_up_self _ _ _, va_up_self _ _ _, fun k => if_pos ⟨rfl, rfl⟩, fun k => if_pos ⟨rfl, rfl⟩⟩
theorem hG_code (me' : jM) (h : Cond.code me'.1 me'.2.1 me'.2.2.1 me'.2.2.2 ∈ T0) : GoodIn T0 (Cond.code me'.1 me'.2.1 me'.2.2.1 me'.2.2.2 :: T0) := t0_goodIn (fun w hw => by
  rcases List.mem_cons.mp hw with rfl | hw
  · exact h
  · exact hw)
set_option maxHeartbeats 4000000 in
set_option maxRecDepth 100000 in
/-- from the entry, for every script of at most 2560 ints, the law comes to its end with true -/
theorem whole_start {p : Program} {e : Env} {s : State} {m : MethodId} {below : List Frame} {meth : Method} {c : Code} (l : Launch) (hl : l.stackTraces = false) {b L : Nat} {xs : Nat → Int32} (hL : L ≤ 2560) (C0 : lw_At p s m meth c b L xs) : W p l e room_1 s m #[Value.ref b] below meth c s.heap [] 0 0 (lw_Z below #[Value.ref b] s) (entryFrame m ([Value.ref b] : List Value).toArray 7) := by
  obtain ⟨hx, hb, hr, hml, hown, hts, hX, hbl, hlocks, hgv⟩ := id C0
  have hown : s.vm.findClass RL = some m.cls := hown
  have ht0 : ∀ w ∈ T0, w.before #[Value.ref b] s = true := fun w hw => hts w (List.mem_filter.mp hw).1
  obtain ⟨g, hK⟩ := jK_start hts
  have hst := stX_start hts hgv
  have hV0 : jV g (jA0 s) s j00 s.heap [] := ⟨fun k q h => by simp [jW, va_pl, j00] at h, ⟨fun i j p q h => by simp [jW, va_pl, j00] at h, fun k q h => by simp [jW, va_pl, j00] at h⟩, va_S.rf, fun q h => h⟩
  have hlv := lv_entry ([.ref b]) (n := 7) (Nat.le_of_ble_eq_true rfl)
  rw [lg_entry_eq]
  generalize (lg_sl ([.ref b]) ++ List.replicate (7 - (lg_sl ([.ref b])).length) Slot.unset).toArray = ls at hlv ⊢
  have hlv : lv_has ls 7 [(0, .ref b)] := hlv
  -- the class's object
  refine va_new (D := (g.1, g.2.1)) (cl := vwCl) (ci := 7) (C := RX9) (T := TX9) (N := 5) (fs := (List.range (jN 7)).map (fun j => defaultValue (jTy 7 j))) hx hb ht0 cl7.2.2.1 (jTy 7) cl7.2.2.2.2 hown (ht0 _ kL_8) (ht0 _ ist7) (ht0 _ ini7) hK.1 hV0.1 hV0.2.1 hV0.2.2.1 hV0.2.2.2 cl7.2.1 (fun j hj => by simp [vp_V, jN, hj]) (Nat.le_of_ble_eq_true rfl) (Nat.le_of_ble_eq_true rfl) dL_law_0 (fun qx H1 h1 h2 h3 => ?_)
  rw [jW_new g (S := j00) (c := 7) (n := 0) (jD_fresh h2) (cell_new g (by decide))] at h1 h2
  have hV1 : jV g (jA0 s) s (nX j00 qx 7 0) H1 [] := ⟨h1, h2, h3, fun q h => h⟩
  refine lv_dup hx hb dL_law_3 rfl ?_
  refine j_call2 (rest := [.ref qx]) (va_runI (As := []) (rest := [.ref qx]) (b := qx) ⟨hx, hb, hml, hown, ht0⟩ (cx_init l g 10 (b := qx) isA_new0 (by decide) H1.size) (cwI 0 ht0 (hG_code mX9_init qX9_init.1) rfl rfl rfl (ht0 _ qX9_init.2.1) (ht0 _ kL_15) (ht0 _ vX9_init.1) vX9_init.2 qX9_init.2.2.1 ⟨by decide, by decide⟩) ⟨j_blind, fun U hU hW => ⟨rfl, by rw [hU], by rw [hU]; exact hV1.1, jK.warm hW hK, hV1.2.1.weaken (fun _ _ _ _ => trivial)⟩⟩ rfl rfl hlv.1 rfl (lv_room (Nat.le_of_ble_eq_true rfl)) dL_law_4 ⟨Nat.le_of_ble_eq_true rfl, Nat.le_of_ble_eq_true rfl⟩) hV1 ?_
  rintro _ S1 H2 locs2 ⟨rfl, w, ew, hWX⟩ hV2 - -
  refine lv_astore_n (lv' := [(1, .ref qx), (0, .ref b)]) hx hb dL_law_7 rfl hlv (by decide) rfl (fun ls hlv => ?_)
  -- the reference's object
  refine va_new (D := (g.1, g.2.1)) (cl := vwCl) (ci := 8) (C := RX10) (T := TX10) (N := 46) (fs := (List.range (jN 8)).map (fun j => defaultValue (jTy 8 j))) hx hb ht0 cl8.2.2.1 (jTy 8) cl8.2.2.2.2 hown (ht0 _ kL_16) (ht0 _ ist8) (ht0 _ ini8) hK.1 hV2.1 hV2.2.1 hV2.2.2.1 hV2.2.2.2 cl8.2.1 (fun j hj => by simp [vp_V, jN, hj]) (Nat.le_of_ble_eq_true rfl) (Nat.le_of_ble_eq_true rfl) dL_law_8 (fun qm H3 h1 h2 h3 => ?_)
  have hqm : qm ∉ S1.1 := jD_fresh h2
  have hP1 : va_P (g.1, g.2.1) vwCl (jW g S1) H3 := h1.by (fun k => k) (fun k q hq => by
    have hl := (List.getElem?_eq_some_iff.mp hq).1
    rw [List.getElem?_append_left hl]
    exact hq)
  have hV3 : jV g (jA0 s) s S1 H3 locs2 := ⟨hP1, hV2.2.1, h3, hV2.2.2.2⟩
  have eW : jW g j00 ++ [(qm, Sum.inr (8, (List.range (jN 8)).map (fun j => defaultValue (jTy 8 j))))] = jW g (nX j00 qm 8 0) := jW_new g (S := j00) (c := 8) (n := 0) (fun h => nomatch h) (cell_new g (by decide))
  have hPm : va_P (g.1, g.2.1) vwCl (jW g (nX j00 qm 8 0)) H3 := by
    rw [← eW]
    exact h1.by (fun k => (jW g S1).length + k) (fun k q hq => by
      rw [List.getElem?_append_right (by omega), Nat.add_sub_cancel_left]
      exact hq)
  have hAm : jA0 s qm := h2.2 (jW g S1).length (qm, Sum.inr (8, (List.range (jN 8)).map (fun j => defaultValue (jTy 8 j)))) (by rw [List.getElem?_append_right (Nat.le_refl _), Nat.sub_self]; rfl)
  have hDm : va_D (jA0 s) (jW g (nX j00 qm 8 0)) := by
    rw [← eW]
    refine ⟨fun i j p q h1 h2 _ => ?_, fun k q hq => ?_⟩
    · have z1 : i < 1 := (List.getElem?_eq_some_iff.mp h1).1
      have z2 : j < 1 := (List.getElem?_eq_some_iff.mp h2).1
      omega
    · have z1 : k < 1 := (List.getElem?_eq_some_iff.mp hq).1
      rw [show k = 0 by omega] at hq
      cases hq
      exact hAm
  have hVm : jV g (jA0 s) s (nX j00 qm 8 0) H3 locs2 := ⟨hPm, hDm, h3, hV2.2.2.2⟩
  have hdis : ∀ q, q ∈ S1.1 → q ∉ (nX j00 qm 8 0).1 := fun q hq z => by
    have z : q ∈ [qm] := z
    rw [List.mem_singleton.mp z] at hq
    exact hqm hq
  refine lv_dup hx hb dL_law_11 rfl ?_
  refine j_call2 (rest := [.ref qm]) (va_runI (As := []) (rest := [.ref qm]) (b := qm) ⟨hx, hb, hml, hown, ht0⟩ (cm_init l g 10 (S := nX j00 qm 8 0) (b := qm) sAt_new (fun k => if_pos ⟨rfl, rfl⟩) (by decide) H3.size) (cwI 0 ht0 (hG_code mX10_init qX10_init.1) rfl rfl rfl (ht0 _ qX10_init.2.1) (ht0 _ kL_18) (ht0 _ vX10_init.1) vX10_init.2 qX10_init.2.2.1 ⟨by decide, by decide⟩) ⟨j_blind, fun U hU hW => ⟨rfl, by rw [hU], by rw [hU]; exact hVm.1, jK.warm hW hK, hVm.2.1.weaken (fun _ _ _ _ => trivial)⟩⟩ rfl rfl hlv.1 rfl (lv_room (Nat.le_of_ble_eq_true rfl)) dL_law_12 ⟨Nat.le_of_ble_eq_true rfl, Nat.le_of_ble_eq_true rfl⟩) hVm ?_
  rintro _ S3 H4 locs4 ⟨rfl, ad, hWM⟩ hV5 hk4 hi4
  have hV4 : jV g (jA0 s) s S1 H4 locs4 := hV3.oth hV5.2.2.1 hk4 hdis
  have hdis4 : ∀ q, q ∈ S1.1 → q ∉ S3.1 := fun q hq z => by
    rcases hi4 q z with u | u
    · exact hdis q hq u
    · have := hV3.lt hq
      omega
  refine lv_astore_n (lv' := [(2, .ref qm), (1, .ref qx), (0, .ref b)]) hx hb dL_law_15 rfl hlv (by decide) rfl (fun ls hlv => ?_)
  refine lv_iconst (v := nI 1) hx hb dL_law_16 (by decide) ?_
  -- the row of one long
  have hD4 : va_D (jA0 s) (jW g S1 ++ jW g S3) := va_D.app hV4.2.1 hV5.2.1 (fun i j p q h1 h2 e => hdis4 p.1 (jW_mem h1) (by rw [e]; exact jW_mem h2))
  refine va_newa (D := (g.1, g.2.1)) (cl := vwCl) (ty := .long) (N' := 1) (atype := .long) (a0 := (1, .inr (.inl (fun _ => 0)))) hx hb (ht0 _ arrJ) rfl hK.1 (hV4.1.app hV5.1) hD4 hV5.2.2.1 hV5.2.2.2 (fun cA => by rw [vp_cell_l]; rfl) (nI_pos (by decide)) (nI_clamp (by decide)) (by decide) (Nat.le_of_ble_eq_true rfl) (Nat.le_of_ble_eq_true rfl) dL_law_17 (fun qo dL H5 h0 h1 h2 h3 => ?_)
  have hPx : va_P (g.1, g.2.1) vwCl (jW g S1) H5 := h1.by (fun k => k) (fun k q hq => by
    have hl := (List.getElem?_eq_some_iff.mp hq).1
    rw [List.append_assoc, List.getElem?_append_left hl]
    exact hq)
  have hPm : va_P (g.1, g.2.1) vwCl (jW g S3) H5 := h1.by (fun k => (jW g S1).length + k) (fun k q hq => by
    have hl := (List.getElem?_eq_some_iff.mp hq).1
    rw [List.append_assoc, List.getElem?_append_right (by omega), Nat.add_sub_cancel_left, List.getElem?_append_left hl]
    exact hq)
  have hPo : va_P (g.1, g.2.1) vwCl [(qo, oC dL (fun _ => 0))] H5 := h1.by (fun k => (jW g S1 ++ jW g S3).length + k) (fun k q hq => by
    rw [List.getElem?_append_right (by omega), Nat.add_sub_cancel_left]
    exact hq)
  have hlast : (jW g S1 ++ jW g S3 ++ [(qo, oC dL (fun _ => 0))])[(jW g S1 ++ jW g S3).length]? = some (qo, oC dL (fun _ => 0)) := by
    rw [List.getElem?_append_right (Nat.le_refl _), Nat.sub_self]
    rfl
  have hAo : jA0 s qo := h2.2 _ _ hlast
  have fresh : ∀ S : jS, (∀ (k : Nat) (q : Nat × va_E), (jW g S)[k]? = some q → ∃ i, i < (jW g S1 ++ jW g S3).length ∧ (jW g S1 ++ jW g S3)[i]? = some q) → qo ∉ S.1 := fun S hS hq => by
    obtain ⟨k, hk⟩ := va_pl_get (X := []) (f := cellOf g S) hq
    obtain ⟨i, hi, hi2⟩ := hS k _ hk
    have := h2.1 i _ (qo, cellOf g S qo) (qo, oC dL (fun _ => 0)) (by rw [List.getElem?_append_left hi]; exact hi2) hlast rfl
    omega
  have hox : qo ∉ S1.1 := fresh S1 (fun k q hq => by
    have hl := (List.getElem?_eq_some_iff.mp hq).1
    exact ⟨k, by rw [List.length_append]; omega, by rw [List.getElem?_append_left hl]; exact hq⟩)
  have hom : qo ∉ S3.1 := fresh S3 (fun k q hq => by
    have hl := (List.getElem?_eq_some_iff.mp hq).1
    exact ⟨(jW g S1).length + k, by rw [List.length_append]; omega, by rw [List.getElem?_append_right (by omega), Nat.add_sub_cancel_left]; exact hq⟩)
  refine lv_astore_n (lv' := [(3, .ref qo), (2, .ref qm), (1, .ref qx), (0, .ref b)]) hx hb dL_law_19 rfl hlv (by decide) rfl (fun ls hlv => ?_)
  refine lv_iconst (v := nI 0) hx hb dL_law_20 (by decide) ?_
  refine lv_istore (lv' := [(4, .int (nI 0)), (3, .ref qo), (2, .ref qm), (1, .ref qx), (0, .ref b)]) hx hb dL_law_21 hlv (by decide) rfl (fun ls hlv => ?_)
  have C : lC (p, e, s, m, below, meth, c, g, b, dL, qo) L xs := ⟨hx, hb, hr, hml, hlocks, hown, ht0, hK, hX, hbl, h0.sub [5] rfl⟩
  have x00 : xV x0 0 0 = 0 := rfl
  have hI : lI x0 qx qm 0 S1 S3 := ⟨⟨w, ew, hWX⟩, ⟨ad, hWM⟩, by rw [x00]; exact good_x0, by rw [x00]; exact Nat.zero_le _⟩
  have key := law_loop (l := l) (Z := (p, e, s, m, below, meth, c, g, b, dL, qo)) (bx := qx) (bm := qm) C hl hst hL L 0 (Nat.zero_le _) (by omega) x0 S1 S3 (fun _ => 0) hI
  refine W.widen (k := 400) (n := 14000) (Nat.le_of_ble_eq_true rfl) (Nat.le_of_ble_eq_true rfl) ?_
  exact key H5 locs4 ls ⟨⟨hPx, hV4.2.1, h3, hV4.2.2.2⟩, ⟨hPm, hV5.2.1, h3, hV5.2.2.2⟩, hdis4, hPo, hox, hom, hAo⟩ (lv_sub hlv [0, 4, 3, 2, 1] rfl)
