/-! THE LAW: its own method slot, which catches what the class throws -/
abbrev eXn : String := "java/lang/IllegalArgumentException"
abbrev eXs : List String := ["java/lang/RuntimeException", "java/lang/Exception"]
/-- words of a throw that no warmer tables change but that are not good -/
def eNs : List Cond := [.castable eXn eXn, .declares (Bundle.initS "java/lang/RuntimeException"), .declares (Bundle.initS "java/lang/Exception"), .declares (Bundle.initS Bundle.tN)]
theorem eNs_on : ∀ w ∈ eNs, w.onTables = true := by decide +kernel
theorem eNs_warm {u U : State} (hW : u.WarmedH U.vm) (h : ∀ w ∈ eNs, va_Nw w u) : ∀ w ∈ eNs, va_Nw w U := by
  intro w hw
  have hz := h w hw
  simp only [eNs, List.mem_cons, List.not_mem_nil, or_false] at hw
  rcases hw with rfl | rfl | rfl | rfl
  · exact va_Nw.warmC hW hz
  · exact va_tabs rfl (rfl : (u.setVm U.vm).vm = U.vm) (by rw [Cond.declares_setVm hW.alike]; exact hz)
  · exact va_tabs rfl (rfl : (u.setVm U.vm).vm = U.vm) (by rw [Cond.declares_setVm hW.alike]; exact hz)
  · exact va_tabs rfl (rfl : (u.setVm U.vm).vm = U.vm) (by rw [Cond.declares_setVm hW.alike]; exact hz)
theorem t0_in {w : Cond} (h : w ∈ lw_tbl) (hg : goodWord w = true) : w ∈ T0 := List.mem_filter.mpr ⟨h, hg⟩
set_option maxRecDepth 100000 in
theorem eX_words : ∀ w ∈ vx_atS RX9 57 eXn eXs, w ∈ T0 ∨ w ∈ eNs := by
  have h : (vx_atS RX9 57 eXn eXs).all (fun w => (decide (w ∈ lw_tbl) && goodWord w) || decide (w ∈ eNs)) = true := by decide +kernel
  intro w hw
  have := List.all_eq_true.mp h w hw
  simp only [Bool.and_eq_true, Bool.or_eq_true, decide_eq_true_eq] at this
  exact this.imp (fun z => t0_in z.1 z.2) id
set_option maxRecDepth 100000 in
theorem eX_ini : Cond.initialized eXn ∈ T0 := t0_in (by decide +kernel) rfl
set_option maxRecDepth 100000 in
theorem eX_cast : ∀ w ∈ eNs, w ∈ lw_tbl := by decide +kernel
set_option maxRecDepth 100000 in
theorem eX_code : Cond.codeWith yL_slot cL_slot 4 (some .int) [(0, 9, 12, 13)] ∈ T0 := t0_in (by decide +kernel) rfl
set_option maxRecDepth 100000 in
theorem eX_stat : Cond.static yL_slot ∈ T0 := t0_in (by decide +kernel) rfl
set_option maxRecDepth 100000 in
theorem eX_inL : Cond.initialized RL ∈ T0 := t0_in (by decide +kernel) rfl
/-- what a throw needs of the machine: two statics of Throwable, the text -/
def stX (A : Nat → Prop) (U : State) (H : Heap) : Prop := vx_Zq Bundle.tN "UNASSIGNED_STACK" Bundle.steD A U H ∧ vx_Zq Bundle.tN "SUPPRESSED_SENTINEL" Bundle.listD A U H ∧ (∀ w ∈ eNs, va_Nw w U) ∧ ∃ sa, vk_R RX9 55 "n is not 1 .. 200" sa U
theorem stX.vm {A : Nat → Prop} {u U : State} {H : Heap} (hv : U.vm = u.vm) (h : stX A u H) : stX A U H := by
  obtain ⟨h1, h2, hc, sa, h3⟩ := h
  exact ⟨h1.moved (by rw [hv]; exact Vm.Alike.refl _), h2.moved (by rw [hv]; exact Vm.Alike.refl _), fun w hw => va_Nw.same (eNs_on w hw) hv.symm (hc w hw), sa, h3.same hv⟩
theorem stX.warm {A : Nat → Prop} {u U : State} {H : Heap} (hW : u.WarmedH U.vm) (h : stX A u H) : stX A U H := by
  obtain ⟨h1, h2, hc, sa, h3⟩ := h
  exact ⟨h1.moved hW.alike, h2.moved hW.alike, eNs_warm hW hc, sa, h3.warm hW⟩
theorem stX.kept {A : Nat → Prop} {U : State} {H H1 : Heap} (h : stX A U H) (hq : ∀ a : Nat, a < H.size → ¬ A a → H1[a]? = H[a]?) : stX A U H1 := ⟨h.1.kept hq, h.2.1.kept hq, h.2.2⟩
theorem stX.narrow {A B : Nat → Prop} {U : State} {H : Heap} (h : stX A U H) (hAB : ∀ q, B q → A q) : stX B U H := ⟨h.1.narrow hAB, h.2.1.narrow hAB, h.2.2⟩
abbrev pBd (g : jG) (S : jS) (sz : Nat) (U : State) : Prop := U.heap.size = sz ∧ va_P (g.1, g.2.1) vwCl (jW g S) U.heap ∧ jK g U ∧ va_D (fun _ => True) (jW g S) ∧ stX (jA S sz) U U.heap
theorem pBd_blind {g : jG} {S : jS} {sz : Nat} {args : List Value} : FrameBlind (va_Pc args (pBd g S sz)) := fun a U g' mk q => by
  obtain ⟨q0, q1, qP, qK, qD, qS⟩ := q
  exact ⟨q0, q1, qP, jK.same (u := U) (U := U.calling g' mk a) rfl qK, qD, stX.vm (u := U) (U := U.calling g' mk a) (H := U.heap) rfl qS⟩
set_option maxHeartbeats 4000000 in
set_option maxRecDepth 100000 in
/-- GrantNet.slot of a number that is none of 1 .. 200: it throws, and nothing that was there changes -/
theorem cx_slotBad (l : Launch) (hl : l.stackTraces = false) (g : jG) {S : jS} {b : Nat} {n : Int32} (hn : n < nI 1 ∨ nI 200 < n) (sz : Nat) : vx_Met l yX9_slot (Cond.code yX9_slot cX9_slot 3 (some .int) :: T0) (jR 9 1 6) (va_Pc [.ref b, .int n] (pBd g S sz)) (va_Qi (fun (_ : Int32) (_ : Unit) => False) (fun _ _ => True) (fun _ => False)) (vx_X (fun (_ : Unit) => True) (fun E _ _ => E = eXn) (fun q => sz ≤ q)) 1 6 (fun q => sz ≤ q) := by
  refine vx_ofW (cc := cX9_slot) (maxL := 3) (ret := some .int) (by decide +kernel) rfl ?_
  intro p e s m args below meth c s₁ B hml htab hv
  obtain ⟨rfl, hsz, hP, hK, hD0, hU, hN, hCa, sa, hR⟩ := hv
  subst hsz
  have hts := atoms_spec (ws := Cond.code yX9_slot cX9_slot 3 (some .int) :: T0) B.pre
  have hts0 : ∀ w ∈ T0, w.before _ s = true := fun w hw => hts w (List.mem_cons_of_mem _ hw)
  have hx := B.exec
  have hb := B.bytes
  have hown : s.vm.findClass RX9 = some m.cls := findClass_of_methodNamed B.named
  have hlocks := B.notSynchronized
  have hlv := lv_entry [.ref b, .int n] (n := 3) (Nat.le_of_ble_eq_true rfl)
  rw [lg_entry_eq]
  generalize (lg_sl [Value.ref b, Value.int n] ++ List.replicate (3 - (lg_sl [Value.ref b, Value.int n]).length) Slot.unset).toArray = ls at hlv ⊢
  have hlv : lv_has ls 3 [(0, .ref b), (1, .int n)] := hlv
  have hgood : ∀ w ∈ Cond.classLink RX9 53 eXn :: Cond.initialized eXn :: vx_atS RX9 57 eXn eXs, vx_ot w = true := by
    have key : ∀ w ∈ T0, vx_ot w = true := fun w hw => by
      unfold vx_ot
      rw [(List.mem_filter.mp hw).2, Bool.or_true]
    intro w hw
    rcases List.mem_cons.mp hw with h | h
    · rw [h]; exact key _ kX9_53
    · rcases List.mem_cons.mp h with h | h
      · rw [h]; exact key _ eX_ini
      · rcases eX_words w h with h | h
        · exact key _ h
        · unfold vx_ot
          rw [eNs_on w h]
          rfl
  have thr : W p l e (jR 9 1 6) s m #[Value.ref b, Value.int n] below meth c s.heap [] 0 0 (vx_MQ below (va_Qi (fun (_ : Int32) (_ : Unit) => False) (fun _ _ => True) (fun _ => False)) (vx_X (fun (_ : Unit) => True) (fun E _ _ => E = eXn) (fun q => s.heap.size ≤ q)) #[Value.ref b, Value.int n] s 1 6 (fun q => s.heap.size ≤ q)) (F0 m 12 ls []) :=
    vx_throwS (own := RX9) (cls := eXn) (text := "n is not 1 .. 200") (names := eXs) (ik := 53) (is := 55) (ic := 57) (sa := sa) (A := jA S s.heap.size) hx hb hl hown (by decide +kernel) (by decide +kernel) (hts0 _ kX9_53) (hts0 _ eX_ini) hR (fun w hw => (eX_words w hw).elim (fun z => hts0 w z) (fun z => va_Nw.use (eNs_on w z) (hCa w z))) hgood hU hN va_S.rf (hlv.1.trans hml.symm) dX9_slot_12 dX9_slot_15 dX9_slot_16 dX9_slot_18 dX9_slot_21 (fun x hx => (htab x hx).elim) (by decide) (by decide) (by decide) (by decide) hlocks (fun t _ h2 h3 => ⟨(), trivial, rfl, h2, fun q hq _ => h3 q hq⟩) (fun z hz => nomatch hz) (by decide) (by decide)
  refine lv_iload_n hx hb dX9_slot_0 rfl (lv_lk hlv (i := 1) rfl) ?_
  refine lv_iconst (v := nI 1) hx hb dX9_slot_1 (by decide) ?_
  refine lv_icmp_lt (tgt := 12) hx hb dX9_slot_2 (by decide) (fun h1 => ?_) (fun h1 => ?_)
  · exact thr
  · refine lv_iload_n hx hb dX9_slot_5 rfl (lv_lk hlv (i := 1) rfl) ?_
    refine lv_sipush (v := nI 200) hx hb dX9_slot_6 (by decide) ?_
    refine lv_icmp_le (tgt := 22) hx hb dX9_slot_9 (by decide) (fun h2 => ?_) (fun h2 => ?_)
    · exfalso
      rcases hn with z | z
      · exact h1 z
      · exact absurd h2 (Int32.not_le.mpr z)
    · exact thr
theorem wsV_slot : GoodIn T0 (wsV RL 7 RX9 yX9_slot (Cond.code yX9_slot cX9_slot 3 (some .int) :: T0)) := t0_goodIn (fun w h => by
    rcases List.mem_append.mp h with h | h
    · simp only [List.mem_cons, List.not_mem_nil, or_false] at h
      rcases h with rfl | rfl | rfl | rfl
      · exact kL_7
      · exact vX9_slot.1
      · exact vX9_slot.2
      · exact qX9_slot.2.1
    · rcases List.mem_cons.mp h with rfl | h
      · exact qX9_slot.1
      · exact h)
set_option maxHeartbeats 4000000 in
set_option maxRecDepth 100000 in
theorem cl_slotBad (l : Launch) (hl : l.stackTraces = false) (g : jG) {S : jS} {b o : Nat} {n : Int32} (hn : n < nI 1 ∨ nI 200 < n) (hbS : sAt S 7 b) (sz : Nat) : Met l yL_slot (Cond.codeWith yL_slot cL_slot 4 (some .int) [(0, 9, 12, 13)] :: T0) (jR 10 1 6) (va_Pc [.ref b, .int n, .ref o] (pBd g S sz)) (fun _ st oc t => oc = .returned (some (.int (nI 1))) ∧ va_F (fun q => sz ≤ q) st t) 1 6 (fun q => sz ≤ q) := by
  refine va_MetW (cc := cL_slot) (maxL := 4) (ret := some .int) (hh := [(0, 9, 12, 13)]) (by decide +kernel) rfl ?_
  intro p e s m args below meth c s₁ B hml hv
  obtain ⟨rfl, hsz, hP, hK, hD0, hst⟩ := hv
  subst hsz
  have hts := atoms_spec (ws := Cond.codeWith yL_slot cL_slot 4 (some .int) [(0, 9, 12, 13)] :: T0) B.pre
  have hts0 : ∀ w ∈ T0, w.before _ s = true := fun w hw => hts w (List.mem_cons_of_mem _ hw)
  have htab := vx_table (x := yL_slot) B (hts _ List.mem_cons_self)
  have hx := B.exec
  have hb := B.bytes
  have hr := B.returns
  have hown : s.vm.findClass RL = some m.cls := findClass_of_methodNamed B.named
  have hlocks := B.notSynchronized
  have hlv := lv_entry [.ref b, .int n, .ref o] (n := 4) (Nat.le_of_ble_eq_true rfl)
  rw [lg_entry_eq]
  generalize (lg_sl [Value.ref b, Value.int n, Value.ref o] ++ List.replicate (4 - (lg_sl [Value.ref b, Value.int n, Value.ref o]).length) Slot.unset).toArray = ls at hlv ⊢
  have hlv : lv_has ls 4 [(0, .ref b), (1, .int n), (2, .ref o)] := hlv
  obtain ⟨k0, hk0⟩ := jW_get g hbS
  rw [cell_obj g hbS cl7.1] at hk0
  refine lv_aload_n hx hb dL_slot_0 rfl (lv_lk hlv (i := 2) rfl) ?_
  refine lv_iconst (v := nI 0) hx hb dL_slot_1 (by decide) ?_
  refine lv_aload_n hx hb dL_slot_2 rfl (lv_lk hlv (i := 0) rfl) ?_
  refine lv_iload_n hx hb dL_slot_3 rfl (lv_lk hlv (i := 1) rfl) ?_
  have hS : va_S (fun q => s.heap.size ≤ q) s.heap s.heap [] := va_S.rf
  refine vx_calli (A0 := fun q => s.heap.size ≤ q) (H0 := s.heap) (vx_runV (As := [.int n]) (rest := [.int (nI 0), .ref o]) (b := b) (C := RX9) ⟨hx, hb, hml, hown, hts0⟩ (cx_slotBad l hl g (b := b) hn s.heap.size) (cwV 1 hts0 wsV_slot rfl rfl rfl ⟨rfl, qX9_slot.2.2.1⟩ ⟨by decide, by decide⟩) ⟨pBd_blind, va_recv hK.1 hP cl7.2.1 hk0, fun U hU hW => ⟨rfl, by rw [hU], by rw [hU]; exact hP, jK.warm hW hK, hD0, by rw [hU]; exact hst.warm hW⟩⟩ rfl rfl hlv.1 rfl (lv_room (Nat.le_of_ble_eq_true rfl)) dL_slot_4 ⟨by decide, by decide⟩) hS (fun q _ h => h.elim) (fun q h => h) (fun q _ h => h) ?_ ?_
  · intro E ce q9 u t H1 locs1 ht hvm hpx hE hz hk hS1 hce hcv hcl
    have hE : E = eXn := hE
    subst hE
    refine vx_catch (own := RL) (name := eXn) hown [] { startPc := 0, endPc := 9, handlerPc := 12, catchType := 13 } [] htab (fun z hz => nomatch hz) (by decide) (by decide) (hts0 _ kL_13) (va_Nw.use rfl (hst.2.2.1 _ List.mem_cons_self)) hce hcv hcl ?_
    refine lv_astore_n (lv' := [(3, .ref q9), (0, .ref b), (1, .int n), (2, .ref o)]) hx hb dL_slot_12 rfl hlv (by decide) rfl (fun ls hlv => ?_)
    refine lv_iconst (v := nI 1) hx hb dL_slot_13 (by decide) ?_
    exact W.iret hx hb hr (fun t ht hW => ⟨rfl, hS1.F ht⟩) hS1.2.2 dL_slot_14 hlocks
  · intro r u t H1 locs1 ht hvm hpost
    exact hpost.elim
