/-! THE LAW: its own method slot, the good way; both for the law's walk -/
theorem set_last {α : Type} (x y : α) : ∀ l : List α, (l ++ [x]).set l.length y = l ++ [y]
  | [] => rfl
  | a :: l => congrArg (a :: ·) (set_last x y l)
abbrev pG (g : jG) (dL : ClassId) (S : jS) (o : Nat) (f : Nat → Int64) (sz : Nat) (U : State) : Prop := U.heap.size = sz ∧ va_P (g.1, g.2.1) vwCl (jW g S) U.heap ∧ jK g U ∧ va_D (fun _ => True) (jW g S) ∧ va_P (g.1, g.2.1) vwCl [(o, oC dL f)] U.heap ∧ o ∉ S.1 ∧ va_K (g.1, g.2.1) vwCl [(dL, .long)] U
theorem pG_blind {g : jG} {dL : ClassId} {S : jS} {o : Nat} {f : Nat → Int64} {sz : Nat} {args : List Value} : FrameBlind (va_Pc args (pG g dL S o f sz)) := fun a U g' mk q => by
  obtain ⟨q0, q1, qP, qK, qD, qo, qn, qL⟩ := q
  exact ⟨q0, q1, qP, jK.same (u := U) (U := U.calling g' mk a) rfl qK, qD, qo, qn, va_K.moved (Vm.Alike.refl _) qL⟩
abbrev aG (S : jS) (o sz : Nat) : Nat → Prop := fun q => q = o ∨ jA S sz q
abbrev qG (g : jG) (dL : ClassId) (S : jS) (o sz : Nat) (Q : Int32 → jS → Prop) : Array Value → State → Outcome → State → Prop := fun _ st oc t => (∃ (v : Int32) (S' : jS) (f' : Nat → Int64), oc = .returned (some (.int (nI 0))) ∧ Q v S' ∧ f' 0 = v.toInt64 ∧ va_P (g.1, g.2.1) vwCl (jW g S') t.heap ∧ va_P (g.1, g.2.1) vwCl [(o, oC dL f')] t.heap ∧ va_D (jA S sz) (jW g S')) ∧ va_F (aG S o sz) st t
set_option maxHeartbeats 4000000 in
set_option maxRecDepth 100000 in
theorem cl_slotGood (l : Launch) (g : jG) (dL : ClassId) {S : jS} {b o : Nat} {n : Int32} {f : Nat → Int64} {Q : Int32 → jS → Prop} {Q0 : Option Value → jS → Prop} (hM : CT l g mX9_slot 9 0 0 [.ref b, .int n] S Q0) (hQ0 : ∀ r S', Q0 r S' → ∃ v, r = some (.int v) ∧ Q v S') (hbS : sAt S 7 b) (sz : Nat) : Met l yL_slot (Cond.codeWith yL_slot cL_slot 4 (some .int) [(0, 9, 12, 13)] :: T0) (jR 10 0 0) (va_Pc [.ref b, .int n, .ref o] (pG g dL S o f sz)) (qG g dL S o sz Q) 0 0 (aG S o sz) := by
  refine va_MetW (cc := cL_slot) (maxL := 4) (ret := some .int) (hh := [(0, 9, 12, 13)]) (by decide +kernel) rfl ?_
  intro p e s m args below meth c s₁ B hml hv
  obtain ⟨rfl, hsz, hP, hK, hD0, ho, hoS, hKL⟩ := hv
  subst hsz
  have hts := atoms_spec (ws := Cond.codeWith yL_slot cL_slot 4 (some .int) [(0, 9, 12, 13)] :: T0) B.pre
  have hts0 : ∀ w ∈ T0, w.before _ s = true := fun w hw => hts w (List.mem_cons_of_mem _ hw)
  have hx := B.exec
  have hb := B.bytes
  have hr := B.returns
  have hown : s.vm.findClass RL = some m.cls := findClass_of_methodNamed B.named
  have hlocks := B.notSynchronized
  have hlv := lv_entry [.ref b, .int n, .ref o] (n := 4) (Nat.le_of_ble_eq_true rfl)
  rw [lg_entry_eq]
  generalize (lg_sl [Value.ref b, Value.int n, Value.ref o] ++ List.replicate (4 - (lg_sl [Value.ref b, Value.int n, Value.ref o]).length) Slot.unset).toArray = ls at hlv ⊢
  have hlv : lv_has ls 4 [(0, .ref b), (1, .int n), (2, .ref o)] := hlv
  obtain ⟨k0, hk0⟩ := jW_get g hbS
  rw [cell_obj g hbS cl7.1] at hk0
  have hV : jV g (aG S o s.heap.size) s S s.heap [] := ⟨hP, (jD_self hD0).weaken (fun _ _ _ h => Or.inr h), va_S.rf, fun q h => Or.inr (Or.inr h)⟩
  refine lv_aload_n hx hb dL_slot_0 rfl (lv_lk hlv (i := 2) rfl) ?_
  refine lv_iconst (v := nI 0) hx hb dL_slot_1 (by decide) ?_
  refine lv_aload_n hx hb dL_slot_2 rfl (lv_lk hlv (i := 0) rfl) ?_
  refine lv_iload_n hx hb dL_slot_3 rfl (lv_lk hlv (i := 1) rfl) ?_
  refine j_call2 (rest := [.int (nI 0), .ref o]) (va_runV (As := [.int n]) (rest := [.int (nI 0), .ref o]) (b := b) (C := RX9) ⟨hx, hb, hml, hown, hts0⟩ (hM s.heap.size) (cwV 1 hts0 wsV_slot rfl rfl rfl ⟨rfl, qX9_slot.2.2.1⟩ ⟨by decide, by decide⟩) ⟨j_blind, va_recv hK.1 hP cl7.2.1 hk0, fun U hU hW => ⟨rfl, by rw [hU], by rw [hU]; exact hP, jK.warm hW hK, hD0⟩⟩ rfl rfl hlv.1 rfl (lv_room (Nat.le_of_ble_eq_true rfl)) dL_slot_4 ⟨by decide, by decide⟩) hV ?_
  intro r S' H1 locs1 hq0 hV1 hk hi
  obtain ⟨v, rfl, hQ⟩ := hQ0 r S' hq0
  have hlt := oC_lt ho
  have hoS' : o ∉ S'.1 := fun z => by
    rcases hi o z with u | u
    · exact hoS u
    · omega
  have ho1 : va_P (g.1, g.2.1) vwCl [(o, oC dL f)] H1 := oC_kept ho (hk o hlt hoS)
  have hDo : va_D (aG S o s.heap.size) [(o, oC dL f)] := ⟨fun i j p q h1 h2 _ => by
    have z1 : i < 1 := (List.getElem?_eq_some_iff.mp h1).1
    have z2 : j < 1 := (List.getElem?_eq_some_iff.mp h2).1
    omega, fun k q hq => by
    have z1 : k < 1 := (List.getElem?_eq_some_iff.mp hq).1
    rw [show k = 0 by omega] at hq
    cases hq
    exact Or.inl rfl⟩
  have hD2 : va_D (aG S o s.heap.size) (jW g S' ++ [(o, oC dL f)]) := va_D.app hV1.2.1 hDo (fun i j p q h1 h2 e => by
    have z1 : j < 1 := (List.getElem?_eq_some_iff.mp h2).1
    rw [show j = 0 by omega] at h2
    cases h2
    have e : p.1 = o := e
    exact hoS' (e ▸ jW_mem h1))
  refine lv_i2l (v := v.toInt64) hx hb dL_slot_7 rfl ?_
  refine va_last (D := (g.1, g.2.1)) (cl := vwCl) (tys := [(dL, .long)]) (f := f) (i := nI 0) hx hb hKL (hV1.1.app ho1) hD2 hV1.2.2.1 (jW g S').length 0 (by rw [List.getElem?_append_right (Nat.le_refl _), Nat.sub_self]; rfl) rfl (vp_in_nI (by decide) (by decide)) dL_slot_8 (fun H2 locs2 h1 h2 h3 => ?_)
  rw [set_last] at h1
  refine lv_goto (tgt := 15) hx hb dL_slot_9 (by decide) ?_
  refine lv_iconst (v := nI 0) hx hb dL_slot_15 (by decide) ?_
  refine W.iret hx hb hr (fun t ht hW => ⟨⟨v, S', vp_updL f (nI 0).toNatClampNeg v.toInt64, rfl, hQ, rfl, ?_, ?_, ?_⟩, h3.F ht⟩) h3.2.2 dL_slot_16 hlocks
  · rw [ht]
    exact h1.by (fun k => k) (fun k q hq => by
      have hl := (List.getElem?_eq_some_iff.mp hq).1
      rw [List.getElem?_append_left hl]
      exact hq)
  · rw [ht]
    exact h1.by (fun k => (jW g S').length + k) (fun k q hq => by
      rw [List.getElem?_append_right (by omega), Nat.add_sub_cancel_left]
      exact hq)
  · refine ⟨hV1.2.1.1, fun k q hq => ?_⟩
    exact hi q.1 (jW_mem hq)
section JWS
variable {l : Launch} {Z : lZ} {L : Nat} {xs : Nat → Int32} {pc : Nat} {lv : List (Nat × Value)} {rest : List Value} {Sx Sm : jS} {f : Nat → Int64} {nc ns : Nat}
theorem wsS_slot : GoodIn T0 (va_wsS RL 24 yL_slot (Cond.codeWith yL_slot cL_slot 4 (some .int) [(0, 9, 12, 13)] :: T0)) := t0_goodIn (fun w h => by
    rcases List.mem_append.mp h with h | h
    · simp only [List.mem_cons, List.not_mem_nil, or_false] at h
      rcases h with rfl | rfl | rfl
      · exact kL_24
      · exact eX_stat
      · exact eX_inL
    · rcases List.mem_cons.mp h with rfl | h
      · exact eX_code
      · exact h)
theorem qL_slot : yL_slot.cls ≠ "java/lang/invoke/MethodHandle" ∧ yL_slot.cls ≠ "java/lang/invoke/VarHandle" ∧ (parseMethodDescriptor yL_slot.desc).map (fun d => d.parameters.length) = some 3 := by decide +kernel
theorem zS_sub (C : lC Z L xs) {H : Heap} {locs : List Loc} (zv : lV (zG Z) (zS Z) (zD Z) Sx Sm (zO Z) f H locs) (q : Nat) (h : jA Sx H.size q) : jA0 (zS Z) q := h.elim (jD_in zv.1.2.1) (fun h => zv.1.2.2.2 q (Nat.le_trans zv.1.2.2.1.1 h))
set_option maxHeartbeats 4000000 in
set_option maxRecDepth 100000 in
theorem JW_slotBad (C : lC Z L xs) (hl : l.stackTraces = false) (hst : stX (jA0 (zS Z)) (zS Z) (zS Z).heap) {b : Nat} {n : Int32} (hn : n < nI 1 ∨ nI 200 < n) (hbS : sAt Sx 7 b) (hdg : decode code pc = .ok (.invokestatic 24, 3)) (hrm : (rest.map fun v => v.category).sum ≤ 8) (hc : nc + 1 ≤ 601024) (hs : ns + 6 ≤ 7293034) (k : JW l Z (pc + 3) lv (.int (nI 1) :: rest) Sx Sm f (nc + 1) (ns + 6)) : JW l Z pc lv (.ref (zO Z) :: .int n :: .ref b :: rest) Sx Sm f nc ns := by
  intro zH zo zl zv zw
  have hts := C.2.2.2.2.2.2.1
  have hK := C.2.2.2.2.2.2.2.1
  have hr := vx_runSW (As := [.ref b, .int n, .ref (zO Z)]) (rest := rest) (g := F0 (zM Z) pc zl (.ref (zO Z) :: .int n :: .ref b :: rest)) (locs := zo) (cells := nc) (slots := ns) (R := room_1) (l := l) (e := zE Z) (below := zB Z) (meth := zT Z) (H := zH) ⟨C.1, C.2.1, C.2.2.2.1, C.2.2.2.2.2.1, hts⟩ (cl_slotBad l hl (zG Z) (o := zO Z) hn hbS zH.size) (vx_cwSW 3 hts wsS_slot rfl rfl rfl qL_slot ⟨by decide, by decide⟩) ⟨pBd_blind, fun U hU hW => ⟨rfl, by rw [hU], by rw [hU]; exact zv.1.1, jK.warm hW hK, zv.1.2.1.weaken (fun _ _ _ _ => trivial), by rw [hU]; exact ((hst.kept zv.1.2.2.1.2.1).narrow (zS_sub C zv)).warm hW⟩⟩ rfl rfl zw.1 rfl (lv_room hrm) hdg ⟨hc, hs⟩
  intro T hT X
  obtain ⟨v, st₀, t, T', Lo, h0, X', hL, e1, e2, ⟨hv, hz, hk⟩, st⟩ := hr T hT X
  cases hv
  rw [h0] at hz hk
  have hk2 : ∀ q : Nat, q < zH.size → T'.heap[q]? = zH[q]? := fun q hq => by
    rw [e1]
    exact hk q hq (Nat.not_le.mpr hq)
  have hS2 : va_S (jA0 (zS Z)) (zS Z).heap T'.heap (zo ++ Lo) := ⟨Nat.le_trans zv.1.2.2.1.1 (by rw [e1]; exact hz), fun q h1 h2 => by rw [hk2 q (Nat.lt_of_lt_of_le h1 zv.1.2.2.1.1)]; exact zv.1.2.2.1.2.1 q h1 h2, fun q hq => by
      rcases List.mem_append.mp hq with h | h
      · exact zv.1.2.2.1.2.2 q h
      · exact Nat.le_trans zv.1.2.2.1.1 (hL q h)⟩
  have zv2 : lV (zG Z) (zS Z) (zD Z) Sx Sm (zO Z) f T'.heap (zo ++ Lo) := ⟨zv.1.oth (S0 := Sm) hS2 (fun q hq _ => hk2 q hq) zv.2.2.1, zv.2.1.oth (S0 := Sx) hS2 (fun q hq _ => hk2 q hq) (fun q hq z => zv.2.2.1 q z hq), zv.2.2.1, oC_kept zv.2.2.2.1 (hk2 _ (oC_lt zv.2.2.2.1)), zv.2.2.2.2⟩
  obtain ⟨t2, a1, b1⟩ := k T'.heap (zo ++ Lo) zl zv2 zw T' rfl X'
  exact ⟨t2, st t2 a1, b1⟩
set_option maxHeartbeats 4000000 in
set_option maxRecDepth 100000 in
theorem JW_slotGood (C : lC Z L xs) {b : Nat} {n : Int32} {Q : Int32 → jS → Prop} {Q0 : Option Value → jS → Prop} (hM : CT l (zG Z) mX9_slot 9 0 0 [.ref b, .int n] Sx Q0) (hQ0 : ∀ r S', Q0 r S' → ∃ v, r = some (.int v) ∧ Q v S') (hbS : sAt Sx 7 b) (hdg : decode code pc = .ok (.invokestatic 24, 3)) (hrm : (rest.map fun v => v.category).sum ≤ 8) (hc : nc ≤ 601024) (hs : ns ≤ 7293034) (k : ∀ v S' f', Q v S' → f' 0 = v.toInt64 → JW l Z (pc + 3) lv (.int (nI 0) :: rest) S' Sm f' nc ns) : JW l Z pc lv (.ref (zO Z) :: .int n :: .ref b :: rest) Sx Sm f nc ns := by
  intro zH zo zl zv zw
  have hts := C.2.2.2.2.2.2.1
  have hK := C.2.2.2.2.2.2.2.1
  have hr := vx_runSW (As := [.ref b, .int n, .ref (zO Z)]) (rest := rest) (g := F0 (zM Z) pc zl (.ref (zO Z) :: .int n :: .ref b :: rest)) (locs := zo) (cells := nc) (slots := ns) (R := room_1) (l := l) (e := zE Z) (below := zB Z) (meth := zT Z) (H := zH) ⟨C.1, C.2.1, C.2.2.2.1, C.2.2.2.2.2.1, hts⟩ (cl_slotGood l (zG Z) (zD Z) (o := zO Z) (f := f) hM hQ0 hbS zH.size) (vx_cwSW 3 hts wsS_slot rfl rfl rfl qL_slot ⟨by decide, by decide⟩) ⟨pG_blind, fun U hU hW => ⟨rfl, by rw [hU], by rw [hU]; exact zv.1.1, jK.warm hW hK, zv.1.2.1.weaken (fun _ _ _ _ => trivial), by rw [hU]; exact zv.2.2.2.1, zv.2.2.2.2.1, va_K.moved hW.alike C.2.2.2.2.2.2.2.2.2.2⟩⟩ rfl rfl zw.1 rfl (lv_room hrm) hdg ⟨hc, hs⟩
  intro T hT X
  obtain ⟨v0, st₀, t, T', Lo, h0, X', hL, e1, e2, ⟨⟨v, S', f', hv, hQ, hf, hP1, hP2, hD1⟩, hz, hk⟩, st⟩ := hr T hT X
  cases hv
  rw [h0] at hz hk
  have ho7 := zv.2.2.2.2.2.2
  have hsub := zS_sub C zv
  have hA : ∀ q, aG Sx (zO Z) zH.size q → jA0 (zS Z) q := fun q h => h.elim (fun h => by rw [h]; exact ho7) (fun h => hsub q h)
  have hS2 : va_S (jA0 (zS Z)) (zS Z).heap T'.heap (zo ++ Lo) := ⟨Nat.le_trans zv.1.2.2.1.1 (by rw [e1]; exact hz), fun q h1 h2 => by rw [e1, hk q (Nat.lt_of_lt_of_le h1 zv.1.2.2.1.1) (fun z => h2 (hA q z))]; exact zv.1.2.2.1.2.1 q h1 h2, fun q hq => by
      rcases List.mem_append.mp hq with h | h
      · exact zv.1.2.2.1.2.2 q h
      · exact hA _ (hL q h)⟩
  have hi : ∀ q, q ∈ S'.1 → q ∈ Sx.1 ∨ zH.size ≤ q := fun q hq => jD_in hD1 hq
  have hlt := oC_lt zv.2.2.2.1
  have zv2 : lV (zG Z) (zS Z) (zD Z) S' Sm (zO Z) f' T'.heap (zo ++ Lo) := by
    refine ⟨⟨by rw [e1]; exact hP1, hD1.weaken (fun _ q _ h => hsub q.1 h), hS2, zv.1.2.2.2⟩, ⟨zv.2.1.1.kept (fun k q hq => ?_), zv.2.1.2.1, hS2, zv.2.1.2.2.2⟩, fun q hq z => ?_, by rw [e1]; exact hP2, fun z => ?_, zv.2.2.2.2.2.1, ho7⟩
    · have hm := jW_mem hq
      have hl2 := zv.2.1.lt hm
      rw [e1]
      refine hk q.1 hl2 (fun u => ?_)
      rcases u with u | u | u
      · exact zv.2.2.2.2.2.1 (u ▸ hm)
      · exact zv.2.2.1 _ u hm
      · omega
    · rcases hi q hq with u | u
      · exact zv.2.2.1 q u z
      · have := zv.2.1.lt z
        omega
    · rcases hi _ z with u | u
      · exact zv.2.2.2.2.1 u
      · omega
  obtain ⟨t2, a1, b1⟩ := k v S' f' hQ hf T'.heap (zo ++ Lo) zl zv2 zw T' rfl X'
  exact ⟨t2, st t2 a1, b1⟩
end JWS
