def jA (S : jS) (sz : Nat) : Nat → Prop := fun q => q ∈ S.1 ∨ sz ≤ q
/-- a method's contract: from memory S with these arguments it returns r and leaves S' with Q r S' -/
def CT (l : Launch) (g : jG) (me : jM) (h mc ms : Nat) (args : List Value) (S : jS) (Q : Option Value → jS → Prop) : Prop :=
  ∀ sz, Met l me.1 (Cond.code me.1 me.2.1 me.2.2.1 me.2.2.2 :: T0) (jR h mc ms) (va_Pc args (fun U => U.heap.size = sz ∧ va_P (g.1, g.2.1) vwCl (jW g S) U.heap ∧ jK g U ∧ va_D (fun _ => True) (jW g S))) (jQc g (jA S sz) Q) mc ms (jA S sz)
theorem jD_in {g : jG} {A : Nat → Prop} {S : jS} (h : va_D A (jW g S)) {q : Nat} (hq : q ∈ S.1) : A q := by
  obtain ⟨k, hk⟩ := va_pl_get (X := []) (f := cellOf g S) hq
  exact h.2 k _ hk
theorem jD_self {g : jG} {A : Nat → Prop} {S : jS} {sz : Nat} (h : va_D A (jW g S)) : va_D (jA S sz) (jW g S) := ⟨h.1, fun k q hk => Or.inl (by
  have := List.mem_of_getElem? hk
  obtain ⟨a, ha, rfl⟩ := List.mem_map.mp this
  exact ha)⟩
theorem jD_fresh {g : jG} {A : Nat → Prop} {S : jS} {q : Nat} {e : va_E} (h : va_D A (jW g S ++ [(q, e)])) : q ∉ S.1 := by
  intro hq
  obtain ⟨k, hk⟩ := va_pl_get (X := []) (f := cellOf g S) hq
  have hk : (jW g S)[k]? = some (q, cellOf g S q) := hk
  have hl := (List.getElem?_eq_some_iff.mp hk).1
  have h1 : (jW g S ++ [(q, e)])[k]? = some (q, cellOf g S q) := by rw [List.getElem?_append_left hl]; exact hk
  have h2 : (jW g S ++ [(q, e)])[(jW g S).length]? = some (q, e) := by rw [List.getElem?_append_right (Nat.le_refl _), Nat.sub_self]; rfl
  have := h.1 _ _ _ _ h1 h2 rfl
  omega
section JC
variable {l : Launch} {g : jG} {me : jM} {hgt mc ms : Nat} {Q : Option Value → jS → Prop} {pc : Nat} {lv : List (Nat × Value)} {rest : List Value} {S : jS} {nc ns : Nat}
theorem CT_of {n : Nat} {args : List Value} (hm : jMs me n) (hlen : (lg_sl args).length ≤ me.2.2.1) (k : J l g me hgt mc ms Q 0 (lv_args 0 args) [] S 0 0) : CT l g me hgt mc ms args S Q := by
  intro sz
  refine va_MetF (cc := me.2.1) (maxL := me.2.2.1) (ret := me.2.2.2) hm.2.2.2.2 rfl ?_
  intro p e s m args' below meth c s₁ B hml hv
  obtain ⟨rfl, hsz, hP, hK, hD0⟩ := hv
  subst hsz
  have hts := atoms_spec (ws := Cond.code me.1 me.2.1 me.2.2.1 me.2.2.2 :: T0) B.pre
  rw [lg_entry_eq]
  exact k (jA S s.heap.size) p e s m _ below meth c s.heap [] _ ⟨B.exec, B.bytes, B.returns, hml, B.notSynchronized, (name_of_methodNamed B.named B.method).1, findClass_of_methodNamed B.named, fun w hw => hts w (List.mem_cons_of_mem _ hw), hK⟩ ⟨hP, jD_self hD0, va_S.rf, fun q h => Or.inr h⟩ (lv_entry args hlen)

theorem j_blind {args : List Value} {sz : Nat} : FrameBlind (va_Pc args (fun U => U.heap.size = sz ∧ va_P (g.1, g.2.1) vwCl (jW g S) U.heap ∧ jK g U ∧ va_D (fun _ => True) (jW g S))) := fun a U g' mk q => by
  obtain ⟨q0, q1, qP, qK, qD⟩ := q
  exact ⟨q0, q1, qP, jK.same (u := U) (U := U.calling g' mk a) rfl qK, qD⟩
theorem j_call {p : Program} {e : Env} {R : Room} {s : State} {m : MethodId} {args a : Array Value} {below : List Frame} {meth : Method} {c : Code} {H : Heap} {locs : List Loc} {mc' ms' : Nat} {ls : Array Slot} {st0 : List Value} {A : Nat → Prop} {Q' : Option Value → jS → Prop} {Qf : State → Prop}
    (hr : va_Run p l e R s m args below meth c H locs nc ns mc' ms' (F0 m pc ls st0) rest (jQc g (jA S H.size) Q' a) (jA S H.size)) (zv : jV g A s S H locs)
    (kk : ∀ (r : Option Value) (S' : jS) (H1 : Heap) (locs1 : List Loc), Q' r S' → jV g A s S' H1 locs1 → W p l e R s m args below meth c H1 locs1 (nc + mc') (ns + ms') Qf (F0 m (pc + 3) ls (r.toList ++ rest))) : W p l e R s m args below meth c H locs nc ns Qf (F0 m pc ls st0) := by
  have hA : ∀ q, jA S H.size q → A q := fun q h => h.elim (jD_in zv.2.1) (fun h => zv.2.2.2 q (Nat.le_trans zv.2.2.1.1 h))
  intro T hT X
  obtain ⟨v, st₀, t, T', L, h0, X', hL, e1, e2, ⟨⟨r, S', hv, hq, hP, hK, hD⟩, hz, hk⟩, st⟩ := hr T hT X
  cases hv
  rw [h0] at hz hk
  obtain ⟨t2, a1, b1⟩ := kk v S' T'.heap (locs ++ L) hq ⟨by rw [e1]; exact hP, hD.weaken (fun _ q _ h => hA q.1 h), ⟨Nat.le_trans zv.2.2.1.1 (by rw [e1]; exact hz), fun q h1 h2 => by rw [e1, hk q (Nat.lt_of_lt_of_le h1 zv.2.2.1.1) (fun z => h2 (hA q z))]; exact zv.2.2.1.2.1 q h1 h2, fun q hq => by
      rcases List.mem_append.mp hq with h | h
      · exact zv.2.2.1.2.2 q h
      · exact hA _ (hL q h)⟩, zv.2.2.2⟩ T' rfl X'
  exact ⟨t2, st t2 a1, b1⟩

theorem J_callV {me' : jM} {n h' mc' ms' idx : Nat} {Q' : Option Value → jS → Prop} {As st0 : List Value} {b c : Nat} {R : String} {T : u_T} (hM : CT l g me' h' mc' ms' (.ref b :: As) S Q') (hq : jMs me' n) (hv : jMv me') (hC : jCl c R T) (hR : me'.1.cls = R) (hb : sAt S c b) (hw : Cond.methodLink me.1.cls idx me'.1 ∈ T0) (hdg : decode me.2.1 pc = .ok (.invokevirtual idx, 3)) (hn : As.length = n) (hst : st0 = As.reverse ++ .ref b :: rest) (hrm : (rest.map fun v => v.category).sum ≤ 8) (hh : h' + 1 ≤ hgt) (hc : nc + mc' ≤ mc) (hs : ns + ms' ≤ ms) (k : ∀ (r : Option Value) (S' : jS), Q' r S' → J l g me hgt mc ms Q (pc + 3) lv (r.toList ++ rest) S' (nc + mc') (ns + ms')) : J l g me hgt mc ms Q pc lv st0 S nc ns := by
  intro zA zp ze zs zm za zb zt zc zH zo zl zh zv zw
  subst hst
  subst hR
  obtain ⟨k0, hk0⟩ := jW_get g hb
  rw [cell_obj g hb hC.1] at hk0
  have hG : GoodIn T0 (wsV me.1.cls idx me'.1.cls me'.1 (Cond.code me'.1 me'.2.1 me'.2.2.1 me'.2.2.2 :: T0)) := t0_goodIn (fun w h => by
    rcases List.mem_append.mp h with h | h
    · simp only [List.mem_cons, List.not_mem_nil, or_false] at h
      rcases h with rfl | rfl | rfl | rfl
      · exact hw
      · exact hv.1
      · exact hv.2
      · exact hq.2.1
    · rcases List.mem_cons.mp h with rfl | h
      · exact hq.1
      · exact h)
  refine j_call (rest := rest) (va_runV (As := As) (rest := rest) (b := b) (C := me'.1.cls) ⟨zh.1, zh.2.1, zh.2.2.2.1, zh.2.2.2.2.2.2.1, zh.2.2.2.2.2.2.2.1⟩ (hM zH.size) (cwV n zh.2.2.2.2.2.2.2.1 hG rfl rfl rfl ⟨rfl, hq.2.2.1⟩ ⟨hh, by show 8 + (me'.2.2.1 + 11) + 36 * h' ≤ 36 * hgt; have := hq.2.2.2.1; omega⟩) ⟨j_blind, va_recv zh.2.2.2.2.2.2.2.2.1 zv.1 hC.2.1 hk0, fun U hU hW => ⟨rfl, by rw [hU], by rw [hU]; exact zv.1, jK.warm hW zh.2.2.2.2.2.2.2.2, zv.2.1.weaken (fun _ _ _ _ => trivial)⟩⟩ rfl hn zw.1 rfl (lv_room hrm) hdg ⟨hc, hs⟩) zv ?_
  exact fun r S' H1 locs1 hQ hV => k r S' hQ zA zp ze zs zm za zb zt zc H1 locs1 zl zh hV zw
theorem J_callS {me' : jM} {n h' mc' ms' idx : Nat} {Q' : Option Value → jS → Prop} {As st0 : List Value} (hM : CT l g me' h' mc' ms' As S Q') (hq : jMs me' n) (hv : jMt me') (hw : Cond.methodLink me.1.cls idx me'.1 ∈ T0) (hdg : decode me.2.1 pc = .ok (.invokestatic idx, 3)) (hn : As.length = n) (hst : st0 = As.reverse ++ rest) (hrm : (rest.map fun v => v.category).sum ≤ 8) (hh : h' + 1 ≤ hgt) (hc : nc + mc' ≤ mc) (hs : ns + ms' ≤ ms) (k : ∀ (r : Option Value) (S' : jS), Q' r S' → J l g me hgt mc ms Q (pc + 3) lv (r.toList ++ rest) S' (nc + mc') (ns + ms')) : J l g me hgt mc ms Q pc lv st0 S nc ns := by
  intro zA zp ze zs zm za zb zt zc zH zo zl zh zv zw
  subst hst
  have hG : GoodIn T0 (va_wsS me.1.cls idx me'.1 (Cond.code me'.1 me'.2.1 me'.2.2.1 me'.2.2.2 :: T0)) := t0_goodIn (fun w h => by
    rcases List.mem_append.mp h with h | h
    · simp only [List.mem_cons, List.not_mem_nil, or_false] at h
      rcases h with rfl | rfl | rfl
      · exact hw
      · exact hv
      · exact hq.2.1
    · rcases List.mem_cons.mp h with rfl | h
      · exact hq.1
      · exact h)
  refine j_call (rest := rest) (va_runS (As := As) (rest := rest) ⟨zh.1, zh.2.1, zh.2.2.2.1, zh.2.2.2.2.2.2.1, zh.2.2.2.2.2.2.2.1⟩ (hM zH.size) (va_cwS n zh.2.2.2.2.2.2.2.1 hG rfl rfl rfl hq.2.2.1 ⟨hh, by show 8 + (me'.2.2.1 + 11) + 36 * h' ≤ 36 * hgt; have := hq.2.2.2.1; omega⟩) ⟨j_blind, fun U hU hW => ⟨rfl, by rw [hU], by rw [hU]; exact zv.1, jK.warm hW zh.2.2.2.2.2.2.2.2, zv.2.1.weaken (fun _ _ _ _ => trivial)⟩⟩ rfl hn zw.1 rfl (lv_room hrm) hdg ⟨hc, hs⟩) zv ?_
  exact fun r S' H1 locs1 hQ hV => k r S' hQ zA zp ze zs zm za zb zt zc H1 locs1 zl zh hV zw
theorem J_callI {me' : jM} {n h' mc' ms' idx : Nat} {Q' : Option Value → jS → Prop} {As st0 : List Value} {b : Nat} (hM : CT l g me' h' mc' ms' (.ref b :: As) S Q') (hq : jMs me' n) (hret : me'.2.2.2 = none) (hv : jMi me') (hw : Cond.methodLink me.1.cls idx me'.1 ∈ T0) (hdg : decode me.2.1 pc = .ok (.invokespecial idx, 3)) (hn : As.length = n) (hst : st0 = As.reverse ++ .ref b :: rest) (hrm : (rest.map fun v => v.category).sum ≤ 8) (hh : h' + 1 ≤ hgt) (hc : nc + mc' ≤ mc) (hs : ns + ms' ≤ ms) (k : ∀ (r : Option Value) (S' : jS), Q' r S' → J l g me hgt mc ms Q (pc + 3) lv (r.toList ++ rest) S' (nc + mc') (ns + ms')) : J l g me hgt mc ms Q pc lv st0 S nc ns := by
  intro zA zp ze zs zm za zb zt zc zH zo zl zh zv zw
  subst hst
  have hG : GoodIn T0 (Cond.code me'.1 me'.2.1 me'.2.2.1 me'.2.2.2 :: T0) := t0_goodIn (fun w h => by
    rcases List.mem_cons.mp h with rfl | h
    · exact hq.1
    · exact h)
  have hts := zh.2.2.2.2.2.2.2.1
  refine j_call (rest := rest) (va_runI (As := As) (rest := rest) (b := b) ⟨zh.1, zh.2.1, zh.2.2.2.1, zh.2.2.2.2.2.2.1, hts⟩ (hM zH.size) (cwI n hts hG (by rw [hret]) rfl rfl (hts _ hq.2.1) (hts _ hw) (hts _ hv.1) hv.2 hq.2.2.1 ⟨hh, by show 8 + (me'.2.2.1 + 11) + 36 * h' ≤ 36 * hgt; have := hq.2.2.2.1; omega⟩) ⟨j_blind, fun U hU hW => ⟨rfl, by rw [hU], by rw [hU]; exact zv.1, jK.warm hW zh.2.2.2.2.2.2.2.2, zv.2.1.weaken (fun _ _ _ _ => trivial)⟩⟩ rfl hn zw.1 rfl (lv_room hrm) hdg ⟨hc, hs⟩) zv ?_
  exact fun r S' H1 locs1 hQ hV => k r S' hQ zA zp ze zs zm za zb zt zc H1 locs1 zl zh hV zw
theorem J_callIN {me' : jM} {n h' mc' ms' idx : Nat} {Q' : Option Value → jS → Prop} {As st0 : List Value} {b : Nat} {host : String} (hM : CT l g me' h' mc' ms' (.ref b :: As) S Q') (hq : jMs me' n) (hret : me'.2.2.2 = none) (hv : jMi me') (hw : Cond.methodLinkNest me.1.cls idx me'.1 host ∈ jNs) (hdg : decode me.2.1 pc = .ok (.invokespecial idx, 3)) (hn : As.length = n) (hst : st0 = As.reverse ++ .ref b :: rest) (hrm : (rest.map fun v => v.category).sum ≤ 8) (hh : h' + 1 ≤ hgt) (hc : nc + mc' ≤ mc) (hs : ns + ms' ≤ ms) (k : ∀ (r : Option Value) (S' : jS), Q' r S' → J l g me hgt mc ms Q (pc + 3) lv (r.toList ++ rest) S' (nc + mc') (ns + ms')) : J l g me hgt mc ms Q pc lv st0 S nc ns := by
  intro zA zp ze zs zm za zb zt zc zH zo zl zh zv zw
  subst hst
  have hG : GoodIn T0 (Cond.code me'.1 me'.2.1 me'.2.2.1 me'.2.2.2 :: T0) := t0_goodIn (fun w h => by
    rcases List.mem_cons.mp h with rfl | h
    · exact hq.1
    · exact h)
  have hts := zh.2.2.2.2.2.2.2.1
  refine j_call (rest := rest) (va_runIN (As := As) (rest := rest) (b := b) ⟨zh.1, zh.2.1, zh.2.2.2.1, zh.2.2.2.2.2.2.1, hts⟩ (hM zH.size) ⟨va_cnB n hts hG (by rw [hret]) rfl rfl (zh.2.2.2.2.2.2.2.2.2.2.2.2 _ hw) (hts _ hq.2.1) hq.2.2.1 ⟨hh, by show 8 + (me'.2.2.1 + 11) + 36 * h' ≤ 36 * hgt; have := hq.2.2.2.1; omega⟩, hv.2, hts _ hv.1⟩ ⟨j_blind, fun U hU hW => ⟨rfl, by rw [hU], by rw [hU]; exact zv.1, jK.warm hW zh.2.2.2.2.2.2.2.2, zv.2.1.weaken (fun _ _ _ _ => trivial)⟩⟩ rfl hn zw.1 rfl (lv_room hrm) hdg ⟨hc, hs⟩) zv ?_
  exact fun r S' H1 locs1 hQ hV => k r S' hQ zA zp ze zs zm za zb zt zc H1 locs1 zl zh hV zw
theorem J_objInit {idx a : Nat} (hw : Cond.methodLink me.1.cls idx objectInit ∈ T0) (hdg : decode me.2.1 pc = .ok (.invokespecial idx, 3)) (hrm : (rest.map fun v => v.category).sum ≤ 8) (hh : 1 ≤ hgt) (k : J l g me hgt mc ms Q (pc + 3) lv rest S nc ns) : J l g me hgt mc ms Q pc lv (.ref a :: rest) S nc ns := by
  intro zA zp ze zs zm za zb zt zc zH zo zl zh zv zw
  have hts := zh.2.2.2.2.2.2.2.1
  refine W.objInit zh.1 zh.2.1 zh.2.2.2.2.2.2.1 (hts _ hw) (hts _ oin_i) (hts _ oin_c) rfl (by rw [zh.2.2.2.1]; exact zw.1) rfl hdg hh (by show 2 * 0 + _ + 12 ≤ 36 * hgt; omega) ?_
  exact k zA zp ze zs zm za zb zt zc zH zo zl zh zv zw
theorem okTys : ∀ c, c < 9 → ∀ j, j < jN c → (jTy c j = .int ∨ jTy c j = .boolean ∨ jTy c j = .long ∨ (∃ C, jTy c j = .object C) ∨ ∃ t, jTy c j = .array t) := by
  intro c hc j hj
  have key : ∀ c, c < 9 → ∀ j, j < jN c → (jI (jTy c j) && !(jTy c j == .int) && !(jTy c j == .boolean)) = false := by decide
  have h := key c hc j hj
  generalize jTy c j = ty at h ⊢
  cases ty with
  | int => exact Or.inl rfl
  | boolean => exact Or.inr (Or.inl rfl)
  | long => exact Or.inr (Or.inr (Or.inl rfl))
  | object C => exact Or.inr (Or.inr (Or.inr (Or.inl ⟨C, rfl⟩)))
  | array t => exact Or.inr (Or.inr (Or.inr (Or.inr ⟨t, rfl⟩)))
  | _ => cases h
theorem J_new {c idx : Nat} {R : String} {T : u_T} (hC : jCl c R T) (hcl : Cond.classLink me.1.cls idx R ∈ T0) (hin : Cond.instantiable R (jN c) ∈ T0) (hini : Cond.initialized R ∈ T0) (hdg : decode me.2.1 pc = .ok (.new idx, 3)) (hc : nc + 1 ≤ mc) (hs : ns + jN c ≤ ms) (k : ∀ q : Nat, q ∉ S.1 → J l g me hgt mc ms Q (pc + 3) lv (.ref q :: rest) (nX S q c 0) (nc + 1) (ns + jN c)) : J l g me hgt mc ms Q pc lv rest S nc ns := by
  intro zA zp ze zs zm za zb zt zc zH zo zl zh zv zw
  have hts := zh.2.2.2.2.2.2.2.1
  refine va_new (D := (g.1, g.2.1)) (cl := vwCl) (ci := c) (C := R) (T := T) (N := jN c) (fs := (List.range (jN c)).map (fun j => defaultValue (jTy c j))) zh.1 zh.2.1 hts hC.2.2.1 (jTy c) hC.2.2.2.2 zh.2.2.2.2.2.2.1 (hts _ hcl) (hts _ hin) (hts _ hini) zh.2.2.2.2.2.2.2.2.1 zv.1 zv.2.1 zv.2.2.1 zv.2.2.2 hC.2.1 (fun j hj => ?_) hc hs hdg (fun q H1 h1 h2 h3 => ?_)
  · simp [vp_V, hj]
  · have hq := jD_fresh h2
    have he : cellOf g (nX S q c 0) q = .inr (c, (List.range (jN c)).map (fun j => defaultValue (jTy c j))) := by
      rw [cell_obj g (S := nX S q c 0) sAt_new hC.1]
      unfold fvs
      congr 2
      apply List.map_congr_left
      intro j hj
      rcases okTys c hC.1 j (List.mem_range.mp hj) with h | h | h | ⟨C, h⟩ | ⟨t, h⟩ <;> rw [h] <;> simp [fv, nX, defaultValue, va_rf]
    rw [jW_new g hq he] at h1 h2
    exact k q hq zA zp ze zs zm za zb zt zc H1 zo zl zh ⟨h1, h2, h3, zv.2.2.2⟩ zw

theorem J_newaI {i : Int32} {n : Nat} (hi : i = nI n) (hn : n < 2 ^ 20) (hdg : decode me.2.1 pc = .ok (.newarray .int, 2)) (hc : nc + 1 ≤ mc) (hs : ns + n ≤ ms) (k : ∀ q : Nat, q ∉ S.1 → J l g me hgt mc ms Q (pc + 2) lv (.ref q :: rest) (nX S q 9 n) (nc + 1) (ns + n)) : J l g me hgt mc ms Q pc lv (.int i :: rest) S nc ns := by
  intro zA zp ze zs zm za zb zt zc zH zo zl zh zv zw
  have hts := zh.2.2.2.2.2.2.2.1
  refine va_newa (D := (g.1, g.2.1)) (cl := vwCl) (ty := .int) (N' := n) (atype := .int) (a0 := (n, .inl (fun _ => 0))) zh.1 zh.2.1 (hts _ arrI) rfl zh.2.2.2.2.2.2.2.2.1 zv.1 zv.2.1 zv.2.2.1 zv.2.2.2 (fun cA => by rw [vp_cell_i]; rfl) (by rw [hi]; exact nI_pos (by omega)) (by rw [hi]; exact nI_clamp (by omega)) (by show n * _ ≤ _; simp [componentBytes]; omega) hc hs hdg (fun q cA H1 h0 h1 h2 h3 => ?_)
  have hq := jD_fresh h2
  have hcA : cA = g.2.2 9 := by
    have e1 := (h0.2 5 (cA, .int) rfl).2
    have e2 := (zh.2.2.2.2.2.2.2.2.1.2 0 (g.2.2 9, .int) rfl).2
    exact Option.some.inj (Eq.trans (Eq.symm e1) e2)
  subst hcA
  have he : cellOf g (nX S q 9 n) q = .inl (g.2.2 9, n, .inl (fun _ => 0)) := by
    rw [cell_int g (S := nX S q 9 n) (c := 9) sAt_new (by decide) (by decide)]
    have e1 : sN (nX S q 9 n) q = n := va_up_self _ _ _
    have e2 : sI (nX S q 9 n) 9 q = fun _ => 0 := funext fun j => by simp [sI_new]
    rw [e1, e2]
  rw [jW_new g hq he] at h1 h2
  exact k q hq zA zp ze zs zm za zb zt zc H1 zo zl zh ⟨h1, h2, h3, zv.2.2.2⟩ zw
theorem J_newaZ {i : Int32} {n : Nat} (hi : i = nI n) (hn : n < 2 ^ 20) (hdg : decode me.2.1 pc = .ok (.newarray .boolean, 2)) (hc : nc + 1 ≤ mc) (hs : ns + n ≤ ms) (k : ∀ q : Nat, q ∉ S.1 → J l g me hgt mc ms Q (pc + 2) lv (.ref q :: rest) (nX S q 10 n) (nc + 1) (ns + n)) : J l g me hgt mc ms Q pc lv (.int i :: rest) S nc ns := by
  intro zA zp ze zs zm za zb zt zc zH zo zl zh zv zw
  have hts := zh.2.2.2.2.2.2.2.1
  refine va_newa (D := (g.1, g.2.1)) (cl := vwCl) (ty := .boolean) (N' := n) (atype := .boolean) (a0 := (n, .inl (fun _ => 0))) zh.1 zh.2.1 (hts _ arrZ) rfl zh.2.2.2.2.2.2.2.2.1 zv.1 zv.2.1 zv.2.2.1 zv.2.2.2 (fun cA => by rw [vp_cell_i]; rfl) (by rw [hi]; exact nI_pos (by omega)) (by rw [hi]; exact nI_clamp (by omega)) (by show n * _ ≤ _; simp [componentBytes]; omega) hc hs hdg (fun q cA H1 h0 h1 h2 h3 => ?_)
  have hq := jD_fresh h2
  have hcA : cA = g.2.2 10 := by
    have e1 := (h0.2 5 (cA, .boolean) rfl).2
    have e2 := (zh.2.2.2.2.2.2.2.2.1.2 1 (g.2.2 10, .boolean) rfl).2
    exact Option.some.inj (Eq.trans (Eq.symm e1) e2)
  subst hcA
  have he : cellOf g (nX S q 10 n) q = .inl (g.2.2 10, n, .inl (fun _ => 0)) := by
    rw [cell_int g (S := nX S q 10 n) (c := 10) sAt_new (by decide) (by decide)]
    have e1 : sN (nX S q 10 n) q = n := va_up_self _ _ _
    have e2 : sI (nX S q 10 n) 10 q = fun _ => 0 := funext fun j => by simp [sI_new]
    rw [e1, e2]
  rw [jW_new g hq he] at h1 h2
  exact k q hq zA zp ze zs zm za zb zt zc H1 zo zl zh ⟨h1, h2, h3, zv.2.2.2⟩ zw
theorem J_newr11 {i : Int32} {n idx : Nat} (hi : i = nI n) (hn : n < 2 ^ 20) (hcl : Cond.classLink me.1.cls idx RX3 ∈ T0) (hdg : decode me.2.1 pc = .ok (.anewarray idx, 3)) (hc : nc + 1 ≤ mc) (hs : ns + n ≤ ms) (k : ∀ q : Nat, q ∉ S.1 → J l g me hgt mc ms Q (pc + 3) lv (.ref q :: rest) (nX S q 11 n) (nc + 1) (ns + n)) : J l g me hgt mc ms Q pc lv (.int i :: rest) S nc ns := by
  intro zA zp ze zs zm za zb zt zc zH zo zl zh zv zw
  have hts := zh.2.2.2.2.2.2.2.1
  refine va_newq (D := (g.1, g.2.1)) (cl := vwCl) (C := RX3) (N' := n) zh.1 zh.2.1 zh.2.2.2.2.2.2.1 (hts _ hcl) zh.2.2.2.2.2.2.2.2.2.1 zh.2.2.2.2.2.2.2.2.1 zv.1 zv.2.1 zv.2.2.1 zv.2.2.2 (by rw [hi]; exact nI_pos (by omega)) (by rw [hi]; exact nI_clamp (by omega)) (by omega) hc hs hdg (fun q cA H1 h0 h1 h2 h3 => ?_)
  have hq := jD_fresh h2
  have hcA : cA = g.2.2 11 := by
    obtain ⟨_, _, _, _, _, e1⟩ := (h0.2 5 (cA, .object RX3) rfl).2
    obtain ⟨_, _, _, _, _, e2⟩ := (zh.2.2.2.2.2.2.2.2.1.2 2 (g.2.2 11, .object RX3) rfl).2
    exact Option.some.inj (Eq.trans (Eq.symm e1) e2)
  subst hcA
  have he : cellOf g (nX S q 11 n) q = .inl (g.2.2 11, n, .inr (.inr (.inr (.inr (fun _ => none))))) := by
    rw [cell_ref g (S := nX S q 11 n) (c := 11) sAt_new (by decide)]
    have e1 : sN (nX S q 11 n) q = n := va_up_self _ _ _
    have e2 : sP (nX S q 11 n) 11 q = fun _ => none := funext fun j => by simp [sP_new]
    rw [e1, e2]
  rw [jW_new g hq he] at h1 h2
  exact k q hq zA zp ze zs zm za zb zt zc H1 zo zl zh ⟨h1, h2, h3, zv.2.2.2⟩ zw
theorem J_newr12 {i : Int32} {n idx : Nat} (hi : i = nI n) (hn : n < 2 ^ 20) (hcl : Cond.classLink me.1.cls idx RX4 ∈ T0) (hdg : decode me.2.1 pc = .ok (.anewarray idx, 3)) (hc : nc + 1 ≤ mc) (hs : ns + n ≤ ms) (k : ∀ q : Nat, q ∉ S.1 → J l g me hgt mc ms Q (pc + 3) lv (.ref q :: rest) (nX S q 12 n) (nc + 1) (ns + n)) : J l g me hgt mc ms Q pc lv (.int i :: rest) S nc ns := by
  intro zA zp ze zs zm za zb zt zc zH zo zl zh zv zw
  have hts := zh.2.2.2.2.2.2.2.1
  refine va_newq (D := (g.1, g.2.1)) (cl := vwCl) (C := RX4) (N' := n) zh.1 zh.2.1 zh.2.2.2.2.2.2.1 (hts _ hcl) zh.2.2.2.2.2.2.2.2.2.2.1 zh.2.2.2.2.2.2.2.2.1 zv.1 zv.2.1 zv.2.2.1 zv.2.2.2 (by rw [hi]; exact nI_pos (by omega)) (by rw [hi]; exact nI_clamp (by omega)) (by omega) hc hs hdg (fun q cA H1 h0 h1 h2 h3 => ?_)
  have hq := jD_fresh h2
  have hcA : cA = g.2.2 12 := by
    obtain ⟨_, _, _, _, _, e1⟩ := (h0.2 5 (cA, .object RX4) rfl).2
    obtain ⟨_, _, _, _, _, e2⟩ := (zh.2.2.2.2.2.2.2.2.1.2 3 (g.2.2 12, .object RX4) rfl).2
    exact Option.some.inj (Eq.trans (Eq.symm e1) e2)
  subst hcA
  have he : cellOf g (nX S q 12 n) q = .inl (g.2.2 12, n, .inr (.inr (.inr (.inr (fun _ => none))))) := by
    rw [cell_ref g (S := nX S q 12 n) (c := 12) sAt_new (by decide)]
    have e1 : sN (nX S q 12 n) q = n := va_up_self _ _ _
    have e2 : sP (nX S q 12 n) 12 q = fun _ => none := funext fun j => by simp [sP_new]
    rw [e1, e2]
  rw [jW_new g hq he] at h1 h2
  exact k q hq zA zp ze zs zm za zb zt zc H1 zo zl zh ⟨h1, h2, h3, zv.2.2.2⟩ zw
theorem J_newr13 {i : Int32} {n idx : Nat} (hi : i = nI n) (hn : n < 2 ^ 20) (hcl : Cond.classLink me.1.cls idx RX7 ∈ T0) (hdg : decode me.2.1 pc = .ok (.anewarray idx, 3)) (hc : nc + 1 ≤ mc) (hs : ns + n ≤ ms) (k : ∀ q : Nat, q ∉ S.1 → J l g me hgt mc ms Q (pc + 3) lv (.ref q :: rest) (nX S q 13 n) (nc + 1) (ns + n)) : J l g me hgt mc ms Q pc lv (.int i :: rest) S nc ns := by
  intro zA zp ze zs zm za zb zt zc zH zo zl zh zv zw
  have hts := zh.2.2.2.2.2.2.2.1
  refine va_newq (D := (g.1, g.2.1)) (cl := vwCl) (C := RX7) (N' := n) zh.1 zh.2.1 zh.2.2.2.2.2.2.1 (hts _ hcl) zh.2.2.2.2.2.2.2.2.2.2.2.1 zh.2.2.2.2.2.2.2.2.1 zv.1 zv.2.1 zv.2.2.1 zv.2.2.2 (by rw [hi]; exact nI_pos (by omega)) (by rw [hi]; exact nI_clamp (by omega)) (by omega) hc hs hdg (fun q cA H1 h0 h1 h2 h3 => ?_)
  have hq := jD_fresh h2
  have hcA : cA = g.2.2 13 := by
    obtain ⟨_, _, _, _, _, e1⟩ := (h0.2 5 (cA, .object RX7) rfl).2
    obtain ⟨_, _, _, _, _, e2⟩ := (zh.2.2.2.2.2.2.2.2.1.2 4 (g.2.2 13, .object RX7) rfl).2
    exact Option.some.inj (Eq.trans (Eq.symm e1) e2)
  subst hcA
  have he : cellOf g (nX S q 13 n) q = .inl (g.2.2 13, n, .inr (.inr (.inr (.inr (fun _ => none))))) := by
    rw [cell_ref g (S := nX S q 13 n) (c := 13) sAt_new (by decide)]
    have e1 : sN (nX S q 13 n) q = n := va_up_self _ _ _
    have e2 : sP (nX S q 13 n) 13 q = fun _ => none := funext fun j => by simp [sP_new]
    rw [e1, e2]
  rw [jW_new g hq he] at h1 h2
  exact k q hq zA zp ze zs zm za zb zt zc H1 zo zl zh ⟨h1, h2, h3, zv.2.2.2⟩ zw
end JC
theorem cl0 : jCl 0 RX1 TX1 := ⟨by decide, rfl, iT0, nmX1, tyX1_ok⟩
theorem cl1 : jCl 1 RX2 TX2 := ⟨by decide, rfl, iT1, nmX2, tyX2_ok⟩
theorem cl2 : jCl 2 RX3 TX3 := ⟨by decide, rfl, iT2, nmX3, tyX3_ok⟩
theorem cl3 : jCl 3 RX4 TX4 := ⟨by decide, rfl, iT3, nmX4, tyX4_ok⟩
theorem cl4 : jCl 4 RX6 TX6 := ⟨by decide, rfl, iT4, nmX6, tyX6_ok⟩
theorem cl5 : jCl 5 RX7 TX7 := ⟨by decide, rfl, iT5, nmX7, tyX7_ok⟩
theorem cl6 : jCl 6 RX8 TX8 := ⟨by decide, rfl, iT6, nmX8, tyX8_ok⟩
theorem cl7 : jCl 7 RX9 TX9 := ⟨by decide, rfl, iT7, nmX9, tyX9_ok⟩
theorem cl8 : jCl 8 RX10 TX10 := ⟨by decide, rfl, iT8, nmX10, tyX10_ok⟩
