/-! the judgement J: a method's walk over the memory, any machine below -/
abbrev jNs : List Cond := [.fieldLinkNest RX5 11 RX4 "number" "I" RX9, .fieldLinkNest RX9 50 RX4 "number" "I" RX9, .fieldLinkNest RX3 110 RX4 "number" "I" RX9, .fieldLinkNest RX3 113 RX4 "from" "I" RX9, .fieldLinkNest RX3 185 RX4 "to" "I" RX9, .fieldLinkNest RX9 155 RX4 "to" "I" RX9, .fieldLinkNest RX3 65 RX4 "length" "I" RX9, .fieldLinkNest RX9 78 RX4 "sending" "LGrantNet$Sending;" RX9, .fieldLinkNest RX3 155 RX4 "sending" "LGrantNet$Sending;" RX9, .fieldLinkNest RX3 71 RX4 "receiving" "LGrantNet$Receiving;" RX9, .fieldLinkNest RX9 88 RX4 "receiving" "LGrantNet$Receiving;" RX9, .methodLinkNest RX3 22 yX1_init RX9]
theorem jNs_form : ∀ w ∈ jNs, (∃ a i b n d h, w = .fieldLinkNest a i b n d h) ∨ ∃ a i x h, w = .methodLinkNest a i x h := by
  intro w hw
  simp only [jNs, List.mem_cons, List.not_mem_nil, or_false] at hw
  rcases hw with rfl | rfl | rfl | rfl | rfl | rfl | rfl | rfl | rfl | rfl | rfl | rfl <;> first | exact Or.inl ⟨_, _, _, _, _, _, rfl⟩ | exact Or.inr ⟨_, _, _, _, rfl⟩
def jK (g : jG) (U : State) : Prop := va_K (g.1, g.2.1) vwCl (jTys g) U ∧ va_AO RX3 U ∧ va_AO RX4 U ∧ va_AO RX7 U ∧ ∀ w ∈ jNs, va_Nw w U
theorem jK.warm {g : jG} {u U : State} (hW : u.WarmedH U.vm) (h : jK g u) : jK g U := ⟨va_K.moved hW.alike h.1, va_AO.moved hW.alike h.2.1, va_AO.moved hW.alike h.2.2.1, va_AO.moved hW.alike h.2.2.2.1, fun w hw => by
  have hn := h.2.2.2.2 w hw
  rcases jNs_form w hw with ⟨a, i, b, n, d, h, rfl⟩ | ⟨a, i, x, h, rfl⟩
  · exact va_Nw.warmF hW hn
  · exact va_Nw.warmM hW hn⟩
theorem jK.same {g : jG} {u U : State} (hvm : u.vm = U.vm) (h : jK g u) : jK g U := ⟨va_K.moved (by rw [hvm]; exact Vm.Alike.refl _) h.1, va_AO.moved (by rw [hvm]; exact Vm.Alike.refl _) h.2.1, va_AO.moved (by rw [hvm]; exact Vm.Alike.refl _) h.2.2.1, va_AO.moved (by rw [hvm]; exact Vm.Alike.refl _) h.2.2.2.1, fun w hw => by
  have hn := h.2.2.2.2 w hw
  rcases jNs_form w hw with ⟨a, i, b, n, d, h, rfl⟩ | ⟨a, i, x, h, rfl⟩
  · exact va_Nw.same rfl hvm hn
  · exact va_Nw.same rfl hvm hn⟩
def jH (g : jG) (me : jM) (p : Program) (s : State) (m : MethodId) (args : Array Value) (meth : Method) (c : Code) : Prop :=
  p.tables.exec = Jvm.exec ∧ c.code = me.2.1 ∧ meth.sig.returnType = me.2.2.2 ∧ c.maxLocals = me.2.2.1 ∧ meth.locks = false ∧ meth.name = me.1.name ∧ s.vm.findClass me.1.cls = some m.cls ∧ (∀ w ∈ T0, w.before args s = true) ∧ jK g s
def jV (g : jG) (A : Nat → Prop) (s : State) (S : jS) (H : Heap) (locs : List Loc) : Prop :=
  va_P (g.1, g.2.1) vwCl (jW g S) H ∧ va_D A (jW g S) ∧ va_S A s.heap H locs ∧ ∀ q, s.heap.size ≤ q → A q
def jQc (g : jG) (A : Nat → Prop) (Q : Option Value → jS → Prop) : Array Value → State → Outcome → State → Prop := fun _ st oc t =>
  (∃ (r : Option Value) (S : jS), oc = .returned r ∧ Q r S ∧ va_P (g.1, g.2.1) vwCl (jW g S) t.heap ∧ jK g t ∧ va_D A (jW g S)) ∧ va_F A st t
def jR (h mc ms : Nat) : Room := { frames := h, cells := mc, slots := ms, locals := 36 * h }
def J (l : Launch) (g : jG) (me : jM) (h mc ms : Nat) (Q : Option Value → jS → Prop) (pc : Nat) (lv : List (Nat × Value)) (st : List Value) (S : jS) (nc ns : Nat) : Prop :=
  ∀ (A : Nat → Prop) (p : Program) (e : Env) (s : State) (m : MethodId) (args : Array Value) (below : List Frame) (meth : Method) (c : Code) (H : Heap) (locs : List Loc) (ls : Array Slot),
    jH g me p s m args meth c → jV g A s S H locs → lv_has ls me.2.2.1 lv → W p l e (jR h mc ms) s m args below meth c H locs nc ns (MQ below (jQc g A Q) args s mc ms A) (F0 m pc ls st)
theorem mem_lookup {i : Nat} {v : Value} : ∀ {l : List (Nat × Value)}, l.lookup i = some v → (i, v) ∈ l
  | [], h => by cases h
  | (j, w) :: t, h => by
    rw [List.lookup_cons] at h
    by_cases e : i = j
    · subst e
      rw [beq_self_eq_true] at h
      cases h
      exact List.mem_cons_self
    · rw [show (i == j) = false from by simp [e]] at h
      exact List.mem_cons_of_mem _ (mem_lookup h)
theorem lv_lk {ls : Array Slot} {nL : Nat} {lv : List (Nat × Value)} (h : lv_has ls nL lv) {i : Nat} {v : Value} (hl : lv.lookup i = some v) : ls[i]? = some (.val v) := h.2.2 (i, v) (mem_lookup hl)
abbrev st1 (lv : List (Nat × Value)) (i : Nat) (v : Value) : List (Nat × Value) := (i, v) :: lv.filter (fun q => !(q.1 == i) && !(q.1 + 1 == i && q.2.category == 2))
abbrev st2 (lv : List (Nat × Value)) (i : Nat) (v : Value) : List (Nat × Value) := (i, v) :: lv.filter (fun q => !(q.1 == i) && (!(q.1 == i + 1) && !(q.1 + 1 == i && q.2.category == 2)))
section JL
variable {l : Launch} {g : jG} {me : jM} {hgt mc ms : Nat} {Q : Option Value → jS → Prop} {pc : Nat} {lv : List (Nat × Value)} {rest : List Value} {S : jS} {nc ns : Nat}

theorem J_iconst {n : Int} {v : Int32} (hdg : decode me.2.1 pc = .ok (.iconst n, 1)) (hv : Int32.ofInt n = v) (k : J l g me hgt mc ms Q (pc + 1) lv (.int v :: rest) S nc ns) : J l g me hgt mc ms Q pc lv (rest) S nc ns := fun zA zp ze zs zm za zb zt zc zH zo zl zh zv zw => lv_iconst zh.1 zh.2.1 hdg hv (k zA zp ze zs zm za zb zt zc zH zo zl zh zv zw)
theorem J_bipush {n : Int} {v : Int32} (hdg : decode me.2.1 pc = .ok (.bipush n, 2)) (hv : (Int8.ofInt n).toInt32 = v) (k : J l g me hgt mc ms Q (pc + 2) lv (.int v :: rest) S nc ns) : J l g me hgt mc ms Q pc lv (rest) S nc ns := fun zA zp ze zs zm za zb zt zc zH zo zl zh zv zw => lv_bipush zh.1 zh.2.1 hdg hv (k zA zp ze zs zm za zb zt zc zH zo zl zh zv zw)
theorem J_sipush {n : Int} {v : Int32} (hdg : decode me.2.1 pc = .ok (.sipush n, 3)) (hv : (Int16.ofInt n).toInt32 = v) (k : J l g me hgt mc ms Q (pc + 3) lv (.int v :: rest) S nc ns) : J l g me hgt mc ms Q pc lv (rest) S nc ns := fun zA zp ze zs zm za zb zt zc zH zo zl zh zv zw => lv_sipush zh.1 zh.2.1 hdg hv (k zA zp ze zs zm za zb zt zc zH zo zl zh zv zw)
theorem J_lconst {n : Fin 2} {v : Int64} (hdg : decode me.2.1 pc = .ok (.lconst n, 1)) (hv : Int64.ofNat (n : Nat) = v) (k : J l g me hgt mc ms Q (pc + 1) lv (.long v :: rest) S nc ns) : J l g me hgt mc ms Q pc lv (rest) S nc ns := fun zA zp ze zs zm za zb zt zc zH zo zl zh zv zw => lv_lconst zh.1 zh.2.1 hdg hv (k zA zp ze zs zm za zb zt zc zH zo zl zh zv zw)
theorem J_iadd {x y : Int32} (hdg : decode me.2.1 pc = .ok (.iadd, 1)) (k : J l g me hgt mc ms Q (pc + 1) lv (.int (x + y) :: rest) S nc ns) : J l g me hgt mc ms Q pc lv (.int y :: .int x :: rest) S nc ns := fun zA zp ze zs zm za zb zt zc zH zo zl zh zv zw => lv_iadd zh.1 zh.2.1 hdg (k zA zp ze zs zm za zb zt zc zH zo zl zh zv zw)
theorem J_isub {x y : Int32} (hdg : decode me.2.1 pc = .ok (.isub, 1)) (k : J l g me hgt mc ms Q (pc + 1) lv (.int (x - y) :: rest) S nc ns) : J l g me hgt mc ms Q pc lv (.int y :: .int x :: rest) S nc ns := fun zA zp ze zs zm za zb zt zc zH zo zl zh zv zw => lv_isub zh.1 zh.2.1 hdg (k zA zp ze zs zm za zb zt zc zH zo zl zh zv zw)
theorem J_imul {x y : Int32} (hdg : decode me.2.1 pc = .ok (.imul, 1)) (k : J l g me hgt mc ms Q (pc + 1) lv (.int (x * y) :: rest) S nc ns) : J l g me hgt mc ms Q pc lv (.int y :: .int x :: rest) S nc ns := fun zA zp ze zs zm za zb zt zc zH zo zl zh zv zw => lv_imul zh.1 zh.2.1 hdg (k zA zp ze zs zm za zb zt zc zH zo zl zh zv zw)
theorem J_iand {x y : Int32} (hdg : decode me.2.1 pc = .ok (.iand, 1)) (k : J l g me hgt mc ms Q (pc + 1) lv (.int (x &&& y) :: rest) S nc ns) : J l g me hgt mc ms Q pc lv (.int y :: .int x :: rest) S nc ns := fun zA zp ze zs zm za zb zt zc zH zo zl zh zv zw => lv_iand zh.1 zh.2.1 hdg (k zA zp ze zs zm za zb zt zc zH zo zl zh zv zw)
theorem J_ior {x y : Int32} (hdg : decode me.2.1 pc = .ok (.ior, 1)) (k : J l g me hgt mc ms Q (pc + 1) lv (.int (x ||| y) :: rest) S nc ns) : J l g me hgt mc ms Q pc lv (.int y :: .int x :: rest) S nc ns := fun zA zp ze zs zm za zb zt zc zH zo zl zh zv zw => lv_ior zh.1 zh.2.1 hdg (k zA zp ze zs zm za zb zt zc zH zo zl zh zv zw)
theorem J_ixor {x y : Int32} (hdg : decode me.2.1 pc = .ok (.ixor, 1)) (k : J l g me hgt mc ms Q (pc + 1) lv (.int (x ^^^ y) :: rest) S nc ns) : J l g me hgt mc ms Q pc lv (.int y :: .int x :: rest) S nc ns := fun zA zp ze zs zm za zb zt zc zH zo zl zh zv zw => lv_ixor zh.1 zh.2.1 hdg (k zA zp ze zs zm za zb zt zc zH zo zl zh zv zw)
theorem J_idiv {x y : Int32} (hdg : decode me.2.1 pc = .ok (.idiv, 1)) (hne : ¬ y = 0) (k : J l g me hgt mc ms Q (pc + 1) lv (.int (x / y) :: rest) S nc ns) : J l g me hgt mc ms Q pc lv (.int y :: .int x :: rest) S nc ns := fun zA zp ze zs zm za zb zt zc zH zo zl zh zv zw => lv_idiv zh.1 zh.2.1 hdg hne (k zA zp ze zs zm za zb zt zc zH zo zl zh zv zw)
theorem J_irem {x y : Int32} (hdg : decode me.2.1 pc = .ok (.irem, 1)) (hne : ¬ y = 0) (k : J l g me hgt mc ms Q (pc + 1) lv (.int (x - x / y * y) :: rest) S nc ns) : J l g me hgt mc ms Q pc lv (.int y :: .int x :: rest) S nc ns := fun zA zp ze zs zm za zb zt zc zH zo zl zh zv zw => lv_irem zh.1 zh.2.1 hdg hne (k zA zp ze zs zm za zb zt zc zH zo zl zh zv zw)
theorem J_ineg {x : Int32} (hdg : decode me.2.1 pc = .ok (.ineg, 1)) (k : J l g me hgt mc ms Q (pc + 1) lv (.int (-x) :: rest) S nc ns) : J l g me hgt mc ms Q pc lv (.int x :: rest) S nc ns := fun zA zp ze zs zm za zb zt zc zH zo zl zh zv zw => lv_ineg zh.1 zh.2.1 hdg (k zA zp ze zs zm za zb zt zc zH zo zl zh zv zw)
theorem J_ladd {x y : Int64} (hdg : decode me.2.1 pc = .ok (.ladd, 1)) (k : J l g me hgt mc ms Q (pc + 1) lv (.long (x + y) :: rest) S nc ns) : J l g me hgt mc ms Q pc lv (.long y :: .long x :: rest) S nc ns := fun zA zp ze zs zm za zb zt zc zH zo zl zh zv zw => lv_ladd zh.1 zh.2.1 hdg (k zA zp ze zs zm za zb zt zc zH zo zl zh zv zw)
theorem J_lsub {x y : Int64} (hdg : decode me.2.1 pc = .ok (.lsub, 1)) (k : J l g me hgt mc ms Q (pc + 1) lv (.long (x - y) :: rest) S nc ns) : J l g me hgt mc ms Q pc lv (.long y :: .long x :: rest) S nc ns := fun zA zp ze zs zm za zb zt zc zH zo zl zh zv zw => lv_lsub zh.1 zh.2.1 hdg (k zA zp ze zs zm za zb zt zc zH zo zl zh zv zw)
theorem J_land {x y : Int64} (hdg : decode me.2.1 pc = .ok (.land, 1)) (k : J l g me hgt mc ms Q (pc + 1) lv (.long (x &&& y) :: rest) S nc ns) : J l g me hgt mc ms Q pc lv (.long y :: .long x :: rest) S nc ns := fun zA zp ze zs zm za zb zt zc zH zo zl zh zv zw => lv_land zh.1 zh.2.1 hdg (k zA zp ze zs zm za zb zt zc zH zo zl zh zv zw)
theorem J_lor {x y : Int64} (hdg : decode me.2.1 pc = .ok (.lor, 1)) (k : J l g me hgt mc ms Q (pc + 1) lv (.long (x ||| y) :: rest) S nc ns) : J l g me hgt mc ms Q pc lv (.long y :: .long x :: rest) S nc ns := fun zA zp ze zs zm za zb zt zc zH zo zl zh zv zw => lv_lor zh.1 zh.2.1 hdg (k zA zp ze zs zm za zb zt zc zH zo zl zh zv zw)
theorem J_lxor {x y : Int64} (hdg : decode me.2.1 pc = .ok (.lxor, 1)) (k : J l g me hgt mc ms Q (pc + 1) lv (.long (x ^^^ y) :: rest) S nc ns) : J l g me hgt mc ms Q pc lv (.long y :: .long x :: rest) S nc ns := fun zA zp ze zs zm za zb zt zc zH zo zl zh zv zw => lv_lxor zh.1 zh.2.1 hdg (k zA zp ze zs zm za zb zt zc zH zo zl zh zv zw)
theorem J_lneg {x : Int64} (hdg : decode me.2.1 pc = .ok (.lneg, 1)) (k : J l g me hgt mc ms Q (pc + 1) lv (.long (-x) :: rest) S nc ns) : J l g me hgt mc ms Q pc lv (.long x :: rest) S nc ns := fun zA zp ze zs zm za zb zt zc zH zo zl zh zv zw => lv_lneg zh.1 zh.2.1 hdg (k zA zp ze zs zm za zb zt zc zH zo zl zh zv zw)
theorem J_ishl {x y : Int32} (hdg : decode me.2.1 pc = .ok (.ishl, 1)) (k : J l g me hgt mc ms Q (pc + 1) lv (.int (x <<< (y &&& 31)) :: rest) S nc ns) : J l g me hgt mc ms Q pc lv (.int y :: .int x :: rest) S nc ns := fun zA zp ze zs zm za zb zt zc zH zo zl zh zv zw => lv_ishl zh.1 zh.2.1 hdg (k zA zp ze zs zm za zb zt zc zH zo zl zh zv zw)
theorem J_ishr {x y : Int32} (hdg : decode me.2.1 pc = .ok (.ishr, 1)) (k : J l g me hgt mc ms Q (pc + 1) lv (.int (x >>> (y &&& 31)) :: rest) S nc ns) : J l g me hgt mc ms Q pc lv (.int y :: .int x :: rest) S nc ns := fun zA zp ze zs zm za zb zt zc zH zo zl zh zv zw => lv_ishr zh.1 zh.2.1 hdg (k zA zp ze zs zm za zb zt zc zH zo zl zh zv zw)
theorem J_i2l {x : Int32} {v : Int64} (hdg : decode me.2.1 pc = .ok (.i2l, 1)) (hv : x.toInt64 = v) (k : J l g me hgt mc ms Q (pc + 1) lv (.long v :: rest) S nc ns) : J l g me hgt mc ms Q pc lv (.int x :: rest) S nc ns := fun zA zp ze zs zm za zb zt zc zH zo zl zh zv zw => lv_i2l zh.1 zh.2.1 hdg hv (k zA zp ze zs zm za zb zt zc zH zo zl zh zv zw)
theorem J_l2i {x : Int64} {v : Int32} (hdg : decode me.2.1 pc = .ok (.l2i, 1)) (hv : x.toInt32 = v) (k : J l g me hgt mc ms Q (pc + 1) lv (.int v :: rest) S nc ns) : J l g me hgt mc ms Q pc lv (.long x :: rest) S nc ns := fun zA zp ze zs zm za zb zt zc zH zo zl zh zv zw => lv_l2i zh.1 zh.2.1 hdg hv (k zA zp ze zs zm za zb zt zc zH zo zl zh zv zw)
theorem J_iushr {x y v : Int32} (hdg : decode me.2.1 pc = .ok (.iushr, 1)) (hv : (x.toUInt32 >>> (y.toUInt32 &&& Int32.toUInt32 31)).toInt32 = v) (k : J l g me hgt mc ms Q (pc + 1) lv (.int v :: rest) S nc ns) : J l g me hgt mc ms Q pc lv (.int y :: .int x :: rest) S nc ns := fun zA zp ze zs zm za zb zt zc zH zo zl zh zv zw => lv_iushr zh.1 zh.2.1 hdg hv (k zA zp ze zs zm za zb zt zc zH zo zl zh zv zw)
theorem J_lushr {x v : Int64} {y : Int32} (hdg : decode me.2.1 pc = .ok (.lushr, 1)) (hv : (x.toUInt64 >>> (y.toInt64.toUInt64 &&& Int64.toUInt64 63)).toInt64 = v) (k : J l g me hgt mc ms Q (pc + 1) lv (.long v :: rest) S nc ns) : J l g me hgt mc ms Q pc lv (.int y :: .long x :: rest) S nc ns := fun zA zp ze zs zm za zb zt zc zH zo zl zh zv zw => lv_lushr zh.1 zh.2.1 hdg hv (k zA zp ze zs zm za zb zt zc zH zo zl zh zv zw)
theorem J_lshl {x v : Int64} {y : Int32} (hdg : decode me.2.1 pc = .ok (.lshl, 1)) (hv : x <<< (y.toInt64 &&& 63) = v) (k : J l g me hgt mc ms Q (pc + 1) lv (.long v :: rest) S nc ns) : J l g me hgt mc ms Q pc lv (.int y :: .long x :: rest) S nc ns := fun zA zp ze zs zm za zb zt zc zH zo zl zh zv zw => lv_lshl zh.1 zh.2.1 hdg hv (k zA zp ze zs zm za zb zt zc zH zo zl zh zv zw)
theorem J_lshr {x v : Int64} {y : Int32} (hdg : decode me.2.1 pc = .ok (.lshr, 1)) (hv : x >>> (y.toInt64 &&& 63) = v) (k : J l g me hgt mc ms Q (pc + 1) lv (.long v :: rest) S nc ns) : J l g me hgt mc ms Q pc lv (.int y :: .long x :: rest) S nc ns := fun zA zp ze zs zm za zb zt zc zH zo zl zh zv zw => lv_lshr zh.1 zh.2.1 hdg hv (k zA zp ze zs zm za zb zt zc zH zo zl zh zv zw)
theorem J_dup {va : Value} (hdg : decode me.2.1 pc = .ok (.dup, 1)) (hva : va.category = 1) (k : J l g me hgt mc ms Q (pc + 1) lv (va :: va :: rest) S nc ns) : J l g me hgt mc ms Q pc lv (va :: rest) S nc ns := fun zA zp ze zs zm za zb zt zc zH zo zl zh zv zw => lv_dup zh.1 zh.2.1 hdg hva (k zA zp ze zs zm za zb zt zc zH zo zl zh zv zw)
theorem J_pop {va : Value} (hdg : decode me.2.1 pc = .ok (.pop, 1)) (hva : va.category = 1) (k : J l g me hgt mc ms Q (pc + 1) lv (rest) S nc ns) : J l g me hgt mc ms Q pc lv (va :: rest) S nc ns := fun zA zp ze zs zm za zb zt zc zH zo zl zh zv zw => lv_pop zh.1 zh.2.1 hdg hva (k zA zp ze zs zm za zb zt zc zH zo zl zh zv zw)
theorem J_dup_x1 {va vb : Value} (hdg : decode me.2.1 pc = .ok (.dup_x1, 1)) (hva : va.category = 1) (hvb : vb.category = 1) (k : J l g me hgt mc ms Q (pc + 1) lv (va :: vb :: va :: rest) S nc ns) : J l g me hgt mc ms Q pc lv (va :: vb :: rest) S nc ns := fun zA zp ze zs zm za zb zt zc zH zo zl zh zv zw => lv_dup_x1 zh.1 zh.2.1 hdg hva hvb (k zA zp ze zs zm za zb zt zc zH zo zl zh zv zw)
theorem J_dup2_11 {va vb : Value} (hdg : decode me.2.1 pc = .ok (.dup2, 1)) (hva : va.category = 1) (hvb : vb.category = 1) (k : J l g me hgt mc ms Q (pc + 1) lv (va :: vb :: va :: vb :: rest) S nc ns) : J l g me hgt mc ms Q pc lv (va :: vb :: rest) S nc ns := fun zA zp ze zs zm za zb zt zc zH zo zl zh zv zw => lv_dup2_11 zh.1 zh.2.1 hdg hva hvb (k zA zp ze zs zm za zb zt zc zH zo zl zh zv zw)
theorem J_if_eq {x : Int32} {off : Int} {tgt : Nat} (hdg : decode me.2.1 pc = .ok (.ifCond .eq off, 3)) (ht : (pc : Int) + off = (tgt : Int)) (kt : x = 0 → J l g me hgt mc ms Q tgt lv rest S nc ns) (kf : ¬ x = 0 → J l g me hgt mc ms Q (pc + 3) lv rest S nc ns) : J l g me hgt mc ms Q pc lv (.int x :: rest) S nc ns := fun zA zp ze zs zm za zb zt zc zH zo zl zh zv zw => lv_if_eq zh.1 zh.2.1 hdg ht (fun z => kt z zA zp ze zs zm za zb zt zc zH zo zl zh zv zw) (fun z => kf z zA zp ze zs zm za zb zt zc zH zo zl zh zv zw)
theorem J_if_ne {x : Int32} {off : Int} {tgt : Nat} (hdg : decode me.2.1 pc = .ok (.ifCond .ne off, 3)) (ht : (pc : Int) + off = (tgt : Int)) (kt : ¬ x = 0 → J l g me hgt mc ms Q tgt lv rest S nc ns) (kf : x = 0 → J l g me hgt mc ms Q (pc + 3) lv rest S nc ns) : J l g me hgt mc ms Q pc lv (.int x :: rest) S nc ns := fun zA zp ze zs zm za zb zt zc zH zo zl zh zv zw => lv_if_ne zh.1 zh.2.1 hdg ht (fun z => kt z zA zp ze zs zm za zb zt zc zH zo zl zh zv zw) (fun z => kf z zA zp ze zs zm za zb zt zc zH zo zl zh zv zw)
theorem J_if_lt {x : Int32} {off : Int} {tgt : Nat} (hdg : decode me.2.1 pc = .ok (.ifCond .lt off, 3)) (ht : (pc : Int) + off = (tgt : Int)) (kt : x < 0 → J l g me hgt mc ms Q tgt lv rest S nc ns) (kf : ¬ x < 0 → J l g me hgt mc ms Q (pc + 3) lv rest S nc ns) : J l g me hgt mc ms Q pc lv (.int x :: rest) S nc ns := fun zA zp ze zs zm za zb zt zc zH zo zl zh zv zw => lv_if_lt zh.1 zh.2.1 hdg ht (fun z => kt z zA zp ze zs zm za zb zt zc zH zo zl zh zv zw) (fun z => kf z zA zp ze zs zm za zb zt zc zH zo zl zh zv zw)
theorem J_if_ge {x : Int32} {off : Int} {tgt : Nat} (hdg : decode me.2.1 pc = .ok (.ifCond .ge off, 3)) (ht : (pc : Int) + off = (tgt : Int)) (kt : 0 ≤ x → J l g me hgt mc ms Q tgt lv rest S nc ns) (kf : ¬ 0 ≤ x → J l g me hgt mc ms Q (pc + 3) lv rest S nc ns) : J l g me hgt mc ms Q pc lv (.int x :: rest) S nc ns := fun zA zp ze zs zm za zb zt zc zH zo zl zh zv zw => lv_if_ge zh.1 zh.2.1 hdg ht (fun z => kt z zA zp ze zs zm za zb zt zc zH zo zl zh zv zw) (fun z => kf z zA zp ze zs zm za zb zt zc zH zo zl zh zv zw)
theorem J_if_gt {x : Int32} {off : Int} {tgt : Nat} (hdg : decode me.2.1 pc = .ok (.ifCond .gt off, 3)) (ht : (pc : Int) + off = (tgt : Int)) (kt : 0 < x → J l g me hgt mc ms Q tgt lv rest S nc ns) (kf : ¬ 0 < x → J l g me hgt mc ms Q (pc + 3) lv rest S nc ns) : J l g me hgt mc ms Q pc lv (.int x :: rest) S nc ns := fun zA zp ze zs zm za zb zt zc zH zo zl zh zv zw => lv_if_gt zh.1 zh.2.1 hdg ht (fun z => kt z zA zp ze zs zm za zb zt zc zH zo zl zh zv zw) (fun z => kf z zA zp ze zs zm za zb zt zc zH zo zl zh zv zw)
theorem J_if_le {x : Int32} {off : Int} {tgt : Nat} (hdg : decode me.2.1 pc = .ok (.ifCond .le off, 3)) (ht : (pc : Int) + off = (tgt : Int)) (kt : x ≤ 0 → J l g me hgt mc ms Q tgt lv rest S nc ns) (kf : ¬ x ≤ 0 → J l g me hgt mc ms Q (pc + 3) lv rest S nc ns) : J l g me hgt mc ms Q pc lv (.int x :: rest) S nc ns := fun zA zp ze zs zm za zb zt zc zH zo zl zh zv zw => lv_if_le zh.1 zh.2.1 hdg ht (fun z => kt z zA zp ze zs zm za zb zt zc zH zo zl zh zv zw) (fun z => kf z zA zp ze zs zm za zb zt zc zH zo zl zh zv zw)
theorem J_icmp_eq {x y : Int32} {off : Int} {tgt : Nat} (hdg : decode me.2.1 pc = .ok (.if_icmp .eq off, 3)) (ht : (pc : Int) + off = (tgt : Int)) (kt : x = y → J l g me hgt mc ms Q tgt lv rest S nc ns) (kf : ¬ x = y → J l g me hgt mc ms Q (pc + 3) lv rest S nc ns) : J l g me hgt mc ms Q pc lv (.int y :: .int x :: rest) S nc ns := fun zA zp ze zs zm za zb zt zc zH zo zl zh zv zw => lv_icmp_eq zh.1 zh.2.1 hdg ht (fun z => kt z zA zp ze zs zm za zb zt zc zH zo zl zh zv zw) (fun z => kf z zA zp ze zs zm za zb zt zc zH zo zl zh zv zw)
theorem J_icmp_ne {x y : Int32} {off : Int} {tgt : Nat} (hdg : decode me.2.1 pc = .ok (.if_icmp .ne off, 3)) (ht : (pc : Int) + off = (tgt : Int)) (kt : ¬ x = y → J l g me hgt mc ms Q tgt lv rest S nc ns) (kf : x = y → J l g me hgt mc ms Q (pc + 3) lv rest S nc ns) : J l g me hgt mc ms Q pc lv (.int y :: .int x :: rest) S nc ns := fun zA zp ze zs zm za zb zt zc zH zo zl zh zv zw => lv_icmp_ne zh.1 zh.2.1 hdg ht (fun z => kt z zA zp ze zs zm za zb zt zc zH zo zl zh zv zw) (fun z => kf z zA zp ze zs zm za zb zt zc zH zo zl zh zv zw)
theorem J_icmp_lt {x y : Int32} {off : Int} {tgt : Nat} (hdg : decode me.2.1 pc = .ok (.if_icmp .lt off, 3)) (ht : (pc : Int) + off = (tgt : Int)) (kt : x < y → J l g me hgt mc ms Q tgt lv rest S nc ns) (kf : ¬ x < y → J l g me hgt mc ms Q (pc + 3) lv rest S nc ns) : J l g me hgt mc ms Q pc lv (.int y :: .int x :: rest) S nc ns := fun zA zp ze zs zm za zb zt zc zH zo zl zh zv zw => lv_icmp_lt zh.1 zh.2.1 hdg ht (fun z => kt z zA zp ze zs zm za zb zt zc zH zo zl zh zv zw) (fun z => kf z zA zp ze zs zm za zb zt zc zH zo zl zh zv zw)
theorem J_icmp_ge {x y : Int32} {off : Int} {tgt : Nat} (hdg : decode me.2.1 pc = .ok (.if_icmp .ge off, 3)) (ht : (pc : Int) + off = (tgt : Int)) (kt : y ≤ x → J l g me hgt mc ms Q tgt lv rest S nc ns) (kf : ¬ y ≤ x → J l g me hgt mc ms Q (pc + 3) lv rest S nc ns) : J l g me hgt mc ms Q pc lv (.int y :: .int x :: rest) S nc ns := fun zA zp ze zs zm za zb zt zc zH zo zl zh zv zw => lv_icmp_ge zh.1 zh.2.1 hdg ht (fun z => kt z zA zp ze zs zm za zb zt zc zH zo zl zh zv zw) (fun z => kf z zA zp ze zs zm za zb zt zc zH zo zl zh zv zw)
theorem J_icmp_gt {x y : Int32} {off : Int} {tgt : Nat} (hdg : decode me.2.1 pc = .ok (.if_icmp .gt off, 3)) (ht : (pc : Int) + off = (tgt : Int)) (kt : y < x → J l g me hgt mc ms Q tgt lv rest S nc ns) (kf : ¬ y < x → J l g me hgt mc ms Q (pc + 3) lv rest S nc ns) : J l g me hgt mc ms Q pc lv (.int y :: .int x :: rest) S nc ns := fun zA zp ze zs zm za zb zt zc zH zo zl zh zv zw => lv_icmp_gt zh.1 zh.2.1 hdg ht (fun z => kt z zA zp ze zs zm za zb zt zc zH zo zl zh zv zw) (fun z => kf z zA zp ze zs zm za zb zt zc zH zo zl zh zv zw)
theorem J_icmp_le {x y : Int32} {off : Int} {tgt : Nat} (hdg : decode me.2.1 pc = .ok (.if_icmp .le off, 3)) (ht : (pc : Int) + off = (tgt : Int)) (kt : x ≤ y → J l g me hgt mc ms Q tgt lv rest S nc ns) (kf : ¬ x ≤ y → J l g me hgt mc ms Q (pc + 3) lv rest S nc ns) : J l g me hgt mc ms Q pc lv (.int y :: .int x :: rest) S nc ns := fun zA zp ze zs zm za zb zt zc zH zo zl zh zv zw => lv_icmp_le zh.1 zh.2.1 hdg ht (fun z => kt z zA zp ze zs zm za zb zt zc zH zo zl zh zv zw) (fun z => kf z zA zp ze zs zm za zb zt zc zH zo zl zh zv zw)
theorem J_goto {off : Int} {tgt : Nat} (hdg : decode me.2.1 pc = .ok (.goto off, 3)) (ht : (pc : Int) + off = (tgt : Int)) (k : J l g me hgt mc ms Q tgt lv rest S nc ns) : J l g me hgt mc ms Q pc lv rest S nc ns := fun zA zp ze zs zm za zb zt zc zH zo zl zh zv zw => lv_goto zh.1 zh.2.1 hdg ht (k zA zp ze zs zm za zb zt zc zH zo zl zh zv zw)
theorem J_ifnull {x : Nat} {off : Int} (hdg : decode me.2.1 pc = .ok (.ifnull off, 3)) (k : J l g me hgt mc ms Q (pc + 3) lv rest S nc ns) : J l g me hgt mc ms Q pc lv (.ref x :: rest) S nc ns := fun zA zp ze zs zm za zb zt zc zH zo zl zh zv zw => lv_ifnull zh.1 zh.2.1 hdg (k zA zp ze zs zm za zb zt zc zH zo zl zh zv zw)
theorem J_ifnonnull {x : Nat} {off : Int} {tgt : Nat} (hdg : decode me.2.1 pc = .ok (.ifnonnull off, 3)) (ht : (pc : Int) + off = (tgt : Int)) (k : J l g me hgt mc ms Q tgt lv rest S nc ns) : J l g me hgt mc ms Q pc lv (.ref x :: rest) S nc ns := fun zA zp ze zs zm za zb zt zc zH zo zl zh zv zw => lv_ifnonnull zh.1 zh.2.1 hdg ht (k zA zp ze zs zm za zb zt zc zH zo zl zh zv zw)
theorem J_ifnullN {off : Int} {tgt : Nat} (hdg : decode me.2.1 pc = .ok (.ifnull off, 3)) (ht : (pc : Int) + off = (tgt : Int)) (k : J l g me hgt mc ms Q tgt lv rest S nc ns) : J l g me hgt mc ms Q pc lv (.null :: rest) S nc ns := fun zA zp ze zs zm za zb zt zc zH zo zl zh zv zw => lv_ifnullN zh.1 zh.2.1 hdg ht (k zA zp ze zs zm za zb zt zc zH zo zl zh zv zw)
theorem J_ifnonnullN {off : Int} (hdg : decode me.2.1 pc = .ok (.ifnonnull off, 3)) (k : J l g me hgt mc ms Q (pc + 3) lv rest S nc ns) : J l g me hgt mc ms Q pc lv (.null :: rest) S nc ns := fun zA zp ze zs zm za zb zt zc zH zo zl zh zv zw => lv_ifnonnullN zh.1 zh.2.1 hdg (k zA zp ze zs zm za zb zt zc zH zo zl zh zv zw)
theorem J_null (hdg : decode me.2.1 pc = .ok (.aconst_null, 1)) (k : J l g me hgt mc ms Q (pc + 1) lv (.null :: rest) S nc ns) : J l g me hgt mc ms Q pc lv rest S nc ns := fun zA zp ze zs zm za zb zt zc zH zo zl zh zv zw => lv_null zh.1 zh.2.1 hdg (k zA zp ze zs zm za zb zt zc zH zo zl zh zv zw)
theorem J_tableIn {dflt lo hi : Int} {offs : Array Int} {len : Nat} {x : Int32} {off : Int} {tgt : Nat} (hdg : decode me.2.1 pc = .ok (.tableswitch dflt lo hi offs, len)) (h1 : ¬ x.toInt < lo) (h2 : ¬ hi < x.toInt) (ho : offs[(x.toInt - lo).toNat]? = some off) (ht : (pc : Int) + off = (tgt : Int)) (k : J l g me hgt mc ms Q tgt lv rest S nc ns) : J l g me hgt mc ms Q pc lv (.int x :: rest) S nc ns := fun zA zp ze zs zm za zb zt zc zH zo zl zh zv zw => lv_tableIn zh.1 zh.2.1 hdg h1 h2 ho ht (k zA zp ze zs zm za zb zt zc zH zo zl zh zv zw)
theorem J_tableOut {dflt lo hi : Int} {offs : Array Int} {len : Nat} {x : Int32} {tgt : Nat} (hdg : decode me.2.1 pc = .ok (.tableswitch dflt lo hi offs, len)) (h : x.toInt < lo ∨ hi < x.toInt) (ht : (pc : Int) + dflt = (tgt : Int)) (k : J l g me hgt mc ms Q tgt lv rest S nc ns) : J l g me hgt mc ms Q pc lv (.int x :: rest) S nc ns := fun zA zp ze zs zm za zb zt zc zH zo zl zh zv zw => lv_tableOut zh.1 zh.2.1 hdg h ht (k zA zp ze zs zm za zb zt zc zH zo zl zh zv zw)

theorem J_iload_n {k : Fin 4} {i : Nat} {x : Int32} (hdg : decode me.2.1 pc = .ok (.iload_n k, 1)) (hi : (k : Nat) = i) (hlv : lv.lookup i = some (.int x)) (k : J l g me hgt mc ms Q (pc + 1) lv (.int x :: rest) S nc ns) : J l g me hgt mc ms Q pc lv rest S nc ns := fun zA zp ze zs zm za zb zt zc zH zo zl zh zv zw => lv_iload_n zh.1 zh.2.1 hdg hi (lv_lk zw hlv) (k zA zp ze zs zm za zb zt zc zH zo zl zh zv zw)
theorem J_iload {i : Nat} {x : Int32} (hdg : decode me.2.1 pc = .ok (.iload i, 2)) (hlv : lv.lookup i = some (.int x)) (k : J l g me hgt mc ms Q (pc + 2) lv (.int x :: rest) S nc ns) : J l g me hgt mc ms Q pc lv rest S nc ns := fun zA zp ze zs zm za zb zt zc zH zo zl zh zv zw => lv_iload zh.1 zh.2.1 hdg (lv_lk zw hlv) (k zA zp ze zs zm za zb zt zc zH zo zl zh zv zw)
theorem J_istore_n {k : Fin 4} {i : Nat} {x : Int32} (hdg : decode me.2.1 pc = .ok (.istore_n k, 1)) (hi : (k : Nat) = i) (hn : i < me.2.2.1) (k : J l g me hgt mc ms Q (pc + 1) (st1 lv i (.int x)) rest S nc ns) : J l g me hgt mc ms Q pc lv (.int x :: rest) S nc ns := fun zA zp ze zs zm za zb zt zc zH zo zl zh zv zw => lv_istore_n zh.1 zh.2.1 hdg hi zw hn rfl (fun zl' zw' => k zA zp ze zs zm za zb zt zc zH zo zl' zh zv zw')
theorem J_istore {i : Nat} {x : Int32} (hdg : decode me.2.1 pc = .ok (.istore i, 2)) (hn : i < me.2.2.1) (k : J l g me hgt mc ms Q (pc + 2) (st1 lv i (.int x)) rest S nc ns) : J l g me hgt mc ms Q pc lv (.int x :: rest) S nc ns := fun zA zp ze zs zm za zb zt zc zH zo zl zh zv zw => lv_istore zh.1 zh.2.1 hdg zw hn rfl (fun zl' zw' => k zA zp ze zs zm za zb zt zc zH zo zl' zh zv zw')
theorem J_lload_n {k : Fin 4} {i : Nat} {x : Int64} (hdg : decode me.2.1 pc = .ok (.lload_n k, 1)) (hi : (k : Nat) = i) (hlv : lv.lookup i = some (.long x)) (k : J l g me hgt mc ms Q (pc + 1) lv (.long x :: rest) S nc ns) : J l g me hgt mc ms Q pc lv rest S nc ns := fun zA zp ze zs zm za zb zt zc zH zo zl zh zv zw => lv_lload_n zh.1 zh.2.1 hdg hi (lv_lk zw hlv) (k zA zp ze zs zm za zb zt zc zH zo zl zh zv zw)
theorem J_lload {i : Nat} {x : Int64} (hdg : decode me.2.1 pc = .ok (.lload i, 2)) (hlv : lv.lookup i = some (.long x)) (k : J l g me hgt mc ms Q (pc + 2) lv (.long x :: rest) S nc ns) : J l g me hgt mc ms Q pc lv rest S nc ns := fun zA zp ze zs zm za zb zt zc zH zo zl zh zv zw => lv_lload zh.1 zh.2.1 hdg (lv_lk zw hlv) (k zA zp ze zs zm za zb zt zc zH zo zl zh zv zw)
theorem J_lstore_n {k : Fin 4} {i : Nat} {x : Int64} (hdg : decode me.2.1 pc = .ok (.lstore_n k, 1)) (hi : (k : Nat) = i) (hn : i + 1 < me.2.2.1) (k : J l g me hgt mc ms Q (pc + 1) (st2 lv i (.long x)) rest S nc ns) : J l g me hgt mc ms Q pc lv (.long x :: rest) S nc ns := fun zA zp ze zs zm za zb zt zc zH zo zl zh zv zw => lv_lstore_n zh.1 zh.2.1 hdg hi zw hn rfl (fun zl' zw' => k zA zp ze zs zm za zb zt zc zH zo zl' zh zv zw')
theorem J_lstore {i : Nat} {x : Int64} (hdg : decode me.2.1 pc = .ok (.lstore i, 2)) (hn : i + 1 < me.2.2.1) (k : J l g me hgt mc ms Q (pc + 2) (st2 lv i (.long x)) rest S nc ns) : J l g me hgt mc ms Q pc lv (.long x :: rest) S nc ns := fun zA zp ze zs zm za zb zt zc zH zo zl zh zv zw => lv_lstore zh.1 zh.2.1 hdg zw hn rfl (fun zl' zw' => k zA zp ze zs zm za zb zt zc zH zo zl' zh zv zw')
theorem J_aload_n {k : Fin 4} {i : Nat} {x : Nat} (hdg : decode me.2.1 pc = .ok (.aload_n k, 1)) (hi : (k : Nat) = i) (hlv : lv.lookup i = some (.ref x)) (k : J l g me hgt mc ms Q (pc + 1) lv (.ref x :: rest) S nc ns) : J l g me hgt mc ms Q pc lv rest S nc ns := fun zA zp ze zs zm za zb zt zc zH zo zl zh zv zw => lv_aload_n zh.1 zh.2.1 hdg hi (lv_lk zw hlv) (k zA zp ze zs zm za zb zt zc zH zo zl zh zv zw)
theorem J_aload {i : Nat} {x : Nat} (hdg : decode me.2.1 pc = .ok (.aload i, 2)) (hlv : lv.lookup i = some (.ref x)) (k : J l g me hgt mc ms Q (pc + 2) lv (.ref x :: rest) S nc ns) : J l g me hgt mc ms Q pc lv rest S nc ns := fun zA zp ze zs zm za zb zt zc zH zo zl zh zv zw => lv_aload zh.1 zh.2.1 hdg (lv_lk zw hlv) (k zA zp ze zs zm za zb zt zc zH zo zl zh zv zw)
theorem J_astore_n {k : Fin 4} {i : Nat} {x : Nat} (hdg : decode me.2.1 pc = .ok (.astore_n k, 1)) (hi : (k : Nat) = i) (hn : i < me.2.2.1) (k : J l g me hgt mc ms Q (pc + 1) (st1 lv i (.ref x)) rest S nc ns) : J l g me hgt mc ms Q pc lv (.ref x :: rest) S nc ns := fun zA zp ze zs zm za zb zt zc zH zo zl zh zv zw => lv_astore_n zh.1 zh.2.1 hdg hi zw hn rfl (fun zl' zw' => k zA zp ze zs zm za zb zt zc zH zo zl' zh zv zw')
theorem J_astore {i : Nat} {x : Nat} (hdg : decode me.2.1 pc = .ok (.astore i, 2)) (hn : i < me.2.2.1) (k : J l g me hgt mc ms Q (pc + 2) (st1 lv i (.ref x)) rest S nc ns) : J l g me hgt mc ms Q pc lv (.ref x :: rest) S nc ns := fun zA zp ze zs zm za zb zt zc zH zo zl zh zv zw => lv_astore zh.1 zh.2.1 hdg zw hn rfl (fun zl' zw' => k zA zp ze zs zm za zb zt zc zH zo zl' zh zv zw')
theorem J_aload_nN {k : Fin 4} {i : Nat} (hdg : decode me.2.1 pc = .ok (.aload_n k, 1)) (hi : (k : Nat) = i) (hlv : lv.lookup i = some .null) (k : J l g me hgt mc ms Q (pc + 1) lv (.null :: rest) S nc ns) : J l g me hgt mc ms Q pc lv rest S nc ns := fun zA zp ze zs zm za zb zt zc zH zo zl zh zv zw => lv_aload_nN zh.1 zh.2.1 hdg hi (lv_lk zw hlv) (k zA zp ze zs zm za zb zt zc zH zo zl zh zv zw)
theorem J_aloadN {i : Nat} (hdg : decode me.2.1 pc = .ok (.aload i, 2)) (hlv : lv.lookup i = some .null) (k : J l g me hgt mc ms Q (pc + 2) lv (.null :: rest) S nc ns) : J l g me hgt mc ms Q pc lv rest S nc ns := fun zA zp ze zs zm za zb zt zc zH zo zl zh zv zw => lv_aloadN zh.1 zh.2.1 hdg (lv_lk zw hlv) (k zA zp ze zs zm za zb zt zc zH zo zl zh zv zw)
theorem J_astore_nN {k : Fin 4} {i : Nat} (hdg : decode me.2.1 pc = .ok (.astore_n k, 1)) (hi : (k : Nat) = i) (hn : i < me.2.2.1) (k : J l g me hgt mc ms Q (pc + 1) (st1 lv i .null) rest S nc ns) : J l g me hgt mc ms Q pc lv (.null :: rest) S nc ns := fun zA zp ze zs zm za zb zt zc zH zo zl zh zv zw => lv_astore_nN zh.1 zh.2.1 hdg hi zw hn rfl (fun zl' zw' => k zA zp ze zs zm za zb zt zc zH zo zl' zh zv zw')
theorem J_astoreN {i : Nat} (hdg : decode me.2.1 pc = .ok (.astore i, 2)) (hn : i < me.2.2.1) (k : J l g me hgt mc ms Q (pc + 2) (st1 lv i .null) rest S nc ns) : J l g me hgt mc ms Q pc lv (.null :: rest) S nc ns := fun zA zp ze zs zm za zb zt zc zH zo zl zh zv zw => lv_astoreN zh.1 zh.2.1 hdg zw hn rfl (fun zl' zw' => k zA zp ze zs zm za zb zt zc zH zo zl' zh zv zw')
theorem J_iinc {i : Nat} {n : Int} {x v : Int32} (hdg : decode me.2.1 pc = .ok (.iinc i n, 3)) (hlv : lv.lookup i = some (.int x)) (hv : x + Int32.ofInt n = v) (hn : i < me.2.2.1) (k : J l g me hgt mc ms Q (pc + 3) (st1 lv i (.int v)) rest S nc ns) : J l g me hgt mc ms Q pc lv rest S nc ns := by
  intro zA zp ze zs zm za zb zt zc zH zo zl zh zv zw
  obtain ⟨k0, hk0⟩ := List.getElem?_of_mem (mem_lookup hlv)
  exact lv_iinc zh.1 zh.2.1 hdg zw hk0 hv hn rfl (fun zl' zw' => k zA zp ze zs zm za zb zt zc zH zo zl' zh zv zw')
theorem J_ldc2 {index : Nat} {v : Int64} (hw : Cond.constantLong me.1.cls index v ∈ T0) (hdg : decode me.2.1 pc = .ok (.ldc2_w index, 3)) (k : J l g me hgt mc ms Q (pc + 3) lv (.long v :: rest) S nc ns) : J l g me hgt mc ms Q pc lv rest S nc ns := fun zA zp ze zs zm za zb zt zc zH zo zl zh zv zw => lv_ldc2 zh.1 zh.2.1 zh.2.2.2.2.2.2.1 (zh.2.2.2.2.2.2.2.1 _ hw) hdg (k zA zp ze zs zm za zb zt zc zH zo zl zh zv zw)
theorem J_top {x y : Int32} (e : x = y) (k : J l g me hgt mc ms Q pc lv (.int y :: rest) S nc ns) : J l g me hgt mc ms Q pc lv (.int x :: rest) S nc ns := e ▸ k
theorem J_iret {v : Int32} (hdg : decode me.2.1 pc = .ok (.ireturn, 1)) (hr : me.2.2.2 = some .int) (hc : nc ≤ mc) (hs : ns ≤ ms) (hq : Q (some (.int v)) S) : J l g me hgt mc ms Q pc lv [.int v] S nc ns := by
  intro zA zp ze zs zm za zb zt zc zH zo zl zh zv zw
  refine W.widen hc hs ?_
  exact W.iret zh.1 zh.2.1 (zh.2.2.1.trans hr) (fun t ht hW => ⟨⟨_, S, rfl, hq, by rw [ht]; exact zv.1, jK.warm hW zh.2.2.2.2.2.2.2.2, zv.2.1⟩, zv.2.2.1.F ht⟩) zv.2.2.1.2.2 hdg zh.2.2.2.2.1
theorem J_zret {v : Int32} (hdg : decode me.2.1 pc = .ok (.ireturn, 1)) (hr : me.2.2.2 = some .boolean) (hn : narrow .boolean (.int v) = .int v) (hc : nc ≤ mc) (hs : ns ≤ ms) (hq : Q (some (.int v)) S) : J l g me hgt mc ms Q pc lv [.int v] S nc ns := by
  intro zA zp ze zs zm za zb zt zc zH zo zl zh zv zw
  refine W.widen hc hs ?_
  exact W.zret zh.1 zh.2.1 (zh.2.2.1.trans hr) hn (fun t ht hW => ⟨⟨_, S, rfl, hq, by rw [ht]; exact zv.1, jK.warm hW zh.2.2.2.2.2.2.2.2, zv.2.1⟩, zv.2.2.1.F ht⟩) zv.2.2.1.2.2 hdg zh.2.2.2.2.1
theorem J_vret (hdg : decode me.2.1 pc = .ok (.return_, 1)) (hr : me.2.2.2 = none) (hc : nc ≤ mc) (hs : ns ≤ ms) (hq : Q none S) : J l g me hgt mc ms Q pc lv [] S nc ns := by
  intro zA zp ze zs zm za zb zt zc zH zo zl zh zv zw
  refine W.widen hc hs ?_
  exact W.vret zh.1 zh.2.1 (zh.2.2.1.trans hr) (fun t ht hW => ⟨⟨_, S, rfl, hq, by rw [ht]; exact zv.1, jK.warm hW zh.2.2.2.2.2.2.2.2, zv.2.1⟩, zv.2.2.1.F ht⟩) zv.2.2.1.2.2 hdg zh.2.2.2.2.1
theorem J_lret {v : Int64} (hdg : decode me.2.1 pc = .ok (.lreturn, 1)) (hr : me.2.2.2 = some .long) (hc : nc ≤ mc) (hs : ns ≤ ms) (hq : Q (some (.long v)) S) : J l g me hgt mc ms Q pc lv [.long v] S nc ns := by
  intro zA zp ze zs zm za zb zt zc zH zo zl zh zv zw
  refine W.widen hc hs ?_
  exact W.lret zh.1 zh.2.1 (zh.2.2.1.trans hr) (fun t ht hW => ⟨⟨_, S, rfl, hq, by rw [ht]; exact zv.1, jK.warm hW zh.2.2.2.2.2.2.2.2, zv.2.1⟩, zv.2.2.1.F ht⟩) zv.2.2.1.2.2 hdg zh.2.2.2.2.1
theorem J_aret {v : Value} {C : String} (hdg : decode me.2.1 pc = .ok (.areturn, 1)) (hr : me.2.2.2 = some (.object C)) (hv : v = .null ∨ ∃ a, v = .ref a) (hc : nc ≤ mc) (hs : ns ≤ ms) (hq : Q (some v) S) : J l g me hgt mc ms Q pc lv [v] S nc ns := by
  intro zA zp ze zs zm za zb zt zc zH zo zl zh zv zw
  refine W.widen hc hs ?_
  exact W.aret zh.1 zh.2.1 (zh.2.2.1.trans hr) (Or.inl ⟨C, rfl⟩) hv (fun t ht hW => ⟨⟨_, S, rfl, hq, by rw [ht]; exact zv.1, jK.warm hW zh.2.2.2.2.2.2.2.2, zv.2.1⟩, zv.2.2.1.F ht⟩) zv.2.2.1.2.2 hdg zh.2.2.2.2.1
/-- a class of the pool: its name, its fields, its words -/
def jCl (c : Nat) (R : String) (T : u_T) : Prop := c < 9 ∧ vwCl[c]? = some (R, T, jN c) ∧ (∀ w ∈ u_ws R T (jN c), w ∈ T0) ∧ (∀ a, a < jN c → ∀ b, b < jN c → a ≠ b → (T a).2.1 ≠ (T b).2.1) ∧ (∀ k, k < jN c → parseFieldDescriptor (T k).2.2.1 = some (jTy c k))
theorem J_getf {c a i idx : Nat} {R : String} {T : u_T} {v : Value} (hC : jCl c R T) (ha : sAt S c a) (hi : i < jN c) (hf : fv (jTy c i) S c a i = v) (hw : Cond.fieldLink me.1.cls idx (T i).1 (T i).2.1 (T i).2.2.1 ∈ T0) (hdg : decode me.2.1 pc = .ok (.getfield idx, 3)) (k : J l g me hgt mc ms Q (pc + 3) lv (v :: rest) S nc ns) : J l g me hgt mc ms Q pc lv (.ref a :: rest) S nc ns := by
  intro zA zp ze zs zm za zb zt zc zH zo zl zh zv zw
  obtain ⟨k0, hk0⟩ := jW_get g ha
  rw [cell_obj g ha hC.1] at hk0
  exact va_get (D := (g.1, g.2.1)) (cl := vwCl) (C := R) (T := T) (N := jN c) zh.1 zh.2.1 zh.2.2.2.2.2.2.2.1 hC.2.2.1 zh.2.2.2.2.2.2.1 zh.2.2.2.2.2.2.2.2.1 zv.1 k0 hk0 hC.2.1 i hi (zh.2.2.2.2.2.2.2.1 _ hw) (fun _ h9 => h9) (by rw [fvs_at hi, hf]) hdg (k zA zp ze zs zm za zb zt zc zH zo zl zh zv zw)
theorem J_geti {c a i idx : Nat} {R : String} {T : u_T} {v : Int32} (hC : jCl c R T) (ha : sAt S c a) (hi : i < jN c) (ht : jI (jTy c i) = true) (hv : sI S c a i = v) (hw : Cond.fieldLink me.1.cls idx (T i).1 (T i).2.1 (T i).2.2.1 ∈ T0) (hdg : decode me.2.1 pc = .ok (.getfield idx, 3)) (k : J l g me hgt mc ms Q (pc + 3) lv (.int v :: rest) S nc ns) : J l g me hgt mc ms Q pc lv (.ref a :: rest) S nc ns := J_getf hC ha hi ((fv_I ht _ _ _ _).trans (by rw [hv])) hw hdg k
theorem J_getl {c a i idx : Nat} {R : String} {T : u_T} {v : Int64} (hC : jCl c R T) (ha : sAt S c a) (hi : i < jN c) (ht : jL (jTy c i) = true) (hv : sJ S c a i = v) (hw : Cond.fieldLink me.1.cls idx (T i).1 (T i).2.1 (T i).2.2.1 ∈ T0) (hdg : decode me.2.1 pc = .ok (.getfield idx, 3)) (k : J l g me hgt mc ms Q (pc + 3) lv (.long v :: rest) S nc ns) : J l g me hgt mc ms Q pc lv (.ref a :: rest) S nc ns := J_getf hC ha hi ((fv_L ht _ _ _ _).trans (by rw [hv])) hw hdg k
theorem J_getr {c a i idx : Nat} {R : String} {T : u_T} {v : Nat} (hC : jCl c R T) (ha : sAt S c a) (hi : i < jN c) (ht : jP (jTy c i) = true) (hv : sP S c a i = some v) (hw : Cond.fieldLink me.1.cls idx (T i).1 (T i).2.1 (T i).2.2.1 ∈ T0) (hdg : decode me.2.1 pc = .ok (.getfield idx, 3)) (k : J l g me hgt mc ms Q (pc + 3) lv (.ref v :: rest) S nc ns) : J l g me hgt mc ms Q pc lv (.ref a :: rest) S nc ns := J_getf hC ha hi ((fv_P ht _ _ _ _).trans (by rw [hv]; rfl)) hw hdg k
theorem J_getfN {c a i idx : Nat} {R host : String} {T : u_T} {v : Value} (hC : jCl c R T) (ha : sAt S c a) (hi : i < jN c) (hf : fv (jTy c i) S c a i = v) (hw : Cond.fieldLinkNest me.1.cls idx (T i).1 (T i).2.1 (T i).2.2.1 host ∈ jNs) (hdg : decode me.2.1 pc = .ok (.getfield idx, 3)) (k : J l g me hgt mc ms Q (pc + 3) lv (v :: rest) S nc ns) : J l g me hgt mc ms Q pc lv (.ref a :: rest) S nc ns := by
  intro zA zp ze zs zm za zb zt zc zH zo zl zh zv zw
  obtain ⟨k0, hk0⟩ := jW_get g ha
  rw [cell_obj g ha hC.1] at hk0
  exact va_getN (D := (g.1, g.2.1)) (cl := vwCl) (C := R) (T := T) (N := jN c) zh.1 zh.2.1 zh.2.2.2.2.2.2.2.1 hC.2.2.1 zh.2.2.2.2.2.2.1 zh.2.2.2.2.2.2.2.2.1 zv.1 k0 hk0 hC.2.1 i hi (va_Nw.use rfl (zh.2.2.2.2.2.2.2.2.2.2.2.2 _ hw)) (fun _ h9 => h9) (by rw [fvs_at hi, hf]) hdg (k zA zp ze zs zm za zb zt zc zH zo zl zh zv zw)
theorem J_getiN {c a i idx : Nat} {R host : String} {T : u_T} {v : Int32} (hC : jCl c R T) (ha : sAt S c a) (hi : i < jN c) (ht : jI (jTy c i) = true) (hv : sI S c a i = v) (hw : Cond.fieldLinkNest me.1.cls idx (T i).1 (T i).2.1 (T i).2.2.1 host ∈ jNs) (hdg : decode me.2.1 pc = .ok (.getfield idx, 3)) (k : J l g me hgt mc ms Q (pc + 3) lv (.int v :: rest) S nc ns) : J l g me hgt mc ms Q pc lv (.ref a :: rest) S nc ns := J_getfN hC ha hi ((fv_I ht _ _ _ _).trans (by rw [hv])) hw hdg k
theorem J_getrN {c a i idx : Nat} {R host : String} {T : u_T} {v : Nat} (hC : jCl c R T) (ha : sAt S c a) (hi : i < jN c) (ht : jP (jTy c i) = true) (hv : sP S c a i = some v) (hw : Cond.fieldLinkNest me.1.cls idx (T i).1 (T i).2.1 (T i).2.2.1 host ∈ jNs) (hdg : decode me.2.1 pc = .ok (.getfield idx, 3)) (k : J l g me hgt mc ms Q (pc + 3) lv (.ref v :: rest) S nc ns) : J l g me hgt mc ms Q pc lv (.ref a :: rest) S nc ns := J_getfN hC ha hi ((fv_P ht _ _ _ _).trans (by rw [hv]; rfl)) hw hdg k
theorem jV_put {A : Nat → Prop} {s : State} {S' : jS} {H H1 : Heap} {locs locs1 : List Loc} {a k0 : Nat} {e : va_E} (zv : jV g A s S H locs) (hL : a ∈ S.1) (hk : (jW g S)[k0]? = some (a, cellOf g S a)) (hl : S'.1 = S.1) (hc : ∀ b, va_up (cellOf g S) a e b = cellOf g S' b) (h1 : va_P (g.1, g.2.1) vwCl ((jW g S).set k0 (a, e)) H1) (h2 : va_D A ((jW g S).set k0 (a, e))) (h3 : va_S A s.heap H1 locs1) : jV g A s S' H1 locs1 := by
  rw [jW_set g zv.2.1 hL hk hl hc] at h1 h2
  exact ⟨h1, h2, h3, zv.2.2.2⟩
theorem J_puti {c a i idx : Nat} {R : String} {T : u_T} {v : Int32} (hC : jCl c R T) (ha : sAt S c a) (hi : i < jN c) (ht : jI (jTy c i) = true) (hfin : (T i).2.2.2 = false) (hn : narrow (jTy c i) (.int v) = (.int v)) (hfit : fits (jTy c i) (.int v) = true) (hw : Cond.fieldLink me.1.cls idx (T i).1 (T i).2.1 (T i).2.2.1 ∈ T0) (hdg : decode me.2.1 pc = .ok (.putfield idx, 3)) (k : J l g me hgt mc ms Q (pc + 3) lv rest (uI S c a i v) nc ns) : J l g me hgt mc ms Q pc lv (.int v :: .ref a :: rest) S nc ns := by
  intro zA zp ze zs zm za zb zt zc zH zo zl zh zv zw
  obtain ⟨k0, hk0⟩ := jW_get g ha
  have hk1 := hk0
  rw [cell_obj g ha hC.1] at hk1
  exact va_put (D := (g.1, g.2.1)) (cl := vwCl) (C := R) (T := T) (N := jN c) (ty := jTy c i) zh.1 zh.2.1 zh.2.2.2.2.2.2.2.1 hC.2.2.1 (jTy c) hC.2.2.2.2 hC.2.2.2.1 zh.2.2.2.2.2.2.1 zh.2.2.2.2.2.2.2.2.1 zv.1 zv.2.1 zv.2.2.1 k0 hk1 hC.2.1 i hi (zh.2.2.2.2.2.2.2.1 _ hw) (fun _ h9 => h9) hfin (hC.2.2.2.2 i hi) hn hfit (by rw [fvs_len]; exact hi) hdg (fun H1 locs1 h1 h2 h3 => k zA zp ze zs zm za zb zt zc H1 locs1 zl zh (jV_put zv ha.1 hk0 rfl (cell_uI g ha hC.1 ((fv_I ht _ _ _ _).trans (by rw [sI_same]))) h1 h2 h3) zw)
theorem J_putiF {c a i idx : Nat} {R : String} {T : u_T} {v : Int32} (hC : jCl c R T) (ha : sAt S c a) (hi : i < jN c) (ht : jI (jTy c i) = true) (hfin : (T i).2.2.2 = true) (hini : me.1.name = "<init>") (hdecl : (T i).1 = me.1.cls) (hn : narrow (jTy c i) (.int v) = (.int v)) (hfit : fits (jTy c i) (.int v) = true) (hw : Cond.fieldLink me.1.cls idx (T i).1 (T i).2.1 (T i).2.2.1 ∈ T0) (hdg : decode me.2.1 pc = .ok (.putfield idx, 3)) (k : J l g me hgt mc ms Q (pc + 3) lv rest (uI S c a i v) nc ns) : J l g me hgt mc ms Q pc lv (.int v :: .ref a :: rest) S nc ns := by
  intro zA zp ze zs zm za zb zt zc zH zo zl zh zv zw
  obtain ⟨k0, hk0⟩ := jW_get g ha
  have hk1 := hk0
  rw [cell_obj g ha hC.1] at hk1
  exact va_putF (D := (g.1, g.2.1)) (cl := vwCl) (C := R) (T := T) (N := jN c) (ty := jTy c i) zh.1 zh.2.1 zh.2.2.2.2.2.2.2.1 hC.2.2.1 (jTy c) hC.2.2.2.2 hC.2.2.2.1 zh.2.2.2.2.2.2.1 zh.2.2.2.2.2.2.2.2.1 zv.1 zv.2.1 zv.2.2.1 k0 hk1 hC.2.1 i hi (zh.2.2.2.2.2.2.2.1 _ hw) (fun _ h9 => h9) hfin (zh.2.2.2.2.2.1.trans hini) hdecl (hC.2.2.2.2 i hi) hn hfit (by rw [fvs_len]; exact hi) hdg (fun H1 locs1 h1 h2 h3 => k zA zp ze zs zm za zb zt zc H1 locs1 zl zh (jV_put zv ha.1 hk0 rfl (cell_uI g ha hC.1 ((fv_I ht _ _ _ _).trans (by rw [sI_same]))) h1 h2 h3) zw)
theorem J_putl {c a i idx : Nat} {R : String} {T : u_T} {v : Int64} (hC : jCl c R T) (ha : sAt S c a) (hi : i < jN c) (ht : jL (jTy c i) = true) (hfin : (T i).2.2.2 = false) (hn : narrow (jTy c i) (.long v) = (.long v)) (hfit : fits (jTy c i) (.long v) = true) (hw : Cond.fieldLink me.1.cls idx (T i).1 (T i).2.1 (T i).2.2.1 ∈ T0) (hdg : decode me.2.1 pc = .ok (.putfield idx, 3)) (k : J l g me hgt mc ms Q (pc + 3) lv rest (uJ S c a i v) nc ns) : J l g me hgt mc ms Q pc lv (.long v :: .ref a :: rest) S nc ns := by
  intro zA zp ze zs zm za zb zt zc zH zo zl zh zv zw
  obtain ⟨k0, hk0⟩ := jW_get g ha
  have hk1 := hk0
  rw [cell_obj g ha hC.1] at hk1
  exact va_put (D := (g.1, g.2.1)) (cl := vwCl) (C := R) (T := T) (N := jN c) (ty := jTy c i) zh.1 zh.2.1 zh.2.2.2.2.2.2.2.1 hC.2.2.1 (jTy c) hC.2.2.2.2 hC.2.2.2.1 zh.2.2.2.2.2.2.1 zh.2.2.2.2.2.2.2.2.1 zv.1 zv.2.1 zv.2.2.1 k0 hk1 hC.2.1 i hi (zh.2.2.2.2.2.2.2.1 _ hw) (fun _ h9 => h9) hfin (hC.2.2.2.2 i hi) hn hfit (by rw [fvs_len]; exact hi) hdg (fun H1 locs1 h1 h2 h3 => k zA zp ze zs zm za zb zt zc H1 locs1 zl zh (jV_put zv ha.1 hk0 rfl (cell_uJ g ha hC.1 ((fv_L ht _ _ _ _).trans (by rw [sJ_same]))) h1 h2 h3) zw)
theorem J_putlF {c a i idx : Nat} {R : String} {T : u_T} {v : Int64} (hC : jCl c R T) (ha : sAt S c a) (hi : i < jN c) (ht : jL (jTy c i) = true) (hfin : (T i).2.2.2 = true) (hini : me.1.name = "<init>") (hdecl : (T i).1 = me.1.cls) (hn : narrow (jTy c i) (.long v) = (.long v)) (hfit : fits (jTy c i) (.long v) = true) (hw : Cond.fieldLink me.1.cls idx (T i).1 (T i).2.1 (T i).2.2.1 ∈ T0) (hdg : decode me.2.1 pc = .ok (.putfield idx, 3)) (k : J l g me hgt mc ms Q (pc + 3) lv rest (uJ S c a i v) nc ns) : J l g me hgt mc ms Q pc lv (.long v :: .ref a :: rest) S nc ns := by
  intro zA zp ze zs zm za zb zt zc zH zo zl zh zv zw
  obtain ⟨k0, hk0⟩ := jW_get g ha
  have hk1 := hk0
  rw [cell_obj g ha hC.1] at hk1
  exact va_putF (D := (g.1, g.2.1)) (cl := vwCl) (C := R) (T := T) (N := jN c) (ty := jTy c i) zh.1 zh.2.1 zh.2.2.2.2.2.2.2.1 hC.2.2.1 (jTy c) hC.2.2.2.2 hC.2.2.2.1 zh.2.2.2.2.2.2.1 zh.2.2.2.2.2.2.2.2.1 zv.1 zv.2.1 zv.2.2.1 k0 hk1 hC.2.1 i hi (zh.2.2.2.2.2.2.2.1 _ hw) (fun _ h9 => h9) hfin (zh.2.2.2.2.2.1.trans hini) hdecl (hC.2.2.2.2 i hi) hn hfit (by rw [fvs_len]; exact hi) hdg (fun H1 locs1 h1 h2 h3 => k zA zp ze zs zm za zb zt zc H1 locs1 zl zh (jV_put zv ha.1 hk0 rfl (cell_uJ g ha hC.1 ((fv_L ht _ _ _ _).trans (by rw [sJ_same]))) h1 h2 h3) zw)
theorem J_putr {c a i idx : Nat} {R : String} {T : u_T} {v : Nat} (hC : jCl c R T) (ha : sAt S c a) (hi : i < jN c) (ht : jP (jTy c i) = true) (hfin : (T i).2.2.2 = false) (hn : narrow (jTy c i) (.ref v) = (.ref v)) (hfit : fits (jTy c i) (.ref v) = true) (hw : Cond.fieldLink me.1.cls idx (T i).1 (T i).2.1 (T i).2.2.1 ∈ T0) (hdg : decode me.2.1 pc = .ok (.putfield idx, 3)) (k : J l g me hgt mc ms Q (pc + 3) lv rest (uP S c a i (some v)) nc ns) : J l g me hgt mc ms Q pc lv (.ref v :: .ref a :: rest) S nc ns := by
  intro zA zp ze zs zm za zb zt zc zH zo zl zh zv zw
  obtain ⟨k0, hk0⟩ := jW_get g ha
  have hk1 := hk0
  rw [cell_obj g ha hC.1] at hk1
  exact va_put (D := (g.1, g.2.1)) (cl := vwCl) (C := R) (T := T) (N := jN c) (ty := jTy c i) zh.1 zh.2.1 zh.2.2.2.2.2.2.2.1 hC.2.2.1 (jTy c) hC.2.2.2.2 hC.2.2.2.1 zh.2.2.2.2.2.2.1 zh.2.2.2.2.2.2.2.2.1 zv.1 zv.2.1 zv.2.2.1 k0 hk1 hC.2.1 i hi (zh.2.2.2.2.2.2.2.1 _ hw) (fun _ h9 => h9) hfin (hC.2.2.2.2 i hi) hn hfit (by rw [fvs_len]; exact hi) hdg (fun H1 locs1 h1 h2 h3 => k zA zp ze zs zm za zb zt zc H1 locs1 zl zh (jV_put zv ha.1 hk0 rfl (cell_uP g ha hC.1 ((fv_P ht _ _ _ _).trans (by rw [sP_same]))) h1 h2 h3) zw)
theorem J_putrF {c a i idx : Nat} {R : String} {T : u_T} {v : Nat} (hC : jCl c R T) (ha : sAt S c a) (hi : i < jN c) (ht : jP (jTy c i) = true) (hfin : (T i).2.2.2 = true) (hini : me.1.name = "<init>") (hdecl : (T i).1 = me.1.cls) (hn : narrow (jTy c i) (.ref v) = (.ref v)) (hfit : fits (jTy c i) (.ref v) = true) (hw : Cond.fieldLink me.1.cls idx (T i).1 (T i).2.1 (T i).2.2.1 ∈ T0) (hdg : decode me.2.1 pc = .ok (.putfield idx, 3)) (k : J l g me hgt mc ms Q (pc + 3) lv rest (uP S c a i (some v)) nc ns) : J l g me hgt mc ms Q pc lv (.ref v :: .ref a :: rest) S nc ns := by
  intro zA zp ze zs zm za zb zt zc zH zo zl zh zv zw
  obtain ⟨k0, hk0⟩ := jW_get g ha
  have hk1 := hk0
  rw [cell_obj g ha hC.1] at hk1
  exact va_putF (D := (g.1, g.2.1)) (cl := vwCl) (C := R) (T := T) (N := jN c) (ty := jTy c i) zh.1 zh.2.1 zh.2.2.2.2.2.2.2.1 hC.2.2.1 (jTy c) hC.2.2.2.2 hC.2.2.2.1 zh.2.2.2.2.2.2.1 zh.2.2.2.2.2.2.2.2.1 zv.1 zv.2.1 zv.2.2.1 k0 hk1 hC.2.1 i hi (zh.2.2.2.2.2.2.2.1 _ hw) (fun _ h9 => h9) hfin (zh.2.2.2.2.2.1.trans hini) hdecl (hC.2.2.2.2 i hi) hn hfit (by rw [fvs_len]; exact hi) hdg (fun H1 locs1 h1 h2 h3 => k zA zp ze zs zm za zb zt zc H1 locs1 zl zh (jV_put zv ha.1 hk0 rfl (cell_uP g ha hC.1 ((fv_P ht _ _ _ _).trans (by rw [sP_same]))) h1 h2 h3) zw)
theorem J_iald {a n N : Nat} {i v : Int32} (ha : aAt S 9 a N) (hi : i = nI n) (hn : n < N) (hL : N < 2 ^ 31) (hv : sI S 9 a n = v) (hdg : decode me.2.1 pc = .ok (.iaload, 1)) (k : J l g me hgt mc ms Q (pc + 1) lv (.int v :: rest) S nc ns) : J l g me hgt mc ms Q pc lv (.int i :: .ref a :: rest) S nc ns := by
  intro zA zp ze zs zm za zb zt zc zH zo zl zh zv zw
  obtain ⟨ha, rfl⟩ := ha
  obtain ⟨k0, hk0⟩ := jW_get g ha
  rw [cell_int g ha (by decide) (by decide)] at hk0
  refine va_iald (D := (g.1, g.2.1)) (cl := vwCl) zh.1 zh.2.1 zh.2.2.2.2.2.2.2.2.1 zv.1 k0 0 hk0 rfl (by rw [hi]; exact vp_in_nI hn hL) hdg ?_
  rw [hi, nI_clamp (by omega), hv]
  exact k zA zp ze zs zm za zb zt zc zH zo zl zh zv zw
theorem J_iast {a n N : Nat} {i x : Int32} (ha : aAt S 9 a N) (hi : i = nI n) (hn : n < N) (hL : N < 2 ^ 31) (hdg : decode me.2.1 pc = .ok (.iastore, 1)) (k : J l g me hgt mc ms Q (pc + 1) lv rest (uI S 9 a n x) nc ns) : J l g me hgt mc ms Q pc lv (.int x :: .int i :: .ref a :: rest) S nc ns := by
  intro zA zp ze zs zm za zb zt zc zH zo zl zh zv zw
  obtain ⟨ha, rfl⟩ := ha
  obtain ⟨k0, hk0⟩ := jW_get g ha
  have hk1 := hk0
  rw [cell_int g ha (by decide) (by decide)] at hk1
  refine va_iast (D := (g.1, g.2.1)) (cl := vwCl) zh.1 zh.2.1 zh.2.2.2.2.2.2.2.2.1 zv.1 zv.2.1 zv.2.2.1 k0 0 hk1 rfl (by rw [hi]; exact vp_in_nI hn hL) hdg ?_
  rw [hi, nI_clamp (by omega)]
  exact fun H1 locs1 h1 h2 h3 => k zA zp ze zs zm za zb zt zc H1 locs1 zl zh (jV_put zv ha.1 hk0 rfl (cell_uA g ha (by decide) (by decide)) h1 h2 h3) zw
theorem J_zald {a n N : Nat} {i v : Int32} (ha : aAt S 10 a N) (hi : i = nI n) (hn : n < N) (hL : N < 2 ^ 31) (hv : sI S 10 a n = v) (hdg : decode me.2.1 pc = .ok (.baload, 1)) (k : J l g me hgt mc ms Q (pc + 1) lv (.int v :: rest) S nc ns) : J l g me hgt mc ms Q pc lv (.int i :: .ref a :: rest) S nc ns := by
  intro zA zp ze zs zm za zb zt zc zH zo zl zh zv zw
  obtain ⟨ha, rfl⟩ := ha
  obtain ⟨k0, hk0⟩ := jW_get g ha
  rw [cell_int g ha (by decide) (by decide)] at hk0
  refine va_zald (D := (g.1, g.2.1)) (cl := vwCl) zh.1 zh.2.1 zh.2.2.2.2.2.2.2.2.1 zv.1 k0 1 hk0 rfl (by rw [hi]; exact vp_in_nI hn hL) hdg ?_
  rw [hi, nI_clamp (by omega), hv]
  exact k zA zp ze zs zm za zb zt zc zH zo zl zh zv zw
theorem J_zast {a n N : Nat} {i x : Int32} (ha : aAt S 10 a N) (hi : i = nI n) (hn : n < N) (hL : N < 2 ^ 31) (hx : vp_nar .boolean x = x) (hdg : decode me.2.1 pc = .ok (.bastore, 1)) (k : J l g me hgt mc ms Q (pc + 1) lv rest (uI S 10 a n x) nc ns) : J l g me hgt mc ms Q pc lv (.int x :: .int i :: .ref a :: rest) S nc ns := by
  intro zA zp ze zs zm za zb zt zc zH zo zl zh zv zw
  obtain ⟨ha, rfl⟩ := ha
  obtain ⟨k0, hk0⟩ := jW_get g ha
  have hk1 := hk0
  rw [cell_int g ha (by decide) (by decide)] at hk1
  refine va_zast (D := (g.1, g.2.1)) (cl := vwCl) zh.1 zh.2.1 zh.2.2.2.2.2.2.2.2.1 zv.1 zv.2.1 zv.2.2.1 k0 1 hk1 rfl (by rw [hi]; exact vp_in_nI hn hL) hdg ?_
  rw [hi, nI_clamp (by omega)]
  rw [hx]
  exact fun H1 locs1 h1 h2 h3 => k zA zp ze zs zm za zb zt zc H1 locs1 zl zh (jV_put zv ha.1 hk0 rfl (cell_uA g ha (by decide) (by decide)) h1 h2 h3) zw
theorem J_alenI {c a : Nat} {v : Int32} (ha : sAt S c a) (hc : c = 9 ∨ c = 10) (hv : nI (sN S a) = v) (hdg : decode me.2.1 pc = .ok (.arraylength, 1)) (k : J l g me hgt mc ms Q (pc + 1) lv (.int v :: rest) S nc ns) : J l g me hgt mc ms Q pc lv (.ref a :: rest) S nc ns := by
  intro zA zp ze zs zm za zb zt zc zH zo zl zh zv zw
  obtain ⟨k0, hk0⟩ := jW_get g ha
  rcases hc with rfl | rfl
  · rw [cell_int g ha (by decide) (by decide)] at hk0
    exact va_alen (D := (g.1, g.2.1)) (cl := vwCl) (ty := .int) zh.1 zh.2.1 zh.2.2.2.2.2.2.2.2.1 zv.1 k0 0 hk0 rfl hv hdg (k zA zp ze zs zm za zb zt zc zH zo zl zh zv zw)
  · rw [cell_int g ha (by decide) (by decide)] at hk0
    exact va_alen (D := (g.1, g.2.1)) (cl := vwCl) (ty := .boolean) zh.1 zh.2.1 zh.2.2.2.2.2.2.2.2.1 zv.1 k0 1 hk0 rfl hv hdg (k zA zp ze zs zm za zb zt zc zH zo zl zh zv zw)
theorem J_alenR {a : Nat} {v : Int32} (ha : sAt S 13 a) (hv : nI (sN S a) = v) (hdg : decode me.2.1 pc = .ok (.arraylength, 1)) (k : J l g me hgt mc ms Q (pc + 1) lv (.int v :: rest) S nc ns) : J l g me hgt mc ms Q pc lv (.ref a :: rest) S nc ns := by
  intro zA zp ze zs zm za zb zt zc zH zo zl zh zv zw
  obtain ⟨k0, hk0⟩ := jW_get g ha
  rw [cell_ref g ha (by decide)] at hk0
  exact va_alen (D := (g.1, g.2.1)) (cl := vwCl) (ty := .object RX7) zh.1 zh.2.1 zh.2.2.2.2.2.2.2.2.1 zv.1 k0 4 hk0 rfl hv hdg (k zA zp ze zs zm za zb zt zc zH zo zl zh zv zw)
theorem J_rald11 {a n N : Nat} {i : Int32} {v : Nat} (ha : aAt S 11 a N) (hi : i = nI n) (hn : n < N) (hL : N < 2 ^ 31) (hv : sP S 11 a n = some v) (hdg : decode me.2.1 pc = .ok (.aaload, 1)) (k : J l g me hgt mc ms Q (pc + 1) lv (.ref v :: rest) S nc ns) : J l g me hgt mc ms Q pc lv (.int i :: .ref a :: rest) S nc ns := by
  intro zA zp ze zs zm za zb zt zc zH zo zl zh zv zw
  obtain ⟨ha, rfl⟩ := ha
  obtain ⟨k0, hk0⟩ := jW_get g ha
  rw [cell_ref g ha (by decide)] at hk0
  refine va_aldq (D := (g.1, g.2.1)) (cl := vwCl) (C := RX3) zh.1 zh.2.1 zh.2.2.2.2.2.2.2.2.1 zv.1 k0 2 hk0 rfl (by rw [hi]; exact vp_in_nI hn hL) hdg ?_
  rw [hi, nI_clamp (by omega), hv]
  exact k zA zp ze zs zm za zb zt zc zH zo zl zh zv zw
theorem J_rast11 {a n v N : Nat} {i : Int32} (ha : aAt S 11 a N) (hi : i = nI n) (hn : n < N) (hL : N < 2 ^ 31) (hv : sAt S 2 v) (hdg : decode me.2.1 pc = .ok (.aastore, 1)) (k : J l g me hgt mc ms Q (pc + 1) lv rest (uP S 11 a n (some v)) nc ns) : J l g me hgt mc ms Q pc lv (.ref v :: .int i :: .ref a :: rest) S nc ns := by
  intro zA zp ze zs zm za zb zt zc zH zo zl zh zv zw
  obtain ⟨ha, rfl⟩ := ha
  obtain ⟨k0, hk0⟩ := jW_get g ha
  obtain ⟨k2, hk2⟩ := jW_get g hv
  have hk1 := hk0
  rw [cell_ref g ha (by decide)] at hk1
  rw [cell_obj g hv (by decide)] at hk2
  refine va_astq (D := (g.1, g.2.1)) (cl := vwCl) zh.1 zh.2.1 zh.2.2.2.2.2.2.2.2.1 zv.1 zv.2.1 zv.2.2.1 k0 2 k2 2 hk1 rfl hk2 rfl (by rw [hi]; exact vp_in_nI hn hL) hdg ?_
  rw [hi, nI_clamp (by omega)]
  exact fun H1 locs1 h1 h2 h3 => k zA zp ze zs zm za zb zt zc H1 locs1 zl zh (jV_put zv ha.1 hk0 rfl (cell_uR g ha (by decide)) h1 h2 h3) zw
theorem J_rald12 {a n N : Nat} {i : Int32} {v : Nat} (ha : aAt S 12 a N) (hi : i = nI n) (hn : n < N) (hL : N < 2 ^ 31) (hv : sP S 12 a n = some v) (hdg : decode me.2.1 pc = .ok (.aaload, 1)) (k : J l g me hgt mc ms Q (pc + 1) lv (.ref v :: rest) S nc ns) : J l g me hgt mc ms Q pc lv (.int i :: .ref a :: rest) S nc ns := by
  intro zA zp ze zs zm za zb zt zc zH zo zl zh zv zw
  obtain ⟨ha, rfl⟩ := ha
  obtain ⟨k0, hk0⟩ := jW_get g ha
  rw [cell_ref g ha (by decide)] at hk0
  refine va_aldq (D := (g.1, g.2.1)) (cl := vwCl) (C := RX4) zh.1 zh.2.1 zh.2.2.2.2.2.2.2.2.1 zv.1 k0 3 hk0 rfl (by rw [hi]; exact vp_in_nI hn hL) hdg ?_
  rw [hi, nI_clamp (by omega), hv]
  exact k zA zp ze zs zm za zb zt zc zH zo zl zh zv zw
theorem J_rast12 {a n v N : Nat} {i : Int32} (ha : aAt S 12 a N) (hi : i = nI n) (hn : n < N) (hL : N < 2 ^ 31) (hv : sAt S 3 v) (hdg : decode me.2.1 pc = .ok (.aastore, 1)) (k : J l g me hgt mc ms Q (pc + 1) lv rest (uP S 12 a n (some v)) nc ns) : J l g me hgt mc ms Q pc lv (.ref v :: .int i :: .ref a :: rest) S nc ns := by
  intro zA zp ze zs zm za zb zt zc zH zo zl zh zv zw
  obtain ⟨ha, rfl⟩ := ha
  obtain ⟨k0, hk0⟩ := jW_get g ha
  obtain ⟨k2, hk2⟩ := jW_get g hv
  have hk1 := hk0
  rw [cell_ref g ha (by decide)] at hk1
  rw [cell_obj g hv (by decide)] at hk2
  refine va_astq (D := (g.1, g.2.1)) (cl := vwCl) zh.1 zh.2.1 zh.2.2.2.2.2.2.2.2.1 zv.1 zv.2.1 zv.2.2.1 k0 3 k2 3 hk1 rfl hk2 rfl (by rw [hi]; exact vp_in_nI hn hL) hdg ?_
  rw [hi, nI_clamp (by omega)]
  exact fun H1 locs1 h1 h2 h3 => k zA zp ze zs zm za zb zt zc H1 locs1 zl zh (jV_put zv ha.1 hk0 rfl (cell_uR g ha (by decide)) h1 h2 h3) zw
theorem J_rald13 {a n N : Nat} {i : Int32} {v : Nat} (ha : aAt S 13 a N) (hi : i = nI n) (hn : n < N) (hL : N < 2 ^ 31) (hv : sP S 13 a n = some v) (hdg : decode me.2.1 pc = .ok (.aaload, 1)) (k : J l g me hgt mc ms Q (pc + 1) lv (.ref v :: rest) S nc ns) : J l g me hgt mc ms Q pc lv (.int i :: .ref a :: rest) S nc ns := by
  intro zA zp ze zs zm za zb zt zc zH zo zl zh zv zw
  obtain ⟨ha, rfl⟩ := ha
  obtain ⟨k0, hk0⟩ := jW_get g ha
  rw [cell_ref g ha (by decide)] at hk0
  refine va_aldq (D := (g.1, g.2.1)) (cl := vwCl) (C := RX7) zh.1 zh.2.1 zh.2.2.2.2.2.2.2.2.1 zv.1 k0 4 hk0 rfl (by rw [hi]; exact vp_in_nI hn hL) hdg ?_
  rw [hi, nI_clamp (by omega), hv]
  exact k zA zp ze zs zm za zb zt zc zH zo zl zh zv zw
theorem J_rast13 {a n v N : Nat} {i : Int32} (ha : aAt S 13 a N) (hi : i = nI n) (hn : n < N) (hL : N < 2 ^ 31) (hv : sAt S 5 v) (hdg : decode me.2.1 pc = .ok (.aastore, 1)) (k : J l g me hgt mc ms Q (pc + 1) lv rest (uP S 13 a n (some v)) nc ns) : J l g me hgt mc ms Q pc lv (.ref v :: .int i :: .ref a :: rest) S nc ns := by
  intro zA zp ze zs zm za zb zt zc zH zo zl zh zv zw
  obtain ⟨ha, rfl⟩ := ha
  obtain ⟨k0, hk0⟩ := jW_get g ha
  obtain ⟨k2, hk2⟩ := jW_get g hv
  have hk1 := hk0
  rw [cell_ref g ha (by decide)] at hk1
  rw [cell_obj g hv (by decide)] at hk2
  refine va_astq (D := (g.1, g.2.1)) (cl := vwCl) zh.1 zh.2.1 zh.2.2.2.2.2.2.2.2.1 zv.1 zv.2.1 zv.2.2.1 k0 4 k2 5 hk1 rfl hk2 rfl (by rw [hi]; exact vp_in_nI hn hL) hdg ?_
  rw [hi, nI_clamp (by omega)]
  exact fun H1 locs1 h1 h2 h3 => k zA zp ze zs zm za zb zt zc H1 locs1 zl zh (jV_put zv ha.1 hk0 rfl (cell_uR g ha (by decide)) h1 h2 h3) zw
end JL
