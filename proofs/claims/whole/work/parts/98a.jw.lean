/-! THE CLAIM OUT OF ONE WALK OF THE LAW'S BODY. Your part is whole_start (and what it stands on); all else here is the same for every law, but numbers. -/
def R_law : String := "GrantNetLaw"
def lw_P (b : Addr) (xs : List Int32) (args : Array Value) (s : State) : Prop := args = #[.ref b] ∧ s.IntsAt b xs ∧ xs.length ≤ 2560 ∧ (Jvm.Cond.and given_1 narrow_1).before args s = true
def lw_Q (_ : Array Value) (s : State) (o : Outcome) (t : State) : Prop := o = .returned (some (.int 1)) ∧ Framed s o t [] 601024 7293034
def lw_Z (below : List Frame) (a : Array Value) (s : State) : State → Prop := fun t => ∃ o, t.status = .running ∧ Ended t below o ∧ lw_Q a s o t
/-- the law's own end, with 1 on the stack, nothing written that was there before, its room as the claim has it -/
theorem lw_ret {p : Program} {l : Launch} {e : Env} {s : State} {m : MethodId} {below : List Frame} {meth : Method} {c : Code} {b : Nat} (hx : p.tables.exec = Jvm.exec) (hb : c.code = code) (hr : meth.sig.returnType = ret) (hlocks : meth.locks = false) {pc : Nat} {H : Heap} {ls : Array Slot} (hdg : decode code pc = .ok (.ireturn, 1)) : W p l e room_1 s m #[Value.ref b] below meth c H [] 601024 7293034 (lw_Z below #[Value.ref b] s) (F0 m pc ls [.int 1]) := by
  intro T hT X
  obtain ⟨fs, hret, hrun, hended, hW, hframe⟩ := X.leave (v := some (.int 1)) (hlocks := hlocks) (fun h => by rw [hr] at h; cases h)
  have hmeth' : T.vm.method? m = some meth := X.method'
  refine ⟨T.setFrames fs, ?_, .returned (some (.int 1)), hrun, hended, rfl, ⟨_, rfl⟩, hW, hframe⟩
  jvm_step X.here [X.here.top, hx, hb, hdg, hmeth', hr, ret, narrow_b1]
  (try refine ⟨rfl, ?_⟩); (try refine ⟨rfl, ?_⟩)
  first | (intro acts; rw [hret _ acts rfl rfl rfl]) | rw [hret _ _ rfl rfl rfl]
  exact Steps.refl _
/-- what holds at the law's entry: the machine, the code, the tables' words (any of lw_tbl by 'hts w (by decide +kernel)'), the script of L ints xs at the cell b, what the Statement gives of the start (any of its parts by flat_of_before) -/
def lw_At (p : Program) (s : State) (m : MethodId) (meth : Method) (c : Code) (b L : Nat) (xs : Nat → Int32) : Prop :=
  p.tables.exec = Jvm.exec ∧ c.code = code ∧ meth.sig.returnType = ret ∧ c.maxLocals = 7 ∧ s.vm.findClass R_law = some m.cls ∧ (∀ w ∈ lw_tbl, w.before #[Value.ref b] s = true) ∧ va_X b L xs s s.heap ∧ b < s.heap.size ∧ meth.locks = false ∧ (Jvm.Cond.and given_1 narrow_1).before #[Value.ref b] s = true
/-! THE LAW: two memories side by side, the class's and the reference's, and the row of one long -/
def jA0 (s : State) : Nat → Prop := fun q => s.heap.size ≤ q
theorem jW_mem {g : jG} {S : jS} {k : Nat} {q : Nat × va_E} (h : (jW g S)[k]? = some q) : q.1 ∈ S.1 := by
  have := List.mem_of_getElem? h
  obtain ⟨a, ha, rfl⟩ := List.mem_map.mp this
  exact ha
theorem jV.lt {g : jG} {A : Nat → Prop} {s : State} {S : jS} {H : Heap} {locs : List Loc} (h : jV g A s S H locs) {q : Nat} (hq : q ∈ S.1) : q < H.size := by
  obtain ⟨k, hk⟩ := va_pl_get (X := []) (f := cellOf g S) hq
  exact (h.1 k _ hk).lt
theorem j_call2 {l : Launch} {g : jG} {S : jS} {nc ns pc : Nat} {rest : List Value} {p : Program} {e : Env} {R : Room} {s : State} {m : MethodId} {args a : Array Value} {below : List Frame} {meth : Method} {c : Code} {H : Heap} {locs : List Loc} {mc' ms' : Nat} {ls : Array Slot} {st0 : List Value} {A : Nat → Prop} {Q' : Option Value → jS → Prop} {Qf : State → Prop}
    (hr : va_Run p l e R s m args below meth c H locs nc ns mc' ms' (F0 m pc ls st0) rest (jQc g (jA S H.size) Q' a) (jA S H.size)) (zv : jV g A s S H locs)
    (kk : ∀ (r : Option Value) (S' : jS) (H1 : Heap) (locs1 : List Loc), Q' r S' → jV g A s S' H1 locs1 → (∀ q : Nat, q < H.size → q ∉ S.1 → H1[q]? = H[q]?) → (∀ q, q ∈ S'.1 → q ∈ S.1 ∨ H.size ≤ q) → W p l e R s m args below meth c H1 locs1 (nc + mc') (ns + ms') Qf (F0 m (pc + 3) ls (r.toList ++ rest))) : W p l e R s m args below meth c H locs nc ns Qf (F0 m pc ls st0) := by
  have hA : ∀ q, jA S H.size q → A q := fun q h => h.elim (jD_in zv.2.1) (fun h => zv.2.2.2 q (Nat.le_trans zv.2.2.1.1 h))
  intro T hT X
  obtain ⟨v, st₀, t, T', L, h0, X', hL, e1, e2, ⟨⟨r, S', hv, hq, hP, hK, hD⟩, hz, hk⟩, st⟩ := hr T hT X
  cases hv
  rw [h0] at hz hk
  obtain ⟨t2, a1, b1⟩ := kk v S' T'.heap (locs ++ L) hq ⟨by rw [e1]; exact hP, hD.weaken (fun _ q _ h => hA q.1 h), ⟨Nat.le_trans zv.2.2.1.1 (by rw [e1]; exact hz), fun q h1 h2 => by rw [e1, hk q (Nat.lt_of_lt_of_le h1 zv.2.2.1.1) (fun z => h2 (hA q z))]; exact zv.2.2.1.2.1 q h1 h2, fun q hq => by
      rcases List.mem_append.mp hq with h | h
      · exact zv.2.2.1.2.2 q h
      · exact hA _ (hL q h)⟩, zv.2.2.2⟩ (fun q h1 h2 => by
      rw [e1]
      exact hk q h1 (fun z => by rcases z with z | z; (· exact h2 z); (· omega))) (fun q hq => jD_in hD hq) T' rfl X'
  exact ⟨t2, st t2 a1, b1⟩
/-- another memory stays -/
theorem jV.oth {g : jG} {A : Nat → Prop} {s : State} {S S0 : jS} {H H1 : Heap} {locs locs1 : List Loc} (h : jV g A s S H locs) (hS : va_S A s.heap H1 locs1) (hk : ∀ q : Nat, q < H.size → q ∉ S0.1 → H1[q]? = H[q]?) (hd : ∀ q, q ∈ S.1 → q ∉ S0.1) : jV g A s S H1 locs1 := ⟨h.1.kept (fun _ q hq => hk q.1 (h.lt (jW_mem hq)) (hd _ (jW_mem hq))), h.2.1, hS, h.2.2.2⟩
abbrev oC (dL : ClassId) (f : Nat → Int64) : va_E := .inl (dL, 1, .inr (.inl f))
def lV (g : jG) (s : State) (dL : ClassId) (Sx Sm : jS) (o : Nat) (f : Nat → Int64) (H : Heap) (locs : List Loc) : Prop :=
  jV g (jA0 s) s Sx H locs ∧ jV g (jA0 s) s Sm H locs ∧ (∀ q, q ∈ Sx.1 → q ∉ Sm.1) ∧ va_P (g.1, g.2.1) vwCl [(o, oC dL f)] H ∧ o ∉ Sx.1 ∧ o ∉ Sm.1 ∧ s.heap.size ≤ o
theorem oC_lt {g : jG} {dL : ClassId} {o : Nat} {f : Nat → Int64} {H : Heap} (h : va_P (g.1, g.2.1) vwCl [(o, oC dL f)] H) : o < H.size := (h 0 _ rfl).lt
theorem oC_kept {g : jG} {dL : ClassId} {o : Nat} {f : Nat → Int64} {H H1 : Heap} (h : va_P (g.1, g.2.1) vwCl [(o, oC dL f)] H) (hk : H1[o]? = H[o]?) : va_P (g.1, g.2.1) vwCl [(o, oC dL f)] H1 := h.kept (fun k q hq => by
  have hz : k < 1 := (List.getElem?_eq_some_iff.mp hq).1
  rw [show k = 0 by omega] at hq
  cases hq
  exact hk)
theorem lV.callX {g : jG} {s : State} {dL : ClassId} {Sx Sm S' : jS} {o : Nat} {f : Nat → Int64} {H H1 : Heap} {locs locs1 : List Loc} (h : lV g s dL Sx Sm o f H locs) (hV : jV g (jA0 s) s S' H1 locs1) (hk : ∀ q : Nat, q < H.size → q ∉ Sx.1 → H1[q]? = H[q]?) (hi : ∀ q, q ∈ S'.1 → q ∈ Sx.1 ∨ H.size ≤ q) : lV g s dL S' Sm o f H1 locs1 := by
  obtain ⟨h1, h2, h3, h4, h5, h6, h7⟩ := h
  have ho := oC_lt h4
  refine ⟨hV, h2.oth hV.2.2.1 hk (fun q hq z => h3 q z hq), fun q hq => ?_, oC_kept h4 (hk o ho h5), fun z => ?_, h6, h7⟩
  · rcases hi q hq with z | z
    · exact h3 q z
    · exact fun u => by have := h2.lt u; omega
  · rcases hi o z with u | u
    · exact h5 u
    · omega
theorem lV.callM {g : jG} {s : State} {dL : ClassId} {Sx Sm S' : jS} {o : Nat} {f : Nat → Int64} {H H1 : Heap} {locs locs1 : List Loc} (h : lV g s dL Sx Sm o f H locs) (hV : jV g (jA0 s) s S' H1 locs1) (hk : ∀ q : Nat, q < H.size → q ∉ Sm.1 → H1[q]? = H[q]?) (hi : ∀ q, q ∈ S'.1 → q ∈ Sm.1 ∨ H.size ≤ q) : lV g s dL Sx S' o f H1 locs1 := by
  obtain ⟨h1, h2, h3, h4, h5, h6, h7⟩ := h
  have ho := oC_lt h4
  refine ⟨h1.oth hV.2.2.1 hk h3, hV, fun q hq z => ?_, oC_kept h4 (hk o ho h6), h5, fun z => ?_, h7⟩
  · rcases hi q z with u | u
    · exact h3 q hq u
    · have := h1.lt hq
      omega
  · rcases hi o z with u | u
    · exact h6 u
    · omega
abbrev lZ : Type := Program × Env × State × MethodId × List Frame × Method × Code × jG × Nat × ClassId × Nat
abbrev zP (Z : lZ) : Program := Z.1
abbrev zE (Z : lZ) : Env := Z.2.1
abbrev zS (Z : lZ) : State := Z.2.2.1
abbrev zM (Z : lZ) : MethodId := Z.2.2.2.1
abbrev zB (Z : lZ) : List Frame := Z.2.2.2.2.1
abbrev zT (Z : lZ) : Method := Z.2.2.2.2.2.1
abbrev zC (Z : lZ) : Code := Z.2.2.2.2.2.2.1
abbrev zG (Z : lZ) : jG := Z.2.2.2.2.2.2.2.1
abbrev zR (Z : lZ) : Nat := Z.2.2.2.2.2.2.2.2.1
abbrev zD (Z : lZ) : ClassId := Z.2.2.2.2.2.2.2.2.2.1
abbrev zO (Z : lZ) : Nat := Z.2.2.2.2.2.2.2.2.2.2
def lC (Z : lZ) (L : Nat) (xs : Nat → Int32) : Prop := (zP Z).tables.exec = Jvm.exec ∧ (zC Z).code = code ∧ (zT Z).sig.returnType = ret ∧ (zC Z).maxLocals = 7 ∧ (zT Z).locks = false ∧ (zS Z).vm.findClass RL = some (zM Z).cls ∧ (∀ w ∈ T0, w.before #[Value.ref (zR Z)] (zS Z) = true) ∧ jK (zG Z) (zS Z) ∧ va_X (zR Z) L xs (zS Z) (zS Z).heap ∧ zR Z < (zS Z).heap.size ∧ va_K ((zG Z).1, (zG Z).2.1) vwCl [(zD Z, .long)] (zS Z)
def JW (l : Launch) (Z : lZ) (pc : Nat) (lv : List (Nat × Value)) (st : List Value) (Sx Sm : jS) (f : Nat → Int64) (nc ns : Nat) : Prop := ∀ (H : Heap) (locs : List Loc) (ls : Array Slot), lV (zG Z) (zS Z) (zD Z) Sx Sm (zO Z) f H locs → lv_has ls 7 lv → W (zP Z) l (zE Z) room_1 (zS Z) (zM Z) #[Value.ref (zR Z)] (zB Z) (zT Z) (zC Z) H locs nc ns (lw_Z (zB Z) #[Value.ref (zR Z)] (zS Z)) (F0 (zM Z) pc ls st)
section JWL
variable {l : Launch} {Z : lZ} {L : Nat} {xs : Nat → Int32} {pc : Nat} {lv : List (Nat × Value)} {rest : List Value} {Sx Sm : jS} {f : Nat → Int64} {nc ns : Nat}
theorem JW_iconst (C : lC Z L xs) {n : Int} {v : Int32} (hdg : decode code pc = .ok (.iconst n, 1)) (hv : Int32.ofInt n = v) (k : JW l Z (pc + 1) lv (.int v :: rest) Sx Sm f nc ns) : JW l Z pc lv (rest) Sx Sm f nc ns := fun zH zo zl zv zw => lv_iconst C.1 C.2.1 hdg hv (k zH zo zl zv zw)
theorem JW_bipush (C : lC Z L xs) {n : Int} {v : Int32} (hdg : decode code pc = .ok (.bipush n, 2)) (hv : (Int8.ofInt n).toInt32 = v) (k : JW l Z (pc + 2) lv (.int v :: rest) Sx Sm f nc ns) : JW l Z pc lv (rest) Sx Sm f nc ns := fun zH zo zl zv zw => lv_bipush C.1 C.2.1 hdg hv (k zH zo zl zv zw)
theorem JW_iadd (C : lC Z L xs) {x y : Int32} (hdg : decode code pc = .ok (.iadd, 1)) (k : JW l Z (pc + 1) lv (.int (x + y) :: rest) Sx Sm f nc ns) : JW l Z pc lv (.int y :: .int x :: rest) Sx Sm f nc ns := fun zH zo zl zv zw => lv_iadd C.1 C.2.1 hdg (k zH zo zl zv zw)
theorem JW_isub (C : lC Z L xs) {x y : Int32} (hdg : decode code pc = .ok (.isub, 1)) (k : JW l Z (pc + 1) lv (.int (x - y) :: rest) Sx Sm f nc ns) : JW l Z pc lv (.int y :: .int x :: rest) Sx Sm f nc ns := fun zH zo zl zv zw => lv_isub C.1 C.2.1 hdg (k zH zo zl zv zw)
theorem JW_iand (C : lC Z L xs) {x y : Int32} (hdg : decode code pc = .ok (.iand, 1)) (k : JW l Z (pc + 1) lv (.int (x &&& y) :: rest) Sx Sm f nc ns) : JW l Z pc lv (.int y :: .int x :: rest) Sx Sm f nc ns := fun zH zo zl zv zw => lv_iand C.1 C.2.1 hdg (k zH zo zl zv zw)
theorem JW_i2l (C : lC Z L xs) {x : Int32} {v : Int64} (hdg : decode code pc = .ok (.i2l, 1)) (hv : x.toInt64 = v) (k : JW l Z (pc + 1) lv (.long v :: rest) Sx Sm f nc ns) : JW l Z pc lv (.int x :: rest) Sx Sm f nc ns := fun zH zo zl zv zw => lv_i2l C.1 C.2.1 hdg hv (k zH zo zl zv zw)
theorem JW_dup (C : lC Z L xs) {va : Value} (hdg : decode code pc = .ok (.dup, 1)) (hva : va.category = 1) (k : JW l Z (pc + 1) lv (va :: va :: rest) Sx Sm f nc ns) : JW l Z pc lv (va :: rest) Sx Sm f nc ns := fun zH zo zl zv zw => lv_dup C.1 C.2.1 hdg hva (k zH zo zl zv zw)
theorem JW_if_eq (C : lC Z L xs) {x : Int32} {off : Int} {tgt : Nat} (hdg : decode code pc = .ok (.ifCond .eq off, 3)) (ht : (pc : Int) + off = (tgt : Int)) (kt : x = 0 → JW l Z tgt lv rest Sx Sm f nc ns) (kf : ¬ x = 0 → JW l Z (pc + 3) lv rest Sx Sm f nc ns) : JW l Z pc lv (.int x :: rest) Sx Sm f nc ns := fun zH zo zl zv zw => lv_if_eq C.1 C.2.1 hdg ht (fun z => kt z zH zo zl zv zw) (fun z => kf z zH zo zl zv zw)
theorem JW_if_ne (C : lC Z L xs) {x : Int32} {off : Int} {tgt : Nat} (hdg : decode code pc = .ok (.ifCond .ne off, 3)) (ht : (pc : Int) + off = (tgt : Int)) (kt : ¬ x = 0 → JW l Z tgt lv rest Sx Sm f nc ns) (kf : x = 0 → JW l Z (pc + 3) lv rest Sx Sm f nc ns) : JW l Z pc lv (.int x :: rest) Sx Sm f nc ns := fun zH zo zl zv zw => lv_if_ne C.1 C.2.1 hdg ht (fun z => kt z zH zo zl zv zw) (fun z => kf z zH zo zl zv zw)
theorem JW_icmp_eq (C : lC Z L xs) {x y : Int32} {off : Int} {tgt : Nat} (hdg : decode code pc = .ok (.if_icmp .eq off, 3)) (ht : (pc : Int) + off = (tgt : Int)) (kt : x = y → JW l Z tgt lv rest Sx Sm f nc ns) (kf : ¬ x = y → JW l Z (pc + 3) lv rest Sx Sm f nc ns) : JW l Z pc lv (.int y :: .int x :: rest) Sx Sm f nc ns := fun zH zo zl zv zw => lv_icmp_eq C.1 C.2.1 hdg ht (fun z => kt z zH zo zl zv zw) (fun z => kf z zH zo zl zv zw)
theorem JW_icmp_gt (C : lC Z L xs) {x y : Int32} {off : Int} {tgt : Nat} (hdg : decode code pc = .ok (.if_icmp .gt off, 3)) (ht : (pc : Int) + off = (tgt : Int)) (kt : y < x → JW l Z tgt lv rest Sx Sm f nc ns) (kf : ¬ y < x → JW l Z (pc + 3) lv rest Sx Sm f nc ns) : JW l Z pc lv (.int y :: .int x :: rest) Sx Sm f nc ns := fun zH zo zl zv zw => lv_icmp_gt C.1 C.2.1 hdg ht (fun z => kt z zH zo zl zv zw) (fun z => kf z zH zo zl zv zw)
theorem JW_goto (C : lC Z L xs) {off : Int} {tgt : Nat} (hdg : decode code pc = .ok (.goto off, 3)) (ht : (pc : Int) + off = (tgt : Int)) (k : JW l Z tgt lv rest Sx Sm f nc ns) : JW l Z pc lv rest Sx Sm f nc ns := fun zH zo zl zv zw => lv_goto C.1 C.2.1 hdg ht (k zH zo zl zv zw)
theorem JW_tableIn (C : lC Z L xs) {dflt lo hi : Int} {offs : Array Int} {len : Nat} {x : Int32} {off : Int} {tgt : Nat} (hdg : decode code pc = .ok (.tableswitch dflt lo hi offs, len)) (h1 : ¬ x.toInt < lo) (h2 : ¬ hi < x.toInt) (ho : offs[(x.toInt - lo).toNat]? = some off) (ht : (pc : Int) + off = (tgt : Int)) (k : JW l Z tgt lv rest Sx Sm f nc ns) : JW l Z pc lv (.int x :: rest) Sx Sm f nc ns := fun zH zo zl zv zw => lv_tableIn C.1 C.2.1 hdg h1 h2 ho ht (k zH zo zl zv zw)
theorem JW_tableOut (C : lC Z L xs) {dflt lo hi : Int} {offs : Array Int} {len : Nat} {x : Int32} {tgt : Nat} (hdg : decode code pc = .ok (.tableswitch dflt lo hi offs, len)) (h : x.toInt < lo ∨ hi < x.toInt) (ht : (pc : Int) + dflt = (tgt : Int)) (k : JW l Z tgt lv rest Sx Sm f nc ns) : JW l Z pc lv (.int x :: rest) Sx Sm f nc ns := fun zH zo zl zv zw => lv_tableOut C.1 C.2.1 hdg h ht (k zH zo zl zv zw)
theorem JW_iload (C : lC Z L xs) {i : Nat} {x : Int32} (hdg : decode code pc = .ok (.iload i, 2)) (hlv : lv.lookup i = some (.int x)) (k : JW l Z (pc + 2) lv (.int x :: rest) Sx Sm f nc ns) : JW l Z pc lv rest Sx Sm f nc ns := fun zH zo zl zv zw => lv_iload C.1 C.2.1 hdg (lv_lk zw hlv) (k zH zo zl zv zw)
theorem JW_istore (C : lC Z L xs) {i : Nat} {x : Int32} (hdg : decode code pc = .ok (.istore i, 2)) (hn : i < 7) (k : JW l Z (pc + 2) (st1 lv i (.int x)) rest Sx Sm f nc ns) : JW l Z pc lv (.int x :: rest) Sx Sm f nc ns := fun zH zo zl zv zw => lv_istore C.1 C.2.1 hdg zw hn rfl (fun zl' zw' => k zH zo zl' zv zw')
theorem JW_aload_n (C : lC Z L xs) {k : Fin 4} {i : Nat} {x : Nat} (hdg : decode code pc = .ok (.aload_n k, 1)) (hi : (k : Nat) = i) (hlv : lv.lookup i = some (.ref x)) (k : JW l Z (pc + 1) lv (.ref x :: rest) Sx Sm f nc ns) : JW l Z pc lv rest Sx Sm f nc ns := fun zH zo zl zv zw => lv_aload_n C.1 C.2.1 hdg hi (lv_lk zw hlv) (k zH zo zl zv zw)
theorem JW_astore_n (C : lC Z L xs) {k : Fin 4} {i : Nat} {x : Nat} (hdg : decode code pc = .ok (.astore_n k, 1)) (hi : (k : Nat) = i) (hn : i < 7) (k : JW l Z (pc + 1) (st1 lv i (.ref x)) rest Sx Sm f nc ns) : JW l Z pc lv (.ref x :: rest) Sx Sm f nc ns := fun zH zo zl zv zw => lv_astore_n C.1 C.2.1 hdg hi zw hn rfl (fun zl' zw' => k zH zo zl' zv zw')
theorem JW_iinc (C : lC Z L xs) {i : Nat} {n : Int} {x v : Int32} (hdg : decode code pc = .ok (.iinc i n, 3)) (hlv : lv.lookup i = some (.int x)) (hv : x + Int32.ofInt n = v) (hn : i < 7) (k : JW l Z (pc + 3) (st1 lv i (.int v)) rest Sx Sm f nc ns) : JW l Z pc lv rest Sx Sm f nc ns := by
  intro zH zo zl zv zw
  obtain ⟨k0, hk0⟩ := List.getElem?_of_mem (mem_lookup hlv)
  exact lv_iinc C.1 C.2.1 hdg zw hk0 hv hn rfl (fun zl' zw' => k zH zo zl' zv zw')
theorem JW_lcmp (C : lC Z L xs) {x y : Int64} (hdg : decode code pc = .ok (.lcmp, 1)) (k : JW l Z (pc + 1) lv (.int (lg_cmp x y) :: rest) Sx Sm f nc ns) : JW l Z pc lv (.long y :: .long x :: rest) Sx Sm f nc ns := fun zH zo zl zv zw => W.lcmp C.1 C.2.1 hdg (k zH zo zl zv zw)
theorem JW_lv {lv' : List (Nat × Value)} {st : List Value} (k : JW l Z pc lv' st Sx Sm f nc ns) (h : lvIn lv lv') : JW l Z pc lv st Sx Sm f nc ns := fun zH zo zl zv zw => k zH zo zl zv ⟨zw.1, zw.2.1, fun q hq => zw.2.2 q (lvIn_mem h q hq)⟩
theorem JW_widen {nc' ns' : Nat} {st : List Value} (h1 : nc ≤ nc') (h2 : ns ≤ ns') (k : JW l Z pc lv st Sx Sm f nc' ns') : JW l Z pc lv st Sx Sm f nc ns := fun zH zo zl zv zw => W.widen h1 h2 (k zH zo zl zv zw)
theorem zB_not (C : lC Z L xs) : ¬ jA0 (zS Z) (zR Z) := Nat.not_le.mpr C.2.2.2.2.2.2.2.2.2.1
/-- a number of the script -/
theorem JW_sld (C : lC Z L xs) {i : Nat} (hi : i < L) (hL : L < 2 ^ 31) (hdg : decode code pc = .ok (.iaload, 1)) (k : JW l Z (pc + 1) lv (.int (xs i) :: rest) Sx Sm f nc ns) : JW l Z pc lv (.int (nI i) :: .ref (zR Z) :: rest) Sx Sm f nc ns := fun zH zo zl zv zw => va_sld C.1 C.2.1 C.2.2.2.2.2.2.2.2.1 C.2.2.2.2.2.2.2.2.2.1 (zB_not C) zv.1.2.2.1 (vp_in_nI hi hL) hdg (by
  rw [show (nI i).toNatClampNeg = i from nI_clamp (by omega)]
  exact k zH zo zl zv zw)
theorem JW_slen (C : lC Z L xs) (hdg : decode code pc = .ok (.arraylength, 1)) (k : JW l Z (pc + 1) lv (.int (nI L) :: rest) Sx Sm f nc ns) : JW l Z pc lv (.ref (zR Z) :: rest) Sx Sm f nc ns := fun zH zo zl zv zw => va_slen C.1 C.2.1 C.2.2.2.2.2.2.2.2.1 C.2.2.2.2.2.2.2.2.2.1 (zB_not C) zv.1.2.2.1 hdg (k zH zo zl zv zw)
theorem JW_lald (C : lC Z L xs) (hdg : decode code pc = .ok (.laload, 1)) (k : JW l Z (pc + 1) lv (.long (f 0) :: rest) Sx Sm f nc ns) : JW l Z pc lv (.int (nI 0) :: .ref (zO Z) :: rest) Sx Sm f nc ns := fun zH zo zl zv zw => va_lald C.1 C.2.1 C.2.2.2.2.2.2.2.2.2.2 zv.2.2.2.1 0 0 rfl rfl (vp_in_nI (by decide) (by decide)) hdg (k zH zo zl zv zw)
theorem JW_ret (C : lC Z L xs) (hdg : decode code pc = .ok (.ireturn, 1)) (hc : nc ≤ 601024) (hs : ns ≤ 7293034) : JW l Z pc lv [.int 1] Sx Sm f nc ns := fun zH zo zl zv zw => by
  refine va_forget (fun q hq => zv.1.2.2.1.2.2 q hq) ?_
  refine W.widen hc hs ?_
  exact lw_ret C.1 C.2.1 C.2.2.1 C.2.2.2.2.1 hdg
theorem JW_callX (C : lC Z L xs) {me' : jM} {n mc' ms' idx : Nat} {Q' : Option Value → jS → Prop} {As st0 : List Value} {b c : Nat} {R : String} {T : u_T} (hM : CT l (zG Z) me' 10 mc' ms' (.ref b :: As) Sx Q') (hq : jMs me' n) (hv : jMv me') (hC : jCl c R T) (hR : me'.1.cls = R) (hb : sAt Sx c b) (hw : Cond.methodLink RL idx me'.1 ∈ T0) (hdg : decode code pc = .ok (.invokevirtual idx, 3)) (hn : As.length = n) (hst : st0 = As.reverse ++ .ref b :: rest) (hrm : (rest.map fun v => v.category).sum ≤ 8) (hc : nc + mc' ≤ 601024) (hs : ns + ms' ≤ 7293034) (k : ∀ (r : Option Value) (S' : jS), Q' r S' → JW l Z (pc + 3) lv (r.toList ++ rest) S' Sm f (nc + mc') (ns + ms')) : JW l Z pc lv st0 Sx Sm f nc ns := by
  intro zH zo zl zv zw
  subst hst
  subst hR
  have hts := C.2.2.2.2.2.2.1
  have hK := C.2.2.2.2.2.2.2.1
  obtain ⟨k0, hk0⟩ := jW_get (zG Z) hb
  rw [cell_obj (zG Z) hb hC.1] at hk0
  have hG : GoodIn T0 (wsV RL idx me'.1.cls me'.1 (Cond.code me'.1 me'.2.1 me'.2.2.1 me'.2.2.2 :: T0)) := t0_goodIn (fun w h => by
    rcases List.mem_append.mp h with h | h
    · simp only [List.mem_cons, List.not_mem_nil, or_false] at h
      rcases h with rfl | rfl | rfl | rfl
      · exact hw
      · exact hv.1
      · exact hv.2
      · exact hq.2.1
    · rcases List.mem_cons.mp h with rfl | h
      · exact hq.1
      · exact h)
  refine j_call2 (rest := rest) (va_runV (As := As) (rest := rest) (b := b) (C := me'.1.cls) ⟨C.1, C.2.1, C.2.2.2.1, C.2.2.2.2.2.1, hts⟩ (hM zH.size) (cwV n hts hG rfl rfl rfl ⟨rfl, hq.2.2.1⟩ ⟨(by decide : 10 + 1 ≤ 11), by show 8 + (me'.2.2.1 + 11) + 36 * 10 ≤ 398; have := hq.2.2.2.1; omega⟩) ⟨j_blind, va_recv hK.1 zv.1.1 hC.2.1 hk0, fun U hU hW => ⟨rfl, by rw [hU], by rw [hU]; exact zv.1.1, jK.warm hW hK, zv.1.2.1.weaken (fun _ _ _ _ => trivial)⟩⟩ rfl hn zw.1 rfl (lv_room hrm) hdg ⟨hc, hs⟩) zv.1 ?_
  exact fun r S' H1 locs1 hQ hV hk hi => k r S' hQ H1 locs1 zl (zv.callX hV hk hi) zw
theorem JW_callM (C : lC Z L xs) {me' : jM} {n mc' ms' idx : Nat} {Q' : Option Value → jS → Prop} {As st0 : List Value} {b c : Nat} {R : String} {T : u_T} (hM : CT l (zG Z) me' 10 mc' ms' (.ref b :: As) Sm Q') (hq : jMs me' n) (hv : jMv me') (hC : jCl c R T) (hR : me'.1.cls = R) (hb : sAt Sm c b) (hw : Cond.methodLink RL idx me'.1 ∈ T0) (hdg : decode code pc = .ok (.invokevirtual idx, 3)) (hn : As.length = n) (hst : st0 = As.reverse ++ .ref b :: rest) (hrm : (rest.map fun v => v.category).sum ≤ 8) (hc : nc + mc' ≤ 601024) (hs : ns + ms' ≤ 7293034) (k : ∀ (r : Option Value) (S' : jS), Q' r S' → JW l Z (pc + 3) lv (r.toList ++ rest) Sx S' f (nc + mc') (ns + ms')) : JW l Z pc lv st0 Sx Sm f nc ns := by
  intro zH zo zl zv zw
  subst hst
  subst hR
  have hts := C.2.2.2.2.2.2.1
  have hK := C.2.2.2.2.2.2.2.1
  obtain ⟨k0, hk0⟩ := jW_get (zG Z) hb
  rw [cell_obj (zG Z) hb hC.1] at hk0
  have hG : GoodIn T0 (wsV RL idx me'.1.cls me'.1 (Cond.code me'.1 me'.2.1 me'.2.2.1 me'.2.2.2 :: T0)) := t0_goodIn (fun w h => by
    rcases List.mem_append.mp h with h | h
    · simp only [List.mem_cons, List.not_mem_nil, or_false] at h
      rcases h with rfl | rfl | rfl | rfl
      · exact hw
      · exact hv.1
      · exact hv.2
      · exact hq.2.1
    · rcases List.mem_cons.mp h with rfl | h
      · exact hq.1
      · exact h)
  refine j_call2 (rest := rest) (va_runV (As := As) (rest := rest) (b := b) (C := me'.1.cls) ⟨C.1, C.2.1, C.2.2.2.1, C.2.2.2.2.2.1, hts⟩ (hM zH.size) (cwV n hts hG rfl rfl rfl ⟨rfl, hq.2.2.1⟩ ⟨(by decide : 10 + 1 ≤ 11), by show 8 + (me'.2.2.1 + 11) + 36 * 10 ≤ 398; have := hq.2.2.2.1; omega⟩) ⟨j_blind, va_recv hK.1 zv.2.1.1 hC.2.1 hk0, fun U hU hW => ⟨rfl, by rw [hU], by rw [hU]; exact zv.2.1.1, jK.warm hW hK, zv.2.1.2.1.weaken (fun _ _ _ _ => trivial)⟩⟩ rfl hn zw.1 rfl (lv_room hrm) hdg ⟨hc, hs⟩) zv.2.1 ?_
  exact fun r S' H1 locs1 hQ hV hk hi => k r S' hQ H1 locs1 zl (zv.callM hV hk hi) zw
/-- the script's number at i + k goes onto the stack: five instructions -/
theorem JW_arg (C : lC Z L xs) {i j : Nat} (hi : i + j < L) (hL : L < 2 ^ 30) (h0 : lv.lookup 0 = some (.ref (zR Z))) (h4 : lv.lookup 4 = some (.int (nI i))) {n : Int} (hn : Int32.ofInt n = nI j) (d0 : decode code pc = .ok (.aload_n 0, 1)) (d1 : decode code (pc + 1) = .ok (.iload 4, 2)) (d3 : decode code (pc + 3) = .ok (.iconst n, 1)) (d4 : decode code (pc + 4) = .ok (.iadd, 1)) (d5 : decode code (pc + 5) = .ok (.iaload, 1)) (k : JW l Z (pc + 6) lv (.int (xs (i + j)) :: rest) Sx Sm f nc ns) : JW l Z pc lv rest Sx Sm f nc ns := by
  refine JW_aload_n C (i := 0) d0 rfl h0 ?_
  refine JW_iload C (pc := pc + 1) d1 h4 ?_
  refine JW_iconst C (pc := pc + 3) d3 hn ?_
  refine JW_iadd C (pc := pc + 4) d4 ?_
  rw [nI_add]
  exact JW_sld C (pc := pc + 5) hi (by omega) d5 k
end JWL
