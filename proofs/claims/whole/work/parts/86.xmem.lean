/-! THE CLASS: making objects. same: an object is as it was; ext: memory grows, and of the old objects only b changes; isA: an object and all that it holds -/
def same (S S' : jS) (a : Nat) : Prop := S'.2.1 a = S.2.1 a ∧ (∀ c k, sI S' c a k = sI S c a k) ∧ (∀ c k, sJ S' c a k = sJ S c a k) ∧ (∀ c k, sP S' c a k = sP S c a k) ∧ sN S' a = sN S a
def ext (S S' : jS) (b : Nat) : Prop := (∀ a, a ∈ S.1 → a ∈ S'.1) ∧ S'.2.1 b = S.2.1 b ∧ ∀ a, a ∈ S.1 → a ≠ b → same S S' a
def isA (S : jS) (c a n : Nat) (f : Nat → Int32) (p : Nat → Option Nat) : Prop := a ∈ S.1 ∧ S.2.1 a = c ∧ sN S a = n ∧ (∀ k, sI S c a k = f k) ∧ ∀ k, sP S c a k = p k
theorem isA.at {S : jS} {c a n : Nat} {f : Nat → Int32} {p : Nat → Option Nat} (h : isA S c a n f p) : sAt S c a := ⟨h.1, h.2.1⟩
theorem isA.ar {S : jS} {c a n : Nat} {f : Nat → Int32} {p : Nat → Option Nat} (h : isA S c a n f p) : aAt S c a n := ⟨h.at, h.2.2.1⟩
theorem same.rfl (S : jS) (a : Nat) : same S S a := ⟨Eq.refl _, fun _ _ => Eq.refl _, fun _ _ => Eq.refl _, fun _ _ => Eq.refl _, Eq.refl _⟩
theorem same.trans {S S' S'' : jS} {a : Nat} (h : same S S' a) (h' : same S' S'' a) : same S S'' a := ⟨h'.1.trans h.1, fun c k => (h'.2.1 c k).trans (h.2.1 c k), fun c k => (h'.2.2.1 c k).trans (h.2.2.1 c k), fun c k => (h'.2.2.2.1 c k).trans (h.2.2.2.1 c k), h'.2.2.2.2.trans h.2.2.2.2⟩
theorem ext.refl (S : jS) (b : Nat) : ext S S b := ⟨fun _ h => h, Eq.refl _, fun a _ _ => same.rfl S a⟩
theorem ext.tr {S S' S'' : jS} {b : Nat} (h : ext S S' b) (h' : ext S' S'' b) : ext S S'' b := ⟨fun a z => h'.1 a (h.1 a z), h'.2.1.trans h.2.1, fun a z n => (h.2.2 a z n).trans (h'.2.2 a (h.1 a z) n)⟩
theorem ext_uI (S : jS) (c b k : Nat) (v : Int32) : ext S (uI S c b k v) b := ⟨fun _ h => h, Eq.refl _, fun a _ n => ⟨Eq.refl _, fun c' k' => (by rw [sI_uI, if_neg (fun z => n z.2.1)]), fun _ _ => Eq.refl _, fun _ _ => Eq.refl _, Eq.refl _⟩⟩
theorem ext_uJ (S : jS) (c b k : Nat) (v : Int64) : ext S (uJ S c b k v) b := ⟨fun _ h => h, Eq.refl _, fun a _ n => ⟨Eq.refl _, fun _ _ => Eq.refl _, fun c' k' => (by rw [sJ_uJ, if_neg (fun z => n z.2.1)]), fun _ _ => Eq.refl _, Eq.refl _⟩⟩
theorem ext_uP (S : jS) (c b k : Nat) (v : Option Nat) : ext S (uP S c b k v) b := ⟨fun _ h => h, Eq.refl _, fun a _ n => ⟨Eq.refl _, fun _ _ => Eq.refl _, fun _ _ => Eq.refl _, fun c' k' => (by rw [sP_uP, if_neg (fun z => n z.2.1)]), Eq.refl _⟩⟩
theorem same_new {S : jS} {q c n a : Nat} (h : a ≠ q) : same S (nX S q c n) a := ⟨va_up_ne _ _ h, fun c' k' => (by rw [sI_new, if_neg (fun z => h z.2)]), fun c' k' => (by rw [sJ_new, if_neg (fun z => h z.2)]), fun c' k' => (by rw [sP_new, if_neg (fun z => h z.2)]), va_up_ne _ _ h⟩
theorem ext_new {S : jS} {q c n b : Nat} (hq : q ∉ S.1) (hb : b ∈ S.1) : ext S (nX S q c n) b := ⟨fun _ h => List.mem_append_left _ h, va_up_ne _ _ (fun e => hq (e ▸ hb)), fun a h _ => same_new (fun e => hq (e ▸ h))⟩
/-- a new object q may change -/
theorem ext.sub {S S' S'' : jS} {b q : Nat} (h : ext S S' b) (hb : b ∈ S.1) (hq : q ∉ S.1) (h' : ext S' S'' q) : ext S S'' b := by
  refine ⟨fun a z => h'.1 a (h.1 a z), ?_, fun a z n => (h.2.2 a z n).trans (h'.2.2 a (h.1 a z) (fun e => hq (e ▸ z)))⟩
  rw [(h'.2.2 b (h.1 b hb) (fun e => hq (e ▸ hb))).1]
  exact h.2.1
theorem isA.same {S S' : jS} {c a n : Nat} {f : Nat → Int32} {p : Nat → Option Nat} (h : isA S c a n f p) (hm : a ∈ S'.1) (hs : same S S' a) : isA S' c a n f p := ⟨hm, hs.1.trans h.2.1, hs.2.2.2.2.trans h.2.2.1, fun k => (hs.2.1 c k).trans (h.2.2.2.1 k), fun k => (hs.2.2.2.1 c k).trans (h.2.2.2.2 k)⟩
theorem isA.keep {S S' : jS} {c a n b : Nat} {f : Nat → Int32} {p : Nat → Option Nat} (h : isA S c a n f p) (E : ext S S' b) (hne : a ≠ b) : isA S' c a n f p := h.same (E.1 a h.1) (E.2.2 a h.1 hne)
theorem isA.nw {S : jS} {c a n q c' n' : Nat} {f : Nat → Int32} {p : Nat → Option Nat} (h : isA S c a n f p) (hq : q ∉ S.1) : isA (nX S q c' n') c a n f p := h.same (List.mem_append_left _ h.1) (same_new (fun e => hq (e ▸ h.1)))
theorem isA_new {S : jS} {q c n : Nat} (hq : q ∉ S.1) : isA (nX S q c n) c q n (fun _ => 0) (fun _ => none) := ⟨List.mem_append_right _ List.mem_cons_self, va_up_self _ _ _, va_up_self _ _ _, fun k => (by rw [sI_new, if_pos ⟨rfl, rfl⟩]), fun k => (by rw [sP_new, if_pos ⟨rfl, rfl⟩])⟩
theorem isA.wI {S : jS} {c b n : Nat} {f : Nat → Int32} {p : Nat → Option Nat} (h : isA S c b n f p) (k : Nat) (v : Int32) : isA (uI S c b k v) c b n (fun j => if j = k then v else f j) p := by
  refine ⟨h.1, h.2.1, h.2.2.1, fun j => ?_, h.2.2.2.2⟩
  rw [sI_uI]
  dsimp only
  by_cases e : j = k
  · rw [if_pos ⟨rfl, rfl, e⟩, if_pos e]
  · rw [if_neg (fun z => e z.2.2), if_neg e]
    exact h.2.2.2.1 j
theorem isA.w0 {S : jS} {c b n : Nat} {p : Nat → Option Nat} (h : isA S c b n (fun _ => 0) p) (k : Nat) : isA (uI S c b k (nI 0)) c b n (fun _ => 0) p := by
  have := h.wI k (nI 0)
  refine ⟨this.1, this.2.1, this.2.2.1, fun j => ?_, this.2.2.2.2⟩
  rw [this.2.2.2.1 j]
  dsimp only
  split <;> rfl
theorem isA.wP {S : jS} {c b n : Nat} {f : Nat → Int32} {p : Nat → Option Nat} (h : isA S c b n f p) (k : Nat) (v : Option Nat) : isA (uP S c b k v) c b n f (fun j => if j = k then v else p j) := by
  refine ⟨h.1, h.2.1, h.2.2.1, h.2.2.2.1, fun j => ?_⟩
  rw [sP_uP]
  dsimp only
  by_cases e : j = k
  · rw [if_pos ⟨rfl, rfl, e⟩, if_pos e]
  · rw [if_neg (fun z => e z.2.2), if_neg e]
    exact h.2.2.2.2 j
theorem J_cnt {l : Launch} {g : jG} {me : jM} {hgt mc ms pc nc ns nc' ns' : Nat} {Q : Option Value → jS → Prop} {lv : List (Nat × Value)} {st : List Value} {S : jS} (h : J l g me hgt mc ms Q pc lv st S nc' ns') (e1 : nc = nc') (e2 : ns = ns') : J l g me hgt mc ms Q pc lv st S nc ns := by
  rw [e1, e2]
  exact h
set_option maxRecDepth 100000 in
theorem cx_rowInit (l : Launch) (g : jG) (hgt : Nat) {S : jS} {b n : Nat} (hB : isA S 5 b 0 (fun _ => 0) (fun _ => none)) (hn : n < 100) (hh : 1 ≤ hgt) : CT l g mX7_init hgt 1 n [.ref b, .int (nI n)] S (fun r S' => r = none ∧ ext S S' b ∧ ∃ q, q ∉ S.1 ∧ isA S' 5 b 0 (fun _ => 0) (fun k => if k = 0 then some q else none) ∧ isA S' 9 q n (fun _ => 0) (fun _ => none)) := by
  refine CT_of qX7_init (Nat.le_of_ble_eq_true rfl) ?_
  refine J_aload_n (pc := 0) dX7_init_0 rfl rfl ?_
  refine J_objInit (pc := 1) kX7_1 dX7_init_1 (by decide) hh ?_
  refine J_aload_n (pc := 4) dX7_init_4 rfl rfl ?_
  refine J_iconst (pc := 5) (v := nI 0) dX7_init_5 (by decide) ?_
  refine J_puti (pc := 6) (i := 1) cl5 hB.at (by decide) rfl rfl rfl rfl kX7_7 dX7_init_6 ?_
  have E1 := ext_uI S 5 b 1 (nI 0)
  have B1 := hB.w0 1
  generalize uI S 5 b 1 (nI 0) = S1 at *
  refine J_aload_n (pc := 9) dX7_init_9 rfl rfl ?_
  refine J_iconst (pc := 10) (v := nI 0) dX7_init_10 (by decide) ?_
  refine J_puti (pc := 11) (i := 2) cl5 B1.at (by decide) rfl rfl rfl rfl kX7_13 dX7_init_11 ?_
  have E2 := E1.tr (ext_uI S1 5 b 2 (nI 0))
  have B2 := B1.w0 2
  generalize uI S1 5 b 2 (nI 0) = S2 at *
  refine J_aload_n (pc := 14) dX7_init_14 rfl rfl ?_
  refine J_iload_n (pc := 15) dX7_init_15 rfl rfl ?_
  refine J_newaI (pc := 16) rfl (by first | decide | omega) dX7_init_16 (by first | decide | omega) (by first | decide | omega) (fun q hq => ?_)
  have B3 := B2.nw (c' := 9) (n' := n) hq
  have A3 := isA_new (c := 9) (n := n) hq
  have E3 := E2.tr (ext_new (c := 9) (n := n) hq B2.1)
  have hq0 : q ∉ S.1 := fun z => hq (E2.1 q z)
  have hne : q ≠ b := fun e => hq (e ▸ B2.1)
  generalize nX S2 q 9 n = S3 at *
  refine J_putrF (pc := 18) (i := 0) cl5 B3.at (by decide) rfl rfl rfl rfl rfl rfl kX7_16 dX7_init_18 ?_
  refine J_vret (pc := 21) dX7_init_21 rfl (by omega) (by omega) ?_
  exact ⟨rfl, E3.tr (ext_uP _ _ _ _ _), q, hq0, B3.wP 0 (some q), A3.keep (ext_uP _ _ _ _ _) hne⟩
set_option maxRecDepth 100000 in
theorem cx_cutInit (l : Launch) (g : jG) (hgt : Nat) {S : jS} {b : Nat} (hB : isA S 0 b 0 (fun _ => 0) (fun _ => none)) (hh : 1 ≤ hgt) : CT l g mX1_init hgt 2 32 [.ref b] S (fun r S' => r = none ∧ ext S S' b ∧ ∃ q q', q ∉ S.1 ∧ q' ∉ S.1 ∧ q' ≠ q ∧ isA S' 0 b 0 (fun _ => 0) (fun k => if k = 1 then some q' else if k = 0 then some q else none) ∧ isA S' 9 q 16 (fun _ => 0) (fun _ => none) ∧ isA S' 9 q' 16 (fun _ => 0) (fun _ => none)) := by
  refine CT_of qX1_init (Nat.le_of_ble_eq_true rfl) ?_
  refine J_aload_n (pc := 0) dX1_init_0 rfl rfl ?_
  refine J_objInit (pc := 1) kX1_1 dX1_init_1 (by decide) hh ?_
  refine J_aload_n (pc := 4) dX1_init_4 rfl rfl ?_
  refine J_bipush (pc := 5) (v := nI 16) dX1_init_5 (by decide) ?_
  refine J_newaI (pc := 7) rfl (by first | decide | omega) dX1_init_7 (by first | decide | omega) (by first | decide | omega) (fun q hq => ?_)
  have B1 := hB.nw (c' := 9) (n' := 16) hq
  have A1 := isA_new (c := 9) (n := 16) hq
  have E1 := ext_new (c := 9) (n := 16) hq hB.1
  have hqb : q ≠ b := fun e => hq (e ▸ hB.1)
  generalize nX S q 9 16 = S1 at *
  refine J_putrF (pc := 9) (i := 0) cl0 B1.at (by decide) rfl rfl rfl rfl rfl rfl kX1_9 dX1_init_9 ?_
  have E2 := E1.tr (ext_uP S1 0 b 0 (some q))
  have B2 := B1.wP 0 (some q)
  have A2 := A1.keep (ext_uP S1 0 b 0 (some q)) hqb
  generalize uP S1 0 b 0 (some q) = S2 at *
  refine J_aload_n (pc := 12) dX1_init_12 rfl rfl ?_
  refine J_bipush (pc := 13) (v := nI 16) dX1_init_13 (by decide) ?_
  refine J_newaI (pc := 15) rfl (by first | decide | omega) dX1_init_15 (by first | decide | omega) (by first | decide | omega) (fun q' hq' => ?_)
  have hq2 : q' ∉ S.1 := fun z => hq' (E2.1 q' z)
  have hqq : q' ≠ q := fun e => hq' (e ▸ A2.1)
  have hqb' : q' ≠ b := fun e => hq' (e ▸ B2.1)
  have B3 := B2.nw (c' := 9) (n' := 16) hq'
  have A3 := A2.nw (c' := 9) (n' := 16) hq'
  have C3 := isA_new (c := 9) (n := 16) hq'
  have E3 := E2.tr (ext_new (c := 9) (n := 16) hq' B2.1)
  generalize nX S2 q' 9 16 = S3 at *
  refine J_putrF (pc := 17) (i := 1) cl0 B3.at (by decide) rfl rfl rfl rfl rfl rfl kX1_13 dX1_init_17 ?_
  have E4 := E3.tr (ext_uP S3 0 b 1 (some q'))
  have B4 := B3.wP 1 (some q')
  have A4 := A3.keep (ext_uP S3 0 b 1 (some q')) hqb
  have C4 := C3.keep (ext_uP S3 0 b 1 (some q')) hqb'
  generalize uP S3 0 b 1 (some q') = S4 at *
  refine J_aload_n (pc := 20) dX1_init_20 rfl rfl ?_
  refine J_iconst (pc := 21) (v := nI 0) dX1_init_21 (by decide) ?_
  refine J_puti (pc := 22) (i := 2) cl0 B4.at (by decide) rfl rfl rfl rfl kX1_16 dX1_init_22 ?_
  refine J_aload_n (pc := 25) dX1_init_25 rfl rfl ?_
  refine J_iconst (pc := 26) (v := nI 0) dX1_init_26 (by decide) ?_
  refine J_puti (pc := 27) (i := 3) cl0 (B4.w0 2).at (by decide) rfl rfl rfl rfl kX1_20 dX1_init_27 ?_
  refine J_aload_n (pc := 30) dX1_init_30 rfl rfl ?_
  refine J_iconst (pc := 31) (v := nI 0) dX1_init_31 (by decide) ?_
  refine J_puti (pc := 32) (i := 4) cl0 ((B4.w0 2).w0 3).at (by decide) rfl rfl rfl rfl kX1_23 dX1_init_32 ?_
  refine J_aload_n (pc := 35) dX1_init_35 rfl rfl ?_
  refine J_iconst (pc := 36) (v := nI 0) dX1_init_36 (by decide) ?_
  refine J_puti (pc := 37) (i := 5) cl0 (((B4.w0 2).w0 3).w0 4).at (by decide) rfl rfl rfl rfl kX1_26 dX1_init_37 ?_
  refine J_vret (pc := 40) dX1_init_40 rfl (by omega) (by omega) ?_
  have E5 : ext S4 (uI (uI (uI (uI S4 0 b 2 (nI 0)) 0 b 3 (nI 0)) 0 b 4 (nI 0)) 0 b 5 (nI 0)) b := (((ext_uI _ _ _ _ _).tr (ext_uI _ _ _ _ _)).tr (ext_uI _ _ _ _ _)).tr (ext_uI _ _ _ _ _)
  exact ⟨rfl, E4.tr E5, q, q', hq, hq2, hqq, (((B4.w0 2).w0 3).w0 4).w0 5, A4.keep E5 hqb, C4.keep E5 hqb'⟩
set_option maxRecDepth 100000 in
theorem cx_fillA (l : Launch) (g : jG) (hgt : Nat) {S : jS} {a n : Nat} {f : Nat → Int32} {p : Nat → Option Nat} (v : Int32) (hA : isA S 9 a n f p) (hn : n < 1000) : CT l g mJ7_fill_53178 hgt 0 0 [.ref a, .int v] S (fun r S' => r = none ∧ ext S S' a ∧ isA S' 9 a n (fun k => if k < n then v else f k) p) := by
  have loop : ∀ i, i ≤ n → ∀ S', ext S S' a → isA S' 9 a n (fun k => if k < i then v else f k) p → J l g mJ7_fill_53178 hgt 0 0 (fun r S' => r = none ∧ ext S S' a ∧ isA S' 9 a n (fun k => if k < n then v else f k) p) 5 [(2, .int (nI i)), (3, .int (nI n)), (0, .ref a), (1, .int v)] [] S' 0 0 := by
    refine down _ ?_ ?_
    · intro S' E A
      refine J_iload_n (pc := 5) dJ7_fill_53178_5 rfl rfl ?_
      refine J_iload_n (pc := 6) dJ7_fill_53178_6 rfl rfl ?_
      refine J_icmp_geN (pc := 7) (tgt := 20) dJ7_fill_53178_7 rfl (by omega) (by omega) (fun B => ?_) (fun B => ?_)
      · refine J_vret (pc := 20) dJ7_fill_53178_20 rfl (by omega) (by omega) ?_
        exact ⟨rfl, E, A⟩
      · omega
    · intro i hi ih S' E A
      refine J_iload_n (pc := 5) dJ7_fill_53178_5 rfl rfl ?_
      refine J_iload_n (pc := 6) dJ7_fill_53178_6 rfl rfl ?_
      refine J_icmp_geN (pc := 7) (tgt := 20) dJ7_fill_53178_7 rfl (by omega) (by omega) (fun B => ?_) (fun B => ?_)
      · omega
      · refine J_aload_n (pc := 10) dJ7_fill_53178_10 rfl rfl ?_
        refine J_iload_n (pc := 11) dJ7_fill_53178_11 rfl rfl ?_
        refine J_iload_n (pc := 12) dJ7_fill_53178_12 rfl rfl ?_
        refine J_iast (pc := 13) A.ar rfl hi (by first | omega | exact mLn_lt _) dJ7_fill_53178_13 ?_
        refine J_iinc (pc := 14) dJ7_fill_53178_14 rfl (inc1 _) (by decide) ?_
        refine J_goto (pc := 17) (tgt := 5) dJ7_fill_53178_17 rfl ?_
        refine J_lvk (ih _ (E.tr (ext_uI _ _ _ _ _)) ?_) ⟨rfl, rfl, rfl, rfl, trivial⟩
        have := A.wI i v
        refine ⟨this.1, this.2.1, this.2.2.1, fun j => ?_, this.2.2.2.2⟩
        rw [this.2.2.2.1 j]
        dsimp only
        by_cases e : j = i
        · rw [if_pos e, if_pos (by omega)]
        · rw [if_neg e]
          by_cases e2 : j < i
          · rw [if_pos e2, if_pos (by omega)]
          · rw [if_neg e2, if_neg (by omega)]
  refine CT_of qJ7_fill_53178 (Nat.le_of_ble_eq_true rfl) ?_
  refine J_iconst (pc := 0) (v := nI 0) dJ7_fill_53178_0 (by decide) ?_
  refine J_istore_n (pc := 1) dJ7_fill_53178_1 rfl (by decide) ?_
  refine J_aload_n (pc := 2) dJ7_fill_53178_2 rfl rfl ?_
  refine J_alenI (pc := 3) hA.at (Or.inl rfl) (congrArg nI hA.2.2.1) dJ7_fill_53178_3 ?_
  refine J_istore_n (pc := 4) dJ7_fill_53178_4 rfl (by decide) ?_
  refine J_lvk (loop 0 (Nat.zero_le _) S (ext.refl S a) ?_) ⟨rfl, rfl, rfl, rfl, trivial⟩
  refine ⟨hA.1, hA.2.1, hA.2.2.1, fun j => ?_, hA.2.2.2.2⟩
  dsimp only
  rw [if_neg (Nat.not_lt_zero j)]
  exact hA.2.2.2.1 j
