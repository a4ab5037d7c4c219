/-! THE CLASS: the links and the queues -/
theorem WX.o {S : jS} {w : Nat → Nat → Nat} {hx : Nat} {X : XS} (h : WX S w hx X) (c i : Nat) (hi : i < cN (xV X 1 0) c) : sAt S c (w c i) := (h.1 c i hi).1
theorem WX.a {S : jS} {w : Nat → Nat → Nat} {hx : Nat} {X : XS} (h : WX S w hx X) (c i : Nat) (hc : 9 ≤ c) (hi : i < cN (xV X 1 0) c) : aAt S c (w c i) (lenA c i) := ⟨(h.1 c i hi).1, (h.1 c i hi).2 hc⟩
theorem WX.r {S : jS} {w : Nat → Nat → Nat} {hx : Nat} {X : XS} (h : WX S w hx X) (c i k : Nat) {c' i' : Nat} (hi : i < cN (xV X 1 0) c) (hr : rf (xV X 1 0) (xV X 8) (xV X 9) c i k = some (c', i')) : sP S c (w c i) k = some (w c' i') := h.2.2.1 c i k c' i' hi hr
theorem WX.v {S : jS} {w : Nat → Nat → Nat} {hx : Nat} {X : XS} (h : WX S w hx X) (f i : Nat) (hi : i < dmN (xV X 1 0) f) : sI S (c1 f) (w (c1 f) (c2 f i)) (c3 f i) = nI (xV X f i) := h.2.2.2.1 f i hi
theorem WX.fo {S : jS} {w : Nat → Nat → Nat} {hx : Nat} {X : XS} (h : WX S w hx X) : sAt S 1 (w 1 0) := h.o 1 0 Nat.one_pos
theorem WX.f0 {S : jS} {w : Nat → Nat → Nat} {hx : Nat} {X : XS} (h : WX S w hx X) : sP S 1 (w 1 0) 0 = some (w 9 72) := h.r 1 0 0 Nat.one_pos rfl
theorem WX.f1 {S : jS} {w : Nat → Nat → Nat} {hx : Nat} {X : XS} (h : WX S w hx X) : sP S 1 (w 1 0) 1 = some (w 9 73) := h.r 1 0 1 Nat.one_pos rfl
theorem WX.f2 {S : jS} {w : Nat → Nat → Nat} {hx : Nat} {X : XS} (h : WX S w hx X) : sP S 1 (w 1 0) 2 = some (w 13 0) := h.r 1 0 2 Nat.one_pos rfl
theorem WX.f3 {S : jS} {w : Nat → Nat → Nat} {hx : Nat} {X : XS} (h : WX S w hx X) : sP S 1 (w 1 0) 3 = some (w 10 0) := h.r 1 0 3 Nat.one_pos rfl
theorem WX.f4 {S : jS} {w : Nat → Nat → Nat} {hx : Nat} {X : XS} (h : WX S w hx X) : sP S 1 (w 1 0) 4 = some (w 9 74) := h.r 1 0 4 Nat.one_pos rfl
theorem WX.a72 {S : jS} {w : Nat → Nat → Nat} {hx : Nat} {X : XS} (h : WX S w hx X) : aAt S 9 (w 9 72) 24 := h.a 9 72 (by decide) (show 72 < 107 by decide)
theorem WX.a73 {S : jS} {w : Nat → Nat → Nat} {hx : Nat} {X : XS} (h : WX S w hx X) : aAt S 9 (w 9 73) 24 := h.a 9 73 (by decide) (show 73 < 107 by decide)
theorem WX.a74 {S : jS} {w : Nat → Nat → Nat} {hx : Nat} {X : XS} (h : WX S w hx X) : aAt S 9 (w 9 74) 2 := h.a 9 74 (by decide) (show 74 < 107 by decide)
theorem WX.az {S : jS} {w : Nat → Nat → Nat} {hx : Nat} {X : XS} (h : WX S w hx X) : aAt S 10 (w 10 0) 2 := h.a 10 0 (by decide) (show 0 < 1 by decide)
theorem WX.aq {S : jS} {w : Nat → Nat → Nat} {hx : Nat} {X : XS} (h : WX S w hx X) : aAt S 13 (w 13 0) 64 := h.a 13 0 (by decide) (show 0 < 1 by decide)
theorem WX.lnk {S : jS} {w : Nat → Nat → Nat} {hx : Nat} {X : XS} (h : WX S w hx X) {k : Nat} (hk : k < 24) : sI S 9 (w 9 72) k = pkH (xV X 8) (xV X 9) (xL X (200 + k)) (xV X 5 k) := h.2.2.2.2.2.2.1 k hk
theorem WX.spi {S : jS} {w : Nat → Nat → Nat} {hx : Nat} {X : XS} (h : WX S w hx X) {s : Nat} (hs : s < 2) : sI S 10 (w 10 0) s = nI (1 - xV X 6 s) := h.2.2.2.2.2.2.2.2.1 s hs
theorem WX.t4 {S : jS} {w : Nat → Nat → Nat} {hx : Nat} {X : XS} (h : WX S w hx X) {k : Nat} (hk : k < 24) : sI S 9 (w 9 73) k = nI (xV X 4 k) := h.v 4 k hk
theorem WX.t7 {S : jS} {w : Nat → Nat → Nat} {hx : Nat} {X : XS} (h : WX S w hx X) {k : Nat} (hk : k < 2) : sI S 9 (w 9 74) k = nI (xV X 7 k) := h.v 7 k hk
theorem WX.t2 {S : jS} {w : Nat → Nat → Nat} {hx : Nat} {X : XS} (h : WX S w hx X) : sI S 1 (w 1 0) 5 = nI (xV X 2 0) := h.v 2 0 Nat.one_pos
theorem WX.t3 {S : jS} {w : Nat → Nat → Nat} {hx : Nat} {X : XS} (h : WX S w hx X) : sI S 1 (w 1 0) 6 = nI (xV X 3 0) := h.v 3 0 Nat.one_pos
/-- it answers v and leaves the picture of X -/
abbrev xQ (w : Nat → Nat → Nat) (hx : Nat) (v : Option Value) (X : XS) : Option Value → jS → Prop := fun r S' => r = v ∧ WX S' w hx X
set_option maxRecDepth 100000 in
theorem cx_setToLose (l : Launch) (g : jG) (hgt : Nat) {S : jS} {w : Nat → Nat → Nat} {hx : Nat} {X : XS} {k n : Nat} (hW : WX S w hx X) (hk : k < 24) : CT l g mX2_setToLose hgt 0 0 [.ref (w 1 0), .int (nI k), .int (nI n)] S (xQ w hx none (yV X 4 k n)) := by
  refine CT_of qX2_setToLose (Nat.le_of_ble_eq_true rfl) ?_
  refine J_aload_n (pc := 0) dX2_setToLose_0 rfl rfl ?_
  refine J_getr (pc := 1) (i := 1) cl1 hW.fo (by decide) rfl hW.f1 kX2_15 dX2_setToLose_1 ?_
  refine J_iload_n (pc := 4) dX2_setToLose_4 rfl rfl ?_
  refine J_iload_n (pc := 5) dX2_setToLose_5 rfl rfl ?_
  refine J_iast (pc := 6) hW.a73 rfl hk (by first | omega | exact mLn_lt _) dX2_setToLose_6 ?_
  refine J_vret (pc := 7) dX2_setToLose_7 rfl (by omega) (by omega) ?_
  exact ⟨rfl, hW.wV 4 k n hk (by decide)⟩
set_option maxRecDepth 100000 in
theorem cx_setSpine (l : Launch) (g : jG) (hgt : Nat) {S : jS} {w : Nat → Nat → Nat} {hx : Nat} {X : XS} {s : Nat} (on : Bool) (hW : WX S w hx X) (hs : s < 2) : CT l g mX2_setSpine hgt 0 0 [.ref (w 1 0), .int (nI s), .int (bI on)] S (xQ w hx none (yV X 6 s (if on then 0 else 1))) := by
  have e : bI on = nI (1 - if on then 0 else 1) := by cases on <;> rfl
  refine CT_of qX2_setSpine (Nat.le_of_ble_eq_true rfl) ?_
  refine J_aload_n (pc := 0) dX2_setSpine_0 rfl rfl ?_
  refine J_getr (pc := 1) (i := 3) cl1 hW.fo (by decide) rfl hW.f3 kX2_24 dX2_setSpine_1 ?_
  refine J_iload_n (pc := 4) dX2_setSpine_4 rfl rfl ?_
  refine J_iload_n (pc := 5) dX2_setSpine_5 rfl rfl ?_
  refine J_zast (pc := 6) hW.az rfl hs (by first | omega | exact mLn_lt _) (bI_v on) dX2_setSpine_6 ?_
  refine J_vret (pc := 7) dX2_setSpine_7 rfl (by omega) (by omega) ?_
  rw [e]
  exact ⟨rfl, hW.wSpi hs⟩
set_option maxRecDepth 100000 in
theorem cx_takeOff (l : Launch) (g : jG) (hgt : Nat) {S : jS} {w : Nat → Nat → Nat} {hx : Nat} {X : XS} {k : Nat} (hW : WX S w hx X) (hk : k < 24) : CT l g mX2_takeOff hgt 0 0 [.ref (w 1 0), .int (nI k)] S (xQ w hx (some (.int (pkH (xV X 8) (xV X 9) (xL X (200 + k)) (xV X 5 k)))) (yL X (200 + k) [])) := by
  refine CT_of qX2_takeOff (Nat.le_of_ble_eq_true rfl) ?_
  refine J_aload_n (pc := 0) dX2_takeOff_0 rfl rfl ?_
  refine J_getr (pc := 1) (i := 0) cl1 hW.fo (by decide) rfl hW.f0 kX2_11 dX2_takeOff_1 ?_
  refine J_iload_n (pc := 4) dX2_takeOff_4 rfl rfl ?_
  refine J_iald (pc := 5) hW.a72 rfl hk (by first | omega | exact mLn_lt _) (hW.lnk hk) dX2_takeOff_5 ?_
  refine J_istore_n (pc := 6) dX2_takeOff_6 rfl (by decide) ?_
  refine J_aload_n (pc := 7) dX2_takeOff_7 rfl rfl ?_
  refine J_getr (pc := 8) (i := 0) cl1 hW.fo (by decide) rfl hW.f0 kX2_11 dX2_takeOff_8 ?_
  refine J_iload_n (pc := 11) dX2_takeOff_11 rfl rfl ?_
  refine J_iconst (pc := 12) (v := (-1)) dX2_takeOff_12 (by decide) ?_
  refine J_iast (pc := 13) hW.a72 rfl hk (by first | omega | exact mLn_lt _) dX2_takeOff_13 ?_
  refine J_iload_n (pc := 14) dX2_takeOff_14 rfl rfl ?_
  refine J_iret (pc := 15) dX2_takeOff_15 rfl (by omega) (by omega) ?_
  exact ⟨rfl, hW.wLnk (X' := yL X (200 + k) []) (fun _ _ => rfl) (fun _ _ => rfl) (fun q hq => by rw [xL_yL, if_neg hq]) hk rfl (by rw [xL_yL, if_pos rfl]; rfl)⟩
set_option maxRecDepth 100000 in
theorem cx_putOn (l : Launch) (g : jG) (hgt : Nat) {S : jS} {w : Nat → Nat → Nat} {hx : Nat} {X : XS} {k : Nat} {e : Nat × Nat × Nat} {p : Nat} (hW : WX S w hx X) (hk : k < 24) (h4 : xV X 4 k ≤ 100) : CT l g mX2_putOn hgt 0 0 [.ref (w 1 0), .int (nI k), .int (nI (pkF (xV X 8) (xV X 9) e p))] S (xQ w hx none (x_enter X k e p)) := by
  refine CT_of qX2_putOn (Nat.le_of_ble_eq_true rfl) ?_
  refine J_aload_n (pc := 0) dX2_putOn_0 rfl rfl ?_
  refine J_getr (pc := 1) (i := 1) cl1 hW.fo (by decide) rfl hW.f1 kX2_15 dX2_putOn_1 ?_
  refine J_iload_n (pc := 4) dX2_putOn_4 rfl rfl ?_
  refine J_iald (pc := 5) hW.a73 rfl hk (by first | omega | exact mLn_lt _) (hW.t4 hk) dX2_putOn_5 ?_
  refine J_if_leN (pc := 6) (tgt := 32) dX2_putOn_6 rfl (by omega) (fun B => ?_) (fun B => ?_)
  · refine J_aload_n (pc := 32) dX2_putOn_32 rfl rfl ?_
    refine J_getr (pc := 33) (i := 0) cl1 hW.fo (by decide) rfl hW.f0 kX2_11 dX2_putOn_33 ?_
    refine J_iload_n (pc := 36) dX2_putOn_36 rfl rfl ?_
    refine J_iload_n (pc := 37) dX2_putOn_37 rfl rfl ?_
    refine J_iast (pc := 38) hW.a72 rfl hk (by first | omega | exact mLn_lt _) dX2_putOn_38 ?_
    refine J_vret (pc := 39) dX2_putOn_39 rfl (by omega) (by omega) ?_
    unfold x_enter
    rw [if_neg (by omega)]
    refine ⟨rfl, hW.wLnk (X' := yV (yL X (200 + k) [e]) 5 k p) (fun f hf => ?_) (fun j hj => ?_) (fun q hq => ?_) hk rfl ?_⟩
    · rw [xV_nf hf, xV_yL]
    · rw [xV_yV, if_neg (fun z => hj z.2), xV_yL]
    · rw [xL_yV, xL_yL, if_neg hq]
    · rw [xL_yV, xL_yL, if_pos rfl, xV_yV, if_pos ⟨rfl, rfl⟩]
      rfl
  · refine J_aload_n (pc := 9) dX2_putOn_9 rfl rfl ?_
    refine J_getr (pc := 10) (i := 1) cl1 hW.fo (by decide) rfl hW.f1 kX2_15 dX2_putOn_10 ?_
    refine J_iload_n (pc := 13) dX2_putOn_13 rfl rfl ?_
    refine J_dup2_11 (pc := 14) dX2_putOn_14 rfl rfl ?_
    refine J_iald (pc := 15) hW.a73 rfl hk (by first | omega | exact mLn_lt _) (hW.t4 hk) dX2_putOn_15 ?_
    refine J_iconst (pc := 16) (v := nI 1) dX2_putOn_16 (by decide) ?_
    refine J_isubN (b := 1) dX2_putOn_17 (by omega) ?_
    refine J_iast (pc := 18) hW.a73 rfl hk (by first | omega | exact mLn_lt _) dX2_putOn_18 ?_
    have hW1 : WX (uI S 9 (w 9 73) k (nI (xV X 4 k - 1))) w hx (yV X 4 k (xV X 4 k - 1)) := hW.wV 4 k _ hk (by decide)
    refine J_aload_n (pc := 19) dX2_putOn_19 rfl rfl ?_
    refine J_dup (pc := 20) dX2_putOn_20 rfl ?_
    refine J_geti (pc := 21) (i := 6) cl1 hW1.fo (by decide) rfl hW1.t3 kX2_35 dX2_putOn_21 ?_
    refine J_iconst (pc := 24) (v := nI 1) dX2_putOn_24 (by decide) ?_
    refine J_iaddN (b := 1) dX2_putOn_25 ?_
    refine J_puti (pc := 26) (i := 6) cl1 hW1.fo (by decide) rfl rfl rfl rfl kX2_35 dX2_putOn_26 ?_
    refine J_goto (pc := 29) (tgt := 39) dX2_putOn_29 rfl ?_
    refine J_vret (pc := 39) dX2_putOn_39 rfl (by omega) (by omega) ?_
    unfold x_enter
    rw [if_pos B]
    exact ⟨rfl, hW1.wV 3 0 _ Nat.one_pos (by decide)⟩
/-- the row r of the picture -/
theorem WX.row {S : jS} {w : Nat → Nat → Nat} {hx : Nat} {X : XS} (h : WX S w hx X) {r : Nat} (hr : r < 72) : ∃ f, rowAt S (w 5 r) (w 9 r) (rN r) f (xL X (32 + r)).length ∧ ∀ i e, (xL X (32 + r))[i]? = some e → sI S 9 (w 9 r) ((f + i) % rN r) = nI (pkF (xV X 8) (xV X 9) e (pr r)) := by
  obtain ⟨f, a1, a2, a3, a4, a5⟩ := h.2.2.2.2.2.2.2.1 r hr
  have ha := h.a 9 r (by decide) (show r < 107 by omega)
  have el : lenA 9 r = rN r := by
    show (if r < 64 then 8 else if r < 74 then 24 else if r = 74 then 2 else if r < 91 then 16 else if r < 99 then 3 else 64) = if r < 64 then 8 else 24
    by_cases q : r < 64
    · rw [if_pos q, if_pos q]
    · rw [if_neg q, if_neg q, if_pos (by omega)]
  rw [el] at ha
  refine ⟨f, ⟨h.o 5 r hr, h.r 5 r 0 hr rfl, a3, a4, ha, a1, a2, ?_⟩, a5⟩
  unfold rN
  split <;> decide
theorem rN_pos (r : Nat) : 0 < rN r := by
  unfold rN
  split <;> decide
theorem ring_ne {f i j n : Nat} (hi : i < n) (hj : j < n) (h : (f + i) % n = (f + j) % n) : i = j := by
  have h1 := Nat.sub_mod_eq_zero_of_mod_eq h
  have h2 := Nat.sub_mod_eq_zero_of_mod_eq h.symm
  rcases Nat.le_total i j with q | q
  · have : (f + j - (f + i)) = j - i := by omega
    rw [this, Nat.mod_eq_of_lt (by omega)] at h2
    omega
  · have : (f + i - (f + j)) = i - j := by omega
    rw [this, Nat.mod_eq_of_lt (by omega)] at h1
    omega
/-- a packet is put at the end of row r -/
theorem WX.put {S : jS} {w : Nat → Nat → Nat} {hx : Nat} {X : XS} (h : WX S w hx X) {r f : Nat} (hr : r < 72) (hrow : rowAt S (w 5 r) (w 9 r) (rN r) f (xL X (32 + r)).length) (hp : ∀ i e, (xL X (32 + r))[i]? = some e → sI S 9 (w 9 r) ((f + i) % rN r) = nI (pkF (xV X 8) (xV X 9) e (pr r))) (hl : (xL X (32 + r)).length < rN r) (e : Nat × Nat × Nat) : WX (uI (uI S 9 (w 9 r) ((f + (xL X (32 + r)).length) % rN r) (nI (pkF (xV X 8) (xV X 9) e (pr r)))) 5 (w 5 r) 2 (nI ((xL X (32 + r)).length + 1))) w hx (yL X (32 + r) (xL X (32 + r) ++ [e])) := by
  have hin := h.2.1
  have h9 : r < cN (xV X 1 0) 9 := show r < 107 by omega
  have h5 : r < cN (xV X 1 0) 5 := hr
  refine h.wRow hr _ ⟨rfl, rfl, rfl⟩ ?_ ?_
  · intro c i j hi hn
    rw [hin.oth h5 hi (by omega), hin.oth h9 hi (by omega)]
  · refine ⟨f, hrow.2.2.2.2.2.1, by rw [List.length_append, List.length_singleton]; omega, ?_, ?_, ?_⟩
    · exact sI_nk (by decide) (sI_nc (by decide) hrow.2.2.1)
    · rw [sI_same, List.length_append, List.length_singleton]
    · intro i e' he
      rw [hin.oth h5 h9 (by omega), sI_uI]
      by_cases q : i = (xL X (32 + r)).length
      · subst q
        rw [List.getElem?_append_right (Nat.le_refl _), Nat.sub_self] at he
        cases he
        rw [if_pos ⟨rfl, rfl, rfl⟩]
      · have hi : i < (xL X (32 + r)).length := by
          have := (List.getElem?_eq_some_iff.mp he).1
          rw [List.length_append, List.length_singleton] at this
          omega
        rw [if_neg (fun z => q (ring_ne (by omega) hl z.2.2))]
        rw [List.getElem?_append_left hi] at he
        exact hp i e' he
/-- the first packet is taken off row r -/
theorem WX.take {S : jS} {w : Nat → Nat → Nat} {hx : Nat} {X : XS} (h : WX S w hx X) {r f : Nat} (hr : r < 72) (hrow : rowAt S (w 5 r) (w 9 r) (rN r) f (xL X (32 + r)).length) (hp : ∀ i e, (xL X (32 + r))[i]? = some e → sI S 9 (w 9 r) ((f + i) % rN r) = nI (pkF (xV X 8) (xV X 9) e (pr r))) {e : Nat × Nat × Nat} {t : List (Nat × Nat × Nat)} (he : xL X (32 + r) = e :: t) : WX (uI (uI S 5 (w 5 r) 1 (nI ((f + 1) % rN r))) 5 (w 5 r) 2 (nI ((xL X (32 + r)).length - 1))) w hx (yL X (32 + r) t) ∧ sI S 9 (w 9 r) f = nI (pkF (xV X 8) (xV X 9) e (pr r)) := by
  have hin := h.2.1
  have h9 : r < cN (xV X 1 0) 9 := show r < 107 by omega
  have h5 : r < cN (xV X 1 0) 5 := hr
  have hf := hrow.2.2.2.2.2.1
  have hs := hrow.2.2.2.2.2.2.1
  have hl : (xL X (32 + r)).length - 1 = t.length := by rw [he]; rfl
  rw [hl]
  constructor
  · refine h.wRow hr _ ⟨rfl, rfl, rfl⟩ ?_ ?_
    · intro c i j hi hn
      rw [hin.oth h5 hi (by omega), hin.oth h5 hi (by omega)]
    · refine ⟨(f + 1) % rN r, Nat.mod_lt _ (rN_pos r), by rw [he, List.length_cons] at hs; omega, ?_, ?_, ?_⟩
      · exact sI_nk (by decide) (sI_same _ _ _ _ _)
      · rw [sI_same]
      · intro i e' hi
        rw [hin.oth h5 h9 (by omega), hin.oth h5 h9 (by omega), Nat.mod_add_mod, Nat.add_assoc, Nat.add_comm 1 i]
        refine hp (i + 1) e' ?_
        rw [he, List.getElem?_cons_succ]
        exact hi
  · have := hp 0 e (by rw [he]; rfl)
    rw [Nat.add_zero, Nat.mod_eq_of_lt hf] at this
    exact this
