/-! what always holds goes on to hold: the calls; the first state -/
theorem good_begin {T : Nat} {X : XS} {a b n md : Nat} (h : good T X) (ha : a < 8) (hb : b < 8) (h1 : 1 ≤ n) (hn : n ≤ 60) (hm : md ≤ 1) (hM : xV X 1 0 < 48) : good T (x_begin X a b n md) := by
  have hnew := h.1.new (m := xV X 1 0) (Nat.le_refl _)
  have eo : ∀ f, f ∉ [1, 8, 9, 10, 11, 14, 15] → xV (x_begin X a b n md) f = xV X f := fun f hf => beg_o X a b n md hf
  have el : ∀ f i, f ≠ 1 → i ≠ xV X 1 0 → xV (x_begin X a b n md) f i = xV X f i := fun f i hf hi => beg_lt X a b n md hf hi
  have eB : xB (x_begin X a b n md) = xB X := rfl
  have eL : xL (x_begin X a b n md) = xL X := rfl
  have e1 := beg_1 X a b n md
  have hmis : ∀ i, i ≠ xV X 1 0 → x_missing (x_begin X a b n md) i = x_missing X i := fun i hi => by
    unfold x_missing
    rw [el 10 i (by decide) hi, eB]
  have z : ∀ f, 8 ≤ f → f < 26 → f ∉ [8, 9, 10, 11, 14, 15] → xV (x_begin X a b n md) f (xV X 1 0) = 0 := fun f h8 h26 hf => by
    rw [eo f (by simp only [List.mem_cons, List.not_mem_nil, or_false] at hf ⊢; omega)]
    exact hnew.1 f h8 h26
  refine ⟨⟨⟨by omega, ?_, ?_⟩, fun i hi => ?_, fun i hi => ?_, fun i => ?_, fun i hi => ?_, ⟨fun q e he => ?_, ?_⟩, fun c hc => ?_, ?_⟩, ?_⟩
  · rw [eo 4 (by decide), eo 5 (by decide)]
    exact h.1.1.2.1
  · rw [eo 6 (by decide), eo 7 (by decide)]
    exact h.1.1.2.2
  · by_cases e : i = xV X 1 0
    · subst e
      rw [beg_8, if_pos rfl, beg_9, if_pos rfl, beg_10, if_pos rfl, beg_11, if_pos rfl, beg_14, if_pos rfl, beg_15, if_pos rfl, z 12 (by decide) (by decide) (by decide), z 13 (by decide) (by decide) (by decide), z 16 (by decide) (by decide) (by decide), z 17 (by decide) (by decide) (by decide), z 19 (by decide) (by decide) (by decide), z 21 (by decide) (by decide) (by decide), z 22 (by decide) (by decide) (by decide), z 23 (by decide) (by decide) (by decide)]
      refine ⟨⟨ha, hb, hn, hm⟩, ⟨by omega, by omega, by split <;> omega, by omega, by omega, by omega, fun _ => by omega⟩, by omega, by omega, by omega, by omega, fun _ => by omega⟩
    · have o := h.1.msg hi
      rw [el 8 i (by decide) e, el 9 i (by decide) e, el 10 i (by decide) e, el 11 i (by decide) e, el 12 i (by decide) e, el 13 i (by decide) e, el 14 i (by decide) e, el 15 i (by decide) e, el 16 i (by decide) e, el 17 i (by decide) e, el 19 i (by decide) e, el 21 i (by decide) e, el 22 i (by decide) e, el 23 i (by decide) e]
      exact o
  · by_cases e : i = xV X 1 0
    · rw [e, beg_10, if_pos rfl]
      exact h1
    · rw [el 10 i (by decide) e]
      exact h.1.len (by omega)
  · by_cases e : i = xV X 1 0
    · subst e
      rw [z 19 (by decide) (by decide) (by decide), eB]
      refine ⟨fun i hi => ?_, fun i hi => ?_, fun q => absurd q (by decide), fun _ i => hnew.2 1 i⟩
      · rw [hnew.2 0 i] at hi
        cases hi
      · rw [hnew.2 1 i] at hi
        cases hi
    · rw [hmis i e, el 10 i (by decide) e, el 13 i (by decide) e, el 19 i (by decide) e, eB]
      exact h.1.set i
  · have hi : xV X 1 0 + 1 ≤ i := by omega
    have o := h.1.new (m := i) (by omega)
    refine ⟨fun f h8 h26 => ?_, fun w j => ?_⟩
    · rw [el f i (by omega) (by omega)]
      exact o.1 f h8 h26
    · rw [eB]
      exact o.2 w j
  · rw [eL] at he
    obtain ⟨y1, y2, y3, y4, y5, y6⟩ := h.1.list.1 q e he
    refine ⟨y1, by omega, y3, ?_, ?_, ?_⟩ <;> rw [el 10 e.2.1 (by decide) (by omega)]
    · exact y4
    · exact y5
    · exact y6
  · rw [eL]
    exact h.1.list.2
  · rw [eo 28 (by decide), eo 29 (by decide), e1]
    have o := h.1.host hc
    exact ⟨o.1, fun k hk => by have := o.2 k hk; omega⟩
  · rw [eo 31 (by decide)]
    intro i hi
    exact h.1.fin hi
  · obtain ⟨a1, a2, a3⟩ := h.2
    refine ⟨fun c hc => ?_, fun i hi => ?_, fun i i' hi hi' q1 q2 q3 q4 => ?_⟩
    · rw [eo 26 (by decide), eo 30 (by decide)]
      exact a1 c hc
    · rw [eo 24 (by decide), eo 26 (by decide)]
      by_cases e : i = xV X 1 0
      · rw [e, hnew.1 24 (by decide) (by decide)]
        exact Nat.zero_le _
      · rw [el 9 i (by decide) e]
        exact a2 i (by omega)
    · rw [eo 19 (by decide)] at q2 q3
      rw [eo 24 (by decide)] at q4
      by_cases e : i = xV X 1 0
      · rw [e] at q2
        exact absurd (hnew.1 19 (by decide) (by decide)) q2
      · by_cases e' : i' = xV X 1 0
        · rw [e'] at q3
          exact absurd (hnew.1 19 (by decide) (by decide)) q3
        · rw [el 9 i (by decide) e, el 9 i' (by decide) e'] at q1
          exact a3 i i' (by omega) (by omega) q1 q2 q3 q4
theorem good_32 {T : Nat} {X : XS} (h : good T X) (v : Nat) : good T (yV X 32 0 v) := by
  refine ⟨h.1.fre (fun f hf => xV_nf (fun e => hf (by simp [e]))) rfl rfl, h.2.mono ⟨xV_nf (by decide), xV_nf (by decide), xV_nf (by decide), xV_nf (by decide), xV_nf (by decide)⟩ (xV_nf (by decide)) (xV_nf (by decide)) (xV_nf (by decide)) (fun m => ?_)⟩
  rw [xV_nf (by decide)]
  exact id
theorem good_message {T : Nat} {X : XS} (x y n m : Int32) (h : good T X) : good T (p_message X x y n m).2 := by
  have h48 := h.1.many
  unfold p_message
  split
  · exact h
  case isFalse z =>
    simp only [not_or] at z
    obtain ⟨z1, z2, z3, z4, z5, z6, z7, z8, z9, z10⟩ := z
    have hn0 : ¬ n < 0 := fun u => z6 (Int32.lt_trans u (by decide))
    obtain ⟨a, ha, rfl⟩ := ix_in (n := 8) (by decide) z1 z2
    obtain ⟨b, hb, rfl⟩ := ix_in (n := 8) (by decide) z3 z4
    obtain ⟨n, hn, rfl⟩ := ix_le (n := 60) (by decide) hn0 z7
    obtain ⟨m, hm, rfl⟩ := ix_le (n := 1) (by decide) z8 z9
    dsimp only
    rw [cl_nI (by omega), cl_nI (by omega), cl_nI (by omega), cl_nI (by omega)]
    have h1 : 1 ≤ n := by
      have := (Decidable.not_iff_not.mpr (nI_ltI (a := n) (b := 1) (by omega) (by decide))).mp z6
      omega
    exact good_begin h ha hb h1 hn hm (by omega)
theorem good_lose {T : Nat} {X : XS} (k c : Int32) (h : good T X) : good T (p_lose X k c).2 := by
  unfold p_lose
  split
  · exact h
  case isFalse z =>
    simp only [not_or] at z
    obtain ⟨z1, z2, z3, z4⟩ := z
    obtain ⟨k, hk, rfl⟩ := ix_in (n := 24) (by decide) z1 z2
    obtain ⟨c, hc, rfl⟩ := ix_le (n := 100) (by decide) z3 z4
    dsimp only
    rw [cl_nI (by omega), cl_nI (by omega)]
    refine h.of (h.1.lnk (fun f hf => xV_nf (fun e => hf (by simp [e]))) rfl rfl (fun j hj => ?_) (fun s hs => ?_)) (rel_yV _ _ _ (by decide)) (fun f hf => ?_)
    · have o := h.1.link hj
      rw [xV_yV, xV_nf (f := 4) (f' := 5) (by decide)]
      refine ⟨?_, o.2⟩
      split
      · exact hc
      · exact o.1
    · rw [xV_nf (f := 4) (f' := 6) (by decide), xV_nf (f := 4) (f' := 7) (by decide)]
      exact h.1.sp hs
    · simp only [List.mem_cons, List.not_mem_nil, or_false] at hf
      rcases hf with rfl | rfl | rfl | rfl <;> rw [xV_nf (by decide)]
theorem good_spine {T : Nat} {X : XS} (s on : Int32) (h : good T X) : good T (p_spine X s on).2 := by
  unfold p_spine
  split
  · exact h
  · dsimp only
    refine h.of (h.1.lnk (fun f hf => xV_nf (fun e => hf (by simp [e]))) rfl rfl (fun j hj => ?_) (fun t ht => ?_)) (rel_yV _ _ _ (by decide)) (fun f hf => ?_)
    · rw [xV_nf (f := 6) (f' := 4) (by decide), xV_nf (f := 6) (f' := 5) (by decide)]
      exact h.1.link hj
    · have o := h.1.sp ht
      rw [xV_yV, xV_nf (f := 6) (f' := 7) (by decide)]
      refine ⟨?_, o.2⟩
      split
      · split <;> omega
      · exact o.1
    · simp only [List.mem_cons, List.not_mem_nil, or_false] at hf
      rcases hf with rfl | rfl | rfl | rfl <;> rw [xV_nf (by decide)]
theorem good_x0 : good 0 x0 := by
  have e : ∀ f i, f ≠ 7 → xV x0 f i = 0 := fun f i hf => if_neg (fun z => hf z.1)
  have eB : ∀ w m i, xB x0 w m i = false := fun _ _ _ => rfl
  have eL : ∀ q, xL x0 q = [] := fun _ => rfl
  refine ⟨⟨⟨?_, fun k hk => ?_, fun s hs => ?_⟩, fun m hm => ?_, fun m hm => ?_, fun m => ?_, fun m hm => ?_, ⟨fun q x hx => ?_, fun q hq => ?_, fun a ha => ?_, fun k hk => ?_⟩, fun a ha => ?_, fun i hi => ?_⟩, fun a ha => ?_, fun m hm => ?_, fun m m' hm => ?_⟩
  · rw [e 1 0 (by decide)]; decide
  · rw [e 4 k (by decide), e 5 k (by decide)]; decide
  · rw [e 6 s (by decide)]
    refine ⟨by decide, ?_⟩
    show (if 7 = 7 ∧ s < 2 then 1 else 0) ≤ 1
    split <;> decide
  · rw [e 8 m (by decide), e 9 m (by decide), e 10 m (by decide), e 11 m (by decide), e 12 m (by decide), e 13 m (by decide), e 14 m (by decide), e 15 m (by decide), e 16 m (by decide), e 17 m (by decide), e 19 m (by decide), e 21 m (by decide), e 22 m (by decide), e 23 m (by decide)]
    decide
  · rw [e 1 0 (by decide)] at hm
    exact absurd hm (Nat.not_lt_zero m)
  · refine ⟨fun i hi => ?_, fun i hi => ?_, fun q => ?_, fun _ i => eB 1 m i⟩
    · rw [eB] at hi; cases hi
    · rw [eB] at hi; cases hi
    · rw [e 19 m (by decide)] at q; cases q
  · exact ⟨fun f h8 h26 => e f m (by omega), fun w i => eB w m i⟩
  · rw [eL] at hx; cases hx
  · rw [eL]; exact Nat.zero_le _
  · rw [eL]; exact Nat.zero_le _
  · rw [eL]; exact Nat.zero_le _
  · rw [e 28 a (by decide)]
    exact ⟨by decide, fun k hk => absurd hk (Nat.not_lt_zero k)⟩
  · rw [e 31 i (by decide)]; decide
  · rw [e 26 a (by decide), e 30 a (by decide)]; decide
  · rw [e 24 m (by decide)]; exact Nat.zero_le _
  · rw [e 1 0 (by decide)] at hm
    exact absurd hm (Nat.not_lt_zero m)
theorem WX.w32 {S : jS} {w : Nat → Nat → Nat} {hx : Nat} {X : XS} (h : WX S w hx X) (v : Nat) : WX S w hx (yV X 32 0 v) := by
  refine h.num ⟨rfl, rfl, rfl⟩ (fun _ _ _ _ _ => rfl) (fun f hf => xV_nf (fun e => ?_)) rfl rfl (fun f i hi => ?_)
  · subst e
    revert hf
    decide
  · have := dmN_lt hi
    rw [xV_nf (by omega)]
    exact h.2.2.2.1 f i hi
