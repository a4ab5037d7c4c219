/-! THE CLASS: a message more in the picture -/
theorem cN_s {M c i : Nat} (h : i < cN (M + 1) c) : i < cN M c ∨ (i = M ∧ (c = 3 ∨ c = 4 ∨ c = 6)) := by
  have hc := cN_lt h
  rcases (show c = 0 ∨ c = 1 ∨ c = 2 ∨ c = 3 ∨ c = 4 ∨ c = 5 ∨ c = 6 ∨ c = 7 ∨ c = 8 ∨ c = 9 ∨ c = 10 ∨ c = 11 ∨ c = 12 ∨ c = 13 by omega) with rfl | rfl | rfl | rfl | rfl | rfl | rfl | rfl | rfl | rfl | rfl | rfl | rfl | rfl
  all_goals first | exact Or.inl h | (have h : i < M + 1 := h; by_cases e : i = M; (· exact Or.inr ⟨e, by simp⟩); (· exact Or.inl (show i < M by omega)))
theorem dmN_s {M f i : Nat} (h : i < dmN (M + 1) f) : i < dmN M f ∨ (i = M ∧ 8 ≤ f ∧ f < 26 ∧ f ≠ 11) := by
  have hc := dmN_lt h
  rcases (show f = 0 ∨ f = 1 ∨ f = 2 ∨ f = 3 ∨ f = 4 ∨ f = 5 ∨ f = 6 ∨ f = 7 ∨ f = 8 ∨ f = 9 ∨ f = 10 ∨ f = 11 ∨ f = 12 ∨ f = 13 ∨ f = 14 ∨ f = 15 ∨ f = 16 ∨ f = 17 ∨ f = 18 ∨ f = 19 ∨ f = 20 ∨ f = 21 ∨ f = 22 ∨ f = 23 ∨ f = 24 ∨ f = 25 ∨ f = 26 ∨ f = 27 ∨ f = 28 ∨ f = 29 ∨ f = 30 ∨ f = 31 by omega) with rfl | rfl | rfl | rfl | rfl | rfl | rfl | rfl | rfl | rfl | rfl | rfl | rfl | rfl | rfl | rfl | rfl | rfl | rfl | rfl | rfl | rfl | rfl | rfl | rfl | rfl | rfl | rfl | rfl | rfl | rfl | rfl
  all_goals first | exact Or.inl h | (have h : i < M + 1 := h; by_cases e : i = M; (· exact Or.inr ⟨e, by decide, by decide, by decide⟩); (· exact Or.inl (show i < M by omega)))
theorem beg_o (X : XS) (a b n md : Nat) {f : Nat} (h : f ∉ [1, 8, 9, 10, 11, 14, 15]) : xV (x_begin X a b n md) f = xV X f := by
  simp only [List.mem_cons, List.not_mem_nil, or_false, not_or] at h
  unfold x_begin
  rw [xV_nf h.2.2.2.2.2.2, xV_nf h.2.2.2.2.2.1, xV_nf h.2.2.2.2.1, xV_nf h.2.2.2.1, xV_nf h.2.2.1, xV_nf h.2.1, xV_nf h.1]
theorem beg_1 (X : XS) (a b n md : Nat) : xV (x_begin X a b n md) 1 0 = xV X 1 0 + 1 := by
  unfold x_begin
  rw [xV_nf (by decide), xV_nf (by decide), xV_nf (by decide), xV_nf (by decide), xV_nf (by decide), xV_nf (by decide), xV_yV, if_pos ⟨rfl, rfl⟩]
theorem beg_8 (X : XS) (a b n md i : Nat) : xV (x_begin X a b n md) 8 i = if i = xV X 1 0 then a else xV X 8 i := by
  unfold x_begin
  rw [xV_nf (by decide), xV_nf (by decide), xV_nf (by decide), xV_nf (by decide), xV_nf (by decide), xV_yV, xV_nf (f := 1) (f' := 8) (by decide)]
  simp
theorem beg_9 (X : XS) (a b n md i : Nat) : xV (x_begin X a b n md) 9 i = if i = xV X 1 0 then b else xV X 9 i := by
  unfold x_begin
  rw [xV_nf (by decide), xV_nf (by decide), xV_nf (by decide), xV_nf (by decide), xV_yV, xV_nf (f := 8) (f' := 9) (by decide), xV_nf (f := 1) (f' := 9) (by decide)]
  simp
theorem beg_10 (X : XS) (a b n md i : Nat) : xV (x_begin X a b n md) 10 i = if i = xV X 1 0 then n else xV X 10 i := by
  unfold x_begin
  rw [xV_nf (by decide), xV_nf (by decide), xV_nf (by decide), xV_yV, xV_nf (f := 9) (f' := 10) (by decide), xV_nf (f := 8) (f' := 10) (by decide), xV_nf (f := 1) (f' := 10) (by decide)]
  simp
theorem beg_11 (X : XS) (a b n md i : Nat) : xV (x_begin X a b n md) 11 i = if i = xV X 1 0 then md else xV X 11 i := by
  unfold x_begin
  rw [xV_nf (by decide), xV_nf (by decide), xV_yV, xV_nf (f := 10) (f' := 11) (by decide), xV_nf (f := 9) (f' := 11) (by decide), xV_nf (f := 8) (f' := 11) (by decide), xV_nf (f := 1) (f' := 11) (by decide)]
  simp
theorem beg_14 (X : XS) (a b n md i : Nat) : xV (x_begin X a b n md) 14 i = if i = xV X 1 0 then (if n < 4 then n else 4) else xV X 14 i := by
  unfold x_begin
  rw [xV_nf (by decide), xV_yV, xV_nf (f := 11) (f' := 14) (by decide), xV_nf (f := 10) (f' := 14) (by decide), xV_nf (f := 9) (f' := 14) (by decide), xV_nf (f := 8) (f' := 14) (by decide), xV_nf (f := 1) (f' := 14) (by decide)]
  simp
theorem beg_15 (X : XS) (a b n md i : Nat) : xV (x_begin X a b n md) 15 i = if i = xV X 1 0 then 3 else xV X 15 i := by
  unfold x_begin
  rw [xV_yV, xV_nf (f := 14) (f' := 15) (by decide), xV_nf (f := 11) (f' := 15) (by decide), xV_nf (f := 10) (f' := 15) (by decide), xV_nf (f := 9) (f' := 15) (by decide), xV_nf (f := 8) (f' := 15) (by decide), xV_nf (f := 1) (f' := 15) (by decide)]
  simp
theorem beg_lt (X : XS) (a b n md : Nat) {f i : Nat} (hf : f ≠ 1) (hi : i ≠ xV X 1 0) : xV (x_begin X a b n md) f i = xV X f i := by
  by_cases h8 : f = 8
  · rw [h8, beg_8, if_neg hi]
  by_cases h9 : f = 9
  · rw [h9, beg_9, if_neg hi]
  by_cases h10 : f = 10
  · rw [h10, beg_10, if_neg hi]
  by_cases h11 : f = 11
  · rw [h11, beg_11, if_neg hi]
  by_cases h14 : f = 14
  · rw [h14, beg_14, if_neg hi]
  by_cases h15 : f = 15
  · rw [h15, beg_15, if_neg hi]
  rw [beg_o X a b n md (by simp [hf, h8, h9, h10, h11, h14, h15])]
theorem outs_grow {M a : Nat} {fr fr' : Nat → Nat} (he : ∀ i, i < M → fr' i = fr i) (hM : fr' M = a) (h : Nat) : outsF (M + 1) fr' h = outsF M fr h ++ if a = h then [M] else [] := by
  unfold outsF
  rw [filter_s]
  have e : (List.range M).filter (fun x => decide (fr' x = h)) = (List.range M).filter (fun x => decide (fr x = h)) := List.filter_congr (fun x hx => by rw [he x (List.mem_range.mp hx)])
  rw [e, hM]
  congr 1
  by_cases q : a = h <;> simp [q]
theorem lens_grow (X : XS) (a b n md h : Nat) : x_lens (x_begin X a b n md) h = x_lens X h ++ if a = h then [n] else [] := by
  have e := outs_grow (M := xV X 1 0) (a := a) (fr := xV X 8) (fr' := xV (x_begin X a b n md) 8) (fun i hi => by rw [beg_8, if_neg (by omega)]) (by rw [beg_8, if_pos rfl]) h
  have e1 : x_lens (x_begin X a b n md) h = (outsF (xV X 1 0 + 1) (xV (x_begin X a b n md) 8) h).map (xV (x_begin X a b n md) 10) := by
    unfold x_lens outsF
    rw [beg_1]
  rw [e1, e, List.map_append]
  have e2 : (outsF (xV X 1 0) (xV X 8) h).map (xV (x_begin X a b n md) 10) = x_lens X h := by
    refine List.map_congr_left (fun x hx => ?_)
    unfold outsF at hx
    have := List.mem_range.mp (List.mem_filter.mp hx).1
    rw [beg_10, if_neg (by omega)]
  rw [e2]
  congr 1
  by_cases q : a = h
  · rw [if_pos q, if_pos q]
    show [xV (x_begin X a b n md) 10 (xV X 1 0)] = [n]
    rw [beg_10, if_pos rfl]
  · rw [if_neg q, if_neg q]
    rfl
theorem pkF_congr {fr go fr' go' : Nat → Nat} {e : Nat × Nat × Nat} {p : Nat} (h1 : fr' e.2.1 = fr e.2.1) (h2 : go' e.2.1 = go e.2.1) : pkF fr' go' e p = pkF fr go e p := by
  unfold pkF
  rw [h1, h2]
theorem WX.grow {S S' : jS} {w : Nat → Nat → Nat} {X : XS} {a b n md : Nat} (h : WX S w 8 X) (hI : xOK X) (ha : a < 8) (hb : b < 8)
    (o1 : ∀ c x, sAt S c x → sAt S' c x) (o2 : ∀ c i, i < cN (xV X 1 0) c → sN S' (w c i) = sN S (w c i)) (inj : ∀ i, i < xV X 1 0 → w 3 i ≠ w 3 (xV X 1 0) ∧ w 4 i ≠ w 4 (xV X 1 0) ∧ w 6 i ≠ w 6 (xV X 1 0)) (n3 : sAt S' 3 (w 3 (xV X 1 0))) (n4 : sAt S' 4 (w 4 (xV X 1 0))) (n6 : sAt S' 6 (w 6 (xV X 1 0)))
    (iI : ∀ c i k, i < cN (xV X 1 0) c → ¬ ((c = 7 ∧ k = 3) ∨ (c = 2 ∧ i = a ∧ k = 6) ∨ (c = 2 ∧ i = b ∧ k = 7) ∨ (c = 0 ∧ i = a) ∨ (c = 9 ∧ (i = 75 + a ∨ i = 83 + a))) → sI S' c (w c i) k = sI S c (w c i) k) (iJ : ∀ c i k, i < cN (xV X 1 0) c → sJ S' c (w c i) k = sJ S c (w c i) k)
    (iP : ∀ c i k, i < cN (xV X 1 0) c → ¬ ((c = 12 ∧ i = 0 ∧ k = xV X 1 0) ∨ (c = 12 ∧ i = 1 + a ∧ k = (outsF (xV X 1 0) (xV X 8) a).length) ∨ (c = 12 ∧ i = 9 + b ∧ k = (outsF (xV X 1 0) (xV X 9) b).length)) → sP S' c (w c i) k = sP S c (w c i) k)
    (p0 : sP S' 12 (w 12 0) (xV X 1 0) = some (w 3 (xV X 1 0))) (p1 : sP S' 12 (w 12 (1 + a)) (outsF (xV X 1 0) (xV X 8) a).length = some (w 3 (xV X 1 0))) (p2 : sP S' 12 (w 12 (9 + b)) (outsF (xV X 1 0) (xV X 9) b).length = some (w 3 (xV X 1 0)))
    (q4 : sP S' 3 (w 3 (xV X 1 0)) 4 = some (w 6 (xV X 1 0))) (q5 : sP S' 3 (w 3 (xV X 1 0)) 5 = some (w 4 (xV X 1 0)))
    (v1 : sI S' 7 (w 7 0) 3 = nI (xV X 1 0 + 1)) (vo : sI S' 2 (w 2 a) 6 = nI ((outsF (xV X 1 0) (xV X 8) a).length + 1)) (vi : sI S' 2 (w 2 b) 7 = nI ((outsF (xV X 1 0) (xV X 9) b).length + 1))
    (f3 : newM (sI S' 3 (w 3 (xV X 1 0))) (xV X 1 0) a b n) (f6 : newS (sI S' 6 (w 6 (xV X 1 0))) n) (f4 : newR (sI S' 4 (w 4 (xV X 1 0))) n md) (j6 : sJ S' 6 (w 6 (xV X 1 0)) 5 = 0) (j4 : sJ S' 4 (w 4 (xV X 1 0)) 4 = 0)
    (cut : xCut1 S' w a (x_lens X a ++ [n]) (cutL (x_lens X a ++ [n]) 1) (cutL (x_lens X a ++ [n]) 2)) : WX S' w 8 (x_begin X a b n md) := by
  obtain ⟨g1, g2, g3, g4, g5, g6, g7, g8, g9, g10, g11, g12⟩ := h
  have hnew := hI.new (m := xV X 1 0) (Nat.le_refl _)
  have eL : xL (x_begin X a b n md) = xL X := rfl
  have eB : xB (x_begin X a b n md) = xB X := rfl
  have u8 : ∀ h, outsF (xV X 1 0 + 1) (xV (x_begin X a b n md) 8) h = outsF (xV X 1 0) (xV X 8) h ++ if a = h then [xV X 1 0] else [] := outs_grow (fun i hi => by rw [beg_8, if_neg (by omega)]) (by rw [beg_8, if_pos rfl])
  have u9 : ∀ h, outsF (xV X 1 0 + 1) (xV (x_begin X a b n md) 9) h = outsF (xV X 1 0) (xV X 9) h ++ if b = h then [xV X 1 0] else [] := outs_grow (fun i hi => by rw [beg_9, if_neg (by omega)]) (by rw [beg_9, if_pos rfl])
  have hel : ∀ q e, e ∈ xL X q → e.2.1 < xV X 1 0 := fun q e he => (hI.list.1 q e he).2.1
  have pk : ∀ q e p, e ∈ xL X q → pkF (xV (x_begin X a b n md) 8) (xV (x_begin X a b n md) 9) e p = pkF (xV X 8) (xV X 9) e p := fun q e p he => by
    have := hel q e he
    exact pkF_congr (by rw [beg_8, if_neg (by omega)]) (by rw [beg_9, if_neg (by omega)])
  unfold WX
  rw [beg_1]
  refine ⟨?_, ?_, ?_, ?_, ?_, ?_, ?_, ?_, ?_, ?_, ?_, ?_⟩
  · intro c i hi
    rcases cN_s hi with z | ⟨rfl, z⟩
    · obtain ⟨y1, y2⟩ := g1 c i z
      exact ⟨o1 c _ y1, fun h9 => (o2 c i z).trans (y2 h9)⟩
    · rcases z with rfl | rfl | rfl
      · exact ⟨n3, fun z => absurd z (by decide)⟩
      · exact ⟨n4, fun z => absurd z (by decide)⟩
      · exact ⟨n6, fun z => absurd z (by decide)⟩
  · intro c i i' hi hi' e
    rcases cN_s hi with z | ⟨z1, z2⟩
    · rcases cN_s hi' with y | ⟨y1, y2⟩
      · exact g2 c i i' z y e
      · rw [y1] at e
        rcases y2 with rfl | rfl | rfl
        · exact absurd e (inj i z).1
        · exact absurd e (inj i z).2.1
        · exact absurd e (inj i z).2.2
    · rcases cN_s hi' with y | ⟨y1, y2⟩
      · rw [z1] at e
        rcases z2 with rfl | rfl | rfl
        · exact absurd e.symm (inj i' y).1
        · exact absurd e.symm (inj i' y).2.1
        · exact absurd e.symm (inj i' y).2.2
      · omega
  · intro c i k c' i' hi hr
    rcases cN_s hi with z | ⟨rfl, z⟩
    · by_cases hc : c = 12
      · subst hc
        have hr : (if i = 0 then (if k < xV X 1 0 + 1 then some (3, k) else none) else if i < 9 then ((outsF (xV X 1 0 + 1) (xV (x_begin X a b n md) 8) (i - 1))[k]?).map (fun x => (3, x)) else ((outsF (xV X 1 0 + 1) (xV (x_begin X a b n md) 9) (i - 9))[k]?).map (fun x => (3, x))) = some (c', i') := hr
        have z : i < 17 := z
        by_cases i0 : i = 0
        · subst i0
          rw [if_pos rfl] at hr
          split at hr
          case isTrue hk =>
            cases hr
            by_cases e : k = xV X 1 0
            · subst e
              exact p0
            · rw [iP 12 0 k z (by omega)]
              exact g3 12 0 k 3 k z (if_pos (by omega))
          case isFalse => cases hr
        · rw [if_neg i0] at hr
          by_cases i9 : i < 9
          · rw [if_pos i9, u8] at hr
            have hrf : ∀ x, (outsF (xV X 1 0) (xV X 8) (i - 1))[k]? = some x → rf (xV X 1 0) (xV X 8) (xV X 9) 12 i k = some (3, x) := fun x hx => by
              show (if i = 0 then _ else if i < 9 then ((outsF (xV X 1 0) (xV X 8) (i - 1))[k]?).map (fun x => (3, x)) else _) = _
              rw [if_neg i0, if_pos i9, hx]
              rfl
            by_cases e : k < (outsF (xV X 1 0) (xV X 8) (i - 1)).length
            · rw [List.getElem?_append_left e, List.getElem?_eq_getElem e] at hr
              cases hr
              rw [iP 12 i k z (by
                rintro (q | q | q)
                · omega
                · rw [show i - 1 = a by omega] at e; omega
                · omega)]
              exact g3 12 i k 3 _ z (hrf _ (List.getElem?_eq_getElem e))
            · rw [List.getElem?_append_right (by omega)] at hr
              by_cases q : a = i - 1
              · rw [if_pos q] at hr
                by_cases e2 : k = (outsF (xV X 1 0) (xV X 8) (i - 1)).length
                · rw [e2, Nat.sub_self] at hr
                  cases hr
                  rw [e2, ← q, show i = 1 + a by omega]
                  exact p1
                · rw [List.getElem?_eq_none (by simp; omega)] at hr
                  cases hr
              · rw [if_neg q] at hr
                cases hr
          · rw [if_neg i9, u9] at hr
            have hrf : ∀ x, (outsF (xV X 1 0) (xV X 9) (i - 9))[k]? = some x → rf (xV X 1 0) (xV X 8) (xV X 9) 12 i k = some (3, x) := fun x hx => by
              show (if i = 0 then _ else if i < 9 then _ else ((outsF (xV X 1 0) (xV X 9) (i - 9))[k]?).map (fun x => (3, x))) = _
              rw [if_neg i0, if_neg i9, hx]
              rfl
            by_cases e : k < (outsF (xV X 1 0) (xV X 9) (i - 9)).length
            · rw [List.getElem?_append_left e, List.getElem?_eq_getElem e] at hr
              cases hr
              rw [iP 12 i k z (by
                rintro (q | q | q)
                · omega
                · omega
                · rw [show i - 9 = b by omega] at e; omega)]
              exact g3 12 i k 3 _ z (hrf _ (List.getElem?_eq_getElem e))
            · rw [List.getElem?_append_right (by omega)] at hr
              by_cases q : b = i - 9
              · rw [if_pos q] at hr
                by_cases e2 : k = (outsF (xV X 1 0) (xV X 9) (i - 9)).length
                · rw [e2, Nat.sub_self] at hr
                  cases hr
                  rw [e2, ← q, show i = 9 + b by omega]
                  exact p2
                · rw [List.getElem?_eq_none (by simp; omega)] at hr
                  cases hr
              · rw [if_neg q] at hr
                cases hr
      · rw [iP c i k z (by omega)]
        refine g3 c i k c' i' z ?_
        have hc14 := cN_lt z
        rcases (show c = 0 ∨ c = 1 ∨ c = 2 ∨ c = 3 ∨ c = 4 ∨ c = 5 ∨ c = 6 ∨ c = 7 ∨ c = 8 ∨ c = 9 ∨ c = 10 ∨ c = 11 ∨ c = 13 by omega) with rfl | rfl | rfl | rfl | rfl | rfl | rfl | rfl | rfl | rfl | rfl | rfl | rfl <;> exact hr
    · rcases z with rfl | rfl | rfl
      · have hr : (if k = 4 then some (6, xV X 1 0) else if k = 5 then some (4, xV X 1 0) else none) = some (c', i') := hr
        by_cases e4 : k = 4
        · rw [if_pos e4] at hr
          cases hr
          rw [e4]
          exact q4
        · rw [if_neg e4] at hr
          by_cases e5 : k = 5
          · rw [if_pos e5] at hr
            cases hr
            rw [e5]
            exact q5
          · rw [if_neg e5] at hr
            cases hr
      · cases hr
      · cases hr
  · intro f i hi
    rcases dmN_s hi with z | ⟨rfl, z1, z2, z3⟩
    · by_cases e1 : f = 1
      · subst e1
        have z : i < 1 := z
        rw [show i = 0 by omega, beg_1]
        exact v1
      · have hc := nCell_is (xV X 1 0) f i z
        have hf := dmN_lt z
        rw [iI _ _ _ hc.2 ?_, g4 f i z]
        · by_cases q : i = xV X 1 0
          · by_cases hfm : f ∈ [8, 9, 10, 11, 14, 15]
            · simp only [List.mem_cons, List.not_mem_nil, or_false] at hfm
              rcases hfm with rfl | rfl | rfl | rfl | rfl | rfl
              · exact absurd z (by show ¬ i < xV X 1 0; omega)
              · exact absurd z (by show ¬ i < xV X 1 0; omega)
              · exact absurd z (by show ¬ i < xV X 1 0; omega)
              · exact absurd z (Nat.not_lt_zero i)
              · exact absurd z (by show ¬ i < xV X 1 0; omega)
              · exact absurd z (by show ¬ i < xV X 1 0; omega)
            · rw [beg_o X a b n md (by simp at hfm ⊢; omega)]
          · rw [beg_lt X a b n md e1 q]
        · intro y
          have hx := hc.1
          clear iI iJ iP p0 p1 p2 q4 q5 v1 vo vi f3 f6 f4 cut u8 u9 pk hel g1 g2 g3 g4 g5 g6 g7 g8 g9 g10 g11 g12 hI inj o1 o2
          rcases (show f = 0 ∨ f = 2 ∨ f = 3 ∨ f = 4 ∨ f = 5 ∨ f = 6 ∨ f = 7 ∨ f = 8 ∨ f = 9 ∨ f = 10 ∨ f = 11 ∨ f = 12 ∨ f = 13 ∨ f = 14 ∨ f = 15 ∨ f = 16 ∨ f = 17 ∨ f = 18 ∨ f = 19 ∨ f = 20 ∨ f = 21 ∨ f = 22 ∨ f = 23 ∨ f = 24 ∨ f = 25 ∨ f = 26 ∨ f = 27 ∨ f = 28 ∨ f = 29 ∨ f = 30 ∨ f = 31 by omega) with rfl | rfl | rfl | rfl | rfl | rfl | rfl | rfl | rfl | rfl | rfl | rfl | rfl | rfl | rfl | rfl | rfl | rfl | rfl | rfl | rfl | rfl | rfl | rfl | rfl | rfl | rfl | rfl | rfl | rfl | rfl
          all_goals (simp only [c1, c2, c3] at y; omega)
    · obtain ⟨a3, b3, c3', d3⟩ := f3
      obtain ⟨a6, b6, c6, d6, e6, x6, y6, z6⟩ := f6
      obtain ⟨a4, b4, c4, d4, e4, x4, y4, z4, t4⟩ := f4
      have hz : ∀ f, 8 ≤ f → f < 26 → f ∉ [8, 9, 10, 11, 14, 15] → xV (x_begin X a b n md) f (xV X 1 0) = 0 := fun f h1 h2 h3 => by
        rw [beg_o X a b n md (by simp at h3 ⊢; omega)]
        exact hnew.1 f h1 h2
      rcases (show f = 8 ∨ f = 9 ∨ f = 10 ∨ f = 12 ∨ f = 13 ∨ f = 14 ∨ f = 15 ∨ f = 16 ∨ f = 17 ∨ f = 18 ∨ f = 19 ∨ f = 20 ∨ f = 21 ∨ f = 22 ∨ f = 23 ∨ f = 24 ∨ f = 25 by omega) with rfl | rfl | rfl | rfl | rfl | rfl | rfl | rfl | rfl | rfl | rfl | rfl | rfl | rfl | rfl | rfl | rfl
      · rw [beg_8, if_pos rfl]; exact b3
      · rw [beg_9, if_pos rfl]; exact c3'
      · rw [beg_10, if_pos rfl]; exact d3
      · rw [hz 12 (by decide) (by decide) (by decide)]; exact b6
      · rw [hz 13 (by decide) (by decide) (by decide)]; exact c6
      · rw [beg_14, if_pos rfl]; exact d6
      · rw [beg_15, if_pos rfl]; exact e6
      · rw [hz 16 (by decide) (by decide) (by decide)]; exact x6
      · rw [hz 17 (by decide) (by decide) (by decide)]; exact y6
      · rw [hz 18 (by decide) (by decide) (by decide)]; exact z6
      · rw [hz 19 (by decide) (by decide) (by decide)]; exact c4
      · rw [hz 20 (by decide) (by decide) (by decide)]; exact d4
      · rw [hz 21 (by decide) (by decide) (by decide)]; exact e4
      · rw [hz 22 (by decide) (by decide) (by decide)]; exact x4
      · rw [hz 23 (by decide) (by decide) (by decide)]; exact y4
      · rw [hz 24 (by decide) (by decide) (by decide)]; exact z4
      · rw [hz 25 (by decide) (by decide) (by decide)]; exact t4
  · intro m hm
    by_cases e : m = xV X 1 0
    · subst e
      rw [beg_10, if_pos rfl, beg_11, if_pos rfl]
      exact ⟨f3.1, f6.1, f4.1, f4.2.1⟩
    · have hm : m < xV X 1 0 := by omega
      rw [beg_10, if_neg e, beg_11, if_neg e, iI 3 m 0 hm (by omega), iI 6 m 0 hm (by omega), iI 4 m 0 hm (by omega), iI 4 m 1 hm (by omega)]
      exact g5 m hm
  · intro m hm
    rw [eB]
    by_cases e : m = xV X 1 0
    · subst e
      rw [j6, j4]
      exact ⟨isB_congr isB_0 (fun i _ => (hnew.2 0 i).symm), isB_congr isB_0 (fun i _ => (hnew.2 1 i).symm)⟩
    · have hm : m < xV X 1 0 := by omega
      rw [iJ 6 m 5 hm, iJ 4 m 4 hm]
      exact g6 m hm
  · intro k hk
    rw [iI 9 72 k (show 72 < 107 by decide) (by omega), g7 k hk, eL, beg_o X a b n md (f := 5) (by decide)]
    cases hl : xL X (200 + k) with
    | nil => rfl
    | cons e t =>
      show nI (pkF (xV X 8) (xV X 9) e (xV X 5 k)) = nI (pkF (xV (x_begin X a b n md) 8) (xV (x_begin X a b n md) 9) e (xV X 5 k))
      rw [pk (200 + k) e _ (by rw [hl]; exact List.mem_cons_self)]
  · intro r hr
    rw [eL]
    obtain ⟨f, y1, y2, y3, y4, y5⟩ := g8 r hr
    refine ⟨f, y1, y2, ?_, ?_, fun i e he => ?_⟩
    · rw [iI 5 r 1 hr (by omega)]; exact y3
    · rw [iI 5 r 2 hr (by omega)]; exact y4
    · rw [iI 9 r _ (show r < 107 by omega) (by omega), y5 i e he, pk (32 + r) e _ (List.mem_of_getElem? he)]
  · intro s hs
    rw [iI 10 0 s Nat.one_pos (by omega), beg_o X a b n md (f := 6) (by decide)]
    exact g9 s hs
  · intro h hh hne k hk
    rw [iI 9 (91 + h) k (show 91 + h < 107 by omega) (by omega), beg_o X a b n md (f := 28) (by decide), beg_o X a b n md (f := 29) (by decide)]
    exact g10 h hh hne k hk
  · intro h hh
    rw [u8, u9]
    obtain ⟨y1, y2⟩ := g11 h hh
    constructor
    · by_cases e : a = h
      · subst e
        rw [if_pos rfl, List.length_append]
        exact vo
      · rw [if_neg e, List.append_nil, iI 2 h 6 hh (by omega)]
        exact y1
    · by_cases e : b = h
      · subst e
        rw [if_pos rfl, List.length_append]
        exact vi
      · rw [if_neg e, List.append_nil, iI 2 h 7 hh (by omega)]
        exact y2
  · intro h hh
    rw [x_cut_L, x_cut_L, lens_grow]
    by_cases e : a = h
    · subst e
      rw [if_pos rfl]
      exact cut
    · rw [if_neg e, List.append_nil]
      obtain ⟨y1, y2, y3, y4, y5⟩ := g12 h hh
      refine ⟨?_, ?_, ?_, ?_, fun t v hv ht => ?_⟩
      · rw [iI 0 h 2 hh (by omega)]; exact y1
      · rw [iI 0 h 3 hh (by omega)]; exact y2
      · rw [iI 0 h 4 hh (by omega)]; exact y3
      · rw [iI 0 h 5 hh (by omega)]; exact y4
      · rw [iI 9 (75 + h) _ (show 75 + h < 107 by omega) (by omega)]
        exact y5 t v hv ht
