theorem dec1 (j : Nat) : nI (j + 1) + Int32.ofInt (-1) = nI j := pk_m1 j
/-! cutoffs by counting -/
theorem cnt_congr {f f' : Nat → Bool} : ∀ {n : Nat}, (∀ i, i < n → f i = f' i) → cnt f n = cnt f' n
  | 0, _ => rfl
  | n + 1, h => by
    unfold cnt
    rw [cnt_congr (fun i hi => h i (by omega)), h n (by omega)]
theorem cnt_add {f f' f2 : Nat → Bool} (h : ∀ i, (if f i then 1 else 0) = (if f' i then 1 else 0) + (if f2 i then (1 : Nat) else 0)) : ∀ n, cnt f n = cnt f' n + cnt f2 n
  | 0 => rfl
  | n + 1 => by
    unfold cnt
    rw [cnt_add h n, h n]
    omega
theorem cnt_mono {f f' : Nat → Bool} (h : ∀ i, f i = true → f' i = true) : ∀ n, cnt f n ≤ cnt f' n
  | 0 => Nat.le_refl _
  | n + 1 => by
    have := cnt_mono h n
    unfold cnt
    by_cases hf : f n = true
    · rw [hf, h n hf]
      simp
      exact this
    · rw [if_neg hf]
      omega
theorem cnt_le_n {f : Nat → Bool} {a n : Nat} (h : a ≤ n) : cnt f a ≤ cnt f n := by
  induction n with
  | zero => rw [Nat.le_zero.mp h]; exact Nat.le_refl _
  | succ n ih =>
    by_cases e : a = n + 1
    · rw [e]
      exact Nat.le_refl _
    · have := ih (by omega)
      show cnt f a ≤ cnt f n + _
      omega
/-- the j-th that has f -/
theorem cnt_nth {f : Nat → Bool} : ∀ {n j : Nat}, j < cnt f n → ∃ x, x < n ∧ f x = true ∧ cnt f x = j
  | 0, j, h => absurd h (Nat.not_lt_zero _)
  | n + 1, j, h => by
    by_cases h1 : j < cnt f n
    · obtain ⟨x, hx, e⟩ := cnt_nth h1
      exact ⟨x, by omega, e⟩
    · unfold cnt at h
      by_cases hf : f n = true
      · rw [if_pos hf] at h
        exact ⟨n, by omega, hf, by omega⟩
      · rw [if_neg hf] at h
        omega
theorem cnt_lt {f : Nat → Bool} {x n : Nat} (hx : x < n) (hf : f x = true) : cnt f x < cnt f n := by
  have h1 : cnt f (x + 1) = cnt f x + 1 := by
    show cnt f x + (if f x then 1 else 0) = _
    rw [hf]
    rfl
  have := cnt_le_n (f := f) (a := x + 1) (n := n) hx
  omega
theorem cnt_list (p : Nat → Bool) (q : Nat → Nat) (v : Nat) : ∀ n, cle (((List.range n).filter p).map q) v = cnt (fun y => p y && decide (q y ≤ v)) n
  | 0 => rfl
  | n + 1 => by
    have ih := cnt_list p q v n
    rw [List.range_succ, List.filter_append, List.map_append]
    unfold cle at ih ⊢
    rw [List.filter_append, List.length_append, ih]
    show _ = cnt _ n + _
    congr 1
    by_cases hp : p n = true
    · by_cases hq : q n ≤ v
      · simp [hp, hq]
      · simp [hp, hq]
    · simp [hp]
theorem cnt_len (p : Nat → Bool) : ∀ n, ((List.range n).filter p).length = cnt p n
  | 0 => rfl
  | n + 1 => by
    rw [List.range_succ, List.filter_append, List.length_append, cnt_len p n]
    show _ = cnt p n + _
    congr 1
    by_cases hp : p n = true
    · simp [hp]
    · simp [hp]
/-- the window of messages from h that begin at number f -/
def win (X : XS) (h f : Nat) : Nat → Bool := fun y => decide (f ≤ y) && decide (xV X 8 y = h)
def x_rank (X : XS) (h f x : Nat) : Nat → Bool := fun y => win X h f y && (decide (xV X 10 y < xV X 10 x) || (decide (xV X 10 y = xV X 10 x) && decide (y < x)))
theorem filter_split {p : Nat → Bool} {f : Nat} : ∀ {n : Nat}, f ≤ n → (List.range n).filter p = (List.range f).filter p ++ (List.range n).filter (fun y => decide (f ≤ y) && p y)
  | n, h => by
    induction n with
    | zero =>
      rw [Nat.le_zero.mp h]
      rfl
    | succ n ih =>
      by_cases e : f = n + 1
      · subst e
        rw [show (List.range (n + 1)).filter (fun y => decide (n + 1 ≤ y) && p y) = [] from ?_, List.append_nil]
        apply List.filter_eq_nil_iff.mpr
        intro y hy
        have := List.mem_range.mp hy
        simp
        omega
      · have hf : f ≤ n := by omega
        rw [List.range_succ, List.filter_append, List.filter_append, ih hf, List.append_assoc]
        congr 2
        by_cases hp : p n = true
        · simp [hp, hf]
        · simp [hp]
theorem late_win {X : XS} {h f : Nat} (hf : f ≤ xV X 1 0) (h0 : f = 0 ∨ cnt (win X h f) (xV X 1 0) = 16) (h16 : cnt (win X h f) (xV X 1 0) ≤ 16) : x_late X h = ((List.range (xV X 1 0)).filter (win X h f)).map (fun x => xV X 10 x) := by
  have hs : x_lens X h = ((List.range f).filter (fun x => decide (xV X 8 x = h))).map (fun x => xV X 10 x) ++ ((List.range (xV X 1 0)).filter (win X h f)).map (fun x => xV X 10 x) := by
    unfold x_lens win
    rw [filter_split (p := fun x => decide (xV X 8 x = h)) hf, List.map_append]
  have hl : (((List.range (xV X 1 0)).filter (win X h f)).map (fun x => xV X 10 x)).length = cnt (win X h f) (xV X 1 0) := by
    rw [List.length_map, cnt_len]
  unfold x_late
  rw [hs, List.length_append, hl]
  rcases h0 with rfl | h0
  · rw [show (List.range 0).filter (fun x => decide (xV X 8 x = h)) = [] from rfl, List.map_nil, List.nil_append]
    rw [show ([] : List Nat).length + cnt (win X h 0) (xV X 1 0) - 16 = 0 by simp; omega]
    rfl
  · rw [h0, Nat.add_sub_cancel, List.drop_left]
theorem rank_split (X : XS) (h f x n : Nat) (hx : x ≤ n) : cnt (x_rank X h f x) n = cnt (fun y => win X h f y && decide (xV X 10 y < xV X 10 x)) n + cnt (fun y => win X h f y && decide (xV X 10 y = xV X 10 x)) x := by
  rw [cnt_add (f := x_rank X h f x) (f' := fun y => win X h f y && decide (xV X 10 y < xV X 10 x)) (f2 := fun y => win X h f y && decide (xV X 10 y = xV X 10 x) && decide (y < x))]
  · congr 1
    induction n with
    | zero => rw [Nat.le_zero.mp hx]; rfl
    | succ n ih =>
      by_cases e : x = n + 1
      · subst e
        exact cnt_congr (fun i hi => by simp [hi])
      · rw [← ih (by omega)]
        show cnt _ n + _ = cnt _ n
        rw [if_neg (by simp; omega)]
        rfl
  · intro i
    unfold x_rank
    by_cases hw : win X h f i = true
    · by_cases h1 : xV X 10 i < xV X 10 x
      · have h2 : ¬ xV X 10 i = xV X 10 x := by omega
        simp [hw, h1, h2]
      · by_cases h2 : xV X 10 i = xV X 10 x
        · simp [hw, h2]
        · simp [hw, h1, h2]
    · simp [hw]
theorem cut_of {X : XS} {h f t x : Nat} (hlate : x_late X h = ((List.range (xV X 1 0)).filter (win X h f)).map (fun x => xV X 10 x)) (hx : x < xV X 1 0) (hw : win X h f x = true) (hl : xV X 10 x ≤ 60) (hr : cnt (x_rank X h f x) (xV X 1 0) = t * cnt (win X h f) (xV X 1 0) / 3) : x_cut X h t = xV X 10 x := by
  have hne : x_late X h ≠ [] := by
    rw [hlate]
    intro z
    have h1 : ((List.range (xV X 1 0)).filter (win X h f)).length = 0 := by
      rw [← List.length_map (f := fun x => xV X 10 x), z]
      rfl
    rw [cnt_len] at h1
    have := cnt_pos hx hw
    omega
  have hc : (x_late X h).length = cnt (win X h f) (xV X 1 0) := by rw [hlate, List.length_map, cnt_len]
  unfold x_cut
  rw [if_neg hne, hc, ← hr, rank_split X h f x _ (Nat.le_of_lt hx)]
  have hle : ∀ v, cle (x_late X h) v = cnt (fun y => win X h f y && decide (xV X 10 y ≤ v)) (xV X 1 0) := fun v => by rw [hlate, cnt_list]
  refine lst_of (by omega) ?_ ?_
  · apply decide_eq_true
    rw [hle, cnt_add (f := fun y => win X h f y && decide (xV X 10 y ≤ xV X 10 x)) (f' := fun y => win X h f y && decide (xV X 10 y < xV X 10 x)) (f2 := fun y => win X h f y && decide (xV X 10 y = xV X 10 x))]
    · have := cnt_lt (f := fun y => win X h f y && decide (xV X 10 y = xV X 10 x)) hx (by simp [hw])
      omega
    · intro i
      by_cases h1 : win X h f i = true
      · by_cases h2 : xV X 10 i < xV X 10 x
        · have h3 : ¬ xV X 10 i = xV X 10 x := by omega
          have h4 : xV X 10 i ≤ xV X 10 x := by omega
          simp [h1, h2, h3, h4]
        · by_cases h3 : xV X 10 i = xV X 10 x
          · simp [h1, h3]
          · have h4 : ¬ xV X 10 i ≤ xV X 10 x := by omega
            simp [h1, h2, h3, h4]
      · simp [h1]
  · intro v hv
    apply decide_eq_false
    rw [hle]
    have := cnt_mono (f := fun y => win X h f y && decide (xV X 10 y ≤ v)) (f' := fun y => win X h f y && decide (xV X 10 y < xV X 10 x)) (fun i hi => by
      simp at hi ⊢
      exact ⟨hi.1, by omega⟩) (xV X 1 0)
    omega
theorem cut_ex {X : XS} {h f k : Nat} (hl : ∀ x, x < xV X 1 0 → xV X 10 x ≤ 60) (hk : k < cnt (win X h f) (xV X 1 0)) : ∃ x, x < xV X 1 0 ∧ win X h f x = true ∧ cnt (x_rank X h f x) (xV X 1 0) = k := by
  have h60 : cnt (fun y => win X h f y && decide (xV X 10 y ≤ 60)) (xV X 1 0) = cnt (win X h f) (xV X 1 0) := cnt_congr (fun i hi => by simp [hl i hi])
  have hlt : lst (fun v => decide (k < cnt (fun y => win X h f y && decide (xV X 10 y ≤ v)) (xV X 1 0))) 61 < 61 := by
    by_cases z : lst (fun v => decide (k < cnt (fun y => win X h f y && decide (xV X 10 y ≤ v)) (xV X 1 0))) 61 < 61
    · exact z
    · have hz : lst (fun v => decide (k < cnt (fun y => win X h f y && decide (xV X 10 y ≤ v)) (xV X 1 0))) 61 = 61 := Nat.le_antisymm (lst_le _ _) (Nat.not_lt.mp z)
      have h1 := lst_no (f := fun v => decide (k < cnt (fun y => win X h f y && decide (xV X 10 y ≤ v)) (xV X 1 0))) (n := 61) (i := 60) (by omega)
      have h1 := of_decide_eq_false h1
      omega
  have hv := of_decide_eq_true (lst_is hlt)
  have hno : ∀ v, v < lst (fun v => decide (k < cnt (fun y => win X h f y && decide (xV X 10 y ≤ v)) (xV X 1 0))) 61 → ¬ k < cnt (fun y => win X h f y && decide (xV X 10 y ≤ v)) (xV X 1 0) := fun v hv => of_decide_eq_false (lst_no (f := fun v => decide (k < cnt (fun y => win X h f y && decide (xV X 10 y ≤ v)) (xV X 1 0))) (n := 61) hv)
  generalize lst (fun v => decide (k < cnt (fun y => win X h f y && decide (xV X 10 y ≤ v)) (xV X 1 0))) 61 = v at hlt hv hno
  have hA : cnt (fun y => win X h f y && decide (xV X 10 y < v)) (xV X 1 0) ≤ k := by
    cases v with
    | zero =>
      rw [cnt_0 (fun i _ => by simp)]
      exact Nat.zero_le _
    | succ v =>
      have := hno v (by omega)
      rw [cnt_congr (f' := fun y => win X h f y && decide (xV X 10 y ≤ v)) (fun i _ => by congr 1; exact decide_eq_decide.mpr (by omega))]
      omega
  have hE : cnt (fun y => win X h f y && decide (xV X 10 y ≤ v)) (xV X 1 0) = cnt (fun y => win X h f y && decide (xV X 10 y < v)) (xV X 1 0) + cnt (fun y => win X h f y && decide (xV X 10 y = v)) (xV X 1 0) := cnt_add (fun i => by
    by_cases h1 : win X h f i = true
    · by_cases h2 : xV X 10 i < v
      · have h3 : ¬ xV X 10 i = v := by omega
        have h4 : xV X 10 i ≤ v := by omega
        simp [h1, h2, h3, h4]
      · by_cases h3 : xV X 10 i = v
        · simp [h1, h3]
        · have h4 : ¬ xV X 10 i ≤ v := by omega
          simp [h1, h2, h3, h4]
    · simp [h1]) _
  obtain ⟨x, hx, hf, hc⟩ := cnt_nth (f := fun y => win X h f y && decide (xV X 10 y = v)) (n := xV X 1 0) (j := k - cnt (fun y => win X h f y && decide (xV X 10 y < v)) (xV X 1 0)) (by omega)
  simp only [Bool.and_eq_true, decide_eq_true_eq] at hf
  refine ⟨x, hx, hf.1, ?_⟩
  rw [rank_split X h f x _ (Nat.le_of_lt hx), hf.2, hc]
  omega
