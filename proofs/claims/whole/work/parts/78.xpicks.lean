/-! whom a host chooses: one after another, each behind the one before -/
theorem ahead_iff {X : XS} {x y : Nat} : x_ahead X x y = true ↔ x_missing X x < x_missing X y ∨ (x_missing X x = x_missing X y ∧ xV X 24 x < xV X 24 y) := by
  unfold x_ahead
  by_cases h : x_missing X x = x_missing X y
  · rw [if_neg (fun z => z h)]
    simp [h]
  · rw [if_pos h]
    simp [h]
theorem ahead_tr {X : XS} {x y z : Nat} (h1 : x_ahead X x y = true) (h2 : x_ahead X y z = true) : x_ahead X x z = true := by
  rw [ahead_iff] at *
  omega
theorem ahead_ne {X : XS} {x : Nat} : ¬ x_ahead X x x = true := by
  rw [ahead_iff]
  omega
/-- arrivals of the known messages of h differ -/
def arrD (X : XS) (h N : Nat) : Prop := ∀ x y, x < N → y < N → xV X 9 x = h → xV X 9 y = h → xV X 19 x = 1 → xV X 19 y = 1 → xV X 24 x = xV X 24 y → x = y
theorem ahead_tot {X : XS} {h N x y : Nat} (hD : arrD X h N) (hx : x < N) (hy : y < N) (h1 : xV X 9 x = h) (h2 : xV X 9 y = h) (h3 : xV X 19 x = 1) (h4 : xV X 19 y = 1) (hne : x ≠ y) (hn : ¬ x_ahead X x y = true) : x_ahead X y x = true := by
  rw [ahead_iff] at *
  have := hD x y hx hy h1 h2 h3 h4
  omega
theorem best_all {X : XS} {h N : Nat} (hD : arrD X h N) : ∀ n, n ≤ N → (x_best X h n = none → ∀ x, x < n → xV X 9 x = h → xV X 19 x = 1 → x_chosen X h x = false → False) ∧ ∀ m, x_best X h n = some m → (m < n ∧ xV X 9 m = h ∧ xV X 19 m = 1 ∧ x_chosen X h m = false) ∧ ∀ x, x < n → xV X 9 x = h → xV X 19 x = 1 → x_chosen X h x = false → x ≠ m → x_ahead X m x = true
  | 0, _ => ⟨fun _ x hx => absurd hx (Nat.not_lt_zero x), fun m hm => by cases hm⟩
  | n + 1, hn => by
    obtain ⟨i1, i2⟩ := best_all hD n (by omega)
    have hs : x_best X h (n + 1) = if xV X 9 n = h ∧ xV X 19 n = 1 ∧ x_chosen X h n = false ∧ (∀ y, x_best X h n = some y → x_ahead X n y = true) then some n else x_best X h n := rfl
    rw [hs]
    split
    case isTrue hc =>
      refine ⟨fun z => (by cases z), fun m hm => ?_⟩
      cases hm
      refine ⟨⟨by omega, hc.1, hc.2.1, hc.2.2.1⟩, fun x hx x1 x2 x3 x4 => ?_⟩
      cases hb : x_best X h n with
      | none => exact absurd (i1 hb x (by omega) x1 x2 x3) (fun z => z)
      | some y =>
        by_cases e : x = y
        · subst e
          exact hc.2.2.2 _ hb
        · exact ahead_tr (hc.2.2.2 _ hb) ((i2 y hb).2 x (by omega) x1 x2 x3 e)
    case isFalse hc =>
      refine ⟨fun hb x hx x1 x2 x3 => ?_, fun m hb => ?_⟩
      · by_cases e : x = n
        · subst e
          exact hc ⟨x1, x2, x3, fun y hy => by rw [hb] at hy; cases hy⟩
        · exact i1 hb x (by omega) x1 x2 x3
      · obtain ⟨⟨b1, b2, b3, b4⟩, b5⟩ := i2 m hb
        refine ⟨⟨by omega, b2, b3, b4⟩, fun x hx x1 x2 x3 x4 => ?_⟩
        by_cases e : x = n
        · subst e
          refine ahead_tot hD (by omega) (by omega) x1 b2 x2 b3 x4 (fun z => hc ⟨x1, x2, x3, fun y hy => ?_⟩)
          rw [hb] at hy
          cases hy
          exact z
        · exact b5 x (by omega) x1 x2 x3 x4
theorem best_fold (X : XS) (h : Nat) : ∀ n, x_best X h n = (outsF n (xV X 9) h).foldl (fun b x => if xV X 19 x = 1 ∧ x_chosen X h x = false ∧ (∀ y, b = some y → x_ahead X x y = true) then some x else b) none
  | 0 => rfl
  | n + 1 => by
    have ih := best_fold X h n
    unfold outsF at ih ⊢
    rw [filter_s, List.foldl_append, ← ih]
    show (if xV X 9 n = h ∧ xV X 19 n = 1 ∧ x_chosen X h n = false ∧ (∀ y, x_best X h n = some y → x_ahead X n y = true) then some n else x_best X h n) = _
    by_cases q : xV X 9 n = h
    · rw [decide_eq_true q]
      simp only [if_true, List.foldl_cons, List.foldl_nil, q, true_and]
    · rw [decide_eq_false q]
      simp [q]
theorem fold_congr {α β : Type} {f f' : β → α → β} : ∀ (l : List α) (b : β), (∀ x ∈ l, ∀ b, f b x = f' b x) → l.foldl f b = l.foldl f' b
  | [], _, _ => rfl
  | x :: l, b, h => by
    show l.foldl f (f b x) = l.foldl f' (f' b x)
    rw [h x List.mem_cons_self b]
    exact fold_congr l _ (fun y hy => h y (List.mem_cons_of_mem _ hy))
theorem bh_best {X : XS} {h n : Nat} {last : Option Nat} (hc : ∀ x, x < n → xV X 9 x = h → xV X 19 x = 1 → (x_chosen X h x = false ↔ ∀ y, last = some y → x_ahead X y x = true)) : (outsF n (xV X 9) h).foldl (bh X last) none = x_best X h n := by
  rw [best_fold]
  refine fold_congr _ _ (fun x hx b => ?_)
  unfold outsF at hx
  rw [List.mem_filter, List.mem_range] at hx
  have h9 := of_decide_eq_true hx.2
  unfold bh
  by_cases q : xV X 19 x = 1
  · have := hc x hx.1 h9 q
    by_cases z : x_chosen X h x = false
    · simp only [q, z, true_and]
      have := this.mp z
      by_cases zz : ∀ y, b = some y → x_ahead X x y = true
      · rw [if_pos ⟨this, zz⟩, if_pos zz]
      · rw [if_neg (fun u => zz u.2), if_neg zz]
    · rw [if_neg (fun u => z (this.mpr u.2.1)), if_neg (fun u => z u.2.1)]
  · rw [if_neg (fun u => q u.1), if_neg (fun u => q u.1)]
theorem pick_v (X : XS) (h k m : Nat) {f : Nat} (hf : f ≠ 21) (h28 : f ≠ 28) (h29 : f ≠ 29) : xV (x_pick X h k m) f = xV X f := by
  unfold x_pick
  split
  · rw [xV_nf h28, xV_nf h29]
  · rw [due_v, xV_nf hf, xV_nf h28, xV_nf h29]
theorem due_b (X : XS) (h : Nat) (e : Nat × Nat × Nat) : xB (x_due X h e) = xB X := by
  unfold x_due
  split <;> rfl
theorem pick_b (X : XS) (h k m : Nat) : xB (x_pick X h k m) = xB X := by
  unfold x_pick
  split
  · rfl
  · rw [due_b]
    rfl
theorem pick_28 (X : XS) (h k m : Nat) : xV (x_pick X h k m) 28 = xV (yV X 28 h (xV X 28 h + 1)) 28 := by
  unfold x_pick
  split
  · funext i
    rw [xV_yV, xV_nf (f := 29) (f' := 28) (by decide), xV_yV]
  · funext i
    rw [due_v, xV_nf (by decide), xV_yV, xV_nf (f := 29) (f' := 28) (by decide), xV_yV]
theorem pick_29 (X : XS) (h k m : Nat) : xV (x_pick X h k m) 29 = xV (yV X 29 (3 * h + k) m) 29 := by
  unfold x_pick
  split
  · rw [xV_nf (by decide)]
  · rw [due_v, xV_nf (by decide), xV_nf (by decide)]
theorem picks_s (X : XS) (h k : Nat) : x_picks X h (k + 1) = match x_best (x_picks X h k) h (xV X 1 0) with
    | none => x_picks X h k
    | some m => x_pick (x_picks X h k) h k m := rfl
theorem picks_v (X : XS) (h : Nat) {f : Nat} (hf : f ≠ 21) (h28 : f ≠ 28) (h29 : f ≠ 29) : ∀ k, xV (x_picks X h k) f = xV X f
  | 0 => rfl
  | k + 1 => by
    rw [picks_s]
    cases x_best (x_picks X h k) h (xV X 1 0) with
    | none => exact picks_v X h hf h28 h29 k
    | some m => exact (pick_v _ _ _ _ hf h28 h29).trans (picks_v X h hf h28 h29 k)
theorem picks_b (X : XS) (h : Nat) : ∀ k, xB (x_picks X h k) = xB X
  | 0 => rfl
  | k + 1 => by
    rw [picks_s]
    cases x_best (x_picks X h k) h (xV X 1 0) with
    | none => exact picks_b X h k
    | some m => exact (pick_b _ _ _ _).trans (picks_b X h k)
theorem picks_28 (X : XS) (h : Nat) {b : Nat} (hb : b ≠ h) : ∀ k, xV (x_picks X h k) 28 b = xV X 28 b
  | 0 => rfl
  | k + 1 => by
    rw [picks_s]
    cases x_best (x_picks X h k) h (xV X 1 0) with
    | none => exact picks_28 X h hb k
    | some m =>
      show xV (x_pick (x_picks X h k) h k m) 28 b = _
      rw [pick_28, xV_yV, if_neg (fun z => hb z.2)]
      exact picks_28 X h hb k
theorem picks_29 (X : XS) (h : Nat) {b j : Nat} (hb : b ≠ h) (hj : j < 3) : ∀ k, k ≤ 3 → xV (x_picks X h k) 29 (3 * b + j) = xV X 29 (3 * b + j)
  | 0, _ => rfl
  | k + 1, hk => by
    rw [picks_s]
    cases x_best (x_picks X h k) h (xV X 1 0) with
    | none => exact picks_29 X h hb hj k (by omega)
    | some m =>
      show xV (x_pick (x_picks X h k) h k m) 29 (3 * b + j) = _
      rw [pick_29, xV_yV, if_neg (fun z => by omega)]
      exact picks_29 X h hb hj k (by omega)
theorem missing_of {X X' : XS} {m : Nat} (h10 : xV X' 10 = xV X 10) (hb : xB X' = xB X) : x_missing X' m = x_missing X m := by
  unfold x_missing
  rw [h10, hb]
theorem ahead_of {X X' : XS} (h10 : xV X' 10 = xV X 10) (hb : xB X' = xB X) (h24 : xV X' 24 = xV X 24) (x y : Nat) : x_ahead X' x y = x_ahead X x y := by
  unfold x_ahead
  rw [missing_of h10 hb, missing_of h10 hb, h24]
/-- what holds when k are tried: last is the one that was chosen last -/
def pkI (X : XS) (h k : Nat) (last : Option Nat) : Prop := xV (x_picks X h k) 28 h ≤ k ∧ (k = 0 ∨ last ≠ none → xV (x_picks X h k) 28 h = k ∧ (∀ y, last = some y → y < xV X 1 0 ∧ xV X 9 y = h ∧ xV X 19 y = 1) ∧ ∀ x, x < xV X 1 0 → xV X 9 x = h → xV X 19 x = 1 → (x_chosen (x_picks X h k) h x = false ↔ ∀ y, last = some y → x_ahead X y x = true)) ∧ (k ≠ 0 → last = none → x_best (x_picks X h k) h (xV X 1 0) = none)
theorem pkI_0 {X : XS} {h : Nat} (h0 : xV X 28 h = 0) : pkI X h 0 none := by
  refine ⟨Nat.le_of_eq h0, fun _ => ⟨h0, fun y hy => (by cases hy), fun x _ _ _ => ⟨fun _ y hy => (by cases hy), fun _ => ?_⟩⟩, fun z => absurd rfl z⟩
  show decide (cnt (fun k => decide (xV X 29 (3 * h + k) = x)) (xV X 28 h) ≠ 0) = false
  rw [h0]
  rfl
def nxt (X : XS) (h k : Nat) (last : Option Nat) : Option Nat := if k ≠ 0 ∧ last = none then none else x_best (x_picks X h k) h (xV X 1 0)
theorem nxt_eq {X : XS} {h k : Nat} {last : Option Nat} (hp : pkI X h k last) : nxt X h k last = x_best (x_picks X h k) h (xV X 1 0) := by
  unfold nxt
  split
  case isTrue z => exact (hp.2.2 z.1 z.2).symm
  case isFalse => rfl
theorem pkI_s {X : XS} {h k : Nat} {last : Option Nat} (hD : arrD X h (xV X 1 0)) (hp : pkI X h k last) : pkI X h (k + 1) (nxt X h k last) := by
  obtain ⟨p1, p2, p3⟩ := hp
  have hnx := nxt_eq ⟨p1, p2, p3⟩
  have v9 : xV (x_picks X h k) 9 = xV X 9 := picks_v X h (by decide) (by decide) (by decide) k
  have v19 : xV (x_picks X h k) 19 = xV X 19 := picks_v X h (by decide) (by decide) (by decide) k
  have v24 : xV (x_picks X h k) 24 = xV X 24 := picks_v X h (by decide) (by decide) (by decide) k
  have v10 : xV (x_picks X h k) 10 = xV X 10 := picks_v X h (by decide) (by decide) (by decide) k
  have vb := picks_b X h k
  have hD' : arrD (x_picks X h k) h (xV X 1 0) := by
    unfold arrD
    rw [v9, v19, v24]
    exact hD
  have ha := ahead_of (X := X) (X' := x_picks X h k) v10 vb v24
  obtain ⟨b1, b2⟩ := best_all hD' _ (Nat.le_refl _)
  rw [v9, v19] at b1 b2
  rw [hnx]
  unfold pkI
  rw [picks_s]
  cases hb : x_best (x_picks X h k) h (xV X 1 0) with
  | none =>
    dsimp only
    exact ⟨by omega, fun z => (by rcases z with z | z; (· cases z); (· exact absurd rfl z)), fun _ _ => hb⟩
  | some m =>
    dsimp only
    have hno : k = 0 ∨ last ≠ none := by
      rcases Nat.eq_zero_or_pos k with z | z
      · exact Or.inl z
      · refine Or.inr (fun q => ?_)
        rw [p3 (by omega) q] at hb
        cases hb
    obtain ⟨q1, q2, q3⟩ := p2 hno
    obtain ⟨⟨m1, m2, m3, m4⟩, m5⟩ := b2 m hb
    have e28 : xV (x_pick (x_picks X h k) h k m) 28 h = k + 1 := by
      rw [pick_28, xV_yV, if_pos ⟨rfl, rfl⟩, q1]
    refine ⟨Nat.le_of_eq e28, fun _ => ⟨e28, fun y hy => ?_, fun x x1 x2 x3 => ?_⟩, fun _ z => by cases z⟩
    · cases hy
      exact ⟨m1, m2, m3⟩
    · have hch : x_chosen (x_pick (x_picks X h k) h k m) h x = false ↔ (x_chosen (x_picks X h k) h x = false ∧ x ≠ m) := by
        unfold x_chosen
        rw [e28, q1]
        have e : cnt (fun j => decide (xV (x_pick (x_picks X h k) h k m) 29 (3 * h + j) = x)) (k + 1) = cnt (fun j => decide (xV (x_picks X h k) 29 (3 * h + j) = x)) k + if m = x then 1 else 0 := by
          show cnt _ k + _ = _
          congr 1
          · refine cnt_congr (fun j hj => ?_)
            rw [pick_29, xV_yV, if_neg (by omega)]
          · have e2 : xV (x_pick (x_picks X h k) h k m) 29 (3 * h + k) = m := by rw [pick_29, xV_yV, if_pos ⟨rfl, rfl⟩]
            by_cases z : m = x
            · subst z
              simp [e2]
            · simp [e2, z]
        rw [e]
        by_cases z : m = x
        · subst z
          simp
        · have : x ≠ m := fun u => z u.symm
          simp [z, this]
      rw [hch]
      refine ⟨fun z y hy => ?_, fun z => ?_⟩
      · cases hy
        rw [← ha]
        exact m5 x x1 x2 x3 z.1 z.2
      · have z := z m rfl
        refine ⟨?_, fun e => ?_⟩
        · rw [q3 x x1 x2 x3]
          intro y hy
          exact ahead_tr ((q3 m m1 m2 m3).mp m4 y hy) z
        · subst e
          exact absurd z ahead_ne
