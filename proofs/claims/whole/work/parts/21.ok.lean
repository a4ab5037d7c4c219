/-! what always holds of the mathematical state -/
def okE (X : XS) (e : Nat × Nat × Nat) : Prop := e.1 < 4 ∧ e.2.1 < xV X 1 0 ∧ e.2.2 < 4096 ∧ (e.1 = 0 → e.2.2 < xV X 10 e.2.1) ∧ (e.1 = 1 → e.2.2 / 4 ≤ xV X 10 e.2.1) ∧ (e.1 = 2 → e.2.2 / 64 ≤ xV X 10 e.2.1)
def okNum (X : XS) : Prop := xV X 1 0 ≤ 48 ∧ (∀ k, k < 24 → xV X 4 k ≤ 100 ∧ xV X 5 k ≤ 3) ∧ ∀ s, s < 2 → xV X 6 s ≤ 1 ∧ xV X 7 s ≤ 1
def okMsg (X : XS) : Prop := ∀ m, m < 48 → (xV X 8 m < 8 ∧ xV X 9 m < 8 ∧ xV X 10 m ≤ 60 ∧ xV X 11 m ≤ 1) ∧ (xV X 12 m ≤ 2 ∧ xV X 13 m ≤ xV X 10 m ∧ xV X 14 m ≤ xV X 10 m ∧ xV X 15 m ≤ 3 ∧ xV X 16 m < 40 ∧ xV X 17 m ≤ 6 ∧ (xV X 12 m = 0 → xV X 17 m < 6)) ∧ (xV X 19 m ≤ 2 ∧ xV X 21 m ≤ xV X 10 m ∧ xV X 22 m < 16 ∧ xV X 23 m ≤ 8 ∧ (xV X 19 m = 1 → xV X 23 m < 8))
def okLen (X : XS) : Prop := ∀ m, m < xV X 1 0 → 1 ≤ xV X 10 m
def okSet (X : XS) : Prop := ∀ m, (∀ i, xB X 0 m i = true → i < xV X 13 m) ∧ (∀ i, xB X 1 m i = true → i < xV X 10 m) ∧ (xV X 19 m = 1 → 0 < x_missing X m) ∧ (xV X 19 m = 0 → ∀ i, xB X 1 m i = false)
def okNew (X : XS) : Prop := ∀ m, xV X 1 0 ≤ m → (∀ f, 8 ≤ f → f < 26 → xV X f m = 0) ∧ ∀ w i, xB X w m i = false
def okList (X : XS) : Prop := (∀ q, ∀ e ∈ xL X q, okE X e) ∧ (∀ q, q < 96 → (xL X q).length ≤ 8) ∧ (∀ h, h < 8 → (xL X (96 + h)).length ≤ 24) ∧ ∀ k, k < 24 → (xL X (200 + k)).length ≤ 1
def okHost (X : XS) : Prop := (∀ h, h < 8 → xV X 28 h ≤ 3 ∧ (∀ k, k < xV X 28 h → xV X 29 (3 * h + k) < xV X 1 0)) ∧ ∀ i, i < 512 → xV X 31 i < 48
/-- arrivals and finishes stay below T; arrivals of known messages of a host differ -/
def okArr (X : XS) (T : Nat) : Prop := (∀ h, h < 8 → xV X 26 h ≤ T ∧ xV X 30 h ≤ T) ∧ (∀ m, m < xV X 1 0 → xV X 24 m ≤ xV X 26 (xV X 9 m)) ∧ ∀ m m', m < xV X 1 0 → m' < xV X 1 0 → xV X 9 m = xV X 9 m' → xV X 19 m ≠ 0 → xV X 19 m' ≠ 0 → xV X 24 m = xV X 24 m' → m = m'
def xOK (X : XS) : Prop := okNum X ∧ okMsg X ∧ okLen X ∧ okSet X ∧ okNew X ∧ okList X ∧ okHost X
theorem xOK.many {X : XS} (h : xOK X) : xV X 1 0 ≤ 48 := h.1.1
theorem xOK.link {X : XS} (h : xOK X) {k : Nat} (hk : k < 24) : xV X 4 k ≤ 100 ∧ xV X 5 k ≤ 3 := h.1.2.1 k hk
theorem xOK.sp {X : XS} (h : xOK X) {s : Nat} (hs : s < 2) : xV X 6 s ≤ 1 ∧ xV X 7 s ≤ 1 := h.1.2.2 s hs
theorem xOK.msg {X : XS} (h : xOK X) {m : Nat} (hm : m < 48) : (xV X 8 m < 8 ∧ xV X 9 m < 8 ∧ xV X 10 m ≤ 60 ∧ xV X 11 m ≤ 1) ∧ (xV X 12 m ≤ 2 ∧ xV X 13 m ≤ xV X 10 m ∧ xV X 14 m ≤ xV X 10 m ∧ xV X 15 m ≤ 3 ∧ xV X 16 m < 40 ∧ xV X 17 m ≤ 6 ∧ (xV X 12 m = 0 → xV X 17 m < 6)) ∧ (xV X 19 m ≤ 2 ∧ xV X 21 m ≤ xV X 10 m ∧ xV X 22 m < 16 ∧ xV X 23 m ≤ 8 ∧ (xV X 19 m = 1 → xV X 23 m < 8)) := h.2.1 m hm
theorem xOK.len {X : XS} (h : xOK X) {m : Nat} (hm : m < xV X 1 0) : 1 ≤ xV X 10 m := h.2.2.1 m hm
theorem xOK.set {X : XS} (h : xOK X) (m : Nat) : (∀ i, xB X 0 m i = true → i < xV X 13 m) ∧ (∀ i, xB X 1 m i = true → i < xV X 10 m) ∧ (xV X 19 m = 1 → 0 < x_missing X m) ∧ (xV X 19 m = 0 → ∀ i, xB X 1 m i = false) := h.2.2.2.1 m
theorem xOK.new {X : XS} (h : xOK X) {m : Nat} (hm : xV X 1 0 ≤ m) : (∀ f, 8 ≤ f → f < 26 → xV X f m = 0) ∧ ∀ w i, xB X w m i = false := h.2.2.2.2.1 m hm
theorem xOK.list {X : XS} (h : xOK X) : okList X := h.2.2.2.2.2.1
theorem xOK.host {X : XS} (h : xOK X) {a : Nat} (ha : a < 8) : xV X 28 a ≤ 3 ∧ (∀ k, k < xV X 28 a → xV X 29 (3 * a + k) < xV X 1 0) := h.2.2.2.2.2.2.1 a ha
theorem xOK.fin {X : XS} (h : xOK X) {i : Nat} (hi : i < 512) : xV X 31 i < 48 := h.2.2.2.2.2.2.2 i hi
theorem cnt_le (f : Nat → Bool) : ∀ n, cnt f n ≤ n
  | 0 => Nat.le_refl _
  | n + 1 => by
    have := cnt_le f n
    unfold cnt
    split <;> omega
theorem lst_le (f : Nat → Bool) : ∀ n, lst f n ≤ n
  | 0 => Nat.le_refl _
  | n + 1 => by
    have := lst_le f n
    unfold lst
    split
    · omega
    · split <;> omega
theorem lst_is {f : Nat → Bool} : ∀ {n : Nat}, lst f n < n → f (lst f n) = true
  | 0, h => absurd h (Nat.not_lt_zero _)
  | n + 1, h => by
    unfold lst at h ⊢
    by_cases h1 : lst f n < n
    · rw [if_pos h1]
      exact lst_is h1
    · rw [if_neg h1] at h ⊢
      by_cases h2 : f n = true
      · rw [if_pos h2]
        exact h2
      · rw [if_neg h2] at h
        omega
theorem lst_no {f : Nat → Bool} : ∀ {n i : Nat}, i < lst f n → f i = false
  | 0, i, h => absurd h (Nat.not_lt_zero _)
  | n + 1, i, h => by
    unfold lst at h
    by_cases h1 : lst f n < n
    · rw [if_pos h1] at h
      exact lst_no h
    · rw [if_neg h1] at h
      have e : lst f n = n := Nat.le_antisymm (lst_le f n) (Nat.not_lt.mp h1)
      by_cases h2 : f n = true
      · rw [if_pos h2] at h
        exact lst_no (n := n) (by omega)
      · rw [if_neg h2] at h
        by_cases hi : i = n
        · subst hi
          exact Bool.eq_false_iff.mpr h2
        · exact lst_no (n := n) (by omega)
theorem lst_of {f : Nat → Bool} {n i : Nat} (hi : i < n) (hf : f i = true) (hno : ∀ j, j < i → f j = false) : lst f n = i := by
  have h1 : lst f n ≤ i := Nat.not_lt.mp (fun h => by rw [lst_no h] at hf; cases hf)
  have h2 := lst_is (f := f) (n := n) (by omega)
  by_cases h3 : lst f n = i
  · exact h3
  · rw [hno _ (by omega)] at h2
    cases h2
theorem lst_none {f : Nat → Bool} {n : Nat} (hno : ∀ j, j < n → f j = false) : lst f n = n := by
  have h1 := lst_le f n
  by_cases h : lst f n < n
  · have := lst_is h
    rw [hno _ h] at this
    cases this
  · omega
theorem cnt_0 {f : Nat → Bool} : ∀ {n : Nat}, (∀ i, i < n → f i = false) → cnt f n = 0
  | 0, _ => rfl
  | n + 1, h => by
    unfold cnt
    rw [cnt_0 (fun i hi => h i (by omega)), h n (by omega)]
    rfl
theorem cnt_pos {f : Nat → Bool} : ∀ {n i : Nat}, i < n → f i = true → 0 < cnt f n
  | n + 1, i, hi, h => by
    unfold cnt
    by_cases e : i = n
    · subst e
      rw [h]
      simp
    · have := cnt_pos (f := f) (n := n) (i := i) (by omega) h
      omega
