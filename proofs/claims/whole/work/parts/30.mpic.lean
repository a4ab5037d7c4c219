/-! THE REFERENCE's memory: the object at b, its arrays at ad k (k the field), what they hold of X -/
/-- which field of the reference holds number f -/
def mK : Nat → Nat := fun f => match f with
  | 4 => 7
  | 5 => 6
  | 6 => 12
  | 7 => 13
  | 8 => 16
  | 9 => 17
  | 10 => 18
  | 11 => 19
  | 12 => 20
  | 13 => 21
  | 14 => 22
  | 15 => 23
  | 16 => 24
  | 17 => 25
  | 18 => 26
  | 19 => 28
  | 20 => 29
  | 21 => 30
  | 22 => 31
  | 23 => 32
  | 24 => 33
  | 25 => 34
  | 26 => 36
  | 27 => 41
  | 28 => 43
  | 29 => 42
  | 30 => 44
  | 31 => 45
  | _ => 0
def mAttr (f : Nat) : Bool := (decide (4 ≤ f) && decide (f < 32)) && !(f == 6)
/-- the length of the array in field k -/
def mLn : Nat → Nat := fun k => match k with
  | 8 => 96
  | 9 => 768
  | 10 => 768
  | 11 => 768
  | 12 => 2
  | 13 => 2
  | 27 => 2880
  | 35 => 2880
  | 36 => 8
  | 37 => 8
  | 38 => 192
  | 39 => 192
  | 40 => 192
  | 41 => 8
  | 42 => 24
  | 43 => 8
  | 44 => 8
  | 45 => 512
  | 3 => 24
  | 4 => 24
  | 5 => 24
  | 6 => 24
  | 7 => 24
  | _ => 48
def mArr (k : Nat) : Bool := (decide (3 ≤ k) && decide (k < 46)) && (!(k == 14) && !(k == 15))
def mKd (k : Nat) : Nat := if k = 12 ∨ k = 27 ∨ k = 35 then 10 else 9
/-- the shape: it stays for ever -/
def mShape (S : jS) (b : Nat) (ad : Nat → Nat) : Prop := sAt S 8 b ∧ (∀ k, mArr k = true → sP S 8 b k = some (ad k)) ∧ (∀ k, mArr k = true → aAt S (mKd k) (ad k) (mLn k)) ∧ ∀ k k', mArr k = true → mArr k' = true → ad k = ad k' → k = k'
/-- what it holds -/
def mNum (S : jS) (ad : Nat → Nat) (X : XS) : Prop := ∀ f, mAttr f = true → ∀ i, i < mLn (mK f) → sI S 9 (ad (mK f)) i = nI (xV X f i)
def mSca (S : jS) (b : Nat) (X : XS) : Prop := sI S 8 b 1 = nI (xV X 0 0) ∧ sI S 8 b 2 = nI (xV X 1 0) ∧ sI S 8 b 14 = nI (xV X 2 0) ∧ sI S 8 b 15 = nI (xV X 3 0) ∧ sI S 8 b 0 = nI (xV X 32 0)
def mOff (S : jS) (ad : Nat → Nat) (X : XS) : Prop := ∀ s, s < 2 → sI S 10 (ad 12) s = nI (xV X 6 s)
def mSet (S : jS) (ad : Nat → Nat) (X : XS) : Prop := ∀ m, m < 48 → ∀ i, i < 60 → sI S 10 (ad 27) (60 * m + i) = bI (xB X 0 m i) ∧ sI S 10 (ad 35) (60 * m + i) = bI (xB X 1 m i)
def mLnk (S : jS) (ad : Nat → Nat) (X : XS) : Prop := ∀ k, k < 24 → (xL X (200 + k) = [] → sI S 9 (ad 3) k = -1) ∧ ∀ e t, xL X (200 + k) = e :: t → sI S 9 (ad 3) k = nI e.1 ∧ sI S 9 (ad 4) k = nI e.2.1 ∧ sI S 9 (ad 5) k = nI e.2.2
def mQue (S : jS) (ad : Nat → Nat) (X : XS) : Prop := ∀ q, q < 96 → (xL X q).length ≤ 8 ∧ sI S 9 (ad 8) q = nI (xL X q).length ∧ ∀ i e, (xL X q)[i]? = some e → sI S 9 (ad 9) (8 * q + i) = nI e.1 ∧ sI S 9 (ad 10) (8 * q + i) = nI e.2.1 ∧ sI S 9 (ad 11) (8 * q + i) = nI e.2.2
def mDue (S : jS) (ad : Nat → Nat) (X : XS) : Prop := ∀ h, h < 8 → (xL X (96 + h)).length ≤ 24 ∧ sI S 9 (ad 37) h = nI (xL X (96 + h)).length ∧ ∀ i e, (xL X (96 + h))[i]? = some e → sI S 9 (ad 38) (24 * h + i) = nI e.1 ∧ sI S 9 (ad 39) (24 * h + i) = nI e.2.1 ∧ sI S 9 (ad 40) (24 * h + i) = nI e.2.2
def WM (S : jS) (b : Nat) (ad : Nat → Nat) (X : XS) : Prop := mShape S b ad ∧ mNum S ad X ∧ mSca S b X ∧ mOff S ad X ∧ mSet S ad X ∧ mLnk S ad X ∧ mQue S ad X ∧ mDue S ad X
theorem WM.o {S : jS} {b : Nat} {ad : Nat → Nat} {X : XS} (h : WM S b ad X) : sAt S 8 b := h.1.1
theorem WM.r {S : jS} {b : Nat} {ad : Nat → Nat} {X : XS} (h : WM S b ad X) (k : Nat) (hk : mArr k = true) : sP S 8 b k = some (ad k) := h.1.2.1 k hk
theorem WM.a {S : jS} {b : Nat} {ad : Nat → Nat} {X : XS} (h : WM S b ad X) (k : Nat) (hk : mArr k = true) : aAt S (mKd k) (ad k) (mLn k) := h.1.2.2.1 k hk
theorem WM.ne {S : jS} {b : Nat} {ad : Nat → Nat} {X : XS} (h : WM S b ad X) {k k' : Nat} (hk : mArr k = true) (hk' : mArr k' = true) (hn : k ≠ k') : ad k ≠ ad k' := fun e => hn (h.1.2.2.2 k k' hk hk' e)
theorem WM.v {S : jS} {b : Nat} {ad : Nat → Nat} {X : XS} (h : WM S b ad X) (f : Nat) (hf : mAttr f = true) {i : Nat} (hi : i < mLn (mK f)) : sI S 9 (ad (mK f)) i = nI (xV X f i) := h.2.1 f hf i hi
theorem mK_arr : ∀ f, f < 32 → mAttr f = true → mArr (mK f) = true ∧ mKd (mK f) = 9 := by decide
theorem mK_inj : ∀ f, f < 32 → ∀ f', f' < 32 → mAttr f = true → mAttr f' = true → mK f = mK f' → f = f' := by decide
theorem mAttr_lt {f : Nat} (h : mAttr f = true) : f < 32 := by
  unfold mAttr at h
  simp only [Bool.and_eq_true, decide_eq_true_eq] at h
  exact h.1.2
theorem mK_oth : ∀ f, f < 32 → mAttr f = true → ∀ k, k ∈ [3, 4, 5, 8, 9, 10, 11, 37, 38, 39, 40] → k ≠ mK f := by decide
theorem mAttr_ge {f : Nat} (h : mAttr f = true) : 4 ≤ f := by
  unfold mAttr at h
  simp only [Bool.and_eq_true, decide_eq_true_eq] at h
  exact h.1.1
/-- writing at kind 9, field k, changes nothing of another field -/
theorem WM.oth {S : jS} {b : Nat} {ad : Nat → Nat} {X : XS} (h : WM S b ad X) {k k' i j : Nat} {v : Int32} (hk : mArr k = true) (hk' : mArr k' = true) (hn : k' ≠ k) : sI (uI S 9 (ad k) i v) 9 (ad k') j = sI S 9 (ad k') j := sI_na (h.ne hk' hk hn) rfl
/-- a number of an array is written -/
theorem WM.wV {S : jS} {b : Nat} {ad : Nat → Nat} {X : XS} (h : WM S b ad X) (f : Nat) (hf : mAttr f = true) (i v : Nat) : WM (uI S 9 (ad (mK f)) i (nI v)) b ad (yV X f i v) := by
  have h32 := mAttr_lt hf
  obtain ⟨ha, -⟩ := mK_arr f h32 hf
  have no := mK_oth f h32 hf
  refine ⟨h.1, ?_, ?_, ?_, ?_, ?_, ?_, ?_⟩
  · intro f' hf' j hj
    have h32' := mAttr_lt hf'
    by_cases e : f' = f
    · subst e
      rw [sI_uI, xV_yV]
      by_cases ej : j = i
      · simp [ej]
      · simp only [ej, and_false, if_false]
        exact h.2.1 f' hf' j hj
    · have hne : mK f' ≠ mK f := fun z => e (mK_inj f' h32' f h32 hf' hf z)
      rw [h.oth ha (mK_arr f' h32' hf').1 hne, xV_nf e]
      exact h.2.1 f' hf' j hj
  · have hn : ∀ c, c < 4 → c ≠ f := fun c hc e => by have := mAttr_ge hf; omega
    obtain ⟨s1, s2, s3, s4, s5⟩ := h.2.2.1
    unfold mSca
    rw [xV_nf (hn 0 (by decide)), xV_nf (hn 1 (by decide)), xV_nf (hn 2 (by decide)), xV_nf (hn 3 (by decide)), xV_nf (show 32 ≠ f by omega)]
    exact ⟨sI_nc (by decide) s1, sI_nc (by decide) s2, sI_nc (by decide) s3, sI_nc (by decide) s4, sI_nc (by decide) s5⟩
  · intro s hs
    rw [xV_nf (fun e => by subst e; revert hf; decide)]
    exact sI_nc (by decide) (h.2.2.2.1 s hs)
  · intro m hm j hj
    exact ⟨sI_nc (by decide) (h.2.2.2.2.1 m hm j hj).1, sI_nc (by decide) (h.2.2.2.2.1 m hm j hj).2⟩
  · intro k hk
    have := h.2.2.2.2.2.1 k hk
    rw [h.oth ha rfl (no 3 (by decide)), h.oth ha rfl (no 4 (by decide)), h.oth ha rfl (no 5 (by decide))]
    exact this
  · intro q hq
    have := h.2.2.2.2.2.2.1 q hq
    refine ⟨this.1, by rw [h.oth ha rfl (no 8 (by decide))]; exact this.2.1, fun j e he => ?_⟩
    rw [h.oth ha rfl (no 9 (by decide)), h.oth ha rfl (no 10 (by decide)), h.oth ha rfl (no 11 (by decide))]
    exact this.2.2 j e he
  · intro q hq
    have := h.2.2.2.2.2.2.2 q hq
    refine ⟨this.1, by rw [h.oth ha rfl (no 37 (by decide))]; exact this.2.1, fun j e he => ?_⟩
    rw [h.oth ha rfl (no 38 (by decide)), h.oth ha rfl (no 39 (by decide)), h.oth ha rfl (no 40 (by decide))]
    exact this.2.2 j e he
/-- a number of the object itself is written: clock, how many, dropped, lost -/
theorem WM.wS {S : jS} {b : Nat} {ad : Nat → Nat} {X : XS} (h : WM S b ad X) (k f v : Nat) (hk : (k, f) = (1, 0) ∨ (k, f) = (2, 1) ∨ (k, f) = (14, 2) ∨ (k, f) = (15, 3) ∨ (k, f) = (0, 32)) : WM (uI S 8 b k (nI v)) b ad (yV X f 0 v) := by
  have hf : f < 4 ∨ f = 32 := by rcases hk with e | e | e | e | e <;> cases e <;> decide
  refine ⟨h.1, ?_, ?_, ?_, ?_, ?_, ?_, ?_⟩
  · intro f' hf' j hj
    rw [xV_nf (by have := mAttr_ge hf'; have := mAttr_lt hf'; omega)]
    exact sI_nc (by decide) (h.2.1 f' hf' j hj)
  · obtain ⟨s1, s2, s3, s4, s5⟩ := h.2.2.1
    unfold mSca
    rcases hk with e | e | e | e | e <;> cases e <;> simp [sI_uI, xV_yV, s1, s2, s3, s4, s5]
  · intro s hs
    rw [xV_nf (by omega)]
    exact sI_nc (by decide) (h.2.2.2.1 s hs)
  · intro m hm j hj
    exact ⟨sI_nc (by decide) (h.2.2.2.2.1 m hm j hj).1, sI_nc (by decide) (h.2.2.2.2.1 m hm j hj).2⟩
  · intro k hk
    have := h.2.2.2.2.2.1 k hk
    exact ⟨fun e => sI_nc (by decide) (this.1 e), fun e t he => ⟨sI_nc (by decide) (this.2 e t he).1, sI_nc (by decide) (this.2 e t he).2.1, sI_nc (by decide) (this.2 e t he).2.2⟩⟩
  · intro q hq
    have := h.2.2.2.2.2.2.1 q hq
    exact ⟨this.1, sI_nc (by decide) this.2.1, fun j e he => ⟨sI_nc (by decide) (this.2.2 j e he).1, sI_nc (by decide) (this.2.2 j e he).2.1, sI_nc (by decide) (this.2.2 j e he).2.2⟩⟩
  · intro q hq
    have := h.2.2.2.2.2.2.2 q hq
    exact ⟨this.1, sI_nc (by decide) this.2.1, fun j e he => ⟨sI_nc (by decide) (this.2.2 j e he).1, sI_nc (by decide) (this.2.2 j e he).2.1, sI_nc (by decide) (this.2.2 j e he).2.2⟩⟩
