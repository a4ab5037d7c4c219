/-! sets of numbers in a long -/
def pB (f : Nat → Nat) : Nat → Nat → Nat
  | 0, _ => 0
  | k + 1, x => f (x % 256) + 256 * pB f k (x / 256)
def mB (c : Nat) : Nat → Nat
  | 0 => 0
  | k + 1 => c + 256 * mB c k
def tB (f : Nat → Nat) : Nat → Nat → Nat
  | 0, _ => 0
  | k + 1, x => f (x % 256) + tB f k (x / 256)
theorem and_256 {x c : Nat} (y z : Nat) (hx : x < 256) (hc : c < 256) : (x + 256 * y) &&& (c + 256 * z) = (x &&& c) + 256 * (y &&& z) := by
  have hxc : x &&& c < 2 ^ 8 := Nat.and_lt_two_pow x hc
  apply Nat.eq_of_testBit_eq
  intro i
  rw [Nat.testBit_and, Nat.add_comm x, Nat.add_comm c, Nat.add_comm (x &&& c), show (256 : Nat) = 2 ^ 8 from rfl, Nat.testBit_two_pow_mul_add _ (show x < 2 ^ 8 from hx), Nat.testBit_two_pow_mul_add _ (show c < 2 ^ 8 from hc), Nat.testBit_two_pow_mul_add _ hxc]
  split
  · rw [Nat.testBit_and]
  · rw [Nat.testBit_and]
def b_1 (b : Nat) : Nat := b - ((b / 2) &&& 85)
def b_2 (b : Nat) : Nat := (b &&& 51) + ((b / 4) &&& 51)
def b_3 (b : Nat) : Nat := (b + b / 16) % 16
theorem b1_t : ∀ t : Fin 2, ∀ b : Fin 256, (b.val / 2 + 128 * t.val) &&& 85 = (b.val / 2) &&& 85 := by decide +kernel
theorem b2_t : ∀ t : Fin 4, ∀ b : Fin 256, (b.val / 4 + 64 * t.val) &&& 51 = (b.val / 4) &&& 51 := by decide +kernel
theorem b1_lt : ∀ b : Fin 256, b_1 b.val < 256 := by decide +kernel
theorem b2_lt : ∀ b : Fin 256, b_2 (b_1 b.val) % 16 ≤ 4 ∧ b_2 (b_1 b.val) / 16 ≤ 4 := by decide +kernel
theorem b3_is : ∀ b : Fin 256, b_3 (b_2 (b_1 b.val)) = cnt (fun i => b.val.testBit i) 8 := by decide +kernel
theorem pB_1 : ∀ k x, x < 256 ^ k → x - ((x / 2) &&& mB 85 k) = pB b_1 k x
  | 0, x, h => by
    have : x = 0 := by simpa using h
    subst this
    rfl
  | k + 1, x, h => by
    have hk : x / 256 < 256 ^ k := Nat.div_lt_of_lt_mul (by rw [Nat.pow_succ, Nat.mul_comm] at h; exact h)
    have ih := pB_1 k (x / 256) hk
    have e : x / 2 = (x % 256 / 2 + 128 * (x / 256 % 2)) + 256 * (x / 256 / 2) := by omega
    have t := b1_t ⟨x / 256 % 2, by omega⟩ ⟨x % 256, by omega⟩
    have l1 : (x / 256 / 2) &&& mB 85 k ≤ x / 256 / 2 := Nat.and_le_left
    have l2 : (x % 256 / 2) &&& 85 ≤ x % 256 / 2 := Nat.and_le_left
    show x - ((x / 2) &&& (85 + 256 * mB 85 k)) = (x % 256 - ((x % 256 / 2) &&& 85)) + 256 * pB b_1 k (x / 256)
    rw [e, and_256 _ _ (by omega) (by decide), ← ih]
    have t : (x % 256 / 2 + 128 * (x / 256 % 2)) &&& 85 = (x % 256 / 2) &&& 85 := t
    rw [t]
    omega
theorem pB_2 : ∀ k x, x < 256 ^ k → (x &&& mB 51 k) + ((x / 4) &&& mB 51 k) = pB b_2 k x
  | 0, x, h => by
    have : x = 0 := by simpa using h
    subst this
    rfl
  | k + 1, x, h => by
    have hk : x / 256 < 256 ^ k := Nat.div_lt_of_lt_mul (by rw [Nat.pow_succ, Nat.mul_comm] at h; exact h)
    have ih := pB_2 k (x / 256) hk
    have e : x / 4 = (x % 256 / 4 + 64 * (x / 256 % 4)) + 256 * (x / 256 / 4) := by omega
    have e2 : x = x % 256 + 256 * (x / 256) := by omega
    have t : (x % 256 / 4 + 64 * (x / 256 % 4)) &&& 51 = (x % 256 / 4) &&& 51 := b2_t ⟨x / 256 % 4, by omega⟩ ⟨x % 256, by omega⟩
    have a1 : (x / 4) &&& mB 51 (k + 1) = ((x % 256 / 4) &&& 51) + 256 * ((x / 256 / 4) &&& mB 51 k) := by
      show (x / 4) &&& (51 + 256 * mB 51 k) = _
      rw [e, and_256 _ _ (by omega) (by decide), t]
    have a2 : x &&& mB 51 (k + 1) = ((x % 256) &&& 51) + 256 * ((x / 256) &&& mB 51 k) := by
      have := and_256 (x := x % 256) (c := 51) (x / 256) (mB 51 k) (by omega) (by decide)
      rw [← e2] at this
      exact this
    rw [a1, a2]
    show _ = (((x % 256) &&& 51) + ((x % 256 / 4) &&& 51)) + 256 * pB b_2 k (x / 256)
    rw [← ih]
    omega
theorem pB_lt {f : Nat → Nat} (hf : ∀ b, b < 256 → f b < 256) : ∀ k x, pB f k x < 256 ^ k
  | 0, _ => Nat.one_pos
  | k + 1, x => by
    have := pB_lt hf k (x / 256)
    have := hf (x % 256) (by omega)
    show f (x % 256) + 256 * pB f k (x / 256) < 256 ^ (k + 1)
    rw [Nat.pow_succ]
    omega
theorem pB_comp {f f' : Nat → Nat} (hf : ∀ b, b < 256 → f b < 256) : ∀ k x, pB f' k (pB f k x) = pB (fun b => f' (f b)) k x
  | 0, _ => rfl
  | k + 1, x => by
    have h1 := hf (x % 256) (by omega)
    have e1 : pB f (k + 1) x % 256 = f (x % 256) := by
      show (f (x % 256) + 256 * pB f k (x / 256)) % 256 = _
      omega
    have e2 : pB f (k + 1) x / 256 = pB f k (x / 256) := by
      show (f (x % 256) + 256 * pB f k (x / 256)) / 256 = _
      omega
    show f' (pB f (k + 1) x % 256) + 256 * pB f' k (pB f (k + 1) x / 256) = _
    rw [e1, e2, pB_comp hf]
    rfl
theorem pB_3 {f : Nat → Nat} (hf : ∀ b, b < 256 → f b % 16 ≤ 4 ∧ f b / 16 ≤ 4) : ∀ k x, (pB f k x + pB f k x / 16) &&& mB 15 k = pB (fun b => b_3 (f b)) k x
  | 0, _ => by simp [pB, mB]
  | k + 1, x => by
    have ih := pB_3 hf k (x / 256)
    have h1 := hf (x % 256) (by omega)
    have h2 : pB f k (x / 256) % 16 ≤ 4 := by
      cases k with
      | zero => exact Nat.zero_le 4
      | succ k =>
        have := hf (x / 256 % 256) (by omega)
        show (f (x / 256 % 256) + 256 * pB f k (x / 256 / 256)) % 16 ≤ 4
        omega
    show (pB f (k + 1) x + pB f (k + 1) x / 16) &&& (15 + 256 * mB 15 k) = b_3 (f (x % 256)) + 256 * pB (fun b => b_3 (f b)) k (x / 256)
    have e : pB f (k + 1) x + pB f (k + 1) x / 16 = (f (x % 256) + f (x % 256) / 16 + 16 * (pB f k (x / 256) % 16)) + 256 * (pB f k (x / 256) + pB f k (x / 256) / 16) := by
      show (f (x % 256) + 256 * pB f k (x / 256)) + (f (x % 256) + 256 * pB f k (x / 256)) / 16 = _
      omega
    rw [e, and_256 _ _ (by omega) (by decide), ih, show (15 : Nat) = 2 ^ 4 - 1 from rfl, Nat.and_two_pow_sub_one_eq_mod]
    unfold b_3
    omega
theorem cnt_split (f : Nat → Bool) (a : Nat) : ∀ b, cnt f (a + b) = cnt f a + cnt (fun i => f (a + i)) b
  | 0 => rfl
  | b + 1 => by
    show cnt f (a + b) + (if f (a + b) then 1 else 0) = cnt f a + (cnt (fun i => f (a + i)) b + if f (a + b) then 1 else 0)
    rw [cnt_split f a b]
    omega
theorem tB_cnt : ∀ (k x : Nat), cnt (fun i => x.testBit i) (8 * k) = tB (fun b => cnt (fun i => b.testBit i) 8) k x
  | 0, _ => rfl
  | k + 1, x => by
    rw [show 8 * (k + 1) = 8 + 8 * k by omega, cnt_split]
    show _ = cnt (fun i => (x % 256).testBit i) 8 + tB _ k (x / 256)
    rw [← tB_cnt k (x / 256)]
    congr 1
    · apply cnt_congr
      intro i hi
      show _ = (x % 2 ^ 8).testBit i
      rw [Nat.testBit_mod_two_pow]
      simp [hi]
    · apply cnt_congr
      intro i hi
      show x.testBit (8 + i) = (x / 2 ^ 8).testBit i
      rw [Nat.testBit_div_two_pow, Nat.add_comm]
theorem pB_sum {f : Nat → Nat} (hf : ∀ b, b < 256 → f b ≤ 8) {x y z t : Nat} (hy : y = pB f 8 x + pB f 8 x / 256) (hz : z = y + y / 65536) (ht : t = z + z / 4294967296) : t % 128 = tB f 8 x ∧ t < 2 ^ 63 := by
  simp only [pB, tB] at *
  have h0 := hf (x % 256) (by omega)
  have h1 := hf (x / 256 % 256) (by omega)
  have h2 := hf (x / 256 / 256 % 256) (by omega)
  have h3 := hf (x / 256 / 256 / 256 % 256) (by omega)
  have h4 := hf (x / 256 / 256 / 256 / 256 % 256) (by omega)
  have h5 := hf (x / 256 / 256 / 256 / 256 / 256 % 256) (by omega)
  have h6 := hf (x / 256 / 256 / 256 / 256 / 256 / 256 % 256) (by omega)
  have h7 := hf (x / 256 / 256 / 256 / 256 / 256 / 256 / 256 % 256) (by omega)
  generalize f (x % 256) = c0 at *
  generalize f (x / 256 % 256) = c1 at *
  generalize f (x / 256 / 256 % 256) = c2 at *
  generalize f (x / 256 / 256 / 256 % 256) = c3 at *
  generalize f (x / 256 / 256 / 256 / 256 % 256) = c4 at *
  generalize f (x / 256 / 256 / 256 / 256 / 256 % 256) = c5 at *
  generalize f (x / 256 / 256 / 256 / 256 / 256 / 256 % 256) = c6 at *
  generalize f (x / 256 / 256 / 256 / 256 / 256 / 256 / 256 % 256) = c7 at *
  have d1 : (c0 + 256 * (c1 + 256 * (c2 + 256 * (c3 + 256 * (c4 + 256 * (c5 + 256 * (c6 + 256 * (c7 + 256 * 0)))))))) / 256 = c1 + 256 * (c2 + 256 * (c3 + 256 * (c4 + 256 * (c5 + 256 * (c6 + 256 * (c7 + 256 * 0)))))) := by
    rw [Nat.add_mul_div_left _ _ (by decide), Nat.div_eq_of_lt (by omega), Nat.zero_add]
  rw [d1] at hy
  clear hf
  have hy' : y = ((c0 + c1) + 256 * (c1 + c2)) + 65536 * ((c2 + c3) + 256 * ((c3 + c4) + 256 * ((c4 + c5) + 256 * ((c5 + c6) + 256 * ((c6 + c7) + 256 * c7))))) := by omega
  clear d1 hy
  have d2 : y / 65536 = (c2 + c3) + 256 * ((c3 + c4) + 256 * ((c4 + c5) + 256 * ((c5 + c6) + 256 * ((c6 + c7) + 256 * c7)))) := by
    rw [hy', Nat.add_mul_div_left _ _ (by decide), Nat.div_eq_of_lt (by omega), Nat.zero_add]
  rw [d2] at hz
  clear d2
  have hz' : z = ((c0 + c1 + c2 + c3) + 256 * (c1 + c2 + c3 + c4) + 65536 * (c2 + c3 + c4 + c5) + 16777216 * (c3 + c4 + c5 + c6)) + 4294967296 * ((c4 + c5 + c6 + c7) + 256 * (c5 + c6 + c7) + 65536 * (c6 + c7) + 16777216 * c7) := by omega
  clear hz
  have d3 : z / 4294967296 = (c4 + c5 + c6 + c7) + 256 * (c5 + c6 + c7) + 65536 * (c6 + c7) + 16777216 * c7 := by
    rw [hz', Nat.add_mul_div_left _ _ (by decide), Nat.div_eq_of_lt (by omega), Nat.zero_add]
  rw [d3] at ht
  clear d3
  have e : t = (c0 + c1 + c2 + c3 + c4 + c5 + c6 + c7) + 128 * (2 * ((c1 + c2 + c3 + c4) + (c5 + c6 + c7)) + 512 * ((c2 + c3 + c4 + c5) + (c6 + c7)) + 131072 * ((c3 + c4 + c5 + c6) + c7) + 33554432 * ((c4 + c5 + c6 + c7) + 256 * (c5 + c6 + c7) + 65536 * (c6 + c7) + 16777216 * c7)) := by omega
  clear hy' hz' ht
  refine ⟨?_, by omega⟩
  rw [e, Nat.add_mul_mod_self_left, Nat.mod_eq_of_lt (by omega)]
  omega
theorem pop_n {x : Nat} (hx : x < 2 ^ 64) {a b c y z t : Nat} (ha : a = x - ((x / 2) &&& 6148914691236517205)) (hb : b = (a &&& 3689348814741910323) + ((a / 4) &&& 3689348814741910323)) (hc : c = (b + b / 16) &&& 1085102592571150095) (hy : y = c + c / 256) (hz : z = y + y / 65536) (ht : t = z + z / 4294967296) : a < 2 ^ 64 ∧ b < 2 ^ 64 ∧ c < 2 ^ 64 ∧ b + b / 16 < 2 ^ 64 ∧ y < 2 ^ 64 ∧ z < 2 ^ 64 ∧ t % 128 = cnt (fun i => x.testBit i) 64 := by
  have hf1 : ∀ b, b < 256 → b_1 b < 256 := fun b h => b1_lt ⟨b, h⟩
  have hf2 : ∀ b, b < 256 → b_2 (b_1 b) % 16 ≤ 4 ∧ b_2 (b_1 b) / 16 ≤ 4 := fun b h => b2_lt ⟨b, h⟩
  have ea : a = pB b_1 8 x := by rw [ha]; exact pB_1 8 x hx
  have la : a < 256 ^ 8 := by rw [ea]; exact pB_lt hf1 8 x
  have eb : b = pB (fun b => b_2 (b_1 b)) 8 x := by
    rw [hb]
    have := pB_2 8 a la
    rw [ea, pB_comp hf1, ← ea] at this
    exact this
  have hf3 : ∀ b, b < 256 → (fun b => b_2 (b_1 b)) b < 69 := fun b h => by
    have := hf2 b h
    show b_2 (b_1 b) < 69
    omega
  have lb : b < 256 ^ 8 := by rw [eb]; exact pB_lt (fun b h => Nat.lt_trans (hf3 b h) (by decide)) 8 x
  have ec : c = pB (fun b => b_3 (b_2 (b_1 b))) 8 x := by
    rw [hc, eb]
    exact pB_3 (f := fun b => b_2 (b_1 b)) hf2 8 x
  have hf4 : ∀ b, b < 256 → (fun b => b_3 (b_2 (b_1 b))) b = cnt (fun i => b.testBit i) 8 := fun b h => b3_is ⟨b, h⟩
  have hf5 : ∀ b, b < 256 → (fun b => b_3 (b_2 (b_1 b))) b ≤ 8 := fun b h => by rw [hf4 b h]; exact cnt_le _ 8
  have lc : c < 256 ^ 8 := by rw [ec]; exact pB_lt (fun b h => Nat.lt_of_le_of_lt (hf5 b h) (by decide)) 8 x
  have hs := pB_sum hf5 (x := x) (y := y) (z := z) (t := t) (by rw [hy, ec]) hz ht
  have lbb : b + b / 16 < 2 ^ 64 := by
    have : ∀ k x, pB (fun b => b_2 (b_1 b)) (k + 1) x < 128 * 256 ^ k := fun k => by
      induction k with
      | zero =>
        intro x
        have := hf3 (x % 256) (by omega)
        show b_2 (b_1 (x % 256)) + 256 * 0 < 128
        have : b_2 (b_1 (x % 256)) < 69 := this
        omega
      | succ k ih =>
        intro x
        have h1 := ih (x / 256)
        have : b_2 (b_1 (x % 256)) < 69 := hf3 (x % 256) (by omega)
        show b_2 (b_1 (x % 256)) + 256 * pB (fun b => b_2 (b_1 b)) (k + 1) (x / 256) < _
        rw [Nat.pow_succ]
        omega
    have := this 7 x
    rw [← eb] at this
    clear hs hc hb ha hy hz ht la lb lc
    omega
  have e8 : cnt (fun i => x.testBit i) 64 = tB (fun b => b_3 (b_2 (b_1 b))) 8 x := by
    rw [show (64 : Nat) = 8 * 8 from rfl, tB_cnt]
    have : ∀ k x, tB (fun b => cnt (fun i => b.testBit i) 8) k x = tB (fun b => b_3 (b_2 (b_1 b))) k x := fun k => by
      induction k with
      | zero => exact fun _ => rfl
      | succ k ih =>
        intro x
        show cnt (fun i => (x % 256).testBit i) 8 + _ = b_3 (b_2 (b_1 (x % 256))) + _
        rw [ih (x / 256)]
        have : b_3 (b_2 (b_1 (x % 256))) = cnt (fun i => (x % 256).testBit i) 8 := hf4 (x % 256) (by omega)
        rw [this]
    exact this 8 x
  have := hs.2
  have l1 : y ≤ z := by rw [hz]; exact Nat.le_add_right _ _
  have l2 : z ≤ t := by rw [ht]; exact Nat.le_add_right _ _
  refine ⟨la, lb, lc, lbb, ?_, ?_, ?_⟩
  · exact Nat.lt_of_le_of_lt (Nat.le_trans l1 l2) (Nat.lt_trans hs.2 (by decide))
  · exact Nat.lt_of_le_of_lt l2 (Nat.lt_trans hs.2 (by decide))
  · rw [e8]; exact hs.1
