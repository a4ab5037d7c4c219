/-! what the class calls of the JDK, and its Bits -/
section JX
variable {l : Launch} {g : jG} {me : jM} {hgt mc ms : Nat} {Q : Option Value → jS → Prop} {pc : Nat} {lv : List (Nat × Value)} {rest : List Value} {S : jS} {nc ns : Nat}
theorem J_topL {x y : Int64} (e : x = y) (k : J l g me hgt mc ms Q pc lv (.long y :: rest) S nc ns) : J l g me hgt mc ms Q pc lv (.long x :: rest) S nc ns := e ▸ k
end JX
def isB (z : Int64) (f : Nat → Bool) : Prop := ∀ i, i < 64 → z.toBitVec.getLsbD i = f i
theorem lz_inj {a b : Int64} (h : a.toBitVec.toNat = b.toBitVec.toNat) : a = b := Int64.toBitVec_inj.mp (BitVec.eq_of_toNat_eq h)
theorem lz_tn {x : Nat} (h : x < 2 ^ 64) : (lN x).toBitVec.toNat = x := by
  show (BitVec.ofNat 64 x).toNat = x
  rw [BitVec.toNat_ofNat, Nat.mod_eq_of_lt h]
theorem lz_of (z : Int64) : z = lN z.toBitVec.toNat := lz_inj (lz_tn z.toBitVec.isLt).symm
theorem lz_shr {x : Nat} (hx : x < 2 ^ 64) (y : Int32) (k : Nat) (hy : (y.toInt64.toUInt64 &&& Int64.toUInt64 63).toNat % 64 = k) : ((lN x).toUInt64 >>> (y.toInt64.toUInt64 &&& Int64.toUInt64 63)).toInt64 = lN (x / 2 ^ k) := by
  apply lz_inj
  show ((lN x).toUInt64 >>> (y.toInt64.toUInt64 &&& Int64.toUInt64 63)).toNat = _
  have h2 : (lN x).toUInt64.toNat = x := lz_tn hx
  rw [UInt64.toNat_shiftRight, hy, h2, Nat.shiftRight_eq_div_pow, lz_tn (Nat.lt_of_le_of_lt (Nat.div_le_self _ _) hx)]
theorem lz_and {a b : Nat} (ha : a < 2 ^ 64) (hb : b < 2 ^ 64) : lN a &&& lN b = lN (a &&& b) := by
  apply lz_inj
  rw [Int64.toBitVec_and, BitVec.toNat_and, lz_tn ha, lz_tn hb, lz_tn (Nat.and_lt_two_pow _ hb)]
theorem nI_m7 (t : Nat) : (nI t).toBitVec.toNat % 2 ^ 7 = t % 128 := by
  show (BitVec.ofNat 32 t).toNat % 2 ^ 7 = t % 128
  rw [BitVec.toNat_ofNat]
  omega
set_option maxRecDepth 100000 in
theorem cx_bitCount (l : Launch) (g : jG) (hgt : Nat) {S : jS} {z : Int64} {f : Nat → Bool} (h : isB z f) : CT l g mJ13_bitCount_95d88 hgt 0 0 [.long z] S (jPure (.int (nI (cnt f 64))) S) := by
  obtain ⟨x, hx, hz⟩ : ∃ x, x < 2 ^ 64 ∧ z = lN x := ⟨_, z.toBitVec.isLt, lz_of z⟩
  subst hz
  have e : cnt f 64 = cnt (fun i => x.testBit i) 64 := by
    apply cnt_congr
    intro i hi
    rw [← h i hi, BitVec.getLsbD, lz_tn hx]
  obtain ⟨ha, hb, hc, hbb, hy, hw, ht⟩ := pop_n hx rfl rfl rfl rfl rfl rfl
  refine CT_of qJ13_bitCount_95d88 (Nat.le_of_ble_eq_true rfl) ?_
  refine J_lload_n (pc := 0) dJ13_bitCount_95d88_0 rfl rfl ?_
  refine J_lload_n (pc := 1) dJ13_bitCount_95d88_1 rfl rfl ?_
  refine J_iconst (pc := 2) (v := nI 1) dJ13_bitCount_95d88_2 (by decide) ?_
  refine J_lushr (pc := 3) dJ13_bitCount_95d88_3 rfl ?_
  refine J_topL (lz_shr hx _ 1 (by decide)) ?_
  refine J_ldc2 (pc := 4) kJ13_314 dJ13_bitCount_95d88_4 ?_
  refine J_land (pc := 7) dJ13_bitCount_95d88_7 ?_
  refine J_topL (lz_and (b := 6148914691236517205) (by omega) (by decide)) ?_
  refine J_lsub (pc := 8) dJ13_bitCount_95d88_8 ?_
  refine J_topL (lN_sub (Nat.le_trans Nat.and_le_left (Nat.div_le_self _ _))) ?_
  refine J_lstore_n (pc := 9) dJ13_bitCount_95d88_9 rfl (by decide) ?_
  refine J_lload_n (pc := 10) dJ13_bitCount_95d88_10 rfl rfl ?_
  refine J_ldc2 (pc := 11) kJ13_316 dJ13_bitCount_95d88_11 ?_
  refine J_land (pc := 14) dJ13_bitCount_95d88_14 ?_
  refine J_topL (lz_and (b := 3689348814741910323) ha (by decide)) ?_
  refine J_lload_n (pc := 15) dJ13_bitCount_95d88_15 rfl rfl ?_
  refine J_iconst (pc := 16) (v := nI 2) dJ13_bitCount_95d88_16 (by decide) ?_
  refine J_lushr (pc := 17) dJ13_bitCount_95d88_17 rfl ?_
  refine J_topL (lz_shr ha _ 2 (by decide)) ?_
  refine J_ldc2 (pc := 18) kJ13_316 dJ13_bitCount_95d88_18 ?_
  refine J_land (pc := 21) dJ13_bitCount_95d88_21 ?_
  refine J_topL (lz_and (b := 3689348814741910323) (Nat.lt_of_le_of_lt (Nat.div_le_self _ _) ha) (by decide)) ?_
  refine J_ladd (pc := 22) dJ13_bitCount_95d88_22 ?_
  refine J_topL (lN_add _ _) ?_
  refine J_lstore_n (pc := 23) dJ13_bitCount_95d88_23 rfl (by decide) ?_
  refine J_lload_n (pc := 24) dJ13_bitCount_95d88_24 rfl rfl ?_
  refine J_lload_n (pc := 25) dJ13_bitCount_95d88_25 rfl rfl ?_
  refine J_iconst (pc := 26) (v := nI 4) dJ13_bitCount_95d88_26 (by decide) ?_
  refine J_lushr (pc := 27) dJ13_bitCount_95d88_27 rfl ?_
  refine J_topL (lz_shr hb _ 4 (by decide)) ?_
  refine J_ladd (pc := 28) dJ13_bitCount_95d88_28 ?_
  refine J_topL (lN_add _ _) ?_
  refine J_ldc2 (pc := 29) kJ13_318 dJ13_bitCount_95d88_29 ?_
  refine J_land (pc := 32) dJ13_bitCount_95d88_32 ?_
  refine J_topL (lz_and (b := 1085102592571150095) hbb (by decide)) ?_
  refine J_lstore_n (pc := 33) dJ13_bitCount_95d88_33 rfl (by decide) ?_
  refine J_lload_n (pc := 34) dJ13_bitCount_95d88_34 rfl rfl ?_
  refine J_lload_n (pc := 35) dJ13_bitCount_95d88_35 rfl rfl ?_
  refine J_bipush (pc := 36) (v := nI 8) dJ13_bitCount_95d88_36 (by decide) ?_
  refine J_lushr (pc := 38) dJ13_bitCount_95d88_38 rfl ?_
  refine J_topL (lz_shr hc _ 8 (by decide)) ?_
  refine J_ladd (pc := 39) dJ13_bitCount_95d88_39 ?_
  refine J_topL (lN_add _ _) ?_
  refine J_lstore_n (pc := 40) dJ13_bitCount_95d88_40 rfl (by decide) ?_
  refine J_lload_n (pc := 41) dJ13_bitCount_95d88_41 rfl rfl ?_
  refine J_lload_n (pc := 42) dJ13_bitCount_95d88_42 rfl rfl ?_
  refine J_bipush (pc := 43) (v := nI 16) dJ13_bitCount_95d88_43 (by decide) ?_
  refine J_lushr (pc := 45) dJ13_bitCount_95d88_45 rfl ?_
  refine J_topL (lz_shr hy _ 16 (by decide)) ?_
  refine J_ladd (pc := 46) dJ13_bitCount_95d88_46 ?_
  refine J_topL (lN_add _ _) ?_
  refine J_lstore_n (pc := 47) dJ13_bitCount_95d88_47 rfl (by decide) ?_
  refine J_lload_n (pc := 48) dJ13_bitCount_95d88_48 rfl rfl ?_
  refine J_lload_n (pc := 49) dJ13_bitCount_95d88_49 rfl rfl ?_
  refine J_bipush (pc := 50) (v := nI 32) dJ13_bitCount_95d88_50 (by decide) ?_
  refine J_lushr (pc := 52) dJ13_bitCount_95d88_52 rfl ?_
  refine J_topL (lz_shr hw _ 32 (by decide)) ?_
  refine J_ladd (pc := 53) dJ13_bitCount_95d88_53 ?_
  refine J_topL (lN_add _ _) ?_
  refine J_lstore_n (pc := 54) dJ13_bitCount_95d88_54 rfl (by decide) ?_
  refine J_lload_n (pc := 55) dJ13_bitCount_95d88_55 rfl rfl ?_
  refine J_l2i (pc := 56) dJ13_bitCount_95d88_56 rfl ?_
  refine J_top (lN_i _) ?_
  refine J_bipush (pc := 57) (v := nI 127) dJ13_bitCount_95d88_57 (by decide) ?_
  refine J_iand (pc := 59) dJ13_bitCount_95d88_59 ?_
  refine J_top (pk_and _ 7 (by decide)) ?_
  refine J_iret (pc := 60) dJ13_bitCount_95d88_60 rfl (by omega) (by omega) ?_
  refine ⟨congrArg (fun v => some (Value.int (nI v))) ?_, rfl⟩
  rw [e, nI_m7]
  exact ht
def b1 (i : Nat) : Int64 := (1 : Int64) <<< ((nI i).toInt64 &&& 63)
theorem b1_is : ∀ i, i < 64 → (b1 i).toBitVec = BitVec.twoPow 64 i := by decide +kernel
theorem b1_b {i j : Nat} (hi : i < 64) (hj : j < 64) : (b1 i).toBitVec.getLsbD j = decide (j = i) := by
  rw [b1_is i hi, BitVec.getLsbD_twoPow]
  by_cases e : j = i
  · subst e; simp [hj]
  · simp [hi, e, show ¬ i = j from fun z => e z.symm]
theorem bm1_b {j : Nat} (hj : j < 64) : (-1 : Int64).toBitVec.getLsbD j = true := by
  rw [show (-1 : Int64).toBitVec = BitVec.allOnes 64 from by decide, BitVec.getLsbD_allOnes, decide_eq_true hj]
theorem isB_or {z : Int64} {f : Nat → Bool} {i : Nat} (h : isB z f) (hi : i < 64) : isB (z ||| b1 i) (fun j => if j = i then true else f j) := by
  intro j hj
  rw [Int64.toBitVec_or, BitVec.getLsbD_or, h j hj, b1_b hi hj]
  by_cases e : j = i
  · simp [e]
  · simp [e]
theorem isB_out {z : Int64} {f : Nat → Bool} {i : Nat} (h : isB z f) (hi : i < 64) : isB (z &&& (b1 i ^^^ (-1))) (fun j => if j = i then false else f j) := by
  intro j hj
  rw [Int64.toBitVec_and, BitVec.getLsbD_and, Int64.toBitVec_xor, BitVec.getLsbD_xor, h j hj, b1_b hi hj, bm1_b hj]
  by_cases e : j = i
  · simp [e]
  · simp [e]
theorem isB_not {z : Int64} {f : Nat → Bool} (h : isB z f) : isB (z ^^^ (-1)) (fun j => !f j) := by
  intro j hj
  rw [Int64.toBitVec_xor, BitVec.getLsbD_xor, h j hj, bm1_b hj]
  simp
theorem isB_0 : isB 0 (fun _ => false) := by
  intro j hj
  exact BitVec.getLsbD_zero
theorem isB_z {z : Int64} {f : Nat → Bool} (h : isB z f) : z = 0 ↔ ∀ i, i < 64 → f i = false := by
  constructor
  · intro e i hi
    subst e
    rw [← h i hi]
    exact BitVec.getLsbD_zero
  · intro e
    apply Int64.toBitVec_inj.mp
    apply BitVec.eq_of_getLsbD_eq
    intro i hi
    rw [h i hi, e i hi]
    exact BitVec.getLsbD_zero.symm
theorem isB_has {z : Int64} {f : Nat → Bool} {i : Nat} (h : isB z f) (hi : i < 64) : z &&& b1 i = 0 ↔ f i = false := by
  have h2 : isB (z &&& b1 i) (fun j => f j && decide (j = i)) := by
    intro j hj
    rw [Int64.toBitVec_and, BitVec.getLsbD_and, h j hj, b1_b hi hj]
  rw [isB_z h2]
  constructor
  · intro e
    have := e i hi
    simpa using this
  · intro e j hj
    by_cases q : j = i
    · subst q; simp [e]
    · simp [q]
theorem isB_congr {z : Int64} {f f' : Nat → Bool} (h : isB z f) (e : ∀ i, i < 64 → f i = f' i) : isB z f' := fun i hi => (h i hi).trans (e i hi)
theorem isB_low {z : Int64} {f : Nat → Bool} {i : Nat} (h : isB z f) (hi : i < 64) (hf : f i = true) (hno : ∀ j, j < i → f j = false) : isB ((z &&& -z) - 1) (fun j => decide (j < i)) := by
  have e : z &&& -z = lN (2 ^ i) := by
    apply Int64.toBitVec_inj.mp
    apply BitVec.eq_of_getLsbD_eq
    intro j hj
    rw [Int64.toBitVec_and, BitVec.getLsbD_and, Int64.toBitVec_neg, BitVec.getLsbD_neg, h j hj]
    show _ = (BitVec.ofNat 64 (2 ^ i)).getLsbD j
    rw [BitVec.getLsbD_ofNat, Nat.testBit_two_pow]
    rcases Nat.lt_trichotomy j i with q | q | q
    · rw [hno j q]; simp [show ¬ i = j by omega]
    · subst q
      have : ¬ ∃ k, k < j ∧ z.toBitVec.getLsbD k = true := fun ⟨k, hk, hk2⟩ => by
        rw [h k (by omega), hno k hk] at hk2
        exact absurd hk2 (by decide)
      simp [hf, hj, this]
    · have : ∃ k, k < j ∧ z.toBitVec.getLsbD k = true := ⟨i, q, by rw [h i hi]; exact hf⟩
      simp [hj, this, show ¬ i = j by omega]
  rw [e, show (1 : Int64) = lN 1 from rfl, lN_sub Nat.one_le_two_pow]
  intro j hj
  show (BitVec.ofNat 64 (2 ^ i - 1)).getLsbD j = _
  rw [BitVec.getLsbD_ofNat, Nat.testBit_two_pow_sub_one]
  simp [hj]
theorem cnt_dec : ∀ n i, i ≤ n → cnt (fun j => decide (j < i)) n = i
  | 0, i, h => by
    have : i = 0 := by omega
    subst this
    rfl
  | n + 1, i, h => by
    show cnt _ n + (if decide (n < i) then 1 else 0) = i
    by_cases q : i = n + 1
    · subst q
      rw [cnt_congr (f' := fun j => decide (j < n)) (fun j hj => by simp [show j < n + 1 by omega, hj]), cnt_dec n n (Nat.le_refl n)]
      simp
    · rw [cnt_dec n i (by omega)]
      simp [show ¬ n < i by omega]
set_option maxRecDepth 100000 in
theorem cx_with (l : Launch) (g : jG) (hgt : Nat) {S : jS} (z : Int64) (i : Nat) : CT l g mX0_with hgt 0 0 [.long z, .int (nI i)] S (jPure (.long (z ||| b1 i)) S) := by
  refine CT_of qX0_with (Nat.le_of_ble_eq_true rfl) ?_
  refine J_lload_n (pc := 0) dX0_with_0 rfl rfl ?_
  refine J_lconst (pc := 1) (v := 1) dX0_with_1 rfl ?_
  refine J_iload_n (pc := 2) dX0_with_2 rfl rfl ?_
  refine J_lshl (pc := 3) dX0_with_3 rfl ?_
  refine J_lor (pc := 4) dX0_with_4 ?_
  refine J_lret (pc := 5) dX0_with_5 rfl (by omega) (by omega) ?_
  exact ⟨rfl, rfl⟩
set_option maxRecDepth 100000 in
theorem cx_without (l : Launch) (g : jG) (hgt : Nat) {S : jS} (z : Int64) (i : Nat) : CT l g mX0_without hgt 0 0 [.long z, .int (nI i)] S (jPure (.long (z &&& (b1 i ^^^ (-1)))) S) := by
  refine CT_of qX0_without (Nat.le_of_ble_eq_true rfl) ?_
  refine J_lload_n (pc := 0) dX0_without_0 rfl rfl ?_
  refine J_lconst (pc := 1) (v := 1) dX0_without_1 rfl ?_
  refine J_iload_n (pc := 2) dX0_without_2 rfl rfl ?_
  refine J_lshl (pc := 3) dX0_without_3 rfl ?_
  refine J_ldc2 (pc := 4) kX0_7 dX0_without_4 ?_
  refine J_lxor (pc := 7) dX0_without_7 ?_
  refine J_land (pc := 8) dX0_without_8 ?_
  refine J_lret (pc := 9) dX0_without_9 rfl (by omega) (by omega) ?_
  exact ⟨rfl, rfl⟩
set_option maxRecDepth 100000 in
theorem cx_least (l : Launch) (g : jG) (hgt : Nat) {S : jS} {z : Int64} {f : Nat → Bool} {i : Nat} (h : isB z f) (hi : i < 64) (hf : f i = true) (hno : ∀ j, j < i → f j = false) : CT l g mX0_least (hgt + 1) 0 0 [.long z] S (jPure (.int (nI i)) S) := by
  refine CT_of qX0_least (Nat.le_of_ble_eq_true rfl) ?_
  refine J_lload_n (pc := 0) dX0_least_0 rfl rfl ?_
  refine J_lload_n (pc := 1) dX0_least_1 rfl rfl ?_
  refine J_lneg (pc := 2) dX0_least_2 ?_
  refine J_land (pc := 3) dX0_least_3 ?_
  refine J_lconst (pc := 4) (v := 1) dX0_least_4 rfl ?_
  refine J_lsub (pc := 5) dX0_least_5 ?_
  refine J_callS (pc := 6) (cx_bitCount l g hgt (isB_low h hi hf hno)) qJ13_bitCount_95d88 vJ13_bitCount_95d88 kX0_9 dX0_least_6 rfl rfl (Nat.le_of_ble_eq_true rfl) (by omega) (by omega) (by omega) ?_
  rintro _ _ ⟨rfl, rfl⟩
  rw [cnt_dec 64 i (by omega)]
  refine J_iret (pc := 9) dX0_least_9 rfl (by omega) (by omega) ?_
  exact ⟨rfl, rfl⟩
set_option maxRecDepth 100000 in
theorem cx_has (l : Launch) (g : jG) (hgt : Nat) {S : jS} {z : Int64} {f : Nat → Bool} {i : Nat} (h : isB z f) (hi : i < 64) : CT l g mX0_has hgt 0 0 [.long z, .int (nI i)] S (jPure (.int (bI (f i))) S) := by
  refine CT_of qX0_has (Nat.le_of_ble_eq_true rfl) ?_
  refine J_lload_n (pc := 0) dX0_has_0 rfl rfl ?_
  refine J_lconst (pc := 1) (v := 1) dX0_has_1 rfl ?_
  refine J_iload_n (pc := 2) dX0_has_2 rfl rfl ?_
  refine J_lshl (pc := 3) dX0_has_3 rfl ?_
  refine J_land (pc := 4) dX0_has_4 ?_
  refine J_lconst (pc := 5) (v := 0) dX0_has_5 rfl ?_
  refine J_lcmp (pc := 6) dX0_has_6 ?_
  refine J_if_eq (pc := 7) (tgt := 14) dX0_has_7 rfl (fun hc => ?_) (fun hc => ?_)
  · have hc : f i = false := (isB_has h hi).mp ((lg_cmp_eq _ _).mp hc)
    rw [hc]
    refine J_iconst (pc := 14) (v := nI 0) dX0_has_14 (by decide) ?_
    refine J_zret (pc := 15) dX0_has_15 rfl rfl (by omega) (by omega) ?_
    exact ⟨rfl, rfl⟩
  · have hc : f i = true := by
      cases q : f i with
      | true => rfl
      | false => exact absurd ((lg_cmp_eq _ _).mpr ((isB_has h hi).mpr q)) hc
    rw [hc]
    refine J_iconst (pc := 10) (v := nI 1) dX0_has_10 (by decide) ?_
    refine J_goto (pc := 11) (tgt := 15) dX0_has_11 rfl ?_
    refine J_zret (pc := 15) dX0_has_15 rfl rfl (by omega) (by omega) ?_
    exact ⟨rfl, rfl⟩
set_option maxRecDepth 100000 in
theorem cx_min (l : Launch) (g : jG) (hgt : Nat) {S : jS} {a b : Nat} (ha : a < 2 ^ 31) (hb : b < 2 ^ 31) : CT l g mJ9_min_7cf53 hgt 0 0 [.int (nI a), .int (nI b)] S (jPure (.int (nI (min a b))) S) := by
  refine CT_of qJ9_min_7cf53 (Nat.le_of_ble_eq_true rfl) ?_
  refine J_iload_n (pc := 0) dJ9_min_7cf53_0 rfl rfl ?_
  refine J_iload_n (pc := 1) dJ9_min_7cf53_1 rfl rfl ?_
  refine J_icmp_gtN (pc := 2) (tgt := 9) dJ9_min_7cf53_2 rfl (by omega) (by omega) (fun B => ?_) (fun B => ?_)
  · rw [Nat.min_eq_right (by omega)]
    refine J_iload_n (pc := 9) dJ9_min_7cf53_9 rfl rfl ?_
    refine J_iret (pc := 10) dJ9_min_7cf53_10 rfl (by omega) (by omega) ?_
    exact ⟨rfl, rfl⟩
  · rw [Nat.min_eq_left (by omega)]
    refine J_iload_n (pc := 5) dJ9_min_7cf53_5 rfl rfl ?_
    refine J_goto (pc := 6) (tgt := 10) dJ9_min_7cf53_6 rfl ?_
    refine J_iret (pc := 10) dJ9_min_7cf53_10 rfl (by omega) (by omega) ?_
    exact ⟨rfl, rfl⟩
set_option maxRecDepth 100000 in
theorem cx_max (l : Launch) (g : jG) (hgt : Nat) {S : jS} {a b : Nat} (ha : a < 2 ^ 31) (hb : b < 2 ^ 31) : CT l g mJ9_max_7cf53 hgt 0 0 [.int (nI a), .int (nI b)] S (jPure (.int (nI (max a b))) S) := by
  refine CT_of qJ9_max_7cf53 (Nat.le_of_ble_eq_true rfl) ?_
  refine J_iload_n (pc := 0) dJ9_max_7cf53_0 rfl rfl ?_
  refine J_iload_n (pc := 1) dJ9_max_7cf53_1 rfl rfl ?_
  refine J_icmp_ltN (pc := 2) (tgt := 9) dJ9_max_7cf53_2 rfl (by omega) (by omega) (fun B => ?_) (fun B => ?_)
  · rw [Nat.max_eq_right (by omega)]
    refine J_iload_n (pc := 9) dJ9_max_7cf53_9 rfl rfl ?_
    refine J_iret (pc := 10) dJ9_max_7cf53_10 rfl (by omega) (by omega) ?_
    exact ⟨rfl, rfl⟩
  · rw [Nat.max_eq_left (by omega)]
    refine J_iload_n (pc := 5) dJ9_max_7cf53_5 rfl rfl ?_
    refine J_goto (pc := 6) (tgt := 10) dJ9_max_7cf53_6 rfl ?_
    refine J_iret (pc := 10) dJ9_max_7cf53_10 rfl (by omega) (by omega) ?_
    exact ⟨rfl, rfl⟩
theorem nI_xnn {a b : Nat} (ha : a < 2 ^ 31) (hb : b < 2 ^ 31) : 0 ≤ (nI a ^^^ nI b : Int32) := by
  have e : nI a ^^^ nI b = nI (a ^^^ b) := by
    apply Int32.toBitVec_inj.mp
    show BitVec.ofNat 32 a ^^^ BitVec.ofNat 32 b = BitVec.ofNat 32 (a ^^^ b)
    apply BitVec.eq_of_getLsbD_eq
    intro i hi
    simp [hi]
  rw [e, show (0 : Int32) = nI 0 from rfl, nI_leI (by decide) (Nat.xor_lt_two_pow ha hb)]
  omega
set_option maxRecDepth 100000 in
theorem cx_floorMod (l : Launch) (g : jG) (hgt : Nat) {S : jS} {a b : Nat} (ha : a < 2 ^ 31) (h0 : 0 < b) (hb : b < 2 ^ 31) : CT l g mJ9_floorMod_7cf53 hgt 0 0 [.int (nI a), .int (nI b)] S (jPure (.int (nI (a % b))) S) := by
  refine CT_of qJ9_floorMod_7cf53 (Nat.le_of_ble_eq_true rfl) ?_
  refine J_iload_n (pc := 0) dJ9_floorMod_7cf53_0 rfl rfl ?_
  refine J_iload_n (pc := 1) dJ9_floorMod_7cf53_1 rfl rfl ?_
  refine J_iremN dJ9_floorMod_7cf53_2 ha h0 hb ?_
  refine J_istore_n (pc := 3) dJ9_floorMod_7cf53_3 rfl (by decide) ?_
  refine J_iload_n (pc := 4) dJ9_floorMod_7cf53_4 rfl rfl ?_
  refine J_iload_n (pc := 5) dJ9_floorMod_7cf53_5 rfl rfl ?_
  refine J_ixor (pc := 6) dJ9_floorMod_7cf53_6 ?_
  refine J_if_ge (pc := 7) (tgt := 18) dJ9_floorMod_7cf53_7 rfl (fun _ => ?_) (fun hc9 => absurd ((nI_xnn ha hb)) hc9)
  refine J_iload_n (pc := 18) dJ9_floorMod_7cf53_18 rfl rfl ?_
  refine J_iret (pc := 19) dJ9_floorMod_7cf53_19 rfl (by omega) (by omega) ?_
  exact ⟨rfl, rfl⟩
