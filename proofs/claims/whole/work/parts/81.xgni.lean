/-! THE CLASS: what a host tells -/
set_option maxRecDepth 100000 in
theorem cx_max0 (l : Launch) (g : jG) (hgt : Nat) {S : jS} {z : Int32} (hz : z < 0) : CT l g mJ9_max_7cf53 hgt 0 0 [.int (nI 0), .int z] S (jPure (.int (nI 0)) S) := by
  refine CT_of qJ9_max_7cf53 (Nat.le_of_ble_eq_true rfl) ?_
  refine J_iload_n (pc := 0) dJ9_max_7cf53_0 rfl rfl ?_
  refine J_iload_n (pc := 1) dJ9_max_7cf53_1 rfl rfl ?_
  refine J_icmp_lt (pc := 2) (tgt := 9) dJ9_max_7cf53_2 rfl (fun hc9 => absurd hc9 ((Int32.not_lt.mpr (Int32.le_of_lt hz)))) (fun _ => ?_)
  refine J_iload_n (pc := 5) dJ9_max_7cf53_5 rfl rfl ?_
  refine J_goto (pc := 6) (tgt := 10) dJ9_max_7cf53_6 rfl ?_
  refine J_iret (pc := 10) dJ9_max_7cf53_10 rfl (by omega) (by omega) ?_
  exact ⟨rfl, rfl⟩
theorem nI_subneg {a b : Nat} (h : a < b) (hb : b < 1000) : nI a - nI b < 0 := by
  rw [Int32.lt_iff_toInt_lt, Int32.toInt_sub, nI_toInt (by omega), nI_toInt (by omega)]
  show Int.bmod _ _ < 0
  unfold Int.bmod
  dsimp only
  split <;> omega
def x_gnr (X : XS) (m : Nat) : Nat := if xV X 19 m = 1 then xV X 21 m - (xV X 10 m - x_missing X m) else 0
set_option maxRecDepth 100000 in
theorem cx_recGni (l : Launch) (g : jG) (hgt : Nat) {S : jS} {w : Nat → Nat → Nat} {hx : Nat} {X : XS} {m : Nat} (hW : WX S w hx X) (hm : m < xV X 1 0) (ho : okH X m) (h19 : xV X 19 m ≤ 2) (h21 : xV X 21 m ≤ xV X 10 m) (hh : 1 ≤ hgt) : CT l g mX6_grantedAndNotIn hgt 0 0 [.ref (w 4 m)] S (jPure (.int (nI (x_gnr X m))) S) := by
  have hc := ho.cnt
  have h60 := ho.2
  unfold x_gnr
  refine CT_of qX6_grantedAndNotIn (Nat.le_of_ble_eq_true rfl) ?_
  refine J_aload_n (pc := 0) dX6_grantedAndNotIn_0 rfl rfl ?_
  refine J_callV (pc := 1) (cx_isKnown l g (hgt - 1) hW hm h19) qX6_isKnown vX6_isKnown cl4 rfl (hW.q hm) kX6_56 dX6_grantedAndNotIn_1 rfl rfl (Nat.le_of_ble_eq_true rfl) (by omega) (by omega) (by omega) ?_
  rintro _ _ ⟨rfl, rfl⟩
  refine J_if_eqB (pc := 4) (tgt := 26) dX6_grantedAndNotIn_4 rfl (fun B => ?_) (fun B => ?_)
  · have B := of_decide_eq_false B
    rw [if_neg B]
    refine J_iconst (pc := 26) (v := nI 0) dX6_grantedAndNotIn_26 (by decide) ?_
    refine J_iret (pc := 27) dX6_grantedAndNotIn_27 rfl (by omega) (by omega) ?_
    exact ⟨rfl, rfl⟩
  · have B := of_decide_eq_true B
    rw [if_pos B]
    refine J_iconst (pc := 7) (v := nI 0) dX6_grantedAndNotIn_7 (by decide) ?_
    refine J_aload_n (pc := 8) dX6_grantedAndNotIn_8 rfl rfl ?_
    refine J_geti (pc := 9) (i := 5) cl4 (hW.q hm) (by decide) rfl (hW.n21 hm) kX6_22 dX6_grantedAndNotIn_9 ?_
    refine J_aload_n (pc := 12) dX6_grantedAndNotIn_12 rfl rfl ?_
    refine J_getl (pc := 13) (i := 4) cl4 (hW.q hm) (by decide) rfl rfl kX6_18 dX6_grantedAndNotIn_13 ?_
    refine J_callS (pc := 16) (cx_bitCount l g (hgt - 1) (hW.held hm)) qJ13_bitCount_95d88 vJ13_bitCount_95d88 kX6_50 dX6_grantedAndNotIn_16 rfl rfl (Nat.le_of_ble_eq_true rfl) (by omega) (by omega) (by omega) ?_
    rintro _ _ ⟨rfl, rfl⟩
    by_cases q : cnt (xB X 1 m) 64 ≤ xV X 21 m
    · refine J_isubN dX6_grantedAndNotIn_19 q ?_
      refine J_callS (pc := 20) (cx_max l g (hgt - 1) (a := 0) (b := xV X 21 m - cnt (xB X 1 m) 64) (by decide) (by omega)) qJ9_max_7cf53 vJ9_max_7cf53 kX6_60 dX6_grantedAndNotIn_20 rfl rfl (Nat.le_of_ble_eq_true rfl) (by omega) (by omega) (by omega) ?_
      rintro _ _ ⟨rfl, rfl⟩
      refine J_goto (pc := 23) (tgt := 27) dX6_grantedAndNotIn_23 rfl ?_
      refine J_iret (pc := 27) dX6_grantedAndNotIn_27 rfl (by omega) (by omega) ?_
      rw [show max 0 (xV X 21 m - cnt (xB X 1 m) 64) = xV X 21 m - (xV X 10 m - x_missing X m) by omega]
      exact ⟨rfl, rfl⟩
    · refine J_isub (pc := 19) dX6_grantedAndNotIn_19 ?_
      refine J_callS (pc := 20) (cx_max0 l g (hgt - 1) (nI_subneg (a := xV X 21 m) (b := cnt (xB X 1 m) 64) (by omega) (by omega))) qJ9_max_7cf53 vJ9_max_7cf53 kX6_60 dX6_grantedAndNotIn_20 rfl rfl (Nat.le_of_ble_eq_true rfl) (by omega) (by omega) (by omega) ?_
      rintro _ _ ⟨rfl, rfl⟩
      refine J_goto (pc := 23) (tgt := 27) dX6_grantedAndNotIn_23 rfl ?_
      refine J_iret (pc := 27) dX6_grantedAndNotIn_27 rfl (by omega) (by omega) ?_
      rw [show xV X 21 m - (xV X 10 m - x_missing X m) = 0 by omega]
      exact ⟨rfl, rfl⟩
theorem gni_fold (X : XS) (h : Nat) : ∀ n, x_gni X h n = (outsF n (xV X 9) h).foldl (fun s x => s + x_gnr X x) 0
  | 0 => rfl
  | n + 1 => by
    have ih := gni_fold X h n
    unfold outsF at ih ⊢
    rw [filter_s, List.foldl_append, ← ih]
    show x_gni X h n + x_gni1 X h n = _
    unfold x_gni1
    by_cases q : xV X 9 n = h
    · rw [decide_eq_true q]
      simp only [q, true_and, if_true, List.foldl_cons, List.foldl_nil]
      rfl
    · rw [decide_eq_false q, if_neg (fun z => q z.1)]
      rfl
set_option maxRecDepth 100000 in
theorem cx_hostGni (l : Launch) (g : jG) (hgt : Nat) {S : jS} {w : Nat → Nat → Nat} {hx : Nat} {X : XS} {a : Nat} (hW : WX S w hx X) (ha : a < 8) (hI : xOK X) (hh : 2 ≤ hgt) : CT l g mX3_grantedAndNotIn hgt 0 0 [.ref (w 2 a)] S (jPure (.int (nI (x_gni X a (xV X 1 0)))) S) := by
  have h48 := hI.many
  have hlen := outs_len (xV X 1 0) (xV X 9) a
  rw [gni_fold]
  refine CT_of qX3_grantedAndNotIn (Nat.le_of_ble_eq_true rfl) ?_
  refine J_iconst (pc := 0) (v := nI 0) dX3_grantedAndNotIn_0 (by decide) ?_
  refine J_istore_n (pc := 1) dX3_grantedAndNotIn_1 rfl (by decide) ?_
  refine J_iconst (pc := 2) (v := nI 0) dX3_grantedAndNotIn_2 (by decide) ?_
  refine J_istore_n (pc := 3) dX3_grantedAndNotIn_3 rfl (by decide) ?_
  have loop : ∀ i, i ≤ (outsF (xV X 1 0) (xV X 9) a).length → ∀ s, s = ((outsF (xV X 1 0) (xV X 9) a).take i).foldl (fun s x => s + x_gnr X x) 0 → J l g mX3_grantedAndNotIn hgt 0 0 (jPure (.int (nI ((outsF (xV X 1 0) (xV X 9) a).foldl (fun s x => s + x_gnr X x) 0))) S) 4 [(1, .int (nI s)), (2, .int (nI i)), (0, .ref (w 2 a))] [] S 0 0 := by
    refine down _ ?_ ?_
    · intro s hs
      rw [List.take_length] at hs
      rw [← hs]
      refine J_iload_n (pc := 4) dX3_grantedAndNotIn_4 rfl rfl ?_
      refine J_aload_n (pc := 5) dX3_grantedAndNotIn_5 rfl rfl ?_
      refine J_geti (pc := 6) (i := 7) cl2 (hW.ho ha) (by decide) rfl (hW.cinc ha) kX3_47 dX3_grantedAndNotIn_6 ?_
      refine J_icmp_geN (pc := 9) (tgt := 33) dX3_grantedAndNotIn_9 rfl (by omega) (by omega) (fun B => ?_) (fun B => ?_)
      · refine J_iload_n (pc := 33) dX3_grantedAndNotIn_33 rfl rfl ?_
        refine J_iret (pc := 34) dX3_grantedAndNotIn_34 rfl (by omega) (by omega) ?_
        exact ⟨rfl, rfl⟩
      · omega
    · intro i hi ih s hs
      obtain ⟨x, hx2⟩ : ∃ x, (outsF (xV X 1 0) (xV X 9) a)[i]? = some x := ⟨_, List.getElem?_eq_getElem hi⟩
      have hm := (outs_get hx2).1
      have o := hI.msg (m := x) (by omega)
      rw [List.take_add_one, hx2, List.foldl_append, ← hs] at ih
      refine J_iload_n (pc := 4) dX3_grantedAndNotIn_4 rfl rfl ?_
      refine J_aload_n (pc := 5) dX3_grantedAndNotIn_5 rfl rfl ?_
      refine J_geti (pc := 6) (i := 7) cl2 (hW.ho ha) (by decide) rfl (hW.cinc ha) kX3_47 dX3_grantedAndNotIn_6 ?_
      refine J_icmp_geN (pc := 9) (tgt := 33) dX3_grantedAndNotIn_9 rfl (by omega) (by omega) (fun B => ?_) (fun B => ?_)
      · omega
      · refine J_iload_n (pc := 12) dX3_grantedAndNotIn_12 rfl rfl ?_
        refine J_aload_n (pc := 13) dX3_grantedAndNotIn_13 rfl rfl ?_
        refine J_getr (pc := 14) (i := 1) cl2 (hW.ho ha) (by decide) rfl (hW.hinc ha) kX3_17 dX3_grantedAndNotIn_14 ?_
        refine J_iload_n (pc := 17) dX3_grantedAndNotIn_17 rfl rfl ?_
        refine J_rald12 (pc := 18) (hW.ainc ha) rfl (show i < 48 by omega) (by first | omega | exact mLn_lt _) (hW.inc ha hx2) dX3_grantedAndNotIn_18 ?_
        refine J_getrN (pc := 19) (i := 5) (host := RX9) cl3 (hW.mo hm) (by decide) rfl (hW.mr hm) (by decide +kernel) dX3_grantedAndNotIn_19 ?_
        refine J_callV (pc := 22) (cx_recGni l g (hgt - 1) hW hm (hI.okH hm) o.2.2.1 o.2.2.2.1 (by omega)) qX6_grantedAndNotIn vX6_grantedAndNotIn cl4 rfl (hW.q hm) kX3_203 dX3_grantedAndNotIn_22 rfl rfl (Nat.le_of_ble_eq_true rfl) (by omega) (by omega) (by omega) ?_
        rintro _ _ ⟨rfl, rfl⟩
        refine J_iaddN dX3_grantedAndNotIn_25 ?_
        refine J_istore_n (pc := 26) dX3_grantedAndNotIn_26 rfl (by decide) ?_
        refine J_iinc (pc := 27) dX3_grantedAndNotIn_27 rfl (inc1 _) (by decide) ?_
        refine J_goto (pc := 30) (tgt := 4) dX3_grantedAndNotIn_30 rfl ?_
        exact J_lvk (ih _ rfl) ⟨rfl, rfl, rfl, trivial⟩
  exact J_lvk (loop 0 (Nat.zero_le _) 0 rfl) ⟨rfl, rfl, rfl, trivial⟩
set_option maxRecDepth 100000 in
theorem cx_cutFirst (l : Launch) (g : jG) (hgt : Nat) {S : jS} {w : Nat → Nat → Nat} {hx : Nat} {X : XS} {a : Nat} (hW : WX S w hx X) (ha : a < 8) : CT l g mX1_first hgt 0 0 [.ref (w 0 a)] S (jPure (.int (nI (x_cut X a 1))) S) := by
  refine CT_of qX1_first (Nat.le_of_ble_eq_true rfl) ?_
  refine J_aload_n (pc := 0) dX1_first_0 rfl rfl ?_
  refine J_geti (pc := 1) (i := 4) cl0 (hW.o 0 a ha) (by decide) rfl (hW.k1 ha) kX1_23 dX1_first_1 ?_
  refine J_iret (pc := 4) dX1_first_4 rfl (by omega) (by omega) ?_
  exact ⟨rfl, rfl⟩
set_option maxRecDepth 100000 in
theorem cx_cutSecond (l : Launch) (g : jG) (hgt : Nat) {S : jS} {w : Nat → Nat → Nat} {hx : Nat} {X : XS} {a : Nat} (hW : WX S w hx X) (ha : a < 8) : CT l g mX1_second hgt 0 0 [.ref (w 0 a)] S (jPure (.int (nI (x_cut X a 2))) S) := by
  refine CT_of qX1_second (Nat.le_of_ble_eq_true rfl) ?_
  refine J_aload_n (pc := 0) dX1_second_0 rfl rfl ?_
  refine J_geti (pc := 1) (i := 5) cl0 (hW.o 0 a ha) (by decide) rfl (hW.k2 ha) kX1_26 dX1_second_1 ?_
  refine J_iret (pc := 4) dX1_second_4 rfl (by omega) (by omega) ?_
  exact ⟨rfl, rfl⟩
