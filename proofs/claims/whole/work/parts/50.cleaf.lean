/-! THE CLASS: packets as numbers -/
theorem nI_or (a b : Nat) : nI a ||| nI b = nI (a ||| b) := by
  apply Int32.toBitVec_inj.mp
  show BitVec.ofNat 32 a ||| BitVec.ofNat 32 b = BitVec.ofNat 32 (a ||| b)
  rw [BitVec.ofNat_or]
theorem nI_orN {a b k p : Nat} (hp : 2 ^ k = p) (hb : b < p) : nI (a * p) ||| nI b = nI (a * p + b) := by
  subst hp
  rw [nI_or, Nat.mul_comm a, Nat.two_pow_add_eq_or_of_lt hb]
def pkN (k p gl m c : Nat) : Nat := (((k * 4 + p) * 8 + gl) * 64 + m) * 4096 + c
theorem pkN_lt {k p gl m c : Nat} (hk : k < 4) (hp : p < 4) (hg : gl < 8) (hm : m < 64) (hc : c < 4096) : pkN k p gl m c < 2 ^ 25 := by
  unfold pkN
  omega
theorem pkN_c {k p gl m c : Nat} (hc : c < 4096) : pkN k p gl m c % 4096 = c := by unfold pkN; omega
theorem pkN_m {k p gl m c : Nat} (hm : m < 64) (hc : c < 4096) : pkN k p gl m c / 4096 % 64 = m := by unfold pkN; omega
theorem pkN_g {k p gl m c : Nat} (hg : gl < 8) (hm : m < 64) (hc : c < 4096) : pkN k p gl m c / 262144 % 8 = gl := by unfold pkN; omega
theorem pkN_p {k p gl m c : Nat} (hp : p < 4) (hg : gl < 8) (hm : m < 64) (hc : c < 4096) : pkN k p gl m c / 2097152 % 4 = p := by unfold pkN; omega
theorem pkN_k {k p gl m c : Nat} (hp : p < 4) (hg : gl < 8) (hm : m < 64) (hc : c < 4096) : pkN k p gl m c / 8388608 = k := by unfold pkN; omega
set_option maxRecDepth 100000 in
theorem cx_pack (l : Launch) (g : jG) (hgt : Nat) {S : jS} {k p gl m c a : Nat} (ha : sAt S 3 a) (hn : sI S 3 a 0 = nI m) (hk : k < 4) (hp : p < 4) (hg : gl < 8) (hm : m < 64) (hc : c < 4096) : CT l g mX5_pack hgt 0 0 [.int (nI k), .ref a, .int (nI c), .int (nI p), .int (nI gl)] S (jPure (.int (nI (pkN k p gl m c))) S) := by
  refine CT_of qX5_pack (Nat.le_of_ble_eq_true rfl) ?_
  refine J_iload_n (pc := 0) dX5_pack_0 rfl rfl ?_
  refine J_istore (pc := 1) dX5_pack_1 (by decide) ?_
  refine J_iload (pc := 3) dX5_pack_3 rfl ?_
  refine J_iconst (pc := 5) (v := nI 2) dX5_pack_5 (by decide) ?_
  refine J_ishl (pc := 6) dX5_pack_6 ?_
  refine J_top (pk_shlN (n := k) _ 2 (by decide) (by omega)) ?_
  refine J_iload_n (pc := 7) dX5_pack_7 rfl rfl ?_
  refine J_ior (pc := 8) dX5_pack_8 ?_
  refine J_top (nI_orN (k := 2) (by decide) hp) ?_
  refine J_istore (pc := 9) dX5_pack_9 (by decide) ?_
  refine J_iload (pc := 11) dX5_pack_11 rfl ?_
  refine J_iconst (pc := 13) (v := nI 3) dX5_pack_13 (by decide) ?_
  refine J_ishl (pc := 14) dX5_pack_14 ?_
  refine J_top (pk_shlN (n := k * 4 + p) _ 3 (by decide) (by omega)) ?_
  refine J_iload (pc := 15) dX5_pack_15 rfl ?_
  refine J_ior (pc := 17) dX5_pack_17 ?_
  refine J_top (nI_orN (k := 3) (by decide) hg) ?_
  refine J_istore (pc := 18) dX5_pack_18 (by decide) ?_
  refine J_iload (pc := 20) dX5_pack_20 rfl ?_
  refine J_bipush (pc := 22) (v := nI 6) dX5_pack_22 (by decide) ?_
  refine J_ishl (pc := 24) dX5_pack_24 ?_
  refine J_top (pk_shlN (n := (k * 4 + p) * 8 + gl) _ 6 (by decide) (by omega)) ?_
  refine J_aload_n (pc := 25) dX5_pack_25 rfl rfl ?_
  refine J_getiN (pc := 26) (i := 0) (host := RX9) cl3 ha (by decide) rfl hn (by decide +kernel) dX5_pack_26 ?_
  refine J_ior (pc := 29) dX5_pack_29 ?_
  refine J_top (nI_orN (k := 6) (by decide) hm) ?_
  refine J_istore (pc := 30) dX5_pack_30 (by decide) ?_
  refine J_iload (pc := 32) dX5_pack_32 rfl ?_
  refine J_bipush (pc := 34) (v := nI 12) dX5_pack_34 (by decide) ?_
  refine J_ishl (pc := 36) dX5_pack_36 ?_
  refine J_top (pk_shlN (n := ((k * 4 + p) * 8 + gl) * 64 + m) _ 12 (by decide) (by omega)) ?_
  refine J_iload_n (pc := 37) dX5_pack_37 rfl rfl ?_
  refine J_ior (pc := 38) dX5_pack_38 ?_
  refine J_top (nI_orN (k := 12) (by decide) hc) ?_
  refine J_iret (pc := 39) dX5_pack_39 rfl (by omega) (by omega) ?_
  exact ⟨rfl, rfl⟩
set_option maxRecDepth 100000 in
theorem cx_countOf (l : Launch) (g : jG) (hgt : Nat) {S : jS} {k p gl m c : Nat} (hk : k < 4) (hp : p < 4) (hg : gl < 8) (hm : m < 64) (hc : c < 4096) : CT l g mX5_countOf hgt 0 0 [.int (nI (pkN k p gl m c))] S (jPure (.int (nI c)) S) := by
  have hl := pkN_lt hk hp hg hm hc
  refine CT_of qX5_countOf (Nat.le_of_ble_eq_true rfl) ?_
  refine J_iload_n (pc := 0) dX5_countOf_0 rfl rfl ?_
  refine J_sipush (pc := 1) (v := nI 4095) dX5_countOf_1 (by decide) ?_
  refine J_iand (pc := 4) dX5_countOf_4 ?_
  refine J_top (pk_andN (by omega) 12 (by decide)) ?_
  refine J_iret (pc := 5) dX5_countOf_5 rfl (by omega) (by omega) ?_
  exact ⟨by rw [show (2 : Nat) ^ 12 = 4096 from rfl, pkN_c hc], rfl⟩
set_option maxRecDepth 100000 in
theorem cx_messageOf (l : Launch) (g : jG) (hgt : Nat) {S : jS} {k p gl m c : Nat} (hk : k < 4) (hp : p < 4) (hg : gl < 8) (hm : m < 64) (hc : c < 4096) : CT l g mX5_messageOf hgt 0 0 [.int (nI (pkN k p gl m c))] S (jPure (.int (nI m)) S) := by
  have hl := pkN_lt hk hp hg hm hc
  refine CT_of qX5_messageOf (Nat.le_of_ble_eq_true rfl) ?_
  refine J_iload_n (pc := 0) dX5_messageOf_0 rfl rfl ?_
  refine J_bipush (pc := 1) (v := nI 12) dX5_messageOf_1 (by decide) ?_
  refine J_ishr (pc := 3) dX5_messageOf_3 ?_
  refine J_top (pk_shrN (by omega) _ 12 (by decide)) ?_
  refine J_bipush (pc := 4) (v := nI 63) dX5_messageOf_4 (by decide) ?_
  refine J_iand (pc := 6) dX5_messageOf_6 ?_
  refine J_top (pk_andN (by omega) 6 (by decide)) ?_
  refine J_iret (pc := 7) dX5_messageOf_7 rfl (by omega) (by omega) ?_
  exact ⟨by rw [show (2 : Nat) ^ 12 = 4096 from rfl, show (2 : Nat) ^ 6 = 64 from rfl, pkN_m hm hc], rfl⟩
set_option maxRecDepth 100000 in
theorem cx_goalOf (l : Launch) (g : jG) (hgt : Nat) {S : jS} {k p gl m c : Nat} (hk : k < 4) (hp : p < 4) (hg : gl < 8) (hm : m < 64) (hc : c < 4096) : CT l g mX5_goalOf hgt 0 0 [.int (nI (pkN k p gl m c))] S (jPure (.int (nI gl)) S) := by
  have hl := pkN_lt hk hp hg hm hc
  refine CT_of qX5_goalOf (Nat.le_of_ble_eq_true rfl) ?_
  refine J_iload_n (pc := 0) dX5_goalOf_0 rfl rfl ?_
  refine J_bipush (pc := 1) (v := nI 18) dX5_goalOf_1 (by decide) ?_
  refine J_ishr (pc := 3) dX5_goalOf_3 ?_
  refine J_top (pk_shrN (by omega) _ 18 (by decide)) ?_
  refine J_bipush (pc := 4) (v := nI 7) dX5_goalOf_4 (by decide) ?_
  refine J_iand (pc := 6) dX5_goalOf_6 ?_
  refine J_top (pk_andN (by omega) 3 (by decide)) ?_
  refine J_iret (pc := 7) dX5_goalOf_7 rfl (by omega) (by omega) ?_
  exact ⟨by rw [show (2 : Nat) ^ 18 = 262144 from rfl, show (2 : Nat) ^ 3 = 8 from rfl, pkN_g hg hm hc], rfl⟩
set_option maxRecDepth 100000 in
theorem cx_priorityOf (l : Launch) (g : jG) (hgt : Nat) {S : jS} {k p gl m c : Nat} (hk : k < 4) (hp : p < 4) (hg : gl < 8) (hm : m < 64) (hc : c < 4096) : CT l g mX5_priorityOf hgt 0 0 [.int (nI (pkN k p gl m c))] S (jPure (.int (nI p)) S) := by
  have hl := pkN_lt hk hp hg hm hc
  refine CT_of qX5_priorityOf (Nat.le_of_ble_eq_true rfl) ?_
  refine J_iload_n (pc := 0) dX5_priorityOf_0 rfl rfl ?_
  refine J_bipush (pc := 1) (v := nI 21) dX5_priorityOf_1 (by decide) ?_
  refine J_ishr (pc := 3) dX5_priorityOf_3 ?_
  refine J_top (pk_shrN (by omega) _ 21 (by decide)) ?_
  refine J_iconst (pc := 4) (v := nI 3) dX5_priorityOf_4 (by decide) ?_
  refine J_iand (pc := 5) dX5_priorityOf_5 ?_
  refine J_top (pk_andN (by omega) 2 (by decide)) ?_
  refine J_iret (pc := 6) dX5_priorityOf_6 rfl (by omega) (by omega) ?_
  exact ⟨by rw [show (2 : Nat) ^ 21 = 2097152 from rfl, show (2 : Nat) ^ 2 = 4 from rfl, pkN_p hp hg hm hc], rfl⟩
set_option maxRecDepth 100000 in
theorem cx_kindOf (l : Launch) (g : jG) (hgt : Nat) {S : jS} {k p gl m c : Nat} (hk : k < 4) (hp : p < 4) (hg : gl < 8) (hm : m < 64) (hc : c < 4096) : CT l g mX5_kindOf hgt 0 0 [.int (nI (pkN k p gl m c))] S (jPure (.int (nI k)) S) := by
  have hl := pkN_lt hk hp hg hm hc
  refine CT_of qX5_kindOf (Nat.le_of_ble_eq_true rfl) ?_
  refine J_iload_n (pc := 0) dX5_kindOf_0 rfl rfl ?_
  refine J_bipush (pc := 1) (v := nI 23) dX5_kindOf_1 (by decide) ?_
  refine J_ishr (pc := 3) dX5_kindOf_3 ?_
  refine J_top (pk_shrN (by omega) _ 23 (by decide)) ?_
  refine J_iret (pc := 4) dX5_kindOf_4 rfl (by omega) (by omega) ?_
  exact ⟨by rw [show (2 : Nat) ^ 23 = 8388608 from rfl, pkN_k hp hg hm hc], rfl⟩
/-! links -/
set_option maxRecDepth 100000 in
theorem cx_isLink (l : Launch) (g : jG) (hgt : Nat) {S : jS} (x : Int32) : CT l g mX2_isLink hgt 0 0 [.int x] S (jPure (.int (bI (decide (¬ (x < 0 ∨ nI 24 ≤ x))))) S) := by
  refine CT_of qX2_isLink (Nat.le_of_ble_eq_true rfl) ?_
  refine J_iload_n (pc := 0) dX2_isLink_0 rfl rfl ?_
  refine J_if_lt (pc := 1) (tgt := 14) dX2_isLink_1 rfl (fun h1 => ?_) (fun h1 => ?_)
  · refine J_iconst (pc := 14) (v := nI 0) dX2_isLink_14 (by decide) ?_
    refine J_zret (pc := 15) dX2_isLink_15 rfl rfl (by omega) (by omega) ?_
    exact ⟨by rw [decide_eq_false (by simp [h1])]; rfl, rfl⟩
  · refine J_iload_n (pc := 4) dX2_isLink_4 rfl rfl ?_
    refine J_bipush (pc := 5) (v := nI 24) dX2_isLink_5 (by decide) ?_
    refine J_icmp_ge (pc := 7) (tgt := 14) dX2_isLink_7 rfl (fun h2 => ?_) (fun h2 => ?_)
    · refine J_iconst (pc := 14) (v := nI 0) dX2_isLink_14 (by decide) ?_
      refine J_zret (pc := 15) dX2_isLink_15 rfl rfl (by omega) (by omega) ?_
      exact ⟨by rw [decide_eq_false (by simp [h2])]; rfl, rfl⟩
    · refine J_iconst (pc := 10) (v := nI 1) dX2_isLink_10 (by decide) ?_
      refine J_goto (pc := 11) (tgt := 15) dX2_isLink_11 rfl ?_
      refine J_zret (pc := 15) dX2_isLink_15 rfl rfl (by omega) (by omega) ?_
      exact ⟨by rw [decide_eq_true (by simp [h1, h2])]; rfl, rfl⟩
set_option maxRecDepth 100000 in
theorem cx_isHost (l : Launch) (g : jG) (hgt : Nat) {S : jS} (x : Int32) : CT l g mX9_isHost hgt 0 0 [.int x] S (jPure (.int (bI (decide (¬ (x < 0 ∨ nI 8 ≤ x))))) S) := by
  refine CT_of qX9_isHost (Nat.le_of_ble_eq_true rfl) ?_
  refine J_iload_n (pc := 0) dX9_isHost_0 rfl rfl ?_
  refine J_if_lt (pc := 1) (tgt := 14) dX9_isHost_1 rfl (fun h1 => ?_) (fun h1 => ?_)
  · refine J_iconst (pc := 14) (v := nI 0) dX9_isHost_14 (by decide) ?_
    refine J_zret (pc := 15) dX9_isHost_15 rfl rfl (by omega) (by omega) ?_
    exact ⟨by rw [decide_eq_false (by simp [h1])]; rfl, rfl⟩
  · refine J_iload_n (pc := 4) dX9_isHost_4 rfl rfl ?_
    refine J_bipush (pc := 5) (v := nI 8) dX9_isHost_5 (by decide) ?_
    refine J_icmp_ge (pc := 7) (tgt := 14) dX9_isHost_7 rfl (fun h2 => ?_) (fun h2 => ?_)
    · refine J_iconst (pc := 14) (v := nI 0) dX9_isHost_14 (by decide) ?_
      refine J_zret (pc := 15) dX9_isHost_15 rfl rfl (by omega) (by omega) ?_
      exact ⟨by rw [decide_eq_false (by simp [h2])]; rfl, rfl⟩
    · refine J_iconst (pc := 10) (v := nI 1) dX9_isHost_10 (by decide) ?_
      refine J_goto (pc := 11) (tgt := 15) dX9_isHost_11 rfl ?_
      refine J_zret (pc := 15) dX9_isHost_15 rfl rfl (by omega) (by omega) ?_
      exact ⟨by rw [decide_eq_true (by simp [h1, h2])]; rfl, rfl⟩
set_option maxRecDepth 100000 in
theorem cx_isFromLeaf (l : Launch) (g : jG) (hgt : Nat) {S : jS} {k : Nat} (hk : k < 24) : CT l g mX2_isFromLeaf hgt 0 0 [.int (nI k)] S (jPure (.int (bI (decide (8 ≤ k ∧ k < 20)))) S) := by
  refine CT_of qX2_isFromLeaf (Nat.le_of_ble_eq_true rfl) ?_
  refine J_iload_n (pc := 0) dX2_isFromLeaf_0 rfl rfl ?_
  refine J_bipush (pc := 1) (v := nI 8) dX2_isFromLeaf_1 (by decide) ?_
  refine J_icmp_ltN (pc := 3) (tgt := 16) dX2_isFromLeaf_3 rfl (by omega) (by omega) (fun h1 => ?_) (fun h1 => ?_)
  · refine J_iconst (pc := 16) (v := nI 0) dX2_isFromLeaf_16 (by decide) ?_
    refine J_zret (pc := 17) dX2_isFromLeaf_17 rfl rfl (by omega) (by omega) ?_
    exact ⟨by rw [decide_eq_false (by omega)]; rfl, rfl⟩
  · refine J_iload_n (pc := 6) dX2_isFromLeaf_6 rfl rfl ?_
    refine J_bipush (pc := 7) (v := nI 20) dX2_isFromLeaf_7 (by decide) ?_
    refine J_icmp_geN (pc := 9) (tgt := 16) dX2_isFromLeaf_9 rfl (by omega) (by omega) (fun h2 => ?_) (fun h2 => ?_)
    · refine J_iconst (pc := 16) (v := nI 0) dX2_isFromLeaf_16 (by decide) ?_
      refine J_zret (pc := 17) dX2_isFromLeaf_17 rfl rfl (by omega) (by omega) ?_
      exact ⟨by rw [decide_eq_false (by omega)]; rfl, rfl⟩
    · refine J_iconst (pc := 12) (v := nI 1) dX2_isFromLeaf_12 (by decide) ?_
      refine J_goto (pc := 13) (tgt := 17) dX2_isFromLeaf_13 rfl ?_
      refine J_zret (pc := 17) dX2_isFromLeaf_17 rfl rfl (by omega) (by omega) ?_
      exact ⟨by rw [decide_eq_true (by omega)]; rfl, rfl⟩
set_option maxRecDepth 100000 in
theorem cx_portOfLeaf (l : Launch) (g : jG) (hgt : Nat) {S : jS} {k : Nat} (hk : k < 24) (h8 : 8 ≤ k) : CT l g mX2_portOfLeaf hgt 0 0 [.int (nI k)] S (jPure (.int (nI ((k - 8) % 6))) S) := by
  refine CT_of qX2_portOfLeaf (Nat.le_of_ble_eq_true rfl) ?_
  refine J_iload_n (pc := 0) dX2_portOfLeaf_0 rfl rfl ?_
  refine J_bipush (pc := 1) (v := nI 8) dX2_portOfLeaf_1 (by decide) ?_
  first | refine J_isubN (pc := 3) dX2_portOfLeaf_3 (by omega) ?_ | refine J_isub (pc := 3) dX2_portOfLeaf_3 ?_
  refine J_bipush (pc := 4) (v := nI 6) dX2_portOfLeaf_4 (by decide) ?_
  first | refine J_iremN (pc := 6) dX2_portOfLeaf_6 (by omega) (by omega) (by omega) ?_ | refine J_irem (pc := 6) dX2_portOfLeaf_6 (by decide) ?_
  refine J_iret (pc := 7) dX2_portOfLeaf_7 rfl (by omega) (by omega) ?_
  exact ⟨rfl, rfl⟩
set_option maxRecDepth 100000 in
theorem cx_endsAtHost (l : Launch) (g : jG) (hgt : Nat) {S : jS} {k : Nat} (hk : k < 24) (hh : 1 ≤ hgt) : CT l g mX2_endsAtHost hgt 0 0 [.int (nI k)] S (jPure (.int (bI (decide (8 ≤ k ∧ k < 20 ∧ (k - 8) % 6 < 4)))) S) := by
  refine CT_of qX2_endsAtHost (Nat.le_of_ble_eq_true rfl) ?_
  refine J_iload_n (pc := 0) dX2_endsAtHost_0 rfl rfl ?_
  refine J_callS (pc := 1) (cx_isFromLeaf l g (hgt - 1) hk) qX2_isFromLeaf vX2_isFromLeaf kX2_49 dX2_endsAtHost_1 rfl rfl (Nat.le_of_ble_eq_true rfl) (by omega) (by omega) (by omega) ?_
  rintro _ _ ⟨rfl, rfl⟩
  refine J_if_eqB (pc := 4) (tgt := 19) dX2_endsAtHost_4 rfl (fun h1 => ?_) (fun h1 => ?_)
  · have h1 := of_decide_eq_false h1
    refine J_iconst (pc := 19) (v := nI 0) dX2_endsAtHost_19 (by decide) ?_
    refine J_zret (pc := 20) dX2_endsAtHost_20 rfl rfl (by omega) (by omega) ?_
    exact ⟨by rw [decide_eq_false (by omega)]; rfl, rfl⟩
  · have h1 := of_decide_eq_true h1
    refine J_iload_n (pc := 7) dX2_endsAtHost_7 rfl rfl ?_
    refine J_callS (pc := 8) (cx_portOfLeaf l g (hgt - 1) hk h1.1) qX2_portOfLeaf vX2_portOfLeaf kX2_53 dX2_endsAtHost_8 rfl rfl (Nat.le_of_ble_eq_true rfl) (by omega) (by omega) (by omega) ?_
    rintro _ _ ⟨rfl, rfl⟩
    refine J_iconst (pc := 11) (v := nI 4) dX2_endsAtHost_11 (by decide) ?_
    refine J_icmp_geN (pc := 12) (tgt := 19) dX2_endsAtHost_12 rfl (by omega) (by omega) (fun h2 => ?_) (fun h2 => ?_)
    · refine J_iconst (pc := 19) (v := nI 0) dX2_endsAtHost_19 (by decide) ?_
      refine J_zret (pc := 20) dX2_endsAtHost_20 rfl rfl (by omega) (by omega) ?_
      exact ⟨by rw [decide_eq_false (by omega)]; rfl, rfl⟩
    · refine J_iconst (pc := 15) (v := nI 1) dX2_endsAtHost_15 (by decide) ?_
      refine J_goto (pc := 16) (tgt := 20) dX2_endsAtHost_16 rfl ?_
      refine J_zret (pc := 20) dX2_endsAtHost_20 rfl rfl (by omega) (by omega) ?_
      exact ⟨by rw [decide_eq_true (by omega)]; rfl, rfl⟩
set_option maxRecDepth 100000 in
theorem cx_endsAtSpine (l : Launch) (g : jG) (hgt : Nat) {S : jS} {k : Nat} (hk : k < 24) (hh : 1 ≤ hgt) : CT l g mX2_endsAtSpine hgt 0 0 [.int (nI k)] S (jPure (.int (bI (decide (8 ≤ k ∧ k < 20 ∧ 4 ≤ (k - 8) % 6)))) S) := by
  refine CT_of qX2_endsAtSpine (Nat.le_of_ble_eq_true rfl) ?_
  refine J_iload_n (pc := 0) dX2_endsAtSpine_0 rfl rfl ?_
  refine J_callS (pc := 1) (cx_isFromLeaf l g (hgt - 1) hk) qX2_isFromLeaf vX2_isFromLeaf kX2_49 dX2_endsAtSpine_1 rfl rfl (Nat.le_of_ble_eq_true rfl) (by omega) (by omega) (by omega) ?_
  rintro _ _ ⟨rfl, rfl⟩
  refine J_if_eqB (pc := 4) (tgt := 19) dX2_endsAtSpine_4 rfl (fun h1 => ?_) (fun h1 => ?_)
  · have h1 := of_decide_eq_false h1
    refine J_iconst (pc := 19) (v := nI 0) dX2_endsAtSpine_19 (by decide) ?_
    refine J_zret (pc := 20) dX2_endsAtSpine_20 rfl rfl (by omega) (by omega) ?_
    exact ⟨by rw [decide_eq_false (by omega)]; rfl, rfl⟩
  · have h1 := of_decide_eq_true h1
    refine J_iload_n (pc := 7) dX2_endsAtSpine_7 rfl rfl ?_
    refine J_callS (pc := 8) (cx_portOfLeaf l g (hgt - 1) hk h1.1) qX2_portOfLeaf vX2_portOfLeaf kX2_53 dX2_endsAtSpine_8 rfl rfl (Nat.le_of_ble_eq_true rfl) (by omega) (by omega) (by omega) ?_
    rintro _ _ ⟨rfl, rfl⟩
    refine J_iconst (pc := 11) (v := nI 4) dX2_endsAtSpine_11 (by decide) ?_
    refine J_icmp_ltN (pc := 12) (tgt := 19) dX2_endsAtSpine_12 rfl (by omega) (by omega) (fun h2 => ?_) (fun h2 => ?_)
    · refine J_iconst (pc := 19) (v := nI 0) dX2_endsAtSpine_19 (by decide) ?_
      refine J_zret (pc := 20) dX2_endsAtSpine_20 rfl rfl (by omega) (by omega) ?_
      exact ⟨by rw [decide_eq_false (by omega)]; rfl, rfl⟩
    · refine J_iconst (pc := 15) (v := nI 1) dX2_endsAtSpine_15 (by decide) ?_
      refine J_goto (pc := 16) (tgt := 20) dX2_endsAtSpine_16 rfl ?_
      refine J_zret (pc := 20) dX2_endsAtSpine_20 rfl rfl (by omega) (by omega) ?_
      exact ⟨by rw [decide_eq_true (by omega)]; rfl, rfl⟩
set_option maxRecDepth 100000 in
theorem cx_leafOfHost (l : Launch) (g : jG) (hgt : Nat) {S : jS} {k : Nat} (hk : k < 24) : CT l g mX2_leafOfHost hgt 0 0 [.int (nI k)] S (jPure (.int (nI (k / 4))) S) := by
  refine CT_of qX2_leafOfHost (Nat.le_of_ble_eq_true rfl) ?_
  refine J_iload_n (pc := 0) dX2_leafOfHost_0 rfl rfl ?_
  refine J_iconst (pc := 1) (v := nI 4) dX2_leafOfHost_1 (by decide) ?_
  first | refine J_idivN (pc := 2) dX2_leafOfHost_2 (by omega) (by omega) (by omega) ?_ | refine J_idiv (pc := 2) dX2_leafOfHost_2 (by decide) ?_
  refine J_iret (pc := 3) dX2_leafOfHost_3 rfl (by omega) (by omega) ?_
  exact ⟨rfl, rfl⟩
set_option maxRecDepth 100000 in
theorem cx_linkFromLeaf (l : Launch) (g : jG) (hgt : Nat) {S : jS} (a b : Nat) : CT l g mX2_linkFromLeaf hgt 0 0 [.int (nI a), .int (nI b)] S (jPure (.int (nI (8 + 6 * a + b))) S) := by
  refine CT_of qX2_linkFromLeaf (Nat.le_of_ble_eq_true rfl) ?_
  refine J_bipush (pc := 0) (v := nI 8) dX2_linkFromLeaf_0 (by decide) ?_
  refine J_bipush (pc := 2) (v := nI 6) dX2_linkFromLeaf_2 (by decide) ?_
  refine J_iload_n (pc := 4) dX2_linkFromLeaf_4 rfl rfl ?_
  first | refine J_imulN (pc := 5) dX2_linkFromLeaf_5 ?_ | refine J_imul (pc := 5) dX2_linkFromLeaf_5 ?_
  first | refine J_iaddN (pc := 6) dX2_linkFromLeaf_6 ?_ | refine J_iadd (pc := 6) dX2_linkFromLeaf_6 ?_
  refine J_iload_n (pc := 7) dX2_linkFromLeaf_7 rfl rfl ?_
  first | refine J_iaddN (pc := 8) dX2_linkFromLeaf_8 ?_ | refine J_iadd (pc := 8) dX2_linkFromLeaf_8 ?_
  refine J_iret (pc := 9) dX2_linkFromLeaf_9 rfl (by omega) (by omega) ?_
  exact ⟨rfl, rfl⟩
set_option maxRecDepth 100000 in
theorem cx_linkFromSpine (l : Launch) (g : jG) (hgt : Nat) {S : jS} (a b : Nat) : CT l g mX2_linkFromSpine hgt 0 0 [.int (nI a), .int (nI b)] S (jPure (.int (nI (20 + 2 * a + b))) S) := by
  refine CT_of qX2_linkFromSpine (Nat.le_of_ble_eq_true rfl) ?_
  refine J_bipush (pc := 0) (v := nI 20) dX2_linkFromSpine_0 (by decide) ?_
  refine J_iconst (pc := 2) (v := nI 2) dX2_linkFromSpine_2 (by decide) ?_
  refine J_iload_n (pc := 3) dX2_linkFromSpine_3 rfl rfl ?_
  first | refine J_imulN (pc := 4) dX2_linkFromSpine_4 ?_ | refine J_imul (pc := 4) dX2_linkFromSpine_4 ?_
  first | refine J_iaddN (pc := 5) dX2_linkFromSpine_5 ?_ | refine J_iadd (pc := 5) dX2_linkFromSpine_5 ?_
  refine J_iload_n (pc := 6) dX2_linkFromSpine_6 rfl rfl ?_
  first | refine J_iaddN (pc := 7) dX2_linkFromSpine_7 ?_ | refine J_iadd (pc := 7) dX2_linkFromSpine_7 ?_
  refine J_iret (pc := 8) dX2_linkFromSpine_8 rfl (by omega) (by omega) ?_
  exact ⟨rfl, rfl⟩
set_option maxRecDepth 100000 in
theorem cx_leafAtEnd (l : Launch) (g : jG) (hgt : Nat) {S : jS} {k : Nat} (hk : k < 24) (hk2 : k < 8 ∨ 20 ≤ k) (hh : 1 ≤ hgt) : CT l g mX2_leafAtEnd hgt 0 0 [.int (nI k)] S (jPure (.int (nI (if k < 8 then k / 4 else (k - 20) % 2))) S) := by
  refine CT_of qX2_leafAtEnd (Nat.le_of_ble_eq_true rfl) ?_
  refine J_iload_n (pc := 0) dX2_leafAtEnd_0 rfl rfl ?_
  refine J_bipush (pc := 1) (v := nI 8) dX2_leafAtEnd_1 (by decide) ?_
  refine J_icmp_geN (pc := 3) (tgt := 13) dX2_leafAtEnd_3 rfl (by omega) (by omega) (fun h1 => ?_) (fun h1 => ?_)
  · refine J_iload_n (pc := 13) dX2_leafAtEnd_13 rfl rfl ?_
    refine J_bipush (pc := 14) (v := nI 20) dX2_leafAtEnd_14 (by decide) ?_
    first | refine J_isubN (pc := 16) dX2_leafAtEnd_16 (by omega) ?_ | refine J_isub (pc := 16) dX2_leafAtEnd_16 ?_
    refine J_iconst (pc := 17) (v := nI 2) dX2_leafAtEnd_17 (by decide) ?_
    first | refine J_iremN (pc := 18) dX2_leafAtEnd_18 (by omega) (by omega) (by omega) ?_ | refine J_irem (pc := 18) dX2_leafAtEnd_18 (by decide) ?_
    refine J_iret (pc := 19) dX2_leafAtEnd_19 rfl (by omega) (by omega) ?_
    exact ⟨by rw [if_neg (by omega)], rfl⟩
  · refine J_iload_n (pc := 6) dX2_leafAtEnd_6 rfl rfl ?_
    refine J_callS (pc := 7) (cx_leafOfHost l g (hgt - 1) hk) qX2_leafOfHost vX2_leafOfHost kX2_57 dX2_leafAtEnd_7 rfl rfl (Nat.le_of_ble_eq_true rfl) (by omega) (by omega) (by omega) ?_
    rintro _ _ ⟨rfl, rfl⟩
    refine J_goto (pc := 10) (tgt := 19) dX2_leafAtEnd_10 rfl ?_
    refine J_iret (pc := 19) dX2_leafAtEnd_19 rfl (by omega) (by omega) ?_
    exact ⟨by rw [if_pos (by omega)], rfl⟩
