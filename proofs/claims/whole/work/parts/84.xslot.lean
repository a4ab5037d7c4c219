/-! THE CLASS: packet, lose, spine; a slot -/
set_option maxRecDepth 100000 in
theorem cx_packet (l : Launch) (g : jG) (hgt : Nat) {S : jS} {w : Nat → Nat → Nat} {hx : Nat} {X : XS} (k v : Int32) (hW : WX S w hx X) (hI : xOK X) (hh : 2 ≤ hgt) : CT l g mX9_packet hgt 0 0 [.ref (w 7 0), .int k, .int v] S (jPure (.int (p_packet X k v)) S) := by
  unfold p_packet
  refine CT_of qX9_packet (Nat.le_of_ble_eq_true rfl) ?_
  refine J_aload_n (pc := 0) dX9_packet_0 rfl rfl ?_
  refine J_getr (pc := 1) (i := 0) cl7 hW.ro (by decide) rfl hW.rfab kX9_10 dX9_packet_1 ?_
  refine J_iload_n (pc := 4) dX9_packet_4 rfl rfl ?_
  refine J_callV (pc := 5) (cx_look l g (hgt - 1) k hW (by omega)) qX2_look vX2_look cl1 rfl hW.fo kX9_109 dX9_packet_5 rfl rfl (Nat.le_of_ble_eq_true rfl) (by omega) (by omega) (by omega) ?_
  rintro _ _ ⟨rfl, rfl⟩
  by_cases q : k < 0 ∨ nI 24 ≤ k
  · rw [if_pos q, if_pos q]
    have hn : CT l g mX5_tell (hgt - 1) 0 0 [.int (-1), .int v] S (jPure (.int (-1)) S) := by
      refine CT_of qX5_tell (Nat.le_of_ble_eq_true rfl) ?_
      refine J_iload_n (pc := 0) dX5_tell_0 rfl rfl ?_
      refine J_iconst (pc := 1) (v := (-1)) dX5_tell_1 (by decide) ?_
      refine J_icmp_ne (pc := 2) (tgt := 7) dX5_tell_2 rfl (fun hc9 => absurd (rfl) hc9) (fun _ => ?_)
      refine J_iconst (pc := 5) (v := (-1)) dX5_tell_5 (by decide) ?_
      refine J_iret (pc := 6) dX5_tell_6 rfl (by omega) (by omega) ?_
      exact ⟨rfl, rfl⟩
    refine J_iload_n (pc := 8) dX9_packet_8 rfl rfl ?_
    refine J_callS (pc := 9) (hn) qX5_tell vX5_tell kX9_112 dX9_packet_9 rfl rfl (Nat.le_of_ble_eq_true rfl) (by omega) (by omega) (by omega) ?_
    rintro _ _ ⟨rfl, rfl⟩
    refine J_iret (pc := 12) dX9_packet_12 rfl (by omega) (by omega) ?_
    exact ⟨rfl, rfl⟩
  · rw [if_neg q, if_neg q]
    obtain ⟨j, hj, rfl⟩ := ix_in (n := 24) (by decide) (fun z => q (Or.inl z)) (fun z => q (Or.inr z))
    rw [cl_nI (by omega)]
    refine J_iload_n (pc := 8) dX9_packet_8 rfl rfl ?_
    refine J_callS (pc := 9) (cx_packetTell l g (hgt - 1) hI hj v (by omega)) qX5_tell vX5_tell kX9_112 dX9_packet_9 rfl rfl (Nat.le_of_ble_eq_true rfl) (by omega) (by omega) (by omega) ?_
    rintro _ _ ⟨rfl, rfl⟩
    refine J_iret (pc := 12) dX9_packet_12 rfl (by omega) (by omega) ?_
    exact ⟨rfl, rfl⟩
set_option maxRecDepth 100000 in
theorem cx_lose (l : Launch) (g : jG) (hgt : Nat) {S : jS} {w : Nat → Nat → Nat} {hx : Nat} {X : XS} (k c : Int32) (hW : WX S w hx X) (hh : 1 ≤ hgt) : CT l g mX9_lose hgt 0 0 [.ref (w 7 0), .int k, .int c] S (xQ w hx (some (.int (p_lose X k c).1)) (p_lose X k c).2) := by
  have fail : (k < 0 ∨ nI 24 ≤ k ∨ c < 0 ∨ nI 100 < c) → J l g mX9_lose hgt 0 0 (xQ w hx (some (.int (p_lose X k c).1)) (p_lose X k c).2) 17 [(0, .ref (w 7 0)), (1, .int k), (2, .int c)] [] S 0 0 := by
    intro z
    unfold p_lose
    rw [if_pos z]
    refine J_iconst (pc := 17) (v := nI 0) dX9_lose_17 (by decide) ?_
    refine J_zret (pc := 18) dX9_lose_18 rfl rfl (by omega) (by omega) ?_
    exact ⟨rfl, hW⟩
  refine CT_of qX9_lose (Nat.le_of_ble_eq_true rfl) ?_
  refine J_iload_n (pc := 0) dX9_lose_0 rfl rfl ?_
  refine J_callS (pc := 1) (cx_isLink l g (hgt - 1) k) qX2_isLink vX2_isLink kX9_63 dX9_lose_1 rfl rfl (Nat.le_of_ble_eq_true rfl) (by omega) (by omega) (by omega) ?_
  rintro _ _ ⟨rfl, rfl⟩
  refine J_if_eqB (pc := 4) (tgt := 17) dX9_lose_4 rfl (fun B => ?_) (fun B => ?_)
  · have B := Decidable.not_not.mp (of_decide_eq_false B)
    exact J_lvk (fail (by rcases B with z | z; (· exact Or.inl z); (· exact Or.inr (Or.inl z)))) ⟨rfl, rfl, rfl, trivial⟩
  · have B := of_decide_eq_true B
    refine J_iload_n (pc := 7) dX9_lose_7 rfl rfl ?_
    refine J_if_lt (pc := 8) (tgt := 17) dX9_lose_8 rfl (fun h3 => ?_) (fun h3 => ?_)
    · exact J_lvk (fail (Or.inr (Or.inr (Or.inl h3)))) ⟨rfl, rfl, rfl, trivial⟩
    · refine J_iload_n (pc := 11) dX9_lose_11 rfl rfl ?_
      refine J_bipush (pc := 12) (v := nI 100) dX9_lose_12 (by decide) ?_
      refine J_icmp_le (pc := 14) (tgt := 19) dX9_lose_14 rfl (fun h4 => ?_) (fun h4 => ?_)
      · have h4 : ¬ nI 100 < c := Int32.not_lt.mpr h4
        unfold p_lose
        rw [if_neg (by
          rintro (z | z | z | z)
          · exact B (Or.inl z)
          · exact B (Or.inr z)
          · exact h3 z
          · exact h4 z)]
        obtain ⟨k, hk, rfl⟩ := ix_in (n := 24) (by decide) (fun z => B (Or.inl z)) (fun z => B (Or.inr z))
        obtain ⟨c, hc, rfl⟩ := ix_le (n := 100) (by decide) h3 h4
        rw [cl_nI (by omega), cl_nI (by omega)]
        refine J_aload_n (pc := 19) dX9_lose_19 rfl rfl ?_
        refine J_getr (pc := 20) (i := 0) cl7 hW.ro (by decide) rfl hW.rfab kX9_10 dX9_lose_20 ?_
        refine J_iload_n (pc := 23) dX9_lose_23 rfl rfl ?_
        refine J_iload_n (pc := 24) dX9_lose_24 rfl rfl ?_
        refine J_callV (pc := 25) (cx_setToLose l g (hgt - 1) hW hk) qX2_setToLose vX2_setToLose cl1 rfl hW.fo kX9_66 dX9_lose_25 rfl rfl (Nat.le_of_ble_eq_true rfl) (by omega) (by omega) (by omega) ?_
        rintro _ _ ⟨rfl, hW⟩
        refine J_iconst (pc := 28) (v := nI 1) dX9_lose_28 (by decide) ?_
        refine J_zret (pc := 29) dX9_lose_29 rfl rfl (by omega) (by omega) ?_
        exact ⟨rfl, hW⟩
      · exact J_lvk (fail (Or.inr (Or.inr (Or.inr (Int32.not_le.mp h4))))) ⟨rfl, rfl, rfl, trivial⟩
set_option maxRecDepth 100000 in
theorem cx_spine (l : Launch) (g : jG) (hgt : Nat) {S : jS} {w : Nat → Nat → Nat} {hx : Nat} {X : XS} (s : Int32) (on : Bool) (hW : WX S w hx X) (hh : 1 ≤ hgt) : CT l g mX9_spine hgt 0 0 [.ref (w 7 0), .int s, .int (bI on)] S (xQ w hx (some (.int (p_spine X s (bI on)).1)) (p_spine X s (bI on)).2) := by
  have fail : (¬ s = nI 0 ∧ ¬ s = nI 1) → J l g mX9_spine hgt 0 0 (xQ w hx (some (.int (p_spine X s (bI on)).1)) (p_spine X s (bI on)).2) 9 [(0, .ref (w 7 0)), (1, .int s), (2, .int (bI on))] [] S 0 0 := by
    intro z
    unfold p_spine
    rw [if_pos z]
    refine J_iconst (pc := 9) (v := nI 0) dX9_spine_9 (by decide) ?_
    refine J_zret (pc := 10) dX9_spine_10 rfl rfl (by omega) (by omega) ?_
    exact ⟨rfl, hW⟩
  refine CT_of qX9_spine (Nat.le_of_ble_eq_true rfl) ?_
  refine J_iload_n (pc := 0) dX9_spine_0 rfl rfl ?_
  refine J_if_lt (pc := 1) (tgt := 9) dX9_spine_1 rfl (fun h1 => ?_) (fun h1 => ?_)
  · exact J_lvk (fail ⟨fun e => (by subst e; exact absurd h1 (by decide)), fun e => (by subst e; exact absurd h1 (by decide))⟩) ⟨rfl, rfl, rfl, trivial⟩
  · refine J_iload_n (pc := 4) dX9_spine_4 rfl rfl ?_
    refine J_iconst (pc := 5) (v := nI 2) dX9_spine_5 (by decide) ?_
    refine J_icmp_lt (pc := 6) (tgt := 11) dX9_spine_6 rfl (fun h2 => ?_) (fun h2 => ?_)
    · obtain ⟨s, hs, rfl⟩ := ix_in (n := 2) (by decide) h1 (Int32.not_le.mpr h2)
      unfold p_spine
      rw [if_neg (fun z => by
        rcases (show s = 0 ∨ s = 1 by omega) with rfl | rfl
        · exact z.1 rfl
        · exact z.2 rfl), cl_nI (by omega)]
      have e : (if bI on = 0 then 1 else 0) = if on then 0 else 1 := by cases on <;> rfl
      rw [e]
      refine J_aload_n (pc := 11) dX9_spine_11 rfl rfl ?_
      refine J_getr (pc := 12) (i := 0) cl7 hW.ro (by decide) rfl hW.rfab kX9_10 dX9_spine_12 ?_
      refine J_iload_n (pc := 15) dX9_spine_15 rfl rfl ?_
      refine J_iload_n (pc := 16) dX9_spine_16 rfl rfl ?_
      refine J_callV (pc := 17) (cx_setSpine l g (hgt - 1) on hW hs) qX2_setSpine vX2_setSpine cl1 rfl hW.fo kX9_70 dX9_spine_17 rfl rfl (Nat.le_of_ble_eq_true rfl) (by omega) (by omega) (by omega) ?_
      rintro _ _ ⟨rfl, hW⟩
      refine J_iconst (pc := 20) (v := nI 1) dX9_spine_20 (by decide) ?_
      refine J_zret (pc := 21) dX9_spine_21 rfl rfl (by omega) (by omega) ?_
      exact ⟨rfl, hW⟩
    · exact J_lvk (fail ⟨fun e => (by subst e; exact absurd h2 (by decide)), fun e => (by subst e; exact absurd h2 (by decide))⟩) ⟨rfl, rfl, rfl, trivial⟩
set_option maxRecDepth 100000 in
theorem cx_takeIn (l : Launch) (g : jG) (hgt : Nat) {S : jS} {w : Nat → Nat → Nat} {hx : Nat} {X : XS} {e : Nat × Nat × Nat} {p : Nat} (hW : WX S w hx X) (hI : xOK X) (he : okE X e) (ho : okP X e p) (h30 : ∀ a, a < 8 → xV X 30 a < 2 ^ 31) (hh : 4 ≤ hgt) : CT l g mX9_takeIn hgt 0 0 [.ref (w 7 0), .int (nI (pkF (xV X 8) (xV X 9) e p))] S (xQ w hx none (if e.1 = 0 then x_data X e.2.1 e.2.2 else x_answer X e.1 e.2.1 e.2.2)) := by
  have h48 := hI.many
  obtain ⟨o1, o2, o3, o4, o5⟩ := ho
  have hm := he.2.1
  have o := hI.msg (m := e.2.1) (by omega)
  have hf : fM X (nI e.2.1) = some e.2.1 := by
    unfold fM
    have z2 := nI_leI (a := xV X 1 0) (b := e.2.1) (by omega) (by omega)
    rw [if_neg (by
      rintro (z | z)
      · exact nI_pos (by omega) z
      · have := z2.mp z
        omega), cl_nI (by omega)]
  rw [pkF_goal]
  refine CT_of qX9_takeIn (Nat.le_of_ble_eq_true rfl) ?_
  refine J_aload_n (pc := 0) dX9_takeIn_0 rfl rfl ?_
  refine J_iload_n (pc := 1) dX9_takeIn_1 rfl rfl ?_
  refine J_callS (pc := 2) (cx_messageOf l g (hgt - 1) o1 o2 o3 o4 o5) qX5_messageOf vX5_messageOf kX9_149 dX9_takeIn_2 rfl rfl (Nat.le_of_ble_eq_true rfl) (by omega) (by omega) (by omega) ?_
  rintro _ _ ⟨rfl, rfl⟩
  have hfind := cx_find l g (hgt - 1) (nI e.2.1) hW h48
  rw [hf] at hfind
  refine J_callV (pc := 5) (hfind) qX9_find vX9_find cl7 rfl hW.ro kX9_74 dX9_takeIn_5 rfl rfl (Nat.le_of_ble_eq_true rfl) (by omega) (by omega) (by omega) ?_
  rintro _ _ ⟨rfl, rfl⟩
  refine J_astore_n (pc := 8) dX9_takeIn_8 rfl (by decide) ?_
  refine J_aload_n (pc := 9) dX9_takeIn_9 rfl rfl ?_
  refine J_ifnonnull (pc := 10) (tgt := 14) dX9_takeIn_10 rfl ?_
  refine J_iload_n (pc := 14) dX9_takeIn_14 rfl rfl ?_
  refine J_callS (pc := 15) (cx_kindOf l g (hgt - 1) o1 o2 o3 o4 o5) qX5_kindOf vX5_kindOf kX9_152 dX9_takeIn_15 rfl rfl (Nat.le_of_ble_eq_true rfl) (by omega) (by omega) (by omega) ?_
  rintro _ _ ⟨rfl, rfl⟩
  refine J_if_neN (pc := 18) (tgt := 45) dX9_takeIn_18 rfl (by omega) (fun B => ?_) (fun B => ?_)
  · rw [if_neg B]
    refine J_aload_n (pc := 45) dX9_takeIn_45 rfl rfl ?_
    refine J_getrN (pc := 46) (i := 4) (host := RX9) cl3 (hW.mo hm) (by decide) rfl (hW.ms hm) (by decide +kernel) dX9_takeIn_46 ?_
    refine J_iload_n (pc := 49) dX9_takeIn_49 rfl rfl ?_
    refine J_callS (pc := 50) (cx_kindOf l g (hgt - 1) o1 o2 o3 o4 o5) qX5_kindOf vX5_kindOf kX9_152 dX9_takeIn_50 rfl rfl (Nat.le_of_ble_eq_true rfl) (by omega) (by omega) (by omega) ?_
    rintro _ _ ⟨rfl, rfl⟩
    refine J_iload_n (pc := 53) dX9_takeIn_53 rfl rfl ?_
    refine J_callS (pc := 54) (cx_countOf l g (hgt - 1) o1 o2 o3 o4 o5) qX5_countOf vX5_countOf kX9_158 dX9_takeIn_54 rfl rfl (Nat.le_of_ble_eq_true rfl) (by omega) (by omega) (by omega) ?_
    rintro _ _ ⟨rfl, rfl⟩
    refine J_aload_n (pc := 57) dX9_takeIn_57 rfl rfl ?_
    refine J_geti (pc := 58) (i := 4) cl7 hW.ro (by decide) rfl hW.rclk kX9_32 dX9_takeIn_58 ?_
    refine J_callV (pc := 61) (cx_takeAnswer l g (hgt - 1) hW hm o.2.1.1 (by omega) (by omega) o1 o5 (by omega)) qX8_takeAnswer vX8_takeAnswer cl6 rfl (hW.s hm) kX9_165 dX9_takeIn_61 rfl rfl (Nat.le_of_ble_eq_true rfl) (by omega) (by omega) (by omega) ?_
    rintro _ _ ⟨rfl, hW⟩
    refine J_vret (pc := 64) dX9_takeIn_64 rfl (by omega) (by omega) ?_
    exact ⟨rfl, hW⟩
  · rw [if_pos B]
    have h9 := o.1.2.1
    refine J_aload_n (pc := 21) dX9_takeIn_21 rfl rfl ?_
    refine J_getr (pc := 22) (i := 1) cl7 hW.ro (by decide) rfl hW.rhos kX9_18 dX9_takeIn_22 ?_
    refine J_aload_n (pc := 25) dX9_takeIn_25 rfl rfl ?_
    refine J_getiN (pc := 26) (i := 2) (host := RX9) cl3 (hW.mo hm) (by decide) rfl (hW.n9 hm) (by decide +kernel) dX9_takeIn_26 ?_
    refine J_rald11 (pc := 29) hW.ahos rfl h9 (by first | omega | exact mLn_lt _) (hW.ehos h9) dX9_takeIn_29 ?_
    refine J_aload_n (pc := 30) dX9_takeIn_30 rfl rfl ?_
    refine J_iload_n (pc := 31) dX9_takeIn_31 rfl rfl ?_
    refine J_callS (pc := 32) (cx_countOf l g (hgt - 1) o1 o2 o3 o4 o5) qX5_countOf vX5_countOf kX9_158 dX9_takeIn_32 rfl rfl (Nat.le_of_ble_eq_true rfl) (by omega) (by omega) (by omega) ?_
    rintro _ _ ⟨rfl, rfl⟩
    refine J_aload_n (pc := 35) dX9_takeIn_35 rfl rfl ?_
    refine J_geti (pc := 36) (i := 4) cl7 hW.ro (by decide) rfl hW.rclk kX9_32 dX9_takeIn_36 ?_
    refine J_callV (pc := 39) (cx_takeData l g (hgt - 1) hW hm hI (he.2.2.2.1 B) (h30 _ h9) (by omega)) qX3_takeData vX3_takeData cl2 rfl (hW.ho h9) kX9_161 dX9_takeIn_39 rfl rfl (Nat.le_of_ble_eq_true rfl) (by omega) (by omega) (by omega) ?_
    rintro _ _ ⟨rfl, hW⟩
    refine J_goto (pc := 42) (tgt := 64) dX9_takeIn_42 rfl ?_
    refine J_vret (pc := 64) dX9_takeIn_64 rfl (by omega) (by omega) ?_
    exact ⟨rfl, hW⟩
theorem yL_same {X : XS} {q : Nat} {L : List (Nat × Nat × Nat)} (h : xL X q = L) : yL X q L = X := by
  unfold yL
  refine Prod.ext rfl (Prod.ext ?_ rfl)
  funext q'
  show (if q' = q then L else X.2.1 q') = X.2.1 q'
  split
  case isTrue e => subst e; exact h.symm
  case isFalse => rfl
set_option maxRecDepth 100000 in
theorem cx_arriveAll (l : Launch) (g : jG) (hgt : Nat) {S : jS} {w : Nat → Nat → Nat} {hx : Nat} {X : XS} (hW : WX S w hx X) (hI : ∀ i, i ≤ 24 → xOK (x_for i x_arrive X) ∧ ∀ h, h < 8 → xV (x_for i x_arrive X) 30 h < 2 ^ 31) (hh : 5 ≤ hgt) : CT l g mX9_arriveAll hgt 0 0 [.ref (w 7 0)] S (xQ w hx none (x_for 24 x_arrive X)) := by
  refine CT_of qX9_arriveAll (Nat.le_of_ble_eq_true rfl) ?_
  refine J_iconst (pc := 0) (v := nI 0) dX9_arriveAll_0 (by decide) ?_
  refine J_istore_n (pc := 1) dX9_arriveAll_1 rfl (by decide) ?_
  have loop : ∀ i, i ≤ 24 → ∀ S, WX S w hx (x_for i x_arrive X) → J l g mX9_arriveAll hgt 0 0 (xQ w hx none (x_for 24 x_arrive X)) 2 [(1, .int (nI i)), (0, .ref (w 7 0))] [] S 0 0 := by
    refine down _ ?_ ?_
    · intro S hW
      refine J_iload_n (pc := 2) dX9_arriveAll_2 rfl rfl ?_
      refine J_bipush (pc := 3) (v := nI 24) dX9_arriveAll_3 (by decide) ?_
      refine J_icmp_geN (pc := 5) (tgt := 55) dX9_arriveAll_5 rfl (by omega) (by omega) (fun B => ?_) (fun B => ?_)
      · refine J_vret (pc := 55) dX9_arriveAll_55 rfl (by omega) (by omega) ?_
        exact ⟨rfl, hW⟩
      · omega
    · intro i hi ih S hW
      obtain ⟨hO, h30⟩ := hI i (by omega)
      have hs : x_for (i + 1) x_arrive X = x_arrive (x_for i x_arrive X) i := rfl
      rw [hs] at ih
      clear hs
      generalize x_for i x_arrive X = Y at *
      have hp4 := (hO.link hi).2
      refine J_iload_n (pc := 2) dX9_arriveAll_2 rfl rfl ?_
      refine J_bipush (pc := 3) (v := nI 24) dX9_arriveAll_3 (by decide) ?_
      refine J_icmp_geN (pc := 5) (tgt := 55) dX9_arriveAll_5 rfl (by omega) (by omega) (fun B => ?_) (fun B => ?_)
      · omega
      · have next : ∀ S', WX S' w hx (x_arrive Y i) → J l g mX9_arriveAll hgt 0 0 (xQ w hx none (x_for 24 x_arrive X)) 49 [(1, .int (nI i)), (0, .ref (w 7 0))] [] S' 0 0 := by
          intro S' hW'
          refine J_iinc (pc := 49) dX9_arriveAll_49 rfl (inc1 _) (by decide) ?_
          refine J_goto (pc := 52) (tgt := 2) dX9_arriveAll_52 rfl ?_
          exact J_lvk (ih S' hW') ⟨rfl, rfl, trivial⟩
        refine J_aload_n (pc := 8) dX9_arriveAll_8 rfl rfl ?_
        refine J_getr (pc := 9) (i := 0) cl7 hW.ro (by decide) rfl hW.rfab kX9_10 dX9_arriveAll_9 ?_
        refine J_iload_n (pc := 12) dX9_arriveAll_12 rfl rfl ?_
        refine J_callV (pc := 13) (cx_takeOff l g (hgt - 1) hW hi) qX2_takeOff vX2_takeOff cl1 rfl hW.fo kX9_137 dX9_arriveAll_13 rfl rfl (Nat.le_of_ble_eq_true rfl) (by omega) (by omega) (by omega) ?_
        intro r S1 hq
        obtain ⟨rfl, hW1⟩ := hq
        unfold x_arrive at next
        cases hl : xL Y (200 + i) with
        | nil =>
          rw [hl] at next
          rw [yL_same hl] at hW1
          refine J_istore_n (pc := 16) dX9_arriveAll_16 rfl (by decide) ?_
          refine J_iload_n (pc := 17) dX9_arriveAll_17 rfl rfl ?_
          refine J_iconst (pc := 18) (v := (-1)) dX9_arriveAll_18 (by decide) ?_
          refine J_icmp_ne (pc := 19) (tgt := 25) dX9_arriveAll_19 rfl (fun hc9 => absurd (rfl) hc9) (fun _ => ?_)
          refine J_goto (pc := 22) (tgt := 49) dX9_arriveAll_22 rfl ?_
          exact J_lvk (next S1 hW1) ⟨rfl, rfl, trivial⟩
        | cons e t =>
          rw [hl] at next
          dsimp only at next
          have he : okE Y e := hO.list.1 (200 + i) e (by rw [hl]; exact List.mem_cons_self)
          have ho : okP Y e (xV Y 5 i) := hO.okP (q := 200 + i) (by rw [hl]; exact List.mem_cons_self) (by omega)
          have hlt := ho.lt
          show J l g mX9_arriveAll hgt 0 0 (xQ w hx none (x_for 24 x_arrive X)) 16 _ [.int (nI (pkF (xV Y 8) (xV Y 9) e (xV Y 5 i)))] S1 0 0
          refine J_istore_n (pc := 16) dX9_arriveAll_16 rfl (by decide) ?_
          refine J_iload_n (pc := 17) dX9_arriveAll_17 rfl rfl ?_
          refine J_iconst (pc := 18) (v := (-1)) dX9_arriveAll_18 (by decide) ?_
          refine J_icmp_ne (pc := 19) (tgt := 25) dX9_arriveAll_19 rfl (fun _ => ?_) (fun hc9 => absurd hc9 ((nI_m1 (by omega))))
          refine J_iload_n (pc := 25) dX9_arriveAll_25 rfl rfl ?_
          refine J_callS (pc := 26) (cx_endsAtHost l g (hgt - 1) hi (by omega)) qX2_endsAtHost vX2_endsAtHost kX9_140 dX9_arriveAll_26 rfl rfl (Nat.le_of_ble_eq_true rfl) (by omega) (by omega) (by omega) ?_
          rintro _ _ ⟨rfl, rfl⟩
          have hO1 : xOK (yL Y (200 + i) []) := hO.clrL _
          refine J_if_eqB (pc := 29) (tgt := 40) dX9_arriveAll_29 rfl (fun B2 => ?_) (fun B2 => ?_)
          · have B2 := of_decide_eq_false B2
            refine J_aload_n (pc := 40) dX9_arriveAll_40 rfl rfl ?_
            refine J_getr (pc := 41) (i := 0) cl7 hW1.ro (by decide) rfl hW1.rfab kX9_10 dX9_arriveAll_41 ?_
            refine J_iload_n (pc := 44) dX9_arriveAll_44 rfl rfl ?_
            refine J_iload_n (pc := 45) dX9_arriveAll_45 rfl rfl ?_
            refine J_callV (pc := 46) (cx_passOn l g (hgt - 1) (e := e) (p := xV Y 5 i) hW1 hi B2 ho (fun s hs => hO.sp hs) (by omega)) qX2_passOn vX2_passOn cl1 rfl hW1.fo kX9_146 dX9_arriveAll_46 rfl rfl (Nat.le_of_ble_eq_true rfl) (by omega) (by omega) (by omega) ?_
            intro r S2 hq
            obtain ⟨rfl, hW2⟩ := hq
            refine J_lvk (next S2 ?_) ⟨rfl, rfl, trivial⟩
            by_cases q1 : i < 8
            · rw [if_pos q1] at hW2 ⊢
              exact hW2
            · rw [if_neg q1] at hW2 ⊢
              by_cases q2 : 20 ≤ i
              · rw [if_pos q2] at hW2 ⊢
                exact hW2
              · rw [if_neg q2] at hW2 ⊢
                rw [if_pos (by omega)]
                exact hW2
          · have B2 := of_decide_eq_true B2
            refine J_aload_n (pc := 32) dX9_arriveAll_32 rfl rfl ?_
            refine J_iload_n (pc := 33) dX9_arriveAll_33 rfl rfl ?_
            refine J_callV (pc := 34) (cx_takeIn l g (hgt - 1) (e := e) (p := xV Y 5 i) hW1 hO1 he ho h30 (by omega)) qX9_takeIn vX9_takeIn cl7 rfl hW1.ro kX9_143 dX9_arriveAll_34 rfl rfl (Nat.le_of_ble_eq_true rfl) (by omega) (by omega) (by omega) ?_
            intro r S2 hq
            obtain ⟨rfl, hW2⟩ := hq
            refine J_goto (pc := 37) (tgt := 49) dX9_arriveAll_37 rfl ?_
            refine J_lvk (next S2 ?_) ⟨rfl, rfl, trivial⟩
            rw [if_neg (by omega), if_neg (by omega), if_neg (by omega)]
            exact hW2
  exact J_lvk (loop 0 (by omega) S hW) ⟨rfl, rfl, trivial⟩
