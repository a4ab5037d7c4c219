theorem x_slots_s (X : XS) (k : Nat) : x_slots X (k + 1) = x_slot1 (x_slots X k) := by
  unfold x_slots
  rw [x_for]
def sA (X : XS) (i : Nat) : XS := x_for i x_arrive (yV X 0 0 (xV X 0 0 + 1))
def sB (X : XS) (j : Nat) : XS := x_for j (fun Y j => x_serve Y (8 + j)) (sA X 24)
def sC (X : XS) (h : Nat) : XS := x_for h x_host (sB X 16)
/-- what has to hold on the way through a host's work -/
def okHostW (X : XS) (h : Nat) : Prop := okReceive X h ∧ xSm X (x_receive X h) ∧ (∀ i, i ≤ xV X 1 0 → xOK (x_watch (x_receive X h) h i) ∧ xSm (x_receive X h) (x_watch (x_receive X h) h i)) ∧ ∀ m, x_short (x_watch (x_receive X h) h (xV X 1 0)) h (xV (x_watch (x_receive X h) h (xV X 1 0)) 1 0) = some m → xOK (x_takePlace (x_watch (x_receive X h) h (xV X 1 0)) m)
/-- what has to hold on the way through a slot -/
def okSlot1 (X : XS) : Prop := (∀ i, i ≤ 24 → xOK (sA X i) ∧ ∀ h, h < 8 → xV (sA X i) 30 h < 2 ^ 31) ∧ (∀ j, j ≤ 16 → xOK (sB X j)) ∧ ∀ h, h < 8 → okHostW (sC X h) h
set_option maxRecDepth 100000 in
theorem jm_host (l : Launch) (g : jG) (hgt : Nat) {S : jS} {b : Nat} {ad : Nat → Nat} {X : XS} {h : Nat} {Q : Option Value → jS → Prop} {lv : List (Nat × Value)} (hlv : lvIn lv [(3, .int (nI h)), (0, .ref b)]) (hW : WM S b ad X) (hI : okHostW X h) (hh8 : h < 8) (hh : 3 ≤ hgt)
    (kk : ∀ S', WM S' b ad (x_host X h) → J l g mX10_slot hgt 0 0 Q 119 lv [] S' 0 0) : J l g mX10_slot hgt 0 0 Q 104 lv [] S 0 0 := by
  obtain ⟨i1, i2, i3, i4⟩ := hI
  refine J_aload_n (pc := 104) dX10_slot_104 rfl hlv.2.1 ?_
  refine J_iload_n (pc := 105) dX10_slot_105 rfl hlv.1 ?_
  refine J_callV (pc := 106) (cm_receive l g (hgt - 1) hW i1 hh8 (by omega)) qX10_receive vX10_receive cl8 rfl hW.o kX10_216 dX10_slot_106 rfl rfl (Nat.le_of_ble_eq_true rfl) (by omega) (by omega) (by omega) ?_
  rintro _ _ ⟨rfl, hW⟩
  refine J_aload_n (pc := 109) dX10_slot_109 rfl hlv.2.1 ?_
  refine J_iload_n (pc := 110) dX10_slot_110 rfl hlv.1 ?_
  have e1 : xV (x_receive X h) 1 0 = xV X 1 0 := congrFun i2.1 0
  rw [← e1] at i3 i4
  refine J_callV (pc := 111) (cm_watch l g (hgt - 1) hW i3 hh8 (by omega)) qX10_watch vX10_watch cl8 rfl hW.o kX10_219 dX10_slot_111 rfl rfl (Nat.le_of_ble_eq_true rfl) (by omega) (by omega) (by omega) ?_
  rintro _ _ ⟨rfl, hW⟩
  refine J_aload_n (pc := 114) dX10_slot_114 rfl hlv.2.1 ?_
  refine J_iload_n (pc := 115) dX10_slot_115 rfl hlv.1 ?_
  refine J_callV (pc := 116) (cm_send l g (hgt - 1) hW (i3 _ (Nat.le_refl _)).1 i4 hh8 (by omega)) qX10_send vX10_send cl8 rfl hW.o kX10_222 dX10_slot_116 rfl rfl (Nat.le_of_ble_eq_true rfl) (by omega) (by omega) (by omega) ?_
  rintro _ S' ⟨rfl, hW⟩
  refine kk S' ?_
  rw [x_host, ← e1]
  exact hW
set_option maxRecDepth 100000 in
theorem jm_slot1 (l : Launch) (g : jG) (hgt : Nat) {S : jS} {b : Nat} {ad : Nat → Nat} {X : XS} {k n : Nat} {Q : Option Value → jS → Prop} (hW : WM S b ad X) (hI : okSlot1 X) (hh : 4 ≤ hgt)
    (kk : ∀ S', WM S' b ad (x_slot1 X) → J l g mX10_slot hgt 0 0 Q 125 [(2, .int (nI k)), (0, .ref b), (1, .int (nI n))] [] S' 0 0) : J l g mX10_slot hgt 0 0 Q 37 [(2, .int (nI k)), (0, .ref b), (1, .int (nI n))] [] S 0 0 := by
  obtain ⟨iA, iB, iC⟩ := hI
  have partC : ∀ h, h ≤ 8 → ∀ S, WM S b ad (sC X h) → J l g mX10_slot hgt 0 0 Q 98 [(3, .int (nI h)), (2, .int (nI k)), (0, .ref b), (1, .int (nI n))] [] S 0 0 := by
    refine down _ ?_ ?_
    · intro S hW
      refine J_iload_n (pc := 98) dX10_slot_98 rfl rfl ?_
      refine J_bipush (pc := 99) (v := nI 8) dX10_slot_99 (by decide) ?_
      refine J_icmp_geN (pc := 101) (tgt := 125) dX10_slot_101 rfl (by omega) (by omega) (fun h0 => ?_) (fun h0 => ?_)
      · exact J_lvk (kk S hW) ⟨rfl, rfl, rfl, trivial⟩
      · omega
    · intro h h8 ih S hW
      refine J_iload_n (pc := 98) dX10_slot_98 rfl rfl ?_
      refine J_bipush (pc := 99) (v := nI 8) dX10_slot_99 (by decide) ?_
      refine J_icmp_geN (pc := 101) (tgt := 125) dX10_slot_101 rfl (by omega) (by omega) (fun h0 => ?_) (fun h0 => ?_)
      · omega
      · refine jm_host l g hgt ⟨rfl, rfl, trivial⟩ hW (iC h h8) h8 (by omega) (fun S' hW => ?_)
        refine J_iinc (pc := 119) dX10_slot_119 rfl (inc1 _) (by decide) ?_
        refine J_goto (pc := 122) (tgt := 98) dX10_slot_122 rfl ?_
        exact J_lvk (ih S' hW) ⟨rfl, rfl, rfl, rfl, trivial⟩
  have partB : ∀ j, j ≤ 16 → ∀ S, WM S b ad (sB X j) → J l g mX10_slot hgt 0 0 Q 79 [(3, .int (nI (8 + j))), (2, .int (nI k)), (0, .ref b), (1, .int (nI n))] [] S 0 0 := by
    refine down _ ?_ ?_
    · intro S hW
      refine J_iload_n (pc := 79) dX10_slot_79 rfl rfl ?_
      refine J_bipush (pc := 80) (v := nI 24) dX10_slot_80 (by decide) ?_
      refine J_icmp_geN (pc := 82) (tgt := 96) dX10_slot_82 rfl (by omega) (by omega) (fun h0 => ?_) (fun h0 => ?_)
      · refine J_iconst (pc := 96) (v := nI 0) dX10_slot_96 (by decide) ?_
        refine J_istore_n (pc := 97) dX10_slot_97 rfl (by decide) ?_
        exact J_lvk (partC 0 (by omega) S hW) ⟨rfl, rfl, rfl, rfl, trivial⟩
      · omega
    · intro j hj ih S hW
      refine J_iload_n (pc := 79) dX10_slot_79 rfl rfl ?_
      refine J_bipush (pc := 80) (v := nI 24) dX10_slot_80 (by decide) ?_
      refine J_icmp_geN (pc := 82) (tgt := 96) dX10_slot_82 rfl (by omega) (by omega) (fun h0 => ?_) (fun h0 => ?_)
      · omega
      · refine J_aload_n (pc := 85) dX10_slot_85 rfl rfl ?_
        refine J_iload_n (pc := 86) dX10_slot_86 rfl rfl ?_
        refine J_callV (pc := 87) (cm_serve l g (hgt - 1) hW (iB j (by omega)) (show 8 ≤ 8 + j by omega) (by omega) (by omega)) qX10_serve vX10_serve cl8 rfl hW.o kX10_213 dX10_slot_87 rfl rfl (Nat.le_of_ble_eq_true rfl) (by omega) (by omega) (by omega) ?_
        rintro _ S' ⟨rfl, hW⟩
        refine J_iinc (pc := 90) dX10_slot_90 rfl (inc1 _) (by decide) ?_
        refine J_goto (pc := 93) (tgt := 79) dX10_slot_93 rfl ?_
        exact J_lvk (ih S' hW) ⟨rfl, rfl, rfl, rfl, trivial⟩
  have partA : ∀ i, i ≤ 24 → ∀ S, WM S b ad (sA X i) → J l g mX10_slot hgt 0 0 Q 49 [(3, .int (nI i)), (2, .int (nI k)), (0, .ref b), (1, .int (nI n))] [] S 0 0 := by
    refine down _ ?_ ?_
    · intro S hW
      refine J_iload_n (pc := 49) dX10_slot_49 rfl rfl ?_
      refine J_bipush (pc := 50) (v := nI 24) dX10_slot_50 (by decide) ?_
      refine J_icmp_geN (pc := 52) (tgt := 76) dX10_slot_52 rfl (by omega) (by omega) (fun h0 => ?_) (fun h0 => ?_)
      · refine J_bipush (pc := 76) (v := nI 8) dX10_slot_76 (by decide) ?_
        refine J_istore_n (pc := 78) dX10_slot_78 rfl (by decide) ?_
        exact J_lvk (partB 0 (by omega) S hW) ⟨rfl, rfl, rfl, rfl, trivial⟩
      · omega
    · intro i hi ih S hW
      have hs : sA X (i + 1) = x_arrive (sA X i) i := rfl
      obtain ⟨hO, hF⟩ := iA i (by omega)
      have hlk := hW.2.2.2.2.2.1 i hi
      have next : ∀ S', WM S' b ad (sA X (i + 1)) → J l g mX10_slot hgt 0 0 Q 70 [(3, .int (nI i)), (2, .int (nI k)), (0, .ref b), (1, .int (nI n))] [] S' 0 0 := by
        intro S' hW'
        refine J_iinc (pc := 70) dX10_slot_70 rfl (inc1 _) (by decide) ?_
        refine J_goto (pc := 73) (tgt := 49) dX10_slot_73 rfl ?_
        exact J_lvk (ih S' hW') ⟨rfl, rfl, rfl, rfl, trivial⟩
      refine J_iload_n (pc := 49) dX10_slot_49 rfl rfl ?_
      refine J_bipush (pc := 50) (v := nI 24) dX10_slot_50 (by decide) ?_
      refine J_icmp_geN (pc := 52) (tgt := 76) dX10_slot_52 rfl (by omega) (by omega) (fun h0 => ?_) (fun h0 => ?_)
      · omega
      · cases hl : xL (sA X i) (200 + i) with
        | nil =>
          refine J_aload_n (pc := 55) dX10_slot_55 rfl rfl ?_
          refine J_getr (pc := 56) (i := 3) cl8 hW.o (by decide) rfl (hW.r 3 rfl) kX10_7 dX10_slot_56 ?_
          refine J_iload_n (pc := 59) dX10_slot_59 rfl rfl ?_
          refine J_iald (pc := 60) (hW.a 3 rfl) rfl hi (by first | omega | exact mLn_lt _) (hlk.1 hl) dX10_slot_60 ?_
          refine J_iconst (pc := 61) (v := (-1)) dX10_slot_61 (by decide) ?_
          refine J_icmp_eq (pc := 62) (tgt := 70) dX10_slot_62 rfl (fun _ => ?_) (fun hc9 => absurd (rfl) hc9)
          refine next S ?_
          rw [hs, x_arrive, hl]
          exact hW
        | cons e t =>
          have ho := hO.list.1 _ e (by rw [hl]; exact List.mem_cons_self)
          refine J_aload_n (pc := 55) dX10_slot_55 rfl rfl ?_
          refine J_getr (pc := 56) (i := 3) cl8 hW.o (by decide) rfl (hW.r 3 rfl) kX10_7 dX10_slot_56 ?_
          refine J_iload_n (pc := 59) dX10_slot_59 rfl rfl ?_
          refine J_iald (pc := 60) (hW.a 3 rfl) rfl hi (by first | omega | exact mLn_lt _) (hlk.2 e t hl).1 dX10_slot_60 ?_
          refine J_iconst (pc := 61) (v := (-1)) dX10_slot_61 (by decide) ?_
          refine J_icmp_eq (pc := 62) (tgt := 70) dX10_slot_62 rfl (fun hc9 => absurd hc9 ((fun z => by have := (oI_m1 (o := some e.1) (fun x hx => by cases hx; have := ho.1; omega)).mp z; cases this))) (fun _ => ?_)
          refine J_aload_n (pc := 65) dX10_slot_65 rfl rfl ?_
          refine J_iload_n (pc := 66) dX10_slot_66 rfl rfl ?_
          refine J_callV (pc := 67) (cm_arrive l g (hgt - 1) hW hO hF hi hl (by omega)) qX10_arrive vX10_arrive cl8 rfl hW.o kX10_210 dX10_slot_67 rfl rfl (Nat.le_of_ble_eq_true rfl) (by omega) (by omega) (by omega) ?_
          rintro _ S' ⟨rfl, hW⟩
          exact next S' hW
  refine J_aload_n (pc := 37) dX10_slot_37 rfl rfl ?_
  refine J_dup (pc := 38) dX10_slot_38 rfl ?_
  refine J_geti (pc := 39) (i := 1) cl8 hW.o (by decide) rfl hW.2.2.1.1 kX10_177 dX10_slot_39 ?_
  refine J_iconst (pc := 42) (v := nI 1) dX10_slot_42 (by decide) ?_
  first | refine J_iaddN (pc := 43) dX10_slot_43 ?_ | refine J_iadd (pc := 43) dX10_slot_43 ?_
  refine J_mss (pc := 44) hW 1 0 (by decide) rfl kX10_177 dX10_slot_44 (fun hW => ?_)
  refine J_iconst (pc := 47) (v := nI 0) dX10_slot_47 (by decide) ?_
  refine J_istore_n (pc := 48) dX10_slot_48 rfl (by decide) ?_
  exact J_lvk (partA 0 (by omega) _ hW) ⟨rfl, rfl, rfl, rfl, trivial⟩
set_option maxRecDepth 100000 in
theorem cm_slot (l : Launch) (g : jG) (hgt : Nat) {S : jS} {b : Nat} {ad : Nat → Nat} {X : XS} {n : Nat} (hW : WM S b ad X) (h1 : 1 ≤ n) (h2 : n ≤ 200) (hI : ∀ k, k < n → okSlot1 (x_slots (yV X 32 0 0) k)) (hh : 4 ≤ hgt) : CT l g mX10_slot hgt 0 0 [.ref b, .int (nI n)] S (fun r S' => r = some (.int (nI (xV (x_slots (yV X 32 0 0) n) 0 0))) ∧ WM S' b ad (x_slots (yV X 32 0 0) n)) := by
  refine CT_of qX10_slot (Nat.le_of_ble_eq_true rfl) ?_
  refine J_aload_n (pc := 0) dX10_slot_0 rfl rfl ?_
  refine J_iload_n (pc := 1) dX10_slot_1 rfl rfl ?_
  refine J_iconst (pc := 2) (v := nI 1) dX10_slot_2 (by decide) ?_
  refine J_icmp_ltN (pc := 3) (tgt := 13) dX10_slot_3 rfl (by omega) (by omega) (fun h0 => ?_) (fun h0 => ?_)
  · omega
  · refine J_iload_n (pc := 6) dX10_slot_6 rfl rfl ?_
    refine J_sipush (pc := 7) (v := nI 200) dX10_slot_7 (by decide) ?_
    refine J_icmp_leN (pc := 10) (tgt := 17) dX10_slot_10 rfl (by omega) (by omega) (fun h0 => ?_) (fun h0 => ?_)
    · refine J_iconst (pc := 17) (v := nI 0) dX10_slot_17 (by decide) ?_
      refine J_mss (pc := 18) hW 0 32 (by decide) rfl kX10_134 dX10_slot_18 (fun hW => ?_)
      refine J_aload_n (pc := 21) dX10_slot_21 rfl rfl ?_
      refine J_geti (pc := 22) (i := 0) cl8 hW.o (by decide) rfl hW.2.2.1.2.2.2.2 kX10_134 dX10_slot_22 ?_
      simp only [xV_yV, xV_yL, xV_yB, xV_yC, xL_yV, xL_yL, xL_yB, xL_yC, xB_yV, xB_yL, xB_yB, xB_yC, true_and, and_true, and_self, false_and, and_false, reduceIte, Nat.reduceEqDiff, if_true, if_false, reduceCtorEq] 
      refine J_if_eqN (pc := 25) (tgt := 30) dX10_slot_25 rfl (by omega) (fun h0 => ?_) (fun h0 => ?_)
      · refine J_iconst (pc := 30) (v := nI 0) dX10_slot_30 (by decide) ?_
        refine J_istore_n (pc := 31) dX10_slot_31 rfl (by decide) ?_
        have loop : ∀ k, k ≤ n → ∀ S, WM S b ad (x_slots (yV X 32 0 0) k) → J l g mX10_slot hgt 0 0 (fun r S' => r = some (.int (nI (xV (x_slots (yV X 32 0 0) n) 0 0))) ∧ WM S' b ad (x_slots (yV X 32 0 0) n)) 32 [(2, .int (nI k)), (0, .ref b), (1, .int (nI n))] [] S 0 0 := by
          refine down _ ?_ ?_
          · intro S hW
            refine J_iload_n (pc := 32) dX10_slot_32 rfl rfl ?_
            refine J_iload_n (pc := 33) dX10_slot_33 rfl rfl ?_
            refine J_icmp_geN (pc := 34) (tgt := 131) dX10_slot_34 rfl (by omega) (by omega) (fun h5 => ?_) (fun h5 => ?_)
            · refine J_aload_n (pc := 131) dX10_slot_131 rfl rfl ?_
              refine J_geti (pc := 132) (i := 1) cl8 hW.o (by decide) rfl hW.2.2.1.1 kX10_177 dX10_slot_132 ?_
              refine J_iret (pc := 135) dX10_slot_135 rfl (by omega) (by omega) ?_
              exact ⟨rfl, hW⟩
            · omega
          · intro k hk ih S hW
            refine J_iload_n (pc := 32) dX10_slot_32 rfl rfl ?_
            refine J_iload_n (pc := 33) dX10_slot_33 rfl rfl ?_
            refine J_icmp_geN (pc := 34) (tgt := 131) dX10_slot_34 rfl (by omega) (by omega) (fun h5 => ?_) (fun h5 => ?_)
            · omega
            · refine jm_slot1 l g hgt hW (hI k hk) hh (fun S' hW => ?_)
              rw [← x_slots_s] at hW
              refine J_iinc (pc := 125) dX10_slot_125 rfl (inc1 _) (by decide) ?_
              refine J_goto (pc := 128) (tgt := 32) dX10_slot_128 rfl ?_
              exact J_lvk (ih S' hW) ⟨rfl, rfl, rfl, trivial⟩
        exact J_lvk (loop 0 (Nat.zero_le _) _ hW) ⟨rfl, rfl, rfl, trivial⟩
      · exact absurd rfl h0
    · omega
set_option maxRecDepth 100000 in
theorem cm_slotBad (l : Launch) (g : jG) (hgt : Nat) {S : jS} {b : Nat} {ad : Nat → Nat} {X : XS} {n : Int32} (hW : WM S b ad X) (h1 : n < nI 1 ∨ nI 200 < n) : CT l g mX10_slot hgt 0 0 [.ref b, .int n] S (fun r S' => WM S' b ad (yV X 32 0 1) ∧ r = some (.int 0)) := by
  have fin : J l g mX10_slot hgt 0 0 (fun r S' => WM S' b ad (yV X 32 0 1) ∧ r = some (.int 0)) 13 [(0, .ref b), (1, .int n)] [.ref b] S 0 0 := by
    refine J_iconst (pc := 13) (v := nI 1) dX10_slot_13 (by decide) ?_
    refine J_goto (pc := 14) (tgt := 18) dX10_slot_14 rfl ?_
    refine J_mss (pc := 18) hW 0 32 (by decide) rfl kX10_134 dX10_slot_18 (fun hW => ?_)
    refine J_aload_n (pc := 21) dX10_slot_21 rfl rfl ?_
    refine J_geti (pc := 22) (i := 0) cl8 hW.o (by decide) rfl hW.2.2.1.2.2.2.2 kX10_134 dX10_slot_22 ?_
    simp only [xV_yV, xV_yL, xV_yB, xV_yC, xL_yV, xL_yL, xL_yB, xL_yC, xB_yV, xB_yL, xB_yB, xB_yC, true_and, and_true, and_self, false_and, and_false, reduceIte, Nat.reduceEqDiff, if_true, if_false, reduceCtorEq] 
    refine J_if_eqN (pc := 25) (tgt := 30) dX10_slot_25 rfl (by omega) (fun h0 => ?_) (fun h0 => ?_)
    · cases h0
    · refine J_iconst (pc := 28) (v := nI 0) dX10_slot_28 (by decide) ?_
      refine J_iret (pc := 29) dX10_slot_29 rfl (by omega) (by omega) ?_
      exact ⟨hW, rfl⟩
  refine CT_of qX10_slot (Nat.le_of_ble_eq_true rfl) ?_
  refine J_aload_n (pc := 0) dX10_slot_0 rfl rfl ?_
  refine J_iload_n (pc := 1) dX10_slot_1 rfl rfl ?_
  refine J_iconst (pc := 2) (v := nI 1) dX10_slot_2 (by decide) ?_
  refine J_icmp_lt (pc := 3) (tgt := 13) dX10_slot_3 rfl (fun h0 => ?_) (fun h0 => ?_)
  · exact fin
  · refine J_iload_n (pc := 6) dX10_slot_6 rfl rfl ?_
    refine J_sipush (pc := 7) (v := nI 200) dX10_slot_7 (by decide) ?_
    refine J_icmp_le (pc := 10) (tgt := 17) dX10_slot_10 rfl (fun h2 => ?_) (fun h2 => ?_)
    · exact absurd h2 (by rcases h1 with z | z; (· exact absurd z h0); (· exact Int32.not_le.mpr z))
    · exact fin
set_option maxRecDepth 100000 in
theorem cm_thrown (l : Launch) (g : jG) (hgt : Nat) {S : jS} {b : Nat} {ad : Nat → Nat} {X : XS} (hW : WM S b ad X) : CT l g mX10_thrown hgt 0 0 [.ref b] S (jPure (.int (nI (xV X 32 0))) S) := by
  refine CT_of qX10_thrown (Nat.le_of_ble_eq_true rfl) ?_
  refine J_aload_n (pc := 0) dX10_thrown_0 rfl rfl ?_
  refine J_geti (pc := 1) (i := 0) cl8 hW.o (by decide) rfl hW.2.2.1.2.2.2.2 kX10_134 dX10_thrown_1 ?_
  refine J_iret (pc := 4) dX10_thrown_4 rfl (by omega) (by omega) ?_
  exact ⟨rfl, rfl⟩
