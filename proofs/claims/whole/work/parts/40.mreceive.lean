def oI (o : Option Nat) : Int32 := match o with
  | none => -1
  | some x => nI x
theorem oI_m1 {o : Option Nat} (h : ∀ x, o = some x → x < 2 ^ 31) : oI o = -1 ↔ o = none := by
  cases o with
  | none => exact ⟨fun _ => rfl, fun _ => rfl⟩
  | some x =>
    refine ⟨fun z => ?_, fun z => by cases z⟩
    have h1 : (nI x).toInt = x := nI_toInt (h x rfl)
    have h2 : (nI x).toInt = -1 := by
      rw [show nI x = -1 from z]
      rfl
    omega
theorem x_best_lt {X : XS} {h : Nat} : ∀ {n x : Nat}, x_best X h n = some x → x < n
  | 0, x, e => by cases e
  | n + 1, x, e => by
    unfold x_best at e
    split at e
    · cases e
      omega
    · have := x_best_lt e
      omega
theorem x_picks_stop {X : XS} {h k : Nat} (hn : x_best (x_picks X h k) h (xV X 1 0) = none) : ∀ d, x_picks X h (k + d) = x_picks X h k
  | 0 => rfl
  | d + 1 => by
    have ih := x_picks_stop hn d
    show (match x_best (x_picks X h (k + d)) h (xV X 1 0) with
      | none => x_picks X h (k + d)
      | some m => x_pick (x_picks X h (k + d)) h (k + d) m) = _
    rw [ih, hn]
set_option maxRecDepth 100000 in
theorem jm_listens (l : Launch) (g : jG) (hgt : Nat) {S : jS} {b : Nat} {ad : Nat → Nat} {X : XS} {h : Nat} {Q : Option Value → jS → Prop} (hW : WM S b ad X) (hI : ∀ i, i ≤ xV X 1 0 → xOK (x_listens X h i) ∧ xSm X (x_listens X h i)) (hh8 : h < 8) (hh : 2 ≤ hgt)
    (k : ∀ S', WM S' b ad (x_listens X h (xV X 1 0)) → J l g mX10_receive hgt 0 0 Q 42 [(0, .ref b), (1, .int (nI h))] [] S' 0 0) : J l g mX10_receive hgt 0 0 Q 0 [(0, .ref b), (1, .int (nI h))] [] S 0 0 := by
  have h48 : xV X 1 0 ≤ 48 := (hI 0 (Nat.zero_le _)).1.many
  refine J_iconst (pc := 0) (v := nI 0) dX10_receive_0 (by decide) ?_
  refine J_istore_n (pc := 1) dX10_receive_1 rfl (by decide) ?_
  have loop : ∀ i, i ≤ xV X 1 0 → ∀ S, WM S b ad (x_listens X h i) → J l g mX10_receive hgt 0 0 Q 2 [(2, .int (nI i)), (0, .ref b), (1, .int (nI h))] [] S 0 0 := by
    refine down _ ?_ ?_
    · intro S hW
      have hN := congrFun (hI _ (Nat.le_refl _)).2.1 0
      refine J_iload_n (pc := 2) dX10_receive_2 rfl rfl ?_
      refine J_aload_n (pc := 3) dX10_receive_3 rfl rfl ?_
      refine J_geti (pc := 4) (i := 2) cl8 hW.o (by decide) rfl hW.2.2.1.2.1 kX10_138 dX10_receive_4 ?_
      rw [hN]
      refine J_icmp_geN (pc := 7) (tgt := 42) dX10_receive_7 rfl (by omega) (by omega) (fun h0 => ?_) (fun h0 => ?_)
      · exact J_lvk (k S hW) ⟨rfl, rfl, trivial⟩
      · omega
    · intro i hi ih S hW
      obtain ⟨hO, hN⟩ := hI i (by omega)
      have hN := congrFun hN.1 0
      have h1 := hO.msg (m := i) (by omega)
      have hs : x_listens X h (i + 1) = if xV (x_listens X h i) 9 i = h ∧ xV (x_listens X h i) 19 i = 1 then x_listen (x_listens X h i) h i else x_listens X h i := rfl
      generalize x_listens X h i = Y at hW h1 hs hN hO
      have next : ∀ S', WM S' b ad (x_listens X h (i + 1)) → J l g mX10_receive hgt 0 0 Q 36 [(2, .int (nI i)), (0, .ref b), (1, .int (nI h))] [] S' 0 0 := by
        intro S' hW'
        refine J_iinc (pc := 36) dX10_receive_36 rfl (inc1 _) (by decide) ?_
        refine J_goto (pc := 39) (tgt := 2) dX10_receive_39 rfl ?_
        exact J_lvk (ih S' hW') ⟨rfl, rfl, rfl, trivial⟩
      refine J_iload_n (pc := 2) dX10_receive_2 rfl rfl ?_
      refine J_aload_n (pc := 3) dX10_receive_3 rfl rfl ?_
      refine J_geti (pc := 4) (i := 2) cl8 hW.o (by decide) rfl hW.2.2.1.2.1 kX10_138 dX10_receive_4 ?_
      rw [hN]
      refine J_icmp_geN (pc := 7) (tgt := 42) dX10_receive_7 rfl (by omega) (by omega) (fun h0 => ?_) (fun h0 => ?_)
      · omega
      · refine J_aload_n (pc := 10) dX10_receive_10 rfl rfl ?_
        refine J_getr (pc := 11) (i := 17) cl8 hW.o (by decide) rfl (hW.r 17 rfl) kX10_47 dX10_receive_11 ?_
        refine J_iload_n (pc := 14) dX10_receive_14 rfl rfl ?_
        refine J_mld (pc := 15) hW 9 rfl rfl (by show _ < 48; omega) dX10_receive_15 ?_
        refine J_iload_n (pc := 16) dX10_receive_16 rfl rfl ?_
        refine J_icmp_neN (pc := 17) (tgt := 36) dX10_receive_17 rfl (by omega) (by omega) (fun h2 => ?_) (fun h2 => ?_)
        · exact next S (by rw [hs, if_neg (fun z => h2 z.1)]; exact hW)
        · refine J_aload_n (pc := 20) dX10_receive_20 rfl rfl ?_
          refine J_getr (pc := 21) (i := 28) cl8 hW.o (by decide) rfl (hW.r 28 rfl) kX10_80 dX10_receive_21 ?_
          refine J_iload_n (pc := 24) dX10_receive_24 rfl rfl ?_
          refine J_mld (pc := 25) hW 19 rfl rfl (by show _ < 48; omega) dX10_receive_25 ?_
          refine J_iconst (pc := 26) (v := nI 1) dX10_receive_26 (by decide) ?_
          refine J_icmp_neN (pc := 27) (tgt := 36) dX10_receive_27 rfl (by omega) (by omega) (fun h3 => ?_) (fun h3 => ?_)
          · exact next S (by rw [hs, if_neg (fun z => h3 z.2)]; exact hW)
          · refine J_aload_n (pc := 30) dX10_receive_30 rfl rfl ?_
            refine J_iload_n (pc := 31) dX10_receive_31 rfl rfl ?_
            refine J_iload_n (pc := 32) dX10_receive_32 rfl rfl ?_
            refine J_callV (pc := 33) (cm_listen l g (hgt - 1) hW hO (show i < 48 by omega) hh8 h3 (by omega)) qX10_listen vX10_listen cl8 rfl hW.o kX10_180 dX10_receive_33 rfl rfl (Nat.le_of_ble_eq_true rfl) (by omega) (by omega) (by omega) ?_
            rintro _ _ ⟨rfl, hW⟩
            exact next _ (by rw [hs, if_pos ⟨h2, h3⟩]; exact hW)
  exact loop 0 (Nat.zero_le _) S hW
set_option maxRecDepth 100000 in
theorem jm_forgets (l : Launch) (g : jG) (hgt : Nat) {S : jS} {b : Nat} {ad : Nat → Nat} {X : XS} {h : Nat} {Q : Option Value → jS → Prop} (hW : WM S b ad X) (hI : ∀ i, i ≤ xV X 1 0 → xOK (x_forgets X h i) ∧ xSm X (x_forgets X h i)) (hh8 : h < 8) (hh : 2 ≤ hgt)
    (k : ∀ S', WM S' b ad (x_forgets X h (xV X 1 0)) → J l g mX10_receive hgt 0 0 Q 109 [(0, .ref b), (1, .int (nI h))] [] S' 0 0) : J l g mX10_receive hgt 0 0 Q 42 [(0, .ref b), (1, .int (nI h))] [] S 0 0 := by
  have h48 : xV X 1 0 ≤ 48 := (hI 0 (Nat.zero_le _)).1.many
  refine J_iconst (pc := 42) (v := nI 0) dX10_receive_42 (by decide) ?_
  refine J_istore_n (pc := 43) dX10_receive_43 rfl (by decide) ?_
  have loop : ∀ i, i ≤ xV X 1 0 → ∀ S, WM S b ad (x_forgets X h i) → J l g mX10_receive hgt 0 0 Q 44 [(2, .int (nI i)), (0, .ref b), (1, .int (nI h))] [] S 0 0 := by
    refine down _ ?_ ?_
    · intro S hW
      have hN := congrFun (hI _ (Nat.le_refl _)).2.1 0
      refine J_iload_n (pc := 44) dX10_receive_44 rfl rfl ?_
      refine J_aload_n (pc := 45) dX10_receive_45 rfl rfl ?_
      refine J_geti (pc := 46) (i := 2) cl8 hW.o (by decide) rfl hW.2.2.1.2.1 kX10_138 dX10_receive_46 ?_
      rw [hN]
      refine J_icmp_geN (pc := 49) (tgt := 109) dX10_receive_49 rfl (by omega) (by omega) (fun h0 => ?_) (fun h0 => ?_)
      · exact J_lvk (k S hW) ⟨rfl, rfl, trivial⟩
      · omega
    · intro i hi ih S hW
      obtain ⟨hO, hN⟩ := hI i (by omega)
      have hN := congrFun hN.1 0
      have h1 := hO.msg (m := i) (by omega)
      have hs : x_forgets X h (i + 1) = if xV (x_forgets X h i) 9 i = h ∧ (xV (x_forgets X h i) 19 i = 2 ∧ xV (x_forgets X h i) 11 i = 1 ∧ nI 30 ≤ nI (xV (x_forgets X h i) 0 0) - nI (xV (x_forgets X h i) 25 i)) then x_forget (x_forgets X h i) i else x_forgets X h i := rfl
      generalize x_forgets X h i = Y at hW h1 hs hN hO
      have next : ∀ S', WM S' b ad (x_forgets X h (i + 1)) → J l g mX10_receive hgt 0 0 Q 103 [(2, .int (nI i)), (0, .ref b), (1, .int (nI h))] [] S' 0 0 := by
        intro S' hW'
        refine J_iinc (pc := 103) dX10_receive_103 rfl (inc1 _) (by decide) ?_
        refine J_goto (pc := 106) (tgt := 44) dX10_receive_106 rfl ?_
        exact J_lvk (ih S' hW') ⟨rfl, rfl, rfl, trivial⟩
      refine J_iload_n (pc := 44) dX10_receive_44 rfl rfl ?_
      refine J_aload_n (pc := 45) dX10_receive_45 rfl rfl ?_
      refine J_geti (pc := 46) (i := 2) cl8 hW.o (by decide) rfl hW.2.2.1.2.1 kX10_138 dX10_receive_46 ?_
      rw [hN]
      refine J_icmp_geN (pc := 49) (tgt := 109) dX10_receive_49 rfl (by omega) (by omega) (fun h0 => ?_) (fun h0 => ?_)
      · omega
      · refine J_aload_n (pc := 52) dX10_receive_52 rfl rfl ?_
        refine J_getr (pc := 53) (i := 17) cl8 hW.o (by decide) rfl (hW.r 17 rfl) kX10_47 dX10_receive_53 ?_
        refine J_iload_n (pc := 56) dX10_receive_56 rfl rfl ?_
        refine J_mld (pc := 57) hW 9 rfl rfl (by show _ < 48; omega) dX10_receive_57 ?_
        refine J_iload_n (pc := 58) dX10_receive_58 rfl rfl ?_
        refine J_icmp_neN (pc := 59) (tgt := 103) dX10_receive_59 rfl (by omega) (by omega) (fun h2 => ?_) (fun h2 => ?_)
        · exact next S (by rw [hs, if_neg (fun z => h2 z.1)]; exact hW)
        · refine J_aload_n (pc := 62) dX10_receive_62 rfl rfl ?_
          refine J_getr (pc := 63) (i := 28) cl8 hW.o (by decide) rfl (hW.r 28 rfl) kX10_80 dX10_receive_63 ?_
          refine J_iload_n (pc := 66) dX10_receive_66 rfl rfl ?_
          refine J_mld (pc := 67) hW 19 rfl rfl (by show _ < 48; omega) dX10_receive_67 ?_
          refine J_iconst (pc := 68) (v := nI 2) dX10_receive_68 (by decide) ?_
          refine J_icmp_neN (pc := 69) (tgt := 103) dX10_receive_69 rfl (by omega) (by omega) (fun h3 => ?_) (fun h3 => ?_)
          · exact next S (by rw [hs, if_neg (fun z => h3 z.2.1)]; exact hW)
          · refine J_aload_n (pc := 72) dX10_receive_72 rfl rfl ?_
            refine J_getr (pc := 73) (i := 19) cl8 hW.o (by decide) rfl (hW.r 19 rfl) kX10_53 dX10_receive_73 ?_
            refine J_iload_n (pc := 76) dX10_receive_76 rfl rfl ?_
            refine J_mld (pc := 77) hW 11 rfl rfl (by show _ < 48; omega) dX10_receive_77 ?_
            refine J_iconst (pc := 78) (v := nI 1) dX10_receive_78 (by decide) ?_
            refine J_icmp_neN (pc := 79) (tgt := 103) dX10_receive_79 rfl (by omega) (by omega) (fun h4 => ?_) (fun h4 => ?_)
            · exact next S (by rw [hs, if_neg (fun z => h4 z.2.2.1)]; exact hW)
            · refine J_aload_n (pc := 82) dX10_receive_82 rfl rfl ?_
              refine J_geti (pc := 83) (i := 1) cl8 hW.o (by decide) rfl hW.2.2.1.1 kX10_177 dX10_receive_83 ?_
              refine J_aload_n (pc := 86) dX10_receive_86 rfl rfl ?_
              refine J_getr (pc := 87) (i := 34) cl8 hW.o (by decide) rfl (hW.r 34 rfl) kX10_98 dX10_receive_87 ?_
              refine J_iload_n (pc := 90) dX10_receive_90 rfl rfl ?_
              refine J_mld (pc := 91) hW 25 rfl rfl (by show _ < 48; omega) dX10_receive_91 ?_
              refine J_isub (pc := 92) dX10_receive_92 ?_
              refine J_bipush (pc := 93) (v := nI 30) dX10_receive_93 (by decide) ?_
              refine J_icmp_lt (pc := 95) (tgt := 103) dX10_receive_95 rfl (fun h5 => ?_) (fun h5 => ?_)
              · exact next S (by rw [hs, if_neg (fun z => Int32.not_le.mpr h5 z.2.2.2)]; exact hW)
              · refine J_aload_n (pc := 98) dX10_receive_98 rfl rfl ?_
                refine J_iload_n (pc := 99) dX10_receive_99 rfl rfl ?_
                refine J_callV (pc := 100) (cm_forget l g (hgt - 1) hW (show i < 48 by omega)) qX10_forget vX10_forget cl8 rfl hW.o kX10_183 dX10_receive_100 rfl rfl (Nat.le_of_ble_eq_true rfl) (by omega) (by omega) (by omega) ?_
                rintro _ _ ⟨rfl, hW⟩
                exact next _ (by rw [hs, if_pos ⟨h2, h3, h4, Int32.not_lt.mp h5⟩]; exact hW)
  exact loop 0 (Nat.zero_le _) S hW
