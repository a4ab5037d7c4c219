/-! THE CLASS: the best of those that come behind the last chosen -/
def bh (X : XS) (last b : Option Nat) (x : Nat) : Option Nat := if xV X 19 x = 1 ∧ (∀ y, last = some y → x_ahead X y x = true) ∧ (∀ y, b = some y → x_ahead X x y = true) then some x else b
set_option maxRecDepth 100000 in
theorem cx_bestBehind (l : Launch) (g : jG) (hgt : Nat) {S : jS} {w : Nat → Nat → Nat} {hx : Nat} {X : XS} {a : Nat} {last : Option Nat} (hW : WX S w hx X) (ha : a < 8) (h48 : xV X 1 0 ≤ 48) (hH : ∀ m, m < xV X 1 0 → okH X m ∧ xV X 19 m ≤ 2 ∧ xV X 24 m < 2 ^ 31) (hlast : ∀ y, last = some y → y < xV X 1 0) (hh : 3 ≤ hgt) : CT l g mX3_bestBehind hgt 0 0 [.ref (w 2 a), bV w last] S (jPure (bV w ((outsF (xV X 1 0) (xV X 9) a).foldl (bh X last) none)) S) := by
  have hlen := outs_len (xV X 1 0) (xV X 9) a
  have loop : ∀ i, i ≤ (outsF (xV X 1 0) (xV X 9) a).length → ∀ b, b = ((outsF (xV X 1 0) (xV X 9) a).take i).foldl (bh X last) none → (∀ y, b = some y → y < xV X 1 0) → J l g mX3_bestBehind hgt 0 0 (jPure (bV w ((outsF (xV X 1 0) (xV X 9) a).foldl (bh X last) none)) S) 4 [(2, bV w b), (3, .int (nI i)), (0, .ref (w 2 a)), (1, bV w last)] [] S 0 0 := by
    refine down _ ?_ ?_
    · intro b hb hy
      rw [List.take_length] at hb
      rw [← hb]
      refine J_iload_n (pc := 4) dX3_bestBehind_4 rfl rfl ?_
      refine J_aload_n (pc := 5) dX3_bestBehind_5 rfl rfl ?_
      refine J_geti (pc := 6) (i := 7) cl2 (hW.ho ha) (by decide) rfl (hW.cinc ha) kX3_47 dX3_bestBehind_6 ?_
      refine J_icmp_geN (pc := 9) (tgt := 88) dX3_bestBehind_9 rfl (by omega) (by omega) (fun B => ?_) (fun B => ?_)
      · cases b with
        | none =>
          refine J_aload_nN (pc := 88) dX3_bestBehind_88 rfl rfl ?_
          refine J_aret (pc := 89) dX3_bestBehind_89 rfl (Or.inl rfl) (by omega) (by omega) ?_
          exact ⟨rfl, rfl⟩
        | some y =>
          refine J_aload_n (pc := 88) dX3_bestBehind_88 rfl rfl ?_
          refine J_aret (pc := 89) dX3_bestBehind_89 rfl (Or.inr ⟨_, rfl⟩) (by omega) (by omega) ?_
          exact ⟨rfl, rfl⟩
      · omega
    · intro i hi ih b hb hy
      obtain ⟨x, hx2⟩ : ∃ x, (outsF (xV X 1 0) (xV X 9) a)[i]? = some x := ⟨_, List.getElem?_eq_getElem hi⟩
      have hm := (outs_get hx2).1
      obtain ⟨o1, o2, o3⟩ := hH x hm
      rw [List.take_add_one, hx2, List.foldl_append, ← hb] at ih
      have next : ∀ b', b' = bh X last b x → J l g mX3_bestBehind hgt 0 0 (jPure (bV w ((outsF (xV X 1 0) (xV X 9) a).foldl (bh X last) none)) S) 82 [(2, bV w b'), (3, .int (nI i)), (0, .ref (w 2 a)), (1, bV w last)] [] S 0 0 := by
        intro b' e
        have hb2 : ∀ y, b' = some y → y < xV X 1 0 := by
          intro y hy2
          rw [e] at hy2
          unfold bh at hy2
          split at hy2
          · cases hy2
            exact hm
          · exact hy y hy2
        cases b' with
        | none =>
          refine J_iinc (pc := 82) dX3_bestBehind_82 rfl (inc1 _) (by decide) ?_
          refine J_goto (pc := 85) (tgt := 4) dX3_bestBehind_85 rfl ?_
          exact J_lvk (ih none e hb2) ⟨rfl, rfl, rfl, rfl, trivial⟩
        | some z =>
          refine J_iinc (pc := 82) dX3_bestBehind_82 rfl (inc1 _) (by decide) ?_
          refine J_goto (pc := 85) (tgt := 4) dX3_bestBehind_85 rfl ?_
          exact J_lvk (ih (some z) e hb2) ⟨rfl, rfl, rfl, rfl, trivial⟩
      have take : some x = bh X last b x → J l g mX3_bestBehind hgt 0 0 (jPure (bV w ((outsF (xV X 1 0) (xV X 9) a).foldl (bh X last) none)) S) 75 [(3, .int (nI i)), (0, .ref (w 2 a)), (1, bV w last)] [] S 0 0 := by
        intro e
        refine J_aload_n (pc := 75) dX3_bestBehind_75 rfl rfl ?_
        refine J_getr (pc := 76) (i := 1) cl2 (hW.ho ha) (by decide) rfl (hW.hinc ha) kX3_17 dX3_bestBehind_76 ?_
        refine J_iload_n (pc := 79) dX3_bestBehind_79 rfl rfl ?_
        refine J_rald12 (pc := 80) (hW.ainc ha) rfl (show i < 48 by omega) (by first | omega | exact mLn_lt _) (hW.inc ha hx2) dX3_bestBehind_80 ?_
        cases last with
        | none =>
          refine J_astore_n (pc := 81) dX3_bestBehind_81 rfl (by decide) ?_
          exact J_lvk (next (some x) e) ⟨rfl, rfl, rfl, rfl, trivial⟩
        | some z =>
          refine J_astore_n (pc := 81) dX3_bestBehind_81 rfl (by decide) ?_
          exact J_lvk (next (some x) e) ⟨rfl, rfl, rfl, rfl, trivial⟩
      have tail : ∀ c : Bool, (c = true ↔ xV X 19 x = 1 ∧ (∀ y, last = some y → x_ahead X y x = true)) → J l g mX3_bestBehind hgt 0 0 (jPure (bV w ((outsF (xV X 1 0) (xV X 9) a).foldl (bh X last) none)) S) 52 [(4, .ref (w 4 x)), (2, bV w b), (3, .int (nI i)), (0, .ref (w 2 a)), (1, bV w last)] [.int (bI c)] S 0 0 := by
        intro c hc
        refine J_istore (pc := 52) dX3_bestBehind_52 (by decide) ?_
        refine J_iload (pc := 54) dX3_bestBehind_54 rfl ?_
        refine J_if_eqB (pc := 56) (tgt := 82) dX3_bestBehind_56 rfl (fun B4 => ?_) (fun B4 => ?_)
        · refine J_lvk (next b ?_) ⟨rfl, rfl, rfl, rfl, trivial⟩
          unfold bh
          rw [if_neg (fun z => by rw [B4] at hc; exact absurd (hc.mpr ⟨z.1, z.2.1⟩) (by decide))]
        · have hc := hc.mp B4
          cases b with
          | none =>
            refine J_aload_nN (pc := 59) dX3_bestBehind_59 rfl rfl ?_
            refine J_ifnullN (pc := 60) (tgt := 75) dX3_bestBehind_60 rfl ?_
            refine J_lvk (take ?_) ⟨rfl, rfl, rfl, trivial⟩
            unfold bh
            rw [if_pos ⟨hc.1, hc.2, fun y hy => by cases hy⟩]
          | some y =>
            have hym := hy y rfl
            obtain ⟨p1, p2, p3⟩ := hH y hym
            refine J_aload_n (pc := 59) dX3_bestBehind_59 rfl rfl ?_
            refine J_ifnull (pc := 60) dX3_bestBehind_60 ?_
            refine J_aload (pc := 63) dX3_bestBehind_63 rfl ?_
            refine J_aload_n (pc := 65) dX3_bestBehind_65 rfl rfl ?_
            refine J_getrN (pc := 66) (i := 5) (host := RX9) cl3 (hW.mo hym) (by decide) rfl (hW.mr hym) (by decide +kernel) dX3_bestBehind_66 ?_
            refine J_callV (pc := 69) (cx_isAheadOf l g (hgt - 1) hW hm hym o1 p1 o3 p3 (by omega)) qX6_isAheadOf vX6_isAheadOf cl4 rfl (hW.q hm) kX3_151 dX3_bestBehind_69 rfl rfl (Nat.le_of_ble_eq_true rfl) (by omega) (by omega) (by omega) ?_
            rintro _ _ ⟨rfl, rfl⟩
            refine J_if_eqB (pc := 72) (tgt := 82) dX3_bestBehind_72 rfl (fun B5 => ?_) (fun B5 => ?_)
            · refine J_lvk (next (some y) ?_) ⟨rfl, rfl, rfl, rfl, trivial⟩
              unfold bh
              rw [if_neg (fun z => by have := z.2.2 y rfl; rw [B5] at this; exact absurd this (by decide))]
            · refine J_lvk (take ?_) ⟨rfl, rfl, rfl, trivial⟩
              unfold bh
              rw [if_pos ⟨hc.1, hc.2, fun y' hy' => by cases hy'; exact B5⟩]
      refine J_iload_n (pc := 4) dX3_bestBehind_4 rfl rfl ?_
      refine J_aload_n (pc := 5) dX3_bestBehind_5 rfl rfl ?_
      refine J_geti (pc := 6) (i := 7) cl2 (hW.ho ha) (by decide) rfl (hW.cinc ha) kX3_47 dX3_bestBehind_6 ?_
      refine J_icmp_geN (pc := 9) (tgt := 88) dX3_bestBehind_9 rfl (by omega) (by omega) (fun B => ?_) (fun B => ?_)
      · omega
      · refine J_aload_n (pc := 12) dX3_bestBehind_12 rfl rfl ?_
        refine J_getr (pc := 13) (i := 1) cl2 (hW.ho ha) (by decide) rfl (hW.hinc ha) kX3_17 dX3_bestBehind_13 ?_
        refine J_iload_n (pc := 16) dX3_bestBehind_16 rfl rfl ?_
        refine J_rald12 (pc := 17) (hW.ainc ha) rfl (show i < 48 by omega) (by first | omega | exact mLn_lt _) (hW.inc ha hx2) dX3_bestBehind_17 ?_
        refine J_getrN (pc := 18) (i := 5) (host := RX9) cl3 (hW.mo hm) (by decide) rfl (hW.mr hm) (by decide +kernel) dX3_bestBehind_18 ?_
        refine J_astore (pc := 21) dX3_bestBehind_21 (by decide) ?_
        refine J_aload (pc := 23) dX3_bestBehind_23 rfl ?_
        refine J_callV (pc := 25) (cx_isKnown l g (hgt - 1) hW hm o2) qX6_isKnown vX6_isKnown cl4 rfl (hW.q hm) kX3_84 dX3_bestBehind_25 rfl rfl (Nat.le_of_ble_eq_true rfl) (by omega) (by omega) (by omega) ?_
        rintro _ _ ⟨rfl, rfl⟩
        refine J_if_eqB (pc := 28) (tgt := 51) dX3_bestBehind_28 rfl (fun B2 => ?_) (fun B2 => ?_)
        · have B2 := of_decide_eq_false B2
          refine J_iconst (pc := 51) (v := nI 0) dX3_bestBehind_51 (by decide) ?_
          exact J_lvk (tail false ⟨fun z => absurd z (by decide), fun z => absurd z.1 B2⟩) ⟨rfl, rfl, rfl, rfl, rfl, trivial⟩
        · have B2 := of_decide_eq_true B2
          cases last with
          | none =>
            refine J_aload_nN (pc := 31) dX3_bestBehind_31 rfl rfl ?_
            refine J_ifnullN (pc := 32) (tgt := 47) dX3_bestBehind_32 rfl ?_
            refine J_iconst (pc := 47) (v := nI 1) dX3_bestBehind_47 (by decide) ?_
            refine J_goto (pc := 48) (tgt := 52) dX3_bestBehind_48 rfl ?_
            exact J_lvk (tail true ⟨fun _ => ⟨B2, fun y hy => by cases hy⟩, fun _ => rfl⟩) ⟨rfl, rfl, rfl, rfl, rfl, trivial⟩
          | some y =>
            have hym := hlast y rfl
            obtain ⟨p1, p2, p3⟩ := hH y hym
            refine J_aload_n (pc := 31) dX3_bestBehind_31 rfl rfl ?_
            refine J_ifnull (pc := 32) dX3_bestBehind_32 ?_
            refine J_aload_n (pc := 35) dX3_bestBehind_35 rfl rfl ?_
            refine J_getrN (pc := 36) (i := 5) (host := RX9) cl3 (hW.mo hym) (by decide) rfl (hW.mr hym) (by decide +kernel) dX3_bestBehind_36 ?_
            refine J_aload (pc := 39) dX3_bestBehind_39 rfl ?_
            refine J_callV (pc := 41) (cx_isAheadOf l g (hgt - 1) hW hym hm p1 o1 p3 o3 (by omega)) qX6_isAheadOf vX6_isAheadOf cl4 rfl (hW.q hym) kX3_151 dX3_bestBehind_41 rfl rfl (Nat.le_of_ble_eq_true rfl) (by omega) (by omega) (by omega) ?_
            rintro _ _ ⟨rfl, rfl⟩
            refine J_if_eqB (pc := 44) (tgt := 51) dX3_bestBehind_44 rfl (fun B5 => ?_) (fun B5 => ?_)
            · refine J_iconst (pc := 51) (v := nI 0) dX3_bestBehind_51 (by decide) ?_
              exact J_lvk (tail false ⟨fun z => absurd z (by decide), fun z => absurd (z.2 y rfl) (by rw [B5]; decide)⟩) ⟨rfl, rfl, rfl, rfl, rfl, trivial⟩
            · refine J_iconst (pc := 47) (v := nI 1) dX3_bestBehind_47 (by decide) ?_
              refine J_goto (pc := 48) (tgt := 52) dX3_bestBehind_48 rfl ?_
              exact J_lvk (tail true ⟨fun _ => ⟨B2, fun y' hy' => by cases hy'; exact B5⟩, fun _ => rfl⟩) ⟨rfl, rfl, rfl, rfl, rfl, trivial⟩
  cases last with
  | none =>
    refine CT_of qX3_bestBehind (Nat.le_of_ble_eq_true rfl) ?_
    refine J_null (pc := 0) dX3_bestBehind_0 ?_
    refine J_astore_nN (pc := 1) dX3_bestBehind_1 rfl (by decide) ?_
    refine J_iconst (pc := 2) (v := nI 0) dX3_bestBehind_2 (by decide) ?_
    refine J_istore_n (pc := 3) dX3_bestBehind_3 rfl (by decide) ?_
    exact J_lvk (loop 0 (Nat.zero_le _) none rfl (fun y hy => by cases hy)) ⟨rfl, rfl, rfl, rfl, trivial⟩
  | some y =>
    refine CT_of qX3_bestBehind (Nat.le_of_ble_eq_true rfl) ?_
    refine J_null (pc := 0) dX3_bestBehind_0 ?_
    refine J_astore_nN (pc := 1) dX3_bestBehind_1 rfl (by decide) ?_
    refine J_iconst (pc := 2) (v := nI 0) dX3_bestBehind_2 (by decide) ?_
    refine J_istore_n (pc := 3) dX3_bestBehind_3 rfl (by decide) ?_
    exact J_lvk (loop 0 (Nat.zero_le _) none rfl (fun y hy => by cases hy)) ⟨rfl, rfl, rfl, rfl, trivial⟩
