/-! THE CLASS: a host as a receiver: it forgets -/
theorem forgets_fold {X : XS} {h n : Nat} (hI : ∀ i, i ≤ n → xSm X (x_forgets X h i)) : x_forgets X h n = (outsF n (xV X 9) h).foldl f_old X := by
  unfold x_forgets outsF
  refine for_fold n (fun i hi hp => ?_) (fun i hi hp => ?_)
  · have e : xV (x_forgets X h i) 9 i = h := by rw [(hI i (by omega)).2.2.1]; exact of_decide_eq_true hp
    show (if xV (x_forgets X h i) 9 i = h ∧ (xV (x_forgets X h i) 19 i = 2 ∧ xV (x_forgets X h i) 11 i = 1 ∧ nI 30 ≤ nI (xV (x_forgets X h i) 0 0) - nI (xV (x_forgets X h i) 25 i)) then x_forget (x_forgets X h i) i else x_forgets X h i) = f_old (x_forgets X h i) i
    unfold f_old
    by_cases q : xV (x_forgets X h i) 19 i = 2 ∧ xV (x_forgets X h i) 11 i = 1 ∧ nI 30 ≤ nI (xV (x_forgets X h i) 0 0) - nI (xV (x_forgets X h i) 25 i)
    · rw [if_pos ⟨e, q⟩, if_pos q]
    · rw [if_neg (fun z => q z.2), if_neg q]
  · have e : ¬ xV (x_forgets X h i) 9 i = h := by rw [(hI i (by omega)).2.2.1]; exact of_decide_eq_false hp
    show (if xV (x_forgets X h i) 9 i = h ∧ (xV (x_forgets X h i) 19 i = 2 ∧ xV (x_forgets X h i) 11 i = 1 ∧ nI 30 ≤ nI (xV (x_forgets X h i) 0 0) - nI (xV (x_forgets X h i) 25 i)) then x_forget (x_forgets X h i) i else x_forgets X h i) = x_forgets X h i
    rw [if_neg (fun z => e z.1)]
set_option maxRecDepth 100000 in
theorem jx_forgets (l : Launch) (g : jG) (hgt : Nat) {S : jS} {w : Nat → Nat → Nat} {hx : Nat} {X : XS} {a : Nat} {Q : Option Value → jS → Prop} (hW : WX S w hx X) (ha : a < 8) (hI : ∀ i, i ≤ xV X 1 0 → xOK (x_forgets X a i) ∧ xSm X (x_forgets X a i)) (hh : 3 ≤ hgt) (kk : ∀ S', WX S' w hx (x_forgets X a (xV X 1 0)) → J l g mX3_workAsReceiver hgt 0 0 Q 55 [(0, .ref (w 2 a))] [] S' 0 0) : J l g mX3_workAsReceiver hgt 0 0 Q 26 [(0, .ref (w 2 a)), (1, .int (nI (xV X 0 0)))] [] S 0 0 := by
  have h48 : xV X 1 0 ≤ 48 := (hI 0 (Nat.zero_le _)).1.many
  have hlen := outs_len (xV X 1 0) (xV X 9) a
  have hfold := forgets_fold (X := X) (h := a) (n := xV X 1 0) (fun i hi => (hI i hi).2)
  have hY : ∀ i, i ≤ (outsF (xV X 1 0) (xV X 9) a).length → xOK (((outsF (xV X 1 0) (xV X 9) a).take i).foldl f_old X) ∧ xSm X (((outsF (xV X 1 0) (xV X 9) a).take i).foldl f_old X) ∧ xV (((outsF (xV X 1 0) (xV X 9) a).take i).foldl f_old X) 0 = xV X 0 := by
    intro i hi
    obtain ⟨n, hn, e⟩ := take_filter (fun x => decide (xV X 9 x = a)) (xV X 1 0) i hi
    have e2 : (outsF (xV X 1 0) (xV X 9) a).take i = outsF n (xV X 9) a := e
    rw [e2, ← forgets_fold (X := X) (h := a) (n := n) (fun j hj => (hI j (by omega)).2)]
    exact ⟨(hI n hn).1, (hI n hn).2, forgets_0 X a n⟩
  rw [hfold] at kk
  refine J_iconst (pc := 26) (v := nI 0) dX3_workAsReceiver_26 (by decide) ?_
  refine J_istore_n (pc := 27) dX3_workAsReceiver_27 rfl (by decide) ?_
  have loop : ∀ i, i ≤ (outsF (xV X 1 0) (xV X 9) a).length → ∀ S, WX S w hx (((outsF (xV X 1 0) (xV X 9) a).take i).foldl f_old X) → J l g mX3_workAsReceiver hgt 0 0 Q 28 [(2, .int (nI i)), (0, .ref (w 2 a)), (1, .int (nI (xV X 0 0)))] [] S 0 0 := by
    refine down _ ?_ ?_
    · intro S hW
      obtain ⟨-, y2, -⟩ := hY _ (Nat.le_refl _)
      rw [List.take_length] at hW y2
      have hc := hW.cinc ha
      rw [y2.1, y2.2.2.1] at hc
      refine J_iload_n (pc := 28) dX3_workAsReceiver_28 rfl rfl ?_
      refine J_aload_n (pc := 29) dX3_workAsReceiver_29 rfl rfl ?_
      refine J_geti (pc := 30) (i := 7) cl2 (hW.ho ha) (by decide) rfl hc kX3_47 dX3_workAsReceiver_30 ?_
      refine J_icmp_geN (pc := 33) (tgt := 55) dX3_workAsReceiver_33 rfl (by omega) (by omega) (fun B => ?_) (fun B => ?_)
      · exact J_lvk (kk S hW) ⟨rfl, trivial⟩
      · omega
    · intro i hi ih S hW
      obtain ⟨y1, y2, y3⟩ := hY i (by omega)
      obtain ⟨x, hx2⟩ : ∃ x, (outsF (xV X 1 0) (xV X 9) a)[i]? = some x := ⟨_, List.getElem?_eq_getElem hi⟩
      have hxm := outs_get hx2
      rw [List.take_add_one, hx2, List.foldl_append] at ih
      generalize ((outsF (xV X 1 0) (xV X 9) a).take i).foldl f_old X = Y at hW y1 y2 y3 ih
      have hc := hW.cinc ha
      have ho := hW.inc ha (i := i) (x := x) (by rw [y2.1, y2.2.2.1]; exact hx2)
      rw [y2.1, y2.2.2.1] at hc
      have hm : x < xV Y 1 0 := by rw [y2.1]; exact hxm.1
      have o := y1.msg (m := x) (by omega)
      rw [← y3] at ih ⊢
      refine J_iload_n (pc := 28) dX3_workAsReceiver_28 rfl rfl ?_
      refine J_aload_n (pc := 29) dX3_workAsReceiver_29 rfl rfl ?_
      refine J_geti (pc := 30) (i := 7) cl2 (hW.ho ha) (by decide) rfl hc kX3_47 dX3_workAsReceiver_30 ?_
      refine J_icmp_geN (pc := 33) (tgt := 55) dX3_workAsReceiver_33 rfl (by omega) (by omega) (fun B => ?_) (fun B => ?_)
      · omega
      · refine J_aload_n (pc := 36) dX3_workAsReceiver_36 rfl rfl ?_
        refine J_getr (pc := 37) (i := 1) cl2 (hW.ho ha) (by decide) rfl (hW.hinc ha) kX3_17 dX3_workAsReceiver_37 ?_
        refine J_iload_n (pc := 40) dX3_workAsReceiver_40 rfl rfl ?_
        refine J_rald12 (pc := 41) (hW.ainc ha) rfl (show i < 48 by omega) (by first | omega | exact mLn_lt _) ho dX3_workAsReceiver_41 ?_
        refine J_getrN (pc := 42) (i := 5) (host := RX9) cl3 (hW.mo hm) (by decide) rfl (hW.mr hm) (by decide +kernel) dX3_workAsReceiver_42 ?_
        refine J_iload_n (pc := 45) dX3_workAsReceiver_45 rfl rfl ?_
        refine J_callV (pc := 46) (cx_forgetIfOld l g (hgt - 1) hW hm o.2.2.1 o.1.2.2.2 (by omega)) qX6_forgetIfOld vX6_forgetIfOld cl4 rfl (hW.q hm) kX3_127 dX3_workAsReceiver_46 rfl rfl (Nat.le_of_ble_eq_true rfl) (by omega) (by omega) (by omega) ?_
        rintro _ S' ⟨rfl, hW'⟩
        refine J_iinc (pc := 49) dX3_workAsReceiver_49 rfl (inc1 _) (by decide) ?_
        refine J_goto (pc := 52) (tgt := 28) dX3_workAsReceiver_52 rfl ?_
        exact J_lvk (ih S' hW') ⟨rfl, rfl, rfl, trivial⟩
  exact J_lvk (loop 0 (Nat.zero_le _) S hW) ⟨rfl, rfl, rfl, trivial⟩
