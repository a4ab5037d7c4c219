/-! THE CLASS: a host as a receiver: it listens, it forgets -/
theorem due_v (X : XS) (h : Nat) (e : Nat × Nat × Nat) : xV (x_due X h e) = xV X := by
  unfold x_due
  split <;> rfl
theorem forget_0 (X : XS) (m : Nat) : xV (x_forget X m) 0 = xV X 0 := by
  unfold x_forget
  rw [xV_yC, xV_nf (by decide)]
theorem listen_0 (X : XS) (h m : Nat) : xV (x_listen X h m) 0 = xV X 0 := by
  unfold x_listen
  split
  · rw [xV_nf (by decide)]
  · split
    · rw [forget_0, xV_nf (by decide), xV_nf (by decide)]
    · rw [due_v, xV_nf (by decide), xV_nf (by decide)]
theorem listens_0 (X : XS) (h : Nat) : ∀ n, xV (x_listens X h n) 0 = xV X 0
  | 0 => rfl
  | n + 1 => by
    show xV (if xV (x_listens X h n) 9 n = h ∧ xV (x_listens X h n) 19 n = 1 then x_listen (x_listens X h n) h n else x_listens X h n) 0 = _
    split
    · rw [listen_0, listens_0 X h n]
    · exact listens_0 X h n
def f_old (Y : XS) (x : Nat) : XS := if xV Y 19 x = 2 ∧ xV Y 11 x = 1 ∧ nI 30 ≤ nI (xV Y 0 0) - nI (xV Y 25 x) then x_forget Y x else Y
def f_lis (h : Nat) (Y : XS) (x : Nat) : XS := if xV Y 19 x = 1 then x_listen Y h x else Y
theorem forgets_0 (X : XS) (h : Nat) : ∀ n, xV (x_forgets X h n) 0 = xV X 0
  | 0 => rfl
  | n + 1 => by
    show xV (if xV (x_forgets X h n) 9 n = h ∧ (xV (x_forgets X h n) 19 n = 2 ∧ xV (x_forgets X h n) 11 n = 1 ∧ nI 30 ≤ nI (xV (x_forgets X h n) 0 0) - nI (xV (x_forgets X h n) 25 n)) then x_forget (x_forgets X h n) n else x_forgets X h n) 0 = _
    split
    · rw [forget_0, forgets_0 X h n]
    · exact forgets_0 X h n
theorem listens_fold {X : XS} {h n : Nat} (hI : ∀ i, i ≤ n → xSm X (x_listens X h i)) : x_listens X h n = (outsF n (xV X 9) h).foldl (f_lis h) X := by
  unfold x_listens outsF
  refine for_fold n (fun i hi hp => ?_) (fun i hi hp => ?_)
  · have e : xV (x_listens X h i) 9 i = h := by rw [(hI i (by omega)).2.2.1]; exact of_decide_eq_true hp
    show (if xV (x_listens X h i) 9 i = h ∧ xV (x_listens X h i) 19 i = 1 then _ else _) = if xV (x_listens X h i) 19 i = 1 then _ else _
    by_cases q : xV (x_listens X h i) 19 i = 1
    · rw [if_pos ⟨e, q⟩, if_pos q]
    · rw [if_neg (fun z => q z.2), if_neg q]
  · have e : ¬ xV (x_listens X h i) 9 i = h := by rw [(hI i (by omega)).2.2.1]; exact of_decide_eq_false hp
    show (if xV (x_listens X h i) 9 i = h ∧ xV (x_listens X h i) 19 i = 1 then _ else _) = _
    rw [if_neg (fun z => e z.1)]
set_option maxRecDepth 100000 in
theorem jx_listens (l : Launch) (g : jG) (hgt : Nat) {S : jS} {w : Nat → Nat → Nat} {hx : Nat} {X : XS} {a clk : Nat} {Q : Option Value → jS → Prop} (hW : WX S w hx X) (ha : a < 8) (hI : ∀ i, i ≤ xV X 1 0 → xOK (x_listens X a i) ∧ xSm X (x_listens X a i)) (hh : 4 ≤ hgt) (kk : ∀ S', WX S' w hx (x_listens X a (xV X 1 0)) → J l g mX3_workAsReceiver hgt 0 0 Q 26 [(0, .ref (w 2 a)), (1, .int (nI clk))] [] S' 0 0) : J l g mX3_workAsReceiver hgt 0 0 Q 0 [(0, .ref (w 2 a)), (1, .int (nI clk))] [] S 0 0 := by
  have h48 : xV X 1 0 ≤ 48 := (hI 0 (Nat.zero_le _)).1.many
  have hlen := outs_len (xV X 1 0) (xV X 9) a
  have hfold := listens_fold (X := X) (h := a) (n := xV X 1 0) (fun i hi => (hI i hi).2)
  have hY : ∀ i, i ≤ (outsF (xV X 1 0) (xV X 9) a).length → xOK (((outsF (xV X 1 0) (xV X 9) a).take i).foldl (f_lis a) X) ∧ xSm X (((outsF (xV X 1 0) (xV X 9) a).take i).foldl (f_lis a) X) := by
    intro i hi
    obtain ⟨n, hn, e⟩ := take_filter (fun x => decide (xV X 9 x = a)) (xV X 1 0) i hi
    have e2 : (outsF (xV X 1 0) (xV X 9) a).take i = outsF n (xV X 9) a := e
    rw [e2, ← listens_fold (X := X) (h := a) (n := n) (fun j hj => (hI j (by omega)).2)]
    exact hI n hn
  rw [hfold] at kk
  refine J_iconst (pc := 0) (v := nI 0) dX3_workAsReceiver_0 (by decide) ?_
  refine J_istore_n (pc := 1) dX3_workAsReceiver_1 rfl (by decide) ?_
  have loop : ∀ i, i ≤ (outsF (xV X 1 0) (xV X 9) a).length → ∀ S, WX S w hx (((outsF (xV X 1 0) (xV X 9) a).take i).foldl (f_lis a) X) → J l g mX3_workAsReceiver hgt 0 0 Q 2 [(2, .int (nI i)), (0, .ref (w 2 a)), (1, .int (nI clk))] [] S 0 0 := by
    refine down _ ?_ ?_
    · intro S hW
      obtain ⟨-, y2⟩ := hY _ (Nat.le_refl _)
      rw [List.take_length] at hW y2
      have hc := hW.cinc ha
      rw [y2.1, y2.2.2.1] at hc
      refine J_iload_n (pc := 2) dX3_workAsReceiver_2 rfl rfl ?_
      refine J_aload_n (pc := 3) dX3_workAsReceiver_3 rfl rfl ?_
      refine J_geti (pc := 4) (i := 7) cl2 (hW.ho ha) (by decide) rfl hc kX3_47 dX3_workAsReceiver_4 ?_
      refine J_icmp_geN (pc := 7) (tgt := 26) dX3_workAsReceiver_7 rfl (by omega) (by omega) (fun B => ?_) (fun B => ?_)
      · exact J_lvk (kk S hW) ⟨rfl, rfl, trivial⟩
      · omega
    · intro i hi ih S hW
      obtain ⟨y1, y2⟩ := hY i (by omega)
      obtain ⟨x, hx2⟩ : ∃ x, (outsF (xV X 1 0) (xV X 9) a)[i]? = some x := ⟨_, List.getElem?_eq_getElem hi⟩
      have hxm := outs_get hx2
      rw [List.take_add_one, hx2, List.foldl_append] at ih
      generalize ((outsF (xV X 1 0) (xV X 9) a).take i).foldl (f_lis a) X = Y at hW y1 y2 ih
      have hc := hW.cinc ha
      have ho := hW.inc ha (i := i) (x := x) (by rw [y2.1, y2.2.2.1]; exact hx2)
      rw [y2.1, y2.2.2.1] at hc
      have hm : x < xV Y 1 0 := by rw [y2.1]; exact hxm.1
      refine J_iload_n (pc := 2) dX3_workAsReceiver_2 rfl rfl ?_
      refine J_aload_n (pc := 3) dX3_workAsReceiver_3 rfl rfl ?_
      refine J_geti (pc := 4) (i := 7) cl2 (hW.ho ha) (by decide) rfl hc kX3_47 dX3_workAsReceiver_4 ?_
      refine J_icmp_geN (pc := 7) (tgt := 26) dX3_workAsReceiver_7 rfl (by omega) (by omega) (fun B => ?_) (fun B => ?_)
      · omega
      · refine J_aload_n (pc := 10) dX3_workAsReceiver_10 rfl rfl ?_
        refine J_aload_n (pc := 11) dX3_workAsReceiver_11 rfl rfl ?_
        refine J_getr (pc := 12) (i := 1) cl2 (hW.ho ha) (by decide) rfl (hW.hinc ha) kX3_17 dX3_workAsReceiver_12 ?_
        refine J_iload_n (pc := 15) dX3_workAsReceiver_15 rfl rfl ?_
        refine J_rald12 (pc := 16) (hW.ainc ha) rfl (show i < 48 by omega) (by first | omega | exact mLn_lt _) ho dX3_workAsReceiver_16 ?_
        refine J_callV (pc := 17) (cx_listen l g (hgt - 1) hW ha hm y1 (by omega)) qX3_listen vX3_listen cl2 rfl (hW.ho ha) kX3_124 dX3_workAsReceiver_17 rfl rfl (Nat.le_of_ble_eq_true rfl) (by omega) (by omega) (by omega) ?_
        rintro _ S' ⟨rfl, hW'⟩
        refine J_iinc (pc := 20) dX3_workAsReceiver_20 rfl (inc1 _) (by decide) ?_
        refine J_goto (pc := 23) (tgt := 2) dX3_workAsReceiver_23 rfl ?_
        exact J_lvk (ih S' hW') ⟨rfl, rfl, rfl, trivial⟩
  exact J_lvk (loop 0 (Nat.zero_le _) S hW) ⟨rfl, rfl, rfl, trivial⟩
