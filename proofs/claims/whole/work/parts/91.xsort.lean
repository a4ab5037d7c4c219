/-! THE CLASS: the cutoffs: the latest lengths, sorted -/
theorem cnt_app (f : Nat → Bool) (a : Nat) : ∀ b, cnt f (a + b) = cnt f a + cnt (fun k => f (a + k)) b
  | 0 => rfl
  | b + 1 => by
    show cnt f (a + b) + _ = cnt f a + (cnt (fun k => f (a + k)) b + _)
    rw [cnt_app f a b, Nat.add_assoc]
    rfl
theorem cnt_all {f : Nat → Bool} : ∀ {n : Nat}, (∀ i, i < n → f i = true) → cnt f n = n
  | 0, _ => rfl
  | n + 1, h => by
    unfold cnt
    rw [cnt_all (fun i hi => h i (by omega)), h n (by omega)]
    rfl
theorem cle_cnt (u : Nat) : ∀ L : List Nat, cle L u = cnt (fun k => decide (L.getD k 0 ≤ u)) L.length
  | [] => rfl
  | x :: L => by
    have ih := cle_cnt u L
    have e : cnt (fun k => decide ((x :: L).getD k 0 ≤ u)) (1 + L.length) = cnt (fun k => decide ((x :: L).getD k 0 ≤ u)) 1 + cnt (fun k => decide ((x :: L).getD (1 + k) 0 ≤ u)) L.length := cnt_app _ 1 _
    have e3 : cnt (fun k => decide ((x :: L).getD (1 + k) 0 ≤ u)) L.length = cnt (fun k => decide (L.getD k 0 ≤ u)) L.length := cnt_congr (fun k _ => by rw [Nat.add_comm 1 k]; rfl)
    rw [List.length_cons, Nat.add_comm L.length 1, e, e3, ← ih]
    show ((x :: L).filter (fun y => decide (y ≤ u))).length = (0 + if decide (x ≤ u) = true then 1 else 0) + (L.filter (fun y => decide (y ≤ u))).length
    by_cases q : x ≤ u
    · simp [q]
      omega
    · simp [q]
/-- the j-th of a sorted row is the least number that more than j of the row's do not exceed -/
theorem cut_sorted {L : List Nat} {s : Nat → Nat} {n j : Nat} (hs : ∀ a b, a ≤ b → b < n → s a ≤ s b) (hc : ∀ u, cnt (fun k => decide (s k ≤ u)) n = cle L u) (hj : j < n) (h60 : s j ≤ 60) : lst (fun v => decide (j < cle L v)) 61 = s j := by
  refine lst_of (by omega) ?_ ?_
  · apply decide_eq_true
    rw [← hc]
    have h1 := cnt_le_n (f := fun k => decide (s k ≤ s j)) (a := j + 1) (n := n) hj
    rw [cnt_all (fun i hi => decide_eq_true (hs i j (by omega) hj))] at h1
    omega
  · intro v hv
    apply decide_eq_false
    rw [← hc]
    have e := cnt_app (fun k => decide (s k ≤ v)) j (n - j)
    rw [show j + (n - j) = n by omega, cnt_0 (f := fun k => decide (s (j + k) ≤ v)) (fun i hi => decide_eq_false (by have := hs j (j + i) (by omega) (by omega); omega))] at e
    have := cnt_le (fun k => decide (s k ≤ v)) j
    omega
theorem cnt_rot (f : Nat → Bool) {r : Nat} (hr : r ≤ 16) : cnt (fun k => f ((r + k) % 16)) 16 = cnt f 16 := by
  have e1 := cnt_app (fun k => f ((r + k) % 16)) (16 - r) r
  have e2 := cnt_app f r (16 - r)
  rw [show 16 - r + r = 16 by omega] at e1
  rw [show r + (16 - r) = 16 by omega] at e2
  rw [e1, e2, cnt_congr (f := fun k => f ((r + k) % 16)) (f' := fun k => f (r + k)) (fun i hi => by rw [Nat.mod_eq_of_lt (by omega)]), cnt_congr (f := fun k => f ((r + (16 - r + k)) % 16)) (f' := f) (fun i hi => by rw [show (r + (16 - r + i)) % 16 = i by omega]), Nat.add_comm]
/-- the ring of the latest lengths holds the latest 16 -/
theorem ring_cle {L : List Nat} {lat : Nat → Nat} (h : ∀ t v, L[t]? = some v → L.length ≤ t + 16 → lat (t % 16) = v) (u : Nat) : cnt (fun k => decide (lat k ≤ u)) (min L.length 16) = cle (L.drop (L.length - 16)) u := by
  have hg : ∀ t, t < L.length → L.length ≤ t + 16 → lat (t % 16) = L.getD t 0 := fun t ht h2 => by
    refine h t _ ?_ h2
    rw [List.getD_eq_getElem?_getD, List.getElem?_eq_getElem ht]
    rfl
  by_cases q : L.length ≤ 16
  · rw [show L.length - 16 = 0 by omega, List.drop_zero, cle_cnt, Nat.min_eq_left q]
    refine cnt_congr (fun k hk => ?_)
    have := hg k hk (by omega)
    rw [Nat.mod_eq_of_lt (by omega)] at this
    rw [this]
  · have hl : (L.drop (L.length - 16)).length = 16 := by
      rw [List.length_drop]
      omega
    rw [cle_cnt, hl, Nat.min_eq_right (by omega), ← cnt_rot (fun k => decide (lat k ≤ u)) (r := L.length % 16) (by omega)]
    refine cnt_congr (fun k hk => ?_)
    have e := hg (L.length - 16 + k) (by omega) (by omega)
    rw [show (L.length - 16 + k) % 16 = (L.length % 16 + k) % 16 by omega] at e
    rw [e, List.getD_eq_getElem?_getD, List.getD_eq_getElem?_getD, List.getElem?_drop]
/-- one is put into its place -/
def insF (f : Nat → Nat) (j v : Nat) : Nat → Nat := fun k => if k < j then f k else if k = j then v else f (k - 1)
theorem ins_cnt (f : Nat → Nat) (j v u : Nat) : ∀ d, cnt (fun k => decide (insF f j v k ≤ u)) (j + d + 1) = cnt (fun k => decide (f k ≤ u)) (j + d) + if v ≤ u then 1 else 0
  | 0 => by
    show cnt (fun k => decide (insF f j v k ≤ u)) j + (if decide (insF f j v j ≤ u) = true then 1 else 0) = _
    rw [cnt_congr (f := fun k => decide (insF f j v k ≤ u)) (f' := fun k => decide (f k ≤ u)) (fun k hk => by unfold insF; rw [if_pos hk])]
    unfold insF
    rw [if_neg (Nat.lt_irrefl j), if_pos rfl]
    simp
  | d + 1 => by
    have ih := ins_cnt f j v u d
    show cnt (fun k => decide (insF f j v k ≤ u)) (j + d + 1) + (if decide (insF f j v (j + d + 1) ≤ u) = true then 1 else 0) = (cnt (fun k => decide (f k ≤ u)) (j + d) + if decide (f (j + d) ≤ u) = true then 1 else 0) + _
    rw [ih]
    have e : insF f j v (j + d + 1) = f (j + d) := by
      unfold insF
      rw [if_neg (by omega), if_neg (by omega), Nat.add_sub_cancel]
    rw [e]
    omega
theorem ins_mono {f : Nat → Nat} {i j v : Nat} (hf : ∀ a b, a ≤ b → b < i → f a ≤ f b) (hj : j ≤ i) (h1 : j = 0 ∨ f (j - 1) ≤ v) (h2 : ∀ k, j ≤ k → k < i → v < f k) : ∀ a b, a ≤ b → b < i + 1 → insF f j v a ≤ insF f j v b := by
  intro a b hab hb
  unfold insF
  by_cases a1 : a < j
  · rw [if_pos a1]
    by_cases b1 : b < j
    · rw [if_pos b1]
      exact hf a b hab (by omega)
    · rw [if_neg b1]
      by_cases b2 : b = j
      · rw [if_pos b2]
        rcases h1 with h1 | h1
        · omega
        · exact Nat.le_trans (hf a (j - 1) (by omega) (by omega)) h1
      · rw [if_neg b2]
        exact hf a (b - 1) (by omega) (by omega)
  · rw [if_neg a1, if_neg (c := b < j) (by omega)]
    by_cases a2 : a = j
    · rw [if_pos a2]
      by_cases b2 : b = j
      · rw [if_pos b2]
        exact Nat.le_refl _
      · rw [if_neg b2]
        exact Nat.le_of_lt (h2 (b - 1) (by omega) (by omega))
    · rw [if_neg a2, if_neg (c := b = j) (by omega)]
      exact hf (a - 1) (b - 1) (by omega) (by omega)
/-- only the cells of the int array a change -/
def on9 (S S' : jS) (a : Nat) : Prop := S'.1 = S.1 ∧ S'.2.1 = S.2.1 ∧ S'.2.2.2 = S.2.2.2 ∧ ∀ c x k, ¬ (c = 9 ∧ x = a) → sI S' c x k = sI S c x k
theorem on9.rfl (S : jS) (a : Nat) : on9 S S a := ⟨Eq.refl _, Eq.refl _, Eq.refl _, fun _ _ _ _ => Eq.refl _⟩
theorem on9.w {S S' : jS} {a : Nat} (h : on9 S S' a) (k : Nat) (v : Int32) : on9 S (uI S' 9 a k v) a := ⟨h.1, h.2.1, h.2.2.1, fun c x j hn => by rw [sI_uI, if_neg (fun z => hn ⟨z.1, z.2.1⟩)]; exact h.2.2.2 c x j hn⟩
theorem on9.at {S S' : jS} {a c x : Nat} (h : on9 S S' a) (hx : sAt S c x) : sAt S' c x := by
  unfold sAt
  rw [h.1, h.2.1]
  exact hx
theorem on9.P {S S' : jS} {a : Nat} (h : on9 S S' a) : sP S' = sP S := by unfold sP; rw [h.2.2.1]
theorem on9.J {S S' : jS} {a : Nat} (h : on9 S S' a) : sJ S' = sJ S := by unfold sJ; rw [h.2.2.1]
theorem on9.N {S S' : jS} {a : Nat} (h : on9 S S' a) : sN S' = sN S := by unfold sN; rw [h.2.2.1]
theorem on9.ar {S S' : jS} {a c x n : Nat} (h : on9 S S' a) (hx : aAt S c x n) : aAt S' c x n := ⟨h.at hx.1, by rw [h.N]; exact hx.2⟩
/-- the cutoffs at o: its rows la and so, n of them filled with lat -/
def cutO (S : jS) (o la so n : Nat) (lat : Nat → Nat) : Prop := sAt S 0 o ∧ sP S 0 o 0 = some la ∧ sP S 0 o 1 = some so ∧ aAt S 9 la 16 ∧ aAt S 9 so 16 ∧ la ≠ so ∧ sI S 0 o 3 = nI n ∧ ∀ k, k < n → sI S 9 la k = nI (lat k)
theorem cutO.on9 {S S' : jS} {o la so n : Nat} {lat : Nat → Nat} (h : cutO S o la so n lat) (e : on9 S S' so) : cutO S' o la so n lat := by
  obtain ⟨h1, h2, h3, h4, h5, h6, h7, h8⟩ := h
  refine ⟨e.at h1, by rw [e.P]; exact h2, by rw [e.P]; exact h3, e.ar h4, e.ar h5, h6, ?_, fun k hk => ?_⟩
  · rw [e.2.2.2 0 o 3 (by omega)]
    exact h7
  · rw [e.2.2.2 9 la k (fun z => h6 z.2)]
    exact h8 k hk
set_option maxRecDepth 100000 in
theorem cx_sort (l : Launch) (g : jG) (hgt : Nat) {S0 : jS} {o la so n : Nat} {lat : Nat → Nat} (hC : cutO S0 o la so n lat) (hn : n ≤ 16) (h60 : ∀ k, k < n → lat k ≤ 60) : CT l g mX1_sort hgt 0 0 [.ref o] S0 (fun r S' => r = none ∧ on9 S0 S' so ∧ ∃ s : Nat → Nat, (∀ k, k < n → sI S' 9 so k = nI (s k)) ∧ (∀ a b, a ≤ b → b < n → s a ≤ s b) ∧ (∀ u, cnt (fun k => decide (s k ≤ u)) n = cnt (fun k => decide (lat k ≤ u)) n) ∧ ∀ k, k < n → s k ≤ 60) := by
  have inner : ∀ (i : Nat) (f : Nat → Nat), i < n → (∀ a b, a ≤ b → b < i → f a ≤ f b) → (∀ k, k < i → f k ≤ 60) → ∀ Q, (∀ S' j, j ≤ i → on9 S0 S' so → (∀ k, k < i + 1 → sI S' 9 so k = nI (insF f j (lat i) k)) → (j = 0 ∨ f (j - 1) ≤ lat i) → (∀ k, j ≤ k → k < i → lat i < f k) → J l g mX1_sort hgt 0 0 Q 65 [(1, .int (nI i)), (0, .ref o)] [] S' 0 0) → ∀ j, j ≤ i → ∀ S, on9 S0 S so → (∀ k, k < j → sI S 9 so k = nI (f k)) → (∀ k, j < k → k < i + 1 → sI S 9 so k = nI (f (k - 1))) → (∀ k, j ≤ k → k < i → lat i < f k) → J l g mX1_sort hgt 0 0 Q 12 [(2, .int (nI j)), (1, .int (nI i)), (0, .ref o)] [] S 0 0 := by
    intro i f hi hf hf60 Q kk j
    have hl60 := h60 i hi
    induction j with
    | zero =>
      intro _ S e1 e2 e3 e4
      obtain ⟨h1, h2, h3, h4, h5, h6, h7, h8⟩ := hC.on9 e1
      refine J_iload_n (pc := 12) dX1_sort_12 rfl rfl ?_
      refine J_if_le (pc := 13) (tgt := 53) dX1_sort_13 rfl (fun _ => ?_) (fun hc9 => absurd ((by decide)) hc9)
      refine J_aload_n (pc := 53) dX1_sort_53 rfl rfl ?_
      refine J_getr (pc := 54) (i := 1) cl0 h1 (by decide) rfl h3 kX1_13 dX1_sort_54 ?_
      refine J_iload_n (pc := 57) dX1_sort_57 rfl rfl ?_
      refine J_aload_n (pc := 58) dX1_sort_58 rfl rfl ?_
      refine J_getr (pc := 59) (i := 0) cl0 h1 (by decide) rfl h2 kX1_9 dX1_sort_59 ?_
      refine J_iload_n (pc := 62) dX1_sort_62 rfl rfl ?_
      refine J_iald (pc := 63) h4 rfl (show i < 16 by omega) (by first | omega | exact mLn_lt _) (h8 i hi) dX1_sort_63 ?_
      refine J_iast (pc := 64) h5 rfl (show 0 < 16 by decide) (by first | omega | exact mLn_lt _) dX1_sort_64 ?_
      refine J_lvk (kk _ 0 (Nat.zero_le _) (e1.w _ _) (fun k hk => ?_) (Or.inl rfl) e4) ⟨rfl, rfl, trivial⟩
      rw [sI_uI]
      unfold insF
      by_cases q : k = 0
      · rw [if_pos ⟨rfl, rfl, q⟩, if_neg (by omega), if_pos q]
      · rw [if_neg (fun z => q z.2.2), if_neg (by omega), if_neg q]
        exact e3 k (by omega) hk
    | succ j ih =>
      intro hj S e1 e2 e3 e4
      obtain ⟨h1, h2, h3, h4, h5, h6, h7, h8⟩ := hC.on9 e1
      have hfj := hf60 j (by omega)
      refine J_iload_n (pc := 12) dX1_sort_12 rfl rfl ?_
      refine J_if_leN (pc := 13) (tgt := 53) dX1_sort_13 rfl (by omega) (fun B => ?_) (fun B => ?_)
      · omega
      · refine J_aload_n (pc := 16) dX1_sort_16 rfl rfl ?_
        refine J_getr (pc := 17) (i := 1) cl0 h1 (by decide) rfl h3 kX1_13 dX1_sort_17 ?_
        refine J_iload_n (pc := 20) dX1_sort_20 rfl rfl ?_
        refine J_iconst (pc := 21) (v := nI 1) dX1_sort_21 (by decide) ?_
        refine J_isubN (b := 1) dX1_sort_22 (by omega) ?_
        rw [Nat.add_sub_cancel]
        refine J_iald (pc := 23) h5 rfl (show j < 16 by omega) (by first | omega | exact mLn_lt _) (e2 j (by omega)) dX1_sort_23 ?_
        refine J_aload_n (pc := 24) dX1_sort_24 rfl rfl ?_
        refine J_getr (pc := 25) (i := 0) cl0 h1 (by decide) rfl h2 kX1_9 dX1_sort_25 ?_
        refine J_iload_n (pc := 28) dX1_sort_28 rfl rfl ?_
        refine J_iald (pc := 29) h4 rfl (show i < 16 by omega) (by first | omega | exact mLn_lt _) (h8 i hi) dX1_sort_29 ?_
        refine J_icmp_leN (pc := 30) (tgt := 53) dX1_sort_30 rfl (by omega) (by omega) (fun B2 => ?_) (fun B2 => ?_)
        · refine J_aload_n (pc := 53) dX1_sort_53 rfl rfl ?_
          refine J_getr (pc := 54) (i := 1) cl0 h1 (by decide) rfl h3 kX1_13 dX1_sort_54 ?_
          refine J_iload_n (pc := 57) dX1_sort_57 rfl rfl ?_
          refine J_aload_n (pc := 58) dX1_sort_58 rfl rfl ?_
          refine J_getr (pc := 59) (i := 0) cl0 h1 (by decide) rfl h2 kX1_9 dX1_sort_59 ?_
          refine J_iload_n (pc := 62) dX1_sort_62 rfl rfl ?_
          refine J_iald (pc := 63) h4 rfl (show i < 16 by omega) (by first | omega | exact mLn_lt _) (h8 i hi) dX1_sort_63 ?_
          refine J_iast (pc := 64) h5 rfl (show j + 1 < 16 by omega) (by first | omega | exact mLn_lt _) dX1_sort_64 ?_
          refine J_lvk (kk _ (j + 1) hj (e1.w _ _) (fun k hk => ?_) (Or.inr (by rw [Nat.add_sub_cancel]; exact B2)) e4) ⟨rfl, rfl, trivial⟩
          rw [sI_uI]
          unfold insF
          by_cases q : k = j + 1
          · rw [if_pos ⟨rfl, rfl, q⟩, if_neg (by omega), if_pos q]
          · rw [if_neg (fun z => q z.2.2)]
            by_cases q2 : k < j + 1
            · rw [if_pos q2]
              exact e2 k q2
            · rw [if_neg q2, if_neg q]
              exact e3 k (by omega) hk
        · refine J_aload_n (pc := 33) dX1_sort_33 rfl rfl ?_
          refine J_getr (pc := 34) (i := 1) cl0 h1 (by decide) rfl h3 kX1_13 dX1_sort_34 ?_
          refine J_iload_n (pc := 37) dX1_sort_37 rfl rfl ?_
          refine J_aload_n (pc := 38) dX1_sort_38 rfl rfl ?_
          refine J_getr (pc := 39) (i := 1) cl0 h1 (by decide) rfl h3 kX1_13 dX1_sort_39 ?_
          refine J_iload_n (pc := 42) dX1_sort_42 rfl rfl ?_
          refine J_iconst (pc := 43) (v := nI 1) dX1_sort_43 (by decide) ?_
          refine J_isubN (b := 1) dX1_sort_44 (by omega) ?_
          rw [Nat.add_sub_cancel]
          refine J_iald (pc := 45) h5 rfl (show j < 16 by omega) (by first | omega | exact mLn_lt _) (e2 j (by omega)) dX1_sort_45 ?_
          refine J_iast (pc := 46) h5 rfl (show j + 1 < 16 by omega) (by first | omega | exact mLn_lt _) dX1_sort_46 ?_
          refine J_iinc (pc := 47) dX1_sort_47 rfl (dec1 _) (by decide) ?_
          refine J_goto (pc := 50) (tgt := 12) dX1_sort_50 rfl ?_
          refine J_lvk (ih (by omega) _ (e1.w _ _) (fun k hk => ?_) (fun k hk hk2 => ?_) (fun k hk hk2 => ?_)) ⟨rfl, rfl, rfl, trivial⟩
          · rw [sI_uI, if_neg (by omega)]
            exact e2 k (by omega)
          · rw [sI_uI]
            by_cases q : k = j + 1
            · rw [if_pos ⟨rfl, rfl, q⟩, q, Nat.add_sub_cancel]
            · rw [if_neg (fun z => q z.2.2)]
              exact e3 k (by omega) hk2
          · by_cases q : k = j
            · rw [q]
              omega
            · exact e4 k (by omega) hk2
  have loop : ∀ i, i ≤ n → ∀ (S : jS) (f : Nat → Nat), on9 S0 S so → (∀ k, k < i → sI S 9 so k = nI (f k)) → (∀ a b, a ≤ b → b < i → f a ≤ f b) → (∀ u, cnt (fun k => decide (f k ≤ u)) i = cnt (fun k => decide (lat k ≤ u)) i) → (∀ k, k < i → f k ≤ 60) → J l g mX1_sort hgt 0 0 (fun r S' => r = none ∧ on9 S0 S' so ∧ ∃ s : Nat → Nat, (∀ k, k < n → sI S' 9 so k = nI (s k)) ∧ (∀ a b, a ≤ b → b < n → s a ≤ s b) ∧ (∀ u, cnt (fun k => decide (s k ≤ u)) n = cnt (fun k => decide (lat k ≤ u)) n) ∧ ∀ k, k < n → s k ≤ 60) 2 [(1, .int (nI i)), (0, .ref o)] [] S 0 0 := by
    refine down _ ?_ ?_
    · intro S f e1 e2 e3 e4 e5
      obtain ⟨h1, h2, h3, h4, h5, h6, h7, h8⟩ := hC.on9 e1
      refine J_iload_n (pc := 2) dX1_sort_2 rfl rfl ?_
      refine J_aload_n (pc := 3) dX1_sort_3 rfl rfl ?_
      refine J_geti (pc := 4) (i := 3) cl0 h1 (by decide) rfl h7 kX1_20 dX1_sort_4 ?_
      refine J_icmp_geN (pc := 7) (tgt := 71) dX1_sort_7 rfl (by omega) (by omega) (fun B => ?_) (fun B => ?_)
      · refine J_vret (pc := 71) dX1_sort_71 rfl (by omega) (by omega) ?_
        exact ⟨rfl, e1, f, e2, e3, e4, e5⟩
      · omega
    · intro i hi ih S f e1 e2 e3 e4 e5
      obtain ⟨h1, h2, h3, h4, h5, h6, h7, h8⟩ := hC.on9 e1
      have hl60 := h60 i hi
      refine J_iload_n (pc := 2) dX1_sort_2 rfl rfl ?_
      refine J_aload_n (pc := 3) dX1_sort_3 rfl rfl ?_
      refine J_geti (pc := 4) (i := 3) cl0 h1 (by decide) rfl h7 kX1_20 dX1_sort_4 ?_
      refine J_icmp_geN (pc := 7) (tgt := 71) dX1_sort_7 rfl (by omega) (by omega) (fun B => ?_) (fun B => ?_)
      · omega
      · refine J_iload_n (pc := 10) dX1_sort_10 rfl rfl ?_
        refine J_istore_n (pc := 11) dX1_sort_11 rfl (by decide) ?_
        refine J_lvk (inner i f hi e3 e5 _ ?_ i (Nat.le_refl _) S e1 e2 (fun k h1 h2 => absurd h1 (by omega)) (fun k h1 h2 => absurd h1 (by omega))) ⟨rfl, rfl, rfl, trivial⟩
        intro S' j hj z1 z2 z3 z4
        refine J_iinc (pc := 65) dX1_sort_65 rfl (inc1 _) (by decide) ?_
        refine J_goto (pc := 68) (tgt := 2) dX1_sort_68 rfl ?_
        refine J_lvk (ih S' (insF f j (lat i)) z1 z2 (ins_mono e3 hj z3 z4) (fun u => ?_) (fun k hk => ?_)) ⟨rfl, rfl, trivial⟩
        · have := ins_cnt f j (lat i) u (i - j)
          rw [show j + (i - j) = i by omega] at this
          rw [this, e4 u]
          show _ = cnt (fun k => decide (lat k ≤ u)) i + (if decide (lat i ≤ u) = true then 1 else 0)
          simp
        · unfold insF
          by_cases q : k < j
          · rw [if_pos q]
            exact e5 k (by omega)
          · rw [if_neg q]
            by_cases q2 : k = j
            · rw [if_pos q2]
              exact hl60
            · rw [if_neg q2]
              exact e5 (k - 1) (by omega)
  refine CT_of qX1_sort (Nat.le_of_ble_eq_true rfl) ?_
  refine J_iconst (pc := 0) (v := nI 0) dX1_sort_0 (by decide) ?_
  refine J_istore_n (pc := 1) dX1_sort_1 rfl (by decide) ?_
  exact J_lvk (loop 0 (Nat.zero_le _) S0 (fun _ => 0) (on9.rfl _ _) (fun k hk => absurd hk (Nat.not_lt_zero k)) (fun a b _ hb => absurd hb (Nat.not_lt_zero b)) (fun u => rfl) (fun k hk => absurd hk (Nat.not_lt_zero k))) ⟨rfl, rfl, trivial⟩
