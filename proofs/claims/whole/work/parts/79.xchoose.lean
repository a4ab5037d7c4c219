/-! THE CLASS: a host chooses. While it does, the state's choices are what the cells hold (gX) -/
def gX (X : XS) (G : Nat → Nat → Nat) : XS := (fun f i => if f = 28 ∨ f = 29 then G f i else X.1 f i, X.2)
def uG (G : Nat → Nat → Nat) (f i v : Nat) : Nat → Nat → Nat := fun f' i' => if f' = f ∧ i' = i then v else G f' i'
theorem gX_v {X : XS} {G : Nat → Nat → Nat} {f : Nat} (h1 : f ≠ 28) (h2 : f ≠ 29) : xV (gX X G) f = xV X f := funext fun i => if_neg (by omega)
theorem gX_28 {X : XS} {G : Nat → Nat → Nat} : xV (gX X G) 28 = G 28 := rfl
theorem gX_29 {X : XS} {G : Nat → Nat → Nat} : xV (gX X G) 29 = G 29 := rfl
theorem gX_o {X : XS} {G : Nat → Nat → Nat} {f i v : Nat} (h : f = 28 ∨ f = 29) : gX (yV X f i v) G = gX X G := by
  unfold gX yV
  refine Prod.ext ?_ rfl
  funext p q
  show (if p = 28 ∨ p = 29 then G p q else if p = f ∧ q = i then v else X.1 p q) = if p = 28 ∨ p = 29 then G p q else X.1 p q
  by_cases e : p = 28 ∨ p = 29
  · rw [if_pos e, if_pos e]
  · rw [if_neg e, if_neg e, if_neg (by omega)]
theorem gX_i {X : XS} {G : Nat → Nat → Nat} {f i v : Nat} (h1 : f ≠ 28) (h2 : f ≠ 29) : gX (yV X f i v) G = yV (gX X G) f i v := by
  unfold gX yV
  refine Prod.ext ?_ rfl
  funext p q
  show (if p = 28 ∨ p = 29 then G p q else if p = f ∧ q = i then v else X.1 p q) = if p = f ∧ q = i then v else if p = 28 ∨ p = 29 then G p q else X.1 p q
  by_cases e : p = 28 ∨ p = 29
  · rw [if_pos e, if_pos e, if_neg (by omega)]
  · rw [if_neg e, if_neg e]
theorem gX_due {X : XS} {G : Nat → Nat → Nat} {h : Nat} {e : Nat × Nat × Nat} : gX (x_due X h e) G = x_due (gX X G) h e := by
  show gX (if (xL X (96 + h)).length = 24 then X else yL X (96 + h) (xL X (96 + h) ++ [e])) G = if (xL X (96 + h)).length = 24 then gX X G else yL (gX X G) (96 + h) (xL X (96 + h) ++ [e])
  split <;> rfl
theorem gX_mis {X : XS} {G : Nat → Nat → Nat} {m : Nat} : x_missing (gX X G) m = x_missing X m := missing_of (gX_v (by decide) (by decide)) rfl
theorem gX_tgt {X : XS} {G : Nat → Nat → Nat} {m : Nat} : x_target (gX X G) m = x_target X m := by
  unfold x_target
  rw [gX_mis, gX_v (by decide) (by decide)]
theorem gX_okH {X : XS} {G : Nat → Nat → Nat} {m : Nat} (h : okH X m) : okH (gX X G) m := by
  unfold okH
  rw [gX_v (by decide) (by decide)]
  exact h
theorem nI_top : nI 4294967295 = -1 := by decide
theorem WX.hcho {S : jS} {w : Nat → Nat → Nat} {hx : Nat} {X : XS} (h : WX S w hx X) {a : Nat} (ha : a < 8) : sP S 2 (w 2 a) 4 = some (w 9 (91 + a)) := h.r 2 a 4 ha rfl
theorem WX.acho {S : jS} {w : Nat → Nat → Nat} {hx : Nat} {X : XS} (h : WX S w hx X) {a : Nat} (ha : a < 8) : aAt S 9 (w 9 (91 + a)) 3 := by
  have := h.a 9 (91 + a) (by decide) (show 91 + a < 107 by omega)
  have e : lenA 9 (91 + a) = 3 := by
    show (if 91 + a < 64 then 8 else if 91 + a < 74 then 24 else if 91 + a = 74 then 2 else if 91 + a < 91 then 16 else if 91 + a < 99 then 3 else 64) = 3
    rw [if_neg (by omega), if_neg (by omega), if_neg (by omega), if_neg (by omega), if_pos (by omega)]
  rw [e] at this
  exact this
/-- other choices that lie in the same cells -/
theorem WX.cho {S : jS} {w : Nat → Nat → Nat} {hx hx' : Nat} {X X' : XS} (h : WX S w hx X) (hv : ∀ f, f ≠ 28 → f ≠ 29 → xV X' f = xV X f) (hB : xB X' = xB X) (hL : xL X' = xL X) (hch : xCho S w hx' (xV X' 28) (xV X' 29)) : WX S w hx' X' := by
  refine h.upd (fun _ _ => false) ⟨rfl, rfl, rfl⟩ (fun _ _ z => by cases z) (fun _ _ _ _ _ => rfl) (fun f hf => hv f (fun z => hf (by simp [z])) (fun z => hf (by simp [z]))) hB ?_ ?_ ?_ hch
  · rw [hL, hv 5 (by decide) (by decide)]
    exact h.2.2.2.2.2.2.1
  · rw [hL]
    exact h.2.2.2.2.2.2.2.1
  · rw [hv 6 (by decide) (by decide)]
    exact h.2.2.2.2.2.2.2.2.1
theorem WX.gW {S : jS} {w : Nat → Nat → Nat} {X : XS} {G : Nat → Nat → Nat} {a k : Nat} (h : WX S w 8 (gX X G)) (ha : a < 8) (hk : k < 3) (h3 : G 28 a = 3) (n : Nat) : WX (uI S 9 (w 9 (91 + a)) k (nI n)) w 8 (gX X (uG G 29 (3 * a + k) n)) := by
  have hin := h.2.1
  have ho : ∀ {c i j : Nat}, i < cN (xV (gX X G) 1 0) c → ¬ (c = 9 ∧ i = 91 + a) → sI (uI S 9 (w 9 (91 + a)) k (nI n)) c (w c i) j = sI S c (w c i) j := fun hi hn => hin.oth (show 91 + a < 107 by omega) hi (fun z => hn ⟨z.1, z.2.1⟩)
  refine h.upd (fun c i => decide (c = 9 ∧ i = 91 + a)) ⟨rfl, rfl, rfl⟩ ?_ ?_ ?_ rfl ?_ ?_ ?_ ?_
  · intro c i z
    have z := of_decide_eq_true z
    omega
  · intro c i j hi z
    exact ho hi (of_decide_eq_false z)
  · intro f hf
    rw [gX_v (fun z => hf (by simp [z])) (fun z => hf (by simp [z])), gX_v (fun z => hf (by simp [z])) (fun z => hf (by simp [z]))]
  · intro j hj
    rw [ho (show 72 < 107 by decide) (by omega)]
    exact h.2.2.2.2.2.2.1 j hj
  · intro r hr
    exact (h.2.2.2.2.2.2.2.1 r hr).keep (fun j => ho hr (by omega)) (fun j => ho (show r < 107 by omega) (by omega))
  · intro s hs
    rw [ho (show 0 < 1 by decide) (by omega)]
    exact h.2.2.2.2.2.2.2.2.1 s hs
  · intro b hb hne j hj
    have hold := h.2.2.2.2.2.2.2.2.2.1 b hb hne j hj
    rw [gX_28, gX_29] at hold ⊢
    show _ = if j < G 28 b then nI (if 29 = 29 ∧ 3 * b + j = 3 * a + k then n else G 29 (3 * b + j)) else -1
    by_cases e : b = a
    · subst e
      by_cases q : j = k
      · subst q
        rw [sI_same, if_pos (by omega), if_pos ⟨rfl, rfl⟩]
      · rw [sI_nk q rfl, if_neg (c := 29 = 29 ∧ _) (by omega)]
        exact hold
    · rw [ho (show 91 + b < 107 by omega) (by omega), if_neg (c := 29 = 29 ∧ _) (by omega)]
      exact hold
set_option maxRecDepth 100000 in
theorem cx_choose (l : Launch) (g : jG) (hgt : Nat) {S : jS} {w : Nat → Nat → Nat} {X : XS} {a : Nat} (hW : WX S w 8 X) (ha : a < 8) (hI : ∀ k, k ≤ 3 → xOK (x_picks (yV X 28 a 0) a k)) (hA : ∀ m, m < xV X 1 0 → xV X 24 m < 2 ^ 31) (hD : arrD X a (xV X 1 0)) (hh : 4 ≤ hgt) : CT l g mX3_choose hgt 0 0 [.ref (w 2 a)] S (xQ w 8 none (x_picks (yV X 28 a 0) a 3)) := by
  have hstart : ∃ G, WX S w 8 (gX (yV X 28 a 0) G) ∧ G 28 a = 3 ∧ (∀ b, b ≠ a → G 28 b = xV (yV X 28 a 0) 28 b) ∧ (∀ b j, b ≠ a → j < 3 → G 29 (3 * b + j) = xV (yV X 28 a 0) 29 (3 * b + j)) := by
    refine ⟨fun f i => if f = 28 then (if i = a then 3 else xV X 28 i) else if i / 3 = a then (if i % 3 < xV X 28 a then xV X 29 i else 4294967295) else xV X 29 i, ?_, ?_, ?_, ?_⟩
    · refine hW.cho (fun f h1 h2 => ?_) rfl rfl ?_
      · rw [gX_v h1 h2, xV_nf h1]
      · intro b hb hne j hj
        have hold := hW.2.2.2.2.2.2.2.2.2.1 b hb hne j hj
        rw [gX_28, gX_29]
        show _ = if j < (if b = a then 3 else xV X 28 b) then nI (if (3 * b + j) / 3 = a then (if (3 * b + j) % 3 < xV X 28 a then xV X 29 (3 * b + j) else 4294967295) else xV X 29 (3 * b + j)) else -1
        rw [show (3 * b + j) / 3 = b by omega, show (3 * b + j) % 3 = j by omega, hold]
        by_cases e : b = a
        · subst e
          rw [if_pos (c := b = b) rfl, if_pos (c := j < 3) hj, if_pos (c := b = b) rfl]
          split
          · rfl
          · exact nI_top.symm
        · rw [if_neg e, if_neg e]
    · show (if a = a then 3 else xV X 28 a) = 3
      rw [if_pos rfl]
    · intro b hb
      show (if b = a then 3 else xV X 28 b) = _
      rw [if_neg hb, xV_yV, if_neg (fun z => hb z.2)]
    · intro b j hb hj
      show (if (3 * b + j) / 3 = a then _ else xV X 29 (3 * b + j)) = _
      rw [if_neg (by omega), xV_nf (by decide)]
  have h0 : xV (yV X 28 a 0) 28 a = 0 := by rw [xV_yV, if_pos ⟨rfl, rfl⟩]
  have hD : arrD (yV X 28 a 0) a (xV (yV X 28 a 0) 1 0) := hD
  have hA : ∀ m, m < xV (yV X 28 a 0) 1 0 → xV (yV X 28 a 0) 24 m < 2 ^ 31 := hA
  clear hW
  obtain ⟨G0, hW, g1, g2, g3⟩ := hstart
  generalize yV X 28 a 0 = X0 at *
  have loop : ∀ k, k ≤ 3 → ∀ last, pkI X0 a k last → ∀ S G, WX S w 8 (gX (x_picks X0 a k) G) → G 28 a = 3 → (∀ b, b ≠ a → G 28 b = xV X0 28 b) → (∀ b j, b ≠ a → j < 3 → G 29 (3 * b + j) = xV X0 29 (3 * b + j)) → (∀ j, j < k → nI (G 29 (3 * a + j)) = if j < xV (x_picks X0 a k) 28 a then nI (xV (x_picks X0 a k) 29 (3 * a + j)) else -1) → J l g mX3_choose hgt 0 0 (xQ w 8 none (x_picks X0 a 3)) 4 [(1, bV w last), (2, .int (nI k)), (0, .ref (w 2 a))] [] S 0 0 := by
    refine down _ ?_ ?_
    · intro last hp S G hW g1 g2 g3 g4
      refine J_iload_n (pc := 4) dX3_choose_4 rfl rfl ?_
      refine J_iconst (pc := 5) (v := nI 3) dX3_choose_5 (by decide) ?_
      refine J_icmp_geN (pc := 6) (tgt := 81) dX3_choose_6 rfl (by omega) (by omega) (fun B => ?_) (fun B => ?_)
      · refine J_vret (pc := 81) dX3_choose_81 rfl (by omega) (by omega) ?_
        refine ⟨rfl, hW.cho (fun f h1 h2 => (gX_v h1 h2).symm) rfl rfl ?_⟩
        intro b hb hne j hj
        have hold := hW.2.2.2.2.2.2.2.2.2.1 b hb hne j hj
        rw [gX_28, gX_29] at hold
        by_cases e : b = a
        · subst e
          rw [hold, g1, if_pos hj]
          exact g4 j hj
        · rw [hold, g2 b e, g3 b j e hj, picks_28 X0 a e, picks_29 X0 a e hj 3 (Nat.le_refl _)]
      · omega
    · intro k hk ih last hp S G hW g1 g2 g3 g4
      have hO := hI k (by omega)
      have v1 : xV (x_picks X0 a k) 1 = xV X0 1 := picks_v X0 a (by decide) (by decide) (by decide) k
      have v9 : xV (x_picks X0 a k) 9 = xV X0 9 := picks_v X0 a (by decide) (by decide) (by decide) k
      have v19 : xV (x_picks X0 a k) 19 = xV X0 19 := picks_v X0 a (by decide) (by decide) (by decide) k
      have v24 : xV (x_picks X0 a k) 24 = xV X0 24 := picks_v X0 a (by decide) (by decide) (by decide) k
      have v10 : xV (x_picks X0 a k) 10 = xV X0 10 := picks_v X0 a (by decide) (by decide) (by decide) k
      have vb := picks_b X0 a k
      have e1 : xV (gX (x_picks X0 a k) G) 1 0 = xV X0 1 0 := by rw [gX_v (by decide) (by decide), v1]
      have h48 : xV X0 1 0 ≤ 48 := by have := hO.many; rw [v1] at this; exact this
      have hpn := pkI_s hD hp
      have hs := picks_s X0 a k
      rw [← nxt_eq hp] at hs
      have fin : ∀ (o : Option Nat) (n : Nat) (S' : jS), o = nxt X0 a k last → nI n = oI o → WX S' w 8 (gX (x_picks X0 a (k + 1)) (uG G 29 (3 * a + k) n)) → J l g mX3_choose hgt 0 0 (xQ w 8 none (x_picks X0 a 3)) 73 [(3, bV w o), (2, .int (nI k)), (0, .ref (w 2 a))] [] S' 0 0 := by
        intro o n S' ho hn hW'
        have hgo : J l g mX3_choose hgt 0 0 (xQ w 8 none (x_picks X0 a 3)) 4 [(1, bV w o), (2, .int (nI (k + 1))), (0, .ref (w 2 a))] [] S' 0 0 := by
          refine ih o (by rw [ho]; exact hpn) S' _ hW' ?_ ?_ ?_ ?_
          · exact g1
          · intro b hb
            exact g2 b hb
          · intro b j hb hj
            show (if 29 = 29 ∧ 3 * b + j = 3 * a + k then n else G 29 (3 * b + j)) = _
            rw [if_neg (by omega)]
            exact g3 b j hb hj
          · intro j hj
            show nI (if 29 = 29 ∧ 3 * a + j = 3 * a + k then n else G 29 (3 * a + j)) = _
            rw [← ho] at hs hpn
            cases o with
            | none =>
              dsimp only at hs
              rw [hs]
              by_cases e : j = k
              · subst e
                rw [if_pos ⟨rfl, rfl⟩, if_neg (by have := hp.1; omega)]
                exact hn
              · rw [if_neg (by omega)]
                exact g4 j (by omega)
            | some m =>
              dsimp only at hs
              have q := hpn.2.1 (Or.inr (by simp))
              rw [q.1]
              rw [if_pos hj, hs, pick_29, xV_yV]
              by_cases e : j = k
              · subst e
                rw [if_pos ⟨rfl, rfl⟩, if_pos ⟨rfl, rfl⟩]
                exact hn
              · rw [if_neg (by omega), if_neg (by omega), g4 j (by omega), if_pos]
                have q2 := q.1
                rw [hs, pick_28, xV_yV, if_pos ⟨rfl, rfl⟩] at q2
                omega
        cases o with
        | none =>
          refine J_aload_nN (pc := 73) dX3_choose_73 rfl rfl ?_
          refine J_astore_nN (pc := 74) dX3_choose_74 rfl (by decide) ?_
          refine J_iinc (pc := 75) dX3_choose_75 rfl (inc1 _) (by decide) ?_
          refine J_goto (pc := 78) (tgt := 4) dX3_choose_78 rfl ?_
          exact J_lvk hgo ⟨rfl, rfl, rfl, trivial⟩
        | some m =>
          refine J_aload_n (pc := 73) dX3_choose_73 rfl rfl ?_
          refine J_astore_n (pc := 74) dX3_choose_74 rfl (by decide) ?_
          refine J_iinc (pc := 75) dX3_choose_75 rfl (inc1 _) (by decide) ?_
          refine J_goto (pc := 78) (tgt := 4) dX3_choose_78 rfl ?_
          exact J_lvk hgo ⟨rfl, rfl, rfl, trivial⟩
      have from26 : ∀ o, o = nxt X0 a k last → J l g mX3_choose hgt 0 0 (xQ w 8 none (x_picks X0 a 3)) 26 [(2, .int (nI k)), (0, .ref (w 2 a))] [bV w o] S 0 0 := by
        intro o ho
        have fin := fun n S' => fin o n S' ho
        cases o with
        | none =>
          rw [← ho] at hs
          dsimp only at hs
          rw [hs] at fin
          refine J_astore_nN (pc := 26) dX3_choose_26 rfl (by decide) ?_
          refine J_aload_n (pc := 27) dX3_choose_27 rfl rfl ?_
          refine J_getr (pc := 28) (i := 4) cl2 (hW.ho ha) (by decide) rfl (hW.hcho ha) kX3_36 dX3_choose_28 ?_
          refine J_iload_n (pc := 31) dX3_choose_31 rfl rfl ?_
          refine J_aload_nN (pc := 32) dX3_choose_32 rfl rfl ?_
          refine J_ifnonnullN (pc := 33) dX3_choose_33 ?_
          refine J_iconst (pc := 36) (v := (-1)) dX3_choose_36 (by decide) ?_
          refine J_goto (pc := 37) (tgt := 44) dX3_choose_37 rfl ?_
          refine J_iast (pc := 44) (hW.acho ha) rfl hk (by first | omega | exact mLn_lt _) dX3_choose_44 ?_
          refine J_aload_nN (pc := 45) dX3_choose_45 rfl rfl ?_
          refine J_ifnullN (pc := 46) (tgt := 73) dX3_choose_46 rfl ?_
          refine J_lvk (fin 4294967295 _ nI_top (by have := hW.gW ha hk g1 4294967295; rw [nI_top] at this; exact this)) ⟨rfl, rfl, rfl, trivial⟩
        | some m =>
          have hb : x_best (x_picks X0 a k) a (xV X0 1 0) = some m := by rw [← nxt_eq hp]; exact ho.symm
          have hm0 := x_best_lt hb
          rw [← ho] at hs
          dsimp only at hs
          rw [hs] at fin
          have o := hO.msg (m := m) (by omega)
          have oH : okH (x_picks X0 a k) m := hO.okH (by rw [v1]; exact hm0)
          generalize x_picks X0 a k = Y at *
          have hm : m < xV (gX Y G) 1 0 := by rw [e1]; exact hm0
          refine J_astore_n (pc := 26) dX3_choose_26 rfl (by decide) ?_
          refine J_aload_n (pc := 27) dX3_choose_27 rfl rfl ?_
          refine J_getr (pc := 28) (i := 4) cl2 (hW.ho ha) (by decide) rfl (hW.hcho ha) kX3_36 dX3_choose_28 ?_
          refine J_iload_n (pc := 31) dX3_choose_31 rfl rfl ?_
          refine J_aload_n (pc := 32) dX3_choose_32 rfl rfl ?_
          refine J_ifnonnull (pc := 33) (tgt := 40) dX3_choose_33 rfl ?_
          refine J_aload_n (pc := 40) dX3_choose_40 rfl rfl ?_
          refine J_getiN (pc := 41) (i := 0) (host := RX9) cl3 (hW.mo hm) (by decide) rfl (hW.mnum hm) (by decide +kernel) dX3_choose_41 ?_
          refine J_iast (pc := 44) (hW.acho ha) rfl hk (by first | omega | exact mLn_lt _) dX3_choose_44 ?_
          have hW1 := hW.gW ha hk g1 m
          have fin := fun S' => fin m S' rfl
          have e1 : xV (gX Y (uG G 29 (3 * a + k) m)) 1 0 = xV X0 1 0 := by rw [gX_v (by decide) (by decide), v1]
          have e8 : xV (gX Y (uG G 29 (3 * a + k) m)) 8 m = xV Y 8 m := by rw [gX_v (by decide) (by decide)]
          have e21 : xV (gX Y (uG G 29 (3 * a + k) m)) 21 m = xV Y 21 m := by rw [gX_v (by decide) (by decide)]
          have hm : m < xV (gX Y (uG G 29 (3 * a + k) m)) 1 0 := by rw [e1]; exact hm0
          refine J_aload_n (pc := 45) dX3_choose_45 rfl rfl ?_
          refine J_ifnull (pc := 46) dX3_choose_46 ?_
          have g21 : xV (gX Y (uG G 29 (3 * a + k) m)) 21 m ≤ 60 := by
            rw [e21]
            have := o.2.2.2.1
            omega
          have g48 : xV (gX Y (uG G 29 (3 * a + k) m)) 1 0 ≤ 48 := by
            rw [e1]
            exact h48
          have g8 : xV (gX Y (uG G 29 (3 * a + k) m)) 8 m < 8 := by
            rw [e8]
            exact o.1.1
          refine J_aload_n (pc := 49) dX3_choose_49 rfl rfl ?_
          refine J_getrN (pc := 50) (i := 5) (host := RX9) cl3 (hW1.mo hm) (by decide) rfl (hW1.mr hm) (by decide +kernel) dX3_choose_50 ?_
          refine J_callV (pc := 53) (cx_growGranted l g (hgt - 1) hW1 hm (gX_okH oH) g21 (by omega)) qX6_growGranted vX6_growGranted cl4 rfl (hW1.q hm) kX3_144 dX3_choose_53 rfl rfl (Nat.le_of_ble_eq_true rfl) (by omega) (by omega) (by omega) ?_
          intro r S2 hq
          rw [gX_tgt, e21] at hq
          unfold x_pick at fin
          have ht60 : x_target Y m ≤ 60 := by
            have := cnt_le (fun i => !xB Y 1 m i) (xV Y 10 m)
            unfold x_target
            split <;> omega
          by_cases q : x_target Y m ≤ xV Y 21 m
          · rw [if_pos q] at hq fin
            obtain ⟨rfl, rfl⟩ := hq
            refine J_if_eq (pc := 56) (tgt := 73) dX3_choose_56 rfl (fun _ => ?_) (fun hc9 => absurd (rfl) hc9)
            refine J_lvk (fin _ ?_) ⟨rfl, rfl, rfl, trivial⟩
            rw [gX_o (Or.inl rfl), gX_o (Or.inr rfl)]
            exact hW1
          · rw [if_neg q] at hq fin
            obtain ⟨rfl, hW2⟩ := hq
            have e21 : xV (yV (gX Y (uG G 29 (3 * a + k) m)) 21 m (x_target Y m)) 21 m = x_target Y m := by rw [xV_yV, if_pos ⟨rfl, rfl⟩]
            refine J_if_eq (pc := 56) (tgt := 73) dX3_choose_56 rfl (fun hc9 => absurd hc9 ((by decide))) (fun _ => ?_)
            refine J_aload_n (pc := 59) dX3_choose_59 rfl rfl ?_
            refine J_iconst (pc := 60) (v := nI 1) dX3_choose_60 (by decide) ?_
            refine J_aload_n (pc := 61) dX3_choose_61 rfl rfl ?_
            refine J_aload_n (pc := 62) dX3_choose_62 rfl rfl ?_
            refine J_getrN (pc := 63) (i := 5) (host := RX9) cl3 (hW2.mo hm) (by decide) rfl (hW2.mr hm) (by decide +kernel) dX3_choose_63 ?_
            refine J_iload_n (pc := 66) dX3_choose_66 rfl rfl ?_
            refine J_callV (pc := 67) (cx_countOfGrant l g (hgt - 1) (k := k) hW2 hm) qX6_countOfGrant vX6_countOfGrant cl4 rfl (hW2.q hm) kX3_147 dX3_choose_67 rfl rfl (Nat.le_of_ble_eq_true rfl) (by omega) (by omega) (by omega) ?_
            rintro _ _ ⟨rfl, rfl⟩
            rw [e21]
            refine J_callV (pc := 70) (cx_putDue l g (hgt - 1) (a := a) (k := 1) (m := m) (c := 4 * x_target Y m + 1 + k) hW2 ha hm g48 g8 (by decide) (by decide) (by omega) (by omega)) qX3_putDue vX3_putDue cl2 rfl (hW2.ho ha) kX3_100 dX3_choose_70 rfl rfl (Nat.le_of_ble_eq_true rfl) (by omega) (by omega) (by omega) ?_
            rintro _ S3 ⟨rfl, hW3⟩
            refine J_lvk (fin _ ?_) ⟨rfl, rfl, rfl, trivial⟩
            rw [gX_due, gX_i (by decide) (by decide), gX_o (Or.inl rfl), gX_o (Or.inr rfl)]
            exact hW3
      have call : (k = 0 ∨ last ≠ none) → J l g mX3_choose hgt 0 0 (xQ w 8 none (x_picks X0 a 3)) 21 [(1, bV w last), (2, .int (nI k)), (0, .ref (w 2 a))] [] S 0 0 := by
        intro hno
        obtain ⟨q1, q2, q3⟩ := hp.2.1 hno
        have hcall := cx_bestBehind l g (hgt - 1) (a := a) (last := last) hW ha (by rw [e1]; exact h48) (fun m hm => ?_) (fun y hy => by rw [e1]; exact (q2 y hy).1) (by omega)
        · have hbh : (outsF (xV (gX (x_picks X0 a k) G) 1 0) (xV (gX (x_picks X0 a k) G) 9) a).foldl (bh (gX (x_picks X0 a k) G) last) none = nxt X0 a k last := by
            rw [nxt_eq hp, ← bh_best (X := x_picks X0 a k) (h := a) (n := xV X0 1 0) (last := last), e1, gX_v (f := 9) (by decide) (by decide)]
            · refine fold_congr _ _ (fun x hx b => ?_)
              unfold bh
              have ha2 := ahead_of (X := x_picks X0 a k) (X' := gX (x_picks X0 a k) G) (gX_v (by decide) (by decide)) rfl (gX_v (by decide) (by decide))
              simp only [ha2]
              rw [gX_v (by decide) (by decide)]
            · intro x x1 x2 x3
              rw [v9] at x2
              rw [v19] at x3
              rw [q3 x x1 x2 x3]
              have ha2 := ahead_of (X := X0) (X' := x_picks X0 a k) v10 vb v24
              simp only [ha2]
          rw [hbh] at hcall
          have fr := from26 _ rfl
          generalize nxt X0 a k last = o at hcall fr
          cases last with
          | none =>
            refine J_aload_n (pc := 21) dX3_choose_21 rfl rfl ?_
            refine J_aload_nN (pc := 22) dX3_choose_22 rfl rfl ?_
            cases o with
            | none =>
              refine J_callV (pc := 23) (hcall) qX3_bestBehind vX3_bestBehind cl2 rfl (hW.ho ha) kX3_140 dX3_choose_23 rfl rfl (Nat.le_of_ble_eq_true rfl) (by omega) (by omega) (by omega) ?_
              rintro _ _ ⟨rfl, rfl⟩
              exact J_lvk fr ⟨rfl, rfl, trivial⟩
            | some m =>
              refine J_callV (pc := 23) (hcall) qX3_bestBehind vX3_bestBehind cl2 rfl (hW.ho ha) kX3_140 dX3_choose_23 rfl rfl (Nat.le_of_ble_eq_true rfl) (by omega) (by omega) (by omega) ?_
              rintro _ _ ⟨rfl, rfl⟩
              exact J_lvk fr ⟨rfl, rfl, trivial⟩
          | some y =>
            cases o with
            | none =>
              refine J_aload_n (pc := 21) dX3_choose_21 rfl rfl ?_
              refine J_aload_n (pc := 22) dX3_choose_22 rfl rfl ?_
              refine J_callV (pc := 23) (hcall) qX3_bestBehind vX3_bestBehind cl2 rfl (hW.ho ha) kX3_140 dX3_choose_23 rfl rfl (Nat.le_of_ble_eq_true rfl) (by omega) (by omega) (by omega) ?_
              rintro _ _ ⟨rfl, rfl⟩
              exact J_lvk fr ⟨rfl, rfl, trivial⟩
            | some m =>
              refine J_aload_n (pc := 21) dX3_choose_21 rfl rfl ?_
              refine J_aload_n (pc := 22) dX3_choose_22 rfl rfl ?_
              refine J_callV (pc := 23) (hcall) qX3_bestBehind vX3_bestBehind cl2 rfl (hW.ho ha) kX3_140 dX3_choose_23 rfl rfl (Nat.le_of_ble_eq_true rfl) (by omega) (by omega) (by omega) ?_
              rintro _ _ ⟨rfl, rfl⟩
              exact J_lvk fr ⟨rfl, rfl, trivial⟩
        · rw [e1] at hm
          have o := hO.msg (m := m) (by omega)
          refine ⟨gX_okH (hO.okH (by rw [v1]; exact hm)), ?_, ?_⟩
          · rw [gX_v (by decide) (by decide)]
            exact o.2.2.1
          · rw [gX_v (by decide) (by decide), v24]
            exact hA m hm
      refine J_iload_n (pc := 4) dX3_choose_4 rfl rfl ?_
      refine J_iconst (pc := 5) (v := nI 3) dX3_choose_5 (by decide) ?_
      refine J_icmp_geN (pc := 6) (tgt := 81) dX3_choose_6 rfl (by omega) (by omega) (fun B => ?_) (fun B => ?_)
      · omega
      · refine J_iload_n (pc := 9) dX3_choose_9 rfl rfl ?_
        refine J_if_leN (pc := 10) (tgt := 21) dX3_choose_10 rfl (by omega) (fun B2 => ?_) (fun B2 => ?_)
        · exact J_lvk (call (Or.inl (by omega))) ⟨rfl, rfl, rfl, trivial⟩
        · cases last with
          | none =>
            refine J_aload_nN (pc := 13) dX3_choose_13 rfl rfl ?_
            refine J_ifnonnullN (pc := 14) dX3_choose_14 ?_
            refine J_null (pc := 17) dX3_choose_17 ?_
            refine J_goto (pc := 18) (tgt := 26) dX3_choose_18 rfl ?_
            exact J_lvk (from26 none (by unfold nxt; rw [if_pos ⟨by omega, rfl⟩])) ⟨rfl, rfl, trivial⟩
          | some y =>
            refine J_aload_n (pc := 13) dX3_choose_13 rfl rfl ?_
            refine J_ifnonnull (pc := 14) (tgt := 21) dX3_choose_14 rfl ?_
            exact J_lvk (call (Or.inr (by simp))) ⟨rfl, rfl, rfl, trivial⟩
  refine CT_of qX3_choose (Nat.le_of_ble_eq_true rfl) ?_
  refine J_null (pc := 0) dX3_choose_0 ?_
  refine J_astore_nN (pc := 1) dX3_choose_1 rfl (by decide) ?_
  refine J_iconst (pc := 2) (v := nI 0) dX3_choose_2 (by decide) ?_
  refine J_istore_n (pc := 3) dX3_choose_3 rfl (by decide) ?_
  exact J_lvk (loop 0 (by omega) none (pkI_0 h0) S G0 hW g1 g2 g3 (fun j hj => absurd hj (Nat.not_lt_zero j))) ⟨rfl, rfl, rfl, trivial⟩
