/-! THE CLASS: message -/
theorem rf_in {M : Nat} {fr go : Nat → Nat} {c i k c' i' : Nat} (hi : i < cN M c) (h : rf M fr go c i k = some (c', i')) : i' < cN M c' := by
  have hc := cN_lt hi
  rcases (show c = 0 ∨ c = 1 ∨ c = 2 ∨ c = 3 ∨ c = 4 ∨ c = 5 ∨ c = 6 ∨ c = 7 ∨ c = 8 ∨ c = 9 ∨ c = 10 ∨ c = 11 ∨ c = 12 ∨ c = 13 by omega) with rfl | rfl | rfl | rfl | rfl | rfl | rfl | rfl | rfl | rfl | rfl | rfl | rfl | rfl
  · have hi : i < 8 := hi
    have h : (if k = 0 then some (9, 75 + i) else if k = 1 then some (9, 83 + i) else none) = some (c', i') := h
    repeat' split at h
    all_goals first | (cases h; show _ < 107; omega) | cases h
  · have h : (if k = 0 then some (9, 72) else if k = 1 then some (9, 73) else if k = 2 then some (13, 0) else if k = 3 then some (10, 0) else if k = 4 then some (9, 74) else none) = some (c', i') := h
    repeat' split at h
    all_goals first | (cases h; show _ < 107; omega) | (cases h; show _ < 1; omega) | cases h
  · have hi : i < 8 := hi
    have h : (if k = 0 then some (12, 1 + i) else if k = 1 then some (12, 9 + i) else if k = 2 then some (0, i) else if k = 3 then some (5, 64 + i) else if k = 4 then some (9, 91 + i) else if k = 5 then some (9, 99 + i) else none) = some (c', i') := h
    repeat' split at h
    all_goals first | (cases h; show _ < 107; omega) | (cases h; show _ < 17; omega) | (cases h; show _ < 8; omega) | (cases h; show _ < 72; omega) | cases h
  · have h : (if k = 4 then some (6, i) else if k = 5 then some (4, i) else none) = some (c', i') := h
    repeat' split at h
    all_goals first | (cases h; exact hi) | cases h
  · cases h
  · have hi : i < 72 := hi
    have h : (if k = 0 then some (9, i) else none) = some (c', i') := h
    split at h
    all_goals first | (cases h; show _ < 107; omega) | cases h
  · cases h
  · have h : (if k = 0 then some (1, 0) else if k = 1 then some (11, 0) else if k = 2 then some (12, 0) else none) = some (c', i') := h
    repeat' split at h
    all_goals first | (cases h; show _ < 1; omega) | (cases h; show _ < 17; omega) | cases h
  · cases h
  · cases h
  · cases h
  · have h : (if k < 8 then some (2, k) else none) = some (c', i') := h
    split at h
    case isTrue z => cases h; exact z
    case isFalse => cases h
  · have h : (if i = 0 then (if k < M then some (3, k) else none) else if i < 9 then ((outsF M fr (i - 1))[k]?).map (fun x => (3, x)) else ((outsF M go (i - 9))[k]?).map (fun x => (3, x))) = some (c', i') := h
    split at h
    · split at h
      case isTrue z => cases h; exact z
      case isFalse => cases h
    · split at h
      · cases hx : (outsF M fr (i - 1))[k]? with
        | none => rw [hx] at h; cases h
        | some x =>
          rw [hx] at h
          cases h
          exact (outs_get hx).1
      · cases hx : (outsF M go (i - 9))[k]? with
        | none => rw [hx] at h; cases h
        | some x =>
          rw [hx] at h
          cases h
          exact (outs_get hx).1
  · have h : (if k < 64 then some (5, k) else none) = some (c', i') := h
    split at h
    case isTrue z => cases h; show k < 72; omega
    case isFalse => cases h
/-- the same objects in another memory -/
theorem WX.mv {S S' : jS} {w w' : Nat → Nat → Nat} {hx : Nat} {X : XS} (h : WX S w hx X) (hs : ∀ c i, i < cN (xV X 1 0) c → w' c i = w c i ∧ same S S' (w c i) ∧ w c i ∈ S'.1) : WX S' w' hx X := by
  obtain ⟨g1, g2, g3, g4, g5, g6, g7, g8, g9, g10, g11, g12⟩ := h
  have eI : ∀ c i k, i < cN (xV X 1 0) c → sI S' c (w' c i) k = sI S c (w c i) k := fun c i k hi => by
    obtain ⟨e1, e2, -⟩ := hs c i hi
    rw [e1]
    exact e2.2.1 c k
  refine ⟨?_, ?_, ?_, ?_, ?_, ?_, ?_, ?_, ?_, ?_, ?_, ?_⟩
  · intro c i hi
    obtain ⟨e1, e2, e3⟩ := hs c i hi
    obtain ⟨y1, y2⟩ := g1 c i hi
    rw [e1]
    exact ⟨⟨e3, e2.1.trans y1.2⟩, fun h9 => e2.2.2.2.2.trans (y2 h9)⟩
  · intro c i i' hi hi' e
    rw [(hs c i hi).1, (hs c i' hi').1] at e
    exact g2 c i i' hi hi' e
  · intro c i k c' i' hi hr
    obtain ⟨e1, e2, -⟩ := hs c i hi
    rw [e1, (hs c' i' (rf_in hi hr)).1, e2.2.2.2.1 c k]
    exact g3 c i k c' i' hi hr
  · intro f i hi
    rw [eI _ _ _ (nCell_is _ f i hi).2]
    exact g4 f i hi
  · intro m hm
    rw [eI 3 m 0 hm, eI 6 m 0 hm, eI 4 m 0 hm, eI 4 m 1 hm]
    exact g5 m hm
  · intro m hm
    obtain ⟨e1, e2, -⟩ := hs 6 m hm
    obtain ⟨e3, e4, -⟩ := hs 4 m hm
    rw [e1, e3, e2.2.2.1 6 5, e4.2.2.1 4 4]
    exact g6 m hm
  · intro k hk
    rw [eI 9 72 k (show 72 < 107 by decide)]
    exact g7 k hk
  · intro r hr
    obtain ⟨f, y1, y2, y3, y4, y5⟩ := g8 r hr
    refine ⟨f, y1, y2, ?_, ?_, fun i e he => ?_⟩
    · rw [eI 5 r 1 hr]; exact y3
    · rw [eI 5 r 2 hr]; exact y4
    · rw [eI 9 r _ (show r < 107 by omega)]; exact y5 i e he
  · intro s hs2
    rw [eI 10 0 s Nat.one_pos]
    exact g9 s hs2
  · intro h hh hne k hk
    rw [eI 9 (91 + h) k (show 91 + h < 107 by omega)]
    exact g10 h hh hne k hk
  · intro h hh
    rw [eI 2 h 6 hh, eI 2 h 7 hh]
    exact g11 h hh
  · intro h hh
    obtain ⟨y1, y2, y3, y4, y5⟩ := g12 h hh
    refine ⟨?_, ?_, ?_, ?_, fun t v hv ht => ?_⟩
    · rw [eI 0 h 2 hh]; exact y1
    · rw [eI 0 h 3 hh]; exact y2
    · rw [eI 0 h 4 hh]; exact y3
    · rw [eI 0 h 5 hh]; exact y4
    · rw [eI 9 (75 + h) _ (show 75 + h < 107 by omega)]; exact y5 t v hv ht
theorem xInj.othP {w : Nat → Nat → Nat} {M : Nat} (h : xInj w M) {S : jS} {c i k c' i' k' : Nat} {v : Option Nat} (hi : i < cN M c) (hi' : i' < cN M c') (hn : ¬ (c' = c ∧ i' = i ∧ k' = k)) : sP (uP S c (w c i) k v) c' (w c' i') k' = sP S c' (w c' i') k' := by
  rw [sP_uP, if_neg]
  rintro ⟨e, e2, e3⟩
  subst e
  exact hn ⟨rfl, h c' i' i hi' hi e2, e3⟩
set_option maxRecDepth 100000 in
theorem cx_addOutgoing (l : Launch) (g : jG) (hgt : Nat) {S : jS} {h oa k a n o la so : Nat} {L : List Nat} (h1 : sAt S 2 h) (h2 : sP S 2 h 0 = some oa) (h3 : aAt S 12 oa 48) (h4 : sI S 2 h 6 = nI k) (hk : k < 48) (h5 : sAt S 3 a) (h6 : sI S 3 a 3 = nI n) (h7 : sP S 2 h 2 = some o) (hC : cutH S o la so L) (h60 : ∀ v ∈ L, v ≤ 60) (hn : n ≤ 60) (hL : L.length < 1000) (hh : 2 ≤ hgt) : CT l g mX3_addOutgoing hgt 0 0 [.ref h, .ref a] S (fun r S' => r = none ∧ onC (uI (uP S 12 oa k (some a)) 2 h 6 (nI (k + 1))) S' o la so ∧ sI S' 0 o 2 = nI ((L ++ [n]).length % 16) ∧ sI S' 0 o 3 = nI (min (L ++ [n]).length 16) ∧ sI S' 0 o 4 = nI (cutL (L ++ [n]) 1) ∧ sI S' 0 o 5 = nI (cutL (L ++ [n]) 2) ∧ ∀ t v, (L ++ [n])[t]? = some v → (L ++ [n]).length ≤ t + 16 → sI S' 9 la (t % 16) = nI v) := by
  have g1 : sAt (uP S 12 oa k (some a)) 2 h := h1
  have g4 : sI (uP S 12 oa k (some a)) 2 h 6 = nI k := h4
  refine CT_of qX3_addOutgoing (Nat.le_of_ble_eq_true rfl) ?_
  refine J_aload_n (pc := 0) dX3_addOutgoing_0 rfl rfl ?_
  refine J_getr (pc := 1) (i := 0) cl2 h1 (by decide) rfl h2 kX3_11 dX3_addOutgoing_1 ?_
  refine J_aload_n (pc := 4) dX3_addOutgoing_4 rfl rfl ?_
  refine J_geti (pc := 5) (i := 6) cl2 h1 (by decide) rfl h4 kX3_43 dX3_addOutgoing_5 ?_
  refine J_aload_n (pc := 8) dX3_addOutgoing_8 rfl rfl ?_
  refine J_rast12 (pc := 9) h3 rfl hk (by first | omega | exact mLn_lt _) h5 dX3_addOutgoing_9 ?_
  refine J_aload_n (pc := 10) dX3_addOutgoing_10 rfl rfl ?_
  refine J_dup (pc := 11) dX3_addOutgoing_11 rfl ?_
  refine J_geti (pc := 12) (i := 6) cl2 g1 (by decide) rfl g4 kX3_43 dX3_addOutgoing_12 ?_
  refine J_iconst (pc := 15) (v := nI 1) dX3_addOutgoing_15 (by decide) ?_
  refine J_iaddN (b := 1) dX3_addOutgoing_16 ?_
  refine J_puti (pc := 17) (i := 6) cl2 g1 (by decide) rfl rfl rfl rfl kX3_43 dX3_addOutgoing_17 ?_
  have k1 : sAt (uI (uP S 12 oa k (some a)) 2 h 6 (nI (k + 1))) 2 h := h1
  have k5 : sAt (uI (uP S 12 oa k (some a)) 2 h 6 (nI (k + 1))) 3 a := h5
  have k6 : sI (uI (uP S 12 oa k (some a)) 2 h 6 (nI (k + 1))) 3 a 3 = nI n := by
    rw [sI_uI, if_neg (by omega), sI_uP]
    exact h6
  have k7 : sP (uI (uP S 12 oa k (some a)) 2 h 6 (nI (k + 1))) 2 h 2 = some o := by
    rw [sP_uI, sP_uP, if_neg (by omega)]
    exact h7
  have kC : cutH (uI (uP S 12 oa k (some a)) 2 h 6 (nI (k + 1))) o la so L := by
    obtain ⟨c1, c2, c3, c4, c5, c6, c7, c8, c9⟩ := hC
    refine ⟨c1, ?_, ?_, c4, c5, c6, ?_, ?_, fun t v hv ht => ?_⟩
    · rw [sP_uI, sP_uP, if_neg (by omega)]; exact c2
    · rw [sP_uI, sP_uP, if_neg (by omega)]; exact c3
    · rw [sI_uI, if_neg (by omega), sI_uP]; exact c7
    · rw [sI_uI, if_neg (by omega), sI_uP]; exact c8
    · rw [sI_uI, if_neg (by omega), sI_uP]; exact c9 t v hv ht
  generalize uI (uP S 12 oa k (some a)) 2 h 6 (nI (k + 1)) = S2 at *
  refine J_aload_n (pc := 20) dX3_addOutgoing_20 rfl rfl ?_
  refine J_getr (pc := 21) (i := 2) cl2 k1 (by decide) rfl k7 kX3_23 dX3_addOutgoing_21 ?_
  refine J_aload_n (pc := 24) dX3_addOutgoing_24 rfl rfl ?_
  refine J_getiN (pc := 25) (i := 3) (host := RX9) cl3 k5 (by decide) rfl k6 (by decide +kernel) dX3_addOutgoing_25 ?_
  refine J_callV (pc := 28) (cx_add l g (hgt - 1) kC h60 hn hL (by omega)) qX1_add vX1_add cl0 rfl kC.1 kX3_68 dX3_addOutgoing_28 rfl rfl (Nat.le_of_ble_eq_true rfl) (by omega) (by omega) (by omega) ?_
  rintro _ S3 ⟨rfl, z⟩
  refine J_vret (pc := 31) dX3_addOutgoing_31 rfl (by omega) (by omega) ?_
  exact ⟨rfl, z⟩
set_option maxRecDepth 100000 in
theorem cx_addIncoming (l : Launch) (g : jG) (hgt : Nat) {S : jS} {h oa k a : Nat} (h1 : sAt S 2 h) (h2 : sP S 2 h 1 = some oa) (h3 : aAt S 12 oa 48) (h4 : sI S 2 h 7 = nI k) (hk : k < 48) (h5 : sAt S 3 a) : CT l g mX3_addIncoming hgt 0 0 [.ref h, .ref a] S (fun r S' => r = none ∧ S' = uI (uP S 12 oa k (some a)) 2 h 7 (nI (k + 1))) := by
  have g1 : sAt (uP S 12 oa k (some a)) 2 h := h1
  have g4 : sI (uP S 12 oa k (some a)) 2 h 7 = nI k := h4
  refine CT_of qX3_addIncoming (Nat.le_of_ble_eq_true rfl) ?_
  refine J_aload_n (pc := 0) dX3_addIncoming_0 rfl rfl ?_
  refine J_getr (pc := 1) (i := 1) cl2 h1 (by decide) rfl h2 kX3_17 dX3_addIncoming_1 ?_
  refine J_aload_n (pc := 4) dX3_addIncoming_4 rfl rfl ?_
  refine J_geti (pc := 5) (i := 7) cl2 h1 (by decide) rfl h4 kX3_47 dX3_addIncoming_5 ?_
  refine J_aload_n (pc := 8) dX3_addIncoming_8 rfl rfl ?_
  refine J_rast12 (pc := 9) h3 rfl hk (by first | omega | exact mLn_lt _) h5 dX3_addIncoming_9 ?_
  refine J_aload_n (pc := 10) dX3_addIncoming_10 rfl rfl ?_
  refine J_dup (pc := 11) dX3_addIncoming_11 rfl ?_
  refine J_geti (pc := 12) (i := 7) cl2 g1 (by decide) rfl g4 kX3_47 dX3_addIncoming_12 ?_
  refine J_iconst (pc := 15) (v := nI 1) dX3_addIncoming_15 (by decide) ?_
  refine J_iaddN (b := 1) dX3_addIncoming_16 ?_
  refine J_puti (pc := 17) (i := 7) cl2 g1 (by decide) rfl rfl rfl rfl kX3_47 dX3_addIncoming_17 ?_
  refine J_vret (pc := 20) dX3_addIncoming_20 rfl (by omega) (by omega) ?_
  exact ⟨rfl, rfl⟩
