/-! rows of packets in the reference's arrays -/
def mOnly (ad : Nat → Nat) (ks : List Nat) (S S' : jS) : Prop := S'.1 = S.1 ∧ S'.2.1 = S.2.1 ∧ sP S' = sP S ∧ sN S' = sN S ∧ sI S' 8 = sI S 8 ∧ sI S' 10 = sI S 10 ∧ ∀ k, mArr k = true → k ∉ ks → sI S' 9 (ad k) = sI S 9 (ad k)
theorem mOnly.rf {ad : Nat → Nat} {ks : List Nat} {S : jS} : mOnly ad ks S S := ⟨rfl, rfl, rfl, rfl, rfl, rfl, fun _ _ _ => rfl⟩
theorem sl_c {S : jS} {c a k c' : Nat} {v : Int32} (h : c' ≠ c) : sI (uI S c a k v) c' = sI S c' := funext fun a' => funext fun k' => by rw [sI_uI, if_neg (fun z => h z.1)]
theorem sl_a {S : jS} {c a k c' a' : Nat} {v : Int32} (h : a' ≠ a) : sI (uI S c a k v) c' a' = sI S c' a' := funext fun k' => by rw [sI_uI, if_neg (fun z => h z.2.1)]
theorem sl_s {S : jS} {c a k : Nat} {v : Int32} : sI (uI S c a k v) c a = upd (sI S c a) k v := funext fun k' => by simp [sI_uI, upd]
theorem mOnly.wr {ad : Nat → Nat} {ks : List Nat} {S S' : jS} (h : mOnly ad ks S S') {b : Nat} {X : XS} (hW : WM S b ad X) {k i : Nat} {v : Int32} (hk : mArr k = true) (hks : k ∈ ks) : mOnly ad ks S (uI S' 9 (ad k) i v) := by
  obtain ⟨h1, h2, h3, h4, h5, h6, h7⟩ := h
  refine ⟨h1, h2, h3, h4, (sl_c (by decide)).trans h5, (sl_c (by decide)).trans h6, fun k' hk' hn => ?_⟩
  rw [sl_a (hW.ne hk' hk (fun e => hn (e ▸ hks)))]
  exact h7 k' hk' hn
theorem mOnly.shape {ad : Nat → Nat} {ks : List Nat} {S S' : jS} {b : Nat} (h : mOnly ad ks S S') (hs : mShape S b ad) : mShape S' b ad := by
  obtain ⟨h1, h2, h3, h4, -⟩ := h
  have hat : ∀ c a, sAt S c a → sAt S' c a := fun c a z => ⟨by rw [h1]; exact z.1, by rw [h2]; exact z.2⟩
  exact ⟨hat _ _ hs.1, fun k hk => by rw [h3]; exact hs.2.1 k hk, fun k hk => ⟨hat _ _ (hs.2.2.1 k hk).1, by rw [h4]; exact (hs.2.2.1 k hk).2⟩, hs.2.2.2⟩
abbrev mLs : List Nat := [3, 4, 5, 8, 9, 10, 11, 37, 38, 39, 40]
theorem WM.lists {S S' : jS} {b : Nat} {ad : Nat → Nat} {X X' : XS} (h : WM S b ad X) (hs : mOnly ad mLs S S') (hx : xV X' = xV X) (hb : xB X' = xB X) (h1 : mLnk S' ad X') (h2 : mQue S' ad X') (h3 : mDue S' ad X') : WM S' b ad X' := by
  have hsh := hs.shape h.1
  obtain ⟨-, -, -, -, e8, e10, e9⟩ := hs
  refine ⟨hsh, fun f hf i hi => ?_, ?_, fun s hs => by rw [e10, hx]; exact h.2.2.2.1 s hs, fun m hm i hi => by rw [e10, hb]; exact h.2.2.2.2.1 m hm i hi, h1, h2, h3⟩
  · rw [e9 _ (mK_arr f (mAttr_lt hf) hf).1 (fun z => mK_oth f (mAttr_lt hf) hf _ z rfl), hx]
    exact h.2.1 f hf i hi
  · unfold mSca
    rw [e8, hx]
    exact h.2.2.1
theorem mLnk.keep {S S' : jS} {ad : Nat → Nat} {X X' : XS} (h : mLnk S ad X) (e3 : sI S' 9 (ad 3) = sI S 9 (ad 3)) (e4 : sI S' 9 (ad 4) = sI S 9 (ad 4)) (e5 : sI S' 9 (ad 5) = sI S 9 (ad 5)) (hx : ∀ k, k < 24 → xL X' (200 + k) = xL X (200 + k)) : mLnk S' ad X' := fun k hk => by
  rw [e3, e4, e5, hx k hk]
  exact h k hk
theorem mQue.keep {S S' : jS} {ad : Nat → Nat} {X X' : XS} (h : mQue S ad X) (e8 : sI S' 9 (ad 8) = sI S 9 (ad 8)) (e9 : sI S' 9 (ad 9) = sI S 9 (ad 9)) (e10 : sI S' 9 (ad 10) = sI S 9 (ad 10)) (e11 : sI S' 9 (ad 11) = sI S 9 (ad 11)) (hx : ∀ q, q < 96 → xL X' q = xL X q) : mQue S' ad X' := fun q hq => by
  rw [e8, e9, e10, e11, hx q hq]
  exact h q hq
theorem mDue.keep {S S' : jS} {ad : Nat → Nat} {X X' : XS} (h : mDue S ad X) (e8 : sI S' 9 (ad 37) = sI S 9 (ad 37)) (e9 : sI S' 9 (ad 38) = sI S 9 (ad 38)) (e10 : sI S' 9 (ad 39) = sI S 9 (ad 39)) (e11 : sI S' 9 (ad 40) = sI S 9 (ad 40)) (hx : ∀ q, q < 8 → xL X' (96 + q) = xL X (96 + q)) : mDue S' ad X' := fun q hq => by
  rw [e8, e9, e10, e11, hx q hq]
  exact h q hq
/-- the link is empty -/
theorem WM.wL0 {S : jS} {b : Nat} {ad : Nat → Nat} {X : XS} (h : WM S b ad X) (k : Nat) : WM (uI S 9 (ad 3) k (-1)) b ad (yL X (200 + k) []) := by
  have hs : mOnly ad mLs S (uI S 9 (ad 3) k (-1)) := mOnly.rf.wr h rfl (by decide)
  refine h.lists hs rfl rfl ?_ (mQue.keep h.2.2.2.2.2.2.1 ?_ ?_ ?_ ?_ ?_) (mDue.keep h.2.2.2.2.2.2.2 ?_ ?_ ?_ ?_ ?_)
  · intro j hj
    have := h.2.2.2.2.2.1 j hj
    by_cases e : j = k
    · subst e
      refine ⟨fun _ => by rw [sI_same], fun e t he => ?_⟩
      rw [xL_yL, if_pos rfl] at he
      cases he
    · rw [xL_yL, if_neg (by omega), h.oth (k := 3) (k' := 4) rfl rfl (by decide), h.oth (k := 3) (k' := 5) rfl rfl (by decide), sI_nk e rfl]
      exact this
  all_goals first | exact sl_a (h.ne rfl rfl (by decide)) | (intro q hq; rw [xL_yL, if_neg (by omega)])
/-- a packet on the link -/
theorem WM.wL1 {S : jS} {b : Nat} {ad : Nat → Nat} {X : XS} (h : WM S b ad X) (k : Nat) (e : Nat × Nat × Nat) : WM (uI (uI (uI S 9 (ad 3) k (nI e.1)) 9 (ad 4) k (nI e.2.1)) 9 (ad 5) k (nI e.2.2)) b ad (yL X (200 + k) [e]) := by
  have hs : mOnly ad mLs S (uI (uI (uI S 9 (ad 3) k (nI e.1)) 9 (ad 4) k (nI e.2.1)) 9 (ad 5) k (nI e.2.2)) := ((mOnly.rf.wr h rfl (by decide)).wr h rfl (by decide)).wr h rfl (by decide)
  have n34 := h.ne (k := 3) (k' := 4) rfl rfl (by decide)
  have n35 := h.ne (k := 3) (k' := 5) rfl rfl (by decide)
  have n45 := h.ne (k := 4) (k' := 5) rfl rfl (by decide)
  refine h.lists hs rfl rfl ?_ (mQue.keep h.2.2.2.2.2.2.1 ?_ ?_ ?_ ?_ ?_) (mDue.keep h.2.2.2.2.2.2.2 ?_ ?_ ?_ ?_ ?_)
  · intro j hj
    have := h.2.2.2.2.2.1 j hj
    by_cases ej : j = k
    · subst ej
      refine ⟨fun z => ?_, fun e' t he => ?_⟩
      · rw [xL_yL, if_pos rfl] at z
        cases z
      · rw [xL_yL, if_pos rfl] at he
        cases he
        exact ⟨sI_na n35 (sI_na n34 (sI_same _ _ _ _ _)), sI_na n45 (sI_same _ _ _ _ _), sI_same _ _ _ _ _⟩
    · rw [xL_yL, if_neg (by omega), sI_nk ej (sI_nk ej (sI_nk ej rfl)), sI_nk ej (sI_nk ej (sI_nk ej rfl)), sI_nk ej (sI_nk ej (sI_nk ej rfl))]
      exact this
  all_goals first | (rw [sl_a (h.ne rfl rfl (by decide)), sl_a (h.ne rfl rfl (by decide)), sl_a (h.ne rfl rfl (by decide))]; done) | (intro q hq; rw [xL_yL, if_neg (by omega)])
/-- one more behind a queue -/
theorem WM.wQ1 {S : jS} {b : Nat} {ad : Nat → Nat} {X : XS} (h : WM S b ad X) (q : Nat) (hq : q < 96) (hl : (xL X (q)).length < 8) (e : Nat × Nat × Nat) {n : Nat} (hn : n = 8 * q + (xL X (q)).length) : WM (uI (uI (uI (uI S 9 (ad 9) n (nI e.1)) 9 (ad 10) n (nI e.2.1)) 9 (ad 11) n (nI e.2.2)) 9 (ad 8) q (nI ((xL X (q)).length + 1))) b ad (yL X (q) (xL X (q) ++ [e])) := by
  subst hn
  have nkw := h.ne (k := 9) (k' := 8) rfl rfl (by decide)
  have naw := h.ne (k := 10) (k' := 8) rfl rfl (by decide)
  have ncw := h.ne (k := 11) (k' := 8) rfl rfl (by decide)
  have nka := h.ne (k := 9) (k' := 10) rfl rfl (by decide)
  have nkc := h.ne (k := 9) (k' := 11) rfl rfl (by decide)
  have nac := h.ne (k := 10) (k' := 11) rfl rfl (by decide)
  have key : mQue (uI (uI (uI (uI S 9 (ad 9) (8 * q + (xL X (q)).length) (nI e.1)) 9 (ad 10) (8 * q + (xL X (q)).length) (nI e.2.1)) 9 (ad 11) (8 * q + (xL X (q)).length) (nI e.2.2)) 9 (ad 8) q (nI ((xL X (q)).length + 1))) ad (yL X (q) (xL X (q) ++ [e])) := by
    intro j hj
    have this := h.2.2.2.2.2.2.1 j hj
    by_cases ej : j = q
    · subst ej
      rw [xL_yL, if_pos rfl]
      refine ⟨by rw [List.length_append]; show _ + 1 ≤ _; omega, by rw [sI_same, List.length_append]; rfl, fun i e' he => ?_⟩
      rw [List.getElem?_append] at he
      by_cases hi : i < (xL X (j)).length
      · rw [if_pos hi] at he
        have ne : 8 * j + i ≠ 8 * j + (xL X (j)).length := by omega
        have t := this.2.2 i e' he
        exact ⟨sI_na nkw (sI_na nkc (sI_na nka (sI_nk ne t.1))), sI_na naw (sI_na nac (sI_nk ne (sI_na nka.symm t.2.1))), sI_na ncw (sI_nk ne (sI_na nac.symm (sI_na nkc.symm t.2.2)))⟩
      · rw [if_neg hi] at he
        have hi0 : i - (xL X (j)).length = 0 := by
          cases hz : i - (xL X (j)).length with
          | zero => rfl
          | succ n => rw [hz] at he; simp at he
        rw [hi0] at he
        cases he
        have : i = (xL X (j)).length := by omega
        subst this
        exact ⟨sI_na nkw (sI_na nkc (sI_na nka (sI_same _ _ _ _ _))), sI_na naw (sI_na nac (sI_same _ _ _ _ _)), sI_na ncw (sI_same _ _ _ _ _)⟩
    · rw [xL_yL, if_neg (by omega)]
      refine ⟨this.1, sI_nk ej (sI_na ncw.symm (sI_na naw.symm (sI_na nkw.symm this.2.1))), fun i e' he => ?_⟩
      have hi : i < (xL X (j)).length := (List.getElem?_eq_some_iff.mp he).1
      have h8 := this.1
      have ne : 8 * j + i ≠ 8 * q + (xL X (q)).length := by omega
      have t := this.2.2 i e' he
      exact ⟨sI_na nkw (sI_na nkc (sI_na nka (sI_nk ne t.1))), sI_na naw (sI_na nac (sI_nk ne (sI_na nka.symm t.2.1))), sI_na ncw (sI_nk ne (sI_na nac.symm (sI_na nkc.symm t.2.2)))⟩
  refine h.lists ((((mOnly.rf.wr h rfl (by decide)).wr h rfl (by decide)).wr h rfl (by decide)).wr h rfl (by decide)) rfl rfl (mLnk.keep h.2.2.2.2.2.1 ?_ ?_ ?_ ?_) key (mDue.keep h.2.2.2.2.2.2.2 ?_ ?_ ?_ ?_ ?_)
  all_goals first | (rw [sl_a (h.ne rfl rfl (by decide)), sl_a (h.ne rfl rfl (by decide)), sl_a (h.ne rfl rfl (by decide)), sl_a (h.ne rfl rfl (by decide))]; done) | (intro z hz; rw [xL_yL, if_neg (by omega)])
/-- one more behind the row of what is due -/
theorem WM.wD1 {S : jS} {b : Nat} {ad : Nat → Nat} {X : XS} (h : WM S b ad X) (q : Nat) (hq : q < 8) (hl : (xL X (96 + q)).length < 24) (e : Nat × Nat × Nat) {n : Nat} (hn : n = 24 * q + (xL X (96 + q)).length) : WM (uI (uI (uI (uI S 9 (ad 38) n (nI e.1)) 9 (ad 39) n (nI e.2.1)) 9 (ad 40) n (nI e.2.2)) 9 (ad 37) q (nI ((xL X (96 + q)).length + 1))) b ad (yL X (96 + q) (xL X (96 + q) ++ [e])) := by
  subst hn
  have nkw := h.ne (k := 38) (k' := 37) rfl rfl (by decide)
  have naw := h.ne (k := 39) (k' := 37) rfl rfl (by decide)
  have ncw := h.ne (k := 40) (k' := 37) rfl rfl (by decide)
  have nka := h.ne (k := 38) (k' := 39) rfl rfl (by decide)
  have nkc := h.ne (k := 38) (k' := 40) rfl rfl (by decide)
  have nac := h.ne (k := 39) (k' := 40) rfl rfl (by decide)
  have key : mDue (uI (uI (uI (uI S 9 (ad 38) (24 * q + (xL X (96 + q)).length) (nI e.1)) 9 (ad 39) (24 * q + (xL X (96 + q)).length) (nI e.2.1)) 9 (ad 40) (24 * q + (xL X (96 + q)).length) (nI e.2.2)) 9 (ad 37) q (nI ((xL X (96 + q)).length + 1))) ad (yL X (96 + q) (xL X (96 + q) ++ [e])) := by
    intro j hj
    have this := h.2.2.2.2.2.2.2 j hj
    by_cases ej : j = q
    · subst ej
      rw [xL_yL, if_pos rfl]
      refine ⟨by rw [List.length_append]; show _ + 1 ≤ _; omega, by rw [sI_same, List.length_append]; rfl, fun i e' he => ?_⟩
      rw [List.getElem?_append] at he
      by_cases hi : i < (xL X (96 + j)).length
      · rw [if_pos hi] at he
        have ne : 24 * j + i ≠ 24 * j + (xL X (96 + j)).length := by omega
        have t := this.2.2 i e' he
        exact ⟨sI_na nkw (sI_na nkc (sI_na nka (sI_nk ne t.1))), sI_na naw (sI_na nac (sI_nk ne (sI_na nka.symm t.2.1))), sI_na ncw (sI_nk ne (sI_na nac.symm (sI_na nkc.symm t.2.2)))⟩
      · rw [if_neg hi] at he
        have hi0 : i - (xL X (96 + j)).length = 0 := by
          cases hz : i - (xL X (96 + j)).length with
          | zero => rfl
          | succ n => rw [hz] at he; simp at he
        rw [hi0] at he
        cases he
        have : i = (xL X (96 + j)).length := by omega
        subst this
        exact ⟨sI_na nkw (sI_na nkc (sI_na nka (sI_same _ _ _ _ _))), sI_na naw (sI_na nac (sI_same _ _ _ _ _)), sI_na ncw (sI_same _ _ _ _ _)⟩
    · rw [xL_yL, if_neg (by omega)]
      refine ⟨this.1, sI_nk ej (sI_na ncw.symm (sI_na naw.symm (sI_na nkw.symm this.2.1))), fun i e' he => ?_⟩
      have hi : i < (xL X (96 + j)).length := (List.getElem?_eq_some_iff.mp he).1
      have h8 := this.1
      have ne : 24 * j + i ≠ 24 * q + (xL X (96 + q)).length := by omega
      have t := this.2.2 i e' he
      exact ⟨sI_na nkw (sI_na nkc (sI_na nka (sI_nk ne t.1))), sI_na naw (sI_na nac (sI_nk ne (sI_na nka.symm t.2.1))), sI_na ncw (sI_nk ne (sI_na nac.symm (sI_na nkc.symm t.2.2)))⟩
  refine h.lists ((((mOnly.rf.wr h rfl (by decide)).wr h rfl (by decide)).wr h rfl (by decide)).wr h rfl (by decide)) rfl rfl (mLnk.keep h.2.2.2.2.2.1 ?_ ?_ ?_ ?_) (mQue.keep h.2.2.2.2.2.2.1 ?_ ?_ ?_ ?_ ?_) key
  all_goals first | (rw [sl_a (h.ne rfl rfl (by decide)), sl_a (h.ne rfl rfl (by decide)), sl_a (h.ne rfl rfl (by decide)), sl_a (h.ne rfl rfl (by decide))]; done) | (intro z hz; rw [xL_yL, if_neg (by omega)])
