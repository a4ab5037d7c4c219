section JMR
variable {l : Launch} {g : jG} {me : jM} {hgt mc ms : Nat} {Q : Option Value → jS → Prop} {pc : Nat} {lv : List (Nat × Value)} {rest : List Value} {S : jS} {nc ns : Nat} {b : Nat} {ad : Nat → Nat} {X : XS}
theorem mLn_lt (k : Nat) : mLn k < 2 ^ 31 := by
  unfold mLn
  split <;> decide
/-- a number of an array is read -/
theorem J_mld (hW : WM S b ad X) (f : Nat) (hf : mAttr f = true) {n : Nat} {i : Int32} (hi : i = nI n) (hn : n < mLn (mK f)) (hdg : decode me.2.1 pc = .ok (.iaload, 1)) (k : J l g me hgt mc ms Q (pc + 1) lv (.int (nI (xV X f n)) :: rest) S nc ns) : J l g me hgt mc ms Q pc lv (.int i :: .ref (ad (mK f)) :: rest) S nc ns := by
  have h := mK_arr f (mAttr_lt hf) hf
  have ha := hW.a (mK f) h.1
  rw [h.2] at ha
  exact J_iald ha hi hn (mLn_lt _) (hW.v f hf hn) hdg k
/-- a number of an array is written -/
theorem J_mst (hW : WM S b ad X) (f : Nat) (hf : mAttr f = true) {n v : Nat} {i x : Int32} (hi : i = nI n) (hn : n < mLn (mK f)) (hx : x = nI v) (hdg : decode me.2.1 pc = .ok (.iastore, 1)) (k : WM (uI S 9 (ad (mK f)) n (nI v)) b ad (yV X f n v) → J l g me hgt mc ms Q (pc + 1) lv rest (uI S 9 (ad (mK f)) n (nI v)) nc ns) : J l g me hgt mc ms Q pc lv (.int x :: .int i :: .ref (ad (mK f)) :: rest) S nc ns := by
  have h := mK_arr f (mAttr_lt hf) hf
  have ha := hW.a (mK f) h.1
  rw [h.2] at ha
  subst hx
  exact J_iast ha hi hn (mLn_lt _) hdg (k (hW.wV f hf n v))
theorem J_mss (hW : WM S b ad X) (i f : Nat) {v idx : Nat} {x : Int32} (hk : (i, f) = (1, 0) ∨ (i, f) = (2, 1) ∨ (i, f) = (14, 2) ∨ (i, f) = (15, 3) ∨ (i, f) = (0, 32)) (hx : x = nI v) (hw : Cond.fieldLink me.1.cls idx (TX10 i).1 (TX10 i).2.1 (TX10 i).2.2.1 ∈ T0) (hdg : decode me.2.1 pc = .ok (.putfield idx, 3)) (k : WM (uI S 8 b i (nI v)) b ad (yV X f 0 v) → J l g me hgt mc ms Q (pc + 3) lv rest (uI S 8 b i (nI v)) nc ns) : J l g me hgt mc ms Q pc lv (.int x :: .ref b :: rest) S nc ns := by
  subst hx
  have h := hW.wS i f v hk
  rcases hk with e | e | e | e | e <;> cases e <;> exact J_puti cl8 hW.o (by decide) rfl rfl rfl rfl hw hdg (k h)
end JMR
