/-! THE CLASS: its constructor; all its objects have a number: below 134 the fabric's, 134 hosts, 135 messages, 136 + 10 h + s those of host h, 216 itself -/
def kp (p : Nat) : Nat := if p < 134 then kF p else if p = 134 then 11 else if p = 135 then 12 else if p = 216 then 7 else kH ((p - 136) % 10)
def lp (p : Nat) : Nat := if p < 134 then lF p else if p = 134 then 8 else if p = 135 then 48 else if p = 216 then 0 else lH ((p - 136) % 10)
def ip (p : Nat) : Nat → Int32 := if p < 134 then iF p else if p < 136 then fun _ => 0 else if p = 216 then fun _ => 0 else iH ((p - 136) % 10)
def rp (p : Nat) : Nat → Option Nat := if p < 134 then rF p else if p = 134 then fun k => if k < 8 then some (136 + 10 * k) else none else if p = 135 then fun _ => none else if p = 216 then fun k => if k = 2 then some 135 else if k = 1 then some 134 else if k = 0 then some 0 else none else fun k => (rH ((p - 136) % 10) k).map (fun s => 136 + 10 * ((p - 136) / 10) + s)
theorem rH_lt : ∀ {s k s' : Nat}, rH s k = some s' → s' < 10
  | 0, k, s', h => by
    have h : (if k = 5 then some 9 else if k = 4 then some 8 else if k = 3 then some 6 else if k = 2 then some 3 else if k = 1 then some 2 else if k = 0 then some 1 else none) = some s' := h
    repeat' split at h
    all_goals first | (cases h; omega) | cases h
  | 3, k, s', h => by
    have h : (if k = 1 then some 5 else if k = 0 then some 4 else none) = some s' := h
    repeat' split at h
    all_goals first | (cases h; omega) | cases h
  | 6, k, s', h => by
    have h : (if k = 0 then some 7 else none) = some s' := h
    split at h
    all_goals first | (cases h; omega) | cases h
  | 1, k, s', h => by cases h
  | 2, k, s', h => by cases h
  | 4, k, s', h => by cases h
  | 5, k, s', h => by cases h
  | s + 7, k, s', h => by cases h
def fullP (S : jS) (ad : Nat → Nat) (p : Nat) : Prop := isA S (kp p) (ad p) (lp p) (ip p) (fun k => (rp p k).map ad)
def adP (v : Nat → Nat) (u : Nat → Nat → Nat) (qH qM b p : Nat) : Nat := if p < 134 then v p else if p = 134 then qH else if p = 135 then qM else if p = 216 then b else u ((p - 136) / 10) ((p - 136) % 10)
/-- the net while its hosts are made -/
def netJ (S0 S1 S : jS) (b qH qM h : Nat) (v : Nat → Nat) (u : Nat → Nat → Nat) : Prop := ext S0 S b ∧ (∀ x, x ∈ S1.1 → x ∈ S.1) ∧ isA S 7 b 0 (fun _ => 0) (fun k => if k = 2 then some qM else if k = 1 then some qH else if k = 0 then some (v 0) else none) ∧ (∀ s, s < 134 → fullF S v s) ∧ isA S 12 qM 48 (fun _ => 0) (fun _ => none) ∧ isA S 11 qH 8 (fun _ => 0) (fun k => if k < h then some (u k 0) else none) ∧ (∀ i, i < h → ∀ s, s < 10 → fullH S (u i) s ∧ u i s ∉ S1.1) ∧ ∀ i i' s s', i < h → i' < h → s < 10 → s' < 10 → u i s = u i' s' → i = i' ∧ s = s'
theorem fullF.keep {S S' : jS} {v : Nat → Nat} {s b : Nat} (h : fullF S v s) (E : ext S S' b) (hne : v s ≠ b) : fullF S' v s := isA.keep h E hne
theorem fullH.keep {S S' : jS} {v : Nat → Nat} {s b : Nat} (h : fullH S v s) (E : ext S S' b) (hne : v s ≠ b) : fullH S' v s := isA.keep h E hne
theorem netJ.step {S0 S1 S T S' : jS} {b qH qM h q : Nat} {v u0 : Nat → Nat} {u : Nat → Nat → Nat} (F : netJ S0 S1 S b qH qM h v u) (hb0 : b ∈ S0.1) (hq : q ∉ S.1) (e1 : T = nX S q 2 0) (C : ext T S' q) (h0 : u0 0 = q) (hf : ∀ s, s < 10 → fullH S' u0 s) (hn : ∀ s, 1 ≤ s → s < 10 → u0 s ∉ T.1) (hi : ∀ s s', s < 10 → s' < 10 → u0 s = u0 s' → s = s') (fH : qH ∉ S0.1) (mH : qH ∈ S1.1) (n1 : qH ≠ b) (n2 : qM ≠ qH) (n3 : ∀ s, s < 134 → v s ≠ qH) : netJ S0 S1 (uP S' 11 qH h (some q)) b qH qM (h + 1) v (va_up u h u0) := by
  obtain ⟨E, E1, B, fF, aM, aH, fH2, inj⟩ := F
  have hin : ∀ x, x ∈ S.1 → x ∈ T.1 := fun x z => by rw [e1]; exact List.mem_append_left _ z
  have hqT : q ∈ T.1 := by rw [e1]; exact List.mem_append_right _ List.mem_cons_self
  have hqS0 : q ∉ S0.1 := fun z => hq (E.1 q z)
  have hnew : ∀ s, s < 10 → u0 s ∉ S.1 := by
    intro s hs z
    by_cases e : s = 0
    · subst e
      rw [h0] at z
      exact hq z
    · exact hn s (by omega) hs (hin _ z)
  have mv : ∀ {c x n : Nat} {f : Nat → Int32} {p : Nat → Option Nat}, isA S c x n f p → x ≠ qH → isA (uP S' 11 qH h (some q)) c x n f p := by
    intro c x n f p hx hne
    have h1 : isA T c x n f p := by rw [e1]; exact hx.nw hq
    exact (h1.keep C (fun e => hq (e ▸ hx.1))).keep (ext_uP _ _ _ _ _) hne
  have hE1 : ext S0 T b := by
    rw [e1]
    exact E.tr (ext_new hq B.1)
  have hE2 : ext S0 S' b := hE1.sub hb0 hqS0 C
  have aH' : isA S' 11 qH 8 (fun _ => 0) (fun k => if k < h then some (u k 0) else none) := by
    have h1 : isA T 11 qH 8 (fun _ => 0) (fun k => if k < h then some (u k 0) else none) := by rw [e1]; exact aH.nw hq
    exact h1.keep C (fun e => hq (e ▸ aH.1))
  refine ⟨hE2.sub hb0 fH (ext_uP _ _ _ _ _), fun x hx => C.1 x (hin x (E1 x hx)), mv B n1.symm, fun s hs => mv (fF s hs) (n3 s hs), mv aM n2, ?_, ?_, ?_⟩
  · refine (aH'.wP h (some q)).cg rfl rfl rfl (fun _ => rfl) (fun k => ?_)
    by_cases e : k = h
    · subst e
      rw [if_pos rfl, if_pos (by omega), va_up_self, h0]
    · rw [if_neg e, va_up_ne _ _ e]
      by_cases e2 : k < h
      · rw [if_pos e2, if_pos (by omega)]
      · rw [if_neg e2, if_neg (by omega)]
  · intro i hi2 s hs
    by_cases e : i = h
    · subst e
      rw [va_up_self]
      exact ⟨(hf s hs).keep (ext_uP _ _ _ _ _) (fun z => hnew s hs (z ▸ aH.1)), fun z => hnew s hs (E1 _ z)⟩
    · rw [va_up_ne _ _ e]
      obtain ⟨x, y⟩ := fH2 i (by omega) s hs
      exact ⟨mv x (fun z => y (z ▸ mH)), y⟩
  · have old : ∀ i s, i < h → s < 10 → u i s ∈ S.1 := fun i s hi hs => (fH2 i hi s hs).1.1
    intro i i' s s' hi2 hi2' hs hs'
    by_cases e : i = h
    · by_cases e' : i' = h
      · rw [e, e', va_up_self]
        exact fun z => ⟨rfl, hi s s' hs hs' z⟩
      · have o := old i' s' (by omega) hs'
        rw [e, va_up_self, va_up_ne _ _ e']
        exact fun z => absurd o (z ▸ hnew s hs)
    · by_cases e' : i' = h
      · have o := old i s (by omega) hs
        rw [e', va_up_self, va_up_ne _ _ e]
        exact fun z => absurd o (z.symm ▸ hnew s' hs')
      · rw [va_up_ne _ _ e, va_up_ne _ _ e']
        exact inj i i' s s' (by omega) (by omega) hs hs'
/-- all the objects of a new net -/
theorem netJ.all {S0 S1 S : jS} {b qH qM : Nat} {v : Nat → Nat} {u : Nat → Nat → Nat} (F : netJ S0 S1 S b qH qM 8 v u) : ∀ p, p < 217 → fullP S (adP v u qH qM b) p := by
  obtain ⟨E, E1, B, fF, aM, aH, fH, inj⟩ := F
  have eH : adP v u qH qM b 134 = qH := rfl
  have eM : adP v u qH qM b 135 = qM := rfl
  have eB : adP v u qH qM b 216 = b := rfl
  have eF : ∀ p, p < 134 → adP v u qH qM b p = v p := fun p h => if_pos h
  have eU : ∀ h s, h < 8 → s < 10 → adP v u qH qM b (136 + 10 * h + s) = u h s := fun h s h8 hs => by
    unfold adP
    rw [if_neg (by omega), if_neg (by omega), if_neg (by omega), if_neg (by omega), show (136 + 10 * h + s - 136) / 10 = h by omega, show (136 + 10 * h + s - 136) % 10 = s by omega]
  generalize adP v u qH qM b = ad at *
  intro p hp
  by_cases p1 : p < 134
  · refine (fF p p1).cg (if_pos p1).symm (eF p p1).symm (if_pos p1).symm (fun k => ?_) (fun k => ?_)
    · unfold ip
      rw [if_pos p1]
    · unfold rp
      rw [if_pos p1]
      cases hr : rF p k with
      | none => rfl
      | some s =>
        show some (v s) = some (ad s)
        rw [eF s]
        unfold rF at hr
        repeat' split at hr
        all_goals first | (cases hr; omega) | cases hr
  by_cases p2 : p = 134
  · subst p2
    refine aH.cg rfl eH.symm rfl (fun k => rfl) (fun k => ?_)
    show (if k < 8 then some (u k 0) else none) = Option.map ad (if k < 8 then some (136 + 10 * k) else none)
    by_cases e : k < 8
    · rw [if_pos e, if_pos e]
      show _ = some (ad (136 + 10 * k))
      rw [show 136 + 10 * k = 136 + 10 * k + 0 by omega, eU k 0 e (by decide)]
    · rw [if_neg e, if_neg e]
      rfl
  by_cases p3 : p = 135
  · subst p3
    exact aM.cg rfl eM.symm rfl (fun k => rfl) (fun k => rfl)
  by_cases p4 : p = 216
  · subst p4
    refine B.cg rfl eB.symm rfl (fun k => rfl) (fun k => ?_)
    show (if k = 2 then some qM else if k = 1 then some qH else if k = 0 then some (v 0) else none) = Option.map ad (if k = 2 then some 135 else if k = 1 then some 134 else if k = 0 then some 0 else none)
    by_cases e2 : k = 2
    · rw [if_pos e2, if_pos e2]
      exact congrArg some eM.symm
    rw [if_neg e2, if_neg e2]
    by_cases e1 : k = 1
    · rw [if_pos e1, if_pos e1]
      exact congrArg some eH.symm
    rw [if_neg e1, if_neg e1]
    by_cases e0 : k = 0
    · rw [if_pos e0, if_pos e0]
      exact congrArg some (eF 0 (by decide)).symm
    rw [if_neg e0, if_neg e0]
    rfl
  have h8 : (p - 136) / 10 < 8 := by omega
  have hs : (p - 136) % 10 < 10 := by omega
  have ep : p = 136 + 10 * ((p - 136) / 10) + (p - 136) % 10 := by omega
  have eu := eU _ _ h8 hs
  rw [← ep] at eu
  refine (fH _ h8 _ hs).1.cg ?_ eu.symm ?_ (fun k => ?_) (fun k => ?_)
  · unfold kp
    rw [if_neg p1, if_neg p2, if_neg p3, if_neg p4]
  · unfold lp
    rw [if_neg p1, if_neg p2, if_neg p3, if_neg p4]
  · unfold ip
    rw [if_neg p1, if_neg (by omega), if_neg p4]
  · unfold rp
    rw [if_neg p1, if_neg p2, if_neg p3, if_neg p4]
    try dsimp only
    cases hr : rH ((p - 136) % 10) k with
    | none => rfl
    | some s =>
      show some (u ((p - 136) / 10) s) = some (ad (136 + 10 * ((p - 136) / 10) + s))
      rw [eU _ s h8 (rH_lt hr)]
theorem netJ.inj {S0 S1 S : jS} {b qH qM : Nat} {v : Nat → Nat} {u : Nat → Nat → Nat} (F : netJ S0 S1 S b qH qM 8 v u) (mF : ∀ s, s < 134 → v s ∈ S1.1 ∧ v s ≠ qH ∧ v s ≠ qM ∧ v s ≠ b) (iF : ∀ s s', s < 134 → s' < 134 → v s = v s' → s = s') (mH : qH ∈ S1.1) (mM : qM ∈ S1.1) (mb : b ∈ S1.1) (n1 : qH ≠ b) (n2 : qM ≠ qH) (n3 : qM ≠ b) : ∀ p p', p < 217 → p' < 217 → adP v u qH qM b p = adP v u qH qM b p' → p = p' := by
  obtain ⟨-, -, -, -, -, -, fH, inj⟩ := F
  have key : ∀ p, p < 217 → (p < 134 ∧ adP v u qH qM b p = v p) ∨ (p = 134 ∧ adP v u qH qM b p = qH) ∨ (p = 135 ∧ adP v u qH qM b p = qM) ∨ (p = 216 ∧ adP v u qH qM b p = b) ∨ (136 ≤ p ∧ p < 216 ∧ adP v u qH qM b p = u ((p - 136) / 10) ((p - 136) % 10)) := by
    intro p hp
    unfold adP
    by_cases p1 : p < 134
    · rw [if_pos p1]
      exact Or.inl ⟨p1, rfl⟩
    rw [if_neg p1]
    by_cases p2 : p = 134
    · rw [if_pos p2]
      exact Or.inr (Or.inl ⟨p2, rfl⟩)
    rw [if_neg p2]
    by_cases p3 : p = 135
    · rw [if_pos p3]
      exact Or.inr (Or.inr (Or.inl ⟨p3, rfl⟩))
    rw [if_neg p3]
    by_cases p4 : p = 216
    · rw [if_pos p4]
      exact Or.inr (Or.inr (Or.inr (Or.inl ⟨p4, rfl⟩)))
    rw [if_neg p4]
    exact Or.inr (Or.inr (Or.inr (Or.inr ⟨by omega, by omega, rfl⟩)))
  have uo : ∀ p, 136 ≤ p → p < 216 → u ((p - 136) / 10) ((p - 136) % 10) ∉ S1.1 := fun p h1 h2 => (fH _ (by omega) _ (by omega)).2
  intro p p' hp hp' e
  rcases key p hp with ⟨x, y⟩ | ⟨x, y⟩ | ⟨x, y⟩ | ⟨x, y⟩ | ⟨x, x2, y⟩ <;> rcases key p' hp' with ⟨x', y'⟩ | ⟨x', y'⟩ | ⟨x', y'⟩ | ⟨x', y'⟩ | ⟨x', x2', y'⟩ <;> rw [y, y'] at e
  · exact iF p p' x x' e
  · exact absurd e (mF p x).2.1
  · exact absurd e (mF p x).2.2.1
  · exact absurd e (mF p x).2.2.2
  · exact absurd (mF p x).1 (e ▸ uo p' x' x2')
  · exact absurd e.symm (mF p' x').2.1
  · omega
  · exact absurd e.symm n2
  · exact absurd e n1
  · exact absurd mH (e ▸ uo p' x' x2')
  · exact absurd e.symm (mF p' x').2.2.1
  · exact absurd e n2
  · omega
  · exact absurd e n3
  · exact absurd mM (e ▸ uo p' x' x2')
  · exact absurd e.symm (mF p' x').2.2.2
  · exact absurd e.symm n1
  · exact absurd e.symm n3
  · omega
  · exact absurd mb (e ▸ uo p' x' x2')
  · exact absurd (mF p' x').1 (e ▸ uo p x x2)
  · exact absurd mH (e ▸ uo p x x2)
  · exact absurd mM (e ▸ uo p x x2)
  · exact absurd mb (e ▸ uo p x x2)
  · have := inj _ _ _ _ (by omega) (by omega) (by omega) (by omega) e
    omega
