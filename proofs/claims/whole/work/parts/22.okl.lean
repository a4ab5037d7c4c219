theorem xOK.setL {X : XS} (h : xOK X) (q : Nat) (l : List (Nat × Nat × Nat)) (he : ∀ e ∈ l, okE X e) (hq : q < 96 → l.length ≤ 8) (hd : ∀ a, a < 8 → q = 96 + a → l.length ≤ 24) (hk : ∀ k, k < 24 → q = 200 + k → l.length ≤ 1) : xOK (yL X q l) := by
  obtain ⟨h1, h2, h3, h4, h5, ⟨l1, l2, l3, l4⟩, h7⟩ := h
  refine ⟨h1, h2, h3, h4, h5, ⟨fun q' e hm => ?_, fun q' hq' => ?_, fun a ha => ?_, fun k hk' => ?_⟩, h7⟩
  · rw [xL_yL] at hm
    by_cases z : q' = q
    · rw [if_pos z] at hm
      exact he e hm
    · rw [if_neg z] at hm
      exact l1 q' e hm
  · rw [xL_yL]
    by_cases z : q' = q
    · rw [if_pos z]
      exact hq (z ▸ hq')
    · rw [if_neg z]
      exact l2 q' hq'
  · rw [xL_yL]
    by_cases z : 96 + a = q
    · rw [if_pos z]
      exact hd a ha z.symm
    · rw [if_neg z]
      exact l3 a ha
  · rw [xL_yL]
    by_cases z : 200 + k = q
    · rw [if_pos z]
      exact hk k hk' z.symm
    · rw [if_neg z]
      exact l4 k hk'
theorem xOK.clrL {X : XS} (h : xOK X) (q : Nat) : xOK (yL X q []) := h.setL q [] (fun e he => by cases he) (fun _ => Nat.zero_le _) (fun _ _ _ => Nat.zero_le _) (fun _ _ _ => Nat.zero_le _)
