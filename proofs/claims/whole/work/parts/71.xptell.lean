/-! THE CLASS: what a packet tells -/
set_option maxRecDepth 100000 in
theorem cx_packetTell (l : Launch) (g : jG) (hgt : Nat) {S : jS} {X : XS} (hI : xOK X) {k : Nat} (hk : k < 24) (v : Int32) (hh : 1 ≤ hgt) : CT l g mX5_tell hgt 0 0 [.int (pkH (xV X 8) (xV X 9) (xL X (200 + k)) (xV X 5 k)), .int v] S (jPure (.int (match xL X (200 + k) with
  | [] => -1
  | e :: _ => if v < 0 ∨ nI 3 < v then -1 else if v = nI 0 then nI e.1 else if v = nI 1 then nI e.2.1 else if v = nI 2 then nI e.2.2 else nI (xV X 5 k))) S) := by
  cases hL : xL X (200 + k) with
  | nil =>
    refine CT_of qX5_tell (Nat.le_of_ble_eq_true rfl) ?_
    refine J_iload_n (pc := 0) dX5_tell_0 rfl rfl ?_
    refine J_iconst (pc := 1) (v := (-1)) dX5_tell_1 (by decide) ?_
    refine J_icmp_ne (pc := 2) (tgt := 7) dX5_tell_2 rfl (fun hc9 => absurd (rfl) hc9) (fun _ => ?_)
    refine J_iconst (pc := 5) (v := (-1)) dX5_tell_5 (by decide) ?_
    refine J_iret (pc := 6) dX5_tell_6 rfl (by omega) (by omega) ?_
    exact ⟨rfl, rfl⟩
  | cons e t =>
    have ho : okP X e (xV X 5 k) := hI.okP (q := 200 + k) (by rw [hL]; exact List.mem_cons_self) (by have := (hI.link hk).2; omega)
    have hlt := ho.lt
    obtain ⟨o1, o2, o3, o4, o5⟩ := ho
    show CT l g mX5_tell hgt 0 0 [.int (nI (pkF (xV X 8) (xV X 9) e (xV X 5 k))), .int v] S (jPure (.int (if v < 0 ∨ nI 3 < v then -1 else if v = nI 0 then nI e.1 else if v = nI 1 then nI e.2.1 else if v = nI 2 then nI e.2.2 else nI (xV X 5 k))) S)
    refine CT_of qX5_tell (Nat.le_of_ble_eq_true rfl) ?_
    refine J_iload_n (pc := 0) dX5_tell_0 rfl rfl ?_
    refine J_iconst (pc := 1) (v := (-1)) dX5_tell_1 (by decide) ?_
    refine J_icmp_ne (pc := 2) (tgt := 7) dX5_tell_2 rfl (fun _ => ?_) (fun hc9 => absurd hc9 ((nI_m1 (by omega))))
    refine J_iload_n (pc := 7) dX5_tell_7 rfl rfl ?_
    rcases pk_ix v (n := 4) (by decide) with q | q | ⟨i, hi, rfl⟩
    · refine J_tableOut (pc := 8) (tgt := 60) dX5_tell_8 ((Or.inl (by have := Int32.lt_iff_toInt_lt.mp q; exact this))) rfl ?_
      rw [if_pos (Or.inl q)]
      refine J_iconst (pc := 60) (v := (-1)) dX5_tell_60 (by decide) ?_
      refine J_iret (pc := 61) dX5_tell_61 rfl (by omega) (by omega) ?_
      exact ⟨rfl, rfl⟩
    · refine J_tableOut (pc := 8) (tgt := 60) dX5_tell_8 ((Or.inr (by have := Int32.le_iff_toInt_le.mp q; rw [nI_toInt (by decide)] at this; omega))) rfl ?_
      rw [if_pos (Or.inr (Int32.lt_of_lt_of_le (by decide) q))]
      refine J_iconst (pc := 60) (v := (-1)) dX5_tell_60 (by decide) ?_
      refine J_iret (pc := 61) dX5_tell_61 rfl (by omega) (by omega) ?_
      exact ⟨rfl, rfl⟩
    · rcases (show i = 0 ∨ i = 1 ∨ i = 2 ∨ i = 3 by omega) with rfl | rfl | rfl | rfl
      · refine J_tableIn (pc := 8) (off := 32) (tgt := 40) dX5_tell_8 (by decide) (by decide) (by decide) rfl ?_
        rw [if_neg (by decide), if_pos rfl]
        refine J_iload_n (pc := 40) dX5_tell_40 rfl rfl ?_
        refine J_callS (pc := 41) (cx_kindOf l g (hgt - 1) o1 o2 o3 o4 o5) qX5_kindOf vX5_kindOf kX5_17 dX5_tell_41 rfl rfl (Nat.le_of_ble_eq_true rfl) (by omega) (by omega) (by omega) ?_
        rintro _ _ ⟨rfl, rfl⟩
        refine J_iret (pc := 44) dX5_tell_44 rfl (by omega) (by omega) ?_
        exact ⟨rfl, rfl⟩
      · refine J_tableIn (pc := 8) (off := 37) (tgt := 45) dX5_tell_8 (by decide) (by decide) (by decide) rfl ?_
        rw [if_neg (by decide), if_neg (by decide), if_pos rfl]
        refine J_iload_n (pc := 45) dX5_tell_45 rfl rfl ?_
        refine J_callS (pc := 46) (cx_messageOf l g (hgt - 1) o1 o2 o3 o4 o5) qX5_messageOf vX5_messageOf kX5_21 dX5_tell_46 rfl rfl (Nat.le_of_ble_eq_true rfl) (by omega) (by omega) (by omega) ?_
        rintro _ _ ⟨rfl, rfl⟩
        refine J_iret (pc := 49) dX5_tell_49 rfl (by omega) (by omega) ?_
        exact ⟨rfl, rfl⟩
      · refine J_tableIn (pc := 8) (off := 42) (tgt := 50) dX5_tell_8 (by decide) (by decide) (by decide) rfl ?_
        rw [if_neg (by decide), if_neg (by decide), if_neg (by decide), if_pos rfl]
        refine J_iload_n (pc := 50) dX5_tell_50 rfl rfl ?_
        refine J_callS (pc := 51) (cx_countOf l g (hgt - 1) o1 o2 o3 o4 o5) qX5_countOf vX5_countOf kX5_24 dX5_tell_51 rfl rfl (Nat.le_of_ble_eq_true rfl) (by omega) (by omega) (by omega) ?_
        rintro _ _ ⟨rfl, rfl⟩
        refine J_iret (pc := 54) dX5_tell_54 rfl (by omega) (by omega) ?_
        exact ⟨rfl, rfl⟩
      · refine J_tableIn (pc := 8) (off := 47) (tgt := 55) dX5_tell_8 (by decide) (by decide) (by decide) rfl ?_
        rw [if_neg (by decide), if_neg (by decide), if_neg (by decide), if_neg (by decide)]
        refine J_iload_n (pc := 55) dX5_tell_55 rfl rfl ?_
        refine J_callS (pc := 56) (cx_priorityOf l g (hgt - 1) o1 o2 o3 o4 o5) qX5_priorityOf vX5_priorityOf kX5_27 dX5_tell_56 rfl rfl (Nat.le_of_ble_eq_true rfl) (by omega) (by omega) (by omega) ?_
        rintro _ _ ⟨rfl, rfl⟩
        refine J_iret (pc := 59) dX5_tell_59 rfl (by omega) (by omega) ?_
        exact ⟨rfl, rfl⟩
