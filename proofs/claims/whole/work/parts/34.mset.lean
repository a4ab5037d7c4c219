theorem down {P : Nat → Prop} (n : Nat) (h0 : P n) (hs : ∀ i, i < n → P (i + 1) → P i) : ∀ i, i ≤ n → P i := by
  intro i hi
  obtain ⟨d, rfl⟩ : ∃ d, n = i + d := ⟨n - i, by omega⟩
  induction d generalizing i with
  | zero => exact h0
  | succ d ih => exact hs i (by omega) (ih (i + 1) (by rw [show i + 1 + d = i + (d + 1) by omega]; exact h0) (by rw [show i + 1 + d = i + (d + 1) by omega]; exact hs) (by omega))
def lvIn (lv : List (Nat × Value)) : List (Nat × Value) → Prop
  | [] => True
  | q :: t => lv.lookup q.1 = some q.2 ∧ lvIn lv t
theorem lvIn_mem {lv : List (Nat × Value)} : ∀ {l : List (Nat × Value)}, lvIn lv l → ∀ q ∈ l, q ∈ lv
  | [], _, q, hq => by cases hq
  | p :: t, h, q, hq => by
    rcases List.mem_cons.mp hq with rfl | hq
    · exact mem_lookup h.1
    · exact lvIn_mem h.2 q hq
section JLV
variable {l : Launch} {g : jG} {me : jM} {hgt mc ms : Nat} {Q : Option Value → jS → Prop} {pc : Nat} {lv lv' : List (Nat × Value)} {st : List Value} {S : jS} {nc ns : Nat}
theorem J_lv (h : lvIn lv lv') (k : J l g me hgt mc ms Q pc lv' st S nc ns) : J l g me hgt mc ms Q pc lv st S nc ns := fun zA zp ze zs zm za zb zt zc zH zo zl zh zv zw => k zA zp ze zs zm za zb zt zc zH zo zl zh zv ⟨zw.1, zw.2.1, fun q hq => zw.2.2 q (lvIn_mem h q hq)⟩
theorem J_lvk (k : J l g me hgt mc ms Q pc lv' st S nc ns) (h : lvIn lv lv') : J l g me hgt mc ms Q pc lv st S nc ns := J_lv h k
theorem J_Q {Q' : Option Value → jS → Prop} (h : ∀ r S', Q' r S' → Q r S') (k : J l g me hgt mc ms Q' pc lv st S nc ns) : J l g me hgt mc ms Q pc lv st S nc ns := by
  intro zA zp ze zs zm za zb zt zc zH zo zl zh zv zw T hT X
  obtain ⟨t, a, o, b1, b2, b3, b4⟩ := k zA zp ze zs zm za zb zt zc zH zo zl zh zv zw T hT X
  obtain ⟨⟨r, S', e1, e2, e3⟩, e4⟩ := b3
  exact ⟨t, a, o, b1, b2, ⟨⟨r, S', e1, h r S' e2, e3⟩, e4⟩, b4⟩
end JLV
theorem WM.b0 {S : jS} {b : Nat} {ad : Nat → Nat} {X : XS} (h : WM S b ad X) {m i : Nat} (hm : m < 48) (hi : i < 60) : sI S 10 (ad 27) (60 * m + i) = bI (xB X 0 m i) := (h.2.2.2.2.1 m hm i hi).1
theorem WM.b1 {S : jS} {b : Nat} {ad : Nat → Nat} {X : XS} (h : WM S b ad X) {m i : Nat} (hm : m < 48) (hi : i < 60) : sI S 10 (ad 35) (60 * m + i) = bI (xB X 1 m i) := (h.2.2.2.2.1 m hm i hi).2
theorem WM.congB {S : jS} {b : Nat} {ad : Nat → Nat} {X X' : XS} (h : WM S b ad X) (hv : xV X' = xV X) (hl : xL X' = xL X) (hb : ∀ w m i, i < 60 → xB X' w m i = xB X w m i) : WM S b ad X' := by
  refine ⟨h.1, fun f hf i hi => by rw [hv]; exact h.2.1 f hf i hi, ?_, fun s hs => by rw [hv]; exact h.2.2.2.1 s hs, fun m hm i hi => by rw [hb 0 m i hi, hb 1 m i hi]; exact h.2.2.2.2.1 m hm i hi, fun k hk => by rw [hl]; exact h.2.2.2.2.2.1 k hk, fun k hk => by rw [hl]; exact h.2.2.2.2.2.2.1 k hk, fun k hk => by rw [hl]; exact h.2.2.2.2.2.2.2 k hk⟩
  unfold mSca
  rw [hv]
  exact h.2.2.1
/-- a set's place is written -/
theorem WM.wB {S : jS} {b : Nat} {ad : Nat → Nat} {X : XS} (h : WM S b ad X) (w k : Nat) (hk : (w, k) = (0, 27) ∨ (w, k) = (1, 35)) (m i : Nat) (hi : i < 60) (v : Bool) : WM (uI S 10 (ad k) (60 * m + i) (bI v)) b ad (yB X w m i v) := by
  have n1 := h.ne (k := 12) (k' := 27) rfl rfl (by decide)
  have n2 := h.ne (k := 12) (k' := 35) rfl rfl (by decide)
  have n3 := h.ne (k := 27) (k' := 35) rfl rfl (by decide)
  refine ⟨h.1, fun f' hf' j hj => sI_nc (by decide) (h.2.1 f' hf' j hj), ?_, ?_, ?_, ?_, ?_, ?_⟩
  · obtain ⟨s1, s2, s3, s4, s5⟩ := h.2.2.1
    exact ⟨sI_nc (by decide) s1, sI_nc (by decide) s2, sI_nc (by decide) s3, sI_nc (by decide) s4, sI_nc (by decide) s5⟩
  · intro s hs
    rcases hk with e | e <;> cases e
    · exact sI_na n1 (h.2.2.2.1 s hs)
    · exact sI_na n2 (h.2.2.2.1 s hs)
  · intro m' hm' j hj
    have t := h.2.2.2.2.1 m' hm' j hj
    rw [xB_yB, xB_yB]
    have e0 : (60 * m' + j = 60 * m + i) ↔ (m' = m ∧ j = i) := by constructor <;> intro z <;> omega
    rcases hk with e | e <;> cases e
    · refine ⟨?_, by rw [if_neg (fun z => by cases z.1)]; exact sI_na n3.symm t.2⟩
      rw [sI_uI]
      by_cases z : m' = m ∧ j = i
      · rw [if_pos ⟨rfl, rfl, e0.mpr z⟩, if_pos ⟨rfl, z⟩]
      · rw [if_neg (fun y => z (e0.mp y.2.2)), if_neg (fun y => z y.2)]
        exact t.1
    · refine ⟨by rw [if_neg (fun z => by cases z.1)]; exact sI_na n3 t.1, ?_⟩
      rw [sI_uI]
      by_cases z : m' = m ∧ j = i
      · rw [if_pos ⟨rfl, rfl, e0.mpr z⟩, if_pos ⟨rfl, z⟩]
      · rw [if_neg (fun y => z (e0.mp y.2.2)), if_neg (fun y => z y.2)]
        exact t.2
  · intro k' hk'
    have := h.2.2.2.2.2.1 k' hk'
    exact ⟨fun e => sI_nc (by decide) (this.1 e), fun e t he => ⟨sI_nc (by decide) (this.2 e t he).1, sI_nc (by decide) (this.2 e t he).2.1, sI_nc (by decide) (this.2 e t he).2.2⟩⟩
  · intro q hq
    have := h.2.2.2.2.2.2.1 q hq
    exact ⟨this.1, sI_nc (by decide) this.2.1, fun j e he => ⟨sI_nc (by decide) (this.2.2 j e he).1, sI_nc (by decide) (this.2.2 j e he).2.1, sI_nc (by decide) (this.2.2 j e he).2.2⟩⟩
  · intro q hq
    have := h.2.2.2.2.2.2.2 q hq
    exact ⟨this.1, sI_nc (by decide) this.2.1, fun j e he => ⟨sI_nc (by decide) (this.2.2 j e he).1, sI_nc (by decide) (this.2.2 j e he).2.1, sI_nc (by decide) (this.2.2 j e he).2.2⟩⟩
set_option maxRecDepth 100000 in
theorem cm_missing (l : Launch) (g : jG) (hgt : Nat) {S : jS} {b : Nat} {ad : Nat → Nat} {X : XS} {m : Nat} (hW : WM S b ad X) (hI : xV X 10 m ≤ 60) (hm : m < 48) : CT l g mX10_missing hgt 0 0 [.ref b, .int (nI m)] S (jPure (.int (nI (x_missing X m))) S) := by
  refine CT_of qX10_missing (Nat.le_of_ble_eq_true rfl) ?_
  refine J_iconst (pc := 0) (v := nI 0) dX10_missing_0 (by decide) ?_
  refine J_istore_n (pc := 1) dX10_missing_1 rfl (by decide) ?_
  refine J_iconst (pc := 2) (v := nI 0) dX10_missing_2 (by decide) ?_
  refine J_istore_n (pc := 3) dX10_missing_3 rfl (by decide) ?_
  have loop : ∀ i, i ≤ xV X 10 m → J l g mX10_missing hgt 0 0 (jPure (.int (nI (x_missing X m))) S) 4 [(3, .int (nI i)), (2, .int (nI (cnt (fun i => !xB X 1 m i) i))), (0, .ref b), (1, .int (nI m))] [] S 0 0 := by
    refine down _ ?_ ?_
    · refine J_iload_n (pc := 4) dX10_missing_4 rfl rfl ?_
      refine J_aload_n (pc := 5) dX10_missing_5 rfl rfl ?_
      refine J_getr (pc := 6) (i := 18) cl8 hW.o (by decide) rfl (hW.r 18 rfl) kX10_50 dX10_missing_6 ?_
      refine J_iload_n (pc := 9) dX10_missing_9 rfl rfl ?_
      refine J_mld (pc := 10) hW 10 rfl rfl (by show _ < 48; omega) dX10_missing_10 ?_
      refine J_icmp_geN (pc := 11) (tgt := 42) dX10_missing_11 rfl (by omega) (by omega) (fun hc => ?_) (fun hc => ?_)
      · refine J_iload_n (pc := 42) dX10_missing_42 rfl rfl ?_
        refine J_iret (pc := 43) dX10_missing_43 rfl (by omega) (by omega) ?_
        exact ⟨rfl, rfl⟩
      · omega
    · intro i hi ih
      refine J_iload_n (pc := 4) dX10_missing_4 rfl rfl ?_
      refine J_aload_n (pc := 5) dX10_missing_5 rfl rfl ?_
      refine J_getr (pc := 6) (i := 18) cl8 hW.o (by decide) rfl (hW.r 18 rfl) kX10_50 dX10_missing_6 ?_
      refine J_iload_n (pc := 9) dX10_missing_9 rfl rfl ?_
      refine J_mld (pc := 10) hW 10 rfl rfl (by show _ < 48; omega) dX10_missing_10 ?_
      refine J_icmp_geN (pc := 11) (tgt := 42) dX10_missing_11 rfl (by omega) (by omega) (fun hc => ?_) (fun hc => ?_)
      · omega
      · have e : cnt (fun i => !xB X 1 m i) (i + 1) = cnt (fun i => !xB X 1 m i) i + if !xB X 1 m i then 1 else 0 := rfl
        refine J_iload_n (pc := 14) dX10_missing_14 rfl rfl ?_
        refine J_aload_n (pc := 15) dX10_missing_15 rfl rfl ?_
        refine J_getr (pc := 16) (i := 35) cl8 hW.o (by decide) rfl (hW.r 35 rfl) kX10_101 dX10_missing_16 ?_
        refine J_bipush (pc := 19) (v := nI 60) dX10_missing_19 (by decide) ?_
        refine J_iload_n (pc := 21) dX10_missing_21 rfl rfl ?_
        first | refine J_imulN (pc := 22) dX10_missing_22 ?_ | refine J_imul (pc := 22) dX10_missing_22 ?_
        refine J_iload_n (pc := 23) dX10_missing_23 rfl rfl ?_
        first | refine J_iaddN (pc := 24) dX10_missing_24 ?_ | refine J_iadd (pc := 24) dX10_missing_24 ?_
        refine J_zald (pc := 25) (hW.a 35 rfl) rfl (show _ < 2880 by omega) (by first | omega | exact mLn_lt _) (hW.b1 hm (by omega)) dX10_missing_25 ?_
        refine J_if_eqB (pc := 26) (tgt := 33) dX10_missing_26 rfl (fun hc => ?_) (fun hc => ?_)
        · refine J_iconst (pc := 33) (v := nI 1) dX10_missing_33 (by decide) ?_
          first | refine J_iaddN (pc := 34) dX10_missing_34 ?_ | refine J_iadd (pc := 34) dX10_missing_34 ?_
          refine J_istore_n (pc := 35) dX10_missing_35 rfl (by decide) ?_
          refine J_iinc (pc := 36) dX10_missing_36 rfl (inc1 _) (by decide) ?_
          refine J_goto (pc := 39) (tgt := 4) dX10_missing_39 rfl ?_
          rw [hc] at e
          refine J_lv ?_ ih
          exact ⟨rfl, by rw [e]; rfl, rfl, rfl, trivial⟩
        · refine J_iconst (pc := 29) (v := nI 0) dX10_missing_29 (by decide) ?_
          refine J_goto (pc := 30) (tgt := 34) dX10_missing_30 rfl ?_
          first | refine J_iaddN (pc := 34) dX10_missing_34 ?_ | refine J_iadd (pc := 34) dX10_missing_34 ?_
          refine J_istore_n (pc := 35) dX10_missing_35 rfl (by decide) ?_
          refine J_iinc (pc := 36) dX10_missing_36 rfl (inc1 _) (by decide) ?_
          refine J_goto (pc := 39) (tgt := 4) dX10_missing_39 rfl ?_
          rw [hc] at e
          refine J_lv ?_ ih
          exact ⟨rfl, by rw [e]; rfl, rfl, rfl, trivial⟩
  exact loop 0 (by omega)
set_option maxRecDepth 100000 in
theorem cm_want2 (l : Launch) (g : jG) (hgt : Nat) {S : jS} {b : Nat} {ad : Nat → Nat} {X : XS} {m i : Nat} (hW : WM S b ad X) (h1 : xV X 13 m ≤ 60) (hm : m < 48) (hi : i < 64) : CT l g mX10_want hgt 0 0 [.ref b, .int (nI m), .int (nI i)] S (mPost b ad (x_want X m i)) := by
  refine CT_of qX10_want (Nat.le_of_ble_eq_true rfl) ?_
  refine J_iload_n (pc := 0) dX10_want_0 rfl rfl ?_
  refine J_aload_n (pc := 1) dX10_want_1 rfl rfl ?_
  refine J_getr (pc := 2) (i := 21) cl8 hW.o (by decide) rfl (hW.r 21 rfl) kX10_59 dX10_want_2 ?_
  refine J_iload_n (pc := 5) dX10_want_5 rfl rfl ?_
  refine J_mld (pc := 6) hW 13 rfl rfl (by show _ < 48; omega) dX10_want_6 ?_
  refine J_icmp_geN (pc := 7) (tgt := 22) dX10_want_7 rfl (by omega) (by omega) (fun hc => ?_) (fun hc => ?_)
  · refine J_vret (pc := 22) dX10_want_22 rfl (by omega) (by omega) ?_
    exact ⟨rfl, by rw [x_want, if_neg (by omega)]; exact hW⟩
  · have h60 : i < 60 := by omega
    refine J_aload_n (pc := 10) dX10_want_10 rfl rfl ?_
    refine J_getr (pc := 11) (i := 27) cl8 hW.o (by decide) rfl (hW.r 27 rfl) kX10_77 dX10_want_11 ?_
    refine J_bipush (pc := 14) (v := nI 60) dX10_want_14 (by decide) ?_
    refine J_iload_n (pc := 16) dX10_want_16 rfl rfl ?_
    first | refine J_imulN (pc := 17) dX10_want_17 ?_ | refine J_imul (pc := 17) dX10_want_17 ?_
    refine J_iload_n (pc := 18) dX10_want_18 rfl rfl ?_
    first | refine J_iaddN (pc := 19) dX10_want_19 ?_ | refine J_iadd (pc := 19) dX10_want_19 ?_
    refine J_iconst (pc := 20) (v := nI 1) dX10_want_20 (by decide) ?_
    refine J_zast (pc := 21) (hW.a 27 rfl) rfl (show _ < 2880 by omega) (by first | omega | exact mLn_lt _) rfl dX10_want_21 ?_
    have hW := hW.wB 0 27 (by decide) m i h60 true
    refine J_vret (pc := 22) dX10_want_22 rfl (by omega) (by omega) ?_
    exact ⟨rfl, by rw [x_want, if_pos (by omega)]; exact hW⟩
theorem cm_want (l : Launch) (g : jG) (hgt : Nat) {S : jS} {b : Nat} {ad : Nat → Nat} {X : XS} {m i : Nat} (hW : WM S b ad X) (hI : xOK X) (hm : m < 48) (hi : i < 64) : CT l g mX10_want hgt 0 0 [.ref b, .int (nI m), .int (nI i)] S (mPost b ad (x_want X m i)) := cm_want2 l g hgt hW (by have := hI.msg hm; omega) hm hi
set_option maxRecDepth 100000 in
theorem cm_least (l : Launch) (g : jG) (hgt : Nat) {S : jS} {b : Nat} {ad : Nat → Nat} {X : XS} {m : Nat} (hW : WM S b ad X) (hm : m < 48) : CT l g mX10_least hgt 0 0 [.ref b, .int (nI m)] S (jPure (.int (if x_least X m < 60 then nI (x_least X m) else -1)) S) := by
  refine CT_of qX10_least (Nat.le_of_ble_eq_true rfl) ?_
  refine J_iconst (pc := 0) (v := nI 0) dX10_least_0 (by decide) ?_
  refine J_istore_n (pc := 1) dX10_least_1 rfl (by decide) ?_
  have loop : ∀ i, i ≤ 60 → (∀ j, j < i → xB X 0 m j = false) → J l g mX10_least hgt 0 0 (jPure (.int (if x_least X m < 60 then nI (x_least X m) else -1)) S) 2 [(2, .int (nI i)), (0, .ref b), (1, .int (nI m))] [] S 0 0 := by
    refine down _ ?_ ?_
    · intro hno
      refine J_iload_n (pc := 2) dX10_least_2 rfl rfl ?_
      refine J_bipush (pc := 3) (v := nI 60) dX10_least_3 (by decide) ?_
      refine J_icmp_geN (pc := 5) (tgt := 30) dX10_least_5 rfl (by omega) (by omega) (fun hc => ?_) (fun hc => ?_)
      · refine J_iconst (pc := 30) (v := (-1)) dX10_least_30 (by decide) ?_
        refine J_iret (pc := 31) dX10_least_31 rfl (by omega) (by omega) ?_
        exact ⟨by rw [x_least, lst_none hno, if_neg (by decide)], rfl⟩
      · omega
    · intro i hi ih hno
      refine J_iload_n (pc := 2) dX10_least_2 rfl rfl ?_
      refine J_bipush (pc := 3) (v := nI 60) dX10_least_3 (by decide) ?_
      refine J_icmp_geN (pc := 5) (tgt := 30) dX10_least_5 rfl (by omega) (by omega) (fun hc => ?_) (fun hc => ?_)
      · omega
      · refine J_aload_n (pc := 8) dX10_least_8 rfl rfl ?_
        refine J_getr (pc := 9) (i := 27) cl8 hW.o (by decide) rfl (hW.r 27 rfl) kX10_77 dX10_least_9 ?_
        refine J_bipush (pc := 12) (v := nI 60) dX10_least_12 (by decide) ?_
        refine J_iload_n (pc := 14) dX10_least_14 rfl rfl ?_
        first | refine J_imulN (pc := 15) dX10_least_15 ?_ | refine J_imul (pc := 15) dX10_least_15 ?_
        refine J_iload_n (pc := 16) dX10_least_16 rfl rfl ?_
        first | refine J_iaddN (pc := 17) dX10_least_17 ?_ | refine J_iadd (pc := 17) dX10_least_17 ?_
        refine J_zald (pc := 18) (hW.a 27 rfl) rfl (show _ < 2880 by omega) (by first | omega | exact mLn_lt _) (hW.b0 hm (by omega)) dX10_least_18 ?_
        refine J_if_eqB (pc := 19) (tgt := 24) dX10_least_19 rfl (fun hc => ?_) (fun hc => ?_)
        · refine J_iinc (pc := 24) dX10_least_24 rfl (inc1 _) (by decide) ?_
          refine J_goto (pc := 27) (tgt := 2) dX10_least_27 rfl ?_
          refine J_lv ?_ (ih (fun j hj => ?_))
          · exact ⟨rfl, rfl, rfl, trivial⟩
          · by_cases e : j = i
            · subst e
              exact hc
            · exact hno j (by omega)
        · refine J_iload_n (pc := 22) dX10_least_22 rfl rfl ?_
          refine J_iret (pc := 23) dX10_least_23 rfl (by omega) (by omega) ?_
          exact ⟨by rw [x_least, lst_of hi hc hno, if_pos hi], rfl⟩
  exact loop 0 (by omega) (fun j hj => absurd hj (Nat.not_lt_zero _))
set_option maxRecDepth 100000 in
theorem cm_left (l : Launch) (g : jG) (hgt : Nat) {S : jS} {b : Nat} {ad : Nat → Nat} {X : XS} {m : Nat} (hW : WM S b ad X) (hI : xOK X) (hm : m < 48) : CT l g mX10_left hgt 0 0 [.ref b, .int (nI m)] S (jPure (.int (nI (x_left X m))) S) := by
  have h1 := hI.msg hm
  refine CT_of qX10_left (Nat.le_of_ble_eq_true rfl) ?_
  refine J_aload_n (pc := 0) dX10_left_0 rfl rfl ?_
  refine J_getr (pc := 1) (i := 18) cl8 hW.o (by decide) rfl (hW.r 18 rfl) kX10_50 dX10_left_1 ?_
  refine J_iload_n (pc := 4) dX10_left_4 rfl rfl ?_
  refine J_mld (pc := 5) hW 10 rfl rfl (by show _ < 48; omega) dX10_left_5 ?_
  refine J_aload_n (pc := 6) dX10_left_6 rfl rfl ?_
  refine J_getr (pc := 7) (i := 21) cl8 hW.o (by decide) rfl (hW.r 21 rfl) kX10_59 dX10_left_7 ?_
  refine J_iload_n (pc := 10) dX10_left_10 rfl rfl ?_
  refine J_mld (pc := 11) hW 13 rfl rfl (by show _ < 48; omega) dX10_left_11 ?_
  first | refine J_isubN (pc := 12) dX10_left_12 (by omega) ?_ | refine J_isub (pc := 12) dX10_left_12 ?_
  refine J_istore_n (pc := 13) dX10_left_13 rfl (by decide) ?_
  refine J_iconst (pc := 14) (v := nI 0) dX10_left_14 (by decide) ?_
  refine J_istore_n (pc := 15) dX10_left_15 rfl (by decide) ?_
  have loop : ∀ i, i ≤ 60 → J l g mX10_left hgt 0 0 (jPure (.int (nI (x_left X m))) S) 16 [(3, .int (nI i)), (2, .int (nI (xV X 10 m - xV X 13 m + cnt (xB X 0 m) i))), (0, .ref b), (1, .int (nI m))] [] S 0 0 := by
    refine down _ ?_ ?_
    · refine J_iload_n (pc := 16) dX10_left_16 rfl rfl ?_
      refine J_bipush (pc := 17) (v := nI 60) dX10_left_17 (by decide) ?_
      refine J_icmp_geN (pc := 19) (tgt := 50) dX10_left_19 rfl (by omega) (by omega) (fun hc => ?_) (fun hc => ?_)
      · refine J_iload_n (pc := 50) dX10_left_50 rfl rfl ?_
        refine J_iret (pc := 51) dX10_left_51 rfl (by omega) (by omega) ?_
        exact ⟨rfl, rfl⟩
      · omega
    · intro i hi ih
      refine J_iload_n (pc := 16) dX10_left_16 rfl rfl ?_
      refine J_bipush (pc := 17) (v := nI 60) dX10_left_17 (by decide) ?_
      refine J_icmp_geN (pc := 19) (tgt := 50) dX10_left_19 rfl (by omega) (by omega) (fun hc => ?_) (fun hc => ?_)
      · omega
      · have e : cnt (xB X 0 m) (i + 1) = cnt (xB X 0 m) i + if xB X 0 m i then 1 else 0 := rfl
        refine J_iload_n (pc := 22) dX10_left_22 rfl rfl ?_
        refine J_aload_n (pc := 23) dX10_left_23 rfl rfl ?_
        refine J_getr (pc := 24) (i := 27) cl8 hW.o (by decide) rfl (hW.r 27 rfl) kX10_77 dX10_left_24 ?_
        refine J_bipush (pc := 27) (v := nI 60) dX10_left_27 (by decide) ?_
        refine J_iload_n (pc := 29) dX10_left_29 rfl rfl ?_
        first | refine J_imulN (pc := 30) dX10_left_30 ?_ | refine J_imul (pc := 30) dX10_left_30 ?_
        refine J_iload_n (pc := 31) dX10_left_31 rfl rfl ?_
        first | refine J_iaddN (pc := 32) dX10_left_32 ?_ | refine J_iadd (pc := 32) dX10_left_32 ?_
        refine J_zald (pc := 33) (hW.a 27 rfl) rfl (show _ < 2880 by omega) (by first | omega | exact mLn_lt _) (hW.b0 hm (by omega)) dX10_left_33 ?_
        refine J_if_eqB (pc := 34) (tgt := 41) dX10_left_34 rfl (fun hc => ?_) (fun hc => ?_)
        · refine J_iconst (pc := 41) (v := nI 0) dX10_left_41 (by decide) ?_
          first | refine J_iaddN (pc := 42) dX10_left_42 ?_ | refine J_iadd (pc := 42) dX10_left_42 ?_
          refine J_istore_n (pc := 43) dX10_left_43 rfl (by decide) ?_
          refine J_iinc (pc := 44) dX10_left_44 rfl (inc1 _) (by decide) ?_
          refine J_goto (pc := 47) (tgt := 16) dX10_left_47 rfl ?_
          rw [hc] at e
          refine J_lv ?_ ih
          exact ⟨rfl, by rw [e]; rfl, rfl, rfl, trivial⟩
        · refine J_iconst (pc := 37) (v := nI 1) dX10_left_37 (by decide) ?_
          refine J_goto (pc := 38) (tgt := 42) dX10_left_38 rfl ?_
          first | refine J_iaddN (pc := 42) dX10_left_42 ?_ | refine J_iadd (pc := 42) dX10_left_42 ?_
          refine J_istore_n (pc := 43) dX10_left_43 rfl (by decide) ?_
          refine J_iinc (pc := 44) dX10_left_44 rfl (inc1 _) (by decide) ?_
          refine J_goto (pc := 47) (tgt := 16) dX10_left_47 rfl ?_
          rw [hc] at e
          refine J_lv ?_ ih
          exact ⟨rfl, by rw [e]; rfl, rfl, rfl, trivial⟩
  exact loop 0 (by omega)
