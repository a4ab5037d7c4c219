/-! memory: addresses, kinds, ints, longs, references by (kind, address, place), lengths of arrays.
kinds: 0 Cutoffs, 1 Fabric, 2 Host, 3 Message, 4 Receiving, 5 Row, 6 Sending, 7 GrantNet, 8 GrantNetModel, 9 int[], 10 boolean[], 11 Host[], 12 Message[], 13 Row[] -/
abbrev jS : Type := List Nat × (Nat → Nat) × (Nat → Nat → Nat → Int32) × (Nat → Nat → Nat → Int64) × (Nat → Nat → Nat → Option Nat) × (Nat → Nat)
abbrev jG : Type := (Nat → ClassId) × (Nat → Nat → Nat) × (Nat → ClassId)
def sI (S : jS) : Nat → Nat → Nat → Int32 := S.2.2.1
def sJ (S : jS) : Nat → Nat → Nat → Int64 := S.2.2.2.1
def sP (S : jS) : Nat → Nat → Nat → Option Nat := S.2.2.2.2.1
def sN (S : jS) : Nat → Nat := S.2.2.2.2.2
def sAt (S : jS) (c a : Nat) : Prop := a ∈ S.1 ∧ S.2.1 a = c
def uI (S : jS) (c a k : Nat) (v : Int32) : jS := (S.1, S.2.1, (fun c' a' k' => if c' = c ∧ a' = a ∧ k' = k then v else S.2.2.1 c' a' k'), S.2.2.2)
def uJ (S : jS) (c a k : Nat) (v : Int64) : jS := (S.1, S.2.1, S.2.2.1, (fun c' a' k' => if c' = c ∧ a' = a ∧ k' = k then v else S.2.2.2.1 c' a' k'), S.2.2.2.2)
def uP (S : jS) (c a k : Nat) (v : Option Nat) : jS := (S.1, S.2.1, S.2.2.1, S.2.2.2.1, (fun c' a' k' => if c' = c ∧ a' = a ∧ k' = k then v else S.2.2.2.2.1 c' a' k'), S.2.2.2.2.2)
def nX (S : jS) (a c n : Nat) : jS := (S.1 ++ [a], va_up S.2.1 a c, (fun c' a' k' => if c' = c ∧ a' = a then 0 else S.2.2.1 c' a' k'), (fun c' a' k' => if c' = c ∧ a' = a then 0 else S.2.2.2.1 c' a' k'), (fun c' a' k' => if c' = c ∧ a' = a then none else S.2.2.2.2.1 c' a' k'), va_up S.2.2.2.2.2 a n)
def jTy : Nat → Nat → FieldType := fun c => match c with
  | 0 => tyX1
  | 1 => tyX2
  | 2 => tyX3
  | 3 => tyX4
  | 4 => tyX6
  | 5 => tyX7
  | 6 => tyX8
  | 7 => tyX9
  | _ => tyX10
def jN : Nat → Nat := fun c => match c with
  | 0 => 6
  | 1 => 7
  | 2 => 11
  | 3 => 6
  | 4 => 10
  | 5 => 3
  | 6 => 9
  | 7 => 5
  | _ => 46
def fv (ty : FieldType) (S : jS) (c a k : Nat) : Value := match ty with
  | .long => .long (S.2.2.2.1 c a k)
  | .object _ => va_rf (S.2.2.2.2.1 c a k)
  | .array _ => va_rf (S.2.2.2.2.1 c a k)
  | _ => .int (S.2.2.1 c a k)
def fvs (S : jS) (c a : Nat) : List Value := (List.range (jN c)).map (fun k => fv (jTy c k) S c a k)
def cellOf (g : jG) (S : jS) (a : Nat) : va_E := if S.2.1 a < 9 then .inr (S.2.1 a, fvs S (S.2.1 a) a) else if S.2.1 a < 11 then .inl (g.2.2 (S.2.1 a), S.2.2.2.2.2 a, .inl (S.2.2.1 (S.2.1 a) a)) else .inl (g.2.2 (S.2.1 a), S.2.2.2.2.2 a, .inr (.inr (.inr (.inr (S.2.2.2.2.1 (S.2.1 a) a)))))
abbrev jW (g : jG) (S : jS) : va_W := va_pl S.1 (cellOf g S)
abbrev jTys (g : jG) : List (ClassId × FieldType) := [(g.2.2 9, .int), (g.2.2 10, .boolean), (g.2.2 11, .object RX3), (g.2.2 12, .object RX4), (g.2.2 13, .object RX7)]
/-! reading behind a write -/
theorem sI_uI (S : jS) (c a k : Nat) (v : Int32) (c' a' k' : Nat) : sI (uI S c a k v) c' a' k' = if c' = c ∧ a' = a ∧ k' = k then v else sI S c' a' k' := rfl
theorem sJ_uJ (S : jS) (c a k : Nat) (v : Int64) (c' a' k' : Nat) : sJ (uJ S c a k v) c' a' k' = if c' = c ∧ a' = a ∧ k' = k then v else sJ S c' a' k' := rfl
theorem sP_uP (S : jS) (c a k : Nat) (v : Option Nat) (c' a' k' : Nat) : sP (uP S c a k v) c' a' k' = if c' = c ∧ a' = a ∧ k' = k then v else sP S c' a' k' := rfl
theorem sJ_uI (S : jS) (c a k : Nat) (v : Int32) : sJ (uI S c a k v) = sJ S := rfl
theorem sP_uI (S : jS) (c a k : Nat) (v : Int32) : sP (uI S c a k v) = sP S := rfl
theorem sN_uI (S : jS) (c a k : Nat) (v : Int32) : sN (uI S c a k v) = sN S := rfl
theorem sI_uJ (S : jS) (c a k : Nat) (v : Int64) : sI (uJ S c a k v) = sI S := rfl
theorem sP_uJ (S : jS) (c a k : Nat) (v : Int64) : sP (uJ S c a k v) = sP S := rfl
theorem sN_uJ (S : jS) (c a k : Nat) (v : Int64) : sN (uJ S c a k v) = sN S := rfl
theorem sI_uP (S : jS) (c a k : Nat) (v : Option Nat) : sI (uP S c a k v) = sI S := rfl
theorem sJ_uP (S : jS) (c a k : Nat) (v : Option Nat) : sJ (uP S c a k v) = sJ S := rfl
theorem sN_uP (S : jS) (c a k : Nat) (v : Option Nat) : sN (uP S c a k v) = sN S := rfl
theorem sAt_uI (S : jS) (c a k : Nat) (v : Int32) (c' a' : Nat) : sAt (uI S c a k v) c' a' = sAt S c' a' := rfl
theorem sAt_uJ (S : jS) (c a k : Nat) (v : Int64) (c' a' : Nat) : sAt (uJ S c a k v) c' a' = sAt S c' a' := rfl
theorem sAt_uP (S : jS) (c a k : Nat) (v : Option Nat) (c' a' : Nat) : sAt (uP S c a k v) c' a' = sAt S c' a' := rfl
theorem sAt.ne {S : jS} {c c' a a' : Nat} (h : sAt S c a) (h' : sAt S c' a') (hc : c ≠ c') : a ≠ a' := fun e => hc (by rw [← h.2, ← h'.2, e])
/-! the pool's rows -/
theorem jW_get (g : jG) {S : jS} {c a : Nat} (h : sAt S c a) : ∃ k : Nat, (jW g S)[k]? = some (a, cellOf g S a) := va_pl_get (X := []) h.1
theorem cell_obj (g : jG) {S : jS} {c a : Nat} (h : sAt S c a) (hc : c < 9) : cellOf g S a = .inr (c, fvs S c a) := by
  unfold cellOf
  rw [h.2, if_pos hc]
theorem cell_int (g : jG) {S : jS} {c a : Nat} (h : sAt S c a) (hc : 9 ≤ c) (hc2 : c < 11) : cellOf g S a = .inl (g.2.2 c, sN S a, .inl (sI S c a)) := by
  unfold cellOf
  rw [h.2, if_neg (by omega), if_pos hc2]
  rfl
theorem cell_ref (g : jG) {S : jS} {c a : Nat} (h : sAt S c a) (hc : 11 ≤ c) : cellOf g S a = .inl (g.2.2 c, sN S a, .inr (.inr (.inr (.inr (sP S c a))))) := by
  unfold cellOf
  rw [h.2, if_neg (by omega), if_neg (by omega)]
  rfl
theorem fvs_at {S : jS} {c a k : Nat} (hk : k < jN c) : (fvs S c a)[k]? = some (fv (jTy c k) S c a k) := by
  unfold fvs
  rw [List.getElem?_map, List.getElem?_range hk]
  rfl
theorem fvs_len {S : jS} {c a : Nat} : (fvs S c a).length = jN c := by unfold fvs; rw [List.length_map, List.length_range]
theorem fv_otherI {ty : FieldType} {S : jS} {c a k : Nat} {v : Int32} {c' a' k' : Nat} (h : ¬ (c' = c ∧ a' = a ∧ k' = k)) : fv ty (uI S c a k v) c' a' k' = fv ty S c' a' k' := by
  cases ty <;> simp [fv, uI, h]
theorem fv_otherJ {ty : FieldType} {S : jS} {c a k : Nat} {v : Int64} {c' a' k' : Nat} (h : ¬ (c' = c ∧ a' = a ∧ k' = k)) : fv ty (uJ S c a k v) c' a' k' = fv ty S c' a' k' := by
  cases ty <;> simp [fv, uJ, h]
theorem fv_otherP {ty : FieldType} {S : jS} {c a k : Nat} {v : Option Nat} {c' a' k' : Nat} (h : ¬ (c' = c ∧ a' = a ∧ k' = k)) : fv ty (uP S c a k v) c' a' k' = fv ty S c' a' k' := by
  cases ty <;> simp [fv, uP, h]
theorem fvs_set {S S' : jS} {c a k : Nat} {w : Value} (h1 : fv (jTy c k) S' c a k = w) (h2 : ∀ j, j ≠ k → fv (jTy c j) S' c a j = fv (jTy c j) S c a j) : (fvs S c a).set k w = fvs S' c a := by
  apply List.ext_getElem?
  intro j
  by_cases hj : j < jN c
  · rw [fvs_at hj]
    by_cases e : j = k
    · subst e
      rw [List.getElem?_set_self (by rw [fvs_len]; exact hj), h1]
    · rw [List.getElem?_set_ne (Ne.symm e), fvs_at hj, h2 j e]
  · rw [List.getElem?_eq_none (by rw [List.length_set, fvs_len]; omega), List.getElem?_eq_none (by rw [fvs_len]; omega)]
theorem cell_uI (g : jG) {S : jS} {c a k : Nat} {v : Int32} (h : sAt S c a) (hc : c < 9) (ht : fv (jTy c k) (uI S c a k v) c a k = .int v) (b : Nat) : va_up (cellOf g S) a (.inr (c, (fvs S c a).set k (.int v))) b = cellOf g (uI S c a k v) b := by
  by_cases hb : b = a
  · subst hb
    rw [va_up_self, cell_obj g (S := uI S c b k v) (c := c) h hc, fvs_set ht (fun j hj => fv_otherI (by simp [hj]))]
  · rw [va_up_ne _ _ hb]
    unfold cellOf fvs
    simp only [fv_otherI (show ∀ {c' k' : Nat}, ¬ (c' = c ∧ b = a ∧ k' = k) from fun h => hb h.2.1)]
    have e : (uI S c a k v).2.2.1 (S.2.1 b) b = S.2.2.1 (S.2.1 b) b := funext fun j => by simp [uI, hb]
    show (if S.2.1 b < 9 then _ else if S.2.1 b < 11 then Sum.inl (g.2.2 (S.2.1 b), S.2.2.2.2.2 b, Sum.inl (S.2.2.1 (S.2.1 b) b)) else _) = (if S.2.1 b < 9 then _ else if S.2.1 b < 11 then Sum.inl (g.2.2 (S.2.1 b), S.2.2.2.2.2 b, Sum.inl ((uI S c a k v).2.2.1 (S.2.1 b) b)) else _)
    rw [e]
    rfl
theorem cell_uJ (g : jG) {S : jS} {c a k : Nat} {v : Int64} (h : sAt S c a) (hc : c < 9) (ht : fv (jTy c k) (uJ S c a k v) c a k = .long v) (b : Nat) : va_up (cellOf g S) a (.inr (c, (fvs S c a).set k (.long v))) b = cellOf g (uJ S c a k v) b := by
  by_cases hb : b = a
  · subst hb
    rw [va_up_self, cell_obj g (S := uJ S c b k v) (c := c) h hc, fvs_set ht (fun j hj => fv_otherJ (by simp [hj]))]
  · rw [va_up_ne _ _ hb]
    unfold cellOf fvs
    simp only [fv_otherJ (show ∀ {c' k' : Nat}, ¬ (c' = c ∧ b = a ∧ k' = k) from fun h => hb h.2.1)]
    rfl
theorem cell_uP (g : jG) {S : jS} {c a k : Nat} {v : Option Nat} (h : sAt S c a) (hc : c < 9) (ht : fv (jTy c k) (uP S c a k v) c a k = va_rf v) (b : Nat) : va_up (cellOf g S) a (.inr (c, (fvs S c a).set k (va_rf v))) b = cellOf g (uP S c a k v) b := by
  by_cases hb : b = a
  · subst hb
    rw [va_up_self, cell_obj g (S := uP S c b k v) (c := c) h hc, fvs_set ht (fun j hj => fv_otherP (by simp [hj]))]
  · rw [va_up_ne _ _ hb]
    unfold cellOf fvs
    simp only [fv_otherP (show ∀ {c' k' : Nat}, ¬ (c' = c ∧ b = a ∧ k' = k) from fun h => hb h.2.1)]
    have e : (uP S c a k v).2.2.2.2.1 (S.2.1 b) b = S.2.2.2.2.1 (S.2.1 b) b := funext fun j => by simp [uP, hb]
    show (if S.2.1 b < 9 then _ else if S.2.1 b < 11 then _ else Sum.inl (g.2.2 (S.2.1 b), S.2.2.2.2.2 b, Sum.inr (Sum.inr (Sum.inr (Sum.inr (S.2.2.2.2.1 (S.2.1 b) b)))))) = (if S.2.1 b < 9 then _ else if S.2.1 b < 11 then _ else Sum.inl (g.2.2 (S.2.1 b), S.2.2.2.2.2 b, Sum.inr (Sum.inr (Sum.inr (Sum.inr ((uP S c a k v).2.2.2.2.1 (S.2.1 b) b))))))
    rw [e]
    rfl
theorem cell_uA (g : jG) {S : jS} {c a k : Nat} {v : Int32} (h : sAt S c a) (hc : 9 ≤ c) (hc2 : c < 11) (b : Nat) : va_up (cellOf g S) a (.inl (g.2.2 c, sN S a, .inl (upd (sI S c a) k v))) b = cellOf g (uI S c a k v) b := by
  by_cases hb : b = a
  · subst hb
    rw [va_up_self, cell_int g (S := uI S c b k v) (c := c) h hc hc2]
    have e : upd (sI S c b) k v = sI (uI S c b k v) c b := funext fun j => by simp [upd, sI_uI]
    rw [e]
    rfl
  · rw [va_up_ne _ _ hb]
    unfold cellOf fvs
    simp only [fv_otherI (show ∀ {c' k' : Nat}, ¬ (c' = c ∧ b = a ∧ k' = k) from fun h => hb h.2.1)]
    have e : (uI S c a k v).2.2.1 (S.2.1 b) b = S.2.2.1 (S.2.1 b) b := funext fun j => by simp [uI, hb]
    show (if S.2.1 b < 9 then _ else if S.2.1 b < 11 then Sum.inl (g.2.2 (S.2.1 b), S.2.2.2.2.2 b, Sum.inl (S.2.2.1 (S.2.1 b) b)) else _) = (if S.2.1 b < 9 then _ else if S.2.1 b < 11 then Sum.inl (g.2.2 (S.2.1 b), S.2.2.2.2.2 b, Sum.inl ((uI S c a k v).2.2.1 (S.2.1 b) b)) else _)
    rw [e]
    rfl
theorem cell_uR (g : jG) {S : jS} {c a k : Nat} {v : Option Nat} (h : sAt S c a) (hc : 11 ≤ c) (b : Nat) : va_up (cellOf g S) a (.inl (g.2.2 c, sN S a, .inr (.inr (.inr (.inr (va_up (sP S c a) k v)))))) b = cellOf g (uP S c a k v) b := by
  by_cases hb : b = a
  · subst hb
    rw [va_up_self, cell_ref g (S := uP S c b k v) (c := c) h hc]
    have e : va_up (sP S c b) k v = sP (uP S c b k v) c b := funext fun j => by simp [va_up, sP_uP]
    rw [e]
    rfl
  · rw [va_up_ne _ _ hb]
    unfold cellOf fvs
    simp only [fv_otherP (show ∀ {c' k' : Nat}, ¬ (c' = c ∧ b = a ∧ k' = k) from fun h => hb h.2.1)]
    have e : (uP S c a k v).2.2.2.2.1 (S.2.1 b) b = S.2.2.2.2.1 (S.2.1 b) b := funext fun j => by simp [uP, hb]
    show (if S.2.1 b < 9 then _ else if S.2.1 b < 11 then _ else Sum.inl (g.2.2 (S.2.1 b), S.2.2.2.2.2 b, Sum.inr (Sum.inr (Sum.inr (Sum.inr (S.2.2.2.2.1 (S.2.1 b) b)))))) = (if S.2.1 b < 9 then _ else if S.2.1 b < 11 then _ else Sum.inl (g.2.2 (S.2.1 b), S.2.2.2.2.2 b, Sum.inr (Sum.inr (Sum.inr (Sum.inr ((uP S c a k v).2.2.2.2.1 (S.2.1 b) b))))))
    rw [e]
    rfl
theorem jW_set (g : jG) {S S' : jS} {A : Nat → Prop} {a k : Nat} {e : va_E} (hD : va_D A (jW g S)) (hL : a ∈ S.1) (hk : (jW g S)[k]? = some (a, cellOf g S a)) (hl : S'.1 = S.1) (hc : ∀ b, va_up (cellOf g S) a e b = cellOf g S' b) : (jW g S).set k (a, e) = jW g S' := by
  have h1 := va_pl_set (X := []) (e := e) hD hL hk
  rw [List.nil_append, List.nil_append] at h1
  rw [h1]
  show va_pl S.1 _ = va_pl S'.1 _
  rw [hl]
  exact va_pl_congr hc
theorem fv_new {ty : FieldType} {S : jS} {a c n : Nat} {c' a' k' : Nat} (h : ¬ (c' = c ∧ a' = a)) : fv ty (nX S a c n) c' a' k' = fv ty S c' a' k' := by
  cases ty <;> simp [fv, nX, h]
theorem cell_newOther (g : jG) {S : jS} {a c n b : Nat} (hb : b ≠ a) : cellOf g (nX S a c n) b = cellOf g S b := by
  unfold cellOf fvs
  simp only [fv_new (show ∀ {c' : Nat}, ¬ (c' = c ∧ b = a) from fun h => hb h.2)]
  have e0 : (nX S a c n).2.1 b = S.2.1 b := va_up_ne _ _ hb
  have e1 : ∀ q, (nX S a c n).2.2.1 q b = S.2.2.1 q b := fun q => funext fun j => by simp [nX, hb]
  have e2 : ∀ q, (nX S a c n).2.2.2.2.1 q b = S.2.2.2.2.1 q b := fun q => funext fun j => by simp [nX, hb]
  have e3 : (nX S a c n).2.2.2.2.2 b = S.2.2.2.2.2 b := va_up_ne _ _ hb
  rw [e0, e1, e2, e3]
theorem sAt_new {S : jS} {a c n : Nat} : sAt (nX S a c n) c a := ⟨List.mem_append_right _ List.mem_cons_self, va_up_self _ _ _⟩
theorem sAt_old {S : jS} {a c n c' a' : Nat} (h : sAt S c' a') (hn : a ∉ S.1) : sAt (nX S a c n) c' a' := ⟨List.mem_append_left _ h.1, by
  show va_up S.2.1 a c a' = c'
  have hne : a' ≠ a := fun e => hn (by rw [← e]; exact h.1)
  rw [va_up_ne _ _ hne]
  exact h.2⟩
theorem jW_new (g : jG) {S : jS} {a c n : Nat} {e : va_E} (hn : a ∉ S.1) (he : cellOf g (nX S a c n) a = e) : jW g S ++ [(a, e)] = jW g (nX S a c n) := by
  show va_pl S.1 _ ++ _ = va_pl (S.1 ++ [a]) _
  rw [va_pl_push hn]
  refine va_pl_congr fun b => ?_
  by_cases hb : b = a
  · subst hb
    rw [va_up_self, he]
  · rw [va_up_ne _ _ hb, cell_newOther g hb]
theorem sI_new (S : jS) (a c n : Nat) (c' a' k' : Nat) : sI (nX S a c n) c' a' k' = if c' = c ∧ a' = a then 0 else sI S c' a' k' := rfl
theorem sJ_new (S : jS) (a c n : Nat) (c' a' k' : Nat) : sJ (nX S a c n) c' a' k' = if c' = c ∧ a' = a then 0 else sJ S c' a' k' := rfl
theorem sP_new (S : jS) (a c n : Nat) (c' a' k' : Nat) : sP (nX S a c n) c' a' k' = if c' = c ∧ a' = a then none else sP S c' a' k' := rfl
theorem sN_new (S : jS) (a c n : Nat) (a' : Nat) : sN (nX S a c n) a' = if a' = a then n else sN S a' := rfl
/-! which values a field of a type holds -/
def jI (ty : FieldType) : Bool := match ty with
  | .long => false
  | .object _ => false
  | .array _ => false
  | _ => true
def jL (ty : FieldType) : Bool := match ty with
  | .long => true
  | _ => false
def jP (ty : FieldType) : Bool := match ty with
  | .object _ => true
  | .array _ => true
  | _ => false
theorem fv_I {ty : FieldType} (h : jI ty = true) (S : jS) (c a k : Nat) : fv ty S c a k = .int (sI S c a k) := by
  cases ty <;> first | rfl | cases h
theorem fv_L {ty : FieldType} (h : jL ty = true) (S : jS) (c a k : Nat) : fv ty S c a k = .long (sJ S c a k) := by
  cases ty <;> first | rfl | cases h
theorem fv_P {ty : FieldType} (h : jP ty = true) (S : jS) (c a k : Nat) : fv ty S c a k = va_rf (sP S c a k) := by
  cases ty <;> first | rfl | cases h
theorem sI_same (S : jS) (c a k : Nat) (v : Int32) : sI (uI S c a k v) c a k = v := by simp [sI_uI]
theorem sJ_same (S : jS) (c a k : Nat) (v : Int64) : sJ (uJ S c a k v) c a k = v := by simp [sJ_uJ]
theorem sP_same (S : jS) (c a k : Nat) (v : Option Nat) : sP (uP S c a k v) c a k = v := by simp [sP_uP]
/-- an array of n places -/
def aAt (S : jS) (c a n : Nat) : Prop := sAt S c a ∧ sN S a = n
theorem sI_nk {S : jS} {c a k c' a' k' : Nat} {v w : Int32} (h : k' ≠ k) (e : sI S c' a' k' = v) : sI (uI S c a k w) c' a' k' = v := by rw [sI_uI, if_neg (fun z => h z.2.2)]; exact e
theorem sI_na {S : jS} {c a k c' a' k' : Nat} {v w : Int32} (h : a' ≠ a) (e : sI S c' a' k' = v) : sI (uI S c a k w) c' a' k' = v := by rw [sI_uI, if_neg (fun z => h z.2.1)]; exact e
theorem sI_nc {S : jS} {c a k c' a' k' : Nat} {v w : Int32} (h : c' ≠ c) (e : sI S c' a' k' = v) : sI (uI S c a k w) c' a' k' = v := by rw [sI_uI, if_neg (fun z => h z.1)]; exact e
theorem sJ_nk {S : jS} {c a k c' a' k' : Nat} {v w : Int64} (h : k' ≠ k) (e : sJ S c' a' k' = v) : sJ (uJ S c a k w) c' a' k' = v := by rw [sJ_uJ, if_neg (fun z => h z.2.2)]; exact e
theorem sJ_na {S : jS} {c a k c' a' k' : Nat} {v w : Int64} (h : a' ≠ a) (e : sJ S c' a' k' = v) : sJ (uJ S c a k w) c' a' k' = v := by rw [sJ_uJ, if_neg (fun z => h z.2.1)]; exact e
theorem sP_nk {S : jS} {c a k c' a' k' : Nat} {v w : Option Nat} (h : k' ≠ k) (e : sP S c' a' k' = v) : sP (uP S c a k w) c' a' k' = v := by rw [sP_uP, if_neg (fun z => h z.2.2)]; exact e
theorem sP_na {S : jS} {c a k c' a' k' : Nat} {v w : Option Nat} (h : a' ≠ a) (e : sP S c' a' k' = v) : sP (uP S c a k w) c' a' k' = v := by rw [sP_uP, if_neg (fun z => h z.2.1)]; exact e
theorem sP_nc {S : jS} {c a k c' a' k' : Nat} {v w : Option Nat} (h : c' ≠ c) (e : sP S c' a' k' = v) : sP (uP S c a k w) c' a' k' = v := by rw [sP_uP, if_neg (fun z => h z.1)]; exact e
