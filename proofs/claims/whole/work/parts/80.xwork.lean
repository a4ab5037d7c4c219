/-! THE CLASS: a host's work as a receiver -/
set_option maxRecDepth 100000 in
theorem cx_workAsReceiver (l : Launch) (g : jG) (hgt : Nat) {S : jS} {w : Nat → Nat → Nat} {X : XS} {a : Nat} (hW : WX S w 8 X) (ha : a < 8) (hI : okReceive X a) (hD : arrD (x_forgets (x_listens X a (xV X 1 0)) a (xV X 1 0)) a (xV X 1 0)) (hh : 5 ≤ hgt) : CT l g mX3_workAsReceiver hgt 0 0 [.ref (w 2 a), .int (nI (xV X 0 0))] S (xQ w 8 none (x_receive X a)) := by
  refine CT_of qX3_workAsReceiver (Nat.le_of_ble_eq_true rfl) ?_
  have e1 : xV (x_listens X a (xV X 1 0)) 1 0 = xV X 1 0 := congrFun (hI.1 _ (Nat.le_refl _)).2.1 0
  have f1 : xV (x_forgets (x_listens X a (xV X 1 0)) a (xV X 1 0)) 1 0 = xV X 1 0 := congrFun (hI.2.1 _ (Nat.le_refl _)).2.1 0
  refine jx_listens l g hgt hW ha hI.1 (by omega) (fun S1 hW1 => ?_)
  have e0 : xV X 0 0 = xV (x_listens X a (xV X 1 0)) 0 0 := by rw [listens_0]
  rw [e0]
  refine jx_forgets l g hgt hW1 ha (fun i hi => ?_) (by omega) (fun S2 hW2 => ?_)
  · rw [e1] at hi
    exact ⟨(hI.2.1 i hi).1, (hI.1 _ (Nat.le_refl _)).2.tr (hI.2.1 i hi).2⟩
  · rw [e1] at hW2
    have hD2 : arrD (x_forgets (x_listens X a (xV X 1 0)) a (xV X 1 0)) a (xV (x_forgets (x_listens X a (xV X 1 0)) a (xV X 1 0)) 1 0) := by
      rw [f1]
      exact hD
    refine J_aload_n (pc := 55) dX3_workAsReceiver_55 rfl rfl ?_
    refine J_callV (pc := 56) (cx_choose l g (hgt - 1) hW2 ha (fun k hk => (hI.2.2 k hk).1) (fun m hm => ?_) hD2 (by omega)) qX3_choose vX3_choose cl2 rfl (hW2.ho ha) kX3_130 dX3_workAsReceiver_56 rfl rfl (Nat.le_of_ble_eq_true rfl) (by omega) (by omega) (by omega) ?_
    · rw [f1] at hm
      have h48 : xV X 1 0 ≤ 48 := (hI.1 0 (Nat.zero_le _)).1.many
      exact (hI.2.2 0 (by omega)).2.2 m (by omega)
    · rintro _ _ ⟨rfl, hW⟩
      refine J_vret (pc := 59) dX3_workAsReceiver_59 rfl (by omega) (by omega) ?_
      exact ⟨rfl, hW⟩
