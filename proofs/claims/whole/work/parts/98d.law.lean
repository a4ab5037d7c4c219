/-! THE LAW: its loop -/
def lI (X : XS) (bx bm k : Nat) (Sx Sm : jS) : Prop := (∃ w : Nat → Nat → Nat, w 7 0 = bx ∧ WX Sx w 8 X) ∧ (∃ ad, WM Sm bm ad X) ∧ good (24 * xV X 0 0) X ∧ xV X 0 0 ≤ 200 * k
theorem and15 (x : Int32) : ∃ j, j < 16 ∧ x &&& nI 15 = nI j := by
  refine ⟨(x.toBitVec &&& 15#32).toNat, ?_, ?_⟩
  · rw [BitVec.toNat_and]
    exact Nat.lt_of_le_of_lt Nat.and_le_right (by decide)
  · apply Int32.toBitVec_inj.mp
    show x.toBitVec &&& BitVec.ofNat 32 15 = BitVec.ofNat 32 (x.toBitVec &&& 15#32).toNat
    rw [BitVec.ofNat_toNat]
    simp
theorem x0_v (X : XS) (v : Nat) {f : Nat} (h : f ≠ 32) : xV (yV X 32 0 v) f = xV X f := xV_nf h
theorem pm_0 (X : XS) (a b c d : Int32) : xV (p_message X a b c d).2 0 = xV X 0 := by
  unfold p_message
  split
  · rfl
  · exact beg_o X _ _ _ _ (by decide)
theorem pl_0 (X : XS) (a b : Int32) : xV (p_lose X a b).2 0 = xV X 0 := by
  unfold p_lose
  split
  · rfl
  · exact xV_nf (by decide)
theorem ps_0 (X : XS) (a b : Int32) : xV (p_spine X a b).2 0 = xV X 0 := by
  unfold p_spine
  split
  · rfl
  · exact xV_nf (by decide)
abbrev lvL (Z : lZ) (bx bm i : Nat) : List (Nat × Value) := [(4, .int (nI i)), (0, .ref (zR Z)), (1, .ref bx), (2, .ref bm), (3, .ref (zO Z))]
section LAW
variable {l : Launch} {Z : lZ} {L : Nat} {xs : Nat → Int32} {bx bm : Nat}
theorem JW_bool (C : lC Z L xs) {pc t1 t2 : Nat} {x : Int32} {lv : List (Nat × Value)} {rest : List Value} {Sx Sm : jS} {f : Nat → Int64} {nc ns : Nat} {o1 o2 : Int} (d0 : decode code pc = .ok (.ifCond .eq o1, 3)) (h1 : (pc : Int) + o1 = (t1 : Int)) (d3 : decode code (pc + 3) = .ok (.iconst 1, 1)) (d4 : decode code (pc + 4) = .ok (.goto o2, 3)) (h2 : ((pc + 4 : Nat) : Int) + o2 = (t2 : Int)) (d7 : decode code t1 = .ok (.iconst 0, 1)) (e : t1 + 1 = t2) (k : JW l Z t2 lv (.int (bI (decide (x ≠ 0))) :: rest) Sx Sm f nc ns) : JW l Z pc lv (.int x :: rest) Sx Sm f nc ns := by
  refine JW_if_eq C d0 h1 (fun h => ?_) (fun h => ?_)
  · refine JW_iconst C (v := nI 0) d7 (by decide) ?_
    rw [decide_eq_false (fun z => z h)] at k
    rw [e]
    exact k
  · refine JW_iconst C (pc := pc + 3) (v := nI 1) d3 (by decide) ?_
    refine JW_goto C (pc := pc + 4) (tgt := t2) d4 h2 ?_
    rw [decide_eq_true h] at k
    exact k
set_option maxRecDepth 100000 in
theorem law_sent (C : lC Z L xs) {k : Nat} {X : XS} {Sx Sm : jS} {f : Nat → Int64} {w : Nat → Nat → Nat} {ad : Nat → Nat} (hL : L ≤ 2560) (hk : 5 * k + 5 ≤ L) (hW : WX Sx w 8 X) (hM : WM Sm bm ad X) (hg : good (24 * xV X 0 0) X) (hc : xV X 0 0 ≤ 200 * k) (next : ∀ X' Sx' Sm' f', lI X' (w 7 0) bm (k + 1) Sx' Sm' → JW l Z 632 (lvL Z (w 7 0) bm (5 * k)) [] Sx' Sm' f' (400 + 3 * k + 3) (14000 + 25 * k + 25)) : JW l Z 311 (lvL Z (w 7 0) bm (5 * k)) [] Sx Sm f (400 + 3 * k) (14000 + 25 * k) := by
  have hW0 := hW.w32 0
  have g0 := good_32 hg 0
  have e0 : xV (yV X 32 0 0) 0 0 = xV X 0 0 := by rw [x0_v X 0 (by decide)]
  have h30 : ∀ a, a < 8 → xV (yV X 32 0 0) 30 a < 2 ^ 31 := fun a ha => by
    have := (g0.2.1 a ha).2
    omega
  have done0 : ∀ Sm', WM Sm' bm ad (yV X 32 0 0) → lI (yV X 32 0 0) (w 7 0) bm (k + 1) Sx Sm' := fun Sm' h => ⟨⟨w, rfl, hW0⟩, ⟨ad, h⟩, by rw [e0]; exact g0, by rw [e0]; omega⟩
  refine JW_aload_n C (pc := 311) (i := 1) dL_law_311 rfl rfl ?_
  refine JW_arg C (pc := 312) (i := 5 * k) (j := 1) (n := 1) (by omega) (by omega) rfl rfl (by decide) dL_law_312 dL_law_313 dL_law_315 dL_law_316 dL_law_317 ?_
  refine JW_arg C (pc := 318) (i := 5 * k) (j := 2) (n := 2) (by omega) (by omega) rfl rfl (by decide) dL_law_318 dL_law_319 dL_law_321 dL_law_322 dL_law_323 ?_
  refine JW_callX C (pc := 324) (cx_sent l (zG Z) 10 _ _ hW0 g0.1 (by decide)) qX9_sent vX9_sent cl7 rfl hW.ro kL_44 dL_law_324 rfl rfl (Nat.le_of_ble_eq_true rfl) (by omega) (by omega) ?_
  rintro _ _ ⟨rfl, rfl⟩
  refine JW_aload_n C (pc := 327) (i := 2) dL_law_327 rfl rfl ?_
  refine JW_arg C (pc := 328) (i := 5 * k) (j := 1) (n := 1) (by omega) (by omega) rfl rfl (by decide) dL_law_328 dL_law_329 dL_law_331 dL_law_332 dL_law_333 ?_
  refine JW_arg C (pc := 334) (i := 5 * k) (j := 2) (n := 2) (by omega) (by omega) rfl rfl (by decide) dL_law_334 dL_law_335 dL_law_337 dL_law_338 dL_law_339 ?_
  refine JW_callM C (pc := 340) (cm_sent l (zG Z) 10 _ _ hM g0.1 (by decide)) qX10_sent vX10_sent cl8 rfl hM.o kL_48 dL_law_340 rfl rfl (Nat.le_of_ble_eq_true rfl) (by omega) (by omega) ?_
  rintro _ Sm' ⟨rfl, hM'⟩
  refine JW_icmp_eq C (pc := 343) (tgt := 632) dL_law_343 (by decide) (fun _ => ?_) (fun h => absurd rfl h)
  exact JW_widen (by omega) (by omega) (next _ _ _ _ (done0 Sm' hM'))
set_option maxRecDepth 100000 in
theorem law_received (C : lC Z L xs) {k : Nat} {X : XS} {Sx Sm : jS} {f : Nat → Int64} {w : Nat → Nat → Nat} {ad : Nat → Nat} (hL : L ≤ 2560) (hk : 5 * k + 5 ≤ L) (hW : WX Sx w 8 X) (hM : WM Sm bm ad X) (hg : good (24 * xV X 0 0) X) (hc : xV X 0 0 ≤ 200 * k) (next : ∀ X' Sx' Sm' f', lI X' (w 7 0) bm (k + 1) Sx' Sm' → JW l Z 632 (lvL Z (w 7 0) bm (5 * k)) [] Sx' Sm' f' (400 + 3 * k + 3) (14000 + 25 * k + 25)) : JW l Z 348 (lvL Z (w 7 0) bm (5 * k)) [] Sx Sm f (400 + 3 * k) (14000 + 25 * k) := by
  have hW0 := hW.w32 0
  have g0 := good_32 hg 0
  have e0 : xV (yV X 32 0 0) 0 0 = xV X 0 0 := by rw [x0_v X 0 (by decide)]
  have h30 : ∀ a, a < 8 → xV (yV X 32 0 0) 30 a < 2 ^ 31 := fun a ha => by
    have := (g0.2.1 a ha).2
    omega
  have done0 : ∀ Sm', WM Sm' bm ad (yV X 32 0 0) → lI (yV X 32 0 0) (w 7 0) bm (k + 1) Sx Sm' := fun Sm' h => ⟨⟨w, rfl, hW0⟩, ⟨ad, h⟩, by rw [e0]; exact g0, by rw [e0]; omega⟩
  refine JW_aload_n C (pc := 348) (i := 1) dL_law_348 rfl rfl ?_
  refine JW_arg C (pc := 349) (i := 5 * k) (j := 1) (n := 1) (by omega) (by omega) rfl rfl (by decide) dL_law_349 dL_law_350 dL_law_352 dL_law_353 dL_law_354 ?_
  refine JW_arg C (pc := 355) (i := 5 * k) (j := 2) (n := 2) (by omega) (by omega) rfl rfl (by decide) dL_law_355 dL_law_356 dL_law_358 dL_law_359 dL_law_360 ?_
  refine JW_callX C (pc := 361) (cx_received l (zG Z) 10 _ _ hW0 g0.1 (by decide)) qX9_received vX9_received cl7 rfl hW.ro kL_49 dL_law_361 rfl rfl (Nat.le_of_ble_eq_true rfl) (by omega) (by omega) ?_
  rintro _ _ ⟨rfl, rfl⟩
  refine JW_aload_n C (pc := 364) (i := 2) dL_law_364 rfl rfl ?_
  refine JW_arg C (pc := 365) (i := 5 * k) (j := 1) (n := 1) (by omega) (by omega) rfl rfl (by decide) dL_law_365 dL_law_366 dL_law_368 dL_law_369 dL_law_370 ?_
  refine JW_arg C (pc := 371) (i := 5 * k) (j := 2) (n := 2) (by omega) (by omega) rfl rfl (by decide) dL_law_371 dL_law_372 dL_law_374 dL_law_375 dL_law_376 ?_
  refine JW_callM C (pc := 377) (cm_received l (zG Z) 10 _ _ hM g0.1 (by decide)) qX10_received vX10_received cl8 rfl hM.o kL_52 dL_law_377 rfl rfl (Nat.le_of_ble_eq_true rfl) (by omega) (by omega) ?_
  rintro _ Sm' ⟨rfl, hM'⟩
  refine JW_icmp_eq C (pc := 380) (tgt := 632) dL_law_380 (by decide) (fun _ => ?_) (fun h => absurd rfl h)
  exact JW_widen (by omega) (by omega) (next _ _ _ _ (done0 Sm' hM'))
set_option maxRecDepth 100000 in
theorem law_in (C : lC Z L xs) {k : Nat} {X : XS} {Sx Sm : jS} {f : Nat → Int64} {w : Nat → Nat → Nat} {ad : Nat → Nat} (hL : L ≤ 2560) (hk : 5 * k + 5 ≤ L) (hW : WX Sx w 8 X) (hM : WM Sm bm ad X) (hg : good (24 * xV X 0 0) X) (hc : xV X 0 0 ≤ 200 * k) (next : ∀ X' Sx' Sm' f', lI X' (w 7 0) bm (k + 1) Sx' Sm' → JW l Z 632 (lvL Z (w 7 0) bm (5 * k)) [] Sx' Sm' f' (400 + 3 * k + 3) (14000 + 25 * k + 25)) : JW l Z 385 (lvL Z (w 7 0) bm (5 * k)) [] Sx Sm f (400 + 3 * k) (14000 + 25 * k) := by
  have hW0 := hW.w32 0
  have g0 := good_32 hg 0
  have e0 : xV (yV X 32 0 0) 0 0 = xV X 0 0 := by rw [x0_v X 0 (by decide)]
  have h30 : ∀ a, a < 8 → xV (yV X 32 0 0) 30 a < 2 ^ 31 := fun a ha => by
    have := (g0.2.1 a ha).2
    omega
  have done0 : ∀ Sm', WM Sm' bm ad (yV X 32 0 0) → lI (yV X 32 0 0) (w 7 0) bm (k + 1) Sx Sm' := fun Sm' h => ⟨⟨w, rfl, hW0⟩, ⟨ad, h⟩, by rw [e0]; exact g0, by rw [e0]; omega⟩
  refine JW_aload_n C (pc := 385) (i := 1) dL_law_385 rfl rfl ?_
  refine JW_arg C (pc := 386) (i := 5 * k) (j := 1) (n := 1) (by omega) (by omega) rfl rfl (by decide) dL_law_386 dL_law_387 dL_law_389 dL_law_390 dL_law_391 ?_
  refine JW_arg C (pc := 392) (i := 5 * k) (j := 2) (n := 2) (by omega) (by omega) rfl rfl (by decide) dL_law_392 dL_law_393 dL_law_395 dL_law_396 dL_law_397 ?_
  refine JW_callX C (pc := 398) (cx_in l (zG Z) 10 _ _ hW0 g0.1 (by decide)) qX9_in vX9_in cl7 rfl hW.ro kL_53 dL_law_398 rfl rfl (Nat.le_of_ble_eq_true rfl) (by omega) (by omega) ?_
  rintro _ _ ⟨rfl, rfl⟩
  refine JW_aload_n C (pc := 401) (i := 2) dL_law_401 rfl rfl ?_
  refine JW_arg C (pc := 402) (i := 5 * k) (j := 1) (n := 1) (by omega) (by omega) rfl rfl (by decide) dL_law_402 dL_law_403 dL_law_405 dL_law_406 dL_law_407 ?_
  refine JW_arg C (pc := 408) (i := 5 * k) (j := 2) (n := 2) (by omega) (by omega) rfl rfl (by decide) dL_law_408 dL_law_409 dL_law_411 dL_law_412 dL_law_413 ?_
  refine JW_callM C (pc := 414) (cm_in l (zG Z) 10 _ _ hM g0.1 (by decide)) qX10_in vX10_in cl8 rfl hM.o kL_56 dL_law_414 rfl rfl (Nat.le_of_ble_eq_true rfl) (by omega) (by omega) ?_
  rintro _ Sm' ⟨rfl, hM'⟩
  refine JW_icmp_eq C (pc := 417) (tgt := 632) dL_law_417 (by decide) (fun _ => ?_) (fun h => absurd rfl h)
  exact JW_widen (by omega) (by omega) (next _ _ _ _ (done0 Sm' hM'))
set_option maxRecDepth 100000 in
theorem law_finished (C : lC Z L xs) {k : Nat} {X : XS} {Sx Sm : jS} {f : Nat → Int64} {w : Nat → Nat → Nat} {ad : Nat → Nat} (hL : L ≤ 2560) (hk : 5 * k + 5 ≤ L) (hW : WX Sx w 8 X) (hM : WM Sm bm ad X) (hg : good (24 * xV X 0 0) X) (hc : xV X 0 0 ≤ 200 * k) (next : ∀ X' Sx' Sm' f', lI X' (w 7 0) bm (k + 1) Sx' Sm' → JW l Z 632 (lvL Z (w 7 0) bm (5 * k)) [] Sx' Sm' f' (400 + 3 * k + 3) (14000 + 25 * k + 25)) : JW l Z 422 (lvL Z (w 7 0) bm (5 * k)) [] Sx Sm f (400 + 3 * k) (14000 + 25 * k) := by
  have hW0 := hW.w32 0
  have g0 := good_32 hg 0
  have e0 : xV (yV X 32 0 0) 0 0 = xV X 0 0 := by rw [x0_v X 0 (by decide)]
  have h30 : ∀ a, a < 8 → xV (yV X 32 0 0) 30 a < 2 ^ 31 := fun a ha => by
    have := (g0.2.1 a ha).2
    omega
  have done0 : ∀ Sm', WM Sm' bm ad (yV X 32 0 0) → lI (yV X 32 0 0) (w 7 0) bm (k + 1) Sx Sm' := fun Sm' h => ⟨⟨w, rfl, hW0⟩, ⟨ad, h⟩, by rw [e0]; exact g0, by rw [e0]; omega⟩
  refine JW_aload_n C (pc := 422) (i := 1) dL_law_422 rfl rfl ?_
  refine JW_arg C (pc := 423) (i := 5 * k) (j := 1) (n := 1) (by omega) (by omega) rfl rfl (by decide) dL_law_423 dL_law_424 dL_law_426 dL_law_427 dL_law_428 ?_
  refine JW_arg C (pc := 429) (i := 5 * k) (j := 2) (n := 2) (by omega) (by omega) rfl rfl (by decide) dL_law_429 dL_law_430 dL_law_432 dL_law_433 dL_law_434 ?_
  refine JW_callX C (pc := 435) (cx_finished l (zG Z) 10 _ _ hW0 h30 (by decide)) qX9_finished vX9_finished cl7 rfl hW.ro kL_57 dL_law_435 rfl rfl (Nat.le_of_ble_eq_true rfl) (by omega) (by omega) ?_
  rintro _ _ ⟨rfl, rfl⟩
  refine JW_aload_n C (pc := 438) (i := 2) dL_law_438 rfl rfl ?_
  refine JW_arg C (pc := 439) (i := 5 * k) (j := 1) (n := 1) (by omega) (by omega) rfl rfl (by decide) dL_law_439 dL_law_440 dL_law_442 dL_law_443 dL_law_444 ?_
  refine JW_arg C (pc := 445) (i := 5 * k) (j := 2) (n := 2) (by omega) (by omega) rfl rfl (by decide) dL_law_445 dL_law_446 dL_law_448 dL_law_449 dL_law_450 ?_
  refine JW_callM C (pc := 451) (cm_finished l (zG Z) 10 _ _ hM h30) qX10_finished vX10_finished cl8 rfl hM.o kL_60 dL_law_451 rfl rfl (Nat.le_of_ble_eq_true rfl) (by omega) (by omega) ?_
  rintro _ Sm' ⟨rfl, hM'⟩
  refine JW_icmp_eq C (pc := 454) (tgt := 632) dL_law_454 (by decide) (fun _ => ?_) (fun h => absurd rfl h)
  exact JW_widen (by omega) (by omega) (next _ _ _ _ (done0 Sm' hM'))
set_option maxRecDepth 100000 in
theorem law_chosen (C : lC Z L xs) {k : Nat} {X : XS} {Sx Sm : jS} {f : Nat → Int64} {w : Nat → Nat → Nat} {ad : Nat → Nat} (hL : L ≤ 2560) (hk : 5 * k + 5 ≤ L) (hW : WX Sx w 8 X) (hM : WM Sm bm ad X) (hg : good (24 * xV X 0 0) X) (hc : xV X 0 0 ≤ 200 * k) (next : ∀ X' Sx' Sm' f', lI X' (w 7 0) bm (k + 1) Sx' Sm' → JW l Z 632 (lvL Z (w 7 0) bm (5 * k)) [] Sx' Sm' f' (400 + 3 * k + 3) (14000 + 25 * k + 25)) : JW l Z 459 (lvL Z (w 7 0) bm (5 * k)) [] Sx Sm f (400 + 3 * k) (14000 + 25 * k) := by
  have hW0 := hW.w32 0
  have g0 := good_32 hg 0
  have e0 : xV (yV X 32 0 0) 0 0 = xV X 0 0 := by rw [x0_v X 0 (by decide)]
  have h30 : ∀ a, a < 8 → xV (yV X 32 0 0) 30 a < 2 ^ 31 := fun a ha => by
    have := (g0.2.1 a ha).2
    omega
  have done0 : ∀ Sm', WM Sm' bm ad (yV X 32 0 0) → lI (yV X 32 0 0) (w 7 0) bm (k + 1) Sx Sm' := fun Sm' h => ⟨⟨w, rfl, hW0⟩, ⟨ad, h⟩, by rw [e0]; exact g0, by rw [e0]; omega⟩
  refine JW_aload_n C (pc := 459) (i := 1) dL_law_459 rfl rfl ?_
  refine JW_arg C (pc := 460) (i := 5 * k) (j := 1) (n := 1) (by omega) (by omega) rfl rfl (by decide) dL_law_460 dL_law_461 dL_law_463 dL_law_464 dL_law_465 ?_
  refine JW_arg C (pc := 466) (i := 5 * k) (j := 2) (n := 2) (by omega) (by omega) rfl rfl (by decide) dL_law_466 dL_law_467 dL_law_469 dL_law_470 dL_law_471 ?_
  refine JW_callX C (pc := 472) (cx_chosen l (zG Z) 10 _ _ hW0 g0.1 (by decide)) qX9_chosen vX9_chosen cl7 rfl hW.ro kL_61 dL_law_472 rfl rfl (Nat.le_of_ble_eq_true rfl) (by omega) (by omega) ?_
  rintro _ _ ⟨rfl, rfl⟩
  refine JW_aload_n C (pc := 475) (i := 2) dL_law_475 rfl rfl ?_
  refine JW_arg C (pc := 476) (i := 5 * k) (j := 1) (n := 1) (by omega) (by omega) rfl rfl (by decide) dL_law_476 dL_law_477 dL_law_479 dL_law_480 dL_law_481 ?_
  refine JW_arg C (pc := 482) (i := 5 * k) (j := 2) (n := 2) (by omega) (by omega) rfl rfl (by decide) dL_law_482 dL_law_483 dL_law_485 dL_law_486 dL_law_487 ?_
  refine JW_callM C (pc := 488) (cm_chosen l (zG Z) 10 _ _ hM g0.1) qX10_chosen vX10_chosen cl8 rfl hM.o kL_64 dL_law_488 rfl rfl (Nat.le_of_ble_eq_true rfl) (by omega) (by omega) ?_
  rintro _ Sm' ⟨rfl, hM'⟩
  refine JW_icmp_eq C (pc := 491) (tgt := 632) dL_law_491 (by decide) (fun _ => ?_) (fun h => absurd rfl h)
  exact JW_widen (by omega) (by omega) (next _ _ _ _ (done0 Sm' hM'))
set_option maxRecDepth 100000 in
theorem law_host (C : lC Z L xs) {k : Nat} {X : XS} {Sx Sm : jS} {f : Nat → Int64} {w : Nat → Nat → Nat} {ad : Nat → Nat} (hL : L ≤ 2560) (hk : 5 * k + 5 ≤ L) (hW : WX Sx w 8 X) (hM : WM Sm bm ad X) (hg : good (24 * xV X 0 0) X) (hc : xV X 0 0 ≤ 200 * k) (next : ∀ X' Sx' Sm' f', lI X' (w 7 0) bm (k + 1) Sx' Sm' → JW l Z 632 (lvL Z (w 7 0) bm (5 * k)) [] Sx' Sm' f' (400 + 3 * k + 3) (14000 + 25 * k + 25)) : JW l Z 496 (lvL Z (w 7 0) bm (5 * k)) [] Sx Sm f (400 + 3 * k) (14000 + 25 * k) := by
  have hW0 := hW.w32 0
  have g0 := good_32 hg 0
  have e0 : xV (yV X 32 0 0) 0 0 = xV X 0 0 := by rw [x0_v X 0 (by decide)]
  have h30 : ∀ a, a < 8 → xV (yV X 32 0 0) 30 a < 2 ^ 31 := fun a ha => by
    have := (g0.2.1 a ha).2
    omega
  have done0 : ∀ Sm', WM Sm' bm ad (yV X 32 0 0) → lI (yV X 32 0 0) (w 7 0) bm (k + 1) Sx Sm' := fun Sm' h => ⟨⟨w, rfl, hW0⟩, ⟨ad, h⟩, by rw [e0]; exact g0, by rw [e0]; omega⟩
  refine JW_aload_n C (pc := 496) (i := 1) dL_law_496 rfl rfl ?_
  refine JW_arg C (pc := 497) (i := 5 * k) (j := 1) (n := 1) (by omega) (by omega) rfl rfl (by decide) dL_law_497 dL_law_498 dL_law_500 dL_law_501 dL_law_502 ?_
  refine JW_arg C (pc := 503) (i := 5 * k) (j := 2) (n := 2) (by omega) (by omega) rfl rfl (by decide) dL_law_503 dL_law_504 dL_law_506 dL_law_507 dL_law_508 ?_
  refine JW_callX C (pc := 509) (cx_host l (zG Z) 10 _ _ hW0 g0.1 (by decide)) qX9_host vX9_host cl7 rfl hW.ro kL_65 dL_law_509 rfl rfl (Nat.le_of_ble_eq_true rfl) (by omega) (by omega) ?_
  rintro _ _ ⟨rfl, rfl⟩
  refine JW_aload_n C (pc := 512) (i := 2) dL_law_512 rfl rfl ?_
  refine JW_arg C (pc := 513) (i := 5 * k) (j := 1) (n := 1) (by omega) (by omega) rfl rfl (by decide) dL_law_513 dL_law_514 dL_law_516 dL_law_517 dL_law_518 ?_
  refine JW_arg C (pc := 519) (i := 5 * k) (j := 2) (n := 2) (by omega) (by omega) rfl rfl (by decide) dL_law_519 dL_law_520 dL_law_522 dL_law_523 dL_law_524 ?_
  refine JW_callM C (pc := 525) (cm_host l (zG Z) 10 _ _ hM g0.1 (by decide)) qX10_host vX10_host cl8 rfl hM.o kL_68 dL_law_525 rfl rfl (Nat.le_of_ble_eq_true rfl) (by omega) (by omega) ?_
  rintro _ Sm' ⟨rfl, hM'⟩
  refine JW_icmp_eq C (pc := 528) (tgt := 632) dL_law_528 (by decide) (fun _ => ?_) (fun h => absurd rfl h)
  exact JW_widen (by omega) (by omega) (next _ _ _ _ (done0 Sm' hM'))
set_option maxRecDepth 100000 in
theorem law_queue (C : lC Z L xs) {k : Nat} {X : XS} {Sx Sm : jS} {f : Nat → Int64} {w : Nat → Nat → Nat} {ad : Nat → Nat} (hL : L ≤ 2560) (hk : 5 * k + 5 ≤ L) (hW : WX Sx w 8 X) (hM : WM Sm bm ad X) (hg : good (24 * xV X 0 0) X) (hc : xV X 0 0 ≤ 200 * k) (next : ∀ X' Sx' Sm' f', lI X' (w 7 0) bm (k + 1) Sx' Sm' → JW l Z 632 (lvL Z (w 7 0) bm (5 * k)) [] Sx' Sm' f' (400 + 3 * k + 3) (14000 + 25 * k + 25)) : JW l Z 533 (lvL Z (w 7 0) bm (5 * k)) [] Sx Sm f (400 + 3 * k) (14000 + 25 * k) := by
  have hW0 := hW.w32 0
  have g0 := good_32 hg 0
  have e0 : xV (yV X 32 0 0) 0 0 = xV X 0 0 := by rw [x0_v X 0 (by decide)]
  have h30 : ∀ a, a < 8 → xV (yV X 32 0 0) 30 a < 2 ^ 31 := fun a ha => by
    have := (g0.2.1 a ha).2
    omega
  have done0 : ∀ Sm', WM Sm' bm ad (yV X 32 0 0) → lI (yV X 32 0 0) (w 7 0) bm (k + 1) Sx Sm' := fun Sm' h => ⟨⟨w, rfl, hW0⟩, ⟨ad, h⟩, by rw [e0]; exact g0, by rw [e0]; omega⟩
  refine JW_aload_n C (pc := 533) (i := 1) dL_law_533 rfl rfl ?_
  refine JW_arg C (pc := 534) (i := 5 * k) (j := 1) (n := 1) (by omega) (by omega) rfl rfl (by decide) dL_law_534 dL_law_535 dL_law_537 dL_law_538 dL_law_539 ?_
  refine JW_arg C (pc := 540) (i := 5 * k) (j := 2) (n := 2) (by omega) (by omega) rfl rfl (by decide) dL_law_540 dL_law_541 dL_law_543 dL_law_544 dL_law_545 ?_
  refine JW_callX C (pc := 546) (cx_queue l (zG Z) 10 _ _ hW0 (by decide)) qX9_queue vX9_queue cl7 rfl hW.ro kL_69 dL_law_546 rfl rfl (Nat.le_of_ble_eq_true rfl) (by omega) (by omega) ?_
  rintro _ _ ⟨rfl, rfl⟩
  refine JW_aload_n C (pc := 549) (i := 2) dL_law_549 rfl rfl ?_
  refine JW_arg C (pc := 550) (i := 5 * k) (j := 1) (n := 1) (by omega) (by omega) rfl rfl (by decide) dL_law_550 dL_law_551 dL_law_553 dL_law_554 dL_law_555 ?_
  refine JW_arg C (pc := 556) (i := 5 * k) (j := 2) (n := 2) (by omega) (by omega) rfl rfl (by decide) dL_law_556 dL_law_557 dL_law_559 dL_law_560 dL_law_561 ?_
  refine JW_callM C (pc := 562) (cm_queue l (zG Z) 10 _ _ hM) qX10_queue vX10_queue cl8 rfl hM.o kL_72 dL_law_562 rfl rfl (Nat.le_of_ble_eq_true rfl) (by omega) (by omega) ?_
  rintro _ Sm' ⟨rfl, hM'⟩
  refine JW_icmp_eq C (pc := 565) (tgt := 632) dL_law_565 (by decide) (fun _ => ?_) (fun h => absurd rfl h)
  exact JW_widen (by omega) (by omega) (next _ _ _ _ (done0 Sm' hM'))
set_option maxRecDepth 100000 in
theorem law_packet (C : lC Z L xs) {k : Nat} {X : XS} {Sx Sm : jS} {f : Nat → Int64} {w : Nat → Nat → Nat} {ad : Nat → Nat} (hL : L ≤ 2560) (hk : 5 * k + 5 ≤ L) (hW : WX Sx w 8 X) (hM : WM Sm bm ad X) (hg : good (24 * xV X 0 0) X) (hc : xV X 0 0 ≤ 200 * k) (next : ∀ X' Sx' Sm' f', lI X' (w 7 0) bm (k + 1) Sx' Sm' → JW l Z 632 (lvL Z (w 7 0) bm (5 * k)) [] Sx' Sm' f' (400 + 3 * k + 3) (14000 + 25 * k + 25)) : JW l Z 570 (lvL Z (w 7 0) bm (5 * k)) [] Sx Sm f (400 + 3 * k) (14000 + 25 * k) := by
  have hW0 := hW.w32 0
  have g0 := good_32 hg 0
  have e0 : xV (yV X 32 0 0) 0 0 = xV X 0 0 := by rw [x0_v X 0 (by decide)]
  have h30 : ∀ a, a < 8 → xV (yV X 32 0 0) 30 a < 2 ^ 31 := fun a ha => by
    have := (g0.2.1 a ha).2
    omega
  have done0 : ∀ Sm', WM Sm' bm ad (yV X 32 0 0) → lI (yV X 32 0 0) (w 7 0) bm (k + 1) Sx Sm' := fun Sm' h => ⟨⟨w, rfl, hW0⟩, ⟨ad, h⟩, by rw [e0]; exact g0, by rw [e0]; omega⟩
  refine JW_aload_n C (pc := 570) (i := 1) dL_law_570 rfl rfl ?_
  refine JW_arg C (pc := 571) (i := 5 * k) (j := 1) (n := 1) (by omega) (by omega) rfl rfl (by decide) dL_law_571 dL_law_572 dL_law_574 dL_law_575 dL_law_576 ?_
  refine JW_arg C (pc := 577) (i := 5 * k) (j := 2) (n := 2) (by omega) (by omega) rfl rfl (by decide) dL_law_577 dL_law_578 dL_law_580 dL_law_581 dL_law_582 ?_
  refine JW_callX C (pc := 583) (cx_packet l (zG Z) 10 _ _ hW0 g0.1 (by decide)) qX9_packet vX9_packet cl7 rfl hW.ro kL_73 dL_law_583 rfl rfl (Nat.le_of_ble_eq_true rfl) (by omega) (by omega) ?_
  rintro _ _ ⟨rfl, rfl⟩
  refine JW_aload_n C (pc := 586) (i := 2) dL_law_586 rfl rfl ?_
  refine JW_arg C (pc := 587) (i := 5 * k) (j := 1) (n := 1) (by omega) (by omega) rfl rfl (by decide) dL_law_587 dL_law_588 dL_law_590 dL_law_591 dL_law_592 ?_
  refine JW_arg C (pc := 593) (i := 5 * k) (j := 2) (n := 2) (by omega) (by omega) rfl rfl (by decide) dL_law_593 dL_law_594 dL_law_596 dL_law_597 dL_law_598 ?_
  refine JW_callM C (pc := 599) (cm_packet l (zG Z) 10 _ _ hM g0.1) qX10_packet vX10_packet cl8 rfl hM.o kL_76 dL_law_599 rfl rfl (Nat.le_of_ble_eq_true rfl) (by omega) (by omega) ?_
  rintro _ Sm' ⟨rfl, hM'⟩
  refine JW_icmp_eq C (pc := 602) (tgt := 632) dL_law_602 (by decide) (fun _ => ?_) (fun h => absurd rfl h)
  exact JW_widen (by omega) (by omega) (next _ _ _ _ (done0 Sm' hM'))
set_option maxRecDepth 100000 in
theorem law_total (C : lC Z L xs) {k : Nat} {X : XS} {Sx Sm : jS} {f : Nat → Int64} {w : Nat → Nat → Nat} {ad : Nat → Nat} (hL : L ≤ 2560) (hk : 5 * k + 5 ≤ L) (hW : WX Sx w 8 X) (hM : WM Sm bm ad X) (hg : good (24 * xV X 0 0) X) (hc : xV X 0 0 ≤ 200 * k) (next : ∀ X' Sx' Sm' f', lI X' (w 7 0) bm (k + 1) Sx' Sm' → JW l Z 632 (lvL Z (w 7 0) bm (5 * k)) [] Sx' Sm' f' (400 + 3 * k + 3) (14000 + 25 * k + 25)) : JW l Z 607 (lvL Z (w 7 0) bm (5 * k)) [] Sx Sm f (400 + 3 * k) (14000 + 25 * k) := by
  have hW0 := hW.w32 0
  have g0 := good_32 hg 0
  have e0 : xV (yV X 32 0 0) 0 0 = xV X 0 0 := by rw [x0_v X 0 (by decide)]
  have h30 : ∀ a, a < 8 → xV (yV X 32 0 0) 30 a < 2 ^ 31 := fun a ha => by
    have := (g0.2.1 a ha).2
    omega
  have done0 : ∀ Sm', WM Sm' bm ad (yV X 32 0 0) → lI (yV X 32 0 0) (w 7 0) bm (k + 1) Sx Sm' := fun Sm' h => ⟨⟨w, rfl, hW0⟩, ⟨ad, h⟩, by rw [e0]; exact g0, by rw [e0]; omega⟩
  refine JW_aload_n C (pc := 607) (i := 1) dL_law_607 rfl rfl ?_
  refine JW_arg C (pc := 608) (i := 5 * k) (j := 1) (n := 1) (by omega) (by omega) rfl rfl (by decide) dL_law_608 dL_law_609 dL_law_611 dL_law_612 dL_law_613 ?_
  refine JW_callX C (pc := 614) (cx_total l (zG Z) 10 _ hW0 g0.1 (by decide)) qX9_total vX9_total cl7 rfl hW.ro kL_77 dL_law_614 rfl rfl (Nat.le_of_ble_eq_true rfl) (by omega) (by omega) ?_
  rintro _ _ ⟨rfl, rfl⟩
  refine JW_aload_n C (pc := 617) (i := 2) dL_law_617 rfl rfl ?_
  refine JW_arg C (pc := 618) (i := 5 * k) (j := 1) (n := 1) (by omega) (by omega) rfl rfl (by decide) dL_law_618 dL_law_619 dL_law_621 dL_law_622 dL_law_623 ?_
  refine JW_callM C (pc := 624) (cm_total l (zG Z) 10 _ hM g0.1) qX10_total vX10_total cl8 rfl hM.o kL_80 dL_law_624 rfl rfl (Nat.le_of_ble_eq_true rfl) (by omega) (by omega) ?_
  rintro _ Sm' ⟨rfl, hM'⟩
  refine JW_icmp_eq C (pc := 627) (tgt := 632) dL_law_627 (by decide) (fun _ => ?_) (fun h => absurd rfl h)
  exact JW_widen (by omega) (by omega) (next _ _ _ _ (done0 Sm' hM'))
set_option maxRecDepth 100000 in
theorem law_lose (C : lC Z L xs) {k : Nat} {X : XS} {Sx Sm : jS} {f : Nat → Int64} {w : Nat → Nat → Nat} {ad : Nat → Nat} (hL : L ≤ 2560) (hk : 5 * k + 5 ≤ L) (hW : WX Sx w 8 X) (hM : WM Sm bm ad X) (hg : good (24 * xV X 0 0) X) (hc : xV X 0 0 ≤ 200 * k) (next : ∀ X' Sx' Sm' f', lI X' (w 7 0) bm (k + 1) Sx' Sm' → JW l Z 632 (lvL Z (w 7 0) bm (5 * k)) [] Sx' Sm' f' (400 + 3 * k + 3) (14000 + 25 * k + 25)) : JW l Z 221 (lvL Z (w 7 0) bm (5 * k)) [] Sx Sm f (400 + 3 * k) (14000 + 25 * k) := by
  have hW0 := hW.w32 0
  have g0 := good_32 hg 0
  have e0 : xV (yV X 32 0 0) 0 0 = xV X 0 0 := by rw [x0_v X 0 (by decide)]
  have h30 : ∀ a, a < 8 → xV (yV X 32 0 0) 30 a < 2 ^ 31 := fun a ha => by
    have := (g0.2.1 a ha).2
    omega
  have done0 : ∀ Sm', WM Sm' bm ad (yV X 32 0 0) → lI (yV X 32 0 0) (w 7 0) bm (k + 1) Sx Sm' := fun Sm' h => ⟨⟨w, rfl, hW0⟩, ⟨ad, h⟩, by rw [e0]; exact g0, by rw [e0]; omega⟩
  refine JW_aload_n C (pc := 221) (i := 1) dL_law_221 rfl rfl ?_
  refine JW_arg C (pc := 222) (i := 5 * k) (j := 1) (n := 1) (by omega) (by omega) rfl rfl (by decide) dL_law_222 dL_law_223 dL_law_225 dL_law_226 dL_law_227 ?_
  refine JW_arg C (pc := 228) (i := 5 * k) (j := 2) (n := 2) (by omega) (by omega) rfl rfl (by decide) dL_law_228 dL_law_229 dL_law_231 dL_law_232 dL_law_233 ?_
  refine JW_callX C (pc := 234) (cx_lose l (zG Z) 10 _ _ hW0 (by decide)) qX9_lose vX9_lose cl7 rfl hW.ro kL_34 dL_law_234 rfl rfl (Nat.le_of_ble_eq_true rfl) (by omega) (by omega) ?_
  rintro _ Sx' ⟨rfl, hW'⟩
  refine JW_aload_n C (pc := 237) (i := 2) dL_law_237 rfl rfl ?_
  refine JW_arg C (pc := 238) (i := 5 * k) (j := 1) (n := 1) (by omega) (by omega) rfl rfl (by decide) dL_law_238 dL_law_239 dL_law_241 dL_law_242 dL_law_243 ?_
  refine JW_arg C (pc := 244) (i := 5 * k) (j := 2) (n := 2) (by omega) (by omega) rfl rfl (by decide) dL_law_244 dL_law_245 dL_law_247 dL_law_248 dL_law_249 ?_
  refine JW_callM C (pc := 250) (cm_lose l (zG Z) 10 _ _ hM) qX10_lose vX10_lose cl8 rfl hM.o kL_38 dL_law_250 rfl rfl (Nat.le_of_ble_eq_true rfl) (by omega) (by omega) ?_
  rintro _ Sm' ⟨rfl, hM'⟩
  refine JW_icmp_eq C (pc := 253) (tgt := 632) dL_law_253 (by decide) (fun _ => ?_) (fun h => absurd rfl h)
  refine JW_widen (by omega) (by omega) (next _ _ _ _ ⟨⟨w, rfl, hW'⟩, ⟨ad, hM'⟩, ?_, ?_⟩)
  · rw [pl_0, e0]
    exact good_lose _ _ g0
  · rw [pl_0, e0]
    omega
set_option maxRecDepth 100000 in
theorem law_spine (C : lC Z L xs) {k : Nat} {X : XS} {Sx Sm : jS} {f : Nat → Int64} {w : Nat → Nat → Nat} {ad : Nat → Nat} (hL : L ≤ 2560) (hk : 5 * k + 5 ≤ L) (hW : WX Sx w 8 X) (hM : WM Sm bm ad X) (hg : good (24 * xV X 0 0) X) (hc : xV X 0 0 ≤ 200 * k) (next : ∀ X' Sx' Sm' f', lI X' (w 7 0) bm (k + 1) Sx' Sm' → JW l Z 632 (lvL Z (w 7 0) bm (5 * k)) [] Sx' Sm' f' (400 + 3 * k + 3) (14000 + 25 * k + 25)) : JW l Z 258 (lvL Z (w 7 0) bm (5 * k)) [] Sx Sm f (400 + 3 * k) (14000 + 25 * k) := by
  have hW0 := hW.w32 0
  have g0 := good_32 hg 0
  have e0 : xV (yV X 32 0 0) 0 0 = xV X 0 0 := by rw [x0_v X 0 (by decide)]
  have h30 : ∀ a, a < 8 → xV (yV X 32 0 0) 30 a < 2 ^ 31 := fun a ha => by
    have := (g0.2.1 a ha).2
    omega
  have done0 : ∀ Sm', WM Sm' bm ad (yV X 32 0 0) → lI (yV X 32 0 0) (w 7 0) bm (k + 1) Sx Sm' := fun Sm' h => ⟨⟨w, rfl, hW0⟩, ⟨ad, h⟩, by rw [e0]; exact g0, by rw [e0]; omega⟩
  refine JW_aload_n C (pc := 258) (i := 1) dL_law_258 rfl rfl ?_
  refine JW_arg C (pc := 259) (i := 5 * k) (j := 1) (n := 1) (by omega) (by omega) rfl rfl (by decide) dL_law_259 dL_law_260 dL_law_262 dL_law_263 dL_law_264 ?_
  refine JW_arg C (pc := 265) (i := 5 * k) (j := 2) (n := 2) (by omega) (by omega) rfl rfl (by decide) dL_law_265 dL_law_266 dL_law_268 dL_law_269 dL_law_270 ?_
  refine JW_bool C (pc := 271) (t1 := 278) (t2 := 279) dL_law_271 (by decide) dL_law_274 dL_law_275 (by decide) dL_law_278 rfl ?_
  refine JW_callX C (pc := 279) (cx_spine l (zG Z) 10 _ _ hW0 (by decide)) qX9_spine vX9_spine cl7 rfl hW.ro kL_39 dL_law_279 rfl rfl (Nat.le_of_ble_eq_true rfl) (by omega) (by omega) ?_
  rintro _ Sx' ⟨rfl, hW'⟩
  refine JW_aload_n C (pc := 282) (i := 2) dL_law_282 rfl rfl ?_
  refine JW_arg C (pc := 283) (i := 5 * k) (j := 1) (n := 1) (by omega) (by omega) rfl rfl (by decide) dL_law_283 dL_law_284 dL_law_286 dL_law_287 dL_law_288 ?_
  refine JW_arg C (pc := 289) (i := 5 * k) (j := 2) (n := 2) (by omega) (by omega) rfl rfl (by decide) dL_law_289 dL_law_290 dL_law_292 dL_law_293 dL_law_294 ?_
  refine JW_bool C (pc := 295) (t1 := 302) (t2 := 303) dL_law_295 (by decide) dL_law_298 dL_law_299 (by decide) dL_law_302 rfl ?_
  refine JW_callM C (pc := 303) (cm_spine l (zG Z) 10 _ _ hM) qX10_spine vX10_spine cl8 rfl hM.o kL_43 dL_law_303 rfl rfl (Nat.le_of_ble_eq_true rfl) (by omega) (by omega) ?_
  rintro _ Sm' ⟨rfl, hM'⟩
  refine JW_icmp_eq C (pc := 306) (tgt := 632) dL_law_306 (by decide) (fun _ => ?_) (fun h => absurd rfl h)
  refine JW_widen (by omega) (by omega) (next _ _ _ _ ⟨⟨w, rfl, hW'⟩, ⟨ad, hM'⟩, ?_, ?_⟩)
  · rw [ps_0, e0]
    exact good_spine _ _ g0
  · rw [ps_0, e0]
    omega
set_option maxRecDepth 100000 in
theorem law_message (C : lC Z L xs) {k : Nat} {X : XS} {Sx Sm : jS} {f : Nat → Int64} {w : Nat → Nat → Nat} {ad : Nat → Nat} (hL : L ≤ 2560) (hk : 5 * k + 5 ≤ L) (hW : WX Sx w 8 X) (hM : WM Sm bm ad X) (hg : good (24 * xV X 0 0) X) (hc : xV X 0 0 ≤ 200 * k) (next : ∀ X' Sx' Sm' f', lI X' (w 7 0) bm (k + 1) Sx' Sm' → JW l Z 632 (lvL Z (w 7 0) bm (5 * k)) [] Sx' Sm' f' (400 + 3 * k + 3) (14000 + 25 * k + 25)) : JW l Z 104 (lvL Z (w 7 0) bm (5 * k)) [] Sx Sm f (400 + 3 * k) (14000 + 25 * k) := by
  have hW0 := hW.w32 0
  have g0 := good_32 hg 0
  have e0 : xV (yV X 32 0 0) 0 0 = xV X 0 0 := by rw [x0_v X 0 (by decide)]
  have h30 : ∀ a, a < 8 → xV (yV X 32 0 0) 30 a < 2 ^ 31 := fun a ha => by
    have := (g0.2.1 a ha).2
    omega
  have done0 : ∀ Sm', WM Sm' bm ad (yV X 32 0 0) → lI (yV X 32 0 0) (w 7 0) bm (k + 1) Sx Sm' := fun Sm' h => ⟨⟨w, rfl, hW0⟩, ⟨ad, h⟩, by rw [e0]; exact g0, by rw [e0]; omega⟩
  refine JW_aload_n C (pc := 104) (i := 1) dL_law_104 rfl rfl ?_
  refine JW_arg C (pc := 105) (i := 5 * k) (j := 1) (n := 1) (by omega) (by omega) rfl rfl (by decide) dL_law_105 dL_law_106 dL_law_108 dL_law_109 dL_law_110 ?_
  refine JW_arg C (pc := 111) (i := 5 * k) (j := 2) (n := 2) (by omega) (by omega) rfl rfl (by decide) dL_law_111 dL_law_112 dL_law_114 dL_law_115 dL_law_116 ?_
  refine JW_arg C (pc := 117) (i := 5 * k) (j := 3) (n := 3) (by omega) (by omega) rfl rfl (by decide) dL_law_117 dL_law_118 dL_law_120 dL_law_121 dL_law_122 ?_
  refine JW_arg C (pc := 123) (i := 5 * k) (j := 4) (n := 4) (by omega) (by omega) rfl rfl (by decide) dL_law_123 dL_law_124 dL_law_126 dL_law_127 dL_law_128 ?_
  refine JW_callX C (pc := 129) (cx_message l (zG Z) 10 _ _ _ _ hW0 g0.1 (by decide)) qX9_message vX9_message cl7 rfl hW.ro kL_19 dL_law_129 rfl rfl (Nat.le_of_ble_eq_true rfl) (by omega) (by omega) ?_
  rintro _ Sx' ⟨rfl, w', ew, hW'⟩
  refine JW_aload_n C (pc := 132) (i := 2) dL_law_132 rfl rfl ?_
  refine JW_arg C (pc := 133) (i := 5 * k) (j := 1) (n := 1) (by omega) (by omega) rfl rfl (by decide) dL_law_133 dL_law_134 dL_law_136 dL_law_137 dL_law_138 ?_
  refine JW_arg C (pc := 139) (i := 5 * k) (j := 2) (n := 2) (by omega) (by omega) rfl rfl (by decide) dL_law_139 dL_law_140 dL_law_142 dL_law_143 dL_law_144 ?_
  refine JW_arg C (pc := 145) (i := 5 * k) (j := 3) (n := 3) (by omega) (by omega) rfl rfl (by decide) dL_law_145 dL_law_146 dL_law_148 dL_law_149 dL_law_150 ?_
  refine JW_arg C (pc := 151) (i := 5 * k) (j := 4) (n := 4) (by omega) (by omega) rfl rfl (by decide) dL_law_151 dL_law_152 dL_law_154 dL_law_155 dL_law_156 ?_
  refine JW_callM C (pc := 157) (cm_message l (zG Z) 10 _ _ _ _ hM hg.1.many) qX10_message vX10_message cl8 rfl hM.o kL_23 dL_law_157 rfl rfl (Nat.le_of_ble_eq_true rfl) (by omega) (by omega) ?_
  rintro _ Sm' ⟨rfl, hM'⟩
  refine JW_icmp_eq C (pc := 160) (tgt := 632) dL_law_160 (by decide) (fun _ => ?_) (fun h => absurd rfl h)
  refine JW_widen (by omega) (by omega) (next _ _ _ _ ⟨⟨w', ew, hW'⟩, ⟨ad, hM'⟩, ?_, ?_⟩)
  · rw [pm_0, e0]
    exact good_message _ _ _ _ g0
  · rw [pm_0, e0]
    omega
theorem lcmp_0 (x : Int64) : lg_cmp x x = 0 := by
  unfold lg_cmp
  simp
set_option maxRecDepth 100000 in
theorem law_slot (hl : l.stackTraces = false) (hst : stX (jA0 (zS Z)) (zS Z) (zS Z).heap) (C : lC Z L xs) {k : Nat} {X : XS} {Sx Sm : jS} {f : Nat → Int64} {w : Nat → Nat → Nat} {ad : Nat → Nat} (hL : L ≤ 2560) (hk : 5 * k + 5 ≤ L) (hW : WX Sx w 8 X) (hM : WM Sm bm ad X) (hg : good (24 * xV X 0 0) X) (hc : xV X 0 0 ≤ 200 * k) (next : ∀ X' Sx' Sm' f', lI X' (w 7 0) bm (k + 1) Sx' Sm' → JW l Z 632 (lvL Z (w 7 0) bm (5 * k)) [] Sx' Sm' f' (400 + 3 * k + 3) (14000 + 25 * k + 25)) : JW l Z 165 (lvL Z (w 7 0) bm (5 * k)) [] Sx Sm f (400 + 3 * k) (14000 + 25 * k) := by
  have hW0 := hW.w32 0
  have g0 := good_32 hg 0
  have e0 : xV (yV X 32 0 0) 0 0 = xV X 0 0 := by rw [x0_v X 0 (by decide)]
  have h30 : ∀ a, a < 8 → xV (yV X 32 0 0) 30 a < 2 ^ 31 := fun a ha => by
    have := (g0.2.1 a ha).2
    omega
  have done0 : ∀ Sm', WM Sm' bm ad (yV X 32 0 0) → lI (yV X 32 0 0) (w 7 0) bm (k + 1) Sx Sm' := fun Sm' h => ⟨⟨w, rfl, hW0⟩, ⟨ad, h⟩, by rw [e0]; exact g0, by rw [e0]; omega⟩
  refine JW_aload_n C (pc := 165) (i := 1) dL_law_165 rfl rfl ?_
  refine JW_arg C (pc := 166) (i := 5 * k) (j := 1) (n := 1) (by omega) (by omega) rfl rfl (by decide) dL_law_166 dL_law_167 dL_law_169 dL_law_170 dL_law_171 ?_
  refine JW_aload_n C (pc := 172) (i := 3) dL_law_172 rfl rfl ?_
  by_cases hn : xs (5 * k + 1) < nI 1 ∨ nI 200 < xs (5 * k + 1)
  · refine JW_slotBad C (pc := 173) hl hst hn hW.ro dL_law_173 (Nat.le_of_ble_eq_true rfl) (by omega) (by omega) ?_
    refine JW_istore C (pc := 176) dL_law_176 (by decide) ?_
    refine JW_aload_n C (pc := 178) (i := 2) dL_law_178 rfl rfl ?_
    refine JW_arg C (pc := 179) (i := 5 * k) (j := 1) (n := 1) (by omega) (by omega) rfl rfl (by decide) dL_law_179 dL_law_180 dL_law_182 dL_law_183 dL_law_184 ?_
    refine JW_callM C (pc := 185) (cm_slotBad l (zG Z) 10 hM hn) qX10_slot vX10_slot cl8 rfl hM.o kL_29 dL_law_185 rfl rfl (Nat.le_of_ble_eq_true rfl) (by omega) (by omega) ?_
    rintro _ Sm' ⟨hM', rfl⟩
    refine JW_istore C (pc := 188) dL_law_188 (by decide) ?_
    refine JW_aload_n C (pc := 190) (i := 2) dL_law_190 rfl rfl ?_
    refine JW_callM C (pc := 191) (cm_thrown l (zG Z) 10 hM') qX10_thrown vX10_thrown cl8 rfl hM'.o kL_30 dL_law_191 rfl rfl (Nat.le_of_ble_eq_true rfl) (by omega) (by omega) ?_
    rintro _ _ ⟨rfl, rfl⟩
    have e1 : xV (yV X 32 0 1) 32 0 = 1 := by rw [xV_yV, if_pos ⟨rfl, rfl⟩]
    rw [e1]
    refine JW_iload C (pc := 194) dL_law_194 rfl ?_
    refine JW_icmp_eq C (pc := 196) (tgt := 201) dL_law_196 (by decide) (fun _ => ?_) (fun h => absurd rfl h)
    refine JW_iload C (pc := 201) dL_law_201 rfl ?_
    refine JW_if_ne C (pc := 203) (tgt := 218) dL_law_203 (by decide) (fun _ => ?_) (fun h => absurd h (by decide))
    refine JW_goto C (pc := 218) (tgt := 632) dL_law_218 (by decide) ?_
    have e2 : xV (yV X 32 0 1) 0 0 = xV X 0 0 := by rw [x0_v X 1 (by decide)]
    refine JW_widen (by omega) (by omega) (JW_lv (next _ _ _ _ ⟨⟨w, rfl, hW.w32 1⟩, ⟨ad, hM'⟩, ?_, ?_⟩) ⟨rfl, rfl, rfl, rfl, rfl, trivial⟩)
    · rw [e2]
      exact good_32 hg 1
    · rw [e2]
      omega
  · have n0 : ¬ xs (5 * k + 1) < 0 := fun z => hn (Or.inl (Int32.lt_trans z (by decide)))
    obtain ⟨n, hn2, en⟩ := ix_le (n := 200) (by decide) n0 (fun z => hn (Or.inr z))
    have hn1 : 1 ≤ n := by
      have := (Decidable.not_iff_not.mpr (nI_ltI (a := n) (b := 1) (by omega) (by decide))).mp (fun z => hn (Or.inl (by rw [en]; exact z)))
      omega
    have hT : 24 * xV X 0 0 + 24 * n < 2 ^ 31 := by omega
    have hok := slots_okX g0 hT
    obtain ⟨g2, c2, v2⟩ := good_slots g0 n hT
    rw [e0] at c2
    have hcl : xV (x_slots (yV X 32 0 0) n) 32 0 = 0 := by rw [v2, xV_yV, if_pos ⟨rfl, rfl⟩]
    rw [en]
    refine JW_slotGood C (pc := 173) (Q := fun v S' => v = nI (xV (x_slots (yV X 32 0 0) n) 0 0) ∧ WX S' w 8 (x_slots (yV X 32 0 0) n)) (cx_slot l (zG Z) 9 hW0 hn1 hn2 hok (by decide)) (fun r S' h => ⟨_, h.1, rfl, h.2⟩) hW.ro dL_law_173 (Nat.le_of_ble_eq_true rfl) (by omega) (by omega) ?_
    rintro v Sx' f' ⟨rfl, hW'⟩ hf
    refine JW_istore C (pc := 176) dL_law_176 (by decide) ?_
    refine JW_aload_n C (pc := 178) (i := 2) dL_law_178 rfl rfl ?_
    refine JW_arg C (pc := 179) (i := 5 * k) (j := 1) (n := 1) (by omega) (by omega) rfl rfl (by decide) dL_law_179 dL_law_180 dL_law_182 dL_law_183 dL_law_184 ?_
    rw [en]
    refine JW_callM C (pc := 185) (cm_slot l (zG Z) 10 hM hn1 hn2 (fun j hj => (hok j hj).1) (by decide)) qX10_slot vX10_slot cl8 rfl hM.o kL_29 dL_law_185 rfl rfl (Nat.le_of_ble_eq_true rfl) (by omega) (by omega) ?_
    rintro _ Sm' ⟨rfl, hM'⟩
    refine JW_istore C (pc := 188) dL_law_188 (by decide) ?_
    refine JW_aload_n C (pc := 190) (i := 2) dL_law_190 rfl rfl ?_
    refine JW_callM C (pc := 191) (cm_thrown l (zG Z) 10 hM') qX10_thrown vX10_thrown cl8 rfl hM'.o kL_30 dL_law_191 rfl rfl (Nat.le_of_ble_eq_true rfl) (by omega) (by omega) ?_
    rintro _ _ ⟨rfl, rfl⟩
    rw [hcl]
    refine JW_iload C (pc := 194) dL_law_194 rfl ?_
    refine JW_icmp_eq C (pc := 196) (tgt := 201) dL_law_196 (by decide) (fun _ => ?_) (fun h => absurd rfl h)
    refine JW_iload C (pc := 201) dL_law_201 rfl ?_
    refine JW_if_ne C (pc := 203) (tgt := 218) dL_law_203 (by decide) (fun h => absurd rfl h) (fun _ => ?_)
    refine JW_aload_n C (pc := 206) (i := 3) dL_law_206 rfl rfl ?_
    refine JW_iconst C (pc := 207) (v := nI 0) dL_law_207 (by decide) ?_
    refine JW_lald C (pc := 208) dL_law_208 ?_
    refine JW_iload C (pc := 209) dL_law_209 rfl ?_
    refine JW_i2l C (pc := 211) dL_law_211 rfl ?_
    refine JW_lcmp C (pc := 212) dL_law_212 ?_
    rw [hf, lcmp_0]
    refine JW_if_eq C (pc := 213) (tgt := 218) dL_law_213 (by decide) (fun _ => ?_) (fun h => absurd rfl h)
    refine JW_goto C (pc := 218) (tgt := 632) dL_law_218 (by decide) ?_
    refine JW_widen (by omega) (by omega) (JW_lv (next _ _ _ _ ⟨⟨w, rfl, hW'⟩, ⟨ad, hM'⟩, ?_, ?_⟩) ⟨rfl, rfl, rfl, rfl, rfl, trivial⟩)
    · rw [c2]
      exact g2.le (by omega)
    · rw [c2]
      omega
set_option maxHeartbeats 4000000 in
set_option maxRecDepth 100000 in
theorem law_loop (C : lC Z L xs) (hl : l.stackTraces = false) (hst : stX (jA0 (zS Z)) (zS Z) (zS Z).heap) (hL : L ≤ 2560) : ∀ d k, 5 * k ≤ L → L - 5 * k ≤ 5 * d + 4 → ∀ (X : XS) (Sx Sm : jS) (f : Nat → Int64), lI X bx bm k Sx Sm → JW l Z 23 (lvL Z bx bm (5 * k)) [] Sx Sm f (400 + 3 * k) (14000 + 25 * k) := by
  intro d
  induction d with
  | zero =>
    intro k hk hd X Sx Sm f hI
    refine JW_iload C (pc := 23) dL_law_23 rfl ?_
    refine JW_aload_n C (pc := 25) (i := 0) dL_law_25 rfl rfl ?_
    refine JW_slen C (pc := 26) dL_law_26 ?_
    refine JW_iconst C (pc := 27) (v := nI 5) dL_law_27 (by decide) ?_
    refine JW_isub C (pc := 28) dL_law_28 ?_
    refine JW_icmp_gt C (pc := 29) (tgt := 638) dL_law_29 (by decide) (fun h => ?_) (fun h => ?_)
    · refine JW_iconst C (pc := 638) (v := 1) dL_law_638 (by decide) ?_
      exact JW_ret C (pc := 639) dL_law_639 (by omega) (by omega)
    · exfalso
      refine h ?_
      by_cases q : 5 ≤ L
      · rw [pk_sub q]
        exact (nI_ltI (a := L - 5) (b := 5 * k) (by omega) (by omega)).mpr (by omega)
      · exact Int32.lt_of_lt_of_le (nI_subneg (a := L) (b := 5) (by omega) (by decide)) (nI_pos' (by omega))
  | succ d ih =>
    intro k hk hd X Sx Sm f hI
    refine JW_iload C (pc := 23) dL_law_23 rfl ?_
    refine JW_aload_n C (pc := 25) (i := 0) dL_law_25 rfl rfl ?_
    refine JW_slen C (pc := 26) dL_law_26 ?_
    refine JW_iconst C (pc := 27) (v := nI 5) dL_law_27 (by decide) ?_
    refine JW_isub C (pc := 28) dL_law_28 ?_
    refine JW_icmp_gt C (pc := 29) (tgt := 638) dL_law_29 (by decide) (fun h => ?_) (fun h => ?_)
    · refine JW_iconst C (pc := 638) (v := 1) dL_law_638 (by decide) ?_
      exact JW_ret C (pc := 639) dL_law_639 (by omega) (by omega)
    · have hk5 : 5 * k + 5 ≤ L := by
        refine Decidable.not_not.mp (fun q => h ?_)
        by_cases q5 : 5 ≤ L
        · rw [pk_sub q5]
          exact (nI_ltI (a := L - 5) (b := 5 * k) (by omega) (by omega)).mpr (by omega)
        · exact Int32.lt_of_lt_of_le (nI_subneg (a := L) (b := 5) (by omega) (by decide)) (nI_pos' (by omega))
      clear h
      obtain ⟨⟨w, ew, hW⟩, ⟨ad, hM⟩, hg, hc⟩ := hI
      subst ew
      have next : ∀ X' Sx' Sm' f', lI X' (w 7 0) bm (k + 1) Sx' Sm' → JW l Z 632 (lvL Z (w 7 0) bm (5 * k)) [] Sx' Sm' f' (400 + 3 * k + 3) (14000 + 25 * k + 25) := by
        intro X' Sx' Sm' f' hI'
        refine JW_iinc C (pc := 632) (v := nI (5 * (k + 1))) dL_law_632 rfl (nI_add (5 * k) 5) (by decide) ?_
        refine JW_goto C (pc := 635) (tgt := 23) dL_law_635 (by decide) ?_
        exact JW_lv (ih (k + 1) (by omega) (by omega) X' Sx' Sm' f' hI') ⟨rfl, rfl, rfl, rfl, rfl, trivial⟩
      refine JW_aload_n C (pc := 32) (i := 0) dL_law_32 rfl rfl ?_
      refine JW_iload C (pc := 33) dL_law_33 rfl ?_
      refine JW_sld C (pc := 35) (i := 5 * k) (by omega) (by omega) dL_law_35 ?_
      refine JW_bipush C (pc := 36) (v := nI 15) dL_law_36 (by decide) ?_
      refine JW_iand C (pc := 38) dL_law_38 ?_
      obtain ⟨j, hj, ej⟩ := and15 (xs (5 * k))
      rw [ej]
      rcases (show j = 0 ∨ j = 1 ∨ j = 2 ∨ j = 3 ∨ j = 4 ∨ j = 5 ∨ j = 6 ∨ j = 7 ∨ j = 8 ∨ j = 9 ∨ j = 10 ∨ j = 11 ∨ j = 12 ∨ j = 13 ∨ j = 14 ∨ j = 15 by omega) with rfl | rfl | rfl | rfl | rfl | rfl | rfl | rfl | rfl | rfl | rfl | rfl | rfl | rfl | rfl | rfl
      · refine JW_tableIn C (pc := 39) (off := 65) (tgt := 104) dL_law_39 (by decide) (by decide) (by decide) (by decide) ?_
        exact law_message C hL hk5 hW hM hg hc next
      · refine JW_tableIn C (pc := 39) (off := 126) (tgt := 165) dL_law_39 (by decide) (by decide) (by decide) (by decide) ?_
        exact law_slot hl hst C hL hk5 hW hM hg hc next
      · refine JW_tableIn C (pc := 39) (off := 182) (tgt := 221) dL_law_39 (by decide) (by decide) (by decide) (by decide) ?_
        exact law_lose C hL hk5 hW hM hg hc next
      · refine JW_tableIn C (pc := 39) (off := 219) (tgt := 258) dL_law_39 (by decide) (by decide) (by decide) (by decide) ?_
        exact law_spine C hL hk5 hW hM hg hc next
      · refine JW_tableIn C (pc := 39) (off := 272) (tgt := 311) dL_law_39 (by decide) (by decide) (by decide) (by decide) ?_
        exact law_sent C hL hk5 hW hM hg hc next
      · refine JW_tableIn C (pc := 39) (off := 309) (tgt := 348) dL_law_39 (by decide) (by decide) (by decide) (by decide) ?_
        exact law_received C hL hk5 hW hM hg hc next
      · refine JW_tableIn C (pc := 39) (off := 346) (tgt := 385) dL_law_39 (by decide) (by decide) (by decide) (by decide) ?_
        exact law_in C hL hk5 hW hM hg hc next
      · refine JW_tableIn C (pc := 39) (off := 383) (tgt := 422) dL_law_39 (by decide) (by decide) (by decide) (by decide) ?_
        exact law_finished C hL hk5 hW hM hg hc next
      · refine JW_tableIn C (pc := 39) (off := 420) (tgt := 459) dL_law_39 (by decide) (by decide) (by decide) (by decide) ?_
        exact law_chosen C hL hk5 hW hM hg hc next
      · refine JW_tableIn C (pc := 39) (off := 457) (tgt := 496) dL_law_39 (by decide) (by decide) (by decide) (by decide) ?_
        exact law_host C hL hk5 hW hM hg hc next
      · refine JW_tableIn C (pc := 39) (off := 494) (tgt := 533) dL_law_39 (by decide) (by decide) (by decide) (by decide) ?_
        exact law_queue C hL hk5 hW hM hg hc next
      · refine JW_tableIn C (pc := 39) (off := 531) (tgt := 570) dL_law_39 (by decide) (by decide) (by decide) (by decide) ?_
        exact law_packet C hL hk5 hW hM hg hc next
      · refine JW_tableIn C (pc := 39) (off := 568) (tgt := 607) dL_law_39 (by decide) (by decide) (by decide) (by decide) ?_
        exact law_total C hL hk5 hW hM hg hc next
      · refine JW_tableOut C (pc := 39) (tgt := 632) dL_law_39 (by decide) (by decide) ?_
        exact JW_widen (by omega) (by omega) (next X Sx Sm f ⟨⟨w, rfl, hW⟩, ⟨ad, hM⟩, hg, by omega⟩)
      · refine JW_tableOut C (pc := 39) (tgt := 632) dL_law_39 (by decide) (by decide) ?_
        exact JW_widen (by omega) (by omega) (next X Sx Sm f ⟨⟨w, rfl, hW⟩, ⟨ad, hM⟩, hg, by omega⟩)
      · refine JW_tableOut C (pc := 39) (tgt := 632) dL_law_39 (by decide) (by decide) ?_
        exact JW_widen (by omega) (by omega) (next X Sx Sm f ⟨⟨w, rfl, hW⟩, ⟨ad, hM⟩, hg, by omega⟩)
end LAW
