/-! the law's cases -/
theorem le_sl {a : Nat} (h : a ≤ 601024) : a ≤ 7293034 := by omega
theorem sx {i : Int32} {L : Nat} (h : 0 ≤ i.toInt ∧ i.toInt + 5 ≤ (L : Int) ∧ L ≤ 2560) (k : Int32) (hk : 0 ≤ k.toInt ∧ k.toInt ≤ 4) : vp_in (i + k) L := by
  refine i_in ?_ ?_ <;>
  · rw [Int32.toInt_add, Int.bmod_def]
    split <;> omega
theorem dL_law_364 : decode cL_law 364 = .ok (.aload_n 1, 1) := by decide +kernel
theorem dL_law_365 : decode cL_law 365 = .ok (.aload_n 0, 1) := by decide +kernel
theorem dL_law_366 : decode cL_law 366 = .ok (.iload 5, 2) := by decide +kernel
theorem dL_law_368 : decode cL_law 368 = .ok (.iconst 1, 1) := by decide +kernel
theorem dL_law_369 : decode cL_law 369 = .ok (.iadd, 1) := by decide +kernel
theorem dL_law_370 : decode cL_law 370 = .ok (.iaload, 1) := by decide +kernel
theorem dL_law_371 : decode cL_law 371 = .ok (.aload_n 0, 1) := by decide +kernel
theorem dL_law_372 : decode cL_law 372 = .ok (.iload 5, 2) := by decide +kernel
theorem dL_law_374 : decode cL_law 374 = .ok (.iconst 2, 1) := by decide +kernel
theorem dL_law_375 : decode cL_law 375 = .ok (.iadd, 1) := by decide +kernel
theorem dL_law_376 : decode cL_law 376 = .ok (.iaload, 1) := by decide +kernel
theorem dL_law_377 : decode cL_law 377 = .ok (.aload_n 3, 1) := by decide +kernel
theorem dL_law_378 : decode cL_law 378 = .ok (.invokestatic 201, 3) := by decide +kernel
theorem dL_law_381 : decode cL_law 381 = .ok (.istore 6, 2) := by decide +kernel
theorem dL_law_383 : decode cL_law 383 = .ok (.aload_n 2, 1) := by decide +kernel
theorem dL_law_384 : decode cL_law 384 = .ok (.aload_n 0, 1) := by decide +kernel
theorem dL_law_385 : decode cL_law 385 = .ok (.iload 5, 2) := by decide +kernel
theorem dL_law_387 : decode cL_law 387 = .ok (.iconst 1, 1) := by decide +kernel
theorem dL_law_388 : decode cL_law 388 = .ok (.iadd, 1) := by decide +kernel
theorem dL_law_389 : decode cL_law 389 = .ok (.iaload, 1) := by decide +kernel
theorem dL_law_390 : decode cL_law 390 = .ok (.aload_n 0, 1) := by decide +kernel
theorem dL_law_391 : decode cL_law 391 = .ok (.iload 5, 2) := by decide +kernel
theorem dL_law_393 : decode cL_law 393 = .ok (.iconst 2, 1) := by decide +kernel
theorem dL_law_394 : decode cL_law 394 = .ok (.iadd, 1) := by decide +kernel
theorem dL_law_395 : decode cL_law 395 = .ok (.iaload, 1) := by decide +kernel
theorem dL_law_396 : decode cL_law 396 = .ok (.invokevirtual 206, 3) := by decide +kernel
theorem dL_law_399 : decode cL_law 399 = .ok (.istore 7, 2) := by decide +kernel
theorem dL_law_401 : decode cL_law 401 = .ok (.aload_n 2, 1) := by decide +kernel
theorem dL_law_402 : decode cL_law 402 = .ok (.invokevirtual 207, 3) := by decide +kernel
theorem dL_law_405 : decode cL_law 405 = .ok (.iload 6, 2) := by decide +kernel
theorem dL_law_407 : decode cL_law 407 = .ok (.if_icmp .eq 5, 3) := by decide +kernel
theorem dL_law_412 : decode cL_law 412 = .ok (.iload 6, 2) := by decide +kernel
theorem dL_law_414 : decode cL_law 414 = .ok (.ifCond .ne 15, 3) := by decide +kernel
theorem dL_law_417 : decode cL_law 417 = .ok (.aload_n 3, 1) := by decide +kernel
theorem dL_law_418 : decode cL_law 418 = .ok (.iconst 0, 1) := by decide +kernel
theorem dL_law_419 : decode cL_law 419 = .ok (.laload, 1) := by decide +kernel
theorem dL_law_420 : decode cL_law 420 = .ok (.iload 7, 2) := by decide +kernel
theorem dL_law_422 : decode cL_law 422 = .ok (.i2l, 1) := by decide +kernel
theorem dL_law_423 : decode cL_law 423 = .ok (.lcmp, 1) := by decide +kernel
theorem dL_law_424 : decode cL_law 424 = .ok (.ifCond .eq 5, 3) := by decide +kernel
theorem dL_law_429 : decode cL_law 429 = .ok (.goto 3607, 3) := by decide +kernel
set_option maxHeartbeats 8000000 in
set_option maxRecDepth 100000 in
theorem lc_0 {p : Program} {l : Launch} {e : Env} {s : State} {m : MethodId} {args : Array Value} {below : List Frame} {meth : Method} {c : Code} {H : Heap} {locs : List Loc} {Q : State → Prop} {ls : Array Slot} {G : gG} {da : Nat → Nat} {v : vSt} {x : gX} (hst : l.stackTraces = false) (X : CX G p s m args c cL_law 8 RL) (hN : NC s) {b L : Nat} {xs : Nat → Int32} (hX : va_X b L xs s s.heap) (hbl : b < s.heap.size) (hbA : ¬ gA G b) {i : Int32} (hi : 0 ≤ i.toInt ∧ i.toInt + 5 ≤ (L : Int) ∧ L ≤ 2560) (hH : Hp G da v x H) (hS : va_S (gA G) s.heap H locs) (hl : lv_has ls 8 [(0, .ref b), (1, .ref (ga G 448)), (2, .ref (ga G 461)), (3, .ref (ga G 468)), (4, .ref (ga G 469)), (5, .int i)]) {c0 c1 : Nat} (ho : olc_0 i xs v x c0 c1) (E : ∀ (da1 : Nat → Nat) (H1 : Heap) (locs1 : List Loc) (ls1 : Array Slot) (v2 : vSt) (x2 : gX), v2 = (flc_0 i xs v x).1 → x2 = (flc_0 i xs v x).2 → Hp G da1 v2 x2 H1 → va_S (gA G) s.heap H1 locs1 → lv_has ls1 8 [(0, .ref b), (1, .ref (ga G 448)), (2, .ref (ga G 461)), (3, .ref (ga G 468)), (4, .ref (ga G 469)), (5, .int i)] → W p l e room_1 s m args below meth c H1 locs1 c1 c1 Q (F0 m 4036 ls1 [])) : W p l e room_1 s m args below meth c H locs c0 c0 Q (F0 m 364 ls []) := by
  have hx := X.1
  have hb := X.2.1
  have hown := X.2.2.2.1
  have hts := X.2.2.2.2.1
  unfold olc_0 at ho
  refine lv_aload_n hx hb dL_law_364 rfl (lv_at hl 1 rfl) ?_
  refine lv_aload_n hx hb dL_law_365 rfl (lv_at hl 0 rfl) ?_
  refine lv_iload hx hb dL_law_366 (lv_at hl 5 rfl) ?_
  refine lv_iconst (v := 1) hx hb dL_law_368 (by decide) ?_
  refine lv_iadd hx hb dL_law_369 ?_
  refine va_sld hx hb hX hbl hbA hS (sx hi 1 (by decide)) dL_law_370 ?_
  refine lv_aload_n hx hb dL_law_371 rfl (lv_at hl 0 rfl) ?_
  refine lv_iload hx hb dL_law_372 (lv_at hl 5 rfl) ?_
  refine lv_iconst (v := 2) hx hb dL_law_374 (by decide) ?_
  refine lv_iadd hx hb dL_law_375 ?_
  refine va_sld hx hb hX hbl hbA hS (sx hi 2 (by decide)) dL_law_376 ?_
  refine lv_aload_n hx hb dL_law_377 rfl (lv_at hl 3 rfl) ?_
  have hq1 := ho.1
  have ho := ho.2
  have hq2 := ho.1
  have ho := ho.2
  have hq3 := ho.1
  have ho := ho.2
  refine k_L_addTool hst X hS hN hH kd_448 kd_468 hq1 t_ml_VernierDrawersLaw_201 hl.1 (Nat.le_of_ble_eq_true rfl) ⟨Nat.le_of_ble_eq_true rfl, Nat.le_of_ble_eq_true rfl⟩ ⟨hq3, (le_sl hq3)⟩ dL_law_378 (fun da H locs v4 x5 ev4 ex5 hH hS => ?_)
  have ho := ho v4 ev4 x5 ex5
  refine lv_istore (lv' := [(6, .int ((fL_addTool 448 (xs (i + 1 : Int32).toNatClampNeg) (xs (i + 2 : Int32).toNatClampNeg) 468 v x).1)), (0, .ref b), (1, .ref (ga G 448)), (2, .ref (ga G 461)), (3, .ref (ga G 468)), (4, .ref (ga G 469)), (5, .int i)]) hx hb dL_law_381 hl (by decide) rfl (fun ls hl => ?_)
  refine lv_aload_n hx hb dL_law_383 rfl (lv_at hl 3 rfl) ?_
  refine lv_aload_n hx hb dL_law_384 rfl (lv_at hl 1 rfl) ?_
  refine lv_iload hx hb dL_law_385 (lv_at hl 6 rfl) ?_
  refine lv_iconst (v := 1) hx hb dL_law_387 (by decide) ?_
  refine lv_iadd hx hb dL_law_388 ?_
  refine va_sld hx hb hX hbl hbA hS (sx hi 1 (by decide)) dL_law_389 ?_
  refine lv_aload_n hx hb dL_law_390 rfl (lv_at hl 1 rfl) ?_
  refine lv_iload hx hb dL_law_391 (lv_at hl 6 rfl) ?_
  refine lv_iconst (v := 2) hx hb dL_law_393 (by decide) ?_
  refine lv_iadd hx hb dL_law_394 ?_
  refine va_sld hx hb hX hbl hbA hS (sx hi 2 (by decide)) dL_law_395 ?_
  have hq6 := ho.1
  have ho := ho.2
  refine k_X11_addTool X hS hH kd_461 hq6 t_ml_VernierDrawersLaw_206 hl.1 (Nat.le_of_ble_eq_true rfl) ⟨Nat.le_of_ble_eq_true rfl, Nat.le_of_ble_eq_true rfl⟩ ⟨hq3, (le_sl hq3)⟩ dL_law_396 (fun da H locs v7 ev7 hH hS => ?_)
  have ho := ho v7 ev7
  refine lv_istore (lv' := [(7, .int ((fX11_addTool 461 (xs (i + 1 : Int32).toNatClampNeg) (xs (i + 2 : Int32).toNatClampNeg) v4).1)), (6, .int ((fL_addTool 448 (xs (i + 1 : Int32).toNatClampNeg) (xs (i + 2 : Int32).toNatClampNeg) 468 v x).1)), (0, .ref b), (1, .ref (ga G 448)), (2, .ref (ga G 461)), (3, .ref (ga G 468)), (4, .ref (ga G 469)), (5, .int i)]) hx hb dL_law_399 hl (by decide) rfl (fun ls hl => ?_)
  refine lv_aload_n hx hb dL_law_401 rfl (lv_at hl 4 rfl) ?_
  refine k_X11_thrown X hS hH kd_461 t_ml_VernierDrawersLaw_207 hl.1 (Nat.le_of_ble_eq_true rfl) ⟨Nat.le_of_ble_eq_true rfl, Nat.le_of_ble_eq_true rfl⟩ ⟨hq3, (le_sl hq3)⟩ dL_law_402 ?_
  refine lv_iload hx hb dL_law_405 (lv_at hl 1 rfl) ?_
  refine lv_icmp_eq (tgt := 412) hx hb dL_law_407 (by decide) (fun c8 => ?_) (fun c8 => ?_)
  · have ho := ho.1 c8
    refine lv_iload hx hb dL_law_412 (lv_at hl 1 rfl) ?_
    refine lv_if_ne (tgt := 429) hx hb dL_law_414 (by decide) (fun c9 => ?_) (fun c9 => ?_)
    · have ho := ho.2 c9
      refine lv_goto (tgt := 4036) hx hb dL_law_429 (by decide) ?_
      have hq10 := ho
      refine W.widen (k := c1) (n := c1) hq10 hq10 ?_
      replace ev4 := Eq.symm ev4
      replace ex5 := Eq.symm ex5
      replace ev7 := Eq.symm ev7
      subst ev4 ex5 ev7
      exact E _ _ _ _ _ _ (pr1 ((flc_0.eq_1 _ _ _ _).trans ((if_pos c8).trans ((if_neg c9).trans rfl)))) (pr2 ((flc_0.eq_1 _ _ _ _).trans ((if_pos c8).trans ((if_neg c9).trans rfl)))) hH hS (lv_sub hl [2, 3, 4, 5, 6, 7] rfl)
    · have ho := ho.1 c9
      refine lv_aload_n hx hb dL_law_417 rfl (lv_at hl 5 rfl) ?_
      refine lv_iconst (v := 0) hx hb dL_law_418 (by decide) ?_
      refine lald_34 X hH kd_468 (i_in (by decide) (by decide)) dL_law_419 ?_
      refine lv_iload hx hb dL_law_420 (lv_at hl 0 rfl) ?_
      refine lv_i2l (v := ((fX11_addTool 461 (xs (i + 1 : Int32).toNatClampNeg) (xs (i + 2 : Int32).toNatClampNeg) v4).1 : Int32).toInt64) hx hb dL_law_422 rfl ?_
      refine W.lcmp hx hb dL_law_423 ?_
      refine lv_if_eq (tgt := 429) hx hb dL_law_424 (by decide) (fun c11 => ?_) (fun c11 => ?_)
      · have ho := ho.1 c11
        refine lv_goto (tgt := 4036) hx hb dL_law_429 (by decide) ?_
        have hq12 := ho
        refine W.widen (k := c1) (n := c1) hq12 hq12 ?_
        replace ev4 := Eq.symm ev4
        replace ex5 := Eq.symm ex5
        replace ev7 := Eq.symm ev7
        subst ev4 ex5 ev7
        exact E _ _ _ _ _ _ (pr1 ((flc_0.eq_1 _ _ _ _).trans ((if_pos c8).trans ((if_pos c9).trans ((if_pos c11).trans rfl))))) (pr2 ((flc_0.eq_1 _ _ _ _).trans ((if_pos c8).trans ((if_pos c9).trans ((if_pos c11).trans rfl))))) hH hS (lv_sub hl [2, 3, 4, 5, 6, 7] rfl)
      · have ho := ho.2 c11
        have hq13 := ho
        exact hq13.elim
  · have ho := ho.2 c8
    have hq14 := ho
    exact hq14.elim
theorem dL_law_432 : decode cL_law 432 = .ok (.aload_n 1, 1) := by decide +kernel
theorem dL_law_433 : decode cL_law 433 = .ok (.aload_n 0, 1) := by decide +kernel
theorem dL_law_434 : decode cL_law 434 = .ok (.iload 5, 2) := by decide +kernel
theorem dL_law_436 : decode cL_law 436 = .ok (.iconst 1, 1) := by decide +kernel
theorem dL_law_437 : decode cL_law 437 = .ok (.iadd, 1) := by decide +kernel
theorem dL_law_438 : decode cL_law 438 = .ok (.iaload, 1) := by decide +kernel
theorem dL_law_439 : decode cL_law 439 = .ok (.aload_n 0, 1) := by decide +kernel
theorem dL_law_440 : decode cL_law 440 = .ok (.iload 5, 2) := by decide +kernel
theorem dL_law_442 : decode cL_law 442 = .ok (.iconst 2, 1) := by decide +kernel
theorem dL_law_443 : decode cL_law 443 = .ok (.iadd, 1) := by decide +kernel
theorem dL_law_444 : decode cL_law 444 = .ok (.iaload, 1) := by decide +kernel
theorem dL_law_445 : decode cL_law 445 = .ok (.aload_n 3, 1) := by decide +kernel
theorem dL_law_446 : decode cL_law 446 = .ok (.invokestatic 210, 3) := by decide +kernel
theorem dL_law_449 : decode cL_law 449 = .ok (.istore 6, 2) := by decide +kernel
theorem dL_law_451 : decode cL_law 451 = .ok (.aload_n 2, 1) := by decide +kernel
theorem dL_law_452 : decode cL_law 452 = .ok (.aload_n 0, 1) := by decide +kernel
theorem dL_law_453 : decode cL_law 453 = .ok (.iload 5, 2) := by decide +kernel
theorem dL_law_455 : decode cL_law 455 = .ok (.iconst 1, 1) := by decide +kernel
theorem dL_law_456 : decode cL_law 456 = .ok (.iadd, 1) := by decide +kernel
theorem dL_law_457 : decode cL_law 457 = .ok (.iaload, 1) := by decide +kernel
theorem dL_law_458 : decode cL_law 458 = .ok (.aload_n 0, 1) := by decide +kernel
theorem dL_law_459 : decode cL_law 459 = .ok (.iload 5, 2) := by decide +kernel
theorem dL_law_461 : decode cL_law 461 = .ok (.iconst 2, 1) := by decide +kernel
theorem dL_law_462 : decode cL_law 462 = .ok (.iadd, 1) := by decide +kernel
theorem dL_law_463 : decode cL_law 463 = .ok (.iaload, 1) := by decide +kernel
theorem dL_law_464 : decode cL_law 464 = .ok (.invokevirtual 212, 3) := by decide +kernel
theorem dL_law_467 : decode cL_law 467 = .ok (.istore 7, 2) := by decide +kernel
theorem dL_law_469 : decode cL_law 469 = .ok (.aload_n 2, 1) := by decide +kernel
theorem dL_law_470 : decode cL_law 470 = .ok (.invokevirtual 207, 3) := by decide +kernel
theorem dL_law_473 : decode cL_law 473 = .ok (.iload 6, 2) := by decide +kernel
theorem dL_law_475 : decode cL_law 475 = .ok (.if_icmp .eq 5, 3) := by decide +kernel
theorem dL_law_480 : decode cL_law 480 = .ok (.iload 6, 2) := by decide +kernel
theorem dL_law_482 : decode cL_law 482 = .ok (.ifCond .ne 15, 3) := by decide +kernel
theorem dL_law_485 : decode cL_law 485 = .ok (.aload_n 3, 1) := by decide +kernel
theorem dL_law_486 : decode cL_law 486 = .ok (.iconst 0, 1) := by decide +kernel
theorem dL_law_487 : decode cL_law 487 = .ok (.laload, 1) := by decide +kernel
theorem dL_law_488 : decode cL_law 488 = .ok (.iload 7, 2) := by decide +kernel
theorem dL_law_490 : decode cL_law 490 = .ok (.i2l, 1) := by decide +kernel
theorem dL_law_491 : decode cL_law 491 = .ok (.lcmp, 1) := by decide +kernel
theorem dL_law_492 : decode cL_law 492 = .ok (.ifCond .eq 5, 3) := by decide +kernel
theorem dL_law_497 : decode cL_law 497 = .ok (.goto 3539, 3) := by decide +kernel
set_option maxHeartbeats 8000000 in
set_option maxRecDepth 100000 in
theorem lc_1 {p : Program} {l : Launch} {e : Env} {s : State} {m : MethodId} {args : Array Value} {below : List Frame} {meth : Method} {c : Code} {H : Heap} {locs : List Loc} {Q : State → Prop} {ls : Array Slot} {G : gG} {da : Nat → Nat} {v : vSt} {x : gX} (hst : l.stackTraces = false) (X : CX G p s m args c cL_law 8 RL) (hN : NC s) {b L : Nat} {xs : Nat → Int32} (hX : va_X b L xs s s.heap) (hbl : b < s.heap.size) (hbA : ¬ gA G b) {i : Int32} (hi : 0 ≤ i.toInt ∧ i.toInt + 5 ≤ (L : Int) ∧ L ≤ 2560) (hH : Hp G da v x H) (hS : va_S (gA G) s.heap H locs) (hl : lv_has ls 8 [(0, .ref b), (1, .ref (ga G 448)), (2, .ref (ga G 461)), (3, .ref (ga G 468)), (4, .ref (ga G 469)), (5, .int i)]) {c0 c1 : Nat} (ho : olc_1 i xs v x c0 c1) (E : ∀ (da1 : Nat → Nat) (H1 : Heap) (locs1 : List Loc) (ls1 : Array Slot) (v2 : vSt) (x2 : gX), v2 = (flc_1 i xs v x).1 → x2 = (flc_1 i xs v x).2 → Hp G da1 v2 x2 H1 → va_S (gA G) s.heap H1 locs1 → lv_has ls1 8 [(0, .ref b), (1, .ref (ga G 448)), (2, .ref (ga G 461)), (3, .ref (ga G 468)), (4, .ref (ga G 469)), (5, .int i)] → W p l e room_1 s m args below meth c H1 locs1 c1 c1 Q (F0 m 4036 ls1 [])) : W p l e room_1 s m args below meth c H locs c0 c0 Q (F0 m 432 ls []) := by
  have hx := X.1
  have hb := X.2.1
  have hown := X.2.2.2.1
  have hts := X.2.2.2.2.1
  unfold olc_1 at ho
  refine lv_aload_n hx hb dL_law_432 rfl (lv_at hl 1 rfl) ?_
  refine lv_aload_n hx hb dL_law_433 rfl (lv_at hl 0 rfl) ?_
  refine lv_iload hx hb dL_law_434 (lv_at hl 5 rfl) ?_
  refine lv_iconst (v := 1) hx hb dL_law_436 (by decide) ?_
  refine lv_iadd hx hb dL_law_437 ?_
  refine va_sld hx hb hX hbl hbA hS (sx hi 1 (by decide)) dL_law_438 ?_
  refine lv_aload_n hx hb dL_law_439 rfl (lv_at hl 0 rfl) ?_
  refine lv_iload hx hb dL_law_440 (lv_at hl 5 rfl) ?_
  refine lv_iconst (v := 2) hx hb dL_law_442 (by decide) ?_
  refine lv_iadd hx hb dL_law_443 ?_
  refine va_sld hx hb hX hbl hbA hS (sx hi 2 (by decide)) dL_law_444 ?_
  refine lv_aload_n hx hb dL_law_445 rfl (lv_at hl 3 rfl) ?_
  have hq1 := ho.1
  have ho := ho.2
  have hq2 := ho.1
  have ho := ho.2
  have hq3 := ho.1
  have ho := ho.2
  refine k_L_addBlock hst X hS hN hH kd_448 kd_468 hq1 t_ml_VernierDrawersLaw_210 hl.1 (Nat.le_of_ble_eq_true rfl) ⟨Nat.le_of_ble_eq_true rfl, Nat.le_of_ble_eq_true rfl⟩ ⟨hq3, (le_sl hq3)⟩ dL_law_446 (fun da H locs v4 x5 ev4 ex5 hH hS => ?_)
  have ho := ho v4 ev4 x5 ex5
  refine lv_istore (lv' := [(6, .int ((fL_addBlock 448 (xs (i + 1 : Int32).toNatClampNeg) (xs (i + 2 : Int32).toNatClampNeg) 468 v x).1)), (0, .ref b), (1, .ref (ga G 448)), (2, .ref (ga G 461)), (3, .ref (ga G 468)), (4, .ref (ga G 469)), (5, .int i)]) hx hb dL_law_449 hl (by decide) rfl (fun ls hl => ?_)
  refine lv_aload_n hx hb dL_law_451 rfl (lv_at hl 3 rfl) ?_
  refine lv_aload_n hx hb dL_law_452 rfl (lv_at hl 1 rfl) ?_
  refine lv_iload hx hb dL_law_453 (lv_at hl 6 rfl) ?_
  refine lv_iconst (v := 1) hx hb dL_law_455 (by decide) ?_
  refine lv_iadd hx hb dL_law_456 ?_
  refine va_sld hx hb hX hbl hbA hS (sx hi 1 (by decide)) dL_law_457 ?_
  refine lv_aload_n hx hb dL_law_458 rfl (lv_at hl 1 rfl) ?_
  refine lv_iload hx hb dL_law_459 (lv_at hl 6 rfl) ?_
  refine lv_iconst (v := 2) hx hb dL_law_461 (by decide) ?_
  refine lv_iadd hx hb dL_law_462 ?_
  refine va_sld hx hb hX hbl hbA hS (sx hi 2 (by decide)) dL_law_463 ?_
  have hq6 := ho.1
  have ho := ho.2
  refine k_X11_addBlock X hS hH kd_461 hq6 t_ml_VernierDrawersLaw_212 hl.1 (Nat.le_of_ble_eq_true rfl) ⟨Nat.le_of_ble_eq_true rfl, Nat.le_of_ble_eq_true rfl⟩ ⟨hq3, (le_sl hq3)⟩ dL_law_464 (fun da H locs v7 ev7 hH hS => ?_)
  have ho := ho v7 ev7
  refine lv_istore (lv' := [(7, .int ((fX11_addBlock 461 (xs (i + 1 : Int32).toNatClampNeg) (xs (i + 2 : Int32).toNatClampNeg) v4).1)), (6, .int ((fL_addBlock 448 (xs (i + 1 : Int32).toNatClampNeg) (xs (i + 2 : Int32).toNatClampNeg) 468 v x).1)), (0, .ref b), (1, .ref (ga G 448)), (2, .ref (ga G 461)), (3, .ref (ga G 468)), (4, .ref (ga G 469)), (5, .int i)]) hx hb dL_law_467 hl (by decide) rfl (fun ls hl => ?_)
  refine lv_aload_n hx hb dL_law_469 rfl (lv_at hl 4 rfl) ?_
  refine k_X11_thrown X hS hH kd_461 t_ml_VernierDrawersLaw_207 hl.1 (Nat.le_of_ble_eq_true rfl) ⟨Nat.le_of_ble_eq_true rfl, Nat.le_of_ble_eq_true rfl⟩ ⟨hq3, (le_sl hq3)⟩ dL_law_470 ?_
  refine lv_iload hx hb dL_law_473 (lv_at hl 1 rfl) ?_
  refine lv_icmp_eq (tgt := 480) hx hb dL_law_475 (by decide) (fun c8 => ?_) (fun c8 => ?_)
  · have ho := ho.1 c8
    refine lv_iload hx hb dL_law_480 (lv_at hl 1 rfl) ?_
    refine lv_if_ne (tgt := 497) hx hb dL_law_482 (by decide) (fun c9 => ?_) (fun c9 => ?_)
    · have ho := ho.2 c9
      refine lv_goto (tgt := 4036) hx hb dL_law_497 (by decide) ?_
      have hq10 := ho
      refine W.widen (k := c1) (n := c1) hq10 hq10 ?_
      replace ev4 := Eq.symm ev4
      replace ex5 := Eq.symm ex5
      replace ev7 := Eq.symm ev7
      subst ev4 ex5 ev7
      exact E _ _ _ _ _ _ (pr1 ((flc_1.eq_1 _ _ _ _).trans ((if_pos c8).trans ((if_neg c9).trans rfl)))) (pr2 ((flc_1.eq_1 _ _ _ _).trans ((if_pos c8).trans ((if_neg c9).trans rfl)))) hH hS (lv_sub hl [2, 3, 4, 5, 6, 7] rfl)
    · have ho := ho.1 c9
      refine lv_aload_n hx hb dL_law_485 rfl (lv_at hl 5 rfl) ?_
      refine lv_iconst (v := 0) hx hb dL_law_486 (by decide) ?_
      refine lald_34 X hH kd_468 (i_in (by decide) (by decide)) dL_law_487 ?_
      refine lv_iload hx hb dL_law_488 (lv_at hl 0 rfl) ?_
      refine lv_i2l (v := ((fX11_addBlock 461 (xs (i + 1 : Int32).toNatClampNeg) (xs (i + 2 : Int32).toNatClampNeg) v4).1 : Int32).toInt64) hx hb dL_law_490 rfl ?_
      refine W.lcmp hx hb dL_law_491 ?_
      refine lv_if_eq (tgt := 497) hx hb dL_law_492 (by decide) (fun c11 => ?_) (fun c11 => ?_)
      · have ho := ho.1 c11
        refine lv_goto (tgt := 4036) hx hb dL_law_497 (by decide) ?_
        have hq12 := ho
        refine W.widen (k := c1) (n := c1) hq12 hq12 ?_
        replace ev4 := Eq.symm ev4
        replace ex5 := Eq.symm ex5
        replace ev7 := Eq.symm ev7
        subst ev4 ex5 ev7
        exact E _ _ _ _ _ _ (pr1 ((flc_1.eq_1 _ _ _ _).trans ((if_pos c8).trans ((if_pos c9).trans ((if_pos c11).trans rfl))))) (pr2 ((flc_1.eq_1 _ _ _ _).trans ((if_pos c8).trans ((if_pos c9).trans ((if_pos c11).trans rfl))))) hH hS (lv_sub hl [2, 3, 4, 5, 6, 7] rfl)
      · have ho := ho.2 c11
        have hq13 := ho
        exact hq13.elim
  · have ho := ho.2 c8
    have hq14 := ho
    exact hq14.elim
theorem dL_law_500 : decode cL_law 500 = .ok (.aload_n 1, 1) := by decide +kernel
theorem dL_law_501 : decode cL_law 501 = .ok (.aload_n 0, 1) := by decide +kernel
theorem dL_law_502 : decode cL_law 502 = .ok (.iload 5, 2) := by decide +kernel
theorem dL_law_504 : decode cL_law 504 = .ok (.iconst 1, 1) := by decide +kernel
theorem dL_law_505 : decode cL_law 505 = .ok (.iadd, 1) := by decide +kernel
theorem dL_law_506 : decode cL_law 506 = .ok (.iaload, 1) := by decide +kernel
theorem dL_law_507 : decode cL_law 507 = .ok (.aload_n 3, 1) := by decide +kernel
theorem dL_law_508 : decode cL_law 508 = .ok (.invokestatic 213, 3) := by decide +kernel
theorem dL_law_511 : decode cL_law 511 = .ok (.istore 6, 2) := by decide +kernel
theorem dL_law_513 : decode cL_law 513 = .ok (.aload_n 2, 1) := by decide +kernel
theorem dL_law_514 : decode cL_law 514 = .ok (.aload_n 0, 1) := by decide +kernel
theorem dL_law_515 : decode cL_law 515 = .ok (.iload 5, 2) := by decide +kernel
theorem dL_law_517 : decode cL_law 517 = .ok (.iconst 1, 1) := by decide +kernel
theorem dL_law_518 : decode cL_law 518 = .ok (.iadd, 1) := by decide +kernel
theorem dL_law_519 : decode cL_law 519 = .ok (.iaload, 1) := by decide +kernel
theorem dL_law_520 : decode cL_law 520 = .ok (.invokevirtual 216, 3) := by decide +kernel
theorem dL_law_523 : decode cL_law 523 = .ok (.istore 7, 2) := by decide +kernel
theorem dL_law_525 : decode cL_law 525 = .ok (.aload_n 2, 1) := by decide +kernel
theorem dL_law_526 : decode cL_law 526 = .ok (.invokevirtual 207, 3) := by decide +kernel
theorem dL_law_529 : decode cL_law 529 = .ok (.iload 6, 2) := by decide +kernel
theorem dL_law_531 : decode cL_law 531 = .ok (.if_icmp .eq 5, 3) := by decide +kernel
theorem dL_law_536 : decode cL_law 536 = .ok (.iload 6, 2) := by decide +kernel
theorem dL_law_538 : decode cL_law 538 = .ok (.ifCond .ne 15, 3) := by decide +kernel
theorem dL_law_541 : decode cL_law 541 = .ok (.aload_n 3, 1) := by decide +kernel
theorem dL_law_542 : decode cL_law 542 = .ok (.iconst 0, 1) := by decide +kernel
theorem dL_law_543 : decode cL_law 543 = .ok (.laload, 1) := by decide +kernel
theorem dL_law_544 : decode cL_law 544 = .ok (.iload 7, 2) := by decide +kernel
theorem dL_law_546 : decode cL_law 546 = .ok (.i2l, 1) := by decide +kernel
theorem dL_law_547 : decode cL_law 547 = .ok (.lcmp, 1) := by decide +kernel
theorem dL_law_548 : decode cL_law 548 = .ok (.ifCond .eq 5, 3) := by decide +kernel
theorem dL_law_553 : decode cL_law 553 = .ok (.goto 3483, 3) := by decide +kernel
set_option maxHeartbeats 8000000 in
set_option maxRecDepth 100000 in
theorem lc_2 {p : Program} {l : Launch} {e : Env} {s : State} {m : MethodId} {args : Array Value} {below : List Frame} {meth : Method} {c : Code} {H : Heap} {locs : List Loc} {Q : State → Prop} {ls : Array Slot} {G : gG} {da : Nat → Nat} {v : vSt} {x : gX} (hst : l.stackTraces = false) (X : CX G p s m args c cL_law 8 RL) (hN : NC s) {b L : Nat} {xs : Nat → Int32} (hX : va_X b L xs s s.heap) (hbl : b < s.heap.size) (hbA : ¬ gA G b) {i : Int32} (hi : 0 ≤ i.toInt ∧ i.toInt + 5 ≤ (L : Int) ∧ L ≤ 2560) (hH : Hp G da v x H) (hS : va_S (gA G) s.heap H locs) (hl : lv_has ls 8 [(0, .ref b), (1, .ref (ga G 448)), (2, .ref (ga G 461)), (3, .ref (ga G 468)), (4, .ref (ga G 469)), (5, .int i)]) {c0 c1 : Nat} (ho : olc_2 i xs v x c0 c1) (E : ∀ (da1 : Nat → Nat) (H1 : Heap) (locs1 : List Loc) (ls1 : Array Slot) (v2 : vSt) (x2 : gX), v2 = (flc_2 i xs v x).1 → x2 = (flc_2 i xs v x).2 → Hp G da1 v2 x2 H1 → va_S (gA G) s.heap H1 locs1 → lv_has ls1 8 [(0, .ref b), (1, .ref (ga G 448)), (2, .ref (ga G 461)), (3, .ref (ga G 468)), (4, .ref (ga G 469)), (5, .int i)] → W p l e room_1 s m args below meth c H1 locs1 c1 c1 Q (F0 m 4036 ls1 [])) : W p l e room_1 s m args below meth c H locs c0 c0 Q (F0 m 500 ls []) := by
  have hx := X.1
  have hb := X.2.1
  have hown := X.2.2.2.1
  have hts := X.2.2.2.2.1
  unfold olc_2 at ho
  refine lv_aload_n hx hb dL_law_500 rfl (lv_at hl 1 rfl) ?_
  refine lv_aload_n hx hb dL_law_501 rfl (lv_at hl 0 rfl) ?_
  refine lv_iload hx hb dL_law_502 (lv_at hl 5 rfl) ?_
  refine lv_iconst (v := 1) hx hb dL_law_504 (by decide) ?_
  refine lv_iadd hx hb dL_law_505 ?_
  refine va_sld hx hb hX hbl hbA hS (sx hi 1 (by decide)) dL_law_506 ?_
  refine lv_aload_n hx hb dL_law_507 rfl (lv_at hl 3 rfl) ?_
  have hq1 := ho.1
  have ho := ho.2
  have hq2 := ho.1
  have ho := ho.2
  have hq3 := ho.1
  have ho := ho.2
  refine k_L_setWarmth hst X hS hN hH kd_448 kd_468 hq1 t_ml_VernierDrawersLaw_213 hl.1 (Nat.le_of_ble_eq_true rfl) ⟨Nat.le_of_ble_eq_true rfl, Nat.le_of_ble_eq_true rfl⟩ ⟨hq3, (le_sl hq3)⟩ dL_law_508 (fun da H locs v4 x5 ev4 ex5 hH hS => ?_)
  have ho := ho v4 ev4 x5 ex5
  refine lv_istore (lv' := [(6, .int ((fL_setWarmth 448 (xs (i + 1 : Int32).toNatClampNeg) 468 v x).1)), (0, .ref b), (1, .ref (ga G 448)), (2, .ref (ga G 461)), (3, .ref (ga G 468)), (4, .ref (ga G 469)), (5, .int i)]) hx hb dL_law_511 hl (by decide) rfl (fun ls hl => ?_)
  refine lv_aload_n hx hb dL_law_513 rfl (lv_at hl 3 rfl) ?_
  refine lv_aload_n hx hb dL_law_514 rfl (lv_at hl 1 rfl) ?_
  refine lv_iload hx hb dL_law_515 (lv_at hl 6 rfl) ?_
  refine lv_iconst (v := 1) hx hb dL_law_517 (by decide) ?_
  refine lv_iadd hx hb dL_law_518 ?_
  refine va_sld hx hb hX hbl hbA hS (sx hi 1 (by decide)) dL_law_519 ?_
  have hq6 := ho.1
  have ho := ho.2
  refine k_X11_setWarmth X hS hH kd_461 hq6 t_ml_VernierDrawersLaw_216 hl.1 (Nat.le_of_ble_eq_true rfl) ⟨Nat.le_of_ble_eq_true rfl, Nat.le_of_ble_eq_true rfl⟩ ⟨hq3, (le_sl hq3)⟩ dL_law_520 (fun da H locs v7 ev7 hH hS => ?_)
  have ho := ho v7 ev7
  refine lv_istore (lv' := [(7, .int ((fX11_setWarmth 461 (xs (i + 1 : Int32).toNatClampNeg) v4).1)), (6, .int ((fL_setWarmth 448 (xs (i + 1 : Int32).toNatClampNeg) 468 v x).1)), (0, .ref b), (1, .ref (ga G 448)), (2, .ref (ga G 461)), (3, .ref (ga G 468)), (4, .ref (ga G 469)), (5, .int i)]) hx hb dL_law_523 hl (by decide) rfl (fun ls hl => ?_)
  refine lv_aload_n hx hb dL_law_525 rfl (lv_at hl 4 rfl) ?_
  refine k_X11_thrown X hS hH kd_461 t_ml_VernierDrawersLaw_207 hl.1 (Nat.le_of_ble_eq_true rfl) ⟨Nat.le_of_ble_eq_true rfl, Nat.le_of_ble_eq_true rfl⟩ ⟨hq3, (le_sl hq3)⟩ dL_law_526 ?_
  refine lv_iload hx hb dL_law_529 (lv_at hl 1 rfl) ?_
  refine lv_icmp_eq (tgt := 536) hx hb dL_law_531 (by decide) (fun c8 => ?_) (fun c8 => ?_)
  · have ho := ho.1 c8
    refine lv_iload hx hb dL_law_536 (lv_at hl 1 rfl) ?_
    refine lv_if_ne (tgt := 553) hx hb dL_law_538 (by decide) (fun c9 => ?_) (fun c9 => ?_)
    · have ho := ho.2 c9
      refine lv_goto (tgt := 4036) hx hb dL_law_553 (by decide) ?_
      have hq10 := ho
      refine W.widen (k := c1) (n := c1) hq10 hq10 ?_
      replace ev4 := Eq.symm ev4
      replace ex5 := Eq.symm ex5
      replace ev7 := Eq.symm ev7
      subst ev4 ex5 ev7
      exact E _ _ _ _ _ _ (pr1 ((flc_2.eq_1 _ _ _ _).trans ((if_pos c8).trans ((if_neg c9).trans rfl)))) (pr2 ((flc_2.eq_1 _ _ _ _).trans ((if_pos c8).trans ((if_neg c9).trans rfl)))) hH hS (lv_sub hl [2, 3, 4, 5, 6, 7] rfl)
    · have ho := ho.1 c9
      refine lv_aload_n hx hb dL_law_541 rfl (lv_at hl 5 rfl) ?_
      refine lv_iconst (v := 0) hx hb dL_law_542 (by decide) ?_
      refine lald_34 X hH kd_468 (i_in (by decide) (by decide)) dL_law_543 ?_
      refine lv_iload hx hb dL_law_544 (lv_at hl 0 rfl) ?_
      refine lv_i2l (v := ((fX11_setWarmth 461 (xs (i + 1 : Int32).toNatClampNeg) v4).1 : Int32).toInt64) hx hb dL_law_546 rfl ?_
      refine W.lcmp hx hb dL_law_547 ?_
      refine lv_if_eq (tgt := 553) hx hb dL_law_548 (by decide) (fun c11 => ?_) (fun c11 => ?_)
      · have ho := ho.1 c11
        refine lv_goto (tgt := 4036) hx hb dL_law_553 (by decide) ?_
        have hq12 := ho
        refine W.widen (k := c1) (n := c1) hq12 hq12 ?_
        replace ev4 := Eq.symm ev4
        replace ex5 := Eq.symm ex5
        replace ev7 := Eq.symm ev7
        subst ev4 ex5 ev7
        exact E _ _ _ _ _ _ (pr1 ((flc_2.eq_1 _ _ _ _).trans ((if_pos c8).trans ((if_pos c9).trans ((if_pos c11).trans rfl))))) (pr2 ((flc_2.eq_1 _ _ _ _).trans ((if_pos c8).trans ((if_pos c9).trans ((if_pos c11).trans rfl))))) hH hS (lv_sub hl [2, 3, 4, 5, 6, 7] rfl)
      · have ho := ho.2 c11
        have hq13 := ho
        exact hq13.elim
  · have ho := ho.2 c8
    have hq14 := ho
    exact hq14.elim
theorem dL_law_556 : decode cL_law 556 = .ok (.aload_n 1, 1) := by decide +kernel
theorem dL_law_557 : decode cL_law 557 = .ok (.aload_n 0, 1) := by decide +kernel
theorem dL_law_558 : decode cL_law 558 = .ok (.iload 5, 2) := by decide +kernel
theorem dL_law_560 : decode cL_law 560 = .ok (.iconst 1, 1) := by decide +kernel
theorem dL_law_561 : decode cL_law 561 = .ok (.iadd, 1) := by decide +kernel
theorem dL_law_562 : decode cL_law 562 = .ok (.iaload, 1) := by decide +kernel
theorem dL_law_563 : decode cL_law 563 = .ok (.aload_n 0, 1) := by decide +kernel
theorem dL_law_564 : decode cL_law 564 = .ok (.iload 5, 2) := by decide +kernel
theorem dL_law_566 : decode cL_law 566 = .ok (.iconst 2, 1) := by decide +kernel
theorem dL_law_567 : decode cL_law 567 = .ok (.iadd, 1) := by decide +kernel
theorem dL_law_568 : decode cL_law 568 = .ok (.iaload, 1) := by decide +kernel
theorem dL_law_569 : decode cL_law 569 = .ok (.aload_n 0, 1) := by decide +kernel
theorem dL_law_570 : decode cL_law 570 = .ok (.iload 5, 2) := by decide +kernel
theorem dL_law_572 : decode cL_law 572 = .ok (.iconst 3, 1) := by decide +kernel
theorem dL_law_573 : decode cL_law 573 = .ok (.iadd, 1) := by decide +kernel
theorem dL_law_574 : decode cL_law 574 = .ok (.iaload, 1) := by decide +kernel
theorem dL_law_575 : decode cL_law 575 = .ok (.aload_n 3, 1) := by decide +kernel
theorem dL_law_576 : decode cL_law 576 = .ok (.invokestatic 217, 3) := by decide +kernel
theorem dL_law_579 : decode cL_law 579 = .ok (.istore 6, 2) := by decide +kernel
theorem dL_law_581 : decode cL_law 581 = .ok (.aload_n 2, 1) := by decide +kernel
theorem dL_law_582 : decode cL_law 582 = .ok (.aload_n 0, 1) := by decide +kernel
theorem dL_law_583 : decode cL_law 583 = .ok (.iload 5, 2) := by decide +kernel
theorem dL_law_585 : decode cL_law 585 = .ok (.iconst 1, 1) := by decide +kernel
theorem dL_law_586 : decode cL_law 586 = .ok (.iadd, 1) := by decide +kernel
theorem dL_law_587 : decode cL_law 587 = .ok (.iaload, 1) := by decide +kernel
theorem dL_law_588 : decode cL_law 588 = .ok (.aload_n 0, 1) := by decide +kernel
theorem dL_law_589 : decode cL_law 589 = .ok (.iload 5, 2) := by decide +kernel
theorem dL_law_591 : decode cL_law 591 = .ok (.iconst 2, 1) := by decide +kernel
theorem dL_law_592 : decode cL_law 592 = .ok (.iadd, 1) := by decide +kernel
theorem dL_law_593 : decode cL_law 593 = .ok (.iaload, 1) := by decide +kernel
theorem dL_law_594 : decode cL_law 594 = .ok (.aload_n 0, 1) := by decide +kernel
theorem dL_law_595 : decode cL_law 595 = .ok (.iload 5, 2) := by decide +kernel
theorem dL_law_597 : decode cL_law 597 = .ok (.iconst 3, 1) := by decide +kernel
theorem dL_law_598 : decode cL_law 598 = .ok (.iadd, 1) := by decide +kernel
theorem dL_law_599 : decode cL_law 599 = .ok (.iaload, 1) := by decide +kernel
theorem dL_law_600 : decode cL_law 600 = .ok (.invokevirtual 220, 3) := by decide +kernel
theorem dL_law_603 : decode cL_law 603 = .ok (.istore 7, 2) := by decide +kernel
theorem dL_law_605 : decode cL_law 605 = .ok (.aload_n 2, 1) := by decide +kernel
theorem dL_law_606 : decode cL_law 606 = .ok (.invokevirtual 207, 3) := by decide +kernel
theorem dL_law_609 : decode cL_law 609 = .ok (.iload 6, 2) := by decide +kernel
theorem dL_law_611 : decode cL_law 611 = .ok (.if_icmp .eq 5, 3) := by decide +kernel
theorem dL_law_616 : decode cL_law 616 = .ok (.iload 6, 2) := by decide +kernel
theorem dL_law_618 : decode cL_law 618 = .ok (.ifCond .ne 15, 3) := by decide +kernel
theorem dL_law_621 : decode cL_law 621 = .ok (.aload_n 3, 1) := by decide +kernel
theorem dL_law_622 : decode cL_law 622 = .ok (.iconst 0, 1) := by decide +kernel
theorem dL_law_623 : decode cL_law 623 = .ok (.laload, 1) := by decide +kernel
theorem dL_law_624 : decode cL_law 624 = .ok (.iload 7, 2) := by decide +kernel
theorem dL_law_626 : decode cL_law 626 = .ok (.i2l, 1) := by decide +kernel
theorem dL_law_627 : decode cL_law 627 = .ok (.lcmp, 1) := by decide +kernel
theorem dL_law_628 : decode cL_law 628 = .ok (.ifCond .eq 5, 3) := by decide +kernel
theorem dL_law_633 : decode cL_law 633 = .ok (.goto 3403, 3) := by decide +kernel
set_option maxHeartbeats 8000000 in
set_option maxRecDepth 100000 in
theorem lc_3 {p : Program} {l : Launch} {e : Env} {s : State} {m : MethodId} {args : Array Value} {below : List Frame} {meth : Method} {c : Code} {H : Heap} {locs : List Loc} {Q : State → Prop} {ls : Array Slot} {G : gG} {da : Nat → Nat} {v : vSt} {x : gX} (hst : l.stackTraces = false) (X : CX G p s m args c cL_law 8 RL) (hN : NC s) {b L : Nat} {xs : Nat → Int32} (hX : va_X b L xs s s.heap) (hbl : b < s.heap.size) (hbA : ¬ gA G b) {i : Int32} (hi : 0 ≤ i.toInt ∧ i.toInt + 5 ≤ (L : Int) ∧ L ≤ 2560) (hH : Hp G da v x H) (hS : va_S (gA G) s.heap H locs) (hl : lv_has ls 8 [(0, .ref b), (1, .ref (ga G 448)), (2, .ref (ga G 461)), (3, .ref (ga G 468)), (4, .ref (ga G 469)), (5, .int i)]) {c0 c1 : Nat} (ho : olc_3 i xs v x c0 c1) (E : ∀ (da1 : Nat → Nat) (H1 : Heap) (locs1 : List Loc) (ls1 : Array Slot) (v2 : vSt) (x2 : gX), v2 = (flc_3 i xs v x).1 → x2 = (flc_3 i xs v x).2 → Hp G da1 v2 x2 H1 → va_S (gA G) s.heap H1 locs1 → lv_has ls1 8 [(0, .ref b), (1, .ref (ga G 448)), (2, .ref (ga G 461)), (3, .ref (ga G 468)), (4, .ref (ga G 469)), (5, .int i)] → W p l e room_1 s m args below meth c H1 locs1 c1 c1 Q (F0 m 4036 ls1 [])) : W p l e room_1 s m args below meth c H locs c0 c0 Q (F0 m 556 ls []) := by
  have hx := X.1
  have hb := X.2.1
  have hown := X.2.2.2.1
  have hts := X.2.2.2.2.1
  unfold olc_3 at ho
  refine lv_aload_n hx hb dL_law_556 rfl (lv_at hl 1 rfl) ?_
  refine lv_aload_n hx hb dL_law_557 rfl (lv_at hl 0 rfl) ?_
  refine lv_iload hx hb dL_law_558 (lv_at hl 5 rfl) ?_
  refine lv_iconst (v := 1) hx hb dL_law_560 (by decide) ?_
  refine lv_iadd hx hb dL_law_561 ?_
  refine va_sld hx hb hX hbl hbA hS (sx hi 1 (by decide)) dL_law_562 ?_
  refine lv_aload_n hx hb dL_law_563 rfl (lv_at hl 0 rfl) ?_
  refine lv_iload hx hb dL_law_564 (lv_at hl 5 rfl) ?_
  refine lv_iconst (v := 2) hx hb dL_law_566 (by decide) ?_
  refine lv_iadd hx hb dL_law_567 ?_
  refine va_sld hx hb hX hbl hbA hS (sx hi 2 (by decide)) dL_law_568 ?_
  refine lv_aload_n hx hb dL_law_569 rfl (lv_at hl 0 rfl) ?_
  refine lv_iload hx hb dL_law_570 (lv_at hl 5 rfl) ?_
  refine lv_iconst (v := 3) hx hb dL_law_572 (by decide) ?_
  refine lv_iadd hx hb dL_law_573 ?_
  refine va_sld hx hb hX hbl hbA hS (sx hi 3 (by decide)) dL_law_574 ?_
  refine lv_aload_n hx hb dL_law_575 rfl (lv_at hl 3 rfl) ?_
  have hq1 := ho.1
  have ho := ho.2
  have hq2 := ho.1
  have ho := ho.2
  have hq3 := ho.1
  have ho := ho.2
  refine k_L_measure hst X hS hN hH kd_448 kd_468 hq1 t_ml_VernierDrawersLaw_217 hl.1 (Nat.le_of_ble_eq_true rfl) ⟨Nat.le_of_ble_eq_true rfl, Nat.le_of_ble_eq_true rfl⟩ ⟨hq3, (le_sl hq3)⟩ dL_law_576 (fun da H locs v4 x5 ev4 ex5 hH hS => ?_)
  have ho := ho v4 ev4 x5 ex5
  obtain ⟨y6, ey6⟩ : ∃ z : Int32, z = (fL_measure 448 (xs (i + 1 : Int32).toNatClampNeg) (xs (i + 2 : Int32).toNatClampNeg) (xs (i + 3 : Int32).toNatClampNeg) 468 v x).1 := ⟨_, rfl⟩
  rw [← ey6]
  have ho := ho y6 ey6
  refine lv_istore (lv' := [(6, .int y6), (0, .ref b), (1, .ref (ga G 448)), (2, .ref (ga G 461)), (3, .ref (ga G 468)), (4, .ref (ga G 469)), (5, .int i)]) hx hb dL_law_579 hl (by decide) rfl (fun ls hl => ?_)
  refine lv_aload_n hx hb dL_law_581 rfl (lv_at hl 3 rfl) ?_
  refine lv_aload_n hx hb dL_law_582 rfl (lv_at hl 1 rfl) ?_
  refine lv_iload hx hb dL_law_583 (lv_at hl 6 rfl) ?_
  refine lv_iconst (v := 1) hx hb dL_law_585 (by decide) ?_
  refine lv_iadd hx hb dL_law_586 ?_
  refine va_sld hx hb hX hbl hbA hS (sx hi 1 (by decide)) dL_law_587 ?_
  refine lv_aload_n hx hb dL_law_588 rfl (lv_at hl 1 rfl) ?_
  refine lv_iload hx hb dL_law_589 (lv_at hl 6 rfl) ?_
  refine lv_iconst (v := 2) hx hb dL_law_591 (by decide) ?_
  refine lv_iadd hx hb dL_law_592 ?_
  refine va_sld hx hb hX hbl hbA hS (sx hi 2 (by decide)) dL_law_593 ?_
  refine lv_aload_n hx hb dL_law_594 rfl (lv_at hl 1 rfl) ?_
  refine lv_iload hx hb dL_law_595 (lv_at hl 6 rfl) ?_
  refine lv_iconst (v := 3) hx hb dL_law_597 (by decide) ?_
  refine lv_iadd hx hb dL_law_598 ?_
  refine va_sld hx hb hX hbl hbA hS (sx hi 3 (by decide)) dL_law_599 ?_
  have hq7 := ho.1
  have ho := ho.2
  refine k_X11_measure X hS hH kd_461 hq7 t_ml_VernierDrawersLaw_220 hl.1 (Nat.le_of_ble_eq_true rfl) ⟨Nat.le_of_ble_eq_true rfl, Nat.le_of_ble_eq_true rfl⟩ ⟨hq3, (le_sl hq3)⟩ dL_law_600 (fun da H locs v8 ev8 hH hS => ?_)
  have ho := ho v8 ev8
  obtain ⟨y9, ey9⟩ : ∃ z : Int32, z = (fX11_measure 461 (xs (i + 1 : Int32).toNatClampNeg) (xs (i + 2 : Int32).toNatClampNeg) (xs (i + 3 : Int32).toNatClampNeg) v4).1 := ⟨_, rfl⟩
  rw [← ey9]
  have ho := ho y9 ey9
  refine lv_istore (lv' := [(7, .int y9), (6, .int y6), (0, .ref b), (1, .ref (ga G 448)), (2, .ref (ga G 461)), (3, .ref (ga G 468)), (4, .ref (ga G 469)), (5, .int i)]) hx hb dL_law_603 hl (by decide) rfl (fun ls hl => ?_)
  refine lv_aload_n hx hb dL_law_605 rfl (lv_at hl 4 rfl) ?_
  refine k_X11_thrown X hS hH kd_461 t_ml_VernierDrawersLaw_207 hl.1 (Nat.le_of_ble_eq_true rfl) ⟨Nat.le_of_ble_eq_true rfl, Nat.le_of_ble_eq_true rfl⟩ ⟨hq3, (le_sl hq3)⟩ dL_law_606 ?_
  refine lv_iload hx hb dL_law_609 (lv_at hl 1 rfl) ?_
  refine lv_icmp_eq (tgt := 616) hx hb dL_law_611 (by decide) (fun c10 => ?_) (fun c10 => ?_)
  · have ho := ho.1 c10
    refine lv_iload hx hb dL_law_616 (lv_at hl 1 rfl) ?_
    refine lv_if_ne (tgt := 633) hx hb dL_law_618 (by decide) (fun c11 => ?_) (fun c11 => ?_)
    · have ho := ho.2 c11
      refine lv_goto (tgt := 4036) hx hb dL_law_633 (by decide) ?_
      have hq12 := ho
      refine W.widen (k := c1) (n := c1) hq12 hq12 ?_
      replace ev4 := Eq.symm ev4
      replace ex5 := Eq.symm ex5
      replace ey6 := Eq.symm ey6
      replace ev8 := Eq.symm ev8
      replace ey9 := Eq.symm ey9
      subst ev4 ex5 ey6 ev8 ey9
      exact E _ _ _ _ _ _ (pr1 ((flc_3.eq_1 _ _ _ _).trans ((if_pos c10).trans ((if_neg c11).trans rfl)))) (pr2 ((flc_3.eq_1 _ _ _ _).trans ((if_pos c10).trans ((if_neg c11).trans rfl)))) hH hS (lv_sub hl [2, 3, 4, 5, 6, 7] rfl)
    · have ho := ho.1 c11
      refine lv_aload_n hx hb dL_law_621 rfl (lv_at hl 5 rfl) ?_
      refine lv_iconst (v := 0) hx hb dL_law_622 (by decide) ?_
      refine lald_34 X hH kd_468 (i_in (by decide) (by decide)) dL_law_623 ?_
      refine lv_iload hx hb dL_law_624 (lv_at hl 0 rfl) ?_
      refine lv_i2l (v := (y9 : Int32).toInt64) hx hb dL_law_626 rfl ?_
      refine W.lcmp hx hb dL_law_627 ?_
      refine lv_if_eq (tgt := 633) hx hb dL_law_628 (by decide) (fun c13 => ?_) (fun c13 => ?_)
      · have ho := ho.1 c13
        refine lv_goto (tgt := 4036) hx hb dL_law_633 (by decide) ?_
        have hq14 := ho
        refine W.widen (k := c1) (n := c1) hq14 hq14 ?_
        replace ev4 := Eq.symm ev4
        replace ex5 := Eq.symm ex5
        replace ey6 := Eq.symm ey6
        replace ev8 := Eq.symm ev8
        replace ey9 := Eq.symm ey9
        subst ev4 ex5 ey6 ev8 ey9
        exact E _ _ _ _ _ _ (pr1 ((flc_3.eq_1 _ _ _ _).trans ((if_pos c10).trans ((if_pos c11).trans ((if_pos c13).trans rfl))))) (pr2 ((flc_3.eq_1 _ _ _ _).trans ((if_pos c10).trans ((if_pos c11).trans ((if_pos c13).trans rfl))))) hH hS (lv_sub hl [2, 3, 4, 5, 6, 7] rfl)
      · have ho := ho.2 c13
        have hq15 := ho
        exact hq15.elim
  · have ho := ho.2 c10
    have hq16 := ho
    exact hq16.elim
theorem dL_law_636 : decode cL_law 636 = .ok (.aload_n 1, 1) := by decide +kernel
theorem dL_law_637 : decode cL_law 637 = .ok (.aload_n 0, 1) := by decide +kernel
theorem dL_law_638 : decode cL_law 638 = .ok (.iload 5, 2) := by decide +kernel
theorem dL_law_640 : decode cL_law 640 = .ok (.iconst 1, 1) := by decide +kernel
theorem dL_law_641 : decode cL_law 641 = .ok (.iadd, 1) := by decide +kernel
theorem dL_law_642 : decode cL_law 642 = .ok (.iaload, 1) := by decide +kernel
theorem dL_law_643 : decode cL_law 643 = .ok (.aload_n 0, 1) := by decide +kernel
theorem dL_law_644 : decode cL_law 644 = .ok (.iload 5, 2) := by decide +kernel
theorem dL_law_646 : decode cL_law 646 = .ok (.iconst 2, 1) := by decide +kernel
theorem dL_law_647 : decode cL_law 647 = .ok (.iadd, 1) := by decide +kernel
theorem dL_law_648 : decode cL_law 648 = .ok (.iaload, 1) := by decide +kernel
theorem dL_law_649 : decode cL_law 649 = .ok (.aload_n 3, 1) := by decide +kernel
theorem dL_law_650 : decode cL_law 650 = .ok (.invokestatic 221, 3) := by decide +kernel
theorem dL_law_653 : decode cL_law 653 = .ok (.istore 6, 2) := by decide +kernel
theorem dL_law_655 : decode cL_law 655 = .ok (.aload_n 2, 1) := by decide +kernel
theorem dL_law_656 : decode cL_law 656 = .ok (.aload_n 0, 1) := by decide +kernel
theorem dL_law_657 : decode cL_law 657 = .ok (.iload 5, 2) := by decide +kernel
theorem dL_law_659 : decode cL_law 659 = .ok (.iconst 1, 1) := by decide +kernel
theorem dL_law_660 : decode cL_law 660 = .ok (.iadd, 1) := by decide +kernel
theorem dL_law_661 : decode cL_law 661 = .ok (.iaload, 1) := by decide +kernel
theorem dL_law_662 : decode cL_law 662 = .ok (.aload_n 0, 1) := by decide +kernel
theorem dL_law_663 : decode cL_law 663 = .ok (.iload 5, 2) := by decide +kernel
theorem dL_law_665 : decode cL_law 665 = .ok (.iconst 2, 1) := by decide +kernel
theorem dL_law_666 : decode cL_law 666 = .ok (.iadd, 1) := by decide +kernel
theorem dL_law_667 : decode cL_law 667 = .ok (.iaload, 1) := by decide +kernel
theorem dL_law_668 : decode cL_law 668 = .ok (.invokevirtual 223, 3) := by decide +kernel
theorem dL_law_671 : decode cL_law 671 = .ok (.istore 7, 2) := by decide +kernel
theorem dL_law_673 : decode cL_law 673 = .ok (.aload_n 2, 1) := by decide +kernel
theorem dL_law_674 : decode cL_law 674 = .ok (.invokevirtual 207, 3) := by decide +kernel
theorem dL_law_677 : decode cL_law 677 = .ok (.iload 6, 2) := by decide +kernel
theorem dL_law_679 : decode cL_law 679 = .ok (.if_icmp .eq 5, 3) := by decide +kernel
theorem dL_law_684 : decode cL_law 684 = .ok (.iload 6, 2) := by decide +kernel
theorem dL_law_686 : decode cL_law 686 = .ok (.ifCond .ne 15, 3) := by decide +kernel
theorem dL_law_689 : decode cL_law 689 = .ok (.aload_n 3, 1) := by decide +kernel
theorem dL_law_690 : decode cL_law 690 = .ok (.iconst 0, 1) := by decide +kernel
theorem dL_law_691 : decode cL_law 691 = .ok (.laload, 1) := by decide +kernel
theorem dL_law_692 : decode cL_law 692 = .ok (.iload 7, 2) := by decide +kernel
theorem dL_law_694 : decode cL_law 694 = .ok (.i2l, 1) := by decide +kernel
theorem dL_law_695 : decode cL_law 695 = .ok (.lcmp, 1) := by decide +kernel
theorem dL_law_696 : decode cL_law 696 = .ok (.ifCond .eq 5, 3) := by decide +kernel
theorem dL_law_701 : decode cL_law 701 = .ok (.goto 3335, 3) := by decide +kernel
set_option maxHeartbeats 8000000 in
set_option maxRecDepth 100000 in
theorem lc_4 {p : Program} {l : Launch} {e : Env} {s : State} {m : MethodId} {args : Array Value} {below : List Frame} {meth : Method} {c : Code} {H : Heap} {locs : List Loc} {Q : State → Prop} {ls : Array Slot} {G : gG} {da : Nat → Nat} {v : vSt} {x : gX} (hst : l.stackTraces = false) (X : CX G p s m args c cL_law 8 RL) (hN : NC s) {b L : Nat} {xs : Nat → Int32} (hX : va_X b L xs s s.heap) (hbl : b < s.heap.size) (hbA : ¬ gA G b) {i : Int32} (hi : 0 ≤ i.toInt ∧ i.toInt + 5 ≤ (L : Int) ∧ L ≤ 2560) (hH : Hp G da v x H) (hS : va_S (gA G) s.heap H locs) (hl : lv_has ls 8 [(0, .ref b), (1, .ref (ga G 448)), (2, .ref (ga G 461)), (3, .ref (ga G 468)), (4, .ref (ga G 469)), (5, .int i)]) {c0 c1 : Nat} (ho : olc_4 i xs v x c0 c1) (E : ∀ (da1 : Nat → Nat) (H1 : Heap) (locs1 : List Loc) (ls1 : Array Slot) (v2 : vSt) (x2 : gX), v2 = (flc_4 i xs v x).1 → x2 = (flc_4 i xs v x).2 → Hp G da1 v2 x2 H1 → va_S (gA G) s.heap H1 locs1 → lv_has ls1 8 [(0, .ref b), (1, .ref (ga G 448)), (2, .ref (ga G 461)), (3, .ref (ga G 468)), (4, .ref (ga G 469)), (5, .int i)] → W p l e room_1 s m args below meth c H1 locs1 c1 c1 Q (F0 m 4036 ls1 [])) : W p l e room_1 s m args below meth c H locs c0 c0 Q (F0 m 636 ls []) := by
  have hx := X.1
  have hb := X.2.1
  have hown := X.2.2.2.1
  have hts := X.2.2.2.2.1
  unfold olc_4 at ho
  refine lv_aload_n hx hb dL_law_636 rfl (lv_at hl 1 rfl) ?_
  refine lv_aload_n hx hb dL_law_637 rfl (lv_at hl 0 rfl) ?_
  refine lv_iload hx hb dL_law_638 (lv_at hl 5 rfl) ?_
  refine lv_iconst (v := 1) hx hb dL_law_640 (by decide) ?_
  refine lv_iadd hx hb dL_law_641 ?_
  refine va_sld hx hb hX hbl hbA hS (sx hi 1 (by decide)) dL_law_642 ?_
  refine lv_aload_n hx hb dL_law_643 rfl (lv_at hl 0 rfl) ?_
  refine lv_iload hx hb dL_law_644 (lv_at hl 5 rfl) ?_
  refine lv_iconst (v := 2) hx hb dL_law_646 (by decide) ?_
  refine lv_iadd hx hb dL_law_647 ?_
  refine va_sld hx hb hX hbl hbA hS (sx hi 2 (by decide)) dL_law_648 ?_
  refine lv_aload_n hx hb dL_law_649 rfl (lv_at hl 3 rfl) ?_
  have hq1 := ho.1
  have ho := ho.2
  have hq2 := ho.1
  have ho := ho.2
  have hq3 := ho.1
  have ho := ho.2
  refine k_L_calibrate hst X hS hN hH kd_448 kd_468 hq1 t_ml_VernierDrawersLaw_221 hl.1 (Nat.le_of_ble_eq_true rfl) ⟨Nat.le_of_ble_eq_true rfl, Nat.le_of_ble_eq_true rfl⟩ ⟨hq3, (le_sl hq3)⟩ dL_law_650 (fun da H locs v4 x5 ev4 ex5 hH hS => ?_)
  have ho := ho v4 ev4 x5 ex5
  refine lv_istore (lv' := [(6, .int ((fL_calibrate 448 (xs (i + 1 : Int32).toNatClampNeg) (xs (i + 2 : Int32).toNatClampNeg) 468 v x).1)), (0, .ref b), (1, .ref (ga G 448)), (2, .ref (ga G 461)), (3, .ref (ga G 468)), (4, .ref (ga G 469)), (5, .int i)]) hx hb dL_law_653 hl (by decide) rfl (fun ls hl => ?_)
  refine lv_aload_n hx hb dL_law_655 rfl (lv_at hl 3 rfl) ?_
  refine lv_aload_n hx hb dL_law_656 rfl (lv_at hl 1 rfl) ?_
  refine lv_iload hx hb dL_law_657 (lv_at hl 6 rfl) ?_
  refine lv_iconst (v := 1) hx hb dL_law_659 (by decide) ?_
  refine lv_iadd hx hb dL_law_660 ?_
  refine va_sld hx hb hX hbl hbA hS (sx hi 1 (by decide)) dL_law_661 ?_
  refine lv_aload_n hx hb dL_law_662 rfl (lv_at hl 1 rfl) ?_
  refine lv_iload hx hb dL_law_663 (lv_at hl 6 rfl) ?_
  refine lv_iconst (v := 2) hx hb dL_law_665 (by decide) ?_
  refine lv_iadd hx hb dL_law_666 ?_
  refine va_sld hx hb hX hbl hbA hS (sx hi 2 (by decide)) dL_law_667 ?_
  have hq6 := ho.1
  have ho := ho.2
  refine k_X11_calibrate X hS hH kd_461 hq6 t_ml_VernierDrawersLaw_223 hl.1 (Nat.le_of_ble_eq_true rfl) ⟨Nat.le_of_ble_eq_true rfl, Nat.le_of_ble_eq_true rfl⟩ ⟨hq3, (le_sl hq3)⟩ dL_law_668 (fun da H locs v7 ev7 hH hS => ?_)
  have ho := ho v7 ev7
  refine lv_istore (lv' := [(7, .int ((fX11_calibrate 461 (xs (i + 1 : Int32).toNatClampNeg) (xs (i + 2 : Int32).toNatClampNeg) v4).1)), (6, .int ((fL_calibrate 448 (xs (i + 1 : Int32).toNatClampNeg) (xs (i + 2 : Int32).toNatClampNeg) 468 v x).1)), (0, .ref b), (1, .ref (ga G 448)), (2, .ref (ga G 461)), (3, .ref (ga G 468)), (4, .ref (ga G 469)), (5, .int i)]) hx hb dL_law_671 hl (by decide) rfl (fun ls hl => ?_)
  refine lv_aload_n hx hb dL_law_673 rfl (lv_at hl 4 rfl) ?_
  refine k_X11_thrown X hS hH kd_461 t_ml_VernierDrawersLaw_207 hl.1 (Nat.le_of_ble_eq_true rfl) ⟨Nat.le_of_ble_eq_true rfl, Nat.le_of_ble_eq_true rfl⟩ ⟨hq3, (le_sl hq3)⟩ dL_law_674 ?_
  refine lv_iload hx hb dL_law_677 (lv_at hl 1 rfl) ?_
  refine lv_icmp_eq (tgt := 684) hx hb dL_law_679 (by decide) (fun c8 => ?_) (fun c8 => ?_)
  · have ho := ho.1 c8
    refine lv_iload hx hb dL_law_684 (lv_at hl 1 rfl) ?_
    refine lv_if_ne (tgt := 701) hx hb dL_law_686 (by decide) (fun c9 => ?_) (fun c9 => ?_)
    · have ho := ho.2 c9
      refine lv_goto (tgt := 4036) hx hb dL_law_701 (by decide) ?_
      have hq10 := ho
      refine W.widen (k := c1) (n := c1) hq10 hq10 ?_
      replace ev4 := Eq.symm ev4
      replace ex5 := Eq.symm ex5
      replace ev7 := Eq.symm ev7
      subst ev4 ex5 ev7
      exact E _ _ _ _ _ _ (pr1 ((flc_4.eq_1 _ _ _ _).trans ((if_pos c8).trans ((if_neg c9).trans rfl)))) (pr2 ((flc_4.eq_1 _ _ _ _).trans ((if_pos c8).trans ((if_neg c9).trans rfl)))) hH hS (lv_sub hl [2, 3, 4, 5, 6, 7] rfl)
    · have ho := ho.1 c9
      refine lv_aload_n hx hb dL_law_689 rfl (lv_at hl 5 rfl) ?_
      refine lv_iconst (v := 0) hx hb dL_law_690 (by decide) ?_
      refine lald_34 X hH kd_468 (i_in (by decide) (by decide)) dL_law_691 ?_
      refine lv_iload hx hb dL_law_692 (lv_at hl 0 rfl) ?_
      refine lv_i2l (v := ((fX11_calibrate 461 (xs (i + 1 : Int32).toNatClampNeg) (xs (i + 2 : Int32).toNatClampNeg) v4).1 : Int32).toInt64) hx hb dL_law_694 rfl ?_
      refine W.lcmp hx hb dL_law_695 ?_
      refine lv_if_eq (tgt := 701) hx hb dL_law_696 (by decide) (fun c11 => ?_) (fun c11 => ?_)
      · have ho := ho.1 c11
        refine lv_goto (tgt := 4036) hx hb dL_law_701 (by decide) ?_
        have hq12 := ho
        refine W.widen (k := c1) (n := c1) hq12 hq12 ?_
        replace ev4 := Eq.symm ev4
        replace ex5 := Eq.symm ex5
        replace ev7 := Eq.symm ev7
        subst ev4 ex5 ev7
        exact E _ _ _ _ _ _ (pr1 ((flc_4.eq_1 _ _ _ _).trans ((if_pos c8).trans ((if_pos c9).trans ((if_pos c11).trans rfl))))) (pr2 ((flc_4.eq_1 _ _ _ _).trans ((if_pos c8).trans ((if_pos c9).trans ((if_pos c11).trans rfl))))) hH hS (lv_sub hl [2, 3, 4, 5, 6, 7] rfl)
      · have ho := ho.2 c11
        have hq13 := ho
        exact hq13.elim
  · have ho := ho.2 c8
    have hq14 := ho
    exact hq14.elim
theorem dL_law_704 : decode cL_law 704 = .ok (.aload_n 1, 1) := by decide +kernel
theorem dL_law_705 : decode cL_law 705 = .ok (.aload_n 3, 1) := by decide +kernel
theorem dL_law_706 : decode cL_law 706 = .ok (.invokestatic 224, 3) := by decide +kernel
theorem dL_law_709 : decode cL_law 709 = .ok (.istore 6, 2) := by decide +kernel
theorem dL_law_711 : decode cL_law 711 = .ok (.aload_n 2, 1) := by decide +kernel
theorem dL_law_712 : decode cL_law 712 = .ok (.invokevirtual 227, 3) := by decide +kernel
theorem dL_law_715 : decode cL_law 715 = .ok (.istore 7, 2) := by decide +kernel
theorem dL_law_717 : decode cL_law 717 = .ok (.aload_n 2, 1) := by decide +kernel
theorem dL_law_718 : decode cL_law 718 = .ok (.invokevirtual 207, 3) := by decide +kernel
theorem dL_law_721 : decode cL_law 721 = .ok (.iload 6, 2) := by decide +kernel
theorem dL_law_723 : decode cL_law 723 = .ok (.if_icmp .eq 5, 3) := by decide +kernel
theorem dL_law_728 : decode cL_law 728 = .ok (.iload 6, 2) := by decide +kernel
theorem dL_law_730 : decode cL_law 730 = .ok (.ifCond .ne 15, 3) := by decide +kernel
theorem dL_law_733 : decode cL_law 733 = .ok (.aload_n 3, 1) := by decide +kernel
theorem dL_law_734 : decode cL_law 734 = .ok (.iconst 0, 1) := by decide +kernel
theorem dL_law_735 : decode cL_law 735 = .ok (.laload, 1) := by decide +kernel
theorem dL_law_736 : decode cL_law 736 = .ok (.iload 7, 2) := by decide +kernel
theorem dL_law_738 : decode cL_law 738 = .ok (.i2l, 1) := by decide +kernel
theorem dL_law_739 : decode cL_law 739 = .ok (.lcmp, 1) := by decide +kernel
theorem dL_law_740 : decode cL_law 740 = .ok (.ifCond .eq 5, 3) := by decide +kernel
theorem dL_law_745 : decode cL_law 745 = .ok (.goto 3291, 3) := by decide +kernel
set_option maxHeartbeats 8000000 in
set_option maxRecDepth 100000 in
theorem lc_5 {p : Program} {l : Launch} {e : Env} {s : State} {m : MethodId} {args : Array Value} {below : List Frame} {meth : Method} {c : Code} {H : Heap} {locs : List Loc} {Q : State → Prop} {ls : Array Slot} {G : gG} {da : Nat → Nat} {v : vSt} {x : gX} (hst : l.stackTraces = false) (X : CX G p s m args c cL_law 8 RL) (hN : NC s) {b L : Nat} {xs : Nat → Int32} (hX : va_X b L xs s s.heap) (hbl : b < s.heap.size) (hbA : ¬ gA G b) {i : Int32} (hi : 0 ≤ i.toInt ∧ i.toInt + 5 ≤ (L : Int) ∧ L ≤ 2560) (hH : Hp G da v x H) (hS : va_S (gA G) s.heap H locs) (hl : lv_has ls 8 [(0, .ref b), (1, .ref (ga G 448)), (2, .ref (ga G 461)), (3, .ref (ga G 468)), (4, .ref (ga G 469)), (5, .int i)]) {c0 c1 : Nat} (ho : olc_5 i xs v x c0 c1) (E : ∀ (da1 : Nat → Nat) (H1 : Heap) (locs1 : List Loc) (ls1 : Array Slot) (v2 : vSt) (x2 : gX), v2 = (flc_5 i xs v x).1 → x2 = (flc_5 i xs v x).2 → Hp G da1 v2 x2 H1 → va_S (gA G) s.heap H1 locs1 → lv_has ls1 8 [(0, .ref b), (1, .ref (ga G 448)), (2, .ref (ga G 461)), (3, .ref (ga G 468)), (4, .ref (ga G 469)), (5, .int i)] → W p l e room_1 s m args below meth c H1 locs1 c1 c1 Q (F0 m 4036 ls1 [])) : W p l e room_1 s m args below meth c H locs c0 c0 Q (F0 m 704 ls []) := by
  have hx := X.1
  have hb := X.2.1
  have hown := X.2.2.2.1
  have hts := X.2.2.2.2.1
  unfold olc_5 at ho
  refine lv_aload_n hx hb dL_law_704 rfl (lv_at hl 1 rfl) ?_
  refine lv_aload_n hx hb dL_law_705 rfl (lv_at hl 3 rfl) ?_
  have hq1 := ho.1
  have ho := ho.2
  have hq2 := ho.1
  have ho := ho.2
  have hq3 := ho.1
  have ho := ho.2
  refine k_L_endDay hst X hS hN hH kd_448 kd_468 hq1 t_ml_VernierDrawersLaw_224 hl.1 (Nat.le_of_ble_eq_true rfl) ⟨Nat.le_of_ble_eq_true rfl, Nat.le_of_ble_eq_true rfl⟩ ⟨hq3, (le_sl hq3)⟩ dL_law_706 (fun da H locs v4 x5 ev4 ex5 hH hS => ?_)
  have ho := ho v4 ev4 x5 ex5
  refine lv_istore (lv' := [(6, .int ((fL_endDay 448 468 v x).1)), (0, .ref b), (1, .ref (ga G 448)), (2, .ref (ga G 461)), (3, .ref (ga G 468)), (4, .ref (ga G 469)), (5, .int i)]) hx hb dL_law_709 hl (by decide) rfl (fun ls hl => ?_)
  refine lv_aload_n hx hb dL_law_711 rfl (lv_at hl 3 rfl) ?_
  have hq6 := ho.1
  have ho := ho.2
  refine k_X11_endDay X hS hH kd_461 hq6 t_ml_VernierDrawersLaw_227 hl.1 (Nat.le_of_ble_eq_true rfl) ⟨Nat.le_of_ble_eq_true rfl, Nat.le_of_ble_eq_true rfl⟩ ⟨hq3, (le_sl hq3)⟩ dL_law_712 (fun da H locs v7 ev7 hH hS => ?_)
  have ho := ho v7 ev7
  refine lv_istore (lv' := [(7, .int ((fX11_endDay 461 v4).1)), (6, .int ((fL_endDay 448 468 v x).1)), (0, .ref b), (1, .ref (ga G 448)), (2, .ref (ga G 461)), (3, .ref (ga G 468)), (4, .ref (ga G 469)), (5, .int i)]) hx hb dL_law_715 hl (by decide) rfl (fun ls hl => ?_)
  refine lv_aload_n hx hb dL_law_717 rfl (lv_at hl 4 rfl) ?_
  refine k_X11_thrown X hS hH kd_461 t_ml_VernierDrawersLaw_207 hl.1 (Nat.le_of_ble_eq_true rfl) ⟨Nat.le_of_ble_eq_true rfl, Nat.le_of_ble_eq_true rfl⟩ ⟨hq3, (le_sl hq3)⟩ dL_law_718 ?_
  refine lv_iload hx hb dL_law_721 (lv_at hl 1 rfl) ?_
  refine lv_icmp_eq (tgt := 728) hx hb dL_law_723 (by decide) (fun c8 => ?_) (fun c8 => ?_)
  · have ho := ho.1 c8
    refine lv_iload hx hb dL_law_728 (lv_at hl 1 rfl) ?_
    refine lv_if_ne (tgt := 745) hx hb dL_law_730 (by decide) (fun c9 => ?_) (fun c9 => ?_)
    · have ho := ho.2 c9
      refine lv_goto (tgt := 4036) hx hb dL_law_745 (by decide) ?_
      have hq10 := ho
      refine W.widen (k := c1) (n := c1) hq10 hq10 ?_
      replace ev4 := Eq.symm ev4
      replace ex5 := Eq.symm ex5
      replace ev7 := Eq.symm ev7
      subst ev4 ex5 ev7
      exact E _ _ _ _ _ _ (pr1 ((flc_5.eq_1 _ _ _ _).trans ((if_pos c8).trans ((if_neg c9).trans rfl)))) (pr2 ((flc_5.eq_1 _ _ _ _).trans ((if_pos c8).trans ((if_neg c9).trans rfl)))) hH hS (lv_sub hl [2, 3, 4, 5, 6, 7] rfl)
    · have ho := ho.1 c9
      refine lv_aload_n hx hb dL_law_733 rfl (lv_at hl 5 rfl) ?_
      refine lv_iconst (v := 0) hx hb dL_law_734 (by decide) ?_
      refine lald_34 X hH kd_468 (i_in (by decide) (by decide)) dL_law_735 ?_
      refine lv_iload hx hb dL_law_736 (lv_at hl 0 rfl) ?_
      refine lv_i2l (v := ((fX11_endDay 461 v4).1 : Int32).toInt64) hx hb dL_law_738 rfl ?_
      refine W.lcmp hx hb dL_law_739 ?_
      refine lv_if_eq (tgt := 745) hx hb dL_law_740 (by decide) (fun c11 => ?_) (fun c11 => ?_)
      · have ho := ho.1 c11
        refine lv_goto (tgt := 4036) hx hb dL_law_745 (by decide) ?_
        have hq12 := ho
        refine W.widen (k := c1) (n := c1) hq12 hq12 ?_
        replace ev4 := Eq.symm ev4
        replace ex5 := Eq.symm ex5
        replace ev7 := Eq.symm ev7
        subst ev4 ex5 ev7
        exact E _ _ _ _ _ _ (pr1 ((flc_5.eq_1 _ _ _ _).trans ((if_pos c8).trans ((if_pos c9).trans ((if_pos c11).trans rfl))))) (pr2 ((flc_5.eq_1 _ _ _ _).trans ((if_pos c8).trans ((if_pos c9).trans ((if_pos c11).trans rfl))))) hH hS (lv_sub hl [2, 3, 4, 5, 6, 7] rfl)
      · have ho := ho.2 c11
        have hq13 := ho
        exact hq13.elim
  · have ho := ho.2 c8
    have hq14 := ho
    exact hq14.elim
theorem dL_law_748 : decode cL_law 748 = .ok (.aload_n 1, 1) := by decide +kernel
theorem dL_law_749 : decode cL_law 749 = .ok (.aload_n 0, 1) := by decide +kernel
theorem dL_law_750 : decode cL_law 750 = .ok (.iload 5, 2) := by decide +kernel
theorem dL_law_752 : decode cL_law 752 = .ok (.iconst 1, 1) := by decide +kernel
theorem dL_law_753 : decode cL_law 753 = .ok (.iadd, 1) := by decide +kernel
theorem dL_law_754 : decode cL_law 754 = .ok (.iaload, 1) := by decide +kernel
theorem dL_law_755 : decode cL_law 755 = .ok (.aload_n 0, 1) := by decide +kernel
theorem dL_law_756 : decode cL_law 756 = .ok (.iload 5, 2) := by decide +kernel
theorem dL_law_758 : decode cL_law 758 = .ok (.iconst 2, 1) := by decide +kernel
theorem dL_law_759 : decode cL_law 759 = .ok (.iadd, 1) := by decide +kernel
theorem dL_law_760 : decode cL_law 760 = .ok (.iaload, 1) := by decide +kernel
theorem dL_law_761 : decode cL_law 761 = .ok (.aload_n 0, 1) := by decide +kernel
theorem dL_law_762 : decode cL_law 762 = .ok (.iload 5, 2) := by decide +kernel
theorem dL_law_764 : decode cL_law 764 = .ok (.iconst 3, 1) := by decide +kernel
theorem dL_law_765 : decode cL_law 765 = .ok (.iadd, 1) := by decide +kernel
theorem dL_law_766 : decode cL_law 766 = .ok (.iaload, 1) := by decide +kernel
theorem dL_law_767 : decode cL_law 767 = .ok (.aload_n 0, 1) := by decide +kernel
theorem dL_law_768 : decode cL_law 768 = .ok (.iload 5, 2) := by decide +kernel
theorem dL_law_770 : decode cL_law 770 = .ok (.iconst 4, 1) := by decide +kernel
theorem dL_law_771 : decode cL_law 771 = .ok (.iadd, 1) := by decide +kernel
theorem dL_law_772 : decode cL_law 772 = .ok (.iaload, 1) := by decide +kernel
theorem dL_law_773 : decode cL_law 773 = .ok (.aload_n 3, 1) := by decide +kernel
theorem dL_law_774 : decode cL_law 774 = .ok (.invokestatic 228, 3) := by decide +kernel
theorem dL_law_777 : decode cL_law 777 = .ok (.istore 6, 2) := by decide +kernel
theorem dL_law_779 : decode cL_law 779 = .ok (.aload_n 2, 1) := by decide +kernel
theorem dL_law_780 : decode cL_law 780 = .ok (.aload_n 0, 1) := by decide +kernel
theorem dL_law_781 : decode cL_law 781 = .ok (.iload 5, 2) := by decide +kernel
theorem dL_law_783 : decode cL_law 783 = .ok (.iconst 1, 1) := by decide +kernel
theorem dL_law_784 : decode cL_law 784 = .ok (.iadd, 1) := by decide +kernel
theorem dL_law_785 : decode cL_law 785 = .ok (.iaload, 1) := by decide +kernel
theorem dL_law_786 : decode cL_law 786 = .ok (.aload_n 0, 1) := by decide +kernel
theorem dL_law_787 : decode cL_law 787 = .ok (.iload 5, 2) := by decide +kernel
theorem dL_law_789 : decode cL_law 789 = .ok (.iconst 2, 1) := by decide +kernel
theorem dL_law_790 : decode cL_law 790 = .ok (.iadd, 1) := by decide +kernel
theorem dL_law_791 : decode cL_law 791 = .ok (.iaload, 1) := by decide +kernel
theorem dL_law_792 : decode cL_law 792 = .ok (.aload_n 0, 1) := by decide +kernel
theorem dL_law_793 : decode cL_law 793 = .ok (.iload 5, 2) := by decide +kernel
theorem dL_law_795 : decode cL_law 795 = .ok (.iconst 3, 1) := by decide +kernel
theorem dL_law_796 : decode cL_law 796 = .ok (.iadd, 1) := by decide +kernel
theorem dL_law_797 : decode cL_law 797 = .ok (.iaload, 1) := by decide +kernel
theorem dL_law_798 : decode cL_law 798 = .ok (.aload_n 0, 1) := by decide +kernel
theorem dL_law_799 : decode cL_law 799 = .ok (.iload 5, 2) := by decide +kernel
theorem dL_law_801 : decode cL_law 801 = .ok (.iconst 4, 1) := by decide +kernel
theorem dL_law_802 : decode cL_law 802 = .ok (.iadd, 1) := by decide +kernel
theorem dL_law_803 : decode cL_law 803 = .ok (.iaload, 1) := by decide +kernel
theorem dL_law_804 : decode cL_law 804 = .ok (.invokevirtual 231, 3) := by decide +kernel
theorem dL_law_807 : decode cL_law 807 = .ok (.istore 7, 2) := by decide +kernel
theorem dL_law_809 : decode cL_law 809 = .ok (.aload_n 2, 1) := by decide +kernel
theorem dL_law_810 : decode cL_law 810 = .ok (.invokevirtual 207, 3) := by decide +kernel
theorem dL_law_813 : decode cL_law 813 = .ok (.iload 6, 2) := by decide +kernel
theorem dL_law_815 : decode cL_law 815 = .ok (.if_icmp .eq 5, 3) := by decide +kernel
theorem dL_law_820 : decode cL_law 820 = .ok (.iload 6, 2) := by decide +kernel
theorem dL_law_822 : decode cL_law 822 = .ok (.ifCond .ne 15, 3) := by decide +kernel
theorem dL_law_825 : decode cL_law 825 = .ok (.aload_n 3, 1) := by decide +kernel
theorem dL_law_826 : decode cL_law 826 = .ok (.iconst 0, 1) := by decide +kernel
theorem dL_law_827 : decode cL_law 827 = .ok (.laload, 1) := by decide +kernel
theorem dL_law_828 : decode cL_law 828 = .ok (.iload 7, 2) := by decide +kernel
theorem dL_law_830 : decode cL_law 830 = .ok (.i2l, 1) := by decide +kernel
theorem dL_law_831 : decode cL_law 831 = .ok (.lcmp, 1) := by decide +kernel
theorem dL_law_832 : decode cL_law 832 = .ok (.ifCond .eq 5, 3) := by decide +kernel
theorem dL_law_837 : decode cL_law 837 = .ok (.goto 3199, 3) := by decide +kernel
set_option maxHeartbeats 8000000 in
set_option maxRecDepth 100000 in
theorem lc_6 {p : Program} {l : Launch} {e : Env} {s : State} {m : MethodId} {args : Array Value} {below : List Frame} {meth : Method} {c : Code} {H : Heap} {locs : List Loc} {Q : State → Prop} {ls : Array Slot} {G : gG} {da : Nat → Nat} {v : vSt} {x : gX} (hst : l.stackTraces = false) (X : CX G p s m args c cL_law 8 RL) (hN : NC s) {b L : Nat} {xs : Nat → Int32} (hX : va_X b L xs s s.heap) (hbl : b < s.heap.size) (hbA : ¬ gA G b) {i : Int32} (hi : 0 ≤ i.toInt ∧ i.toInt + 5 ≤ (L : Int) ∧ L ≤ 2560) (hH : Hp G da v x H) (hS : va_S (gA G) s.heap H locs) (hl : lv_has ls 8 [(0, .ref b), (1, .ref (ga G 448)), (2, .ref (ga G 461)), (3, .ref (ga G 468)), (4, .ref (ga G 469)), (5, .int i)]) {c0 c1 : Nat} (ho : olc_6 i xs v x c0 c1) (E : ∀ (da1 : Nat → Nat) (H1 : Heap) (locs1 : List Loc) (ls1 : Array Slot) (v2 : vSt) (x2 : gX), v2 = (flc_6 i xs v x).1 → x2 = (flc_6 i xs v x).2 → Hp G da1 v2 x2 H1 → va_S (gA G) s.heap H1 locs1 → lv_has ls1 8 [(0, .ref b), (1, .ref (ga G 448)), (2, .ref (ga G 461)), (3, .ref (ga G 468)), (4, .ref (ga G 469)), (5, .int i)] → W p l e room_1 s m args below meth c H1 locs1 c1 c1 Q (F0 m 4036 ls1 [])) : W p l e room_1 s m args below meth c H locs c0 c0 Q (F0 m 748 ls []) := by
  have hx := X.1
  have hb := X.2.1
  have hown := X.2.2.2.1
  have hts := X.2.2.2.2.1
  unfold olc_6 at ho
  refine lv_aload_n hx hb dL_law_748 rfl (lv_at hl 1 rfl) ?_
  refine lv_aload_n hx hb dL_law_749 rfl (lv_at hl 0 rfl) ?_
  refine lv_iload hx hb dL_law_750 (lv_at hl 5 rfl) ?_
  refine lv_iconst (v := 1) hx hb dL_law_752 (by decide) ?_
  refine lv_iadd hx hb dL_law_753 ?_
  refine va_sld hx hb hX hbl hbA hS (sx hi 1 (by decide)) dL_law_754 ?_
  refine lv_aload_n hx hb dL_law_755 rfl (lv_at hl 0 rfl) ?_
  refine lv_iload hx hb dL_law_756 (lv_at hl 5 rfl) ?_
  refine lv_iconst (v := 2) hx hb dL_law_758 (by decide) ?_
  refine lv_iadd hx hb dL_law_759 ?_
  refine va_sld hx hb hX hbl hbA hS (sx hi 2 (by decide)) dL_law_760 ?_
  refine lv_aload_n hx hb dL_law_761 rfl (lv_at hl 0 rfl) ?_
  refine lv_iload hx hb dL_law_762 (lv_at hl 5 rfl) ?_
  refine lv_iconst (v := 3) hx hb dL_law_764 (by decide) ?_
  refine lv_iadd hx hb dL_law_765 ?_
  refine va_sld hx hb hX hbl hbA hS (sx hi 3 (by decide)) dL_law_766 ?_
  refine lv_aload_n hx hb dL_law_767 rfl (lv_at hl 0 rfl) ?_
  refine lv_iload hx hb dL_law_768 (lv_at hl 5 rfl) ?_
  refine lv_iconst (v := 4) hx hb dL_law_770 (by decide) ?_
  refine lv_iadd hx hb dL_law_771 ?_
  refine va_sld hx hb hX hbl hbA hS (sx hi 4 (by decide)) dL_law_772 ?_
  refine lv_aload_n hx hb dL_law_773 rfl (lv_at hl 3 rfl) ?_
  have hq1 := ho.1
  have ho := ho.2
  have hq2 := ho.1
  have ho := ho.2
  have hq3 := ho.1
  have ho := ho.2
  refine k_L_addType hst X hS hN hH kd_448 kd_468 hq1 t_ml_VernierDrawersLaw_228 hl.1 (Nat.le_of_ble_eq_true rfl) ⟨Nat.le_of_ble_eq_true rfl, Nat.le_of_ble_eq_true rfl⟩ ⟨hq3, (le_sl hq3)⟩ dL_law_774 (fun da H locs v4 x5 ev4 ex5 hH hS => ?_)
  have ho := ho v4 ev4 x5 ex5
  obtain ⟨y6, ey6⟩ : ∃ z : Int32, z = (fL_addType 448 (xs (i + 1 : Int32).toNatClampNeg) (xs (i + 2 : Int32).toNatClampNeg) (xs (i + 3 : Int32).toNatClampNeg) (xs (i + 4 : Int32).toNatClampNeg) 468 v x).1 := ⟨_, rfl⟩
  rw [← ey6]
  have ho := ho y6 ey6
  refine lv_istore (lv' := [(6, .int y6), (0, .ref b), (1, .ref (ga G 448)), (2, .ref (ga G 461)), (3, .ref (ga G 468)), (4, .ref (ga G 469)), (5, .int i)]) hx hb dL_law_777 hl (by decide) rfl (fun ls hl => ?_)
  refine lv_aload_n hx hb dL_law_779 rfl (lv_at hl 3 rfl) ?_
  refine lv_aload_n hx hb dL_law_780 rfl (lv_at hl 1 rfl) ?_
  refine lv_iload hx hb dL_law_781 (lv_at hl 6 rfl) ?_
  refine lv_iconst (v := 1) hx hb dL_law_783 (by decide) ?_
  refine lv_iadd hx hb dL_law_784 ?_
  refine va_sld hx hb hX hbl hbA hS (sx hi 1 (by decide)) dL_law_785 ?_
  refine lv_aload_n hx hb dL_law_786 rfl (lv_at hl 1 rfl) ?_
  refine lv_iload hx hb dL_law_787 (lv_at hl 6 rfl) ?_
  refine lv_iconst (v := 2) hx hb dL_law_789 (by decide) ?_
  refine lv_iadd hx hb dL_law_790 ?_
  refine va_sld hx hb hX hbl hbA hS (sx hi 2 (by decide)) dL_law_791 ?_
  refine lv_aload_n hx hb dL_law_792 rfl (lv_at hl 1 rfl) ?_
  refine lv_iload hx hb dL_law_793 (lv_at hl 6 rfl) ?_
  refine lv_iconst (v := 3) hx hb dL_law_795 (by decide) ?_
  refine lv_iadd hx hb dL_law_796 ?_
  refine va_sld hx hb hX hbl hbA hS (sx hi 3 (by decide)) dL_law_797 ?_
  refine lv_aload_n hx hb dL_law_798 rfl (lv_at hl 1 rfl) ?_
  refine lv_iload hx hb dL_law_799 (lv_at hl 6 rfl) ?_
  refine lv_iconst (v := 4) hx hb dL_law_801 (by decide) ?_
  refine lv_iadd hx hb dL_law_802 ?_
  refine va_sld hx hb hX hbl hbA hS (sx hi 4 (by decide)) dL_law_803 ?_
  have hq7 := ho.1
  have ho := ho.2
  refine k_X11_addType X hS hH kd_461 hq7 t_ml_VernierDrawersLaw_231 hl.1 (Nat.le_of_ble_eq_true rfl) ⟨Nat.le_of_ble_eq_true rfl, Nat.le_of_ble_eq_true rfl⟩ ⟨hq3, (le_sl hq3)⟩ dL_law_804 (fun da H locs v8 ev8 hH hS => ?_)
  have ho := ho v8 ev8
  obtain ⟨y9, ey9⟩ : ∃ z : Int32, z = (fX11_addType 461 (xs (i + 1 : Int32).toNatClampNeg) (xs (i + 2 : Int32).toNatClampNeg) (xs (i + 3 : Int32).toNatClampNeg) (xs (i + 4 : Int32).toNatClampNeg) v4).1 := ⟨_, rfl⟩
  rw [← ey9]
  have ho := ho y9 ey9
  refine lv_istore (lv' := [(7, .int y9), (6, .int y6), (0, .ref b), (1, .ref (ga G 448)), (2, .ref (ga G 461)), (3, .ref (ga G 468)), (4, .ref (ga G 469)), (5, .int i)]) hx hb dL_law_807 hl (by decide) rfl (fun ls hl => ?_)
  refine lv_aload_n hx hb dL_law_809 rfl (lv_at hl 4 rfl) ?_
  refine k_X11_thrown X hS hH kd_461 t_ml_VernierDrawersLaw_207 hl.1 (Nat.le_of_ble_eq_true rfl) ⟨Nat.le_of_ble_eq_true rfl, Nat.le_of_ble_eq_true rfl⟩ ⟨hq3, (le_sl hq3)⟩ dL_law_810 ?_
  refine lv_iload hx hb dL_law_813 (lv_at hl 1 rfl) ?_
  refine lv_icmp_eq (tgt := 820) hx hb dL_law_815 (by decide) (fun c10 => ?_) (fun c10 => ?_)
  · have ho := ho.1 c10
    refine lv_iload hx hb dL_law_820 (lv_at hl 1 rfl) ?_
    refine lv_if_ne (tgt := 837) hx hb dL_law_822 (by decide) (fun c11 => ?_) (fun c11 => ?_)
    · have ho := ho.2 c11
      refine lv_goto (tgt := 4036) hx hb dL_law_837 (by decide) ?_
      have hq12 := ho
      refine W.widen (k := c1) (n := c1) hq12 hq12 ?_
      replace ev4 := Eq.symm ev4
      replace ex5 := Eq.symm ex5
      replace ey6 := Eq.symm ey6
      replace ev8 := Eq.symm ev8
      replace ey9 := Eq.symm ey9
      subst ev4 ex5 ey6 ev8 ey9
      exact E _ _ _ _ _ _ (pr1 ((flc_6.eq_1 _ _ _ _).trans ((if_pos c10).trans ((if_neg c11).trans rfl)))) (pr2 ((flc_6.eq_1 _ _ _ _).trans ((if_pos c10).trans ((if_neg c11).trans rfl)))) hH hS (lv_sub hl [2, 3, 4, 5, 6, 7] rfl)
    · have ho := ho.1 c11
      refine lv_aload_n hx hb dL_law_825 rfl (lv_at hl 5 rfl) ?_
      refine lv_iconst (v := 0) hx hb dL_law_826 (by decide) ?_
      refine lald_34 X hH kd_468 (i_in (by decide) (by decide)) dL_law_827 ?_
      refine lv_iload hx hb dL_law_828 (lv_at hl 0 rfl) ?_
      refine lv_i2l (v := (y9 : Int32).toInt64) hx hb dL_law_830 rfl ?_
      refine W.lcmp hx hb dL_law_831 ?_
      refine lv_if_eq (tgt := 837) hx hb dL_law_832 (by decide) (fun c13 => ?_) (fun c13 => ?_)
      · have ho := ho.1 c13
        refine lv_goto (tgt := 4036) hx hb dL_law_837 (by decide) ?_
        have hq14 := ho
        refine W.widen (k := c1) (n := c1) hq14 hq14 ?_
        replace ev4 := Eq.symm ev4
        replace ex5 := Eq.symm ex5
        replace ey6 := Eq.symm ey6
        replace ev8 := Eq.symm ev8
        replace ey9 := Eq.symm ey9
        subst ev4 ex5 ey6 ev8 ey9
        exact E _ _ _ _ _ _ (pr1 ((flc_6.eq_1 _ _ _ _).trans ((if_pos c10).trans ((if_pos c11).trans ((if_pos c13).trans rfl))))) (pr2 ((flc_6.eq_1 _ _ _ _).trans ((if_pos c10).trans ((if_pos c11).trans ((if_pos c13).trans rfl))))) hH hS (lv_sub hl [2, 3, 4, 5, 6, 7] rfl)
      · have ho := ho.2 c13
        have hq15 := ho
        exact hq15.elim
  · have ho := ho.2 c10
    have hq16 := ho
    exact hq16.elim
theorem dL_law_840 : decode cL_law 840 = .ok (.aload_n 1, 1) := by decide +kernel
theorem dL_law_841 : decode cL_law 841 = .ok (.aload_n 0, 1) := by decide +kernel
theorem dL_law_842 : decode cL_law 842 = .ok (.iload 5, 2) := by decide +kernel
theorem dL_law_844 : decode cL_law 844 = .ok (.iconst 1, 1) := by decide +kernel
theorem dL_law_845 : decode cL_law 845 = .ok (.iadd, 1) := by decide +kernel
theorem dL_law_846 : decode cL_law 846 = .ok (.iaload, 1) := by decide +kernel
theorem dL_law_847 : decode cL_law 847 = .ok (.aload_n 0, 1) := by decide +kernel
theorem dL_law_848 : decode cL_law 848 = .ok (.iload 5, 2) := by decide +kernel
theorem dL_law_850 : decode cL_law 850 = .ok (.iconst 2, 1) := by decide +kernel
theorem dL_law_851 : decode cL_law 851 = .ok (.iadd, 1) := by decide +kernel
theorem dL_law_852 : decode cL_law 852 = .ok (.iaload, 1) := by decide +kernel
theorem dL_law_853 : decode cL_law 853 = .ok (.aload_n 3, 1) := by decide +kernel
theorem dL_law_854 : decode cL_law 854 = .ok (.invokestatic 232, 3) := by decide +kernel
theorem dL_law_857 : decode cL_law 857 = .ok (.istore 6, 2) := by decide +kernel
theorem dL_law_859 : decode cL_law 859 = .ok (.aload_n 2, 1) := by decide +kernel
theorem dL_law_860 : decode cL_law 860 = .ok (.aload_n 0, 1) := by decide +kernel
theorem dL_law_861 : decode cL_law 861 = .ok (.iload 5, 2) := by decide +kernel
theorem dL_law_863 : decode cL_law 863 = .ok (.iconst 1, 1) := by decide +kernel
theorem dL_law_864 : decode cL_law 864 = .ok (.iadd, 1) := by decide +kernel
theorem dL_law_865 : decode cL_law 865 = .ok (.iaload, 1) := by decide +kernel
theorem dL_law_866 : decode cL_law 866 = .ok (.aload_n 0, 1) := by decide +kernel
theorem dL_law_867 : decode cL_law 867 = .ok (.iload 5, 2) := by decide +kernel
theorem dL_law_869 : decode cL_law 869 = .ok (.iconst 2, 1) := by decide +kernel
theorem dL_law_870 : decode cL_law 870 = .ok (.iadd, 1) := by decide +kernel
theorem dL_law_871 : decode cL_law 871 = .ok (.iaload, 1) := by decide +kernel
theorem dL_law_872 : decode cL_law 872 = .ok (.invokevirtual 234, 3) := by decide +kernel
theorem dL_law_875 : decode cL_law 875 = .ok (.istore 7, 2) := by decide +kernel
theorem dL_law_877 : decode cL_law 877 = .ok (.aload_n 2, 1) := by decide +kernel
theorem dL_law_878 : decode cL_law 878 = .ok (.invokevirtual 207, 3) := by decide +kernel
theorem dL_law_881 : decode cL_law 881 = .ok (.iload 6, 2) := by decide +kernel
theorem dL_law_883 : decode cL_law 883 = .ok (.if_icmp .eq 5, 3) := by decide +kernel
theorem dL_law_888 : decode cL_law 888 = .ok (.iload 6, 2) := by decide +kernel
theorem dL_law_890 : decode cL_law 890 = .ok (.ifCond .ne 15, 3) := by decide +kernel
theorem dL_law_893 : decode cL_law 893 = .ok (.aload_n 3, 1) := by decide +kernel
theorem dL_law_894 : decode cL_law 894 = .ok (.iconst 0, 1) := by decide +kernel
theorem dL_law_895 : decode cL_law 895 = .ok (.laload, 1) := by decide +kernel
theorem dL_law_896 : decode cL_law 896 = .ok (.iload 7, 2) := by decide +kernel
theorem dL_law_898 : decode cL_law 898 = .ok (.i2l, 1) := by decide +kernel
theorem dL_law_899 : decode cL_law 899 = .ok (.lcmp, 1) := by decide +kernel
theorem dL_law_900 : decode cL_law 900 = .ok (.ifCond .eq 5, 3) := by decide +kernel
theorem dL_law_905 : decode cL_law 905 = .ok (.goto 3131, 3) := by decide +kernel
set_option maxHeartbeats 8000000 in
set_option maxRecDepth 100000 in
theorem lc_7 {p : Program} {l : Launch} {e : Env} {s : State} {m : MethodId} {args : Array Value} {below : List Frame} {meth : Method} {c : Code} {H : Heap} {locs : List Loc} {Q : State → Prop} {ls : Array Slot} {G : gG} {da : Nat → Nat} {v : vSt} {x : gX} (hst : l.stackTraces = false) (X : CX G p s m args c cL_law 8 RL) (hN : NC s) {b L : Nat} {xs : Nat → Int32} (hX : va_X b L xs s s.heap) (hbl : b < s.heap.size) (hbA : ¬ gA G b) {i : Int32} (hi : 0 ≤ i.toInt ∧ i.toInt + 5 ≤ (L : Int) ∧ L ≤ 2560) (hH : Hp G da v x H) (hS : va_S (gA G) s.heap H locs) (hl : lv_has ls 8 [(0, .ref b), (1, .ref (ga G 448)), (2, .ref (ga G 461)), (3, .ref (ga G 468)), (4, .ref (ga G 469)), (5, .int i)]) {c0 c1 : Nat} (ho : olc_7 i xs v x c0 c1) (E : ∀ (da1 : Nat → Nat) (H1 : Heap) (locs1 : List Loc) (ls1 : Array Slot) (v2 : vSt) (x2 : gX), v2 = (flc_7 i xs v x).1 → x2 = (flc_7 i xs v x).2 → Hp G da1 v2 x2 H1 → va_S (gA G) s.heap H1 locs1 → lv_has ls1 8 [(0, .ref b), (1, .ref (ga G 448)), (2, .ref (ga G 461)), (3, .ref (ga G 468)), (4, .ref (ga G 469)), (5, .int i)] → W p l e room_1 s m args below meth c H1 locs1 c1 c1 Q (F0 m 4036 ls1 [])) : W p l e room_1 s m args below meth c H locs c0 c0 Q (F0 m 840 ls []) := by
  have hx := X.1
  have hb := X.2.1
  have hown := X.2.2.2.1
  have hts := X.2.2.2.2.1
  unfold olc_7 at ho
  refine lv_aload_n hx hb dL_law_840 rfl (lv_at hl 1 rfl) ?_
  refine lv_aload_n hx hb dL_law_841 rfl (lv_at hl 0 rfl) ?_
  refine lv_iload hx hb dL_law_842 (lv_at hl 5 rfl) ?_
  refine lv_iconst (v := 1) hx hb dL_law_844 (by decide) ?_
  refine lv_iadd hx hb dL_law_845 ?_
  refine va_sld hx hb hX hbl hbA hS (sx hi 1 (by decide)) dL_law_846 ?_
  refine lv_aload_n hx hb dL_law_847 rfl (lv_at hl 0 rfl) ?_
  refine lv_iload hx hb dL_law_848 (lv_at hl 5 rfl) ?_
  refine lv_iconst (v := 2) hx hb dL_law_850 (by decide) ?_
  refine lv_iadd hx hb dL_law_851 ?_
  refine va_sld hx hb hX hbl hbA hS (sx hi 2 (by decide)) dL_law_852 ?_
  refine lv_aload_n hx hb dL_law_853 rfl (lv_at hl 3 rfl) ?_
  have hq1 := ho.1
  have ho := ho.2
  have hq2 := ho.1
  have ho := ho.2
  have hq3 := ho.1
  have ho := ho.2
  refine k_L_bring hst X hS hN hH kd_448 kd_468 hq1 t_ml_VernierDrawersLaw_232 hl.1 (Nat.le_of_ble_eq_true rfl) ⟨Nat.le_of_ble_eq_true rfl, Nat.le_of_ble_eq_true rfl⟩ ⟨hq3, (le_sl hq3)⟩ dL_law_854 (fun da H locs v4 x5 ev4 ex5 hH hS => ?_)
  have ho := ho v4 ev4 x5 ex5
  refine lv_istore (lv' := [(6, .int ((fL_bring 448 (xs (i + 1 : Int32).toNatClampNeg) (xs (i + 2 : Int32).toNatClampNeg) 468 v x).1)), (0, .ref b), (1, .ref (ga G 448)), (2, .ref (ga G 461)), (3, .ref (ga G 468)), (4, .ref (ga G 469)), (5, .int i)]) hx hb dL_law_857 hl (by decide) rfl (fun ls hl => ?_)
  refine lv_aload_n hx hb dL_law_859 rfl (lv_at hl 3 rfl) ?_
  refine lv_aload_n hx hb dL_law_860 rfl (lv_at hl 1 rfl) ?_
  refine lv_iload hx hb dL_law_861 (lv_at hl 6 rfl) ?_
  refine lv_iconst (v := 1) hx hb dL_law_863 (by decide) ?_
  refine lv_iadd hx hb dL_law_864 ?_
  refine va_sld hx hb hX hbl hbA hS (sx hi 1 (by decide)) dL_law_865 ?_
  refine lv_aload_n hx hb dL_law_866 rfl (lv_at hl 1 rfl) ?_
  refine lv_iload hx hb dL_law_867 (lv_at hl 6 rfl) ?_
  refine lv_iconst (v := 2) hx hb dL_law_869 (by decide) ?_
  refine lv_iadd hx hb dL_law_870 ?_
  refine va_sld hx hb hX hbl hbA hS (sx hi 2 (by decide)) dL_law_871 ?_
  have hq6 := ho.1
  have ho := ho.2
  refine k_X11_bring X hS hH kd_461 hq6 t_ml_VernierDrawersLaw_234 hl.1 (Nat.le_of_ble_eq_true rfl) ⟨Nat.le_of_ble_eq_true rfl, Nat.le_of_ble_eq_true rfl⟩ ⟨hq3, (le_sl hq3)⟩ dL_law_872 (fun da H locs v7 ev7 hH hS => ?_)
  have ho := ho v7 ev7
  refine lv_istore (lv' := [(7, .int ((fX11_bring 461 (xs (i + 1 : Int32).toNatClampNeg) (xs (i + 2 : Int32).toNatClampNeg) v4).1)), (6, .int ((fL_bring 448 (xs (i + 1 : Int32).toNatClampNeg) (xs (i + 2 : Int32).toNatClampNeg) 468 v x).1)), (0, .ref b), (1, .ref (ga G 448)), (2, .ref (ga G 461)), (3, .ref (ga G 468)), (4, .ref (ga G 469)), (5, .int i)]) hx hb dL_law_875 hl (by decide) rfl (fun ls hl => ?_)
  refine lv_aload_n hx hb dL_law_877 rfl (lv_at hl 4 rfl) ?_
  refine k_X11_thrown X hS hH kd_461 t_ml_VernierDrawersLaw_207 hl.1 (Nat.le_of_ble_eq_true rfl) ⟨Nat.le_of_ble_eq_true rfl, Nat.le_of_ble_eq_true rfl⟩ ⟨hq3, (le_sl hq3)⟩ dL_law_878 ?_
  refine lv_iload hx hb dL_law_881 (lv_at hl 1 rfl) ?_
  refine lv_icmp_eq (tgt := 888) hx hb dL_law_883 (by decide) (fun c8 => ?_) (fun c8 => ?_)
  · have ho := ho.1 c8
    refine lv_iload hx hb dL_law_888 (lv_at hl 1 rfl) ?_
    refine lv_if_ne (tgt := 905) hx hb dL_law_890 (by decide) (fun c9 => ?_) (fun c9 => ?_)
    · have ho := ho.2 c9
      refine lv_goto (tgt := 4036) hx hb dL_law_905 (by decide) ?_
      have hq10 := ho
      refine W.widen (k := c1) (n := c1) hq10 hq10 ?_
      replace ev4 := Eq.symm ev4
      replace ex5 := Eq.symm ex5
      replace ev7 := Eq.symm ev7
      subst ev4 ex5 ev7
      exact E _ _ _ _ _ _ (pr1 ((flc_7.eq_1 _ _ _ _).trans ((if_pos c8).trans ((if_neg c9).trans rfl)))) (pr2 ((flc_7.eq_1 _ _ _ _).trans ((if_pos c8).trans ((if_neg c9).trans rfl)))) hH hS (lv_sub hl [2, 3, 4, 5, 6, 7] rfl)
    · have ho := ho.1 c9
      refine lv_aload_n hx hb dL_law_893 rfl (lv_at hl 5 rfl) ?_
      refine lv_iconst (v := 0) hx hb dL_law_894 (by decide) ?_
      refine lald_34 X hH kd_468 (i_in (by decide) (by decide)) dL_law_895 ?_
      refine lv_iload hx hb dL_law_896 (lv_at hl 0 rfl) ?_
      refine lv_i2l (v := ((fX11_bring 461 (xs (i + 1 : Int32).toNatClampNeg) (xs (i + 2 : Int32).toNatClampNeg) v4).1 : Int32).toInt64) hx hb dL_law_898 rfl ?_
      refine W.lcmp hx hb dL_law_899 ?_
      refine lv_if_eq (tgt := 905) hx hb dL_law_900 (by decide) (fun c11 => ?_) (fun c11 => ?_)
      · have ho := ho.1 c11
        refine lv_goto (tgt := 4036) hx hb dL_law_905 (by decide) ?_
        have hq12 := ho
        refine W.widen (k := c1) (n := c1) hq12 hq12 ?_
        replace ev4 := Eq.symm ev4
        replace ex5 := Eq.symm ex5
        replace ev7 := Eq.symm ev7
        subst ev4 ex5 ev7
        exact E _ _ _ _ _ _ (pr1 ((flc_7.eq_1 _ _ _ _).trans ((if_pos c8).trans ((if_pos c9).trans ((if_pos c11).trans rfl))))) (pr2 ((flc_7.eq_1 _ _ _ _).trans ((if_pos c8).trans ((if_pos c9).trans ((if_pos c11).trans rfl))))) hH hS (lv_sub hl [2, 3, 4, 5, 6, 7] rfl)
      · have ho := ho.2 c11
        have hq13 := ho
        exact hq13.elim
  · have ho := ho.2 c8
    have hq14 := ho
    exact hq14.elim
