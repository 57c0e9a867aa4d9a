/-! the law's cases -/
theorem dL_law_3386 : decode cL_law 3386 = .ok (.aload_n 1, 1) := by decide +kernel
theorem dL_law_3387 : decode cL_law 3387 = .ok (.aload_n 0, 1) := by decide +kernel
theorem dL_law_3388 : decode cL_law 3388 = .ok (.iload 5, 2) := by decide +kernel
theorem dL_law_3390 : decode cL_law 3390 = .ok (.iconst 1, 1) := by decide +kernel
theorem dL_law_3391 : decode cL_law 3391 = .ok (.iadd, 1) := by decide +kernel
theorem dL_law_3392 : decode cL_law 3392 = .ok (.iaload, 1) := by decide +kernel
theorem dL_law_3393 : decode cL_law 3393 = .ok (.aload_n 3, 1) := by decide +kernel
theorem dL_law_3394 : decode cL_law 3394 = .ok (.invokestatic 387, 3) := by decide +kernel
theorem dL_law_3397 : decode cL_law 3397 = .ok (.istore 6, 2) := by decide +kernel
theorem dL_law_3399 : decode cL_law 3399 = .ok (.aload_n 2, 1) := by decide +kernel
theorem dL_law_3400 : decode cL_law 3400 = .ok (.aload_n 0, 1) := by decide +kernel
theorem dL_law_3401 : decode cL_law 3401 = .ok (.iload 5, 2) := by decide +kernel
theorem dL_law_3403 : decode cL_law 3403 = .ok (.iconst 1, 1) := by decide +kernel
theorem dL_law_3404 : decode cL_law 3404 = .ok (.iadd, 1) := by decide +kernel
theorem dL_law_3405 : decode cL_law 3405 = .ok (.iaload, 1) := by decide +kernel
theorem dL_law_3406 : decode cL_law 3406 = .ok (.invokevirtual 389, 3) := by decide +kernel
theorem dL_law_3409 : decode cL_law 3409 = .ok (.istore 7, 2) := by decide +kernel
theorem dL_law_3411 : decode cL_law 3411 = .ok (.aload_n 2, 1) := by decide +kernel
theorem dL_law_3412 : decode cL_law 3412 = .ok (.invokevirtual 207, 3) := by decide +kernel
theorem dL_law_3415 : decode cL_law 3415 = .ok (.iload 6, 2) := by decide +kernel
theorem dL_law_3417 : decode cL_law 3417 = .ok (.if_icmp .eq 5, 3) := by decide +kernel
theorem dL_law_3422 : decode cL_law 3422 = .ok (.iload 6, 2) := by decide +kernel
theorem dL_law_3424 : decode cL_law 3424 = .ok (.ifCond .ne 15, 3) := by decide +kernel
theorem dL_law_3427 : decode cL_law 3427 = .ok (.aload_n 3, 1) := by decide +kernel
theorem dL_law_3428 : decode cL_law 3428 = .ok (.iconst 0, 1) := by decide +kernel
theorem dL_law_3429 : decode cL_law 3429 = .ok (.laload, 1) := by decide +kernel
theorem dL_law_3430 : decode cL_law 3430 = .ok (.iload 7, 2) := by decide +kernel
theorem dL_law_3432 : decode cL_law 3432 = .ok (.i2l, 1) := by decide +kernel
theorem dL_law_3433 : decode cL_law 3433 = .ok (.lcmp, 1) := by decide +kernel
theorem dL_law_3434 : decode cL_law 3434 = .ok (.ifCond .eq 5, 3) := by decide +kernel
theorem dL_law_3439 : decode cL_law 3439 = .ok (.goto 597, 3) := by decide +kernel
set_option maxHeartbeats 8000000 in
set_option maxRecDepth 100000 in
theorem lc_56 {p : Program} {l : Launch} {e : Env} {s : State} {m : MethodId} {args : Array Value} {below : List Frame} {meth : Method} {c : Code} {H : Heap} {locs : List Loc} {Q : State → Prop} {ls : Array Slot} {G : gG} {da : Nat → Nat} {v : vSt} {x : gX} (hst : l.stackTraces = false) (X : CX G p s m args c cL_law 8 RL) (hN : NC s) {b L : Nat} {xs : Nat → Int32} (hX : va_X b L xs s s.heap) (hbl : b < s.heap.size) (hbA : ¬ gA G b) {i : Int32} (hi : 0 ≤ i.toInt ∧ i.toInt + 5 ≤ (L : Int) ∧ L ≤ 2560) (hH : Hp G da v x H) (hS : va_S (gA G) s.heap H locs) (hl : lv_has ls 8 [(0, .ref b), (1, .ref (ga G 448)), (2, .ref (ga G 461)), (3, .ref (ga G 468)), (4, .ref (ga G 469)), (5, .int i)]) {c0 c1 : Nat} (ho : olc_56 i xs v x c0 c1) (E : ∀ (da1 : Nat → Nat) (H1 : Heap) (locs1 : List Loc) (ls1 : Array Slot) (v2 : vSt) (x2 : gX), v2 = (flc_56 i xs v x).1 → x2 = (flc_56 i xs v x).2 → Hp G da1 v2 x2 H1 → va_S (gA G) s.heap H1 locs1 → lv_has ls1 8 [(0, .ref b), (1, .ref (ga G 448)), (2, .ref (ga G 461)), (3, .ref (ga G 468)), (4, .ref (ga G 469)), (5, .int i)] → W p l e room_1 s m args below meth c H1 locs1 c1 c1 Q (F0 m 4036 ls1 [])) : W p l e room_1 s m args below meth c H locs c0 c0 Q (F0 m 3386 ls []) := by
  have hx := X.1
  have hb := X.2.1
  have hown := X.2.2.2.1
  have hts := X.2.2.2.2.1
  unfold olc_56 at ho
  refine lv_aload_n hx hb dL_law_3386 rfl (lv_at hl 1 rfl) ?_
  refine lv_aload_n hx hb dL_law_3387 rfl (lv_at hl 0 rfl) ?_
  refine lv_iload hx hb dL_law_3388 (lv_at hl 5 rfl) ?_
  refine lv_iconst (v := 1) hx hb dL_law_3390 (by decide) ?_
  refine lv_iadd hx hb dL_law_3391 ?_
  refine va_sld hx hb hX hbl hbA hS (sx hi 1 (by decide)) dL_law_3392 ?_
  refine lv_aload_n hx hb dL_law_3393 rfl (lv_at hl 3 rfl) ?_
  have hq1 := ho.1
  have ho := ho.2
  have hq2 := ho.1
  have ho := ho.2
  have hq3 := ho.1
  have ho := ho.2
  refine k_L_spreadOf hst X hS hN hH kd_448 kd_468 hq1 t_ml_VernierDrawersLaw_387 hl.1 (Nat.le_of_ble_eq_true rfl) ⟨Nat.le_of_ble_eq_true rfl, Nat.le_of_ble_eq_true rfl⟩ ⟨hq3, (le_sl hq3)⟩ dL_law_3394 (fun da H locs v4 x5 ev4 ex5 hH hS => ?_)
  have ho := ho v4 ev4 x5 ex5
  refine lv_istore (lv' := [(6, .int ((fL_spreadOf 448 (xs (i + 1 : Int32).toNatClampNeg) 468 v x).1)), (0, .ref b), (1, .ref (ga G 448)), (2, .ref (ga G 461)), (3, .ref (ga G 468)), (4, .ref (ga G 469)), (5, .int i)]) hx hb dL_law_3397 hl (by decide) rfl (fun ls hl => ?_)
  refine lv_aload_n hx hb dL_law_3399 rfl (lv_at hl 3 rfl) ?_
  refine lv_aload_n hx hb dL_law_3400 rfl (lv_at hl 1 rfl) ?_
  refine lv_iload hx hb dL_law_3401 (lv_at hl 6 rfl) ?_
  refine lv_iconst (v := 1) hx hb dL_law_3403 (by decide) ?_
  refine lv_iadd hx hb dL_law_3404 ?_
  refine va_sld hx hb hX hbl hbA hS (sx hi 1 (by decide)) dL_law_3405 ?_
  have hq6 := ho.1
  have ho := ho.2
  refine k_X11_spreadOf X hS hH kd_461 hq6 t_ml_VernierDrawersLaw_389 hl.1 (Nat.le_of_ble_eq_true rfl) ⟨Nat.le_of_ble_eq_true rfl, Nat.le_of_ble_eq_true rfl⟩ ⟨hq3, (le_sl hq3)⟩ dL_law_3406 (fun da H locs v7 ev7 hH hS => ?_)
  have ho := ho v7 ev7
  refine lv_istore (lv' := [(7, .int ((fX11_spreadOf 461 (xs (i + 1 : Int32).toNatClampNeg) v4).1)), (6, .int ((fL_spreadOf 448 (xs (i + 1 : Int32).toNatClampNeg) 468 v x).1)), (0, .ref b), (1, .ref (ga G 448)), (2, .ref (ga G 461)), (3, .ref (ga G 468)), (4, .ref (ga G 469)), (5, .int i)]) hx hb dL_law_3409 hl (by decide) rfl (fun ls hl => ?_)
  refine lv_aload_n hx hb dL_law_3411 rfl (lv_at hl 4 rfl) ?_
  refine k_X11_thrown X hS hH kd_461 t_ml_VernierDrawersLaw_207 hl.1 (Nat.le_of_ble_eq_true rfl) ⟨Nat.le_of_ble_eq_true rfl, Nat.le_of_ble_eq_true rfl⟩ ⟨hq3, (le_sl hq3)⟩ dL_law_3412 ?_
  refine lv_iload hx hb dL_law_3415 (lv_at hl 1 rfl) ?_
  refine lv_icmp_eq (tgt := 3422) hx hb dL_law_3417 (by decide) (fun c8 => ?_) (fun c8 => ?_)
  · have ho := ho.1 c8
    refine lv_iload hx hb dL_law_3422 (lv_at hl 1 rfl) ?_
    refine lv_if_ne (tgt := 3439) hx hb dL_law_3424 (by decide) (fun c9 => ?_) (fun c9 => ?_)
    · have ho := ho.2 c9
      refine lv_goto (tgt := 4036) hx hb dL_law_3439 (by decide) ?_
      have hq10 := ho
      refine W.widen (k := c1) (n := c1) hq10 hq10 ?_
      replace ev4 := Eq.symm ev4
      replace ex5 := Eq.symm ex5
      replace ev7 := Eq.symm ev7
      subst ev4 ex5 ev7
      exact E _ _ _ _ _ _ (pr1 ((flc_56.eq_1 _ _ _ _).trans ((if_pos c8).trans ((if_neg c9).trans rfl)))) (pr2 ((flc_56.eq_1 _ _ _ _).trans ((if_pos c8).trans ((if_neg c9).trans rfl)))) hH hS (lv_sub hl [2, 3, 4, 5, 6, 7] rfl)
    · have ho := ho.1 c9
      refine lv_aload_n hx hb dL_law_3427 rfl (lv_at hl 5 rfl) ?_
      refine lv_iconst (v := 0) hx hb dL_law_3428 (by decide) ?_
      refine lald_34 X hH kd_468 (i_in (by decide) (by decide)) dL_law_3429 ?_
      refine lv_iload hx hb dL_law_3430 (lv_at hl 0 rfl) ?_
      refine lv_i2l (v := ((fX11_spreadOf 461 (xs (i + 1 : Int32).toNatClampNeg) v4).1 : Int32).toInt64) hx hb dL_law_3432 rfl ?_
      refine W.lcmp hx hb dL_law_3433 ?_
      refine lv_if_eq (tgt := 3439) hx hb dL_law_3434 (by decide) (fun c11 => ?_) (fun c11 => ?_)
      · have ho := ho.1 c11
        refine lv_goto (tgt := 4036) hx hb dL_law_3439 (by decide) ?_
        have hq12 := ho
        refine W.widen (k := c1) (n := c1) hq12 hq12 ?_
        replace ev4 := Eq.symm ev4
        replace ex5 := Eq.symm ex5
        replace ev7 := Eq.symm ev7
        subst ev4 ex5 ev7
        exact E _ _ _ _ _ _ (pr1 ((flc_56.eq_1 _ _ _ _).trans ((if_pos c8).trans ((if_pos c9).trans ((if_pos c11).trans rfl))))) (pr2 ((flc_56.eq_1 _ _ _ _).trans ((if_pos c8).trans ((if_pos c9).trans ((if_pos c11).trans rfl))))) hH hS (lv_sub hl [2, 3, 4, 5, 6, 7] rfl)
      · have ho := ho.2 c11
        have hq13 := ho
        exact hq13.elim
  · have ho := ho.2 c8
    have hq14 := ho
    exact hq14.elim
theorem dL_law_3442 : decode cL_law 3442 = .ok (.aload_n 1, 1) := by decide +kernel
theorem dL_law_3443 : decode cL_law 3443 = .ok (.aload_n 0, 1) := by decide +kernel
theorem dL_law_3444 : decode cL_law 3444 = .ok (.iload 5, 2) := by decide +kernel
theorem dL_law_3446 : decode cL_law 3446 = .ok (.iconst 1, 1) := by decide +kernel
theorem dL_law_3447 : decode cL_law 3447 = .ok (.iadd, 1) := by decide +kernel
theorem dL_law_3448 : decode cL_law 3448 = .ok (.iaload, 1) := by decide +kernel
theorem dL_law_3449 : decode cL_law 3449 = .ok (.aload 4, 2) := by decide +kernel
theorem dL_law_3451 : decode cL_law 3451 = .ok (.invokestatic 390, 3) := by decide +kernel
theorem dL_law_3454 : decode cL_law 3454 = .ok (.istore 6, 2) := by decide +kernel
theorem dL_law_3456 : decode cL_law 3456 = .ok (.aload_n 2, 1) := by decide +kernel
theorem dL_law_3457 : decode cL_law 3457 = .ok (.aload_n 0, 1) := by decide +kernel
theorem dL_law_3458 : decode cL_law 3458 = .ok (.iload 5, 2) := by decide +kernel
theorem dL_law_3460 : decode cL_law 3460 = .ok (.iconst 1, 1) := by decide +kernel
theorem dL_law_3461 : decode cL_law 3461 = .ok (.iadd, 1) := by decide +kernel
theorem dL_law_3462 : decode cL_law 3462 = .ok (.iaload, 1) := by decide +kernel
theorem dL_law_3463 : decode cL_law 3463 = .ok (.invokevirtual 393, 3) := by decide +kernel
theorem dL_law_3466 : decode cL_law 3466 = .ok (.fstore 7, 2) := by decide +kernel
theorem dL_law_3468 : decode cL_law 3468 = .ok (.aload_n 2, 1) := by decide +kernel
theorem dL_law_3469 : decode cL_law 3469 = .ok (.invokevirtual 207, 3) := by decide +kernel
theorem dL_law_3472 : decode cL_law 3472 = .ok (.iload 6, 2) := by decide +kernel
theorem dL_law_3474 : decode cL_law 3474 = .ok (.if_icmp .eq 5, 3) := by decide +kernel
theorem dL_law_3479 : decode cL_law 3479 = .ok (.iload 6, 2) := by decide +kernel
theorem dL_law_3481 : decode cL_law 3481 = .ok (.ifCond .ne 36, 3) := by decide +kernel
theorem dL_law_3484 : decode cL_law 3484 = .ok (.aload 4, 2) := by decide +kernel
theorem dL_law_3486 : decode cL_law 3486 = .ok (.iconst 0, 1) := by decide +kernel
theorem dL_law_3487 : decode cL_law 3487 = .ok (.daload, 1) := by decide +kernel
theorem dL_law_3488 : decode cL_law 3488 = .ok (.fload 7, 2) := by decide +kernel
theorem dL_law_3490 : decode cL_law 3490 = .ok (.f2d, 1) := by decide +kernel
theorem dL_law_3491 : decode cL_law 3491 = .ok (.dcmp .l, 1) := by decide +kernel
theorem dL_law_3492 : decode cL_law 3492 = .ok (.ifCond .eq 25, 3) := by decide +kernel
theorem dL_law_3517 : decode cL_law 3517 = .ok (.goto 519, 3) := by decide +kernel
set_option maxHeartbeats 8000000 in
set_option maxRecDepth 100000 in
theorem lc_57 {p : Program} {l : Launch} {e : Env} {s : State} {m : MethodId} {args : Array Value} {below : List Frame} {meth : Method} {c : Code} {H : Heap} {locs : List Loc} {Q : State → Prop} {ls : Array Slot} {G : gG} {da : Nat → Nat} {v : vSt} {x : gX} (hst : l.stackTraces = false) (X : CX G p s m args c cL_law 8 RL) (hN : NC s) {b L : Nat} {xs : Nat → Int32} (hX : va_X b L xs s s.heap) (hbl : b < s.heap.size) (hbA : ¬ gA G b) {i : Int32} (hi : 0 ≤ i.toInt ∧ i.toInt + 5 ≤ (L : Int) ∧ L ≤ 2560) (hH : Hp G da v x H) (hS : va_S (gA G) s.heap H locs) (hl : lv_has ls 8 [(0, .ref b), (1, .ref (ga G 448)), (2, .ref (ga G 461)), (3, .ref (ga G 468)), (4, .ref (ga G 469)), (5, .int i)]) {c0 c1 : Nat} (ho : olc_57 i xs v x c0 c1) (E : ∀ (da1 : Nat → Nat) (H1 : Heap) (locs1 : List Loc) (ls1 : Array Slot) (v2 : vSt) (x2 : gX), v2 = (flc_57 i xs v x).1 → x2 = (flc_57 i xs v x).2 → Hp G da1 v2 x2 H1 → va_S (gA G) s.heap H1 locs1 → lv_has ls1 8 [(0, .ref b), (1, .ref (ga G 448)), (2, .ref (ga G 461)), (3, .ref (ga G 468)), (4, .ref (ga G 469)), (5, .int i)] → W p l e room_1 s m args below meth c H1 locs1 c1 c1 Q (F0 m 4036 ls1 [])) : W p l e room_1 s m args below meth c H locs c0 c0 Q (F0 m 3442 ls []) := by
  have hx := X.1
  have hb := X.2.1
  have hown := X.2.2.2.1
  have hts := X.2.2.2.2.1
  unfold olc_57 at ho
  refine lv_aload_n hx hb dL_law_3442 rfl (lv_at hl 1 rfl) ?_
  refine lv_aload_n hx hb dL_law_3443 rfl (lv_at hl 0 rfl) ?_
  refine lv_iload hx hb dL_law_3444 (lv_at hl 5 rfl) ?_
  refine lv_iconst (v := 1) hx hb dL_law_3446 (by decide) ?_
  refine lv_iadd hx hb dL_law_3447 ?_
  refine va_sld hx hb hX hbl hbA hS (sx hi 1 (by decide)) dL_law_3448 ?_
  refine lv_aload hx hb dL_law_3449 (lv_at hl 4 rfl) ?_
  have hq1 := ho.1
  have ho := ho.2
  have hq2 := ho.1
  have ho := ho.2
  have hq3 := ho.1
  have ho := ho.2
  refine k_L_meanOf hst X hS hN hH kd_448 kd_469 hq1 t_ml_VernierDrawersLaw_390 hl.1 (Nat.le_of_ble_eq_true rfl) ⟨Nat.le_of_ble_eq_true rfl, Nat.le_of_ble_eq_true rfl⟩ ⟨hq3, (le_sl hq3)⟩ dL_law_3451 (fun da H locs v4 x5 ev4 ex5 hH hS => ?_)
  have ho := ho v4 ev4 x5 ex5
  refine lv_istore (lv' := [(6, .int ((fL_meanOf 448 (xs (i + 1 : Int32).toNatClampNeg) 469 v x).1)), (0, .ref b), (1, .ref (ga G 448)), (2, .ref (ga G 461)), (3, .ref (ga G 468)), (4, .ref (ga G 469)), (5, .int i)]) hx hb dL_law_3454 hl (by decide) rfl (fun ls hl => ?_)
  refine lv_aload_n hx hb dL_law_3456 rfl (lv_at hl 3 rfl) ?_
  refine lv_aload_n hx hb dL_law_3457 rfl (lv_at hl 1 rfl) ?_
  refine lv_iload hx hb dL_law_3458 (lv_at hl 6 rfl) ?_
  refine lv_iconst (v := 1) hx hb dL_law_3460 (by decide) ?_
  refine lv_iadd hx hb dL_law_3461 ?_
  refine va_sld hx hb hX hbl hbA hS (sx hi 1 (by decide)) dL_law_3462 ?_
  have hq6 := ho.1
  have ho := ho.2
  refine k_X11_meanOf X hS hH kd_461 hq6 t_ml_VernierDrawersLaw_393 hl.1 (Nat.le_of_ble_eq_true rfl) ⟨Nat.le_of_ble_eq_true rfl, Nat.le_of_ble_eq_true rfl⟩ ⟨hq3, (le_sl hq3)⟩ dL_law_3463 (fun da H locs v7 ev7 hH hS => ?_)
  have ho := ho v7 ev7
  refine lv_fstore (lv' := [(7, .float ((fX11_meanOf 461 (xs (i + 1 : Int32).toNatClampNeg) v4).1)), (6, .int ((fL_meanOf 448 (xs (i + 1 : Int32).toNatClampNeg) 469 v x).1)), (0, .ref b), (1, .ref (ga G 448)), (2, .ref (ga G 461)), (3, .ref (ga G 468)), (4, .ref (ga G 469)), (5, .int i)]) hx hb dL_law_3466 hl (by decide) rfl (fun ls hl => ?_)
  refine lv_aload_n hx hb dL_law_3468 rfl (lv_at hl 4 rfl) ?_
  refine k_X11_thrown X hS hH kd_461 t_ml_VernierDrawersLaw_207 hl.1 (Nat.le_of_ble_eq_true rfl) ⟨Nat.le_of_ble_eq_true rfl, Nat.le_of_ble_eq_true rfl⟩ ⟨hq3, (le_sl hq3)⟩ dL_law_3469 ?_
  refine lv_iload hx hb dL_law_3472 (lv_at hl 1 rfl) ?_
  refine lv_icmp_eq (tgt := 3479) hx hb dL_law_3474 (by decide) (fun c8 => ?_) (fun c8 => ?_)
  · have ho := ho.1 c8
    refine lv_iload hx hb dL_law_3479 (lv_at hl 1 rfl) ?_
    refine lv_if_ne (tgt := 3517) hx hb dL_law_3481 (by decide) (fun c9 => ?_) (fun c9 => ?_)
    · have ho := ho.2 c9
      refine lv_goto (tgt := 4036) hx hb dL_law_3517 (by decide) ?_
      have hq10 := ho
      refine W.widen (k := c1) (n := c1) hq10 hq10 ?_
      replace ev4 := Eq.symm ev4
      replace ex5 := Eq.symm ex5
      replace ev7 := Eq.symm ev7
      subst ev4 ex5 ev7
      exact E _ _ _ _ _ _ (pr1 ((flc_57.eq_1 _ _ _ _).trans ((if_pos c8).trans ((if_neg c9).trans rfl)))) (pr2 ((flc_57.eq_1 _ _ _ _).trans ((if_pos c8).trans ((if_neg c9).trans rfl)))) hH hS (lv_sub hl [2, 3, 4, 5, 6, 7] rfl)
    · have ho := ho.1 c9
      refine lv_aload hx hb dL_law_3484 (lv_at hl 6 rfl) ?_
      refine lv_iconst (v := 0) hx hb dL_law_3486 (by decide) ?_
      refine dald_35 X hH kd_469 (i_in (by decide) (by decide)) dL_law_3487 ?_
      refine lv_fload hx hb dL_law_3488 (lv_at hl 0 rfl) ?_
      have hq11 := ho.1
      have ho := ho.2
      refine lv_f2d hx hb dL_law_3490 hq11 ?_
      refine lv_dcmp (op := .l) hx hb dL_law_3491 ?_
      refine lv_if_eq (tgt := 3517) hx hb dL_law_3492 (by decide) (fun c12 => ?_) (fun c12 => ?_)
      · have ho := ho.1 c12
        refine lv_goto (tgt := 4036) hx hb dL_law_3517 (by decide) ?_
        have hq13 := ho
        refine W.widen (k := c1) (n := c1) hq13 hq13 ?_
        replace ev4 := Eq.symm ev4
        replace ex5 := Eq.symm ex5
        replace ev7 := Eq.symm ev7
        subst ev4 ex5 ev7
        exact E _ _ _ _ _ _ (pr1 ((flc_57.eq_1 _ _ _ _).trans ((if_pos c8).trans ((if_pos c9).trans ((if_pos c12).trans rfl))))) (pr2 ((flc_57.eq_1 _ _ _ _).trans ((if_pos c8).trans ((if_pos c9).trans ((if_pos c12).trans rfl))))) hH hS (lv_sub hl [2, 3, 4, 5, 6, 7] rfl)
      · have ho := ho.2 c12
        have hq14 := ho
        exact hq14.elim
  · have ho := ho.2 c8
    have hq15 := ho
    exact hq15.elim
theorem dL_law_3520 : decode cL_law 3520 = .ok (.aload_n 1, 1) := by decide +kernel
theorem dL_law_3521 : decode cL_law 3521 = .ok (.invokevirtual 394, 3) := by decide +kernel
theorem dL_law_3524 : decode cL_law 3524 = .ok (.aload_n 2, 1) := by decide +kernel
theorem dL_law_3525 : decode cL_law 3525 = .ok (.invokevirtual 397, 3) := by decide +kernel
theorem dL_law_3528 : decode cL_law 3528 = .ok (.if_icmp .eq 508, 3) := by decide +kernel
set_option maxHeartbeats 8000000 in
set_option maxRecDepth 100000 in
theorem lc_58 {p : Program} {l : Launch} {e : Env} {s : State} {m : MethodId} {args : Array Value} {below : List Frame} {meth : Method} {c : Code} {H : Heap} {locs : List Loc} {Q : State → Prop} {ls : Array Slot} {G : gG} {da : Nat → Nat} {v : vSt} {x : gX} (hst : l.stackTraces = false) (X : CX G p s m args c cL_law 8 RL) (hN : NC s) {b L : Nat} {xs : Nat → Int32} (hX : va_X b L xs s s.heap) (hbl : b < s.heap.size) (hbA : ¬ gA G b) {i : Int32} (hi : 0 ≤ i.toInt ∧ i.toInt + 5 ≤ (L : Int) ∧ L ≤ 2560) (hH : Hp G da v x H) (hS : va_S (gA G) s.heap H locs) (hl : lv_has ls 8 [(0, .ref b), (1, .ref (ga G 448)), (2, .ref (ga G 461)), (3, .ref (ga G 468)), (4, .ref (ga G 469)), (5, .int i)]) {c0 c1 : Nat} (ho : olc_58 i xs v x c0 c1) (E : ∀ (da1 : Nat → Nat) (H1 : Heap) (locs1 : List Loc) (ls1 : Array Slot) (v2 : vSt) (x2 : gX), v2 = (flc_58 i xs v x).1 → x2 = (flc_58 i xs v x).2 → Hp G da1 v2 x2 H1 → va_S (gA G) s.heap H1 locs1 → lv_has ls1 8 [(0, .ref b), (1, .ref (ga G 448)), (2, .ref (ga G 461)), (3, .ref (ga G 468)), (4, .ref (ga G 469)), (5, .int i)] → W p l e room_1 s m args below meth c H1 locs1 c1 c1 Q (F0 m 4036 ls1 [])) : W p l e room_1 s m args below meth c H locs c0 c0 Q (F0 m 3520 ls []) := by
  have hx := X.1
  have hb := X.2.1
  have hown := X.2.2.2.1
  have hts := X.2.2.2.2.1
  unfold olc_58 at ho
  refine lv_aload_n hx hb dL_law_3520 rfl (lv_at hl 1 rfl) ?_
  have hq1 := ho.1
  have ho := ho.2
  have hq2 := ho.1
  have ho := ho.2
  refine k_X10_days X hS hH kd_448 hq1 t_ml_VernierDrawersLaw_394 hl.1 (Nat.le_of_ble_eq_true rfl) ⟨Nat.le_of_ble_eq_true rfl, Nat.le_of_ble_eq_true rfl⟩ ⟨hq2, (le_sl hq2)⟩ dL_law_3521 ?_
  refine lv_aload_n hx hb dL_law_3524 rfl (lv_at hl 2 rfl) ?_
  have hq3 := ho.1
  have ho := ho.2
  refine k_X11_days X hS hH kd_461 hq3 t_ml_VernierDrawersLaw_397 hl.1 (Nat.le_of_ble_eq_true rfl) ⟨Nat.le_of_ble_eq_true rfl, Nat.le_of_ble_eq_true rfl⟩ ⟨hq2, (le_sl hq2)⟩ dL_law_3525 (fun da H locs v4 ev4 hH hS => ?_)
  have ho := ho v4 ev4
  refine lv_icmp_eq (tgt := 4036) hx hb dL_law_3528 (by decide) (fun c5 => ?_) (fun c5 => ?_)
  · have ho := ho.1 c5
    have hq6 := ho
    refine W.widen (k := c1) (n := c1) hq6 hq6 ?_
    replace ev4 := Eq.symm ev4
    subst ev4
    exact E _ _ _ _ _ _ (pr1 ((flc_58.eq_1 _ _ _ _).trans ((if_pos c5).trans rfl))) (pr2 ((flc_58.eq_1 _ _ _ _).trans ((if_pos c5).trans rfl))) hH hS (lv_sub hl [0, 1, 2, 3, 4, 5] rfl)
  · have ho := ho.2 c5
    have hq7 := ho
    exact hq7.elim
theorem dL_law_3533 : decode cL_law 3533 = .ok (.aload_n 1, 1) := by decide +kernel
theorem dL_law_3534 : decode cL_law 3534 = .ok (.invokevirtual 398, 3) := by decide +kernel
theorem dL_law_3537 : decode cL_law 3537 = .ok (.aload_n 2, 1) := by decide +kernel
theorem dL_law_3538 : decode cL_law 3538 = .ok (.invokevirtual 401, 3) := by decide +kernel
theorem dL_law_3541 : decode cL_law 3541 = .ok (.if_icmp .eq 495, 3) := by decide +kernel
set_option maxHeartbeats 8000000 in
set_option maxRecDepth 100000 in
theorem lc_59 {p : Program} {l : Launch} {e : Env} {s : State} {m : MethodId} {args : Array Value} {below : List Frame} {meth : Method} {c : Code} {H : Heap} {locs : List Loc} {Q : State → Prop} {ls : Array Slot} {G : gG} {da : Nat → Nat} {v : vSt} {x : gX} (hst : l.stackTraces = false) (X : CX G p s m args c cL_law 8 RL) (hN : NC s) {b L : Nat} {xs : Nat → Int32} (hX : va_X b L xs s s.heap) (hbl : b < s.heap.size) (hbA : ¬ gA G b) {i : Int32} (hi : 0 ≤ i.toInt ∧ i.toInt + 5 ≤ (L : Int) ∧ L ≤ 2560) (hH : Hp G da v x H) (hS : va_S (gA G) s.heap H locs) (hl : lv_has ls 8 [(0, .ref b), (1, .ref (ga G 448)), (2, .ref (ga G 461)), (3, .ref (ga G 468)), (4, .ref (ga G 469)), (5, .int i)]) {c0 c1 : Nat} (ho : olc_59 i xs v x c0 c1) (E : ∀ (da1 : Nat → Nat) (H1 : Heap) (locs1 : List Loc) (ls1 : Array Slot) (v2 : vSt) (x2 : gX), v2 = (flc_59 i xs v x).1 → x2 = (flc_59 i xs v x).2 → Hp G da1 v2 x2 H1 → va_S (gA G) s.heap H1 locs1 → lv_has ls1 8 [(0, .ref b), (1, .ref (ga G 448)), (2, .ref (ga G 461)), (3, .ref (ga G 468)), (4, .ref (ga G 469)), (5, .int i)] → W p l e room_1 s m args below meth c H1 locs1 c1 c1 Q (F0 m 4036 ls1 [])) : W p l e room_1 s m args below meth c H locs c0 c0 Q (F0 m 3533 ls []) := by
  have hx := X.1
  have hb := X.2.1
  have hown := X.2.2.2.1
  have hts := X.2.2.2.2.1
  unfold olc_59 at ho
  refine lv_aload_n hx hb dL_law_3533 rfl (lv_at hl 1 rfl) ?_
  have hq1 := ho.1
  have ho := ho.2
  have hq2 := ho.1
  have ho := ho.2
  refine k_X10_brought X hS hH kd_448 hq1 t_ml_VernierDrawersLaw_398 hl.1 (Nat.le_of_ble_eq_true rfl) ⟨Nat.le_of_ble_eq_true rfl, Nat.le_of_ble_eq_true rfl⟩ ⟨hq2, (le_sl hq2)⟩ dL_law_3534 ?_
  refine lv_aload_n hx hb dL_law_3537 rfl (lv_at hl 2 rfl) ?_
  have hq3 := ho.1
  have ho := ho.2
  refine k_X11_brought X hS hH kd_461 hq3 t_ml_VernierDrawersLaw_401 hl.1 (Nat.le_of_ble_eq_true rfl) ⟨Nat.le_of_ble_eq_true rfl, Nat.le_of_ble_eq_true rfl⟩ ⟨hq2, (le_sl hq2)⟩ dL_law_3538 (fun da H locs v4 ev4 hH hS => ?_)
  have ho := ho v4 ev4
  refine lv_icmp_eq (tgt := 4036) hx hb dL_law_3541 (by decide) (fun c5 => ?_) (fun c5 => ?_)
  · have ho := ho.1 c5
    have hq6 := ho
    refine W.widen (k := c1) (n := c1) hq6 hq6 ?_
    replace ev4 := Eq.symm ev4
    subst ev4
    exact E _ _ _ _ _ _ (pr1 ((flc_59.eq_1 _ _ _ _).trans ((if_pos c5).trans rfl))) (pr2 ((flc_59.eq_1 _ _ _ _).trans ((if_pos c5).trans rfl))) hH hS (lv_sub hl [0, 1, 2, 3, 4, 5] rfl)
  · have ho := ho.2 c5
    have hq7 := ho
    exact hq7.elim
theorem dL_law_3546 : decode cL_law 3546 = .ok (.aload_n 1, 1) := by decide +kernel
theorem dL_law_3547 : decode cL_law 3547 = .ok (.invokevirtual 402, 3) := by decide +kernel
theorem dL_law_3550 : decode cL_law 3550 = .ok (.aload_n 2, 1) := by decide +kernel
theorem dL_law_3551 : decode cL_law 3551 = .ok (.invokevirtual 405, 3) := by decide +kernel
theorem dL_law_3554 : decode cL_law 3554 = .ok (.if_icmp .eq 482, 3) := by decide +kernel
set_option maxHeartbeats 8000000 in
set_option maxRecDepth 100000 in
theorem lc_60 {p : Program} {l : Launch} {e : Env} {s : State} {m : MethodId} {args : Array Value} {below : List Frame} {meth : Method} {c : Code} {H : Heap} {locs : List Loc} {Q : State → Prop} {ls : Array Slot} {G : gG} {da : Nat → Nat} {v : vSt} {x : gX} (hst : l.stackTraces = false) (X : CX G p s m args c cL_law 8 RL) (hN : NC s) {b L : Nat} {xs : Nat → Int32} (hX : va_X b L xs s s.heap) (hbl : b < s.heap.size) (hbA : ¬ gA G b) {i : Int32} (hi : 0 ≤ i.toInt ∧ i.toInt + 5 ≤ (L : Int) ∧ L ≤ 2560) (hH : Hp G da v x H) (hS : va_S (gA G) s.heap H locs) (hl : lv_has ls 8 [(0, .ref b), (1, .ref (ga G 448)), (2, .ref (ga G 461)), (3, .ref (ga G 468)), (4, .ref (ga G 469)), (5, .int i)]) {c0 c1 : Nat} (ho : olc_60 i xs v x c0 c1) (E : ∀ (da1 : Nat → Nat) (H1 : Heap) (locs1 : List Loc) (ls1 : Array Slot) (v2 : vSt) (x2 : gX), v2 = (flc_60 i xs v x).1 → x2 = (flc_60 i xs v x).2 → Hp G da1 v2 x2 H1 → va_S (gA G) s.heap H1 locs1 → lv_has ls1 8 [(0, .ref b), (1, .ref (ga G 448)), (2, .ref (ga G 461)), (3, .ref (ga G 468)), (4, .ref (ga G 469)), (5, .int i)] → W p l e room_1 s m args below meth c H1 locs1 c1 c1 Q (F0 m 4036 ls1 [])) : W p l e room_1 s m args below meth c H locs c0 c0 Q (F0 m 3546 ls []) := by
  have hx := X.1
  have hb := X.2.1
  have hown := X.2.2.2.1
  have hts := X.2.2.2.2.1
  unfold olc_60 at ho
  refine lv_aload_n hx hb dL_law_3546 rfl (lv_at hl 1 rfl) ?_
  have hq1 := ho.1
  have ho := ho.2
  have hq2 := ho.1
  have ho := ho.2
  refine k_X10_broughtByPlaces X hS hH kd_448 hq1 t_ml_VernierDrawersLaw_402 hl.1 (Nat.le_of_ble_eq_true rfl) ⟨Nat.le_of_ble_eq_true rfl, Nat.le_of_ble_eq_true rfl⟩ ⟨hq2, (le_sl hq2)⟩ dL_law_3547 ?_
  refine lv_aload_n hx hb dL_law_3550 rfl (lv_at hl 2 rfl) ?_
  have hq3 := ho.1
  have ho := ho.2
  refine k_X11_broughtByPlaces X hS hH kd_461 hq3 t_ml_VernierDrawersLaw_405 hl.1 (Nat.le_of_ble_eq_true rfl) ⟨Nat.le_of_ble_eq_true rfl, Nat.le_of_ble_eq_true rfl⟩ ⟨hq2, (le_sl hq2)⟩ dL_law_3551 (fun da H locs v4 ev4 hH hS => ?_)
  have ho := ho v4 ev4
  refine lv_icmp_eq (tgt := 4036) hx hb dL_law_3554 (by decide) (fun c5 => ?_) (fun c5 => ?_)
  · have ho := ho.1 c5
    have hq6 := ho
    refine W.widen (k := c1) (n := c1) hq6 hq6 ?_
    replace ev4 := Eq.symm ev4
    subst ev4
    exact E _ _ _ _ _ _ (pr1 ((flc_60.eq_1 _ _ _ _).trans ((if_pos c5).trans rfl))) (pr2 ((flc_60.eq_1 _ _ _ _).trans ((if_pos c5).trans rfl))) hH hS (lv_sub hl [0, 1, 2, 3, 4, 5] rfl)
  · have ho := ho.2 c5
    have hq7 := ho
    exact hq7.elim
theorem dL_law_3559 : decode cL_law 3559 = .ok (.aload_n 1, 1) := by decide +kernel
theorem dL_law_3560 : decode cL_law 3560 = .ok (.invokevirtual 406, 3) := by decide +kernel
theorem dL_law_3563 : decode cL_law 3563 = .ok (.aload_n 2, 1) := by decide +kernel
theorem dL_law_3564 : decode cL_law 3564 = .ok (.invokevirtual 409, 3) := by decide +kernel
theorem dL_law_3567 : decode cL_law 3567 = .ok (.if_icmp .eq 469, 3) := by decide +kernel
set_option maxHeartbeats 8000000 in
set_option maxRecDepth 100000 in
theorem lc_61 {p : Program} {l : Launch} {e : Env} {s : State} {m : MethodId} {args : Array Value} {below : List Frame} {meth : Method} {c : Code} {H : Heap} {locs : List Loc} {Q : State → Prop} {ls : Array Slot} {G : gG} {da : Nat → Nat} {v : vSt} {x : gX} (hst : l.stackTraces = false) (X : CX G p s m args c cL_law 8 RL) (hN : NC s) {b L : Nat} {xs : Nat → Int32} (hX : va_X b L xs s s.heap) (hbl : b < s.heap.size) (hbA : ¬ gA G b) {i : Int32} (hi : 0 ≤ i.toInt ∧ i.toInt + 5 ≤ (L : Int) ∧ L ≤ 2560) (hH : Hp G da v x H) (hS : va_S (gA G) s.heap H locs) (hl : lv_has ls 8 [(0, .ref b), (1, .ref (ga G 448)), (2, .ref (ga G 461)), (3, .ref (ga G 468)), (4, .ref (ga G 469)), (5, .int i)]) {c0 c1 : Nat} (ho : olc_61 i xs v x c0 c1) (E : ∀ (da1 : Nat → Nat) (H1 : Heap) (locs1 : List Loc) (ls1 : Array Slot) (v2 : vSt) (x2 : gX), v2 = (flc_61 i xs v x).1 → x2 = (flc_61 i xs v x).2 → Hp G da1 v2 x2 H1 → va_S (gA G) s.heap H1 locs1 → lv_has ls1 8 [(0, .ref b), (1, .ref (ga G 448)), (2, .ref (ga G 461)), (3, .ref (ga G 468)), (4, .ref (ga G 469)), (5, .int i)] → W p l e room_1 s m args below meth c H1 locs1 c1 c1 Q (F0 m 4036 ls1 [])) : W p l e room_1 s m args below meth c H locs c0 c0 Q (F0 m 3559 ls []) := by
  have hx := X.1
  have hb := X.2.1
  have hown := X.2.2.2.1
  have hts := X.2.2.2.2.1
  unfold olc_61 at ho
  refine lv_aload_n hx hb dL_law_3559 rfl (lv_at hl 1 rfl) ?_
  have hq1 := ho.1
  have ho := ho.2
  have hq2 := ho.1
  have ho := ho.2
  refine k_X10_good X hS hH kd_448 hq1 t_ml_VernierDrawersLaw_406 hl.1 (Nat.le_of_ble_eq_true rfl) ⟨Nat.le_of_ble_eq_true rfl, Nat.le_of_ble_eq_true rfl⟩ ⟨hq2, (le_sl hq2)⟩ dL_law_3560 ?_
  refine lv_aload_n hx hb dL_law_3563 rfl (lv_at hl 2 rfl) ?_
  have hq3 := ho.1
  have ho := ho.2
  refine k_X11_good X hS hH kd_461 hq3 t_ml_VernierDrawersLaw_409 hl.1 (Nat.le_of_ble_eq_true rfl) ⟨Nat.le_of_ble_eq_true rfl, Nat.le_of_ble_eq_true rfl⟩ ⟨hq2, (le_sl hq2)⟩ dL_law_3564 (fun da H locs v4 ev4 hH hS => ?_)
  have ho := ho v4 ev4
  refine lv_icmp_eq (tgt := 4036) hx hb dL_law_3567 (by decide) (fun c5 => ?_) (fun c5 => ?_)
  · have ho := ho.1 c5
    have hq6 := ho
    refine W.widen (k := c1) (n := c1) hq6 hq6 ?_
    replace ev4 := Eq.symm ev4
    subst ev4
    exact E _ _ _ _ _ _ (pr1 ((flc_61.eq_1 _ _ _ _).trans ((if_pos c5).trans rfl))) (pr2 ((flc_61.eq_1 _ _ _ _).trans ((if_pos c5).trans rfl))) hH hS (lv_sub hl [0, 1, 2, 3, 4, 5] rfl)
  · have ho := ho.2 c5
    have hq7 := ho
    exact hq7.elim
theorem dL_law_3572 : decode cL_law 3572 = .ok (.aload_n 1, 1) := by decide +kernel
theorem dL_law_3573 : decode cL_law 3573 = .ok (.invokevirtual 410, 3) := by decide +kernel
theorem dL_law_3576 : decode cL_law 3576 = .ok (.aload_n 2, 1) := by decide +kernel
theorem dL_law_3577 : decode cL_law 3577 = .ok (.invokevirtual 413, 3) := by decide +kernel
theorem dL_law_3580 : decode cL_law 3580 = .ok (.if_icmp .eq 456, 3) := by decide +kernel
set_option maxHeartbeats 8000000 in
set_option maxRecDepth 100000 in
theorem lc_62 {p : Program} {l : Launch} {e : Env} {s : State} {m : MethodId} {args : Array Value} {below : List Frame} {meth : Method} {c : Code} {H : Heap} {locs : List Loc} {Q : State → Prop} {ls : Array Slot} {G : gG} {da : Nat → Nat} {v : vSt} {x : gX} (hst : l.stackTraces = false) (X : CX G p s m args c cL_law 8 RL) (hN : NC s) {b L : Nat} {xs : Nat → Int32} (hX : va_X b L xs s s.heap) (hbl : b < s.heap.size) (hbA : ¬ gA G b) {i : Int32} (hi : 0 ≤ i.toInt ∧ i.toInt + 5 ≤ (L : Int) ∧ L ≤ 2560) (hH : Hp G da v x H) (hS : va_S (gA G) s.heap H locs) (hl : lv_has ls 8 [(0, .ref b), (1, .ref (ga G 448)), (2, .ref (ga G 461)), (3, .ref (ga G 468)), (4, .ref (ga G 469)), (5, .int i)]) {c0 c1 : Nat} (ho : olc_62 i xs v x c0 c1) (E : ∀ (da1 : Nat → Nat) (H1 : Heap) (locs1 : List Loc) (ls1 : Array Slot) (v2 : vSt) (x2 : gX), v2 = (flc_62 i xs v x).1 → x2 = (flc_62 i xs v x).2 → Hp G da1 v2 x2 H1 → va_S (gA G) s.heap H1 locs1 → lv_has ls1 8 [(0, .ref b), (1, .ref (ga G 448)), (2, .ref (ga G 461)), (3, .ref (ga G 468)), (4, .ref (ga G 469)), (5, .int i)] → W p l e room_1 s m args below meth c H1 locs1 c1 c1 Q (F0 m 4036 ls1 [])) : W p l e room_1 s m args below meth c H locs c0 c0 Q (F0 m 3572 ls []) := by
  have hx := X.1
  have hb := X.2.1
  have hown := X.2.2.2.1
  have hts := X.2.2.2.2.1
  unfold olc_62 at ho
  refine lv_aload_n hx hb dL_law_3572 rfl (lv_at hl 1 rfl) ?_
  have hq1 := ho.1
  have ho := ho.2
  have hq2 := ho.1
  have ho := ho.2
  refine k_X10_thrownAway X hS hH kd_448 hq1 t_ml_VernierDrawersLaw_410 hl.1 (Nat.le_of_ble_eq_true rfl) ⟨Nat.le_of_ble_eq_true rfl, Nat.le_of_ble_eq_true rfl⟩ ⟨hq2, (le_sl hq2)⟩ dL_law_3573 ?_
  refine lv_aload_n hx hb dL_law_3576 rfl (lv_at hl 2 rfl) ?_
  have hq3 := ho.1
  have ho := ho.2
  refine k_X11_thrownAway X hS hH kd_461 hq3 t_ml_VernierDrawersLaw_413 hl.1 (Nat.le_of_ble_eq_true rfl) ⟨Nat.le_of_ble_eq_true rfl, Nat.le_of_ble_eq_true rfl⟩ ⟨hq2, (le_sl hq2)⟩ dL_law_3577 (fun da H locs v4 ev4 hH hS => ?_)
  have ho := ho v4 ev4
  refine lv_icmp_eq (tgt := 4036) hx hb dL_law_3580 (by decide) (fun c5 => ?_) (fun c5 => ?_)
  · have ho := ho.1 c5
    have hq6 := ho
    refine W.widen (k := c1) (n := c1) hq6 hq6 ?_
    replace ev4 := Eq.symm ev4
    subst ev4
    exact E _ _ _ _ _ _ (pr1 ((flc_62.eq_1 _ _ _ _).trans ((if_pos c5).trans rfl))) (pr2 ((flc_62.eq_1 _ _ _ _).trans ((if_pos c5).trans rfl))) hH hS (lv_sub hl [0, 1, 2, 3, 4, 5] rfl)
  · have ho := ho.2 c5
    have hq7 := ho
    exact hq7.elim
theorem dL_law_3585 : decode cL_law 3585 = .ok (.aload_n 1, 1) := by decide +kernel
theorem dL_law_3586 : decode cL_law 3586 = .ok (.invokevirtual 414, 3) := by decide +kernel
theorem dL_law_3589 : decode cL_law 3589 = .ok (.aload_n 2, 1) := by decide +kernel
theorem dL_law_3590 : decode cL_law 3590 = .ok (.invokevirtual 417, 3) := by decide +kernel
theorem dL_law_3593 : decode cL_law 3593 = .ok (.if_icmp .eq 443, 3) := by decide +kernel
set_option maxHeartbeats 8000000 in
set_option maxRecDepth 100000 in
theorem lc_63 {p : Program} {l : Launch} {e : Env} {s : State} {m : MethodId} {args : Array Value} {below : List Frame} {meth : Method} {c : Code} {H : Heap} {locs : List Loc} {Q : State → Prop} {ls : Array Slot} {G : gG} {da : Nat → Nat} {v : vSt} {x : gX} (hst : l.stackTraces = false) (X : CX G p s m args c cL_law 8 RL) (hN : NC s) {b L : Nat} {xs : Nat → Int32} (hX : va_X b L xs s s.heap) (hbl : b < s.heap.size) (hbA : ¬ gA G b) {i : Int32} (hi : 0 ≤ i.toInt ∧ i.toInt + 5 ≤ (L : Int) ∧ L ≤ 2560) (hH : Hp G da v x H) (hS : va_S (gA G) s.heap H locs) (hl : lv_has ls 8 [(0, .ref b), (1, .ref (ga G 448)), (2, .ref (ga G 461)), (3, .ref (ga G 468)), (4, .ref (ga G 469)), (5, .int i)]) {c0 c1 : Nat} (ho : olc_63 i xs v x c0 c1) (E : ∀ (da1 : Nat → Nat) (H1 : Heap) (locs1 : List Loc) (ls1 : Array Slot) (v2 : vSt) (x2 : gX), v2 = (flc_63 i xs v x).1 → x2 = (flc_63 i xs v x).2 → Hp G da1 v2 x2 H1 → va_S (gA G) s.heap H1 locs1 → lv_has ls1 8 [(0, .ref b), (1, .ref (ga G 448)), (2, .ref (ga G 461)), (3, .ref (ga G 468)), (4, .ref (ga G 469)), (5, .int i)] → W p l e room_1 s m args below meth c H1 locs1 c1 c1 Q (F0 m 4036 ls1 [])) : W p l e room_1 s m args below meth c H locs c0 c0 Q (F0 m 3585 ls []) := by
  have hx := X.1
  have hb := X.2.1
  have hown := X.2.2.2.1
  have hts := X.2.2.2.2.1
  unfold olc_63 at ho
  refine lv_aload_n hx hb dL_law_3585 rfl (lv_at hl 1 rfl) ?_
  have hq1 := ho.1
  have ho := ho.2
  have hq2 := ho.1
  have ho := ho.2
  refine k_X10_unseen X hS hH kd_448 hq1 t_ml_VernierDrawersLaw_414 hl.1 (Nat.le_of_ble_eq_true rfl) ⟨Nat.le_of_ble_eq_true rfl, Nat.le_of_ble_eq_true rfl⟩ ⟨hq2, (le_sl hq2)⟩ dL_law_3586 ?_
  refine lv_aload_n hx hb dL_law_3589 rfl (lv_at hl 2 rfl) ?_
  have hq3 := ho.1
  have ho := ho.2
  refine k_X11_unseen X hS hH kd_461 hq3 t_ml_VernierDrawersLaw_417 hl.1 (Nat.le_of_ble_eq_true rfl) ⟨Nat.le_of_ble_eq_true rfl, Nat.le_of_ble_eq_true rfl⟩ ⟨hq2, (le_sl hq2)⟩ dL_law_3590 (fun da H locs v4 ev4 hH hS => ?_)
  have ho := ho v4 ev4
  refine lv_icmp_eq (tgt := 4036) hx hb dL_law_3593 (by decide) (fun c5 => ?_) (fun c5 => ?_)
  · have ho := ho.1 c5
    have hq6 := ho
    refine W.widen (k := c1) (n := c1) hq6 hq6 ?_
    replace ev4 := Eq.symm ev4
    subst ev4
    exact E _ _ _ _ _ _ (pr1 ((flc_63.eq_1 _ _ _ _).trans ((if_pos c5).trans rfl))) (pr2 ((flc_63.eq_1 _ _ _ _).trans ((if_pos c5).trans rfl))) hH hS (lv_sub hl [0, 1, 2, 3, 4, 5] rfl)
  · have ho := ho.2 c5
    have hq7 := ho
    exact hq7.elim
