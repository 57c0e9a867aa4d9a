/-! the law's cases -/
theorem dL_law_1301 : decode cL_law 1301 = .ok (.aload_n 1, 1) := by decide +kernel
theorem dL_law_1302 : decode cL_law 1302 = .ok (.aload_n 0, 1) := by decide +kernel
theorem dL_law_1303 : decode cL_law 1303 = .ok (.iload 5, 2) := by decide +kernel
theorem dL_law_1305 : decode cL_law 1305 = .ok (.iconst 1, 1) := by decide +kernel
theorem dL_law_1306 : decode cL_law 1306 = .ok (.iadd, 1) := by decide +kernel
theorem dL_law_1307 : decode cL_law 1307 = .ok (.iaload, 1) := by decide +kernel
theorem dL_law_1308 : decode cL_law 1308 = .ok (.aload_n 3, 1) := by decide +kernel
theorem dL_law_1309 : decode cL_law 1309 = .ok (.invokestatic 260, 3) := by decide +kernel
theorem dL_law_1312 : decode cL_law 1312 = .ok (.istore 6, 2) := by decide +kernel
theorem dL_law_1314 : decode cL_law 1314 = .ok (.aload_n 2, 1) := by decide +kernel
theorem dL_law_1315 : decode cL_law 1315 = .ok (.aload_n 0, 1) := by decide +kernel
theorem dL_law_1316 : decode cL_law 1316 = .ok (.iload 5, 2) := by decide +kernel
theorem dL_law_1318 : decode cL_law 1318 = .ok (.iconst 1, 1) := by decide +kernel
theorem dL_law_1319 : decode cL_law 1319 = .ok (.iadd, 1) := by decide +kernel
theorem dL_law_1320 : decode cL_law 1320 = .ok (.iaload, 1) := by decide +kernel
theorem dL_law_1321 : decode cL_law 1321 = .ok (.invokevirtual 262, 3) := by decide +kernel
theorem dL_law_1324 : decode cL_law 1324 = .ok (.istore 7, 2) := by decide +kernel
theorem dL_law_1326 : decode cL_law 1326 = .ok (.aload_n 2, 1) := by decide +kernel
theorem dL_law_1327 : decode cL_law 1327 = .ok (.invokevirtual 207, 3) := by decide +kernel
theorem dL_law_1330 : decode cL_law 1330 = .ok (.iload 6, 2) := by decide +kernel
theorem dL_law_1332 : decode cL_law 1332 = .ok (.if_icmp .eq 5, 3) := by decide +kernel
theorem dL_law_1337 : decode cL_law 1337 = .ok (.iload 6, 2) := by decide +kernel
theorem dL_law_1339 : decode cL_law 1339 = .ok (.ifCond .ne 15, 3) := by decide +kernel
theorem dL_law_1342 : decode cL_law 1342 = .ok (.aload_n 3, 1) := by decide +kernel
theorem dL_law_1343 : decode cL_law 1343 = .ok (.iconst 0, 1) := by decide +kernel
theorem dL_law_1344 : decode cL_law 1344 = .ok (.laload, 1) := by decide +kernel
theorem dL_law_1345 : decode cL_law 1345 = .ok (.iload 7, 2) := by decide +kernel
theorem dL_law_1347 : decode cL_law 1347 = .ok (.i2l, 1) := by decide +kernel
theorem dL_law_1348 : decode cL_law 1348 = .ok (.lcmp, 1) := by decide +kernel
theorem dL_law_1349 : decode cL_law 1349 = .ok (.ifCond .eq 5, 3) := by decide +kernel
theorem dL_law_1354 : decode cL_law 1354 = .ok (.goto 2682, 3) := by decide +kernel
set_option maxHeartbeats 8000000 in
set_option maxRecDepth 100000 in
theorem lc_16 {p : Program} {l : Launch} {e : Env} {s : State} {m : MethodId} {args : Array Value} {below : List Frame} {meth : Method} {c : Code} {H : Heap} {locs : List Loc} {Q : State → Prop} {ls : Array Slot} {G : gG} {da : Nat → Nat} {v : vSt} {x : gX} (hst : l.stackTraces = false) (X : CX G p s m args c cL_law 8 RL) (hN : NC s) {b L : Nat} {xs : Nat → Int32} (hX : va_X b L xs s s.heap) (hbl : b < s.heap.size) (hbA : ¬ gA G b) {i : Int32} (hi : 0 ≤ i.toInt ∧ i.toInt + 5 ≤ (L : Int) ∧ L ≤ 2560) (hH : Hp G da v x H) (hS : va_S (gA G) s.heap H locs) (hl : lv_has ls 8 [(0, .ref b), (1, .ref (ga G 448)), (2, .ref (ga G 461)), (3, .ref (ga G 468)), (4, .ref (ga G 469)), (5, .int i)]) {c0 c1 : Nat} (ho : olc_16 i xs v x c0 c1) (E : ∀ (da1 : Nat → Nat) (H1 : Heap) (locs1 : List Loc) (ls1 : Array Slot) (v2 : vSt) (x2 : gX), v2 = (flc_16 i xs v x).1 → x2 = (flc_16 i xs v x).2 → Hp G da1 v2 x2 H1 → va_S (gA G) s.heap H1 locs1 → lv_has ls1 8 [(0, .ref b), (1, .ref (ga G 448)), (2, .ref (ga G 461)), (3, .ref (ga G 468)), (4, .ref (ga G 469)), (5, .int i)] → W p l e room_1 s m args below meth c H1 locs1 c1 c1 Q (F0 m 4036 ls1 [])) : W p l e room_1 s m args below meth c H locs c0 c0 Q (F0 m 1301 ls []) := by
  have hx := X.1
  have hb := X.2.1
  have hown := X.2.2.2.1
  have hts := X.2.2.2.2.1
  unfold olc_16 at ho
  refine lv_aload_n hx hb dL_law_1301 rfl (lv_at hl 1 rfl) ?_
  refine lv_aload_n hx hb dL_law_1302 rfl (lv_at hl 0 rfl) ?_
  refine lv_iload hx hb dL_law_1303 (lv_at hl 5 rfl) ?_
  refine lv_iconst (v := 1) hx hb dL_law_1305 (by decide) ?_
  refine lv_iadd hx hb dL_law_1306 ?_
  refine va_sld hx hb hX hbl hbA hS (sx hi 1 (by decide)) dL_law_1307 ?_
  refine lv_aload_n hx hb dL_law_1308 rfl (lv_at hl 3 rfl) ?_
  have hq1 := ho.1
  have ho := ho.2
  have hq2 := ho.1
  have ho := ho.2
  have hq3 := ho.1
  have ho := ho.2
  refine k_L_usesOf hst X hS hN hH kd_448 kd_468 hq1 t_ml_VernierDrawersLaw_260 hl.1 (Nat.le_of_ble_eq_true rfl) ⟨Nat.le_of_ble_eq_true rfl, Nat.le_of_ble_eq_true rfl⟩ ⟨hq3, (le_sl hq3)⟩ dL_law_1309 (fun da H locs v4 x5 ev4 ex5 hH hS => ?_)
  have ho := ho v4 ev4 x5 ex5
  refine lv_istore (lv' := [(6, .int ((fL_usesOf 448 (xs (i + 1 : Int32).toNatClampNeg) 468 v x).1)), (0, .ref b), (1, .ref (ga G 448)), (2, .ref (ga G 461)), (3, .ref (ga G 468)), (4, .ref (ga G 469)), (5, .int i)]) hx hb dL_law_1312 hl (by decide) rfl (fun ls hl => ?_)
  refine lv_aload_n hx hb dL_law_1314 rfl (lv_at hl 3 rfl) ?_
  refine lv_aload_n hx hb dL_law_1315 rfl (lv_at hl 1 rfl) ?_
  refine lv_iload hx hb dL_law_1316 (lv_at hl 6 rfl) ?_
  refine lv_iconst (v := 1) hx hb dL_law_1318 (by decide) ?_
  refine lv_iadd hx hb dL_law_1319 ?_
  refine va_sld hx hb hX hbl hbA hS (sx hi 1 (by decide)) dL_law_1320 ?_
  have hq6 := ho.1
  have ho := ho.2
  refine k_X11_usesOf X hS hH kd_461 hq6 t_ml_VernierDrawersLaw_262 hl.1 (Nat.le_of_ble_eq_true rfl) ⟨Nat.le_of_ble_eq_true rfl, Nat.le_of_ble_eq_true rfl⟩ ⟨hq3, (le_sl hq3)⟩ dL_law_1321 (fun da H locs v7 ev7 hH hS => ?_)
  have ho := ho v7 ev7
  refine lv_istore (lv' := [(7, .int ((fX11_usesOf 461 (xs (i + 1 : Int32).toNatClampNeg) v4).1)), (6, .int ((fL_usesOf 448 (xs (i + 1 : Int32).toNatClampNeg) 468 v x).1)), (0, .ref b), (1, .ref (ga G 448)), (2, .ref (ga G 461)), (3, .ref (ga G 468)), (4, .ref (ga G 469)), (5, .int i)]) hx hb dL_law_1324 hl (by decide) rfl (fun ls hl => ?_)
  refine lv_aload_n hx hb dL_law_1326 rfl (lv_at hl 4 rfl) ?_
  refine k_X11_thrown X hS hH kd_461 t_ml_VernierDrawersLaw_207 hl.1 (Nat.le_of_ble_eq_true rfl) ⟨Nat.le_of_ble_eq_true rfl, Nat.le_of_ble_eq_true rfl⟩ ⟨hq3, (le_sl hq3)⟩ dL_law_1327 ?_
  refine lv_iload hx hb dL_law_1330 (lv_at hl 1 rfl) ?_
  refine lv_icmp_eq (tgt := 1337) hx hb dL_law_1332 (by decide) (fun c8 => ?_) (fun c8 => ?_)
  · have ho := ho.1 c8
    refine lv_iload hx hb dL_law_1337 (lv_at hl 1 rfl) ?_
    refine lv_if_ne (tgt := 1354) hx hb dL_law_1339 (by decide) (fun c9 => ?_) (fun c9 => ?_)
    · have ho := ho.2 c9
      refine lv_goto (tgt := 4036) hx hb dL_law_1354 (by decide) ?_
      have hq10 := ho
      refine W.widen (k := c1) (n := c1) hq10 hq10 ?_
      replace ev4 := Eq.symm ev4
      replace ex5 := Eq.symm ex5
      replace ev7 := Eq.symm ev7
      subst ev4 ex5 ev7
      exact E _ _ _ _ _ _ (pr1 ((flc_16.eq_1 _ _ _ _).trans ((if_pos c8).trans ((if_neg c9).trans rfl)))) (pr2 ((flc_16.eq_1 _ _ _ _).trans ((if_pos c8).trans ((if_neg c9).trans rfl)))) hH hS (lv_sub hl [2, 3, 4, 5, 6, 7] rfl)
    · have ho := ho.1 c9
      refine lv_aload_n hx hb dL_law_1342 rfl (lv_at hl 5 rfl) ?_
      refine lv_iconst (v := 0) hx hb dL_law_1343 (by decide) ?_
      refine lald_34 X hH kd_468 (i_in (by decide) (by decide)) dL_law_1344 ?_
      refine lv_iload hx hb dL_law_1345 (lv_at hl 0 rfl) ?_
      refine lv_i2l (v := ((fX11_usesOf 461 (xs (i + 1 : Int32).toNatClampNeg) v4).1 : Int32).toInt64) hx hb dL_law_1347 rfl ?_
      refine W.lcmp hx hb dL_law_1348 ?_
      refine lv_if_eq (tgt := 1354) hx hb dL_law_1349 (by decide) (fun c11 => ?_) (fun c11 => ?_)
      · have ho := ho.1 c11
        refine lv_goto (tgt := 4036) hx hb dL_law_1354 (by decide) ?_
        have hq12 := ho
        refine W.widen (k := c1) (n := c1) hq12 hq12 ?_
        replace ev4 := Eq.symm ev4
        replace ex5 := Eq.symm ex5
        replace ev7 := Eq.symm ev7
        subst ev4 ex5 ev7
        exact E _ _ _ _ _ _ (pr1 ((flc_16.eq_1 _ _ _ _).trans ((if_pos c8).trans ((if_pos c9).trans ((if_pos c11).trans rfl))))) (pr2 ((flc_16.eq_1 _ _ _ _).trans ((if_pos c8).trans ((if_pos c9).trans ((if_pos c11).trans rfl))))) hH hS (lv_sub hl [2, 3, 4, 5, 6, 7] rfl)
      · have ho := ho.2 c11
        have hq13 := ho
        exact hq13.elim
  · have ho := ho.2 c8
    have hq14 := ho
    exact hq14.elim
theorem dL_law_1357 : decode cL_law 1357 = .ok (.aload_n 1, 1) := by decide +kernel
theorem dL_law_1358 : decode cL_law 1358 = .ok (.aload_n 0, 1) := by decide +kernel
theorem dL_law_1359 : decode cL_law 1359 = .ok (.iload 5, 2) := by decide +kernel
theorem dL_law_1361 : decode cL_law 1361 = .ok (.iconst 1, 1) := by decide +kernel
theorem dL_law_1362 : decode cL_law 1362 = .ok (.iadd, 1) := by decide +kernel
theorem dL_law_1363 : decode cL_law 1363 = .ok (.iaload, 1) := by decide +kernel
theorem dL_law_1364 : decode cL_law 1364 = .ok (.aload_n 3, 1) := by decide +kernel
theorem dL_law_1365 : decode cL_law 1365 = .ok (.invokestatic 263, 3) := by decide +kernel
theorem dL_law_1368 : decode cL_law 1368 = .ok (.istore 6, 2) := by decide +kernel
theorem dL_law_1370 : decode cL_law 1370 = .ok (.aload_n 2, 1) := by decide +kernel
theorem dL_law_1371 : decode cL_law 1371 = .ok (.aload_n 0, 1) := by decide +kernel
theorem dL_law_1372 : decode cL_law 1372 = .ok (.iload 5, 2) := by decide +kernel
theorem dL_law_1374 : decode cL_law 1374 = .ok (.iconst 1, 1) := by decide +kernel
theorem dL_law_1375 : decode cL_law 1375 = .ok (.iadd, 1) := by decide +kernel
theorem dL_law_1376 : decode cL_law 1376 = .ok (.iaload, 1) := by decide +kernel
theorem dL_law_1377 : decode cL_law 1377 = .ok (.invokevirtual 265, 3) := by decide +kernel
theorem dL_law_1380 : decode cL_law 1380 = .ok (.istore 7, 2) := by decide +kernel
theorem dL_law_1382 : decode cL_law 1382 = .ok (.aload_n 2, 1) := by decide +kernel
theorem dL_law_1383 : decode cL_law 1383 = .ok (.invokevirtual 207, 3) := by decide +kernel
theorem dL_law_1386 : decode cL_law 1386 = .ok (.iload 6, 2) := by decide +kernel
theorem dL_law_1388 : decode cL_law 1388 = .ok (.if_icmp .eq 5, 3) := by decide +kernel
theorem dL_law_1393 : decode cL_law 1393 = .ok (.iload 6, 2) := by decide +kernel
theorem dL_law_1395 : decode cL_law 1395 = .ok (.ifCond .ne 15, 3) := by decide +kernel
theorem dL_law_1398 : decode cL_law 1398 = .ok (.aload_n 3, 1) := by decide +kernel
theorem dL_law_1399 : decode cL_law 1399 = .ok (.iconst 0, 1) := by decide +kernel
theorem dL_law_1400 : decode cL_law 1400 = .ok (.laload, 1) := by decide +kernel
theorem dL_law_1401 : decode cL_law 1401 = .ok (.iload 7, 2) := by decide +kernel
theorem dL_law_1403 : decode cL_law 1403 = .ok (.i2l, 1) := by decide +kernel
theorem dL_law_1404 : decode cL_law 1404 = .ok (.lcmp, 1) := by decide +kernel
theorem dL_law_1405 : decode cL_law 1405 = .ok (.ifCond .eq 5, 3) := by decide +kernel
theorem dL_law_1410 : decode cL_law 1410 = .ok (.goto 2626, 3) := by decide +kernel
set_option maxHeartbeats 8000000 in
set_option maxRecDepth 100000 in
theorem lc_17 {p : Program} {l : Launch} {e : Env} {s : State} {m : MethodId} {args : Array Value} {below : List Frame} {meth : Method} {c : Code} {H : Heap} {locs : List Loc} {Q : State → Prop} {ls : Array Slot} {G : gG} {da : Nat → Nat} {v : vSt} {x : gX} (hst : l.stackTraces = false) (X : CX G p s m args c cL_law 8 RL) (hN : NC s) {b L : Nat} {xs : Nat → Int32} (hX : va_X b L xs s s.heap) (hbl : b < s.heap.size) (hbA : ¬ gA G b) {i : Int32} (hi : 0 ≤ i.toInt ∧ i.toInt + 5 ≤ (L : Int) ∧ L ≤ 2560) (hH : Hp G da v x H) (hS : va_S (gA G) s.heap H locs) (hl : lv_has ls 8 [(0, .ref b), (1, .ref (ga G 448)), (2, .ref (ga G 461)), (3, .ref (ga G 468)), (4, .ref (ga G 469)), (5, .int i)]) {c0 c1 : Nat} (ho : olc_17 i xs v x c0 c1) (E : ∀ (da1 : Nat → Nat) (H1 : Heap) (locs1 : List Loc) (ls1 : Array Slot) (v2 : vSt) (x2 : gX), v2 = (flc_17 i xs v x).1 → x2 = (flc_17 i xs v x).2 → Hp G da1 v2 x2 H1 → va_S (gA G) s.heap H1 locs1 → lv_has ls1 8 [(0, .ref b), (1, .ref (ga G 448)), (2, .ref (ga G 461)), (3, .ref (ga G 468)), (4, .ref (ga G 469)), (5, .int i)] → W p l e room_1 s m args below meth c H1 locs1 c1 c1 Q (F0 m 4036 ls1 [])) : W p l e room_1 s m args below meth c H locs c0 c0 Q (F0 m 1357 ls []) := by
  have hx := X.1
  have hb := X.2.1
  have hown := X.2.2.2.1
  have hts := X.2.2.2.2.1
  unfold olc_17 at ho
  refine lv_aload_n hx hb dL_law_1357 rfl (lv_at hl 1 rfl) ?_
  refine lv_aload_n hx hb dL_law_1358 rfl (lv_at hl 0 rfl) ?_
  refine lv_iload hx hb dL_law_1359 (lv_at hl 5 rfl) ?_
  refine lv_iconst (v := 1) hx hb dL_law_1361 (by decide) ?_
  refine lv_iadd hx hb dL_law_1362 ?_
  refine va_sld hx hb hX hbl hbA hS (sx hi 1 (by decide)) dL_law_1363 ?_
  refine lv_aload_n hx hb dL_law_1364 rfl (lv_at hl 3 rfl) ?_
  have hq1 := ho.1
  have ho := ho.2
  have hq2 := ho.1
  have ho := ho.2
  have hq3 := ho.1
  have ho := ho.2
  refine k_L_wearOf hst X hS hN hH kd_448 kd_468 hq1 t_ml_VernierDrawersLaw_263 hl.1 (Nat.le_of_ble_eq_true rfl) ⟨Nat.le_of_ble_eq_true rfl, Nat.le_of_ble_eq_true rfl⟩ ⟨hq3, (le_sl hq3)⟩ dL_law_1365 (fun da H locs v4 x5 ev4 ex5 hH hS => ?_)
  have ho := ho v4 ev4 x5 ex5
  refine lv_istore (lv' := [(6, .int ((fL_wearOf 448 (xs (i + 1 : Int32).toNatClampNeg) 468 v x).1)), (0, .ref b), (1, .ref (ga G 448)), (2, .ref (ga G 461)), (3, .ref (ga G 468)), (4, .ref (ga G 469)), (5, .int i)]) hx hb dL_law_1368 hl (by decide) rfl (fun ls hl => ?_)
  refine lv_aload_n hx hb dL_law_1370 rfl (lv_at hl 3 rfl) ?_
  refine lv_aload_n hx hb dL_law_1371 rfl (lv_at hl 1 rfl) ?_
  refine lv_iload hx hb dL_law_1372 (lv_at hl 6 rfl) ?_
  refine lv_iconst (v := 1) hx hb dL_law_1374 (by decide) ?_
  refine lv_iadd hx hb dL_law_1375 ?_
  refine va_sld hx hb hX hbl hbA hS (sx hi 1 (by decide)) dL_law_1376 ?_
  have hq6 := ho.1
  have ho := ho.2
  refine k_X11_wearOf X hS hH kd_461 hq6 t_ml_VernierDrawersLaw_265 hl.1 (Nat.le_of_ble_eq_true rfl) ⟨Nat.le_of_ble_eq_true rfl, Nat.le_of_ble_eq_true rfl⟩ ⟨hq3, (le_sl hq3)⟩ dL_law_1377 (fun da H locs v7 ev7 hH hS => ?_)
  have ho := ho v7 ev7
  refine lv_istore (lv' := [(7, .int ((fX11_wearOf 461 (xs (i + 1 : Int32).toNatClampNeg) v4).1)), (6, .int ((fL_wearOf 448 (xs (i + 1 : Int32).toNatClampNeg) 468 v x).1)), (0, .ref b), (1, .ref (ga G 448)), (2, .ref (ga G 461)), (3, .ref (ga G 468)), (4, .ref (ga G 469)), (5, .int i)]) hx hb dL_law_1380 hl (by decide) rfl (fun ls hl => ?_)
  refine lv_aload_n hx hb dL_law_1382 rfl (lv_at hl 4 rfl) ?_
  refine k_X11_thrown X hS hH kd_461 t_ml_VernierDrawersLaw_207 hl.1 (Nat.le_of_ble_eq_true rfl) ⟨Nat.le_of_ble_eq_true rfl, Nat.le_of_ble_eq_true rfl⟩ ⟨hq3, (le_sl hq3)⟩ dL_law_1383 ?_
  refine lv_iload hx hb dL_law_1386 (lv_at hl 1 rfl) ?_
  refine lv_icmp_eq (tgt := 1393) hx hb dL_law_1388 (by decide) (fun c8 => ?_) (fun c8 => ?_)
  · have ho := ho.1 c8
    refine lv_iload hx hb dL_law_1393 (lv_at hl 1 rfl) ?_
    refine lv_if_ne (tgt := 1410) hx hb dL_law_1395 (by decide) (fun c9 => ?_) (fun c9 => ?_)
    · have ho := ho.2 c9
      refine lv_goto (tgt := 4036) hx hb dL_law_1410 (by decide) ?_
      have hq10 := ho
      refine W.widen (k := c1) (n := c1) hq10 hq10 ?_
      replace ev4 := Eq.symm ev4
      replace ex5 := Eq.symm ex5
      replace ev7 := Eq.symm ev7
      subst ev4 ex5 ev7
      exact E _ _ _ _ _ _ (pr1 ((flc_17.eq_1 _ _ _ _).trans ((if_pos c8).trans ((if_neg c9).trans rfl)))) (pr2 ((flc_17.eq_1 _ _ _ _).trans ((if_pos c8).trans ((if_neg c9).trans rfl)))) hH hS (lv_sub hl [2, 3, 4, 5, 6, 7] rfl)
    · have ho := ho.1 c9
      refine lv_aload_n hx hb dL_law_1398 rfl (lv_at hl 5 rfl) ?_
      refine lv_iconst (v := 0) hx hb dL_law_1399 (by decide) ?_
      refine lald_34 X hH kd_468 (i_in (by decide) (by decide)) dL_law_1400 ?_
      refine lv_iload hx hb dL_law_1401 (lv_at hl 0 rfl) ?_
      refine lv_i2l (v := ((fX11_wearOf 461 (xs (i + 1 : Int32).toNatClampNeg) v4).1 : Int32).toInt64) hx hb dL_law_1403 rfl ?_
      refine W.lcmp hx hb dL_law_1404 ?_
      refine lv_if_eq (tgt := 1410) hx hb dL_law_1405 (by decide) (fun c11 => ?_) (fun c11 => ?_)
      · have ho := ho.1 c11
        refine lv_goto (tgt := 4036) hx hb dL_law_1410 (by decide) ?_
        have hq12 := ho
        refine W.widen (k := c1) (n := c1) hq12 hq12 ?_
        replace ev4 := Eq.symm ev4
        replace ex5 := Eq.symm ex5
        replace ev7 := Eq.symm ev7
        subst ev4 ex5 ev7
        exact E _ _ _ _ _ _ (pr1 ((flc_17.eq_1 _ _ _ _).trans ((if_pos c8).trans ((if_pos c9).trans ((if_pos c11).trans rfl))))) (pr2 ((flc_17.eq_1 _ _ _ _).trans ((if_pos c8).trans ((if_pos c9).trans ((if_pos c11).trans rfl))))) hH hS (lv_sub hl [2, 3, 4, 5, 6, 7] rfl)
      · have ho := ho.2 c11
        have hq13 := ho
        exact hq13.elim
  · have ho := ho.2 c8
    have hq14 := ho
    exact hq14.elim
theorem dL_law_1413 : decode cL_law 1413 = .ok (.aload_n 1, 1) := by decide +kernel
theorem dL_law_1414 : decode cL_law 1414 = .ok (.aload_n 0, 1) := by decide +kernel
theorem dL_law_1415 : decode cL_law 1415 = .ok (.iload 5, 2) := by decide +kernel
theorem dL_law_1417 : decode cL_law 1417 = .ok (.iconst 1, 1) := by decide +kernel
theorem dL_law_1418 : decode cL_law 1418 = .ok (.iadd, 1) := by decide +kernel
theorem dL_law_1419 : decode cL_law 1419 = .ok (.iaload, 1) := by decide +kernel
theorem dL_law_1420 : decode cL_law 1420 = .ok (.aload_n 3, 1) := by decide +kernel
theorem dL_law_1421 : decode cL_law 1421 = .ok (.invokestatic 266, 3) := by decide +kernel
theorem dL_law_1424 : decode cL_law 1424 = .ok (.istore 6, 2) := by decide +kernel
theorem dL_law_1426 : decode cL_law 1426 = .ok (.aload_n 2, 1) := by decide +kernel
theorem dL_law_1427 : decode cL_law 1427 = .ok (.aload_n 0, 1) := by decide +kernel
theorem dL_law_1428 : decode cL_law 1428 = .ok (.iload 5, 2) := by decide +kernel
theorem dL_law_1430 : decode cL_law 1430 = .ok (.iconst 1, 1) := by decide +kernel
theorem dL_law_1431 : decode cL_law 1431 = .ok (.iadd, 1) := by decide +kernel
theorem dL_law_1432 : decode cL_law 1432 = .ok (.iaload, 1) := by decide +kernel
theorem dL_law_1433 : decode cL_law 1433 = .ok (.invokevirtual 268, 3) := by decide +kernel
theorem dL_law_1436 : decode cL_law 1436 = .ok (.istore 7, 2) := by decide +kernel
theorem dL_law_1438 : decode cL_law 1438 = .ok (.aload_n 2, 1) := by decide +kernel
theorem dL_law_1439 : decode cL_law 1439 = .ok (.invokevirtual 207, 3) := by decide +kernel
theorem dL_law_1442 : decode cL_law 1442 = .ok (.iload 6, 2) := by decide +kernel
theorem dL_law_1444 : decode cL_law 1444 = .ok (.if_icmp .eq 5, 3) := by decide +kernel
theorem dL_law_1449 : decode cL_law 1449 = .ok (.iload 6, 2) := by decide +kernel
theorem dL_law_1451 : decode cL_law 1451 = .ok (.ifCond .ne 15, 3) := by decide +kernel
theorem dL_law_1454 : decode cL_law 1454 = .ok (.aload_n 3, 1) := by decide +kernel
theorem dL_law_1455 : decode cL_law 1455 = .ok (.iconst 0, 1) := by decide +kernel
theorem dL_law_1456 : decode cL_law 1456 = .ok (.laload, 1) := by decide +kernel
theorem dL_law_1457 : decode cL_law 1457 = .ok (.iload 7, 2) := by decide +kernel
theorem dL_law_1459 : decode cL_law 1459 = .ok (.i2l, 1) := by decide +kernel
theorem dL_law_1460 : decode cL_law 1460 = .ok (.lcmp, 1) := by decide +kernel
theorem dL_law_1461 : decode cL_law 1461 = .ok (.ifCond .eq 5, 3) := by decide +kernel
theorem dL_law_1466 : decode cL_law 1466 = .ok (.goto 2570, 3) := by decide +kernel
set_option maxHeartbeats 8000000 in
set_option maxRecDepth 100000 in
theorem lc_18 {p : Program} {l : Launch} {e : Env} {s : State} {m : MethodId} {args : Array Value} {below : List Frame} {meth : Method} {c : Code} {H : Heap} {locs : List Loc} {Q : State → Prop} {ls : Array Slot} {G : gG} {da : Nat → Nat} {v : vSt} {x : gX} (hst : l.stackTraces = false) (X : CX G p s m args c cL_law 8 RL) (hN : NC s) {b L : Nat} {xs : Nat → Int32} (hX : va_X b L xs s s.heap) (hbl : b < s.heap.size) (hbA : ¬ gA G b) {i : Int32} (hi : 0 ≤ i.toInt ∧ i.toInt + 5 ≤ (L : Int) ∧ L ≤ 2560) (hH : Hp G da v x H) (hS : va_S (gA G) s.heap H locs) (hl : lv_has ls 8 [(0, .ref b), (1, .ref (ga G 448)), (2, .ref (ga G 461)), (3, .ref (ga G 468)), (4, .ref (ga G 469)), (5, .int i)]) {c0 c1 : Nat} (ho : olc_18 i xs v x c0 c1) (E : ∀ (da1 : Nat → Nat) (H1 : Heap) (locs1 : List Loc) (ls1 : Array Slot) (v2 : vSt) (x2 : gX), v2 = (flc_18 i xs v x).1 → x2 = (flc_18 i xs v x).2 → Hp G da1 v2 x2 H1 → va_S (gA G) s.heap H1 locs1 → lv_has ls1 8 [(0, .ref b), (1, .ref (ga G 448)), (2, .ref (ga G 461)), (3, .ref (ga G 468)), (4, .ref (ga G 469)), (5, .int i)] → W p l e room_1 s m args below meth c H1 locs1 c1 c1 Q (F0 m 4036 ls1 [])) : W p l e room_1 s m args below meth c H locs c0 c0 Q (F0 m 1413 ls []) := by
  have hx := X.1
  have hb := X.2.1
  have hown := X.2.2.2.1
  have hts := X.2.2.2.2.1
  unfold olc_18 at ho
  refine lv_aload_n hx hb dL_law_1413 rfl (lv_at hl 1 rfl) ?_
  refine lv_aload_n hx hb dL_law_1414 rfl (lv_at hl 0 rfl) ?_
  refine lv_iload hx hb dL_law_1415 (lv_at hl 5 rfl) ?_
  refine lv_iconst (v := 1) hx hb dL_law_1417 (by decide) ?_
  refine lv_iadd hx hb dL_law_1418 ?_
  refine va_sld hx hb hX hbl hbA hS (sx hi 1 (by decide)) dL_law_1419 ?_
  refine lv_aload_n hx hb dL_law_1420 rfl (lv_at hl 3 rfl) ?_
  have hq1 := ho.1
  have ho := ho.2
  have hq2 := ho.1
  have ho := ho.2
  have hq3 := ho.1
  have ho := ho.2
  refine k_L_knownError hst X hS hN hH kd_448 kd_468 hq1 t_ml_VernierDrawersLaw_266 hl.1 (Nat.le_of_ble_eq_true rfl) ⟨Nat.le_of_ble_eq_true rfl, Nat.le_of_ble_eq_true rfl⟩ ⟨hq3, (le_sl hq3)⟩ dL_law_1421 (fun da H locs v4 x5 ev4 ex5 hH hS => ?_)
  have ho := ho v4 ev4 x5 ex5
  refine lv_istore (lv' := [(6, .int ((fL_knownError 448 (xs (i + 1 : Int32).toNatClampNeg) 468 v x).1)), (0, .ref b), (1, .ref (ga G 448)), (2, .ref (ga G 461)), (3, .ref (ga G 468)), (4, .ref (ga G 469)), (5, .int i)]) hx hb dL_law_1424 hl (by decide) rfl (fun ls hl => ?_)
  refine lv_aload_n hx hb dL_law_1426 rfl (lv_at hl 3 rfl) ?_
  refine lv_aload_n hx hb dL_law_1427 rfl (lv_at hl 1 rfl) ?_
  refine lv_iload hx hb dL_law_1428 (lv_at hl 6 rfl) ?_
  refine lv_iconst (v := 1) hx hb dL_law_1430 (by decide) ?_
  refine lv_iadd hx hb dL_law_1431 ?_
  refine va_sld hx hb hX hbl hbA hS (sx hi 1 (by decide)) dL_law_1432 ?_
  have hq6 := ho.1
  have ho := ho.2
  refine k_X11_knownError X hS hH kd_461 hq6 t_ml_VernierDrawersLaw_268 hl.1 (Nat.le_of_ble_eq_true rfl) ⟨Nat.le_of_ble_eq_true rfl, Nat.le_of_ble_eq_true rfl⟩ ⟨hq3, (le_sl hq3)⟩ dL_law_1433 (fun da H locs v7 ev7 hH hS => ?_)
  have ho := ho v7 ev7
  refine lv_istore (lv' := [(7, .int ((fX11_knownError 461 (xs (i + 1 : Int32).toNatClampNeg) v4).1)), (6, .int ((fL_knownError 448 (xs (i + 1 : Int32).toNatClampNeg) 468 v x).1)), (0, .ref b), (1, .ref (ga G 448)), (2, .ref (ga G 461)), (3, .ref (ga G 468)), (4, .ref (ga G 469)), (5, .int i)]) hx hb dL_law_1436 hl (by decide) rfl (fun ls hl => ?_)
  refine lv_aload_n hx hb dL_law_1438 rfl (lv_at hl 4 rfl) ?_
  refine k_X11_thrown X hS hH kd_461 t_ml_VernierDrawersLaw_207 hl.1 (Nat.le_of_ble_eq_true rfl) ⟨Nat.le_of_ble_eq_true rfl, Nat.le_of_ble_eq_true rfl⟩ ⟨hq3, (le_sl hq3)⟩ dL_law_1439 ?_
  refine lv_iload hx hb dL_law_1442 (lv_at hl 1 rfl) ?_
  refine lv_icmp_eq (tgt := 1449) hx hb dL_law_1444 (by decide) (fun c8 => ?_) (fun c8 => ?_)
  · have ho := ho.1 c8
    refine lv_iload hx hb dL_law_1449 (lv_at hl 1 rfl) ?_
    refine lv_if_ne (tgt := 1466) hx hb dL_law_1451 (by decide) (fun c9 => ?_) (fun c9 => ?_)
    · have ho := ho.2 c9
      refine lv_goto (tgt := 4036) hx hb dL_law_1466 (by decide) ?_
      have hq10 := ho
      refine W.widen (k := c1) (n := c1) hq10 hq10 ?_
      replace ev4 := Eq.symm ev4
      replace ex5 := Eq.symm ex5
      replace ev7 := Eq.symm ev7
      subst ev4 ex5 ev7
      exact E _ _ _ _ _ _ (pr1 ((flc_18.eq_1 _ _ _ _).trans ((if_pos c8).trans ((if_neg c9).trans rfl)))) (pr2 ((flc_18.eq_1 _ _ _ _).trans ((if_pos c8).trans ((if_neg c9).trans rfl)))) hH hS (lv_sub hl [2, 3, 4, 5, 6, 7] rfl)
    · have ho := ho.1 c9
      refine lv_aload_n hx hb dL_law_1454 rfl (lv_at hl 5 rfl) ?_
      refine lv_iconst (v := 0) hx hb dL_law_1455 (by decide) ?_
      refine lald_34 X hH kd_468 (i_in (by decide) (by decide)) dL_law_1456 ?_
      refine lv_iload hx hb dL_law_1457 (lv_at hl 0 rfl) ?_
      refine lv_i2l (v := ((fX11_knownError 461 (xs (i + 1 : Int32).toNatClampNeg) v4).1 : Int32).toInt64) hx hb dL_law_1459 rfl ?_
      refine W.lcmp hx hb dL_law_1460 ?_
      refine lv_if_eq (tgt := 1466) hx hb dL_law_1461 (by decide) (fun c11 => ?_) (fun c11 => ?_)
      · have ho := ho.1 c11
        refine lv_goto (tgt := 4036) hx hb dL_law_1466 (by decide) ?_
        have hq12 := ho
        refine W.widen (k := c1) (n := c1) hq12 hq12 ?_
        replace ev4 := Eq.symm ev4
        replace ex5 := Eq.symm ex5
        replace ev7 := Eq.symm ev7
        subst ev4 ex5 ev7
        exact E _ _ _ _ _ _ (pr1 ((flc_18.eq_1 _ _ _ _).trans ((if_pos c8).trans ((if_pos c9).trans ((if_pos c11).trans rfl))))) (pr2 ((flc_18.eq_1 _ _ _ _).trans ((if_pos c8).trans ((if_pos c9).trans ((if_pos c11).trans rfl))))) hH hS (lv_sub hl [2, 3, 4, 5, 6, 7] rfl)
      · have ho := ho.2 c11
        have hq13 := ho
        exact hq13.elim
  · have ho := ho.2 c8
    have hq14 := ho
    exact hq14.elim
theorem dL_law_1469 : decode cL_law 1469 = .ok (.aload_n 1, 1) := by decide +kernel
theorem dL_law_1470 : decode cL_law 1470 = .ok (.aload_n 0, 1) := by decide +kernel
theorem dL_law_1471 : decode cL_law 1471 = .ok (.iload 5, 2) := by decide +kernel
theorem dL_law_1473 : decode cL_law 1473 = .ok (.iconst 1, 1) := by decide +kernel
theorem dL_law_1474 : decode cL_law 1474 = .ok (.iadd, 1) := by decide +kernel
theorem dL_law_1475 : decode cL_law 1475 = .ok (.iaload, 1) := by decide +kernel
theorem dL_law_1476 : decode cL_law 1476 = .ok (.aload_n 3, 1) := by decide +kernel
theorem dL_law_1477 : decode cL_law 1477 = .ok (.invokestatic 269, 3) := by decide +kernel
theorem dL_law_1480 : decode cL_law 1480 = .ok (.istore 6, 2) := by decide +kernel
theorem dL_law_1482 : decode cL_law 1482 = .ok (.aload_n 2, 1) := by decide +kernel
theorem dL_law_1483 : decode cL_law 1483 = .ok (.aload_n 0, 1) := by decide +kernel
theorem dL_law_1484 : decode cL_law 1484 = .ok (.iload 5, 2) := by decide +kernel
theorem dL_law_1486 : decode cL_law 1486 = .ok (.iconst 1, 1) := by decide +kernel
theorem dL_law_1487 : decode cL_law 1487 = .ok (.iadd, 1) := by decide +kernel
theorem dL_law_1488 : decode cL_law 1488 = .ok (.iaload, 1) := by decide +kernel
theorem dL_law_1489 : decode cL_law 1489 = .ok (.invokevirtual 271, 3) := by decide +kernel
theorem dL_law_1492 : decode cL_law 1492 = .ok (.istore 7, 2) := by decide +kernel
theorem dL_law_1494 : decode cL_law 1494 = .ok (.aload_n 2, 1) := by decide +kernel
theorem dL_law_1495 : decode cL_law 1495 = .ok (.invokevirtual 207, 3) := by decide +kernel
theorem dL_law_1498 : decode cL_law 1498 = .ok (.iload 6, 2) := by decide +kernel
theorem dL_law_1500 : decode cL_law 1500 = .ok (.if_icmp .eq 5, 3) := by decide +kernel
theorem dL_law_1505 : decode cL_law 1505 = .ok (.iload 6, 2) := by decide +kernel
theorem dL_law_1507 : decode cL_law 1507 = .ok (.ifCond .ne 22, 3) := by decide +kernel
theorem dL_law_1510 : decode cL_law 1510 = .ok (.aload_n 3, 1) := by decide +kernel
theorem dL_law_1511 : decode cL_law 1511 = .ok (.iconst 0, 1) := by decide +kernel
theorem dL_law_1512 : decode cL_law 1512 = .ok (.laload, 1) := by decide +kernel
theorem dL_law_1513 : decode cL_law 1513 = .ok (.iload 7, 2) := by decide +kernel
theorem dL_law_1515 : decode cL_law 1515 = .ok (.ifCond .eq 7, 3) := by decide +kernel
theorem dL_law_1518 : decode cL_law 1518 = .ok (.lconst 1, 1) := by decide +kernel
theorem dL_law_1519 : decode cL_law 1519 = .ok (.goto 4, 3) := by decide +kernel
theorem dL_law_1522 : decode cL_law 1522 = .ok (.lconst 0, 1) := by decide +kernel
theorem dL_law_1523 : decode cL_law 1523 = .ok (.lcmp, 1) := by decide +kernel
theorem dL_law_1524 : decode cL_law 1524 = .ok (.ifCond .eq 5, 3) := by decide +kernel
theorem dL_law_1529 : decode cL_law 1529 = .ok (.goto 2507, 3) := by decide +kernel
set_option maxHeartbeats 8000000 in
set_option maxRecDepth 100000 in
theorem lc_19 {p : Program} {l : Launch} {e : Env} {s : State} {m : MethodId} {args : Array Value} {below : List Frame} {meth : Method} {c : Code} {H : Heap} {locs : List Loc} {Q : State → Prop} {ls : Array Slot} {G : gG} {da : Nat → Nat} {v : vSt} {x : gX} (hst : l.stackTraces = false) (X : CX G p s m args c cL_law 8 RL) (hN : NC s) {b L : Nat} {xs : Nat → Int32} (hX : va_X b L xs s s.heap) (hbl : b < s.heap.size) (hbA : ¬ gA G b) {i : Int32} (hi : 0 ≤ i.toInt ∧ i.toInt + 5 ≤ (L : Int) ∧ L ≤ 2560) (hH : Hp G da v x H) (hS : va_S (gA G) s.heap H locs) (hl : lv_has ls 8 [(0, .ref b), (1, .ref (ga G 448)), (2, .ref (ga G 461)), (3, .ref (ga G 468)), (4, .ref (ga G 469)), (5, .int i)]) {c0 c1 : Nat} (ho : olc_19 i xs v x c0 c1) (E : ∀ (da1 : Nat → Nat) (H1 : Heap) (locs1 : List Loc) (ls1 : Array Slot) (v2 : vSt) (x2 : gX), v2 = (flc_19 i xs v x).1 → x2 = (flc_19 i xs v x).2 → Hp G da1 v2 x2 H1 → va_S (gA G) s.heap H1 locs1 → lv_has ls1 8 [(0, .ref b), (1, .ref (ga G 448)), (2, .ref (ga G 461)), (3, .ref (ga G 468)), (4, .ref (ga G 469)), (5, .int i)] → W p l e room_1 s m args below meth c H1 locs1 c1 c1 Q (F0 m 4036 ls1 [])) : W p l e room_1 s m args below meth c H locs c0 c0 Q (F0 m 1469 ls []) := by
  have hx := X.1
  have hb := X.2.1
  have hown := X.2.2.2.1
  have hts := X.2.2.2.2.1
  unfold olc_19 at ho
  refine lv_aload_n hx hb dL_law_1469 rfl (lv_at hl 1 rfl) ?_
  refine lv_aload_n hx hb dL_law_1470 rfl (lv_at hl 0 rfl) ?_
  refine lv_iload hx hb dL_law_1471 (lv_at hl 5 rfl) ?_
  refine lv_iconst (v := 1) hx hb dL_law_1473 (by decide) ?_
  refine lv_iadd hx hb dL_law_1474 ?_
  refine va_sld hx hb hX hbl hbA hS (sx hi 1 (by decide)) dL_law_1475 ?_
  refine lv_aload_n hx hb dL_law_1476 rfl (lv_at hl 3 rfl) ?_
  have hq1 := ho.1
  have ho := ho.2
  have hq2 := ho.1
  have ho := ho.2
  have hq3 := ho.1
  have ho := ho.2
  refine k_L_isDue hst X hS hN hH kd_448 kd_468 hq1 t_ml_VernierDrawersLaw_269 hl.1 (Nat.le_of_ble_eq_true rfl) ⟨Nat.le_of_ble_eq_true rfl, Nat.le_of_ble_eq_true rfl⟩ ⟨hq3, (le_sl hq3)⟩ dL_law_1477 (fun da H locs v4 x5 ev4 ex5 hH hS => ?_)
  have ho := ho v4 ev4 x5 ex5
  refine lv_istore (lv' := [(6, .int ((fL_isDue 448 (xs (i + 1 : Int32).toNatClampNeg) 468 v x).1)), (0, .ref b), (1, .ref (ga G 448)), (2, .ref (ga G 461)), (3, .ref (ga G 468)), (4, .ref (ga G 469)), (5, .int i)]) hx hb dL_law_1480 hl (by decide) rfl (fun ls hl => ?_)
  refine lv_aload_n hx hb dL_law_1482 rfl (lv_at hl 3 rfl) ?_
  refine lv_aload_n hx hb dL_law_1483 rfl (lv_at hl 1 rfl) ?_
  refine lv_iload hx hb dL_law_1484 (lv_at hl 6 rfl) ?_
  refine lv_iconst (v := 1) hx hb dL_law_1486 (by decide) ?_
  refine lv_iadd hx hb dL_law_1487 ?_
  refine va_sld hx hb hX hbl hbA hS (sx hi 1 (by decide)) dL_law_1488 ?_
  have hq6 := ho.1
  have ho := ho.2
  refine k_X11_isDue X hS hH kd_461 hq6 t_ml_VernierDrawersLaw_271 hl.1 (Nat.le_of_ble_eq_true rfl) ⟨Nat.le_of_ble_eq_true rfl, Nat.le_of_ble_eq_true rfl⟩ ⟨hq3, (le_sl hq3)⟩ dL_law_1489 (fun da H locs v7 ev7 hH hS => ?_)
  have ho := ho v7 ev7
  refine lv_istore (lv' := [(7, .int ((fX11_isDue 461 (xs (i + 1 : Int32).toNatClampNeg) v4).1)), (6, .int ((fL_isDue 448 (xs (i + 1 : Int32).toNatClampNeg) 468 v x).1)), (0, .ref b), (1, .ref (ga G 448)), (2, .ref (ga G 461)), (3, .ref (ga G 468)), (4, .ref (ga G 469)), (5, .int i)]) hx hb dL_law_1492 hl (by decide) rfl (fun ls hl => ?_)
  refine lv_aload_n hx hb dL_law_1494 rfl (lv_at hl 4 rfl) ?_
  refine k_X11_thrown X hS hH kd_461 t_ml_VernierDrawersLaw_207 hl.1 (Nat.le_of_ble_eq_true rfl) ⟨Nat.le_of_ble_eq_true rfl, Nat.le_of_ble_eq_true rfl⟩ ⟨hq3, (le_sl hq3)⟩ dL_law_1495 ?_
  refine lv_iload hx hb dL_law_1498 (lv_at hl 1 rfl) ?_
  refine lv_icmp_eq (tgt := 1505) hx hb dL_law_1500 (by decide) (fun c8 => ?_) (fun c8 => ?_)
  · have ho := ho.1 c8
    refine lv_iload hx hb dL_law_1505 (lv_at hl 1 rfl) ?_
    refine lv_if_ne (tgt := 1529) hx hb dL_law_1507 (by decide) (fun c9 => ?_) (fun c9 => ?_)
    · have ho := ho.2 c9
      refine lv_goto (tgt := 4036) hx hb dL_law_1529 (by decide) ?_
      have hq10 := ho
      refine W.widen (k := c1) (n := c1) hq10 hq10 ?_
      replace ev4 := Eq.symm ev4
      replace ex5 := Eq.symm ex5
      replace ev7 := Eq.symm ev7
      subst ev4 ex5 ev7
      exact E _ _ _ _ _ _ (pr1 ((flc_19.eq_1 _ _ _ _).trans ((if_pos c8).trans ((if_neg c9).trans rfl)))) (pr2 ((flc_19.eq_1 _ _ _ _).trans ((if_pos c8).trans ((if_neg c9).trans rfl)))) hH hS (lv_sub hl [2, 3, 4, 5, 6, 7] rfl)
    · have ho := ho.1 c9
      refine lv_aload_n hx hb dL_law_1510 rfl (lv_at hl 5 rfl) ?_
      refine lv_iconst (v := 0) hx hb dL_law_1511 (by decide) ?_
      refine lald_34 X hH kd_468 (i_in (by decide) (by decide)) dL_law_1512 ?_
      refine lv_iload hx hb dL_law_1513 (lv_at hl 0 rfl) ?_
      refine lv_if_eq (tgt := 1522) hx hb dL_law_1515 (by decide) (fun c11 => ?_) (fun c11 => ?_)
      · have ho := ho.1 c11
        refine lv_lconst (v := 0) hx hb dL_law_1522 rfl ?_
        refine W.lcmp hx hb dL_law_1523 ?_
        refine lv_if_eq (tgt := 1529) hx hb dL_law_1524 (by decide) (fun c12 => ?_) (fun c12 => ?_)
        · have ho := ho.1 c12
          refine lv_goto (tgt := 4036) hx hb dL_law_1529 (by decide) ?_
          have hq13 := ho
          refine W.widen (k := c1) (n := c1) hq13 hq13 ?_
          replace ev4 := Eq.symm ev4
          replace ex5 := Eq.symm ex5
          replace ev7 := Eq.symm ev7
          subst ev4 ex5 ev7
          exact E _ _ _ _ _ _ (pr1 ((flc_19.eq_1 _ _ _ _).trans ((if_pos c8).trans ((if_pos c9).trans ((if_pos c11).trans ((if_pos c12).trans rfl)))))) (pr2 ((flc_19.eq_1 _ _ _ _).trans ((if_pos c8).trans ((if_pos c9).trans ((if_pos c11).trans ((if_pos c12).trans rfl)))))) hH hS (lv_sub hl [2, 3, 4, 5, 6, 7] rfl)
        · have ho := ho.2 c12
          have hq14 := ho
          exact hq14.elim
      · have ho := ho.2 c11
        refine lv_lconst (v := 1) hx hb dL_law_1518 rfl ?_
        refine lv_goto (tgt := 1523) hx hb dL_law_1519 (by decide) ?_
        refine W.lcmp hx hb dL_law_1523 ?_
        refine lv_if_eq (tgt := 1529) hx hb dL_law_1524 (by decide) (fun c15 => ?_) (fun c15 => ?_)
        · have ho := ho.1 c15
          refine lv_goto (tgt := 4036) hx hb dL_law_1529 (by decide) ?_
          have hq16 := ho
          refine W.widen (k := c1) (n := c1) hq16 hq16 ?_
          replace ev4 := Eq.symm ev4
          replace ex5 := Eq.symm ex5
          replace ev7 := Eq.symm ev7
          subst ev4 ex5 ev7
          exact E _ _ _ _ _ _ (pr1 ((flc_19.eq_1 _ _ _ _).trans ((if_pos c8).trans ((if_pos c9).trans ((if_neg c11).trans ((if_pos c15).trans rfl)))))) (pr2 ((flc_19.eq_1 _ _ _ _).trans ((if_pos c8).trans ((if_pos c9).trans ((if_neg c11).trans ((if_pos c15).trans rfl)))))) hH hS (lv_sub hl [2, 3, 4, 5, 6, 7] rfl)
        · have ho := ho.2 c15
          have hq17 := ho
          exact hq17.elim
  · have ho := ho.2 c8
    have hq18 := ho
    exact hq18.elim
theorem dL_law_1532 : decode cL_law 1532 = .ok (.aload_n 1, 1) := by decide +kernel
theorem dL_law_1533 : decode cL_law 1533 = .ok (.aload_n 0, 1) := by decide +kernel
theorem dL_law_1534 : decode cL_law 1534 = .ok (.iload 5, 2) := by decide +kernel
theorem dL_law_1536 : decode cL_law 1536 = .ok (.iconst 1, 1) := by decide +kernel
theorem dL_law_1537 : decode cL_law 1537 = .ok (.iadd, 1) := by decide +kernel
theorem dL_law_1538 : decode cL_law 1538 = .ok (.iaload, 1) := by decide +kernel
theorem dL_law_1539 : decode cL_law 1539 = .ok (.aload_n 3, 1) := by decide +kernel
theorem dL_law_1540 : decode cL_law 1540 = .ok (.invokestatic 272, 3) := by decide +kernel
theorem dL_law_1543 : decode cL_law 1543 = .ok (.istore 6, 2) := by decide +kernel
theorem dL_law_1545 : decode cL_law 1545 = .ok (.aload_n 2, 1) := by decide +kernel
theorem dL_law_1546 : decode cL_law 1546 = .ok (.aload_n 0, 1) := by decide +kernel
theorem dL_law_1547 : decode cL_law 1547 = .ok (.iload 5, 2) := by decide +kernel
theorem dL_law_1549 : decode cL_law 1549 = .ok (.iconst 1, 1) := by decide +kernel
theorem dL_law_1550 : decode cL_law 1550 = .ok (.iadd, 1) := by decide +kernel
theorem dL_law_1551 : decode cL_law 1551 = .ok (.iaload, 1) := by decide +kernel
theorem dL_law_1552 : decode cL_law 1552 = .ok (.invokevirtual 274, 3) := by decide +kernel
theorem dL_law_1555 : decode cL_law 1555 = .ok (.istore 7, 2) := by decide +kernel
theorem dL_law_1557 : decode cL_law 1557 = .ok (.aload_n 2, 1) := by decide +kernel
theorem dL_law_1558 : decode cL_law 1558 = .ok (.invokevirtual 207, 3) := by decide +kernel
theorem dL_law_1561 : decode cL_law 1561 = .ok (.iload 6, 2) := by decide +kernel
theorem dL_law_1563 : decode cL_law 1563 = .ok (.if_icmp .eq 5, 3) := by decide +kernel
theorem dL_law_1568 : decode cL_law 1568 = .ok (.iload 6, 2) := by decide +kernel
theorem dL_law_1570 : decode cL_law 1570 = .ok (.ifCond .ne 15, 3) := by decide +kernel
theorem dL_law_1573 : decode cL_law 1573 = .ok (.aload_n 3, 1) := by decide +kernel
theorem dL_law_1574 : decode cL_law 1574 = .ok (.iconst 0, 1) := by decide +kernel
theorem dL_law_1575 : decode cL_law 1575 = .ok (.laload, 1) := by decide +kernel
theorem dL_law_1576 : decode cL_law 1576 = .ok (.iload 7, 2) := by decide +kernel
theorem dL_law_1578 : decode cL_law 1578 = .ok (.i2l, 1) := by decide +kernel
theorem dL_law_1579 : decode cL_law 1579 = .ok (.lcmp, 1) := by decide +kernel
theorem dL_law_1580 : decode cL_law 1580 = .ok (.ifCond .eq 5, 3) := by decide +kernel
theorem dL_law_1585 : decode cL_law 1585 = .ok (.goto 2451, 3) := by decide +kernel
set_option maxHeartbeats 8000000 in
set_option maxRecDepth 100000 in
theorem lc_20 {p : Program} {l : Launch} {e : Env} {s : State} {m : MethodId} {args : Array Value} {below : List Frame} {meth : Method} {c : Code} {H : Heap} {locs : List Loc} {Q : State → Prop} {ls : Array Slot} {G : gG} {da : Nat → Nat} {v : vSt} {x : gX} (hst : l.stackTraces = false) (X : CX G p s m args c cL_law 8 RL) (hN : NC s) {b L : Nat} {xs : Nat → Int32} (hX : va_X b L xs s s.heap) (hbl : b < s.heap.size) (hbA : ¬ gA G b) {i : Int32} (hi : 0 ≤ i.toInt ∧ i.toInt + 5 ≤ (L : Int) ∧ L ≤ 2560) (hH : Hp G da v x H) (hS : va_S (gA G) s.heap H locs) (hl : lv_has ls 8 [(0, .ref b), (1, .ref (ga G 448)), (2, .ref (ga G 461)), (3, .ref (ga G 468)), (4, .ref (ga G 469)), (5, .int i)]) {c0 c1 : Nat} (ho : olc_20 i xs v x c0 c1) (E : ∀ (da1 : Nat → Nat) (H1 : Heap) (locs1 : List Loc) (ls1 : Array Slot) (v2 : vSt) (x2 : gX), v2 = (flc_20 i xs v x).1 → x2 = (flc_20 i xs v x).2 → Hp G da1 v2 x2 H1 → va_S (gA G) s.heap H1 locs1 → lv_has ls1 8 [(0, .ref b), (1, .ref (ga G 448)), (2, .ref (ga G 461)), (3, .ref (ga G 468)), (4, .ref (ga G 469)), (5, .int i)] → W p l e room_1 s m args below meth c H1 locs1 c1 c1 Q (F0 m 4036 ls1 [])) : W p l e room_1 s m args below meth c H locs c0 c0 Q (F0 m 1532 ls []) := by
  have hx := X.1
  have hb := X.2.1
  have hown := X.2.2.2.1
  have hts := X.2.2.2.2.1
  unfold olc_20 at ho
  refine lv_aload_n hx hb dL_law_1532 rfl (lv_at hl 1 rfl) ?_
  refine lv_aload_n hx hb dL_law_1533 rfl (lv_at hl 0 rfl) ?_
  refine lv_iload hx hb dL_law_1534 (lv_at hl 5 rfl) ?_
  refine lv_iconst (v := 1) hx hb dL_law_1536 (by decide) ?_
  refine lv_iadd hx hb dL_law_1537 ?_
  refine va_sld hx hb hX hbl hbA hS (sx hi 1 (by decide)) dL_law_1538 ?_
  refine lv_aload_n hx hb dL_law_1539 rfl (lv_at hl 3 rfl) ?_
  have hq1 := ho.1
  have ho := ho.2
  have hq2 := ho.1
  have ho := ho.2
  have hq3 := ho.1
  have ho := ho.2
  refine k_L_usesLeft hst X hS hN hH kd_448 kd_468 hq1 t_ml_VernierDrawersLaw_272 hl.1 (Nat.le_of_ble_eq_true rfl) ⟨Nat.le_of_ble_eq_true rfl, Nat.le_of_ble_eq_true rfl⟩ ⟨hq3, (le_sl hq3)⟩ dL_law_1540 (fun da H locs v4 x5 ev4 ex5 hH hS => ?_)
  have ho := ho v4 ev4 x5 ex5
  refine lv_istore (lv' := [(6, .int ((fL_usesLeft 448 (xs (i + 1 : Int32).toNatClampNeg) 468 v x).1)), (0, .ref b), (1, .ref (ga G 448)), (2, .ref (ga G 461)), (3, .ref (ga G 468)), (4, .ref (ga G 469)), (5, .int i)]) hx hb dL_law_1543 hl (by decide) rfl (fun ls hl => ?_)
  refine lv_aload_n hx hb dL_law_1545 rfl (lv_at hl 3 rfl) ?_
  refine lv_aload_n hx hb dL_law_1546 rfl (lv_at hl 1 rfl) ?_
  refine lv_iload hx hb dL_law_1547 (lv_at hl 6 rfl) ?_
  refine lv_iconst (v := 1) hx hb dL_law_1549 (by decide) ?_
  refine lv_iadd hx hb dL_law_1550 ?_
  refine va_sld hx hb hX hbl hbA hS (sx hi 1 (by decide)) dL_law_1551 ?_
  have hq6 := ho.1
  have ho := ho.2
  refine k_X11_usesLeft X hS hH kd_461 hq6 t_ml_VernierDrawersLaw_274 hl.1 (Nat.le_of_ble_eq_true rfl) ⟨Nat.le_of_ble_eq_true rfl, Nat.le_of_ble_eq_true rfl⟩ ⟨hq3, (le_sl hq3)⟩ dL_law_1552 (fun da H locs v7 ev7 hH hS => ?_)
  have ho := ho v7 ev7
  refine lv_istore (lv' := [(7, .int ((fX11_usesLeft 461 (xs (i + 1 : Int32).toNatClampNeg) v4).1)), (6, .int ((fL_usesLeft 448 (xs (i + 1 : Int32).toNatClampNeg) 468 v x).1)), (0, .ref b), (1, .ref (ga G 448)), (2, .ref (ga G 461)), (3, .ref (ga G 468)), (4, .ref (ga G 469)), (5, .int i)]) hx hb dL_law_1555 hl (by decide) rfl (fun ls hl => ?_)
  refine lv_aload_n hx hb dL_law_1557 rfl (lv_at hl 4 rfl) ?_
  refine k_X11_thrown X hS hH kd_461 t_ml_VernierDrawersLaw_207 hl.1 (Nat.le_of_ble_eq_true rfl) ⟨Nat.le_of_ble_eq_true rfl, Nat.le_of_ble_eq_true rfl⟩ ⟨hq3, (le_sl hq3)⟩ dL_law_1558 ?_
  refine lv_iload hx hb dL_law_1561 (lv_at hl 1 rfl) ?_
  refine lv_icmp_eq (tgt := 1568) hx hb dL_law_1563 (by decide) (fun c8 => ?_) (fun c8 => ?_)
  · have ho := ho.1 c8
    refine lv_iload hx hb dL_law_1568 (lv_at hl 1 rfl) ?_
    refine lv_if_ne (tgt := 1585) hx hb dL_law_1570 (by decide) (fun c9 => ?_) (fun c9 => ?_)
    · have ho := ho.2 c9
      refine lv_goto (tgt := 4036) hx hb dL_law_1585 (by decide) ?_
      have hq10 := ho
      refine W.widen (k := c1) (n := c1) hq10 hq10 ?_
      replace ev4 := Eq.symm ev4
      replace ex5 := Eq.symm ex5
      replace ev7 := Eq.symm ev7
      subst ev4 ex5 ev7
      exact E _ _ _ _ _ _ (pr1 ((flc_20.eq_1 _ _ _ _).trans ((if_pos c8).trans ((if_neg c9).trans rfl)))) (pr2 ((flc_20.eq_1 _ _ _ _).trans ((if_pos c8).trans ((if_neg c9).trans rfl)))) hH hS (lv_sub hl [2, 3, 4, 5, 6, 7] rfl)
    · have ho := ho.1 c9
      refine lv_aload_n hx hb dL_law_1573 rfl (lv_at hl 5 rfl) ?_
      refine lv_iconst (v := 0) hx hb dL_law_1574 (by decide) ?_
      refine lald_34 X hH kd_468 (i_in (by decide) (by decide)) dL_law_1575 ?_
      refine lv_iload hx hb dL_law_1576 (lv_at hl 0 rfl) ?_
      refine lv_i2l (v := ((fX11_usesLeft 461 (xs (i + 1 : Int32).toNatClampNeg) v4).1 : Int32).toInt64) hx hb dL_law_1578 rfl ?_
      refine W.lcmp hx hb dL_law_1579 ?_
      refine lv_if_eq (tgt := 1585) hx hb dL_law_1580 (by decide) (fun c11 => ?_) (fun c11 => ?_)
      · have ho := ho.1 c11
        refine lv_goto (tgt := 4036) hx hb dL_law_1585 (by decide) ?_
        have hq12 := ho
        refine W.widen (k := c1) (n := c1) hq12 hq12 ?_
        replace ev4 := Eq.symm ev4
        replace ex5 := Eq.symm ex5
        replace ev7 := Eq.symm ev7
        subst ev4 ex5 ev7
        exact E _ _ _ _ _ _ (pr1 ((flc_20.eq_1 _ _ _ _).trans ((if_pos c8).trans ((if_pos c9).trans ((if_pos c11).trans rfl))))) (pr2 ((flc_20.eq_1 _ _ _ _).trans ((if_pos c8).trans ((if_pos c9).trans ((if_pos c11).trans rfl))))) hH hS (lv_sub hl [2, 3, 4, 5, 6, 7] rfl)
      · have ho := ho.2 c11
        have hq13 := ho
        exact hq13.elim
  · have ho := ho.2 c8
    have hq14 := ho
    exact hq14.elim
theorem dL_law_1588 : decode cL_law 1588 = .ok (.aload_n 1, 1) := by decide +kernel
theorem dL_law_1589 : decode cL_law 1589 = .ok (.invokevirtual 275, 3) := by decide +kernel
theorem dL_law_1592 : decode cL_law 1592 = .ok (.aload_n 2, 1) := by decide +kernel
theorem dL_law_1593 : decode cL_law 1593 = .ok (.invokevirtual 278, 3) := by decide +kernel
theorem dL_law_1596 : decode cL_law 1596 = .ok (.if_icmp .eq 2440, 3) := by decide +kernel
set_option maxHeartbeats 8000000 in
set_option maxRecDepth 100000 in
theorem lc_21 {p : Program} {l : Launch} {e : Env} {s : State} {m : MethodId} {args : Array Value} {below : List Frame} {meth : Method} {c : Code} {H : Heap} {locs : List Loc} {Q : State → Prop} {ls : Array Slot} {G : gG} {da : Nat → Nat} {v : vSt} {x : gX} (hst : l.stackTraces = false) (X : CX G p s m args c cL_law 8 RL) (hN : NC s) {b L : Nat} {xs : Nat → Int32} (hX : va_X b L xs s s.heap) (hbl : b < s.heap.size) (hbA : ¬ gA G b) {i : Int32} (hi : 0 ≤ i.toInt ∧ i.toInt + 5 ≤ (L : Int) ∧ L ≤ 2560) (hH : Hp G da v x H) (hS : va_S (gA G) s.heap H locs) (hl : lv_has ls 8 [(0, .ref b), (1, .ref (ga G 448)), (2, .ref (ga G 461)), (3, .ref (ga G 468)), (4, .ref (ga G 469)), (5, .int i)]) {c0 c1 : Nat} (ho : olc_21 i xs v x c0 c1) (E : ∀ (da1 : Nat → Nat) (H1 : Heap) (locs1 : List Loc) (ls1 : Array Slot) (v2 : vSt) (x2 : gX), v2 = (flc_21 i xs v x).1 → x2 = (flc_21 i xs v x).2 → Hp G da1 v2 x2 H1 → va_S (gA G) s.heap H1 locs1 → lv_has ls1 8 [(0, .ref b), (1, .ref (ga G 448)), (2, .ref (ga G 461)), (3, .ref (ga G 468)), (4, .ref (ga G 469)), (5, .int i)] → W p l e room_1 s m args below meth c H1 locs1 c1 c1 Q (F0 m 4036 ls1 [])) : W p l e room_1 s m args below meth c H locs c0 c0 Q (F0 m 1588 ls []) := by
  have hx := X.1
  have hb := X.2.1
  have hown := X.2.2.2.1
  have hts := X.2.2.2.2.1
  unfold olc_21 at ho
  refine lv_aload_n hx hb dL_law_1588 rfl (lv_at hl 1 rfl) ?_
  have hq1 := ho.1
  have ho := ho.2
  have hq2 := ho.1
  have ho := ho.2
  refine k_X10_warmth X hS hH kd_448 hq1 t_ml_VernierDrawersLaw_275 hl.1 (Nat.le_of_ble_eq_true rfl) ⟨Nat.le_of_ble_eq_true rfl, Nat.le_of_ble_eq_true rfl⟩ ⟨hq2, (le_sl hq2)⟩ dL_law_1589 ?_
  refine lv_aload_n hx hb dL_law_1592 rfl (lv_at hl 2 rfl) ?_
  have hq3 := ho.1
  have ho := ho.2
  refine k_X11_warmth X hS hH kd_461 hq3 t_ml_VernierDrawersLaw_278 hl.1 (Nat.le_of_ble_eq_true rfl) ⟨Nat.le_of_ble_eq_true rfl, Nat.le_of_ble_eq_true rfl⟩ ⟨hq2, (le_sl hq2)⟩ dL_law_1593 (fun da H locs v4 ev4 hH hS => ?_)
  have ho := ho v4 ev4
  refine lv_icmp_eq (tgt := 4036) hx hb dL_law_1596 (by decide) (fun c5 => ?_) (fun c5 => ?_)
  · have ho := ho.1 c5
    have hq6 := ho
    refine W.widen (k := c1) (n := c1) hq6 hq6 ?_
    replace ev4 := Eq.symm ev4
    subst ev4
    exact E _ _ _ _ _ _ (pr1 ((flc_21.eq_1 _ _ _ _).trans ((if_pos c5).trans rfl))) (pr2 ((flc_21.eq_1 _ _ _ _).trans ((if_pos c5).trans rfl))) hH hS (lv_sub hl [0, 1, 2, 3, 4, 5] rfl)
  · have ho := ho.2 c5
    have hq7 := ho
    exact hq7.elim
theorem dL_law_1601 : decode cL_law 1601 = .ok (.aload_n 1, 1) := by decide +kernel
theorem dL_law_1602 : decode cL_law 1602 = .ok (.aload_n 0, 1) := by decide +kernel
theorem dL_law_1603 : decode cL_law 1603 = .ok (.iload 5, 2) := by decide +kernel
theorem dL_law_1605 : decode cL_law 1605 = .ok (.iconst 1, 1) := by decide +kernel
theorem dL_law_1606 : decode cL_law 1606 = .ok (.iadd, 1) := by decide +kernel
theorem dL_law_1607 : decode cL_law 1607 = .ok (.iaload, 1) := by decide +kernel
theorem dL_law_1608 : decode cL_law 1608 = .ok (.aload_n 0, 1) := by decide +kernel
theorem dL_law_1609 : decode cL_law 1609 = .ok (.iload 5, 2) := by decide +kernel
theorem dL_law_1611 : decode cL_law 1611 = .ok (.iconst 2, 1) := by decide +kernel
theorem dL_law_1612 : decode cL_law 1612 = .ok (.iadd, 1) := by decide +kernel
theorem dL_law_1613 : decode cL_law 1613 = .ok (.iaload, 1) := by decide +kernel
theorem dL_law_1614 : decode cL_law 1614 = .ok (.aload_n 3, 1) := by decide +kernel
theorem dL_law_1615 : decode cL_law 1615 = .ok (.invokestatic 279, 3) := by decide +kernel
theorem dL_law_1618 : decode cL_law 1618 = .ok (.istore 6, 2) := by decide +kernel
theorem dL_law_1620 : decode cL_law 1620 = .ok (.aload_n 2, 1) := by decide +kernel
theorem dL_law_1621 : decode cL_law 1621 = .ok (.aload_n 0, 1) := by decide +kernel
theorem dL_law_1622 : decode cL_law 1622 = .ok (.iload 5, 2) := by decide +kernel
theorem dL_law_1624 : decode cL_law 1624 = .ok (.iconst 1, 1) := by decide +kernel
theorem dL_law_1625 : decode cL_law 1625 = .ok (.iadd, 1) := by decide +kernel
theorem dL_law_1626 : decode cL_law 1626 = .ok (.iaload, 1) := by decide +kernel
theorem dL_law_1627 : decode cL_law 1627 = .ok (.aload_n 0, 1) := by decide +kernel
theorem dL_law_1628 : decode cL_law 1628 = .ok (.iload 5, 2) := by decide +kernel
theorem dL_law_1630 : decode cL_law 1630 = .ok (.iconst 2, 1) := by decide +kernel
theorem dL_law_1631 : decode cL_law 1631 = .ok (.iadd, 1) := by decide +kernel
theorem dL_law_1632 : decode cL_law 1632 = .ok (.iaload, 1) := by decide +kernel
theorem dL_law_1633 : decode cL_law 1633 = .ok (.invokevirtual 281, 3) := by decide +kernel
theorem dL_law_1636 : decode cL_law 1636 = .ok (.istore 7, 2) := by decide +kernel
theorem dL_law_1638 : decode cL_law 1638 = .ok (.aload_n 2, 1) := by decide +kernel
theorem dL_law_1639 : decode cL_law 1639 = .ok (.invokevirtual 207, 3) := by decide +kernel
theorem dL_law_1642 : decode cL_law 1642 = .ok (.iload 6, 2) := by decide +kernel
theorem dL_law_1644 : decode cL_law 1644 = .ok (.if_icmp .eq 5, 3) := by decide +kernel
theorem dL_law_1649 : decode cL_law 1649 = .ok (.iload 6, 2) := by decide +kernel
theorem dL_law_1651 : decode cL_law 1651 = .ok (.ifCond .ne 15, 3) := by decide +kernel
theorem dL_law_1654 : decode cL_law 1654 = .ok (.aload_n 3, 1) := by decide +kernel
theorem dL_law_1655 : decode cL_law 1655 = .ok (.iconst 0, 1) := by decide +kernel
theorem dL_law_1656 : decode cL_law 1656 = .ok (.laload, 1) := by decide +kernel
theorem dL_law_1657 : decode cL_law 1657 = .ok (.iload 7, 2) := by decide +kernel
theorem dL_law_1659 : decode cL_law 1659 = .ok (.i2l, 1) := by decide +kernel
theorem dL_law_1660 : decode cL_law 1660 = .ok (.lcmp, 1) := by decide +kernel
theorem dL_law_1661 : decode cL_law 1661 = .ok (.ifCond .eq 5, 3) := by decide +kernel
theorem dL_law_1666 : decode cL_law 1666 = .ok (.goto 2370, 3) := by decide +kernel
set_option maxHeartbeats 8000000 in
set_option maxRecDepth 100000 in
theorem lc_22 {p : Program} {l : Launch} {e : Env} {s : State} {m : MethodId} {args : Array Value} {below : List Frame} {meth : Method} {c : Code} {H : Heap} {locs : List Loc} {Q : State → Prop} {ls : Array Slot} {G : gG} {da : Nat → Nat} {v : vSt} {x : gX} (hst : l.stackTraces = false) (X : CX G p s m args c cL_law 8 RL) (hN : NC s) {b L : Nat} {xs : Nat → Int32} (hX : va_X b L xs s s.heap) (hbl : b < s.heap.size) (hbA : ¬ gA G b) {i : Int32} (hi : 0 ≤ i.toInt ∧ i.toInt + 5 ≤ (L : Int) ∧ L ≤ 2560) (hH : Hp G da v x H) (hS : va_S (gA G) s.heap H locs) (hl : lv_has ls 8 [(0, .ref b), (1, .ref (ga G 448)), (2, .ref (ga G 461)), (3, .ref (ga G 468)), (4, .ref (ga G 469)), (5, .int i)]) {c0 c1 : Nat} (ho : olc_22 i xs v x c0 c1) (E : ∀ (da1 : Nat → Nat) (H1 : Heap) (locs1 : List Loc) (ls1 : Array Slot) (v2 : vSt) (x2 : gX), v2 = (flc_22 i xs v x).1 → x2 = (flc_22 i xs v x).2 → Hp G da1 v2 x2 H1 → va_S (gA G) s.heap H1 locs1 → lv_has ls1 8 [(0, .ref b), (1, .ref (ga G 448)), (2, .ref (ga G 461)), (3, .ref (ga G 468)), (4, .ref (ga G 469)), (5, .int i)] → W p l e room_1 s m args below meth c H1 locs1 c1 c1 Q (F0 m 4036 ls1 [])) : W p l e room_1 s m args below meth c H locs c0 c0 Q (F0 m 1601 ls []) := by
  have hx := X.1
  have hb := X.2.1
  have hown := X.2.2.2.1
  have hts := X.2.2.2.2.1
  unfold olc_22 at ho
  refine lv_aload_n hx hb dL_law_1601 rfl (lv_at hl 1 rfl) ?_
  refine lv_aload_n hx hb dL_law_1602 rfl (lv_at hl 0 rfl) ?_
  refine lv_iload hx hb dL_law_1603 (lv_at hl 5 rfl) ?_
  refine lv_iconst (v := 1) hx hb dL_law_1605 (by decide) ?_
  refine lv_iadd hx hb dL_law_1606 ?_
  refine va_sld hx hb hX hbl hbA hS (sx hi 1 (by decide)) dL_law_1607 ?_
  refine lv_aload_n hx hb dL_law_1608 rfl (lv_at hl 0 rfl) ?_
  refine lv_iload hx hb dL_law_1609 (lv_at hl 5 rfl) ?_
  refine lv_iconst (v := 2) hx hb dL_law_1611 (by decide) ?_
  refine lv_iadd hx hb dL_law_1612 ?_
  refine va_sld hx hb hX hbl hbA hS (sx hi 2 (by decide)) dL_law_1613 ?_
  refine lv_aload_n hx hb dL_law_1614 rfl (lv_at hl 3 rfl) ?_
  have hq1 := ho.1
  have ho := ho.2
  have hq2 := ho.1
  have ho := ho.2
  have hq3 := ho.1
  have ho := ho.2
  refine k_L_stretchOf hst X hS hN hH kd_448 kd_468 hq1 t_ml_VernierDrawersLaw_279 hl.1 (Nat.le_of_ble_eq_true rfl) ⟨Nat.le_of_ble_eq_true rfl, Nat.le_of_ble_eq_true rfl⟩ ⟨hq3, (le_sl hq3)⟩ dL_law_1615 (fun da H locs v4 x5 ev4 ex5 hH hS => ?_)
  have ho := ho v4 ev4 x5 ex5
  refine lv_istore (lv' := [(6, .int ((fL_stretchOf 448 (xs (i + 1 : Int32).toNatClampNeg) (xs (i + 2 : Int32).toNatClampNeg) 468 v x).1)), (0, .ref b), (1, .ref (ga G 448)), (2, .ref (ga G 461)), (3, .ref (ga G 468)), (4, .ref (ga G 469)), (5, .int i)]) hx hb dL_law_1618 hl (by decide) rfl (fun ls hl => ?_)
  refine lv_aload_n hx hb dL_law_1620 rfl (lv_at hl 3 rfl) ?_
  refine lv_aload_n hx hb dL_law_1621 rfl (lv_at hl 1 rfl) ?_
  refine lv_iload hx hb dL_law_1622 (lv_at hl 6 rfl) ?_
  refine lv_iconst (v := 1) hx hb dL_law_1624 (by decide) ?_
  refine lv_iadd hx hb dL_law_1625 ?_
  refine va_sld hx hb hX hbl hbA hS (sx hi 1 (by decide)) dL_law_1626 ?_
  refine lv_aload_n hx hb dL_law_1627 rfl (lv_at hl 1 rfl) ?_
  refine lv_iload hx hb dL_law_1628 (lv_at hl 6 rfl) ?_
  refine lv_iconst (v := 2) hx hb dL_law_1630 (by decide) ?_
  refine lv_iadd hx hb dL_law_1631 ?_
  refine va_sld hx hb hX hbl hbA hS (sx hi 2 (by decide)) dL_law_1632 ?_
  have hq6 := ho.1
  have ho := ho.2
  refine k_X11_stretchOf X hS hH kd_461 hq6 t_ml_VernierDrawersLaw_281 hl.1 (Nat.le_of_ble_eq_true rfl) ⟨Nat.le_of_ble_eq_true rfl, Nat.le_of_ble_eq_true rfl⟩ ⟨hq3, (le_sl hq3)⟩ dL_law_1633 (fun da H locs v7 ev7 hH hS => ?_)
  have ho := ho v7 ev7
  refine lv_istore (lv' := [(7, .int ((fX11_stretchOf 461 (xs (i + 1 : Int32).toNatClampNeg) (xs (i + 2 : Int32).toNatClampNeg) v4).1)), (6, .int ((fL_stretchOf 448 (xs (i + 1 : Int32).toNatClampNeg) (xs (i + 2 : Int32).toNatClampNeg) 468 v x).1)), (0, .ref b), (1, .ref (ga G 448)), (2, .ref (ga G 461)), (3, .ref (ga G 468)), (4, .ref (ga G 469)), (5, .int i)]) hx hb dL_law_1636 hl (by decide) rfl (fun ls hl => ?_)
  refine lv_aload_n hx hb dL_law_1638 rfl (lv_at hl 4 rfl) ?_
  refine k_X11_thrown X hS hH kd_461 t_ml_VernierDrawersLaw_207 hl.1 (Nat.le_of_ble_eq_true rfl) ⟨Nat.le_of_ble_eq_true rfl, Nat.le_of_ble_eq_true rfl⟩ ⟨hq3, (le_sl hq3)⟩ dL_law_1639 ?_
  refine lv_iload hx hb dL_law_1642 (lv_at hl 1 rfl) ?_
  refine lv_icmp_eq (tgt := 1649) hx hb dL_law_1644 (by decide) (fun c8 => ?_) (fun c8 => ?_)
  · have ho := ho.1 c8
    refine lv_iload hx hb dL_law_1649 (lv_at hl 1 rfl) ?_
    refine lv_if_ne (tgt := 1666) hx hb dL_law_1651 (by decide) (fun c9 => ?_) (fun c9 => ?_)
    · have ho := ho.2 c9
      refine lv_goto (tgt := 4036) hx hb dL_law_1666 (by decide) ?_
      have hq10 := ho
      refine W.widen (k := c1) (n := c1) hq10 hq10 ?_
      replace ev4 := Eq.symm ev4
      replace ex5 := Eq.symm ex5
      replace ev7 := Eq.symm ev7
      subst ev4 ex5 ev7
      exact E _ _ _ _ _ _ (pr1 ((flc_22.eq_1 _ _ _ _).trans ((if_pos c8).trans ((if_neg c9).trans rfl)))) (pr2 ((flc_22.eq_1 _ _ _ _).trans ((if_pos c8).trans ((if_neg c9).trans rfl)))) hH hS (lv_sub hl [2, 3, 4, 5, 6, 7] rfl)
    · have ho := ho.1 c9
      refine lv_aload_n hx hb dL_law_1654 rfl (lv_at hl 5 rfl) ?_
      refine lv_iconst (v := 0) hx hb dL_law_1655 (by decide) ?_
      refine lald_34 X hH kd_468 (i_in (by decide) (by decide)) dL_law_1656 ?_
      refine lv_iload hx hb dL_law_1657 (lv_at hl 0 rfl) ?_
      refine lv_i2l (v := ((fX11_stretchOf 461 (xs (i + 1 : Int32).toNatClampNeg) (xs (i + 2 : Int32).toNatClampNeg) v4).1 : Int32).toInt64) hx hb dL_law_1659 rfl ?_
      refine W.lcmp hx hb dL_law_1660 ?_
      refine lv_if_eq (tgt := 1666) hx hb dL_law_1661 (by decide) (fun c11 => ?_) (fun c11 => ?_)
      · have ho := ho.1 c11
        refine lv_goto (tgt := 4036) hx hb dL_law_1666 (by decide) ?_
        have hq12 := ho
        refine W.widen (k := c1) (n := c1) hq12 hq12 ?_
        replace ev4 := Eq.symm ev4
        replace ex5 := Eq.symm ex5
        replace ev7 := Eq.symm ev7
        subst ev4 ex5 ev7
        exact E _ _ _ _ _ _ (pr1 ((flc_22.eq_1 _ _ _ _).trans ((if_pos c8).trans ((if_pos c9).trans ((if_pos c11).trans rfl))))) (pr2 ((flc_22.eq_1 _ _ _ _).trans ((if_pos c8).trans ((if_pos c9).trans ((if_pos c11).trans rfl))))) hH hS (lv_sub hl [2, 3, 4, 5, 6, 7] rfl)
      · have ho := ho.2 c11
        have hq13 := ho
        exact hq13.elim
  · have ho := ho.2 c8
    have hq14 := ho
    exact hq14.elim
theorem dL_law_1669 : decode cL_law 1669 = .ok (.aload_n 1, 1) := by decide +kernel
theorem dL_law_1670 : decode cL_law 1670 = .ok (.aload_n 0, 1) := by decide +kernel
theorem dL_law_1671 : decode cL_law 1671 = .ok (.iload 5, 2) := by decide +kernel
theorem dL_law_1673 : decode cL_law 1673 = .ok (.iconst 1, 1) := by decide +kernel
theorem dL_law_1674 : decode cL_law 1674 = .ok (.iadd, 1) := by decide +kernel
theorem dL_law_1675 : decode cL_law 1675 = .ok (.iaload, 1) := by decide +kernel
theorem dL_law_1676 : decode cL_law 1676 = .ok (.aload_n 0, 1) := by decide +kernel
theorem dL_law_1677 : decode cL_law 1677 = .ok (.iload 5, 2) := by decide +kernel
theorem dL_law_1679 : decode cL_law 1679 = .ok (.iconst 2, 1) := by decide +kernel
theorem dL_law_1680 : decode cL_law 1680 = .ok (.iadd, 1) := by decide +kernel
theorem dL_law_1681 : decode cL_law 1681 = .ok (.iaload, 1) := by decide +kernel
theorem dL_law_1682 : decode cL_law 1682 = .ok (.aload_n 0, 1) := by decide +kernel
theorem dL_law_1683 : decode cL_law 1683 = .ok (.iload 5, 2) := by decide +kernel
theorem dL_law_1685 : decode cL_law 1685 = .ok (.iconst 3, 1) := by decide +kernel
theorem dL_law_1686 : decode cL_law 1686 = .ok (.iadd, 1) := by decide +kernel
theorem dL_law_1687 : decode cL_law 1687 = .ok (.iaload, 1) := by decide +kernel
theorem dL_law_1688 : decode cL_law 1688 = .ok (.aload_n 3, 1) := by decide +kernel
theorem dL_law_1689 : decode cL_law 1689 = .ok (.invokestatic 282, 3) := by decide +kernel
theorem dL_law_1692 : decode cL_law 1692 = .ok (.istore 6, 2) := by decide +kernel
theorem dL_law_1694 : decode cL_law 1694 = .ok (.aload_n 2, 1) := by decide +kernel
theorem dL_law_1695 : decode cL_law 1695 = .ok (.aload_n 0, 1) := by decide +kernel
theorem dL_law_1696 : decode cL_law 1696 = .ok (.iload 5, 2) := by decide +kernel
theorem dL_law_1698 : decode cL_law 1698 = .ok (.iconst 1, 1) := by decide +kernel
theorem dL_law_1699 : decode cL_law 1699 = .ok (.iadd, 1) := by decide +kernel
theorem dL_law_1700 : decode cL_law 1700 = .ok (.iaload, 1) := by decide +kernel
theorem dL_law_1701 : decode cL_law 1701 = .ok (.aload_n 0, 1) := by decide +kernel
theorem dL_law_1702 : decode cL_law 1702 = .ok (.iload 5, 2) := by decide +kernel
theorem dL_law_1704 : decode cL_law 1704 = .ok (.iconst 2, 1) := by decide +kernel
theorem dL_law_1705 : decode cL_law 1705 = .ok (.iadd, 1) := by decide +kernel
theorem dL_law_1706 : decode cL_law 1706 = .ok (.iaload, 1) := by decide +kernel
theorem dL_law_1707 : decode cL_law 1707 = .ok (.aload_n 0, 1) := by decide +kernel
theorem dL_law_1708 : decode cL_law 1708 = .ok (.iload 5, 2) := by decide +kernel
theorem dL_law_1710 : decode cL_law 1710 = .ok (.iconst 3, 1) := by decide +kernel
theorem dL_law_1711 : decode cL_law 1711 = .ok (.iadd, 1) := by decide +kernel
theorem dL_law_1712 : decode cL_law 1712 = .ok (.iaload, 1) := by decide +kernel
theorem dL_law_1713 : decode cL_law 1713 = .ok (.invokevirtual 284, 3) := by decide +kernel
theorem dL_law_1716 : decode cL_law 1716 = .ok (.istore 7, 2) := by decide +kernel
theorem dL_law_1718 : decode cL_law 1718 = .ok (.aload_n 2, 1) := by decide +kernel
theorem dL_law_1719 : decode cL_law 1719 = .ok (.invokevirtual 207, 3) := by decide +kernel
theorem dL_law_1722 : decode cL_law 1722 = .ok (.iload 6, 2) := by decide +kernel
theorem dL_law_1724 : decode cL_law 1724 = .ok (.if_icmp .eq 5, 3) := by decide +kernel
theorem dL_law_1729 : decode cL_law 1729 = .ok (.iload 6, 2) := by decide +kernel
theorem dL_law_1731 : decode cL_law 1731 = .ok (.ifCond .ne 15, 3) := by decide +kernel
theorem dL_law_1734 : decode cL_law 1734 = .ok (.aload_n 3, 1) := by decide +kernel
theorem dL_law_1735 : decode cL_law 1735 = .ok (.iconst 0, 1) := by decide +kernel
theorem dL_law_1736 : decode cL_law 1736 = .ok (.laload, 1) := by decide +kernel
theorem dL_law_1737 : decode cL_law 1737 = .ok (.iload 7, 2) := by decide +kernel
theorem dL_law_1739 : decode cL_law 1739 = .ok (.i2l, 1) := by decide +kernel
theorem dL_law_1740 : decode cL_law 1740 = .ok (.lcmp, 1) := by decide +kernel
theorem dL_law_1741 : decode cL_law 1741 = .ok (.ifCond .eq 5, 3) := by decide +kernel
theorem dL_law_1746 : decode cL_law 1746 = .ok (.goto 2290, 3) := by decide +kernel
set_option maxHeartbeats 8000000 in
set_option maxRecDepth 100000 in
theorem lc_23 {p : Program} {l : Launch} {e : Env} {s : State} {m : MethodId} {args : Array Value} {below : List Frame} {meth : Method} {c : Code} {H : Heap} {locs : List Loc} {Q : State → Prop} {ls : Array Slot} {G : gG} {da : Nat → Nat} {v : vSt} {x : gX} (hst : l.stackTraces = false) (X : CX G p s m args c cL_law 8 RL) (hN : NC s) {b L : Nat} {xs : Nat → Int32} (hX : va_X b L xs s s.heap) (hbl : b < s.heap.size) (hbA : ¬ gA G b) {i : Int32} (hi : 0 ≤ i.toInt ∧ i.toInt + 5 ≤ (L : Int) ∧ L ≤ 2560) (hH : Hp G da v x H) (hS : va_S (gA G) s.heap H locs) (hl : lv_has ls 8 [(0, .ref b), (1, .ref (ga G 448)), (2, .ref (ga G 461)), (3, .ref (ga G 468)), (4, .ref (ga G 469)), (5, .int i)]) {c0 c1 : Nat} (ho : olc_23 i xs v x c0 c1) (E : ∀ (da1 : Nat → Nat) (H1 : Heap) (locs1 : List Loc) (ls1 : Array Slot) (v2 : vSt) (x2 : gX), v2 = (flc_23 i xs v x).1 → x2 = (flc_23 i xs v x).2 → Hp G da1 v2 x2 H1 → va_S (gA G) s.heap H1 locs1 → lv_has ls1 8 [(0, .ref b), (1, .ref (ga G 448)), (2, .ref (ga G 461)), (3, .ref (ga G 468)), (4, .ref (ga G 469)), (5, .int i)] → W p l e room_1 s m args below meth c H1 locs1 c1 c1 Q (F0 m 4036 ls1 [])) : W p l e room_1 s m args below meth c H locs c0 c0 Q (F0 m 1669 ls []) := by
  have hx := X.1
  have hb := X.2.1
  have hown := X.2.2.2.1
  have hts := X.2.2.2.2.1
  unfold olc_23 at ho
  refine lv_aload_n hx hb dL_law_1669 rfl (lv_at hl 1 rfl) ?_
  refine lv_aload_n hx hb dL_law_1670 rfl (lv_at hl 0 rfl) ?_
  refine lv_iload hx hb dL_law_1671 (lv_at hl 5 rfl) ?_
  refine lv_iconst (v := 1) hx hb dL_law_1673 (by decide) ?_
  refine lv_iadd hx hb dL_law_1674 ?_
  refine va_sld hx hb hX hbl hbA hS (sx hi 1 (by decide)) dL_law_1675 ?_
  refine lv_aload_n hx hb dL_law_1676 rfl (lv_at hl 0 rfl) ?_
  refine lv_iload hx hb dL_law_1677 (lv_at hl 5 rfl) ?_
  refine lv_iconst (v := 2) hx hb dL_law_1679 (by decide) ?_
  refine lv_iadd hx hb dL_law_1680 ?_
  refine va_sld hx hb hX hbl hbA hS (sx hi 2 (by decide)) dL_law_1681 ?_
  refine lv_aload_n hx hb dL_law_1682 rfl (lv_at hl 0 rfl) ?_
  refine lv_iload hx hb dL_law_1683 (lv_at hl 5 rfl) ?_
  refine lv_iconst (v := 3) hx hb dL_law_1685 (by decide) ?_
  refine lv_iadd hx hb dL_law_1686 ?_
  refine va_sld hx hb hX hbl hbA hS (sx hi 3 (by decide)) dL_law_1687 ?_
  refine lv_aload_n hx hb dL_law_1688 rfl (lv_at hl 3 rfl) ?_
  have hq1 := ho.1
  have ho := ho.2
  have hq2 := ho.1
  have ho := ho.2
  have hq3 := ho.1
  have ho := ho.2
  refine k_L_readingFor hst X hS hN hH kd_448 kd_468 hq1 t_ml_VernierDrawersLaw_282 hl.1 (Nat.le_of_ble_eq_true rfl) ⟨Nat.le_of_ble_eq_true rfl, Nat.le_of_ble_eq_true rfl⟩ ⟨hq3, (le_sl hq3)⟩ dL_law_1689 (fun da H locs v4 x5 ev4 ex5 hH hS => ?_)
  have ho := ho v4 ev4 x5 ex5
  obtain ⟨y6, ey6⟩ : ∃ z : Int32, z = (fL_readingFor 448 (xs (i + 1 : Int32).toNatClampNeg) (xs (i + 2 : Int32).toNatClampNeg) (xs (i + 3 : Int32).toNatClampNeg) 468 v x).1 := ⟨_, rfl⟩
  rw [← ey6]
  have ho := ho y6 ey6
  refine lv_istore (lv' := [(6, .int y6), (0, .ref b), (1, .ref (ga G 448)), (2, .ref (ga G 461)), (3, .ref (ga G 468)), (4, .ref (ga G 469)), (5, .int i)]) hx hb dL_law_1692 hl (by decide) rfl (fun ls hl => ?_)
  refine lv_aload_n hx hb dL_law_1694 rfl (lv_at hl 3 rfl) ?_
  refine lv_aload_n hx hb dL_law_1695 rfl (lv_at hl 1 rfl) ?_
  refine lv_iload hx hb dL_law_1696 (lv_at hl 6 rfl) ?_
  refine lv_iconst (v := 1) hx hb dL_law_1698 (by decide) ?_
  refine lv_iadd hx hb dL_law_1699 ?_
  refine va_sld hx hb hX hbl hbA hS (sx hi 1 (by decide)) dL_law_1700 ?_
  refine lv_aload_n hx hb dL_law_1701 rfl (lv_at hl 1 rfl) ?_
  refine lv_iload hx hb dL_law_1702 (lv_at hl 6 rfl) ?_
  refine lv_iconst (v := 2) hx hb dL_law_1704 (by decide) ?_
  refine lv_iadd hx hb dL_law_1705 ?_
  refine va_sld hx hb hX hbl hbA hS (sx hi 2 (by decide)) dL_law_1706 ?_
  refine lv_aload_n hx hb dL_law_1707 rfl (lv_at hl 1 rfl) ?_
  refine lv_iload hx hb dL_law_1708 (lv_at hl 6 rfl) ?_
  refine lv_iconst (v := 3) hx hb dL_law_1710 (by decide) ?_
  refine lv_iadd hx hb dL_law_1711 ?_
  refine va_sld hx hb hX hbl hbA hS (sx hi 3 (by decide)) dL_law_1712 ?_
  have hq7 := ho.1
  have ho := ho.2
  refine k_X11_readingFor X hS hH kd_461 hq7 t_ml_VernierDrawersLaw_284 hl.1 (Nat.le_of_ble_eq_true rfl) ⟨Nat.le_of_ble_eq_true rfl, Nat.le_of_ble_eq_true rfl⟩ ⟨hq3, (le_sl hq3)⟩ dL_law_1713 (fun da H locs v8 ev8 hH hS => ?_)
  have ho := ho v8 ev8
  obtain ⟨y9, ey9⟩ : ∃ z : Int32, z = (fX11_readingFor 461 (xs (i + 1 : Int32).toNatClampNeg) (xs (i + 2 : Int32).toNatClampNeg) (xs (i + 3 : Int32).toNatClampNeg) v4).1 := ⟨_, rfl⟩
  rw [← ey9]
  have ho := ho y9 ey9
  refine lv_istore (lv' := [(7, .int y9), (6, .int y6), (0, .ref b), (1, .ref (ga G 448)), (2, .ref (ga G 461)), (3, .ref (ga G 468)), (4, .ref (ga G 469)), (5, .int i)]) hx hb dL_law_1716 hl (by decide) rfl (fun ls hl => ?_)
  refine lv_aload_n hx hb dL_law_1718 rfl (lv_at hl 4 rfl) ?_
  refine k_X11_thrown X hS hH kd_461 t_ml_VernierDrawersLaw_207 hl.1 (Nat.le_of_ble_eq_true rfl) ⟨Nat.le_of_ble_eq_true rfl, Nat.le_of_ble_eq_true rfl⟩ ⟨hq3, (le_sl hq3)⟩ dL_law_1719 ?_
  refine lv_iload hx hb dL_law_1722 (lv_at hl 1 rfl) ?_
  refine lv_icmp_eq (tgt := 1729) hx hb dL_law_1724 (by decide) (fun c10 => ?_) (fun c10 => ?_)
  · have ho := ho.1 c10
    refine lv_iload hx hb dL_law_1729 (lv_at hl 1 rfl) ?_
    refine lv_if_ne (tgt := 1746) hx hb dL_law_1731 (by decide) (fun c11 => ?_) (fun c11 => ?_)
    · have ho := ho.2 c11
      refine lv_goto (tgt := 4036) hx hb dL_law_1746 (by decide) ?_
      have hq12 := ho
      refine W.widen (k := c1) (n := c1) hq12 hq12 ?_
      replace ev4 := Eq.symm ev4
      replace ex5 := Eq.symm ex5
      replace ey6 := Eq.symm ey6
      replace ev8 := Eq.symm ev8
      replace ey9 := Eq.symm ey9
      subst ev4 ex5 ey6 ev8 ey9
      exact E _ _ _ _ _ _ (pr1 ((flc_23.eq_1 _ _ _ _).trans ((if_pos c10).trans ((if_neg c11).trans rfl)))) (pr2 ((flc_23.eq_1 _ _ _ _).trans ((if_pos c10).trans ((if_neg c11).trans rfl)))) hH hS (lv_sub hl [2, 3, 4, 5, 6, 7] rfl)
    · have ho := ho.1 c11
      refine lv_aload_n hx hb dL_law_1734 rfl (lv_at hl 5 rfl) ?_
      refine lv_iconst (v := 0) hx hb dL_law_1735 (by decide) ?_
      refine lald_34 X hH kd_468 (i_in (by decide) (by decide)) dL_law_1736 ?_
      refine lv_iload hx hb dL_law_1737 (lv_at hl 0 rfl) ?_
      refine lv_i2l (v := (y9 : Int32).toInt64) hx hb dL_law_1739 rfl ?_
      refine W.lcmp hx hb dL_law_1740 ?_
      refine lv_if_eq (tgt := 1746) hx hb dL_law_1741 (by decide) (fun c13 => ?_) (fun c13 => ?_)
      · have ho := ho.1 c13
        refine lv_goto (tgt := 4036) hx hb dL_law_1746 (by decide) ?_
        have hq14 := ho
        refine W.widen (k := c1) (n := c1) hq14 hq14 ?_
        replace ev4 := Eq.symm ev4
        replace ex5 := Eq.symm ex5
        replace ey6 := Eq.symm ey6
        replace ev8 := Eq.symm ev8
        replace ey9 := Eq.symm ey9
        subst ev4 ex5 ey6 ev8 ey9
        exact E _ _ _ _ _ _ (pr1 ((flc_23.eq_1 _ _ _ _).trans ((if_pos c10).trans ((if_pos c11).trans ((if_pos c13).trans rfl))))) (pr2 ((flc_23.eq_1 _ _ _ _).trans ((if_pos c10).trans ((if_pos c11).trans ((if_pos c13).trans rfl))))) hH hS (lv_sub hl [2, 3, 4, 5, 6, 7] rfl)
      · have ho := ho.2 c13
        have hq15 := ho
        exact hq15.elim
  · have ho := ho.2 c10
    have hq16 := ho
    exact hq16.elim
