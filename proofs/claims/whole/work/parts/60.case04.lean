/-! the law's cases -/
theorem dL_law_2250 : decode cL_law 2250 = .ok (.aload_n 1, 1) := by decide +kernel
theorem dL_law_2251 : decode cL_law 2251 = .ok (.aload_n 0, 1) := by decide +kernel
theorem dL_law_2252 : decode cL_law 2252 = .ok (.iload 5, 2) := by decide +kernel
theorem dL_law_2254 : decode cL_law 2254 = .ok (.iconst 1, 1) := by decide +kernel
theorem dL_law_2255 : decode cL_law 2255 = .ok (.iadd, 1) := by decide +kernel
theorem dL_law_2256 : decode cL_law 2256 = .ok (.iaload, 1) := by decide +kernel
theorem dL_law_2257 : decode cL_law 2257 = .ok (.aload_n 3, 1) := by decide +kernel
theorem dL_law_2258 : decode cL_law 2258 = .ok (.invokestatic 310, 3) := by decide +kernel
theorem dL_law_2261 : decode cL_law 2261 = .ok (.istore 6, 2) := by decide +kernel
theorem dL_law_2263 : decode cL_law 2263 = .ok (.aload_n 2, 1) := by decide +kernel
theorem dL_law_2264 : decode cL_law 2264 = .ok (.aload_n 0, 1) := by decide +kernel
theorem dL_law_2265 : decode cL_law 2265 = .ok (.iload 5, 2) := by decide +kernel
theorem dL_law_2267 : decode cL_law 2267 = .ok (.iconst 1, 1) := by decide +kernel
theorem dL_law_2268 : decode cL_law 2268 = .ok (.iadd, 1) := by decide +kernel
theorem dL_law_2269 : decode cL_law 2269 = .ok (.iaload, 1) := by decide +kernel
theorem dL_law_2270 : decode cL_law 2270 = .ok (.invokevirtual 312, 3) := by decide +kernel
theorem dL_law_2273 : decode cL_law 2273 = .ok (.istore 7, 2) := by decide +kernel
theorem dL_law_2275 : decode cL_law 2275 = .ok (.aload_n 2, 1) := by decide +kernel
theorem dL_law_2276 : decode cL_law 2276 = .ok (.invokevirtual 207, 3) := by decide +kernel
theorem dL_law_2279 : decode cL_law 2279 = .ok (.iload 6, 2) := by decide +kernel
theorem dL_law_2281 : decode cL_law 2281 = .ok (.if_icmp .eq 5, 3) := by decide +kernel
theorem dL_law_2286 : decode cL_law 2286 = .ok (.iload 6, 2) := by decide +kernel
theorem dL_law_2288 : decode cL_law 2288 = .ok (.ifCond .ne 15, 3) := by decide +kernel
theorem dL_law_2291 : decode cL_law 2291 = .ok (.aload_n 3, 1) := by decide +kernel
theorem dL_law_2292 : decode cL_law 2292 = .ok (.iconst 0, 1) := by decide +kernel
theorem dL_law_2293 : decode cL_law 2293 = .ok (.laload, 1) := by decide +kernel
theorem dL_law_2294 : decode cL_law 2294 = .ok (.iload 7, 2) := by decide +kernel
theorem dL_law_2296 : decode cL_law 2296 = .ok (.i2l, 1) := by decide +kernel
theorem dL_law_2297 : decode cL_law 2297 = .ok (.lcmp, 1) := by decide +kernel
theorem dL_law_2298 : decode cL_law 2298 = .ok (.ifCond .eq 5, 3) := by decide +kernel
theorem dL_law_2303 : decode cL_law 2303 = .ok (.goto 1733, 3) := by decide +kernel
set_option maxHeartbeats 8000000 in
set_option maxRecDepth 100000 in
theorem lc_32 {p : Program} {l : Launch} {e : Env} {s : State} {m : MethodId} {args : Array Value} {below : List Frame} {meth : Method} {c : Code} {H : Heap} {locs : List Loc} {Q : State → Prop} {ls : Array Slot} {G : gG} {da : Nat → Nat} {v : vSt} {x : gX} (hst : l.stackTraces = false) (X : CX G p s m args c cL_law 8 RL) (hN : NC s) {b L : Nat} {xs : Nat → Int32} (hX : va_X b L xs s s.heap) (hbl : b < s.heap.size) (hbA : ¬ gA G b) {i : Int32} (hi : 0 ≤ i.toInt ∧ i.toInt + 5 ≤ (L : Int) ∧ L ≤ 2560) (hH : Hp G da v x H) (hS : va_S (gA G) s.heap H locs) (hl : lv_has ls 8 [(0, .ref b), (1, .ref (ga G 448)), (2, .ref (ga G 461)), (3, .ref (ga G 468)), (4, .ref (ga G 469)), (5, .int i)]) {c0 c1 : Nat} (ho : olc_32 i xs v x c0 c1) (E : ∀ (da1 : Nat → Nat) (H1 : Heap) (locs1 : List Loc) (ls1 : Array Slot) (v2 : vSt) (x2 : gX), v2 = (flc_32 i xs v x).1 → x2 = (flc_32 i xs v x).2 → Hp G da1 v2 x2 H1 → va_S (gA G) s.heap H1 locs1 → lv_has ls1 8 [(0, .ref b), (1, .ref (ga G 448)), (2, .ref (ga G 461)), (3, .ref (ga G 468)), (4, .ref (ga G 469)), (5, .int i)] → W p l e room_1 s m args below meth c H1 locs1 c1 c1 Q (F0 m 4036 ls1 [])) : W p l e room_1 s m args below meth c H locs c0 c0 Q (F0 m 2250 ls []) := by
  have hx := X.1
  have hb := X.2.1
  have hown := X.2.2.2.1
  have hts := X.2.2.2.2.1
  unfold olc_32 at ho
  refine lv_aload_n hx hb dL_law_2250 rfl (lv_at hl 1 rfl) ?_
  refine lv_aload_n hx hb dL_law_2251 rfl (lv_at hl 0 rfl) ?_
  refine lv_iload hx hb dL_law_2252 (lv_at hl 5 rfl) ?_
  refine lv_iconst (v := 1) hx hb dL_law_2254 (by decide) ?_
  refine lv_iadd hx hb dL_law_2255 ?_
  refine va_sld hx hb hX hbl hbA hS (sx hi 1 (by decide)) dL_law_2256 ?_
  refine lv_aload_n hx hb dL_law_2257 rfl (lv_at hl 3 rfl) ?_
  have hq1 := ho.1
  have ho := ho.2
  have hq2 := ho.1
  have ho := ho.2
  have hq3 := ho.1
  have ho := ho.2
  refine k_L_fewestByTrying hst X hS hN hH kd_448 kd_468 hq1 t_ml_VernierDrawersLaw_310 hl.1 (Nat.le_of_ble_eq_true rfl) ⟨Nat.le_of_ble_eq_true rfl, Nat.le_of_ble_eq_true rfl⟩ ⟨hq3, (le_sl hq3)⟩ dL_law_2258 (fun da H locs v4 x5 ev4 ex5 hH hS => ?_)
  have ho := ho v4 ev4 x5 ex5
  refine lv_istore (lv' := [(6, .int ((fL_fewestByTrying 448 (xs (i + 1 : Int32).toNatClampNeg) 468 v x).1)), (0, .ref b), (1, .ref (ga G 448)), (2, .ref (ga G 461)), (3, .ref (ga G 468)), (4, .ref (ga G 469)), (5, .int i)]) hx hb dL_law_2261 hl (by decide) rfl (fun ls hl => ?_)
  refine lv_aload_n hx hb dL_law_2263 rfl (lv_at hl 3 rfl) ?_
  refine lv_aload_n hx hb dL_law_2264 rfl (lv_at hl 1 rfl) ?_
  refine lv_iload hx hb dL_law_2265 (lv_at hl 6 rfl) ?_
  refine lv_iconst (v := 1) hx hb dL_law_2267 (by decide) ?_
  refine lv_iadd hx hb dL_law_2268 ?_
  refine va_sld hx hb hX hbl hbA hS (sx hi 1 (by decide)) dL_law_2269 ?_
  have hq6 := ho.1
  have ho := ho.2
  refine k_X11_fewestByTrying X hS hH kd_461 hq6 t_ml_VernierDrawersLaw_312 hl.1 (Nat.le_of_ble_eq_true rfl) ⟨Nat.le_of_ble_eq_true rfl, Nat.le_of_ble_eq_true rfl⟩ ⟨hq3, (le_sl hq3)⟩ dL_law_2270 (fun da H locs v7 ev7 hH hS => ?_)
  have ho := ho v7 ev7
  refine lv_istore (lv' := [(7, .int ((fX11_fewestByTrying 461 (xs (i + 1 : Int32).toNatClampNeg) v4).1)), (6, .int ((fL_fewestByTrying 448 (xs (i + 1 : Int32).toNatClampNeg) 468 v x).1)), (0, .ref b), (1, .ref (ga G 448)), (2, .ref (ga G 461)), (3, .ref (ga G 468)), (4, .ref (ga G 469)), (5, .int i)]) hx hb dL_law_2273 hl (by decide) rfl (fun ls hl => ?_)
  refine lv_aload_n hx hb dL_law_2275 rfl (lv_at hl 4 rfl) ?_
  refine k_X11_thrown X hS hH kd_461 t_ml_VernierDrawersLaw_207 hl.1 (Nat.le_of_ble_eq_true rfl) ⟨Nat.le_of_ble_eq_true rfl, Nat.le_of_ble_eq_true rfl⟩ ⟨hq3, (le_sl hq3)⟩ dL_law_2276 ?_
  refine lv_iload hx hb dL_law_2279 (lv_at hl 1 rfl) ?_
  refine lv_icmp_eq (tgt := 2286) hx hb dL_law_2281 (by decide) (fun c8 => ?_) (fun c8 => ?_)
  · have ho := ho.1 c8
    refine lv_iload hx hb dL_law_2286 (lv_at hl 1 rfl) ?_
    refine lv_if_ne (tgt := 2303) hx hb dL_law_2288 (by decide) (fun c9 => ?_) (fun c9 => ?_)
    · have ho := ho.2 c9
      refine lv_goto (tgt := 4036) hx hb dL_law_2303 (by decide) ?_
      have hq10 := ho
      refine W.widen (k := c1) (n := c1) hq10 hq10 ?_
      replace ev4 := Eq.symm ev4
      replace ex5 := Eq.symm ex5
      replace ev7 := Eq.symm ev7
      subst ev4 ex5 ev7
      exact E _ _ _ _ _ _ (pr1 ((flc_32.eq_1 _ _ _ _).trans ((if_pos c8).trans ((if_neg c9).trans rfl)))) (pr2 ((flc_32.eq_1 _ _ _ _).trans ((if_pos c8).trans ((if_neg c9).trans rfl)))) hH hS (lv_sub hl [2, 3, 4, 5, 6, 7] rfl)
    · have ho := ho.1 c9
      refine lv_aload_n hx hb dL_law_2291 rfl (lv_at hl 5 rfl) ?_
      refine lv_iconst (v := 0) hx hb dL_law_2292 (by decide) ?_
      refine lald_34 X hH kd_468 (i_in (by decide) (by decide)) dL_law_2293 ?_
      refine lv_iload hx hb dL_law_2294 (lv_at hl 0 rfl) ?_
      refine lv_i2l (v := ((fX11_fewestByTrying 461 (xs (i + 1 : Int32).toNatClampNeg) v4).1 : Int32).toInt64) hx hb dL_law_2296 rfl ?_
      refine W.lcmp hx hb dL_law_2297 ?_
      refine lv_if_eq (tgt := 2303) hx hb dL_law_2298 (by decide) (fun c11 => ?_) (fun c11 => ?_)
      · have ho := ho.1 c11
        refine lv_goto (tgt := 4036) hx hb dL_law_2303 (by decide) ?_
        have hq12 := ho
        refine W.widen (k := c1) (n := c1) hq12 hq12 ?_
        replace ev4 := Eq.symm ev4
        replace ex5 := Eq.symm ex5
        replace ev7 := Eq.symm ev7
        subst ev4 ex5 ev7
        exact E _ _ _ _ _ _ (pr1 ((flc_32.eq_1 _ _ _ _).trans ((if_pos c8).trans ((if_pos c9).trans ((if_pos c11).trans rfl))))) (pr2 ((flc_32.eq_1 _ _ _ _).trans ((if_pos c8).trans ((if_pos c9).trans ((if_pos c11).trans rfl))))) hH hS (lv_sub hl [2, 3, 4, 5, 6, 7] rfl)
      · have ho := ho.2 c11
        have hq13 := ho
        exact hq13.elim
  · have ho := ho.2 c8
    have hq14 := ho
    exact hq14.elim
theorem dL_law_2306 : decode cL_law 2306 = .ok (.aload_n 1, 1) := by decide +kernel
theorem dL_law_2307 : decode cL_law 2307 = .ok (.aload_n 0, 1) := by decide +kernel
theorem dL_law_2308 : decode cL_law 2308 = .ok (.iload 5, 2) := by decide +kernel
theorem dL_law_2310 : decode cL_law 2310 = .ok (.iconst 1, 1) := by decide +kernel
theorem dL_law_2311 : decode cL_law 2311 = .ok (.iadd, 1) := by decide +kernel
theorem dL_law_2312 : decode cL_law 2312 = .ok (.iaload, 1) := by decide +kernel
theorem dL_law_2313 : decode cL_law 2313 = .ok (.aload_n 3, 1) := by decide +kernel
theorem dL_law_2314 : decode cL_law 2314 = .ok (.invokestatic 313, 3) := by decide +kernel
theorem dL_law_2317 : decode cL_law 2317 = .ok (.istore 6, 2) := by decide +kernel
theorem dL_law_2319 : decode cL_law 2319 = .ok (.aload_n 2, 1) := by decide +kernel
theorem dL_law_2320 : decode cL_law 2320 = .ok (.aload_n 0, 1) := by decide +kernel
theorem dL_law_2321 : decode cL_law 2321 = .ok (.iload 5, 2) := by decide +kernel
theorem dL_law_2323 : decode cL_law 2323 = .ok (.iconst 1, 1) := by decide +kernel
theorem dL_law_2324 : decode cL_law 2324 = .ok (.iadd, 1) := by decide +kernel
theorem dL_law_2325 : decode cL_law 2325 = .ok (.iaload, 1) := by decide +kernel
theorem dL_law_2326 : decode cL_law 2326 = .ok (.invokevirtual 315, 3) := by decide +kernel
theorem dL_law_2329 : decode cL_law 2329 = .ok (.istore 7, 2) := by decide +kernel
theorem dL_law_2331 : decode cL_law 2331 = .ok (.aload_n 2, 1) := by decide +kernel
theorem dL_law_2332 : decode cL_law 2332 = .ok (.invokevirtual 207, 3) := by decide +kernel
theorem dL_law_2335 : decode cL_law 2335 = .ok (.iload 6, 2) := by decide +kernel
theorem dL_law_2337 : decode cL_law 2337 = .ok (.if_icmp .eq 5, 3) := by decide +kernel
theorem dL_law_2342 : decode cL_law 2342 = .ok (.iload 6, 2) := by decide +kernel
theorem dL_law_2344 : decode cL_law 2344 = .ok (.ifCond .ne 15, 3) := by decide +kernel
theorem dL_law_2347 : decode cL_law 2347 = .ok (.aload_n 3, 1) := by decide +kernel
theorem dL_law_2348 : decode cL_law 2348 = .ok (.iconst 0, 1) := by decide +kernel
theorem dL_law_2349 : decode cL_law 2349 = .ok (.laload, 1) := by decide +kernel
theorem dL_law_2350 : decode cL_law 2350 = .ok (.iload 7, 2) := by decide +kernel
theorem dL_law_2352 : decode cL_law 2352 = .ok (.i2l, 1) := by decide +kernel
theorem dL_law_2353 : decode cL_law 2353 = .ok (.lcmp, 1) := by decide +kernel
theorem dL_law_2354 : decode cL_law 2354 = .ok (.ifCond .eq 5, 3) := by decide +kernel
theorem dL_law_2359 : decode cL_law 2359 = .ok (.goto 1677, 3) := by decide +kernel
set_option maxHeartbeats 8000000 in
set_option maxRecDepth 100000 in
theorem lc_33 {p : Program} {l : Launch} {e : Env} {s : State} {m : MethodId} {args : Array Value} {below : List Frame} {meth : Method} {c : Code} {H : Heap} {locs : List Loc} {Q : State → Prop} {ls : Array Slot} {G : gG} {da : Nat → Nat} {v : vSt} {x : gX} (hst : l.stackTraces = false) (X : CX G p s m args c cL_law 8 RL) (hN : NC s) {b L : Nat} {xs : Nat → Int32} (hX : va_X b L xs s s.heap) (hbl : b < s.heap.size) (hbA : ¬ gA G b) {i : Int32} (hi : 0 ≤ i.toInt ∧ i.toInt + 5 ≤ (L : Int) ∧ L ≤ 2560) (hH : Hp G da v x H) (hS : va_S (gA G) s.heap H locs) (hl : lv_has ls 8 [(0, .ref b), (1, .ref (ga G 448)), (2, .ref (ga G 461)), (3, .ref (ga G 468)), (4, .ref (ga G 469)), (5, .int i)]) {c0 c1 : Nat} (ho : olc_33 i xs v x c0 c1) (E : ∀ (da1 : Nat → Nat) (H1 : Heap) (locs1 : List Loc) (ls1 : Array Slot) (v2 : vSt) (x2 : gX), v2 = (flc_33 i xs v x).1 → x2 = (flc_33 i xs v x).2 → Hp G da1 v2 x2 H1 → va_S (gA G) s.heap H1 locs1 → lv_has ls1 8 [(0, .ref b), (1, .ref (ga G 448)), (2, .ref (ga G 461)), (3, .ref (ga G 468)), (4, .ref (ga G 469)), (5, .int i)] → W p l e room_1 s m args below meth c H1 locs1 c1 c1 Q (F0 m 4036 ls1 [])) : W p l e room_1 s m args below meth c H locs c0 c0 Q (F0 m 2306 ls []) := by
  have hx := X.1
  have hb := X.2.1
  have hown := X.2.2.2.1
  have hts := X.2.2.2.2.1
  unfold olc_33 at ho
  refine lv_aload_n hx hb dL_law_2306 rfl (lv_at hl 1 rfl) ?_
  refine lv_aload_n hx hb dL_law_2307 rfl (lv_at hl 0 rfl) ?_
  refine lv_iload hx hb dL_law_2308 (lv_at hl 5 rfl) ?_
  refine lv_iconst (v := 1) hx hb dL_law_2310 (by decide) ?_
  refine lv_iadd hx hb dL_law_2311 ?_
  refine va_sld hx hb hX hbl hbA hS (sx hi 1 (by decide)) dL_law_2312 ?_
  refine lv_aload_n hx hb dL_law_2313 rfl (lv_at hl 3 rfl) ?_
  have hq1 := ho.1
  have ho := ho.2
  have hq2 := ho.1
  have ho := ho.2
  have hq3 := ho.1
  have ho := ho.2
  refine k_L_stackFor hst X hS hN hH kd_448 kd_468 hq1 t_ml_VernierDrawersLaw_313 hl.1 (Nat.le_of_ble_eq_true rfl) ⟨Nat.le_of_ble_eq_true rfl, Nat.le_of_ble_eq_true rfl⟩ ⟨hq3, (le_sl hq3)⟩ dL_law_2314 (fun da H locs v4 x5 ev4 ex5 hH hS => ?_)
  have ho := ho v4 ev4 x5 ex5
  refine lv_istore (lv' := [(6, .int ((fL_stackFor 448 (xs (i + 1 : Int32).toNatClampNeg) 468 v x).1)), (0, .ref b), (1, .ref (ga G 448)), (2, .ref (ga G 461)), (3, .ref (ga G 468)), (4, .ref (ga G 469)), (5, .int i)]) hx hb dL_law_2317 hl (by decide) rfl (fun ls hl => ?_)
  refine lv_aload_n hx hb dL_law_2319 rfl (lv_at hl 3 rfl) ?_
  refine lv_aload_n hx hb dL_law_2320 rfl (lv_at hl 1 rfl) ?_
  refine lv_iload hx hb dL_law_2321 (lv_at hl 6 rfl) ?_
  refine lv_iconst (v := 1) hx hb dL_law_2323 (by decide) ?_
  refine lv_iadd hx hb dL_law_2324 ?_
  refine va_sld hx hb hX hbl hbA hS (sx hi 1 (by decide)) dL_law_2325 ?_
  have hq6 := ho.1
  have ho := ho.2
  refine k_X11_stackFor X hS hH kd_461 hq6 t_ml_VernierDrawersLaw_315 hl.1 (Nat.le_of_ble_eq_true rfl) ⟨Nat.le_of_ble_eq_true rfl, Nat.le_of_ble_eq_true rfl⟩ ⟨hq3, (le_sl hq3)⟩ dL_law_2326 (fun da H locs v7 ev7 hH hS => ?_)
  have ho := ho v7 ev7
  refine lv_istore (lv' := [(7, .int ((fX11_stackFor 461 (xs (i + 1 : Int32).toNatClampNeg) v4).1)), (6, .int ((fL_stackFor 448 (xs (i + 1 : Int32).toNatClampNeg) 468 v x).1)), (0, .ref b), (1, .ref (ga G 448)), (2, .ref (ga G 461)), (3, .ref (ga G 468)), (4, .ref (ga G 469)), (5, .int i)]) hx hb dL_law_2329 hl (by decide) rfl (fun ls hl => ?_)
  refine lv_aload_n hx hb dL_law_2331 rfl (lv_at hl 4 rfl) ?_
  refine k_X11_thrown X hS hH kd_461 t_ml_VernierDrawersLaw_207 hl.1 (Nat.le_of_ble_eq_true rfl) ⟨Nat.le_of_ble_eq_true rfl, Nat.le_of_ble_eq_true rfl⟩ ⟨hq3, (le_sl hq3)⟩ dL_law_2332 ?_
  refine lv_iload hx hb dL_law_2335 (lv_at hl 1 rfl) ?_
  refine lv_icmp_eq (tgt := 2342) hx hb dL_law_2337 (by decide) (fun c8 => ?_) (fun c8 => ?_)
  · have ho := ho.1 c8
    refine lv_iload hx hb dL_law_2342 (lv_at hl 1 rfl) ?_
    refine lv_if_ne (tgt := 2359) hx hb dL_law_2344 (by decide) (fun c9 => ?_) (fun c9 => ?_)
    · have ho := ho.2 c9
      refine lv_goto (tgt := 4036) hx hb dL_law_2359 (by decide) ?_
      have hq10 := ho
      refine W.widen (k := c1) (n := c1) hq10 hq10 ?_
      replace ev4 := Eq.symm ev4
      replace ex5 := Eq.symm ex5
      replace ev7 := Eq.symm ev7
      subst ev4 ex5 ev7
      exact E _ _ _ _ _ _ (pr1 ((flc_33.eq_1 _ _ _ _).trans ((if_pos c8).trans ((if_neg c9).trans rfl)))) (pr2 ((flc_33.eq_1 _ _ _ _).trans ((if_pos c8).trans ((if_neg c9).trans rfl)))) hH hS (lv_sub hl [2, 3, 4, 5, 6, 7] rfl)
    · have ho := ho.1 c9
      refine lv_aload_n hx hb dL_law_2347 rfl (lv_at hl 5 rfl) ?_
      refine lv_iconst (v := 0) hx hb dL_law_2348 (by decide) ?_
      refine lald_34 X hH kd_468 (i_in (by decide) (by decide)) dL_law_2349 ?_
      refine lv_iload hx hb dL_law_2350 (lv_at hl 0 rfl) ?_
      refine lv_i2l (v := ((fX11_stackFor 461 (xs (i + 1 : Int32).toNatClampNeg) v4).1 : Int32).toInt64) hx hb dL_law_2352 rfl ?_
      refine W.lcmp hx hb dL_law_2353 ?_
      refine lv_if_eq (tgt := 2359) hx hb dL_law_2354 (by decide) (fun c11 => ?_) (fun c11 => ?_)
      · have ho := ho.1 c11
        refine lv_goto (tgt := 4036) hx hb dL_law_2359 (by decide) ?_
        have hq12 := ho
        refine W.widen (k := c1) (n := c1) hq12 hq12 ?_
        replace ev4 := Eq.symm ev4
        replace ex5 := Eq.symm ex5
        replace ev7 := Eq.symm ev7
        subst ev4 ex5 ev7
        exact E _ _ _ _ _ _ (pr1 ((flc_33.eq_1 _ _ _ _).trans ((if_pos c8).trans ((if_pos c9).trans ((if_pos c11).trans rfl))))) (pr2 ((flc_33.eq_1 _ _ _ _).trans ((if_pos c8).trans ((if_pos c9).trans ((if_pos c11).trans rfl))))) hH hS (lv_sub hl [2, 3, 4, 5, 6, 7] rfl)
      · have ho := ho.2 c11
        have hq13 := ho
        exact hq13.elim
  · have ho := ho.2 c8
    have hq14 := ho
    exact hq14.elim
theorem dL_law_2362 : decode cL_law 2362 = .ok (.aload_n 1, 1) := by decide +kernel
theorem dL_law_2363 : decode cL_law 2363 = .ok (.aload_n 0, 1) := by decide +kernel
theorem dL_law_2364 : decode cL_law 2364 = .ok (.iload 5, 2) := by decide +kernel
theorem dL_law_2366 : decode cL_law 2366 = .ok (.iconst 1, 1) := by decide +kernel
theorem dL_law_2367 : decode cL_law 2367 = .ok (.iadd, 1) := by decide +kernel
theorem dL_law_2368 : decode cL_law 2368 = .ok (.iaload, 1) := by decide +kernel
theorem dL_law_2369 : decode cL_law 2369 = .ok (.aload_n 3, 1) := by decide +kernel
theorem dL_law_2370 : decode cL_law 2370 = .ok (.invokestatic 316, 3) := by decide +kernel
theorem dL_law_2373 : decode cL_law 2373 = .ok (.istore 6, 2) := by decide +kernel
theorem dL_law_2375 : decode cL_law 2375 = .ok (.aload_n 2, 1) := by decide +kernel
theorem dL_law_2376 : decode cL_law 2376 = .ok (.aload_n 0, 1) := by decide +kernel
theorem dL_law_2377 : decode cL_law 2377 = .ok (.iload 5, 2) := by decide +kernel
theorem dL_law_2379 : decode cL_law 2379 = .ok (.iconst 1, 1) := by decide +kernel
theorem dL_law_2380 : decode cL_law 2380 = .ok (.iadd, 1) := by decide +kernel
theorem dL_law_2381 : decode cL_law 2381 = .ok (.iaload, 1) := by decide +kernel
theorem dL_law_2382 : decode cL_law 2382 = .ok (.invokevirtual 318, 3) := by decide +kernel
theorem dL_law_2385 : decode cL_law 2385 = .ok (.istore 7, 2) := by decide +kernel
theorem dL_law_2387 : decode cL_law 2387 = .ok (.aload_n 2, 1) := by decide +kernel
theorem dL_law_2388 : decode cL_law 2388 = .ok (.invokevirtual 207, 3) := by decide +kernel
theorem dL_law_2391 : decode cL_law 2391 = .ok (.iload 6, 2) := by decide +kernel
theorem dL_law_2393 : decode cL_law 2393 = .ok (.if_icmp .eq 5, 3) := by decide +kernel
theorem dL_law_2398 : decode cL_law 2398 = .ok (.iload 6, 2) := by decide +kernel
theorem dL_law_2400 : decode cL_law 2400 = .ok (.ifCond .ne 15, 3) := by decide +kernel
theorem dL_law_2403 : decode cL_law 2403 = .ok (.aload_n 3, 1) := by decide +kernel
theorem dL_law_2404 : decode cL_law 2404 = .ok (.iconst 0, 1) := by decide +kernel
theorem dL_law_2405 : decode cL_law 2405 = .ok (.laload, 1) := by decide +kernel
theorem dL_law_2406 : decode cL_law 2406 = .ok (.iload 7, 2) := by decide +kernel
theorem dL_law_2408 : decode cL_law 2408 = .ok (.i2l, 1) := by decide +kernel
theorem dL_law_2409 : decode cL_law 2409 = .ok (.lcmp, 1) := by decide +kernel
theorem dL_law_2410 : decode cL_law 2410 = .ok (.ifCond .eq 5, 3) := by decide +kernel
theorem dL_law_2415 : decode cL_law 2415 = .ok (.goto 1621, 3) := by decide +kernel
set_option maxHeartbeats 8000000 in
set_option maxRecDepth 100000 in
theorem lc_34 {p : Program} {l : Launch} {e : Env} {s : State} {m : MethodId} {args : Array Value} {below : List Frame} {meth : Method} {c : Code} {H : Heap} {locs : List Loc} {Q : State → Prop} {ls : Array Slot} {G : gG} {da : Nat → Nat} {v : vSt} {x : gX} (hst : l.stackTraces = false) (X : CX G p s m args c cL_law 8 RL) (hN : NC s) {b L : Nat} {xs : Nat → Int32} (hX : va_X b L xs s s.heap) (hbl : b < s.heap.size) (hbA : ¬ gA G b) {i : Int32} (hi : 0 ≤ i.toInt ∧ i.toInt + 5 ≤ (L : Int) ∧ L ≤ 2560) (hH : Hp G da v x H) (hS : va_S (gA G) s.heap H locs) (hl : lv_has ls 8 [(0, .ref b), (1, .ref (ga G 448)), (2, .ref (ga G 461)), (3, .ref (ga G 468)), (4, .ref (ga G 469)), (5, .int i)]) {c0 c1 : Nat} (ho : olc_34 i xs v x c0 c1) (E : ∀ (da1 : Nat → Nat) (H1 : Heap) (locs1 : List Loc) (ls1 : Array Slot) (v2 : vSt) (x2 : gX), v2 = (flc_34 i xs v x).1 → x2 = (flc_34 i xs v x).2 → Hp G da1 v2 x2 H1 → va_S (gA G) s.heap H1 locs1 → lv_has ls1 8 [(0, .ref b), (1, .ref (ga G 448)), (2, .ref (ga G 461)), (3, .ref (ga G 468)), (4, .ref (ga G 469)), (5, .int i)] → W p l e room_1 s m args below meth c H1 locs1 c1 c1 Q (F0 m 4036 ls1 [])) : W p l e room_1 s m args below meth c H locs c0 c0 Q (F0 m 2362 ls []) := by
  have hx := X.1
  have hb := X.2.1
  have hown := X.2.2.2.1
  have hts := X.2.2.2.2.1
  unfold olc_34 at ho
  refine lv_aload_n hx hb dL_law_2362 rfl (lv_at hl 1 rfl) ?_
  refine lv_aload_n hx hb dL_law_2363 rfl (lv_at hl 0 rfl) ?_
  refine lv_iload hx hb dL_law_2364 (lv_at hl 5 rfl) ?_
  refine lv_iconst (v := 1) hx hb dL_law_2366 (by decide) ?_
  refine lv_iadd hx hb dL_law_2367 ?_
  refine va_sld hx hb hX hbl hbA hS (sx hi 1 (by decide)) dL_law_2368 ?_
  refine lv_aload_n hx hb dL_law_2369 rfl (lv_at hl 3 rfl) ?_
  have hq1 := ho.1
  have ho := ho.2
  have hq2 := ho.1
  have ho := ho.2
  have hq3 := ho.1
  have ho := ho.2
  refine k_L_trueLength hst X hS hN hH kd_448 kd_468 hq1 t_ml_VernierDrawersLaw_316 hl.1 (Nat.le_of_ble_eq_true rfl) ⟨Nat.le_of_ble_eq_true rfl, Nat.le_of_ble_eq_true rfl⟩ ⟨hq3, (le_sl hq3)⟩ dL_law_2370 (fun da H locs v4 x5 ev4 ex5 hH hS => ?_)
  have ho := ho v4 ev4 x5 ex5
  refine lv_istore (lv' := [(6, .int ((fL_trueLength 448 (xs (i + 1 : Int32).toNatClampNeg) 468 v x).1)), (0, .ref b), (1, .ref (ga G 448)), (2, .ref (ga G 461)), (3, .ref (ga G 468)), (4, .ref (ga G 469)), (5, .int i)]) hx hb dL_law_2373 hl (by decide) rfl (fun ls hl => ?_)
  refine lv_aload_n hx hb dL_law_2375 rfl (lv_at hl 3 rfl) ?_
  refine lv_aload_n hx hb dL_law_2376 rfl (lv_at hl 1 rfl) ?_
  refine lv_iload hx hb dL_law_2377 (lv_at hl 6 rfl) ?_
  refine lv_iconst (v := 1) hx hb dL_law_2379 (by decide) ?_
  refine lv_iadd hx hb dL_law_2380 ?_
  refine va_sld hx hb hX hbl hbA hS (sx hi 1 (by decide)) dL_law_2381 ?_
  have hq6 := ho.1
  have ho := ho.2
  refine k_X11_trueLength X hS hH kd_461 hq6 t_ml_VernierDrawersLaw_318 hl.1 (Nat.le_of_ble_eq_true rfl) ⟨Nat.le_of_ble_eq_true rfl, Nat.le_of_ble_eq_true rfl⟩ ⟨hq3, (le_sl hq3)⟩ dL_law_2382 (fun da H locs v7 ev7 hH hS => ?_)
  have ho := ho v7 ev7
  refine lv_istore (lv' := [(7, .int ((fX11_trueLength 461 (xs (i + 1 : Int32).toNatClampNeg) v4).1)), (6, .int ((fL_trueLength 448 (xs (i + 1 : Int32).toNatClampNeg) 468 v x).1)), (0, .ref b), (1, .ref (ga G 448)), (2, .ref (ga G 461)), (3, .ref (ga G 468)), (4, .ref (ga G 469)), (5, .int i)]) hx hb dL_law_2385 hl (by decide) rfl (fun ls hl => ?_)
  refine lv_aload_n hx hb dL_law_2387 rfl (lv_at hl 4 rfl) ?_
  refine k_X11_thrown X hS hH kd_461 t_ml_VernierDrawersLaw_207 hl.1 (Nat.le_of_ble_eq_true rfl) ⟨Nat.le_of_ble_eq_true rfl, Nat.le_of_ble_eq_true rfl⟩ ⟨hq3, (le_sl hq3)⟩ dL_law_2388 ?_
  refine lv_iload hx hb dL_law_2391 (lv_at hl 1 rfl) ?_
  refine lv_icmp_eq (tgt := 2398) hx hb dL_law_2393 (by decide) (fun c8 => ?_) (fun c8 => ?_)
  · have ho := ho.1 c8
    refine lv_iload hx hb dL_law_2398 (lv_at hl 1 rfl) ?_
    refine lv_if_ne (tgt := 2415) hx hb dL_law_2400 (by decide) (fun c9 => ?_) (fun c9 => ?_)
    · have ho := ho.2 c9
      refine lv_goto (tgt := 4036) hx hb dL_law_2415 (by decide) ?_
      have hq10 := ho
      refine W.widen (k := c1) (n := c1) hq10 hq10 ?_
      replace ev4 := Eq.symm ev4
      replace ex5 := Eq.symm ex5
      replace ev7 := Eq.symm ev7
      subst ev4 ex5 ev7
      exact E _ _ _ _ _ _ (pr1 ((flc_34.eq_1 _ _ _ _).trans ((if_pos c8).trans ((if_neg c9).trans rfl)))) (pr2 ((flc_34.eq_1 _ _ _ _).trans ((if_pos c8).trans ((if_neg c9).trans rfl)))) hH hS (lv_sub hl [2, 3, 4, 5, 6, 7] rfl)
    · have ho := ho.1 c9
      refine lv_aload_n hx hb dL_law_2403 rfl (lv_at hl 5 rfl) ?_
      refine lv_iconst (v := 0) hx hb dL_law_2404 (by decide) ?_
      refine lald_34 X hH kd_468 (i_in (by decide) (by decide)) dL_law_2405 ?_
      refine lv_iload hx hb dL_law_2406 (lv_at hl 0 rfl) ?_
      refine lv_i2l (v := ((fX11_trueLength 461 (xs (i + 1 : Int32).toNatClampNeg) v4).1 : Int32).toInt64) hx hb dL_law_2408 rfl ?_
      refine W.lcmp hx hb dL_law_2409 ?_
      refine lv_if_eq (tgt := 2415) hx hb dL_law_2410 (by decide) (fun c11 => ?_) (fun c11 => ?_)
      · have ho := ho.1 c11
        refine lv_goto (tgt := 4036) hx hb dL_law_2415 (by decide) ?_
        have hq12 := ho
        refine W.widen (k := c1) (n := c1) hq12 hq12 ?_
        replace ev4 := Eq.symm ev4
        replace ex5 := Eq.symm ex5
        replace ev7 := Eq.symm ev7
        subst ev4 ex5 ev7
        exact E _ _ _ _ _ _ (pr1 ((flc_34.eq_1 _ _ _ _).trans ((if_pos c8).trans ((if_pos c9).trans ((if_pos c11).trans rfl))))) (pr2 ((flc_34.eq_1 _ _ _ _).trans ((if_pos c8).trans ((if_pos c9).trans ((if_pos c11).trans rfl))))) hH hS (lv_sub hl [2, 3, 4, 5, 6, 7] rfl)
      · have ho := ho.2 c11
        have hq13 := ho
        exact hq13.elim
  · have ho := ho.2 c8
    have hq14 := ho
    exact hq14.elim
theorem dL_law_2418 : decode cL_law 2418 = .ok (.aload_n 1, 1) := by decide +kernel
theorem dL_law_2419 : decode cL_law 2419 = .ok (.invokevirtual 319, 3) := by decide +kernel
theorem dL_law_2422 : decode cL_law 2422 = .ok (.aload_n 2, 1) := by decide +kernel
theorem dL_law_2423 : decode cL_law 2423 = .ok (.invokevirtual 322, 3) := by decide +kernel
theorem dL_law_2426 : decode cL_law 2426 = .ok (.if_icmp .eq 1610, 3) := by decide +kernel
set_option maxHeartbeats 8000000 in
set_option maxRecDepth 100000 in
theorem lc_35 {p : Program} {l : Launch} {e : Env} {s : State} {m : MethodId} {args : Array Value} {below : List Frame} {meth : Method} {c : Code} {H : Heap} {locs : List Loc} {Q : State → Prop} {ls : Array Slot} {G : gG} {da : Nat → Nat} {v : vSt} {x : gX} (hst : l.stackTraces = false) (X : CX G p s m args c cL_law 8 RL) (hN : NC s) {b L : Nat} {xs : Nat → Int32} (hX : va_X b L xs s s.heap) (hbl : b < s.heap.size) (hbA : ¬ gA G b) {i : Int32} (hi : 0 ≤ i.toInt ∧ i.toInt + 5 ≤ (L : Int) ∧ L ≤ 2560) (hH : Hp G da v x H) (hS : va_S (gA G) s.heap H locs) (hl : lv_has ls 8 [(0, .ref b), (1, .ref (ga G 448)), (2, .ref (ga G 461)), (3, .ref (ga G 468)), (4, .ref (ga G 469)), (5, .int i)]) {c0 c1 : Nat} (ho : olc_35 i xs v x c0 c1) (E : ∀ (da1 : Nat → Nat) (H1 : Heap) (locs1 : List Loc) (ls1 : Array Slot) (v2 : vSt) (x2 : gX), v2 = (flc_35 i xs v x).1 → x2 = (flc_35 i xs v x).2 → Hp G da1 v2 x2 H1 → va_S (gA G) s.heap H1 locs1 → lv_has ls1 8 [(0, .ref b), (1, .ref (ga G 448)), (2, .ref (ga G 461)), (3, .ref (ga G 468)), (4, .ref (ga G 469)), (5, .int i)] → W p l e room_1 s m args below meth c H1 locs1 c1 c1 Q (F0 m 4036 ls1 [])) : W p l e room_1 s m args below meth c H locs c0 c0 Q (F0 m 2418 ls []) := by
  have hx := X.1
  have hb := X.2.1
  have hown := X.2.2.2.1
  have hts := X.2.2.2.2.1
  unfold olc_35 at ho
  refine lv_aload_n hx hb dL_law_2418 rfl (lv_at hl 1 rfl) ?_
  have hq1 := ho.1
  have ho := ho.2
  have hq2 := ho.1
  have ho := ho.2
  refine k_X10_stackable X hS hH kd_448 hq1 t_ml_VernierDrawersLaw_319 hl.1 (Nat.le_of_ble_eq_true rfl) ⟨Nat.le_of_ble_eq_true rfl, Nat.le_of_ble_eq_true rfl⟩ ⟨hq2, (le_sl hq2)⟩ dL_law_2419 (fun da H locs x3 ex3 hH hS => ?_)
  have ho := ho x3 ex3
  refine lv_aload_n hx hb dL_law_2422 rfl (lv_at hl 2 rfl) ?_
  have hq4 := ho.1
  have ho := ho.2
  refine k_X11_stackable X hS hH kd_461 hq4 t_ml_VernierDrawersLaw_322 hl.1 (Nat.le_of_ble_eq_true rfl) ⟨Nat.le_of_ble_eq_true rfl, Nat.le_of_ble_eq_true rfl⟩ ⟨hq2, (le_sl hq2)⟩ dL_law_2423 (fun da H locs v5 ev5 hH hS => ?_)
  have ho := ho v5 ev5
  refine lv_icmp_eq (tgt := 4036) hx hb dL_law_2426 (by decide) (fun c6 => ?_) (fun c6 => ?_)
  · have ho := ho.1 c6
    have hq7 := ho
    refine W.widen (k := c1) (n := c1) hq7 hq7 ?_
    replace ex3 := Eq.symm ex3
    replace ev5 := Eq.symm ev5
    subst ex3 ev5
    exact E _ _ _ _ _ _ (pr1 ((flc_35.eq_1 _ _ _ _).trans ((if_pos c6).trans rfl))) (pr2 ((flc_35.eq_1 _ _ _ _).trans ((if_pos c6).trans rfl))) hH hS (lv_sub hl [0, 1, 2, 3, 4, 5] rfl)
  · have ho := ho.2 c6
    have hq8 := ho
    exact hq8.elim
theorem dL_law_2431 : decode cL_law 2431 = .ok (.aload_n 1, 1) := by decide +kernel
theorem dL_law_2432 : decode cL_law 2432 = .ok (.invokevirtual 323, 3) := by decide +kernel
theorem dL_law_2435 : decode cL_law 2435 = .ok (.aload_n 2, 1) := by decide +kernel
theorem dL_law_2436 : decode cL_law 2436 = .ok (.invokevirtual 326, 3) := by decide +kernel
theorem dL_law_2439 : decode cL_law 2439 = .ok (.if_icmp .eq 1597, 3) := by decide +kernel
set_option maxHeartbeats 8000000 in
set_option maxRecDepth 100000 in
theorem lc_36 {p : Program} {l : Launch} {e : Env} {s : State} {m : MethodId} {args : Array Value} {below : List Frame} {meth : Method} {c : Code} {H : Heap} {locs : List Loc} {Q : State → Prop} {ls : Array Slot} {G : gG} {da : Nat → Nat} {v : vSt} {x : gX} (hst : l.stackTraces = false) (X : CX G p s m args c cL_law 8 RL) (hN : NC s) {b L : Nat} {xs : Nat → Int32} (hX : va_X b L xs s s.heap) (hbl : b < s.heap.size) (hbA : ¬ gA G b) {i : Int32} (hi : 0 ≤ i.toInt ∧ i.toInt + 5 ≤ (L : Int) ∧ L ≤ 2560) (hH : Hp G da v x H) (hS : va_S (gA G) s.heap H locs) (hl : lv_has ls 8 [(0, .ref b), (1, .ref (ga G 448)), (2, .ref (ga G 461)), (3, .ref (ga G 468)), (4, .ref (ga G 469)), (5, .int i)]) {c0 c1 : Nat} (ho : olc_36 i xs v x c0 c1) (E : ∀ (da1 : Nat → Nat) (H1 : Heap) (locs1 : List Loc) (ls1 : Array Slot) (v2 : vSt) (x2 : gX), v2 = (flc_36 i xs v x).1 → x2 = (flc_36 i xs v x).2 → Hp G da1 v2 x2 H1 → va_S (gA G) s.heap H1 locs1 → lv_has ls1 8 [(0, .ref b), (1, .ref (ga G 448)), (2, .ref (ga G 461)), (3, .ref (ga G 468)), (4, .ref (ga G 469)), (5, .int i)] → W p l e room_1 s m args below meth c H1 locs1 c1 c1 Q (F0 m 4036 ls1 [])) : W p l e room_1 s m args below meth c H locs c0 c0 Q (F0 m 2431 ls []) := by
  have hx := X.1
  have hb := X.2.1
  have hown := X.2.2.2.1
  have hts := X.2.2.2.2.1
  unfold olc_36 at ho
  refine lv_aload_n hx hb dL_law_2431 rfl (lv_at hl 1 rfl) ?_
  have hq1 := ho.1
  have ho := ho.2
  have hq2 := ho.1
  have ho := ho.2
  refine k_X10_types X hS hH kd_448 hq1 t_ml_VernierDrawersLaw_323 hl.1 (Nat.le_of_ble_eq_true rfl) ⟨Nat.le_of_ble_eq_true rfl, Nat.le_of_ble_eq_true rfl⟩ ⟨hq2, (le_sl hq2)⟩ dL_law_2432 ?_
  refine lv_aload_n hx hb dL_law_2435 rfl (lv_at hl 2 rfl) ?_
  have hq3 := ho.1
  have ho := ho.2
  refine k_X11_types X hS hH kd_461 hq3 t_ml_VernierDrawersLaw_326 hl.1 (Nat.le_of_ble_eq_true rfl) ⟨Nat.le_of_ble_eq_true rfl, Nat.le_of_ble_eq_true rfl⟩ ⟨hq2, (le_sl hq2)⟩ dL_law_2436 (fun da H locs v4 ev4 hH hS => ?_)
  have ho := ho v4 ev4
  refine lv_icmp_eq (tgt := 4036) hx hb dL_law_2439 (by decide) (fun c5 => ?_) (fun c5 => ?_)
  · have ho := ho.1 c5
    have hq6 := ho
    refine W.widen (k := c1) (n := c1) hq6 hq6 ?_
    replace ev4 := Eq.symm ev4
    subst ev4
    exact E _ _ _ _ _ _ (pr1 ((flc_36.eq_1 _ _ _ _).trans ((if_pos c5).trans rfl))) (pr2 ((flc_36.eq_1 _ _ _ _).trans ((if_pos c5).trans rfl))) hH hS (lv_sub hl [0, 1, 2, 3, 4, 5] rfl)
  · have ho := ho.2 c5
    have hq7 := ho
    exact hq7.elim
theorem dL_law_2444 : decode cL_law 2444 = .ok (.aload_n 1, 1) := by decide +kernel
theorem dL_law_2445 : decode cL_law 2445 = .ok (.aload_n 0, 1) := by decide +kernel
theorem dL_law_2446 : decode cL_law 2446 = .ok (.iload 5, 2) := by decide +kernel
theorem dL_law_2448 : decode cL_law 2448 = .ok (.iconst 1, 1) := by decide +kernel
theorem dL_law_2449 : decode cL_law 2449 = .ok (.iadd, 1) := by decide +kernel
theorem dL_law_2450 : decode cL_law 2450 = .ok (.iaload, 1) := by decide +kernel
theorem dL_law_2451 : decode cL_law 2451 = .ok (.aload_n 3, 1) := by decide +kernel
theorem dL_law_2452 : decode cL_law 2452 = .ok (.invokestatic 327, 3) := by decide +kernel
theorem dL_law_2455 : decode cL_law 2455 = .ok (.istore 6, 2) := by decide +kernel
theorem dL_law_2457 : decode cL_law 2457 = .ok (.aload_n 2, 1) := by decide +kernel
theorem dL_law_2458 : decode cL_law 2458 = .ok (.aload_n 0, 1) := by decide +kernel
theorem dL_law_2459 : decode cL_law 2459 = .ok (.iload 5, 2) := by decide +kernel
theorem dL_law_2461 : decode cL_law 2461 = .ok (.iconst 1, 1) := by decide +kernel
theorem dL_law_2462 : decode cL_law 2462 = .ok (.iadd, 1) := by decide +kernel
theorem dL_law_2463 : decode cL_law 2463 = .ok (.iaload, 1) := by decide +kernel
theorem dL_law_2464 : decode cL_law 2464 = .ok (.invokevirtual 329, 3) := by decide +kernel
theorem dL_law_2467 : decode cL_law 2467 = .ok (.istore 7, 2) := by decide +kernel
theorem dL_law_2469 : decode cL_law 2469 = .ok (.aload_n 2, 1) := by decide +kernel
theorem dL_law_2470 : decode cL_law 2470 = .ok (.invokevirtual 207, 3) := by decide +kernel
theorem dL_law_2473 : decode cL_law 2473 = .ok (.iload 6, 2) := by decide +kernel
theorem dL_law_2475 : decode cL_law 2475 = .ok (.if_icmp .eq 5, 3) := by decide +kernel
theorem dL_law_2480 : decode cL_law 2480 = .ok (.iload 6, 2) := by decide +kernel
theorem dL_law_2482 : decode cL_law 2482 = .ok (.ifCond .ne 15, 3) := by decide +kernel
theorem dL_law_2485 : decode cL_law 2485 = .ok (.aload_n 3, 1) := by decide +kernel
theorem dL_law_2486 : decode cL_law 2486 = .ok (.iconst 0, 1) := by decide +kernel
theorem dL_law_2487 : decode cL_law 2487 = .ok (.laload, 1) := by decide +kernel
theorem dL_law_2488 : decode cL_law 2488 = .ok (.iload 7, 2) := by decide +kernel
theorem dL_law_2490 : decode cL_law 2490 = .ok (.i2l, 1) := by decide +kernel
theorem dL_law_2491 : decode cL_law 2491 = .ok (.lcmp, 1) := by decide +kernel
theorem dL_law_2492 : decode cL_law 2492 = .ok (.ifCond .eq 5, 3) := by decide +kernel
theorem dL_law_2497 : decode cL_law 2497 = .ok (.goto 1539, 3) := by decide +kernel
set_option maxHeartbeats 8000000 in
set_option maxRecDepth 100000 in
theorem lc_37 {p : Program} {l : Launch} {e : Env} {s : State} {m : MethodId} {args : Array Value} {below : List Frame} {meth : Method} {c : Code} {H : Heap} {locs : List Loc} {Q : State → Prop} {ls : Array Slot} {G : gG} {da : Nat → Nat} {v : vSt} {x : gX} (hst : l.stackTraces = false) (X : CX G p s m args c cL_law 8 RL) (hN : NC s) {b L : Nat} {xs : Nat → Int32} (hX : va_X b L xs s s.heap) (hbl : b < s.heap.size) (hbA : ¬ gA G b) {i : Int32} (hi : 0 ≤ i.toInt ∧ i.toInt + 5 ≤ (L : Int) ∧ L ≤ 2560) (hH : Hp G da v x H) (hS : va_S (gA G) s.heap H locs) (hl : lv_has ls 8 [(0, .ref b), (1, .ref (ga G 448)), (2, .ref (ga G 461)), (3, .ref (ga G 468)), (4, .ref (ga G 469)), (5, .int i)]) {c0 c1 : Nat} (ho : olc_37 i xs v x c0 c1) (E : ∀ (da1 : Nat → Nat) (H1 : Heap) (locs1 : List Loc) (ls1 : Array Slot) (v2 : vSt) (x2 : gX), v2 = (flc_37 i xs v x).1 → x2 = (flc_37 i xs v x).2 → Hp G da1 v2 x2 H1 → va_S (gA G) s.heap H1 locs1 → lv_has ls1 8 [(0, .ref b), (1, .ref (ga G 448)), (2, .ref (ga G 461)), (3, .ref (ga G 468)), (4, .ref (ga G 469)), (5, .int i)] → W p l e room_1 s m args below meth c H1 locs1 c1 c1 Q (F0 m 4036 ls1 [])) : W p l e room_1 s m args below meth c H locs c0 c0 Q (F0 m 2444 ls []) := by
  have hx := X.1
  have hb := X.2.1
  have hown := X.2.2.2.1
  have hts := X.2.2.2.2.1
  unfold olc_37 at ho
  refine lv_aload_n hx hb dL_law_2444 rfl (lv_at hl 1 rfl) ?_
  refine lv_aload_n hx hb dL_law_2445 rfl (lv_at hl 0 rfl) ?_
  refine lv_iload hx hb dL_law_2446 (lv_at hl 5 rfl) ?_
  refine lv_iconst (v := 1) hx hb dL_law_2448 (by decide) ?_
  refine lv_iadd hx hb dL_law_2449 ?_
  refine va_sld hx hb hX hbl hbA hS (sx hi 1 (by decide)) dL_law_2450 ?_
  refine lv_aload_n hx hb dL_law_2451 rfl (lv_at hl 3 rfl) ?_
  have hq1 := ho.1
  have ho := ho.2
  have hq2 := ho.1
  have ho := ho.2
  have hq3 := ho.1
  have ho := ho.2
  refine k_L_lengthOf hst X hS hN hH kd_448 kd_468 hq1 t_ml_VernierDrawersLaw_327 hl.1 (Nat.le_of_ble_eq_true rfl) ⟨Nat.le_of_ble_eq_true rfl, Nat.le_of_ble_eq_true rfl⟩ ⟨hq3, (le_sl hq3)⟩ dL_law_2452 (fun da H locs v4 x5 ev4 ex5 hH hS => ?_)
  have ho := ho v4 ev4 x5 ex5
  refine lv_istore (lv' := [(6, .int ((fL_lengthOf 448 (xs (i + 1 : Int32).toNatClampNeg) 468 v x).1)), (0, .ref b), (1, .ref (ga G 448)), (2, .ref (ga G 461)), (3, .ref (ga G 468)), (4, .ref (ga G 469)), (5, .int i)]) hx hb dL_law_2455 hl (by decide) rfl (fun ls hl => ?_)
  refine lv_aload_n hx hb dL_law_2457 rfl (lv_at hl 3 rfl) ?_
  refine lv_aload_n hx hb dL_law_2458 rfl (lv_at hl 1 rfl) ?_
  refine lv_iload hx hb dL_law_2459 (lv_at hl 6 rfl) ?_
  refine lv_iconst (v := 1) hx hb dL_law_2461 (by decide) ?_
  refine lv_iadd hx hb dL_law_2462 ?_
  refine va_sld hx hb hX hbl hbA hS (sx hi 1 (by decide)) dL_law_2463 ?_
  have hq6 := ho.1
  have ho := ho.2
  refine k_X11_lengthOf X hS hH kd_461 hq6 t_ml_VernierDrawersLaw_329 hl.1 (Nat.le_of_ble_eq_true rfl) ⟨Nat.le_of_ble_eq_true rfl, Nat.le_of_ble_eq_true rfl⟩ ⟨hq3, (le_sl hq3)⟩ dL_law_2464 (fun da H locs v7 ev7 hH hS => ?_)
  have ho := ho v7 ev7
  refine lv_istore (lv' := [(7, .int ((fX11_lengthOf 461 (xs (i + 1 : Int32).toNatClampNeg) v4).1)), (6, .int ((fL_lengthOf 448 (xs (i + 1 : Int32).toNatClampNeg) 468 v x).1)), (0, .ref b), (1, .ref (ga G 448)), (2, .ref (ga G 461)), (3, .ref (ga G 468)), (4, .ref (ga G 469)), (5, .int i)]) hx hb dL_law_2467 hl (by decide) rfl (fun ls hl => ?_)
  refine lv_aload_n hx hb dL_law_2469 rfl (lv_at hl 4 rfl) ?_
  refine k_X11_thrown X hS hH kd_461 t_ml_VernierDrawersLaw_207 hl.1 (Nat.le_of_ble_eq_true rfl) ⟨Nat.le_of_ble_eq_true rfl, Nat.le_of_ble_eq_true rfl⟩ ⟨hq3, (le_sl hq3)⟩ dL_law_2470 ?_
  refine lv_iload hx hb dL_law_2473 (lv_at hl 1 rfl) ?_
  refine lv_icmp_eq (tgt := 2480) hx hb dL_law_2475 (by decide) (fun c8 => ?_) (fun c8 => ?_)
  · have ho := ho.1 c8
    refine lv_iload hx hb dL_law_2480 (lv_at hl 1 rfl) ?_
    refine lv_if_ne (tgt := 2497) hx hb dL_law_2482 (by decide) (fun c9 => ?_) (fun c9 => ?_)
    · have ho := ho.2 c9
      refine lv_goto (tgt := 4036) hx hb dL_law_2497 (by decide) ?_
      have hq10 := ho
      refine W.widen (k := c1) (n := c1) hq10 hq10 ?_
      replace ev4 := Eq.symm ev4
      replace ex5 := Eq.symm ex5
      replace ev7 := Eq.symm ev7
      subst ev4 ex5 ev7
      exact E _ _ _ _ _ _ (pr1 ((flc_37.eq_1 _ _ _ _).trans ((if_pos c8).trans ((if_neg c9).trans rfl)))) (pr2 ((flc_37.eq_1 _ _ _ _).trans ((if_pos c8).trans ((if_neg c9).trans rfl)))) hH hS (lv_sub hl [2, 3, 4, 5, 6, 7] rfl)
    · have ho := ho.1 c9
      refine lv_aload_n hx hb dL_law_2485 rfl (lv_at hl 5 rfl) ?_
      refine lv_iconst (v := 0) hx hb dL_law_2486 (by decide) ?_
      refine lald_34 X hH kd_468 (i_in (by decide) (by decide)) dL_law_2487 ?_
      refine lv_iload hx hb dL_law_2488 (lv_at hl 0 rfl) ?_
      refine lv_i2l (v := ((fX11_lengthOf 461 (xs (i + 1 : Int32).toNatClampNeg) v4).1 : Int32).toInt64) hx hb dL_law_2490 rfl ?_
      refine W.lcmp hx hb dL_law_2491 ?_
      refine lv_if_eq (tgt := 2497) hx hb dL_law_2492 (by decide) (fun c11 => ?_) (fun c11 => ?_)
      · have ho := ho.1 c11
        refine lv_goto (tgt := 4036) hx hb dL_law_2497 (by decide) ?_
        have hq12 := ho
        refine W.widen (k := c1) (n := c1) hq12 hq12 ?_
        replace ev4 := Eq.symm ev4
        replace ex5 := Eq.symm ex5
        replace ev7 := Eq.symm ev7
        subst ev4 ex5 ev7
        exact E _ _ _ _ _ _ (pr1 ((flc_37.eq_1 _ _ _ _).trans ((if_pos c8).trans ((if_pos c9).trans ((if_pos c11).trans rfl))))) (pr2 ((flc_37.eq_1 _ _ _ _).trans ((if_pos c8).trans ((if_pos c9).trans ((if_pos c11).trans rfl))))) hH hS (lv_sub hl [2, 3, 4, 5, 6, 7] rfl)
      · have ho := ho.2 c11
        have hq13 := ho
        exact hq13.elim
  · have ho := ho.2 c8
    have hq14 := ho
    exact hq14.elim
theorem dL_law_2500 : decode cL_law 2500 = .ok (.aload_n 1, 1) := by decide +kernel
theorem dL_law_2501 : decode cL_law 2501 = .ok (.aload_n 0, 1) := by decide +kernel
theorem dL_law_2502 : decode cL_law 2502 = .ok (.iload 5, 2) := by decide +kernel
theorem dL_law_2504 : decode cL_law 2504 = .ok (.iconst 1, 1) := by decide +kernel
theorem dL_law_2505 : decode cL_law 2505 = .ok (.iadd, 1) := by decide +kernel
theorem dL_law_2506 : decode cL_law 2506 = .ok (.iaload, 1) := by decide +kernel
theorem dL_law_2507 : decode cL_law 2507 = .ok (.aload_n 3, 1) := by decide +kernel
theorem dL_law_2508 : decode cL_law 2508 = .ok (.invokestatic 330, 3) := by decide +kernel
theorem dL_law_2511 : decode cL_law 2511 = .ok (.istore 6, 2) := by decide +kernel
theorem dL_law_2513 : decode cL_law 2513 = .ok (.aload_n 2, 1) := by decide +kernel
theorem dL_law_2514 : decode cL_law 2514 = .ok (.aload_n 0, 1) := by decide +kernel
theorem dL_law_2515 : decode cL_law 2515 = .ok (.iload 5, 2) := by decide +kernel
theorem dL_law_2517 : decode cL_law 2517 = .ok (.iconst 1, 1) := by decide +kernel
theorem dL_law_2518 : decode cL_law 2518 = .ok (.iadd, 1) := by decide +kernel
theorem dL_law_2519 : decode cL_law 2519 = .ok (.iaload, 1) := by decide +kernel
theorem dL_law_2520 : decode cL_law 2520 = .ok (.invokevirtual 332, 3) := by decide +kernel
theorem dL_law_2523 : decode cL_law 2523 = .ok (.istore 7, 2) := by decide +kernel
theorem dL_law_2525 : decode cL_law 2525 = .ok (.aload_n 2, 1) := by decide +kernel
theorem dL_law_2526 : decode cL_law 2526 = .ok (.invokevirtual 207, 3) := by decide +kernel
theorem dL_law_2529 : decode cL_law 2529 = .ok (.iload 6, 2) := by decide +kernel
theorem dL_law_2531 : decode cL_law 2531 = .ok (.if_icmp .eq 5, 3) := by decide +kernel
theorem dL_law_2536 : decode cL_law 2536 = .ok (.iload 6, 2) := by decide +kernel
theorem dL_law_2538 : decode cL_law 2538 = .ok (.ifCond .ne 15, 3) := by decide +kernel
theorem dL_law_2541 : decode cL_law 2541 = .ok (.aload_n 3, 1) := by decide +kernel
theorem dL_law_2542 : decode cL_law 2542 = .ok (.iconst 0, 1) := by decide +kernel
theorem dL_law_2543 : decode cL_law 2543 = .ok (.laload, 1) := by decide +kernel
theorem dL_law_2544 : decode cL_law 2544 = .ok (.iload 7, 2) := by decide +kernel
theorem dL_law_2546 : decode cL_law 2546 = .ok (.i2l, 1) := by decide +kernel
theorem dL_law_2547 : decode cL_law 2547 = .ok (.lcmp, 1) := by decide +kernel
theorem dL_law_2548 : decode cL_law 2548 = .ok (.ifCond .eq 5, 3) := by decide +kernel
theorem dL_law_2553 : decode cL_law 2553 = .ok (.goto 1483, 3) := by decide +kernel
set_option maxHeartbeats 8000000 in
set_option maxRecDepth 100000 in
theorem lc_38 {p : Program} {l : Launch} {e : Env} {s : State} {m : MethodId} {args : Array Value} {below : List Frame} {meth : Method} {c : Code} {H : Heap} {locs : List Loc} {Q : State → Prop} {ls : Array Slot} {G : gG} {da : Nat → Nat} {v : vSt} {x : gX} (hst : l.stackTraces = false) (X : CX G p s m args c cL_law 8 RL) (hN : NC s) {b L : Nat} {xs : Nat → Int32} (hX : va_X b L xs s s.heap) (hbl : b < s.heap.size) (hbA : ¬ gA G b) {i : Int32} (hi : 0 ≤ i.toInt ∧ i.toInt + 5 ≤ (L : Int) ∧ L ≤ 2560) (hH : Hp G da v x H) (hS : va_S (gA G) s.heap H locs) (hl : lv_has ls 8 [(0, .ref b), (1, .ref (ga G 448)), (2, .ref (ga G 461)), (3, .ref (ga G 468)), (4, .ref (ga G 469)), (5, .int i)]) {c0 c1 : Nat} (ho : olc_38 i xs v x c0 c1) (E : ∀ (da1 : Nat → Nat) (H1 : Heap) (locs1 : List Loc) (ls1 : Array Slot) (v2 : vSt) (x2 : gX), v2 = (flc_38 i xs v x).1 → x2 = (flc_38 i xs v x).2 → Hp G da1 v2 x2 H1 → va_S (gA G) s.heap H1 locs1 → lv_has ls1 8 [(0, .ref b), (1, .ref (ga G 448)), (2, .ref (ga G 461)), (3, .ref (ga G 468)), (4, .ref (ga G 469)), (5, .int i)] → W p l e room_1 s m args below meth c H1 locs1 c1 c1 Q (F0 m 4036 ls1 [])) : W p l e room_1 s m args below meth c H locs c0 c0 Q (F0 m 2500 ls []) := by
  have hx := X.1
  have hb := X.2.1
  have hown := X.2.2.2.1
  have hts := X.2.2.2.2.1
  unfold olc_38 at ho
  refine lv_aload_n hx hb dL_law_2500 rfl (lv_at hl 1 rfl) ?_
  refine lv_aload_n hx hb dL_law_2501 rfl (lv_at hl 0 rfl) ?_
  refine lv_iload hx hb dL_law_2502 (lv_at hl 5 rfl) ?_
  refine lv_iconst (v := 1) hx hb dL_law_2504 (by decide) ?_
  refine lv_iadd hx hb dL_law_2505 ?_
  refine va_sld hx hb hX hbl hbA hS (sx hi 1 (by decide)) dL_law_2506 ?_
  refine lv_aload_n hx hb dL_law_2507 rfl (lv_at hl 3 rfl) ?_
  have hq1 := ho.1
  have ho := ho.2
  have hq2 := ho.1
  have ho := ho.2
  have hq3 := ho.1
  have ho := ho.2
  refine k_L_widthOf hst X hS hN hH kd_448 kd_468 hq1 t_ml_VernierDrawersLaw_330 hl.1 (Nat.le_of_ble_eq_true rfl) ⟨Nat.le_of_ble_eq_true rfl, Nat.le_of_ble_eq_true rfl⟩ ⟨hq3, (le_sl hq3)⟩ dL_law_2508 (fun da H locs v4 x5 ev4 ex5 hH hS => ?_)
  have ho := ho v4 ev4 x5 ex5
  refine lv_istore (lv' := [(6, .int ((fL_widthOf 448 (xs (i + 1 : Int32).toNatClampNeg) 468 v x).1)), (0, .ref b), (1, .ref (ga G 448)), (2, .ref (ga G 461)), (3, .ref (ga G 468)), (4, .ref (ga G 469)), (5, .int i)]) hx hb dL_law_2511 hl (by decide) rfl (fun ls hl => ?_)
  refine lv_aload_n hx hb dL_law_2513 rfl (lv_at hl 3 rfl) ?_
  refine lv_aload_n hx hb dL_law_2514 rfl (lv_at hl 1 rfl) ?_
  refine lv_iload hx hb dL_law_2515 (lv_at hl 6 rfl) ?_
  refine lv_iconst (v := 1) hx hb dL_law_2517 (by decide) ?_
  refine lv_iadd hx hb dL_law_2518 ?_
  refine va_sld hx hb hX hbl hbA hS (sx hi 1 (by decide)) dL_law_2519 ?_
  have hq6 := ho.1
  have ho := ho.2
  refine k_X11_widthOf X hS hH kd_461 hq6 t_ml_VernierDrawersLaw_332 hl.1 (Nat.le_of_ble_eq_true rfl) ⟨Nat.le_of_ble_eq_true rfl, Nat.le_of_ble_eq_true rfl⟩ ⟨hq3, (le_sl hq3)⟩ dL_law_2520 (fun da H locs v7 ev7 hH hS => ?_)
  have ho := ho v7 ev7
  refine lv_istore (lv' := [(7, .int ((fX11_widthOf 461 (xs (i + 1 : Int32).toNatClampNeg) v4).1)), (6, .int ((fL_widthOf 448 (xs (i + 1 : Int32).toNatClampNeg) 468 v x).1)), (0, .ref b), (1, .ref (ga G 448)), (2, .ref (ga G 461)), (3, .ref (ga G 468)), (4, .ref (ga G 469)), (5, .int i)]) hx hb dL_law_2523 hl (by decide) rfl (fun ls hl => ?_)
  refine lv_aload_n hx hb dL_law_2525 rfl (lv_at hl 4 rfl) ?_
  refine k_X11_thrown X hS hH kd_461 t_ml_VernierDrawersLaw_207 hl.1 (Nat.le_of_ble_eq_true rfl) ⟨Nat.le_of_ble_eq_true rfl, Nat.le_of_ble_eq_true rfl⟩ ⟨hq3, (le_sl hq3)⟩ dL_law_2526 ?_
  refine lv_iload hx hb dL_law_2529 (lv_at hl 1 rfl) ?_
  refine lv_icmp_eq (tgt := 2536) hx hb dL_law_2531 (by decide) (fun c8 => ?_) (fun c8 => ?_)
  · have ho := ho.1 c8
    refine lv_iload hx hb dL_law_2536 (lv_at hl 1 rfl) ?_
    refine lv_if_ne (tgt := 2553) hx hb dL_law_2538 (by decide) (fun c9 => ?_) (fun c9 => ?_)
    · have ho := ho.2 c9
      refine lv_goto (tgt := 4036) hx hb dL_law_2553 (by decide) ?_
      have hq10 := ho
      refine W.widen (k := c1) (n := c1) hq10 hq10 ?_
      replace ev4 := Eq.symm ev4
      replace ex5 := Eq.symm ex5
      replace ev7 := Eq.symm ev7
      subst ev4 ex5 ev7
      exact E _ _ _ _ _ _ (pr1 ((flc_38.eq_1 _ _ _ _).trans ((if_pos c8).trans ((if_neg c9).trans rfl)))) (pr2 ((flc_38.eq_1 _ _ _ _).trans ((if_pos c8).trans ((if_neg c9).trans rfl)))) hH hS (lv_sub hl [2, 3, 4, 5, 6, 7] rfl)
    · have ho := ho.1 c9
      refine lv_aload_n hx hb dL_law_2541 rfl (lv_at hl 5 rfl) ?_
      refine lv_iconst (v := 0) hx hb dL_law_2542 (by decide) ?_
      refine lald_34 X hH kd_468 (i_in (by decide) (by decide)) dL_law_2543 ?_
      refine lv_iload hx hb dL_law_2544 (lv_at hl 0 rfl) ?_
      refine lv_i2l (v := ((fX11_widthOf 461 (xs (i + 1 : Int32).toNatClampNeg) v4).1 : Int32).toInt64) hx hb dL_law_2546 rfl ?_
      refine W.lcmp hx hb dL_law_2547 ?_
      refine lv_if_eq (tgt := 2553) hx hb dL_law_2548 (by decide) (fun c11 => ?_) (fun c11 => ?_)
      · have ho := ho.1 c11
        refine lv_goto (tgt := 4036) hx hb dL_law_2553 (by decide) ?_
        have hq12 := ho
        refine W.widen (k := c1) (n := c1) hq12 hq12 ?_
        replace ev4 := Eq.symm ev4
        replace ex5 := Eq.symm ex5
        replace ev7 := Eq.symm ev7
        subst ev4 ex5 ev7
        exact E _ _ _ _ _ _ (pr1 ((flc_38.eq_1 _ _ _ _).trans ((if_pos c8).trans ((if_pos c9).trans ((if_pos c11).trans rfl))))) (pr2 ((flc_38.eq_1 _ _ _ _).trans ((if_pos c8).trans ((if_pos c9).trans ((if_pos c11).trans rfl))))) hH hS (lv_sub hl [2, 3, 4, 5, 6, 7] rfl)
      · have ho := ho.2 c11
        have hq13 := ho
        exact hq13.elim
  · have ho := ho.2 c8
    have hq14 := ho
    exact hq14.elim
theorem dL_law_2556 : decode cL_law 2556 = .ok (.aload_n 1, 1) := by decide +kernel
theorem dL_law_2557 : decode cL_law 2557 = .ok (.invokevirtual 333, 3) := by decide +kernel
theorem dL_law_2560 : decode cL_law 2560 = .ok (.aload_n 2, 1) := by decide +kernel
theorem dL_law_2561 : decode cL_law 2561 = .ok (.invokevirtual 336, 3) := by decide +kernel
theorem dL_law_2564 : decode cL_law 2564 = .ok (.if_icmp .eq 1472, 3) := by decide +kernel
set_option maxHeartbeats 8000000 in
set_option maxRecDepth 100000 in
theorem lc_39 {p : Program} {l : Launch} {e : Env} {s : State} {m : MethodId} {args : Array Value} {below : List Frame} {meth : Method} {c : Code} {H : Heap} {locs : List Loc} {Q : State → Prop} {ls : Array Slot} {G : gG} {da : Nat → Nat} {v : vSt} {x : gX} (hst : l.stackTraces = false) (X : CX G p s m args c cL_law 8 RL) (hN : NC s) {b L : Nat} {xs : Nat → Int32} (hX : va_X b L xs s s.heap) (hbl : b < s.heap.size) (hbA : ¬ gA G b) {i : Int32} (hi : 0 ≤ i.toInt ∧ i.toInt + 5 ≤ (L : Int) ∧ L ≤ 2560) (hH : Hp G da v x H) (hS : va_S (gA G) s.heap H locs) (hl : lv_has ls 8 [(0, .ref b), (1, .ref (ga G 448)), (2, .ref (ga G 461)), (3, .ref (ga G 468)), (4, .ref (ga G 469)), (5, .int i)]) {c0 c1 : Nat} (ho : olc_39 i xs v x c0 c1) (E : ∀ (da1 : Nat → Nat) (H1 : Heap) (locs1 : List Loc) (ls1 : Array Slot) (v2 : vSt) (x2 : gX), v2 = (flc_39 i xs v x).1 → x2 = (flc_39 i xs v x).2 → Hp G da1 v2 x2 H1 → va_S (gA G) s.heap H1 locs1 → lv_has ls1 8 [(0, .ref b), (1, .ref (ga G 448)), (2, .ref (ga G 461)), (3, .ref (ga G 468)), (4, .ref (ga G 469)), (5, .int i)] → W p l e room_1 s m args below meth c H1 locs1 c1 c1 Q (F0 m 4036 ls1 [])) : W p l e room_1 s m args below meth c H locs c0 c0 Q (F0 m 2556 ls []) := by
  have hx := X.1
  have hb := X.2.1
  have hown := X.2.2.2.1
  have hts := X.2.2.2.2.1
  unfold olc_39 at ho
  refine lv_aload_n hx hb dL_law_2556 rfl (lv_at hl 1 rfl) ?_
  have hq1 := ho.1
  have ho := ho.2
  have hq2 := ho.1
  have ho := ho.2
  refine k_X10_onBench X hS hH kd_448 hq1 t_ml_VernierDrawersLaw_333 hl.1 (Nat.le_of_ble_eq_true rfl) ⟨Nat.le_of_ble_eq_true rfl, Nat.le_of_ble_eq_true rfl⟩ ⟨hq2, (le_sl hq2)⟩ dL_law_2557 ?_
  refine lv_aload_n hx hb dL_law_2560 rfl (lv_at hl 2 rfl) ?_
  have hq3 := ho.1
  have ho := ho.2
  refine k_X11_onBench X hS hH kd_461 hq3 t_ml_VernierDrawersLaw_336 hl.1 (Nat.le_of_ble_eq_true rfl) ⟨Nat.le_of_ble_eq_true rfl, Nat.le_of_ble_eq_true rfl⟩ ⟨hq2, (le_sl hq2)⟩ dL_law_2561 (fun da H locs v4 ev4 hH hS => ?_)
  have ho := ho v4 ev4
  refine lv_icmp_eq (tgt := 4036) hx hb dL_law_2564 (by decide) (fun c5 => ?_) (fun c5 => ?_)
  · have ho := ho.1 c5
    have hq6 := ho
    refine W.widen (k := c1) (n := c1) hq6 hq6 ?_
    replace ev4 := Eq.symm ev4
    subst ev4
    exact E _ _ _ _ _ _ (pr1 ((flc_39.eq_1 _ _ _ _).trans ((if_pos c5).trans rfl))) (pr2 ((flc_39.eq_1 _ _ _ _).trans ((if_pos c5).trans rfl))) hH hS (lv_sub hl [0, 1, 2, 3, 4, 5] rfl)
  · have ho := ho.2 c5
    have hq7 := ho
    exact hq7.elim
