/-! the law's cases -/
theorem dL_law_2926 : decode cL_law 2926 = .ok (.aload_n 1, 1) := by decide +kernel
theorem dL_law_2927 : decode cL_law 2927 = .ok (.aload_n 0, 1) := by decide +kernel
theorem dL_law_2928 : decode cL_law 2928 = .ok (.iload 5, 2) := by decide +kernel
theorem dL_law_2930 : decode cL_law 2930 = .ok (.iconst 1, 1) := by decide +kernel
theorem dL_law_2931 : decode cL_law 2931 = .ok (.iadd, 1) := by decide +kernel
theorem dL_law_2932 : decode cL_law 2932 = .ok (.iaload, 1) := by decide +kernel
theorem dL_law_2933 : decode cL_law 2933 = .ok (.aload_n 3, 1) := by decide +kernel
theorem dL_law_2934 : decode cL_law 2934 = .ok (.invokestatic 363, 3) := by decide +kernel
theorem dL_law_2937 : decode cL_law 2937 = .ok (.istore 6, 2) := by decide +kernel
theorem dL_law_2939 : decode cL_law 2939 = .ok (.aload_n 2, 1) := by decide +kernel
theorem dL_law_2940 : decode cL_law 2940 = .ok (.aload_n 0, 1) := by decide +kernel
theorem dL_law_2941 : decode cL_law 2941 = .ok (.iload 5, 2) := by decide +kernel
theorem dL_law_2943 : decode cL_law 2943 = .ok (.iconst 1, 1) := by decide +kernel
theorem dL_law_2944 : decode cL_law 2944 = .ok (.iadd, 1) := by decide +kernel
theorem dL_law_2945 : decode cL_law 2945 = .ok (.iaload, 1) := by decide +kernel
theorem dL_law_2946 : decode cL_law 2946 = .ok (.invokevirtual 365, 3) := by decide +kernel
theorem dL_law_2949 : decode cL_law 2949 = .ok (.istore 7, 2) := by decide +kernel
theorem dL_law_2951 : decode cL_law 2951 = .ok (.aload_n 2, 1) := by decide +kernel
theorem dL_law_2952 : decode cL_law 2952 = .ok (.invokevirtual 207, 3) := by decide +kernel
theorem dL_law_2955 : decode cL_law 2955 = .ok (.iload 6, 2) := by decide +kernel
theorem dL_law_2957 : decode cL_law 2957 = .ok (.if_icmp .eq 5, 3) := by decide +kernel
theorem dL_law_2962 : decode cL_law 2962 = .ok (.iload 6, 2) := by decide +kernel
theorem dL_law_2964 : decode cL_law 2964 = .ok (.ifCond .ne 15, 3) := by decide +kernel
theorem dL_law_2967 : decode cL_law 2967 = .ok (.aload_n 3, 1) := by decide +kernel
theorem dL_law_2968 : decode cL_law 2968 = .ok (.iconst 0, 1) := by decide +kernel
theorem dL_law_2969 : decode cL_law 2969 = .ok (.laload, 1) := by decide +kernel
theorem dL_law_2970 : decode cL_law 2970 = .ok (.iload 7, 2) := by decide +kernel
theorem dL_law_2972 : decode cL_law 2972 = .ok (.i2l, 1) := by decide +kernel
theorem dL_law_2973 : decode cL_law 2973 = .ok (.lcmp, 1) := by decide +kernel
theorem dL_law_2974 : decode cL_law 2974 = .ok (.ifCond .eq 5, 3) := by decide +kernel
theorem dL_law_2979 : decode cL_law 2979 = .ok (.goto 1057, 3) := by decide +kernel
set_option maxHeartbeats 8000000 in
set_option maxRecDepth 100000 in
theorem lc_48 {p : Program} {l : Launch} {e : Env} {s : State} {m : MethodId} {args : Array Value} {below : List Frame} {meth : Method} {c : Code} {H : Heap} {locs : List Loc} {Q : State → Prop} {ls : Array Slot} {G : gG} {da : Nat → Nat} {v : vSt} {x : gX} (hst : l.stackTraces = false) (X : CX G p s m args c cL_law 8 RL) (hN : NC s) {b L : Nat} {xs : Nat → Int32} (hX : va_X b L xs s s.heap) (hbl : b < s.heap.size) (hbA : ¬ gA G b) {i : Int32} (hi : 0 ≤ i.toInt ∧ i.toInt + 5 ≤ (L : Int) ∧ L ≤ 2560) (hH : Hp G da v x H) (hS : va_S (gA G) s.heap H locs) (hl : lv_has ls 8 [(0, .ref b), (1, .ref (ga G 448)), (2, .ref (ga G 461)), (3, .ref (ga G 468)), (4, .ref (ga G 469)), (5, .int i)]) {c0 c1 : Nat} (ho : olc_48 i xs v x c0 c1) (E : ∀ (da1 : Nat → Nat) (H1 : Heap) (locs1 : List Loc) (ls1 : Array Slot) (v2 : vSt) (x2 : gX), v2 = (flc_48 i xs v x).1 → x2 = (flc_48 i xs v x).2 → Hp G da1 v2 x2 H1 → va_S (gA G) s.heap H1 locs1 → lv_has ls1 8 [(0, .ref b), (1, .ref (ga G 448)), (2, .ref (ga G 461)), (3, .ref (ga G 468)), (4, .ref (ga G 469)), (5, .int i)] → W p l e room_1 s m args below meth c H1 locs1 c1 c1 Q (F0 m 4036 ls1 [])) : W p l e room_1 s m args below meth c H locs c0 c0 Q (F0 m 2926 ls []) := by
  have hx := X.1
  have hb := X.2.1
  have hown := X.2.2.2.1
  have hts := X.2.2.2.2.1
  unfold olc_48 at ho
  refine lv_aload_n hx hb dL_law_2926 rfl (lv_at hl 1 rfl) ?_
  refine lv_aload_n hx hb dL_law_2927 rfl (lv_at hl 0 rfl) ?_
  refine lv_iload hx hb dL_law_2928 (lv_at hl 5 rfl) ?_
  refine lv_iconst (v := 1) hx hb dL_law_2930 (by decide) ?_
  refine lv_iadd hx hb dL_law_2931 ?_
  refine va_sld hx hb hX hbl hbA hS (sx hi 1 (by decide)) dL_law_2932 ?_
  refine lv_aload_n hx hb dL_law_2933 rfl (lv_at hl 3 rfl) ?_
  have hq1 := ho.1
  have ho := ho.2
  have hq2 := ho.1
  have ho := ho.2
  have hq3 := ho.1
  have ho := ho.2
  refine k_L_recordOf hst X hS hN hH kd_448 kd_468 hq1 t_ml_VernierDrawersLaw_363 hl.1 (Nat.le_of_ble_eq_true rfl) ⟨Nat.le_of_ble_eq_true rfl, Nat.le_of_ble_eq_true rfl⟩ ⟨hq3, (le_sl hq3)⟩ dL_law_2934 (fun da H locs v4 x5 ev4 ex5 hH hS => ?_)
  have ho := ho v4 ev4 x5 ex5
  refine lv_istore (lv' := [(6, .int ((fL_recordOf 448 (xs (i + 1 : Int32).toNatClampNeg) 468 v x).1)), (0, .ref b), (1, .ref (ga G 448)), (2, .ref (ga G 461)), (3, .ref (ga G 468)), (4, .ref (ga G 469)), (5, .int i)]) hx hb dL_law_2937 hl (by decide) rfl (fun ls hl => ?_)
  refine lv_aload_n hx hb dL_law_2939 rfl (lv_at hl 3 rfl) ?_
  refine lv_aload_n hx hb dL_law_2940 rfl (lv_at hl 1 rfl) ?_
  refine lv_iload hx hb dL_law_2941 (lv_at hl 6 rfl) ?_
  refine lv_iconst (v := 1) hx hb dL_law_2943 (by decide) ?_
  refine lv_iadd hx hb dL_law_2944 ?_
  refine va_sld hx hb hX hbl hbA hS (sx hi 1 (by decide)) dL_law_2945 ?_
  have hq6 := ho.1
  have ho := ho.2
  refine k_X11_recordOf X hS hH kd_461 hq6 t_ml_VernierDrawersLaw_365 hl.1 (Nat.le_of_ble_eq_true rfl) ⟨Nat.le_of_ble_eq_true rfl, Nat.le_of_ble_eq_true rfl⟩ ⟨hq3, (le_sl hq3)⟩ dL_law_2946 (fun da H locs v7 ev7 hH hS => ?_)
  have ho := ho v7 ev7
  refine lv_istore (lv' := [(7, .int ((fX11_recordOf 461 (xs (i + 1 : Int32).toNatClampNeg) v4).1)), (6, .int ((fL_recordOf 448 (xs (i + 1 : Int32).toNatClampNeg) 468 v x).1)), (0, .ref b), (1, .ref (ga G 448)), (2, .ref (ga G 461)), (3, .ref (ga G 468)), (4, .ref (ga G 469)), (5, .int i)]) hx hb dL_law_2949 hl (by decide) rfl (fun ls hl => ?_)
  refine lv_aload_n hx hb dL_law_2951 rfl (lv_at hl 4 rfl) ?_
  refine k_X11_thrown X hS hH kd_461 t_ml_VernierDrawersLaw_207 hl.1 (Nat.le_of_ble_eq_true rfl) ⟨Nat.le_of_ble_eq_true rfl, Nat.le_of_ble_eq_true rfl⟩ ⟨hq3, (le_sl hq3)⟩ dL_law_2952 ?_
  refine lv_iload hx hb dL_law_2955 (lv_at hl 1 rfl) ?_
  refine lv_icmp_eq (tgt := 2962) hx hb dL_law_2957 (by decide) (fun c8 => ?_) (fun c8 => ?_)
  · have ho := ho.1 c8
    refine lv_iload hx hb dL_law_2962 (lv_at hl 1 rfl) ?_
    refine lv_if_ne (tgt := 2979) hx hb dL_law_2964 (by decide) (fun c9 => ?_) (fun c9 => ?_)
    · have ho := ho.2 c9
      refine lv_goto (tgt := 4036) hx hb dL_law_2979 (by decide) ?_
      have hq10 := ho
      refine W.widen (k := c1) (n := c1) hq10 hq10 ?_
      replace ev4 := Eq.symm ev4
      replace ex5 := Eq.symm ex5
      replace ev7 := Eq.symm ev7
      subst ev4 ex5 ev7
      exact E _ _ _ _ _ _ (pr1 ((flc_48.eq_1 _ _ _ _).trans ((if_pos c8).trans ((if_neg c9).trans rfl)))) (pr2 ((flc_48.eq_1 _ _ _ _).trans ((if_pos c8).trans ((if_neg c9).trans rfl)))) hH hS (lv_sub hl [2, 3, 4, 5, 6, 7] rfl)
    · have ho := ho.1 c9
      refine lv_aload_n hx hb dL_law_2967 rfl (lv_at hl 5 rfl) ?_
      refine lv_iconst (v := 0) hx hb dL_law_2968 (by decide) ?_
      refine lald_34 X hH kd_468 (i_in (by decide) (by decide)) dL_law_2969 ?_
      refine lv_iload hx hb dL_law_2970 (lv_at hl 0 rfl) ?_
      refine lv_i2l (v := ((fX11_recordOf 461 (xs (i + 1 : Int32).toNatClampNeg) v4).1 : Int32).toInt64) hx hb dL_law_2972 rfl ?_
      refine W.lcmp hx hb dL_law_2973 ?_
      refine lv_if_eq (tgt := 2979) hx hb dL_law_2974 (by decide) (fun c11 => ?_) (fun c11 => ?_)
      · have ho := ho.1 c11
        refine lv_goto (tgt := 4036) hx hb dL_law_2979 (by decide) ?_
        have hq12 := ho
        refine W.widen (k := c1) (n := c1) hq12 hq12 ?_
        replace ev4 := Eq.symm ev4
        replace ex5 := Eq.symm ex5
        replace ev7 := Eq.symm ev7
        subst ev4 ex5 ev7
        exact E _ _ _ _ _ _ (pr1 ((flc_48.eq_1 _ _ _ _).trans ((if_pos c8).trans ((if_pos c9).trans ((if_pos c11).trans rfl))))) (pr2 ((flc_48.eq_1 _ _ _ _).trans ((if_pos c8).trans ((if_pos c9).trans ((if_pos c11).trans rfl))))) hH hS (lv_sub hl [2, 3, 4, 5, 6, 7] rfl)
      · have ho := ho.2 c11
        have hq13 := ho
        exact hq13.elim
  · have ho := ho.2 c8
    have hq14 := ho
    exact hq14.elim
theorem dL_law_2982 : decode cL_law 2982 = .ok (.aload_n 1, 1) := by decide +kernel
theorem dL_law_2983 : decode cL_law 2983 = .ok (.aload_n 0, 1) := by decide +kernel
theorem dL_law_2984 : decode cL_law 2984 = .ok (.iload 5, 2) := by decide +kernel
theorem dL_law_2986 : decode cL_law 2986 = .ok (.iconst 1, 1) := by decide +kernel
theorem dL_law_2987 : decode cL_law 2987 = .ok (.iadd, 1) := by decide +kernel
theorem dL_law_2988 : decode cL_law 2988 = .ok (.iaload, 1) := by decide +kernel
theorem dL_law_2989 : decode cL_law 2989 = .ok (.aload_n 3, 1) := by decide +kernel
theorem dL_law_2990 : decode cL_law 2990 = .ok (.invokestatic 366, 3) := by decide +kernel
theorem dL_law_2993 : decode cL_law 2993 = .ok (.istore 6, 2) := by decide +kernel
theorem dL_law_2995 : decode cL_law 2995 = .ok (.aload_n 2, 1) := by decide +kernel
theorem dL_law_2996 : decode cL_law 2996 = .ok (.aload_n 0, 1) := by decide +kernel
theorem dL_law_2997 : decode cL_law 2997 = .ok (.iload 5, 2) := by decide +kernel
theorem dL_law_2999 : decode cL_law 2999 = .ok (.iconst 1, 1) := by decide +kernel
theorem dL_law_3000 : decode cL_law 3000 = .ok (.iadd, 1) := by decide +kernel
theorem dL_law_3001 : decode cL_law 3001 = .ok (.iaload, 1) := by decide +kernel
theorem dL_law_3002 : decode cL_law 3002 = .ok (.invokevirtual 368, 3) := by decide +kernel
theorem dL_law_3005 : decode cL_law 3005 = .ok (.istore 7, 2) := by decide +kernel
theorem dL_law_3007 : decode cL_law 3007 = .ok (.aload_n 2, 1) := by decide +kernel
theorem dL_law_3008 : decode cL_law 3008 = .ok (.invokevirtual 207, 3) := by decide +kernel
theorem dL_law_3011 : decode cL_law 3011 = .ok (.iload 6, 2) := by decide +kernel
theorem dL_law_3013 : decode cL_law 3013 = .ok (.if_icmp .eq 5, 3) := by decide +kernel
theorem dL_law_3018 : decode cL_law 3018 = .ok (.iload 6, 2) := by decide +kernel
theorem dL_law_3020 : decode cL_law 3020 = .ok (.ifCond .ne 15, 3) := by decide +kernel
theorem dL_law_3023 : decode cL_law 3023 = .ok (.aload_n 3, 1) := by decide +kernel
theorem dL_law_3024 : decode cL_law 3024 = .ok (.iconst 0, 1) := by decide +kernel
theorem dL_law_3025 : decode cL_law 3025 = .ok (.laload, 1) := by decide +kernel
theorem dL_law_3026 : decode cL_law 3026 = .ok (.iload 7, 2) := by decide +kernel
theorem dL_law_3028 : decode cL_law 3028 = .ok (.i2l, 1) := by decide +kernel
theorem dL_law_3029 : decode cL_law 3029 = .ok (.lcmp, 1) := by decide +kernel
theorem dL_law_3030 : decode cL_law 3030 = .ok (.ifCond .eq 5, 3) := by decide +kernel
theorem dL_law_3035 : decode cL_law 3035 = .ok (.goto 1001, 3) := by decide +kernel
set_option maxHeartbeats 8000000 in
set_option maxRecDepth 100000 in
theorem lc_49 {p : Program} {l : Launch} {e : Env} {s : State} {m : MethodId} {args : Array Value} {below : List Frame} {meth : Method} {c : Code} {H : Heap} {locs : List Loc} {Q : State → Prop} {ls : Array Slot} {G : gG} {da : Nat → Nat} {v : vSt} {x : gX} (hst : l.stackTraces = false) (X : CX G p s m args c cL_law 8 RL) (hN : NC s) {b L : Nat} {xs : Nat → Int32} (hX : va_X b L xs s s.heap) (hbl : b < s.heap.size) (hbA : ¬ gA G b) {i : Int32} (hi : 0 ≤ i.toInt ∧ i.toInt + 5 ≤ (L : Int) ∧ L ≤ 2560) (hH : Hp G da v x H) (hS : va_S (gA G) s.heap H locs) (hl : lv_has ls 8 [(0, .ref b), (1, .ref (ga G 448)), (2, .ref (ga G 461)), (3, .ref (ga G 468)), (4, .ref (ga G 469)), (5, .int i)]) {c0 c1 : Nat} (ho : olc_49 i xs v x c0 c1) (E : ∀ (da1 : Nat → Nat) (H1 : Heap) (locs1 : List Loc) (ls1 : Array Slot) (v2 : vSt) (x2 : gX), v2 = (flc_49 i xs v x).1 → x2 = (flc_49 i xs v x).2 → Hp G da1 v2 x2 H1 → va_S (gA G) s.heap H1 locs1 → lv_has ls1 8 [(0, .ref b), (1, .ref (ga G 448)), (2, .ref (ga G 461)), (3, .ref (ga G 468)), (4, .ref (ga G 469)), (5, .int i)] → W p l e room_1 s m args below meth c H1 locs1 c1 c1 Q (F0 m 4036 ls1 [])) : W p l e room_1 s m args below meth c H locs c0 c0 Q (F0 m 2982 ls []) := by
  have hx := X.1
  have hb := X.2.1
  have hown := X.2.2.2.1
  have hts := X.2.2.2.2.1
  unfold olc_49 at ho
  refine lv_aload_n hx hb dL_law_2982 rfl (lv_at hl 1 rfl) ?_
  refine lv_aload_n hx hb dL_law_2983 rfl (lv_at hl 0 rfl) ?_
  refine lv_iload hx hb dL_law_2984 (lv_at hl 5 rfl) ?_
  refine lv_iconst (v := 1) hx hb dL_law_2986 (by decide) ?_
  refine lv_iadd hx hb dL_law_2987 ?_
  refine va_sld hx hb hX hbl hbA hS (sx hi 1 (by decide)) dL_law_2988 ?_
  refine lv_aload_n hx hb dL_law_2989 rfl (lv_at hl 3 rfl) ?_
  have hq1 := ho.1
  have ho := ho.2
  have hq2 := ho.1
  have ho := ho.2
  have hq3 := ho.1
  have ho := ho.2
  refine k_L_badOf hst X hS hN hH kd_448 kd_468 hq1 t_ml_VernierDrawersLaw_366 hl.1 (Nat.le_of_ble_eq_true rfl) ⟨Nat.le_of_ble_eq_true rfl, Nat.le_of_ble_eq_true rfl⟩ ⟨hq3, (le_sl hq3)⟩ dL_law_2990 (fun da H locs v4 x5 ev4 ex5 hH hS => ?_)
  have ho := ho v4 ev4 x5 ex5
  refine lv_istore (lv' := [(6, .int ((fL_badOf 448 (xs (i + 1 : Int32).toNatClampNeg) 468 v x).1)), (0, .ref b), (1, .ref (ga G 448)), (2, .ref (ga G 461)), (3, .ref (ga G 468)), (4, .ref (ga G 469)), (5, .int i)]) hx hb dL_law_2993 hl (by decide) rfl (fun ls hl => ?_)
  refine lv_aload_n hx hb dL_law_2995 rfl (lv_at hl 3 rfl) ?_
  refine lv_aload_n hx hb dL_law_2996 rfl (lv_at hl 1 rfl) ?_
  refine lv_iload hx hb dL_law_2997 (lv_at hl 6 rfl) ?_
  refine lv_iconst (v := 1) hx hb dL_law_2999 (by decide) ?_
  refine lv_iadd hx hb dL_law_3000 ?_
  refine va_sld hx hb hX hbl hbA hS (sx hi 1 (by decide)) dL_law_3001 ?_
  have hq6 := ho.1
  have ho := ho.2
  refine k_X11_badOf X hS hH kd_461 hq6 t_ml_VernierDrawersLaw_368 hl.1 (Nat.le_of_ble_eq_true rfl) ⟨Nat.le_of_ble_eq_true rfl, Nat.le_of_ble_eq_true rfl⟩ ⟨hq3, (le_sl hq3)⟩ dL_law_3002 (fun da H locs v7 ev7 hH hS => ?_)
  have ho := ho v7 ev7
  refine lv_istore (lv' := [(7, .int ((fX11_badOf 461 (xs (i + 1 : Int32).toNatClampNeg) v4).1)), (6, .int ((fL_badOf 448 (xs (i + 1 : Int32).toNatClampNeg) 468 v x).1)), (0, .ref b), (1, .ref (ga G 448)), (2, .ref (ga G 461)), (3, .ref (ga G 468)), (4, .ref (ga G 469)), (5, .int i)]) hx hb dL_law_3005 hl (by decide) rfl (fun ls hl => ?_)
  refine lv_aload_n hx hb dL_law_3007 rfl (lv_at hl 4 rfl) ?_
  refine k_X11_thrown X hS hH kd_461 t_ml_VernierDrawersLaw_207 hl.1 (Nat.le_of_ble_eq_true rfl) ⟨Nat.le_of_ble_eq_true rfl, Nat.le_of_ble_eq_true rfl⟩ ⟨hq3, (le_sl hq3)⟩ dL_law_3008 ?_
  refine lv_iload hx hb dL_law_3011 (lv_at hl 1 rfl) ?_
  refine lv_icmp_eq (tgt := 3018) hx hb dL_law_3013 (by decide) (fun c8 => ?_) (fun c8 => ?_)
  · have ho := ho.1 c8
    refine lv_iload hx hb dL_law_3018 (lv_at hl 1 rfl) ?_
    refine lv_if_ne (tgt := 3035) hx hb dL_law_3020 (by decide) (fun c9 => ?_) (fun c9 => ?_)
    · have ho := ho.2 c9
      refine lv_goto (tgt := 4036) hx hb dL_law_3035 (by decide) ?_
      have hq10 := ho
      refine W.widen (k := c1) (n := c1) hq10 hq10 ?_
      replace ev4 := Eq.symm ev4
      replace ex5 := Eq.symm ex5
      replace ev7 := Eq.symm ev7
      subst ev4 ex5 ev7
      exact E _ _ _ _ _ _ (pr1 ((flc_49.eq_1 _ _ _ _).trans ((if_pos c8).trans ((if_neg c9).trans rfl)))) (pr2 ((flc_49.eq_1 _ _ _ _).trans ((if_pos c8).trans ((if_neg c9).trans rfl)))) hH hS (lv_sub hl [2, 3, 4, 5, 6, 7] rfl)
    · have ho := ho.1 c9
      refine lv_aload_n hx hb dL_law_3023 rfl (lv_at hl 5 rfl) ?_
      refine lv_iconst (v := 0) hx hb dL_law_3024 (by decide) ?_
      refine lald_34 X hH kd_468 (i_in (by decide) (by decide)) dL_law_3025 ?_
      refine lv_iload hx hb dL_law_3026 (lv_at hl 0 rfl) ?_
      refine lv_i2l (v := ((fX11_badOf 461 (xs (i + 1 : Int32).toNatClampNeg) v4).1 : Int32).toInt64) hx hb dL_law_3028 rfl ?_
      refine W.lcmp hx hb dL_law_3029 ?_
      refine lv_if_eq (tgt := 3035) hx hb dL_law_3030 (by decide) (fun c11 => ?_) (fun c11 => ?_)
      · have ho := ho.1 c11
        refine lv_goto (tgt := 4036) hx hb dL_law_3035 (by decide) ?_
        have hq12 := ho
        refine W.widen (k := c1) (n := c1) hq12 hq12 ?_
        replace ev4 := Eq.symm ev4
        replace ex5 := Eq.symm ex5
        replace ev7 := Eq.symm ev7
        subst ev4 ex5 ev7
        exact E _ _ _ _ _ _ (pr1 ((flc_49.eq_1 _ _ _ _).trans ((if_pos c8).trans ((if_pos c9).trans ((if_pos c11).trans rfl))))) (pr2 ((flc_49.eq_1 _ _ _ _).trans ((if_pos c8).trans ((if_pos c9).trans ((if_pos c11).trans rfl))))) hH hS (lv_sub hl [2, 3, 4, 5, 6, 7] rfl)
      · have ho := ho.2 c11
        have hq13 := ho
        exact hq13.elim
  · have ho := ho.2 c8
    have hq14 := ho
    exact hq14.elim
theorem dL_law_3038 : decode cL_law 3038 = .ok (.aload_n 1, 1) := by decide +kernel
theorem dL_law_3039 : decode cL_law 3039 = .ok (.aload_n 0, 1) := by decide +kernel
theorem dL_law_3040 : decode cL_law 3040 = .ok (.iload 5, 2) := by decide +kernel
theorem dL_law_3042 : decode cL_law 3042 = .ok (.iconst 1, 1) := by decide +kernel
theorem dL_law_3043 : decode cL_law 3043 = .ok (.iadd, 1) := by decide +kernel
theorem dL_law_3044 : decode cL_law 3044 = .ok (.iaload, 1) := by decide +kernel
theorem dL_law_3045 : decode cL_law 3045 = .ok (.aload_n 3, 1) := by decide +kernel
theorem dL_law_3046 : decode cL_law 3046 = .ok (.invokestatic 369, 3) := by decide +kernel
theorem dL_law_3049 : decode cL_law 3049 = .ok (.istore 6, 2) := by decide +kernel
theorem dL_law_3051 : decode cL_law 3051 = .ok (.aload_n 2, 1) := by decide +kernel
theorem dL_law_3052 : decode cL_law 3052 = .ok (.aload_n 0, 1) := by decide +kernel
theorem dL_law_3053 : decode cL_law 3053 = .ok (.iload 5, 2) := by decide +kernel
theorem dL_law_3055 : decode cL_law 3055 = .ok (.iconst 1, 1) := by decide +kernel
theorem dL_law_3056 : decode cL_law 3056 = .ok (.iadd, 1) := by decide +kernel
theorem dL_law_3057 : decode cL_law 3057 = .ok (.iaload, 1) := by decide +kernel
theorem dL_law_3058 : decode cL_law 3058 = .ok (.invokevirtual 371, 3) := by decide +kernel
theorem dL_law_3061 : decode cL_law 3061 = .ok (.istore 7, 2) := by decide +kernel
theorem dL_law_3063 : decode cL_law 3063 = .ok (.aload_n 2, 1) := by decide +kernel
theorem dL_law_3064 : decode cL_law 3064 = .ok (.invokevirtual 207, 3) := by decide +kernel
theorem dL_law_3067 : decode cL_law 3067 = .ok (.iload 6, 2) := by decide +kernel
theorem dL_law_3069 : decode cL_law 3069 = .ok (.if_icmp .eq 5, 3) := by decide +kernel
theorem dL_law_3074 : decode cL_law 3074 = .ok (.iload 6, 2) := by decide +kernel
theorem dL_law_3076 : decode cL_law 3076 = .ok (.ifCond .ne 15, 3) := by decide +kernel
theorem dL_law_3079 : decode cL_law 3079 = .ok (.aload_n 3, 1) := by decide +kernel
theorem dL_law_3080 : decode cL_law 3080 = .ok (.iconst 0, 1) := by decide +kernel
theorem dL_law_3081 : decode cL_law 3081 = .ok (.laload, 1) := by decide +kernel
theorem dL_law_3082 : decode cL_law 3082 = .ok (.iload 7, 2) := by decide +kernel
theorem dL_law_3084 : decode cL_law 3084 = .ok (.i2l, 1) := by decide +kernel
theorem dL_law_3085 : decode cL_law 3085 = .ok (.lcmp, 1) := by decide +kernel
theorem dL_law_3086 : decode cL_law 3086 = .ok (.ifCond .eq 5, 3) := by decide +kernel
theorem dL_law_3091 : decode cL_law 3091 = .ok (.goto 945, 3) := by decide +kernel
set_option maxHeartbeats 8000000 in
set_option maxRecDepth 100000 in
theorem lc_50 {p : Program} {l : Launch} {e : Env} {s : State} {m : MethodId} {args : Array Value} {below : List Frame} {meth : Method} {c : Code} {H : Heap} {locs : List Loc} {Q : State → Prop} {ls : Array Slot} {G : gG} {da : Nat → Nat} {v : vSt} {x : gX} (hst : l.stackTraces = false) (X : CX G p s m args c cL_law 8 RL) (hN : NC s) {b L : Nat} {xs : Nat → Int32} (hX : va_X b L xs s s.heap) (hbl : b < s.heap.size) (hbA : ¬ gA G b) {i : Int32} (hi : 0 ≤ i.toInt ∧ i.toInt + 5 ≤ (L : Int) ∧ L ≤ 2560) (hH : Hp G da v x H) (hS : va_S (gA G) s.heap H locs) (hl : lv_has ls 8 [(0, .ref b), (1, .ref (ga G 448)), (2, .ref (ga G 461)), (3, .ref (ga G 468)), (4, .ref (ga G 469)), (5, .int i)]) {c0 c1 : Nat} (ho : olc_50 i xs v x c0 c1) (E : ∀ (da1 : Nat → Nat) (H1 : Heap) (locs1 : List Loc) (ls1 : Array Slot) (v2 : vSt) (x2 : gX), v2 = (flc_50 i xs v x).1 → x2 = (flc_50 i xs v x).2 → Hp G da1 v2 x2 H1 → va_S (gA G) s.heap H1 locs1 → lv_has ls1 8 [(0, .ref b), (1, .ref (ga G 448)), (2, .ref (ga G 461)), (3, .ref (ga G 468)), (4, .ref (ga G 469)), (5, .int i)] → W p l e room_1 s m args below meth c H1 locs1 c1 c1 Q (F0 m 4036 ls1 [])) : W p l e room_1 s m args below meth c H locs c0 c0 Q (F0 m 3038 ls []) := by
  have hx := X.1
  have hb := X.2.1
  have hown := X.2.2.2.1
  have hts := X.2.2.2.2.1
  unfold olc_50 at ho
  refine lv_aload_n hx hb dL_law_3038 rfl (lv_at hl 1 rfl) ?_
  refine lv_aload_n hx hb dL_law_3039 rfl (lv_at hl 0 rfl) ?_
  refine lv_iload hx hb dL_law_3040 (lv_at hl 5 rfl) ?_
  refine lv_iconst (v := 1) hx hb dL_law_3042 (by decide) ?_
  refine lv_iadd hx hb dL_law_3043 ?_
  refine va_sld hx hb hX hbl hbA hS (sx hi 1 (by decide)) dL_law_3044 ?_
  refine lv_aload_n hx hb dL_law_3045 rfl (lv_at hl 3 rfl) ?_
  have hq1 := ho.1
  have ho := ho.2
  have hq2 := ho.1
  have ho := ho.2
  have hq3 := ho.1
  have ho := ho.2
  refine k_L_goodUntilChange hst X hS hN hH kd_448 kd_468 hq1 t_ml_VernierDrawersLaw_369 hl.1 (Nat.le_of_ble_eq_true rfl) ⟨Nat.le_of_ble_eq_true rfl, Nat.le_of_ble_eq_true rfl⟩ ⟨hq3, (le_sl hq3)⟩ dL_law_3046 (fun da H locs v4 x5 ev4 ex5 hH hS => ?_)
  have ho := ho v4 ev4 x5 ex5
  refine lv_istore (lv' := [(6, .int ((fL_goodUntilChange 448 (xs (i + 1 : Int32).toNatClampNeg) 468 v x).1)), (0, .ref b), (1, .ref (ga G 448)), (2, .ref (ga G 461)), (3, .ref (ga G 468)), (4, .ref (ga G 469)), (5, .int i)]) hx hb dL_law_3049 hl (by decide) rfl (fun ls hl => ?_)
  refine lv_aload_n hx hb dL_law_3051 rfl (lv_at hl 3 rfl) ?_
  refine lv_aload_n hx hb dL_law_3052 rfl (lv_at hl 1 rfl) ?_
  refine lv_iload hx hb dL_law_3053 (lv_at hl 6 rfl) ?_
  refine lv_iconst (v := 1) hx hb dL_law_3055 (by decide) ?_
  refine lv_iadd hx hb dL_law_3056 ?_
  refine va_sld hx hb hX hbl hbA hS (sx hi 1 (by decide)) dL_law_3057 ?_
  have hq6 := ho.1
  have ho := ho.2
  refine k_X11_goodUntilChange X hS hH kd_461 hq6 t_ml_VernierDrawersLaw_371 hl.1 (Nat.le_of_ble_eq_true rfl) ⟨Nat.le_of_ble_eq_true rfl, Nat.le_of_ble_eq_true rfl⟩ ⟨hq3, (le_sl hq3)⟩ dL_law_3058 (fun da H locs v7 ev7 hH hS => ?_)
  have ho := ho v7 ev7
  refine lv_istore (lv' := [(7, .int ((fX11_goodUntilChange 461 (xs (i + 1 : Int32).toNatClampNeg) v4).1)), (6, .int ((fL_goodUntilChange 448 (xs (i + 1 : Int32).toNatClampNeg) 468 v x).1)), (0, .ref b), (1, .ref (ga G 448)), (2, .ref (ga G 461)), (3, .ref (ga G 468)), (4, .ref (ga G 469)), (5, .int i)]) hx hb dL_law_3061 hl (by decide) rfl (fun ls hl => ?_)
  refine lv_aload_n hx hb dL_law_3063 rfl (lv_at hl 4 rfl) ?_
  refine k_X11_thrown X hS hH kd_461 t_ml_VernierDrawersLaw_207 hl.1 (Nat.le_of_ble_eq_true rfl) ⟨Nat.le_of_ble_eq_true rfl, Nat.le_of_ble_eq_true rfl⟩ ⟨hq3, (le_sl hq3)⟩ dL_law_3064 ?_
  refine lv_iload hx hb dL_law_3067 (lv_at hl 1 rfl) ?_
  refine lv_icmp_eq (tgt := 3074) hx hb dL_law_3069 (by decide) (fun c8 => ?_) (fun c8 => ?_)
  · have ho := ho.1 c8
    refine lv_iload hx hb dL_law_3074 (lv_at hl 1 rfl) ?_
    refine lv_if_ne (tgt := 3091) hx hb dL_law_3076 (by decide) (fun c9 => ?_) (fun c9 => ?_)
    · have ho := ho.2 c9
      refine lv_goto (tgt := 4036) hx hb dL_law_3091 (by decide) ?_
      have hq10 := ho
      refine W.widen (k := c1) (n := c1) hq10 hq10 ?_
      replace ev4 := Eq.symm ev4
      replace ex5 := Eq.symm ex5
      replace ev7 := Eq.symm ev7
      subst ev4 ex5 ev7
      exact E _ _ _ _ _ _ (pr1 ((flc_50.eq_1 _ _ _ _).trans ((if_pos c8).trans ((if_neg c9).trans rfl)))) (pr2 ((flc_50.eq_1 _ _ _ _).trans ((if_pos c8).trans ((if_neg c9).trans rfl)))) hH hS (lv_sub hl [2, 3, 4, 5, 6, 7] rfl)
    · have ho := ho.1 c9
      refine lv_aload_n hx hb dL_law_3079 rfl (lv_at hl 5 rfl) ?_
      refine lv_iconst (v := 0) hx hb dL_law_3080 (by decide) ?_
      refine lald_34 X hH kd_468 (i_in (by decide) (by decide)) dL_law_3081 ?_
      refine lv_iload hx hb dL_law_3082 (lv_at hl 0 rfl) ?_
      refine lv_i2l (v := ((fX11_goodUntilChange 461 (xs (i + 1 : Int32).toNatClampNeg) v4).1 : Int32).toInt64) hx hb dL_law_3084 rfl ?_
      refine W.lcmp hx hb dL_law_3085 ?_
      refine lv_if_eq (tgt := 3091) hx hb dL_law_3086 (by decide) (fun c11 => ?_) (fun c11 => ?_)
      · have ho := ho.1 c11
        refine lv_goto (tgt := 4036) hx hb dL_law_3091 (by decide) ?_
        have hq12 := ho
        refine W.widen (k := c1) (n := c1) hq12 hq12 ?_
        replace ev4 := Eq.symm ev4
        replace ex5 := Eq.symm ex5
        replace ev7 := Eq.symm ev7
        subst ev4 ex5 ev7
        exact E _ _ _ _ _ _ (pr1 ((flc_50.eq_1 _ _ _ _).trans ((if_pos c8).trans ((if_pos c9).trans ((if_pos c11).trans rfl))))) (pr2 ((flc_50.eq_1 _ _ _ _).trans ((if_pos c8).trans ((if_pos c9).trans ((if_pos c11).trans rfl))))) hH hS (lv_sub hl [2, 3, 4, 5, 6, 7] rfl)
      · have ho := ho.2 c11
        have hq13 := ho
        exact hq13.elim
  · have ho := ho.2 c8
    have hq14 := ho
    exact hq14.elim
theorem dL_law_3094 : decode cL_law 3094 = .ok (.aload_n 1, 1) := by decide +kernel
theorem dL_law_3095 : decode cL_law 3095 = .ok (.aload_n 0, 1) := by decide +kernel
theorem dL_law_3096 : decode cL_law 3096 = .ok (.iload 5, 2) := by decide +kernel
theorem dL_law_3098 : decode cL_law 3098 = .ok (.iconst 1, 1) := by decide +kernel
theorem dL_law_3099 : decode cL_law 3099 = .ok (.iadd, 1) := by decide +kernel
theorem dL_law_3100 : decode cL_law 3100 = .ok (.iaload, 1) := by decide +kernel
theorem dL_law_3101 : decode cL_law 3101 = .ok (.aload_n 3, 1) := by decide +kernel
theorem dL_law_3102 : decode cL_law 3102 = .ok (.invokestatic 372, 3) := by decide +kernel
theorem dL_law_3105 : decode cL_law 3105 = .ok (.istore 6, 2) := by decide +kernel
theorem dL_law_3107 : decode cL_law 3107 = .ok (.aload_n 2, 1) := by decide +kernel
theorem dL_law_3108 : decode cL_law 3108 = .ok (.aload_n 0, 1) := by decide +kernel
theorem dL_law_3109 : decode cL_law 3109 = .ok (.iload 5, 2) := by decide +kernel
theorem dL_law_3111 : decode cL_law 3111 = .ok (.iconst 1, 1) := by decide +kernel
theorem dL_law_3112 : decode cL_law 3112 = .ok (.iadd, 1) := by decide +kernel
theorem dL_law_3113 : decode cL_law 3113 = .ok (.iaload, 1) := by decide +kernel
theorem dL_law_3114 : decode cL_law 3114 = .ok (.invokevirtual 374, 3) := by decide +kernel
theorem dL_law_3117 : decode cL_law 3117 = .ok (.istore 7, 2) := by decide +kernel
theorem dL_law_3119 : decode cL_law 3119 = .ok (.aload_n 2, 1) := by decide +kernel
theorem dL_law_3120 : decode cL_law 3120 = .ok (.invokevirtual 207, 3) := by decide +kernel
theorem dL_law_3123 : decode cL_law 3123 = .ok (.iload 6, 2) := by decide +kernel
theorem dL_law_3125 : decode cL_law 3125 = .ok (.if_icmp .eq 5, 3) := by decide +kernel
theorem dL_law_3130 : decode cL_law 3130 = .ok (.iload 6, 2) := by decide +kernel
theorem dL_law_3132 : decode cL_law 3132 = .ok (.ifCond .ne 15, 3) := by decide +kernel
theorem dL_law_3135 : decode cL_law 3135 = .ok (.aload_n 3, 1) := by decide +kernel
theorem dL_law_3136 : decode cL_law 3136 = .ok (.iconst 0, 1) := by decide +kernel
theorem dL_law_3137 : decode cL_law 3137 = .ok (.laload, 1) := by decide +kernel
theorem dL_law_3138 : decode cL_law 3138 = .ok (.iload 7, 2) := by decide +kernel
theorem dL_law_3140 : decode cL_law 3140 = .ok (.i2l, 1) := by decide +kernel
theorem dL_law_3141 : decode cL_law 3141 = .ok (.lcmp, 1) := by decide +kernel
theorem dL_law_3142 : decode cL_law 3142 = .ok (.ifCond .eq 5, 3) := by decide +kernel
theorem dL_law_3147 : decode cL_law 3147 = .ok (.goto 889, 3) := by decide +kernel
set_option maxHeartbeats 8000000 in
set_option maxRecDepth 100000 in
theorem lc_51 {p : Program} {l : Launch} {e : Env} {s : State} {m : MethodId} {args : Array Value} {below : List Frame} {meth : Method} {c : Code} {H : Heap} {locs : List Loc} {Q : State → Prop} {ls : Array Slot} {G : gG} {da : Nat → Nat} {v : vSt} {x : gX} (hst : l.stackTraces = false) (X : CX G p s m args c cL_law 8 RL) (hN : NC s) {b L : Nat} {xs : Nat → Int32} (hX : va_X b L xs s s.heap) (hbl : b < s.heap.size) (hbA : ¬ gA G b) {i : Int32} (hi : 0 ≤ i.toInt ∧ i.toInt + 5 ≤ (L : Int) ∧ L ≤ 2560) (hH : Hp G da v x H) (hS : va_S (gA G) s.heap H locs) (hl : lv_has ls 8 [(0, .ref b), (1, .ref (ga G 448)), (2, .ref (ga G 461)), (3, .ref (ga G 468)), (4, .ref (ga G 469)), (5, .int i)]) {c0 c1 : Nat} (ho : olc_51 i xs v x c0 c1) (E : ∀ (da1 : Nat → Nat) (H1 : Heap) (locs1 : List Loc) (ls1 : Array Slot) (v2 : vSt) (x2 : gX), v2 = (flc_51 i xs v x).1 → x2 = (flc_51 i xs v x).2 → Hp G da1 v2 x2 H1 → va_S (gA G) s.heap H1 locs1 → lv_has ls1 8 [(0, .ref b), (1, .ref (ga G 448)), (2, .ref (ga G 461)), (3, .ref (ga G 468)), (4, .ref (ga G 469)), (5, .int i)] → W p l e room_1 s m args below meth c H1 locs1 c1 c1 Q (F0 m 4036 ls1 [])) : W p l e room_1 s m args below meth c H locs c0 c0 Q (F0 m 3094 ls []) := by
  have hx := X.1
  have hb := X.2.1
  have hown := X.2.2.2.1
  have hts := X.2.2.2.2.1
  unfold olc_51 at ho
  refine lv_aload_n hx hb dL_law_3094 rfl (lv_at hl 1 rfl) ?_
  refine lv_aload_n hx hb dL_law_3095 rfl (lv_at hl 0 rfl) ?_
  refine lv_iload hx hb dL_law_3096 (lv_at hl 5 rfl) ?_
  refine lv_iconst (v := 1) hx hb dL_law_3098 (by decide) ?_
  refine lv_iadd hx hb dL_law_3099 ?_
  refine va_sld hx hb hX hbl hbA hS (sx hi 1 (by decide)) dL_law_3100 ?_
  refine lv_aload_n hx hb dL_law_3101 rfl (lv_at hl 3 rfl) ?_
  have hq1 := ho.1
  have ho := ho.2
  have hq2 := ho.1
  have ho := ho.2
  have hq3 := ho.1
  have ho := ho.2
  refine k_L_charted hst X hS hN hH kd_448 kd_468 hq1 t_ml_VernierDrawersLaw_372 hl.1 (Nat.le_of_ble_eq_true rfl) ⟨Nat.le_of_ble_eq_true rfl, Nat.le_of_ble_eq_true rfl⟩ ⟨hq3, (le_sl hq3)⟩ dL_law_3102 (fun da H locs v4 x5 ev4 ex5 hH hS => ?_)
  have ho := ho v4 ev4 x5 ex5
  refine lv_istore (lv' := [(6, .int ((fL_charted 448 (xs (i + 1 : Int32).toNatClampNeg) 468 v x).1)), (0, .ref b), (1, .ref (ga G 448)), (2, .ref (ga G 461)), (3, .ref (ga G 468)), (4, .ref (ga G 469)), (5, .int i)]) hx hb dL_law_3105 hl (by decide) rfl (fun ls hl => ?_)
  refine lv_aload_n hx hb dL_law_3107 rfl (lv_at hl 3 rfl) ?_
  refine lv_aload_n hx hb dL_law_3108 rfl (lv_at hl 1 rfl) ?_
  refine lv_iload hx hb dL_law_3109 (lv_at hl 6 rfl) ?_
  refine lv_iconst (v := 1) hx hb dL_law_3111 (by decide) ?_
  refine lv_iadd hx hb dL_law_3112 ?_
  refine va_sld hx hb hX hbl hbA hS (sx hi 1 (by decide)) dL_law_3113 ?_
  have hq6 := ho.1
  have ho := ho.2
  refine k_X11_charted X hS hH kd_461 hq6 t_ml_VernierDrawersLaw_374 hl.1 (Nat.le_of_ble_eq_true rfl) ⟨Nat.le_of_ble_eq_true rfl, Nat.le_of_ble_eq_true rfl⟩ ⟨hq3, (le_sl hq3)⟩ dL_law_3114 (fun da H locs v7 ev7 hH hS => ?_)
  have ho := ho v7 ev7
  refine lv_istore (lv' := [(7, .int ((fX11_charted 461 (xs (i + 1 : Int32).toNatClampNeg) v4).1)), (6, .int ((fL_charted 448 (xs (i + 1 : Int32).toNatClampNeg) 468 v x).1)), (0, .ref b), (1, .ref (ga G 448)), (2, .ref (ga G 461)), (3, .ref (ga G 468)), (4, .ref (ga G 469)), (5, .int i)]) hx hb dL_law_3117 hl (by decide) rfl (fun ls hl => ?_)
  refine lv_aload_n hx hb dL_law_3119 rfl (lv_at hl 4 rfl) ?_
  refine k_X11_thrown X hS hH kd_461 t_ml_VernierDrawersLaw_207 hl.1 (Nat.le_of_ble_eq_true rfl) ⟨Nat.le_of_ble_eq_true rfl, Nat.le_of_ble_eq_true rfl⟩ ⟨hq3, (le_sl hq3)⟩ dL_law_3120 ?_
  refine lv_iload hx hb dL_law_3123 (lv_at hl 1 rfl) ?_
  refine lv_icmp_eq (tgt := 3130) hx hb dL_law_3125 (by decide) (fun c8 => ?_) (fun c8 => ?_)
  · have ho := ho.1 c8
    refine lv_iload hx hb dL_law_3130 (lv_at hl 1 rfl) ?_
    refine lv_if_ne (tgt := 3147) hx hb dL_law_3132 (by decide) (fun c9 => ?_) (fun c9 => ?_)
    · have ho := ho.2 c9
      refine lv_goto (tgt := 4036) hx hb dL_law_3147 (by decide) ?_
      have hq10 := ho
      refine W.widen (k := c1) (n := c1) hq10 hq10 ?_
      replace ev4 := Eq.symm ev4
      replace ex5 := Eq.symm ex5
      replace ev7 := Eq.symm ev7
      subst ev4 ex5 ev7
      exact E _ _ _ _ _ _ (pr1 ((flc_51.eq_1 _ _ _ _).trans ((if_pos c8).trans ((if_neg c9).trans rfl)))) (pr2 ((flc_51.eq_1 _ _ _ _).trans ((if_pos c8).trans ((if_neg c9).trans rfl)))) hH hS (lv_sub hl [2, 3, 4, 5, 6, 7] rfl)
    · have ho := ho.1 c9
      refine lv_aload_n hx hb dL_law_3135 rfl (lv_at hl 5 rfl) ?_
      refine lv_iconst (v := 0) hx hb dL_law_3136 (by decide) ?_
      refine lald_34 X hH kd_468 (i_in (by decide) (by decide)) dL_law_3137 ?_
      refine lv_iload hx hb dL_law_3138 (lv_at hl 0 rfl) ?_
      refine lv_i2l (v := ((fX11_charted 461 (xs (i + 1 : Int32).toNatClampNeg) v4).1 : Int32).toInt64) hx hb dL_law_3140 rfl ?_
      refine W.lcmp hx hb dL_law_3141 ?_
      refine lv_if_eq (tgt := 3147) hx hb dL_law_3142 (by decide) (fun c11 => ?_) (fun c11 => ?_)
      · have ho := ho.1 c11
        refine lv_goto (tgt := 4036) hx hb dL_law_3147 (by decide) ?_
        have hq12 := ho
        refine W.widen (k := c1) (n := c1) hq12 hq12 ?_
        replace ev4 := Eq.symm ev4
        replace ex5 := Eq.symm ex5
        replace ev7 := Eq.symm ev7
        subst ev4 ex5 ev7
        exact E _ _ _ _ _ _ (pr1 ((flc_51.eq_1 _ _ _ _).trans ((if_pos c8).trans ((if_pos c9).trans ((if_pos c11).trans rfl))))) (pr2 ((flc_51.eq_1 _ _ _ _).trans ((if_pos c8).trans ((if_pos c9).trans ((if_pos c11).trans rfl))))) hH hS (lv_sub hl [2, 3, 4, 5, 6, 7] rfl)
      · have ho := ho.2 c11
        have hq13 := ho
        exact hq13.elim
  · have ho := ho.2 c8
    have hq14 := ho
    exact hq14.elim
theorem dL_law_3150 : decode cL_law 3150 = .ok (.aload_n 1, 1) := by decide +kernel
theorem dL_law_3151 : decode cL_law 3151 = .ok (.aload_n 0, 1) := by decide +kernel
theorem dL_law_3152 : decode cL_law 3152 = .ok (.iload 5, 2) := by decide +kernel
theorem dL_law_3154 : decode cL_law 3154 = .ok (.iconst 1, 1) := by decide +kernel
theorem dL_law_3155 : decode cL_law 3155 = .ok (.iadd, 1) := by decide +kernel
theorem dL_law_3156 : decode cL_law 3156 = .ok (.iaload, 1) := by decide +kernel
theorem dL_law_3157 : decode cL_law 3157 = .ok (.aload_n 0, 1) := by decide +kernel
theorem dL_law_3158 : decode cL_law 3158 = .ok (.iload 5, 2) := by decide +kernel
theorem dL_law_3160 : decode cL_law 3160 = .ok (.iconst 2, 1) := by decide +kernel
theorem dL_law_3161 : decode cL_law 3161 = .ok (.iadd, 1) := by decide +kernel
theorem dL_law_3162 : decode cL_law 3162 = .ok (.iaload, 1) := by decide +kernel
theorem dL_law_3163 : decode cL_law 3163 = .ok (.aload_n 3, 1) := by decide +kernel
theorem dL_law_3164 : decode cL_law 3164 = .ok (.invokestatic 375, 3) := by decide +kernel
theorem dL_law_3167 : decode cL_law 3167 = .ok (.istore 6, 2) := by decide +kernel
theorem dL_law_3169 : decode cL_law 3169 = .ok (.aload_n 2, 1) := by decide +kernel
theorem dL_law_3170 : decode cL_law 3170 = .ok (.aload_n 0, 1) := by decide +kernel
theorem dL_law_3171 : decode cL_law 3171 = .ok (.iload 5, 2) := by decide +kernel
theorem dL_law_3173 : decode cL_law 3173 = .ok (.iconst 1, 1) := by decide +kernel
theorem dL_law_3174 : decode cL_law 3174 = .ok (.iadd, 1) := by decide +kernel
theorem dL_law_3175 : decode cL_law 3175 = .ok (.iaload, 1) := by decide +kernel
theorem dL_law_3176 : decode cL_law 3176 = .ok (.aload_n 0, 1) := by decide +kernel
theorem dL_law_3177 : decode cL_law 3177 = .ok (.iload 5, 2) := by decide +kernel
theorem dL_law_3179 : decode cL_law 3179 = .ok (.iconst 2, 1) := by decide +kernel
theorem dL_law_3180 : decode cL_law 3180 = .ok (.iadd, 1) := by decide +kernel
theorem dL_law_3181 : decode cL_law 3181 = .ok (.iaload, 1) := by decide +kernel
theorem dL_law_3182 : decode cL_law 3182 = .ok (.invokevirtual 377, 3) := by decide +kernel
theorem dL_law_3185 : decode cL_law 3185 = .ok (.istore 7, 2) := by decide +kernel
theorem dL_law_3187 : decode cL_law 3187 = .ok (.aload_n 2, 1) := by decide +kernel
theorem dL_law_3188 : decode cL_law 3188 = .ok (.invokevirtual 207, 3) := by decide +kernel
theorem dL_law_3191 : decode cL_law 3191 = .ok (.iload 6, 2) := by decide +kernel
theorem dL_law_3193 : decode cL_law 3193 = .ok (.if_icmp .eq 5, 3) := by decide +kernel
theorem dL_law_3198 : decode cL_law 3198 = .ok (.iload 6, 2) := by decide +kernel
theorem dL_law_3200 : decode cL_law 3200 = .ok (.ifCond .ne 15, 3) := by decide +kernel
theorem dL_law_3203 : decode cL_law 3203 = .ok (.aload_n 3, 1) := by decide +kernel
theorem dL_law_3204 : decode cL_law 3204 = .ok (.iconst 0, 1) := by decide +kernel
theorem dL_law_3205 : decode cL_law 3205 = .ok (.laload, 1) := by decide +kernel
theorem dL_law_3206 : decode cL_law 3206 = .ok (.iload 7, 2) := by decide +kernel
theorem dL_law_3208 : decode cL_law 3208 = .ok (.i2l, 1) := by decide +kernel
theorem dL_law_3209 : decode cL_law 3209 = .ok (.lcmp, 1) := by decide +kernel
theorem dL_law_3210 : decode cL_law 3210 = .ok (.ifCond .eq 5, 3) := by decide +kernel
theorem dL_law_3215 : decode cL_law 3215 = .ok (.goto 821, 3) := by decide +kernel
set_option maxHeartbeats 8000000 in
set_option maxRecDepth 100000 in
theorem lc_52 {p : Program} {l : Launch} {e : Env} {s : State} {m : MethodId} {args : Array Value} {below : List Frame} {meth : Method} {c : Code} {H : Heap} {locs : List Loc} {Q : State → Prop} {ls : Array Slot} {G : gG} {da : Nat → Nat} {v : vSt} {x : gX} (hst : l.stackTraces = false) (X : CX G p s m args c cL_law 8 RL) (hN : NC s) {b L : Nat} {xs : Nat → Int32} (hX : va_X b L xs s s.heap) (hbl : b < s.heap.size) (hbA : ¬ gA G b) {i : Int32} (hi : 0 ≤ i.toInt ∧ i.toInt + 5 ≤ (L : Int) ∧ L ≤ 2560) (hH : Hp G da v x H) (hS : va_S (gA G) s.heap H locs) (hl : lv_has ls 8 [(0, .ref b), (1, .ref (ga G 448)), (2, .ref (ga G 461)), (3, .ref (ga G 468)), (4, .ref (ga G 469)), (5, .int i)]) {c0 c1 : Nat} (ho : olc_52 i xs v x c0 c1) (E : ∀ (da1 : Nat → Nat) (H1 : Heap) (locs1 : List Loc) (ls1 : Array Slot) (v2 : vSt) (x2 : gX), v2 = (flc_52 i xs v x).1 → x2 = (flc_52 i xs v x).2 → Hp G da1 v2 x2 H1 → va_S (gA G) s.heap H1 locs1 → lv_has ls1 8 [(0, .ref b), (1, .ref (ga G 448)), (2, .ref (ga G 461)), (3, .ref (ga G 468)), (4, .ref (ga G 469)), (5, .int i)] → W p l e room_1 s m args below meth c H1 locs1 c1 c1 Q (F0 m 4036 ls1 [])) : W p l e room_1 s m args below meth c H locs c0 c0 Q (F0 m 3150 ls []) := by
  have hx := X.1
  have hb := X.2.1
  have hown := X.2.2.2.1
  have hts := X.2.2.2.2.1
  unfold olc_52 at ho
  refine lv_aload_n hx hb dL_law_3150 rfl (lv_at hl 1 rfl) ?_
  refine lv_aload_n hx hb dL_law_3151 rfl (lv_at hl 0 rfl) ?_
  refine lv_iload hx hb dL_law_3152 (lv_at hl 5 rfl) ?_
  refine lv_iconst (v := 1) hx hb dL_law_3154 (by decide) ?_
  refine lv_iadd hx hb dL_law_3155 ?_
  refine va_sld hx hb hX hbl hbA hS (sx hi 1 (by decide)) dL_law_3156 ?_
  refine lv_aload_n hx hb dL_law_3157 rfl (lv_at hl 0 rfl) ?_
  refine lv_iload hx hb dL_law_3158 (lv_at hl 5 rfl) ?_
  refine lv_iconst (v := 2) hx hb dL_law_3160 (by decide) ?_
  refine lv_iadd hx hb dL_law_3161 ?_
  refine va_sld hx hb hX hbl hbA hS (sx hi 2 (by decide)) dL_law_3162 ?_
  refine lv_aload_n hx hb dL_law_3163 rfl (lv_at hl 3 rfl) ?_
  have hq1 := ho.1
  have ho := ho.2
  have hq2 := ho.1
  have ho := ho.2
  have hq3 := ho.1
  have ho := ho.2
  refine k_L_chartedAt hst X hS hN hH kd_448 kd_468 hq1 t_ml_VernierDrawersLaw_375 hl.1 (Nat.le_of_ble_eq_true rfl) ⟨Nat.le_of_ble_eq_true rfl, Nat.le_of_ble_eq_true rfl⟩ ⟨hq3, (le_sl hq3)⟩ dL_law_3164 (fun da H locs v4 x5 ev4 ex5 hH hS => ?_)
  have ho := ho v4 ev4 x5 ex5
  refine lv_istore (lv' := [(6, .int ((fL_chartedAt 448 (xs (i + 1 : Int32).toNatClampNeg) (xs (i + 2 : Int32).toNatClampNeg) 468 v x).1)), (0, .ref b), (1, .ref (ga G 448)), (2, .ref (ga G 461)), (3, .ref (ga G 468)), (4, .ref (ga G 469)), (5, .int i)]) hx hb dL_law_3167 hl (by decide) rfl (fun ls hl => ?_)
  refine lv_aload_n hx hb dL_law_3169 rfl (lv_at hl 3 rfl) ?_
  refine lv_aload_n hx hb dL_law_3170 rfl (lv_at hl 1 rfl) ?_
  refine lv_iload hx hb dL_law_3171 (lv_at hl 6 rfl) ?_
  refine lv_iconst (v := 1) hx hb dL_law_3173 (by decide) ?_
  refine lv_iadd hx hb dL_law_3174 ?_
  refine va_sld hx hb hX hbl hbA hS (sx hi 1 (by decide)) dL_law_3175 ?_
  refine lv_aload_n hx hb dL_law_3176 rfl (lv_at hl 1 rfl) ?_
  refine lv_iload hx hb dL_law_3177 (lv_at hl 6 rfl) ?_
  refine lv_iconst (v := 2) hx hb dL_law_3179 (by decide) ?_
  refine lv_iadd hx hb dL_law_3180 ?_
  refine va_sld hx hb hX hbl hbA hS (sx hi 2 (by decide)) dL_law_3181 ?_
  have hq6 := ho.1
  have ho := ho.2
  refine k_X11_chartedAt X hS hH kd_461 hq6 t_ml_VernierDrawersLaw_377 hl.1 (Nat.le_of_ble_eq_true rfl) ⟨Nat.le_of_ble_eq_true rfl, Nat.le_of_ble_eq_true rfl⟩ ⟨hq3, (le_sl hq3)⟩ dL_law_3182 (fun da H locs v7 ev7 hH hS => ?_)
  have ho := ho v7 ev7
  refine lv_istore (lv' := [(7, .int ((fX11_chartedAt 461 (xs (i + 1 : Int32).toNatClampNeg) (xs (i + 2 : Int32).toNatClampNeg) v4).1)), (6, .int ((fL_chartedAt 448 (xs (i + 1 : Int32).toNatClampNeg) (xs (i + 2 : Int32).toNatClampNeg) 468 v x).1)), (0, .ref b), (1, .ref (ga G 448)), (2, .ref (ga G 461)), (3, .ref (ga G 468)), (4, .ref (ga G 469)), (5, .int i)]) hx hb dL_law_3185 hl (by decide) rfl (fun ls hl => ?_)
  refine lv_aload_n hx hb dL_law_3187 rfl (lv_at hl 4 rfl) ?_
  refine k_X11_thrown X hS hH kd_461 t_ml_VernierDrawersLaw_207 hl.1 (Nat.le_of_ble_eq_true rfl) ⟨Nat.le_of_ble_eq_true rfl, Nat.le_of_ble_eq_true rfl⟩ ⟨hq3, (le_sl hq3)⟩ dL_law_3188 ?_
  refine lv_iload hx hb dL_law_3191 (lv_at hl 1 rfl) ?_
  refine lv_icmp_eq (tgt := 3198) hx hb dL_law_3193 (by decide) (fun c8 => ?_) (fun c8 => ?_)
  · have ho := ho.1 c8
    refine lv_iload hx hb dL_law_3198 (lv_at hl 1 rfl) ?_
    refine lv_if_ne (tgt := 3215) hx hb dL_law_3200 (by decide) (fun c9 => ?_) (fun c9 => ?_)
    · have ho := ho.2 c9
      refine lv_goto (tgt := 4036) hx hb dL_law_3215 (by decide) ?_
      have hq10 := ho
      refine W.widen (k := c1) (n := c1) hq10 hq10 ?_
      replace ev4 := Eq.symm ev4
      replace ex5 := Eq.symm ex5
      replace ev7 := Eq.symm ev7
      subst ev4 ex5 ev7
      exact E _ _ _ _ _ _ (pr1 ((flc_52.eq_1 _ _ _ _).trans ((if_pos c8).trans ((if_neg c9).trans rfl)))) (pr2 ((flc_52.eq_1 _ _ _ _).trans ((if_pos c8).trans ((if_neg c9).trans rfl)))) hH hS (lv_sub hl [2, 3, 4, 5, 6, 7] rfl)
    · have ho := ho.1 c9
      refine lv_aload_n hx hb dL_law_3203 rfl (lv_at hl 5 rfl) ?_
      refine lv_iconst (v := 0) hx hb dL_law_3204 (by decide) ?_
      refine lald_34 X hH kd_468 (i_in (by decide) (by decide)) dL_law_3205 ?_
      refine lv_iload hx hb dL_law_3206 (lv_at hl 0 rfl) ?_
      refine lv_i2l (v := ((fX11_chartedAt 461 (xs (i + 1 : Int32).toNatClampNeg) (xs (i + 2 : Int32).toNatClampNeg) v4).1 : Int32).toInt64) hx hb dL_law_3208 rfl ?_
      refine W.lcmp hx hb dL_law_3209 ?_
      refine lv_if_eq (tgt := 3215) hx hb dL_law_3210 (by decide) (fun c11 => ?_) (fun c11 => ?_)
      · have ho := ho.1 c11
        refine lv_goto (tgt := 4036) hx hb dL_law_3215 (by decide) ?_
        have hq12 := ho
        refine W.widen (k := c1) (n := c1) hq12 hq12 ?_
        replace ev4 := Eq.symm ev4
        replace ex5 := Eq.symm ex5
        replace ev7 := Eq.symm ev7
        subst ev4 ex5 ev7
        exact E _ _ _ _ _ _ (pr1 ((flc_52.eq_1 _ _ _ _).trans ((if_pos c8).trans ((if_pos c9).trans ((if_pos c11).trans rfl))))) (pr2 ((flc_52.eq_1 _ _ _ _).trans ((if_pos c8).trans ((if_pos c9).trans ((if_pos c11).trans rfl))))) hH hS (lv_sub hl [2, 3, 4, 5, 6, 7] rfl)
      · have ho := ho.2 c11
        have hq13 := ho
        exact hq13.elim
  · have ho := ho.2 c8
    have hq14 := ho
    exact hq14.elim
theorem dL_law_3218 : decode cL_law 3218 = .ok (.aload_n 1, 1) := by decide +kernel
theorem dL_law_3219 : decode cL_law 3219 = .ok (.aload_n 0, 1) := by decide +kernel
theorem dL_law_3220 : decode cL_law 3220 = .ok (.iload 5, 2) := by decide +kernel
theorem dL_law_3222 : decode cL_law 3222 = .ok (.iconst 1, 1) := by decide +kernel
theorem dL_law_3223 : decode cL_law 3223 = .ok (.iadd, 1) := by decide +kernel
theorem dL_law_3224 : decode cL_law 3224 = .ok (.iaload, 1) := by decide +kernel
theorem dL_law_3225 : decode cL_law 3225 = .ok (.aload_n 3, 1) := by decide +kernel
theorem dL_law_3226 : decode cL_law 3226 = .ok (.invokestatic 378, 3) := by decide +kernel
theorem dL_law_3229 : decode cL_law 3229 = .ok (.istore 6, 2) := by decide +kernel
theorem dL_law_3231 : decode cL_law 3231 = .ok (.aload_n 2, 1) := by decide +kernel
theorem dL_law_3232 : decode cL_law 3232 = .ok (.aload_n 0, 1) := by decide +kernel
theorem dL_law_3233 : decode cL_law 3233 = .ok (.iload 5, 2) := by decide +kernel
theorem dL_law_3235 : decode cL_law 3235 = .ok (.iconst 1, 1) := by decide +kernel
theorem dL_law_3236 : decode cL_law 3236 = .ok (.iadd, 1) := by decide +kernel
theorem dL_law_3237 : decode cL_law 3237 = .ok (.iaload, 1) := by decide +kernel
theorem dL_law_3238 : decode cL_law 3238 = .ok (.invokevirtual 380, 3) := by decide +kernel
theorem dL_law_3241 : decode cL_law 3241 = .ok (.istore 7, 2) := by decide +kernel
theorem dL_law_3243 : decode cL_law 3243 = .ok (.aload_n 2, 1) := by decide +kernel
theorem dL_law_3244 : decode cL_law 3244 = .ok (.invokevirtual 207, 3) := by decide +kernel
theorem dL_law_3247 : decode cL_law 3247 = .ok (.iload 6, 2) := by decide +kernel
theorem dL_law_3249 : decode cL_law 3249 = .ok (.if_icmp .eq 5, 3) := by decide +kernel
theorem dL_law_3254 : decode cL_law 3254 = .ok (.iload 6, 2) := by decide +kernel
theorem dL_law_3256 : decode cL_law 3256 = .ok (.ifCond .ne 15, 3) := by decide +kernel
theorem dL_law_3259 : decode cL_law 3259 = .ok (.aload_n 3, 1) := by decide +kernel
theorem dL_law_3260 : decode cL_law 3260 = .ok (.iconst 0, 1) := by decide +kernel
theorem dL_law_3261 : decode cL_law 3261 = .ok (.laload, 1) := by decide +kernel
theorem dL_law_3262 : decode cL_law 3262 = .ok (.iload 7, 2) := by decide +kernel
theorem dL_law_3264 : decode cL_law 3264 = .ok (.i2l, 1) := by decide +kernel
theorem dL_law_3265 : decode cL_law 3265 = .ok (.lcmp, 1) := by decide +kernel
theorem dL_law_3266 : decode cL_law 3266 = .ok (.ifCond .eq 5, 3) := by decide +kernel
theorem dL_law_3271 : decode cL_law 3271 = .ok (.goto 765, 3) := by decide +kernel
set_option maxHeartbeats 8000000 in
set_option maxRecDepth 100000 in
theorem lc_53 {p : Program} {l : Launch} {e : Env} {s : State} {m : MethodId} {args : Array Value} {below : List Frame} {meth : Method} {c : Code} {H : Heap} {locs : List Loc} {Q : State → Prop} {ls : Array Slot} {G : gG} {da : Nat → Nat} {v : vSt} {x : gX} (hst : l.stackTraces = false) (X : CX G p s m args c cL_law 8 RL) (hN : NC s) {b L : Nat} {xs : Nat → Int32} (hX : va_X b L xs s s.heap) (hbl : b < s.heap.size) (hbA : ¬ gA G b) {i : Int32} (hi : 0 ≤ i.toInt ∧ i.toInt + 5 ≤ (L : Int) ∧ L ≤ 2560) (hH : Hp G da v x H) (hS : va_S (gA G) s.heap H locs) (hl : lv_has ls 8 [(0, .ref b), (1, .ref (ga G 448)), (2, .ref (ga G 461)), (3, .ref (ga G 468)), (4, .ref (ga G 469)), (5, .int i)]) {c0 c1 : Nat} (ho : olc_53 i xs v x c0 c1) (E : ∀ (da1 : Nat → Nat) (H1 : Heap) (locs1 : List Loc) (ls1 : Array Slot) (v2 : vSt) (x2 : gX), v2 = (flc_53 i xs v x).1 → x2 = (flc_53 i xs v x).2 → Hp G da1 v2 x2 H1 → va_S (gA G) s.heap H1 locs1 → lv_has ls1 8 [(0, .ref b), (1, .ref (ga G 448)), (2, .ref (ga G 461)), (3, .ref (ga G 468)), (4, .ref (ga G 469)), (5, .int i)] → W p l e room_1 s m args below meth c H1 locs1 c1 c1 Q (F0 m 4036 ls1 [])) : W p l e room_1 s m args below meth c H locs c0 c0 Q (F0 m 3218 ls []) := by
  have hx := X.1
  have hb := X.2.1
  have hown := X.2.2.2.1
  have hts := X.2.2.2.2.1
  unfold olc_53 at ho
  refine lv_aload_n hx hb dL_law_3218 rfl (lv_at hl 1 rfl) ?_
  refine lv_aload_n hx hb dL_law_3219 rfl (lv_at hl 0 rfl) ?_
  refine lv_iload hx hb dL_law_3220 (lv_at hl 5 rfl) ?_
  refine lv_iconst (v := 1) hx hb dL_law_3222 (by decide) ?_
  refine lv_iadd hx hb dL_law_3223 ?_
  refine va_sld hx hb hX hbl hbA hS (sx hi 1 (by decide)) dL_law_3224 ?_
  refine lv_aload_n hx hb dL_law_3225 rfl (lv_at hl 3 rfl) ?_
  have hq1 := ho.1
  have ho := ho.2
  have hq2 := ho.1
  have ho := ho.2
  have hq3 := ho.1
  have ho := ho.2
  refine k_L_signalsOf hst X hS hN hH kd_448 kd_468 hq1 t_ml_VernierDrawersLaw_378 hl.1 (Nat.le_of_ble_eq_true rfl) ⟨Nat.le_of_ble_eq_true rfl, Nat.le_of_ble_eq_true rfl⟩ ⟨hq3, (le_sl hq3)⟩ dL_law_3226 (fun da H locs v4 x5 ev4 ex5 hH hS => ?_)
  have ho := ho v4 ev4 x5 ex5
  refine lv_istore (lv' := [(6, .int ((fL_signalsOf 448 (xs (i + 1 : Int32).toNatClampNeg) 468 v x).1)), (0, .ref b), (1, .ref (ga G 448)), (2, .ref (ga G 461)), (3, .ref (ga G 468)), (4, .ref (ga G 469)), (5, .int i)]) hx hb dL_law_3229 hl (by decide) rfl (fun ls hl => ?_)
  refine lv_aload_n hx hb dL_law_3231 rfl (lv_at hl 3 rfl) ?_
  refine lv_aload_n hx hb dL_law_3232 rfl (lv_at hl 1 rfl) ?_
  refine lv_iload hx hb dL_law_3233 (lv_at hl 6 rfl) ?_
  refine lv_iconst (v := 1) hx hb dL_law_3235 (by decide) ?_
  refine lv_iadd hx hb dL_law_3236 ?_
  refine va_sld hx hb hX hbl hbA hS (sx hi 1 (by decide)) dL_law_3237 ?_
  have hq6 := ho.1
  have ho := ho.2
  refine k_X11_signalsOf X hS hH kd_461 hq6 t_ml_VernierDrawersLaw_380 hl.1 (Nat.le_of_ble_eq_true rfl) ⟨Nat.le_of_ble_eq_true rfl, Nat.le_of_ble_eq_true rfl⟩ ⟨hq3, (le_sl hq3)⟩ dL_law_3238 (fun da H locs v7 ev7 hH hS => ?_)
  have ho := ho v7 ev7
  refine lv_istore (lv' := [(7, .int ((fX11_signalsOf 461 (xs (i + 1 : Int32).toNatClampNeg) v4).1)), (6, .int ((fL_signalsOf 448 (xs (i + 1 : Int32).toNatClampNeg) 468 v x).1)), (0, .ref b), (1, .ref (ga G 448)), (2, .ref (ga G 461)), (3, .ref (ga G 468)), (4, .ref (ga G 469)), (5, .int i)]) hx hb dL_law_3241 hl (by decide) rfl (fun ls hl => ?_)
  refine lv_aload_n hx hb dL_law_3243 rfl (lv_at hl 4 rfl) ?_
  refine k_X11_thrown X hS hH kd_461 t_ml_VernierDrawersLaw_207 hl.1 (Nat.le_of_ble_eq_true rfl) ⟨Nat.le_of_ble_eq_true rfl, Nat.le_of_ble_eq_true rfl⟩ ⟨hq3, (le_sl hq3)⟩ dL_law_3244 ?_
  refine lv_iload hx hb dL_law_3247 (lv_at hl 1 rfl) ?_
  refine lv_icmp_eq (tgt := 3254) hx hb dL_law_3249 (by decide) (fun c8 => ?_) (fun c8 => ?_)
  · have ho := ho.1 c8
    refine lv_iload hx hb dL_law_3254 (lv_at hl 1 rfl) ?_
    refine lv_if_ne (tgt := 3271) hx hb dL_law_3256 (by decide) (fun c9 => ?_) (fun c9 => ?_)
    · have ho := ho.2 c9
      refine lv_goto (tgt := 4036) hx hb dL_law_3271 (by decide) ?_
      have hq10 := ho
      refine W.widen (k := c1) (n := c1) hq10 hq10 ?_
      replace ev4 := Eq.symm ev4
      replace ex5 := Eq.symm ex5
      replace ev7 := Eq.symm ev7
      subst ev4 ex5 ev7
      exact E _ _ _ _ _ _ (pr1 ((flc_53.eq_1 _ _ _ _).trans ((if_pos c8).trans ((if_neg c9).trans rfl)))) (pr2 ((flc_53.eq_1 _ _ _ _).trans ((if_pos c8).trans ((if_neg c9).trans rfl)))) hH hS (lv_sub hl [2, 3, 4, 5, 6, 7] rfl)
    · have ho := ho.1 c9
      refine lv_aload_n hx hb dL_law_3259 rfl (lv_at hl 5 rfl) ?_
      refine lv_iconst (v := 0) hx hb dL_law_3260 (by decide) ?_
      refine lald_34 X hH kd_468 (i_in (by decide) (by decide)) dL_law_3261 ?_
      refine lv_iload hx hb dL_law_3262 (lv_at hl 0 rfl) ?_
      refine lv_i2l (v := ((fX11_signalsOf 461 (xs (i + 1 : Int32).toNatClampNeg) v4).1 : Int32).toInt64) hx hb dL_law_3264 rfl ?_
      refine W.lcmp hx hb dL_law_3265 ?_
      refine lv_if_eq (tgt := 3271) hx hb dL_law_3266 (by decide) (fun c11 => ?_) (fun c11 => ?_)
      · have ho := ho.1 c11
        refine lv_goto (tgt := 4036) hx hb dL_law_3271 (by decide) ?_
        have hq12 := ho
        refine W.widen (k := c1) (n := c1) hq12 hq12 ?_
        replace ev4 := Eq.symm ev4
        replace ex5 := Eq.symm ex5
        replace ev7 := Eq.symm ev7
        subst ev4 ex5 ev7
        exact E _ _ _ _ _ _ (pr1 ((flc_53.eq_1 _ _ _ _).trans ((if_pos c8).trans ((if_pos c9).trans ((if_pos c11).trans rfl))))) (pr2 ((flc_53.eq_1 _ _ _ _).trans ((if_pos c8).trans ((if_pos c9).trans ((if_pos c11).trans rfl))))) hH hS (lv_sub hl [2, 3, 4, 5, 6, 7] rfl)
      · have ho := ho.2 c11
        have hq13 := ho
        exact hq13.elim
  · have ho := ho.2 c8
    have hq14 := ho
    exact hq14.elim
theorem dL_law_3274 : decode cL_law 3274 = .ok (.aload_n 1, 1) := by decide +kernel
theorem dL_law_3275 : decode cL_law 3275 = .ok (.aload_n 0, 1) := by decide +kernel
theorem dL_law_3276 : decode cL_law 3276 = .ok (.iload 5, 2) := by decide +kernel
theorem dL_law_3278 : decode cL_law 3278 = .ok (.iconst 1, 1) := by decide +kernel
theorem dL_law_3279 : decode cL_law 3279 = .ok (.iadd, 1) := by decide +kernel
theorem dL_law_3280 : decode cL_law 3280 = .ok (.iaload, 1) := by decide +kernel
theorem dL_law_3281 : decode cL_law 3281 = .ok (.aload_n 3, 1) := by decide +kernel
theorem dL_law_3282 : decode cL_law 3282 = .ok (.invokestatic 381, 3) := by decide +kernel
theorem dL_law_3285 : decode cL_law 3285 = .ok (.istore 6, 2) := by decide +kernel
theorem dL_law_3287 : decode cL_law 3287 = .ok (.aload_n 2, 1) := by decide +kernel
theorem dL_law_3288 : decode cL_law 3288 = .ok (.aload_n 0, 1) := by decide +kernel
theorem dL_law_3289 : decode cL_law 3289 = .ok (.iload 5, 2) := by decide +kernel
theorem dL_law_3291 : decode cL_law 3291 = .ok (.iconst 1, 1) := by decide +kernel
theorem dL_law_3292 : decode cL_law 3292 = .ok (.iadd, 1) := by decide +kernel
theorem dL_law_3293 : decode cL_law 3293 = .ok (.iaload, 1) := by decide +kernel
theorem dL_law_3294 : decode cL_law 3294 = .ok (.invokevirtual 383, 3) := by decide +kernel
theorem dL_law_3297 : decode cL_law 3297 = .ok (.istore 7, 2) := by decide +kernel
theorem dL_law_3299 : decode cL_law 3299 = .ok (.aload_n 2, 1) := by decide +kernel
theorem dL_law_3300 : decode cL_law 3300 = .ok (.invokevirtual 207, 3) := by decide +kernel
theorem dL_law_3303 : decode cL_law 3303 = .ok (.iload 6, 2) := by decide +kernel
theorem dL_law_3305 : decode cL_law 3305 = .ok (.if_icmp .eq 5, 3) := by decide +kernel
theorem dL_law_3310 : decode cL_law 3310 = .ok (.iload 6, 2) := by decide +kernel
theorem dL_law_3312 : decode cL_law 3312 = .ok (.ifCond .ne 15, 3) := by decide +kernel
theorem dL_law_3315 : decode cL_law 3315 = .ok (.aload_n 3, 1) := by decide +kernel
theorem dL_law_3316 : decode cL_law 3316 = .ok (.iconst 0, 1) := by decide +kernel
theorem dL_law_3317 : decode cL_law 3317 = .ok (.laload, 1) := by decide +kernel
theorem dL_law_3318 : decode cL_law 3318 = .ok (.iload 7, 2) := by decide +kernel
theorem dL_law_3320 : decode cL_law 3320 = .ok (.i2l, 1) := by decide +kernel
theorem dL_law_3321 : decode cL_law 3321 = .ok (.lcmp, 1) := by decide +kernel
theorem dL_law_3322 : decode cL_law 3322 = .ok (.ifCond .eq 5, 3) := by decide +kernel
theorem dL_law_3327 : decode cL_law 3327 = .ok (.goto 709, 3) := by decide +kernel
set_option maxHeartbeats 8000000 in
set_option maxRecDepth 100000 in
theorem lc_54 {p : Program} {l : Launch} {e : Env} {s : State} {m : MethodId} {args : Array Value} {below : List Frame} {meth : Method} {c : Code} {H : Heap} {locs : List Loc} {Q : State → Prop} {ls : Array Slot} {G : gG} {da : Nat → Nat} {v : vSt} {x : gX} (hst : l.stackTraces = false) (X : CX G p s m args c cL_law 8 RL) (hN : NC s) {b L : Nat} {xs : Nat → Int32} (hX : va_X b L xs s s.heap) (hbl : b < s.heap.size) (hbA : ¬ gA G b) {i : Int32} (hi : 0 ≤ i.toInt ∧ i.toInt + 5 ≤ (L : Int) ∧ L ≤ 2560) (hH : Hp G da v x H) (hS : va_S (gA G) s.heap H locs) (hl : lv_has ls 8 [(0, .ref b), (1, .ref (ga G 448)), (2, .ref (ga G 461)), (3, .ref (ga G 468)), (4, .ref (ga G 469)), (5, .int i)]) {c0 c1 : Nat} (ho : olc_54 i xs v x c0 c1) (E : ∀ (da1 : Nat → Nat) (H1 : Heap) (locs1 : List Loc) (ls1 : Array Slot) (v2 : vSt) (x2 : gX), v2 = (flc_54 i xs v x).1 → x2 = (flc_54 i xs v x).2 → Hp G da1 v2 x2 H1 → va_S (gA G) s.heap H1 locs1 → lv_has ls1 8 [(0, .ref b), (1, .ref (ga G 448)), (2, .ref (ga G 461)), (3, .ref (ga G 468)), (4, .ref (ga G 469)), (5, .int i)] → W p l e room_1 s m args below meth c H1 locs1 c1 c1 Q (F0 m 4036 ls1 [])) : W p l e room_1 s m args below meth c H locs c0 c0 Q (F0 m 3274 ls []) := by
  have hx := X.1
  have hb := X.2.1
  have hown := X.2.2.2.1
  have hts := X.2.2.2.2.1
  unfold olc_54 at ho
  refine lv_aload_n hx hb dL_law_3274 rfl (lv_at hl 1 rfl) ?_
  refine lv_aload_n hx hb dL_law_3275 rfl (lv_at hl 0 rfl) ?_
  refine lv_iload hx hb dL_law_3276 (lv_at hl 5 rfl) ?_
  refine lv_iconst (v := 1) hx hb dL_law_3278 (by decide) ?_
  refine lv_iadd hx hb dL_law_3279 ?_
  refine va_sld hx hb hX hbl hbA hS (sx hi 1 (by decide)) dL_law_3280 ?_
  refine lv_aload_n hx hb dL_law_3281 rfl (lv_at hl 3 rfl) ?_
  have hq1 := ho.1
  have ho := ho.2
  have hq2 := ho.1
  have ho := ho.2
  have hq3 := ho.1
  have ho := ho.2
  refine k_L_middleOf hst X hS hN hH kd_448 kd_468 hq1 t_ml_VernierDrawersLaw_381 hl.1 (Nat.le_of_ble_eq_true rfl) ⟨Nat.le_of_ble_eq_true rfl, Nat.le_of_ble_eq_true rfl⟩ ⟨hq3, (le_sl hq3)⟩ dL_law_3282 (fun da H locs v4 x5 ev4 ex5 hH hS => ?_)
  have ho := ho v4 ev4 x5 ex5
  refine lv_istore (lv' := [(6, .int ((fL_middleOf 448 (xs (i + 1 : Int32).toNatClampNeg) 468 v x).1)), (0, .ref b), (1, .ref (ga G 448)), (2, .ref (ga G 461)), (3, .ref (ga G 468)), (4, .ref (ga G 469)), (5, .int i)]) hx hb dL_law_3285 hl (by decide) rfl (fun ls hl => ?_)
  refine lv_aload_n hx hb dL_law_3287 rfl (lv_at hl 3 rfl) ?_
  refine lv_aload_n hx hb dL_law_3288 rfl (lv_at hl 1 rfl) ?_
  refine lv_iload hx hb dL_law_3289 (lv_at hl 6 rfl) ?_
  refine lv_iconst (v := 1) hx hb dL_law_3291 (by decide) ?_
  refine lv_iadd hx hb dL_law_3292 ?_
  refine va_sld hx hb hX hbl hbA hS (sx hi 1 (by decide)) dL_law_3293 ?_
  have hq6 := ho.1
  have ho := ho.2
  refine k_X11_middleOf X hS hH kd_461 hq6 t_ml_VernierDrawersLaw_383 hl.1 (Nat.le_of_ble_eq_true rfl) ⟨Nat.le_of_ble_eq_true rfl, Nat.le_of_ble_eq_true rfl⟩ ⟨hq3, (le_sl hq3)⟩ dL_law_3294 (fun da H locs v7 ev7 hH hS => ?_)
  have ho := ho v7 ev7
  refine lv_istore (lv' := [(7, .int ((fX11_middleOf 461 (xs (i + 1 : Int32).toNatClampNeg) v4).1)), (6, .int ((fL_middleOf 448 (xs (i + 1 : Int32).toNatClampNeg) 468 v x).1)), (0, .ref b), (1, .ref (ga G 448)), (2, .ref (ga G 461)), (3, .ref (ga G 468)), (4, .ref (ga G 469)), (5, .int i)]) hx hb dL_law_3297 hl (by decide) rfl (fun ls hl => ?_)
  refine lv_aload_n hx hb dL_law_3299 rfl (lv_at hl 4 rfl) ?_
  refine k_X11_thrown X hS hH kd_461 t_ml_VernierDrawersLaw_207 hl.1 (Nat.le_of_ble_eq_true rfl) ⟨Nat.le_of_ble_eq_true rfl, Nat.le_of_ble_eq_true rfl⟩ ⟨hq3, (le_sl hq3)⟩ dL_law_3300 ?_
  refine lv_iload hx hb dL_law_3303 (lv_at hl 1 rfl) ?_
  refine lv_icmp_eq (tgt := 3310) hx hb dL_law_3305 (by decide) (fun c8 => ?_) (fun c8 => ?_)
  · have ho := ho.1 c8
    refine lv_iload hx hb dL_law_3310 (lv_at hl 1 rfl) ?_
    refine lv_if_ne (tgt := 3327) hx hb dL_law_3312 (by decide) (fun c9 => ?_) (fun c9 => ?_)
    · have ho := ho.2 c9
      refine lv_goto (tgt := 4036) hx hb dL_law_3327 (by decide) ?_
      have hq10 := ho
      refine W.widen (k := c1) (n := c1) hq10 hq10 ?_
      replace ev4 := Eq.symm ev4
      replace ex5 := Eq.symm ex5
      replace ev7 := Eq.symm ev7
      subst ev4 ex5 ev7
      exact E _ _ _ _ _ _ (pr1 ((flc_54.eq_1 _ _ _ _).trans ((if_pos c8).trans ((if_neg c9).trans rfl)))) (pr2 ((flc_54.eq_1 _ _ _ _).trans ((if_pos c8).trans ((if_neg c9).trans rfl)))) hH hS (lv_sub hl [2, 3, 4, 5, 6, 7] rfl)
    · have ho := ho.1 c9
      refine lv_aload_n hx hb dL_law_3315 rfl (lv_at hl 5 rfl) ?_
      refine lv_iconst (v := 0) hx hb dL_law_3316 (by decide) ?_
      refine lald_34 X hH kd_468 (i_in (by decide) (by decide)) dL_law_3317 ?_
      refine lv_iload hx hb dL_law_3318 (lv_at hl 0 rfl) ?_
      refine lv_i2l (v := ((fX11_middleOf 461 (xs (i + 1 : Int32).toNatClampNeg) v4).1 : Int32).toInt64) hx hb dL_law_3320 rfl ?_
      refine W.lcmp hx hb dL_law_3321 ?_
      refine lv_if_eq (tgt := 3327) hx hb dL_law_3322 (by decide) (fun c11 => ?_) (fun c11 => ?_)
      · have ho := ho.1 c11
        refine lv_goto (tgt := 4036) hx hb dL_law_3327 (by decide) ?_
        have hq12 := ho
        refine W.widen (k := c1) (n := c1) hq12 hq12 ?_
        replace ev4 := Eq.symm ev4
        replace ex5 := Eq.symm ex5
        replace ev7 := Eq.symm ev7
        subst ev4 ex5 ev7
        exact E _ _ _ _ _ _ (pr1 ((flc_54.eq_1 _ _ _ _).trans ((if_pos c8).trans ((if_pos c9).trans ((if_pos c11).trans rfl))))) (pr2 ((flc_54.eq_1 _ _ _ _).trans ((if_pos c8).trans ((if_pos c9).trans ((if_pos c11).trans rfl))))) hH hS (lv_sub hl [2, 3, 4, 5, 6, 7] rfl)
      · have ho := ho.2 c11
        have hq13 := ho
        exact hq13.elim
  · have ho := ho.2 c8
    have hq14 := ho
    exact hq14.elim
theorem dL_law_3330 : decode cL_law 3330 = .ok (.aload_n 1, 1) := by decide +kernel
theorem dL_law_3331 : decode cL_law 3331 = .ok (.aload_n 0, 1) := by decide +kernel
theorem dL_law_3332 : decode cL_law 3332 = .ok (.iload 5, 2) := by decide +kernel
theorem dL_law_3334 : decode cL_law 3334 = .ok (.iconst 1, 1) := by decide +kernel
theorem dL_law_3335 : decode cL_law 3335 = .ok (.iadd, 1) := by decide +kernel
theorem dL_law_3336 : decode cL_law 3336 = .ok (.iaload, 1) := by decide +kernel
theorem dL_law_3337 : decode cL_law 3337 = .ok (.aload_n 3, 1) := by decide +kernel
theorem dL_law_3338 : decode cL_law 3338 = .ok (.invokestatic 384, 3) := by decide +kernel
theorem dL_law_3341 : decode cL_law 3341 = .ok (.istore 6, 2) := by decide +kernel
theorem dL_law_3343 : decode cL_law 3343 = .ok (.aload_n 2, 1) := by decide +kernel
theorem dL_law_3344 : decode cL_law 3344 = .ok (.aload_n 0, 1) := by decide +kernel
theorem dL_law_3345 : decode cL_law 3345 = .ok (.iload 5, 2) := by decide +kernel
theorem dL_law_3347 : decode cL_law 3347 = .ok (.iconst 1, 1) := by decide +kernel
theorem dL_law_3348 : decode cL_law 3348 = .ok (.iadd, 1) := by decide +kernel
theorem dL_law_3349 : decode cL_law 3349 = .ok (.iaload, 1) := by decide +kernel
theorem dL_law_3350 : decode cL_law 3350 = .ok (.invokevirtual 386, 3) := by decide +kernel
theorem dL_law_3353 : decode cL_law 3353 = .ok (.istore 7, 2) := by decide +kernel
theorem dL_law_3355 : decode cL_law 3355 = .ok (.aload_n 2, 1) := by decide +kernel
theorem dL_law_3356 : decode cL_law 3356 = .ok (.invokevirtual 207, 3) := by decide +kernel
theorem dL_law_3359 : decode cL_law 3359 = .ok (.iload 6, 2) := by decide +kernel
theorem dL_law_3361 : decode cL_law 3361 = .ok (.if_icmp .eq 5, 3) := by decide +kernel
theorem dL_law_3366 : decode cL_law 3366 = .ok (.iload 6, 2) := by decide +kernel
theorem dL_law_3368 : decode cL_law 3368 = .ok (.ifCond .ne 15, 3) := by decide +kernel
theorem dL_law_3371 : decode cL_law 3371 = .ok (.aload_n 3, 1) := by decide +kernel
theorem dL_law_3372 : decode cL_law 3372 = .ok (.iconst 0, 1) := by decide +kernel
theorem dL_law_3373 : decode cL_law 3373 = .ok (.laload, 1) := by decide +kernel
theorem dL_law_3374 : decode cL_law 3374 = .ok (.iload 7, 2) := by decide +kernel
theorem dL_law_3376 : decode cL_law 3376 = .ok (.i2l, 1) := by decide +kernel
theorem dL_law_3377 : decode cL_law 3377 = .ok (.lcmp, 1) := by decide +kernel
theorem dL_law_3378 : decode cL_law 3378 = .ok (.ifCond .eq 5, 3) := by decide +kernel
theorem dL_law_3383 : decode cL_law 3383 = .ok (.goto 653, 3) := by decide +kernel
set_option maxHeartbeats 8000000 in
set_option maxRecDepth 100000 in
theorem lc_55 {p : Program} {l : Launch} {e : Env} {s : State} {m : MethodId} {args : Array Value} {below : List Frame} {meth : Method} {c : Code} {H : Heap} {locs : List Loc} {Q : State → Prop} {ls : Array Slot} {G : gG} {da : Nat → Nat} {v : vSt} {x : gX} (hst : l.stackTraces = false) (X : CX G p s m args c cL_law 8 RL) (hN : NC s) {b L : Nat} {xs : Nat → Int32} (hX : va_X b L xs s s.heap) (hbl : b < s.heap.size) (hbA : ¬ gA G b) {i : Int32} (hi : 0 ≤ i.toInt ∧ i.toInt + 5 ≤ (L : Int) ∧ L ≤ 2560) (hH : Hp G da v x H) (hS : va_S (gA G) s.heap H locs) (hl : lv_has ls 8 [(0, .ref b), (1, .ref (ga G 448)), (2, .ref (ga G 461)), (3, .ref (ga G 468)), (4, .ref (ga G 469)), (5, .int i)]) {c0 c1 : Nat} (ho : olc_55 i xs v x c0 c1) (E : ∀ (da1 : Nat → Nat) (H1 : Heap) (locs1 : List Loc) (ls1 : Array Slot) (v2 : vSt) (x2 : gX), v2 = (flc_55 i xs v x).1 → x2 = (flc_55 i xs v x).2 → Hp G da1 v2 x2 H1 → va_S (gA G) s.heap H1 locs1 → lv_has ls1 8 [(0, .ref b), (1, .ref (ga G 448)), (2, .ref (ga G 461)), (3, .ref (ga G 468)), (4, .ref (ga G 469)), (5, .int i)] → W p l e room_1 s m args below meth c H1 locs1 c1 c1 Q (F0 m 4036 ls1 [])) : W p l e room_1 s m args below meth c H locs c0 c0 Q (F0 m 3330 ls []) := by
  have hx := X.1
  have hb := X.2.1
  have hown := X.2.2.2.1
  have hts := X.2.2.2.2.1
  unfold olc_55 at ho
  refine lv_aload_n hx hb dL_law_3330 rfl (lv_at hl 1 rfl) ?_
  refine lv_aload_n hx hb dL_law_3331 rfl (lv_at hl 0 rfl) ?_
  refine lv_iload hx hb dL_law_3332 (lv_at hl 5 rfl) ?_
  refine lv_iconst (v := 1) hx hb dL_law_3334 (by decide) ?_
  refine lv_iadd hx hb dL_law_3335 ?_
  refine va_sld hx hb hX hbl hbA hS (sx hi 1 (by decide)) dL_law_3336 ?_
  refine lv_aload_n hx hb dL_law_3337 rfl (lv_at hl 3 rfl) ?_
  have hq1 := ho.1
  have ho := ho.2
  have hq2 := ho.1
  have ho := ho.2
  have hq3 := ho.1
  have ho := ho.2
  refine k_L_middleByTaking hst X hS hN hH kd_448 kd_468 hq1 t_ml_VernierDrawersLaw_384 hl.1 (Nat.le_of_ble_eq_true rfl) ⟨Nat.le_of_ble_eq_true rfl, Nat.le_of_ble_eq_true rfl⟩ ⟨hq3, (le_sl hq3)⟩ dL_law_3338 (fun da H locs v4 x5 ev4 ex5 hH hS => ?_)
  have ho := ho v4 ev4 x5 ex5
  refine lv_istore (lv' := [(6, .int ((fL_middleByTaking 448 (xs (i + 1 : Int32).toNatClampNeg) 468 v x).1)), (0, .ref b), (1, .ref (ga G 448)), (2, .ref (ga G 461)), (3, .ref (ga G 468)), (4, .ref (ga G 469)), (5, .int i)]) hx hb dL_law_3341 hl (by decide) rfl (fun ls hl => ?_)
  refine lv_aload_n hx hb dL_law_3343 rfl (lv_at hl 3 rfl) ?_
  refine lv_aload_n hx hb dL_law_3344 rfl (lv_at hl 1 rfl) ?_
  refine lv_iload hx hb dL_law_3345 (lv_at hl 6 rfl) ?_
  refine lv_iconst (v := 1) hx hb dL_law_3347 (by decide) ?_
  refine lv_iadd hx hb dL_law_3348 ?_
  refine va_sld hx hb hX hbl hbA hS (sx hi 1 (by decide)) dL_law_3349 ?_
  have hq6 := ho.1
  have ho := ho.2
  refine k_X11_middleByTaking X hS hH kd_461 hq6 t_ml_VernierDrawersLaw_386 hl.1 (Nat.le_of_ble_eq_true rfl) ⟨Nat.le_of_ble_eq_true rfl, Nat.le_of_ble_eq_true rfl⟩ ⟨hq3, (le_sl hq3)⟩ dL_law_3350 (fun da H locs v7 ev7 hH hS => ?_)
  have ho := ho v7 ev7
  refine lv_istore (lv' := [(7, .int ((fX11_middleByTaking 461 (xs (i + 1 : Int32).toNatClampNeg) v4).1)), (6, .int ((fL_middleByTaking 448 (xs (i + 1 : Int32).toNatClampNeg) 468 v x).1)), (0, .ref b), (1, .ref (ga G 448)), (2, .ref (ga G 461)), (3, .ref (ga G 468)), (4, .ref (ga G 469)), (5, .int i)]) hx hb dL_law_3353 hl (by decide) rfl (fun ls hl => ?_)
  refine lv_aload_n hx hb dL_law_3355 rfl (lv_at hl 4 rfl) ?_
  refine k_X11_thrown X hS hH kd_461 t_ml_VernierDrawersLaw_207 hl.1 (Nat.le_of_ble_eq_true rfl) ⟨Nat.le_of_ble_eq_true rfl, Nat.le_of_ble_eq_true rfl⟩ ⟨hq3, (le_sl hq3)⟩ dL_law_3356 ?_
  refine lv_iload hx hb dL_law_3359 (lv_at hl 1 rfl) ?_
  refine lv_icmp_eq (tgt := 3366) hx hb dL_law_3361 (by decide) (fun c8 => ?_) (fun c8 => ?_)
  · have ho := ho.1 c8
    refine lv_iload hx hb dL_law_3366 (lv_at hl 1 rfl) ?_
    refine lv_if_ne (tgt := 3383) hx hb dL_law_3368 (by decide) (fun c9 => ?_) (fun c9 => ?_)
    · have ho := ho.2 c9
      refine lv_goto (tgt := 4036) hx hb dL_law_3383 (by decide) ?_
      have hq10 := ho
      refine W.widen (k := c1) (n := c1) hq10 hq10 ?_
      replace ev4 := Eq.symm ev4
      replace ex5 := Eq.symm ex5
      replace ev7 := Eq.symm ev7
      subst ev4 ex5 ev7
      exact E _ _ _ _ _ _ (pr1 ((flc_55.eq_1 _ _ _ _).trans ((if_pos c8).trans ((if_neg c9).trans rfl)))) (pr2 ((flc_55.eq_1 _ _ _ _).trans ((if_pos c8).trans ((if_neg c9).trans rfl)))) hH hS (lv_sub hl [2, 3, 4, 5, 6, 7] rfl)
    · have ho := ho.1 c9
      refine lv_aload_n hx hb dL_law_3371 rfl (lv_at hl 5 rfl) ?_
      refine lv_iconst (v := 0) hx hb dL_law_3372 (by decide) ?_
      refine lald_34 X hH kd_468 (i_in (by decide) (by decide)) dL_law_3373 ?_
      refine lv_iload hx hb dL_law_3374 (lv_at hl 0 rfl) ?_
      refine lv_i2l (v := ((fX11_middleByTaking 461 (xs (i + 1 : Int32).toNatClampNeg) v4).1 : Int32).toInt64) hx hb dL_law_3376 rfl ?_
      refine W.lcmp hx hb dL_law_3377 ?_
      refine lv_if_eq (tgt := 3383) hx hb dL_law_3378 (by decide) (fun c11 => ?_) (fun c11 => ?_)
      · have ho := ho.1 c11
        refine lv_goto (tgt := 4036) hx hb dL_law_3383 (by decide) ?_
        have hq12 := ho
        refine W.widen (k := c1) (n := c1) hq12 hq12 ?_
        replace ev4 := Eq.symm ev4
        replace ex5 := Eq.symm ex5
        replace ev7 := Eq.symm ev7
        subst ev4 ex5 ev7
        exact E _ _ _ _ _ _ (pr1 ((flc_55.eq_1 _ _ _ _).trans ((if_pos c8).trans ((if_pos c9).trans ((if_pos c11).trans rfl))))) (pr2 ((flc_55.eq_1 _ _ _ _).trans ((if_pos c8).trans ((if_pos c9).trans ((if_pos c11).trans rfl))))) hH hS (lv_sub hl [2, 3, 4, 5, 6, 7] rfl)
      · have ho := ho.2 c11
        have hq13 := ho
        exact hq13.elim
  · have ho := ho.2 c8
    have hq14 := ho
    exact hq14.elim
