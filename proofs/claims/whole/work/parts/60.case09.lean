/-! the law's cases -/
theorem dL_law_3860 : decode cL_law 3860 = .ok (.aload_n 1, 1) := by decide +kernel
theorem dL_law_3861 : decode cL_law 3861 = .ok (.aload_n 3, 1) := by decide +kernel
theorem dL_law_3862 : decode cL_law 3862 = .ok (.invokestatic 447, 3) := by decide +kernel
theorem dL_law_3865 : decode cL_law 3865 = .ok (.istore 6, 2) := by decide +kernel
theorem dL_law_3867 : decode cL_law 3867 = .ok (.aload_n 2, 1) := by decide +kernel
theorem dL_law_3868 : decode cL_law 3868 = .ok (.invokevirtual 449, 3) := by decide +kernel
theorem dL_law_3871 : decode cL_law 3871 = .ok (.istore 7, 2) := by decide +kernel
theorem dL_law_3873 : decode cL_law 3873 = .ok (.aload_n 2, 1) := by decide +kernel
theorem dL_law_3874 : decode cL_law 3874 = .ok (.invokevirtual 207, 3) := by decide +kernel
theorem dL_law_3877 : decode cL_law 3877 = .ok (.iload 6, 2) := by decide +kernel
theorem dL_law_3879 : decode cL_law 3879 = .ok (.if_icmp .eq 5, 3) := by decide +kernel
theorem dL_law_3884 : decode cL_law 3884 = .ok (.iload 6, 2) := by decide +kernel
theorem dL_law_3886 : decode cL_law 3886 = .ok (.ifCond .ne 15, 3) := by decide +kernel
theorem dL_law_3889 : decode cL_law 3889 = .ok (.aload_n 3, 1) := by decide +kernel
theorem dL_law_3890 : decode cL_law 3890 = .ok (.iconst 0, 1) := by decide +kernel
theorem dL_law_3891 : decode cL_law 3891 = .ok (.laload, 1) := by decide +kernel
theorem dL_law_3892 : decode cL_law 3892 = .ok (.iload 7, 2) := by decide +kernel
theorem dL_law_3894 : decode cL_law 3894 = .ok (.i2l, 1) := by decide +kernel
theorem dL_law_3895 : decode cL_law 3895 = .ok (.lcmp, 1) := by decide +kernel
theorem dL_law_3896 : decode cL_law 3896 = .ok (.ifCond .eq 5, 3) := by decide +kernel
theorem dL_law_3901 : decode cL_law 3901 = .ok (.goto 135, 3) := by decide +kernel
set_option maxHeartbeats 8000000 in
set_option maxRecDepth 100000 in
theorem lc_72 {p : Program} {l : Launch} {e : Env} {s : State} {m : MethodId} {args : Array Value} {below : List Frame} {meth : Method} {c : Code} {H : Heap} {locs : List Loc} {Q : State → Prop} {ls : Array Slot} {G : gG} {da : Nat → Nat} {v : vSt} {x : gX} (hst : l.stackTraces = false) (X : CX G p s m args c cL_law 8 RL) (hN : NC s) {b L : Nat} {xs : Nat → Int32} (hX : va_X b L xs s s.heap) (hbl : b < s.heap.size) (hbA : ¬ gA G b) {i : Int32} (hi : 0 ≤ i.toInt ∧ i.toInt + 5 ≤ (L : Int) ∧ L ≤ 2560) (hH : Hp G da v x H) (hS : va_S (gA G) s.heap H locs) (hl : lv_has ls 8 [(0, .ref b), (1, .ref (ga G 448)), (2, .ref (ga G 461)), (3, .ref (ga G 468)), (4, .ref (ga G 469)), (5, .int i)]) {c0 c1 : Nat} (ho : olc_72 i xs v x c0 c1) (E : ∀ (da1 : Nat → Nat) (H1 : Heap) (locs1 : List Loc) (ls1 : Array Slot) (v2 : vSt) (x2 : gX), v2 = (flc_72 i xs v x).1 → x2 = (flc_72 i xs v x).2 → Hp G da1 v2 x2 H1 → va_S (gA G) s.heap H1 locs1 → lv_has ls1 8 [(0, .ref b), (1, .ref (ga G 448)), (2, .ref (ga G 461)), (3, .ref (ga G 468)), (4, .ref (ga G 469)), (5, .int i)] → W p l e room_1 s m args below meth c H1 locs1 c1 c1 Q (F0 m 4036 ls1 [])) : W p l e room_1 s m args below meth c H locs c0 c0 Q (F0 m 3860 ls []) := by
  have hx := X.1
  have hb := X.2.1
  have hown := X.2.2.2.1
  have hts := X.2.2.2.2.1
  unfold olc_72 at ho
  refine lv_aload_n hx hb dL_law_3860 rfl (lv_at hl 1 rfl) ?_
  refine lv_aload_n hx hb dL_law_3861 rfl (lv_at hl 3 rfl) ?_
  have hq1 := ho.1
  have ho := ho.2
  have hq2 := ho.1
  have ho := ho.2
  have hq3 := ho.1
  have ho := ho.2
  refine k_L_faultPosition hst X hS hN hH kd_448 kd_468 hq1 t_ml_VernierDrawersLaw_447 hl.1 (Nat.le_of_ble_eq_true rfl) ⟨Nat.le_of_ble_eq_true rfl, Nat.le_of_ble_eq_true rfl⟩ ⟨hq3, (le_sl hq3)⟩ dL_law_3862 (fun da H locs v4 x5 ev4 ex5 hH hS => ?_)
  have ho := ho v4 ev4 x5 ex5
  refine lv_istore (lv' := [(6, .int ((fL_faultPosition 448 468 v x).1)), (0, .ref b), (1, .ref (ga G 448)), (2, .ref (ga G 461)), (3, .ref (ga G 468)), (4, .ref (ga G 469)), (5, .int i)]) hx hb dL_law_3865 hl (by decide) rfl (fun ls hl => ?_)
  refine lv_aload_n hx hb dL_law_3867 rfl (lv_at hl 3 rfl) ?_
  have hq6 := ho.1
  have ho := ho.2
  refine k_X11_faultPosition X hS hH kd_461 hq6 t_ml_VernierDrawersLaw_449 hl.1 (Nat.le_of_ble_eq_true rfl) ⟨Nat.le_of_ble_eq_true rfl, Nat.le_of_ble_eq_true rfl⟩ ⟨hq3, (le_sl hq3)⟩ dL_law_3868 (fun da H locs v7 ev7 hH hS => ?_)
  have ho := ho v7 ev7
  refine lv_istore (lv' := [(7, .int ((fX11_faultPosition 461 v4).1)), (6, .int ((fL_faultPosition 448 468 v x).1)), (0, .ref b), (1, .ref (ga G 448)), (2, .ref (ga G 461)), (3, .ref (ga G 468)), (4, .ref (ga G 469)), (5, .int i)]) hx hb dL_law_3871 hl (by decide) rfl (fun ls hl => ?_)
  refine lv_aload_n hx hb dL_law_3873 rfl (lv_at hl 4 rfl) ?_
  refine k_X11_thrown X hS hH kd_461 t_ml_VernierDrawersLaw_207 hl.1 (Nat.le_of_ble_eq_true rfl) ⟨Nat.le_of_ble_eq_true rfl, Nat.le_of_ble_eq_true rfl⟩ ⟨hq3, (le_sl hq3)⟩ dL_law_3874 ?_
  refine lv_iload hx hb dL_law_3877 (lv_at hl 1 rfl) ?_
  refine lv_icmp_eq (tgt := 3884) hx hb dL_law_3879 (by decide) (fun c8 => ?_) (fun c8 => ?_)
  · have ho := ho.1 c8
    refine lv_iload hx hb dL_law_3884 (lv_at hl 1 rfl) ?_
    refine lv_if_ne (tgt := 3901) hx hb dL_law_3886 (by decide) (fun c9 => ?_) (fun c9 => ?_)
    · have ho := ho.2 c9
      refine lv_goto (tgt := 4036) hx hb dL_law_3901 (by decide) ?_
      have hq10 := ho
      refine W.widen (k := c1) (n := c1) hq10 hq10 ?_
      replace ev4 := Eq.symm ev4
      replace ex5 := Eq.symm ex5
      replace ev7 := Eq.symm ev7
      subst ev4 ex5 ev7
      exact E _ _ _ _ _ _ (pr1 ((flc_72.eq_1 _ _ _ _).trans ((if_pos c8).trans ((if_neg c9).trans rfl)))) (pr2 ((flc_72.eq_1 _ _ _ _).trans ((if_pos c8).trans ((if_neg c9).trans rfl)))) hH hS (lv_sub hl [2, 3, 4, 5, 6, 7] rfl)
    · have ho := ho.1 c9
      refine lv_aload_n hx hb dL_law_3889 rfl (lv_at hl 5 rfl) ?_
      refine lv_iconst (v := 0) hx hb dL_law_3890 (by decide) ?_
      refine lald_34 X hH kd_468 (i_in (by decide) (by decide)) dL_law_3891 ?_
      refine lv_iload hx hb dL_law_3892 (lv_at hl 0 rfl) ?_
      refine lv_i2l (v := ((fX11_faultPosition 461 v4).1 : Int32).toInt64) hx hb dL_law_3894 rfl ?_
      refine W.lcmp hx hb dL_law_3895 ?_
      refine lv_if_eq (tgt := 3901) hx hb dL_law_3896 (by decide) (fun c11 => ?_) (fun c11 => ?_)
      · have ho := ho.1 c11
        refine lv_goto (tgt := 4036) hx hb dL_law_3901 (by decide) ?_
        have hq12 := ho
        refine W.widen (k := c1) (n := c1) hq12 hq12 ?_
        replace ev4 := Eq.symm ev4
        replace ex5 := Eq.symm ex5
        replace ev7 := Eq.symm ev7
        subst ev4 ex5 ev7
        exact E _ _ _ _ _ _ (pr1 ((flc_72.eq_1 _ _ _ _).trans ((if_pos c8).trans ((if_pos c9).trans ((if_pos c11).trans rfl))))) (pr2 ((flc_72.eq_1 _ _ _ _).trans ((if_pos c8).trans ((if_pos c9).trans ((if_pos c11).trans rfl))))) hH hS (lv_sub hl [2, 3, 4, 5, 6, 7] rfl)
      · have ho := ho.2 c11
        have hq13 := ho
        exact hq13.elim
  · have ho := ho.2 c8
    have hq14 := ho
    exact hq14.elim
theorem dL_law_3904 : decode cL_law 3904 = .ok (.aload_n 1, 1) := by decide +kernel
theorem dL_law_3905 : decode cL_law 3905 = .ok (.aload_n 3, 1) := by decide +kernel
theorem dL_law_3906 : decode cL_law 3906 = .ok (.invokestatic 450, 3) := by decide +kernel
theorem dL_law_3909 : decode cL_law 3909 = .ok (.istore 6, 2) := by decide +kernel
theorem dL_law_3911 : decode cL_law 3911 = .ok (.aload_n 2, 1) := by decide +kernel
theorem dL_law_3912 : decode cL_law 3912 = .ok (.invokevirtual 452, 3) := by decide +kernel
theorem dL_law_3915 : decode cL_law 3915 = .ok (.istore 7, 2) := by decide +kernel
theorem dL_law_3917 : decode cL_law 3917 = .ok (.aload_n 2, 1) := by decide +kernel
theorem dL_law_3918 : decode cL_law 3918 = .ok (.invokevirtual 207, 3) := by decide +kernel
theorem dL_law_3921 : decode cL_law 3921 = .ok (.iload 6, 2) := by decide +kernel
theorem dL_law_3923 : decode cL_law 3923 = .ok (.if_icmp .eq 5, 3) := by decide +kernel
theorem dL_law_3928 : decode cL_law 3928 = .ok (.iload 6, 2) := by decide +kernel
theorem dL_law_3930 : decode cL_law 3930 = .ok (.ifCond .ne 15, 3) := by decide +kernel
theorem dL_law_3933 : decode cL_law 3933 = .ok (.aload_n 3, 1) := by decide +kernel
theorem dL_law_3934 : decode cL_law 3934 = .ok (.iconst 0, 1) := by decide +kernel
theorem dL_law_3935 : decode cL_law 3935 = .ok (.laload, 1) := by decide +kernel
theorem dL_law_3936 : decode cL_law 3936 = .ok (.iload 7, 2) := by decide +kernel
theorem dL_law_3938 : decode cL_law 3938 = .ok (.i2l, 1) := by decide +kernel
theorem dL_law_3939 : decode cL_law 3939 = .ok (.lcmp, 1) := by decide +kernel
theorem dL_law_3940 : decode cL_law 3940 = .ok (.ifCond .eq 5, 3) := by decide +kernel
theorem dL_law_3945 : decode cL_law 3945 = .ok (.goto 91, 3) := by decide +kernel
set_option maxHeartbeats 8000000 in
set_option maxRecDepth 100000 in
theorem lc_73 {p : Program} {l : Launch} {e : Env} {s : State} {m : MethodId} {args : Array Value} {below : List Frame} {meth : Method} {c : Code} {H : Heap} {locs : List Loc} {Q : State → Prop} {ls : Array Slot} {G : gG} {da : Nat → Nat} {v : vSt} {x : gX} (hst : l.stackTraces = false) (X : CX G p s m args c cL_law 8 RL) (hN : NC s) {b L : Nat} {xs : Nat → Int32} (hX : va_X b L xs s s.heap) (hbl : b < s.heap.size) (hbA : ¬ gA G b) {i : Int32} (hi : 0 ≤ i.toInt ∧ i.toInt + 5 ≤ (L : Int) ∧ L ≤ 2560) (hH : Hp G da v x H) (hS : va_S (gA G) s.heap H locs) (hl : lv_has ls 8 [(0, .ref b), (1, .ref (ga G 448)), (2, .ref (ga G 461)), (3, .ref (ga G 468)), (4, .ref (ga G 469)), (5, .int i)]) {c0 c1 : Nat} (ho : olc_73 i xs v x c0 c1) (E : ∀ (da1 : Nat → Nat) (H1 : Heap) (locs1 : List Loc) (ls1 : Array Slot) (v2 : vSt) (x2 : gX), v2 = (flc_73 i xs v x).1 → x2 = (flc_73 i xs v x).2 → Hp G da1 v2 x2 H1 → va_S (gA G) s.heap H1 locs1 → lv_has ls1 8 [(0, .ref b), (1, .ref (ga G 448)), (2, .ref (ga G 461)), (3, .ref (ga G 468)), (4, .ref (ga G 469)), (5, .int i)] → W p l e room_1 s m args below meth c H1 locs1 c1 c1 Q (F0 m 4036 ls1 [])) : W p l e room_1 s m args below meth c H locs c0 c0 Q (F0 m 3904 ls []) := by
  have hx := X.1
  have hb := X.2.1
  have hown := X.2.2.2.1
  have hts := X.2.2.2.2.1
  unfold olc_73 at ho
  refine lv_aload_n hx hb dL_law_3904 rfl (lv_at hl 1 rfl) ?_
  refine lv_aload_n hx hb dL_law_3905 rfl (lv_at hl 3 rfl) ?_
  have hq1 := ho.1
  have ho := ho.2
  have hq2 := ho.1
  have ho := ho.2
  have hq3 := ho.1
  have ho := ho.2
  refine k_L_faultReason hst X hS hN hH kd_448 kd_468 hq1 t_ml_VernierDrawersLaw_450 hl.1 (Nat.le_of_ble_eq_true rfl) ⟨Nat.le_of_ble_eq_true rfl, Nat.le_of_ble_eq_true rfl⟩ ⟨hq3, (le_sl hq3)⟩ dL_law_3906 (fun da H locs v4 x5 ev4 ex5 hH hS => ?_)
  have ho := ho v4 ev4 x5 ex5
  refine lv_istore (lv' := [(6, .int ((fL_faultReason 448 468 v x).1)), (0, .ref b), (1, .ref (ga G 448)), (2, .ref (ga G 461)), (3, .ref (ga G 468)), (4, .ref (ga G 469)), (5, .int i)]) hx hb dL_law_3909 hl (by decide) rfl (fun ls hl => ?_)
  refine lv_aload_n hx hb dL_law_3911 rfl (lv_at hl 3 rfl) ?_
  have hq6 := ho.1
  have ho := ho.2
  refine k_X11_faultReason X hS hH kd_461 hq6 t_ml_VernierDrawersLaw_452 hl.1 (Nat.le_of_ble_eq_true rfl) ⟨Nat.le_of_ble_eq_true rfl, Nat.le_of_ble_eq_true rfl⟩ ⟨hq3, (le_sl hq3)⟩ dL_law_3912 (fun da H locs v7 ev7 hH hS => ?_)
  have ho := ho v7 ev7
  refine lv_istore (lv' := [(7, .int ((fX11_faultReason 461 v4).1)), (6, .int ((fL_faultReason 448 468 v x).1)), (0, .ref b), (1, .ref (ga G 448)), (2, .ref (ga G 461)), (3, .ref (ga G 468)), (4, .ref (ga G 469)), (5, .int i)]) hx hb dL_law_3915 hl (by decide) rfl (fun ls hl => ?_)
  refine lv_aload_n hx hb dL_law_3917 rfl (lv_at hl 4 rfl) ?_
  refine k_X11_thrown X hS hH kd_461 t_ml_VernierDrawersLaw_207 hl.1 (Nat.le_of_ble_eq_true rfl) ⟨Nat.le_of_ble_eq_true rfl, Nat.le_of_ble_eq_true rfl⟩ ⟨hq3, (le_sl hq3)⟩ dL_law_3918 ?_
  refine lv_iload hx hb dL_law_3921 (lv_at hl 1 rfl) ?_
  refine lv_icmp_eq (tgt := 3928) hx hb dL_law_3923 (by decide) (fun c8 => ?_) (fun c8 => ?_)
  · have ho := ho.1 c8
    refine lv_iload hx hb dL_law_3928 (lv_at hl 1 rfl) ?_
    refine lv_if_ne (tgt := 3945) hx hb dL_law_3930 (by decide) (fun c9 => ?_) (fun c9 => ?_)
    · have ho := ho.2 c9
      refine lv_goto (tgt := 4036) hx hb dL_law_3945 (by decide) ?_
      have hq10 := ho
      refine W.widen (k := c1) (n := c1) hq10 hq10 ?_
      replace ev4 := Eq.symm ev4
      replace ex5 := Eq.symm ex5
      replace ev7 := Eq.symm ev7
      subst ev4 ex5 ev7
      exact E _ _ _ _ _ _ (pr1 ((flc_73.eq_1 _ _ _ _).trans ((if_pos c8).trans ((if_neg c9).trans rfl)))) (pr2 ((flc_73.eq_1 _ _ _ _).trans ((if_pos c8).trans ((if_neg c9).trans rfl)))) hH hS (lv_sub hl [2, 3, 4, 5, 6, 7] rfl)
    · have ho := ho.1 c9
      refine lv_aload_n hx hb dL_law_3933 rfl (lv_at hl 5 rfl) ?_
      refine lv_iconst (v := 0) hx hb dL_law_3934 (by decide) ?_
      refine lald_34 X hH kd_468 (i_in (by decide) (by decide)) dL_law_3935 ?_
      refine lv_iload hx hb dL_law_3936 (lv_at hl 0 rfl) ?_
      refine lv_i2l (v := ((fX11_faultReason 461 v4).1 : Int32).toInt64) hx hb dL_law_3938 rfl ?_
      refine W.lcmp hx hb dL_law_3939 ?_
      refine lv_if_eq (tgt := 3945) hx hb dL_law_3940 (by decide) (fun c11 => ?_) (fun c11 => ?_)
      · have ho := ho.1 c11
        refine lv_goto (tgt := 4036) hx hb dL_law_3945 (by decide) ?_
        have hq12 := ho
        refine W.widen (k := c1) (n := c1) hq12 hq12 ?_
        replace ev4 := Eq.symm ev4
        replace ex5 := Eq.symm ex5
        replace ev7 := Eq.symm ev7
        subst ev4 ex5 ev7
        exact E _ _ _ _ _ _ (pr1 ((flc_73.eq_1 _ _ _ _).trans ((if_pos c8).trans ((if_pos c9).trans ((if_pos c11).trans rfl))))) (pr2 ((flc_73.eq_1 _ _ _ _).trans ((if_pos c8).trans ((if_pos c9).trans ((if_pos c11).trans rfl))))) hH hS (lv_sub hl [2, 3, 4, 5, 6, 7] rfl)
      · have ho := ho.2 c11
        have hq13 := ho
        exact hq13.elim
  · have ho := ho.2 c8
    have hq14 := ho
    exact hq14.elim
theorem dL_law_3948 : decode cL_law 3948 = .ok (.aload_n 1, 1) := by decide +kernel
theorem dL_law_3949 : decode cL_law 3949 = .ok (.aload_n 3, 1) := by decide +kernel
theorem dL_law_3950 : decode cL_law 3950 = .ok (.invokestatic 453, 3) := by decide +kernel
theorem dL_law_3953 : decode cL_law 3953 = .ok (.istore 6, 2) := by decide +kernel
theorem dL_law_3955 : decode cL_law 3955 = .ok (.aload_n 2, 1) := by decide +kernel
theorem dL_law_3956 : decode cL_law 3956 = .ok (.invokevirtual 455, 3) := by decide +kernel
theorem dL_law_3959 : decode cL_law 3959 = .ok (.istore 7, 2) := by decide +kernel
theorem dL_law_3961 : decode cL_law 3961 = .ok (.aload_n 2, 1) := by decide +kernel
theorem dL_law_3962 : decode cL_law 3962 = .ok (.invokevirtual 207, 3) := by decide +kernel
theorem dL_law_3965 : decode cL_law 3965 = .ok (.iload 6, 2) := by decide +kernel
theorem dL_law_3967 : decode cL_law 3967 = .ok (.if_icmp .eq 5, 3) := by decide +kernel
theorem dL_law_3972 : decode cL_law 3972 = .ok (.iload 6, 2) := by decide +kernel
theorem dL_law_3974 : decode cL_law 3974 = .ok (.ifCond .ne 15, 3) := by decide +kernel
theorem dL_law_3977 : decode cL_law 3977 = .ok (.aload_n 3, 1) := by decide +kernel
theorem dL_law_3978 : decode cL_law 3978 = .ok (.iconst 0, 1) := by decide +kernel
theorem dL_law_3979 : decode cL_law 3979 = .ok (.laload, 1) := by decide +kernel
theorem dL_law_3980 : decode cL_law 3980 = .ok (.iload 7, 2) := by decide +kernel
theorem dL_law_3982 : decode cL_law 3982 = .ok (.i2l, 1) := by decide +kernel
theorem dL_law_3983 : decode cL_law 3983 = .ok (.lcmp, 1) := by decide +kernel
theorem dL_law_3984 : decode cL_law 3984 = .ok (.ifCond .eq 5, 3) := by decide +kernel
theorem dL_law_3989 : decode cL_law 3989 = .ok (.goto 47, 3) := by decide +kernel
set_option maxHeartbeats 8000000 in
set_option maxRecDepth 100000 in
theorem lc_74 {p : Program} {l : Launch} {e : Env} {s : State} {m : MethodId} {args : Array Value} {below : List Frame} {meth : Method} {c : Code} {H : Heap} {locs : List Loc} {Q : State → Prop} {ls : Array Slot} {G : gG} {da : Nat → Nat} {v : vSt} {x : gX} (hst : l.stackTraces = false) (X : CX G p s m args c cL_law 8 RL) (hN : NC s) {b L : Nat} {xs : Nat → Int32} (hX : va_X b L xs s s.heap) (hbl : b < s.heap.size) (hbA : ¬ gA G b) {i : Int32} (hi : 0 ≤ i.toInt ∧ i.toInt + 5 ≤ (L : Int) ∧ L ≤ 2560) (hH : Hp G da v x H) (hS : va_S (gA G) s.heap H locs) (hl : lv_has ls 8 [(0, .ref b), (1, .ref (ga G 448)), (2, .ref (ga G 461)), (3, .ref (ga G 468)), (4, .ref (ga G 469)), (5, .int i)]) {c0 c1 : Nat} (ho : olc_74 i xs v x c0 c1) (E : ∀ (da1 : Nat → Nat) (H1 : Heap) (locs1 : List Loc) (ls1 : Array Slot) (v2 : vSt) (x2 : gX), v2 = (flc_74 i xs v x).1 → x2 = (flc_74 i xs v x).2 → Hp G da1 v2 x2 H1 → va_S (gA G) s.heap H1 locs1 → lv_has ls1 8 [(0, .ref b), (1, .ref (ga G 448)), (2, .ref (ga G 461)), (3, .ref (ga G 468)), (4, .ref (ga G 469)), (5, .int i)] → W p l e room_1 s m args below meth c H1 locs1 c1 c1 Q (F0 m 4036 ls1 [])) : W p l e room_1 s m args below meth c H locs c0 c0 Q (F0 m 3948 ls []) := by
  have hx := X.1
  have hb := X.2.1
  have hown := X.2.2.2.1
  have hts := X.2.2.2.2.1
  unfold olc_74 at ho
  refine lv_aload_n hx hb dL_law_3948 rfl (lv_at hl 1 rfl) ?_
  refine lv_aload_n hx hb dL_law_3949 rfl (lv_at hl 3 rfl) ?_
  have hq1 := ho.1
  have ho := ho.2
  have hq2 := ho.1
  have ho := ho.2
  have hq3 := ho.1
  have ho := ho.2
  refine k_L_faultCause hst X hS hN hH kd_448 kd_468 hq1 t_ml_VernierDrawersLaw_453 hl.1 (Nat.le_of_ble_eq_true rfl) ⟨Nat.le_of_ble_eq_true rfl, Nat.le_of_ble_eq_true rfl⟩ ⟨hq3, (le_sl hq3)⟩ dL_law_3950 (fun da H locs v4 x5 ev4 ex5 hH hS => ?_)
  have ho := ho v4 ev4 x5 ex5
  refine lv_istore (lv' := [(6, .int ((fL_faultCause 448 468 v x).1)), (0, .ref b), (1, .ref (ga G 448)), (2, .ref (ga G 461)), (3, .ref (ga G 468)), (4, .ref (ga G 469)), (5, .int i)]) hx hb dL_law_3953 hl (by decide) rfl (fun ls hl => ?_)
  refine lv_aload_n hx hb dL_law_3955 rfl (lv_at hl 3 rfl) ?_
  have hq6 := ho.1
  have ho := ho.2
  refine k_X11_faultCause X hS hH kd_461 hq6 t_ml_VernierDrawersLaw_455 hl.1 (Nat.le_of_ble_eq_true rfl) ⟨Nat.le_of_ble_eq_true rfl, Nat.le_of_ble_eq_true rfl⟩ ⟨hq3, (le_sl hq3)⟩ dL_law_3956 (fun da H locs v7 ev7 hH hS => ?_)
  have ho := ho v7 ev7
  refine lv_istore (lv' := [(7, .int ((fX11_faultCause 461 v4).1)), (6, .int ((fL_faultCause 448 468 v x).1)), (0, .ref b), (1, .ref (ga G 448)), (2, .ref (ga G 461)), (3, .ref (ga G 468)), (4, .ref (ga G 469)), (5, .int i)]) hx hb dL_law_3959 hl (by decide) rfl (fun ls hl => ?_)
  refine lv_aload_n hx hb dL_law_3961 rfl (lv_at hl 4 rfl) ?_
  refine k_X11_thrown X hS hH kd_461 t_ml_VernierDrawersLaw_207 hl.1 (Nat.le_of_ble_eq_true rfl) ⟨Nat.le_of_ble_eq_true rfl, Nat.le_of_ble_eq_true rfl⟩ ⟨hq3, (le_sl hq3)⟩ dL_law_3962 ?_
  refine lv_iload hx hb dL_law_3965 (lv_at hl 1 rfl) ?_
  refine lv_icmp_eq (tgt := 3972) hx hb dL_law_3967 (by decide) (fun c8 => ?_) (fun c8 => ?_)
  · have ho := ho.1 c8
    refine lv_iload hx hb dL_law_3972 (lv_at hl 1 rfl) ?_
    refine lv_if_ne (tgt := 3989) hx hb dL_law_3974 (by decide) (fun c9 => ?_) (fun c9 => ?_)
    · have ho := ho.2 c9
      refine lv_goto (tgt := 4036) hx hb dL_law_3989 (by decide) ?_
      have hq10 := ho
      refine W.widen (k := c1) (n := c1) hq10 hq10 ?_
      replace ev4 := Eq.symm ev4
      replace ex5 := Eq.symm ex5
      replace ev7 := Eq.symm ev7
      subst ev4 ex5 ev7
      exact E _ _ _ _ _ _ (pr1 ((flc_74.eq_1 _ _ _ _).trans ((if_pos c8).trans ((if_neg c9).trans rfl)))) (pr2 ((flc_74.eq_1 _ _ _ _).trans ((if_pos c8).trans ((if_neg c9).trans rfl)))) hH hS (lv_sub hl [2, 3, 4, 5, 6, 7] rfl)
    · have ho := ho.1 c9
      refine lv_aload_n hx hb dL_law_3977 rfl (lv_at hl 5 rfl) ?_
      refine lv_iconst (v := 0) hx hb dL_law_3978 (by decide) ?_
      refine lald_34 X hH kd_468 (i_in (by decide) (by decide)) dL_law_3979 ?_
      refine lv_iload hx hb dL_law_3980 (lv_at hl 0 rfl) ?_
      refine lv_i2l (v := ((fX11_faultCause 461 v4).1 : Int32).toInt64) hx hb dL_law_3982 rfl ?_
      refine W.lcmp hx hb dL_law_3983 ?_
      refine lv_if_eq (tgt := 3989) hx hb dL_law_3984 (by decide) (fun c11 => ?_) (fun c11 => ?_)
      · have ho := ho.1 c11
        refine lv_goto (tgt := 4036) hx hb dL_law_3989 (by decide) ?_
        have hq12 := ho
        refine W.widen (k := c1) (n := c1) hq12 hq12 ?_
        replace ev4 := Eq.symm ev4
        replace ex5 := Eq.symm ex5
        replace ev7 := Eq.symm ev7
        subst ev4 ex5 ev7
        exact E _ _ _ _ _ _ (pr1 ((flc_74.eq_1 _ _ _ _).trans ((if_pos c8).trans ((if_pos c9).trans ((if_pos c11).trans rfl))))) (pr2 ((flc_74.eq_1 _ _ _ _).trans ((if_pos c8).trans ((if_pos c9).trans ((if_pos c11).trans rfl))))) hH hS (lv_sub hl [2, 3, 4, 5, 6, 7] rfl)
      · have ho := ho.2 c11
        have hq13 := ho
        exact hq13.elim
  · have ho := ho.2 c8
    have hq14 := ho
    exact hq14.elim
theorem dL_law_3992 : decode cL_law 3992 = .ok (.aload_n 1, 1) := by decide +kernel
theorem dL_law_3993 : decode cL_law 3993 = .ok (.aload_n 3, 1) := by decide +kernel
theorem dL_law_3994 : decode cL_law 3994 = .ok (.invokestatic 456, 3) := by decide +kernel
theorem dL_law_3997 : decode cL_law 3997 = .ok (.istore 6, 2) := by decide +kernel
theorem dL_law_3999 : decode cL_law 3999 = .ok (.aload_n 2, 1) := by decide +kernel
theorem dL_law_4000 : decode cL_law 4000 = .ok (.invokevirtual 458, 3) := by decide +kernel
theorem dL_law_4003 : decode cL_law 4003 = .ok (.istore 7, 2) := by decide +kernel
theorem dL_law_4005 : decode cL_law 4005 = .ok (.aload_n 2, 1) := by decide +kernel
theorem dL_law_4006 : decode cL_law 4006 = .ok (.invokevirtual 207, 3) := by decide +kernel
theorem dL_law_4009 : decode cL_law 4009 = .ok (.iload 6, 2) := by decide +kernel
theorem dL_law_4011 : decode cL_law 4011 = .ok (.if_icmp .eq 5, 3) := by decide +kernel
theorem dL_law_4016 : decode cL_law 4016 = .ok (.iload 6, 2) := by decide +kernel
theorem dL_law_4018 : decode cL_law 4018 = .ok (.ifCond .ne 15, 3) := by decide +kernel
theorem dL_law_4021 : decode cL_law 4021 = .ok (.aload_n 3, 1) := by decide +kernel
theorem dL_law_4022 : decode cL_law 4022 = .ok (.iconst 0, 1) := by decide +kernel
theorem dL_law_4023 : decode cL_law 4023 = .ok (.laload, 1) := by decide +kernel
theorem dL_law_4024 : decode cL_law 4024 = .ok (.iload 7, 2) := by decide +kernel
theorem dL_law_4026 : decode cL_law 4026 = .ok (.i2l, 1) := by decide +kernel
theorem dL_law_4027 : decode cL_law 4027 = .ok (.lcmp, 1) := by decide +kernel
theorem dL_law_4028 : decode cL_law 4028 = .ok (.ifCond .eq 5, 3) := by decide +kernel
theorem dL_law_4033 : decode cL_law 4033 = .ok (.goto 3, 3) := by decide +kernel
set_option maxHeartbeats 8000000 in
set_option maxRecDepth 100000 in
theorem lc_75 {p : Program} {l : Launch} {e : Env} {s : State} {m : MethodId} {args : Array Value} {below : List Frame} {meth : Method} {c : Code} {H : Heap} {locs : List Loc} {Q : State → Prop} {ls : Array Slot} {G : gG} {da : Nat → Nat} {v : vSt} {x : gX} (hst : l.stackTraces = false) (X : CX G p s m args c cL_law 8 RL) (hN : NC s) {b L : Nat} {xs : Nat → Int32} (hX : va_X b L xs s s.heap) (hbl : b < s.heap.size) (hbA : ¬ gA G b) {i : Int32} (hi : 0 ≤ i.toInt ∧ i.toInt + 5 ≤ (L : Int) ∧ L ≤ 2560) (hH : Hp G da v x H) (hS : va_S (gA G) s.heap H locs) (hl : lv_has ls 8 [(0, .ref b), (1, .ref (ga G 448)), (2, .ref (ga G 461)), (3, .ref (ga G 468)), (4, .ref (ga G 469)), (5, .int i)]) {c0 c1 : Nat} (ho : olc_75 i xs v x c0 c1) (E : ∀ (da1 : Nat → Nat) (H1 : Heap) (locs1 : List Loc) (ls1 : Array Slot) (v2 : vSt) (x2 : gX), v2 = (flc_75 i xs v x).1 → x2 = (flc_75 i xs v x).2 → Hp G da1 v2 x2 H1 → va_S (gA G) s.heap H1 locs1 → lv_has ls1 8 [(0, .ref b), (1, .ref (ga G 448)), (2, .ref (ga G 461)), (3, .ref (ga G 468)), (4, .ref (ga G 469)), (5, .int i)] → W p l e room_1 s m args below meth c H1 locs1 c1 c1 Q (F0 m 4036 ls1 [])) : W p l e room_1 s m args below meth c H locs c0 c0 Q (F0 m 3992 ls []) := by
  have hx := X.1
  have hb := X.2.1
  have hown := X.2.2.2.1
  have hts := X.2.2.2.2.1
  unfold olc_75 at ho
  refine lv_aload_n hx hb dL_law_3992 rfl (lv_at hl 1 rfl) ?_
  refine lv_aload_n hx hb dL_law_3993 rfl (lv_at hl 3 rfl) ?_
  have hq1 := ho.1
  have ho := ho.2
  have hq2 := ho.1
  have ho := ho.2
  have hq3 := ho.1
  have ho := ho.2
  refine k_L_play hst X hS hN hH kd_448 kd_468 hq1 t_ml_VernierDrawersLaw_456 hl.1 (Nat.le_of_ble_eq_true rfl) ⟨Nat.le_of_ble_eq_true rfl, Nat.le_of_ble_eq_true rfl⟩ ⟨hq3, (le_sl hq3)⟩ dL_law_3994 (fun da H locs v4 x5 ev4 ex5 hH hS => ?_)
  have ho := ho v4 ev4 x5 ex5
  refine lv_istore (lv' := [(6, .int ((fL_play 448 468 v x).1)), (0, .ref b), (1, .ref (ga G 448)), (2, .ref (ga G 461)), (3, .ref (ga G 468)), (4, .ref (ga G 469)), (5, .int i)]) hx hb dL_law_3997 hl (by decide) rfl (fun ls hl => ?_)
  refine lv_aload_n hx hb dL_law_3999 rfl (lv_at hl 3 rfl) ?_
  have hq6 := ho.1
  have ho := ho.2
  refine k_X11_play X hS hH kd_461 hq6 t_ml_VernierDrawersLaw_458 hl.1 (Nat.le_of_ble_eq_true rfl) ⟨Nat.le_of_ble_eq_true rfl, Nat.le_of_ble_eq_true rfl⟩ ⟨hq3, (le_sl hq3)⟩ dL_law_4000 (fun da H locs v7 ev7 hH hS => ?_)
  have ho := ho v7 ev7
  refine lv_istore (lv' := [(7, .int ((fX11_play 461 v4).1)), (6, .int ((fL_play 448 468 v x).1)), (0, .ref b), (1, .ref (ga G 448)), (2, .ref (ga G 461)), (3, .ref (ga G 468)), (4, .ref (ga G 469)), (5, .int i)]) hx hb dL_law_4003 hl (by decide) rfl (fun ls hl => ?_)
  refine lv_aload_n hx hb dL_law_4005 rfl (lv_at hl 4 rfl) ?_
  refine k_X11_thrown X hS hH kd_461 t_ml_VernierDrawersLaw_207 hl.1 (Nat.le_of_ble_eq_true rfl) ⟨Nat.le_of_ble_eq_true rfl, Nat.le_of_ble_eq_true rfl⟩ ⟨hq3, (le_sl hq3)⟩ dL_law_4006 ?_
  refine lv_iload hx hb dL_law_4009 (lv_at hl 1 rfl) ?_
  refine lv_icmp_eq (tgt := 4016) hx hb dL_law_4011 (by decide) (fun c8 => ?_) (fun c8 => ?_)
  · have ho := ho.1 c8
    refine lv_iload hx hb dL_law_4016 (lv_at hl 1 rfl) ?_
    refine lv_if_ne (tgt := 4033) hx hb dL_law_4018 (by decide) (fun c9 => ?_) (fun c9 => ?_)
    · have ho := ho.2 c9
      refine lv_goto (tgt := 4036) hx hb dL_law_4033 (by decide) ?_
      have hq10 := ho
      refine W.widen (k := c1) (n := c1) hq10 hq10 ?_
      replace ev4 := Eq.symm ev4
      replace ex5 := Eq.symm ex5
      replace ev7 := Eq.symm ev7
      subst ev4 ex5 ev7
      exact E _ _ _ _ _ _ (pr1 ((flc_75.eq_1 _ _ _ _).trans ((if_pos c8).trans ((if_neg c9).trans rfl)))) (pr2 ((flc_75.eq_1 _ _ _ _).trans ((if_pos c8).trans ((if_neg c9).trans rfl)))) hH hS (lv_sub hl [2, 3, 4, 5, 6, 7] rfl)
    · have ho := ho.1 c9
      refine lv_aload_n hx hb dL_law_4021 rfl (lv_at hl 5 rfl) ?_
      refine lv_iconst (v := 0) hx hb dL_law_4022 (by decide) ?_
      refine lald_34 X hH kd_468 (i_in (by decide) (by decide)) dL_law_4023 ?_
      refine lv_iload hx hb dL_law_4024 (lv_at hl 0 rfl) ?_
      refine lv_i2l (v := ((fX11_play 461 v4).1 : Int32).toInt64) hx hb dL_law_4026 rfl ?_
      refine W.lcmp hx hb dL_law_4027 ?_
      refine lv_if_eq (tgt := 4033) hx hb dL_law_4028 (by decide) (fun c11 => ?_) (fun c11 => ?_)
      · have ho := ho.1 c11
        refine lv_goto (tgt := 4036) hx hb dL_law_4033 (by decide) ?_
        have hq12 := ho
        refine W.widen (k := c1) (n := c1) hq12 hq12 ?_
        replace ev4 := Eq.symm ev4
        replace ex5 := Eq.symm ex5
        replace ev7 := Eq.symm ev7
        subst ev4 ex5 ev7
        exact E _ _ _ _ _ _ (pr1 ((flc_75.eq_1 _ _ _ _).trans ((if_pos c8).trans ((if_pos c9).trans ((if_pos c11).trans rfl))))) (pr2 ((flc_75.eq_1 _ _ _ _).trans ((if_pos c8).trans ((if_pos c9).trans ((if_pos c11).trans rfl))))) hH hS (lv_sub hl [2, 3, 4, 5, 6, 7] rfl)
      · have ho := ho.2 c11
        have hq13 := ho
        exact hq13.elim
  · have ho := ho.2 c8
    have hq14 := ho
    exact hq14.elim
