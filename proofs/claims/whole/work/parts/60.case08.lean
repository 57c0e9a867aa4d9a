/-! the law's cases -/
theorem dL_law_3598 : decode cL_law 3598 = .ok (.aload_n 1, 1) := by decide +kernel
theorem dL_law_3599 : decode cL_law 3599 = .ok (.invokevirtual 418, 3) := by decide +kernel
theorem dL_law_3602 : decode cL_law 3602 = .ok (.aload_n 2, 1) := by decide +kernel
theorem dL_law_3603 : decode cL_law 3603 = .ok (.invokevirtual 421, 3) := by decide +kernel
theorem dL_law_3606 : decode cL_law 3606 = .ok (.if_icmp .eq 430, 3) := by decide +kernel
set_option maxHeartbeats 8000000 in
set_option maxRecDepth 100000 in
theorem lc_64 {p : Program} {l : Launch} {e : Env} {s : State} {m : MethodId} {args : Array Value} {below : List Frame} {meth : Method} {c : Code} {H : Heap} {locs : List Loc} {Q : State → Prop} {ls : Array Slot} {G : gG} {da : Nat → Nat} {v : vSt} {x : gX} (hst : l.stackTraces = false) (X : CX G p s m args c cL_law 8 RL) (hN : NC s) {b L : Nat} {xs : Nat → Int32} (hX : va_X b L xs s s.heap) (hbl : b < s.heap.size) (hbA : ¬ gA G b) {i : Int32} (hi : 0 ≤ i.toInt ∧ i.toInt + 5 ≤ (L : Int) ∧ L ≤ 2560) (hH : Hp G da v x H) (hS : va_S (gA G) s.heap H locs) (hl : lv_has ls 8 [(0, .ref b), (1, .ref (ga G 448)), (2, .ref (ga G 461)), (3, .ref (ga G 468)), (4, .ref (ga G 469)), (5, .int i)]) {c0 c1 : Nat} (ho : olc_64 i xs v x c0 c1) (E : ∀ (da1 : Nat → Nat) (H1 : Heap) (locs1 : List Loc) (ls1 : Array Slot) (v2 : vSt) (x2 : gX), v2 = (flc_64 i xs v x).1 → x2 = (flc_64 i xs v x).2 → Hp G da1 v2 x2 H1 → va_S (gA G) s.heap H1 locs1 → lv_has ls1 8 [(0, .ref b), (1, .ref (ga G 448)), (2, .ref (ga G 461)), (3, .ref (ga G 468)), (4, .ref (ga G 469)), (5, .int i)] → W p l e room_1 s m args below meth c H1 locs1 c1 c1 Q (F0 m 4036 ls1 [])) : W p l e room_1 s m args below meth c H locs c0 c0 Q (F0 m 3598 ls []) := by
  have hx := X.1
  have hb := X.2.1
  have hown := X.2.2.2.1
  have hts := X.2.2.2.2.1
  unfold olc_64 at ho
  refine lv_aload_n hx hb dL_law_3598 rfl (lv_at hl 1 rfl) ?_
  have hq1 := ho.1
  have ho := ho.2
  have hq2 := ho.1
  have ho := ho.2
  refine k_X10_doubts X hS hH kd_448 hq1 t_ml_VernierDrawersLaw_418 hl.1 (Nat.le_of_ble_eq_true rfl) ⟨Nat.le_of_ble_eq_true rfl, Nat.le_of_ble_eq_true rfl⟩ ⟨hq2, (le_sl hq2)⟩ dL_law_3599 ?_
  refine lv_aload_n hx hb dL_law_3602 rfl (lv_at hl 2 rfl) ?_
  have hq3 := ho.1
  have ho := ho.2
  refine k_X11_doubts X hS hH kd_461 hq3 t_ml_VernierDrawersLaw_421 hl.1 (Nat.le_of_ble_eq_true rfl) ⟨Nat.le_of_ble_eq_true rfl, Nat.le_of_ble_eq_true rfl⟩ ⟨hq2, (le_sl hq2)⟩ dL_law_3603 (fun da H locs v4 ev4 hH hS => ?_)
  have ho := ho v4 ev4
  refine lv_icmp_eq (tgt := 4036) hx hb dL_law_3606 (by decide) (fun c5 => ?_) (fun c5 => ?_)
  · have ho := ho.1 c5
    have hq6 := ho
    refine W.widen (k := c1) (n := c1) hq6 hq6 ?_
    replace ev4 := Eq.symm ev4
    subst ev4
    exact E _ _ _ _ _ _ (pr1 ((flc_64.eq_1 _ _ _ _).trans ((if_pos c5).trans rfl))) (pr2 ((flc_64.eq_1 _ _ _ _).trans ((if_pos c5).trans rfl))) hH hS (lv_sub hl [0, 1, 2, 3, 4, 5] rfl)
  · have ho := ho.2 c5
    have hq7 := ho
    exact hq7.elim
theorem dL_law_3611 : decode cL_law 3611 = .ok (.aload_n 1, 1) := by decide +kernel
theorem dL_law_3612 : decode cL_law 3612 = .ok (.aload 4, 2) := by decide +kernel
theorem dL_law_3614 : decode cL_law 3614 = .ok (.invokestatic 422, 3) := by decide +kernel
theorem dL_law_3617 : decode cL_law 3617 = .ok (.istore 6, 2) := by decide +kernel
theorem dL_law_3619 : decode cL_law 3619 = .ok (.aload_n 2, 1) := by decide +kernel
theorem dL_law_3620 : decode cL_law 3620 = .ok (.invokevirtual 425, 3) := by decide +kernel
theorem dL_law_3623 : decode cL_law 3623 = .ok (.fstore 7, 2) := by decide +kernel
theorem dL_law_3625 : decode cL_law 3625 = .ok (.aload_n 2, 1) := by decide +kernel
theorem dL_law_3626 : decode cL_law 3626 = .ok (.invokevirtual 207, 3) := by decide +kernel
theorem dL_law_3629 : decode cL_law 3629 = .ok (.iload 6, 2) := by decide +kernel
theorem dL_law_3631 : decode cL_law 3631 = .ok (.if_icmp .eq 5, 3) := by decide +kernel
theorem dL_law_3636 : decode cL_law 3636 = .ok (.iload 6, 2) := by decide +kernel
theorem dL_law_3638 : decode cL_law 3638 = .ok (.ifCond .ne 36, 3) := by decide +kernel
theorem dL_law_3641 : decode cL_law 3641 = .ok (.aload 4, 2) := by decide +kernel
theorem dL_law_3643 : decode cL_law 3643 = .ok (.iconst 0, 1) := by decide +kernel
theorem dL_law_3644 : decode cL_law 3644 = .ok (.daload, 1) := by decide +kernel
theorem dL_law_3645 : decode cL_law 3645 = .ok (.fload 7, 2) := by decide +kernel
theorem dL_law_3647 : decode cL_law 3647 = .ok (.f2d, 1) := by decide +kernel
theorem dL_law_3648 : decode cL_law 3648 = .ok (.dcmp .l, 1) := by decide +kernel
theorem dL_law_3649 : decode cL_law 3649 = .ok (.ifCond .eq 25, 3) := by decide +kernel
theorem dL_law_3674 : decode cL_law 3674 = .ok (.goto 362, 3) := by decide +kernel
set_option maxHeartbeats 8000000 in
set_option maxRecDepth 100000 in
theorem lc_65 {p : Program} {l : Launch} {e : Env} {s : State} {m : MethodId} {args : Array Value} {below : List Frame} {meth : Method} {c : Code} {H : Heap} {locs : List Loc} {Q : State → Prop} {ls : Array Slot} {G : gG} {da : Nat → Nat} {v : vSt} {x : gX} (hst : l.stackTraces = false) (X : CX G p s m args c cL_law 8 RL) (hN : NC s) {b L : Nat} {xs : Nat → Int32} (hX : va_X b L xs s s.heap) (hbl : b < s.heap.size) (hbA : ¬ gA G b) {i : Int32} (hi : 0 ≤ i.toInt ∧ i.toInt + 5 ≤ (L : Int) ∧ L ≤ 2560) (hH : Hp G da v x H) (hS : va_S (gA G) s.heap H locs) (hl : lv_has ls 8 [(0, .ref b), (1, .ref (ga G 448)), (2, .ref (ga G 461)), (3, .ref (ga G 468)), (4, .ref (ga G 469)), (5, .int i)]) {c0 c1 : Nat} (ho : olc_65 i xs v x c0 c1) (E : ∀ (da1 : Nat → Nat) (H1 : Heap) (locs1 : List Loc) (ls1 : Array Slot) (v2 : vSt) (x2 : gX), v2 = (flc_65 i xs v x).1 → x2 = (flc_65 i xs v x).2 → Hp G da1 v2 x2 H1 → va_S (gA G) s.heap H1 locs1 → lv_has ls1 8 [(0, .ref b), (1, .ref (ga G 448)), (2, .ref (ga G 461)), (3, .ref (ga G 468)), (4, .ref (ga G 469)), (5, .int i)] → W p l e room_1 s m args below meth c H1 locs1 c1 c1 Q (F0 m 4036 ls1 [])) : W p l e room_1 s m args below meth c H locs c0 c0 Q (F0 m 3611 ls []) := by
  have hx := X.1
  have hb := X.2.1
  have hown := X.2.2.2.1
  have hts := X.2.2.2.2.1
  unfold olc_65 at ho
  refine lv_aload_n hx hb dL_law_3611 rfl (lv_at hl 1 rfl) ?_
  refine lv_aload hx hb dL_law_3612 (lv_at hl 4 rfl) ?_
  have hq1 := ho.1
  have ho := ho.2
  have hq2 := ho.1
  have ho := ho.2
  have hq3 := ho.1
  have ho := ho.2
  refine k_L_goodShare hst X hS hN hH kd_448 kd_469 hq1 t_ml_VernierDrawersLaw_422 hl.1 (Nat.le_of_ble_eq_true rfl) ⟨Nat.le_of_ble_eq_true rfl, Nat.le_of_ble_eq_true rfl⟩ ⟨hq3, (le_sl hq3)⟩ dL_law_3614 (fun da H locs v4 x5 ev4 ex5 hH hS => ?_)
  have ho := ho v4 ev4 x5 ex5
  refine lv_istore (lv' := [(6, .int ((fL_goodShare 448 469 v x).1)), (0, .ref b), (1, .ref (ga G 448)), (2, .ref (ga G 461)), (3, .ref (ga G 468)), (4, .ref (ga G 469)), (5, .int i)]) hx hb dL_law_3617 hl (by decide) rfl (fun ls hl => ?_)
  refine lv_aload_n hx hb dL_law_3619 rfl (lv_at hl 3 rfl) ?_
  have hq6 := ho.1
  have ho := ho.2
  refine k_X11_goodShare X hS hH kd_461 hq6 t_ml_VernierDrawersLaw_425 hl.1 (Nat.le_of_ble_eq_true rfl) ⟨Nat.le_of_ble_eq_true rfl, Nat.le_of_ble_eq_true rfl⟩ ⟨hq3, (le_sl hq3)⟩ dL_law_3620 (fun da H locs v7 ev7 hH hS => ?_)
  have ho := ho v7 ev7
  refine lv_fstore (lv' := [(7, .float ((fX11_goodShare 461 v4).1)), (6, .int ((fL_goodShare 448 469 v x).1)), (0, .ref b), (1, .ref (ga G 448)), (2, .ref (ga G 461)), (3, .ref (ga G 468)), (4, .ref (ga G 469)), (5, .int i)]) hx hb dL_law_3623 hl (by decide) rfl (fun ls hl => ?_)
  refine lv_aload_n hx hb dL_law_3625 rfl (lv_at hl 4 rfl) ?_
  refine k_X11_thrown X hS hH kd_461 t_ml_VernierDrawersLaw_207 hl.1 (Nat.le_of_ble_eq_true rfl) ⟨Nat.le_of_ble_eq_true rfl, Nat.le_of_ble_eq_true rfl⟩ ⟨hq3, (le_sl hq3)⟩ dL_law_3626 ?_
  refine lv_iload hx hb dL_law_3629 (lv_at hl 1 rfl) ?_
  refine lv_icmp_eq (tgt := 3636) hx hb dL_law_3631 (by decide) (fun c8 => ?_) (fun c8 => ?_)
  · have ho := ho.1 c8
    refine lv_iload hx hb dL_law_3636 (lv_at hl 1 rfl) ?_
    refine lv_if_ne (tgt := 3674) hx hb dL_law_3638 (by decide) (fun c9 => ?_) (fun c9 => ?_)
    · have ho := ho.2 c9
      refine lv_goto (tgt := 4036) hx hb dL_law_3674 (by decide) ?_
      have hq10 := ho
      refine W.widen (k := c1) (n := c1) hq10 hq10 ?_
      replace ev4 := Eq.symm ev4
      replace ex5 := Eq.symm ex5
      replace ev7 := Eq.symm ev7
      subst ev4 ex5 ev7
      exact E _ _ _ _ _ _ (pr1 ((flc_65.eq_1 _ _ _ _).trans ((if_pos c8).trans ((if_neg c9).trans rfl)))) (pr2 ((flc_65.eq_1 _ _ _ _).trans ((if_pos c8).trans ((if_neg c9).trans rfl)))) hH hS (lv_sub hl [2, 3, 4, 5, 6, 7] rfl)
    · have ho := ho.1 c9
      refine lv_aload hx hb dL_law_3641 (lv_at hl 6 rfl) ?_
      refine lv_iconst (v := 0) hx hb dL_law_3643 (by decide) ?_
      refine dald_35 X hH kd_469 (i_in (by decide) (by decide)) dL_law_3644 ?_
      refine lv_fload hx hb dL_law_3645 (lv_at hl 0 rfl) ?_
      have hq11 := ho.1
      have ho := ho.2
      refine lv_f2d hx hb dL_law_3647 hq11 ?_
      refine lv_dcmp (op := .l) hx hb dL_law_3648 ?_
      refine lv_if_eq (tgt := 3674) hx hb dL_law_3649 (by decide) (fun c12 => ?_) (fun c12 => ?_)
      · have ho := ho.1 c12
        refine lv_goto (tgt := 4036) hx hb dL_law_3674 (by decide) ?_
        have hq13 := ho
        refine W.widen (k := c1) (n := c1) hq13 hq13 ?_
        replace ev4 := Eq.symm ev4
        replace ex5 := Eq.symm ex5
        replace ev7 := Eq.symm ev7
        subst ev4 ex5 ev7
        exact E _ _ _ _ _ _ (pr1 ((flc_65.eq_1 _ _ _ _).trans ((if_pos c8).trans ((if_pos c9).trans ((if_pos c12).trans rfl))))) (pr2 ((flc_65.eq_1 _ _ _ _).trans ((if_pos c8).trans ((if_pos c9).trans ((if_pos c12).trans rfl))))) hH hS (lv_sub hl [2, 3, 4, 5, 6, 7] rfl)
      · have ho := ho.2 c12
        have hq14 := ho
        exact hq14.elim
  · have ho := ho.2 c8
    have hq15 := ho
    exact hq15.elim
theorem dL_law_3677 : decode cL_law 3677 = .ok (.aload_n 1, 1) := by decide +kernel
theorem dL_law_3678 : decode cL_law 3678 = .ok (.invokevirtual 426, 3) := by decide +kernel
theorem dL_law_3681 : decode cL_law 3681 = .ok (.aload_n 2, 1) := by decide +kernel
theorem dL_law_3682 : decode cL_law 3682 = .ok (.invokevirtual 429, 3) := by decide +kernel
theorem dL_law_3685 : decode cL_law 3685 = .ok (.if_icmp .eq 351, 3) := by decide +kernel
set_option maxHeartbeats 8000000 in
set_option maxRecDepth 100000 in
theorem lc_66 {p : Program} {l : Launch} {e : Env} {s : State} {m : MethodId} {args : Array Value} {below : List Frame} {meth : Method} {c : Code} {H : Heap} {locs : List Loc} {Q : State → Prop} {ls : Array Slot} {G : gG} {da : Nat → Nat} {v : vSt} {x : gX} (hst : l.stackTraces = false) (X : CX G p s m args c cL_law 8 RL) (hN : NC s) {b L : Nat} {xs : Nat → Int32} (hX : va_X b L xs s s.heap) (hbl : b < s.heap.size) (hbA : ¬ gA G b) {i : Int32} (hi : 0 ≤ i.toInt ∧ i.toInt + 5 ≤ (L : Int) ∧ L ≤ 2560) (hH : Hp G da v x H) (hS : va_S (gA G) s.heap H locs) (hl : lv_has ls 8 [(0, .ref b), (1, .ref (ga G 448)), (2, .ref (ga G 461)), (3, .ref (ga G 468)), (4, .ref (ga G 469)), (5, .int i)]) {c0 c1 : Nat} (ho : olc_66 i xs v x c0 c1) (E : ∀ (da1 : Nat → Nat) (H1 : Heap) (locs1 : List Loc) (ls1 : Array Slot) (v2 : vSt) (x2 : gX), v2 = (flc_66 i xs v x).1 → x2 = (flc_66 i xs v x).2 → Hp G da1 v2 x2 H1 → va_S (gA G) s.heap H1 locs1 → lv_has ls1 8 [(0, .ref b), (1, .ref (ga G 448)), (2, .ref (ga G 461)), (3, .ref (ga G 468)), (4, .ref (ga G 469)), (5, .int i)] → W p l e room_1 s m args below meth c H1 locs1 c1 c1 Q (F0 m 4036 ls1 [])) : W p l e room_1 s m args below meth c H locs c0 c0 Q (F0 m 3677 ls []) := by
  have hx := X.1
  have hb := X.2.1
  have hown := X.2.2.2.1
  have hts := X.2.2.2.2.1
  unfold olc_66 at ho
  refine lv_aload_n hx hb dL_law_3677 rfl (lv_at hl 1 rfl) ?_
  have hq1 := ho.1
  have ho := ho.2
  have hq2 := ho.1
  have ho := ho.2
  have hq3 := ho.1
  have ho := ho.2
  refine k_X10_keep X hS hH kd_448 hq1 t_ml_VernierDrawersLaw_426 hl.1 (Nat.le_of_ble_eq_true rfl) ⟨Nat.le_of_ble_eq_true rfl, Nat.le_of_ble_eq_true rfl⟩ ⟨hq3, (le_sl hq3)⟩ dL_law_3678 (fun da H locs v4 ev4 hH hS => ?_)
  have ho := ho v4 ev4
  refine lv_aload_n hx hb dL_law_3681 rfl (lv_at hl 2 rfl) ?_
  have hq5 := ho.1
  have ho := ho.2
  refine k_X11_keep X hS hH kd_461 hq5 t_ml_VernierDrawersLaw_429 hl.1 (Nat.le_of_ble_eq_true rfl) ⟨Nat.le_of_ble_eq_true rfl, Nat.le_of_ble_eq_true rfl⟩ ⟨hq3, (le_sl hq3)⟩ dL_law_3682 (fun da H locs v6 ev6 hH hS => ?_)
  have ho := ho v6 ev6
  refine lv_icmp_eq (tgt := 4036) hx hb dL_law_3685 (by decide) (fun c7 => ?_) (fun c7 => ?_)
  · have ho := ho.1 c7
    have hq8 := ho
    refine W.widen (k := c1) (n := c1) hq8 hq8 ?_
    replace ev4 := Eq.symm ev4
    replace ev6 := Eq.symm ev6
    subst ev4 ev6
    exact E _ _ _ _ _ _ (pr1 ((flc_66.eq_1 _ _ _ _).trans ((if_pos c7).trans rfl))) (pr2 ((flc_66.eq_1 _ _ _ _).trans ((if_pos c7).trans rfl))) hH hS (lv_sub hl [0, 1, 2, 3, 4, 5] rfl)
  · have ho := ho.2 c7
    have hq9 := ho
    exact hq9.elim
theorem dL_law_3690 : decode cL_law 3690 = .ok (.aload_n 1, 1) := by decide +kernel
theorem dL_law_3691 : decode cL_law 3691 = .ok (.aload_n 3, 1) := by decide +kernel
theorem dL_law_3692 : decode cL_law 3692 = .ok (.invokestatic 430, 3) := by decide +kernel
theorem dL_law_3695 : decode cL_law 3695 = .ok (.istore 6, 2) := by decide +kernel
theorem dL_law_3697 : decode cL_law 3697 = .ok (.aload_n 2, 1) := by decide +kernel
theorem dL_law_3698 : decode cL_law 3698 = .ok (.invokevirtual 432, 3) := by decide +kernel
theorem dL_law_3701 : decode cL_law 3701 = .ok (.istore 7, 2) := by decide +kernel
theorem dL_law_3703 : decode cL_law 3703 = .ok (.aload_n 2, 1) := by decide +kernel
theorem dL_law_3704 : decode cL_law 3704 = .ok (.invokevirtual 207, 3) := by decide +kernel
theorem dL_law_3707 : decode cL_law 3707 = .ok (.iload 6, 2) := by decide +kernel
theorem dL_law_3709 : decode cL_law 3709 = .ok (.if_icmp .eq 5, 3) := by decide +kernel
theorem dL_law_3714 : decode cL_law 3714 = .ok (.iload 6, 2) := by decide +kernel
theorem dL_law_3716 : decode cL_law 3716 = .ok (.ifCond .ne 15, 3) := by decide +kernel
theorem dL_law_3719 : decode cL_law 3719 = .ok (.aload_n 3, 1) := by decide +kernel
theorem dL_law_3720 : decode cL_law 3720 = .ok (.iconst 0, 1) := by decide +kernel
theorem dL_law_3721 : decode cL_law 3721 = .ok (.laload, 1) := by decide +kernel
theorem dL_law_3722 : decode cL_law 3722 = .ok (.iload 7, 2) := by decide +kernel
theorem dL_law_3724 : decode cL_law 3724 = .ok (.i2l, 1) := by decide +kernel
theorem dL_law_3725 : decode cL_law 3725 = .ok (.lcmp, 1) := by decide +kernel
theorem dL_law_3726 : decode cL_law 3726 = .ok (.ifCond .eq 5, 3) := by decide +kernel
theorem dL_law_3731 : decode cL_law 3731 = .ok (.goto 305, 3) := by decide +kernel
set_option maxHeartbeats 8000000 in
set_option maxRecDepth 100000 in
theorem lc_67 {p : Program} {l : Launch} {e : Env} {s : State} {m : MethodId} {args : Array Value} {below : List Frame} {meth : Method} {c : Code} {H : Heap} {locs : List Loc} {Q : State → Prop} {ls : Array Slot} {G : gG} {da : Nat → Nat} {v : vSt} {x : gX} (hst : l.stackTraces = false) (X : CX G p s m args c cL_law 8 RL) (hN : NC s) {b L : Nat} {xs : Nat → Int32} (hX : va_X b L xs s s.heap) (hbl : b < s.heap.size) (hbA : ¬ gA G b) {i : Int32} (hi : 0 ≤ i.toInt ∧ i.toInt + 5 ≤ (L : Int) ∧ L ≤ 2560) (hH : Hp G da v x H) (hS : va_S (gA G) s.heap H locs) (hl : lv_has ls 8 [(0, .ref b), (1, .ref (ga G 448)), (2, .ref (ga G 461)), (3, .ref (ga G 468)), (4, .ref (ga G 469)), (5, .int i)]) {c0 c1 : Nat} (ho : olc_67 i xs v x c0 c1) (E : ∀ (da1 : Nat → Nat) (H1 : Heap) (locs1 : List Loc) (ls1 : Array Slot) (v2 : vSt) (x2 : gX), v2 = (flc_67 i xs v x).1 → x2 = (flc_67 i xs v x).2 → Hp G da1 v2 x2 H1 → va_S (gA G) s.heap H1 locs1 → lv_has ls1 8 [(0, .ref b), (1, .ref (ga G 448)), (2, .ref (ga G 461)), (3, .ref (ga G 468)), (4, .ref (ga G 469)), (5, .int i)] → W p l e room_1 s m args below meth c H1 locs1 c1 c1 Q (F0 m 4036 ls1 [])) : W p l e room_1 s m args below meth c H locs c0 c0 Q (F0 m 3690 ls []) := by
  have hx := X.1
  have hb := X.2.1
  have hown := X.2.2.2.1
  have hts := X.2.2.2.2.1
  unfold olc_67 at ho
  refine lv_aload_n hx hb dL_law_3690 rfl (lv_at hl 1 rfl) ?_
  refine lv_aload_n hx hb dL_law_3691 rfl (lv_at hl 3 rfl) ?_
  have hq1 := ho.1
  have ho := ho.2
  have hq2 := ho.1
  have ho := ho.2
  have hq3 := ho.1
  have ho := ho.2
  refine k_L_goBack hst X hS hN hH kd_448 kd_468 hq1 t_ml_VernierDrawersLaw_430 hl.1 (Nat.le_of_ble_eq_true rfl) ⟨Nat.le_of_ble_eq_true rfl, Nat.le_of_ble_eq_true rfl⟩ ⟨hq3, (le_sl hq3)⟩ dL_law_3692 (fun da H locs v4 x5 ev4 ex5 hH hS => ?_)
  have ho := ho v4 ev4 x5 ex5
  refine lv_istore (lv' := [(6, .int ((fL_goBack 448 468 v x).1)), (0, .ref b), (1, .ref (ga G 448)), (2, .ref (ga G 461)), (3, .ref (ga G 468)), (4, .ref (ga G 469)), (5, .int i)]) hx hb dL_law_3695 hl (by decide) rfl (fun ls hl => ?_)
  refine lv_aload_n hx hb dL_law_3697 rfl (lv_at hl 3 rfl) ?_
  have hq6 := ho.1
  have ho := ho.2
  refine k_X11_goBack X hS hH kd_461 hq6 t_ml_VernierDrawersLaw_432 hl.1 (Nat.le_of_ble_eq_true rfl) ⟨Nat.le_of_ble_eq_true rfl, Nat.le_of_ble_eq_true rfl⟩ ⟨hq3, (le_sl hq3)⟩ dL_law_3698 (fun da H locs v7 ev7 hH hS => ?_)
  have ho := ho v7 ev7
  refine lv_istore (lv' := [(7, .int ((fX11_goBack 461 v4).1)), (6, .int ((fL_goBack 448 468 v x).1)), (0, .ref b), (1, .ref (ga G 448)), (2, .ref (ga G 461)), (3, .ref (ga G 468)), (4, .ref (ga G 469)), (5, .int i)]) hx hb dL_law_3701 hl (by decide) rfl (fun ls hl => ?_)
  refine lv_aload_n hx hb dL_law_3703 rfl (lv_at hl 4 rfl) ?_
  refine k_X11_thrown X hS hH kd_461 t_ml_VernierDrawersLaw_207 hl.1 (Nat.le_of_ble_eq_true rfl) ⟨Nat.le_of_ble_eq_true rfl, Nat.le_of_ble_eq_true rfl⟩ ⟨hq3, (le_sl hq3)⟩ dL_law_3704 ?_
  refine lv_iload hx hb dL_law_3707 (lv_at hl 1 rfl) ?_
  refine lv_icmp_eq (tgt := 3714) hx hb dL_law_3709 (by decide) (fun c8 => ?_) (fun c8 => ?_)
  · have ho := ho.1 c8
    refine lv_iload hx hb dL_law_3714 (lv_at hl 1 rfl) ?_
    refine lv_if_ne (tgt := 3731) hx hb dL_law_3716 (by decide) (fun c9 => ?_) (fun c9 => ?_)
    · have ho := ho.2 c9
      refine lv_goto (tgt := 4036) hx hb dL_law_3731 (by decide) ?_
      have hq10 := ho
      refine W.widen (k := c1) (n := c1) hq10 hq10 ?_
      replace ev4 := Eq.symm ev4
      replace ex5 := Eq.symm ex5
      replace ev7 := Eq.symm ev7
      subst ev4 ex5 ev7
      exact E _ _ _ _ _ _ (pr1 ((flc_67.eq_1 _ _ _ _).trans ((if_pos c8).trans ((if_neg c9).trans rfl)))) (pr2 ((flc_67.eq_1 _ _ _ _).trans ((if_pos c8).trans ((if_neg c9).trans rfl)))) hH hS (lv_sub hl [2, 3, 4, 5, 6, 7] rfl)
    · have ho := ho.1 c9
      refine lv_aload_n hx hb dL_law_3719 rfl (lv_at hl 5 rfl) ?_
      refine lv_iconst (v := 0) hx hb dL_law_3720 (by decide) ?_
      refine lald_34 X hH kd_468 (i_in (by decide) (by decide)) dL_law_3721 ?_
      refine lv_iload hx hb dL_law_3722 (lv_at hl 0 rfl) ?_
      refine lv_i2l (v := ((fX11_goBack 461 v4).1 : Int32).toInt64) hx hb dL_law_3724 rfl ?_
      refine W.lcmp hx hb dL_law_3725 ?_
      refine lv_if_eq (tgt := 3731) hx hb dL_law_3726 (by decide) (fun c11 => ?_) (fun c11 => ?_)
      · have ho := ho.1 c11
        refine lv_goto (tgt := 4036) hx hb dL_law_3731 (by decide) ?_
        have hq12 := ho
        refine W.widen (k := c1) (n := c1) hq12 hq12 ?_
        replace ev4 := Eq.symm ev4
        replace ex5 := Eq.symm ex5
        replace ev7 := Eq.symm ev7
        subst ev4 ex5 ev7
        exact E _ _ _ _ _ _ (pr1 ((flc_67.eq_1 _ _ _ _).trans ((if_pos c8).trans ((if_pos c9).trans ((if_pos c11).trans rfl))))) (pr2 ((flc_67.eq_1 _ _ _ _).trans ((if_pos c8).trans ((if_pos c9).trans ((if_pos c11).trans rfl))))) hH hS (lv_sub hl [2, 3, 4, 5, 6, 7] rfl)
      · have ho := ho.2 c11
        have hq13 := ho
        exact hq13.elim
  · have ho := ho.2 c8
    have hq14 := ho
    exact hq14.elim
theorem dL_law_3734 : decode cL_law 3734 = .ok (.aload_n 1, 1) := by decide +kernel
theorem dL_law_3735 : decode cL_law 3735 = .ok (.invokevirtual 433, 3) := by decide +kernel
theorem dL_law_3738 : decode cL_law 3738 = .ok (.aload_n 2, 1) := by decide +kernel
theorem dL_law_3739 : decode cL_law 3739 = .ok (.invokevirtual 436, 3) := by decide +kernel
theorem dL_law_3742 : decode cL_law 3742 = .ok (.if_icmp .eq 294, 3) := by decide +kernel
set_option maxHeartbeats 8000000 in
set_option maxRecDepth 100000 in
theorem lc_68 {p : Program} {l : Launch} {e : Env} {s : State} {m : MethodId} {args : Array Value} {below : List Frame} {meth : Method} {c : Code} {H : Heap} {locs : List Loc} {Q : State → Prop} {ls : Array Slot} {G : gG} {da : Nat → Nat} {v : vSt} {x : gX} (hst : l.stackTraces = false) (X : CX G p s m args c cL_law 8 RL) (hN : NC s) {b L : Nat} {xs : Nat → Int32} (hX : va_X b L xs s s.heap) (hbl : b < s.heap.size) (hbA : ¬ gA G b) {i : Int32} (hi : 0 ≤ i.toInt ∧ i.toInt + 5 ≤ (L : Int) ∧ L ≤ 2560) (hH : Hp G da v x H) (hS : va_S (gA G) s.heap H locs) (hl : lv_has ls 8 [(0, .ref b), (1, .ref (ga G 448)), (2, .ref (ga G 461)), (3, .ref (ga G 468)), (4, .ref (ga G 469)), (5, .int i)]) {c0 c1 : Nat} (ho : olc_68 i xs v x c0 c1) (E : ∀ (da1 : Nat → Nat) (H1 : Heap) (locs1 : List Loc) (ls1 : Array Slot) (v2 : vSt) (x2 : gX), v2 = (flc_68 i xs v x).1 → x2 = (flc_68 i xs v x).2 → Hp G da1 v2 x2 H1 → va_S (gA G) s.heap H1 locs1 → lv_has ls1 8 [(0, .ref b), (1, .ref (ga G 448)), (2, .ref (ga G 461)), (3, .ref (ga G 468)), (4, .ref (ga G 469)), (5, .int i)] → W p l e room_1 s m args below meth c H1 locs1 c1 c1 Q (F0 m 4036 ls1 [])) : W p l e room_1 s m args below meth c H locs c0 c0 Q (F0 m 3734 ls []) := by
  have hx := X.1
  have hb := X.2.1
  have hown := X.2.2.2.1
  have hts := X.2.2.2.2.1
  unfold olc_68 at ho
  refine lv_aload_n hx hb dL_law_3734 rfl (lv_at hl 1 rfl) ?_
  have hq1 := ho.1
  have ho := ho.2
  refine k_X10_states X hS hH kd_448 t_ml_VernierDrawersLaw_433 hl.1 (Nat.le_of_ble_eq_true rfl) ⟨Nat.le_of_ble_eq_true rfl, Nat.le_of_ble_eq_true rfl⟩ ⟨hq1, (le_sl hq1)⟩ dL_law_3735 ?_
  refine lv_aload_n hx hb dL_law_3738 rfl (lv_at hl 2 rfl) ?_
  refine k_X11_states X hS hH kd_461 t_ml_VernierDrawersLaw_436 hl.1 (Nat.le_of_ble_eq_true rfl) ⟨Nat.le_of_ble_eq_true rfl, Nat.le_of_ble_eq_true rfl⟩ ⟨hq1, (le_sl hq1)⟩ dL_law_3739 (fun da H locs v2 ev2 hH hS => ?_)
  have ho := ho v2 ev2
  refine lv_icmp_eq (tgt := 4036) hx hb dL_law_3742 (by decide) (fun c3 => ?_) (fun c3 => ?_)
  · have ho := ho.1 c3
    have hq4 := ho
    refine W.widen (k := c1) (n := c1) hq4 hq4 ?_
    replace ev2 := Eq.symm ev2
    subst ev2
    exact E _ _ _ _ _ _ (pr1 ((flc_68.eq_1 _ _ _ _).trans ((if_pos c3).trans rfl))) (pr2 ((flc_68.eq_1 _ _ _ _).trans ((if_pos c3).trans rfl))) hH hS (lv_sub hl [0, 1, 2, 3, 4, 5] rfl)
  · have ho := ho.2 c3
    have hq5 := ho
    exact hq5.elim
theorem dL_law_3747 : decode cL_law 3747 = .ok (.aload_n 1, 1) := by decide +kernel
theorem dL_law_3748 : decode cL_law 3748 = .ok (.aload_n 3, 1) := by decide +kernel
theorem dL_law_3749 : decode cL_law 3749 = .ok (.invokestatic 437, 3) := by decide +kernel
theorem dL_law_3752 : decode cL_law 3752 = .ok (.istore 6, 2) := by decide +kernel
theorem dL_law_3754 : decode cL_law 3754 = .ok (.aload_n 2, 1) := by decide +kernel
theorem dL_law_3755 : decode cL_law 3755 = .ok (.invokevirtual 439, 3) := by decide +kernel
theorem dL_law_3758 : decode cL_law 3758 = .ok (.istore 7, 2) := by decide +kernel
theorem dL_law_3760 : decode cL_law 3760 = .ok (.aload_n 2, 1) := by decide +kernel
theorem dL_law_3761 : decode cL_law 3761 = .ok (.invokevirtual 207, 3) := by decide +kernel
theorem dL_law_3764 : decode cL_law 3764 = .ok (.iload 6, 2) := by decide +kernel
theorem dL_law_3766 : decode cL_law 3766 = .ok (.if_icmp .eq 5, 3) := by decide +kernel
theorem dL_law_3771 : decode cL_law 3771 = .ok (.iload 6, 2) := by decide +kernel
theorem dL_law_3773 : decode cL_law 3773 = .ok (.ifCond .ne 15, 3) := by decide +kernel
theorem dL_law_3776 : decode cL_law 3776 = .ok (.aload_n 3, 1) := by decide +kernel
theorem dL_law_3777 : decode cL_law 3777 = .ok (.iconst 0, 1) := by decide +kernel
theorem dL_law_3778 : decode cL_law 3778 = .ok (.laload, 1) := by decide +kernel
theorem dL_law_3779 : decode cL_law 3779 = .ok (.iload 7, 2) := by decide +kernel
theorem dL_law_3781 : decode cL_law 3781 = .ok (.i2l, 1) := by decide +kernel
theorem dL_law_3782 : decode cL_law 3782 = .ok (.lcmp, 1) := by decide +kernel
theorem dL_law_3783 : decode cL_law 3783 = .ok (.ifCond .eq 5, 3) := by decide +kernel
theorem dL_law_3788 : decode cL_law 3788 = .ok (.goto 248, 3) := by decide +kernel
set_option maxHeartbeats 8000000 in
set_option maxRecDepth 100000 in
theorem lc_69 {p : Program} {l : Launch} {e : Env} {s : State} {m : MethodId} {args : Array Value} {below : List Frame} {meth : Method} {c : Code} {H : Heap} {locs : List Loc} {Q : State → Prop} {ls : Array Slot} {G : gG} {da : Nat → Nat} {v : vSt} {x : gX} (hst : l.stackTraces = false) (X : CX G p s m args c cL_law 8 RL) (hN : NC s) {b L : Nat} {xs : Nat → Int32} (hX : va_X b L xs s s.heap) (hbl : b < s.heap.size) (hbA : ¬ gA G b) {i : Int32} (hi : 0 ≤ i.toInt ∧ i.toInt + 5 ≤ (L : Int) ∧ L ≤ 2560) (hH : Hp G da v x H) (hS : va_S (gA G) s.heap H locs) (hl : lv_has ls 8 [(0, .ref b), (1, .ref (ga G 448)), (2, .ref (ga G 461)), (3, .ref (ga G 468)), (4, .ref (ga G 469)), (5, .int i)]) {c0 c1 : Nat} (ho : olc_69 i xs v x c0 c1) (E : ∀ (da1 : Nat → Nat) (H1 : Heap) (locs1 : List Loc) (ls1 : Array Slot) (v2 : vSt) (x2 : gX), v2 = (flc_69 i xs v x).1 → x2 = (flc_69 i xs v x).2 → Hp G da1 v2 x2 H1 → va_S (gA G) s.heap H1 locs1 → lv_has ls1 8 [(0, .ref b), (1, .ref (ga G 448)), (2, .ref (ga G 461)), (3, .ref (ga G 468)), (4, .ref (ga G 469)), (5, .int i)] → W p l e room_1 s m args below meth c H1 locs1 c1 c1 Q (F0 m 4036 ls1 [])) : W p l e room_1 s m args below meth c H locs c0 c0 Q (F0 m 3747 ls []) := by
  have hx := X.1
  have hb := X.2.1
  have hown := X.2.2.2.1
  have hts := X.2.2.2.2.1
  unfold olc_69 at ho
  refine lv_aload_n hx hb dL_law_3747 rfl (lv_at hl 1 rfl) ?_
  refine lv_aload_n hx hb dL_law_3748 rfl (lv_at hl 3 rfl) ?_
  have hq1 := ho.1
  have ho := ho.2
  have hq2 := ho.1
  have ho := ho.2
  have hq3 := ho.1
  have ho := ho.2
  refine k_L_undo hst X hS hN hH kd_448 kd_468 hq1 t_ml_VernierDrawersLaw_437 hl.1 (Nat.le_of_ble_eq_true rfl) ⟨Nat.le_of_ble_eq_true rfl, Nat.le_of_ble_eq_true rfl⟩ ⟨hq3, (le_sl hq3)⟩ dL_law_3749 (fun da H locs v4 x5 ev4 ex5 hH hS => ?_)
  have ho := ho v4 ev4 x5 ex5
  refine lv_istore (lv' := [(6, .int ((fL_undo 448 468 v x).1)), (0, .ref b), (1, .ref (ga G 448)), (2, .ref (ga G 461)), (3, .ref (ga G 468)), (4, .ref (ga G 469)), (5, .int i)]) hx hb dL_law_3752 hl (by decide) rfl (fun ls hl => ?_)
  refine lv_aload_n hx hb dL_law_3754 rfl (lv_at hl 3 rfl) ?_
  have hq6 := ho.1
  have ho := ho.2
  refine k_X11_undo X hS hH kd_461 hq6 t_ml_VernierDrawersLaw_439 hl.1 (Nat.le_of_ble_eq_true rfl) ⟨Nat.le_of_ble_eq_true rfl, Nat.le_of_ble_eq_true rfl⟩ ⟨hq3, (le_sl hq3)⟩ dL_law_3755 (fun da H locs v7 ev7 hH hS => ?_)
  have ho := ho v7 ev7
  refine lv_istore (lv' := [(7, .int ((fX11_undo 461 v4).1)), (6, .int ((fL_undo 448 468 v x).1)), (0, .ref b), (1, .ref (ga G 448)), (2, .ref (ga G 461)), (3, .ref (ga G 468)), (4, .ref (ga G 469)), (5, .int i)]) hx hb dL_law_3758 hl (by decide) rfl (fun ls hl => ?_)
  refine lv_aload_n hx hb dL_law_3760 rfl (lv_at hl 4 rfl) ?_
  refine k_X11_thrown X hS hH kd_461 t_ml_VernierDrawersLaw_207 hl.1 (Nat.le_of_ble_eq_true rfl) ⟨Nat.le_of_ble_eq_true rfl, Nat.le_of_ble_eq_true rfl⟩ ⟨hq3, (le_sl hq3)⟩ dL_law_3761 ?_
  refine lv_iload hx hb dL_law_3764 (lv_at hl 1 rfl) ?_
  refine lv_icmp_eq (tgt := 3771) hx hb dL_law_3766 (by decide) (fun c8 => ?_) (fun c8 => ?_)
  · have ho := ho.1 c8
    refine lv_iload hx hb dL_law_3771 (lv_at hl 1 rfl) ?_
    refine lv_if_ne (tgt := 3788) hx hb dL_law_3773 (by decide) (fun c9 => ?_) (fun c9 => ?_)
    · have ho := ho.2 c9
      refine lv_goto (tgt := 4036) hx hb dL_law_3788 (by decide) ?_
      have hq10 := ho
      refine W.widen (k := c1) (n := c1) hq10 hq10 ?_
      replace ev4 := Eq.symm ev4
      replace ex5 := Eq.symm ex5
      replace ev7 := Eq.symm ev7
      subst ev4 ex5 ev7
      exact E _ _ _ _ _ _ (pr1 ((flc_69.eq_1 _ _ _ _).trans ((if_pos c8).trans ((if_neg c9).trans rfl)))) (pr2 ((flc_69.eq_1 _ _ _ _).trans ((if_pos c8).trans ((if_neg c9).trans rfl)))) hH hS (lv_sub hl [2, 3, 4, 5, 6, 7] rfl)
    · have ho := ho.1 c9
      refine lv_aload_n hx hb dL_law_3776 rfl (lv_at hl 5 rfl) ?_
      refine lv_iconst (v := 0) hx hb dL_law_3777 (by decide) ?_
      refine lald_34 X hH kd_468 (i_in (by decide) (by decide)) dL_law_3778 ?_
      refine lv_iload hx hb dL_law_3779 (lv_at hl 0 rfl) ?_
      refine lv_i2l (v := ((fX11_undo 461 v4).1 : Int32).toInt64) hx hb dL_law_3781 rfl ?_
      refine W.lcmp hx hb dL_law_3782 ?_
      refine lv_if_eq (tgt := 3788) hx hb dL_law_3783 (by decide) (fun c11 => ?_) (fun c11 => ?_)
      · have ho := ho.1 c11
        refine lv_goto (tgt := 4036) hx hb dL_law_3788 (by decide) ?_
        have hq12 := ho
        refine W.widen (k := c1) (n := c1) hq12 hq12 ?_
        replace ev4 := Eq.symm ev4
        replace ex5 := Eq.symm ex5
        replace ev7 := Eq.symm ev7
        subst ev4 ex5 ev7
        exact E _ _ _ _ _ _ (pr1 ((flc_69.eq_1 _ _ _ _).trans ((if_pos c8).trans ((if_pos c9).trans ((if_pos c11).trans rfl))))) (pr2 ((flc_69.eq_1 _ _ _ _).trans ((if_pos c8).trans ((if_pos c9).trans ((if_pos c11).trans rfl))))) hH hS (lv_sub hl [2, 3, 4, 5, 6, 7] rfl)
      · have ho := ho.2 c11
        have hq13 := ho
        exact hq13.elim
  · have ho := ho.2 c8
    have hq14 := ho
    exact hq14.elim
theorem dL_law_3791 : decode cL_law 3791 = .ok (.aload_n 1, 1) := by decide +kernel
theorem dL_law_3792 : decode cL_law 3792 = .ok (.aload_n 0, 1) := by decide +kernel
theorem dL_law_3793 : decode cL_law 3793 = .ok (.iload 5, 2) := by decide +kernel
theorem dL_law_3795 : decode cL_law 3795 = .ok (.iconst 1, 1) := by decide +kernel
theorem dL_law_3796 : decode cL_law 3796 = .ok (.iadd, 1) := by decide +kernel
theorem dL_law_3797 : decode cL_law 3797 = .ok (.iaload, 1) := by decide +kernel
theorem dL_law_3798 : decode cL_law 3798 = .ok (.aload_n 3, 1) := by decide +kernel
theorem dL_law_3799 : decode cL_law 3799 = .ok (.invokestatic 440, 3) := by decide +kernel
theorem dL_law_3802 : decode cL_law 3802 = .ok (.istore 6, 2) := by decide +kernel
theorem dL_law_3804 : decode cL_law 3804 = .ok (.aload_n 2, 1) := by decide +kernel
theorem dL_law_3805 : decode cL_law 3805 = .ok (.aload_n 0, 1) := by decide +kernel
theorem dL_law_3806 : decode cL_law 3806 = .ok (.iload 5, 2) := by decide +kernel
theorem dL_law_3808 : decode cL_law 3808 = .ok (.iconst 1, 1) := by decide +kernel
theorem dL_law_3809 : decode cL_law 3809 = .ok (.iadd, 1) := by decide +kernel
theorem dL_law_3810 : decode cL_law 3810 = .ok (.iaload, 1) := by decide +kernel
theorem dL_law_3811 : decode cL_law 3811 = .ok (.invokevirtual 442, 3) := by decide +kernel
theorem dL_law_3814 : decode cL_law 3814 = .ok (.istore 7, 2) := by decide +kernel
theorem dL_law_3816 : decode cL_law 3816 = .ok (.aload_n 2, 1) := by decide +kernel
theorem dL_law_3817 : decode cL_law 3817 = .ok (.invokevirtual 207, 3) := by decide +kernel
theorem dL_law_3820 : decode cL_law 3820 = .ok (.iload 6, 2) := by decide +kernel
theorem dL_law_3822 : decode cL_law 3822 = .ok (.if_icmp .eq 5, 3) := by decide +kernel
theorem dL_law_3827 : decode cL_law 3827 = .ok (.iload 6, 2) := by decide +kernel
theorem dL_law_3829 : decode cL_law 3829 = .ok (.ifCond .ne 15, 3) := by decide +kernel
theorem dL_law_3832 : decode cL_law 3832 = .ok (.aload_n 3, 1) := by decide +kernel
theorem dL_law_3833 : decode cL_law 3833 = .ok (.iconst 0, 1) := by decide +kernel
theorem dL_law_3834 : decode cL_law 3834 = .ok (.laload, 1) := by decide +kernel
theorem dL_law_3835 : decode cL_law 3835 = .ok (.iload 7, 2) := by decide +kernel
theorem dL_law_3837 : decode cL_law 3837 = .ok (.i2l, 1) := by decide +kernel
theorem dL_law_3838 : decode cL_law 3838 = .ok (.lcmp, 1) := by decide +kernel
theorem dL_law_3839 : decode cL_law 3839 = .ok (.ifCond .eq 5, 3) := by decide +kernel
theorem dL_law_3844 : decode cL_law 3844 = .ok (.goto 192, 3) := by decide +kernel
set_option maxHeartbeats 8000000 in
set_option maxRecDepth 100000 in
theorem lc_70 {p : Program} {l : Launch} {e : Env} {s : State} {m : MethodId} {args : Array Value} {below : List Frame} {meth : Method} {c : Code} {H : Heap} {locs : List Loc} {Q : State → Prop} {ls : Array Slot} {G : gG} {da : Nat → Nat} {v : vSt} {x : gX} (hst : l.stackTraces = false) (X : CX G p s m args c cL_law 8 RL) (hN : NC s) {b L : Nat} {xs : Nat → Int32} (hX : va_X b L xs s s.heap) (hbl : b < s.heap.size) (hbA : ¬ gA G b) {i : Int32} (hi : 0 ≤ i.toInt ∧ i.toInt + 5 ≤ (L : Int) ∧ L ≤ 2560) (hH : Hp G da v x H) (hS : va_S (gA G) s.heap H locs) (hl : lv_has ls 8 [(0, .ref b), (1, .ref (ga G 448)), (2, .ref (ga G 461)), (3, .ref (ga G 468)), (4, .ref (ga G 469)), (5, .int i)]) {c0 c1 : Nat} (ho : olc_70 i xs v x c0 c1) (E : ∀ (da1 : Nat → Nat) (H1 : Heap) (locs1 : List Loc) (ls1 : Array Slot) (v2 : vSt) (x2 : gX), v2 = (flc_70 i xs v x).1 → x2 = (flc_70 i xs v x).2 → Hp G da1 v2 x2 H1 → va_S (gA G) s.heap H1 locs1 → lv_has ls1 8 [(0, .ref b), (1, .ref (ga G 448)), (2, .ref (ga G 461)), (3, .ref (ga G 468)), (4, .ref (ga G 469)), (5, .int i)] → W p l e room_1 s m args below meth c H1 locs1 c1 c1 Q (F0 m 4036 ls1 [])) : W p l e room_1 s m args below meth c H locs c0 c0 Q (F0 m 3791 ls []) := by
  have hx := X.1
  have hb := X.2.1
  have hown := X.2.2.2.1
  have hts := X.2.2.2.2.1
  unfold olc_70 at ho
  refine lv_aload_n hx hb dL_law_3791 rfl (lv_at hl 1 rfl) ?_
  refine lv_aload_n hx hb dL_law_3792 rfl (lv_at hl 0 rfl) ?_
  refine lv_iload hx hb dL_law_3793 (lv_at hl 5 rfl) ?_
  refine lv_iconst (v := 1) hx hb dL_law_3795 (by decide) ?_
  refine lv_iadd hx hb dL_law_3796 ?_
  refine va_sld hx hb hX hbl hbA hS (sx hi 1 (by decide)) dL_law_3797 ?_
  refine lv_aload_n hx hb dL_law_3798 rfl (lv_at hl 3 rfl) ?_
  have hq1 := ho.1
  have ho := ho.2
  have hq2 := ho.1
  have ho := ho.2
  have hq3 := ho.1
  have ho := ho.2
  refine k_L_type hst X hS hN hH kd_448 kd_468 hq1 t_ml_VernierDrawersLaw_440 hl.1 (Nat.le_of_ble_eq_true rfl) ⟨Nat.le_of_ble_eq_true rfl, Nat.le_of_ble_eq_true rfl⟩ ⟨hq3, (le_sl hq3)⟩ dL_law_3799 (fun da H locs v4 x5 ev4 ex5 hH hS => ?_)
  have ho := ho v4 ev4 x5 ex5
  refine lv_istore (lv' := [(6, .int ((fL_type 448 (xs (i + 1 : Int32).toNatClampNeg) 468 v x).1)), (0, .ref b), (1, .ref (ga G 448)), (2, .ref (ga G 461)), (3, .ref (ga G 468)), (4, .ref (ga G 469)), (5, .int i)]) hx hb dL_law_3802 hl (by decide) rfl (fun ls hl => ?_)
  refine lv_aload_n hx hb dL_law_3804 rfl (lv_at hl 3 rfl) ?_
  refine lv_aload_n hx hb dL_law_3805 rfl (lv_at hl 1 rfl) ?_
  refine lv_iload hx hb dL_law_3806 (lv_at hl 6 rfl) ?_
  refine lv_iconst (v := 1) hx hb dL_law_3808 (by decide) ?_
  refine lv_iadd hx hb dL_law_3809 ?_
  refine va_sld hx hb hX hbl hbA hS (sx hi 1 (by decide)) dL_law_3810 ?_
  have hq6 := ho.1
  have ho := ho.2
  refine k_X11_type X hS hH kd_461 hq6 t_ml_VernierDrawersLaw_442 hl.1 (Nat.le_of_ble_eq_true rfl) ⟨Nat.le_of_ble_eq_true rfl, Nat.le_of_ble_eq_true rfl⟩ ⟨hq3, (le_sl hq3)⟩ dL_law_3811 (fun da H locs v7 ev7 hH hS => ?_)
  have ho := ho v7 ev7
  refine lv_istore (lv' := [(7, .int ((fX11_type 461 (xs (i + 1 : Int32).toNatClampNeg) v4).1)), (6, .int ((fL_type 448 (xs (i + 1 : Int32).toNatClampNeg) 468 v x).1)), (0, .ref b), (1, .ref (ga G 448)), (2, .ref (ga G 461)), (3, .ref (ga G 468)), (4, .ref (ga G 469)), (5, .int i)]) hx hb dL_law_3814 hl (by decide) rfl (fun ls hl => ?_)
  refine lv_aload_n hx hb dL_law_3816 rfl (lv_at hl 4 rfl) ?_
  refine k_X11_thrown X hS hH kd_461 t_ml_VernierDrawersLaw_207 hl.1 (Nat.le_of_ble_eq_true rfl) ⟨Nat.le_of_ble_eq_true rfl, Nat.le_of_ble_eq_true rfl⟩ ⟨hq3, (le_sl hq3)⟩ dL_law_3817 ?_
  refine lv_iload hx hb dL_law_3820 (lv_at hl 1 rfl) ?_
  refine lv_icmp_eq (tgt := 3827) hx hb dL_law_3822 (by decide) (fun c8 => ?_) (fun c8 => ?_)
  · have ho := ho.1 c8
    refine lv_iload hx hb dL_law_3827 (lv_at hl 1 rfl) ?_
    refine lv_if_ne (tgt := 3844) hx hb dL_law_3829 (by decide) (fun c9 => ?_) (fun c9 => ?_)
    · have ho := ho.2 c9
      refine lv_goto (tgt := 4036) hx hb dL_law_3844 (by decide) ?_
      have hq10 := ho
      refine W.widen (k := c1) (n := c1) hq10 hq10 ?_
      replace ev4 := Eq.symm ev4
      replace ex5 := Eq.symm ex5
      replace ev7 := Eq.symm ev7
      subst ev4 ex5 ev7
      exact E _ _ _ _ _ _ (pr1 ((flc_70.eq_1 _ _ _ _).trans ((if_pos c8).trans ((if_neg c9).trans rfl)))) (pr2 ((flc_70.eq_1 _ _ _ _).trans ((if_pos c8).trans ((if_neg c9).trans rfl)))) hH hS (lv_sub hl [2, 3, 4, 5, 6, 7] rfl)
    · have ho := ho.1 c9
      refine lv_aload_n hx hb dL_law_3832 rfl (lv_at hl 5 rfl) ?_
      refine lv_iconst (v := 0) hx hb dL_law_3833 (by decide) ?_
      refine lald_34 X hH kd_468 (i_in (by decide) (by decide)) dL_law_3834 ?_
      refine lv_iload hx hb dL_law_3835 (lv_at hl 0 rfl) ?_
      refine lv_i2l (v := ((fX11_type 461 (xs (i + 1 : Int32).toNatClampNeg) v4).1 : Int32).toInt64) hx hb dL_law_3837 rfl ?_
      refine W.lcmp hx hb dL_law_3838 ?_
      refine lv_if_eq (tgt := 3844) hx hb dL_law_3839 (by decide) (fun c11 => ?_) (fun c11 => ?_)
      · have ho := ho.1 c11
        refine lv_goto (tgt := 4036) hx hb dL_law_3844 (by decide) ?_
        have hq12 := ho
        refine W.widen (k := c1) (n := c1) hq12 hq12 ?_
        replace ev4 := Eq.symm ev4
        replace ex5 := Eq.symm ex5
        replace ev7 := Eq.symm ev7
        subst ev4 ex5 ev7
        exact E _ _ _ _ _ _ (pr1 ((flc_70.eq_1 _ _ _ _).trans ((if_pos c8).trans ((if_pos c9).trans ((if_pos c11).trans rfl))))) (pr2 ((flc_70.eq_1 _ _ _ _).trans ((if_pos c8).trans ((if_pos c9).trans ((if_pos c11).trans rfl))))) hH hS (lv_sub hl [2, 3, 4, 5, 6, 7] rfl)
      · have ho := ho.2 c11
        have hq13 := ho
        exact hq13.elim
  · have ho := ho.2 c8
    have hq14 := ho
    exact hq14.elim
theorem dL_law_3847 : decode cL_law 3847 = .ok (.aload_n 1, 1) := by decide +kernel
theorem dL_law_3848 : decode cL_law 3848 = .ok (.invokevirtual 443, 3) := by decide +kernel
theorem dL_law_3851 : decode cL_law 3851 = .ok (.aload_n 2, 1) := by decide +kernel
theorem dL_law_3852 : decode cL_law 3852 = .ok (.invokevirtual 446, 3) := by decide +kernel
theorem dL_law_3855 : decode cL_law 3855 = .ok (.if_icmp .eq 181, 3) := by decide +kernel
set_option maxHeartbeats 8000000 in
set_option maxRecDepth 100000 in
theorem lc_71 {p : Program} {l : Launch} {e : Env} {s : State} {m : MethodId} {args : Array Value} {below : List Frame} {meth : Method} {c : Code} {H : Heap} {locs : List Loc} {Q : State → Prop} {ls : Array Slot} {G : gG} {da : Nat → Nat} {v : vSt} {x : gX} (hst : l.stackTraces = false) (X : CX G p s m args c cL_law 8 RL) (hN : NC s) {b L : Nat} {xs : Nat → Int32} (hX : va_X b L xs s s.heap) (hbl : b < s.heap.size) (hbA : ¬ gA G b) {i : Int32} (hi : 0 ≤ i.toInt ∧ i.toInt + 5 ≤ (L : Int) ∧ L ≤ 2560) (hH : Hp G da v x H) (hS : va_S (gA G) s.heap H locs) (hl : lv_has ls 8 [(0, .ref b), (1, .ref (ga G 448)), (2, .ref (ga G 461)), (3, .ref (ga G 468)), (4, .ref (ga G 469)), (5, .int i)]) {c0 c1 : Nat} (ho : olc_71 i xs v x c0 c1) (E : ∀ (da1 : Nat → Nat) (H1 : Heap) (locs1 : List Loc) (ls1 : Array Slot) (v2 : vSt) (x2 : gX), v2 = (flc_71 i xs v x).1 → x2 = (flc_71 i xs v x).2 → Hp G da1 v2 x2 H1 → va_S (gA G) s.heap H1 locs1 → lv_has ls1 8 [(0, .ref b), (1, .ref (ga G 448)), (2, .ref (ga G 461)), (3, .ref (ga G 468)), (4, .ref (ga G 469)), (5, .int i)] → W p l e room_1 s m args below meth c H1 locs1 c1 c1 Q (F0 m 4036 ls1 [])) : W p l e room_1 s m args below meth c H locs c0 c0 Q (F0 m 3847 ls []) := by
  have hx := X.1
  have hb := X.2.1
  have hown := X.2.2.2.1
  have hts := X.2.2.2.2.1
  unfold olc_71 at ho
  refine lv_aload_n hx hb dL_law_3847 rfl (lv_at hl 1 rfl) ?_
  have hq1 := ho.1
  have ho := ho.2
  refine k_X10_clearText X hS hH kd_448 t_ml_VernierDrawersLaw_443 hl.1 (Nat.le_of_ble_eq_true rfl) ⟨Nat.le_of_ble_eq_true rfl, Nat.le_of_ble_eq_true rfl⟩ ⟨hq1, (le_sl hq1)⟩ dL_law_3848 (fun da H locs v2 ev2 hH hS => ?_)
  have ho := ho v2 ev2
  refine lv_aload_n hx hb dL_law_3851 rfl (lv_at hl 2 rfl) ?_
  refine k_X11_clearText X hS hH kd_461 t_ml_VernierDrawersLaw_446 hl.1 (Nat.le_of_ble_eq_true rfl) ⟨Nat.le_of_ble_eq_true rfl, Nat.le_of_ble_eq_true rfl⟩ ⟨hq1, (le_sl hq1)⟩ dL_law_3852 (fun da H locs v3 ev3 hH hS => ?_)
  have ho := ho v3 ev3
  refine lv_icmp_eq (tgt := 4036) hx hb dL_law_3855 (by decide) (fun c4 => ?_) (fun c4 => ?_)
  · have ho := ho.1 c4
    have hq5 := ho
    refine W.widen (k := c1) (n := c1) hq5 hq5 ?_
    replace ev2 := Eq.symm ev2
    replace ev3 := Eq.symm ev3
    subst ev2 ev3
    exact E _ _ _ _ _ _ (pr1 ((flc_71.eq_1 _ _ _ _).trans ((if_pos c4).trans rfl))) (pr2 ((flc_71.eq_1 _ _ _ _).trans ((if_pos c4).trans rfl))) hH hS (lv_sub hl [0, 1, 2, 3, 4, 5] rfl)
  · have ho := ho.2 c4
    have hq6 := ho
    exact hq6.elim
