/-! the table asked. -/
def lX6_fewestFor_15 (p1 : Int32) (x : gX) : Nat → Int32 → Int32
  | 0, _ => 0
  | n + 1, i2 => if (6 : Int32) ≤ i2 then 0 else (if ((lg_cmp ((lsr (x.1 (455 + (i2 : Int32).toNatClampNeg) (p1 / 64 : Int32).toNatClampNeg) (p1 - p1 / 64 * 64)) &&& 1) 1) : Int32) = 0 then i2 else (lX6_fewestFor_15 p1 x n (i2 + 1)))
def olX6_fewestFor_15 (p1 : Int32) (x : gX) : Nat → Int32 → Prop
  | 0, _ => False
  | n + 1, i2 => ¬ ((6 : Int32) ≤ i2) → ((vp_in (i2) 6) ∧ ((vp_in (p1 / 64) 235) ∧ (¬ (((lg_cmp ((lsr (x.1 (455 + (i2 : Int32).toNatClampNeg) (p1 / 64 : Int32).toNatClampNeg) (p1 - p1 / 64 * 64)) &&& 1) 1) : Int32) = 0) → (olX6_fewestFor_15 p1 x n (i2 + 1)))))
def fX6_fewestFor (r : Nat) (p1 : Int32) (v : vSt) (x : gX) : Int32 := if ((fX10_inRange p1 1 15000) : Int32) = 0 then 0 else (lX6_fewestFor_15 p1 x (6) 1)
def oX6_fewestFor (r : Nat) (p1 : Int32) (v : vSt) (x : gX) : Prop := ¬ (((fX10_inRange p1 1 15000) : Int32) = 0) → (olX6_fewestFor_15 p1 x (6) 1)
abbrev rmX6_fewestFor : Room := { frames := 1, cells := 0, slots := 0, locals := 22 }
theorem dX6_fewestFor_0 : decode cX6_fewestFor 0 = .ok (.iload_n 1, 1) := by decide +kernel
theorem dX6_fewestFor_1 : decode cX6_fewestFor 1 = .ok (.iconst 1, 1) := by decide +kernel
theorem dX6_fewestFor_2 : decode cX6_fewestFor 2 = .ok (.sipush 15000, 3) := by decide +kernel
theorem dX6_fewestFor_5 : decode cX6_fewestFor 5 = .ok (.invokestatic 43, 3) := by decide +kernel
theorem dX6_fewestFor_8 : decode cX6_fewestFor 8 = .ok (.ifCond .ne 5, 3) := by decide +kernel
theorem dX6_fewestFor_11 : decode cX6_fewestFor 11 = .ok (.iconst 0, 1) := by decide +kernel
theorem dX6_fewestFor_12 : decode cX6_fewestFor 12 = .ok (.ireturn, 1) := by decide +kernel
theorem dX6_fewestFor_13 : decode cX6_fewestFor 13 = .ok (.iconst 1, 1) := by decide +kernel
theorem dX6_fewestFor_14 : decode cX6_fewestFor 14 = .ok (.istore_n 2, 1) := by decide +kernel
theorem dX6_fewestFor_15 : decode cX6_fewestFor 15 = .ok (.iload_n 2, 1) := by decide +kernel
theorem dX6_fewestFor_16 : decode cX6_fewestFor 16 = .ok (.aload_n 0, 1) := by decide +kernel
theorem dX6_fewestFor_17 : decode cX6_fewestFor 17 = .ok (.getfield 13, 3) := by decide +kernel
theorem dX6_fewestFor_20 : decode cX6_fewestFor 20 = .ok (.arraylength, 1) := by decide +kernel
theorem dX6_fewestFor_21 : decode cX6_fewestFor 21 = .ok (.if_icmp .ge 34, 3) := by decide +kernel
theorem dX6_fewestFor_24 : decode cX6_fewestFor 24 = .ok (.aload_n 0, 1) := by decide +kernel
theorem dX6_fewestFor_25 : decode cX6_fewestFor 25 = .ok (.getfield 13, 3) := by decide +kernel
theorem dX6_fewestFor_28 : decode cX6_fewestFor 28 = .ok (.iload_n 2, 1) := by decide +kernel
theorem dX6_fewestFor_29 : decode cX6_fewestFor 29 = .ok (.aaload, 1) := by decide +kernel
theorem dX6_fewestFor_30 : decode cX6_fewestFor 30 = .ok (.iload_n 1, 1) := by decide +kernel
theorem dX6_fewestFor_31 : decode cX6_fewestFor 31 = .ok (.bipush 64, 2) := by decide +kernel
theorem dX6_fewestFor_33 : decode cX6_fewestFor 33 = .ok (.idiv, 1) := by decide +kernel
theorem dX6_fewestFor_34 : decode cX6_fewestFor 34 = .ok (.laload, 1) := by decide +kernel
theorem dX6_fewestFor_35 : decode cX6_fewestFor 35 = .ok (.iload_n 1, 1) := by decide +kernel
theorem dX6_fewestFor_36 : decode cX6_fewestFor 36 = .ok (.bipush 64, 2) := by decide +kernel
theorem dX6_fewestFor_38 : decode cX6_fewestFor 38 = .ok (.irem, 1) := by decide +kernel
theorem dX6_fewestFor_39 : decode cX6_fewestFor 39 = .ok (.lushr, 1) := by decide +kernel
theorem dX6_fewestFor_40 : decode cX6_fewestFor 40 = .ok (.lconst 1, 1) := by decide +kernel
theorem dX6_fewestFor_41 : decode cX6_fewestFor 41 = .ok (.land, 1) := by decide +kernel
theorem dX6_fewestFor_42 : decode cX6_fewestFor 42 = .ok (.lconst 1, 1) := by decide +kernel
theorem dX6_fewestFor_43 : decode cX6_fewestFor 43 = .ok (.lcmp, 1) := by decide +kernel
theorem dX6_fewestFor_44 : decode cX6_fewestFor 44 = .ok (.ifCond .ne 5, 3) := by decide +kernel
theorem dX6_fewestFor_47 : decode cX6_fewestFor 47 = .ok (.iload_n 2, 1) := by decide +kernel
theorem dX6_fewestFor_48 : decode cX6_fewestFor 48 = .ok (.ireturn, 1) := by decide +kernel
theorem dX6_fewestFor_49 : decode cX6_fewestFor 49 = .ok (.iinc 2 1, 3) := by decide +kernel
theorem dX6_fewestFor_52 : decode cX6_fewestFor 52 = .ok (.goto (-37), 3) := by decide +kernel
theorem dX6_fewestFor_55 : decode cX6_fewestFor 55 = .ok (.iconst 0, 1) := by decide +kernel
theorem dX6_fewestFor_56 : decode cX6_fewestFor 56 = .ok (.ireturn, 1) := by decide +kernel
set_option maxHeartbeats 8000000 in
set_option maxRecDepth 100000 in
theorem mX6_fewestFor (l : Launch) (G : gG) (da : Nat → Nat) (v : vSt) (x : gX) (r : Nat) (hk_r : kd r = 6) (p1 : Int32) (ho : oX6_fewestFor r p1 v x) : QI l yX6_fewestFor cX6_fewestFor 3 (some .int) rmX6_fewestFor [.ref (ga G r), .int p1] (pW G da v x) (fX6_fewestFor r p1 v x) := by
  refine gofQ (own := RX6) (by decide) rfl (Nat.le_of_ble_eq_true rfl) (fun p e s m args below meth c ls Q X hH hl E => ?_)
  have hx := X.1
  have hb := X.2.1
  have hown := X.2.2.2.1
  have hts := X.2.2.2.2.1
  have hS : va_S (gA G) s.heap s.heap [] := va_S.rf
  unfold oX6_fewestFor at ho
  have hl : lv_has ls 3 [(0, .ref (ga G r)), (1, .int p1)] := hl
  refine lv_iload_n hx hb dX6_fewestFor_0 rfl (lv_at hl 1 rfl) ?_
  refine lv_iconst (v := 1) hx hb dX6_fewestFor_1 (by decide) ?_
  refine lv_sipush (v := 15000) hx hb dX6_fewestFor_2 (by decide) ?_
  refine kn_X10_inRange X hS  t_mn_StackTable_43 hl.1 (Nat.le_of_ble_eq_true rfl) ⟨Nat.le_of_ble_eq_true rfl, Nat.le_of_ble_eq_true rfl⟩ ⟨Nat.zero_le _, Nat.zero_le _⟩ dX6_fewestFor_5 ?_
  refine lv_if_ne (tgt := 13) hx hb dX6_fewestFor_8 (by decide) (fun c1 => ?_) (fun c1 => ?_)
  · have ho := ho c1
    refine lv_iconst (v := 1) hx hb dX6_fewestFor_13 (by decide) ?_
    refine lv_istore_n (lv' := [(2, .int 1), (0, .ref (ga G r)), (1, .int p1)]) hx hb dX6_fewestFor_14 rfl hl (by decide) rfl (fun ls hl => ?_)
    have L3 : ∀ (n : Nat) (i2 : Int32) (ls : Array Slot), olX6_fewestFor_15 p1 x n i2 → lX6_fewestFor_15 p1 x n i2 = fX6_fewestFor r p1 v x → lv_has ls 3 [(2, .int i2), (0, .ref (ga G r)), (1, .int p1)] → W p l e rmX6_fewestFor s m args below meth c s.heap [] 0 0 Q (F0 m 15 ls []) := by
      clear ho
      intro n
      induction n with
      | zero =>
        intro i2 ls ho
        exact ho.elim
      | succ n ih =>
        intro i2 ls ho hF hl
        refine lv_iload_n hx hb dX6_fewestFor_15 rfl (lv_at hl 0 rfl) ?_
        refine lv_aload_n hx hb dX6_fewestFor_16 rfl (lv_at hl 1 rfl) ?_
        refine g_StackTable_13 X hH hk_r dX6_fewestFor_17 ?_
        refine len_28 X hH kd_454 dX6_fewestFor_20 ?_
        refine lv_icmp_ge (tgt := 55) hx hb dX6_fewestFor_21 (by decide) (fun c4 => ?_) (fun c4 => ?_)
        · skip
          refine lv_iconst (v := 0) hx hb dX6_fewestFor_55 (by decide) ?_
          exact E _ _ _ dX6_fewestFor_56 rfl (Eq.symm (((Eq.symm hF).trans (lX6_fewestFor_15.eq_2 _ _ _ _)).trans ((if_pos c4).trans rfl)))
        · have ho := ho c4
          refine lv_aload_n hx hb dX6_fewestFor_24 rfl (lv_at hl 1 rfl) ?_
          refine g_StackTable_13 X hH hk_r dX6_fewestFor_25 ?_
          refine lv_iload_n hx hb dX6_fewestFor_28 rfl (lv_at hl 0 rfl) ?_
          have hq5 := ho.1
          have ho := ho.2
          refine qld_28 X hH kd_454 hq5 dX6_fewestFor_29 ?_
          refine lv_iload_n hx hb dX6_fewestFor_30 rfl (lv_at hl 2 rfl) ?_
          refine lv_bipush (v := 64) hx hb dX6_fewestFor_31 (by decide) ?_
          refine lv_idiv hx hb dX6_fewestFor_33 (by decide) ?_
          have hq6 := ho.1
          have ho := ho.2
          refine lald_29 X hH (ki_28 (vp_lt hq5)) hq6 dX6_fewestFor_34 ?_
          refine lv_iload_n hx hb dX6_fewestFor_35 rfl (lv_at hl 2 rfl) ?_
          refine lv_bipush (v := 64) hx hb dX6_fewestFor_36 (by decide) ?_
          refine lv_irem hx hb dX6_fewestFor_38 (by decide) ?_
          refine lv_lushr (v := lsr (x.1 (455 + (i2 : Int32).toNatClampNeg) (p1 / 64 : Int32).toNatClampNeg) (p1 - p1 / 64 * 64)) hx hb dX6_fewestFor_39 rfl ?_
          refine lv_lconst (v := 1) hx hb dX6_fewestFor_40 rfl ?_
          refine lv_land hx hb dX6_fewestFor_41 ?_
          refine lv_lconst (v := 1) hx hb dX6_fewestFor_42 rfl ?_
          refine W.lcmp hx hb dX6_fewestFor_43 ?_
          refine lv_if_ne (tgt := 49) hx hb dX6_fewestFor_44 (by decide) (fun c7 => ?_) (fun c7 => ?_)
          · have ho := ho c7
            refine lv_iinc (v := i2 + 1) (lv' := [(2, .int (i2 + 1)), (0, .ref (ga G r)), (1, .int p1)]) hx hb dX6_fewestFor_49 hl (k := 0) rfl rfl (by decide) rfl (fun ls hl => ?_)
            refine lv_goto (tgt := 15) hx hb dX6_fewestFor_52 (by decide) ?_
            exact ih _ _ ho ((Eq.symm (((lX6_fewestFor_15.eq_2 _ _ _ _)).trans ((if_neg c4).trans ((if_neg c7).trans rfl)))).trans hF) (lv_sub hl [0, 1, 2] rfl)
          · skip
            refine lv_iload_n hx hb dX6_fewestFor_47 rfl (lv_at hl 0 rfl) ?_
            exact E _ _ _ dX6_fewestFor_48 rfl (Eq.symm (((Eq.symm hF).trans (lX6_fewestFor_15.eq_2 _ _ _ _)).trans ((if_neg c4).trans ((if_pos c7).trans rfl))))
    have hol := ho
    exact L3 (6) 1 _ hol (Eq.symm ((fX6_fewestFor.eq_1 _ _ _ _).trans ((if_neg c1).trans rfl))) (lv_sub hl [0, 1, 2] rfl)
  · skip
    refine lv_iconst (v := 0) hx hb dX6_fewestFor_11 (by decide) ?_
    exact E _ _ _ dX6_fewestFor_12 rfl (Eq.symm ((fX6_fewestFor.eq_1 _ _ _ _).trans ((if_pos c1).trans rfl)))
theorem k_X6_fewestFor {p : Program} {l : Launch} {e : Env} {R : Room} {s : State} {m : MethodId} {args : Array Value} {below : List Frame} {meth : Method} {c : Code} {H : Heap} {locs : List Loc} {cells slots : Nat} {Q : State → Prop} {cc : ByteArray} {pc nL : Nat} {ls : Array Slot} {rest : List Value} {G : gG} {own : String} {da : Nat → Nat} {v : vSt} {x : gX} (X : CX G p s m args c cc nL own) (hS : va_S (gA G) s.heap H locs) (hH : Hp G da v x H) {r : Nat} (hk_r : kd r = 6) {p1 : Int32} (ho : oX6_fewestFor r p1 v x) {idx : Nat} (hml : Cond.methodLink own idx yX6_fewestFor ∈ TT) (hls : ls.size = nL) (hsum : (rest.map fun v => v.category).sum ≤ 8) (hR : rmX6_fewestFor.frames + 1 ≤ R.frames ∧ 8 + (3 + 11) + rmX6_fewestFor.locals ≤ R.locals) (hcs : cells ≤ R.cells ∧ slots ≤ R.slots) (hdg : decode cc pc = .ok (.invokevirtual idx, 3)) (kk : W p l e R s m args below meth c H locs cells slots Q (F0 m (pc + 3) ls (.int (fX6_fewestFor r p1 v x) :: rest))) : W p l e R s m args below meth c H locs cells slots Q (F0 m pc ls (.int p1 :: .ref (ga G r) :: rest)) := c_qi (runV (k := 1) X.1 X.2.1 X.2.2.1 X.2.2.2.1 X.2.2.2.2.1 (mX6_fewestFor l G da v x r hk_r p1 ho) pW_bl hml t_im_X6_fewestFor t_sel_X6_fewestFor t_ini_StackTable t_code_X6_fewestFor ⟨rfl, by decide, by decide, by decide +kernel⟩ rfl rfl hR hcs (recvW X hH (by rw [hk_r]; decide) (by rw [hk_r]; decide) (ce_6 hk_r) rfl) (preW X hS hH) rfl hls rfl hsum hdg) (fun _ h => h ▸ kk)
def fX10_fewestBlocks (r : Nat) (p1 : Int32) (v : vSt) (x : gX) : Nat × Int32 × gX := if fX10_needStackLength p1 v = 0 then (let x4 : gX := fX6_fill 453 ((rN (v r 0)) + 1) v x; if ((fX6_fewestFor 453 p1 v x4) : Int32) = 0 then ((3, 0, x4)) else ((0, fX6_fewestFor 453 p1 v x4, x4))) else ((fX10_needStackLength p1 v, 0, x))
def oX10_fewestBlocks (r : Nat) (p1 : Int32) (v : vSt) (x : gX) : Prop := (fX10_needStackLength p1 v = 0) → ((kd (rN (v r 0)) = 7) ∧ ((oX6_fill 453 ((rN (v r 0)) + 1) v x) ∧ (∀ x4 : gX, x4 = (fX6_fill 453 ((rN (v r 0)) + 1) v x) → (oX6_fewestFor 453 p1 v x4))))
abbrev rmX10_fewestBlocks : Room := { frames := 7, cells := 18, slots := 18, locals := 110 }
theorem dX10_fewestBlocks_0 : decode cX10_fewestBlocks 0 = .ok (.iload_n 1, 1) := by decide +kernel
theorem dX10_fewestBlocks_1 : decode cX10_fewestBlocks 1 = .ok (.invokestatic 249, 3) := by decide +kernel
theorem dX10_fewestBlocks_4 : decode cX10_fewestBlocks 4 = .ok (.aload_n 0, 1) := by decide +kernel
theorem dX10_fewestBlocks_5 : decode cX10_fewestBlocks 5 = .ok (.getfield 37, 3) := by decide +kernel
theorem dX10_fewestBlocks_8 : decode cX10_fewestBlocks 8 = .ok (.aload_n 0, 1) := by decide +kernel
theorem dX10_fewestBlocks_9 : decode cX10_fewestBlocks 9 = .ok (.getfield 10, 3) := by decide +kernel
theorem dX10_fewestBlocks_12 : decode cX10_fewestBlocks 12 = .ok (.getfield 41, 3) := by decide +kernel
theorem dX10_fewestBlocks_15 : decode cX10_fewestBlocks 15 = .ok (.invokevirtual 252, 3) := by decide +kernel
theorem dX10_fewestBlocks_18 : decode cX10_fewestBlocks 18 = .ok (.aload_n 0, 1) := by decide +kernel
theorem dX10_fewestBlocks_19 : decode cX10_fewestBlocks 19 = .ok (.getfield 37, 3) := by decide +kernel
theorem dX10_fewestBlocks_22 : decode cX10_fewestBlocks 22 = .ok (.iload_n 1, 1) := by decide +kernel
theorem dX10_fewestBlocks_23 : decode cX10_fewestBlocks 23 = .ok (.invokevirtual 256, 3) := by decide +kernel
theorem dX10_fewestBlocks_26 : decode cX10_fewestBlocks 26 = .ok (.istore_n 2, 1) := by decide +kernel
theorem dX10_fewestBlocks_27 : decode cX10_fewestBlocks 27 = .ok (.iload_n 2, 1) := by decide +kernel
theorem dX10_fewestBlocks_28 : decode cX10_fewestBlocks 28 = .ok (.ifCond .ne 14, 3) := by decide +kernel
theorem dX10_fewestBlocks_31 : decode cX10_fewestBlocks 31 = .ok (.new 259, 3) := by decide +kernel
theorem dX10_fewestBlocks_34 : decode cX10_fewestBlocks 34 = .ok (.dup, 1) := by decide +kernel
theorem dX10_fewestBlocks_35 : decode cX10_fewestBlocks 35 = .ok (.ldc_w 261, 3) := by decide +kernel
theorem dX10_fewestBlocks_38 : decode cX10_fewestBlocks 38 = .ok (.invokespecial 263, 3) := by decide +kernel
theorem dX10_fewestBlocks_41 : decode cX10_fewestBlocks 41 = .ok (.athrow, 1) := by decide +kernel
theorem dX10_fewestBlocks_42 : decode cX10_fewestBlocks 42 = .ok (.iload_n 2, 1) := by decide +kernel
theorem dX10_fewestBlocks_43 : decode cX10_fewestBlocks 43 = .ok (.ireturn, 1) := by decide +kernel
set_option maxHeartbeats 8000000 in
set_option maxRecDepth 100000 in
theorem mX10_fewestBlocks (l : Launch) (hst : l.stackTraces = false) (G : gG) (da : Nat → Nat) (v : vSt) (x : gX) (r : Nat) (hk_r : kd r = 10) (p1 : Int32) (ho : oX10_fewestBlocks r p1 v x) : TI l yX10_fewestBlocks cX10_fewestBlocks 3 (some .int) rmX10_fewestBlocks [.ref (ga G r), .int p1] G da v x 18 18 (fX10_fewestBlocks r p1 v x).1 (fX10_fewestBlocks r p1 v x).2.1 v (fX10_fewestBlocks r p1 v x).2.2 := by
  refine gofTI hst (by decide) rfl (Nat.le_of_ble_eq_true rfl) ⟨Nat.le_of_ble_eq_true rfl, Nat.le_of_ble_eq_true rfl, Nat.le_refl _, Nat.le_refl _⟩ (fun p e s m args below meth c ls Q X hH hl E EX ES EW => ?_)
  have hx := X.1
  have hb := X.2.1
  have hown := X.2.2.2.1
  have hts := X.2.2.2.2.1
  have hS : va_S (gA G) s.heap s.heap [] := va_S.rf
  unfold oX10_fewestBlocks at ho
  have hl : lv_has ls 3 [(0, .ref (ga G r)), (1, .int p1)] := hl
  refine lv_iload_n hx hb dX10_fewestBlocks_0 rfl (lv_at hl 1 rfl) ?_
  refine k_X10_needStackLength hst X hS hH  t_ml_VernierDrawers_249 hl.1 (Nat.le_of_ble_eq_true rfl) ⟨Nat.le_of_ble_eq_true rfl, Nat.le_of_ble_eq_true rfl⟩ ⟨(Nat.le_of_ble_eq_true rfl), (Nat.le_of_ble_eq_true rfl)⟩ dX10_fewestBlocks_1 (fun c1 da ce9 q9 H locs hH hS g1 g2 g3 => ?_) (fun c1 da H locs hH hS => ?_)
  · skip
    exact EX _ _ _ _ _ _ _ _ _ _ _ _ c1 (t31 ((fX10_fewestBlocks.eq_1 _ _ _ _).trans ((if_neg c1).trans rfl))) rfl (hp_x (Eq.symm (t33 ((fX10_fewestBlocks.eq_1 _ _ _ _).trans ((if_neg c1).trans rfl)))) hH) hS g1 g2 g3 (Nat.le_of_ble_eq_true rfl) (Nat.le_of_ble_eq_true rfl)
  · have ho := ho c1
    refine lv_aload_n hx hb dX10_fewestBlocks_4 rfl (lv_at hl 0 rfl) ?_
    refine g_VernierDrawers_37 X hH hk_r dX10_fewestBlocks_5 ?_
    refine lv_aload_n hx hb dX10_fewestBlocks_8 rfl (lv_at hl 0 rfl) ?_
    refine g_VernierDrawers_10 X hH hk_r dX10_fewestBlocks_9 ?_
    have hq2 := ho.1
    have ho := ho.2
    refine g_VernierDrawers_41 X hH hq2 dX10_fewestBlocks_12 ?_
    have hq3 := ho.1
    have ho := ho.2
    refine k_X6_fill X hS hH kd_453 (kc_7_2 hq2) hq3 t_ml_VernierDrawers_252 hl.1 (Nat.le_of_ble_eq_true rfl) ⟨Nat.le_of_ble_eq_true rfl, Nat.le_of_ble_eq_true rfl⟩ ⟨(Nat.le_of_ble_eq_true rfl), (Nat.le_of_ble_eq_true rfl)⟩ dX10_fewestBlocks_15 (fun da H locs x4 ex4 hH hS => ?_)
    have ho := ho x4 ex4
    refine lv_aload_n hx hb dX10_fewestBlocks_18 rfl (lv_at hl 0 rfl) ?_
    refine g_VernierDrawers_37 X hH hk_r dX10_fewestBlocks_19 ?_
    refine lv_iload_n hx hb dX10_fewestBlocks_22 rfl (lv_at hl 1 rfl) ?_
    have hq5 := ho
    refine k_X6_fewestFor X hS hH kd_453 hq5 t_ml_VernierDrawers_256 hl.1 (Nat.le_of_ble_eq_true rfl) ⟨Nat.le_of_ble_eq_true rfl, Nat.le_of_ble_eq_true rfl⟩ ⟨(Nat.le_of_ble_eq_true rfl), (Nat.le_of_ble_eq_true rfl)⟩ dX10_fewestBlocks_23 ?_
    refine lv_istore_n (lv' := [(2, .int (fX6_fewestFor 453 p1 v x4)), (0, .ref (ga G r)), (1, .int p1)]) hx hb dX10_fewestBlocks_26 rfl hl (by decide) rfl (fun ls hl => ?_)
    refine lv_iload_n hx hb dX10_fewestBlocks_27 rfl (lv_at hl 0 rfl) ?_
    refine lv_if_ne (tgt := 42) hx hb dX10_fewestBlocks_28 (by decide) (fun c6 => ?_) (fun c6 => ?_)
    · skip
      refine lv_iload_n hx hb dX10_fewestBlocks_42 rfl (lv_at hl 0 rfl) ?_
      replace ex4 := Eq.symm ex4
      subst ex4
      exact E _ _ _ _ _ _ _ _ _ dX10_fewestBlocks_43 rfl (Eq.symm (t31 ((fX10_fewestBlocks.eq_1 _ _ _ _).trans ((if_pos c1).trans ((if_neg c6).trans rfl))))) (t32 ((fX10_fewestBlocks.eq_1 _ _ _ _).trans ((if_pos c1).trans ((if_neg c6).trans rfl)))) rfl (hp_x (Eq.symm (t33 ((fX10_fewestBlocks.eq_1 _ _ _ _).trans ((if_pos c1).trans ((if_neg c6).trans rfl))))) hH) hS (Nat.le_of_ble_eq_true rfl) (Nat.le_of_ble_eq_true rfl)
    · skip
      replace ex4 := Eq.symm ex4
      subst ex4
      exact EW _ _ _ _ _ _ _ _ _ _ _ _ _ _ (th_3 X) (by decide) (t31 ((fX10_fewestBlocks.eq_1 _ _ _ _).trans ((if_pos c1).trans ((if_pos c6).trans rfl)))) rfl (hp_x (Eq.symm (t33 ((fX10_fewestBlocks.eq_1 _ _ _ _).trans ((if_pos c1).trans ((if_pos c6).trans rfl))))) hH) hS t_sr_VernierDrawers_261 hl.1 dX10_fewestBlocks_31 dX10_fewestBlocks_34 dX10_fewestBlocks_35 dX10_fewestBlocks_38 dX10_fewestBlocks_41 (Nat.le_of_ble_eq_true rfl) (Nat.le_of_ble_eq_true rfl) (Nat.le_of_ble_eq_true rfl)
theorem k_X10_fewestBlocks {p : Program} {l : Launch} {e : Env} {R : Room} {s : State} {m : MethodId} {args : Array Value} {below : List Frame} {meth : Method} {c : Code} {H : Heap} {locs : List Loc} {cells slots : Nat} {Q : State → Prop} {cc : ByteArray} {pc nL : Nat} {ls : Array Slot} {rest : List Value} {G : gG} {own : String} {da : Nat → Nat} {v : vSt} {x : gX} (hst : l.stackTraces = false) (X : CX G p s m args c cc nL own) (hS : va_S (gA G) s.heap H locs) (hH : Hp G da v x H) {r : Nat} (hk_r : kd r = 10) {p1 : Int32} (ho : oX10_fewestBlocks r p1 v x) {idx : Nat} (hml : Cond.methodLink own idx yX10_fewestBlocks ∈ TT) (hls : ls.size = nL) (hsum : (rest.map fun v => v.category).sum ≤ 8) (hR : rmX10_fewestBlocks.frames + 1 ≤ R.frames ∧ 8 + (3 + 11) + rmX10_fewestBlocks.locals ≤ R.locals) (hcs : cells + 18 ≤ R.cells ∧ slots + 18 ≤ R.slots) (hdg : decode cc pc = .ok (.invokevirtual idx, 3)) (kx : ¬ (fX10_fewestBlocks r p1 v x).1 = 0 → ∀ (d : Nat → Nat) (ce : Cell) (q9 : Addr) (H1 : Heap) (locs1 : List Loc) (x1 : gX), x1 = (fX10_fewestBlocks r p1 v x).2.2 → Hp G d v x1 H1 → va_S (gA G) s.heap H1 locs1 → H1[q9]? = some ce → ce.vm = .none → s.vm.findClass (exN (fX10_fewestBlocks r p1 v x).1) = some ce.cls → vx_W p l e R s m args below meth c H1 locs1 (cells + 18) (slots + 18) Q (F0 m pc ls rest) q9) (kk : (fX10_fewestBlocks r p1 v x).1 = 0 → ∀ (d : Nat → Nat) (H1 : Heap) (locs1 : List Loc) (x1 : gX), x1 = (fX10_fewestBlocks r p1 v x).2.2 → Hp G d v x1 H1 → va_S (gA G) s.heap H1 locs1 → W p l e R s m args below meth c H1 locs1 (cells + 18) (slots + 18) Q (F0 m (pc + 3) ls (.int (fX10_fewestBlocks r p1 v x).2.1 :: rest))) : W p l e R s m args below meth c H locs cells slots Q (F0 m pc ls (.int p1 :: .ref (ga G r) :: rest)) := c_ti (runxV (kp := 1) X.1 X.2.1 X.2.2.1 X.2.2.2.1 X.2.2.2.2.1 (mX10_fewestBlocks l hst G da v x r hk_r p1 ho) pW_bl hml t_im_X10_fewestBlocks t_sel_X10_fewestBlocks t_ini_VernierDrawers t_code_X10_fewestBlocks ⟨rfl, by decide, by decide, by decide +kernel⟩ rfl rfl hR hcs (recvW X hH (by rw [hk_r]; decide) (by rw [hk_r]; decide) (ce_10 hk_r) rfl) (preW X hS hH) rfl hls rfl hsum hdg) hS (fun h9 d9 ce9 q9 H9 L9 v9 e9 hH9 => kx h9 d9 ce9 q9 H9 L9 _ rfl (by subst e9; exact hH9)) (fun h9 d9 H9 L9 v9 e9 hH9 => kk h9 d9 H9 L9 _ rfl (by subst e9; exact hH9))
def fX10_stackable (r : Nat) (v : vSt) (x : gX) : Int32 × gX := let x3 : gX := fX6_fill 453 ((rN (v r 0)) + 1) v x; (fX6_countLengths 453 v x3, x3)
def oX10_stackable (r : Nat) (v : vSt) (x : gX) : Prop := (kd (rN (v r 0)) = 7) ∧ ((oX6_fill 453 ((rN (v r 0)) + 1) v x) ∧ (∀ x3 : gX, x3 = (fX6_fill 453 ((rN (v r 0)) + 1) v x) → (oX6_countLengths 453 v x3)))
abbrev rmX10_stackable : Room := { frames := 2, cells := 0, slots := 0, locals := 50 }
theorem dX10_stackable_0 : decode cX10_stackable 0 = .ok (.aload_n 0, 1) := by decide +kernel
theorem dX10_stackable_1 : decode cX10_stackable 1 = .ok (.getfield 37, 3) := by decide +kernel
theorem dX10_stackable_4 : decode cX10_stackable 4 = .ok (.aload_n 0, 1) := by decide +kernel
theorem dX10_stackable_5 : decode cX10_stackable 5 = .ok (.getfield 10, 3) := by decide +kernel
theorem dX10_stackable_8 : decode cX10_stackable 8 = .ok (.getfield 41, 3) := by decide +kernel
theorem dX10_stackable_11 : decode cX10_stackable 11 = .ok (.invokevirtual 252, 3) := by decide +kernel
theorem dX10_stackable_14 : decode cX10_stackable 14 = .ok (.aload_n 0, 1) := by decide +kernel
theorem dX10_stackable_15 : decode cX10_stackable 15 = .ok (.getfield 37, 3) := by decide +kernel
theorem dX10_stackable_18 : decode cX10_stackable 18 = .ok (.invokevirtual 275, 3) := by decide +kernel
theorem dX10_stackable_21 : decode cX10_stackable 21 = .ok (.ireturn, 1) := by decide +kernel
set_option maxHeartbeats 8000000 in
set_option maxRecDepth 100000 in
theorem mX10_stackable (l : Launch) (G : gG) (da : Nat → Nat) (v : vSt) (x : gX) (r : Nat) (hk_r : kd r = 10) (ho : oX10_stackable r v x) : MI l yX10_stackable cX10_stackable 1 (some .int) rmX10_stackable [.ref (ga G r)] G da v x 0 0 (fX10_stackable r v x).1 v (fX10_stackable r v x).2 := by
  refine gofMI (own := RX10) (by decide) rfl (Nat.le_of_ble_eq_true rfl) (fun p e s m args below meth c ls Q X hH hl E => ?_)
  have hx := X.1
  have hb := X.2.1
  have hown := X.2.2.2.1
  have hts := X.2.2.2.2.1
  have hS : va_S (gA G) s.heap s.heap [] := va_S.rf
  unfold oX10_stackable at ho
  have hl : lv_has ls 1 [(0, .ref (ga G r))] := hl
  refine lv_aload_n hx hb dX10_stackable_0 rfl (lv_at hl 0 rfl) ?_
  refine g_VernierDrawers_37 X hH hk_r dX10_stackable_1 ?_
  refine lv_aload_n hx hb dX10_stackable_4 rfl (lv_at hl 0 rfl) ?_
  refine g_VernierDrawers_10 X hH hk_r dX10_stackable_5 ?_
  have hq1 := ho.1
  have ho := ho.2
  refine g_VernierDrawers_41 X hH hq1 dX10_stackable_8 ?_
  have hq2 := ho.1
  have ho := ho.2
  refine k_X6_fill X hS hH kd_453 (kc_7_2 hq1) hq2 t_ml_VernierDrawers_252 hl.1 (Nat.le_of_ble_eq_true rfl) ⟨Nat.le_of_ble_eq_true rfl, Nat.le_of_ble_eq_true rfl⟩ ⟨Nat.zero_le _, Nat.zero_le _⟩ dX10_stackable_11 (fun da H locs x3 ex3 hH hS => ?_)
  have ho := ho x3 ex3
  refine lv_aload_n hx hb dX10_stackable_14 rfl (lv_at hl 0 rfl) ?_
  refine g_VernierDrawers_37 X hH hk_r dX10_stackable_15 ?_
  have hq4 := ho
  refine k_X6_countLengths X hS hH kd_453 hq4 t_ml_VernierDrawers_275 hl.1 (Nat.le_of_ble_eq_true rfl) ⟨Nat.le_of_ble_eq_true rfl, Nat.le_of_ble_eq_true rfl⟩ ⟨Nat.zero_le _, Nat.zero_le _⟩ dX10_stackable_18 ?_
  replace ex3 := Eq.symm ex3
  subst ex3
  exact E _ _ _ _ _ _ _ _ _ dX10_stackable_21 rfl (pr1 rfl) rfl (hp_x (Eq.symm (pr2 rfl)) hH) hS (Nat.zero_le _) (Nat.zero_le _)
theorem k_X10_stackable {p : Program} {l : Launch} {e : Env} {R : Room} {s : State} {m : MethodId} {args : Array Value} {below : List Frame} {meth : Method} {c : Code} {H : Heap} {locs : List Loc} {cells slots : Nat} {Q : State → Prop} {cc : ByteArray} {pc nL : Nat} {ls : Array Slot} {rest : List Value} {G : gG} {own : String} {da : Nat → Nat} {v : vSt} {x : gX} (X : CX G p s m args c cc nL own) (hS : va_S (gA G) s.heap H locs) (hH : Hp G da v x H) {r : Nat} (hk_r : kd r = 10) (ho : oX10_stackable r v x) {idx : Nat} (hml : Cond.methodLink own idx yX10_stackable ∈ TT) (hls : ls.size = nL) (hsum : (rest.map fun v => v.category).sum ≤ 8) (hR : rmX10_stackable.frames + 1 ≤ R.frames ∧ 8 + (1 + 11) + rmX10_stackable.locals ≤ R.locals) (hcs : cells ≤ R.cells ∧ slots ≤ R.slots) (hdg : decode cc pc = .ok (.invokevirtual idx, 3)) (kk : ∀ (d : Nat → Nat) (H1 : Heap) (locs1 : List Loc) (x1 : gX), x1 = (fX10_stackable r v x).2 → Hp G d v x1 H1 → va_S (gA G) s.heap H1 locs1 → W p l e R s m args below meth c H1 locs1 cells slots Q (F0 m (pc + 3) ls (.int (fX10_stackable r v x).1 :: rest))) : W p l e R s m args below meth c H locs cells slots Q (F0 m pc ls (.ref (ga G r) :: rest)) := c_mi X.2.2.2.2.2.2 (runV (k := 0) X.1 X.2.1 X.2.2.1 X.2.2.2.1 X.2.2.2.2.1 (mX10_stackable l G da v x r hk_r ho) pW_bl hml t_im_X10_stackable t_sel_X10_stackable t_ini_VernierDrawers t_code_X10_stackable ⟨rfl, by decide, by decide, by decide +kernel⟩ rfl rfl hR hcs (recvW X hH (by rw [hk_r]; decide) (by rw [hk_r]; decide) (ce_10 hk_r) rfl) (preW X hS hH) rfl hls rfl hsum hdg) hS (fun d9 H9 L9 v9 e9 hH9 => kk d9 H9 L9 _ rfl (by subst e9; exact hH9))
