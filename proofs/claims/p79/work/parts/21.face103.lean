/-! 21.face1 -/
def fX10_type (r : Nat) (p1 : Int32) (v : vSt) : Nat × Int32 × vSt := if ((fX10_inRange p1 32 126) : Int32) = 0 then ((1, 0, v)) else (if ((v r 6) : Int32) < 60 then (let v5 : vSt := u2 v 450 (v r 6 : Int32).toNatClampNeg (((p1 : Int32).toUInt32 % 65536).toInt32); let v6 : vSt := u2 v5 r 6 ((v5 r 6) + 1); (0, v6 r 6, v6)) else ((2, 0, v)))

def kkX10_type (r : Nat) (p1 : Int32) (v : vSt) : Nat := pot ((fX10_type r p1 v).2.2) - pot v + 36
def oX10_type (r : Nat) (p1 : Int32) (v : vSt) : Prop := ((((fX10_inRange p1 32 126) : Int32) = 0) → (0 + 6 ≤ kkX10_type r p1 v)) ∧ (¬ (((fX10_inRange p1 32 126) : Int32) = 0) → (((((v r 6) : Int32) < 60) → ((vp_in (v r 6) 60) ∧ (0 ≤ (((p1 : Int32).toUInt32 % 65536).toInt32 : Int32).toInt ∧ (((p1 : Int32).toUInt32 % 65536).toInt32 : Int32).toInt < 65536))) ∧ (¬ (((v r 6) : Int32) < 60) → (0 + 6 ≤ kkX10_type r p1 v))))
abbrev rmX10_type (r : Nat) (p1 : Int32) (v : vSt) : Room := { frames := 6, cells := kkX10_type r p1 v, slots := kkX10_type r p1 v, locals := 90 }
theorem dX10_type_0 : decode cX10_type 0 = .ok (.iload_n 1, 1) := by decide +kernel
theorem dX10_type_1 : decode cX10_type 1 = .ok (.bipush 32, 2) := by decide +kernel
theorem dX10_type_3 : decode cX10_type 3 = .ok (.bipush 126, 2) := by decide +kernel
theorem dX10_type_5 : decode cX10_type 5 = .ok (.invokestatic 49, 3) := by decide +kernel
theorem dX10_type_8 : decode cX10_type 8 = .ok (.ifCond .ne 14, 3) := by decide +kernel
theorem dX10_type_11 : decode cX10_type 11 = .ok (.new 53, 3) := by decide +kernel
theorem dX10_type_14 : decode cX10_type 14 = .ok (.dup, 1) := by decide +kernel
theorem dX10_type_15 : decode cX10_type 15 = .ok (.ldc_w 406, 3) := by decide +kernel
theorem dX10_type_18 : decode cX10_type 18 = .ok (.invokespecial 57, 3) := by decide +kernel
theorem dX10_type_21 : decode cX10_type 21 = .ok (.athrow, 1) := by decide +kernel
theorem dX10_type_22 : decode cX10_type 22 = .ok (.aload_n 0, 1) := by decide +kernel
theorem dX10_type_23 : decode cX10_type 23 = .ok (.getfield 408, 3) := by decide +kernel
theorem dX10_type_26 : decode cX10_type 26 = .ok (.aload_n 0, 1) := by decide +kernel
theorem dX10_type_27 : decode cX10_type 27 = .ok (.getfield 23, 3) := by decide +kernel
theorem dX10_type_30 : decode cX10_type 30 = .ok (.arraylength, 1) := by decide +kernel
theorem dX10_type_31 : decode cX10_type 31 = .ok (.if_icmp .lt 14, 3) := by decide +kernel
theorem dX10_type_34 : decode cX10_type 34 = .ok (.new 66, 3) := by decide +kernel
theorem dX10_type_37 : decode cX10_type 37 = .ok (.dup, 1) := by decide +kernel
theorem dX10_type_38 : decode cX10_type 38 = .ok (.ldc_w 411, 3) := by decide +kernel
theorem dX10_type_41 : decode cX10_type 41 = .ok (.invokespecial 70, 3) := by decide +kernel
theorem dX10_type_44 : decode cX10_type 44 = .ok (.athrow, 1) := by decide +kernel
theorem dX10_type_45 : decode cX10_type 45 = .ok (.aload_n 0, 1) := by decide +kernel
theorem dX10_type_46 : decode cX10_type 46 = .ok (.getfield 23, 3) := by decide +kernel
theorem dX10_type_49 : decode cX10_type 49 = .ok (.aload_n 0, 1) := by decide +kernel
theorem dX10_type_50 : decode cX10_type 50 = .ok (.getfield 408, 3) := by decide +kernel
theorem dX10_type_53 : decode cX10_type 53 = .ok (.iload_n 1, 1) := by decide +kernel
theorem dX10_type_54 : decode cX10_type 54 = .ok (.i2c, 1) := by decide +kernel
theorem dX10_type_55 : decode cX10_type 55 = .ok (.castore, 1) := by decide +kernel
theorem dX10_type_56 : decode cX10_type 56 = .ok (.aload_n 0, 1) := by decide +kernel
theorem dX10_type_57 : decode cX10_type 57 = .ok (.dup, 1) := by decide +kernel
theorem dX10_type_58 : decode cX10_type 58 = .ok (.getfield 408, 3) := by decide +kernel
theorem dX10_type_61 : decode cX10_type 61 = .ok (.iconst 1, 1) := by decide +kernel
theorem dX10_type_62 : decode cX10_type 62 = .ok (.iadd, 1) := by decide +kernel
theorem dX10_type_63 : decode cX10_type 63 = .ok (.putfield 408, 3) := by decide +kernel
theorem dX10_type_66 : decode cX10_type 66 = .ok (.aload_n 0, 1) := by decide +kernel
theorem dX10_type_67 : decode cX10_type 67 = .ok (.getfield 408, 3) := by decide +kernel
theorem dX10_type_70 : decode cX10_type 70 = .ok (.ireturn, 1) := by decide +kernel
set_option maxHeartbeats 8000000 in
set_option maxRecDepth 100000 in
theorem mX10_type (l : Launch) (hst : l.stackTraces = false) (G : gG) (da : Nat → Nat) (v : vSt) (x : gX) (r : Nat) (hk_r : kd r = 10) (p1 : Int32) (ho : oX10_type r p1 v) : TI l yX10_type cX10_type 2 (some .int) (rmX10_type r p1 v) [.ref (ga G r), .int p1] G da v x (kkX10_type r p1 v) (kkX10_type r p1 v) (fX10_type r p1 v).1 (fX10_type r p1 v).2.1 (fX10_type r p1 v).2.2 x := by
  refine gofTI hst (by decide) rfl (Nat.le_of_ble_eq_true rfl) ⟨Nat.le_of_ble_eq_true rfl, Nat.le_of_ble_eq_true rfl, Nat.le_refl _, Nat.le_refl _⟩ (fun p e s m args below meth c ls Q X hH hl E EX ES EW => ?_)
  have hx := X.1
  have hb := X.2.1
  have hown := X.2.2.2.1
  have hts := X.2.2.2.2.1
  have hS : va_S (gA G) s.heap s.heap [] := va_S.rf
  unfold oX10_type at ho
  have hl : lv_has ls 2 [(0, .ref (ga G r)), (1, .int p1)] := hl
  refine lv_iload_n hx hb dX10_type_0 rfl (lv_at hl 1 rfl) ?_
  refine lv_bipush (v := 32) hx hb dX10_type_1 (by decide) ?_
  refine lv_bipush (v := 126) hx hb dX10_type_3 (by decide) ?_
  refine k_X10_inRange X hS  t_ml_VernierDrawers_49 hl.1 (Nat.le_of_ble_eq_true rfl) ⟨Nat.le_of_ble_eq_true rfl, Nat.le_of_ble_eq_true rfl⟩ ⟨Nat.zero_le _, Nat.zero_le _⟩ dX10_type_5 ?_
  refine lv_if_ne (tgt := 22) hx hb dX10_type_8 (by decide) (fun c1 => ?_) (fun c1 => ?_)
  · have ho := ho.2 c1
    refine lv_aload_n hx hb dX10_type_22 rfl (lv_at hl 0 rfl) ?_
    refine g_VernierDrawers_408 X hH hk_r dX10_type_23 ?_
    refine lv_aload_n hx hb dX10_type_26 rfl (lv_at hl 0 rfl) ?_
    refine g_VernierDrawers_23 X hH hk_r dX10_type_27 ?_
    refine len_27 X hH kd_450 dX10_type_30 ?_
    refine lv_icmp_lt (tgt := 45) hx hb dX10_type_31 (by decide) (fun c2 => ?_) (fun c2 => ?_)
    · have ho := ho.1 c2
      refine lv_aload_n hx hb dX10_type_45 rfl (lv_at hl 0 rfl) ?_
      refine g_VernierDrawers_23 X hH hk_r dX10_type_46 ?_
      refine lv_aload_n hx hb dX10_type_49 rfl (lv_at hl 0 rfl) ?_
      refine g_VernierDrawers_408 X hH hk_r dX10_type_50 ?_
      refine lv_iload_n hx hb dX10_type_53 rfl (lv_at hl 1 rfl) ?_
      refine lv_i2c (v := ((p1 : Int32).toUInt32 % 65536).toInt32) hx hb dX10_type_54 rfl ?_
      have hq3 := ho.1
      have ho := ho.2
      have hq4 := ho
      refine cast_27 X hH hS kd_450 hq3 hq4 dX10_type_55 (fun H locs v5 ev5 hH hS => ?_)
      refine lv_aload_n hx hb dX10_type_56 rfl (lv_at hl 0 rfl) ?_
      refine lv_dup hx hb dX10_type_57 rfl ?_
      refine g_VernierDrawers_408 X hH hk_r dX10_type_58 ?_
      refine lv_iconst (v := 1) hx hb dX10_type_61 (by decide) ?_
      refine lv_iadd hx hb dX10_type_62 ?_
      refine p_VernierDrawers_408 X hH hS hk_r dX10_type_63 (fun H locs v6 ev6 hH hS => ?_)
      refine lv_aload_n hx hb dX10_type_66 rfl (lv_at hl 0 rfl) ?_
      refine g_VernierDrawers_408 X hH hk_r dX10_type_67 ?_
      replace ev5 := Eq.symm ev5
      replace ev6 := Eq.symm ev6
      subst ev5 ev6
      exact E _ _ _ _ _ _ _ _ _ dX10_type_70 rfl (Eq.symm (t31 ((fX10_type.eq_1 _ _ _).trans ((if_neg c1).trans ((if_pos c2).trans rfl))))) (t32 ((fX10_type.eq_1 _ _ _).trans ((if_neg c1).trans ((if_pos c2).trans rfl)))) (t33 ((fX10_type.eq_1 _ _ _).trans ((if_neg c1).trans ((if_pos c2).trans rfl)))) hH hS (Nat.zero_le _) (Nat.zero_le _)
    · have ho := ho.2 c2
      have hq7 := ho
      exact EW _ _ _ _ _ _ _ _ _ _ _ _ _ _ (th_2 X) (by decide) (t31 ((fX10_type.eq_1 _ _ _).trans ((if_neg c1).trans ((if_neg c2).trans rfl)))) (t33 ((fX10_type.eq_1 _ _ _).trans ((if_neg c1).trans ((if_neg c2).trans rfl)))) hH hS t_sr_VernierDrawers_411 hl.1 dX10_type_34 dX10_type_37 dX10_type_38 dX10_type_41 dX10_type_44 (Nat.le_of_ble_eq_true rfl) (c16 hq7) hq7
  · have ho := ho.1 c1
    have hq8 := ho
    exact EW _ _ _ _ _ _ _ _ _ _ _ _ _ _ (th_1 X) (by decide) (t31 ((fX10_type.eq_1 _ _ _).trans ((if_pos c1).trans rfl))) (t33 ((fX10_type.eq_1 _ _ _).trans ((if_pos c1).trans rfl))) hH hS t_sr_VernierDrawers_406 hl.1 dX10_type_11 dX10_type_14 dX10_type_15 dX10_type_18 dX10_type_21 (Nat.le_of_ble_eq_true rfl) (c16 hq8) hq8
theorem k_X10_type {p : Program} {l : Launch} {e : Env} {R : Room} {s : State} {m : MethodId} {args : Array Value} {below : List Frame} {meth : Method} {c : Code} {H : Heap} {locs : List Loc} {cells slots : Nat} {Q : State → Prop} {cc : ByteArray} {pc nL : Nat} {ls : Array Slot} {rest : List Value} {G : gG} {own : String} {da : Nat → Nat} {v : vSt} {x : gX} (hst : l.stackTraces = false) (X : CX G p s m args c cc nL own) (hS : va_S (gA G) s.heap H locs) (hH : Hp G da v x H) {r : Nat} (hk_r : kd r = 10) {p1 : Int32} (ho : oX10_type r p1 v) {idx : Nat} (hml : Cond.methodLink own idx yX10_type ∈ TT) (hls : ls.size = nL) (hsum : (rest.map fun v => v.category).sum ≤ 8) (hR : (rmX10_type r p1 v).frames + 1 ≤ R.frames ∧ 8 + (2 + 11) + (rmX10_type r p1 v).locals ≤ R.locals) (hcs : cells + (kkX10_type r p1 v) ≤ R.cells ∧ slots + (kkX10_type r p1 v) ≤ R.slots) (hdg : decode cc pc = .ok (.invokevirtual idx, 3)) (kx : ¬ (fX10_type r p1 v).1 = 0 → ∀ (d : Nat → Nat) (ce : Cell) (q9 : Addr) (H1 : Heap) (locs1 : List Loc) (v1 : vSt), v1 = (fX10_type r p1 v).2.2 → Hp G d v1 x H1 → va_S (gA G) s.heap H1 locs1 → H1[q9]? = some ce → ce.vm = .none → s.vm.findClass (exN (fX10_type r p1 v).1) = some ce.cls → vx_W p l e R s m args below meth c H1 locs1 (cells + (kkX10_type r p1 v)) (slots + (kkX10_type r p1 v)) Q (F0 m pc ls rest) q9) (kk : (fX10_type r p1 v).1 = 0 → ∀ (d : Nat → Nat) (H1 : Heap) (locs1 : List Loc) (v1 : vSt), v1 = (fX10_type r p1 v).2.2 → Hp G d v1 x H1 → va_S (gA G) s.heap H1 locs1 → W p l e R s m args below meth c H1 locs1 (cells + (kkX10_type r p1 v)) (slots + (kkX10_type r p1 v)) Q (F0 m (pc + 3) ls (.int (fX10_type r p1 v).2.1 :: rest))) : W p l e R s m args below meth c H locs cells slots Q (F0 m pc ls (.int p1 :: .ref (ga G r) :: rest)) := c_ti (runxV (kp := 1) X.1 X.2.1 X.2.2.1 X.2.2.2.1 X.2.2.2.2.1 (mX10_type l hst G da v x r hk_r p1 ho) pW_bl hml t_im_X10_type t_sel_X10_type t_ini_VernierDrawers t_code_X10_type ⟨rfl, by decide, by decide, by decide +kernel⟩ rfl rfl hR hcs (recvW X hH (by rw [hk_r]; decide) (by rw [hk_r]; decide) (ce_10 hk_r) rfl) (preW X hS hH) rfl hls rfl hsum hdg) hS kx kk
def fX10_clearText (r : Nat) (v : vSt) : Int32 × vSt := let v1 : vSt := u2 v r 6 0; (v r 6, v1)
abbrev rmX10_clearText : Room := { frames := 0, cells := 0, slots := 0, locals := 0 }
theorem dX10_clearText_0 : decode cX10_clearText 0 = .ok (.aload_n 0, 1) := by decide +kernel
theorem dX10_clearText_1 : decode cX10_clearText 1 = .ok (.getfield 408, 3) := by decide +kernel
theorem dX10_clearText_4 : decode cX10_clearText 4 = .ok (.istore_n 1, 1) := by decide +kernel
theorem dX10_clearText_5 : decode cX10_clearText 5 = .ok (.aload_n 0, 1) := by decide +kernel
theorem dX10_clearText_6 : decode cX10_clearText 6 = .ok (.iconst 0, 1) := by decide +kernel
theorem dX10_clearText_7 : decode cX10_clearText 7 = .ok (.putfield 408, 3) := by decide +kernel
theorem dX10_clearText_10 : decode cX10_clearText 10 = .ok (.iload_n 1, 1) := by decide +kernel
theorem dX10_clearText_11 : decode cX10_clearText 11 = .ok (.ireturn, 1) := by decide +kernel
set_option maxHeartbeats 8000000 in
set_option maxRecDepth 100000 in
theorem mX10_clearText (l : Launch) (G : gG) (da : Nat → Nat) (v : vSt) (x : gX) (r : Nat) (hk_r : kd r = 10) : MI l yX10_clearText cX10_clearText 2 (some .int) rmX10_clearText [.ref (ga G r)] G da v x 0 0 (fX10_clearText r v).1 (fX10_clearText r v).2 x := by
  refine gofMI (own := RX10) (by decide) rfl (Nat.le_of_ble_eq_true rfl) (fun p e s m args below meth c ls Q X hH hl E => ?_)
  have hx := X.1
  have hb := X.2.1
  have hown := X.2.2.2.1
  have hts := X.2.2.2.2.1
  have hS : va_S (gA G) s.heap s.heap [] := va_S.rf
  have ho : True := trivial
  have hl : lv_has ls 2 [(0, .ref (ga G r))] := hl
  refine lv_aload_n hx hb dX10_clearText_0 rfl (lv_at hl 0 rfl) ?_
  refine g_VernierDrawers_408 X hH hk_r dX10_clearText_1 ?_
  refine lv_istore_n (lv' := [(1, .int (v r 6)), (0, .ref (ga G r))]) hx hb dX10_clearText_4 rfl hl (by decide) rfl (fun ls hl => ?_)
  refine lv_aload_n hx hb dX10_clearText_5 rfl (lv_at hl 1 rfl) ?_
  refine lv_iconst (v := 0) hx hb dX10_clearText_6 (by decide) ?_
  refine p_VernierDrawers_408 X hH hS hk_r dX10_clearText_7 (fun H locs v1 ev1 hH hS => ?_)
  refine lv_iload_n hx hb dX10_clearText_10 rfl (lv_at hl 0 rfl) ?_
  replace ev1 := Eq.symm ev1
  subst ev1
  exact E _ _ _ _ _ _ _ _ _ dX10_clearText_11 rfl (pr1 rfl) (pr2 rfl) hH hS (Nat.zero_le _) (Nat.zero_le _)
theorem k_X10_clearText {p : Program} {l : Launch} {e : Env} {R : Room} {s : State} {m : MethodId} {args : Array Value} {below : List Frame} {meth : Method} {c : Code} {H : Heap} {locs : List Loc} {cells slots : Nat} {Q : State → Prop} {cc : ByteArray} {pc nL : Nat} {ls : Array Slot} {rest : List Value} {G : gG} {own : String} {da : Nat → Nat} {v : vSt} {x : gX} (X : CX G p s m args c cc nL own) (hS : va_S (gA G) s.heap H locs) (hH : Hp G da v x H) {r : Nat} (hk_r : kd r = 10) {idx : Nat} (hml : Cond.methodLink own idx yX10_clearText ∈ TT) (hls : ls.size = nL) (hsum : (rest.map fun v => v.category).sum ≤ 8) (hR : rmX10_clearText.frames + 1 ≤ R.frames ∧ 8 + (2 + 11) + rmX10_clearText.locals ≤ R.locals) (hcs : cells ≤ R.cells ∧ slots ≤ R.slots) (hdg : decode cc pc = .ok (.invokevirtual idx, 3)) (kk : ∀ (d : Nat → Nat) (H1 : Heap) (locs1 : List Loc) (v1 : vSt), v1 = (fX10_clearText r v).2 → Hp G d v1 x H1 → va_S (gA G) s.heap H1 locs1 → W p l e R s m args below meth c H1 locs1 cells slots Q (F0 m (pc + 3) ls (.int (fX10_clearText r v).1 :: rest))) : W p l e R s m args below meth c H locs cells slots Q (F0 m pc ls (.ref (ga G r) :: rest)) := c_mi X.2.2.2.2.2.2 (runV (k := 0) X.1 X.2.1 X.2.2.1 X.2.2.2.1 X.2.2.2.2.1 (mX10_clearText l G da v x r hk_r) pW_bl hml t_im_X10_clearText t_sel_X10_clearText t_ini_VernierDrawers t_code_X10_clearText ⟨rfl, by decide, by decide, by decide +kernel⟩ rfl rfl hR hcs (recvW X hH (by rw [hk_r]; decide) (by rw [hk_r]; decide) (ce_10 hk_r) rfl) (preW X hS hH) rfl hls rfl hsum hdg) hS kk
def fX10_refuse (p1 : Int32) (v : vSt) : Nat := if (p1 : Int32) = 1 then 1 else (if (p1 : Int32) = 2 then 2 else 0)
abbrev rmX10_refuse : Room := { frames := 6, cells := 6, slots := 6, locals := 90 }
theorem dX10_refuse_0 : decode cX10_refuse 0 = .ok (.iload_n 0, 1) := by decide +kernel
theorem dX10_refuse_1 : decode cX10_refuse 1 = .ok (.iconst 1, 1) := by decide +kernel
theorem dX10_refuse_2 : decode cX10_refuse 2 = .ok (.if_icmp .ne 14, 3) := by decide +kernel
theorem dX10_refuse_5 : decode cX10_refuse 5 = .ok (.new 53, 3) := by decide +kernel
theorem dX10_refuse_8 : decode cX10_refuse 8 = .ok (.dup, 1) := by decide +kernel
theorem dX10_refuse_9 : decode cX10_refuse 9 = .ok (.ldc_w 440, 3) := by decide +kernel
theorem dX10_refuse_12 : decode cX10_refuse 12 = .ok (.invokespecial 57, 3) := by decide +kernel
theorem dX10_refuse_15 : decode cX10_refuse 15 = .ok (.athrow, 1) := by decide +kernel
theorem dX10_refuse_16 : decode cX10_refuse 16 = .ok (.iload_n 0, 1) := by decide +kernel
theorem dX10_refuse_17 : decode cX10_refuse 17 = .ok (.iconst 2, 1) := by decide +kernel
theorem dX10_refuse_18 : decode cX10_refuse 18 = .ok (.if_icmp .ne 14, 3) := by decide +kernel
theorem dX10_refuse_21 : decode cX10_refuse 21 = .ok (.new 66, 3) := by decide +kernel
theorem dX10_refuse_24 : decode cX10_refuse 24 = .ok (.dup, 1) := by decide +kernel
theorem dX10_refuse_25 : decode cX10_refuse 25 = .ok (.ldc_w 442, 3) := by decide +kernel
theorem dX10_refuse_28 : decode cX10_refuse 28 = .ok (.invokespecial 70, 3) := by decide +kernel
theorem dX10_refuse_31 : decode cX10_refuse 31 = .ok (.athrow, 1) := by decide +kernel
theorem dX10_refuse_32 : decode cX10_refuse 32 = .ok (.return_, 1) := by decide +kernel
set_option maxHeartbeats 8000000 in
set_option maxRecDepth 100000 in
theorem mX10_refuse (l : Launch) (hst : l.stackTraces = false) (G : gG) (da : Nat → Nat) (v : vSt) (x : gX) (p1 : Int32) : TV l yX10_refuse cX10_refuse 1 none rmX10_refuse [.int p1] G da v x 6 6 (fX10_refuse p1 v) v x := by
  refine gofTV hst (by decide) rfl (Nat.le_of_ble_eq_true rfl) ⟨Nat.le_of_ble_eq_true rfl, Nat.le_of_ble_eq_true rfl, Nat.le_refl _, Nat.le_refl _⟩ (fun p e s m args below meth c ls Q X hH hl E EX ES EW => ?_)
  have hx := X.1
  have hb := X.2.1
  have hown := X.2.2.2.1
  have hts := X.2.2.2.2.1
  have hS : va_S (gA G) s.heap s.heap [] := va_S.rf
  have ho : True := trivial
  have hl : lv_has ls 1 [(0, .int p1)] := hl
  refine lv_iload_n hx hb dX10_refuse_0 rfl (lv_at hl 0 rfl) ?_
  refine lv_iconst (v := 1) hx hb dX10_refuse_1 (by decide) ?_
  refine lv_icmp_ne (tgt := 16) hx hb dX10_refuse_2 (by decide) (fun c1 => ?_) (fun c1 => ?_)
  · skip
    refine lv_iload_n hx hb dX10_refuse_16 rfl (lv_at hl 0 rfl) ?_
    refine lv_iconst (v := 2) hx hb dX10_refuse_17 (by decide) ?_
    refine lv_icmp_ne (tgt := 32) hx hb dX10_refuse_18 (by decide) (fun c2 => ?_) (fun c2 => ?_)
    · skip
      exact E _ _ _ _ _ _ _ _ dX10_refuse_32 (Eq.symm (Eq.symm ((fX10_refuse.eq_1 _ _).trans ((if_neg c1).trans ((if_neg c2).trans rfl))))) rfl hH hS (Nat.zero_le _) (Nat.zero_le _)
    · skip
      exact EW _ _ _ _ _ _ _ _ _ _ _ _ _ _ (th_2 X) (by decide) (Eq.symm ((fX10_refuse.eq_1 _ _).trans ((if_neg c1).trans ((if_pos c2).trans rfl)))) rfl hH hS t_sr_VernierDrawers_442 hl.1 dX10_refuse_21 dX10_refuse_24 dX10_refuse_25 dX10_refuse_28 dX10_refuse_31 (Nat.le_of_ble_eq_true rfl) (Nat.le_of_ble_eq_true rfl) (Nat.le_of_ble_eq_true rfl)
  · skip
    exact EW _ _ _ _ _ _ _ _ _ _ _ _ _ _ (th_1 X) (by decide) (Eq.symm ((fX10_refuse.eq_1 _ _).trans ((if_pos c1).trans rfl))) rfl hH hS t_sr_VernierDrawers_440 hl.1 dX10_refuse_5 dX10_refuse_8 dX10_refuse_9 dX10_refuse_12 dX10_refuse_15 (Nat.le_of_ble_eq_true rfl) (Nat.le_of_ble_eq_true rfl) (Nat.le_of_ble_eq_true rfl)
theorem k_X10_refuse {p : Program} {l : Launch} {e : Env} {R : Room} {s : State} {m : MethodId} {args : Array Value} {below : List Frame} {meth : Method} {c : Code} {H : Heap} {locs : List Loc} {cells slots : Nat} {Q : State → Prop} {cc : ByteArray} {pc nL : Nat} {ls : Array Slot} {rest : List Value} {G : gG} {own : String} {da : Nat → Nat} {v : vSt} {x : gX} (hst : l.stackTraces = false) (X : CX G p s m args c cc nL own) (hS : va_S (gA G) s.heap H locs) (hH : Hp G da v x H) {p1 : Int32} {idx : Nat} (hml : Cond.methodLink own idx yX10_refuse ∈ TT) (hls : ls.size = nL) (hsum : (rest.map fun v => v.category).sum ≤ 8) (hR : rmX10_refuse.frames + 1 ≤ R.frames ∧ 8 + (1 + 11) + rmX10_refuse.locals ≤ R.locals) (hcs : cells + 6 ≤ R.cells ∧ slots + 6 ≤ R.slots) (hdg : decode cc pc = .ok (.invokestatic idx, 3)) (kx : ¬ (fX10_refuse p1 v) = 0 → ∀ (d : Nat → Nat) (ce : Cell) (q9 : Addr) (H1 : Heap) (locs1 : List Loc), Hp G d v x H1 → va_S (gA G) s.heap H1 locs1 → H1[q9]? = some ce → ce.vm = .none → s.vm.findClass (exN (fX10_refuse p1 v)) = some ce.cls → vx_W p l e R s m args below meth c H1 locs1 (cells + 6) (slots + 6) Q (F0 m pc ls rest) q9) (kk : (fX10_refuse p1 v) = 0 → ∀ (d : Nat → Nat) (H1 : Heap) (locs1 : List Loc), Hp G d v x H1 → va_S (gA G) s.heap H1 locs1 → W p l e R s m args below meth c H1 locs1 (cells + 6) (slots + 6) Q (F0 m (pc + 3) ls (rest))) : W p l e R s m args below meth c H locs cells slots Q (F0 m pc ls (.int p1 :: rest)) := c_tv (runxS (kp := 1) X.1 X.2.1 X.2.2.1 X.2.2.2.1 X.2.2.2.2.1 (mX10_refuse l hst G da v x p1) pW_bl hml t_st_X10_refuse t_ini_VernierDrawers t_code_X10_refuse ⟨by decide, by decide, by decide +kernel⟩ rfl rfl hR hcs (preW X hS hH) rfl hls rfl hsum hdg) hS (fun h9 d9 ce9 q9 H9 L9 v9 e9 hH9 => kx h9 d9 ce9 q9 H9 L9 (by subst e9; exact hH9)) (fun h9 d9 H9 L9 v9 e9 hH9 => kk h9 d9 H9 L9 (by subst e9; exact hH9))
def fX10_needTool (r : Nat) (p1 : Int32) (v : vSt) : Nat × Nat := if ((fX2_hasTool ((rN (v r 0)) + 1) p1 v) : Int32) = 0 then ((1, 0)) else ((0, (((rN (v r 0)) + 1) + 2) + 13 + (p1 : Int32).toNatClampNeg))
def oX10_needTool (r : Nat) (p1 : Int32) (v : vSt) : Prop := (kd (rN (v r 0)) = 7) ∧ (¬ (((fX2_hasTool ((rN (v r 0)) + 1) p1 v) : Int32) = 0) → (vp_in (p1) 6))
abbrev rmX10_needTool : Room := { frames := 6, cells := 6, slots := 6, locals := 90 }
theorem dX10_needTool_0 : decode cX10_needTool 0 = .ok (.aload_n 0, 1) := by decide +kernel
theorem dX10_needTool_1 : decode cX10_needTool 1 = .ok (.getfield 10, 3) := by decide +kernel
theorem dX10_needTool_4 : decode cX10_needTool 4 = .ok (.getfield 41, 3) := by decide +kernel
theorem dX10_needTool_7 : decode cX10_needTool 7 = .ok (.iload_n 1, 1) := by decide +kernel
theorem dX10_needTool_8 : decode cX10_needTool 8 = .ok (.invokevirtual 444, 3) := by decide +kernel
theorem dX10_needTool_11 : decode cX10_needTool 11 = .ok (.ifCond .ne 14, 3) := by decide +kernel
theorem dX10_needTool_14 : decode cX10_needTool 14 = .ok (.new 53, 3) := by decide +kernel
theorem dX10_needTool_17 : decode cX10_needTool 17 = .ok (.dup, 1) := by decide +kernel
theorem dX10_needTool_18 : decode cX10_needTool 18 = .ok (.ldc_w 447, 3) := by decide +kernel
theorem dX10_needTool_21 : decode cX10_needTool 21 = .ok (.invokespecial 57, 3) := by decide +kernel
theorem dX10_needTool_24 : decode cX10_needTool 24 = .ok (.athrow, 1) := by decide +kernel
theorem dX10_needTool_25 : decode cX10_needTool 25 = .ok (.aload_n 0, 1) := by decide +kernel
theorem dX10_needTool_26 : decode cX10_needTool 26 = .ok (.getfield 10, 3) := by decide +kernel
theorem dX10_needTool_29 : decode cX10_needTool 29 = .ok (.getfield 41, 3) := by decide +kernel
theorem dX10_needTool_32 : decode cX10_needTool 32 = .ok (.getfield 449, 3) := by decide +kernel
theorem dX10_needTool_35 : decode cX10_needTool 35 = .ok (.iload_n 1, 1) := by decide +kernel
theorem dX10_needTool_36 : decode cX10_needTool 36 = .ok (.aaload, 1) := by decide +kernel
theorem dX10_needTool_37 : decode cX10_needTool 37 = .ok (.areturn, 1) := by decide +kernel
set_option maxHeartbeats 8000000 in
set_option maxRecDepth 100000 in
theorem mX10_needTool (l : Launch) (hst : l.stackTraces = false) (G : gG) (da : Nat → Nat) (v : vSt) (x : gX) (r : Nat) (hk_r : kd r = 10) (p1 : Int32) (ho : oX10_needTool r p1 v) : TR l yX10_needTool cX10_needTool 2 (some (.object "VernierDrawers$Tool")) rmX10_needTool [.ref (ga G r), .int p1] G da v x 6 6 (fX10_needTool r p1 v).1 (fX10_needTool r p1 v).2 v x := by
  refine gofTR hst (by decide) rfl (Nat.le_of_ble_eq_true rfl) ⟨Nat.le_of_ble_eq_true rfl, Nat.le_of_ble_eq_true rfl, Nat.le_refl _, Nat.le_refl _⟩ (fun p e s m args below meth c ls Q X hH hl E EX ES EW => ?_)
  have hx := X.1
  have hb := X.2.1
  have hown := X.2.2.2.1
  have hts := X.2.2.2.2.1
  have hS : va_S (gA G) s.heap s.heap [] := va_S.rf
  unfold oX10_needTool at ho
  have hl : lv_has ls 2 [(0, .ref (ga G r)), (1, .int p1)] := hl
  refine lv_aload_n hx hb dX10_needTool_0 rfl (lv_at hl 0 rfl) ?_
  refine g_VernierDrawers_10 X hH hk_r dX10_needTool_1 ?_
  have hq1 := ho.1
  have ho := ho.2
  refine g_VernierDrawers_41 X hH hq1 dX10_needTool_4 ?_
  refine lv_iload_n hx hb dX10_needTool_7 rfl (lv_at hl 1 rfl) ?_
  refine k_X2_hasTool X hS hH (kc_7_2 hq1) t_ml_VernierDrawers_444 hl.1 (Nat.le_of_ble_eq_true rfl) ⟨Nat.le_of_ble_eq_true rfl, Nat.le_of_ble_eq_true rfl⟩ ⟨Nat.zero_le _, Nat.zero_le _⟩ dX10_needTool_8 ?_
  refine lv_if_ne (tgt := 25) hx hb dX10_needTool_11 (by decide) (fun c2 => ?_) (fun c2 => ?_)
  · have ho := ho c2
    refine lv_aload_n hx hb dX10_needTool_25 rfl (lv_at hl 0 rfl) ?_
    refine g_VernierDrawers_10 X hH hk_r dX10_needTool_26 ?_
    refine g_VernierDrawers_41 X hH hq1 dX10_needTool_29 ?_
    refine g_VernierDrawers_449 X hH (kc_7_2 hq1) dX10_needTool_32 ?_
    refine lv_iload_n hx hb dX10_needTool_35 rfl (lv_at hl 1 rfl) ?_
    have hq3 := ho
    refine qld_20 X hH (kc_2_20 (kc_7_2 hq1)) hq3 dX10_needTool_36 ?_
    exact E _ _ _ _ _ _ _ _ _ dX10_needTool_37 (Eq.symm (pr1 ((fX10_needTool.eq_1 _ _ _).trans ((if_neg c2).trans rfl)))) (pr2 ((fX10_needTool.eq_1 _ _ _).trans ((if_neg c2).trans rfl))) rfl hH hS (Nat.zero_le _) (Nat.zero_le _)
  · skip
    exact EW _ _ _ _ _ _ _ _ _ _ _ _ _ _ (th_1 X) (by decide) (pr1 ((fX10_needTool.eq_1 _ _ _).trans ((if_pos c2).trans rfl))) rfl hH hS t_sr_VernierDrawers_447 hl.1 dX10_needTool_14 dX10_needTool_17 dX10_needTool_18 dX10_needTool_21 dX10_needTool_24 (Nat.le_of_ble_eq_true rfl) (Nat.le_of_ble_eq_true rfl) (Nat.le_of_ble_eq_true rfl)
theorem k_X10_needTool {p : Program} {l : Launch} {e : Env} {R : Room} {s : State} {m : MethodId} {args : Array Value} {below : List Frame} {meth : Method} {c : Code} {H : Heap} {locs : List Loc} {cells slots : Nat} {Q : State → Prop} {cc : ByteArray} {pc nL : Nat} {ls : Array Slot} {rest : List Value} {G : gG} {own : String} {da : Nat → Nat} {v : vSt} {x : gX} (hst : l.stackTraces = false) (X : CX G p s m args c cc nL own) (hS : va_S (gA G) s.heap H locs) (hH : Hp G da v x H) {r : Nat} (hk_r : kd r = 10) {p1 : Int32} (ho : oX10_needTool r p1 v) {idx : Nat} (hml : Cond.methodLink own idx yX10_needTool ∈ TT) (hls : ls.size = nL) (hsum : (rest.map fun v => v.category).sum ≤ 8) (hR : rmX10_needTool.frames + 1 ≤ R.frames ∧ 8 + (2 + 11) + rmX10_needTool.locals ≤ R.locals) (hcs : cells + 6 ≤ R.cells ∧ slots + 6 ≤ R.slots) (hdg : decode cc pc = .ok (.invokevirtual idx, 3)) (kx : ¬ (fX10_needTool r p1 v).1 = 0 → ∀ (d : Nat → Nat) (ce : Cell) (q9 : Addr) (H1 : Heap) (locs1 : List Loc), Hp G d v x H1 → va_S (gA G) s.heap H1 locs1 → H1[q9]? = some ce → ce.vm = .none → s.vm.findClass (exN (fX10_needTool r p1 v).1) = some ce.cls → vx_W p l e R s m args below meth c H1 locs1 (cells + 6) (slots + 6) Q (F0 m pc ls rest) q9) (kk : (fX10_needTool r p1 v).1 = 0 → ∀ (d : Nat → Nat) (H1 : Heap) (locs1 : List Loc), Hp G d v x H1 → va_S (gA G) s.heap H1 locs1 → W p l e R s m args below meth c H1 locs1 (cells + 6) (slots + 6) Q (F0 m (pc + 3) ls (.ref (ga G (fX10_needTool r p1 v).2) :: rest))) : W p l e R s m args below meth c H locs cells slots Q (F0 m pc ls (.int p1 :: .ref (ga G r) :: rest)) := c_tr (runxV (kp := 1) X.1 X.2.1 X.2.2.1 X.2.2.2.1 X.2.2.2.2.1 (mX10_needTool l hst G da v x r hk_r p1 ho) pW_bl hml t_im_X10_needTool t_sel_X10_needTool t_ini_VernierDrawers t_code_X10_needTool ⟨rfl, by decide, by decide, by decide +kernel⟩ rfl rfl hR hcs (recvW X hH (by rw [hk_r]; decide) (by rw [hk_r]; decide) (ce_10 hk_r) rfl) (preW X hS hH) rfl hls rfl hsum hdg) hS (fun h9 d9 ce9 q9 H9 L9 v9 e9 hH9 => kx h9 d9 ce9 q9 H9 L9 (by subst e9; exact hH9)) (fun h9 d9 H9 L9 v9 e9 hH9 => kk h9 d9 H9 L9 (by subst e9; exact hH9))
def fX10_needBlock (r : Nat) (p1 : Int32) (v : vSt) : Nat × Nat := if ((fX2_hasBlock ((rN (v r 0)) + 1) p1 v) : Int32) = 0 then ((1, 0)) else ((0, (((rN (v r 0)) + 1) + 3) + 20 + (p1 : Int32).toNatClampNeg))
def oX10_needBlock (r : Nat) (p1 : Int32) (v : vSt) : Prop := (kd (rN (v r 0)) = 7) ∧ (¬ (((fX2_hasBlock ((rN (v r 0)) + 1) p1 v) : Int32) = 0) → (vp_in (p1) 10))
abbrev rmX10_needBlock : Room := { frames := 6, cells := 6, slots := 6, locals := 90 }
theorem dX10_needBlock_0 : decode cX10_needBlock 0 = .ok (.aload_n 0, 1) := by decide +kernel
theorem dX10_needBlock_1 : decode cX10_needBlock 1 = .ok (.getfield 10, 3) := by decide +kernel
theorem dX10_needBlock_4 : decode cX10_needBlock 4 = .ok (.getfield 41, 3) := by decide +kernel
theorem dX10_needBlock_7 : decode cX10_needBlock 7 = .ok (.iload_n 1, 1) := by decide +kernel
theorem dX10_needBlock_8 : decode cX10_needBlock 8 = .ok (.invokevirtual 453, 3) := by decide +kernel
theorem dX10_needBlock_11 : decode cX10_needBlock 11 = .ok (.ifCond .ne 14, 3) := by decide +kernel
theorem dX10_needBlock_14 : decode cX10_needBlock 14 = .ok (.new 53, 3) := by decide +kernel
theorem dX10_needBlock_17 : decode cX10_needBlock 17 = .ok (.dup, 1) := by decide +kernel
theorem dX10_needBlock_18 : decode cX10_needBlock 18 = .ok (.ldc_w 456, 3) := by decide +kernel
theorem dX10_needBlock_21 : decode cX10_needBlock 21 = .ok (.invokespecial 57, 3) := by decide +kernel
theorem dX10_needBlock_24 : decode cX10_needBlock 24 = .ok (.athrow, 1) := by decide +kernel
theorem dX10_needBlock_25 : decode cX10_needBlock 25 = .ok (.aload_n 0, 1) := by decide +kernel
theorem dX10_needBlock_26 : decode cX10_needBlock 26 = .ok (.getfield 10, 3) := by decide +kernel
theorem dX10_needBlock_29 : decode cX10_needBlock 29 = .ok (.getfield 41, 3) := by decide +kernel
theorem dX10_needBlock_32 : decode cX10_needBlock 32 = .ok (.getfield 458, 3) := by decide +kernel
theorem dX10_needBlock_35 : decode cX10_needBlock 35 = .ok (.iload_n 1, 1) := by decide +kernel
theorem dX10_needBlock_36 : decode cX10_needBlock 36 = .ok (.aaload, 1) := by decide +kernel
theorem dX10_needBlock_37 : decode cX10_needBlock 37 = .ok (.areturn, 1) := by decide +kernel
set_option maxHeartbeats 8000000 in
set_option maxRecDepth 100000 in
theorem mX10_needBlock (l : Launch) (hst : l.stackTraces = false) (G : gG) (da : Nat → Nat) (v : vSt) (x : gX) (r : Nat) (hk_r : kd r = 10) (p1 : Int32) (ho : oX10_needBlock r p1 v) : TR l yX10_needBlock cX10_needBlock 2 (some (.object "VernierDrawers$Block")) rmX10_needBlock [.ref (ga G r), .int p1] G da v x 6 6 (fX10_needBlock r p1 v).1 (fX10_needBlock r p1 v).2 v x := by
  refine gofTR hst (by decide) rfl (Nat.le_of_ble_eq_true rfl) ⟨Nat.le_of_ble_eq_true rfl, Nat.le_of_ble_eq_true rfl, Nat.le_refl _, Nat.le_refl _⟩ (fun p e s m args below meth c ls Q X hH hl E EX ES EW => ?_)
  have hx := X.1
  have hb := X.2.1
  have hown := X.2.2.2.1
  have hts := X.2.2.2.2.1
  have hS : va_S (gA G) s.heap s.heap [] := va_S.rf
  unfold oX10_needBlock at ho
  have hl : lv_has ls 2 [(0, .ref (ga G r)), (1, .int p1)] := hl
  refine lv_aload_n hx hb dX10_needBlock_0 rfl (lv_at hl 0 rfl) ?_
  refine g_VernierDrawers_10 X hH hk_r dX10_needBlock_1 ?_
  have hq1 := ho.1
  have ho := ho.2
  refine g_VernierDrawers_41 X hH hq1 dX10_needBlock_4 ?_
  refine lv_iload_n hx hb dX10_needBlock_7 rfl (lv_at hl 1 rfl) ?_
  refine k_X2_hasBlock X hS hH (kc_7_2 hq1) t_ml_VernierDrawers_453 hl.1 (Nat.le_of_ble_eq_true rfl) ⟨Nat.le_of_ble_eq_true rfl, Nat.le_of_ble_eq_true rfl⟩ ⟨Nat.zero_le _, Nat.zero_le _⟩ dX10_needBlock_8 ?_
  refine lv_if_ne (tgt := 25) hx hb dX10_needBlock_11 (by decide) (fun c2 => ?_) (fun c2 => ?_)
  · have ho := ho c2
    refine lv_aload_n hx hb dX10_needBlock_25 rfl (lv_at hl 0 rfl) ?_
    refine g_VernierDrawers_10 X hH hk_r dX10_needBlock_26 ?_
    refine g_VernierDrawers_41 X hH hq1 dX10_needBlock_29 ?_
    refine g_VernierDrawers_458 X hH (kc_7_2 hq1) dX10_needBlock_32 ?_
    refine lv_iload_n hx hb dX10_needBlock_35 rfl (lv_at hl 1 rfl) ?_
    have hq3 := ho
    refine qld_21 X hH (kc_2_21 (kc_7_2 hq1)) hq3 dX10_needBlock_36 ?_
    exact E _ _ _ _ _ _ _ _ _ dX10_needBlock_37 (Eq.symm (pr1 ((fX10_needBlock.eq_1 _ _ _).trans ((if_neg c2).trans rfl)))) (pr2 ((fX10_needBlock.eq_1 _ _ _).trans ((if_neg c2).trans rfl))) rfl hH hS (Nat.zero_le _) (Nat.zero_le _)
  · skip
    exact EW _ _ _ _ _ _ _ _ _ _ _ _ _ _ (th_1 X) (by decide) (pr1 ((fX10_needBlock.eq_1 _ _ _).trans ((if_pos c2).trans rfl))) rfl hH hS t_sr_VernierDrawers_456 hl.1 dX10_needBlock_14 dX10_needBlock_17 dX10_needBlock_18 dX10_needBlock_21 dX10_needBlock_24 (Nat.le_of_ble_eq_true rfl) (Nat.le_of_ble_eq_true rfl) (Nat.le_of_ble_eq_true rfl)
theorem k_X10_needBlock {p : Program} {l : Launch} {e : Env} {R : Room} {s : State} {m : MethodId} {args : Array Value} {below : List Frame} {meth : Method} {c : Code} {H : Heap} {locs : List Loc} {cells slots : Nat} {Q : State → Prop} {cc : ByteArray} {pc nL : Nat} {ls : Array Slot} {rest : List Value} {G : gG} {own : String} {da : Nat → Nat} {v : vSt} {x : gX} (hst : l.stackTraces = false) (X : CX G p s m args c cc nL own) (hS : va_S (gA G) s.heap H locs) (hH : Hp G da v x H) {r : Nat} (hk_r : kd r = 10) {p1 : Int32} (ho : oX10_needBlock r p1 v) {idx : Nat} (hml : Cond.methodLink own idx yX10_needBlock ∈ TT) (hls : ls.size = nL) (hsum : (rest.map fun v => v.category).sum ≤ 8) (hR : rmX10_needBlock.frames + 1 ≤ R.frames ∧ 8 + (2 + 11) + rmX10_needBlock.locals ≤ R.locals) (hcs : cells + 6 ≤ R.cells ∧ slots + 6 ≤ R.slots) (hdg : decode cc pc = .ok (.invokevirtual idx, 3)) (kx : ¬ (fX10_needBlock r p1 v).1 = 0 → ∀ (d : Nat → Nat) (ce : Cell) (q9 : Addr) (H1 : Heap) (locs1 : List Loc), Hp G d v x H1 → va_S (gA G) s.heap H1 locs1 → H1[q9]? = some ce → ce.vm = .none → s.vm.findClass (exN (fX10_needBlock r p1 v).1) = some ce.cls → vx_W p l e R s m args below meth c H1 locs1 (cells + 6) (slots + 6) Q (F0 m pc ls rest) q9) (kk : (fX10_needBlock r p1 v).1 = 0 → ∀ (d : Nat → Nat) (H1 : Heap) (locs1 : List Loc), Hp G d v x H1 → va_S (gA G) s.heap H1 locs1 → W p l e R s m args below meth c H1 locs1 (cells + 6) (slots + 6) Q (F0 m (pc + 3) ls (.ref (ga G (fX10_needBlock r p1 v).2) :: rest))) : W p l e R s m args below meth c H locs cells slots Q (F0 m pc ls (.int p1 :: .ref (ga G r) :: rest)) := c_tr (runxV (kp := 1) X.1 X.2.1 X.2.2.1 X.2.2.2.1 X.2.2.2.2.1 (mX10_needBlock l hst G da v x r hk_r p1 ho) pW_bl hml t_im_X10_needBlock t_sel_X10_needBlock t_ini_VernierDrawers t_code_X10_needBlock ⟨rfl, by decide, by decide, by decide +kernel⟩ rfl rfl hR hcs (recvW X hH (by rw [hk_r]; decide) (by rw [hk_r]; decide) (ce_10 hk_r) rfl) (preW X hS hH) rfl hls rfl hsum hdg) hS (fun h9 d9 ce9 q9 H9 L9 v9 e9 hH9 => kx h9 d9 ce9 q9 H9 L9 (by subst e9; exact hH9)) (fun h9 d9 H9 L9 v9 e9 hH9 => kk h9 d9 H9 L9 (by subst e9; exact hH9))
def fX10_needType (r : Nat) (p1 : Int32) (v : vSt) : Nat × Nat := if ((fX0_hasType ((rN (v r 0)) + 2) p1 v) : Int32) = 0 then ((1, 0)) else ((0, (((rN (v r 0)) + 2) + 3) + 31 + (p1 : Int32).toNatClampNeg))
def oX10_needType (r : Nat) (p1 : Int32) (v : vSt) : Prop := (kd (rN (v r 0)) = 7) ∧ (¬ (((fX0_hasType ((rN (v r 0)) + 2) p1 v) : Int32) = 0) → (vp_in (p1) 5))
abbrev rmX10_needType : Room := { frames := 6, cells := 6, slots := 6, locals := 90 }
theorem dX10_needType_0 : decode cX10_needType 0 = .ok (.aload_n 0, 1) := by decide +kernel
theorem dX10_needType_1 : decode cX10_needType 1 = .ok (.getfield 10, 3) := by decide +kernel
theorem dX10_needType_4 : decode cX10_needType 4 = .ok (.getfield 126, 3) := by decide +kernel
theorem dX10_needType_7 : decode cX10_needType 7 = .ok (.iload_n 1, 1) := by decide +kernel
theorem dX10_needType_8 : decode cX10_needType 8 = .ok (.invokevirtual 462, 3) := by decide +kernel
theorem dX10_needType_11 : decode cX10_needType 11 = .ok (.ifCond .ne 14, 3) := by decide +kernel
theorem dX10_needType_14 : decode cX10_needType 14 = .ok (.new 53, 3) := by decide +kernel
theorem dX10_needType_17 : decode cX10_needType 17 = .ok (.dup, 1) := by decide +kernel
theorem dX10_needType_18 : decode cX10_needType 18 = .ok (.ldc_w 465, 3) := by decide +kernel
theorem dX10_needType_21 : decode cX10_needType 21 = .ok (.invokespecial 57, 3) := by decide +kernel
theorem dX10_needType_24 : decode cX10_needType 24 = .ok (.athrow, 1) := by decide +kernel
theorem dX10_needType_25 : decode cX10_needType 25 = .ok (.aload_n 0, 1) := by decide +kernel
theorem dX10_needType_26 : decode cX10_needType 26 = .ok (.getfield 10, 3) := by decide +kernel
theorem dX10_needType_29 : decode cX10_needType 29 = .ok (.getfield 126, 3) := by decide +kernel
theorem dX10_needType_32 : decode cX10_needType 32 = .ok (.getfield 467, 3) := by decide +kernel
theorem dX10_needType_35 : decode cX10_needType 35 = .ok (.iload_n 1, 1) := by decide +kernel
theorem dX10_needType_36 : decode cX10_needType 36 = .ok (.aaload, 1) := by decide +kernel
theorem dX10_needType_37 : decode cX10_needType 37 = .ok (.areturn, 1) := by decide +kernel
set_option maxHeartbeats 8000000 in
set_option maxRecDepth 100000 in
theorem mX10_needType (l : Launch) (hst : l.stackTraces = false) (G : gG) (da : Nat → Nat) (v : vSt) (x : gX) (r : Nat) (hk_r : kd r = 10) (p1 : Int32) (ho : oX10_needType r p1 v) : TR l yX10_needType cX10_needType 2 (some (.object "VernierDrawers$PieceType")) rmX10_needType [.ref (ga G r), .int p1] G da v x 6 6 (fX10_needType r p1 v).1 (fX10_needType r p1 v).2 v x := by
  refine gofTR hst (by decide) rfl (Nat.le_of_ble_eq_true rfl) ⟨Nat.le_of_ble_eq_true rfl, Nat.le_of_ble_eq_true rfl, Nat.le_refl _, Nat.le_refl _⟩ (fun p e s m args below meth c ls Q X hH hl E EX ES EW => ?_)
  have hx := X.1
  have hb := X.2.1
  have hown := X.2.2.2.1
  have hts := X.2.2.2.2.1
  have hS : va_S (gA G) s.heap s.heap [] := va_S.rf
  unfold oX10_needType at ho
  have hl : lv_has ls 2 [(0, .ref (ga G r)), (1, .int p1)] := hl
  refine lv_aload_n hx hb dX10_needType_0 rfl (lv_at hl 0 rfl) ?_
  refine g_VernierDrawers_10 X hH hk_r dX10_needType_1 ?_
  have hq1 := ho.1
  have ho := ho.2
  refine g_VernierDrawers_126 X hH hq1 dX10_needType_4 ?_
  refine lv_iload_n hx hb dX10_needType_7 rfl (lv_at hl 1 rfl) ?_
  refine k_X0_hasType X hS hH (kc_7_0 hq1) t_ml_VernierDrawers_462 hl.1 (Nat.le_of_ble_eq_true rfl) ⟨Nat.le_of_ble_eq_true rfl, Nat.le_of_ble_eq_true rfl⟩ ⟨Nat.zero_le _, Nat.zero_le _⟩ dX10_needType_8 ?_
  refine lv_if_ne (tgt := 25) hx hb dX10_needType_11 (by decide) (fun c2 => ?_) (fun c2 => ?_)
  · have ho := ho c2
    refine lv_aload_n hx hb dX10_needType_25 rfl (lv_at hl 0 rfl) ?_
    refine g_VernierDrawers_10 X hH hk_r dX10_needType_26 ?_
    refine g_VernierDrawers_126 X hH hq1 dX10_needType_29 ?_
    refine g_VernierDrawers_467 X hH (kc_7_0 hq1) dX10_needType_32 ?_
    refine lv_iload_n hx hb dX10_needType_35 rfl (lv_at hl 1 rfl) ?_
    have hq3 := ho
    refine qld_22 X hH (kc_0_22 (kc_7_0 hq1)) hq3 dX10_needType_36 ?_
    exact E _ _ _ _ _ _ _ _ _ dX10_needType_37 (Eq.symm (pr1 ((fX10_needType.eq_1 _ _ _).trans ((if_neg c2).trans rfl)))) (pr2 ((fX10_needType.eq_1 _ _ _).trans ((if_neg c2).trans rfl))) rfl hH hS (Nat.zero_le _) (Nat.zero_le _)
  · skip
    exact EW _ _ _ _ _ _ _ _ _ _ _ _ _ _ (th_1 X) (by decide) (pr1 ((fX10_needType.eq_1 _ _ _).trans ((if_pos c2).trans rfl))) rfl hH hS t_sr_VernierDrawers_465 hl.1 dX10_needType_14 dX10_needType_17 dX10_needType_18 dX10_needType_21 dX10_needType_24 (Nat.le_of_ble_eq_true rfl) (Nat.le_of_ble_eq_true rfl) (Nat.le_of_ble_eq_true rfl)
theorem k_X10_needType {p : Program} {l : Launch} {e : Env} {R : Room} {s : State} {m : MethodId} {args : Array Value} {below : List Frame} {meth : Method} {c : Code} {H : Heap} {locs : List Loc} {cells slots : Nat} {Q : State → Prop} {cc : ByteArray} {pc nL : Nat} {ls : Array Slot} {rest : List Value} {G : gG} {own : String} {da : Nat → Nat} {v : vSt} {x : gX} (hst : l.stackTraces = false) (X : CX G p s m args c cc nL own) (hS : va_S (gA G) s.heap H locs) (hH : Hp G da v x H) {r : Nat} (hk_r : kd r = 10) {p1 : Int32} (ho : oX10_needType r p1 v) {idx : Nat} (hml : Cond.methodLink own idx yX10_needType ∈ TT) (hls : ls.size = nL) (hsum : (rest.map fun v => v.category).sum ≤ 8) (hR : rmX10_needType.frames + 1 ≤ R.frames ∧ 8 + (2 + 11) + rmX10_needType.locals ≤ R.locals) (hcs : cells + 6 ≤ R.cells ∧ slots + 6 ≤ R.slots) (hdg : decode cc pc = .ok (.invokevirtual idx, 3)) (kx : ¬ (fX10_needType r p1 v).1 = 0 → ∀ (d : Nat → Nat) (ce : Cell) (q9 : Addr) (H1 : Heap) (locs1 : List Loc), Hp G d v x H1 → va_S (gA G) s.heap H1 locs1 → H1[q9]? = some ce → ce.vm = .none → s.vm.findClass (exN (fX10_needType r p1 v).1) = some ce.cls → vx_W p l e R s m args below meth c H1 locs1 (cells + 6) (slots + 6) Q (F0 m pc ls rest) q9) (kk : (fX10_needType r p1 v).1 = 0 → ∀ (d : Nat → Nat) (H1 : Heap) (locs1 : List Loc), Hp G d v x H1 → va_S (gA G) s.heap H1 locs1 → W p l e R s m args below meth c H1 locs1 (cells + 6) (slots + 6) Q (F0 m (pc + 3) ls (.ref (ga G (fX10_needType r p1 v).2) :: rest))) : W p l e R s m args below meth c H locs cells slots Q (F0 m pc ls (.int p1 :: .ref (ga G r) :: rest)) := c_tr (runxV (kp := 1) X.1 X.2.1 X.2.2.1 X.2.2.2.1 X.2.2.2.2.1 (mX10_needType l hst G da v x r hk_r p1 ho) pW_bl hml t_im_X10_needType t_sel_X10_needType t_ini_VernierDrawers t_code_X10_needType ⟨rfl, by decide, by decide, by decide +kernel⟩ rfl rfl hR hcs (recvW X hH (by rw [hk_r]; decide) (by rw [hk_r]; decide) (ce_10 hk_r) rfl) (preW X hS hH) rfl hls rfl hsum hdg) hS (fun h9 d9 ce9 q9 H9 L9 v9 e9 hH9 => kx h9 d9 ce9 q9 H9 L9 (by subst e9; exact hH9)) (fun h9 d9 H9 L9 v9 e9 hH9 => kk h9 d9 H9 L9 (by subst e9; exact hH9))
