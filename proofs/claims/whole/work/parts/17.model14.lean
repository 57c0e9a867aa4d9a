/-! 17.model -/
def fX11_setWarmth (r : Nat) (p1 : Int32) (v : vSt) : Int32 × vSt := let v2 : vSt := fX11_begins r v; if ((fX11_in p1 (-10) 50) : Int32) = 0 then (let v8 : vSt := (fX11_fails r 1 v2).2; ((fX11_fails r 1 v2).1, v8)) else (let v5 : vSt := u2 v2 462 (208 : Int32).toNatClampNeg p1; let v7 : vSt := (fX11_ends r (v2 462 (208 : Int32).toNatClampNeg) 2 v5).2; ((fX11_ends r (v2 462 (208 : Int32).toNatClampNeg) 2 v5).1, v7))
def oX11_setWarmth (r : Nat) (p1 : Int32) (v : vSt) : Prop := (oX11_begins r v) ∧ (∀ v2 : vSt, v2 = (fX11_begins r v) → (¬ (((fX11_in p1 (-10) 50) : Int32) = 0) → ((vp_in (208) (mlen 462)) ∧ (∀ v5 : vSt, v5 = (u2 v2 462 (208 : Int32).toNatClampNeg p1) → (oX11_ends r (v2 462 (208 : Int32).toNatClampNeg) 2 v5)))))
abbrev rmX11_setWarmth : Room := { frames := 3, cells := 0, slots := 0, locals := 67 }
theorem dX11_setWarmth_0 : decode cX11_setWarmth 0 = .ok (.aload_n 0, 1) := by decide +kernel
theorem dX11_setWarmth_1 : decode cX11_setWarmth 1 = .ok (.invokevirtual 180, 3) := by decide +kernel
theorem dX11_setWarmth_4 : decode cX11_setWarmth 4 = .ok (.iload_n 1, 1) := by decide +kernel
theorem dX11_setWarmth_5 : decode cX11_setWarmth 5 = .ok (.bipush (-10), 2) := by decide +kernel
theorem dX11_setWarmth_7 : decode cX11_setWarmth 7 = .ok (.bipush 50, 2) := by decide +kernel
theorem dX11_setWarmth_9 : decode cX11_setWarmth 9 = .ok (.invokestatic 49, 3) := by decide +kernel
theorem dX11_setWarmth_12 : decode cX11_setWarmth 12 = .ok (.ifCond .ne 9, 3) := by decide +kernel
theorem dX11_setWarmth_15 : decode cX11_setWarmth 15 = .ok (.aload_n 0, 1) := by decide +kernel
theorem dX11_setWarmth_16 : decode cX11_setWarmth 16 = .ok (.iconst 1, 1) := by decide +kernel
theorem dX11_setWarmth_17 : decode cX11_setWarmth 17 = .ok (.invokevirtual 42, 3) := by decide +kernel
theorem dX11_setWarmth_20 : decode cX11_setWarmth 20 = .ok (.ireturn, 1) := by decide +kernel
theorem dX11_setWarmth_21 : decode cX11_setWarmth 21 = .ok (.aload_n 0, 1) := by decide +kernel
theorem dX11_setWarmth_22 : decode cX11_setWarmth 22 = .ok (.getfield 7, 3) := by decide +kernel
theorem dX11_setWarmth_25 : decode cX11_setWarmth 25 = .ok (.sipush 208, 3) := by decide +kernel
theorem dX11_setWarmth_28 : decode cX11_setWarmth 28 = .ok (.iaload, 1) := by decide +kernel
theorem dX11_setWarmth_29 : decode cX11_setWarmth 29 = .ok (.istore_n 2, 1) := by decide +kernel
theorem dX11_setWarmth_30 : decode cX11_setWarmth 30 = .ok (.aload_n 0, 1) := by decide +kernel
theorem dX11_setWarmth_31 : decode cX11_setWarmth 31 = .ok (.getfield 7, 3) := by decide +kernel
theorem dX11_setWarmth_34 : decode cX11_setWarmth 34 = .ok (.sipush 208, 3) := by decide +kernel
theorem dX11_setWarmth_37 : decode cX11_setWarmth 37 = .ok (.iload_n 1, 1) := by decide +kernel
theorem dX11_setWarmth_38 : decode cX11_setWarmth 38 = .ok (.iastore, 1) := by decide +kernel
theorem dX11_setWarmth_39 : decode cX11_setWarmth 39 = .ok (.aload_n 0, 1) := by decide +kernel
theorem dX11_setWarmth_40 : decode cX11_setWarmth 40 = .ok (.iload_n 2, 1) := by decide +kernel
theorem dX11_setWarmth_41 : decode cX11_setWarmth 41 = .ok (.iconst 2, 1) := by decide +kernel
theorem dX11_setWarmth_42 : decode cX11_setWarmth 42 = .ok (.invokevirtual 183, 3) := by decide +kernel
theorem dX11_setWarmth_45 : decode cX11_setWarmth 45 = .ok (.ireturn, 1) := by decide +kernel
set_option maxHeartbeats 8000000 in
set_option maxRecDepth 100000 in
theorem mX11_setWarmth (l : Launch) (G : gG) (da : Nat → Nat) (v : vSt) (x : gX) (r : Nat) (hk_r : kd r = 11) (p1 : Int32) (ho : oX11_setWarmth r p1 v) : MI l yX11_setWarmth cX11_setWarmth 3 (some .int) rmX11_setWarmth [.ref (ga G r), .int p1] G da v x 0 0 (fX11_setWarmth r p1 v).1 (fX11_setWarmth r p1 v).2 x := by
  refine gofMI (own := RX11) (by decide) rfl (Nat.le_of_ble_eq_true rfl) (fun p e s m args below meth c ls Q X hH hl E => ?_)
  have hx := X.1
  have hb := X.2.1
  have hown := X.2.2.2.1
  have hts := X.2.2.2.2.1
  have hS : va_S (gA G) s.heap s.heap [] := va_S.rf
  unfold oX11_setWarmth at ho
  have hl : lv_has ls 3 [(0, .ref (ga G r)), (1, .int p1)] := hl
  refine lv_aload_n hx hb dX11_setWarmth_0 rfl (lv_at hl 0 rfl) ?_
  have hq1 := ho.1
  have ho := ho.2
  refine k_X11_begins X hS hH hk_r hq1 t_ml_VernierDrawersModel_180 hl.1 (Nat.le_of_ble_eq_true rfl) ⟨Nat.le_of_ble_eq_true rfl, Nat.le_of_ble_eq_true rfl⟩ ⟨Nat.zero_le _, Nat.zero_le _⟩ dX11_setWarmth_1 (fun da H locs v2 ev2 hH hS => ?_)
  have ho := ho v2 ev2
  refine lv_iload_n hx hb dX11_setWarmth_4 rfl (lv_at hl 1 rfl) ?_
  refine lv_bipush (v := (-10)) hx hb dX11_setWarmth_5 (by decide) ?_
  refine lv_bipush (v := 50) hx hb dX11_setWarmth_7 (by decide) ?_
  refine k_X11_in X hS  t_ml_VernierDrawersModel_49 hl.1 (Nat.le_of_ble_eq_true rfl) ⟨Nat.le_of_ble_eq_true rfl, Nat.le_of_ble_eq_true rfl⟩ ⟨Nat.zero_le _, Nat.zero_le _⟩ dX11_setWarmth_9 ?_
  refine lv_if_ne (tgt := 21) hx hb dX11_setWarmth_12 (by decide) (fun c3 => ?_) (fun c3 => ?_)
  · have ho := ho c3
    refine lv_aload_n hx hb dX11_setWarmth_21 rfl (lv_at hl 0 rfl) ?_
    refine g_VernierDrawersModel_7 X hH hk_r dX11_setWarmth_22 ?_
    refine lv_sipush (v := 208) hx hb dX11_setWarmth_25 (by decide) ?_
    have hq4 := ho.1
    have ho := ho.2
    refine ald_M X hH (Or.inl kd_462) hq4 dX11_setWarmth_28 ?_
    refine lv_istore_n (lv' := [(2, .int (v2 462 (208 : Int32).toNatClampNeg)), (0, .ref (ga G r)), (1, .int p1)]) hx hb dX11_setWarmth_29 rfl hl (by decide) rfl (fun ls hl => ?_)
    refine lv_aload_n hx hb dX11_setWarmth_30 rfl (lv_at hl 1 rfl) ?_
    refine g_VernierDrawersModel_7 X hH hk_r dX11_setWarmth_31 ?_
    refine lv_sipush (v := 208) hx hb dX11_setWarmth_34 (by decide) ?_
    refine lv_iload_n hx hb dX11_setWarmth_37 rfl (lv_at hl 2 rfl) ?_
    refine ast_M X hH hS (Or.inl kd_462) hq4 dX11_setWarmth_38 (fun H locs v5 ev5 hH hS => ?_)
    have ho := ho v5 ev5
    refine lv_aload_n hx hb dX11_setWarmth_39 rfl (lv_at hl 1 rfl) ?_
    refine lv_iload_n hx hb dX11_setWarmth_40 rfl (lv_at hl 0 rfl) ?_
    refine lv_iconst (v := 2) hx hb dX11_setWarmth_41 (by decide) ?_
    have hq6 := ho
    refine k_X11_ends X hS hH hk_r hq6 t_ml_VernierDrawersModel_183 hl.1 (Nat.le_of_ble_eq_true rfl) ⟨Nat.le_of_ble_eq_true rfl, Nat.le_of_ble_eq_true rfl⟩ ⟨Nat.zero_le _, Nat.zero_le _⟩ dX11_setWarmth_42 (fun da H locs v7 ev7 hH hS => ?_)
    replace ev2 := Eq.symm ev2
    replace ev5 := Eq.symm ev5
    replace ev7 := Eq.symm ev7
    subst ev2 ev5 ev7
    exact E _ _ _ _ _ _ _ _ _ dX11_setWarmth_45 rfl (pr1 ((fX11_setWarmth.eq_1 _ _ _).trans ((if_neg c3).trans rfl))) (pr2 ((fX11_setWarmth.eq_1 _ _ _).trans ((if_neg c3).trans rfl))) hH hS (Nat.zero_le _) (Nat.zero_le _)
  · skip
    refine lv_aload_n hx hb dX11_setWarmth_15 rfl (lv_at hl 0 rfl) ?_
    refine lv_iconst (v := 1) hx hb dX11_setWarmth_16 (by decide) ?_
    refine k_X11_fails X hS hH hk_r t_ml_VernierDrawersModel_42 hl.1 (Nat.le_of_ble_eq_true rfl) ⟨Nat.le_of_ble_eq_true rfl, Nat.le_of_ble_eq_true rfl⟩ ⟨Nat.zero_le _, Nat.zero_le _⟩ dX11_setWarmth_17 (fun da H locs v8 ev8 hH hS => ?_)
    replace ev2 := Eq.symm ev2
    replace ev8 := Eq.symm ev8
    subst ev2 ev8
    exact E _ _ _ _ _ _ _ _ _ dX11_setWarmth_20 rfl (pr1 ((fX11_setWarmth.eq_1 _ _ _).trans ((if_pos c3).trans rfl))) (pr2 ((fX11_setWarmth.eq_1 _ _ _).trans ((if_pos c3).trans rfl))) hH hS (Nat.zero_le _) (Nat.zero_le _)
theorem k_X11_setWarmth {p : Program} {l : Launch} {e : Env} {R : Room} {s : State} {m : MethodId} {args : Array Value} {below : List Frame} {meth : Method} {c : Code} {H : Heap} {locs : List Loc} {cells slots : Nat} {Q : State → Prop} {cc : ByteArray} {pc nL : Nat} {ls : Array Slot} {rest : List Value} {G : gG} {own : String} {da : Nat → Nat} {v : vSt} {x : gX} (X : CX G p s m args c cc nL own) (hS : va_S (gA G) s.heap H locs) (hH : Hp G da v x H) {r : Nat} (hk_r : kd r = 11) {p1 : Int32} (ho : oX11_setWarmth r p1 v) {idx : Nat} (hml : Cond.methodLink own idx yX11_setWarmth ∈ TT) (hls : ls.size = nL) (hsum : (rest.map fun v => v.category).sum ≤ 8) (hR : rmX11_setWarmth.frames + 1 ≤ R.frames ∧ 8 + (3 + 11) + rmX11_setWarmth.locals ≤ R.locals) (hcs : cells ≤ R.cells ∧ slots ≤ R.slots) (hdg : decode cc pc = .ok (.invokevirtual idx, 3)) (kk : ∀ (d : Nat → Nat) (H1 : Heap) (locs1 : List Loc) (v1 : vSt), v1 = (fX11_setWarmth r p1 v).2 → Hp G d v1 x H1 → va_S (gA G) s.heap H1 locs1 → W p l e R s m args below meth c H1 locs1 cells slots Q (F0 m (pc + 3) ls (.int (fX11_setWarmth r p1 v).1 :: rest))) : W p l e R s m args below meth c H locs cells slots Q (F0 m pc ls (.int p1 :: .ref (ga G r) :: rest)) := c_mi X.2.2.2.2.2.2 (runV (k := 1) X.1 X.2.1 X.2.2.1 X.2.2.2.1 X.2.2.2.2.1 (mX11_setWarmth l G da v x r hk_r p1 ho) pW_bl hml t_im_X11_setWarmth t_sel_X11_setWarmth t_ini_VernierDrawersModel t_code_X11_setWarmth ⟨rfl, by decide, by decide, by decide +kernel⟩ rfl rfl hR hcs (recvW X hH (by rw [hk_r]; decide) (by rw [hk_r]; decide) (ce_11 hk_r) rfl) (preW X hS hH) rfl hls rfl hsum hdg) hS kk
def fX11_measure (r : Nat) (p1 : Int32) (p2 : Int32) (p3 : Int32) (v : vSt) : Int32 × vSt := let v2 : vSt := fX11_begins r v; let v4 : vSt := (fX11_goMeasure r p1 p2 p3 v2).2; let v6 : vSt := (fX11_ends r ((fX11_goMeasure r p1 p2 p3 v2).1) 2 v4).2; ((fX11_ends r ((fX11_goMeasure r p1 p2 p3 v2).1) 2 v4).1, v6)
def oX11_measure (r : Nat) (p1 : Int32) (p2 : Int32) (p3 : Int32) (v : vSt) : Prop := (oX11_begins r v) ∧ (∀ v2 : vSt, v2 = (fX11_begins r v) → ((oX11_goMeasure r p1 p2 p3 v2) ∧ (∀ v4 : vSt, v4 = ((fX11_goMeasure r p1 p2 p3 v2).2) → (oX11_ends r ((fX11_goMeasure r p1 p2 p3 v2).1) 2 v4))))
abbrev rmX11_measure : Room := { frames := 4, cells := 0, slots := 0, locals := 94 }
theorem dX11_measure_0 : decode cX11_measure 0 = .ok (.aload_n 0, 1) := by decide +kernel
theorem dX11_measure_1 : decode cX11_measure 1 = .ok (.invokevirtual 180, 3) := by decide +kernel
theorem dX11_measure_4 : decode cX11_measure 4 = .ok (.aload_n 0, 1) := by decide +kernel
theorem dX11_measure_5 : decode cX11_measure 5 = .ok (.aload_n 0, 1) := by decide +kernel
theorem dX11_measure_6 : decode cX11_measure 6 = .ok (.iload_n 1, 1) := by decide +kernel
theorem dX11_measure_7 : decode cX11_measure 7 = .ok (.iload_n 2, 1) := by decide +kernel
theorem dX11_measure_8 : decode cX11_measure 8 = .ok (.iload_n 3, 1) := by decide +kernel
theorem dX11_measure_9 : decode cX11_measure 9 = .ok (.invokevirtual 186, 3) := by decide +kernel
theorem dX11_measure_12 : decode cX11_measure 12 = .ok (.iconst 2, 1) := by decide +kernel
theorem dX11_measure_13 : decode cX11_measure 13 = .ok (.invokevirtual 183, 3) := by decide +kernel
theorem dX11_measure_16 : decode cX11_measure 16 = .ok (.ireturn, 1) := by decide +kernel
set_option maxHeartbeats 8000000 in
set_option maxRecDepth 100000 in
theorem mX11_measure (l : Launch) (G : gG) (da : Nat → Nat) (v : vSt) (x : gX) (r : Nat) (hk_r : kd r = 11) (p1 : Int32) (p2 : Int32) (p3 : Int32) (ho : oX11_measure r p1 p2 p3 v) : MI l yX11_measure cX11_measure 4 (some .int) rmX11_measure [.ref (ga G r), .int p1, .int p2, .int p3] G da v x 0 0 (fX11_measure r p1 p2 p3 v).1 (fX11_measure r p1 p2 p3 v).2 x := by
  refine gofMI (own := RX11) (by decide) rfl (Nat.le_of_ble_eq_true rfl) (fun p e s m args below meth c ls Q X hH hl E => ?_)
  have hx := X.1
  have hb := X.2.1
  have hown := X.2.2.2.1
  have hts := X.2.2.2.2.1
  have hS : va_S (gA G) s.heap s.heap [] := va_S.rf
  unfold oX11_measure at ho
  have hl : lv_has ls 4 [(0, .ref (ga G r)), (1, .int p1), (2, .int p2), (3, .int p3)] := hl
  refine lv_aload_n hx hb dX11_measure_0 rfl (lv_at hl 0 rfl) ?_
  have hq1 := ho.1
  have ho := ho.2
  refine k_X11_begins X hS hH hk_r hq1 t_ml_VernierDrawersModel_180 hl.1 (Nat.le_of_ble_eq_true rfl) ⟨Nat.le_of_ble_eq_true rfl, Nat.le_of_ble_eq_true rfl⟩ ⟨Nat.zero_le _, Nat.zero_le _⟩ dX11_measure_1 (fun da H locs v2 ev2 hH hS => ?_)
  have ho := ho v2 ev2
  refine lv_aload_n hx hb dX11_measure_4 rfl (lv_at hl 0 rfl) ?_
  refine lv_aload_n hx hb dX11_measure_5 rfl (lv_at hl 0 rfl) ?_
  refine lv_iload_n hx hb dX11_measure_6 rfl (lv_at hl 1 rfl) ?_
  refine lv_iload_n hx hb dX11_measure_7 rfl (lv_at hl 2 rfl) ?_
  refine lv_iload_n hx hb dX11_measure_8 rfl (lv_at hl 3 rfl) ?_
  have hq3 := ho.1
  have ho := ho.2
  refine k_X11_goMeasure X hS hH hk_r hq3 t_ml_VernierDrawersModel_186 hl.1 (Nat.le_of_ble_eq_true rfl) ⟨Nat.le_of_ble_eq_true rfl, Nat.le_of_ble_eq_true rfl⟩ ⟨Nat.zero_le _, Nat.zero_le _⟩ dX11_measure_9 (fun da H locs v4 ev4 hH hS => ?_)
  have ho := ho v4 ev4
  refine lv_iconst (v := 2) hx hb dX11_measure_12 (by decide) ?_
  have hq5 := ho
  refine k_X11_ends X hS hH hk_r hq5 t_ml_VernierDrawersModel_183 hl.1 (Nat.le_of_ble_eq_true rfl) ⟨Nat.le_of_ble_eq_true rfl, Nat.le_of_ble_eq_true rfl⟩ ⟨Nat.zero_le _, Nat.zero_le _⟩ dX11_measure_13 (fun da H locs v6 ev6 hH hS => ?_)
  replace ev2 := Eq.symm ev2
  replace ev4 := Eq.symm ev4
  replace ev6 := Eq.symm ev6
  subst ev2 ev4 ev6
  exact E _ _ _ _ _ _ _ _ _ dX11_measure_16 rfl (pr1 rfl) (pr2 rfl) hH hS (Nat.zero_le _) (Nat.zero_le _)
theorem k_X11_measure {p : Program} {l : Launch} {e : Env} {R : Room} {s : State} {m : MethodId} {args : Array Value} {below : List Frame} {meth : Method} {c : Code} {H : Heap} {locs : List Loc} {cells slots : Nat} {Q : State → Prop} {cc : ByteArray} {pc nL : Nat} {ls : Array Slot} {rest : List Value} {G : gG} {own : String} {da : Nat → Nat} {v : vSt} {x : gX} (X : CX G p s m args c cc nL own) (hS : va_S (gA G) s.heap H locs) (hH : Hp G da v x H) {r : Nat} (hk_r : kd r = 11) {p1 : Int32} {p2 : Int32} {p3 : Int32} (ho : oX11_measure r p1 p2 p3 v) {idx : Nat} (hml : Cond.methodLink own idx yX11_measure ∈ TT) (hls : ls.size = nL) (hsum : (rest.map fun v => v.category).sum ≤ 8) (hR : rmX11_measure.frames + 1 ≤ R.frames ∧ 8 + (4 + 11) + rmX11_measure.locals ≤ R.locals) (hcs : cells ≤ R.cells ∧ slots ≤ R.slots) (hdg : decode cc pc = .ok (.invokevirtual idx, 3)) (kk : ∀ (d : Nat → Nat) (H1 : Heap) (locs1 : List Loc) (v1 : vSt), v1 = (fX11_measure r p1 p2 p3 v).2 → Hp G d v1 x H1 → va_S (gA G) s.heap H1 locs1 → W p l e R s m args below meth c H1 locs1 cells slots Q (F0 m (pc + 3) ls (.int (fX11_measure r p1 p2 p3 v).1 :: rest))) : W p l e R s m args below meth c H locs cells slots Q (F0 m pc ls (.int p3 :: .int p2 :: .int p1 :: .ref (ga G r) :: rest)) := c_mi X.2.2.2.2.2.2 (runV (k := 3) X.1 X.2.1 X.2.2.1 X.2.2.2.1 X.2.2.2.2.1 (mX11_measure l G da v x r hk_r p1 p2 p3 ho) pW_bl hml t_im_X11_measure t_sel_X11_measure t_ini_VernierDrawersModel t_code_X11_measure ⟨rfl, by decide, by decide, by decide +kernel⟩ rfl rfl hR hcs (recvW X hH (by rw [hk_r]; decide) (by rw [hk_r]; decide) (ce_11 hk_r) rfl) (preW X hS hH) rfl hls rfl hsum hdg) hS kk
def fX11_calibrate (r : Nat) (p1 : Int32) (p2 : Int32) (v : vSt) : Int32 × vSt := let v2 : vSt := fX11_begins r v; let v4 : vSt := (fX11_goCalibrate r p1 p2 v2).2; let v6 : vSt := (fX11_ends r ((fX11_goCalibrate r p1 p2 v2).1) 2 v4).2; ((fX11_ends r ((fX11_goCalibrate r p1 p2 v2).1) 2 v4).1, v6)
def oX11_calibrate (r : Nat) (p1 : Int32) (p2 : Int32) (v : vSt) : Prop := (oX11_begins r v) ∧ (∀ v2 : vSt, v2 = (fX11_begins r v) → ((oX11_goCalibrate r p1 p2 v2) ∧ (∀ v4 : vSt, v4 = ((fX11_goCalibrate r p1 p2 v2).2) → (oX11_ends r ((fX11_goCalibrate r p1 p2 v2).1) 2 v4))))
abbrev rmX11_calibrate : Room := { frames := 4, cells := 0, slots := 0, locals := 96 }
theorem dX11_calibrate_0 : decode cX11_calibrate 0 = .ok (.aload_n 0, 1) := by decide +kernel
theorem dX11_calibrate_1 : decode cX11_calibrate 1 = .ok (.invokevirtual 180, 3) := by decide +kernel
theorem dX11_calibrate_4 : decode cX11_calibrate 4 = .ok (.aload_n 0, 1) := by decide +kernel
theorem dX11_calibrate_5 : decode cX11_calibrate 5 = .ok (.aload_n 0, 1) := by decide +kernel
theorem dX11_calibrate_6 : decode cX11_calibrate 6 = .ok (.iload_n 1, 1) := by decide +kernel
theorem dX11_calibrate_7 : decode cX11_calibrate 7 = .ok (.iload_n 2, 1) := by decide +kernel
theorem dX11_calibrate_8 : decode cX11_calibrate 8 = .ok (.invokevirtual 189, 3) := by decide +kernel
theorem dX11_calibrate_11 : decode cX11_calibrate 11 = .ok (.iconst 2, 1) := by decide +kernel
theorem dX11_calibrate_12 : decode cX11_calibrate 12 = .ok (.invokevirtual 183, 3) := by decide +kernel
theorem dX11_calibrate_15 : decode cX11_calibrate 15 = .ok (.ireturn, 1) := by decide +kernel
set_option maxHeartbeats 8000000 in
set_option maxRecDepth 100000 in
theorem mX11_calibrate (l : Launch) (G : gG) (da : Nat → Nat) (v : vSt) (x : gX) (r : Nat) (hk_r : kd r = 11) (p1 : Int32) (p2 : Int32) (ho : oX11_calibrate r p1 p2 v) : MI l yX11_calibrate cX11_calibrate 3 (some .int) rmX11_calibrate [.ref (ga G r), .int p1, .int p2] G da v x 0 0 (fX11_calibrate r p1 p2 v).1 (fX11_calibrate r p1 p2 v).2 x := by
  refine gofMI (own := RX11) (by decide) rfl (Nat.le_of_ble_eq_true rfl) (fun p e s m args below meth c ls Q X hH hl E => ?_)
  have hx := X.1
  have hb := X.2.1
  have hown := X.2.2.2.1
  have hts := X.2.2.2.2.1
  have hS : va_S (gA G) s.heap s.heap [] := va_S.rf
  unfold oX11_calibrate at ho
  have hl : lv_has ls 3 [(0, .ref (ga G r)), (1, .int p1), (2, .int p2)] := hl
  refine lv_aload_n hx hb dX11_calibrate_0 rfl (lv_at hl 0 rfl) ?_
  have hq1 := ho.1
  have ho := ho.2
  refine k_X11_begins X hS hH hk_r hq1 t_ml_VernierDrawersModel_180 hl.1 (Nat.le_of_ble_eq_true rfl) ⟨Nat.le_of_ble_eq_true rfl, Nat.le_of_ble_eq_true rfl⟩ ⟨Nat.zero_le _, Nat.zero_le _⟩ dX11_calibrate_1 (fun da H locs v2 ev2 hH hS => ?_)
  have ho := ho v2 ev2
  refine lv_aload_n hx hb dX11_calibrate_4 rfl (lv_at hl 0 rfl) ?_
  refine lv_aload_n hx hb dX11_calibrate_5 rfl (lv_at hl 0 rfl) ?_
  refine lv_iload_n hx hb dX11_calibrate_6 rfl (lv_at hl 1 rfl) ?_
  refine lv_iload_n hx hb dX11_calibrate_7 rfl (lv_at hl 2 rfl) ?_
  have hq3 := ho.1
  have ho := ho.2
  refine k_X11_goCalibrate X hS hH hk_r hq3 t_ml_VernierDrawersModel_189 hl.1 (Nat.le_of_ble_eq_true rfl) ⟨Nat.le_of_ble_eq_true rfl, Nat.le_of_ble_eq_true rfl⟩ ⟨Nat.zero_le _, Nat.zero_le _⟩ dX11_calibrate_8 (fun da H locs v4 ev4 hH hS => ?_)
  have ho := ho v4 ev4
  refine lv_iconst (v := 2) hx hb dX11_calibrate_11 (by decide) ?_
  have hq5 := ho
  refine k_X11_ends X hS hH hk_r hq5 t_ml_VernierDrawersModel_183 hl.1 (Nat.le_of_ble_eq_true rfl) ⟨Nat.le_of_ble_eq_true rfl, Nat.le_of_ble_eq_true rfl⟩ ⟨Nat.zero_le _, Nat.zero_le _⟩ dX11_calibrate_12 (fun da H locs v6 ev6 hH hS => ?_)
  replace ev2 := Eq.symm ev2
  replace ev4 := Eq.symm ev4
  replace ev6 := Eq.symm ev6
  subst ev2 ev4 ev6
  exact E _ _ _ _ _ _ _ _ _ dX11_calibrate_15 rfl (pr1 rfl) (pr2 rfl) hH hS (Nat.zero_le _) (Nat.zero_le _)
theorem k_X11_calibrate {p : Program} {l : Launch} {e : Env} {R : Room} {s : State} {m : MethodId} {args : Array Value} {below : List Frame} {meth : Method} {c : Code} {H : Heap} {locs : List Loc} {cells slots : Nat} {Q : State → Prop} {cc : ByteArray} {pc nL : Nat} {ls : Array Slot} {rest : List Value} {G : gG} {own : String} {da : Nat → Nat} {v : vSt} {x : gX} (X : CX G p s m args c cc nL own) (hS : va_S (gA G) s.heap H locs) (hH : Hp G da v x H) {r : Nat} (hk_r : kd r = 11) {p1 : Int32} {p2 : Int32} (ho : oX11_calibrate r p1 p2 v) {idx : Nat} (hml : Cond.methodLink own idx yX11_calibrate ∈ TT) (hls : ls.size = nL) (hsum : (rest.map fun v => v.category).sum ≤ 8) (hR : rmX11_calibrate.frames + 1 ≤ R.frames ∧ 8 + (3 + 11) + rmX11_calibrate.locals ≤ R.locals) (hcs : cells ≤ R.cells ∧ slots ≤ R.slots) (hdg : decode cc pc = .ok (.invokevirtual idx, 3)) (kk : ∀ (d : Nat → Nat) (H1 : Heap) (locs1 : List Loc) (v1 : vSt), v1 = (fX11_calibrate r p1 p2 v).2 → Hp G d v1 x H1 → va_S (gA G) s.heap H1 locs1 → W p l e R s m args below meth c H1 locs1 cells slots Q (F0 m (pc + 3) ls (.int (fX11_calibrate r p1 p2 v).1 :: rest))) : W p l e R s m args below meth c H locs cells slots Q (F0 m pc ls (.int p2 :: .int p1 :: .ref (ga G r) :: rest)) := c_mi X.2.2.2.2.2.2 (runV (k := 2) X.1 X.2.1 X.2.2.1 X.2.2.2.1 X.2.2.2.2.1 (mX11_calibrate l G da v x r hk_r p1 p2 ho) pW_bl hml t_im_X11_calibrate t_sel_X11_calibrate t_ini_VernierDrawersModel t_code_X11_calibrate ⟨rfl, by decide, by decide, by decide +kernel⟩ rfl rfl hR hcs (recvW X hH (by rw [hk_r]; decide) (by rw [hk_r]; decide) (ce_11 hk_r) rfl) (preW X hS hH) rfl hls rfl hsum hdg) hS kk
def fX11_endDay (r : Nat) (v : vSt) : Int32 × vSt := let v2 : vSt := fX11_begins r v; let v4 : vSt := (fX11_goDay r v2).2; let v6 : vSt := (fX11_ends r ((fX11_goDay r v2).1) 1 v4).2; ((fX11_ends r ((fX11_goDay r v2).1) 1 v4).1, v6)
def oX11_endDay (r : Nat) (v : vSt) : Prop := (oX11_begins r v) ∧ (∀ v2 : vSt, v2 = (fX11_begins r v) → ((oX11_goDay r v2) ∧ (∀ v4 : vSt, v4 = ((fX11_goDay r v2).2) → (oX11_ends r ((fX11_goDay r v2).1) 1 v4))))
abbrev rmX11_endDay : Room := { frames := 3, cells := 0, slots := 0, locals := 67 }
theorem dX11_endDay_0 : decode cX11_endDay 0 = .ok (.aload_n 0, 1) := by decide +kernel
theorem dX11_endDay_1 : decode cX11_endDay 1 = .ok (.invokevirtual 180, 3) := by decide +kernel
theorem dX11_endDay_4 : decode cX11_endDay 4 = .ok (.aload_n 0, 1) := by decide +kernel
theorem dX11_endDay_5 : decode cX11_endDay 5 = .ok (.aload_n 0, 1) := by decide +kernel
theorem dX11_endDay_6 : decode cX11_endDay 6 = .ok (.invokevirtual 192, 3) := by decide +kernel
theorem dX11_endDay_9 : decode cX11_endDay 9 = .ok (.iconst 1, 1) := by decide +kernel
theorem dX11_endDay_10 : decode cX11_endDay 10 = .ok (.invokevirtual 183, 3) := by decide +kernel
theorem dX11_endDay_13 : decode cX11_endDay 13 = .ok (.ireturn, 1) := by decide +kernel
set_option maxHeartbeats 8000000 in
set_option maxRecDepth 100000 in
theorem mX11_endDay (l : Launch) (G : gG) (da : Nat → Nat) (v : vSt) (x : gX) (r : Nat) (hk_r : kd r = 11) (ho : oX11_endDay r v) : MI l yX11_endDay cX11_endDay 1 (some .int) rmX11_endDay [.ref (ga G r)] G da v x 0 0 (fX11_endDay r v).1 (fX11_endDay r v).2 x := by
  refine gofMI (own := RX11) (by decide) rfl (Nat.le_of_ble_eq_true rfl) (fun p e s m args below meth c ls Q X hH hl E => ?_)
  have hx := X.1
  have hb := X.2.1
  have hown := X.2.2.2.1
  have hts := X.2.2.2.2.1
  have hS : va_S (gA G) s.heap s.heap [] := va_S.rf
  unfold oX11_endDay at ho
  have hl : lv_has ls 1 [(0, .ref (ga G r))] := hl
  refine lv_aload_n hx hb dX11_endDay_0 rfl (lv_at hl 0 rfl) ?_
  have hq1 := ho.1
  have ho := ho.2
  refine k_X11_begins X hS hH hk_r hq1 t_ml_VernierDrawersModel_180 hl.1 (Nat.le_of_ble_eq_true rfl) ⟨Nat.le_of_ble_eq_true rfl, Nat.le_of_ble_eq_true rfl⟩ ⟨Nat.zero_le _, Nat.zero_le _⟩ dX11_endDay_1 (fun da H locs v2 ev2 hH hS => ?_)
  have ho := ho v2 ev2
  refine lv_aload_n hx hb dX11_endDay_4 rfl (lv_at hl 0 rfl) ?_
  refine lv_aload_n hx hb dX11_endDay_5 rfl (lv_at hl 0 rfl) ?_
  have hq3 := ho.1
  have ho := ho.2
  refine k_X11_goDay X hS hH hk_r hq3 t_ml_VernierDrawersModel_192 hl.1 (Nat.le_of_ble_eq_true rfl) ⟨Nat.le_of_ble_eq_true rfl, Nat.le_of_ble_eq_true rfl⟩ ⟨Nat.zero_le _, Nat.zero_le _⟩ dX11_endDay_6 (fun da H locs v4 ev4 hH hS => ?_)
  have ho := ho v4 ev4
  refine lv_iconst (v := 1) hx hb dX11_endDay_9 (by decide) ?_
  have hq5 := ho
  refine k_X11_ends X hS hH hk_r hq5 t_ml_VernierDrawersModel_183 hl.1 (Nat.le_of_ble_eq_true rfl) ⟨Nat.le_of_ble_eq_true rfl, Nat.le_of_ble_eq_true rfl⟩ ⟨Nat.zero_le _, Nat.zero_le _⟩ dX11_endDay_10 (fun da H locs v6 ev6 hH hS => ?_)
  replace ev2 := Eq.symm ev2
  replace ev4 := Eq.symm ev4
  replace ev6 := Eq.symm ev6
  subst ev2 ev4 ev6
  exact E _ _ _ _ _ _ _ _ _ dX11_endDay_13 rfl (pr1 rfl) (pr2 rfl) hH hS (Nat.zero_le _) (Nat.zero_le _)
theorem k_X11_endDay {p : Program} {l : Launch} {e : Env} {R : Room} {s : State} {m : MethodId} {args : Array Value} {below : List Frame} {meth : Method} {c : Code} {H : Heap} {locs : List Loc} {cells slots : Nat} {Q : State → Prop} {cc : ByteArray} {pc nL : Nat} {ls : Array Slot} {rest : List Value} {G : gG} {own : String} {da : Nat → Nat} {v : vSt} {x : gX} (X : CX G p s m args c cc nL own) (hS : va_S (gA G) s.heap H locs) (hH : Hp G da v x H) {r : Nat} (hk_r : kd r = 11) (ho : oX11_endDay r v) {idx : Nat} (hml : Cond.methodLink own idx yX11_endDay ∈ TT) (hls : ls.size = nL) (hsum : (rest.map fun v => v.category).sum ≤ 8) (hR : rmX11_endDay.frames + 1 ≤ R.frames ∧ 8 + (1 + 11) + rmX11_endDay.locals ≤ R.locals) (hcs : cells ≤ R.cells ∧ slots ≤ R.slots) (hdg : decode cc pc = .ok (.invokevirtual idx, 3)) (kk : ∀ (d : Nat → Nat) (H1 : Heap) (locs1 : List Loc) (v1 : vSt), v1 = (fX11_endDay r v).2 → Hp G d v1 x H1 → va_S (gA G) s.heap H1 locs1 → W p l e R s m args below meth c H1 locs1 cells slots Q (F0 m (pc + 3) ls (.int (fX11_endDay r v).1 :: rest))) : W p l e R s m args below meth c H locs cells slots Q (F0 m pc ls (.ref (ga G r) :: rest)) := c_mi X.2.2.2.2.2.2 (runV (k := 0) X.1 X.2.1 X.2.2.1 X.2.2.2.1 X.2.2.2.2.1 (mX11_endDay l G da v x r hk_r ho) pW_bl hml t_im_X11_endDay t_sel_X11_endDay t_ini_VernierDrawersModel t_code_X11_endDay ⟨rfl, by decide, by decide, by decide +kernel⟩ rfl rfl hR hcs (recvW X hH (by rw [hk_r]; decide) (by rw [hk_r]; decide) (ce_11 hk_r) rfl) (preW X hS hH) rfl hls rfl hsum hdg) hS kk
def fX11_addType (r : Nat) (p1 : Int32) (p2 : Int32) (p3 : Int32) (p4 : Int32) (v : vSt) : Int32 × vSt := let v2 : vSt := fX11_begins r v; if ((fX11_in p1 100 14000) : Int32) = 0 then (let v4 : vSt := (fX11_fails r 1 v2).2; ((fX11_fails r 1 v2).1, v4)) else (if ((fX11_in p2 (-99) 0) : Int32) = 0 then (let v6 : vSt := (fX11_fails r 1 v2).2; ((fX11_fails r 1 v2).1, v6)) else (if ((fX11_in p3 0 99) : Int32) = 0 then (let v8 : vSt := (fX11_fails r 1 v2).2; ((fX11_fails r 1 v2).1, v8)) else (if ((fX11_isMaterial p4) : Int32) = 0 then (let v24 : vSt := (fX11_fails r 1 v2).2; ((fX11_fails r 1 v2).1, v24)) else (if ((v2 462 (205 : Int32).toNatClampNeg) : Int32) = 5 then (let v23 : vSt := (fX11_fails r 2 v2).2; ((fX11_fails r 2 v2).1, v23)) else (let v13 : vSt := fX11_lays r (v2 462 (205 : Int32).toNatClampNeg) 0 p1 v2; let v15 : vSt := fX11_lays r (v2 462 (205 : Int32).toNatClampNeg) 1 p2 v13; let v17 : vSt := fX11_lays r (v2 462 (205 : Int32).toNatClampNeg) 2 p3 v15; let v19 : vSt := fX11_lays r (v2 462 (205 : Int32).toNatClampNeg) 3 p4 v17; let v20 : vSt := u2 v19 462 (205 : Int32).toNatClampNeg ((v19 462 (205 : Int32).toNatClampNeg) + 1); let v22 : vSt := (fX11_ends r (v2 462 (205 : Int32).toNatClampNeg) 2 v20).2; ((fX11_ends r (v2 462 (205 : Int32).toNatClampNeg) 2 v20).1, v22))))))
def oX11_addType (r : Nat) (p1 : Int32) (p2 : Int32) (p3 : Int32) (p4 : Int32) (v : vSt) : Prop := (oX11_begins r v) ∧ (∀ v2 : vSt, v2 = (fX11_begins r v) → (¬ (((fX11_in p1 100 14000) : Int32) = 0) → (¬ (((fX11_in p2 (-99) 0) : Int32) = 0) → (¬ (((fX11_in p3 0 99) : Int32) = 0) → (¬ (((fX11_isMaterial p4) : Int32) = 0) → ((vp_in (205) (mlen 462)) ∧ (¬ (((v2 462 (205 : Int32).toNatClampNeg) : Int32) = 5) → ((oX11_lays r (v2 462 (205 : Int32).toNatClampNeg) 0 p1 v2) ∧ (∀ v13 : vSt, v13 = (fX11_lays r (v2 462 (205 : Int32).toNatClampNeg) 0 p1 v2) → ((oX11_lays r (v2 462 (205 : Int32).toNatClampNeg) 1 p2 v13) ∧ (∀ v15 : vSt, v15 = (fX11_lays r (v2 462 (205 : Int32).toNatClampNeg) 1 p2 v13) → ((oX11_lays r (v2 462 (205 : Int32).toNatClampNeg) 2 p3 v15) ∧ (∀ v17 : vSt, v17 = (fX11_lays r (v2 462 (205 : Int32).toNatClampNeg) 2 p3 v15) → ((oX11_lays r (v2 462 (205 : Int32).toNatClampNeg) 3 p4 v17) ∧ (∀ v19 : vSt, v19 = (fX11_lays r (v2 462 (205 : Int32).toNatClampNeg) 3 p4 v17) → (∀ v20 : vSt, v20 = (u2 v19 462 (205 : Int32).toNatClampNeg ((v19 462 (205 : Int32).toNatClampNeg) + 1)) → (oX11_ends r (v2 462 (205 : Int32).toNatClampNeg) 2 v20)))))))))))))))))
abbrev rmX11_addType : Room := { frames := 3, cells := 0, slots := 0, locals := 67 }
theorem dX11_addType_0 : decode cX11_addType 0 = .ok (.aload_n 0, 1) := by decide +kernel
theorem dX11_addType_1 : decode cX11_addType 1 = .ok (.invokevirtual 180, 3) := by decide +kernel
theorem dX11_addType_4 : decode cX11_addType 4 = .ok (.iload_n 1, 1) := by decide +kernel
theorem dX11_addType_5 : decode cX11_addType 5 = .ok (.bipush 100, 2) := by decide +kernel
theorem dX11_addType_7 : decode cX11_addType 7 = .ok (.sipush 14000, 3) := by decide +kernel
theorem dX11_addType_10 : decode cX11_addType 10 = .ok (.invokestatic 49, 3) := by decide +kernel
theorem dX11_addType_13 : decode cX11_addType 13 = .ok (.ifCond .eq 31, 3) := by decide +kernel
theorem dX11_addType_16 : decode cX11_addType 16 = .ok (.iload_n 2, 1) := by decide +kernel
theorem dX11_addType_17 : decode cX11_addType 17 = .ok (.bipush (-99), 2) := by decide +kernel
theorem dX11_addType_19 : decode cX11_addType 19 = .ok (.iconst 0, 1) := by decide +kernel
theorem dX11_addType_20 : decode cX11_addType 20 = .ok (.invokestatic 49, 3) := by decide +kernel
theorem dX11_addType_23 : decode cX11_addType 23 = .ok (.ifCond .eq 21, 3) := by decide +kernel
theorem dX11_addType_26 : decode cX11_addType 26 = .ok (.iload_n 3, 1) := by decide +kernel
theorem dX11_addType_27 : decode cX11_addType 27 = .ok (.iconst 0, 1) := by decide +kernel
theorem dX11_addType_28 : decode cX11_addType 28 = .ok (.bipush 99, 2) := by decide +kernel
theorem dX11_addType_30 : decode cX11_addType 30 = .ok (.invokestatic 49, 3) := by decide +kernel
theorem dX11_addType_33 : decode cX11_addType 33 = .ok (.ifCond .eq 11, 3) := by decide +kernel
theorem dX11_addType_36 : decode cX11_addType 36 = .ok (.iload 4, 2) := by decide +kernel
theorem dX11_addType_38 : decode cX11_addType 38 = .ok (.invokestatic 132, 3) := by decide +kernel
theorem dX11_addType_41 : decode cX11_addType 41 = .ok (.ifCond .ne 9, 3) := by decide +kernel
theorem dX11_addType_44 : decode cX11_addType 44 = .ok (.aload_n 0, 1) := by decide +kernel
theorem dX11_addType_45 : decode cX11_addType 45 = .ok (.iconst 1, 1) := by decide +kernel
theorem dX11_addType_46 : decode cX11_addType 46 = .ok (.invokevirtual 42, 3) := by decide +kernel
theorem dX11_addType_49 : decode cX11_addType 49 = .ok (.ireturn, 1) := by decide +kernel
theorem dX11_addType_50 : decode cX11_addType 50 = .ok (.aload_n 0, 1) := by decide +kernel
theorem dX11_addType_51 : decode cX11_addType 51 = .ok (.getfield 7, 3) := by decide +kernel
theorem dX11_addType_54 : decode cX11_addType 54 = .ok (.sipush 205, 3) := by decide +kernel
theorem dX11_addType_57 : decode cX11_addType 57 = .ok (.iaload, 1) := by decide +kernel
theorem dX11_addType_58 : decode cX11_addType 58 = .ok (.istore 5, 2) := by decide +kernel
theorem dX11_addType_60 : decode cX11_addType 60 = .ok (.iload 5, 2) := by decide +kernel
theorem dX11_addType_62 : decode cX11_addType 62 = .ok (.iconst 5, 1) := by decide +kernel
theorem dX11_addType_63 : decode cX11_addType 63 = .ok (.if_icmp .ne 9, 3) := by decide +kernel
theorem dX11_addType_66 : decode cX11_addType 66 = .ok (.aload_n 0, 1) := by decide +kernel
theorem dX11_addType_67 : decode cX11_addType 67 = .ok (.iconst 2, 1) := by decide +kernel
theorem dX11_addType_68 : decode cX11_addType 68 = .ok (.invokevirtual 42, 3) := by decide +kernel
theorem dX11_addType_71 : decode cX11_addType 71 = .ok (.ireturn, 1) := by decide +kernel
theorem dX11_addType_72 : decode cX11_addType 72 = .ok (.aload_n 0, 1) := by decide +kernel
theorem dX11_addType_73 : decode cX11_addType 73 = .ok (.iload 5, 2) := by decide +kernel
theorem dX11_addType_75 : decode cX11_addType 75 = .ok (.iconst 0, 1) := by decide +kernel
theorem dX11_addType_76 : decode cX11_addType 76 = .ok (.iload_n 1, 1) := by decide +kernel
theorem dX11_addType_77 : decode cX11_addType 77 = .ok (.invokevirtual 116, 3) := by decide +kernel
theorem dX11_addType_80 : decode cX11_addType 80 = .ok (.aload_n 0, 1) := by decide +kernel
theorem dX11_addType_81 : decode cX11_addType 81 = .ok (.iload 5, 2) := by decide +kernel
theorem dX11_addType_83 : decode cX11_addType 83 = .ok (.iconst 1, 1) := by decide +kernel
theorem dX11_addType_84 : decode cX11_addType 84 = .ok (.iload_n 2, 1) := by decide +kernel
theorem dX11_addType_85 : decode cX11_addType 85 = .ok (.invokevirtual 116, 3) := by decide +kernel
theorem dX11_addType_88 : decode cX11_addType 88 = .ok (.aload_n 0, 1) := by decide +kernel
theorem dX11_addType_89 : decode cX11_addType 89 = .ok (.iload 5, 2) := by decide +kernel
theorem dX11_addType_91 : decode cX11_addType 91 = .ok (.iconst 2, 1) := by decide +kernel
theorem dX11_addType_92 : decode cX11_addType 92 = .ok (.iload_n 3, 1) := by decide +kernel
theorem dX11_addType_93 : decode cX11_addType 93 = .ok (.invokevirtual 116, 3) := by decide +kernel
theorem dX11_addType_96 : decode cX11_addType 96 = .ok (.aload_n 0, 1) := by decide +kernel
theorem dX11_addType_97 : decode cX11_addType 97 = .ok (.iload 5, 2) := by decide +kernel
theorem dX11_addType_99 : decode cX11_addType 99 = .ok (.iconst 3, 1) := by decide +kernel
theorem dX11_addType_100 : decode cX11_addType 100 = .ok (.iload 4, 2) := by decide +kernel
theorem dX11_addType_102 : decode cX11_addType 102 = .ok (.invokevirtual 116, 3) := by decide +kernel
theorem dX11_addType_105 : decode cX11_addType 105 = .ok (.aload_n 0, 1) := by decide +kernel
theorem dX11_addType_106 : decode cX11_addType 106 = .ok (.getfield 7, 3) := by decide +kernel
theorem dX11_addType_109 : decode cX11_addType 109 = .ok (.sipush 205, 3) := by decide +kernel
theorem dX11_addType_112 : decode cX11_addType 112 = .ok (.dup2, 1) := by decide +kernel
theorem dX11_addType_113 : decode cX11_addType 113 = .ok (.iaload, 1) := by decide +kernel
theorem dX11_addType_114 : decode cX11_addType 114 = .ok (.iconst 1, 1) := by decide +kernel
theorem dX11_addType_115 : decode cX11_addType 115 = .ok (.iadd, 1) := by decide +kernel
theorem dX11_addType_116 : decode cX11_addType 116 = .ok (.iastore, 1) := by decide +kernel
theorem dX11_addType_117 : decode cX11_addType 117 = .ok (.aload_n 0, 1) := by decide +kernel
theorem dX11_addType_118 : decode cX11_addType 118 = .ok (.iload 5, 2) := by decide +kernel
theorem dX11_addType_120 : decode cX11_addType 120 = .ok (.iconst 2, 1) := by decide +kernel
theorem dX11_addType_121 : decode cX11_addType 121 = .ok (.invokevirtual 183, 3) := by decide +kernel
theorem dX11_addType_124 : decode cX11_addType 124 = .ok (.ireturn, 1) := by decide +kernel
set_option maxHeartbeats 8000000 in
set_option maxRecDepth 100000 in
theorem mX11_addType (l : Launch) (G : gG) (da : Nat → Nat) (v : vSt) (x : gX) (r : Nat) (hk_r : kd r = 11) (p1 : Int32) (p2 : Int32) (p3 : Int32) (p4 : Int32) (ho : oX11_addType r p1 p2 p3 p4 v) : MI l yX11_addType cX11_addType 6 (some .int) rmX11_addType [.ref (ga G r), .int p1, .int p2, .int p3, .int p4] G da v x 0 0 (fX11_addType r p1 p2 p3 p4 v).1 (fX11_addType r p1 p2 p3 p4 v).2 x := by
  refine gofMI (own := RX11) (by decide) rfl (Nat.le_of_ble_eq_true rfl) (fun p e s m args below meth c ls Q X hH hl E => ?_)
  have hx := X.1
  have hb := X.2.1
  have hown := X.2.2.2.1
  have hts := X.2.2.2.2.1
  have hS : va_S (gA G) s.heap s.heap [] := va_S.rf
  unfold oX11_addType at ho
  have hl : lv_has ls 6 [(0, .ref (ga G r)), (1, .int p1), (2, .int p2), (3, .int p3), (4, .int p4)] := hl
  refine lv_aload_n hx hb dX11_addType_0 rfl (lv_at hl 0 rfl) ?_
  have hq1 := ho.1
  have ho := ho.2
  refine k_X11_begins X hS hH hk_r hq1 t_ml_VernierDrawersModel_180 hl.1 (Nat.le_of_ble_eq_true rfl) ⟨Nat.le_of_ble_eq_true rfl, Nat.le_of_ble_eq_true rfl⟩ ⟨Nat.zero_le _, Nat.zero_le _⟩ dX11_addType_1 (fun da H locs v2 ev2 hH hS => ?_)
  have ho := ho v2 ev2
  refine lv_iload_n hx hb dX11_addType_4 rfl (lv_at hl 1 rfl) ?_
  refine lv_bipush (v := 100) hx hb dX11_addType_5 (by decide) ?_
  refine lv_sipush (v := 14000) hx hb dX11_addType_7 (by decide) ?_
  refine k_X11_in X hS  t_ml_VernierDrawersModel_49 hl.1 (Nat.le_of_ble_eq_true rfl) ⟨Nat.le_of_ble_eq_true rfl, Nat.le_of_ble_eq_true rfl⟩ ⟨Nat.zero_le _, Nat.zero_le _⟩ dX11_addType_10 ?_
  refine lv_if_eq (tgt := 44) hx hb dX11_addType_13 (by decide) (fun c3 => ?_) (fun c3 => ?_)
  · skip
    refine lv_aload_n hx hb dX11_addType_44 rfl (lv_at hl 0 rfl) ?_
    refine lv_iconst (v := 1) hx hb dX11_addType_45 (by decide) ?_
    refine k_X11_fails X hS hH hk_r t_ml_VernierDrawersModel_42 hl.1 (Nat.le_of_ble_eq_true rfl) ⟨Nat.le_of_ble_eq_true rfl, Nat.le_of_ble_eq_true rfl⟩ ⟨Nat.zero_le _, Nat.zero_le _⟩ dX11_addType_46 (fun da H locs v4 ev4 hH hS => ?_)
    replace ev2 := Eq.symm ev2
    replace ev4 := Eq.symm ev4
    subst ev2 ev4
    exact E _ _ _ _ _ _ _ _ _ dX11_addType_49 rfl (pr1 ((fX11_addType.eq_1 _ _ _ _ _ _).trans ((if_pos c3).trans rfl))) (pr2 ((fX11_addType.eq_1 _ _ _ _ _ _).trans ((if_pos c3).trans rfl))) hH hS (Nat.zero_le _) (Nat.zero_le _)
  · have ho := ho c3
    refine lv_iload_n hx hb dX11_addType_16 rfl (lv_at hl 2 rfl) ?_
    refine lv_bipush (v := (-99)) hx hb dX11_addType_17 (by decide) ?_
    refine lv_iconst (v := 0) hx hb dX11_addType_19 (by decide) ?_
    refine k_X11_in X hS  t_ml_VernierDrawersModel_49 hl.1 (Nat.le_of_ble_eq_true rfl) ⟨Nat.le_of_ble_eq_true rfl, Nat.le_of_ble_eq_true rfl⟩ ⟨Nat.zero_le _, Nat.zero_le _⟩ dX11_addType_20 ?_
    refine lv_if_eq (tgt := 44) hx hb dX11_addType_23 (by decide) (fun c5 => ?_) (fun c5 => ?_)
    · skip
      refine lv_aload_n hx hb dX11_addType_44 rfl (lv_at hl 0 rfl) ?_
      refine lv_iconst (v := 1) hx hb dX11_addType_45 (by decide) ?_
      refine k_X11_fails X hS hH hk_r t_ml_VernierDrawersModel_42 hl.1 (Nat.le_of_ble_eq_true rfl) ⟨Nat.le_of_ble_eq_true rfl, Nat.le_of_ble_eq_true rfl⟩ ⟨Nat.zero_le _, Nat.zero_le _⟩ dX11_addType_46 (fun da H locs v6 ev6 hH hS => ?_)
      replace ev2 := Eq.symm ev2
      replace ev6 := Eq.symm ev6
      subst ev2 ev6
      exact E _ _ _ _ _ _ _ _ _ dX11_addType_49 rfl (pr1 ((fX11_addType.eq_1 _ _ _ _ _ _).trans ((if_neg c3).trans ((if_pos c5).trans rfl)))) (pr2 ((fX11_addType.eq_1 _ _ _ _ _ _).trans ((if_neg c3).trans ((if_pos c5).trans rfl)))) hH hS (Nat.zero_le _) (Nat.zero_le _)
    · have ho := ho c5
      refine lv_iload_n hx hb dX11_addType_26 rfl (lv_at hl 3 rfl) ?_
      refine lv_iconst (v := 0) hx hb dX11_addType_27 (by decide) ?_
      refine lv_bipush (v := 99) hx hb dX11_addType_28 (by decide) ?_
      refine k_X11_in X hS  t_ml_VernierDrawersModel_49 hl.1 (Nat.le_of_ble_eq_true rfl) ⟨Nat.le_of_ble_eq_true rfl, Nat.le_of_ble_eq_true rfl⟩ ⟨Nat.zero_le _, Nat.zero_le _⟩ dX11_addType_30 ?_
      refine lv_if_eq (tgt := 44) hx hb dX11_addType_33 (by decide) (fun c7 => ?_) (fun c7 => ?_)
      · skip
        refine lv_aload_n hx hb dX11_addType_44 rfl (lv_at hl 0 rfl) ?_
        refine lv_iconst (v := 1) hx hb dX11_addType_45 (by decide) ?_
        refine k_X11_fails X hS hH hk_r t_ml_VernierDrawersModel_42 hl.1 (Nat.le_of_ble_eq_true rfl) ⟨Nat.le_of_ble_eq_true rfl, Nat.le_of_ble_eq_true rfl⟩ ⟨Nat.zero_le _, Nat.zero_le _⟩ dX11_addType_46 (fun da H locs v8 ev8 hH hS => ?_)
        replace ev2 := Eq.symm ev2
        replace ev8 := Eq.symm ev8
        subst ev2 ev8
        exact E _ _ _ _ _ _ _ _ _ dX11_addType_49 rfl (pr1 ((fX11_addType.eq_1 _ _ _ _ _ _).trans ((if_neg c3).trans ((if_neg c5).trans ((if_pos c7).trans rfl))))) (pr2 ((fX11_addType.eq_1 _ _ _ _ _ _).trans ((if_neg c3).trans ((if_neg c5).trans ((if_pos c7).trans rfl))))) hH hS (Nat.zero_le _) (Nat.zero_le _)
      · have ho := ho c7
        refine lv_iload hx hb dX11_addType_36 (lv_at hl 4 rfl) ?_
        refine k_X11_isMaterial X hS  t_ml_VernierDrawersModel_132 hl.1 (Nat.le_of_ble_eq_true rfl) ⟨Nat.le_of_ble_eq_true rfl, Nat.le_of_ble_eq_true rfl⟩ ⟨Nat.zero_le _, Nat.zero_le _⟩ dX11_addType_38 ?_
        refine lv_if_ne (tgt := 50) hx hb dX11_addType_41 (by decide) (fun c9 => ?_) (fun c9 => ?_)
        · have ho := ho c9
          refine lv_aload_n hx hb dX11_addType_50 rfl (lv_at hl 0 rfl) ?_
          refine g_VernierDrawersModel_7 X hH hk_r dX11_addType_51 ?_
          refine lv_sipush (v := 205) hx hb dX11_addType_54 (by decide) ?_
          have hq10 := ho.1
          have ho := ho.2
          refine ald_M X hH (Or.inl kd_462) hq10 dX11_addType_57 ?_
          refine lv_istore (lv' := [(5, .int (v2 462 (205 : Int32).toNatClampNeg)), (0, .ref (ga G r)), (1, .int p1), (2, .int p2), (3, .int p3), (4, .int p4)]) hx hb dX11_addType_58 hl (by decide) rfl (fun ls hl => ?_)
          refine lv_iload hx hb dX11_addType_60 (lv_at hl 0 rfl) ?_
          refine lv_iconst (v := 5) hx hb dX11_addType_62 (by decide) ?_
          refine lv_icmp_ne (tgt := 72) hx hb dX11_addType_63 (by decide) (fun c11 => ?_) (fun c11 => ?_)
          · have ho := ho c11
            refine lv_aload_n hx hb dX11_addType_72 rfl (lv_at hl 1 rfl) ?_
            refine lv_iload hx hb dX11_addType_73 (lv_at hl 0 rfl) ?_
            refine lv_iconst (v := 0) hx hb dX11_addType_75 (by decide) ?_
            refine lv_iload_n hx hb dX11_addType_76 rfl (lv_at hl 2 rfl) ?_
            have hq12 := ho.1
            have ho := ho.2
            refine k_X11_lays X hS hH hk_r hq12 t_ml_VernierDrawersModel_116 hl.1 (Nat.le_of_ble_eq_true rfl) ⟨Nat.le_of_ble_eq_true rfl, Nat.le_of_ble_eq_true rfl⟩ ⟨Nat.zero_le _, Nat.zero_le _⟩ dX11_addType_77 (fun da H locs v13 ev13 hH hS => ?_)
            have ho := ho v13 ev13
            refine lv_aload_n hx hb dX11_addType_80 rfl (lv_at hl 1 rfl) ?_
            refine lv_iload hx hb dX11_addType_81 (lv_at hl 0 rfl) ?_
            refine lv_iconst (v := 1) hx hb dX11_addType_83 (by decide) ?_
            refine lv_iload_n hx hb dX11_addType_84 rfl (lv_at hl 3 rfl) ?_
            have hq14 := ho.1
            have ho := ho.2
            refine k_X11_lays X hS hH hk_r hq14 t_ml_VernierDrawersModel_116 hl.1 (Nat.le_of_ble_eq_true rfl) ⟨Nat.le_of_ble_eq_true rfl, Nat.le_of_ble_eq_true rfl⟩ ⟨Nat.zero_le _, Nat.zero_le _⟩ dX11_addType_85 (fun da H locs v15 ev15 hH hS => ?_)
            have ho := ho v15 ev15
            refine lv_aload_n hx hb dX11_addType_88 rfl (lv_at hl 1 rfl) ?_
            refine lv_iload hx hb dX11_addType_89 (lv_at hl 0 rfl) ?_
            refine lv_iconst (v := 2) hx hb dX11_addType_91 (by decide) ?_
            refine lv_iload_n hx hb dX11_addType_92 rfl (lv_at hl 4 rfl) ?_
            have hq16 := ho.1
            have ho := ho.2
            refine k_X11_lays X hS hH hk_r hq16 t_ml_VernierDrawersModel_116 hl.1 (Nat.le_of_ble_eq_true rfl) ⟨Nat.le_of_ble_eq_true rfl, Nat.le_of_ble_eq_true rfl⟩ ⟨Nat.zero_le _, Nat.zero_le _⟩ dX11_addType_93 (fun da H locs v17 ev17 hH hS => ?_)
            have ho := ho v17 ev17
            refine lv_aload_n hx hb dX11_addType_96 rfl (lv_at hl 1 rfl) ?_
            refine lv_iload hx hb dX11_addType_97 (lv_at hl 0 rfl) ?_
            refine lv_iconst (v := 3) hx hb dX11_addType_99 (by decide) ?_
            refine lv_iload hx hb dX11_addType_100 (lv_at hl 5 rfl) ?_
            have hq18 := ho.1
            have ho := ho.2
            refine k_X11_lays X hS hH hk_r hq18 t_ml_VernierDrawersModel_116 hl.1 (Nat.le_of_ble_eq_true rfl) ⟨Nat.le_of_ble_eq_true rfl, Nat.le_of_ble_eq_true rfl⟩ ⟨Nat.zero_le _, Nat.zero_le _⟩ dX11_addType_102 (fun da H locs v19 ev19 hH hS => ?_)
            have ho := ho v19 ev19
            refine lv_aload_n hx hb dX11_addType_105 rfl (lv_at hl 1 rfl) ?_
            refine g_VernierDrawersModel_7 X hH hk_r dX11_addType_106 ?_
            refine lv_sipush (v := 205) hx hb dX11_addType_109 (by decide) ?_
            refine lv_dup2_11 hx hb dX11_addType_112 rfl rfl ?_
            refine ald_M X hH (Or.inl kd_462) hq10 dX11_addType_113 ?_
            refine lv_iconst (v := 1) hx hb dX11_addType_114 (by decide) ?_
            refine lv_iadd hx hb dX11_addType_115 ?_
            refine ast_M X hH hS (Or.inl kd_462) hq10 dX11_addType_116 (fun H locs v20 ev20 hH hS => ?_)
            have ho := ho v20 ev20
            refine lv_aload_n hx hb dX11_addType_117 rfl (lv_at hl 1 rfl) ?_
            refine lv_iload hx hb dX11_addType_118 (lv_at hl 0 rfl) ?_
            refine lv_iconst (v := 2) hx hb dX11_addType_120 (by decide) ?_
            have hq21 := ho
            refine k_X11_ends X hS hH hk_r hq21 t_ml_VernierDrawersModel_183 hl.1 (Nat.le_of_ble_eq_true rfl) ⟨Nat.le_of_ble_eq_true rfl, Nat.le_of_ble_eq_true rfl⟩ ⟨Nat.zero_le _, Nat.zero_le _⟩ dX11_addType_121 (fun da H locs v22 ev22 hH hS => ?_)
            replace ev2 := Eq.symm ev2
            replace ev13 := Eq.symm ev13
            replace ev15 := Eq.symm ev15
            replace ev17 := Eq.symm ev17
            replace ev19 := Eq.symm ev19
            replace ev20 := Eq.symm ev20
            replace ev22 := Eq.symm ev22
            subst ev2 ev13 ev15 ev17 ev19 ev20 ev22
            exact E _ _ _ _ _ _ _ _ _ dX11_addType_124 rfl (pr1 ((fX11_addType.eq_1 _ _ _ _ _ _).trans ((if_neg c3).trans ((if_neg c5).trans ((if_neg c7).trans ((if_neg c9).trans ((if_neg c11).trans rfl))))))) (pr2 ((fX11_addType.eq_1 _ _ _ _ _ _).trans ((if_neg c3).trans ((if_neg c5).trans ((if_neg c7).trans ((if_neg c9).trans ((if_neg c11).trans rfl))))))) hH hS (Nat.zero_le _) (Nat.zero_le _)
          · skip
            refine lv_aload_n hx hb dX11_addType_66 rfl (lv_at hl 1 rfl) ?_
            refine lv_iconst (v := 2) hx hb dX11_addType_67 (by decide) ?_
            refine k_X11_fails X hS hH hk_r t_ml_VernierDrawersModel_42 hl.1 (Nat.le_of_ble_eq_true rfl) ⟨Nat.le_of_ble_eq_true rfl, Nat.le_of_ble_eq_true rfl⟩ ⟨Nat.zero_le _, Nat.zero_le _⟩ dX11_addType_68 (fun da H locs v23 ev23 hH hS => ?_)
            replace ev2 := Eq.symm ev2
            replace ev23 := Eq.symm ev23
            subst ev2 ev23
            exact E _ _ _ _ _ _ _ _ _ dX11_addType_71 rfl (pr1 ((fX11_addType.eq_1 _ _ _ _ _ _).trans ((if_neg c3).trans ((if_neg c5).trans ((if_neg c7).trans ((if_neg c9).trans ((if_pos c11).trans rfl))))))) (pr2 ((fX11_addType.eq_1 _ _ _ _ _ _).trans ((if_neg c3).trans ((if_neg c5).trans ((if_neg c7).trans ((if_neg c9).trans ((if_pos c11).trans rfl))))))) hH hS (Nat.zero_le _) (Nat.zero_le _)
        · skip
          refine lv_aload_n hx hb dX11_addType_44 rfl (lv_at hl 0 rfl) ?_
          refine lv_iconst (v := 1) hx hb dX11_addType_45 (by decide) ?_
          refine k_X11_fails X hS hH hk_r t_ml_VernierDrawersModel_42 hl.1 (Nat.le_of_ble_eq_true rfl) ⟨Nat.le_of_ble_eq_true rfl, Nat.le_of_ble_eq_true rfl⟩ ⟨Nat.zero_le _, Nat.zero_le _⟩ dX11_addType_46 (fun da H locs v24 ev24 hH hS => ?_)
          replace ev2 := Eq.symm ev2
          replace ev24 := Eq.symm ev24
          subst ev2 ev24
          exact E _ _ _ _ _ _ _ _ _ dX11_addType_49 rfl (pr1 ((fX11_addType.eq_1 _ _ _ _ _ _).trans ((if_neg c3).trans ((if_neg c5).trans ((if_neg c7).trans ((if_pos c9).trans rfl)))))) (pr2 ((fX11_addType.eq_1 _ _ _ _ _ _).trans ((if_neg c3).trans ((if_neg c5).trans ((if_neg c7).trans ((if_pos c9).trans rfl)))))) hH hS (Nat.zero_le _) (Nat.zero_le _)
theorem k_X11_addType {p : Program} {l : Launch} {e : Env} {R : Room} {s : State} {m : MethodId} {args : Array Value} {below : List Frame} {meth : Method} {c : Code} {H : Heap} {locs : List Loc} {cells slots : Nat} {Q : State → Prop} {cc : ByteArray} {pc nL : Nat} {ls : Array Slot} {rest : List Value} {G : gG} {own : String} {da : Nat → Nat} {v : vSt} {x : gX} (X : CX G p s m args c cc nL own) (hS : va_S (gA G) s.heap H locs) (hH : Hp G da v x H) {r : Nat} (hk_r : kd r = 11) {p1 : Int32} {p2 : Int32} {p3 : Int32} {p4 : Int32} (ho : oX11_addType r p1 p2 p3 p4 v) {idx : Nat} (hml : Cond.methodLink own idx yX11_addType ∈ TT) (hls : ls.size = nL) (hsum : (rest.map fun v => v.category).sum ≤ 8) (hR : rmX11_addType.frames + 1 ≤ R.frames ∧ 8 + (6 + 11) + rmX11_addType.locals ≤ R.locals) (hcs : cells ≤ R.cells ∧ slots ≤ R.slots) (hdg : decode cc pc = .ok (.invokevirtual idx, 3)) (kk : ∀ (d : Nat → Nat) (H1 : Heap) (locs1 : List Loc) (v1 : vSt), v1 = (fX11_addType r p1 p2 p3 p4 v).2 → Hp G d v1 x H1 → va_S (gA G) s.heap H1 locs1 → W p l e R s m args below meth c H1 locs1 cells slots Q (F0 m (pc + 3) ls (.int (fX11_addType r p1 p2 p3 p4 v).1 :: rest))) : W p l e R s m args below meth c H locs cells slots Q (F0 m pc ls (.int p4 :: .int p3 :: .int p2 :: .int p1 :: .ref (ga G r) :: rest)) := c_mi X.2.2.2.2.2.2 (runV (k := 4) X.1 X.2.1 X.2.2.1 X.2.2.2.1 X.2.2.2.2.1 (mX11_addType l G da v x r hk_r p1 p2 p3 p4 ho) pW_bl hml t_im_X11_addType t_sel_X11_addType t_ini_VernierDrawersModel t_code_X11_addType ⟨rfl, by decide, by decide, by decide +kernel⟩ rfl rfl hR hcs (recvW X hH (by rw [hk_r]; decide) (by rw [hk_r]; decide) (ce_11 hk_r) rfl) (preW X hS hH) rfl hls rfl hsum hdg) hS kk
