/-! 21.face1 -/
def fX10_measure (r : Nat) (p1 : Int32) (p2 : Int32) (p3 : Int32) (v : vSt) : Nat × Int32 × vSt := if fX10_refuse (fX2_refusalToMeasure ((rN (v r 0)) + 1) p1 p2 p3 v) v = 0 then (let v6 : vSt := fX10_recordState r v; let v8 : vSt := (fX2_measureLength ((rN (v6 r 0)) + 1) p1 p2 p3 v6).2; (0, (fX2_measureLength ((rN (v6 r 0)) + 1) p1 p2 p3 v6).1, v8)) else ((fX10_refuse (fX2_refusalToMeasure ((rN (v r 0)) + 1) p1 p2 p3 v) v, 0, v))

def kkX10_measure (r : Nat) (p1 : Int32) (p2 : Int32) (p3 : Int32) (v : vSt) : Nat := pot ((fX10_measure r p1 p2 p3 v).2.2) - pot v + 36
def oX10_measure (r : Nat) (p1 : Int32) (p2 : Int32) (p3 : Int32) (v : vSt) : Prop := (kd (rN (v r 0)) = 7) ∧ ((0 + 6 ≤ kkX10_measure r p1 p2 p3 v) ∧ ((fX10_refuse (fX2_refusalToMeasure ((rN (v r 0)) + 1) p1 p2 p3 v) v = 0) → ((oX10_recordState r v) ∧ (((0 + 6) + kkX10_recordState r v ≤ kkX10_measure r p1 p2 p3 v) ∧ (∀ v6 : vSt, v6 = (fX10_recordState r v) → (kd (rN (v6 r 0)) = 7))))))
abbrev rmX10_measure (r : Nat) (p1 : Int32) (p2 : Int32) (p3 : Int32) (v : vSt) : Room := { frames := 7, cells := kkX10_measure r p1 p2 p3 v, slots := kkX10_measure r p1 p2 p3 v, locals := 196 }
theorem dX10_measure_0 : decode cX10_measure 0 = .ok (.aload_n 0, 1) := by decide +kernel
theorem dX10_measure_1 : decode cX10_measure 1 = .ok (.getfield 10, 3) := by decide +kernel
theorem dX10_measure_4 : decode cX10_measure 4 = .ok (.getfield 41, 3) := by decide +kernel
theorem dX10_measure_7 : decode cX10_measure 7 = .ok (.iload_n 1, 1) := by decide +kernel
theorem dX10_measure_8 : decode cX10_measure 8 = .ok (.iload_n 2, 1) := by decide +kernel
theorem dX10_measure_9 : decode cX10_measure 9 = .ok (.iload_n 3, 1) := by decide +kernel
theorem dX10_measure_10 : decode cX10_measure 10 = .ok (.invokevirtual 93, 3) := by decide +kernel
theorem dX10_measure_13 : decode cX10_measure 13 = .ok (.invokestatic 97, 3) := by decide +kernel
theorem dX10_measure_16 : decode cX10_measure 16 = .ok (.aload_n 0, 1) := by decide +kernel
theorem dX10_measure_17 : decode cX10_measure 17 = .ok (.invokevirtual 71, 3) := by decide +kernel
theorem dX10_measure_20 : decode cX10_measure 20 = .ok (.aload_n 0, 1) := by decide +kernel
theorem dX10_measure_21 : decode cX10_measure 21 = .ok (.getfield 10, 3) := by decide +kernel
theorem dX10_measure_24 : decode cX10_measure 24 = .ok (.getfield 41, 3) := by decide +kernel
theorem dX10_measure_27 : decode cX10_measure 27 = .ok (.iload_n 1, 1) := by decide +kernel
theorem dX10_measure_28 : decode cX10_measure 28 = .ok (.iload_n 2, 1) := by decide +kernel
theorem dX10_measure_29 : decode cX10_measure 29 = .ok (.iload_n 3, 1) := by decide +kernel
theorem dX10_measure_30 : decode cX10_measure 30 = .ok (.invokevirtual 101, 3) := by decide +kernel
theorem dX10_measure_33 : decode cX10_measure 33 = .ok (.ireturn, 1) := by decide +kernel
set_option maxHeartbeats 8000000 in
set_option maxRecDepth 100000 in
theorem mX10_measure (l : Launch) (hst : l.stackTraces = false) (G : gG) (da : Nat → Nat) (v : vSt) (x : gX) (r : Nat) (hk_r : kd r = 10) (p1 : Int32) (p2 : Int32) (p3 : Int32) (ho : oX10_measure r p1 p2 p3 v) : TI l yX10_measure cX10_measure 4 (some .int) (rmX10_measure r p1 p2 p3 v) [.ref (ga G r), .int p1, .int p2, .int p3] G da v x (kkX10_measure r p1 p2 p3 v) (kkX10_measure r p1 p2 p3 v) (fX10_measure r p1 p2 p3 v).1 (fX10_measure r p1 p2 p3 v).2.1 (fX10_measure r p1 p2 p3 v).2.2 x := by
  refine gofTI hst (by decide) rfl (Nat.le_of_ble_eq_true rfl) ⟨Nat.le_of_ble_eq_true rfl, Nat.le_of_ble_eq_true rfl, Nat.le_refl _, Nat.le_refl _⟩ (fun p e s m args below meth c ls Q X hH hl E EX ES EW => ?_)
  have hx := X.1
  have hb := X.2.1
  have hown := X.2.2.2.1
  have hts := X.2.2.2.2.1
  have hS : va_S (gA G) s.heap s.heap [] := va_S.rf
  unfold oX10_measure at ho
  have hl : lv_has ls 4 [(0, .ref (ga G r)), (1, .int p1), (2, .int p2), (3, .int p3)] := hl
  refine lv_aload_n hx hb dX10_measure_0 rfl (lv_at hl 0 rfl) ?_
  refine g_VernierDrawers_10 X hH hk_r dX10_measure_1 ?_
  have hq1 := ho.1
  have ho := ho.2
  refine g_VernierDrawers_41 X hH hq1 dX10_measure_4 ?_
  refine lv_iload_n hx hb dX10_measure_7 rfl (lv_at hl 1 rfl) ?_
  refine lv_iload_n hx hb dX10_measure_8 rfl (lv_at hl 2 rfl) ?_
  refine lv_iload_n hx hb dX10_measure_9 rfl (lv_at hl 3 rfl) ?_
  refine k_X2_refusalToMeasure X hS hH (kc_7_2 hq1) t_ml_VernierDrawers_93 hl.1 (Nat.le_of_ble_eq_true rfl) ⟨Nat.le_of_ble_eq_true rfl, Nat.le_of_ble_eq_true rfl⟩ ⟨Nat.zero_le _, Nat.zero_le _⟩ dX10_measure_10 ?_
  have hq2 := ho.1
  have ho := ho.2
  refine k_X10_refuse hst X hS hH  t_ml_VernierDrawers_97 hl.1 (Nat.le_of_ble_eq_true rfl) ⟨Nat.le_of_ble_eq_true rfl, Nat.le_of_ble_eq_true rfl⟩ ⟨hq2, hq2⟩ dX10_measure_13 (fun c3 da ce9 q9 H locs hH hS g1 g2 g3 => ?_) (fun c3 da H locs hH hS => ?_)
  · skip
    exact EX _ _ _ _ _ _ _ _ _ _ _ _ c3 (t31 ((fX10_measure.eq_1 _ _ _ _ _).trans ((if_neg c3).trans rfl))) (t33 ((fX10_measure.eq_1 _ _ _ _ _).trans ((if_neg c3).trans rfl))) hH hS g1 g2 g3 hq2 hq2
  · have ho := ho c3
    refine lv_aload_n hx hb dX10_measure_16 rfl (lv_at hl 0 rfl) ?_
    have hq4 := ho.1
    have ho := ho.2
    have hq5 := ho.1
    have ho := ho.2
    refine k_X10_recordState X hS hH hk_r hq4 t_ml_VernierDrawers_71 hl.1 (Nat.le_of_ble_eq_true rfl) ⟨Nat.le_of_ble_eq_true rfl, Nat.le_of_ble_eq_true rfl⟩ ⟨hq5, hq5⟩ dX10_measure_17 (fun da H locs v6 ev6 hH hS => ?_)
    have ho := ho v6 ev6
    refine lv_aload_n hx hb dX10_measure_20 rfl (lv_at hl 0 rfl) ?_
    refine g_VernierDrawers_10 X hH hk_r dX10_measure_21 ?_
    have hq7 := ho
    refine g_VernierDrawers_41 X hH hq7 dX10_measure_24 ?_
    refine lv_iload_n hx hb dX10_measure_27 rfl (lv_at hl 1 rfl) ?_
    refine lv_iload_n hx hb dX10_measure_28 rfl (lv_at hl 2 rfl) ?_
    refine lv_iload_n hx hb dX10_measure_29 rfl (lv_at hl 3 rfl) ?_
    refine k_X2_measureLength X hS hH (kc_7_2 hq7) t_ml_VernierDrawers_101 hl.1 (Nat.le_of_ble_eq_true rfl) ⟨Nat.le_of_ble_eq_true rfl, Nat.le_of_ble_eq_true rfl⟩ ⟨hq5, hq5⟩ dX10_measure_30 (fun da H locs v8 ev8 hH hS => ?_)
    replace ev6 := Eq.symm ev6
    replace ev8 := Eq.symm ev8
    subst ev6 ev8
    exact E _ _ _ _ _ _ _ _ _ dX10_measure_33 rfl (Eq.symm (t31 ((fX10_measure.eq_1 _ _ _ _ _).trans ((if_pos c3).trans rfl)))) (t32 ((fX10_measure.eq_1 _ _ _ _ _).trans ((if_pos c3).trans rfl))) (t33 ((fX10_measure.eq_1 _ _ _ _ _).trans ((if_pos c3).trans rfl))) hH hS hq5 hq5
theorem k_X10_measure {p : Program} {l : Launch} {e : Env} {R : Room} {s : State} {m : MethodId} {args : Array Value} {below : List Frame} {meth : Method} {c : Code} {H : Heap} {locs : List Loc} {cells slots : Nat} {Q : State → Prop} {cc : ByteArray} {pc nL : Nat} {ls : Array Slot} {rest : List Value} {G : gG} {own : String} {da : Nat → Nat} {v : vSt} {x : gX} (hst : l.stackTraces = false) (X : CX G p s m args c cc nL own) (hS : va_S (gA G) s.heap H locs) (hH : Hp G da v x H) {r : Nat} (hk_r : kd r = 10) {p1 : Int32} {p2 : Int32} {p3 : Int32} (ho : oX10_measure r p1 p2 p3 v) {idx : Nat} (hml : Cond.methodLink own idx yX10_measure ∈ TT) (hls : ls.size = nL) (hsum : (rest.map fun v => v.category).sum ≤ 8) (hR : (rmX10_measure r p1 p2 p3 v).frames + 1 ≤ R.frames ∧ 8 + (4 + 11) + (rmX10_measure r p1 p2 p3 v).locals ≤ R.locals) (hcs : cells + (kkX10_measure r p1 p2 p3 v) ≤ R.cells ∧ slots + (kkX10_measure r p1 p2 p3 v) ≤ R.slots) (hdg : decode cc pc = .ok (.invokevirtual idx, 3)) (kx : ¬ (fX10_measure r p1 p2 p3 v).1 = 0 → ∀ (d : Nat → Nat) (ce : Cell) (q9 : Addr) (H1 : Heap) (locs1 : List Loc) (v1 : vSt), v1 = (fX10_measure r p1 p2 p3 v).2.2 → Hp G d v1 x H1 → va_S (gA G) s.heap H1 locs1 → H1[q9]? = some ce → ce.vm = .none → s.vm.findClass (exN (fX10_measure r p1 p2 p3 v).1) = some ce.cls → vx_W p l e R s m args below meth c H1 locs1 (cells + (kkX10_measure r p1 p2 p3 v)) (slots + (kkX10_measure r p1 p2 p3 v)) Q (F0 m pc ls rest) q9) (kk : (fX10_measure r p1 p2 p3 v).1 = 0 → ∀ (d : Nat → Nat) (H1 : Heap) (locs1 : List Loc) (v1 : vSt), v1 = (fX10_measure r p1 p2 p3 v).2.2 → Hp G d v1 x H1 → va_S (gA G) s.heap H1 locs1 → W p l e R s m args below meth c H1 locs1 (cells + (kkX10_measure r p1 p2 p3 v)) (slots + (kkX10_measure r p1 p2 p3 v)) Q (F0 m (pc + 3) ls (.int (fX10_measure r p1 p2 p3 v).2.1 :: rest))) : W p l e R s m args below meth c H locs cells slots Q (F0 m pc ls (.int p3 :: .int p2 :: .int p1 :: .ref (ga G r) :: rest)) := c_ti (runxV (kp := 3) X.1 X.2.1 X.2.2.1 X.2.2.2.1 X.2.2.2.2.1 (mX10_measure l hst G da v x r hk_r p1 p2 p3 ho) pW_bl hml t_im_X10_measure t_sel_X10_measure t_ini_VernierDrawers t_code_X10_measure ⟨rfl, by decide, by decide, by decide +kernel⟩ rfl rfl hR hcs (recvW X hH (by rw [hk_r]; decide) (by rw [hk_r]; decide) (ce_10 hk_r) rfl) (preW X hS hH) rfl hls rfl hsum hdg) hS kx kk
def fX10_calibrate (r : Nat) (p1 : Int32) (p2 : Int32) (v : vSt) : Nat × Int32 × vSt := if fX10_refuse (fX2_refusalToCalibrate ((rN (v r 0)) + 1) p1 p2 v) v = 0 then (let v7 : vSt := fX10_recordState r v; let v10 : vSt := (fX2_calibrateTool ((rN (v7 r 0)) + 1) p1 p2 v7).2; (0, (fX2_calibrateTool ((rN (v7 r 0)) + 1) p1 p2 v7).1, v10)) else ((fX10_refuse (fX2_refusalToCalibrate ((rN (v r 0)) + 1) p1 p2 v) v, 0, v))

def kkX10_calibrate (r : Nat) (p1 : Int32) (p2 : Int32) (v : vSt) : Nat := pot ((fX10_calibrate r p1 p2 v).2.2) - pot v + 36
def oX10_calibrate (r : Nat) (p1 : Int32) (p2 : Int32) (v : vSt) : Prop := (kd (rN (v r 0)) = 7) ∧ ((0 ≤ (v ((rN (v r 0)) + 1) 2).toInt ∧ (v ((rN (v r 0)) + 1) 2).toInt ≤ 6 ∧ 0 ≤ (v ((rN (v r 0)) + 1) 3).toInt ∧ (v ((rN (v r 0)) + 1) 3).toInt ≤ 10) ∧ ((0 + 6 ≤ kkX10_calibrate r p1 p2 v) ∧ ((fX10_refuse (fX2_refusalToCalibrate ((rN (v r 0)) + 1) p1 p2 v) v = 0) → ((oX10_recordState r v) ∧ (((0 + 6) + kkX10_recordState r v ≤ kkX10_calibrate r p1 p2 v) ∧ (∀ v7 : vSt, v7 = (fX10_recordState r v) → ((kd (rN (v7 r 0)) = 7) ∧ (oX2_calibrateTool ((rN (v7 r 0)) + 1) p1 p2 v7))))))))
abbrev rmX10_calibrate (r : Nat) (p1 : Int32) (p2 : Int32) (v : vSt) : Room := { frames := 7, cells := kkX10_calibrate r p1 p2 v, slots := kkX10_calibrate r p1 p2 v, locals := 196 }
theorem dX10_calibrate_0 : decode cX10_calibrate 0 = .ok (.aload_n 0, 1) := by decide +kernel
theorem dX10_calibrate_1 : decode cX10_calibrate 1 = .ok (.getfield 10, 3) := by decide +kernel
theorem dX10_calibrate_4 : decode cX10_calibrate 4 = .ok (.getfield 41, 3) := by decide +kernel
theorem dX10_calibrate_7 : decode cX10_calibrate 7 = .ok (.iload_n 1, 1) := by decide +kernel
theorem dX10_calibrate_8 : decode cX10_calibrate 8 = .ok (.iload_n 2, 1) := by decide +kernel
theorem dX10_calibrate_9 : decode cX10_calibrate 9 = .ok (.invokevirtual 104, 3) := by decide +kernel
theorem dX10_calibrate_12 : decode cX10_calibrate 12 = .ok (.invokestatic 97, 3) := by decide +kernel
theorem dX10_calibrate_15 : decode cX10_calibrate 15 = .ok (.aload_n 0, 1) := by decide +kernel
theorem dX10_calibrate_16 : decode cX10_calibrate 16 = .ok (.invokevirtual 71, 3) := by decide +kernel
theorem dX10_calibrate_19 : decode cX10_calibrate 19 = .ok (.aload_n 0, 1) := by decide +kernel
theorem dX10_calibrate_20 : decode cX10_calibrate 20 = .ok (.getfield 10, 3) := by decide +kernel
theorem dX10_calibrate_23 : decode cX10_calibrate 23 = .ok (.getfield 41, 3) := by decide +kernel
theorem dX10_calibrate_26 : decode cX10_calibrate 26 = .ok (.iload_n 1, 1) := by decide +kernel
theorem dX10_calibrate_27 : decode cX10_calibrate 27 = .ok (.iload_n 2, 1) := by decide +kernel
theorem dX10_calibrate_28 : decode cX10_calibrate 28 = .ok (.invokevirtual 107, 3) := by decide +kernel
theorem dX10_calibrate_31 : decode cX10_calibrate 31 = .ok (.ireturn, 1) := by decide +kernel
set_option maxHeartbeats 8000000 in
set_option maxRecDepth 100000 in
theorem mX10_calibrate (l : Launch) (hst : l.stackTraces = false) (G : gG) (da : Nat → Nat) (v : vSt) (x : gX) (r : Nat) (hk_r : kd r = 10) (p1 : Int32) (p2 : Int32) (ho : oX10_calibrate r p1 p2 v) : TI l yX10_calibrate cX10_calibrate 3 (some .int) (rmX10_calibrate r p1 p2 v) [.ref (ga G r), .int p1, .int p2] G da v x (kkX10_calibrate r p1 p2 v) (kkX10_calibrate r p1 p2 v) (fX10_calibrate r p1 p2 v).1 (fX10_calibrate r p1 p2 v).2.1 (fX10_calibrate r p1 p2 v).2.2 x := by
  refine gofTI hst (by decide) rfl (Nat.le_of_ble_eq_true rfl) ⟨Nat.le_of_ble_eq_true rfl, Nat.le_of_ble_eq_true rfl, Nat.le_refl _, Nat.le_refl _⟩ (fun p e s m args below meth c ls Q X hH hl E EX ES EW => ?_)
  have hx := X.1
  have hb := X.2.1
  have hown := X.2.2.2.1
  have hts := X.2.2.2.2.1
  have hS : va_S (gA G) s.heap s.heap [] := va_S.rf
  unfold oX10_calibrate at ho
  have hl : lv_has ls 3 [(0, .ref (ga G r)), (1, .int p1), (2, .int p2)] := hl
  refine lv_aload_n hx hb dX10_calibrate_0 rfl (lv_at hl 0 rfl) ?_
  refine g_VernierDrawers_10 X hH hk_r dX10_calibrate_1 ?_
  have hq1 := ho.1
  have ho := ho.2
  refine g_VernierDrawers_41 X hH hq1 dX10_calibrate_4 ?_
  refine lv_iload_n hx hb dX10_calibrate_7 rfl (lv_at hl 1 rfl) ?_
  refine lv_iload_n hx hb dX10_calibrate_8 rfl (lv_at hl 2 rfl) ?_
  have hq2 := ho.1
  have ho := ho.2
  refine k_X2_refusalToCalibrate X hS hH (kc_7_2 hq1) hq2 t_ml_VernierDrawers_104 hl.1 (Nat.le_of_ble_eq_true rfl) ⟨Nat.le_of_ble_eq_true rfl, Nat.le_of_ble_eq_true rfl⟩ ⟨Nat.zero_le _, Nat.zero_le _⟩ dX10_calibrate_9 ?_
  have hq3 := ho.1
  have ho := ho.2
  refine k_X10_refuse hst X hS hH  t_ml_VernierDrawers_97 hl.1 (Nat.le_of_ble_eq_true rfl) ⟨Nat.le_of_ble_eq_true rfl, Nat.le_of_ble_eq_true rfl⟩ ⟨hq3, hq3⟩ dX10_calibrate_12 (fun c4 da ce9 q9 H locs hH hS g1 g2 g3 => ?_) (fun c4 da H locs hH hS => ?_)
  · skip
    exact EX _ _ _ _ _ _ _ _ _ _ _ _ c4 (t31 ((fX10_calibrate.eq_1 _ _ _ _).trans ((if_neg c4).trans rfl))) (t33 ((fX10_calibrate.eq_1 _ _ _ _).trans ((if_neg c4).trans rfl))) hH hS g1 g2 g3 hq3 hq3
  · have ho := ho c4
    refine lv_aload_n hx hb dX10_calibrate_15 rfl (lv_at hl 0 rfl) ?_
    have hq5 := ho.1
    have ho := ho.2
    have hq6 := ho.1
    have ho := ho.2
    refine k_X10_recordState X hS hH hk_r hq5 t_ml_VernierDrawers_71 hl.1 (Nat.le_of_ble_eq_true rfl) ⟨Nat.le_of_ble_eq_true rfl, Nat.le_of_ble_eq_true rfl⟩ ⟨hq6, hq6⟩ dX10_calibrate_16 (fun da H locs v7 ev7 hH hS => ?_)
    have ho := ho v7 ev7
    refine lv_aload_n hx hb dX10_calibrate_19 rfl (lv_at hl 0 rfl) ?_
    refine g_VernierDrawers_10 X hH hk_r dX10_calibrate_20 ?_
    have hq8 := ho.1
    have ho := ho.2
    refine g_VernierDrawers_41 X hH hq8 dX10_calibrate_23 ?_
    refine lv_iload_n hx hb dX10_calibrate_26 rfl (lv_at hl 1 rfl) ?_
    refine lv_iload_n hx hb dX10_calibrate_27 rfl (lv_at hl 2 rfl) ?_
    have hq9 := ho
    refine k_X2_calibrateTool X hS hH (kc_7_2 hq8) hq9 t_ml_VernierDrawers_107 hl.1 (Nat.le_of_ble_eq_true rfl) ⟨Nat.le_of_ble_eq_true rfl, Nat.le_of_ble_eq_true rfl⟩ ⟨hq6, hq6⟩ dX10_calibrate_28 (fun da H locs v10 ev10 hH hS => ?_)
    replace ev7 := Eq.symm ev7
    replace ev10 := Eq.symm ev10
    subst ev7 ev10
    exact E _ _ _ _ _ _ _ _ _ dX10_calibrate_31 rfl (Eq.symm (t31 ((fX10_calibrate.eq_1 _ _ _ _).trans ((if_pos c4).trans rfl)))) (t32 ((fX10_calibrate.eq_1 _ _ _ _).trans ((if_pos c4).trans rfl))) (t33 ((fX10_calibrate.eq_1 _ _ _ _).trans ((if_pos c4).trans rfl))) hH hS hq6 hq6
theorem k_X10_calibrate {p : Program} {l : Launch} {e : Env} {R : Room} {s : State} {m : MethodId} {args : Array Value} {below : List Frame} {meth : Method} {c : Code} {H : Heap} {locs : List Loc} {cells slots : Nat} {Q : State → Prop} {cc : ByteArray} {pc nL : Nat} {ls : Array Slot} {rest : List Value} {G : gG} {own : String} {da : Nat → Nat} {v : vSt} {x : gX} (hst : l.stackTraces = false) (X : CX G p s m args c cc nL own) (hS : va_S (gA G) s.heap H locs) (hH : Hp G da v x H) {r : Nat} (hk_r : kd r = 10) {p1 : Int32} {p2 : Int32} (ho : oX10_calibrate r p1 p2 v) {idx : Nat} (hml : Cond.methodLink own idx yX10_calibrate ∈ TT) (hls : ls.size = nL) (hsum : (rest.map fun v => v.category).sum ≤ 8) (hR : (rmX10_calibrate r p1 p2 v).frames + 1 ≤ R.frames ∧ 8 + (3 + 11) + (rmX10_calibrate r p1 p2 v).locals ≤ R.locals) (hcs : cells + (kkX10_calibrate r p1 p2 v) ≤ R.cells ∧ slots + (kkX10_calibrate r p1 p2 v) ≤ R.slots) (hdg : decode cc pc = .ok (.invokevirtual idx, 3)) (kx : ¬ (fX10_calibrate r p1 p2 v).1 = 0 → ∀ (d : Nat → Nat) (ce : Cell) (q9 : Addr) (H1 : Heap) (locs1 : List Loc) (v1 : vSt), v1 = (fX10_calibrate r p1 p2 v).2.2 → Hp G d v1 x H1 → va_S (gA G) s.heap H1 locs1 → H1[q9]? = some ce → ce.vm = .none → s.vm.findClass (exN (fX10_calibrate r p1 p2 v).1) = some ce.cls → vx_W p l e R s m args below meth c H1 locs1 (cells + (kkX10_calibrate r p1 p2 v)) (slots + (kkX10_calibrate r p1 p2 v)) Q (F0 m pc ls rest) q9) (kk : (fX10_calibrate r p1 p2 v).1 = 0 → ∀ (d : Nat → Nat) (H1 : Heap) (locs1 : List Loc) (v1 : vSt), v1 = (fX10_calibrate r p1 p2 v).2.2 → Hp G d v1 x H1 → va_S (gA G) s.heap H1 locs1 → W p l e R s m args below meth c H1 locs1 (cells + (kkX10_calibrate r p1 p2 v)) (slots + (kkX10_calibrate r p1 p2 v)) Q (F0 m (pc + 3) ls (.int (fX10_calibrate r p1 p2 v).2.1 :: rest))) : W p l e R s m args below meth c H locs cells slots Q (F0 m pc ls (.int p2 :: .int p1 :: .ref (ga G r) :: rest)) := c_ti (runxV (kp := 2) X.1 X.2.1 X.2.2.1 X.2.2.2.1 X.2.2.2.2.1 (mX10_calibrate l hst G da v x r hk_r p1 p2 ho) pW_bl hml t_im_X10_calibrate t_sel_X10_calibrate t_ini_VernierDrawers t_code_X10_calibrate ⟨rfl, by decide, by decide, by decide +kernel⟩ rfl rfl hR hcs (recvW X hH (by rw [hk_r]; decide) (by rw [hk_r]; decide) (ce_10 hk_r) rfl) (preW X hS hH) rfl hls rfl hsum hdg) hS kx kk
def fX10_endDay (r : Nat) (v : vSt) : Nat × Int32 × vSt := if fX10_refuse (fX2_refusalToEndDay ((rN (v r 0)) + 1) v) v = 0 then (let v6 : vSt := fX10_recordState r v; let v8 : vSt := u2 v6 ((rN (v6 r 0)) + 1) 5 ((v6 ((rN (v6 r 0)) + 1) 5) + 1); (0, fX2_countDue ((rN (v8 r 0)) + 1) v8, v8)) else ((fX10_refuse (fX2_refusalToEndDay ((rN (v r 0)) + 1) v) v, 0, v))

def kkX10_endDay (r : Nat) (v : vSt) : Nat := pot ((fX10_endDay r v).2.2) - pot v + 36
def oX10_endDay (r : Nat) (v : vSt) : Prop := (kd (rN (v r 0)) = 7) ∧ ((0 + 6 ≤ kkX10_endDay r v) ∧ ((fX10_refuse (fX2_refusalToEndDay ((rN (v r 0)) + 1) v) v = 0) → ((oX10_recordState r v) ∧ (((0 + 6) + kkX10_recordState r v ≤ kkX10_endDay r v) ∧ (∀ v6 : vSt, v6 = (fX10_recordState r v) → ((kd (rN (v6 r 0)) = 7) ∧ (∀ v8 : vSt, v8 = (u2 v6 ((rN (v6 r 0)) + 1) 5 ((v6 ((rN (v6 r 0)) + 1) 5) + 1)) → ((kd (rN (v8 r 0)) = 7) ∧ (0 ≤ (v8 ((rN (v8 r 0)) + 1) 2).toInt ∧ (v8 ((rN (v8 r 0)) + 1) 2).toInt ≤ 6 ∧ 0 ≤ (v8 ((rN (v8 r 0)) + 1) 3).toInt ∧ (v8 ((rN (v8 r 0)) + 1) 3).toInt ≤ 10)))))))))
abbrev rmX10_endDay (r : Nat) (v : vSt) : Room := { frames := 7, cells := kkX10_endDay r v, slots := kkX10_endDay r v, locals := 196 }
theorem dX10_endDay_0 : decode cX10_endDay 0 = .ok (.aload_n 0, 1) := by decide +kernel
theorem dX10_endDay_1 : decode cX10_endDay 1 = .ok (.getfield 10, 3) := by decide +kernel
theorem dX10_endDay_4 : decode cX10_endDay 4 = .ok (.getfield 41, 3) := by decide +kernel
theorem dX10_endDay_7 : decode cX10_endDay 7 = .ok (.invokevirtual 110, 3) := by decide +kernel
theorem dX10_endDay_10 : decode cX10_endDay 10 = .ok (.invokestatic 97, 3) := by decide +kernel
theorem dX10_endDay_13 : decode cX10_endDay 13 = .ok (.aload_n 0, 1) := by decide +kernel
theorem dX10_endDay_14 : decode cX10_endDay 14 = .ok (.invokevirtual 71, 3) := by decide +kernel
theorem dX10_endDay_17 : decode cX10_endDay 17 = .ok (.aload_n 0, 1) := by decide +kernel
theorem dX10_endDay_18 : decode cX10_endDay 18 = .ok (.getfield 10, 3) := by decide +kernel
theorem dX10_endDay_21 : decode cX10_endDay 21 = .ok (.getfield 41, 3) := by decide +kernel
theorem dX10_endDay_24 : decode cX10_endDay 24 = .ok (.dup, 1) := by decide +kernel
theorem dX10_endDay_25 : decode cX10_endDay 25 = .ok (.getfield 114, 3) := by decide +kernel
theorem dX10_endDay_28 : decode cX10_endDay 28 = .ok (.iconst 1, 1) := by decide +kernel
theorem dX10_endDay_29 : decode cX10_endDay 29 = .ok (.iadd, 1) := by decide +kernel
theorem dX10_endDay_30 : decode cX10_endDay 30 = .ok (.putfield 114, 3) := by decide +kernel
theorem dX10_endDay_33 : decode cX10_endDay 33 = .ok (.aload_n 0, 1) := by decide +kernel
theorem dX10_endDay_34 : decode cX10_endDay 34 = .ok (.getfield 10, 3) := by decide +kernel
theorem dX10_endDay_37 : decode cX10_endDay 37 = .ok (.getfield 41, 3) := by decide +kernel
theorem dX10_endDay_40 : decode cX10_endDay 40 = .ok (.invokevirtual 117, 3) := by decide +kernel
theorem dX10_endDay_43 : decode cX10_endDay 43 = .ok (.ireturn, 1) := by decide +kernel
set_option maxHeartbeats 8000000 in
set_option maxRecDepth 100000 in
theorem mX10_endDay (l : Launch) (hst : l.stackTraces = false) (G : gG) (da : Nat → Nat) (v : vSt) (x : gX) (r : Nat) (hk_r : kd r = 10) (ho : oX10_endDay r v) : TI l yX10_endDay cX10_endDay 1 (some .int) (rmX10_endDay r v) [.ref (ga G r)] G da v x (kkX10_endDay r v) (kkX10_endDay r v) (fX10_endDay r v).1 (fX10_endDay r v).2.1 (fX10_endDay r v).2.2 x := by
  refine gofTI hst (by decide) rfl (Nat.le_of_ble_eq_true rfl) ⟨Nat.le_of_ble_eq_true rfl, Nat.le_of_ble_eq_true rfl, Nat.le_refl _, Nat.le_refl _⟩ (fun p e s m args below meth c ls Q X hH hl E EX ES EW => ?_)
  have hx := X.1
  have hb := X.2.1
  have hown := X.2.2.2.1
  have hts := X.2.2.2.2.1
  have hS : va_S (gA G) s.heap s.heap [] := va_S.rf
  unfold oX10_endDay at ho
  have hl : lv_has ls 1 [(0, .ref (ga G r))] := hl
  refine lv_aload_n hx hb dX10_endDay_0 rfl (lv_at hl 0 rfl) ?_
  refine g_VernierDrawers_10 X hH hk_r dX10_endDay_1 ?_
  have hq1 := ho.1
  have ho := ho.2
  refine g_VernierDrawers_41 X hH hq1 dX10_endDay_4 ?_
  refine k_X2_refusalToEndDay X hS hH (kc_7_2 hq1) t_ml_VernierDrawers_110 hl.1 (Nat.le_of_ble_eq_true rfl) ⟨Nat.le_of_ble_eq_true rfl, Nat.le_of_ble_eq_true rfl⟩ ⟨Nat.zero_le _, Nat.zero_le _⟩ dX10_endDay_7 ?_
  have hq2 := ho.1
  have ho := ho.2
  refine k_X10_refuse hst X hS hH  t_ml_VernierDrawers_97 hl.1 (Nat.le_of_ble_eq_true rfl) ⟨Nat.le_of_ble_eq_true rfl, Nat.le_of_ble_eq_true rfl⟩ ⟨hq2, hq2⟩ dX10_endDay_10 (fun c3 da ce9 q9 H locs hH hS g1 g2 g3 => ?_) (fun c3 da H locs hH hS => ?_)
  · skip
    exact EX _ _ _ _ _ _ _ _ _ _ _ _ c3 (t31 ((fX10_endDay.eq_1 _ _).trans ((if_neg c3).trans rfl))) (t33 ((fX10_endDay.eq_1 _ _).trans ((if_neg c3).trans rfl))) hH hS g1 g2 g3 hq2 hq2
  · have ho := ho c3
    refine lv_aload_n hx hb dX10_endDay_13 rfl (lv_at hl 0 rfl) ?_
    have hq4 := ho.1
    have ho := ho.2
    have hq5 := ho.1
    have ho := ho.2
    refine k_X10_recordState X hS hH hk_r hq4 t_ml_VernierDrawers_71 hl.1 (Nat.le_of_ble_eq_true rfl) ⟨Nat.le_of_ble_eq_true rfl, Nat.le_of_ble_eq_true rfl⟩ ⟨hq5, hq5⟩ dX10_endDay_14 (fun da H locs v6 ev6 hH hS => ?_)
    have ho := ho v6 ev6
    refine lv_aload_n hx hb dX10_endDay_17 rfl (lv_at hl 0 rfl) ?_
    refine g_VernierDrawers_10 X hH hk_r dX10_endDay_18 ?_
    have hq7 := ho.1
    have ho := ho.2
    refine g_VernierDrawers_41 X hH hq7 dX10_endDay_21 ?_
    refine lv_dup hx hb dX10_endDay_24 rfl ?_
    refine g_VernierDrawers_114 X hH (kc_7_2 hq7) dX10_endDay_25 ?_
    refine lv_iconst (v := 1) hx hb dX10_endDay_28 (by decide) ?_
    refine lv_iadd hx hb dX10_endDay_29 ?_
    refine p_VernierDrawers_114 X hH hS (kc_7_2 hq7) dX10_endDay_30 (fun H locs v8 ev8 hH hS => ?_)
    have ho := ho v8 ev8
    refine lv_aload_n hx hb dX10_endDay_33 rfl (lv_at hl 0 rfl) ?_
    refine g_VernierDrawers_10 X hH hk_r dX10_endDay_34 ?_
    have hq9 := ho.1
    have ho := ho.2
    refine g_VernierDrawers_41 X hH hq9 dX10_endDay_37 ?_
    have hq10 := ho
    refine k_X2_countDue X hS hH (kc_7_2 hq9) hq10 t_ml_VernierDrawers_117 hl.1 (Nat.le_of_ble_eq_true rfl) ⟨Nat.le_of_ble_eq_true rfl, Nat.le_of_ble_eq_true rfl⟩ ⟨hq5, hq5⟩ dX10_endDay_40 ?_
    replace ev6 := Eq.symm ev6
    replace ev8 := Eq.symm ev8
    subst ev6 ev8
    exact E _ _ _ _ _ _ _ _ _ dX10_endDay_43 rfl (Eq.symm (t31 ((fX10_endDay.eq_1 _ _).trans ((if_pos c3).trans rfl)))) (t32 ((fX10_endDay.eq_1 _ _).trans ((if_pos c3).trans rfl))) (t33 ((fX10_endDay.eq_1 _ _).trans ((if_pos c3).trans rfl))) hH hS hq5 hq5
theorem k_X10_endDay {p : Program} {l : Launch} {e : Env} {R : Room} {s : State} {m : MethodId} {args : Array Value} {below : List Frame} {meth : Method} {c : Code} {H : Heap} {locs : List Loc} {cells slots : Nat} {Q : State → Prop} {cc : ByteArray} {pc nL : Nat} {ls : Array Slot} {rest : List Value} {G : gG} {own : String} {da : Nat → Nat} {v : vSt} {x : gX} (hst : l.stackTraces = false) (X : CX G p s m args c cc nL own) (hS : va_S (gA G) s.heap H locs) (hH : Hp G da v x H) {r : Nat} (hk_r : kd r = 10) (ho : oX10_endDay r v) {idx : Nat} (hml : Cond.methodLink own idx yX10_endDay ∈ TT) (hls : ls.size = nL) (hsum : (rest.map fun v => v.category).sum ≤ 8) (hR : (rmX10_endDay r v).frames + 1 ≤ R.frames ∧ 8 + (1 + 11) + (rmX10_endDay r v).locals ≤ R.locals) (hcs : cells + (kkX10_endDay r v) ≤ R.cells ∧ slots + (kkX10_endDay r v) ≤ R.slots) (hdg : decode cc pc = .ok (.invokevirtual idx, 3)) (kx : ¬ (fX10_endDay r v).1 = 0 → ∀ (d : Nat → Nat) (ce : Cell) (q9 : Addr) (H1 : Heap) (locs1 : List Loc) (v1 : vSt), v1 = (fX10_endDay r v).2.2 → Hp G d v1 x H1 → va_S (gA G) s.heap H1 locs1 → H1[q9]? = some ce → ce.vm = .none → s.vm.findClass (exN (fX10_endDay r v).1) = some ce.cls → vx_W p l e R s m args below meth c H1 locs1 (cells + (kkX10_endDay r v)) (slots + (kkX10_endDay r v)) Q (F0 m pc ls rest) q9) (kk : (fX10_endDay r v).1 = 0 → ∀ (d : Nat → Nat) (H1 : Heap) (locs1 : List Loc) (v1 : vSt), v1 = (fX10_endDay r v).2.2 → Hp G d v1 x H1 → va_S (gA G) s.heap H1 locs1 → W p l e R s m args below meth c H1 locs1 (cells + (kkX10_endDay r v)) (slots + (kkX10_endDay r v)) Q (F0 m (pc + 3) ls (.int (fX10_endDay r v).2.1 :: rest))) : W p l e R s m args below meth c H locs cells slots Q (F0 m pc ls (.ref (ga G r) :: rest)) := c_ti (runxV (kp := 0) X.1 X.2.1 X.2.2.1 X.2.2.2.1 X.2.2.2.2.1 (mX10_endDay l hst G da v x r hk_r ho) pW_bl hml t_im_X10_endDay t_sel_X10_endDay t_ini_VernierDrawers t_code_X10_endDay ⟨rfl, by decide, by decide, by decide +kernel⟩ rfl rfl hR hcs (recvW X hH (by rw [hk_r]; decide) (by rw [hk_r]; decide) (ce_10 hk_r) rfl) (preW X hS hH) rfl hls rfl hsum hdg) hS kx kk
def fX10_bring (r : Nat) (p1 : Int32) (p2 : Int32) (v : vSt) : Nat × Int32 × vSt := if fX10_refuse (fX0_refusalToBring ((rN (v r 0)) + 2) p1 p2 v) v = 0 then (let v6 : vSt := fX10_recordState r v; let v10 : vSt := (fX0_bringPiece ((rN (v6 r 0)) + 2) p1 p2 v6).2; (0, (fX0_bringPiece ((rN (v6 r 0)) + 2) p1 p2 v6).1, v10)) else ((fX10_refuse (fX0_refusalToBring ((rN (v r 0)) + 2) p1 p2 v) v, 0, v))

def kkX10_bring (r : Nat) (p1 : Int32) (p2 : Int32) (v : vSt) : Nat := pot ((fX10_bring r p1 p2 v).2.2) - pot v + 36
def oX10_bring (r : Nat) (p1 : Int32) (p2 : Int32) (v : vSt) : Prop := (kd (rN (v r 0)) = 7) ∧ ((0 + 6 ≤ kkX10_bring r p1 p2 v) ∧ ((fX10_refuse (fX0_refusalToBring ((rN (v r 0)) + 2) p1 p2 v) v = 0) → ((oX10_recordState r v) ∧ (((0 + 6) + kkX10_recordState r v ≤ kkX10_bring r p1 p2 v) ∧ (∀ v6 : vSt, v6 = (fX10_recordState r v) → ((kd (rN (v6 r 0)) = 7) ∧ ((oX0_bringPiece ((rN (v6 r 0)) + 2) p1 p2 v6) ∧ (((0 + 6) + kkX10_recordState r v) + kkX0_bringPiece ((rN (v6 r 0)) + 2) p1 p2 v6 ≤ kkX10_bring r p1 p2 v))))))))
abbrev rmX10_bring (r : Nat) (p1 : Int32) (p2 : Int32) (v : vSt) : Room := { frames := 7, cells := kkX10_bring r p1 p2 v, slots := kkX10_bring r p1 p2 v, locals := 196 }
theorem dX10_bring_0 : decode cX10_bring 0 = .ok (.aload_n 0, 1) := by decide +kernel
theorem dX10_bring_1 : decode cX10_bring 1 = .ok (.getfield 10, 3) := by decide +kernel
theorem dX10_bring_4 : decode cX10_bring 4 = .ok (.getfield 126, 3) := by decide +kernel
theorem dX10_bring_7 : decode cX10_bring 7 = .ok (.iload_n 1, 1) := by decide +kernel
theorem dX10_bring_8 : decode cX10_bring 8 = .ok (.iload_n 2, 1) := by decide +kernel
theorem dX10_bring_9 : decode cX10_bring 9 = .ok (.invokevirtual 141, 3) := by decide +kernel
theorem dX10_bring_12 : decode cX10_bring 12 = .ok (.invokestatic 97, 3) := by decide +kernel
theorem dX10_bring_15 : decode cX10_bring 15 = .ok (.aload_n 0, 1) := by decide +kernel
theorem dX10_bring_16 : decode cX10_bring 16 = .ok (.invokevirtual 71, 3) := by decide +kernel
theorem dX10_bring_19 : decode cX10_bring 19 = .ok (.aload_n 0, 1) := by decide +kernel
theorem dX10_bring_20 : decode cX10_bring 20 = .ok (.getfield 10, 3) := by decide +kernel
theorem dX10_bring_23 : decode cX10_bring 23 = .ok (.getfield 126, 3) := by decide +kernel
theorem dX10_bring_26 : decode cX10_bring 26 = .ok (.iload_n 1, 1) := by decide +kernel
theorem dX10_bring_27 : decode cX10_bring 27 = .ok (.iload_n 2, 1) := by decide +kernel
theorem dX10_bring_28 : decode cX10_bring 28 = .ok (.invokevirtual 144, 3) := by decide +kernel
theorem dX10_bring_31 : decode cX10_bring 31 = .ok (.ireturn, 1) := by decide +kernel
set_option maxHeartbeats 8000000 in
set_option maxRecDepth 100000 in
theorem mX10_bring (l : Launch) (hst : l.stackTraces = false) (G : gG) (da : Nat → Nat) (v : vSt) (x : gX) (r : Nat) (hk_r : kd r = 10) (p1 : Int32) (p2 : Int32) (ho : oX10_bring r p1 p2 v) : TI l yX10_bring cX10_bring 3 (some .int) (rmX10_bring r p1 p2 v) [.ref (ga G r), .int p1, .int p2] G da v x (kkX10_bring r p1 p2 v) (kkX10_bring r p1 p2 v) (fX10_bring r p1 p2 v).1 (fX10_bring r p1 p2 v).2.1 (fX10_bring r p1 p2 v).2.2 x := by
  refine gofTI hst (by decide) rfl (Nat.le_of_ble_eq_true rfl) ⟨Nat.le_of_ble_eq_true rfl, Nat.le_of_ble_eq_true rfl, Nat.le_refl _, Nat.le_refl _⟩ (fun p e s m args below meth c ls Q X hH hl E EX ES EW => ?_)
  have hx := X.1
  have hb := X.2.1
  have hown := X.2.2.2.1
  have hts := X.2.2.2.2.1
  have hS : va_S (gA G) s.heap s.heap [] := va_S.rf
  unfold oX10_bring at ho
  have hl : lv_has ls 3 [(0, .ref (ga G r)), (1, .int p1), (2, .int p2)] := hl
  refine lv_aload_n hx hb dX10_bring_0 rfl (lv_at hl 0 rfl) ?_
  refine g_VernierDrawers_10 X hH hk_r dX10_bring_1 ?_
  have hq1 := ho.1
  have ho := ho.2
  refine g_VernierDrawers_126 X hH hq1 dX10_bring_4 ?_
  refine lv_iload_n hx hb dX10_bring_7 rfl (lv_at hl 1 rfl) ?_
  refine lv_iload_n hx hb dX10_bring_8 rfl (lv_at hl 2 rfl) ?_
  refine k_X0_refusalToBring X hS hH (kc_7_0 hq1) t_ml_VernierDrawers_141 hl.1 (Nat.le_of_ble_eq_true rfl) ⟨Nat.le_of_ble_eq_true rfl, Nat.le_of_ble_eq_true rfl⟩ ⟨Nat.zero_le _, Nat.zero_le _⟩ dX10_bring_9 ?_
  have hq2 := ho.1
  have ho := ho.2
  refine k_X10_refuse hst X hS hH  t_ml_VernierDrawers_97 hl.1 (Nat.le_of_ble_eq_true rfl) ⟨Nat.le_of_ble_eq_true rfl, Nat.le_of_ble_eq_true rfl⟩ ⟨hq2, hq2⟩ dX10_bring_12 (fun c3 da ce9 q9 H locs hH hS g1 g2 g3 => ?_) (fun c3 da H locs hH hS => ?_)
  · skip
    exact EX _ _ _ _ _ _ _ _ _ _ _ _ c3 (t31 ((fX10_bring.eq_1 _ _ _ _).trans ((if_neg c3).trans rfl))) (t33 ((fX10_bring.eq_1 _ _ _ _).trans ((if_neg c3).trans rfl))) hH hS g1 g2 g3 hq2 hq2
  · have ho := ho c3
    refine lv_aload_n hx hb dX10_bring_15 rfl (lv_at hl 0 rfl) ?_
    have hq4 := ho.1
    have ho := ho.2
    have hq5 := ho.1
    have ho := ho.2
    refine k_X10_recordState X hS hH hk_r hq4 t_ml_VernierDrawers_71 hl.1 (Nat.le_of_ble_eq_true rfl) ⟨Nat.le_of_ble_eq_true rfl, Nat.le_of_ble_eq_true rfl⟩ ⟨hq5, hq5⟩ dX10_bring_16 (fun da H locs v6 ev6 hH hS => ?_)
    have ho := ho v6 ev6
    refine lv_aload_n hx hb dX10_bring_19 rfl (lv_at hl 0 rfl) ?_
    refine g_VernierDrawers_10 X hH hk_r dX10_bring_20 ?_
    have hq7 := ho.1
    have ho := ho.2
    refine g_VernierDrawers_126 X hH hq7 dX10_bring_23 ?_
    refine lv_iload_n hx hb dX10_bring_26 rfl (lv_at hl 1 rfl) ?_
    refine lv_iload_n hx hb dX10_bring_27 rfl (lv_at hl 2 rfl) ?_
    have hq8 := ho.1
    have ho := ho.2
    have hq9 := ho
    refine k_X0_bringPiece X hS hH (kc_7_0 hq7) hq8 t_ml_VernierDrawers_144 hl.1 (Nat.le_of_ble_eq_true rfl) ⟨Nat.le_of_ble_eq_true rfl, Nat.le_of_ble_eq_true rfl⟩ ⟨hq9, hq9⟩ dX10_bring_28 (fun da H locs v10 ev10 hH hS => ?_)
    replace ev6 := Eq.symm ev6
    replace ev10 := Eq.symm ev10
    subst ev6 ev10
    exact E _ _ _ _ _ _ _ _ _ dX10_bring_31 rfl (Eq.symm (t31 ((fX10_bring.eq_1 _ _ _ _).trans ((if_pos c3).trans rfl)))) (t32 ((fX10_bring.eq_1 _ _ _ _).trans ((if_pos c3).trans rfl))) (t33 ((fX10_bring.eq_1 _ _ _ _).trans ((if_pos c3).trans rfl))) hH hS hq9 hq9
theorem k_X10_bring {p : Program} {l : Launch} {e : Env} {R : Room} {s : State} {m : MethodId} {args : Array Value} {below : List Frame} {meth : Method} {c : Code} {H : Heap} {locs : List Loc} {cells slots : Nat} {Q : State → Prop} {cc : ByteArray} {pc nL : Nat} {ls : Array Slot} {rest : List Value} {G : gG} {own : String} {da : Nat → Nat} {v : vSt} {x : gX} (hst : l.stackTraces = false) (X : CX G p s m args c cc nL own) (hS : va_S (gA G) s.heap H locs) (hH : Hp G da v x H) {r : Nat} (hk_r : kd r = 10) {p1 : Int32} {p2 : Int32} (ho : oX10_bring r p1 p2 v) {idx : Nat} (hml : Cond.methodLink own idx yX10_bring ∈ TT) (hls : ls.size = nL) (hsum : (rest.map fun v => v.category).sum ≤ 8) (hR : (rmX10_bring r p1 p2 v).frames + 1 ≤ R.frames ∧ 8 + (3 + 11) + (rmX10_bring r p1 p2 v).locals ≤ R.locals) (hcs : cells + (kkX10_bring r p1 p2 v) ≤ R.cells ∧ slots + (kkX10_bring r p1 p2 v) ≤ R.slots) (hdg : decode cc pc = .ok (.invokevirtual idx, 3)) (kx : ¬ (fX10_bring r p1 p2 v).1 = 0 → ∀ (d : Nat → Nat) (ce : Cell) (q9 : Addr) (H1 : Heap) (locs1 : List Loc) (v1 : vSt), v1 = (fX10_bring r p1 p2 v).2.2 → Hp G d v1 x H1 → va_S (gA G) s.heap H1 locs1 → H1[q9]? = some ce → ce.vm = .none → s.vm.findClass (exN (fX10_bring r p1 p2 v).1) = some ce.cls → vx_W p l e R s m args below meth c H1 locs1 (cells + (kkX10_bring r p1 p2 v)) (slots + (kkX10_bring r p1 p2 v)) Q (F0 m pc ls rest) q9) (kk : (fX10_bring r p1 p2 v).1 = 0 → ∀ (d : Nat → Nat) (H1 : Heap) (locs1 : List Loc) (v1 : vSt), v1 = (fX10_bring r p1 p2 v).2.2 → Hp G d v1 x H1 → va_S (gA G) s.heap H1 locs1 → W p l e R s m args below meth c H1 locs1 (cells + (kkX10_bring r p1 p2 v)) (slots + (kkX10_bring r p1 p2 v)) Q (F0 m (pc + 3) ls (.int (fX10_bring r p1 p2 v).2.1 :: rest))) : W p l e R s m args below meth c H locs cells slots Q (F0 m pc ls (.int p2 :: .int p1 :: .ref (ga G r) :: rest)) := c_ti (runxV (kp := 2) X.1 X.2.1 X.2.2.1 X.2.2.2.1 X.2.2.2.2.1 (mX10_bring l hst G da v x r hk_r p1 p2 ho) pW_bl hml t_im_X10_bring t_sel_X10_bring t_ini_VernierDrawers t_code_X10_bring ⟨rfl, by decide, by decide, by decide +kernel⟩ rfl rfl hR hcs (recvW X hH (by rw [hk_r]; decide) (by rw [hk_r]; decide) (ce_10 hk_r) rfl) (preW X hS hH) rfl hls rfl hsum hdg) hS kx kk
def fX10_judge (r : Nat) (p1 : Int32) (v : vSt) : Nat × Int32 × vSt := if fX10_refuse (fX0_refusalToJudge ((rN (v r 0)) + 2) ((rN (v r 0)) + 1) p1 v) v = 0 then (let v6 : vSt := fX10_recordState r v; let v10 : vSt := (fX0_judgeFirst ((rN (v6 r 0)) + 2) ((rN (v6 r 0)) + 1) p1 v6).2; (0, (fX0_judgeFirst ((rN (v6 r 0)) + 2) ((rN (v6 r 0)) + 1) p1 v6).1, v10)) else ((fX10_refuse (fX0_refusalToJudge ((rN (v r 0)) + 2) ((rN (v r 0)) + 1) p1 v) v, 0, v))

def kkX10_judge (r : Nat) (p1 : Int32) (v : vSt) : Nat := pot ((fX10_judge r p1 v).2.2) - pot v + 36
def oX10_judge (r : Nat) (p1 : Int32) (v : vSt) : Prop := (kd (rN (v r 0)) = 7) ∧ ((0 + 6 ≤ kkX10_judge r p1 v) ∧ ((fX10_refuse (fX0_refusalToJudge ((rN (v r 0)) + 2) ((rN (v r 0)) + 1) p1 v) v = 0) → ((oX10_recordState r v) ∧ (((0 + 6) + kkX10_recordState r v ≤ kkX10_judge r p1 v) ∧ (∀ v6 : vSt, v6 = (fX10_recordState r v) → ((kd (rN (v6 r 0)) = 7) ∧ ((oX0_judgeFirst ((rN (v6 r 0)) + 2) ((rN (v6 r 0)) + 1) p1 v6) ∧ (((0 + 6) + kkX10_recordState r v) + kkX0_judgeFirst ((rN (v6 r 0)) + 2) ((rN (v6 r 0)) + 1) p1 v6 ≤ kkX10_judge r p1 v))))))))
abbrev rmX10_judge (r : Nat) (p1 : Int32) (v : vSt) : Room := { frames := 7, cells := kkX10_judge r p1 v, slots := kkX10_judge r p1 v, locals := 196 }
theorem dX10_judge_0 : decode cX10_judge 0 = .ok (.aload_n 0, 1) := by decide +kernel
theorem dX10_judge_1 : decode cX10_judge 1 = .ok (.getfield 10, 3) := by decide +kernel
theorem dX10_judge_4 : decode cX10_judge 4 = .ok (.getfield 126, 3) := by decide +kernel
theorem dX10_judge_7 : decode cX10_judge 7 = .ok (.aload_n 0, 1) := by decide +kernel
theorem dX10_judge_8 : decode cX10_judge 8 = .ok (.getfield 10, 3) := by decide +kernel
theorem dX10_judge_11 : decode cX10_judge 11 = .ok (.getfield 41, 3) := by decide +kernel
theorem dX10_judge_14 : decode cX10_judge 14 = .ok (.iload_n 1, 1) := by decide +kernel
theorem dX10_judge_15 : decode cX10_judge 15 = .ok (.invokevirtual 147, 3) := by decide +kernel
theorem dX10_judge_18 : decode cX10_judge 18 = .ok (.invokestatic 97, 3) := by decide +kernel
theorem dX10_judge_21 : decode cX10_judge 21 = .ok (.aload_n 0, 1) := by decide +kernel
theorem dX10_judge_22 : decode cX10_judge 22 = .ok (.invokevirtual 71, 3) := by decide +kernel
theorem dX10_judge_25 : decode cX10_judge 25 = .ok (.aload_n 0, 1) := by decide +kernel
theorem dX10_judge_26 : decode cX10_judge 26 = .ok (.getfield 10, 3) := by decide +kernel
theorem dX10_judge_29 : decode cX10_judge 29 = .ok (.getfield 126, 3) := by decide +kernel
theorem dX10_judge_32 : decode cX10_judge 32 = .ok (.aload_n 0, 1) := by decide +kernel
theorem dX10_judge_33 : decode cX10_judge 33 = .ok (.getfield 10, 3) := by decide +kernel
theorem dX10_judge_36 : decode cX10_judge 36 = .ok (.getfield 41, 3) := by decide +kernel
theorem dX10_judge_39 : decode cX10_judge 39 = .ok (.iload_n 1, 1) := by decide +kernel
theorem dX10_judge_40 : decode cX10_judge 40 = .ok (.invokevirtual 151, 3) := by decide +kernel
theorem dX10_judge_43 : decode cX10_judge 43 = .ok (.ireturn, 1) := by decide +kernel
set_option maxHeartbeats 8000000 in
set_option maxRecDepth 100000 in
theorem mX10_judge (l : Launch) (hst : l.stackTraces = false) (G : gG) (da : Nat → Nat) (v : vSt) (x : gX) (r : Nat) (hk_r : kd r = 10) (p1 : Int32) (ho : oX10_judge r p1 v) : TI l yX10_judge cX10_judge 2 (some .int) (rmX10_judge r p1 v) [.ref (ga G r), .int p1] G da v x (kkX10_judge r p1 v) (kkX10_judge r p1 v) (fX10_judge r p1 v).1 (fX10_judge r p1 v).2.1 (fX10_judge r p1 v).2.2 x := by
  refine gofTI hst (by decide) rfl (Nat.le_of_ble_eq_true rfl) ⟨Nat.le_of_ble_eq_true rfl, Nat.le_of_ble_eq_true rfl, Nat.le_refl _, Nat.le_refl _⟩ (fun p e s m args below meth c ls Q X hH hl E EX ES EW => ?_)
  have hx := X.1
  have hb := X.2.1
  have hown := X.2.2.2.1
  have hts := X.2.2.2.2.1
  have hS : va_S (gA G) s.heap s.heap [] := va_S.rf
  unfold oX10_judge at ho
  have hl : lv_has ls 2 [(0, .ref (ga G r)), (1, .int p1)] := hl
  refine lv_aload_n hx hb dX10_judge_0 rfl (lv_at hl 0 rfl) ?_
  refine g_VernierDrawers_10 X hH hk_r dX10_judge_1 ?_
  have hq1 := ho.1
  have ho := ho.2
  refine g_VernierDrawers_126 X hH hq1 dX10_judge_4 ?_
  refine lv_aload_n hx hb dX10_judge_7 rfl (lv_at hl 0 rfl) ?_
  refine g_VernierDrawers_10 X hH hk_r dX10_judge_8 ?_
  refine g_VernierDrawers_41 X hH hq1 dX10_judge_11 ?_
  refine lv_iload_n hx hb dX10_judge_14 rfl (lv_at hl 1 rfl) ?_
  refine k_X0_refusalToJudge X hS hH (kc_7_0 hq1) (kc_7_2 hq1) t_ml_VernierDrawers_147 hl.1 (Nat.le_of_ble_eq_true rfl) ⟨Nat.le_of_ble_eq_true rfl, Nat.le_of_ble_eq_true rfl⟩ ⟨Nat.zero_le _, Nat.zero_le _⟩ dX10_judge_15 ?_
  have hq2 := ho.1
  have ho := ho.2
  refine k_X10_refuse hst X hS hH  t_ml_VernierDrawers_97 hl.1 (Nat.le_of_ble_eq_true rfl) ⟨Nat.le_of_ble_eq_true rfl, Nat.le_of_ble_eq_true rfl⟩ ⟨hq2, hq2⟩ dX10_judge_18 (fun c3 da ce9 q9 H locs hH hS g1 g2 g3 => ?_) (fun c3 da H locs hH hS => ?_)
  · skip
    exact EX _ _ _ _ _ _ _ _ _ _ _ _ c3 (t31 ((fX10_judge.eq_1 _ _ _).trans ((if_neg c3).trans rfl))) (t33 ((fX10_judge.eq_1 _ _ _).trans ((if_neg c3).trans rfl))) hH hS g1 g2 g3 hq2 hq2
  · have ho := ho c3
    refine lv_aload_n hx hb dX10_judge_21 rfl (lv_at hl 0 rfl) ?_
    have hq4 := ho.1
    have ho := ho.2
    have hq5 := ho.1
    have ho := ho.2
    refine k_X10_recordState X hS hH hk_r hq4 t_ml_VernierDrawers_71 hl.1 (Nat.le_of_ble_eq_true rfl) ⟨Nat.le_of_ble_eq_true rfl, Nat.le_of_ble_eq_true rfl⟩ ⟨hq5, hq5⟩ dX10_judge_22 (fun da H locs v6 ev6 hH hS => ?_)
    have ho := ho v6 ev6
    refine lv_aload_n hx hb dX10_judge_25 rfl (lv_at hl 0 rfl) ?_
    refine g_VernierDrawers_10 X hH hk_r dX10_judge_26 ?_
    have hq7 := ho.1
    have ho := ho.2
    refine g_VernierDrawers_126 X hH hq7 dX10_judge_29 ?_
    refine lv_aload_n hx hb dX10_judge_32 rfl (lv_at hl 0 rfl) ?_
    refine g_VernierDrawers_10 X hH hk_r dX10_judge_33 ?_
    refine g_VernierDrawers_41 X hH hq7 dX10_judge_36 ?_
    refine lv_iload_n hx hb dX10_judge_39 rfl (lv_at hl 1 rfl) ?_
    have hq8 := ho.1
    have ho := ho.2
    have hq9 := ho
    refine k_X0_judgeFirst X hS hH (kc_7_0 hq7) (kc_7_2 hq7) hq8 t_ml_VernierDrawers_151 hl.1 (Nat.le_of_ble_eq_true rfl) ⟨Nat.le_of_ble_eq_true rfl, Nat.le_of_ble_eq_true rfl⟩ ⟨hq9, hq9⟩ dX10_judge_40 (fun da H locs v10 ev10 hH hS => ?_)
    replace ev6 := Eq.symm ev6
    replace ev10 := Eq.symm ev10
    subst ev6 ev10
    exact E _ _ _ _ _ _ _ _ _ dX10_judge_43 rfl (Eq.symm (t31 ((fX10_judge.eq_1 _ _ _).trans ((if_pos c3).trans rfl)))) (t32 ((fX10_judge.eq_1 _ _ _).trans ((if_pos c3).trans rfl))) (t33 ((fX10_judge.eq_1 _ _ _).trans ((if_pos c3).trans rfl))) hH hS hq9 hq9
theorem k_X10_judge {p : Program} {l : Launch} {e : Env} {R : Room} {s : State} {m : MethodId} {args : Array Value} {below : List Frame} {meth : Method} {c : Code} {H : Heap} {locs : List Loc} {cells slots : Nat} {Q : State → Prop} {cc : ByteArray} {pc nL : Nat} {ls : Array Slot} {rest : List Value} {G : gG} {own : String} {da : Nat → Nat} {v : vSt} {x : gX} (hst : l.stackTraces = false) (X : CX G p s m args c cc nL own) (hS : va_S (gA G) s.heap H locs) (hH : Hp G da v x H) {r : Nat} (hk_r : kd r = 10) {p1 : Int32} (ho : oX10_judge r p1 v) {idx : Nat} (hml : Cond.methodLink own idx yX10_judge ∈ TT) (hls : ls.size = nL) (hsum : (rest.map fun v => v.category).sum ≤ 8) (hR : (rmX10_judge r p1 v).frames + 1 ≤ R.frames ∧ 8 + (2 + 11) + (rmX10_judge r p1 v).locals ≤ R.locals) (hcs : cells + (kkX10_judge r p1 v) ≤ R.cells ∧ slots + (kkX10_judge r p1 v) ≤ R.slots) (hdg : decode cc pc = .ok (.invokevirtual idx, 3)) (kx : ¬ (fX10_judge r p1 v).1 = 0 → ∀ (d : Nat → Nat) (ce : Cell) (q9 : Addr) (H1 : Heap) (locs1 : List Loc) (v1 : vSt), v1 = (fX10_judge r p1 v).2.2 → Hp G d v1 x H1 → va_S (gA G) s.heap H1 locs1 → H1[q9]? = some ce → ce.vm = .none → s.vm.findClass (exN (fX10_judge r p1 v).1) = some ce.cls → vx_W p l e R s m args below meth c H1 locs1 (cells + (kkX10_judge r p1 v)) (slots + (kkX10_judge r p1 v)) Q (F0 m pc ls rest) q9) (kk : (fX10_judge r p1 v).1 = 0 → ∀ (d : Nat → Nat) (H1 : Heap) (locs1 : List Loc) (v1 : vSt), v1 = (fX10_judge r p1 v).2.2 → Hp G d v1 x H1 → va_S (gA G) s.heap H1 locs1 → W p l e R s m args below meth c H1 locs1 (cells + (kkX10_judge r p1 v)) (slots + (kkX10_judge r p1 v)) Q (F0 m (pc + 3) ls (.int (fX10_judge r p1 v).2.1 :: rest))) : W p l e R s m args below meth c H locs cells slots Q (F0 m pc ls (.int p1 :: .ref (ga G r) :: rest)) := c_ti (runxV (kp := 1) X.1 X.2.1 X.2.2.1 X.2.2.2.1 X.2.2.2.2.1 (mX10_judge l hst G da v x r hk_r p1 ho) pW_bl hml t_im_X10_judge t_sel_X10_judge t_ini_VernierDrawers t_code_X10_judge ⟨rfl, by decide, by decide, by decide +kernel⟩ rfl rfl hR hcs (recvW X hH (by rw [hk_r]; decide) (by rw [hk_r]; decide) (ce_10 hk_r) rfl) (preW X hS hH) rfl hls rfl hsum hdg) hS kx kk
def fX10_file (r : Nat) (p1 : Int32) (v : vSt) : Nat × Int32 × vSt := if fX10_refuse (fX0_refusalToFile ((rN (v r 0)) + 2) p1 v) v = 0 then (let v6 : vSt := fX10_recordState r v; let v10 : vSt := (fX0_fileFirst ((rN (v6 r 0)) + 2) p1 v6).2; (0, (fX0_fileFirst ((rN (v6 r 0)) + 2) p1 v6).1, v10)) else ((fX10_refuse (fX0_refusalToFile ((rN (v r 0)) + 2) p1 v) v, 0, v))

def kkX10_file (r : Nat) (p1 : Int32) (v : vSt) : Nat := pot ((fX10_file r p1 v).2.2) - pot v + 36
def oX10_file (r : Nat) (p1 : Int32) (v : vSt) : Prop := (kd (rN (v r 0)) = 7) ∧ ((0 + 6 ≤ kkX10_file r p1 v) ∧ ((fX10_refuse (fX0_refusalToFile ((rN (v r 0)) + 2) p1 v) v = 0) → ((oX10_recordState r v) ∧ (((0 + 6) + kkX10_recordState r v ≤ kkX10_file r p1 v) ∧ (∀ v6 : vSt, v6 = (fX10_recordState r v) → ((kd (rN (v6 r 0)) = 7) ∧ ((oX0_fileFirst ((rN (v6 r 0)) + 2) p1 v6) ∧ (((0 + 6) + kkX10_recordState r v) + kkX0_fileFirst ((rN (v6 r 0)) + 2) p1 v6 ≤ kkX10_file r p1 v))))))))
abbrev rmX10_file (r : Nat) (p1 : Int32) (v : vSt) : Room := { frames := 7, cells := kkX10_file r p1 v, slots := kkX10_file r p1 v, locals := 196 }
theorem dX10_file_0 : decode cX10_file 0 = .ok (.aload_n 0, 1) := by decide +kernel
theorem dX10_file_1 : decode cX10_file 1 = .ok (.getfield 10, 3) := by decide +kernel
theorem dX10_file_4 : decode cX10_file 4 = .ok (.getfield 126, 3) := by decide +kernel
theorem dX10_file_7 : decode cX10_file 7 = .ok (.iload_n 1, 1) := by decide +kernel
theorem dX10_file_8 : decode cX10_file 8 = .ok (.invokevirtual 154, 3) := by decide +kernel
theorem dX10_file_11 : decode cX10_file 11 = .ok (.invokestatic 97, 3) := by decide +kernel
theorem dX10_file_14 : decode cX10_file 14 = .ok (.aload_n 0, 1) := by decide +kernel
theorem dX10_file_15 : decode cX10_file 15 = .ok (.invokevirtual 71, 3) := by decide +kernel
theorem dX10_file_18 : decode cX10_file 18 = .ok (.aload_n 0, 1) := by decide +kernel
theorem dX10_file_19 : decode cX10_file 19 = .ok (.getfield 10, 3) := by decide +kernel
theorem dX10_file_22 : decode cX10_file 22 = .ok (.getfield 126, 3) := by decide +kernel
theorem dX10_file_25 : decode cX10_file 25 = .ok (.iload_n 1, 1) := by decide +kernel
theorem dX10_file_26 : decode cX10_file 26 = .ok (.invokevirtual 158, 3) := by decide +kernel
theorem dX10_file_29 : decode cX10_file 29 = .ok (.ireturn, 1) := by decide +kernel
set_option maxHeartbeats 8000000 in
set_option maxRecDepth 100000 in
theorem mX10_file (l : Launch) (hst : l.stackTraces = false) (G : gG) (da : Nat → Nat) (v : vSt) (x : gX) (r : Nat) (hk_r : kd r = 10) (p1 : Int32) (ho : oX10_file r p1 v) : TI l yX10_file cX10_file 2 (some .int) (rmX10_file r p1 v) [.ref (ga G r), .int p1] G da v x (kkX10_file r p1 v) (kkX10_file r p1 v) (fX10_file r p1 v).1 (fX10_file r p1 v).2.1 (fX10_file r p1 v).2.2 x := by
  refine gofTI hst (by decide) rfl (Nat.le_of_ble_eq_true rfl) ⟨Nat.le_of_ble_eq_true rfl, Nat.le_of_ble_eq_true rfl, Nat.le_refl _, Nat.le_refl _⟩ (fun p e s m args below meth c ls Q X hH hl E EX ES EW => ?_)
  have hx := X.1
  have hb := X.2.1
  have hown := X.2.2.2.1
  have hts := X.2.2.2.2.1
  have hS : va_S (gA G) s.heap s.heap [] := va_S.rf
  unfold oX10_file at ho
  have hl : lv_has ls 2 [(0, .ref (ga G r)), (1, .int p1)] := hl
  refine lv_aload_n hx hb dX10_file_0 rfl (lv_at hl 0 rfl) ?_
  refine g_VernierDrawers_10 X hH hk_r dX10_file_1 ?_
  have hq1 := ho.1
  have ho := ho.2
  refine g_VernierDrawers_126 X hH hq1 dX10_file_4 ?_
  refine lv_iload_n hx hb dX10_file_7 rfl (lv_at hl 1 rfl) ?_
  refine k_X0_refusalToFile X hS hH (kc_7_0 hq1) t_ml_VernierDrawers_154 hl.1 (Nat.le_of_ble_eq_true rfl) ⟨Nat.le_of_ble_eq_true rfl, Nat.le_of_ble_eq_true rfl⟩ ⟨Nat.zero_le _, Nat.zero_le _⟩ dX10_file_8 ?_
  have hq2 := ho.1
  have ho := ho.2
  refine k_X10_refuse hst X hS hH  t_ml_VernierDrawers_97 hl.1 (Nat.le_of_ble_eq_true rfl) ⟨Nat.le_of_ble_eq_true rfl, Nat.le_of_ble_eq_true rfl⟩ ⟨hq2, hq2⟩ dX10_file_11 (fun c3 da ce9 q9 H locs hH hS g1 g2 g3 => ?_) (fun c3 da H locs hH hS => ?_)
  · skip
    exact EX _ _ _ _ _ _ _ _ _ _ _ _ c3 (t31 ((fX10_file.eq_1 _ _ _).trans ((if_neg c3).trans rfl))) (t33 ((fX10_file.eq_1 _ _ _).trans ((if_neg c3).trans rfl))) hH hS g1 g2 g3 hq2 hq2
  · have ho := ho c3
    refine lv_aload_n hx hb dX10_file_14 rfl (lv_at hl 0 rfl) ?_
    have hq4 := ho.1
    have ho := ho.2
    have hq5 := ho.1
    have ho := ho.2
    refine k_X10_recordState X hS hH hk_r hq4 t_ml_VernierDrawers_71 hl.1 (Nat.le_of_ble_eq_true rfl) ⟨Nat.le_of_ble_eq_true rfl, Nat.le_of_ble_eq_true rfl⟩ ⟨hq5, hq5⟩ dX10_file_15 (fun da H locs v6 ev6 hH hS => ?_)
    have ho := ho v6 ev6
    refine lv_aload_n hx hb dX10_file_18 rfl (lv_at hl 0 rfl) ?_
    refine g_VernierDrawers_10 X hH hk_r dX10_file_19 ?_
    have hq7 := ho.1
    have ho := ho.2
    refine g_VernierDrawers_126 X hH hq7 dX10_file_22 ?_
    refine lv_iload_n hx hb dX10_file_25 rfl (lv_at hl 1 rfl) ?_
    have hq8 := ho.1
    have ho := ho.2
    have hq9 := ho
    refine k_X0_fileFirst X hS hH (kc_7_0 hq7) hq8 t_ml_VernierDrawers_158 hl.1 (Nat.le_of_ble_eq_true rfl) ⟨Nat.le_of_ble_eq_true rfl, Nat.le_of_ble_eq_true rfl⟩ ⟨hq9, hq9⟩ dX10_file_26 (fun da H locs v10 ev10 hH hS => ?_)
    replace ev6 := Eq.symm ev6
    replace ev10 := Eq.symm ev10
    subst ev6 ev10
    exact E _ _ _ _ _ _ _ _ _ dX10_file_29 rfl (Eq.symm (t31 ((fX10_file.eq_1 _ _ _).trans ((if_pos c3).trans rfl)))) (t32 ((fX10_file.eq_1 _ _ _).trans ((if_pos c3).trans rfl))) (t33 ((fX10_file.eq_1 _ _ _).trans ((if_pos c3).trans rfl))) hH hS hq9 hq9
theorem k_X10_file {p : Program} {l : Launch} {e : Env} {R : Room} {s : State} {m : MethodId} {args : Array Value} {below : List Frame} {meth : Method} {c : Code} {H : Heap} {locs : List Loc} {cells slots : Nat} {Q : State → Prop} {cc : ByteArray} {pc nL : Nat} {ls : Array Slot} {rest : List Value} {G : gG} {own : String} {da : Nat → Nat} {v : vSt} {x : gX} (hst : l.stackTraces = false) (X : CX G p s m args c cc nL own) (hS : va_S (gA G) s.heap H locs) (hH : Hp G da v x H) {r : Nat} (hk_r : kd r = 10) {p1 : Int32} (ho : oX10_file r p1 v) {idx : Nat} (hml : Cond.methodLink own idx yX10_file ∈ TT) (hls : ls.size = nL) (hsum : (rest.map fun v => v.category).sum ≤ 8) (hR : (rmX10_file r p1 v).frames + 1 ≤ R.frames ∧ 8 + (2 + 11) + (rmX10_file r p1 v).locals ≤ R.locals) (hcs : cells + (kkX10_file r p1 v) ≤ R.cells ∧ slots + (kkX10_file r p1 v) ≤ R.slots) (hdg : decode cc pc = .ok (.invokevirtual idx, 3)) (kx : ¬ (fX10_file r p1 v).1 = 0 → ∀ (d : Nat → Nat) (ce : Cell) (q9 : Addr) (H1 : Heap) (locs1 : List Loc) (v1 : vSt), v1 = (fX10_file r p1 v).2.2 → Hp G d v1 x H1 → va_S (gA G) s.heap H1 locs1 → H1[q9]? = some ce → ce.vm = .none → s.vm.findClass (exN (fX10_file r p1 v).1) = some ce.cls → vx_W p l e R s m args below meth c H1 locs1 (cells + (kkX10_file r p1 v)) (slots + (kkX10_file r p1 v)) Q (F0 m pc ls rest) q9) (kk : (fX10_file r p1 v).1 = 0 → ∀ (d : Nat → Nat) (H1 : Heap) (locs1 : List Loc) (v1 : vSt), v1 = (fX10_file r p1 v).2.2 → Hp G d v1 x H1 → va_S (gA G) s.heap H1 locs1 → W p l e R s m args below meth c H1 locs1 (cells + (kkX10_file r p1 v)) (slots + (kkX10_file r p1 v)) Q (F0 m (pc + 3) ls (.int (fX10_file r p1 v).2.1 :: rest))) : W p l e R s m args below meth c H locs cells slots Q (F0 m pc ls (.int p1 :: .ref (ga G r) :: rest)) := c_ti (runxV (kp := 1) X.1 X.2.1 X.2.2.1 X.2.2.2.1 X.2.2.2.2.1 (mX10_file l hst G da v x r hk_r p1 ho) pW_bl hml t_im_X10_file t_sel_X10_file t_ini_VernierDrawers t_code_X10_file ⟨rfl, by decide, by decide, by decide +kernel⟩ rfl rfl hR hcs (recvW X hH (by rw [hk_r]; decide) (by rw [hk_r]; decide) (ce_10 hk_r) rfl) (preW X hS hH) rfl hls rfl hsum hdg) hS kx kk
