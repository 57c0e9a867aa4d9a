/-! the law's wrappers -/
def fL_stackFor (o1 : Nat) (p1 : Int32) (o2 : Nat) (v : vSt) (x : gX) : Int32 × vSt × gX := if (fX10_stackFor o1 p1 v).1 = 0 then (let x5 : gX := xu x o2 (0 : Int32).toNatClampNeg (((fX10_stackFor o1 p1 v).2 : Int32).toInt64); (0, v, x5)) else (if (fX10_stackFor o1 p1 v).1 = 1 then ((1, v, x)) else ((2, v, x)))
def oL_stackFor (o1 : Nat) (p1 : Int32) (o2 : Nat) (v : vSt) (x : gX) : Prop := (oX10_stackFor o1 p1 v) ∧ (¬ ((fX10_stackFor o1 p1 v).1 = 0) → (¬ ((fX10_stackFor o1 p1 v).1 = 1) → ((fX10_stackFor o1 p1 v).1 = 3)))
abbrev rmL_stackFor : Room := { frames := 9, cells := 12, slots := 12, locals := 153 }
theorem dL_stackFor_0 : decode cL_stackFor 0 = .ok (.aload_n 2, 1) := by decide +kernel
theorem dL_stackFor_1 : decode cL_stackFor 1 = .ok (.iconst 0, 1) := by decide +kernel
theorem dL_stackFor_2 : decode cL_stackFor 2 = .ok (.aload_n 0, 1) := by decide +kernel
theorem dL_stackFor_3 : decode cL_stackFor 3 = .ok (.iload_n 1, 1) := by decide +kernel
theorem dL_stackFor_4 : decode cL_stackFor 4 = .ok (.invokevirtual 111, 3) := by decide +kernel
theorem dL_stackFor_7 : decode cL_stackFor 7 = .ok (.i2l, 1) := by decide +kernel
theorem dL_stackFor_8 : decode cL_stackFor 8 = .ok (.lastore, 1) := by decide +kernel
theorem dL_stackFor_9 : decode cL_stackFor 9 = .ok (.goto 9, 3) := by decide +kernel
theorem dL_stackFor_12 : decode cL_stackFor 12 = .ok (.astore_n 3, 1) := by decide +kernel
theorem dL_stackFor_13 : decode cL_stackFor 13 = .ok (.iconst 1, 1) := by decide +kernel
theorem dL_stackFor_14 : decode cL_stackFor 14 = .ok (.ireturn, 1) := by decide +kernel
theorem dL_stackFor_15 : decode cL_stackFor 15 = .ok (.astore_n 3, 1) := by decide +kernel
theorem dL_stackFor_16 : decode cL_stackFor 16 = .ok (.iconst 2, 1) := by decide +kernel
theorem dL_stackFor_17 : decode cL_stackFor 17 = .ok (.ireturn, 1) := by decide +kernel
theorem dL_stackFor_18 : decode cL_stackFor 18 = .ok (.iconst 0, 1) := by decide +kernel
theorem dL_stackFor_19 : decode cL_stackFor 19 = .ok (.ireturn, 1) := by decide +kernel
set_option maxHeartbeats 8000000 in
set_option maxRecDepth 100000 in
theorem mL_stackFor (l : Launch) (hst : l.stackTraces = false) (G : gG) (da : Nat → Nat) (v : vSt) (x : gX) (o1 : Nat) (hk_o1 : kd o1 = 10) (p1 : Int32) (o2 : Nat) (hk_o2 : kd o2 = 34) (ho : oL_stackFor o1 p1 o2 v x) : LI l yL_stackFor cL_stackFor 4 [((0 : Nat), (9 : Nat), (12 : Nat), (13 : Nat)), ((0 : Nat), (9 : Nat), (15 : Nat), (85 : Nat))] rmL_stackFor [.ref (ga G o1), .int p1, .ref (ga G o2)] G da v x 12 12 (fL_stackFor o1 p1 o2 v x).1 (fL_stackFor o1 p1 o2 v x).2.1 (fL_stackFor o1 p1 o2 v x).2.2 := by
  refine gofL (by decide) rfl (Nat.le_of_ble_eq_true rfl) (fun p e s m args below meth c ls Q X hN htab hH hl E => ?_)
  have hx := X.1
  have hb := X.2.1
  have hown := X.2.2.2.1
  have hts := X.2.2.2.2.1
  have hS : va_S (gA G) s.heap s.heap [] := va_S.rf
  unfold oL_stackFor at ho
  have hl : lv_has ls 4 [(0, .ref (ga G o1)), (1, .int p1), (2, .ref (ga G o2))] := hl
  refine lv_aload_n hx hb dL_stackFor_0 rfl (lv_at hl 2 rfl) ?_
  refine lv_iconst (v := 0) hx hb dL_stackFor_1 (by decide) ?_
  refine lv_aload_n hx hb dL_stackFor_2 rfl (lv_at hl 0 rfl) ?_
  refine lv_iload_n hx hb dL_stackFor_3 rfl (lv_at hl 1 rfl) ?_
  have hq1 := ho.1
  have ho := ho.2
  refine k_X10_stackFor hst X hS hH hk_o1 hq1 t_ml_VernierDrawersLaw_111 hl.1 (Nat.le_of_ble_eq_true rfl) ⟨Nat.le_of_ble_eq_true rfl, Nat.le_of_ble_eq_true rfl⟩ ⟨(Nat.le_of_ble_eq_true rfl), (Nat.le_of_ble_eq_true rfl)⟩ dL_stackFor_4 (fun c2 da ce9 q9 H locs hH hS g1 g2 g3 => ?_) (fun c2 da H locs hH hS => ?_)
  · have ho := ho c2
    refine (Decidable.em ((fX10_stackFor o1 p1 v).1 = 1)).elim (fun c3 => ?_) (fun c3 => ?_)
    · skip
      refine t_c1 (k := 1) X htab rfl g1 g2 (c3 ▸ g3) ?_
      refine lv_astore_n (lv' := [(3, .ref q9), (0, .ref (ga G o1)), (1, .int p1), (2, .ref (ga G o2))]) hx hb dL_stackFor_12 rfl hl (by decide) rfl (fun ls hl => ?_)
      refine lv_iconst (v := 1) hx hb dL_stackFor_13 (by decide) ?_
      exact E _ _ _ _ _ _ _ _ _ _ dL_stackFor_14 (t31 ((fL_stackFor.eq_1 _ _ _ _ _).trans ((if_neg c2).trans ((if_pos c3).trans rfl)))) (t32 ((fL_stackFor.eq_1 _ _ _ _ _).trans ((if_neg c2).trans ((if_pos c3).trans rfl)))) (t33 ((fL_stackFor.eq_1 _ _ _ _ _).trans ((if_neg c2).trans ((if_pos c3).trans rfl)))) hH hS (Nat.le_of_ble_eq_true rfl) (Nat.le_of_ble_eq_true rfl)
    · have ho := ho c3
      have hq4 := ho
      refine t_c2 (k := 3) X hN htab (by decide) rfl g1 g2 (hq4 ▸ g3) ?_
      refine lv_astore_n (lv' := [(3, .ref q9), (0, .ref (ga G o1)), (1, .int p1), (2, .ref (ga G o2))]) hx hb dL_stackFor_15 rfl hl (by decide) rfl (fun ls hl => ?_)
      refine lv_iconst (v := 2) hx hb dL_stackFor_16 (by decide) ?_
      exact E _ _ _ _ _ _ _ _ _ _ dL_stackFor_17 (t31 ((fL_stackFor.eq_1 _ _ _ _ _).trans ((if_neg c2).trans ((if_neg c3).trans rfl)))) (t32 ((fL_stackFor.eq_1 _ _ _ _ _).trans ((if_neg c2).trans ((if_neg c3).trans rfl)))) (t33 ((fL_stackFor.eq_1 _ _ _ _ _).trans ((if_neg c2).trans ((if_neg c3).trans rfl)))) hH hS (Nat.le_of_ble_eq_true rfl) (Nat.le_of_ble_eq_true rfl)
  · skip
    refine lv_i2l (v := ((fX10_stackFor o1 p1 v).2 : Int32).toInt64) hx hb dL_stackFor_7 rfl ?_
    refine last_34 X hH hS hk_o2 (i_in (by decide) (by decide)) dL_stackFor_8 (fun H locs x5 ex5 hH hS => ?_)
    refine lv_goto (tgt := 18) hx hb dL_stackFor_9 (by decide) ?_
    refine lv_iconst (v := 0) hx hb dL_stackFor_18 (by decide) ?_
    replace ex5 := Eq.symm ex5
    subst ex5
    exact E _ _ _ _ _ _ _ _ _ _ dL_stackFor_19 (t31 ((fL_stackFor.eq_1 _ _ _ _ _).trans ((if_pos c2).trans rfl))) (t32 ((fL_stackFor.eq_1 _ _ _ _ _).trans ((if_pos c2).trans rfl))) (t33 ((fL_stackFor.eq_1 _ _ _ _ _).trans ((if_pos c2).trans rfl))) hH hS (Nat.le_of_ble_eq_true rfl) (Nat.le_of_ble_eq_true rfl)
theorem k_L_stackFor {p : Program} {l : Launch} {e : Env} {R : Room} {s : State} {m : MethodId} {args : Array Value} {below : List Frame} {meth : Method} {c : Code} {H : Heap} {locs : List Loc} {cells slots : Nat} {Q : State → Prop} {cc : ByteArray} {pc nL : Nat} {ls : Array Slot} {rest : List Value} {G : gG} {own : String} {da : Nat → Nat} {v : vSt} {x : gX} (hst : l.stackTraces = false) (X : CX G p s m args c cc nL own) (hS : va_S (gA G) s.heap H locs) (hN : NC s) (hH : Hp G da v x H) {o1 : Nat} (hk_o1 : kd o1 = 10) {p1 : Int32} {o2 : Nat} (hk_o2 : kd o2 = 34) (ho : oL_stackFor o1 p1 o2 v x) {idx : Nat} (hml : Cond.methodLink own idx yL_stackFor ∈ TT) (hls : ls.size = nL) (hsum : (rest.map fun v => v.category).sum ≤ 8) (hR : rmL_stackFor.frames + 1 ≤ R.frames ∧ 8 + (4 + 11) + rmL_stackFor.locals ≤ R.locals) (hcs : cells + 12 ≤ R.cells ∧ slots + 12 ≤ R.slots) (hdg : decode cc pc = .ok (.invokestatic idx, 3)) (kk : ∀ (d : Nat → Nat) (H1 : Heap) (locs1 : List Loc) (v1 : vSt) (x1 : gX), v1 = (fL_stackFor o1 p1 o2 v x).2.1 → x1 = (fL_stackFor o1 p1 o2 v x).2.2 → Hp G d v1 x1 H1 → va_S (gA G) s.heap H1 locs1 → W p l e R s m args below meth c H1 locs1 (cells + 12) (slots + 12) Q (F0 m (pc + 3) ls (.int (fL_stackFor o1 p1 o2 v x).1 :: rest))) : W p l e R s m args below meth c H locs cells slots Q (F0 m pc ls (.ref (ga G o2) :: .int p1 :: .ref (ga G o1) :: rest)) := c_li (runLS (kp := 3) X.1 X.2.1 X.2.2.1 X.2.2.2.1 X.2.2.2.2.1 (mL_stackFor l hst G da v x o1 hk_o1 p1 o2 hk_o2 ho) pN_bl hml t_st_L_stackFor t_ini_VernierDrawersLaw t_code_L_stackFor ⟨by decide, by decide, by decide +kernel⟩ rfl rfl hR hcs (preN X hN hS hH) rfl hls rfl hsum hdg) hS (fun d9 H9 L9 hH9 => kk d9 H9 L9 _ _ rfl rfl hH9)
def fL_trueLength (o1 : Nat) (p1 : Int32) (o2 : Nat) (v : vSt) (x : gX) : Int32 × vSt × gX := if (fX10_trueLength o1 p1 v).1 = 0 then (let x5 : gX := xu x o2 (0 : Int32).toNatClampNeg (((fX10_trueLength o1 p1 v).2 : Int32).toInt64); (0, v, x5)) else (if (fX10_trueLength o1 p1 v).1 = 1 then ((1, v, x)) else ((2, v, x)))
def oL_trueLength (o1 : Nat) (p1 : Int32) (o2 : Nat) (v : vSt) (x : gX) : Prop := (oX10_trueLength o1 p1 v) ∧ (¬ ((fX10_trueLength o1 p1 v).1 = 0) → (¬ ((fX10_trueLength o1 p1 v).1 = 1) → ((fX10_trueLength o1 p1 v).1 = 3)))
abbrev rmL_trueLength : Room := { frames := 9, cells := 12, slots := 12, locals := 153 }
theorem dL_trueLength_0 : decode cL_trueLength 0 = .ok (.aload_n 2, 1) := by decide +kernel
theorem dL_trueLength_1 : decode cL_trueLength 1 = .ok (.iconst 0, 1) := by decide +kernel
theorem dL_trueLength_2 : decode cL_trueLength 2 = .ok (.aload_n 0, 1) := by decide +kernel
theorem dL_trueLength_3 : decode cL_trueLength 3 = .ok (.iload_n 1, 1) := by decide +kernel
theorem dL_trueLength_4 : decode cL_trueLength 4 = .ok (.invokevirtual 114, 3) := by decide +kernel
theorem dL_trueLength_7 : decode cL_trueLength 7 = .ok (.i2l, 1) := by decide +kernel
theorem dL_trueLength_8 : decode cL_trueLength 8 = .ok (.lastore, 1) := by decide +kernel
theorem dL_trueLength_9 : decode cL_trueLength 9 = .ok (.goto 9, 3) := by decide +kernel
theorem dL_trueLength_12 : decode cL_trueLength 12 = .ok (.astore_n 3, 1) := by decide +kernel
theorem dL_trueLength_13 : decode cL_trueLength 13 = .ok (.iconst 1, 1) := by decide +kernel
theorem dL_trueLength_14 : decode cL_trueLength 14 = .ok (.ireturn, 1) := by decide +kernel
theorem dL_trueLength_15 : decode cL_trueLength 15 = .ok (.astore_n 3, 1) := by decide +kernel
theorem dL_trueLength_16 : decode cL_trueLength 16 = .ok (.iconst 2, 1) := by decide +kernel
theorem dL_trueLength_17 : decode cL_trueLength 17 = .ok (.ireturn, 1) := by decide +kernel
theorem dL_trueLength_18 : decode cL_trueLength 18 = .ok (.iconst 0, 1) := by decide +kernel
theorem dL_trueLength_19 : decode cL_trueLength 19 = .ok (.ireturn, 1) := by decide +kernel
set_option maxHeartbeats 8000000 in
set_option maxRecDepth 100000 in
theorem mL_trueLength (l : Launch) (hst : l.stackTraces = false) (G : gG) (da : Nat → Nat) (v : vSt) (x : gX) (o1 : Nat) (hk_o1 : kd o1 = 10) (p1 : Int32) (o2 : Nat) (hk_o2 : kd o2 = 34) (ho : oL_trueLength o1 p1 o2 v x) : LI l yL_trueLength cL_trueLength 4 [((0 : Nat), (9 : Nat), (12 : Nat), (13 : Nat)), ((0 : Nat), (9 : Nat), (15 : Nat), (85 : Nat))] rmL_trueLength [.ref (ga G o1), .int p1, .ref (ga G o2)] G da v x 12 12 (fL_trueLength o1 p1 o2 v x).1 (fL_trueLength o1 p1 o2 v x).2.1 (fL_trueLength o1 p1 o2 v x).2.2 := by
  refine gofL (by decide) rfl (Nat.le_of_ble_eq_true rfl) (fun p e s m args below meth c ls Q X hN htab hH hl E => ?_)
  have hx := X.1
  have hb := X.2.1
  have hown := X.2.2.2.1
  have hts := X.2.2.2.2.1
  have hS : va_S (gA G) s.heap s.heap [] := va_S.rf
  unfold oL_trueLength at ho
  have hl : lv_has ls 4 [(0, .ref (ga G o1)), (1, .int p1), (2, .ref (ga G o2))] := hl
  refine lv_aload_n hx hb dL_trueLength_0 rfl (lv_at hl 2 rfl) ?_
  refine lv_iconst (v := 0) hx hb dL_trueLength_1 (by decide) ?_
  refine lv_aload_n hx hb dL_trueLength_2 rfl (lv_at hl 0 rfl) ?_
  refine lv_iload_n hx hb dL_trueLength_3 rfl (lv_at hl 1 rfl) ?_
  have hq1 := ho.1
  have ho := ho.2
  refine k_X10_trueLength hst X hS hH hk_o1 hq1 t_ml_VernierDrawersLaw_114 hl.1 (Nat.le_of_ble_eq_true rfl) ⟨Nat.le_of_ble_eq_true rfl, Nat.le_of_ble_eq_true rfl⟩ ⟨(Nat.le_of_ble_eq_true rfl), (Nat.le_of_ble_eq_true rfl)⟩ dL_trueLength_4 (fun c2 da ce9 q9 H locs hH hS g1 g2 g3 => ?_) (fun c2 da H locs hH hS => ?_)
  · have ho := ho c2
    refine (Decidable.em ((fX10_trueLength o1 p1 v).1 = 1)).elim (fun c3 => ?_) (fun c3 => ?_)
    · skip
      refine t_c1 (k := 1) X htab rfl g1 g2 (c3 ▸ g3) ?_
      refine lv_astore_n (lv' := [(3, .ref q9), (0, .ref (ga G o1)), (1, .int p1), (2, .ref (ga G o2))]) hx hb dL_trueLength_12 rfl hl (by decide) rfl (fun ls hl => ?_)
      refine lv_iconst (v := 1) hx hb dL_trueLength_13 (by decide) ?_
      exact E _ _ _ _ _ _ _ _ _ _ dL_trueLength_14 (t31 ((fL_trueLength.eq_1 _ _ _ _ _).trans ((if_neg c2).trans ((if_pos c3).trans rfl)))) (t32 ((fL_trueLength.eq_1 _ _ _ _ _).trans ((if_neg c2).trans ((if_pos c3).trans rfl)))) (t33 ((fL_trueLength.eq_1 _ _ _ _ _).trans ((if_neg c2).trans ((if_pos c3).trans rfl)))) hH hS (Nat.le_of_ble_eq_true rfl) (Nat.le_of_ble_eq_true rfl)
    · have ho := ho c3
      have hq4 := ho
      refine t_c2 (k := 3) X hN htab (by decide) rfl g1 g2 (hq4 ▸ g3) ?_
      refine lv_astore_n (lv' := [(3, .ref q9), (0, .ref (ga G o1)), (1, .int p1), (2, .ref (ga G o2))]) hx hb dL_trueLength_15 rfl hl (by decide) rfl (fun ls hl => ?_)
      refine lv_iconst (v := 2) hx hb dL_trueLength_16 (by decide) ?_
      exact E _ _ _ _ _ _ _ _ _ _ dL_trueLength_17 (t31 ((fL_trueLength.eq_1 _ _ _ _ _).trans ((if_neg c2).trans ((if_neg c3).trans rfl)))) (t32 ((fL_trueLength.eq_1 _ _ _ _ _).trans ((if_neg c2).trans ((if_neg c3).trans rfl)))) (t33 ((fL_trueLength.eq_1 _ _ _ _ _).trans ((if_neg c2).trans ((if_neg c3).trans rfl)))) hH hS (Nat.le_of_ble_eq_true rfl) (Nat.le_of_ble_eq_true rfl)
  · skip
    refine lv_i2l (v := ((fX10_trueLength o1 p1 v).2 : Int32).toInt64) hx hb dL_trueLength_7 rfl ?_
    refine last_34 X hH hS hk_o2 (i_in (by decide) (by decide)) dL_trueLength_8 (fun H locs x5 ex5 hH hS => ?_)
    refine lv_goto (tgt := 18) hx hb dL_trueLength_9 (by decide) ?_
    refine lv_iconst (v := 0) hx hb dL_trueLength_18 (by decide) ?_
    replace ex5 := Eq.symm ex5
    subst ex5
    exact E _ _ _ _ _ _ _ _ _ _ dL_trueLength_19 (t31 ((fL_trueLength.eq_1 _ _ _ _ _).trans ((if_pos c2).trans rfl))) (t32 ((fL_trueLength.eq_1 _ _ _ _ _).trans ((if_pos c2).trans rfl))) (t33 ((fL_trueLength.eq_1 _ _ _ _ _).trans ((if_pos c2).trans rfl))) hH hS (Nat.le_of_ble_eq_true rfl) (Nat.le_of_ble_eq_true rfl)
theorem k_L_trueLength {p : Program} {l : Launch} {e : Env} {R : Room} {s : State} {m : MethodId} {args : Array Value} {below : List Frame} {meth : Method} {c : Code} {H : Heap} {locs : List Loc} {cells slots : Nat} {Q : State → Prop} {cc : ByteArray} {pc nL : Nat} {ls : Array Slot} {rest : List Value} {G : gG} {own : String} {da : Nat → Nat} {v : vSt} {x : gX} (hst : l.stackTraces = false) (X : CX G p s m args c cc nL own) (hS : va_S (gA G) s.heap H locs) (hN : NC s) (hH : Hp G da v x H) {o1 : Nat} (hk_o1 : kd o1 = 10) {p1 : Int32} {o2 : Nat} (hk_o2 : kd o2 = 34) (ho : oL_trueLength o1 p1 o2 v x) {idx : Nat} (hml : Cond.methodLink own idx yL_trueLength ∈ TT) (hls : ls.size = nL) (hsum : (rest.map fun v => v.category).sum ≤ 8) (hR : rmL_trueLength.frames + 1 ≤ R.frames ∧ 8 + (4 + 11) + rmL_trueLength.locals ≤ R.locals) (hcs : cells + 12 ≤ R.cells ∧ slots + 12 ≤ R.slots) (hdg : decode cc pc = .ok (.invokestatic idx, 3)) (kk : ∀ (d : Nat → Nat) (H1 : Heap) (locs1 : List Loc) (v1 : vSt) (x1 : gX), v1 = (fL_trueLength o1 p1 o2 v x).2.1 → x1 = (fL_trueLength o1 p1 o2 v x).2.2 → Hp G d v1 x1 H1 → va_S (gA G) s.heap H1 locs1 → W p l e R s m args below meth c H1 locs1 (cells + 12) (slots + 12) Q (F0 m (pc + 3) ls (.int (fL_trueLength o1 p1 o2 v x).1 :: rest))) : W p l e R s m args below meth c H locs cells slots Q (F0 m pc ls (.ref (ga G o2) :: .int p1 :: .ref (ga G o1) :: rest)) := c_li (runLS (kp := 3) X.1 X.2.1 X.2.2.1 X.2.2.2.1 X.2.2.2.2.1 (mL_trueLength l hst G da v x o1 hk_o1 p1 o2 hk_o2 ho) pN_bl hml t_st_L_trueLength t_ini_VernierDrawersLaw t_code_L_trueLength ⟨by decide, by decide, by decide +kernel⟩ rfl rfl hR hcs (preN X hN hS hH) rfl hls rfl hsum hdg) hS (fun d9 H9 L9 hH9 => kk d9 H9 L9 _ _ rfl rfl hH9)
def fL_lengthOf (o1 : Nat) (p1 : Int32) (o2 : Nat) (v : vSt) (x : gX) : Int32 × vSt × gX := if (fX10_lengthOf o1 p1 v).1 = 0 then (let x4 : gX := xu x o2 (0 : Int32).toNatClampNeg (((fX10_lengthOf o1 p1 v).2 : Int32).toInt64); (0, v, x4)) else ((1, v, x))
def oL_lengthOf (o1 : Nat) (p1 : Int32) (o2 : Nat) (v : vSt) (x : gX) : Prop := (oX10_lengthOf o1 p1 v) ∧ (¬ ((fX10_lengthOf o1 p1 v).1 = 0) → ((fX10_lengthOf o1 p1 v).1 = 1))
abbrev rmL_lengthOf : Room := { frames := 8, cells := 6, slots := 6, locals := 132 }
theorem dL_lengthOf_0 : decode cL_lengthOf 0 = .ok (.aload_n 2, 1) := by decide +kernel
theorem dL_lengthOf_1 : decode cL_lengthOf 1 = .ok (.iconst 0, 1) := by decide +kernel
theorem dL_lengthOf_2 : decode cL_lengthOf 2 = .ok (.aload_n 0, 1) := by decide +kernel
theorem dL_lengthOf_3 : decode cL_lengthOf 3 = .ok (.iload_n 1, 1) := by decide +kernel
theorem dL_lengthOf_4 : decode cL_lengthOf 4 = .ok (.invokevirtual 117, 3) := by decide +kernel
theorem dL_lengthOf_7 : decode cL_lengthOf 7 = .ok (.i2l, 1) := by decide +kernel
theorem dL_lengthOf_8 : decode cL_lengthOf 8 = .ok (.lastore, 1) := by decide +kernel
theorem dL_lengthOf_9 : decode cL_lengthOf 9 = .ok (.goto 6, 3) := by decide +kernel
theorem dL_lengthOf_12 : decode cL_lengthOf 12 = .ok (.astore_n 3, 1) := by decide +kernel
theorem dL_lengthOf_13 : decode cL_lengthOf 13 = .ok (.iconst 1, 1) := by decide +kernel
theorem dL_lengthOf_14 : decode cL_lengthOf 14 = .ok (.ireturn, 1) := by decide +kernel
theorem dL_lengthOf_15 : decode cL_lengthOf 15 = .ok (.iconst 0, 1) := by decide +kernel
theorem dL_lengthOf_16 : decode cL_lengthOf 16 = .ok (.ireturn, 1) := by decide +kernel
set_option maxHeartbeats 8000000 in
set_option maxRecDepth 100000 in
theorem mL_lengthOf (l : Launch) (hst : l.stackTraces = false) (G : gG) (da : Nat → Nat) (v : vSt) (x : gX) (o1 : Nat) (hk_o1 : kd o1 = 10) (p1 : Int32) (o2 : Nat) (hk_o2 : kd o2 = 34) (ho : oL_lengthOf o1 p1 o2 v x) : LI l yL_lengthOf cL_lengthOf 4 [((0 : Nat), (9 : Nat), (12 : Nat), (13 : Nat))] rmL_lengthOf [.ref (ga G o1), .int p1, .ref (ga G o2)] G da v x 6 6 (fL_lengthOf o1 p1 o2 v x).1 (fL_lengthOf o1 p1 o2 v x).2.1 (fL_lengthOf o1 p1 o2 v x).2.2 := by
  refine gofL (by decide) rfl (Nat.le_of_ble_eq_true rfl) (fun p e s m args below meth c ls Q X hN htab hH hl E => ?_)
  have hx := X.1
  have hb := X.2.1
  have hown := X.2.2.2.1
  have hts := X.2.2.2.2.1
  have hS : va_S (gA G) s.heap s.heap [] := va_S.rf
  unfold oL_lengthOf at ho
  have hl : lv_has ls 4 [(0, .ref (ga G o1)), (1, .int p1), (2, .ref (ga G o2))] := hl
  refine lv_aload_n hx hb dL_lengthOf_0 rfl (lv_at hl 2 rfl) ?_
  refine lv_iconst (v := 0) hx hb dL_lengthOf_1 (by decide) ?_
  refine lv_aload_n hx hb dL_lengthOf_2 rfl (lv_at hl 0 rfl) ?_
  refine lv_iload_n hx hb dL_lengthOf_3 rfl (lv_at hl 1 rfl) ?_
  have hq1 := ho.1
  have ho := ho.2
  refine k_X10_lengthOf hst X hS hH hk_o1 hq1 t_ml_VernierDrawersLaw_117 hl.1 (Nat.le_of_ble_eq_true rfl) ⟨Nat.le_of_ble_eq_true rfl, Nat.le_of_ble_eq_true rfl⟩ ⟨(Nat.le_of_ble_eq_true rfl), (Nat.le_of_ble_eq_true rfl)⟩ dL_lengthOf_4 (fun c2 da ce9 q9 H locs hH hS g1 g2 g3 => ?_) (fun c2 da H locs hH hS => ?_)
  · have ho := ho c2
    have hq3 := ho
    refine t_c1 (k := 1) X htab rfl g1 g2 (hq3 ▸ g3) ?_
    refine lv_astore_n (lv' := [(3, .ref q9), (0, .ref (ga G o1)), (1, .int p1), (2, .ref (ga G o2))]) hx hb dL_lengthOf_12 rfl hl (by decide) rfl (fun ls hl => ?_)
    refine lv_iconst (v := 1) hx hb dL_lengthOf_13 (by decide) ?_
    exact E _ _ _ _ _ _ _ _ _ _ dL_lengthOf_14 (t31 ((fL_lengthOf.eq_1 _ _ _ _ _).trans ((if_neg c2).trans rfl))) (t32 ((fL_lengthOf.eq_1 _ _ _ _ _).trans ((if_neg c2).trans rfl))) (t33 ((fL_lengthOf.eq_1 _ _ _ _ _).trans ((if_neg c2).trans rfl))) hH hS (Nat.le_of_ble_eq_true rfl) (Nat.le_of_ble_eq_true rfl)
  · skip
    refine lv_i2l (v := ((fX10_lengthOf o1 p1 v).2 : Int32).toInt64) hx hb dL_lengthOf_7 rfl ?_
    refine last_34 X hH hS hk_o2 (i_in (by decide) (by decide)) dL_lengthOf_8 (fun H locs x4 ex4 hH hS => ?_)
    refine lv_goto (tgt := 15) hx hb dL_lengthOf_9 (by decide) ?_
    refine lv_iconst (v := 0) hx hb dL_lengthOf_15 (by decide) ?_
    replace ex4 := Eq.symm ex4
    subst ex4
    exact E _ _ _ _ _ _ _ _ _ _ dL_lengthOf_16 (t31 ((fL_lengthOf.eq_1 _ _ _ _ _).trans ((if_pos c2).trans rfl))) (t32 ((fL_lengthOf.eq_1 _ _ _ _ _).trans ((if_pos c2).trans rfl))) (t33 ((fL_lengthOf.eq_1 _ _ _ _ _).trans ((if_pos c2).trans rfl))) hH hS (Nat.le_of_ble_eq_true rfl) (Nat.le_of_ble_eq_true rfl)
theorem k_L_lengthOf {p : Program} {l : Launch} {e : Env} {R : Room} {s : State} {m : MethodId} {args : Array Value} {below : List Frame} {meth : Method} {c : Code} {H : Heap} {locs : List Loc} {cells slots : Nat} {Q : State → Prop} {cc : ByteArray} {pc nL : Nat} {ls : Array Slot} {rest : List Value} {G : gG} {own : String} {da : Nat → Nat} {v : vSt} {x : gX} (hst : l.stackTraces = false) (X : CX G p s m args c cc nL own) (hS : va_S (gA G) s.heap H locs) (hN : NC s) (hH : Hp G da v x H) {o1 : Nat} (hk_o1 : kd o1 = 10) {p1 : Int32} {o2 : Nat} (hk_o2 : kd o2 = 34) (ho : oL_lengthOf o1 p1 o2 v x) {idx : Nat} (hml : Cond.methodLink own idx yL_lengthOf ∈ TT) (hls : ls.size = nL) (hsum : (rest.map fun v => v.category).sum ≤ 8) (hR : rmL_lengthOf.frames + 1 ≤ R.frames ∧ 8 + (4 + 11) + rmL_lengthOf.locals ≤ R.locals) (hcs : cells + 6 ≤ R.cells ∧ slots + 6 ≤ R.slots) (hdg : decode cc pc = .ok (.invokestatic idx, 3)) (kk : ∀ (d : Nat → Nat) (H1 : Heap) (locs1 : List Loc) (v1 : vSt) (x1 : gX), v1 = (fL_lengthOf o1 p1 o2 v x).2.1 → x1 = (fL_lengthOf o1 p1 o2 v x).2.2 → Hp G d v1 x1 H1 → va_S (gA G) s.heap H1 locs1 → W p l e R s m args below meth c H1 locs1 (cells + 6) (slots + 6) Q (F0 m (pc + 3) ls (.int (fL_lengthOf o1 p1 o2 v x).1 :: rest))) : W p l e R s m args below meth c H locs cells slots Q (F0 m pc ls (.ref (ga G o2) :: .int p1 :: .ref (ga G o1) :: rest)) := c_li (runLS (kp := 3) X.1 X.2.1 X.2.2.1 X.2.2.2.1 X.2.2.2.2.1 (mL_lengthOf l hst G da v x o1 hk_o1 p1 o2 hk_o2 ho) pN_bl hml t_st_L_lengthOf t_ini_VernierDrawersLaw t_code_L_lengthOf ⟨by decide, by decide, by decide +kernel⟩ rfl rfl hR hcs (preN X hN hS hH) rfl hls rfl hsum hdg) hS (fun d9 H9 L9 hH9 => kk d9 H9 L9 _ _ rfl rfl hH9)
def fL_widthOf (o1 : Nat) (p1 : Int32) (o2 : Nat) (v : vSt) (x : gX) : Int32 × vSt × gX := if (fX10_widthOf o1 p1 v).1 = 0 then (let x4 : gX := xu x o2 (0 : Int32).toNatClampNeg (((fX10_widthOf o1 p1 v).2 : Int32).toInt64); (0, v, x4)) else ((1, v, x))
def oL_widthOf (o1 : Nat) (p1 : Int32) (o2 : Nat) (v : vSt) (x : gX) : Prop := (oX10_widthOf o1 p1 v) ∧ (¬ ((fX10_widthOf o1 p1 v).1 = 0) → ((fX10_widthOf o1 p1 v).1 = 1))
abbrev rmL_widthOf : Room := { frames := 8, cells := 6, slots := 6, locals := 132 }
theorem dL_widthOf_0 : decode cL_widthOf 0 = .ok (.aload_n 2, 1) := by decide +kernel
theorem dL_widthOf_1 : decode cL_widthOf 1 = .ok (.iconst 0, 1) := by decide +kernel
theorem dL_widthOf_2 : decode cL_widthOf 2 = .ok (.aload_n 0, 1) := by decide +kernel
theorem dL_widthOf_3 : decode cL_widthOf 3 = .ok (.iload_n 1, 1) := by decide +kernel
theorem dL_widthOf_4 : decode cL_widthOf 4 = .ok (.invokevirtual 120, 3) := by decide +kernel
theorem dL_widthOf_7 : decode cL_widthOf 7 = .ok (.i2l, 1) := by decide +kernel
theorem dL_widthOf_8 : decode cL_widthOf 8 = .ok (.lastore, 1) := by decide +kernel
theorem dL_widthOf_9 : decode cL_widthOf 9 = .ok (.goto 6, 3) := by decide +kernel
theorem dL_widthOf_12 : decode cL_widthOf 12 = .ok (.astore_n 3, 1) := by decide +kernel
theorem dL_widthOf_13 : decode cL_widthOf 13 = .ok (.iconst 1, 1) := by decide +kernel
theorem dL_widthOf_14 : decode cL_widthOf 14 = .ok (.ireturn, 1) := by decide +kernel
theorem dL_widthOf_15 : decode cL_widthOf 15 = .ok (.iconst 0, 1) := by decide +kernel
theorem dL_widthOf_16 : decode cL_widthOf 16 = .ok (.ireturn, 1) := by decide +kernel
set_option maxHeartbeats 8000000 in
set_option maxRecDepth 100000 in
theorem mL_widthOf (l : Launch) (hst : l.stackTraces = false) (G : gG) (da : Nat → Nat) (v : vSt) (x : gX) (o1 : Nat) (hk_o1 : kd o1 = 10) (p1 : Int32) (o2 : Nat) (hk_o2 : kd o2 = 34) (ho : oL_widthOf o1 p1 o2 v x) : LI l yL_widthOf cL_widthOf 4 [((0 : Nat), (9 : Nat), (12 : Nat), (13 : Nat))] rmL_widthOf [.ref (ga G o1), .int p1, .ref (ga G o2)] G da v x 6 6 (fL_widthOf o1 p1 o2 v x).1 (fL_widthOf o1 p1 o2 v x).2.1 (fL_widthOf o1 p1 o2 v x).2.2 := by
  refine gofL (by decide) rfl (Nat.le_of_ble_eq_true rfl) (fun p e s m args below meth c ls Q X hN htab hH hl E => ?_)
  have hx := X.1
  have hb := X.2.1
  have hown := X.2.2.2.1
  have hts := X.2.2.2.2.1
  have hS : va_S (gA G) s.heap s.heap [] := va_S.rf
  unfold oL_widthOf at ho
  have hl : lv_has ls 4 [(0, .ref (ga G o1)), (1, .int p1), (2, .ref (ga G o2))] := hl
  refine lv_aload_n hx hb dL_widthOf_0 rfl (lv_at hl 2 rfl) ?_
  refine lv_iconst (v := 0) hx hb dL_widthOf_1 (by decide) ?_
  refine lv_aload_n hx hb dL_widthOf_2 rfl (lv_at hl 0 rfl) ?_
  refine lv_iload_n hx hb dL_widthOf_3 rfl (lv_at hl 1 rfl) ?_
  have hq1 := ho.1
  have ho := ho.2
  refine k_X10_widthOf hst X hS hH hk_o1 hq1 t_ml_VernierDrawersLaw_120 hl.1 (Nat.le_of_ble_eq_true rfl) ⟨Nat.le_of_ble_eq_true rfl, Nat.le_of_ble_eq_true rfl⟩ ⟨(Nat.le_of_ble_eq_true rfl), (Nat.le_of_ble_eq_true rfl)⟩ dL_widthOf_4 (fun c2 da ce9 q9 H locs hH hS g1 g2 g3 => ?_) (fun c2 da H locs hH hS => ?_)
  · have ho := ho c2
    have hq3 := ho
    refine t_c1 (k := 1) X htab rfl g1 g2 (hq3 ▸ g3) ?_
    refine lv_astore_n (lv' := [(3, .ref q9), (0, .ref (ga G o1)), (1, .int p1), (2, .ref (ga G o2))]) hx hb dL_widthOf_12 rfl hl (by decide) rfl (fun ls hl => ?_)
    refine lv_iconst (v := 1) hx hb dL_widthOf_13 (by decide) ?_
    exact E _ _ _ _ _ _ _ _ _ _ dL_widthOf_14 (t31 ((fL_widthOf.eq_1 _ _ _ _ _).trans ((if_neg c2).trans rfl))) (t32 ((fL_widthOf.eq_1 _ _ _ _ _).trans ((if_neg c2).trans rfl))) (t33 ((fL_widthOf.eq_1 _ _ _ _ _).trans ((if_neg c2).trans rfl))) hH hS (Nat.le_of_ble_eq_true rfl) (Nat.le_of_ble_eq_true rfl)
  · skip
    refine lv_i2l (v := ((fX10_widthOf o1 p1 v).2 : Int32).toInt64) hx hb dL_widthOf_7 rfl ?_
    refine last_34 X hH hS hk_o2 (i_in (by decide) (by decide)) dL_widthOf_8 (fun H locs x4 ex4 hH hS => ?_)
    refine lv_goto (tgt := 15) hx hb dL_widthOf_9 (by decide) ?_
    refine lv_iconst (v := 0) hx hb dL_widthOf_15 (by decide) ?_
    replace ex4 := Eq.symm ex4
    subst ex4
    exact E _ _ _ _ _ _ _ _ _ _ dL_widthOf_16 (t31 ((fL_widthOf.eq_1 _ _ _ _ _).trans ((if_pos c2).trans rfl))) (t32 ((fL_widthOf.eq_1 _ _ _ _ _).trans ((if_pos c2).trans rfl))) (t33 ((fL_widthOf.eq_1 _ _ _ _ _).trans ((if_pos c2).trans rfl))) hH hS (Nat.le_of_ble_eq_true rfl) (Nat.le_of_ble_eq_true rfl)
theorem k_L_widthOf {p : Program} {l : Launch} {e : Env} {R : Room} {s : State} {m : MethodId} {args : Array Value} {below : List Frame} {meth : Method} {c : Code} {H : Heap} {locs : List Loc} {cells slots : Nat} {Q : State → Prop} {cc : ByteArray} {pc nL : Nat} {ls : Array Slot} {rest : List Value} {G : gG} {own : String} {da : Nat → Nat} {v : vSt} {x : gX} (hst : l.stackTraces = false) (X : CX G p s m args c cc nL own) (hS : va_S (gA G) s.heap H locs) (hN : NC s) (hH : Hp G da v x H) {o1 : Nat} (hk_o1 : kd o1 = 10) {p1 : Int32} {o2 : Nat} (hk_o2 : kd o2 = 34) (ho : oL_widthOf o1 p1 o2 v x) {idx : Nat} (hml : Cond.methodLink own idx yL_widthOf ∈ TT) (hls : ls.size = nL) (hsum : (rest.map fun v => v.category).sum ≤ 8) (hR : rmL_widthOf.frames + 1 ≤ R.frames ∧ 8 + (4 + 11) + rmL_widthOf.locals ≤ R.locals) (hcs : cells + 6 ≤ R.cells ∧ slots + 6 ≤ R.slots) (hdg : decode cc pc = .ok (.invokestatic idx, 3)) (kk : ∀ (d : Nat → Nat) (H1 : Heap) (locs1 : List Loc) (v1 : vSt) (x1 : gX), v1 = (fL_widthOf o1 p1 o2 v x).2.1 → x1 = (fL_widthOf o1 p1 o2 v x).2.2 → Hp G d v1 x1 H1 → va_S (gA G) s.heap H1 locs1 → W p l e R s m args below meth c H1 locs1 (cells + 6) (slots + 6) Q (F0 m (pc + 3) ls (.int (fL_widthOf o1 p1 o2 v x).1 :: rest))) : W p l e R s m args below meth c H locs cells slots Q (F0 m pc ls (.ref (ga G o2) :: .int p1 :: .ref (ga G o1) :: rest)) := c_li (runLS (kp := 3) X.1 X.2.1 X.2.2.1 X.2.2.2.1 X.2.2.2.2.1 (mL_widthOf l hst G da v x o1 hk_o1 p1 o2 hk_o2 ho) pN_bl hml t_st_L_widthOf t_ini_VernierDrawersLaw t_code_L_widthOf ⟨by decide, by decide, by decide +kernel⟩ rfl rfl hR hcs (preN X hN hS hH) rfl hls rfl hsum hdg) hS (fun d9 H9 L9 hH9 => kk d9 H9 L9 _ _ rfl rfl hH9)
def fL_typeAt (o1 : Nat) (p1 : Int32) (o2 : Nat) (v : vSt) (x : gX) : Int32 × vSt × gX := if (fX10_typeAt o1 p1 v).1 = 0 then (let x5 : gX := xu x o2 (0 : Int32).toNatClampNeg (((fX10_typeAt o1 p1 v).2 : Int32).toInt64); (0, v, x5)) else (if (fX10_typeAt o1 p1 v).1 = 1 then ((1, v, x)) else ((2, v, x)))
def oL_typeAt (o1 : Nat) (p1 : Int32) (o2 : Nat) (v : vSt) (x : gX) : Prop := (oX10_typeAt o1 p1 v) ∧ (¬ ((fX10_typeAt o1 p1 v).1 = 0) → (¬ ((fX10_typeAt o1 p1 v).1 = 1) → ((fX10_typeAt o1 p1 v).1 = 3)))
abbrev rmL_typeAt : Room := { frames := 8, cells := 6, slots := 6, locals := 132 }
theorem dL_typeAt_0 : decode cL_typeAt 0 = .ok (.aload_n 2, 1) := by decide +kernel
theorem dL_typeAt_1 : decode cL_typeAt 1 = .ok (.iconst 0, 1) := by decide +kernel
theorem dL_typeAt_2 : decode cL_typeAt 2 = .ok (.aload_n 0, 1) := by decide +kernel
theorem dL_typeAt_3 : decode cL_typeAt 3 = .ok (.iload_n 1, 1) := by decide +kernel
theorem dL_typeAt_4 : decode cL_typeAt 4 = .ok (.invokevirtual 123, 3) := by decide +kernel
theorem dL_typeAt_7 : decode cL_typeAt 7 = .ok (.i2l, 1) := by decide +kernel
theorem dL_typeAt_8 : decode cL_typeAt 8 = .ok (.lastore, 1) := by decide +kernel
theorem dL_typeAt_9 : decode cL_typeAt 9 = .ok (.goto 9, 3) := by decide +kernel
theorem dL_typeAt_12 : decode cL_typeAt 12 = .ok (.astore_n 3, 1) := by decide +kernel
theorem dL_typeAt_13 : decode cL_typeAt 13 = .ok (.iconst 1, 1) := by decide +kernel
theorem dL_typeAt_14 : decode cL_typeAt 14 = .ok (.ireturn, 1) := by decide +kernel
theorem dL_typeAt_15 : decode cL_typeAt 15 = .ok (.astore_n 3, 1) := by decide +kernel
theorem dL_typeAt_16 : decode cL_typeAt 16 = .ok (.iconst 2, 1) := by decide +kernel
theorem dL_typeAt_17 : decode cL_typeAt 17 = .ok (.ireturn, 1) := by decide +kernel
theorem dL_typeAt_18 : decode cL_typeAt 18 = .ok (.iconst 0, 1) := by decide +kernel
theorem dL_typeAt_19 : decode cL_typeAt 19 = .ok (.ireturn, 1) := by decide +kernel
set_option maxHeartbeats 8000000 in
set_option maxRecDepth 100000 in
theorem mL_typeAt (l : Launch) (hst : l.stackTraces = false) (G : gG) (da : Nat → Nat) (v : vSt) (x : gX) (o1 : Nat) (hk_o1 : kd o1 = 10) (p1 : Int32) (o2 : Nat) (hk_o2 : kd o2 = 34) (ho : oL_typeAt o1 p1 o2 v x) : LI l yL_typeAt cL_typeAt 4 [((0 : Nat), (9 : Nat), (12 : Nat), (13 : Nat)), ((0 : Nat), (9 : Nat), (15 : Nat), (85 : Nat))] rmL_typeAt [.ref (ga G o1), .int p1, .ref (ga G o2)] G da v x 6 6 (fL_typeAt o1 p1 o2 v x).1 (fL_typeAt o1 p1 o2 v x).2.1 (fL_typeAt o1 p1 o2 v x).2.2 := by
  refine gofL (by decide) rfl (Nat.le_of_ble_eq_true rfl) (fun p e s m args below meth c ls Q X hN htab hH hl E => ?_)
  have hx := X.1
  have hb := X.2.1
  have hown := X.2.2.2.1
  have hts := X.2.2.2.2.1
  have hS : va_S (gA G) s.heap s.heap [] := va_S.rf
  unfold oL_typeAt at ho
  have hl : lv_has ls 4 [(0, .ref (ga G o1)), (1, .int p1), (2, .ref (ga G o2))] := hl
  refine lv_aload_n hx hb dL_typeAt_0 rfl (lv_at hl 2 rfl) ?_
  refine lv_iconst (v := 0) hx hb dL_typeAt_1 (by decide) ?_
  refine lv_aload_n hx hb dL_typeAt_2 rfl (lv_at hl 0 rfl) ?_
  refine lv_iload_n hx hb dL_typeAt_3 rfl (lv_at hl 1 rfl) ?_
  have hq1 := ho.1
  have ho := ho.2
  refine k_X10_typeAt hst X hS hH hk_o1 hq1 t_ml_VernierDrawersLaw_123 hl.1 (Nat.le_of_ble_eq_true rfl) ⟨Nat.le_of_ble_eq_true rfl, Nat.le_of_ble_eq_true rfl⟩ ⟨(Nat.le_of_ble_eq_true rfl), (Nat.le_of_ble_eq_true rfl)⟩ dL_typeAt_4 (fun c2 da ce9 q9 H locs hH hS g1 g2 g3 => ?_) (fun c2 da H locs hH hS => ?_)
  · have ho := ho c2
    refine (Decidable.em ((fX10_typeAt o1 p1 v).1 = 1)).elim (fun c3 => ?_) (fun c3 => ?_)
    · skip
      refine t_c1 (k := 1) X htab rfl g1 g2 (c3 ▸ g3) ?_
      refine lv_astore_n (lv' := [(3, .ref q9), (0, .ref (ga G o1)), (1, .int p1), (2, .ref (ga G o2))]) hx hb dL_typeAt_12 rfl hl (by decide) rfl (fun ls hl => ?_)
      refine lv_iconst (v := 1) hx hb dL_typeAt_13 (by decide) ?_
      exact E _ _ _ _ _ _ _ _ _ _ dL_typeAt_14 (t31 ((fL_typeAt.eq_1 _ _ _ _ _).trans ((if_neg c2).trans ((if_pos c3).trans rfl)))) (t32 ((fL_typeAt.eq_1 _ _ _ _ _).trans ((if_neg c2).trans ((if_pos c3).trans rfl)))) (t33 ((fL_typeAt.eq_1 _ _ _ _ _).trans ((if_neg c2).trans ((if_pos c3).trans rfl)))) hH hS (Nat.le_of_ble_eq_true rfl) (Nat.le_of_ble_eq_true rfl)
    · have ho := ho c3
      have hq4 := ho
      refine t_c2 (k := 3) X hN htab (by decide) rfl g1 g2 (hq4 ▸ g3) ?_
      refine lv_astore_n (lv' := [(3, .ref q9), (0, .ref (ga G o1)), (1, .int p1), (2, .ref (ga G o2))]) hx hb dL_typeAt_15 rfl hl (by decide) rfl (fun ls hl => ?_)
      refine lv_iconst (v := 2) hx hb dL_typeAt_16 (by decide) ?_
      exact E _ _ _ _ _ _ _ _ _ _ dL_typeAt_17 (t31 ((fL_typeAt.eq_1 _ _ _ _ _).trans ((if_neg c2).trans ((if_neg c3).trans rfl)))) (t32 ((fL_typeAt.eq_1 _ _ _ _ _).trans ((if_neg c2).trans ((if_neg c3).trans rfl)))) (t33 ((fL_typeAt.eq_1 _ _ _ _ _).trans ((if_neg c2).trans ((if_neg c3).trans rfl)))) hH hS (Nat.le_of_ble_eq_true rfl) (Nat.le_of_ble_eq_true rfl)
  · skip
    refine lv_i2l (v := ((fX10_typeAt o1 p1 v).2 : Int32).toInt64) hx hb dL_typeAt_7 rfl ?_
    refine last_34 X hH hS hk_o2 (i_in (by decide) (by decide)) dL_typeAt_8 (fun H locs x5 ex5 hH hS => ?_)
    refine lv_goto (tgt := 18) hx hb dL_typeAt_9 (by decide) ?_
    refine lv_iconst (v := 0) hx hb dL_typeAt_18 (by decide) ?_
    replace ex5 := Eq.symm ex5
    subst ex5
    exact E _ _ _ _ _ _ _ _ _ _ dL_typeAt_19 (t31 ((fL_typeAt.eq_1 _ _ _ _ _).trans ((if_pos c2).trans rfl))) (t32 ((fL_typeAt.eq_1 _ _ _ _ _).trans ((if_pos c2).trans rfl))) (t33 ((fL_typeAt.eq_1 _ _ _ _ _).trans ((if_pos c2).trans rfl))) hH hS (Nat.le_of_ble_eq_true rfl) (Nat.le_of_ble_eq_true rfl)
theorem k_L_typeAt {p : Program} {l : Launch} {e : Env} {R : Room} {s : State} {m : MethodId} {args : Array Value} {below : List Frame} {meth : Method} {c : Code} {H : Heap} {locs : List Loc} {cells slots : Nat} {Q : State → Prop} {cc : ByteArray} {pc nL : Nat} {ls : Array Slot} {rest : List Value} {G : gG} {own : String} {da : Nat → Nat} {v : vSt} {x : gX} (hst : l.stackTraces = false) (X : CX G p s m args c cc nL own) (hS : va_S (gA G) s.heap H locs) (hN : NC s) (hH : Hp G da v x H) {o1 : Nat} (hk_o1 : kd o1 = 10) {p1 : Int32} {o2 : Nat} (hk_o2 : kd o2 = 34) (ho : oL_typeAt o1 p1 o2 v x) {idx : Nat} (hml : Cond.methodLink own idx yL_typeAt ∈ TT) (hls : ls.size = nL) (hsum : (rest.map fun v => v.category).sum ≤ 8) (hR : rmL_typeAt.frames + 1 ≤ R.frames ∧ 8 + (4 + 11) + rmL_typeAt.locals ≤ R.locals) (hcs : cells + 6 ≤ R.cells ∧ slots + 6 ≤ R.slots) (hdg : decode cc pc = .ok (.invokestatic idx, 3)) (kk : ∀ (d : Nat → Nat) (H1 : Heap) (locs1 : List Loc) (v1 : vSt) (x1 : gX), v1 = (fL_typeAt o1 p1 o2 v x).2.1 → x1 = (fL_typeAt o1 p1 o2 v x).2.2 → Hp G d v1 x1 H1 → va_S (gA G) s.heap H1 locs1 → W p l e R s m args below meth c H1 locs1 (cells + 6) (slots + 6) Q (F0 m (pc + 3) ls (.int (fL_typeAt o1 p1 o2 v x).1 :: rest))) : W p l e R s m args below meth c H locs cells slots Q (F0 m pc ls (.ref (ga G o2) :: .int p1 :: .ref (ga G o1) :: rest)) := c_li (runLS (kp := 3) X.1 X.2.1 X.2.2.1 X.2.2.2.1 X.2.2.2.2.1 (mL_typeAt l hst G da v x o1 hk_o1 p1 o2 hk_o2 ho) pN_bl hml t_st_L_typeAt t_ini_VernierDrawersLaw t_code_L_typeAt ⟨by decide, by decide, by decide +kernel⟩ rfl rfl hR hcs (preN X hN hS hH) rfl hls rfl hsum hdg) hS (fun d9 H9 L9 hH9 => kk d9 H9 L9 _ _ rfl rfl hH9)
def fL_wasDoubted (o1 : Nat) (p1 : Int32) (o2 : Nat) (v : vSt) (x : gX) : Int32 × vSt × gX := if (fX10_wasDoubted o1 p1 v).1 = 0 then (if (((fX10_wasDoubted o1 p1 v).2) : Int32) = 0 then (let x6 : gX := xu x o2 (0 : Int32).toNatClampNeg 0; (0, v, x6)) else (let x7 : gX := xu x o2 (0 : Int32).toNatClampNeg 1; (0, v, x7))) else (if (fX10_wasDoubted o1 p1 v).1 = 1 then ((1, v, x)) else ((2, v, x)))
def oL_wasDoubted (o1 : Nat) (p1 : Int32) (o2 : Nat) (v : vSt) (x : gX) : Prop := (oX10_wasDoubted o1 p1 v) ∧ (¬ ((fX10_wasDoubted o1 p1 v).1 = 0) → (¬ ((fX10_wasDoubted o1 p1 v).1 = 1) → ((fX10_wasDoubted o1 p1 v).1 = 3)))
abbrev rmL_wasDoubted : Room := { frames := 8, cells := 6, slots := 6, locals := 132 }
theorem dL_wasDoubted_0 : decode cL_wasDoubted 0 = .ok (.aload_n 2, 1) := by decide +kernel
theorem dL_wasDoubted_1 : decode cL_wasDoubted 1 = .ok (.iconst 0, 1) := by decide +kernel
theorem dL_wasDoubted_2 : decode cL_wasDoubted 2 = .ok (.aload_n 0, 1) := by decide +kernel
theorem dL_wasDoubted_3 : decode cL_wasDoubted 3 = .ok (.iload_n 1, 1) := by decide +kernel
theorem dL_wasDoubted_4 : decode cL_wasDoubted 4 = .ok (.invokevirtual 126, 3) := by decide +kernel
theorem dL_wasDoubted_7 : decode cL_wasDoubted 7 = .ok (.ifCond .eq 7, 3) := by decide +kernel
theorem dL_wasDoubted_10 : decode cL_wasDoubted 10 = .ok (.lconst 1, 1) := by decide +kernel
theorem dL_wasDoubted_11 : decode cL_wasDoubted 11 = .ok (.goto 4, 3) := by decide +kernel
theorem dL_wasDoubted_14 : decode cL_wasDoubted 14 = .ok (.lconst 0, 1) := by decide +kernel
theorem dL_wasDoubted_15 : decode cL_wasDoubted 15 = .ok (.lastore, 1) := by decide +kernel
theorem dL_wasDoubted_16 : decode cL_wasDoubted 16 = .ok (.goto 9, 3) := by decide +kernel
theorem dL_wasDoubted_19 : decode cL_wasDoubted 19 = .ok (.astore_n 3, 1) := by decide +kernel
theorem dL_wasDoubted_20 : decode cL_wasDoubted 20 = .ok (.iconst 1, 1) := by decide +kernel
theorem dL_wasDoubted_21 : decode cL_wasDoubted 21 = .ok (.ireturn, 1) := by decide +kernel
theorem dL_wasDoubted_22 : decode cL_wasDoubted 22 = .ok (.astore_n 3, 1) := by decide +kernel
theorem dL_wasDoubted_23 : decode cL_wasDoubted 23 = .ok (.iconst 2, 1) := by decide +kernel
theorem dL_wasDoubted_24 : decode cL_wasDoubted 24 = .ok (.ireturn, 1) := by decide +kernel
theorem dL_wasDoubted_25 : decode cL_wasDoubted 25 = .ok (.iconst 0, 1) := by decide +kernel
theorem dL_wasDoubted_26 : decode cL_wasDoubted 26 = .ok (.ireturn, 1) := by decide +kernel
set_option maxHeartbeats 8000000 in
set_option maxRecDepth 100000 in
theorem mL_wasDoubted (l : Launch) (hst : l.stackTraces = false) (G : gG) (da : Nat → Nat) (v : vSt) (x : gX) (o1 : Nat) (hk_o1 : kd o1 = 10) (p1 : Int32) (o2 : Nat) (hk_o2 : kd o2 = 34) (ho : oL_wasDoubted o1 p1 o2 v x) : LI l yL_wasDoubted cL_wasDoubted 4 [((0 : Nat), (16 : Nat), (19 : Nat), (13 : Nat)), ((0 : Nat), (16 : Nat), (22 : Nat), (85 : Nat))] rmL_wasDoubted [.ref (ga G o1), .int p1, .ref (ga G o2)] G da v x 6 6 (fL_wasDoubted o1 p1 o2 v x).1 (fL_wasDoubted o1 p1 o2 v x).2.1 (fL_wasDoubted o1 p1 o2 v x).2.2 := by
  refine gofL (by decide) rfl (Nat.le_of_ble_eq_true rfl) (fun p e s m args below meth c ls Q X hN htab hH hl E => ?_)
  have hx := X.1
  have hb := X.2.1
  have hown := X.2.2.2.1
  have hts := X.2.2.2.2.1
  have hS : va_S (gA G) s.heap s.heap [] := va_S.rf
  unfold oL_wasDoubted at ho
  have hl : lv_has ls 4 [(0, .ref (ga G o1)), (1, .int p1), (2, .ref (ga G o2))] := hl
  refine lv_aload_n hx hb dL_wasDoubted_0 rfl (lv_at hl 2 rfl) ?_
  refine lv_iconst (v := 0) hx hb dL_wasDoubted_1 (by decide) ?_
  refine lv_aload_n hx hb dL_wasDoubted_2 rfl (lv_at hl 0 rfl) ?_
  refine lv_iload_n hx hb dL_wasDoubted_3 rfl (lv_at hl 1 rfl) ?_
  have hq1 := ho.1
  have ho := ho.2
  refine k_X10_wasDoubted hst X hS hH hk_o1 hq1 t_ml_VernierDrawersLaw_126 hl.1 (Nat.le_of_ble_eq_true rfl) ⟨Nat.le_of_ble_eq_true rfl, Nat.le_of_ble_eq_true rfl⟩ ⟨(Nat.le_of_ble_eq_true rfl), (Nat.le_of_ble_eq_true rfl)⟩ dL_wasDoubted_4 (fun c2 da ce9 q9 H locs hH hS g1 g2 g3 => ?_) (fun c2 da H locs hH hS => ?_)
  · have ho := ho c2
    refine (Decidable.em ((fX10_wasDoubted o1 p1 v).1 = 1)).elim (fun c3 => ?_) (fun c3 => ?_)
    · skip
      refine t_c1 (k := 1) X htab rfl g1 g2 (c3 ▸ g3) ?_
      refine lv_astore_n (lv' := [(3, .ref q9), (0, .ref (ga G o1)), (1, .int p1), (2, .ref (ga G o2))]) hx hb dL_wasDoubted_19 rfl hl (by decide) rfl (fun ls hl => ?_)
      refine lv_iconst (v := 1) hx hb dL_wasDoubted_20 (by decide) ?_
      exact E _ _ _ _ _ _ _ _ _ _ dL_wasDoubted_21 (t31 ((fL_wasDoubted.eq_1 _ _ _ _ _).trans ((if_neg c2).trans ((if_pos c3).trans rfl)))) (t32 ((fL_wasDoubted.eq_1 _ _ _ _ _).trans ((if_neg c2).trans ((if_pos c3).trans rfl)))) (t33 ((fL_wasDoubted.eq_1 _ _ _ _ _).trans ((if_neg c2).trans ((if_pos c3).trans rfl)))) hH hS (Nat.le_of_ble_eq_true rfl) (Nat.le_of_ble_eq_true rfl)
    · have ho := ho c3
      have hq4 := ho
      refine t_c2 (k := 3) X hN htab (by decide) rfl g1 g2 (hq4 ▸ g3) ?_
      refine lv_astore_n (lv' := [(3, .ref q9), (0, .ref (ga G o1)), (1, .int p1), (2, .ref (ga G o2))]) hx hb dL_wasDoubted_22 rfl hl (by decide) rfl (fun ls hl => ?_)
      refine lv_iconst (v := 2) hx hb dL_wasDoubted_23 (by decide) ?_
      exact E _ _ _ _ _ _ _ _ _ _ dL_wasDoubted_24 (t31 ((fL_wasDoubted.eq_1 _ _ _ _ _).trans ((if_neg c2).trans ((if_neg c3).trans rfl)))) (t32 ((fL_wasDoubted.eq_1 _ _ _ _ _).trans ((if_neg c2).trans ((if_neg c3).trans rfl)))) (t33 ((fL_wasDoubted.eq_1 _ _ _ _ _).trans ((if_neg c2).trans ((if_neg c3).trans rfl)))) hH hS (Nat.le_of_ble_eq_true rfl) (Nat.le_of_ble_eq_true rfl)
  · skip
    refine lv_if_eq (tgt := 14) hx hb dL_wasDoubted_7 (by decide) (fun c5 => ?_) (fun c5 => ?_)
    · skip
      refine lv_lconst (v := 0) hx hb dL_wasDoubted_14 rfl ?_
      refine last_34 X hH hS hk_o2 (i_in (by decide) (by decide)) dL_wasDoubted_15 (fun H locs x6 ex6 hH hS => ?_)
      refine lv_goto (tgt := 25) hx hb dL_wasDoubted_16 (by decide) ?_
      refine lv_iconst (v := 0) hx hb dL_wasDoubted_25 (by decide) ?_
      replace ex6 := Eq.symm ex6
      subst ex6
      exact E _ _ _ _ _ _ _ _ _ _ dL_wasDoubted_26 (t31 ((fL_wasDoubted.eq_1 _ _ _ _ _).trans ((if_pos c2).trans ((if_pos c5).trans rfl)))) (t32 ((fL_wasDoubted.eq_1 _ _ _ _ _).trans ((if_pos c2).trans ((if_pos c5).trans rfl)))) (t33 ((fL_wasDoubted.eq_1 _ _ _ _ _).trans ((if_pos c2).trans ((if_pos c5).trans rfl)))) hH hS (Nat.le_of_ble_eq_true rfl) (Nat.le_of_ble_eq_true rfl)
    · skip
      refine lv_lconst (v := 1) hx hb dL_wasDoubted_10 rfl ?_
      refine lv_goto (tgt := 15) hx hb dL_wasDoubted_11 (by decide) ?_
      refine last_34 X hH hS hk_o2 (i_in (by decide) (by decide)) dL_wasDoubted_15 (fun H locs x7 ex7 hH hS => ?_)
      refine lv_goto (tgt := 25) hx hb dL_wasDoubted_16 (by decide) ?_
      refine lv_iconst (v := 0) hx hb dL_wasDoubted_25 (by decide) ?_
      replace ex7 := Eq.symm ex7
      subst ex7
      exact E _ _ _ _ _ _ _ _ _ _ dL_wasDoubted_26 (t31 ((fL_wasDoubted.eq_1 _ _ _ _ _).trans ((if_pos c2).trans ((if_neg c5).trans rfl)))) (t32 ((fL_wasDoubted.eq_1 _ _ _ _ _).trans ((if_pos c2).trans ((if_neg c5).trans rfl)))) (t33 ((fL_wasDoubted.eq_1 _ _ _ _ _).trans ((if_pos c2).trans ((if_neg c5).trans rfl)))) hH hS (Nat.le_of_ble_eq_true rfl) (Nat.le_of_ble_eq_true rfl)
theorem k_L_wasDoubted {p : Program} {l : Launch} {e : Env} {R : Room} {s : State} {m : MethodId} {args : Array Value} {below : List Frame} {meth : Method} {c : Code} {H : Heap} {locs : List Loc} {cells slots : Nat} {Q : State → Prop} {cc : ByteArray} {pc nL : Nat} {ls : Array Slot} {rest : List Value} {G : gG} {own : String} {da : Nat → Nat} {v : vSt} {x : gX} (hst : l.stackTraces = false) (X : CX G p s m args c cc nL own) (hS : va_S (gA G) s.heap H locs) (hN : NC s) (hH : Hp G da v x H) {o1 : Nat} (hk_o1 : kd o1 = 10) {p1 : Int32} {o2 : Nat} (hk_o2 : kd o2 = 34) (ho : oL_wasDoubted o1 p1 o2 v x) {idx : Nat} (hml : Cond.methodLink own idx yL_wasDoubted ∈ TT) (hls : ls.size = nL) (hsum : (rest.map fun v => v.category).sum ≤ 8) (hR : rmL_wasDoubted.frames + 1 ≤ R.frames ∧ 8 + (4 + 11) + rmL_wasDoubted.locals ≤ R.locals) (hcs : cells + 6 ≤ R.cells ∧ slots + 6 ≤ R.slots) (hdg : decode cc pc = .ok (.invokestatic idx, 3)) (kk : ∀ (d : Nat → Nat) (H1 : Heap) (locs1 : List Loc) (v1 : vSt) (x1 : gX), v1 = (fL_wasDoubted o1 p1 o2 v x).2.1 → x1 = (fL_wasDoubted o1 p1 o2 v x).2.2 → Hp G d v1 x1 H1 → va_S (gA G) s.heap H1 locs1 → W p l e R s m args below meth c H1 locs1 (cells + 6) (slots + 6) Q (F0 m (pc + 3) ls (.int (fL_wasDoubted o1 p1 o2 v x).1 :: rest))) : W p l e R s m args below meth c H locs cells slots Q (F0 m pc ls (.ref (ga G o2) :: .int p1 :: .ref (ga G o1) :: rest)) := c_li (runLS (kp := 3) X.1 X.2.1 X.2.2.1 X.2.2.2.1 X.2.2.2.2.1 (mL_wasDoubted l hst G da v x o1 hk_o1 p1 o2 hk_o2 ho) pN_bl hml t_st_L_wasDoubted t_ini_VernierDrawersLaw t_code_L_wasDoubted ⟨by decide, by decide, by decide +kernel⟩ rfl rfl hR hcs (preN X hN hS hH) rfl hls rfl hsum hdg) hS (fun d9 H9 L9 hH9 => kk d9 H9 L9 _ _ rfl rfl hH9)
def fL_whyNotJudge (o1 : Nat) (p1 : Int32) (o2 : Nat) (v : vSt) (x : gX) : Int32 × vSt × gX := if (fX10_whyNotJudge o1 p1 v).1 = 0 then (let x4 : gX := xu x o2 (0 : Int32).toNatClampNeg (((fX10_whyNotJudge o1 p1 v).2 : Int32).toInt64); (0, v, x4)) else ((1, v, x))
def oL_whyNotJudge (o1 : Nat) (p1 : Int32) (o2 : Nat) (v : vSt) (x : gX) : Prop := (oX10_whyNotJudge o1 p1 v) ∧ (¬ ((fX10_whyNotJudge o1 p1 v).1 = 0) → ((fX10_whyNotJudge o1 p1 v).1 = 1))
abbrev rmL_whyNotJudge : Room := { frames := 8, cells := 6, slots := 6, locals := 132 }
theorem dL_whyNotJudge_0 : decode cL_whyNotJudge 0 = .ok (.aload_n 2, 1) := by decide +kernel
theorem dL_whyNotJudge_1 : decode cL_whyNotJudge 1 = .ok (.iconst 0, 1) := by decide +kernel
theorem dL_whyNotJudge_2 : decode cL_whyNotJudge 2 = .ok (.aload_n 0, 1) := by decide +kernel
theorem dL_whyNotJudge_3 : decode cL_whyNotJudge 3 = .ok (.iload_n 1, 1) := by decide +kernel
theorem dL_whyNotJudge_4 : decode cL_whyNotJudge 4 = .ok (.invokevirtual 129, 3) := by decide +kernel
theorem dL_whyNotJudge_7 : decode cL_whyNotJudge 7 = .ok (.i2l, 1) := by decide +kernel
theorem dL_whyNotJudge_8 : decode cL_whyNotJudge 8 = .ok (.lastore, 1) := by decide +kernel
theorem dL_whyNotJudge_9 : decode cL_whyNotJudge 9 = .ok (.goto 6, 3) := by decide +kernel
theorem dL_whyNotJudge_12 : decode cL_whyNotJudge 12 = .ok (.astore_n 3, 1) := by decide +kernel
theorem dL_whyNotJudge_13 : decode cL_whyNotJudge 13 = .ok (.iconst 1, 1) := by decide +kernel
theorem dL_whyNotJudge_14 : decode cL_whyNotJudge 14 = .ok (.ireturn, 1) := by decide +kernel
theorem dL_whyNotJudge_15 : decode cL_whyNotJudge 15 = .ok (.iconst 0, 1) := by decide +kernel
theorem dL_whyNotJudge_16 : decode cL_whyNotJudge 16 = .ok (.ireturn, 1) := by decide +kernel
set_option maxHeartbeats 8000000 in
set_option maxRecDepth 100000 in
theorem mL_whyNotJudge (l : Launch) (hst : l.stackTraces = false) (G : gG) (da : Nat → Nat) (v : vSt) (x : gX) (o1 : Nat) (hk_o1 : kd o1 = 10) (p1 : Int32) (o2 : Nat) (hk_o2 : kd o2 = 34) (ho : oL_whyNotJudge o1 p1 o2 v x) : LI l yL_whyNotJudge cL_whyNotJudge 4 [((0 : Nat), (9 : Nat), (12 : Nat), (13 : Nat))] rmL_whyNotJudge [.ref (ga G o1), .int p1, .ref (ga G o2)] G da v x 6 6 (fL_whyNotJudge o1 p1 o2 v x).1 (fL_whyNotJudge o1 p1 o2 v x).2.1 (fL_whyNotJudge o1 p1 o2 v x).2.2 := by
  refine gofL (by decide) rfl (Nat.le_of_ble_eq_true rfl) (fun p e s m args below meth c ls Q X hN htab hH hl E => ?_)
  have hx := X.1
  have hb := X.2.1
  have hown := X.2.2.2.1
  have hts := X.2.2.2.2.1
  have hS : va_S (gA G) s.heap s.heap [] := va_S.rf
  unfold oL_whyNotJudge at ho
  have hl : lv_has ls 4 [(0, .ref (ga G o1)), (1, .int p1), (2, .ref (ga G o2))] := hl
  refine lv_aload_n hx hb dL_whyNotJudge_0 rfl (lv_at hl 2 rfl) ?_
  refine lv_iconst (v := 0) hx hb dL_whyNotJudge_1 (by decide) ?_
  refine lv_aload_n hx hb dL_whyNotJudge_2 rfl (lv_at hl 0 rfl) ?_
  refine lv_iload_n hx hb dL_whyNotJudge_3 rfl (lv_at hl 1 rfl) ?_
  have hq1 := ho.1
  have ho := ho.2
  refine k_X10_whyNotJudge hst X hS hH hk_o1 hq1 t_ml_VernierDrawersLaw_129 hl.1 (Nat.le_of_ble_eq_true rfl) ⟨Nat.le_of_ble_eq_true rfl, Nat.le_of_ble_eq_true rfl⟩ ⟨(Nat.le_of_ble_eq_true rfl), (Nat.le_of_ble_eq_true rfl)⟩ dL_whyNotJudge_4 (fun c2 da ce9 q9 H locs hH hS g1 g2 g3 => ?_) (fun c2 da H locs hH hS => ?_)
  · have ho := ho c2
    have hq3 := ho
    refine t_c1 (k := 1) X htab rfl g1 g2 (hq3 ▸ g3) ?_
    refine lv_astore_n (lv' := [(3, .ref q9), (0, .ref (ga G o1)), (1, .int p1), (2, .ref (ga G o2))]) hx hb dL_whyNotJudge_12 rfl hl (by decide) rfl (fun ls hl => ?_)
    refine lv_iconst (v := 1) hx hb dL_whyNotJudge_13 (by decide) ?_
    exact E _ _ _ _ _ _ _ _ _ _ dL_whyNotJudge_14 (t31 ((fL_whyNotJudge.eq_1 _ _ _ _ _).trans ((if_neg c2).trans rfl))) (t32 ((fL_whyNotJudge.eq_1 _ _ _ _ _).trans ((if_neg c2).trans rfl))) (t33 ((fL_whyNotJudge.eq_1 _ _ _ _ _).trans ((if_neg c2).trans rfl))) hH hS (Nat.le_of_ble_eq_true rfl) (Nat.le_of_ble_eq_true rfl)
  · skip
    refine lv_i2l (v := ((fX10_whyNotJudge o1 p1 v).2 : Int32).toInt64) hx hb dL_whyNotJudge_7 rfl ?_
    refine last_34 X hH hS hk_o2 (i_in (by decide) (by decide)) dL_whyNotJudge_8 (fun H locs x4 ex4 hH hS => ?_)
    refine lv_goto (tgt := 15) hx hb dL_whyNotJudge_9 (by decide) ?_
    refine lv_iconst (v := 0) hx hb dL_whyNotJudge_15 (by decide) ?_
    replace ex4 := Eq.symm ex4
    subst ex4
    exact E _ _ _ _ _ _ _ _ _ _ dL_whyNotJudge_16 (t31 ((fL_whyNotJudge.eq_1 _ _ _ _ _).trans ((if_pos c2).trans rfl))) (t32 ((fL_whyNotJudge.eq_1 _ _ _ _ _).trans ((if_pos c2).trans rfl))) (t33 ((fL_whyNotJudge.eq_1 _ _ _ _ _).trans ((if_pos c2).trans rfl))) hH hS (Nat.le_of_ble_eq_true rfl) (Nat.le_of_ble_eq_true rfl)
theorem k_L_whyNotJudge {p : Program} {l : Launch} {e : Env} {R : Room} {s : State} {m : MethodId} {args : Array Value} {below : List Frame} {meth : Method} {c : Code} {H : Heap} {locs : List Loc} {cells slots : Nat} {Q : State → Prop} {cc : ByteArray} {pc nL : Nat} {ls : Array Slot} {rest : List Value} {G : gG} {own : String} {da : Nat → Nat} {v : vSt} {x : gX} (hst : l.stackTraces = false) (X : CX G p s m args c cc nL own) (hS : va_S (gA G) s.heap H locs) (hN : NC s) (hH : Hp G da v x H) {o1 : Nat} (hk_o1 : kd o1 = 10) {p1 : Int32} {o2 : Nat} (hk_o2 : kd o2 = 34) (ho : oL_whyNotJudge o1 p1 o2 v x) {idx : Nat} (hml : Cond.methodLink own idx yL_whyNotJudge ∈ TT) (hls : ls.size = nL) (hsum : (rest.map fun v => v.category).sum ≤ 8) (hR : rmL_whyNotJudge.frames + 1 ≤ R.frames ∧ 8 + (4 + 11) + rmL_whyNotJudge.locals ≤ R.locals) (hcs : cells + 6 ≤ R.cells ∧ slots + 6 ≤ R.slots) (hdg : decode cc pc = .ok (.invokestatic idx, 3)) (kk : ∀ (d : Nat → Nat) (H1 : Heap) (locs1 : List Loc) (v1 : vSt) (x1 : gX), v1 = (fL_whyNotJudge o1 p1 o2 v x).2.1 → x1 = (fL_whyNotJudge o1 p1 o2 v x).2.2 → Hp G d v1 x1 H1 → va_S (gA G) s.heap H1 locs1 → W p l e R s m args below meth c H1 locs1 (cells + 6) (slots + 6) Q (F0 m (pc + 3) ls (.int (fL_whyNotJudge o1 p1 o2 v x).1 :: rest))) : W p l e R s m args below meth c H locs cells slots Q (F0 m pc ls (.ref (ga G o2) :: .int p1 :: .ref (ga G o1) :: rest)) := c_li (runLS (kp := 3) X.1 X.2.1 X.2.2.1 X.2.2.2.1 X.2.2.2.2.1 (mL_whyNotJudge l hst G da v x o1 hk_o1 p1 o2 hk_o2 ho) pN_bl hml t_st_L_whyNotJudge t_ini_VernierDrawersLaw t_code_L_whyNotJudge ⟨by decide, by decide, by decide +kernel⟩ rfl rfl hR hcs (preN X hN hS hH) rfl hls rfl hsum hdg) hS (fun d9 H9 L9 hH9 => kk d9 H9 L9 _ _ rfl rfl hH9)
def fL_wouldJudge (o1 : Nat) (p1 : Int32) (o2 : Nat) (v : vSt) (x : gX) : Int32 × vSt × gX := if (fX10_wouldJudge o1 p1 v).1 = 0 then (let x5 : gX := xu x o2 (0 : Int32).toNatClampNeg (((fX10_wouldJudge o1 p1 v).2 : Int32).toInt64); (0, v, x5)) else (if (fX10_wouldJudge o1 p1 v).1 = 1 then ((1, v, x)) else ((2, v, x)))
def oL_wouldJudge (o1 : Nat) (p1 : Int32) (o2 : Nat) (v : vSt) (x : gX) : Prop := (oX10_wouldJudge o1 p1 v) ∧ (¬ ((fX10_wouldJudge o1 p1 v).1 = 0) → (¬ ((fX10_wouldJudge o1 p1 v).1 = 1) → ((fX10_wouldJudge o1 p1 v).1 = 3)))
abbrev rmL_wouldJudge : Room := { frames := 8, cells := 12, slots := 12, locals := 133 }
theorem dL_wouldJudge_0 : decode cL_wouldJudge 0 = .ok (.aload_n 2, 1) := by decide +kernel
theorem dL_wouldJudge_1 : decode cL_wouldJudge 1 = .ok (.iconst 0, 1) := by decide +kernel
theorem dL_wouldJudge_2 : decode cL_wouldJudge 2 = .ok (.aload_n 0, 1) := by decide +kernel
theorem dL_wouldJudge_3 : decode cL_wouldJudge 3 = .ok (.iload_n 1, 1) := by decide +kernel
theorem dL_wouldJudge_4 : decode cL_wouldJudge 4 = .ok (.invokevirtual 132, 3) := by decide +kernel
theorem dL_wouldJudge_7 : decode cL_wouldJudge 7 = .ok (.i2l, 1) := by decide +kernel
theorem dL_wouldJudge_8 : decode cL_wouldJudge 8 = .ok (.lastore, 1) := by decide +kernel
theorem dL_wouldJudge_9 : decode cL_wouldJudge 9 = .ok (.goto 9, 3) := by decide +kernel
theorem dL_wouldJudge_12 : decode cL_wouldJudge 12 = .ok (.astore_n 3, 1) := by decide +kernel
theorem dL_wouldJudge_13 : decode cL_wouldJudge 13 = .ok (.iconst 1, 1) := by decide +kernel
theorem dL_wouldJudge_14 : decode cL_wouldJudge 14 = .ok (.ireturn, 1) := by decide +kernel
theorem dL_wouldJudge_15 : decode cL_wouldJudge 15 = .ok (.astore_n 3, 1) := by decide +kernel
theorem dL_wouldJudge_16 : decode cL_wouldJudge 16 = .ok (.iconst 2, 1) := by decide +kernel
theorem dL_wouldJudge_17 : decode cL_wouldJudge 17 = .ok (.ireturn, 1) := by decide +kernel
theorem dL_wouldJudge_18 : decode cL_wouldJudge 18 = .ok (.iconst 0, 1) := by decide +kernel
theorem dL_wouldJudge_19 : decode cL_wouldJudge 19 = .ok (.ireturn, 1) := by decide +kernel
set_option maxHeartbeats 8000000 in
set_option maxRecDepth 100000 in
theorem mL_wouldJudge (l : Launch) (hst : l.stackTraces = false) (G : gG) (da : Nat → Nat) (v : vSt) (x : gX) (o1 : Nat) (hk_o1 : kd o1 = 10) (p1 : Int32) (o2 : Nat) (hk_o2 : kd o2 = 34) (ho : oL_wouldJudge o1 p1 o2 v x) : LI l yL_wouldJudge cL_wouldJudge 4 [((0 : Nat), (9 : Nat), (12 : Nat), (13 : Nat)), ((0 : Nat), (9 : Nat), (15 : Nat), (85 : Nat))] rmL_wouldJudge [.ref (ga G o1), .int p1, .ref (ga G o2)] G da v x 12 12 (fL_wouldJudge o1 p1 o2 v x).1 (fL_wouldJudge o1 p1 o2 v x).2.1 (fL_wouldJudge o1 p1 o2 v x).2.2 := by
  refine gofL (by decide) rfl (Nat.le_of_ble_eq_true rfl) (fun p e s m args below meth c ls Q X hN htab hH hl E => ?_)
  have hx := X.1
  have hb := X.2.1
  have hown := X.2.2.2.1
  have hts := X.2.2.2.2.1
  have hS : va_S (gA G) s.heap s.heap [] := va_S.rf
  unfold oL_wouldJudge at ho
  have hl : lv_has ls 4 [(0, .ref (ga G o1)), (1, .int p1), (2, .ref (ga G o2))] := hl
  refine lv_aload_n hx hb dL_wouldJudge_0 rfl (lv_at hl 2 rfl) ?_
  refine lv_iconst (v := 0) hx hb dL_wouldJudge_1 (by decide) ?_
  refine lv_aload_n hx hb dL_wouldJudge_2 rfl (lv_at hl 0 rfl) ?_
  refine lv_iload_n hx hb dL_wouldJudge_3 rfl (lv_at hl 1 rfl) ?_
  have hq1 := ho.1
  have ho := ho.2
  refine k_X10_wouldJudge hst X hS hH hk_o1 hq1 t_ml_VernierDrawersLaw_132 hl.1 (Nat.le_of_ble_eq_true rfl) ⟨Nat.le_of_ble_eq_true rfl, Nat.le_of_ble_eq_true rfl⟩ ⟨(Nat.le_of_ble_eq_true rfl), (Nat.le_of_ble_eq_true rfl)⟩ dL_wouldJudge_4 (fun c2 da ce9 q9 H locs hH hS g1 g2 g3 => ?_) (fun c2 da H locs hH hS => ?_)
  · have ho := ho c2
    refine (Decidable.em ((fX10_wouldJudge o1 p1 v).1 = 1)).elim (fun c3 => ?_) (fun c3 => ?_)
    · skip
      refine t_c1 (k := 1) X htab rfl g1 g2 (c3 ▸ g3) ?_
      refine lv_astore_n (lv' := [(3, .ref q9), (0, .ref (ga G o1)), (1, .int p1), (2, .ref (ga G o2))]) hx hb dL_wouldJudge_12 rfl hl (by decide) rfl (fun ls hl => ?_)
      refine lv_iconst (v := 1) hx hb dL_wouldJudge_13 (by decide) ?_
      exact E _ _ _ _ _ _ _ _ _ _ dL_wouldJudge_14 (t31 ((fL_wouldJudge.eq_1 _ _ _ _ _).trans ((if_neg c2).trans ((if_pos c3).trans rfl)))) (t32 ((fL_wouldJudge.eq_1 _ _ _ _ _).trans ((if_neg c2).trans ((if_pos c3).trans rfl)))) (t33 ((fL_wouldJudge.eq_1 _ _ _ _ _).trans ((if_neg c2).trans ((if_pos c3).trans rfl)))) hH hS (Nat.le_of_ble_eq_true rfl) (Nat.le_of_ble_eq_true rfl)
    · have ho := ho c3
      have hq4 := ho
      refine t_c2 (k := 3) X hN htab (by decide) rfl g1 g2 (hq4 ▸ g3) ?_
      refine lv_astore_n (lv' := [(3, .ref q9), (0, .ref (ga G o1)), (1, .int p1), (2, .ref (ga G o2))]) hx hb dL_wouldJudge_15 rfl hl (by decide) rfl (fun ls hl => ?_)
      refine lv_iconst (v := 2) hx hb dL_wouldJudge_16 (by decide) ?_
      exact E _ _ _ _ _ _ _ _ _ _ dL_wouldJudge_17 (t31 ((fL_wouldJudge.eq_1 _ _ _ _ _).trans ((if_neg c2).trans ((if_neg c3).trans rfl)))) (t32 ((fL_wouldJudge.eq_1 _ _ _ _ _).trans ((if_neg c2).trans ((if_neg c3).trans rfl)))) (t33 ((fL_wouldJudge.eq_1 _ _ _ _ _).trans ((if_neg c2).trans ((if_neg c3).trans rfl)))) hH hS (Nat.le_of_ble_eq_true rfl) (Nat.le_of_ble_eq_true rfl)
  · skip
    refine lv_i2l (v := ((fX10_wouldJudge o1 p1 v).2 : Int32).toInt64) hx hb dL_wouldJudge_7 rfl ?_
    refine last_34 X hH hS hk_o2 (i_in (by decide) (by decide)) dL_wouldJudge_8 (fun H locs x5 ex5 hH hS => ?_)
    refine lv_goto (tgt := 18) hx hb dL_wouldJudge_9 (by decide) ?_
    refine lv_iconst (v := 0) hx hb dL_wouldJudge_18 (by decide) ?_
    replace ex5 := Eq.symm ex5
    subst ex5
    exact E _ _ _ _ _ _ _ _ _ _ dL_wouldJudge_19 (t31 ((fL_wouldJudge.eq_1 _ _ _ _ _).trans ((if_pos c2).trans rfl))) (t32 ((fL_wouldJudge.eq_1 _ _ _ _ _).trans ((if_pos c2).trans rfl))) (t33 ((fL_wouldJudge.eq_1 _ _ _ _ _).trans ((if_pos c2).trans rfl))) hH hS (Nat.le_of_ble_eq_true rfl) (Nat.le_of_ble_eq_true rfl)
theorem k_L_wouldJudge {p : Program} {l : Launch} {e : Env} {R : Room} {s : State} {m : MethodId} {args : Array Value} {below : List Frame} {meth : Method} {c : Code} {H : Heap} {locs : List Loc} {cells slots : Nat} {Q : State → Prop} {cc : ByteArray} {pc nL : Nat} {ls : Array Slot} {rest : List Value} {G : gG} {own : String} {da : Nat → Nat} {v : vSt} {x : gX} (hst : l.stackTraces = false) (X : CX G p s m args c cc nL own) (hS : va_S (gA G) s.heap H locs) (hN : NC s) (hH : Hp G da v x H) {o1 : Nat} (hk_o1 : kd o1 = 10) {p1 : Int32} {o2 : Nat} (hk_o2 : kd o2 = 34) (ho : oL_wouldJudge o1 p1 o2 v x) {idx : Nat} (hml : Cond.methodLink own idx yL_wouldJudge ∈ TT) (hls : ls.size = nL) (hsum : (rest.map fun v => v.category).sum ≤ 8) (hR : rmL_wouldJudge.frames + 1 ≤ R.frames ∧ 8 + (4 + 11) + rmL_wouldJudge.locals ≤ R.locals) (hcs : cells + 12 ≤ R.cells ∧ slots + 12 ≤ R.slots) (hdg : decode cc pc = .ok (.invokestatic idx, 3)) (kk : ∀ (d : Nat → Nat) (H1 : Heap) (locs1 : List Loc) (v1 : vSt) (x1 : gX), v1 = (fL_wouldJudge o1 p1 o2 v x).2.1 → x1 = (fL_wouldJudge o1 p1 o2 v x).2.2 → Hp G d v1 x1 H1 → va_S (gA G) s.heap H1 locs1 → W p l e R s m args below meth c H1 locs1 (cells + 12) (slots + 12) Q (F0 m (pc + 3) ls (.int (fL_wouldJudge o1 p1 o2 v x).1 :: rest))) : W p l e R s m args below meth c H locs cells slots Q (F0 m pc ls (.ref (ga G o2) :: .int p1 :: .ref (ga G o1) :: rest)) := c_li (runLS (kp := 3) X.1 X.2.1 X.2.2.1 X.2.2.2.1 X.2.2.2.2.1 (mL_wouldJudge l hst G da v x o1 hk_o1 p1 o2 hk_o2 ho) pN_bl hml t_st_L_wouldJudge t_ini_VernierDrawersLaw t_code_L_wouldJudge ⟨by decide, by decide, by decide +kernel⟩ rfl rfl hR hcs (preN X hN hS hH) rfl hls rfl hsum hdg) hS (fun d9 H9 L9 hH9 => kk d9 H9 L9 _ _ rfl rfl hH9)
def fL_bestTool (o1 : Nat) (o2 : Nat) (v : vSt) (x : gX) : Int32 × vSt × gX := if (fX10_bestTool o1 v).1 = 0 then (let x4 : gX := xu x o2 (0 : Int32).toNatClampNeg (((fX10_bestTool o1 v).2 : Int32).toInt64); (0, v, x4)) else ((1, v, x))
def oL_bestTool (o1 : Nat) (o2 : Nat) (v : vSt) (x : gX) : Prop := (oX10_bestTool o1 v) ∧ (¬ ((fX10_bestTool o1 v).1 = 0) → ((fX10_bestTool o1 v).1 = 3))
abbrev rmL_bestTool : Room := { frames := 7, cells := 6, slots := 6, locals := 139 }
theorem dL_bestTool_0 : decode cL_bestTool 0 = .ok (.aload_n 1, 1) := by decide +kernel
theorem dL_bestTool_1 : decode cL_bestTool 1 = .ok (.iconst 0, 1) := by decide +kernel
theorem dL_bestTool_2 : decode cL_bestTool 2 = .ok (.aload_n 0, 1) := by decide +kernel
theorem dL_bestTool_3 : decode cL_bestTool 3 = .ok (.invokevirtual 135, 3) := by decide +kernel
theorem dL_bestTool_6 : decode cL_bestTool 6 = .ok (.i2l, 1) := by decide +kernel
theorem dL_bestTool_7 : decode cL_bestTool 7 = .ok (.lastore, 1) := by decide +kernel
theorem dL_bestTool_8 : decode cL_bestTool 8 = .ok (.goto 6, 3) := by decide +kernel
theorem dL_bestTool_11 : decode cL_bestTool 11 = .ok (.astore_n 2, 1) := by decide +kernel
theorem dL_bestTool_12 : decode cL_bestTool 12 = .ok (.iconst 1, 1) := by decide +kernel
theorem dL_bestTool_13 : decode cL_bestTool 13 = .ok (.ireturn, 1) := by decide +kernel
theorem dL_bestTool_14 : decode cL_bestTool 14 = .ok (.iconst 0, 1) := by decide +kernel
theorem dL_bestTool_15 : decode cL_bestTool 15 = .ok (.ireturn, 1) := by decide +kernel
set_option maxHeartbeats 8000000 in
set_option maxRecDepth 100000 in
theorem mL_bestTool (l : Launch) (hst : l.stackTraces = false) (G : gG) (da : Nat → Nat) (v : vSt) (x : gX) (o1 : Nat) (hk_o1 : kd o1 = 10) (o2 : Nat) (hk_o2 : kd o2 = 34) (ho : oL_bestTool o1 o2 v x) : LI l yL_bestTool cL_bestTool 3 [((0 : Nat), (8 : Nat), (11 : Nat), (85 : Nat))] rmL_bestTool [.ref (ga G o1), .ref (ga G o2)] G da v x 6 6 (fL_bestTool o1 o2 v x).1 (fL_bestTool o1 o2 v x).2.1 (fL_bestTool o1 o2 v x).2.2 := by
  refine gofL (by decide) rfl (Nat.le_of_ble_eq_true rfl) (fun p e s m args below meth c ls Q X hN htab hH hl E => ?_)
  have hx := X.1
  have hb := X.2.1
  have hown := X.2.2.2.1
  have hts := X.2.2.2.2.1
  have hS : va_S (gA G) s.heap s.heap [] := va_S.rf
  unfold oL_bestTool at ho
  have hl : lv_has ls 3 [(0, .ref (ga G o1)), (1, .ref (ga G o2))] := hl
  refine lv_aload_n hx hb dL_bestTool_0 rfl (lv_at hl 1 rfl) ?_
  refine lv_iconst (v := 0) hx hb dL_bestTool_1 (by decide) ?_
  refine lv_aload_n hx hb dL_bestTool_2 rfl (lv_at hl 0 rfl) ?_
  have hq1 := ho.1
  have ho := ho.2
  refine k_X10_bestTool hst X hS hH hk_o1 hq1 t_ml_VernierDrawersLaw_135 hl.1 (Nat.le_of_ble_eq_true rfl) ⟨Nat.le_of_ble_eq_true rfl, Nat.le_of_ble_eq_true rfl⟩ ⟨(Nat.le_of_ble_eq_true rfl), (Nat.le_of_ble_eq_true rfl)⟩ dL_bestTool_3 (fun c2 da ce9 q9 H locs hH hS g1 g2 g3 => ?_) (fun c2 da H locs hH hS => ?_)
  · have ho := ho c2
    have hq3 := ho
    refine t_c1 (k := 3) X htab rfl g1 g2 (hq3 ▸ g3) ?_
    refine lv_astore_n (lv' := [(2, .ref q9), (0, .ref (ga G o1)), (1, .ref (ga G o2))]) hx hb dL_bestTool_11 rfl hl (by decide) rfl (fun ls hl => ?_)
    refine lv_iconst (v := 1) hx hb dL_bestTool_12 (by decide) ?_
    exact E _ _ _ _ _ _ _ _ _ _ dL_bestTool_13 (t31 ((fL_bestTool.eq_1 _ _ _ _).trans ((if_neg c2).trans rfl))) (t32 ((fL_bestTool.eq_1 _ _ _ _).trans ((if_neg c2).trans rfl))) (t33 ((fL_bestTool.eq_1 _ _ _ _).trans ((if_neg c2).trans rfl))) hH hS (Nat.le_of_ble_eq_true rfl) (Nat.le_of_ble_eq_true rfl)
  · skip
    refine lv_i2l (v := ((fX10_bestTool o1 v).2 : Int32).toInt64) hx hb dL_bestTool_6 rfl ?_
    refine last_34 X hH hS hk_o2 (i_in (by decide) (by decide)) dL_bestTool_7 (fun H locs x4 ex4 hH hS => ?_)
    refine lv_goto (tgt := 14) hx hb dL_bestTool_8 (by decide) ?_
    refine lv_iconst (v := 0) hx hb dL_bestTool_14 (by decide) ?_
    replace ex4 := Eq.symm ex4
    subst ex4
    exact E _ _ _ _ _ _ _ _ _ _ dL_bestTool_15 (t31 ((fL_bestTool.eq_1 _ _ _ _).trans ((if_pos c2).trans rfl))) (t32 ((fL_bestTool.eq_1 _ _ _ _).trans ((if_pos c2).trans rfl))) (t33 ((fL_bestTool.eq_1 _ _ _ _).trans ((if_pos c2).trans rfl))) hH hS (Nat.le_of_ble_eq_true rfl) (Nat.le_of_ble_eq_true rfl)
theorem k_L_bestTool {p : Program} {l : Launch} {e : Env} {R : Room} {s : State} {m : MethodId} {args : Array Value} {below : List Frame} {meth : Method} {c : Code} {H : Heap} {locs : List Loc} {cells slots : Nat} {Q : State → Prop} {cc : ByteArray} {pc nL : Nat} {ls : Array Slot} {rest : List Value} {G : gG} {own : String} {da : Nat → Nat} {v : vSt} {x : gX} (hst : l.stackTraces = false) (X : CX G p s m args c cc nL own) (hS : va_S (gA G) s.heap H locs) (hN : NC s) (hH : Hp G da v x H) {o1 : Nat} (hk_o1 : kd o1 = 10) {o2 : Nat} (hk_o2 : kd o2 = 34) (ho : oL_bestTool o1 o2 v x) {idx : Nat} (hml : Cond.methodLink own idx yL_bestTool ∈ TT) (hls : ls.size = nL) (hsum : (rest.map fun v => v.category).sum ≤ 8) (hR : rmL_bestTool.frames + 1 ≤ R.frames ∧ 8 + (3 + 11) + rmL_bestTool.locals ≤ R.locals) (hcs : cells + 6 ≤ R.cells ∧ slots + 6 ≤ R.slots) (hdg : decode cc pc = .ok (.invokestatic idx, 3)) (kk : ∀ (d : Nat → Nat) (H1 : Heap) (locs1 : List Loc) (v1 : vSt) (x1 : gX), v1 = (fL_bestTool o1 o2 v x).2.1 → x1 = (fL_bestTool o1 o2 v x).2.2 → Hp G d v1 x1 H1 → va_S (gA G) s.heap H1 locs1 → W p l e R s m args below meth c H1 locs1 (cells + 6) (slots + 6) Q (F0 m (pc + 3) ls (.int (fL_bestTool o1 o2 v x).1 :: rest))) : W p l e R s m args below meth c H locs cells slots Q (F0 m pc ls (.ref (ga G o2) :: .ref (ga G o1) :: rest)) := c_li (runLS (kp := 2) X.1 X.2.1 X.2.2.1 X.2.2.2.1 X.2.2.2.2.1 (mL_bestTool l hst G da v x o1 hk_o1 o2 hk_o2 ho) pN_bl hml t_st_L_bestTool t_ini_VernierDrawersLaw t_code_L_bestTool ⟨by decide, by decide, by decide +kernel⟩ rfl rfl hR hcs (preN X hN hS hH) rfl hls rfl hsum hdg) hS (fun d9 H9 L9 hH9 => kk d9 H9 L9 _ _ rfl rfl hH9)
def fL_mannerOf (o1 : Nat) (p1 : Int32) (o2 : Nat) (v : vSt) (x : gX) : Int32 × vSt × gX := if (fX10_mannerOf o1 p1 v).1 = 0 then (let x4 : gX := xu x o2 (0 : Int32).toNatClampNeg (((fX10_mannerOf o1 p1 v).2 : Int32).toInt64); (0, v, x4)) else ((1, v, x))
def oL_mannerOf (o1 : Nat) (p1 : Int32) (o2 : Nat) (v : vSt) (x : gX) : Prop := (oX10_mannerOf o1 p1 v) ∧ (¬ ((fX10_mannerOf o1 p1 v).1 = 0) → ((fX10_mannerOf o1 p1 v).1 = 1))
abbrev rmL_mannerOf : Room := { frames := 8, cells := 6, slots := 6, locals := 132 }
theorem dL_mannerOf_0 : decode cL_mannerOf 0 = .ok (.aload_n 2, 1) := by decide +kernel
theorem dL_mannerOf_1 : decode cL_mannerOf 1 = .ok (.iconst 0, 1) := by decide +kernel
theorem dL_mannerOf_2 : decode cL_mannerOf 2 = .ok (.aload_n 0, 1) := by decide +kernel
theorem dL_mannerOf_3 : decode cL_mannerOf 3 = .ok (.iload_n 1, 1) := by decide +kernel
theorem dL_mannerOf_4 : decode cL_mannerOf 4 = .ok (.invokevirtual 138, 3) := by decide +kernel
theorem dL_mannerOf_7 : decode cL_mannerOf 7 = .ok (.i2l, 1) := by decide +kernel
theorem dL_mannerOf_8 : decode cL_mannerOf 8 = .ok (.lastore, 1) := by decide +kernel
theorem dL_mannerOf_9 : decode cL_mannerOf 9 = .ok (.goto 6, 3) := by decide +kernel
theorem dL_mannerOf_12 : decode cL_mannerOf 12 = .ok (.astore_n 3, 1) := by decide +kernel
theorem dL_mannerOf_13 : decode cL_mannerOf 13 = .ok (.iconst 1, 1) := by decide +kernel
theorem dL_mannerOf_14 : decode cL_mannerOf 14 = .ok (.ireturn, 1) := by decide +kernel
theorem dL_mannerOf_15 : decode cL_mannerOf 15 = .ok (.iconst 0, 1) := by decide +kernel
theorem dL_mannerOf_16 : decode cL_mannerOf 16 = .ok (.ireturn, 1) := by decide +kernel
set_option maxHeartbeats 8000000 in
set_option maxRecDepth 100000 in
theorem mL_mannerOf (l : Launch) (hst : l.stackTraces = false) (G : gG) (da : Nat → Nat) (v : vSt) (x : gX) (o1 : Nat) (hk_o1 : kd o1 = 10) (p1 : Int32) (o2 : Nat) (hk_o2 : kd o2 = 34) (ho : oL_mannerOf o1 p1 o2 v x) : LI l yL_mannerOf cL_mannerOf 4 [((0 : Nat), (9 : Nat), (12 : Nat), (13 : Nat))] rmL_mannerOf [.ref (ga G o1), .int p1, .ref (ga G o2)] G da v x 6 6 (fL_mannerOf o1 p1 o2 v x).1 (fL_mannerOf o1 p1 o2 v x).2.1 (fL_mannerOf o1 p1 o2 v x).2.2 := by
  refine gofL (by decide) rfl (Nat.le_of_ble_eq_true rfl) (fun p e s m args below meth c ls Q X hN htab hH hl E => ?_)
  have hx := X.1
  have hb := X.2.1
  have hown := X.2.2.2.1
  have hts := X.2.2.2.2.1
  have hS : va_S (gA G) s.heap s.heap [] := va_S.rf
  unfold oL_mannerOf at ho
  have hl : lv_has ls 4 [(0, .ref (ga G o1)), (1, .int p1), (2, .ref (ga G o2))] := hl
  refine lv_aload_n hx hb dL_mannerOf_0 rfl (lv_at hl 2 rfl) ?_
  refine lv_iconst (v := 0) hx hb dL_mannerOf_1 (by decide) ?_
  refine lv_aload_n hx hb dL_mannerOf_2 rfl (lv_at hl 0 rfl) ?_
  refine lv_iload_n hx hb dL_mannerOf_3 rfl (lv_at hl 1 rfl) ?_
  have hq1 := ho.1
  have ho := ho.2
  refine k_X10_mannerOf hst X hS hH hk_o1 hq1 t_ml_VernierDrawersLaw_138 hl.1 (Nat.le_of_ble_eq_true rfl) ⟨Nat.le_of_ble_eq_true rfl, Nat.le_of_ble_eq_true rfl⟩ ⟨(Nat.le_of_ble_eq_true rfl), (Nat.le_of_ble_eq_true rfl)⟩ dL_mannerOf_4 (fun c2 da ce9 q9 H locs hH hS g1 g2 g3 => ?_) (fun c2 da H locs hH hS => ?_)
  · have ho := ho c2
    have hq3 := ho
    refine t_c1 (k := 1) X htab rfl g1 g2 (hq3 ▸ g3) ?_
    refine lv_astore_n (lv' := [(3, .ref q9), (0, .ref (ga G o1)), (1, .int p1), (2, .ref (ga G o2))]) hx hb dL_mannerOf_12 rfl hl (by decide) rfl (fun ls hl => ?_)
    refine lv_iconst (v := 1) hx hb dL_mannerOf_13 (by decide) ?_
    exact E _ _ _ _ _ _ _ _ _ _ dL_mannerOf_14 (t31 ((fL_mannerOf.eq_1 _ _ _ _ _).trans ((if_neg c2).trans rfl))) (t32 ((fL_mannerOf.eq_1 _ _ _ _ _).trans ((if_neg c2).trans rfl))) (t33 ((fL_mannerOf.eq_1 _ _ _ _ _).trans ((if_neg c2).trans rfl))) hH hS (Nat.le_of_ble_eq_true rfl) (Nat.le_of_ble_eq_true rfl)
  · skip
    refine lv_i2l (v := ((fX10_mannerOf o1 p1 v).2 : Int32).toInt64) hx hb dL_mannerOf_7 rfl ?_
    refine last_34 X hH hS hk_o2 (i_in (by decide) (by decide)) dL_mannerOf_8 (fun H locs x4 ex4 hH hS => ?_)
    refine lv_goto (tgt := 15) hx hb dL_mannerOf_9 (by decide) ?_
    refine lv_iconst (v := 0) hx hb dL_mannerOf_15 (by decide) ?_
    replace ex4 := Eq.symm ex4
    subst ex4
    exact E _ _ _ _ _ _ _ _ _ _ dL_mannerOf_16 (t31 ((fL_mannerOf.eq_1 _ _ _ _ _).trans ((if_pos c2).trans rfl))) (t32 ((fL_mannerOf.eq_1 _ _ _ _ _).trans ((if_pos c2).trans rfl))) (t33 ((fL_mannerOf.eq_1 _ _ _ _ _).trans ((if_pos c2).trans rfl))) hH hS (Nat.le_of_ble_eq_true rfl) (Nat.le_of_ble_eq_true rfl)
theorem k_L_mannerOf {p : Program} {l : Launch} {e : Env} {R : Room} {s : State} {m : MethodId} {args : Array Value} {below : List Frame} {meth : Method} {c : Code} {H : Heap} {locs : List Loc} {cells slots : Nat} {Q : State → Prop} {cc : ByteArray} {pc nL : Nat} {ls : Array Slot} {rest : List Value} {G : gG} {own : String} {da : Nat → Nat} {v : vSt} {x : gX} (hst : l.stackTraces = false) (X : CX G p s m args c cc nL own) (hS : va_S (gA G) s.heap H locs) (hN : NC s) (hH : Hp G da v x H) {o1 : Nat} (hk_o1 : kd o1 = 10) {p1 : Int32} {o2 : Nat} (hk_o2 : kd o2 = 34) (ho : oL_mannerOf o1 p1 o2 v x) {idx : Nat} (hml : Cond.methodLink own idx yL_mannerOf ∈ TT) (hls : ls.size = nL) (hsum : (rest.map fun v => v.category).sum ≤ 8) (hR : rmL_mannerOf.frames + 1 ≤ R.frames ∧ 8 + (4 + 11) + rmL_mannerOf.locals ≤ R.locals) (hcs : cells + 6 ≤ R.cells ∧ slots + 6 ≤ R.slots) (hdg : decode cc pc = .ok (.invokestatic idx, 3)) (kk : ∀ (d : Nat → Nat) (H1 : Heap) (locs1 : List Loc) (v1 : vSt) (x1 : gX), v1 = (fL_mannerOf o1 p1 o2 v x).2.1 → x1 = (fL_mannerOf o1 p1 o2 v x).2.2 → Hp G d v1 x1 H1 → va_S (gA G) s.heap H1 locs1 → W p l e R s m args below meth c H1 locs1 (cells + 6) (slots + 6) Q (F0 m (pc + 3) ls (.int (fL_mannerOf o1 p1 o2 v x).1 :: rest))) : W p l e R s m args below meth c H locs cells slots Q (F0 m pc ls (.ref (ga G o2) :: .int p1 :: .ref (ga G o1) :: rest)) := c_li (runLS (kp := 3) X.1 X.2.1 X.2.2.1 X.2.2.2.1 X.2.2.2.2.1 (mL_mannerOf l hst G da v x o1 hk_o1 p1 o2 hk_o2 ho) pN_bl hml t_st_L_mannerOf t_ini_VernierDrawersLaw t_code_L_mannerOf ⟨by decide, by decide, by decide +kernel⟩ rfl rfl hR hcs (preN X hN hS hH) rfl hls rfl hsum hdg) hS (fun d9 H9 L9 hH9 => kk d9 H9 L9 _ _ rfl rfl hH9)
