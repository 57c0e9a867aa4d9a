/-! the law's wrappers -/
def fL_recordOf (o1 : Nat) (p1 : Int32) (o2 : Nat) (v : vSt) (x : gX) : Int32 × vSt × gX := if (fX10_recordOf o1 p1 v).1 = 0 then (let x4 : gX := xu x o2 (0 : Int32).toNatClampNeg (((fX10_recordOf o1 p1 v).2 : Int32).toInt64); (0, v, x4)) else ((1, v, x))
def oL_recordOf (o1 : Nat) (p1 : Int32) (o2 : Nat) (v : vSt) (x : gX) : Prop := (oX10_recordOf o1 p1 v) ∧ (¬ ((fX10_recordOf o1 p1 v).1 = 0) → ((fX10_recordOf o1 p1 v).1 = 1))
abbrev rmL_recordOf : Room := { frames := 8, cells := 6, slots := 6, locals := 132 }
theorem dL_recordOf_0 : decode cL_recordOf 0 = .ok (.aload_n 2, 1) := by decide +kernel
theorem dL_recordOf_1 : decode cL_recordOf 1 = .ok (.iconst 0, 1) := by decide +kernel
theorem dL_recordOf_2 : decode cL_recordOf 2 = .ok (.aload_n 0, 1) := by decide +kernel
theorem dL_recordOf_3 : decode cL_recordOf 3 = .ok (.iload_n 1, 1) := by decide +kernel
theorem dL_recordOf_4 : decode cL_recordOf 4 = .ok (.invokevirtual 141, 3) := by decide +kernel
theorem dL_recordOf_7 : decode cL_recordOf 7 = .ok (.i2l, 1) := by decide +kernel
theorem dL_recordOf_8 : decode cL_recordOf 8 = .ok (.lastore, 1) := by decide +kernel
theorem dL_recordOf_9 : decode cL_recordOf 9 = .ok (.goto 6, 3) := by decide +kernel
theorem dL_recordOf_12 : decode cL_recordOf 12 = .ok (.astore_n 3, 1) := by decide +kernel
theorem dL_recordOf_13 : decode cL_recordOf 13 = .ok (.iconst 1, 1) := by decide +kernel
theorem dL_recordOf_14 : decode cL_recordOf 14 = .ok (.ireturn, 1) := by decide +kernel
theorem dL_recordOf_15 : decode cL_recordOf 15 = .ok (.iconst 0, 1) := by decide +kernel
theorem dL_recordOf_16 : decode cL_recordOf 16 = .ok (.ireturn, 1) := by decide +kernel
set_option maxHeartbeats 8000000 in
set_option maxRecDepth 100000 in
theorem mL_recordOf (l : Launch) (hst : l.stackTraces = false) (G : gG) (da : Nat → Nat) (v : vSt) (x : gX) (o1 : Nat) (hk_o1 : kd o1 = 10) (p1 : Int32) (o2 : Nat) (hk_o2 : kd o2 = 34) (ho : oL_recordOf o1 p1 o2 v x) : LI l yL_recordOf cL_recordOf 4 [((0 : Nat), (9 : Nat), (12 : Nat), (13 : Nat))] rmL_recordOf [.ref (ga G o1), .int p1, .ref (ga G o2)] G da v x 6 6 (fL_recordOf o1 p1 o2 v x).1 (fL_recordOf o1 p1 o2 v x).2.1 (fL_recordOf o1 p1 o2 v x).2.2 := by
  refine gofL (by decide) rfl (Nat.le_of_ble_eq_true rfl) (fun p e s m args below meth c ls Q X hN htab hH hl E => ?_)
  have hx := X.1
  have hb := X.2.1
  have hown := X.2.2.2.1
  have hts := X.2.2.2.2.1
  have hS : va_S (gA G) s.heap s.heap [] := va_S.rf
  unfold oL_recordOf at ho
  have hl : lv_has ls 4 [(0, .ref (ga G o1)), (1, .int p1), (2, .ref (ga G o2))] := hl
  refine lv_aload_n hx hb dL_recordOf_0 rfl (lv_at hl 2 rfl) ?_
  refine lv_iconst (v := 0) hx hb dL_recordOf_1 (by decide) ?_
  refine lv_aload_n hx hb dL_recordOf_2 rfl (lv_at hl 0 rfl) ?_
  refine lv_iload_n hx hb dL_recordOf_3 rfl (lv_at hl 1 rfl) ?_
  have hq1 := ho.1
  have ho := ho.2
  refine k_X10_recordOf hst X hS hH hk_o1 hq1 t_ml_VernierDrawersLaw_141 hl.1 (Nat.le_of_ble_eq_true rfl) ⟨Nat.le_of_ble_eq_true rfl, Nat.le_of_ble_eq_true rfl⟩ ⟨(Nat.le_of_ble_eq_true rfl), (Nat.le_of_ble_eq_true rfl)⟩ dL_recordOf_4 (fun c2 da ce9 q9 H locs hH hS g1 g2 g3 => ?_) (fun c2 da H locs hH hS => ?_)
  · have ho := ho c2
    have hq3 := ho
    refine t_c1 (k := 1) X htab rfl g1 g2 (hq3 ▸ g3) ?_
    refine lv_astore_n (lv' := [(3, .ref q9), (0, .ref (ga G o1)), (1, .int p1), (2, .ref (ga G o2))]) hx hb dL_recordOf_12 rfl hl (by decide) rfl (fun ls hl => ?_)
    refine lv_iconst (v := 1) hx hb dL_recordOf_13 (by decide) ?_
    exact E _ _ _ _ _ _ _ _ _ _ dL_recordOf_14 (t31 ((fL_recordOf.eq_1 _ _ _ _ _).trans ((if_neg c2).trans rfl))) (t32 ((fL_recordOf.eq_1 _ _ _ _ _).trans ((if_neg c2).trans rfl))) (t33 ((fL_recordOf.eq_1 _ _ _ _ _).trans ((if_neg c2).trans rfl))) hH hS (Nat.le_of_ble_eq_true rfl) (Nat.le_of_ble_eq_true rfl)
  · skip
    refine lv_i2l (v := ((fX10_recordOf o1 p1 v).2 : Int32).toInt64) hx hb dL_recordOf_7 rfl ?_
    refine last_34 X hH hS hk_o2 (i_in (by decide) (by decide)) dL_recordOf_8 (fun H locs x4 ex4 hH hS => ?_)
    refine lv_goto (tgt := 15) hx hb dL_recordOf_9 (by decide) ?_
    refine lv_iconst (v := 0) hx hb dL_recordOf_15 (by decide) ?_
    replace ex4 := Eq.symm ex4
    subst ex4
    exact E _ _ _ _ _ _ _ _ _ _ dL_recordOf_16 (t31 ((fL_recordOf.eq_1 _ _ _ _ _).trans ((if_pos c2).trans rfl))) (t32 ((fL_recordOf.eq_1 _ _ _ _ _).trans ((if_pos c2).trans rfl))) (t33 ((fL_recordOf.eq_1 _ _ _ _ _).trans ((if_pos c2).trans rfl))) hH hS (Nat.le_of_ble_eq_true rfl) (Nat.le_of_ble_eq_true rfl)
theorem k_L_recordOf {p : Program} {l : Launch} {e : Env} {R : Room} {s : State} {m : MethodId} {args : Array Value} {below : List Frame} {meth : Method} {c : Code} {H : Heap} {locs : List Loc} {cells slots : Nat} {Q : State → Prop} {cc : ByteArray} {pc nL : Nat} {ls : Array Slot} {rest : List Value} {G : gG} {own : String} {da : Nat → Nat} {v : vSt} {x : gX} (hst : l.stackTraces = false) (X : CX G p s m args c cc nL own) (hS : va_S (gA G) s.heap H locs) (hN : NC s) (hH : Hp G da v x H) {o1 : Nat} (hk_o1 : kd o1 = 10) {p1 : Int32} {o2 : Nat} (hk_o2 : kd o2 = 34) (ho : oL_recordOf o1 p1 o2 v x) {idx : Nat} (hml : Cond.methodLink own idx yL_recordOf ∈ TT) (hls : ls.size = nL) (hsum : (rest.map fun v => v.category).sum ≤ 8) (hR : rmL_recordOf.frames + 1 ≤ R.frames ∧ 8 + (4 + 11) + rmL_recordOf.locals ≤ R.locals) (hcs : cells + 6 ≤ R.cells ∧ slots + 6 ≤ R.slots) (hdg : decode cc pc = .ok (.invokestatic idx, 3)) (kk : ∀ (d : Nat → Nat) (H1 : Heap) (locs1 : List Loc) (v1 : vSt) (x1 : gX), v1 = (fL_recordOf o1 p1 o2 v x).2.1 → x1 = (fL_recordOf o1 p1 o2 v x).2.2 → Hp G d v1 x1 H1 → va_S (gA G) s.heap H1 locs1 → W p l e R s m args below meth c H1 locs1 (cells + 6) (slots + 6) Q (F0 m (pc + 3) ls (.int (fL_recordOf o1 p1 o2 v x).1 :: rest))) : W p l e R s m args below meth c H locs cells slots Q (F0 m pc ls (.ref (ga G o2) :: .int p1 :: .ref (ga G o1) :: rest)) := c_li (runLS (kp := 3) X.1 X.2.1 X.2.2.1 X.2.2.2.1 X.2.2.2.2.1 (mL_recordOf l hst G da v x o1 hk_o1 p1 o2 hk_o2 ho) pN_bl hml t_st_L_recordOf t_ini_VernierDrawersLaw t_code_L_recordOf ⟨by decide, by decide, by decide +kernel⟩ rfl rfl hR hcs (preN X hN hS hH) rfl hls rfl hsum hdg) hS (fun d9 H9 L9 hH9 => kk d9 H9 L9 _ _ rfl rfl hH9)
def fL_badOf (o1 : Nat) (p1 : Int32) (o2 : Nat) (v : vSt) (x : gX) : Int32 × vSt × gX := if (fX10_badOf o1 p1 v).1 = 0 then (let x4 : gX := xu x o2 (0 : Int32).toNatClampNeg (((fX10_badOf o1 p1 v).2 : Int32).toInt64); (0, v, x4)) else ((1, v, x))
def oL_badOf (o1 : Nat) (p1 : Int32) (o2 : Nat) (v : vSt) (x : gX) : Prop := (oX10_badOf o1 p1 v) ∧ (¬ ((fX10_badOf o1 p1 v).1 = 0) → ((fX10_badOf o1 p1 v).1 = 1))
abbrev rmL_badOf : Room := { frames := 8, cells := 6, slots := 6, locals := 132 }
theorem dL_badOf_0 : decode cL_badOf 0 = .ok (.aload_n 2, 1) := by decide +kernel
theorem dL_badOf_1 : decode cL_badOf 1 = .ok (.iconst 0, 1) := by decide +kernel
theorem dL_badOf_2 : decode cL_badOf 2 = .ok (.aload_n 0, 1) := by decide +kernel
theorem dL_badOf_3 : decode cL_badOf 3 = .ok (.iload_n 1, 1) := by decide +kernel
theorem dL_badOf_4 : decode cL_badOf 4 = .ok (.invokevirtual 144, 3) := by decide +kernel
theorem dL_badOf_7 : decode cL_badOf 7 = .ok (.i2l, 1) := by decide +kernel
theorem dL_badOf_8 : decode cL_badOf 8 = .ok (.lastore, 1) := by decide +kernel
theorem dL_badOf_9 : decode cL_badOf 9 = .ok (.goto 6, 3) := by decide +kernel
theorem dL_badOf_12 : decode cL_badOf 12 = .ok (.astore_n 3, 1) := by decide +kernel
theorem dL_badOf_13 : decode cL_badOf 13 = .ok (.iconst 1, 1) := by decide +kernel
theorem dL_badOf_14 : decode cL_badOf 14 = .ok (.ireturn, 1) := by decide +kernel
theorem dL_badOf_15 : decode cL_badOf 15 = .ok (.iconst 0, 1) := by decide +kernel
theorem dL_badOf_16 : decode cL_badOf 16 = .ok (.ireturn, 1) := by decide +kernel
set_option maxHeartbeats 8000000 in
set_option maxRecDepth 100000 in
theorem mL_badOf (l : Launch) (hst : l.stackTraces = false) (G : gG) (da : Nat → Nat) (v : vSt) (x : gX) (o1 : Nat) (hk_o1 : kd o1 = 10) (p1 : Int32) (o2 : Nat) (hk_o2 : kd o2 = 34) (ho : oL_badOf o1 p1 o2 v x) : LI l yL_badOf cL_badOf 4 [((0 : Nat), (9 : Nat), (12 : Nat), (13 : Nat))] rmL_badOf [.ref (ga G o1), .int p1, .ref (ga G o2)] G da v x 6 6 (fL_badOf o1 p1 o2 v x).1 (fL_badOf o1 p1 o2 v x).2.1 (fL_badOf o1 p1 o2 v x).2.2 := by
  refine gofL (by decide) rfl (Nat.le_of_ble_eq_true rfl) (fun p e s m args below meth c ls Q X hN htab hH hl E => ?_)
  have hx := X.1
  have hb := X.2.1
  have hown := X.2.2.2.1
  have hts := X.2.2.2.2.1
  have hS : va_S (gA G) s.heap s.heap [] := va_S.rf
  unfold oL_badOf at ho
  have hl : lv_has ls 4 [(0, .ref (ga G o1)), (1, .int p1), (2, .ref (ga G o2))] := hl
  refine lv_aload_n hx hb dL_badOf_0 rfl (lv_at hl 2 rfl) ?_
  refine lv_iconst (v := 0) hx hb dL_badOf_1 (by decide) ?_
  refine lv_aload_n hx hb dL_badOf_2 rfl (lv_at hl 0 rfl) ?_
  refine lv_iload_n hx hb dL_badOf_3 rfl (lv_at hl 1 rfl) ?_
  have hq1 := ho.1
  have ho := ho.2
  refine k_X10_badOf hst X hS hH hk_o1 hq1 t_ml_VernierDrawersLaw_144 hl.1 (Nat.le_of_ble_eq_true rfl) ⟨Nat.le_of_ble_eq_true rfl, Nat.le_of_ble_eq_true rfl⟩ ⟨(Nat.le_of_ble_eq_true rfl), (Nat.le_of_ble_eq_true rfl)⟩ dL_badOf_4 (fun c2 da ce9 q9 H locs hH hS g1 g2 g3 => ?_) (fun c2 da H locs hH hS => ?_)
  · have ho := ho c2
    have hq3 := ho
    refine t_c1 (k := 1) X htab rfl g1 g2 (hq3 ▸ g3) ?_
    refine lv_astore_n (lv' := [(3, .ref q9), (0, .ref (ga G o1)), (1, .int p1), (2, .ref (ga G o2))]) hx hb dL_badOf_12 rfl hl (by decide) rfl (fun ls hl => ?_)
    refine lv_iconst (v := 1) hx hb dL_badOf_13 (by decide) ?_
    exact E _ _ _ _ _ _ _ _ _ _ dL_badOf_14 (t31 ((fL_badOf.eq_1 _ _ _ _ _).trans ((if_neg c2).trans rfl))) (t32 ((fL_badOf.eq_1 _ _ _ _ _).trans ((if_neg c2).trans rfl))) (t33 ((fL_badOf.eq_1 _ _ _ _ _).trans ((if_neg c2).trans rfl))) hH hS (Nat.le_of_ble_eq_true rfl) (Nat.le_of_ble_eq_true rfl)
  · skip
    refine lv_i2l (v := ((fX10_badOf o1 p1 v).2 : Int32).toInt64) hx hb dL_badOf_7 rfl ?_
    refine last_34 X hH hS hk_o2 (i_in (by decide) (by decide)) dL_badOf_8 (fun H locs x4 ex4 hH hS => ?_)
    refine lv_goto (tgt := 15) hx hb dL_badOf_9 (by decide) ?_
    refine lv_iconst (v := 0) hx hb dL_badOf_15 (by decide) ?_
    replace ex4 := Eq.symm ex4
    subst ex4
    exact E _ _ _ _ _ _ _ _ _ _ dL_badOf_16 (t31 ((fL_badOf.eq_1 _ _ _ _ _).trans ((if_pos c2).trans rfl))) (t32 ((fL_badOf.eq_1 _ _ _ _ _).trans ((if_pos c2).trans rfl))) (t33 ((fL_badOf.eq_1 _ _ _ _ _).trans ((if_pos c2).trans rfl))) hH hS (Nat.le_of_ble_eq_true rfl) (Nat.le_of_ble_eq_true rfl)
theorem k_L_badOf {p : Program} {l : Launch} {e : Env} {R : Room} {s : State} {m : MethodId} {args : Array Value} {below : List Frame} {meth : Method} {c : Code} {H : Heap} {locs : List Loc} {cells slots : Nat} {Q : State → Prop} {cc : ByteArray} {pc nL : Nat} {ls : Array Slot} {rest : List Value} {G : gG} {own : String} {da : Nat → Nat} {v : vSt} {x : gX} (hst : l.stackTraces = false) (X : CX G p s m args c cc nL own) (hS : va_S (gA G) s.heap H locs) (hN : NC s) (hH : Hp G da v x H) {o1 : Nat} (hk_o1 : kd o1 = 10) {p1 : Int32} {o2 : Nat} (hk_o2 : kd o2 = 34) (ho : oL_badOf o1 p1 o2 v x) {idx : Nat} (hml : Cond.methodLink own idx yL_badOf ∈ TT) (hls : ls.size = nL) (hsum : (rest.map fun v => v.category).sum ≤ 8) (hR : rmL_badOf.frames + 1 ≤ R.frames ∧ 8 + (4 + 11) + rmL_badOf.locals ≤ R.locals) (hcs : cells + 6 ≤ R.cells ∧ slots + 6 ≤ R.slots) (hdg : decode cc pc = .ok (.invokestatic idx, 3)) (kk : ∀ (d : Nat → Nat) (H1 : Heap) (locs1 : List Loc) (v1 : vSt) (x1 : gX), v1 = (fL_badOf o1 p1 o2 v x).2.1 → x1 = (fL_badOf o1 p1 o2 v x).2.2 → Hp G d v1 x1 H1 → va_S (gA G) s.heap H1 locs1 → W p l e R s m args below meth c H1 locs1 (cells + 6) (slots + 6) Q (F0 m (pc + 3) ls (.int (fL_badOf o1 p1 o2 v x).1 :: rest))) : W p l e R s m args below meth c H locs cells slots Q (F0 m pc ls (.ref (ga G o2) :: .int p1 :: .ref (ga G o1) :: rest)) := c_li (runLS (kp := 3) X.1 X.2.1 X.2.2.1 X.2.2.2.1 X.2.2.2.2.1 (mL_badOf l hst G da v x o1 hk_o1 p1 o2 hk_o2 ho) pN_bl hml t_st_L_badOf t_ini_VernierDrawersLaw t_code_L_badOf ⟨by decide, by decide, by decide +kernel⟩ rfl rfl hR hcs (preN X hN hS hH) rfl hls rfl hsum hdg) hS (fun d9 H9 L9 hH9 => kk d9 H9 L9 _ _ rfl rfl hH9)
def fL_goodUntilChange (o1 : Nat) (p1 : Int32) (o2 : Nat) (v : vSt) (x : gX) : Int32 × vSt × gX := if (fX10_goodUntilChange o1 p1 v).1 = 0 then (let x5 : gX := xu x o2 (0 : Int32).toNatClampNeg (((fX10_goodUntilChange o1 p1 v).2 : Int32).toInt64); (0, v, x5)) else (if (fX10_goodUntilChange o1 p1 v).1 = 1 then ((1, v, x)) else ((2, v, x)))
def oL_goodUntilChange (o1 : Nat) (p1 : Int32) (o2 : Nat) (v : vSt) (x : gX) : Prop := (oX10_goodUntilChange o1 p1 v) ∧ (¬ ((fX10_goodUntilChange o1 p1 v).1 = 0) → (¬ ((fX10_goodUntilChange o1 p1 v).1 = 1) → ((fX10_goodUntilChange o1 p1 v).1 = 3)))
abbrev rmL_goodUntilChange : Room := { frames := 8, cells := 12, slots := 12, locals := 134 }
theorem dL_goodUntilChange_0 : decode cL_goodUntilChange 0 = .ok (.aload_n 2, 1) := by decide +kernel
theorem dL_goodUntilChange_1 : decode cL_goodUntilChange 1 = .ok (.iconst 0, 1) := by decide +kernel
theorem dL_goodUntilChange_2 : decode cL_goodUntilChange 2 = .ok (.aload_n 0, 1) := by decide +kernel
theorem dL_goodUntilChange_3 : decode cL_goodUntilChange 3 = .ok (.iload_n 1, 1) := by decide +kernel
theorem dL_goodUntilChange_4 : decode cL_goodUntilChange 4 = .ok (.invokevirtual 147, 3) := by decide +kernel
theorem dL_goodUntilChange_7 : decode cL_goodUntilChange 7 = .ok (.i2l, 1) := by decide +kernel
theorem dL_goodUntilChange_8 : decode cL_goodUntilChange 8 = .ok (.lastore, 1) := by decide +kernel
theorem dL_goodUntilChange_9 : decode cL_goodUntilChange 9 = .ok (.goto 9, 3) := by decide +kernel
theorem dL_goodUntilChange_12 : decode cL_goodUntilChange 12 = .ok (.astore_n 3, 1) := by decide +kernel
theorem dL_goodUntilChange_13 : decode cL_goodUntilChange 13 = .ok (.iconst 1, 1) := by decide +kernel
theorem dL_goodUntilChange_14 : decode cL_goodUntilChange 14 = .ok (.ireturn, 1) := by decide +kernel
theorem dL_goodUntilChange_15 : decode cL_goodUntilChange 15 = .ok (.astore_n 3, 1) := by decide +kernel
theorem dL_goodUntilChange_16 : decode cL_goodUntilChange 16 = .ok (.iconst 2, 1) := by decide +kernel
theorem dL_goodUntilChange_17 : decode cL_goodUntilChange 17 = .ok (.ireturn, 1) := by decide +kernel
theorem dL_goodUntilChange_18 : decode cL_goodUntilChange 18 = .ok (.iconst 0, 1) := by decide +kernel
theorem dL_goodUntilChange_19 : decode cL_goodUntilChange 19 = .ok (.ireturn, 1) := by decide +kernel
set_option maxHeartbeats 8000000 in
set_option maxRecDepth 100000 in
theorem mL_goodUntilChange (l : Launch) (hst : l.stackTraces = false) (G : gG) (da : Nat → Nat) (v : vSt) (x : gX) (o1 : Nat) (hk_o1 : kd o1 = 10) (p1 : Int32) (o2 : Nat) (hk_o2 : kd o2 = 34) (ho : oL_goodUntilChange o1 p1 o2 v x) : LI l yL_goodUntilChange cL_goodUntilChange 4 [((0 : Nat), (9 : Nat), (12 : Nat), (13 : Nat)), ((0 : Nat), (9 : Nat), (15 : Nat), (85 : Nat))] rmL_goodUntilChange [.ref (ga G o1), .int p1, .ref (ga G o2)] G da v x 12 12 (fL_goodUntilChange o1 p1 o2 v x).1 (fL_goodUntilChange o1 p1 o2 v x).2.1 (fL_goodUntilChange o1 p1 o2 v x).2.2 := by
  refine gofL (by decide) rfl (Nat.le_of_ble_eq_true rfl) (fun p e s m args below meth c ls Q X hN htab hH hl E => ?_)
  have hx := X.1
  have hb := X.2.1
  have hown := X.2.2.2.1
  have hts := X.2.2.2.2.1
  have hS : va_S (gA G) s.heap s.heap [] := va_S.rf
  unfold oL_goodUntilChange at ho
  have hl : lv_has ls 4 [(0, .ref (ga G o1)), (1, .int p1), (2, .ref (ga G o2))] := hl
  refine lv_aload_n hx hb dL_goodUntilChange_0 rfl (lv_at hl 2 rfl) ?_
  refine lv_iconst (v := 0) hx hb dL_goodUntilChange_1 (by decide) ?_
  refine lv_aload_n hx hb dL_goodUntilChange_2 rfl (lv_at hl 0 rfl) ?_
  refine lv_iload_n hx hb dL_goodUntilChange_3 rfl (lv_at hl 1 rfl) ?_
  have hq1 := ho.1
  have ho := ho.2
  refine k_X10_goodUntilChange hst X hS hH hk_o1 hq1 t_ml_VernierDrawersLaw_147 hl.1 (Nat.le_of_ble_eq_true rfl) ⟨Nat.le_of_ble_eq_true rfl, Nat.le_of_ble_eq_true rfl⟩ ⟨(Nat.le_of_ble_eq_true rfl), (Nat.le_of_ble_eq_true rfl)⟩ dL_goodUntilChange_4 (fun c2 da ce9 q9 H locs hH hS g1 g2 g3 => ?_) (fun c2 da H locs hH hS => ?_)
  · have ho := ho c2
    refine (Decidable.em ((fX10_goodUntilChange o1 p1 v).1 = 1)).elim (fun c3 => ?_) (fun c3 => ?_)
    · skip
      refine t_c1 (k := 1) X htab rfl g1 g2 (c3 ▸ g3) ?_
      refine lv_astore_n (lv' := [(3, .ref q9), (0, .ref (ga G o1)), (1, .int p1), (2, .ref (ga G o2))]) hx hb dL_goodUntilChange_12 rfl hl (by decide) rfl (fun ls hl => ?_)
      refine lv_iconst (v := 1) hx hb dL_goodUntilChange_13 (by decide) ?_
      exact E _ _ _ _ _ _ _ _ _ _ dL_goodUntilChange_14 (t31 ((fL_goodUntilChange.eq_1 _ _ _ _ _).trans ((if_neg c2).trans ((if_pos c3).trans rfl)))) (t32 ((fL_goodUntilChange.eq_1 _ _ _ _ _).trans ((if_neg c2).trans ((if_pos c3).trans rfl)))) (t33 ((fL_goodUntilChange.eq_1 _ _ _ _ _).trans ((if_neg c2).trans ((if_pos c3).trans rfl)))) hH hS (Nat.le_of_ble_eq_true rfl) (Nat.le_of_ble_eq_true rfl)
    · have ho := ho c3
      have hq4 := ho
      refine t_c2 (k := 3) X hN htab (by decide) rfl g1 g2 (hq4 ▸ g3) ?_
      refine lv_astore_n (lv' := [(3, .ref q9), (0, .ref (ga G o1)), (1, .int p1), (2, .ref (ga G o2))]) hx hb dL_goodUntilChange_15 rfl hl (by decide) rfl (fun ls hl => ?_)
      refine lv_iconst (v := 2) hx hb dL_goodUntilChange_16 (by decide) ?_
      exact E _ _ _ _ _ _ _ _ _ _ dL_goodUntilChange_17 (t31 ((fL_goodUntilChange.eq_1 _ _ _ _ _).trans ((if_neg c2).trans ((if_neg c3).trans rfl)))) (t32 ((fL_goodUntilChange.eq_1 _ _ _ _ _).trans ((if_neg c2).trans ((if_neg c3).trans rfl)))) (t33 ((fL_goodUntilChange.eq_1 _ _ _ _ _).trans ((if_neg c2).trans ((if_neg c3).trans rfl)))) hH hS (Nat.le_of_ble_eq_true rfl) (Nat.le_of_ble_eq_true rfl)
  · skip
    refine lv_i2l (v := ((fX10_goodUntilChange o1 p1 v).2 : Int32).toInt64) hx hb dL_goodUntilChange_7 rfl ?_
    refine last_34 X hH hS hk_o2 (i_in (by decide) (by decide)) dL_goodUntilChange_8 (fun H locs x5 ex5 hH hS => ?_)
    refine lv_goto (tgt := 18) hx hb dL_goodUntilChange_9 (by decide) ?_
    refine lv_iconst (v := 0) hx hb dL_goodUntilChange_18 (by decide) ?_
    replace ex5 := Eq.symm ex5
    subst ex5
    exact E _ _ _ _ _ _ _ _ _ _ dL_goodUntilChange_19 (t31 ((fL_goodUntilChange.eq_1 _ _ _ _ _).trans ((if_pos c2).trans rfl))) (t32 ((fL_goodUntilChange.eq_1 _ _ _ _ _).trans ((if_pos c2).trans rfl))) (t33 ((fL_goodUntilChange.eq_1 _ _ _ _ _).trans ((if_pos c2).trans rfl))) hH hS (Nat.le_of_ble_eq_true rfl) (Nat.le_of_ble_eq_true rfl)
theorem k_L_goodUntilChange {p : Program} {l : Launch} {e : Env} {R : Room} {s : State} {m : MethodId} {args : Array Value} {below : List Frame} {meth : Method} {c : Code} {H : Heap} {locs : List Loc} {cells slots : Nat} {Q : State → Prop} {cc : ByteArray} {pc nL : Nat} {ls : Array Slot} {rest : List Value} {G : gG} {own : String} {da : Nat → Nat} {v : vSt} {x : gX} (hst : l.stackTraces = false) (X : CX G p s m args c cc nL own) (hS : va_S (gA G) s.heap H locs) (hN : NC s) (hH : Hp G da v x H) {o1 : Nat} (hk_o1 : kd o1 = 10) {p1 : Int32} {o2 : Nat} (hk_o2 : kd o2 = 34) (ho : oL_goodUntilChange o1 p1 o2 v x) {idx : Nat} (hml : Cond.methodLink own idx yL_goodUntilChange ∈ TT) (hls : ls.size = nL) (hsum : (rest.map fun v => v.category).sum ≤ 8) (hR : rmL_goodUntilChange.frames + 1 ≤ R.frames ∧ 8 + (4 + 11) + rmL_goodUntilChange.locals ≤ R.locals) (hcs : cells + 12 ≤ R.cells ∧ slots + 12 ≤ R.slots) (hdg : decode cc pc = .ok (.invokestatic idx, 3)) (kk : ∀ (d : Nat → Nat) (H1 : Heap) (locs1 : List Loc) (v1 : vSt) (x1 : gX), v1 = (fL_goodUntilChange o1 p1 o2 v x).2.1 → x1 = (fL_goodUntilChange o1 p1 o2 v x).2.2 → Hp G d v1 x1 H1 → va_S (gA G) s.heap H1 locs1 → W p l e R s m args below meth c H1 locs1 (cells + 12) (slots + 12) Q (F0 m (pc + 3) ls (.int (fL_goodUntilChange o1 p1 o2 v x).1 :: rest))) : W p l e R s m args below meth c H locs cells slots Q (F0 m pc ls (.ref (ga G o2) :: .int p1 :: .ref (ga G o1) :: rest)) := c_li (runLS (kp := 3) X.1 X.2.1 X.2.2.1 X.2.2.2.1 X.2.2.2.2.1 (mL_goodUntilChange l hst G da v x o1 hk_o1 p1 o2 hk_o2 ho) pN_bl hml t_st_L_goodUntilChange t_ini_VernierDrawersLaw t_code_L_goodUntilChange ⟨by decide, by decide, by decide +kernel⟩ rfl rfl hR hcs (preN X hN hS hH) rfl hls rfl hsum hdg) hS (fun d9 H9 L9 hH9 => kk d9 H9 L9 _ _ rfl rfl hH9)
def fL_charted (o1 : Nat) (p1 : Int32) (o2 : Nat) (v : vSt) (x : gX) : Int32 × vSt × gX := if (fX10_charted o1 p1 v).1 = 0 then (let x4 : gX := xu x o2 (0 : Int32).toNatClampNeg (((fX10_charted o1 p1 v).2 : Int32).toInt64); (0, v, x4)) else ((1, v, x))
def oL_charted (o1 : Nat) (p1 : Int32) (o2 : Nat) (v : vSt) (x : gX) : Prop := (oX10_charted o1 p1 v) ∧ (¬ ((fX10_charted o1 p1 v).1 = 0) → ((fX10_charted o1 p1 v).1 = 1))
abbrev rmL_charted : Room := { frames := 8, cells := 6, slots := 6, locals := 132 }
theorem dL_charted_0 : decode cL_charted 0 = .ok (.aload_n 2, 1) := by decide +kernel
theorem dL_charted_1 : decode cL_charted 1 = .ok (.iconst 0, 1) := by decide +kernel
theorem dL_charted_2 : decode cL_charted 2 = .ok (.aload_n 0, 1) := by decide +kernel
theorem dL_charted_3 : decode cL_charted 3 = .ok (.iload_n 1, 1) := by decide +kernel
theorem dL_charted_4 : decode cL_charted 4 = .ok (.invokevirtual 150, 3) := by decide +kernel
theorem dL_charted_7 : decode cL_charted 7 = .ok (.i2l, 1) := by decide +kernel
theorem dL_charted_8 : decode cL_charted 8 = .ok (.lastore, 1) := by decide +kernel
theorem dL_charted_9 : decode cL_charted 9 = .ok (.goto 6, 3) := by decide +kernel
theorem dL_charted_12 : decode cL_charted 12 = .ok (.astore_n 3, 1) := by decide +kernel
theorem dL_charted_13 : decode cL_charted 13 = .ok (.iconst 1, 1) := by decide +kernel
theorem dL_charted_14 : decode cL_charted 14 = .ok (.ireturn, 1) := by decide +kernel
theorem dL_charted_15 : decode cL_charted 15 = .ok (.iconst 0, 1) := by decide +kernel
theorem dL_charted_16 : decode cL_charted 16 = .ok (.ireturn, 1) := by decide +kernel
set_option maxHeartbeats 8000000 in
set_option maxRecDepth 100000 in
theorem mL_charted (l : Launch) (hst : l.stackTraces = false) (G : gG) (da : Nat → Nat) (v : vSt) (x : gX) (o1 : Nat) (hk_o1 : kd o1 = 10) (p1 : Int32) (o2 : Nat) (hk_o2 : kd o2 = 34) (ho : oL_charted o1 p1 o2 v x) : LI l yL_charted cL_charted 4 [((0 : Nat), (9 : Nat), (12 : Nat), (13 : Nat))] rmL_charted [.ref (ga G o1), .int p1, .ref (ga G o2)] G da v x 6 6 (fL_charted o1 p1 o2 v x).1 (fL_charted o1 p1 o2 v x).2.1 (fL_charted o1 p1 o2 v x).2.2 := by
  refine gofL (by decide) rfl (Nat.le_of_ble_eq_true rfl) (fun p e s m args below meth c ls Q X hN htab hH hl E => ?_)
  have hx := X.1
  have hb := X.2.1
  have hown := X.2.2.2.1
  have hts := X.2.2.2.2.1
  have hS : va_S (gA G) s.heap s.heap [] := va_S.rf
  unfold oL_charted at ho
  have hl : lv_has ls 4 [(0, .ref (ga G o1)), (1, .int p1), (2, .ref (ga G o2))] := hl
  refine lv_aload_n hx hb dL_charted_0 rfl (lv_at hl 2 rfl) ?_
  refine lv_iconst (v := 0) hx hb dL_charted_1 (by decide) ?_
  refine lv_aload_n hx hb dL_charted_2 rfl (lv_at hl 0 rfl) ?_
  refine lv_iload_n hx hb dL_charted_3 rfl (lv_at hl 1 rfl) ?_
  have hq1 := ho.1
  have ho := ho.2
  refine k_X10_charted hst X hS hH hk_o1 hq1 t_ml_VernierDrawersLaw_150 hl.1 (Nat.le_of_ble_eq_true rfl) ⟨Nat.le_of_ble_eq_true rfl, Nat.le_of_ble_eq_true rfl⟩ ⟨(Nat.le_of_ble_eq_true rfl), (Nat.le_of_ble_eq_true rfl)⟩ dL_charted_4 (fun c2 da ce9 q9 H locs hH hS g1 g2 g3 => ?_) (fun c2 da H locs hH hS => ?_)
  · have ho := ho c2
    have hq3 := ho
    refine t_c1 (k := 1) X htab rfl g1 g2 (hq3 ▸ g3) ?_
    refine lv_astore_n (lv' := [(3, .ref q9), (0, .ref (ga G o1)), (1, .int p1), (2, .ref (ga G o2))]) hx hb dL_charted_12 rfl hl (by decide) rfl (fun ls hl => ?_)
    refine lv_iconst (v := 1) hx hb dL_charted_13 (by decide) ?_
    exact E _ _ _ _ _ _ _ _ _ _ dL_charted_14 (t31 ((fL_charted.eq_1 _ _ _ _ _).trans ((if_neg c2).trans rfl))) (t32 ((fL_charted.eq_1 _ _ _ _ _).trans ((if_neg c2).trans rfl))) (t33 ((fL_charted.eq_1 _ _ _ _ _).trans ((if_neg c2).trans rfl))) hH hS (Nat.le_of_ble_eq_true rfl) (Nat.le_of_ble_eq_true rfl)
  · skip
    refine lv_i2l (v := ((fX10_charted o1 p1 v).2 : Int32).toInt64) hx hb dL_charted_7 rfl ?_
    refine last_34 X hH hS hk_o2 (i_in (by decide) (by decide)) dL_charted_8 (fun H locs x4 ex4 hH hS => ?_)
    refine lv_goto (tgt := 15) hx hb dL_charted_9 (by decide) ?_
    refine lv_iconst (v := 0) hx hb dL_charted_15 (by decide) ?_
    replace ex4 := Eq.symm ex4
    subst ex4
    exact E _ _ _ _ _ _ _ _ _ _ dL_charted_16 (t31 ((fL_charted.eq_1 _ _ _ _ _).trans ((if_pos c2).trans rfl))) (t32 ((fL_charted.eq_1 _ _ _ _ _).trans ((if_pos c2).trans rfl))) (t33 ((fL_charted.eq_1 _ _ _ _ _).trans ((if_pos c2).trans rfl))) hH hS (Nat.le_of_ble_eq_true rfl) (Nat.le_of_ble_eq_true rfl)
theorem k_L_charted {p : Program} {l : Launch} {e : Env} {R : Room} {s : State} {m : MethodId} {args : Array Value} {below : List Frame} {meth : Method} {c : Code} {H : Heap} {locs : List Loc} {cells slots : Nat} {Q : State → Prop} {cc : ByteArray} {pc nL : Nat} {ls : Array Slot} {rest : List Value} {G : gG} {own : String} {da : Nat → Nat} {v : vSt} {x : gX} (hst : l.stackTraces = false) (X : CX G p s m args c cc nL own) (hS : va_S (gA G) s.heap H locs) (hN : NC s) (hH : Hp G da v x H) {o1 : Nat} (hk_o1 : kd o1 = 10) {p1 : Int32} {o2 : Nat} (hk_o2 : kd o2 = 34) (ho : oL_charted o1 p1 o2 v x) {idx : Nat} (hml : Cond.methodLink own idx yL_charted ∈ TT) (hls : ls.size = nL) (hsum : (rest.map fun v => v.category).sum ≤ 8) (hR : rmL_charted.frames + 1 ≤ R.frames ∧ 8 + (4 + 11) + rmL_charted.locals ≤ R.locals) (hcs : cells + 6 ≤ R.cells ∧ slots + 6 ≤ R.slots) (hdg : decode cc pc = .ok (.invokestatic idx, 3)) (kk : ∀ (d : Nat → Nat) (H1 : Heap) (locs1 : List Loc) (v1 : vSt) (x1 : gX), v1 = (fL_charted o1 p1 o2 v x).2.1 → x1 = (fL_charted o1 p1 o2 v x).2.2 → Hp G d v1 x1 H1 → va_S (gA G) s.heap H1 locs1 → W p l e R s m args below meth c H1 locs1 (cells + 6) (slots + 6) Q (F0 m (pc + 3) ls (.int (fL_charted o1 p1 o2 v x).1 :: rest))) : W p l e R s m args below meth c H locs cells slots Q (F0 m pc ls (.ref (ga G o2) :: .int p1 :: .ref (ga G o1) :: rest)) := c_li (runLS (kp := 3) X.1 X.2.1 X.2.2.1 X.2.2.2.1 X.2.2.2.2.1 (mL_charted l hst G da v x o1 hk_o1 p1 o2 hk_o2 ho) pN_bl hml t_st_L_charted t_ini_VernierDrawersLaw t_code_L_charted ⟨by decide, by decide, by decide +kernel⟩ rfl rfl hR hcs (preN X hN hS hH) rfl hls rfl hsum hdg) hS (fun d9 H9 L9 hH9 => kk d9 H9 L9 _ _ rfl rfl hH9)
def fL_chartedAt (o1 : Nat) (p1 : Int32) (p2 : Int32) (o2 : Nat) (v : vSt) (x : gX) : Int32 × vSt × gX := if (fX10_chartedAt o1 p1 p2 v).1 = 0 then (let x5 : gX := xu x o2 (0 : Int32).toNatClampNeg (((fX10_chartedAt o1 p1 p2 v).2 : Int32).toInt64); (0, v, x5)) else (if (fX10_chartedAt o1 p1 p2 v).1 = 1 then ((1, v, x)) else ((2, v, x)))
def oL_chartedAt (o1 : Nat) (p1 : Int32) (p2 : Int32) (o2 : Nat) (v : vSt) (x : gX) : Prop := (oX10_chartedAt o1 p1 p2 v) ∧ (¬ ((fX10_chartedAt o1 p1 p2 v).1 = 0) → (¬ ((fX10_chartedAt o1 p1 p2 v).1 = 1) → ((fX10_chartedAt o1 p1 p2 v).1 = 3)))
abbrev rmL_chartedAt : Room := { frames := 8, cells := 12, slots := 12, locals := 134 }
theorem dL_chartedAt_0 : decode cL_chartedAt 0 = .ok (.aload_n 3, 1) := by decide +kernel
theorem dL_chartedAt_1 : decode cL_chartedAt 1 = .ok (.iconst 0, 1) := by decide +kernel
theorem dL_chartedAt_2 : decode cL_chartedAt 2 = .ok (.aload_n 0, 1) := by decide +kernel
theorem dL_chartedAt_3 : decode cL_chartedAt 3 = .ok (.iload_n 1, 1) := by decide +kernel
theorem dL_chartedAt_4 : decode cL_chartedAt 4 = .ok (.iload_n 2, 1) := by decide +kernel
theorem dL_chartedAt_5 : decode cL_chartedAt 5 = .ok (.invokevirtual 153, 3) := by decide +kernel
theorem dL_chartedAt_8 : decode cL_chartedAt 8 = .ok (.i2l, 1) := by decide +kernel
theorem dL_chartedAt_9 : decode cL_chartedAt 9 = .ok (.lastore, 1) := by decide +kernel
theorem dL_chartedAt_10 : decode cL_chartedAt 10 = .ok (.goto 11, 3) := by decide +kernel
theorem dL_chartedAt_13 : decode cL_chartedAt 13 = .ok (.astore 4, 2) := by decide +kernel
theorem dL_chartedAt_15 : decode cL_chartedAt 15 = .ok (.iconst 1, 1) := by decide +kernel
theorem dL_chartedAt_16 : decode cL_chartedAt 16 = .ok (.ireturn, 1) := by decide +kernel
theorem dL_chartedAt_17 : decode cL_chartedAt 17 = .ok (.astore 4, 2) := by decide +kernel
theorem dL_chartedAt_19 : decode cL_chartedAt 19 = .ok (.iconst 2, 1) := by decide +kernel
theorem dL_chartedAt_20 : decode cL_chartedAt 20 = .ok (.ireturn, 1) := by decide +kernel
theorem dL_chartedAt_21 : decode cL_chartedAt 21 = .ok (.iconst 0, 1) := by decide +kernel
theorem dL_chartedAt_22 : decode cL_chartedAt 22 = .ok (.ireturn, 1) := by decide +kernel
set_option maxHeartbeats 8000000 in
set_option maxRecDepth 100000 in
theorem mL_chartedAt (l : Launch) (hst : l.stackTraces = false) (G : gG) (da : Nat → Nat) (v : vSt) (x : gX) (o1 : Nat) (hk_o1 : kd o1 = 10) (p1 : Int32) (p2 : Int32) (o2 : Nat) (hk_o2 : kd o2 = 34) (ho : oL_chartedAt o1 p1 p2 o2 v x) : LI l yL_chartedAt cL_chartedAt 5 [((0 : Nat), (10 : Nat), (13 : Nat), (13 : Nat)), ((0 : Nat), (10 : Nat), (17 : Nat), (85 : Nat))] rmL_chartedAt [.ref (ga G o1), .int p1, .int p2, .ref (ga G o2)] G da v x 12 12 (fL_chartedAt o1 p1 p2 o2 v x).1 (fL_chartedAt o1 p1 p2 o2 v x).2.1 (fL_chartedAt o1 p1 p2 o2 v x).2.2 := by
  refine gofL (by decide) rfl (Nat.le_of_ble_eq_true rfl) (fun p e s m args below meth c ls Q X hN htab hH hl E => ?_)
  have hx := X.1
  have hb := X.2.1
  have hown := X.2.2.2.1
  have hts := X.2.2.2.2.1
  have hS : va_S (gA G) s.heap s.heap [] := va_S.rf
  unfold oL_chartedAt at ho
  have hl : lv_has ls 5 [(0, .ref (ga G o1)), (1, .int p1), (2, .int p2), (3, .ref (ga G o2))] := hl
  refine lv_aload_n hx hb dL_chartedAt_0 rfl (lv_at hl 3 rfl) ?_
  refine lv_iconst (v := 0) hx hb dL_chartedAt_1 (by decide) ?_
  refine lv_aload_n hx hb dL_chartedAt_2 rfl (lv_at hl 0 rfl) ?_
  refine lv_iload_n hx hb dL_chartedAt_3 rfl (lv_at hl 1 rfl) ?_
  refine lv_iload_n hx hb dL_chartedAt_4 rfl (lv_at hl 2 rfl) ?_
  have hq1 := ho.1
  have ho := ho.2
  refine k_X10_chartedAt hst X hS hH hk_o1 hq1 t_ml_VernierDrawersLaw_153 hl.1 (Nat.le_of_ble_eq_true rfl) ⟨Nat.le_of_ble_eq_true rfl, Nat.le_of_ble_eq_true rfl⟩ ⟨(Nat.le_of_ble_eq_true rfl), (Nat.le_of_ble_eq_true rfl)⟩ dL_chartedAt_5 (fun c2 da ce9 q9 H locs hH hS g1 g2 g3 => ?_) (fun c2 da H locs hH hS => ?_)
  · have ho := ho c2
    refine (Decidable.em ((fX10_chartedAt o1 p1 p2 v).1 = 1)).elim (fun c3 => ?_) (fun c3 => ?_)
    · skip
      refine t_c1 (k := 1) X htab rfl g1 g2 (c3 ▸ g3) ?_
      refine lv_astore (lv' := [(4, .ref q9), (0, .ref (ga G o1)), (1, .int p1), (2, .int p2), (3, .ref (ga G o2))]) hx hb dL_chartedAt_13 hl (by decide) rfl (fun ls hl => ?_)
      refine lv_iconst (v := 1) hx hb dL_chartedAt_15 (by decide) ?_
      exact E _ _ _ _ _ _ _ _ _ _ dL_chartedAt_16 (t31 ((fL_chartedAt.eq_1 _ _ _ _ _ _).trans ((if_neg c2).trans ((if_pos c3).trans rfl)))) (t32 ((fL_chartedAt.eq_1 _ _ _ _ _ _).trans ((if_neg c2).trans ((if_pos c3).trans rfl)))) (t33 ((fL_chartedAt.eq_1 _ _ _ _ _ _).trans ((if_neg c2).trans ((if_pos c3).trans rfl)))) hH hS (Nat.le_of_ble_eq_true rfl) (Nat.le_of_ble_eq_true rfl)
    · have ho := ho c3
      have hq4 := ho
      refine t_c2 (k := 3) X hN htab (by decide) rfl g1 g2 (hq4 ▸ g3) ?_
      refine lv_astore (lv' := [(4, .ref q9), (0, .ref (ga G o1)), (1, .int p1), (2, .int p2), (3, .ref (ga G o2))]) hx hb dL_chartedAt_17 hl (by decide) rfl (fun ls hl => ?_)
      refine lv_iconst (v := 2) hx hb dL_chartedAt_19 (by decide) ?_
      exact E _ _ _ _ _ _ _ _ _ _ dL_chartedAt_20 (t31 ((fL_chartedAt.eq_1 _ _ _ _ _ _).trans ((if_neg c2).trans ((if_neg c3).trans rfl)))) (t32 ((fL_chartedAt.eq_1 _ _ _ _ _ _).trans ((if_neg c2).trans ((if_neg c3).trans rfl)))) (t33 ((fL_chartedAt.eq_1 _ _ _ _ _ _).trans ((if_neg c2).trans ((if_neg c3).trans rfl)))) hH hS (Nat.le_of_ble_eq_true rfl) (Nat.le_of_ble_eq_true rfl)
  · skip
    refine lv_i2l (v := ((fX10_chartedAt o1 p1 p2 v).2 : Int32).toInt64) hx hb dL_chartedAt_8 rfl ?_
    refine last_34 X hH hS hk_o2 (i_in (by decide) (by decide)) dL_chartedAt_9 (fun H locs x5 ex5 hH hS => ?_)
    refine lv_goto (tgt := 21) hx hb dL_chartedAt_10 (by decide) ?_
    refine lv_iconst (v := 0) hx hb dL_chartedAt_21 (by decide) ?_
    replace ex5 := Eq.symm ex5
    subst ex5
    exact E _ _ _ _ _ _ _ _ _ _ dL_chartedAt_22 (t31 ((fL_chartedAt.eq_1 _ _ _ _ _ _).trans ((if_pos c2).trans rfl))) (t32 ((fL_chartedAt.eq_1 _ _ _ _ _ _).trans ((if_pos c2).trans rfl))) (t33 ((fL_chartedAt.eq_1 _ _ _ _ _ _).trans ((if_pos c2).trans rfl))) hH hS (Nat.le_of_ble_eq_true rfl) (Nat.le_of_ble_eq_true rfl)
theorem k_L_chartedAt {p : Program} {l : Launch} {e : Env} {R : Room} {s : State} {m : MethodId} {args : Array Value} {below : List Frame} {meth : Method} {c : Code} {H : Heap} {locs : List Loc} {cells slots : Nat} {Q : State → Prop} {cc : ByteArray} {pc nL : Nat} {ls : Array Slot} {rest : List Value} {G : gG} {own : String} {da : Nat → Nat} {v : vSt} {x : gX} (hst : l.stackTraces = false) (X : CX G p s m args c cc nL own) (hS : va_S (gA G) s.heap H locs) (hN : NC s) (hH : Hp G da v x H) {o1 : Nat} (hk_o1 : kd o1 = 10) {p1 : Int32} {p2 : Int32} {o2 : Nat} (hk_o2 : kd o2 = 34) (ho : oL_chartedAt o1 p1 p2 o2 v x) {idx : Nat} (hml : Cond.methodLink own idx yL_chartedAt ∈ TT) (hls : ls.size = nL) (hsum : (rest.map fun v => v.category).sum ≤ 8) (hR : rmL_chartedAt.frames + 1 ≤ R.frames ∧ 8 + (5 + 11) + rmL_chartedAt.locals ≤ R.locals) (hcs : cells + 12 ≤ R.cells ∧ slots + 12 ≤ R.slots) (hdg : decode cc pc = .ok (.invokestatic idx, 3)) (kk : ∀ (d : Nat → Nat) (H1 : Heap) (locs1 : List Loc) (v1 : vSt) (x1 : gX), v1 = (fL_chartedAt o1 p1 p2 o2 v x).2.1 → x1 = (fL_chartedAt o1 p1 p2 o2 v x).2.2 → Hp G d v1 x1 H1 → va_S (gA G) s.heap H1 locs1 → W p l e R s m args below meth c H1 locs1 (cells + 12) (slots + 12) Q (F0 m (pc + 3) ls (.int (fL_chartedAt o1 p1 p2 o2 v x).1 :: rest))) : W p l e R s m args below meth c H locs cells slots Q (F0 m pc ls (.ref (ga G o2) :: .int p2 :: .int p1 :: .ref (ga G o1) :: rest)) := c_li (runLS (kp := 4) X.1 X.2.1 X.2.2.1 X.2.2.2.1 X.2.2.2.2.1 (mL_chartedAt l hst G da v x o1 hk_o1 p1 p2 o2 hk_o2 ho) pN_bl hml t_st_L_chartedAt t_ini_VernierDrawersLaw t_code_L_chartedAt ⟨by decide, by decide, by decide +kernel⟩ rfl rfl hR hcs (preN X hN hS hH) rfl hls rfl hsum hdg) hS (fun d9 H9 L9 hH9 => kk d9 H9 L9 _ _ rfl rfl hH9)
def fL_signalsOf (o1 : Nat) (p1 : Int32) (o2 : Nat) (v : vSt) (x : gX) : Int32 × vSt × gX := if (fX10_signalsOf o1 p1 v).1 = 0 then (let x4 : gX := xu x o2 (0 : Int32).toNatClampNeg (((fX10_signalsOf o1 p1 v).2 : Int32).toInt64); (0, v, x4)) else ((1, v, x))
def oL_signalsOf (o1 : Nat) (p1 : Int32) (o2 : Nat) (v : vSt) (x : gX) : Prop := (oX10_signalsOf o1 p1 v) ∧ (¬ ((fX10_signalsOf o1 p1 v).1 = 0) → ((fX10_signalsOf o1 p1 v).1 = 1))
abbrev rmL_signalsOf : Room := { frames := 8, cells := 6, slots := 6, locals := 132 }
theorem dL_signalsOf_0 : decode cL_signalsOf 0 = .ok (.aload_n 2, 1) := by decide +kernel
theorem dL_signalsOf_1 : decode cL_signalsOf 1 = .ok (.iconst 0, 1) := by decide +kernel
theorem dL_signalsOf_2 : decode cL_signalsOf 2 = .ok (.aload_n 0, 1) := by decide +kernel
theorem dL_signalsOf_3 : decode cL_signalsOf 3 = .ok (.iload_n 1, 1) := by decide +kernel
theorem dL_signalsOf_4 : decode cL_signalsOf 4 = .ok (.invokevirtual 156, 3) := by decide +kernel
theorem dL_signalsOf_7 : decode cL_signalsOf 7 = .ok (.i2l, 1) := by decide +kernel
theorem dL_signalsOf_8 : decode cL_signalsOf 8 = .ok (.lastore, 1) := by decide +kernel
theorem dL_signalsOf_9 : decode cL_signalsOf 9 = .ok (.goto 6, 3) := by decide +kernel
theorem dL_signalsOf_12 : decode cL_signalsOf 12 = .ok (.astore_n 3, 1) := by decide +kernel
theorem dL_signalsOf_13 : decode cL_signalsOf 13 = .ok (.iconst 1, 1) := by decide +kernel
theorem dL_signalsOf_14 : decode cL_signalsOf 14 = .ok (.ireturn, 1) := by decide +kernel
theorem dL_signalsOf_15 : decode cL_signalsOf 15 = .ok (.iconst 0, 1) := by decide +kernel
theorem dL_signalsOf_16 : decode cL_signalsOf 16 = .ok (.ireturn, 1) := by decide +kernel
set_option maxHeartbeats 8000000 in
set_option maxRecDepth 100000 in
theorem mL_signalsOf (l : Launch) (hst : l.stackTraces = false) (G : gG) (da : Nat → Nat) (v : vSt) (x : gX) (o1 : Nat) (hk_o1 : kd o1 = 10) (p1 : Int32) (o2 : Nat) (hk_o2 : kd o2 = 34) (ho : oL_signalsOf o1 p1 o2 v x) : LI l yL_signalsOf cL_signalsOf 4 [((0 : Nat), (9 : Nat), (12 : Nat), (13 : Nat))] rmL_signalsOf [.ref (ga G o1), .int p1, .ref (ga G o2)] G da v x 6 6 (fL_signalsOf o1 p1 o2 v x).1 (fL_signalsOf o1 p1 o2 v x).2.1 (fL_signalsOf o1 p1 o2 v x).2.2 := by
  refine gofL (by decide) rfl (Nat.le_of_ble_eq_true rfl) (fun p e s m args below meth c ls Q X hN htab hH hl E => ?_)
  have hx := X.1
  have hb := X.2.1
  have hown := X.2.2.2.1
  have hts := X.2.2.2.2.1
  have hS : va_S (gA G) s.heap s.heap [] := va_S.rf
  unfold oL_signalsOf at ho
  have hl : lv_has ls 4 [(0, .ref (ga G o1)), (1, .int p1), (2, .ref (ga G o2))] := hl
  refine lv_aload_n hx hb dL_signalsOf_0 rfl (lv_at hl 2 rfl) ?_
  refine lv_iconst (v := 0) hx hb dL_signalsOf_1 (by decide) ?_
  refine lv_aload_n hx hb dL_signalsOf_2 rfl (lv_at hl 0 rfl) ?_
  refine lv_iload_n hx hb dL_signalsOf_3 rfl (lv_at hl 1 rfl) ?_
  have hq1 := ho.1
  have ho := ho.2
  refine k_X10_signalsOf hst X hS hH hk_o1 hq1 t_ml_VernierDrawersLaw_156 hl.1 (Nat.le_of_ble_eq_true rfl) ⟨Nat.le_of_ble_eq_true rfl, Nat.le_of_ble_eq_true rfl⟩ ⟨(Nat.le_of_ble_eq_true rfl), (Nat.le_of_ble_eq_true rfl)⟩ dL_signalsOf_4 (fun c2 da ce9 q9 H locs hH hS g1 g2 g3 => ?_) (fun c2 da H locs hH hS => ?_)
  · have ho := ho c2
    have hq3 := ho
    refine t_c1 (k := 1) X htab rfl g1 g2 (hq3 ▸ g3) ?_
    refine lv_astore_n (lv' := [(3, .ref q9), (0, .ref (ga G o1)), (1, .int p1), (2, .ref (ga G o2))]) hx hb dL_signalsOf_12 rfl hl (by decide) rfl (fun ls hl => ?_)
    refine lv_iconst (v := 1) hx hb dL_signalsOf_13 (by decide) ?_
    exact E _ _ _ _ _ _ _ _ _ _ dL_signalsOf_14 (t31 ((fL_signalsOf.eq_1 _ _ _ _ _).trans ((if_neg c2).trans rfl))) (t32 ((fL_signalsOf.eq_1 _ _ _ _ _).trans ((if_neg c2).trans rfl))) (t33 ((fL_signalsOf.eq_1 _ _ _ _ _).trans ((if_neg c2).trans rfl))) hH hS (Nat.le_of_ble_eq_true rfl) (Nat.le_of_ble_eq_true rfl)
  · skip
    refine lv_i2l (v := ((fX10_signalsOf o1 p1 v).2 : Int32).toInt64) hx hb dL_signalsOf_7 rfl ?_
    refine last_34 X hH hS hk_o2 (i_in (by decide) (by decide)) dL_signalsOf_8 (fun H locs x4 ex4 hH hS => ?_)
    refine lv_goto (tgt := 15) hx hb dL_signalsOf_9 (by decide) ?_
    refine lv_iconst (v := 0) hx hb dL_signalsOf_15 (by decide) ?_
    replace ex4 := Eq.symm ex4
    subst ex4
    exact E _ _ _ _ _ _ _ _ _ _ dL_signalsOf_16 (t31 ((fL_signalsOf.eq_1 _ _ _ _ _).trans ((if_pos c2).trans rfl))) (t32 ((fL_signalsOf.eq_1 _ _ _ _ _).trans ((if_pos c2).trans rfl))) (t33 ((fL_signalsOf.eq_1 _ _ _ _ _).trans ((if_pos c2).trans rfl))) hH hS (Nat.le_of_ble_eq_true rfl) (Nat.le_of_ble_eq_true rfl)
theorem k_L_signalsOf {p : Program} {l : Launch} {e : Env} {R : Room} {s : State} {m : MethodId} {args : Array Value} {below : List Frame} {meth : Method} {c : Code} {H : Heap} {locs : List Loc} {cells slots : Nat} {Q : State → Prop} {cc : ByteArray} {pc nL : Nat} {ls : Array Slot} {rest : List Value} {G : gG} {own : String} {da : Nat → Nat} {v : vSt} {x : gX} (hst : l.stackTraces = false) (X : CX G p s m args c cc nL own) (hS : va_S (gA G) s.heap H locs) (hN : NC s) (hH : Hp G da v x H) {o1 : Nat} (hk_o1 : kd o1 = 10) {p1 : Int32} {o2 : Nat} (hk_o2 : kd o2 = 34) (ho : oL_signalsOf o1 p1 o2 v x) {idx : Nat} (hml : Cond.methodLink own idx yL_signalsOf ∈ TT) (hls : ls.size = nL) (hsum : (rest.map fun v => v.category).sum ≤ 8) (hR : rmL_signalsOf.frames + 1 ≤ R.frames ∧ 8 + (4 + 11) + rmL_signalsOf.locals ≤ R.locals) (hcs : cells + 6 ≤ R.cells ∧ slots + 6 ≤ R.slots) (hdg : decode cc pc = .ok (.invokestatic idx, 3)) (kk : ∀ (d : Nat → Nat) (H1 : Heap) (locs1 : List Loc) (v1 : vSt) (x1 : gX), v1 = (fL_signalsOf o1 p1 o2 v x).2.1 → x1 = (fL_signalsOf o1 p1 o2 v x).2.2 → Hp G d v1 x1 H1 → va_S (gA G) s.heap H1 locs1 → W p l e R s m args below meth c H1 locs1 (cells + 6) (slots + 6) Q (F0 m (pc + 3) ls (.int (fL_signalsOf o1 p1 o2 v x).1 :: rest))) : W p l e R s m args below meth c H locs cells slots Q (F0 m pc ls (.ref (ga G o2) :: .int p1 :: .ref (ga G o1) :: rest)) := c_li (runLS (kp := 3) X.1 X.2.1 X.2.2.1 X.2.2.2.1 X.2.2.2.2.1 (mL_signalsOf l hst G da v x o1 hk_o1 p1 o2 hk_o2 ho) pN_bl hml t_st_L_signalsOf t_ini_VernierDrawersLaw t_code_L_signalsOf ⟨by decide, by decide, by decide +kernel⟩ rfl rfl hR hcs (preN X hN hS hH) rfl hls rfl hsum hdg) hS (fun d9 H9 L9 hH9 => kk d9 H9 L9 _ _ rfl rfl hH9)
def fL_middleOf (o1 : Nat) (p1 : Int32) (o2 : Nat) (v : vSt) (x : gX) : Int32 × vSt × gX := if (fX10_middleOf o1 p1 v).1 = 0 then (let v4 : vSt := (fX10_middleOf o1 p1 v).2.2; let x7 : gX := xu x o2 (0 : Int32).toNatClampNeg (((fX10_middleOf o1 p1 v).2.1 : Int32).toInt64); (0, v4, x7)) else (let v4 : vSt := (fX10_middleOf o1 p1 v).2.2; if (fX10_middleOf o1 p1 v).1 = 1 then ((1, v4, x)) else ((2, v4, x)))

def kkL_middleOf (o1 : Nat) (p1 : Int32) (o2 : Nat) (v : vSt) (x : gX) : Nat := pot ((fL_middleOf o1 p1 o2 v x).2.1) - pot v + 36
def oL_middleOf (o1 : Nat) (p1 : Int32) (o2 : Nat) (v : vSt) (x : gX) : Prop := (oX10_middleOf o1 p1 v) ∧ ((0 + kkX10_middleOf o1 p1 v ≤ kkL_middleOf o1 p1 o2 v x) ∧ (¬ ((fX10_middleOf o1 p1 v).1 = 0) → (∀ v4 : vSt, v4 = ((fX10_middleOf o1 p1 v).2.2) → (¬ ((fX10_middleOf o1 p1 v).1 = 1) → ((fX10_middleOf o1 p1 v).1 = 3)))))
abbrev rmL_middleOf (o1 : Nat) (p1 : Int32) (o2 : Nat) (v : vSt) (x : gX) : Room := { frames := 9, cells := kkL_middleOf o1 p1 o2 v x, slots := kkL_middleOf o1 p1 o2 v x, locals := 154 }
theorem dL_middleOf_0 : decode cL_middleOf 0 = .ok (.aload_n 2, 1) := by decide +kernel
theorem dL_middleOf_1 : decode cL_middleOf 1 = .ok (.iconst 0, 1) := by decide +kernel
theorem dL_middleOf_2 : decode cL_middleOf 2 = .ok (.aload_n 0, 1) := by decide +kernel
theorem dL_middleOf_3 : decode cL_middleOf 3 = .ok (.iload_n 1, 1) := by decide +kernel
theorem dL_middleOf_4 : decode cL_middleOf 4 = .ok (.invokevirtual 159, 3) := by decide +kernel
theorem dL_middleOf_7 : decode cL_middleOf 7 = .ok (.i2l, 1) := by decide +kernel
theorem dL_middleOf_8 : decode cL_middleOf 8 = .ok (.lastore, 1) := by decide +kernel
theorem dL_middleOf_9 : decode cL_middleOf 9 = .ok (.goto 9, 3) := by decide +kernel
theorem dL_middleOf_12 : decode cL_middleOf 12 = .ok (.astore_n 3, 1) := by decide +kernel
theorem dL_middleOf_13 : decode cL_middleOf 13 = .ok (.iconst 1, 1) := by decide +kernel
theorem dL_middleOf_14 : decode cL_middleOf 14 = .ok (.ireturn, 1) := by decide +kernel
theorem dL_middleOf_15 : decode cL_middleOf 15 = .ok (.astore_n 3, 1) := by decide +kernel
theorem dL_middleOf_16 : decode cL_middleOf 16 = .ok (.iconst 2, 1) := by decide +kernel
theorem dL_middleOf_17 : decode cL_middleOf 17 = .ok (.ireturn, 1) := by decide +kernel
theorem dL_middleOf_18 : decode cL_middleOf 18 = .ok (.iconst 0, 1) := by decide +kernel
theorem dL_middleOf_19 : decode cL_middleOf 19 = .ok (.ireturn, 1) := by decide +kernel
set_option maxHeartbeats 8000000 in
set_option maxRecDepth 100000 in
theorem mL_middleOf (l : Launch) (hst : l.stackTraces = false) (G : gG) (da : Nat → Nat) (v : vSt) (x : gX) (o1 : Nat) (hk_o1 : kd o1 = 10) (p1 : Int32) (o2 : Nat) (hk_o2 : kd o2 = 34) (ho : oL_middleOf o1 p1 o2 v x) : LI l yL_middleOf cL_middleOf 4 [((0 : Nat), (9 : Nat), (12 : Nat), (13 : Nat)), ((0 : Nat), (9 : Nat), (15 : Nat), (85 : Nat))] (rmL_middleOf o1 p1 o2 v x) [.ref (ga G o1), .int p1, .ref (ga G o2)] G da v x (kkL_middleOf o1 p1 o2 v x) (kkL_middleOf o1 p1 o2 v x) (fL_middleOf o1 p1 o2 v x).1 (fL_middleOf o1 p1 o2 v x).2.1 (fL_middleOf o1 p1 o2 v x).2.2 := by
  refine gofL (by decide) rfl (Nat.le_of_ble_eq_true rfl) (fun p e s m args below meth c ls Q X hN htab hH hl E => ?_)
  have hx := X.1
  have hb := X.2.1
  have hown := X.2.2.2.1
  have hts := X.2.2.2.2.1
  have hS : va_S (gA G) s.heap s.heap [] := va_S.rf
  unfold oL_middleOf at ho
  have hl : lv_has ls 4 [(0, .ref (ga G o1)), (1, .int p1), (2, .ref (ga G o2))] := hl
  refine lv_aload_n hx hb dL_middleOf_0 rfl (lv_at hl 2 rfl) ?_
  refine lv_iconst (v := 0) hx hb dL_middleOf_1 (by decide) ?_
  refine lv_aload_n hx hb dL_middleOf_2 rfl (lv_at hl 0 rfl) ?_
  refine lv_iload_n hx hb dL_middleOf_3 rfl (lv_at hl 1 rfl) ?_
  have hq1 := ho.1
  have ho := ho.2
  have hq2 := ho.1
  have ho := ho.2
  refine k_X10_middleOf hst X hS hH hk_o1 hq1 t_ml_VernierDrawersLaw_159 hl.1 (Nat.le_of_ble_eq_true rfl) ⟨Nat.le_of_ble_eq_true rfl, Nat.le_of_ble_eq_true rfl⟩ ⟨hq2, hq2⟩ dL_middleOf_4 (fun c3 da ce9 q9 H locs v4 ev4 hH hS g1 g2 g3 => ?_) (fun c3 da H locs v4 ev4 hH hS => ?_)
  · have ho := ho c3
    have ho := ho v4 ev4
    refine (Decidable.em ((fX10_middleOf o1 p1 v).1 = 1)).elim (fun c5 => ?_) (fun c5 => ?_)
    · skip
      refine t_c1 (k := 1) X htab rfl g1 g2 (c5 ▸ g3) ?_
      refine lv_astore_n (lv' := [(3, .ref q9), (0, .ref (ga G o1)), (1, .int p1), (2, .ref (ga G o2))]) hx hb dL_middleOf_12 rfl hl (by decide) rfl (fun ls hl => ?_)
      refine lv_iconst (v := 1) hx hb dL_middleOf_13 (by decide) ?_
      replace ev4 := Eq.symm ev4
      subst ev4
      exact E _ _ _ _ _ _ _ _ _ _ dL_middleOf_14 (t31 ((fL_middleOf.eq_1 _ _ _ _ _).trans ((if_neg c3).trans ((if_pos c5).trans rfl)))) (t32 ((fL_middleOf.eq_1 _ _ _ _ _).trans ((if_neg c3).trans ((if_pos c5).trans rfl)))) (t33 ((fL_middleOf.eq_1 _ _ _ _ _).trans ((if_neg c3).trans ((if_pos c5).trans rfl)))) hH hS hq2 hq2
    · have ho := ho c5
      have hq6 := ho
      refine t_c2 (k := 3) X hN htab (by decide) rfl g1 g2 (hq6 ▸ g3) ?_
      refine lv_astore_n (lv' := [(3, .ref q9), (0, .ref (ga G o1)), (1, .int p1), (2, .ref (ga G o2))]) hx hb dL_middleOf_15 rfl hl (by decide) rfl (fun ls hl => ?_)
      refine lv_iconst (v := 2) hx hb dL_middleOf_16 (by decide) ?_
      replace ev4 := Eq.symm ev4
      subst ev4
      exact E _ _ _ _ _ _ _ _ _ _ dL_middleOf_17 (t31 ((fL_middleOf.eq_1 _ _ _ _ _).trans ((if_neg c3).trans ((if_neg c5).trans rfl)))) (t32 ((fL_middleOf.eq_1 _ _ _ _ _).trans ((if_neg c3).trans ((if_neg c5).trans rfl)))) (t33 ((fL_middleOf.eq_1 _ _ _ _ _).trans ((if_neg c3).trans ((if_neg c5).trans rfl)))) hH hS hq2 hq2
  · skip
    refine lv_i2l (v := ((fX10_middleOf o1 p1 v).2.1 : Int32).toInt64) hx hb dL_middleOf_7 rfl ?_
    refine last_34 X hH hS hk_o2 (i_in (by decide) (by decide)) dL_middleOf_8 (fun H locs x7 ex7 hH hS => ?_)
    refine lv_goto (tgt := 18) hx hb dL_middleOf_9 (by decide) ?_
    refine lv_iconst (v := 0) hx hb dL_middleOf_18 (by decide) ?_
    replace ev4 := Eq.symm ev4
    replace ex7 := Eq.symm ex7
    subst ev4 ex7
    exact E _ _ _ _ _ _ _ _ _ _ dL_middleOf_19 (t31 ((fL_middleOf.eq_1 _ _ _ _ _).trans ((if_pos c3).trans rfl))) (t32 ((fL_middleOf.eq_1 _ _ _ _ _).trans ((if_pos c3).trans rfl))) (t33 ((fL_middleOf.eq_1 _ _ _ _ _).trans ((if_pos c3).trans rfl))) hH hS hq2 hq2
theorem k_L_middleOf {p : Program} {l : Launch} {e : Env} {R : Room} {s : State} {m : MethodId} {args : Array Value} {below : List Frame} {meth : Method} {c : Code} {H : Heap} {locs : List Loc} {cells slots : Nat} {Q : State → Prop} {cc : ByteArray} {pc nL : Nat} {ls : Array Slot} {rest : List Value} {G : gG} {own : String} {da : Nat → Nat} {v : vSt} {x : gX} (hst : l.stackTraces = false) (X : CX G p s m args c cc nL own) (hS : va_S (gA G) s.heap H locs) (hN : NC s) (hH : Hp G da v x H) {o1 : Nat} (hk_o1 : kd o1 = 10) {p1 : Int32} {o2 : Nat} (hk_o2 : kd o2 = 34) (ho : oL_middleOf o1 p1 o2 v x) {idx : Nat} (hml : Cond.methodLink own idx yL_middleOf ∈ TT) (hls : ls.size = nL) (hsum : (rest.map fun v => v.category).sum ≤ 8) (hR : (rmL_middleOf o1 p1 o2 v x).frames + 1 ≤ R.frames ∧ 8 + (4 + 11) + (rmL_middleOf o1 p1 o2 v x).locals ≤ R.locals) (hcs : cells + (kkL_middleOf o1 p1 o2 v x) ≤ R.cells ∧ slots + (kkL_middleOf o1 p1 o2 v x) ≤ R.slots) (hdg : decode cc pc = .ok (.invokestatic idx, 3)) (kk : ∀ (d : Nat → Nat) (H1 : Heap) (locs1 : List Loc) (v1 : vSt) (x1 : gX), v1 = (fL_middleOf o1 p1 o2 v x).2.1 → x1 = (fL_middleOf o1 p1 o2 v x).2.2 → Hp G d v1 x1 H1 → va_S (gA G) s.heap H1 locs1 → W p l e R s m args below meth c H1 locs1 (cells + (kkL_middleOf o1 p1 o2 v x)) (slots + (kkL_middleOf o1 p1 o2 v x)) Q (F0 m (pc + 3) ls (.int (fL_middleOf o1 p1 o2 v x).1 :: rest))) : W p l e R s m args below meth c H locs cells slots Q (F0 m pc ls (.ref (ga G o2) :: .int p1 :: .ref (ga G o1) :: rest)) := c_li (runLS (kp := 3) X.1 X.2.1 X.2.2.1 X.2.2.2.1 X.2.2.2.2.1 (mL_middleOf l hst G da v x o1 hk_o1 p1 o2 hk_o2 ho) pN_bl hml t_st_L_middleOf t_ini_VernierDrawersLaw t_code_L_middleOf ⟨by decide, by decide, by decide +kernel⟩ rfl rfl hR hcs (preN X hN hS hH) rfl hls rfl hsum hdg) hS (fun d9 H9 L9 hH9 => kk d9 H9 L9 _ _ rfl rfl hH9)
def fL_middleByTaking (o1 : Nat) (p1 : Int32) (o2 : Nat) (v : vSt) (x : gX) : Int32 × vSt × gX := if (fX10_middleByTaking o1 p1 v).1 = 0 then (let v4 : vSt := (fX10_middleByTaking o1 p1 v).2.2; let x7 : gX := xu x o2 (0 : Int32).toNatClampNeg (((fX10_middleByTaking o1 p1 v).2.1 : Int32).toInt64); (0, v4, x7)) else (let v4 : vSt := (fX10_middleByTaking o1 p1 v).2.2; if (fX10_middleByTaking o1 p1 v).1 = 1 then ((1, v4, x)) else ((2, v4, x)))

def kkL_middleByTaking (o1 : Nat) (p1 : Int32) (o2 : Nat) (v : vSt) (x : gX) : Nat := pot ((fL_middleByTaking o1 p1 o2 v x).2.1) - pot v + 36
def oL_middleByTaking (o1 : Nat) (p1 : Int32) (o2 : Nat) (v : vSt) (x : gX) : Prop := (oX10_middleByTaking o1 p1 v) ∧ ((0 + kkX10_middleByTaking o1 p1 v ≤ kkL_middleByTaking o1 p1 o2 v x) ∧ (¬ ((fX10_middleByTaking o1 p1 v).1 = 0) → (∀ v4 : vSt, v4 = ((fX10_middleByTaking o1 p1 v).2.2) → (¬ ((fX10_middleByTaking o1 p1 v).1 = 1) → ((fX10_middleByTaking o1 p1 v).1 = 3)))))
abbrev rmL_middleByTaking (o1 : Nat) (p1 : Int32) (o2 : Nat) (v : vSt) (x : gX) : Room := { frames := 9, cells := kkL_middleByTaking o1 p1 o2 v x, slots := kkL_middleByTaking o1 p1 o2 v x, locals := 154 }
theorem dL_middleByTaking_0 : decode cL_middleByTaking 0 = .ok (.aload_n 2, 1) := by decide +kernel
theorem dL_middleByTaking_1 : decode cL_middleByTaking 1 = .ok (.iconst 0, 1) := by decide +kernel
theorem dL_middleByTaking_2 : decode cL_middleByTaking 2 = .ok (.aload_n 0, 1) := by decide +kernel
theorem dL_middleByTaking_3 : decode cL_middleByTaking 3 = .ok (.iload_n 1, 1) := by decide +kernel
theorem dL_middleByTaking_4 : decode cL_middleByTaking 4 = .ok (.invokevirtual 162, 3) := by decide +kernel
theorem dL_middleByTaking_7 : decode cL_middleByTaking 7 = .ok (.i2l, 1) := by decide +kernel
theorem dL_middleByTaking_8 : decode cL_middleByTaking 8 = .ok (.lastore, 1) := by decide +kernel
theorem dL_middleByTaking_9 : decode cL_middleByTaking 9 = .ok (.goto 9, 3) := by decide +kernel
theorem dL_middleByTaking_12 : decode cL_middleByTaking 12 = .ok (.astore_n 3, 1) := by decide +kernel
theorem dL_middleByTaking_13 : decode cL_middleByTaking 13 = .ok (.iconst 1, 1) := by decide +kernel
theorem dL_middleByTaking_14 : decode cL_middleByTaking 14 = .ok (.ireturn, 1) := by decide +kernel
theorem dL_middleByTaking_15 : decode cL_middleByTaking 15 = .ok (.astore_n 3, 1) := by decide +kernel
theorem dL_middleByTaking_16 : decode cL_middleByTaking 16 = .ok (.iconst 2, 1) := by decide +kernel
theorem dL_middleByTaking_17 : decode cL_middleByTaking 17 = .ok (.ireturn, 1) := by decide +kernel
theorem dL_middleByTaking_18 : decode cL_middleByTaking 18 = .ok (.iconst 0, 1) := by decide +kernel
theorem dL_middleByTaking_19 : decode cL_middleByTaking 19 = .ok (.ireturn, 1) := by decide +kernel
set_option maxHeartbeats 8000000 in
set_option maxRecDepth 100000 in
theorem mL_middleByTaking (l : Launch) (hst : l.stackTraces = false) (G : gG) (da : Nat → Nat) (v : vSt) (x : gX) (o1 : Nat) (hk_o1 : kd o1 = 10) (p1 : Int32) (o2 : Nat) (hk_o2 : kd o2 = 34) (ho : oL_middleByTaking o1 p1 o2 v x) : LI l yL_middleByTaking cL_middleByTaking 4 [((0 : Nat), (9 : Nat), (12 : Nat), (13 : Nat)), ((0 : Nat), (9 : Nat), (15 : Nat), (85 : Nat))] (rmL_middleByTaking o1 p1 o2 v x) [.ref (ga G o1), .int p1, .ref (ga G o2)] G da v x (kkL_middleByTaking o1 p1 o2 v x) (kkL_middleByTaking o1 p1 o2 v x) (fL_middleByTaking o1 p1 o2 v x).1 (fL_middleByTaking o1 p1 o2 v x).2.1 (fL_middleByTaking o1 p1 o2 v x).2.2 := by
  refine gofL (by decide) rfl (Nat.le_of_ble_eq_true rfl) (fun p e s m args below meth c ls Q X hN htab hH hl E => ?_)
  have hx := X.1
  have hb := X.2.1
  have hown := X.2.2.2.1
  have hts := X.2.2.2.2.1
  have hS : va_S (gA G) s.heap s.heap [] := va_S.rf
  unfold oL_middleByTaking at ho
  have hl : lv_has ls 4 [(0, .ref (ga G o1)), (1, .int p1), (2, .ref (ga G o2))] := hl
  refine lv_aload_n hx hb dL_middleByTaking_0 rfl (lv_at hl 2 rfl) ?_
  refine lv_iconst (v := 0) hx hb dL_middleByTaking_1 (by decide) ?_
  refine lv_aload_n hx hb dL_middleByTaking_2 rfl (lv_at hl 0 rfl) ?_
  refine lv_iload_n hx hb dL_middleByTaking_3 rfl (lv_at hl 1 rfl) ?_
  have hq1 := ho.1
  have ho := ho.2
  have hq2 := ho.1
  have ho := ho.2
  refine k_X10_middleByTaking hst X hS hH hk_o1 hq1 t_ml_VernierDrawersLaw_162 hl.1 (Nat.le_of_ble_eq_true rfl) ⟨Nat.le_of_ble_eq_true rfl, Nat.le_of_ble_eq_true rfl⟩ ⟨hq2, hq2⟩ dL_middleByTaking_4 (fun c3 da ce9 q9 H locs v4 ev4 hH hS g1 g2 g3 => ?_) (fun c3 da H locs v4 ev4 hH hS => ?_)
  · have ho := ho c3
    have ho := ho v4 ev4
    refine (Decidable.em ((fX10_middleByTaking o1 p1 v).1 = 1)).elim (fun c5 => ?_) (fun c5 => ?_)
    · skip
      refine t_c1 (k := 1) X htab rfl g1 g2 (c5 ▸ g3) ?_
      refine lv_astore_n (lv' := [(3, .ref q9), (0, .ref (ga G o1)), (1, .int p1), (2, .ref (ga G o2))]) hx hb dL_middleByTaking_12 rfl hl (by decide) rfl (fun ls hl => ?_)
      refine lv_iconst (v := 1) hx hb dL_middleByTaking_13 (by decide) ?_
      replace ev4 := Eq.symm ev4
      subst ev4
      exact E _ _ _ _ _ _ _ _ _ _ dL_middleByTaking_14 (t31 ((fL_middleByTaking.eq_1 _ _ _ _ _).trans ((if_neg c3).trans ((if_pos c5).trans rfl)))) (t32 ((fL_middleByTaking.eq_1 _ _ _ _ _).trans ((if_neg c3).trans ((if_pos c5).trans rfl)))) (t33 ((fL_middleByTaking.eq_1 _ _ _ _ _).trans ((if_neg c3).trans ((if_pos c5).trans rfl)))) hH hS hq2 hq2
    · have ho := ho c5
      have hq6 := ho
      refine t_c2 (k := 3) X hN htab (by decide) rfl g1 g2 (hq6 ▸ g3) ?_
      refine lv_astore_n (lv' := [(3, .ref q9), (0, .ref (ga G o1)), (1, .int p1), (2, .ref (ga G o2))]) hx hb dL_middleByTaking_15 rfl hl (by decide) rfl (fun ls hl => ?_)
      refine lv_iconst (v := 2) hx hb dL_middleByTaking_16 (by decide) ?_
      replace ev4 := Eq.symm ev4
      subst ev4
      exact E _ _ _ _ _ _ _ _ _ _ dL_middleByTaking_17 (t31 ((fL_middleByTaking.eq_1 _ _ _ _ _).trans ((if_neg c3).trans ((if_neg c5).trans rfl)))) (t32 ((fL_middleByTaking.eq_1 _ _ _ _ _).trans ((if_neg c3).trans ((if_neg c5).trans rfl)))) (t33 ((fL_middleByTaking.eq_1 _ _ _ _ _).trans ((if_neg c3).trans ((if_neg c5).trans rfl)))) hH hS hq2 hq2
  · skip
    refine lv_i2l (v := ((fX10_middleByTaking o1 p1 v).2.1 : Int32).toInt64) hx hb dL_middleByTaking_7 rfl ?_
    refine last_34 X hH hS hk_o2 (i_in (by decide) (by decide)) dL_middleByTaking_8 (fun H locs x7 ex7 hH hS => ?_)
    refine lv_goto (tgt := 18) hx hb dL_middleByTaking_9 (by decide) ?_
    refine lv_iconst (v := 0) hx hb dL_middleByTaking_18 (by decide) ?_
    replace ev4 := Eq.symm ev4
    replace ex7 := Eq.symm ex7
    subst ev4 ex7
    exact E _ _ _ _ _ _ _ _ _ _ dL_middleByTaking_19 (t31 ((fL_middleByTaking.eq_1 _ _ _ _ _).trans ((if_pos c3).trans rfl))) (t32 ((fL_middleByTaking.eq_1 _ _ _ _ _).trans ((if_pos c3).trans rfl))) (t33 ((fL_middleByTaking.eq_1 _ _ _ _ _).trans ((if_pos c3).trans rfl))) hH hS hq2 hq2
theorem k_L_middleByTaking {p : Program} {l : Launch} {e : Env} {R : Room} {s : State} {m : MethodId} {args : Array Value} {below : List Frame} {meth : Method} {c : Code} {H : Heap} {locs : List Loc} {cells slots : Nat} {Q : State → Prop} {cc : ByteArray} {pc nL : Nat} {ls : Array Slot} {rest : List Value} {G : gG} {own : String} {da : Nat → Nat} {v : vSt} {x : gX} (hst : l.stackTraces = false) (X : CX G p s m args c cc nL own) (hS : va_S (gA G) s.heap H locs) (hN : NC s) (hH : Hp G da v x H) {o1 : Nat} (hk_o1 : kd o1 = 10) {p1 : Int32} {o2 : Nat} (hk_o2 : kd o2 = 34) (ho : oL_middleByTaking o1 p1 o2 v x) {idx : Nat} (hml : Cond.methodLink own idx yL_middleByTaking ∈ TT) (hls : ls.size = nL) (hsum : (rest.map fun v => v.category).sum ≤ 8) (hR : (rmL_middleByTaking o1 p1 o2 v x).frames + 1 ≤ R.frames ∧ 8 + (4 + 11) + (rmL_middleByTaking o1 p1 o2 v x).locals ≤ R.locals) (hcs : cells + (kkL_middleByTaking o1 p1 o2 v x) ≤ R.cells ∧ slots + (kkL_middleByTaking o1 p1 o2 v x) ≤ R.slots) (hdg : decode cc pc = .ok (.invokestatic idx, 3)) (kk : ∀ (d : Nat → Nat) (H1 : Heap) (locs1 : List Loc) (v1 : vSt) (x1 : gX), v1 = (fL_middleByTaking o1 p1 o2 v x).2.1 → x1 = (fL_middleByTaking o1 p1 o2 v x).2.2 → Hp G d v1 x1 H1 → va_S (gA G) s.heap H1 locs1 → W p l e R s m args below meth c H1 locs1 (cells + (kkL_middleByTaking o1 p1 o2 v x)) (slots + (kkL_middleByTaking o1 p1 o2 v x)) Q (F0 m (pc + 3) ls (.int (fL_middleByTaking o1 p1 o2 v x).1 :: rest))) : W p l e R s m args below meth c H locs cells slots Q (F0 m pc ls (.ref (ga G o2) :: .int p1 :: .ref (ga G o1) :: rest)) := c_li (runLS (kp := 3) X.1 X.2.1 X.2.2.1 X.2.2.2.1 X.2.2.2.2.1 (mL_middleByTaking l hst G da v x o1 hk_o1 p1 o2 hk_o2 ho) pN_bl hml t_st_L_middleByTaking t_ini_VernierDrawersLaw t_code_L_middleByTaking ⟨by decide, by decide, by decide +kernel⟩ rfl rfl hR hcs (preN X hN hS hH) rfl hls rfl hsum hdg) hS (fun d9 H9 L9 hH9 => kk d9 H9 L9 _ _ rfl rfl hH9)
def fL_spreadOf (o1 : Nat) (p1 : Int32) (o2 : Nat) (v : vSt) (x : gX) : Int32 × vSt × gX := if (fX10_spreadOf o1 p1 v).1 = 0 then (let x5 : gX := xu x o2 (0 : Int32).toNatClampNeg (((fX10_spreadOf o1 p1 v).2 : Int32).toInt64); (0, v, x5)) else (if (fX10_spreadOf o1 p1 v).1 = 1 then ((1, v, x)) else ((2, v, x)))
def oL_spreadOf (o1 : Nat) (p1 : Int32) (o2 : Nat) (v : vSt) (x : gX) : Prop := (oX10_spreadOf o1 p1 v) ∧ (¬ ((fX10_spreadOf o1 p1 v).1 = 0) → (¬ ((fX10_spreadOf o1 p1 v).1 = 1) → ((fX10_spreadOf o1 p1 v).1 = 3)))
abbrev rmL_spreadOf : Room := { frames := 9, cells := 12, slots := 12, locals := 154 }
theorem dL_spreadOf_0 : decode cL_spreadOf 0 = .ok (.aload_n 2, 1) := by decide +kernel
theorem dL_spreadOf_1 : decode cL_spreadOf 1 = .ok (.iconst 0, 1) := by decide +kernel
theorem dL_spreadOf_2 : decode cL_spreadOf 2 = .ok (.aload_n 0, 1) := by decide +kernel
theorem dL_spreadOf_3 : decode cL_spreadOf 3 = .ok (.iload_n 1, 1) := by decide +kernel
theorem dL_spreadOf_4 : decode cL_spreadOf 4 = .ok (.invokevirtual 165, 3) := by decide +kernel
theorem dL_spreadOf_7 : decode cL_spreadOf 7 = .ok (.i2l, 1) := by decide +kernel
theorem dL_spreadOf_8 : decode cL_spreadOf 8 = .ok (.lastore, 1) := by decide +kernel
theorem dL_spreadOf_9 : decode cL_spreadOf 9 = .ok (.goto 9, 3) := by decide +kernel
theorem dL_spreadOf_12 : decode cL_spreadOf 12 = .ok (.astore_n 3, 1) := by decide +kernel
theorem dL_spreadOf_13 : decode cL_spreadOf 13 = .ok (.iconst 1, 1) := by decide +kernel
theorem dL_spreadOf_14 : decode cL_spreadOf 14 = .ok (.ireturn, 1) := by decide +kernel
theorem dL_spreadOf_15 : decode cL_spreadOf 15 = .ok (.astore_n 3, 1) := by decide +kernel
theorem dL_spreadOf_16 : decode cL_spreadOf 16 = .ok (.iconst 2, 1) := by decide +kernel
theorem dL_spreadOf_17 : decode cL_spreadOf 17 = .ok (.ireturn, 1) := by decide +kernel
theorem dL_spreadOf_18 : decode cL_spreadOf 18 = .ok (.iconst 0, 1) := by decide +kernel
theorem dL_spreadOf_19 : decode cL_spreadOf 19 = .ok (.ireturn, 1) := by decide +kernel
set_option maxHeartbeats 8000000 in
set_option maxRecDepth 100000 in
theorem mL_spreadOf (l : Launch) (hst : l.stackTraces = false) (G : gG) (da : Nat → Nat) (v : vSt) (x : gX) (o1 : Nat) (hk_o1 : kd o1 = 10) (p1 : Int32) (o2 : Nat) (hk_o2 : kd o2 = 34) (ho : oL_spreadOf o1 p1 o2 v x) : LI l yL_spreadOf cL_spreadOf 4 [((0 : Nat), (9 : Nat), (12 : Nat), (13 : Nat)), ((0 : Nat), (9 : Nat), (15 : Nat), (85 : Nat))] rmL_spreadOf [.ref (ga G o1), .int p1, .ref (ga G o2)] G da v x 12 12 (fL_spreadOf o1 p1 o2 v x).1 (fL_spreadOf o1 p1 o2 v x).2.1 (fL_spreadOf o1 p1 o2 v x).2.2 := by
  refine gofL (by decide) rfl (Nat.le_of_ble_eq_true rfl) (fun p e s m args below meth c ls Q X hN htab hH hl E => ?_)
  have hx := X.1
  have hb := X.2.1
  have hown := X.2.2.2.1
  have hts := X.2.2.2.2.1
  have hS : va_S (gA G) s.heap s.heap [] := va_S.rf
  unfold oL_spreadOf at ho
  have hl : lv_has ls 4 [(0, .ref (ga G o1)), (1, .int p1), (2, .ref (ga G o2))] := hl
  refine lv_aload_n hx hb dL_spreadOf_0 rfl (lv_at hl 2 rfl) ?_
  refine lv_iconst (v := 0) hx hb dL_spreadOf_1 (by decide) ?_
  refine lv_aload_n hx hb dL_spreadOf_2 rfl (lv_at hl 0 rfl) ?_
  refine lv_iload_n hx hb dL_spreadOf_3 rfl (lv_at hl 1 rfl) ?_
  have hq1 := ho.1
  have ho := ho.2
  refine k_X10_spreadOf hst X hS hH hk_o1 hq1 t_ml_VernierDrawersLaw_165 hl.1 (Nat.le_of_ble_eq_true rfl) ⟨Nat.le_of_ble_eq_true rfl, Nat.le_of_ble_eq_true rfl⟩ ⟨(Nat.le_of_ble_eq_true rfl), (Nat.le_of_ble_eq_true rfl)⟩ dL_spreadOf_4 (fun c2 da ce9 q9 H locs hH hS g1 g2 g3 => ?_) (fun c2 da H locs hH hS => ?_)
  · have ho := ho c2
    refine (Decidable.em ((fX10_spreadOf o1 p1 v).1 = 1)).elim (fun c3 => ?_) (fun c3 => ?_)
    · skip
      refine t_c1 (k := 1) X htab rfl g1 g2 (c3 ▸ g3) ?_
      refine lv_astore_n (lv' := [(3, .ref q9), (0, .ref (ga G o1)), (1, .int p1), (2, .ref (ga G o2))]) hx hb dL_spreadOf_12 rfl hl (by decide) rfl (fun ls hl => ?_)
      refine lv_iconst (v := 1) hx hb dL_spreadOf_13 (by decide) ?_
      exact E _ _ _ _ _ _ _ _ _ _ dL_spreadOf_14 (t31 ((fL_spreadOf.eq_1 _ _ _ _ _).trans ((if_neg c2).trans ((if_pos c3).trans rfl)))) (t32 ((fL_spreadOf.eq_1 _ _ _ _ _).trans ((if_neg c2).trans ((if_pos c3).trans rfl)))) (t33 ((fL_spreadOf.eq_1 _ _ _ _ _).trans ((if_neg c2).trans ((if_pos c3).trans rfl)))) hH hS (Nat.le_of_ble_eq_true rfl) (Nat.le_of_ble_eq_true rfl)
    · have ho := ho c3
      have hq4 := ho
      refine t_c2 (k := 3) X hN htab (by decide) rfl g1 g2 (hq4 ▸ g3) ?_
      refine lv_astore_n (lv' := [(3, .ref q9), (0, .ref (ga G o1)), (1, .int p1), (2, .ref (ga G o2))]) hx hb dL_spreadOf_15 rfl hl (by decide) rfl (fun ls hl => ?_)
      refine lv_iconst (v := 2) hx hb dL_spreadOf_16 (by decide) ?_
      exact E _ _ _ _ _ _ _ _ _ _ dL_spreadOf_17 (t31 ((fL_spreadOf.eq_1 _ _ _ _ _).trans ((if_neg c2).trans ((if_neg c3).trans rfl)))) (t32 ((fL_spreadOf.eq_1 _ _ _ _ _).trans ((if_neg c2).trans ((if_neg c3).trans rfl)))) (t33 ((fL_spreadOf.eq_1 _ _ _ _ _).trans ((if_neg c2).trans ((if_neg c3).trans rfl)))) hH hS (Nat.le_of_ble_eq_true rfl) (Nat.le_of_ble_eq_true rfl)
  · skip
    refine lv_i2l (v := ((fX10_spreadOf o1 p1 v).2 : Int32).toInt64) hx hb dL_spreadOf_7 rfl ?_
    refine last_34 X hH hS hk_o2 (i_in (by decide) (by decide)) dL_spreadOf_8 (fun H locs x5 ex5 hH hS => ?_)
    refine lv_goto (tgt := 18) hx hb dL_spreadOf_9 (by decide) ?_
    refine lv_iconst (v := 0) hx hb dL_spreadOf_18 (by decide) ?_
    replace ex5 := Eq.symm ex5
    subst ex5
    exact E _ _ _ _ _ _ _ _ _ _ dL_spreadOf_19 (t31 ((fL_spreadOf.eq_1 _ _ _ _ _).trans ((if_pos c2).trans rfl))) (t32 ((fL_spreadOf.eq_1 _ _ _ _ _).trans ((if_pos c2).trans rfl))) (t33 ((fL_spreadOf.eq_1 _ _ _ _ _).trans ((if_pos c2).trans rfl))) hH hS (Nat.le_of_ble_eq_true rfl) (Nat.le_of_ble_eq_true rfl)
theorem k_L_spreadOf {p : Program} {l : Launch} {e : Env} {R : Room} {s : State} {m : MethodId} {args : Array Value} {below : List Frame} {meth : Method} {c : Code} {H : Heap} {locs : List Loc} {cells slots : Nat} {Q : State → Prop} {cc : ByteArray} {pc nL : Nat} {ls : Array Slot} {rest : List Value} {G : gG} {own : String} {da : Nat → Nat} {v : vSt} {x : gX} (hst : l.stackTraces = false) (X : CX G p s m args c cc nL own) (hS : va_S (gA G) s.heap H locs) (hN : NC s) (hH : Hp G da v x H) {o1 : Nat} (hk_o1 : kd o1 = 10) {p1 : Int32} {o2 : Nat} (hk_o2 : kd o2 = 34) (ho : oL_spreadOf o1 p1 o2 v x) {idx : Nat} (hml : Cond.methodLink own idx yL_spreadOf ∈ TT) (hls : ls.size = nL) (hsum : (rest.map fun v => v.category).sum ≤ 8) (hR : rmL_spreadOf.frames + 1 ≤ R.frames ∧ 8 + (4 + 11) + rmL_spreadOf.locals ≤ R.locals) (hcs : cells + 12 ≤ R.cells ∧ slots + 12 ≤ R.slots) (hdg : decode cc pc = .ok (.invokestatic idx, 3)) (kk : ∀ (d : Nat → Nat) (H1 : Heap) (locs1 : List Loc) (v1 : vSt) (x1 : gX), v1 = (fL_spreadOf o1 p1 o2 v x).2.1 → x1 = (fL_spreadOf o1 p1 o2 v x).2.2 → Hp G d v1 x1 H1 → va_S (gA G) s.heap H1 locs1 → W p l e R s m args below meth c H1 locs1 (cells + 12) (slots + 12) Q (F0 m (pc + 3) ls (.int (fL_spreadOf o1 p1 o2 v x).1 :: rest))) : W p l e R s m args below meth c H locs cells slots Q (F0 m pc ls (.ref (ga G o2) :: .int p1 :: .ref (ga G o1) :: rest)) := c_li (runLS (kp := 3) X.1 X.2.1 X.2.2.1 X.2.2.2.1 X.2.2.2.2.1 (mL_spreadOf l hst G da v x o1 hk_o1 p1 o2 hk_o2 ho) pN_bl hml t_st_L_spreadOf t_ini_VernierDrawersLaw t_code_L_spreadOf ⟨by decide, by decide, by decide +kernel⟩ rfl rfl hR hcs (preN X hN hS hH) rfl hls rfl hsum hdg) hS (fun d9 H9 L9 hH9 => kk d9 H9 L9 _ _ rfl rfl hH9)
def fL_meanOf (o1 : Nat) (p1 : Int32) (o2 : Nat) (v : vSt) (x : gX) : Int32 × vSt × gX := if (fX10_meanOf o1 p1 v).1 = 0 then (let x6 : gX := xd x (0 : Int32).toNatClampNeg (FP.f2d ((fX10_meanOf o1 p1 v).2)); (0, v, x6)) else (if (fX10_meanOf o1 p1 v).1 = 1 then ((1, v, x)) else ((2, v, x)))
def oL_meanOf (o1 : Nat) (p1 : Int32) (o2 : Nat) (v : vSt) (x : gX) : Prop := (oX10_meanOf o1 p1 v) ∧ ((((fX10_meanOf o1 p1 v).1 = 0) → (vf_n64 (FP.f2d ((fX10_meanOf o1 p1 v).2)))) ∧ (¬ ((fX10_meanOf o1 p1 v).1 = 0) → (¬ ((fX10_meanOf o1 p1 v).1 = 1) → ((fX10_meanOf o1 p1 v).1 = 3))))
abbrev rmL_meanOf : Room := { frames := 9, cells := 12, slots := 12, locals := 155 }
theorem dL_meanOf_0 : decode cL_meanOf 0 = .ok (.aload_n 2, 1) := by decide +kernel
theorem dL_meanOf_1 : decode cL_meanOf 1 = .ok (.iconst 0, 1) := by decide +kernel
theorem dL_meanOf_2 : decode cL_meanOf 2 = .ok (.aload_n 0, 1) := by decide +kernel
theorem dL_meanOf_3 : decode cL_meanOf 3 = .ok (.iload_n 1, 1) := by decide +kernel
theorem dL_meanOf_4 : decode cL_meanOf 4 = .ok (.invokevirtual 168, 3) := by decide +kernel
theorem dL_meanOf_7 : decode cL_meanOf 7 = .ok (.f2d, 1) := by decide +kernel
theorem dL_meanOf_8 : decode cL_meanOf 8 = .ok (.dastore, 1) := by decide +kernel
theorem dL_meanOf_9 : decode cL_meanOf 9 = .ok (.goto 9, 3) := by decide +kernel
theorem dL_meanOf_12 : decode cL_meanOf 12 = .ok (.astore_n 3, 1) := by decide +kernel
theorem dL_meanOf_13 : decode cL_meanOf 13 = .ok (.iconst 1, 1) := by decide +kernel
theorem dL_meanOf_14 : decode cL_meanOf 14 = .ok (.ireturn, 1) := by decide +kernel
theorem dL_meanOf_15 : decode cL_meanOf 15 = .ok (.astore_n 3, 1) := by decide +kernel
theorem dL_meanOf_16 : decode cL_meanOf 16 = .ok (.iconst 2, 1) := by decide +kernel
theorem dL_meanOf_17 : decode cL_meanOf 17 = .ok (.ireturn, 1) := by decide +kernel
theorem dL_meanOf_18 : decode cL_meanOf 18 = .ok (.iconst 0, 1) := by decide +kernel
theorem dL_meanOf_19 : decode cL_meanOf 19 = .ok (.ireturn, 1) := by decide +kernel
set_option maxHeartbeats 8000000 in
set_option maxRecDepth 100000 in
theorem mL_meanOf (l : Launch) (hst : l.stackTraces = false) (G : gG) (da : Nat → Nat) (v : vSt) (x : gX) (o1 : Nat) (hk_o1 : kd o1 = 10) (p1 : Int32) (o2 : Nat) (hk_o2 : kd o2 = 35) (ho : oL_meanOf o1 p1 o2 v x) : LI l yL_meanOf cL_meanOf 4 [((0 : Nat), (9 : Nat), (12 : Nat), (13 : Nat)), ((0 : Nat), (9 : Nat), (15 : Nat), (85 : Nat))] rmL_meanOf [.ref (ga G o1), .int p1, .ref (ga G o2)] G da v x 12 12 (fL_meanOf o1 p1 o2 v x).1 (fL_meanOf o1 p1 o2 v x).2.1 (fL_meanOf o1 p1 o2 v x).2.2 := by
  refine gofL (by decide) rfl (Nat.le_of_ble_eq_true rfl) (fun p e s m args below meth c ls Q X hN htab hH hl E => ?_)
  have hx := X.1
  have hb := X.2.1
  have hown := X.2.2.2.1
  have hts := X.2.2.2.2.1
  have hS : va_S (gA G) s.heap s.heap [] := va_S.rf
  unfold oL_meanOf at ho
  have hl : lv_has ls 4 [(0, .ref (ga G o1)), (1, .int p1), (2, .ref (ga G o2))] := hl
  refine lv_aload_n hx hb dL_meanOf_0 rfl (lv_at hl 2 rfl) ?_
  refine lv_iconst (v := 0) hx hb dL_meanOf_1 (by decide) ?_
  refine lv_aload_n hx hb dL_meanOf_2 rfl (lv_at hl 0 rfl) ?_
  refine lv_iload_n hx hb dL_meanOf_3 rfl (lv_at hl 1 rfl) ?_
  have hq1 := ho.1
  have ho := ho.2
  refine k_X10_meanOf hst X hS hH hk_o1 hq1 t_ml_VernierDrawersLaw_168 hl.1 (Nat.le_of_ble_eq_true rfl) ⟨Nat.le_of_ble_eq_true rfl, Nat.le_of_ble_eq_true rfl⟩ ⟨(Nat.le_of_ble_eq_true rfl), (Nat.le_of_ble_eq_true rfl)⟩ dL_meanOf_4 (fun c2 da ce9 q9 H locs hH hS g1 g2 g3 => ?_) (fun c2 da H locs hH hS => ?_)
  · have ho := ho.2 c2
    refine (Decidable.em ((fX10_meanOf o1 p1 v).1 = 1)).elim (fun c3 => ?_) (fun c3 => ?_)
    · skip
      refine t_c1 (k := 1) X htab rfl g1 g2 (c3 ▸ g3) ?_
      refine lv_astore_n (lv' := [(3, .ref q9), (0, .ref (ga G o1)), (1, .int p1), (2, .ref (ga G o2))]) hx hb dL_meanOf_12 rfl hl (by decide) rfl (fun ls hl => ?_)
      refine lv_iconst (v := 1) hx hb dL_meanOf_13 (by decide) ?_
      exact E _ _ _ _ _ _ _ _ _ _ dL_meanOf_14 (t31 ((fL_meanOf.eq_1 _ _ _ _ _).trans ((if_neg c2).trans ((if_pos c3).trans rfl)))) (t32 ((fL_meanOf.eq_1 _ _ _ _ _).trans ((if_neg c2).trans ((if_pos c3).trans rfl)))) (t33 ((fL_meanOf.eq_1 _ _ _ _ _).trans ((if_neg c2).trans ((if_pos c3).trans rfl)))) hH hS (Nat.le_of_ble_eq_true rfl) (Nat.le_of_ble_eq_true rfl)
    · have ho := ho c3
      have hq4 := ho
      refine t_c2 (k := 3) X hN htab (by decide) rfl g1 g2 (hq4 ▸ g3) ?_
      refine lv_astore_n (lv' := [(3, .ref q9), (0, .ref (ga G o1)), (1, .int p1), (2, .ref (ga G o2))]) hx hb dL_meanOf_15 rfl hl (by decide) rfl (fun ls hl => ?_)
      refine lv_iconst (v := 2) hx hb dL_meanOf_16 (by decide) ?_
      exact E _ _ _ _ _ _ _ _ _ _ dL_meanOf_17 (t31 ((fL_meanOf.eq_1 _ _ _ _ _).trans ((if_neg c2).trans ((if_neg c3).trans rfl)))) (t32 ((fL_meanOf.eq_1 _ _ _ _ _).trans ((if_neg c2).trans ((if_neg c3).trans rfl)))) (t33 ((fL_meanOf.eq_1 _ _ _ _ _).trans ((if_neg c2).trans ((if_neg c3).trans rfl)))) hH hS (Nat.le_of_ble_eq_true rfl) (Nat.le_of_ble_eq_true rfl)
  · have ho := ho.1 c2
    have hq5 := ho
    refine lv_f2d hx hb dL_meanOf_7 hq5 ?_
    refine dast_35 X hH hS hk_o2 (i_in (by decide) (by decide)) dL_meanOf_8 (fun H locs x6 ex6 hH hS => ?_)
    refine lv_goto (tgt := 18) hx hb dL_meanOf_9 (by decide) ?_
    refine lv_iconst (v := 0) hx hb dL_meanOf_18 (by decide) ?_
    replace ex6 := Eq.symm ex6
    subst ex6
    exact E _ _ _ _ _ _ _ _ _ _ dL_meanOf_19 (t31 ((fL_meanOf.eq_1 _ _ _ _ _).trans ((if_pos c2).trans rfl))) (t32 ((fL_meanOf.eq_1 _ _ _ _ _).trans ((if_pos c2).trans rfl))) (t33 ((fL_meanOf.eq_1 _ _ _ _ _).trans ((if_pos c2).trans rfl))) hH hS (Nat.le_of_ble_eq_true rfl) (Nat.le_of_ble_eq_true rfl)
theorem k_L_meanOf {p : Program} {l : Launch} {e : Env} {R : Room} {s : State} {m : MethodId} {args : Array Value} {below : List Frame} {meth : Method} {c : Code} {H : Heap} {locs : List Loc} {cells slots : Nat} {Q : State → Prop} {cc : ByteArray} {pc nL : Nat} {ls : Array Slot} {rest : List Value} {G : gG} {own : String} {da : Nat → Nat} {v : vSt} {x : gX} (hst : l.stackTraces = false) (X : CX G p s m args c cc nL own) (hS : va_S (gA G) s.heap H locs) (hN : NC s) (hH : Hp G da v x H) {o1 : Nat} (hk_o1 : kd o1 = 10) {p1 : Int32} {o2 : Nat} (hk_o2 : kd o2 = 35) (ho : oL_meanOf o1 p1 o2 v x) {idx : Nat} (hml : Cond.methodLink own idx yL_meanOf ∈ TT) (hls : ls.size = nL) (hsum : (rest.map fun v => v.category).sum ≤ 8) (hR : rmL_meanOf.frames + 1 ≤ R.frames ∧ 8 + (4 + 11) + rmL_meanOf.locals ≤ R.locals) (hcs : cells + 12 ≤ R.cells ∧ slots + 12 ≤ R.slots) (hdg : decode cc pc = .ok (.invokestatic idx, 3)) (kk : ∀ (d : Nat → Nat) (H1 : Heap) (locs1 : List Loc) (v1 : vSt) (x1 : gX), v1 = (fL_meanOf o1 p1 o2 v x).2.1 → x1 = (fL_meanOf o1 p1 o2 v x).2.2 → Hp G d v1 x1 H1 → va_S (gA G) s.heap H1 locs1 → W p l e R s m args below meth c H1 locs1 (cells + 12) (slots + 12) Q (F0 m (pc + 3) ls (.int (fL_meanOf o1 p1 o2 v x).1 :: rest))) : W p l e R s m args below meth c H locs cells slots Q (F0 m pc ls (.ref (ga G o2) :: .int p1 :: .ref (ga G o1) :: rest)) := c_li (runLS (kp := 3) X.1 X.2.1 X.2.2.1 X.2.2.2.1 X.2.2.2.2.1 (mL_meanOf l hst G da v x o1 hk_o1 p1 o2 hk_o2 ho) pN_bl hml t_st_L_meanOf t_ini_VernierDrawersLaw t_code_L_meanOf ⟨by decide, by decide, by decide +kernel⟩ rfl rfl hR hcs (preN X hN hS hH) rfl hls rfl hsum hdg) hS (fun d9 H9 L9 hH9 => kk d9 H9 L9 _ _ rfl rfl hH9)
