/-! the law's wrappers -/
def fL_stretchOf (o1 : Nat) (p1 : Int32) (p2 : Int32) (o2 : Nat) (v : vSt) (x : gX) : Int32 × vSt × gX := if (fX10_stretchOf o1 p1 p2 v).1 = 0 then (let x4 : gX := xu x o2 (0 : Int32).toNatClampNeg (((fX10_stretchOf o1 p1 p2 v).2 : Int32).toInt64); (0, v, x4)) else ((1, v, x))
def oL_stretchOf (o1 : Nat) (p1 : Int32) (p2 : Int32) (o2 : Nat) (v : vSt) (x : gX) : Prop := (oX10_stretchOf o1 p1 p2 v) ∧ (¬ ((fX10_stretchOf o1 p1 p2 v).1 = 0) → ((fX10_stretchOf o1 p1 p2 v).1 = 1))
abbrev rmL_stretchOf : Room := { frames := 7, cells := 6, slots := 6, locals := 112 }
theorem dL_stretchOf_0 : decode cL_stretchOf 0 = .ok (.aload_n 3, 1) := by decide +kernel
theorem dL_stretchOf_1 : decode cL_stretchOf 1 = .ok (.iconst 0, 1) := by decide +kernel
theorem dL_stretchOf_2 : decode cL_stretchOf 2 = .ok (.aload_n 0, 1) := by decide +kernel
theorem dL_stretchOf_3 : decode cL_stretchOf 3 = .ok (.iload_n 1, 1) := by decide +kernel
theorem dL_stretchOf_4 : decode cL_stretchOf 4 = .ok (.iload_n 2, 1) := by decide +kernel
theorem dL_stretchOf_5 : decode cL_stretchOf 5 = .ok (.invokevirtual 79, 3) := by decide +kernel
theorem dL_stretchOf_8 : decode cL_stretchOf 8 = .ok (.i2l, 1) := by decide +kernel
theorem dL_stretchOf_9 : decode cL_stretchOf 9 = .ok (.lastore, 1) := by decide +kernel
theorem dL_stretchOf_10 : decode cL_stretchOf 10 = .ok (.goto 7, 3) := by decide +kernel
theorem dL_stretchOf_13 : decode cL_stretchOf 13 = .ok (.astore 4, 2) := by decide +kernel
theorem dL_stretchOf_15 : decode cL_stretchOf 15 = .ok (.iconst 1, 1) := by decide +kernel
theorem dL_stretchOf_16 : decode cL_stretchOf 16 = .ok (.ireturn, 1) := by decide +kernel
theorem dL_stretchOf_17 : decode cL_stretchOf 17 = .ok (.iconst 0, 1) := by decide +kernel
theorem dL_stretchOf_18 : decode cL_stretchOf 18 = .ok (.ireturn, 1) := by decide +kernel
set_option maxHeartbeats 8000000 in
set_option maxRecDepth 100000 in
theorem mL_stretchOf (l : Launch) (hst : l.stackTraces = false) (G : gG) (da : Nat → Nat) (v : vSt) (x : gX) (o1 : Nat) (hk_o1 : kd o1 = 10) (p1 : Int32) (p2 : Int32) (o2 : Nat) (hk_o2 : kd o2 = 34) (ho : oL_stretchOf o1 p1 p2 o2 v x) : LI l yL_stretchOf cL_stretchOf 5 [((0 : Nat), (10 : Nat), (13 : Nat), (13 : Nat))] rmL_stretchOf [.ref (ga G o1), .int p1, .int p2, .ref (ga G o2)] G da v x 6 6 (fL_stretchOf o1 p1 p2 o2 v x).1 (fL_stretchOf o1 p1 p2 o2 v x).2.1 (fL_stretchOf o1 p1 p2 o2 v x).2.2 := by
  refine gofL (by decide) rfl (Nat.le_of_ble_eq_true rfl) (fun p e s m args below meth c ls Q X hN htab hH hl E => ?_)
  have hx := X.1
  have hb := X.2.1
  have hown := X.2.2.2.1
  have hts := X.2.2.2.2.1
  have hS : va_S (gA G) s.heap s.heap [] := va_S.rf
  unfold oL_stretchOf at ho
  have hl : lv_has ls 5 [(0, .ref (ga G o1)), (1, .int p1), (2, .int p2), (3, .ref (ga G o2))] := hl
  refine lv_aload_n hx hb dL_stretchOf_0 rfl (lv_at hl 3 rfl) ?_
  refine lv_iconst (v := 0) hx hb dL_stretchOf_1 (by decide) ?_
  refine lv_aload_n hx hb dL_stretchOf_2 rfl (lv_at hl 0 rfl) ?_
  refine lv_iload_n hx hb dL_stretchOf_3 rfl (lv_at hl 1 rfl) ?_
  refine lv_iload_n hx hb dL_stretchOf_4 rfl (lv_at hl 2 rfl) ?_
  have hq1 := ho.1
  have ho := ho.2
  refine k_X10_stretchOf hst X hS hH hk_o1 hq1 t_ml_VernierDrawersLaw_79 hl.1 (Nat.le_of_ble_eq_true rfl) ⟨Nat.le_of_ble_eq_true rfl, Nat.le_of_ble_eq_true rfl⟩ ⟨(Nat.le_of_ble_eq_true rfl), (Nat.le_of_ble_eq_true rfl)⟩ dL_stretchOf_5 (fun c2 da ce9 q9 H locs hH hS g1 g2 g3 => ?_) (fun c2 da H locs hH hS => ?_)
  · have ho := ho c2
    have hq3 := ho
    refine t_c1 (k := 1) X htab rfl g1 g2 (hq3 ▸ g3) ?_
    refine lv_astore (lv' := [(4, .ref q9), (0, .ref (ga G o1)), (1, .int p1), (2, .int p2), (3, .ref (ga G o2))]) hx hb dL_stretchOf_13 hl (by decide) rfl (fun ls hl => ?_)
    refine lv_iconst (v := 1) hx hb dL_stretchOf_15 (by decide) ?_
    exact E _ _ _ _ _ _ _ _ _ _ dL_stretchOf_16 (t31 ((fL_stretchOf.eq_1 _ _ _ _ _ _).trans ((if_neg c2).trans rfl))) (t32 ((fL_stretchOf.eq_1 _ _ _ _ _ _).trans ((if_neg c2).trans rfl))) (t33 ((fL_stretchOf.eq_1 _ _ _ _ _ _).trans ((if_neg c2).trans rfl))) hH hS (Nat.le_of_ble_eq_true rfl) (Nat.le_of_ble_eq_true rfl)
  · skip
    refine lv_i2l (v := ((fX10_stretchOf o1 p1 p2 v).2 : Int32).toInt64) hx hb dL_stretchOf_8 rfl ?_
    refine last_34 X hH hS hk_o2 (i_in (by decide) (by decide)) dL_stretchOf_9 (fun H locs x4 ex4 hH hS => ?_)
    refine lv_goto (tgt := 17) hx hb dL_stretchOf_10 (by decide) ?_
    refine lv_iconst (v := 0) hx hb dL_stretchOf_17 (by decide) ?_
    replace ex4 := Eq.symm ex4
    subst ex4
    exact E _ _ _ _ _ _ _ _ _ _ dL_stretchOf_18 (t31 ((fL_stretchOf.eq_1 _ _ _ _ _ _).trans ((if_pos c2).trans rfl))) (t32 ((fL_stretchOf.eq_1 _ _ _ _ _ _).trans ((if_pos c2).trans rfl))) (t33 ((fL_stretchOf.eq_1 _ _ _ _ _ _).trans ((if_pos c2).trans rfl))) hH hS (Nat.le_of_ble_eq_true rfl) (Nat.le_of_ble_eq_true rfl)
theorem k_L_stretchOf {p : Program} {l : Launch} {e : Env} {R : Room} {s : State} {m : MethodId} {args : Array Value} {below : List Frame} {meth : Method} {c : Code} {H : Heap} {locs : List Loc} {cells slots : Nat} {Q : State → Prop} {cc : ByteArray} {pc nL : Nat} {ls : Array Slot} {rest : List Value} {G : gG} {own : String} {da : Nat → Nat} {v : vSt} {x : gX} (hst : l.stackTraces = false) (X : CX G p s m args c cc nL own) (hS : va_S (gA G) s.heap H locs) (hN : NC s) (hH : Hp G da v x H) {o1 : Nat} (hk_o1 : kd o1 = 10) {p1 : Int32} {p2 : Int32} {o2 : Nat} (hk_o2 : kd o2 = 34) (ho : oL_stretchOf o1 p1 p2 o2 v x) {idx : Nat} (hml : Cond.methodLink own idx yL_stretchOf ∈ TT) (hls : ls.size = nL) (hsum : (rest.map fun v => v.category).sum ≤ 8) (hR : rmL_stretchOf.frames + 1 ≤ R.frames ∧ 8 + (5 + 11) + rmL_stretchOf.locals ≤ R.locals) (hcs : cells + 6 ≤ R.cells ∧ slots + 6 ≤ R.slots) (hdg : decode cc pc = .ok (.invokestatic idx, 3)) (kk : ∀ (d : Nat → Nat) (H1 : Heap) (locs1 : List Loc) (v1 : vSt) (x1 : gX), v1 = (fL_stretchOf o1 p1 p2 o2 v x).2.1 → x1 = (fL_stretchOf o1 p1 p2 o2 v x).2.2 → Hp G d v1 x1 H1 → va_S (gA G) s.heap H1 locs1 → W p l e R s m args below meth c H1 locs1 (cells + 6) (slots + 6) Q (F0 m (pc + 3) ls (.int (fL_stretchOf o1 p1 p2 o2 v x).1 :: rest))) : W p l e R s m args below meth c H locs cells slots Q (F0 m pc ls (.ref (ga G o2) :: .int p2 :: .int p1 :: .ref (ga G o1) :: rest)) := c_li (runLS (kp := 4) X.1 X.2.1 X.2.2.1 X.2.2.2.1 X.2.2.2.2.1 (mL_stretchOf l hst G da v x o1 hk_o1 p1 p2 o2 hk_o2 ho) pN_bl hml t_st_L_stretchOf t_ini_VernierDrawersLaw t_code_L_stretchOf ⟨by decide, by decide, by decide +kernel⟩ rfl rfl hR hcs (preN X hN hS hH) rfl hls rfl hsum hdg) hS (fun d9 H9 L9 hH9 => kk d9 H9 L9 _ _ rfl rfl hH9)
def fL_readingFor (o1 : Nat) (p1 : Int32) (p2 : Int32) (p3 : Int32) (o2 : Nat) (v : vSt) (x : gX) : Int32 × vSt × gX := if (fX10_readingFor o1 p1 p2 p3 v).1 = 0 then (let x5 : gX := xu x o2 (0 : Int32).toNatClampNeg (((fX10_readingFor o1 p1 p2 p3 v).2 : Int32).toInt64); (0, v, x5)) else (if (fX10_readingFor o1 p1 p2 p3 v).1 = 1 then ((1, v, x)) else ((2, v, x)))
def oL_readingFor (o1 : Nat) (p1 : Int32) (p2 : Int32) (p3 : Int32) (o2 : Nat) (v : vSt) (x : gX) : Prop := (oX10_readingFor o1 p1 p2 p3 v) ∧ (¬ ((fX10_readingFor o1 p1 p2 p3 v).1 = 0) → (¬ ((fX10_readingFor o1 p1 p2 p3 v).1 = 1) → ((fX10_readingFor o1 p1 p2 p3 v).1 = 3)))
abbrev rmL_readingFor : Room := { frames := 9, cells := 6, slots := 6, locals := 158 }
theorem dL_readingFor_0 : decode cL_readingFor 0 = .ok (.aload 4, 2) := by decide +kernel
theorem dL_readingFor_2 : decode cL_readingFor 2 = .ok (.iconst 0, 1) := by decide +kernel
theorem dL_readingFor_3 : decode cL_readingFor 3 = .ok (.aload_n 0, 1) := by decide +kernel
theorem dL_readingFor_4 : decode cL_readingFor 4 = .ok (.iload_n 1, 1) := by decide +kernel
theorem dL_readingFor_5 : decode cL_readingFor 5 = .ok (.iload_n 2, 1) := by decide +kernel
theorem dL_readingFor_6 : decode cL_readingFor 6 = .ok (.iload_n 3, 1) := by decide +kernel
theorem dL_readingFor_7 : decode cL_readingFor 7 = .ok (.invokevirtual 82, 3) := by decide +kernel
theorem dL_readingFor_10 : decode cL_readingFor 10 = .ok (.i2l, 1) := by decide +kernel
theorem dL_readingFor_11 : decode cL_readingFor 11 = .ok (.lastore, 1) := by decide +kernel
theorem dL_readingFor_12 : decode cL_readingFor 12 = .ok (.goto 11, 3) := by decide +kernel
theorem dL_readingFor_15 : decode cL_readingFor 15 = .ok (.astore 5, 2) := by decide +kernel
theorem dL_readingFor_17 : decode cL_readingFor 17 = .ok (.iconst 1, 1) := by decide +kernel
theorem dL_readingFor_18 : decode cL_readingFor 18 = .ok (.ireturn, 1) := by decide +kernel
theorem dL_readingFor_19 : decode cL_readingFor 19 = .ok (.astore 5, 2) := by decide +kernel
theorem dL_readingFor_21 : decode cL_readingFor 21 = .ok (.iconst 2, 1) := by decide +kernel
theorem dL_readingFor_22 : decode cL_readingFor 22 = .ok (.ireturn, 1) := by decide +kernel
theorem dL_readingFor_23 : decode cL_readingFor 23 = .ok (.iconst 0, 1) := by decide +kernel
theorem dL_readingFor_24 : decode cL_readingFor 24 = .ok (.ireturn, 1) := by decide +kernel
set_option maxHeartbeats 8000000 in
set_option maxRecDepth 100000 in
theorem mL_readingFor (l : Launch) (hst : l.stackTraces = false) (G : gG) (da : Nat → Nat) (v : vSt) (x : gX) (o1 : Nat) (hk_o1 : kd o1 = 10) (p1 : Int32) (p2 : Int32) (p3 : Int32) (o2 : Nat) (hk_o2 : kd o2 = 34) (ho : oL_readingFor o1 p1 p2 p3 o2 v x) : LI l yL_readingFor cL_readingFor 6 [((0 : Nat), (12 : Nat), (15 : Nat), (13 : Nat)), ((0 : Nat), (12 : Nat), (19 : Nat), (85 : Nat))] rmL_readingFor [.ref (ga G o1), .int p1, .int p2, .int p3, .ref (ga G o2)] G da v x 6 6 (fL_readingFor o1 p1 p2 p3 o2 v x).1 (fL_readingFor o1 p1 p2 p3 o2 v x).2.1 (fL_readingFor o1 p1 p2 p3 o2 v x).2.2 := by
  refine gofL (by decide) rfl (Nat.le_of_ble_eq_true rfl) (fun p e s m args below meth c ls Q X hN htab hH hl E => ?_)
  have hx := X.1
  have hb := X.2.1
  have hown := X.2.2.2.1
  have hts := X.2.2.2.2.1
  have hS : va_S (gA G) s.heap s.heap [] := va_S.rf
  unfold oL_readingFor at ho
  have hl : lv_has ls 6 [(0, .ref (ga G o1)), (1, .int p1), (2, .int p2), (3, .int p3), (4, .ref (ga G o2))] := hl
  refine lv_aload hx hb dL_readingFor_0 (lv_at hl 4 rfl) ?_
  refine lv_iconst (v := 0) hx hb dL_readingFor_2 (by decide) ?_
  refine lv_aload_n hx hb dL_readingFor_3 rfl (lv_at hl 0 rfl) ?_
  refine lv_iload_n hx hb dL_readingFor_4 rfl (lv_at hl 1 rfl) ?_
  refine lv_iload_n hx hb dL_readingFor_5 rfl (lv_at hl 2 rfl) ?_
  refine lv_iload_n hx hb dL_readingFor_6 rfl (lv_at hl 3 rfl) ?_
  have hq1 := ho.1
  have ho := ho.2
  refine k_X10_readingFor hst X hS hH hk_o1 hq1 t_ml_VernierDrawersLaw_82 hl.1 (Nat.le_of_ble_eq_true rfl) ⟨Nat.le_of_ble_eq_true rfl, Nat.le_of_ble_eq_true rfl⟩ ⟨(Nat.le_of_ble_eq_true rfl), (Nat.le_of_ble_eq_true rfl)⟩ dL_readingFor_7 (fun c2 da ce9 q9 H locs hH hS g1 g2 g3 => ?_) (fun c2 da H locs hH hS => ?_)
  · have ho := ho c2
    refine (Decidable.em ((fX10_readingFor o1 p1 p2 p3 v).1 = 1)).elim (fun c3 => ?_) (fun c3 => ?_)
    · skip
      refine t_c1 (k := 1) X htab rfl g1 g2 (c3 ▸ g3) ?_
      refine lv_astore (lv' := [(5, .ref q9), (0, .ref (ga G o1)), (1, .int p1), (2, .int p2), (3, .int p3), (4, .ref (ga G o2))]) hx hb dL_readingFor_15 hl (by decide) rfl (fun ls hl => ?_)
      refine lv_iconst (v := 1) hx hb dL_readingFor_17 (by decide) ?_
      exact E _ _ _ _ _ _ _ _ _ _ dL_readingFor_18 (t31 ((fL_readingFor.eq_1 _ _ _ _ _ _ _).trans ((if_neg c2).trans ((if_pos c3).trans rfl)))) (t32 ((fL_readingFor.eq_1 _ _ _ _ _ _ _).trans ((if_neg c2).trans ((if_pos c3).trans rfl)))) (t33 ((fL_readingFor.eq_1 _ _ _ _ _ _ _).trans ((if_neg c2).trans ((if_pos c3).trans rfl)))) hH hS (Nat.le_of_ble_eq_true rfl) (Nat.le_of_ble_eq_true rfl)
    · have ho := ho c3
      have hq4 := ho
      refine t_c2 (k := 3) X hN htab (by decide) rfl g1 g2 (hq4 ▸ g3) ?_
      refine lv_astore (lv' := [(5, .ref q9), (0, .ref (ga G o1)), (1, .int p1), (2, .int p2), (3, .int p3), (4, .ref (ga G o2))]) hx hb dL_readingFor_19 hl (by decide) rfl (fun ls hl => ?_)
      refine lv_iconst (v := 2) hx hb dL_readingFor_21 (by decide) ?_
      exact E _ _ _ _ _ _ _ _ _ _ dL_readingFor_22 (t31 ((fL_readingFor.eq_1 _ _ _ _ _ _ _).trans ((if_neg c2).trans ((if_neg c3).trans rfl)))) (t32 ((fL_readingFor.eq_1 _ _ _ _ _ _ _).trans ((if_neg c2).trans ((if_neg c3).trans rfl)))) (t33 ((fL_readingFor.eq_1 _ _ _ _ _ _ _).trans ((if_neg c2).trans ((if_neg c3).trans rfl)))) hH hS (Nat.le_of_ble_eq_true rfl) (Nat.le_of_ble_eq_true rfl)
  · skip
    refine lv_i2l (v := ((fX10_readingFor o1 p1 p2 p3 v).2 : Int32).toInt64) hx hb dL_readingFor_10 rfl ?_
    refine last_34 X hH hS hk_o2 (i_in (by decide) (by decide)) dL_readingFor_11 (fun H locs x5 ex5 hH hS => ?_)
    refine lv_goto (tgt := 23) hx hb dL_readingFor_12 (by decide) ?_
    refine lv_iconst (v := 0) hx hb dL_readingFor_23 (by decide) ?_
    replace ex5 := Eq.symm ex5
    subst ex5
    exact E _ _ _ _ _ _ _ _ _ _ dL_readingFor_24 (t31 ((fL_readingFor.eq_1 _ _ _ _ _ _ _).trans ((if_pos c2).trans rfl))) (t32 ((fL_readingFor.eq_1 _ _ _ _ _ _ _).trans ((if_pos c2).trans rfl))) (t33 ((fL_readingFor.eq_1 _ _ _ _ _ _ _).trans ((if_pos c2).trans rfl))) hH hS (Nat.le_of_ble_eq_true rfl) (Nat.le_of_ble_eq_true rfl)
theorem k_L_readingFor {p : Program} {l : Launch} {e : Env} {R : Room} {s : State} {m : MethodId} {args : Array Value} {below : List Frame} {meth : Method} {c : Code} {H : Heap} {locs : List Loc} {cells slots : Nat} {Q : State → Prop} {cc : ByteArray} {pc nL : Nat} {ls : Array Slot} {rest : List Value} {G : gG} {own : String} {da : Nat → Nat} {v : vSt} {x : gX} (hst : l.stackTraces = false) (X : CX G p s m args c cc nL own) (hS : va_S (gA G) s.heap H locs) (hN : NC s) (hH : Hp G da v x H) {o1 : Nat} (hk_o1 : kd o1 = 10) {p1 : Int32} {p2 : Int32} {p3 : Int32} {o2 : Nat} (hk_o2 : kd o2 = 34) (ho : oL_readingFor o1 p1 p2 p3 o2 v x) {idx : Nat} (hml : Cond.methodLink own idx yL_readingFor ∈ TT) (hls : ls.size = nL) (hsum : (rest.map fun v => v.category).sum ≤ 8) (hR : rmL_readingFor.frames + 1 ≤ R.frames ∧ 8 + (6 + 11) + rmL_readingFor.locals ≤ R.locals) (hcs : cells + 6 ≤ R.cells ∧ slots + 6 ≤ R.slots) (hdg : decode cc pc = .ok (.invokestatic idx, 3)) (kk : ∀ (d : Nat → Nat) (H1 : Heap) (locs1 : List Loc) (v1 : vSt) (x1 : gX), v1 = (fL_readingFor o1 p1 p2 p3 o2 v x).2.1 → x1 = (fL_readingFor o1 p1 p2 p3 o2 v x).2.2 → Hp G d v1 x1 H1 → va_S (gA G) s.heap H1 locs1 → W p l e R s m args below meth c H1 locs1 (cells + 6) (slots + 6) Q (F0 m (pc + 3) ls (.int (fL_readingFor o1 p1 p2 p3 o2 v x).1 :: rest))) : W p l e R s m args below meth c H locs cells slots Q (F0 m pc ls (.ref (ga G o2) :: .int p3 :: .int p2 :: .int p1 :: .ref (ga G o1) :: rest)) := c_li (runLS (kp := 5) X.1 X.2.1 X.2.2.1 X.2.2.2.1 X.2.2.2.2.1 (mL_readingFor l hst G da v x o1 hk_o1 p1 p2 p3 o2 hk_o2 ho) pN_bl hml t_st_L_readingFor t_ini_VernierDrawersLaw t_code_L_readingFor ⟨by decide, by decide, by decide +kernel⟩ rfl rfl hR hcs (preN X hN hS hH) rfl hls rfl hsum hdg) hS (fun d9 H9 L9 hH9 => kk d9 H9 L9 _ _ rfl rfl hH9)
def fL_readingByLooking (o1 : Nat) (p1 : Int32) (p2 : Int32) (p3 : Int32) (o2 : Nat) (v : vSt) (x : gX) : Int32 × vSt × gX := if (fX10_readingByLooking o1 p1 p2 p3 v).1 = 0 then (let x5 : gX := xu x o2 (0 : Int32).toNatClampNeg (((fX10_readingByLooking o1 p1 p2 p3 v).2 : Int32).toInt64); (0, v, x5)) else (if (fX10_readingByLooking o1 p1 p2 p3 v).1 = 1 then ((1, v, x)) else ((2, v, x)))
def oL_readingByLooking (o1 : Nat) (p1 : Int32) (p2 : Int32) (p3 : Int32) (o2 : Nat) (v : vSt) (x : gX) : Prop := (oX10_readingByLooking o1 p1 p2 p3 v) ∧ (¬ ((fX10_readingByLooking o1 p1 p2 p3 v).1 = 0) → (¬ ((fX10_readingByLooking o1 p1 p2 p3 v).1 = 1) → ((fX10_readingByLooking o1 p1 p2 p3 v).1 = 3)))
abbrev rmL_readingByLooking : Room := { frames := 9, cells := 12, slots := 12, locals := 159 }
theorem dL_readingByLooking_0 : decode cL_readingByLooking 0 = .ok (.aload 4, 2) := by decide +kernel
theorem dL_readingByLooking_2 : decode cL_readingByLooking 2 = .ok (.iconst 0, 1) := by decide +kernel
theorem dL_readingByLooking_3 : decode cL_readingByLooking 3 = .ok (.aload_n 0, 1) := by decide +kernel
theorem dL_readingByLooking_4 : decode cL_readingByLooking 4 = .ok (.iload_n 1, 1) := by decide +kernel
theorem dL_readingByLooking_5 : decode cL_readingByLooking 5 = .ok (.iload_n 2, 1) := by decide +kernel
theorem dL_readingByLooking_6 : decode cL_readingByLooking 6 = .ok (.iload_n 3, 1) := by decide +kernel
theorem dL_readingByLooking_7 : decode cL_readingByLooking 7 = .ok (.invokevirtual 87, 3) := by decide +kernel
theorem dL_readingByLooking_10 : decode cL_readingByLooking 10 = .ok (.i2l, 1) := by decide +kernel
theorem dL_readingByLooking_11 : decode cL_readingByLooking 11 = .ok (.lastore, 1) := by decide +kernel
theorem dL_readingByLooking_12 : decode cL_readingByLooking 12 = .ok (.goto 11, 3) := by decide +kernel
theorem dL_readingByLooking_15 : decode cL_readingByLooking 15 = .ok (.astore 5, 2) := by decide +kernel
theorem dL_readingByLooking_17 : decode cL_readingByLooking 17 = .ok (.iconst 1, 1) := by decide +kernel
theorem dL_readingByLooking_18 : decode cL_readingByLooking 18 = .ok (.ireturn, 1) := by decide +kernel
theorem dL_readingByLooking_19 : decode cL_readingByLooking 19 = .ok (.astore 5, 2) := by decide +kernel
theorem dL_readingByLooking_21 : decode cL_readingByLooking 21 = .ok (.iconst 2, 1) := by decide +kernel
theorem dL_readingByLooking_22 : decode cL_readingByLooking 22 = .ok (.ireturn, 1) := by decide +kernel
theorem dL_readingByLooking_23 : decode cL_readingByLooking 23 = .ok (.iconst 0, 1) := by decide +kernel
theorem dL_readingByLooking_24 : decode cL_readingByLooking 24 = .ok (.ireturn, 1) := by decide +kernel
set_option maxHeartbeats 8000000 in
set_option maxRecDepth 100000 in
theorem mL_readingByLooking (l : Launch) (hst : l.stackTraces = false) (G : gG) (da : Nat → Nat) (v : vSt) (x : gX) (o1 : Nat) (hk_o1 : kd o1 = 10) (p1 : Int32) (p2 : Int32) (p3 : Int32) (o2 : Nat) (hk_o2 : kd o2 = 34) (ho : oL_readingByLooking o1 p1 p2 p3 o2 v x) : LI l yL_readingByLooking cL_readingByLooking 6 [((0 : Nat), (12 : Nat), (15 : Nat), (13 : Nat)), ((0 : Nat), (12 : Nat), (19 : Nat), (85 : Nat))] rmL_readingByLooking [.ref (ga G o1), .int p1, .int p2, .int p3, .ref (ga G o2)] G da v x 12 12 (fL_readingByLooking o1 p1 p2 p3 o2 v x).1 (fL_readingByLooking o1 p1 p2 p3 o2 v x).2.1 (fL_readingByLooking o1 p1 p2 p3 o2 v x).2.2 := by
  refine gofL (by decide) rfl (Nat.le_of_ble_eq_true rfl) (fun p e s m args below meth c ls Q X hN htab hH hl E => ?_)
  have hx := X.1
  have hb := X.2.1
  have hown := X.2.2.2.1
  have hts := X.2.2.2.2.1
  have hS : va_S (gA G) s.heap s.heap [] := va_S.rf
  unfold oL_readingByLooking at ho
  have hl : lv_has ls 6 [(0, .ref (ga G o1)), (1, .int p1), (2, .int p2), (3, .int p3), (4, .ref (ga G o2))] := hl
  refine lv_aload hx hb dL_readingByLooking_0 (lv_at hl 4 rfl) ?_
  refine lv_iconst (v := 0) hx hb dL_readingByLooking_2 (by decide) ?_
  refine lv_aload_n hx hb dL_readingByLooking_3 rfl (lv_at hl 0 rfl) ?_
  refine lv_iload_n hx hb dL_readingByLooking_4 rfl (lv_at hl 1 rfl) ?_
  refine lv_iload_n hx hb dL_readingByLooking_5 rfl (lv_at hl 2 rfl) ?_
  refine lv_iload_n hx hb dL_readingByLooking_6 rfl (lv_at hl 3 rfl) ?_
  have hq1 := ho.1
  have ho := ho.2
  refine k_X10_readingByLooking hst X hS hH hk_o1 hq1 t_ml_VernierDrawersLaw_87 hl.1 (Nat.le_of_ble_eq_true rfl) ⟨Nat.le_of_ble_eq_true rfl, Nat.le_of_ble_eq_true rfl⟩ ⟨(Nat.le_of_ble_eq_true rfl), (Nat.le_of_ble_eq_true rfl)⟩ dL_readingByLooking_7 (fun c2 da ce9 q9 H locs hH hS g1 g2 g3 => ?_) (fun c2 da H locs hH hS => ?_)
  · have ho := ho c2
    refine (Decidable.em ((fX10_readingByLooking o1 p1 p2 p3 v).1 = 1)).elim (fun c3 => ?_) (fun c3 => ?_)
    · skip
      refine t_c1 (k := 1) X htab rfl g1 g2 (c3 ▸ g3) ?_
      refine lv_astore (lv' := [(5, .ref q9), (0, .ref (ga G o1)), (1, .int p1), (2, .int p2), (3, .int p3), (4, .ref (ga G o2))]) hx hb dL_readingByLooking_15 hl (by decide) rfl (fun ls hl => ?_)
      refine lv_iconst (v := 1) hx hb dL_readingByLooking_17 (by decide) ?_
      exact E _ _ _ _ _ _ _ _ _ _ dL_readingByLooking_18 (t31 ((fL_readingByLooking.eq_1 _ _ _ _ _ _ _).trans ((if_neg c2).trans ((if_pos c3).trans rfl)))) (t32 ((fL_readingByLooking.eq_1 _ _ _ _ _ _ _).trans ((if_neg c2).trans ((if_pos c3).trans rfl)))) (t33 ((fL_readingByLooking.eq_1 _ _ _ _ _ _ _).trans ((if_neg c2).trans ((if_pos c3).trans rfl)))) hH hS (Nat.le_of_ble_eq_true rfl) (Nat.le_of_ble_eq_true rfl)
    · have ho := ho c3
      have hq4 := ho
      refine t_c2 (k := 3) X hN htab (by decide) rfl g1 g2 (hq4 ▸ g3) ?_
      refine lv_astore (lv' := [(5, .ref q9), (0, .ref (ga G o1)), (1, .int p1), (2, .int p2), (3, .int p3), (4, .ref (ga G o2))]) hx hb dL_readingByLooking_19 hl (by decide) rfl (fun ls hl => ?_)
      refine lv_iconst (v := 2) hx hb dL_readingByLooking_21 (by decide) ?_
      exact E _ _ _ _ _ _ _ _ _ _ dL_readingByLooking_22 (t31 ((fL_readingByLooking.eq_1 _ _ _ _ _ _ _).trans ((if_neg c2).trans ((if_neg c3).trans rfl)))) (t32 ((fL_readingByLooking.eq_1 _ _ _ _ _ _ _).trans ((if_neg c2).trans ((if_neg c3).trans rfl)))) (t33 ((fL_readingByLooking.eq_1 _ _ _ _ _ _ _).trans ((if_neg c2).trans ((if_neg c3).trans rfl)))) hH hS (Nat.le_of_ble_eq_true rfl) (Nat.le_of_ble_eq_true rfl)
  · skip
    refine lv_i2l (v := ((fX10_readingByLooking o1 p1 p2 p3 v).2 : Int32).toInt64) hx hb dL_readingByLooking_10 rfl ?_
    refine last_34 X hH hS hk_o2 (i_in (by decide) (by decide)) dL_readingByLooking_11 (fun H locs x5 ex5 hH hS => ?_)
    refine lv_goto (tgt := 23) hx hb dL_readingByLooking_12 (by decide) ?_
    refine lv_iconst (v := 0) hx hb dL_readingByLooking_23 (by decide) ?_
    replace ex5 := Eq.symm ex5
    subst ex5
    exact E _ _ _ _ _ _ _ _ _ _ dL_readingByLooking_24 (t31 ((fL_readingByLooking.eq_1 _ _ _ _ _ _ _).trans ((if_pos c2).trans rfl))) (t32 ((fL_readingByLooking.eq_1 _ _ _ _ _ _ _).trans ((if_pos c2).trans rfl))) (t33 ((fL_readingByLooking.eq_1 _ _ _ _ _ _ _).trans ((if_pos c2).trans rfl))) hH hS (Nat.le_of_ble_eq_true rfl) (Nat.le_of_ble_eq_true rfl)
theorem k_L_readingByLooking {p : Program} {l : Launch} {e : Env} {R : Room} {s : State} {m : MethodId} {args : Array Value} {below : List Frame} {meth : Method} {c : Code} {H : Heap} {locs : List Loc} {cells slots : Nat} {Q : State → Prop} {cc : ByteArray} {pc nL : Nat} {ls : Array Slot} {rest : List Value} {G : gG} {own : String} {da : Nat → Nat} {v : vSt} {x : gX} (hst : l.stackTraces = false) (X : CX G p s m args c cc nL own) (hS : va_S (gA G) s.heap H locs) (hN : NC s) (hH : Hp G da v x H) {o1 : Nat} (hk_o1 : kd o1 = 10) {p1 : Int32} {p2 : Int32} {p3 : Int32} {o2 : Nat} (hk_o2 : kd o2 = 34) (ho : oL_readingByLooking o1 p1 p2 p3 o2 v x) {idx : Nat} (hml : Cond.methodLink own idx yL_readingByLooking ∈ TT) (hls : ls.size = nL) (hsum : (rest.map fun v => v.category).sum ≤ 8) (hR : rmL_readingByLooking.frames + 1 ≤ R.frames ∧ 8 + (6 + 11) + rmL_readingByLooking.locals ≤ R.locals) (hcs : cells + 12 ≤ R.cells ∧ slots + 12 ≤ R.slots) (hdg : decode cc pc = .ok (.invokestatic idx, 3)) (kk : ∀ (d : Nat → Nat) (H1 : Heap) (locs1 : List Loc) (v1 : vSt) (x1 : gX), v1 = (fL_readingByLooking o1 p1 p2 p3 o2 v x).2.1 → x1 = (fL_readingByLooking o1 p1 p2 p3 o2 v x).2.2 → Hp G d v1 x1 H1 → va_S (gA G) s.heap H1 locs1 → W p l e R s m args below meth c H1 locs1 (cells + 12) (slots + 12) Q (F0 m (pc + 3) ls (.int (fL_readingByLooking o1 p1 p2 p3 o2 v x).1 :: rest))) : W p l e R s m args below meth c H locs cells slots Q (F0 m pc ls (.ref (ga G o2) :: .int p3 :: .int p2 :: .int p1 :: .ref (ga G o1) :: rest)) := c_li (runLS (kp := 5) X.1 X.2.1 X.2.2.1 X.2.2.2.1 X.2.2.2.2.1 (mL_readingByLooking l hst G da v x o1 hk_o1 p1 p2 p3 o2 hk_o2 ho) pN_bl hml t_st_L_readingByLooking t_ini_VernierDrawersLaw t_code_L_readingByLooking ⟨by decide, by decide, by decide +kernel⟩ rfl rfl hR hcs (preN X hN hS hH) rfl hls rfl hsum hdg) hS (fun d9 H9 L9 hH9 => kk d9 H9 L9 _ _ rfl rfl hH9)
def fL_markFor (o1 : Nat) (p1 : Int32) (p2 : Int32) (p3 : Int32) (o2 : Nat) (v : vSt) (x : gX) : Int32 × vSt × gX := if (fX10_markFor o1 p1 p2 p3 v).1 = 0 then (let x5 : gX := xu x o2 (0 : Int32).toNatClampNeg (((fX10_markFor o1 p1 p2 p3 v).2 : Int32).toInt64); (0, v, x5)) else (if (fX10_markFor o1 p1 p2 p3 v).1 = 1 then ((1, v, x)) else ((2, v, x)))
def oL_markFor (o1 : Nat) (p1 : Int32) (p2 : Int32) (p3 : Int32) (o2 : Nat) (v : vSt) (x : gX) : Prop := (oX10_markFor o1 p1 p2 p3 v) ∧ (¬ ((fX10_markFor o1 p1 p2 p3 v).1 = 0) → (¬ ((fX10_markFor o1 p1 p2 p3 v).1 = 1) → ((fX10_markFor o1 p1 p2 p3 v).1 = 3)))
abbrev rmL_markFor : Room := { frames := 9, cells := 12, slots := 12, locals := 159 }
theorem dL_markFor_0 : decode cL_markFor 0 = .ok (.aload 4, 2) := by decide +kernel
theorem dL_markFor_2 : decode cL_markFor 2 = .ok (.iconst 0, 1) := by decide +kernel
theorem dL_markFor_3 : decode cL_markFor 3 = .ok (.aload_n 0, 1) := by decide +kernel
theorem dL_markFor_4 : decode cL_markFor 4 = .ok (.iload_n 1, 1) := by decide +kernel
theorem dL_markFor_5 : decode cL_markFor 5 = .ok (.iload_n 2, 1) := by decide +kernel
theorem dL_markFor_6 : decode cL_markFor 6 = .ok (.iload_n 3, 1) := by decide +kernel
theorem dL_markFor_7 : decode cL_markFor 7 = .ok (.invokevirtual 90, 3) := by decide +kernel
theorem dL_markFor_10 : decode cL_markFor 10 = .ok (.i2l, 1) := by decide +kernel
theorem dL_markFor_11 : decode cL_markFor 11 = .ok (.lastore, 1) := by decide +kernel
theorem dL_markFor_12 : decode cL_markFor 12 = .ok (.goto 11, 3) := by decide +kernel
theorem dL_markFor_15 : decode cL_markFor 15 = .ok (.astore 5, 2) := by decide +kernel
theorem dL_markFor_17 : decode cL_markFor 17 = .ok (.iconst 1, 1) := by decide +kernel
theorem dL_markFor_18 : decode cL_markFor 18 = .ok (.ireturn, 1) := by decide +kernel
theorem dL_markFor_19 : decode cL_markFor 19 = .ok (.astore 5, 2) := by decide +kernel
theorem dL_markFor_21 : decode cL_markFor 21 = .ok (.iconst 2, 1) := by decide +kernel
theorem dL_markFor_22 : decode cL_markFor 22 = .ok (.ireturn, 1) := by decide +kernel
theorem dL_markFor_23 : decode cL_markFor 23 = .ok (.iconst 0, 1) := by decide +kernel
theorem dL_markFor_24 : decode cL_markFor 24 = .ok (.ireturn, 1) := by decide +kernel
set_option maxHeartbeats 8000000 in
set_option maxRecDepth 100000 in
theorem mL_markFor (l : Launch) (hst : l.stackTraces = false) (G : gG) (da : Nat → Nat) (v : vSt) (x : gX) (o1 : Nat) (hk_o1 : kd o1 = 10) (p1 : Int32) (p2 : Int32) (p3 : Int32) (o2 : Nat) (hk_o2 : kd o2 = 34) (ho : oL_markFor o1 p1 p2 p3 o2 v x) : LI l yL_markFor cL_markFor 6 [((0 : Nat), (12 : Nat), (15 : Nat), (13 : Nat)), ((0 : Nat), (12 : Nat), (19 : Nat), (85 : Nat))] rmL_markFor [.ref (ga G o1), .int p1, .int p2, .int p3, .ref (ga G o2)] G da v x 12 12 (fL_markFor o1 p1 p2 p3 o2 v x).1 (fL_markFor o1 p1 p2 p3 o2 v x).2.1 (fL_markFor o1 p1 p2 p3 o2 v x).2.2 := by
  refine gofL (by decide) rfl (Nat.le_of_ble_eq_true rfl) (fun p e s m args below meth c ls Q X hN htab hH hl E => ?_)
  have hx := X.1
  have hb := X.2.1
  have hown := X.2.2.2.1
  have hts := X.2.2.2.2.1
  have hS : va_S (gA G) s.heap s.heap [] := va_S.rf
  unfold oL_markFor at ho
  have hl : lv_has ls 6 [(0, .ref (ga G o1)), (1, .int p1), (2, .int p2), (3, .int p3), (4, .ref (ga G o2))] := hl
  refine lv_aload hx hb dL_markFor_0 (lv_at hl 4 rfl) ?_
  refine lv_iconst (v := 0) hx hb dL_markFor_2 (by decide) ?_
  refine lv_aload_n hx hb dL_markFor_3 rfl (lv_at hl 0 rfl) ?_
  refine lv_iload_n hx hb dL_markFor_4 rfl (lv_at hl 1 rfl) ?_
  refine lv_iload_n hx hb dL_markFor_5 rfl (lv_at hl 2 rfl) ?_
  refine lv_iload_n hx hb dL_markFor_6 rfl (lv_at hl 3 rfl) ?_
  have hq1 := ho.1
  have ho := ho.2
  refine k_X10_markFor hst X hS hH hk_o1 hq1 t_ml_VernierDrawersLaw_90 hl.1 (Nat.le_of_ble_eq_true rfl) ⟨Nat.le_of_ble_eq_true rfl, Nat.le_of_ble_eq_true rfl⟩ ⟨(Nat.le_of_ble_eq_true rfl), (Nat.le_of_ble_eq_true rfl)⟩ dL_markFor_7 (fun c2 da ce9 q9 H locs hH hS g1 g2 g3 => ?_) (fun c2 da H locs hH hS => ?_)
  · have ho := ho c2
    refine (Decidable.em ((fX10_markFor o1 p1 p2 p3 v).1 = 1)).elim (fun c3 => ?_) (fun c3 => ?_)
    · skip
      refine t_c1 (k := 1) X htab rfl g1 g2 (c3 ▸ g3) ?_
      refine lv_astore (lv' := [(5, .ref q9), (0, .ref (ga G o1)), (1, .int p1), (2, .int p2), (3, .int p3), (4, .ref (ga G o2))]) hx hb dL_markFor_15 hl (by decide) rfl (fun ls hl => ?_)
      refine lv_iconst (v := 1) hx hb dL_markFor_17 (by decide) ?_
      exact E _ _ _ _ _ _ _ _ _ _ dL_markFor_18 (t31 ((fL_markFor.eq_1 _ _ _ _ _ _ _).trans ((if_neg c2).trans ((if_pos c3).trans rfl)))) (t32 ((fL_markFor.eq_1 _ _ _ _ _ _ _).trans ((if_neg c2).trans ((if_pos c3).trans rfl)))) (t33 ((fL_markFor.eq_1 _ _ _ _ _ _ _).trans ((if_neg c2).trans ((if_pos c3).trans rfl)))) hH hS (Nat.le_of_ble_eq_true rfl) (Nat.le_of_ble_eq_true rfl)
    · have ho := ho c3
      have hq4 := ho
      refine t_c2 (k := 3) X hN htab (by decide) rfl g1 g2 (hq4 ▸ g3) ?_
      refine lv_astore (lv' := [(5, .ref q9), (0, .ref (ga G o1)), (1, .int p1), (2, .int p2), (3, .int p3), (4, .ref (ga G o2))]) hx hb dL_markFor_19 hl (by decide) rfl (fun ls hl => ?_)
      refine lv_iconst (v := 2) hx hb dL_markFor_21 (by decide) ?_
      exact E _ _ _ _ _ _ _ _ _ _ dL_markFor_22 (t31 ((fL_markFor.eq_1 _ _ _ _ _ _ _).trans ((if_neg c2).trans ((if_neg c3).trans rfl)))) (t32 ((fL_markFor.eq_1 _ _ _ _ _ _ _).trans ((if_neg c2).trans ((if_neg c3).trans rfl)))) (t33 ((fL_markFor.eq_1 _ _ _ _ _ _ _).trans ((if_neg c2).trans ((if_neg c3).trans rfl)))) hH hS (Nat.le_of_ble_eq_true rfl) (Nat.le_of_ble_eq_true rfl)
  · skip
    refine lv_i2l (v := ((fX10_markFor o1 p1 p2 p3 v).2 : Int32).toInt64) hx hb dL_markFor_10 rfl ?_
    refine last_34 X hH hS hk_o2 (i_in (by decide) (by decide)) dL_markFor_11 (fun H locs x5 ex5 hH hS => ?_)
    refine lv_goto (tgt := 23) hx hb dL_markFor_12 (by decide) ?_
    refine lv_iconst (v := 0) hx hb dL_markFor_23 (by decide) ?_
    replace ex5 := Eq.symm ex5
    subst ex5
    exact E _ _ _ _ _ _ _ _ _ _ dL_markFor_24 (t31 ((fL_markFor.eq_1 _ _ _ _ _ _ _).trans ((if_pos c2).trans rfl))) (t32 ((fL_markFor.eq_1 _ _ _ _ _ _ _).trans ((if_pos c2).trans rfl))) (t33 ((fL_markFor.eq_1 _ _ _ _ _ _ _).trans ((if_pos c2).trans rfl))) hH hS (Nat.le_of_ble_eq_true rfl) (Nat.le_of_ble_eq_true rfl)
theorem k_L_markFor {p : Program} {l : Launch} {e : Env} {R : Room} {s : State} {m : MethodId} {args : Array Value} {below : List Frame} {meth : Method} {c : Code} {H : Heap} {locs : List Loc} {cells slots : Nat} {Q : State → Prop} {cc : ByteArray} {pc nL : Nat} {ls : Array Slot} {rest : List Value} {G : gG} {own : String} {da : Nat → Nat} {v : vSt} {x : gX} (hst : l.stackTraces = false) (X : CX G p s m args c cc nL own) (hS : va_S (gA G) s.heap H locs) (hN : NC s) (hH : Hp G da v x H) {o1 : Nat} (hk_o1 : kd o1 = 10) {p1 : Int32} {p2 : Int32} {p3 : Int32} {o2 : Nat} (hk_o2 : kd o2 = 34) (ho : oL_markFor o1 p1 p2 p3 o2 v x) {idx : Nat} (hml : Cond.methodLink own idx yL_markFor ∈ TT) (hls : ls.size = nL) (hsum : (rest.map fun v => v.category).sum ≤ 8) (hR : rmL_markFor.frames + 1 ≤ R.frames ∧ 8 + (6 + 11) + rmL_markFor.locals ≤ R.locals) (hcs : cells + 12 ≤ R.cells ∧ slots + 12 ≤ R.slots) (hdg : decode cc pc = .ok (.invokestatic idx, 3)) (kk : ∀ (d : Nat → Nat) (H1 : Heap) (locs1 : List Loc) (v1 : vSt) (x1 : gX), v1 = (fL_markFor o1 p1 p2 p3 o2 v x).2.1 → x1 = (fL_markFor o1 p1 p2 p3 o2 v x).2.2 → Hp G d v1 x1 H1 → va_S (gA G) s.heap H1 locs1 → W p l e R s m args below meth c H1 locs1 (cells + 12) (slots + 12) Q (F0 m (pc + 3) ls (.int (fL_markFor o1 p1 p2 p3 o2 v x).1 :: rest))) : W p l e R s m args below meth c H locs cells slots Q (F0 m pc ls (.ref (ga G o2) :: .int p3 :: .int p2 :: .int p1 :: .ref (ga G o1) :: rest)) := c_li (runLS (kp := 5) X.1 X.2.1 X.2.2.1 X.2.2.2.1 X.2.2.2.2.1 (mL_markFor l hst G da v x o1 hk_o1 p1 p2 p3 o2 hk_o2 ho) pN_bl hml t_st_L_markFor t_ini_VernierDrawersLaw t_code_L_markFor ⟨by decide, by decide, by decide +kernel⟩ rfl rfl hR hcs (preN X hN hS hH) rfl hls rfl hsum hdg) hS (fun d9 H9 L9 hH9 => kk d9 H9 L9 _ _ rfl rfl hH9)
def fL_lineFor (o1 : Nat) (p1 : Int32) (p2 : Int32) (p3 : Int32) (o2 : Nat) (v : vSt) (x : gX) : Int32 × vSt × gX := if (fX10_lineFor o1 p1 p2 p3 v).1 = 0 then (let x5 : gX := xu x o2 (0 : Int32).toNatClampNeg (((fX10_lineFor o1 p1 p2 p3 v).2 : Int32).toInt64); (0, v, x5)) else (if (fX10_lineFor o1 p1 p2 p3 v).1 = 1 then ((1, v, x)) else ((2, v, x)))
def oL_lineFor (o1 : Nat) (p1 : Int32) (p2 : Int32) (p3 : Int32) (o2 : Nat) (v : vSt) (x : gX) : Prop := (oX10_lineFor o1 p1 p2 p3 v) ∧ (¬ ((fX10_lineFor o1 p1 p2 p3 v).1 = 0) → (¬ ((fX10_lineFor o1 p1 p2 p3 v).1 = 1) → ((fX10_lineFor o1 p1 p2 p3 v).1 = 3)))
abbrev rmL_lineFor : Room := { frames := 9, cells := 12, slots := 12, locals := 159 }
theorem dL_lineFor_0 : decode cL_lineFor 0 = .ok (.aload 4, 2) := by decide +kernel
theorem dL_lineFor_2 : decode cL_lineFor 2 = .ok (.iconst 0, 1) := by decide +kernel
theorem dL_lineFor_3 : decode cL_lineFor 3 = .ok (.aload_n 0, 1) := by decide +kernel
theorem dL_lineFor_4 : decode cL_lineFor 4 = .ok (.iload_n 1, 1) := by decide +kernel
theorem dL_lineFor_5 : decode cL_lineFor 5 = .ok (.iload_n 2, 1) := by decide +kernel
theorem dL_lineFor_6 : decode cL_lineFor 6 = .ok (.iload_n 3, 1) := by decide +kernel
theorem dL_lineFor_7 : decode cL_lineFor 7 = .ok (.invokevirtual 93, 3) := by decide +kernel
theorem dL_lineFor_10 : decode cL_lineFor 10 = .ok (.i2l, 1) := by decide +kernel
theorem dL_lineFor_11 : decode cL_lineFor 11 = .ok (.lastore, 1) := by decide +kernel
theorem dL_lineFor_12 : decode cL_lineFor 12 = .ok (.goto 11, 3) := by decide +kernel
theorem dL_lineFor_15 : decode cL_lineFor 15 = .ok (.astore 5, 2) := by decide +kernel
theorem dL_lineFor_17 : decode cL_lineFor 17 = .ok (.iconst 1, 1) := by decide +kernel
theorem dL_lineFor_18 : decode cL_lineFor 18 = .ok (.ireturn, 1) := by decide +kernel
theorem dL_lineFor_19 : decode cL_lineFor 19 = .ok (.astore 5, 2) := by decide +kernel
theorem dL_lineFor_21 : decode cL_lineFor 21 = .ok (.iconst 2, 1) := by decide +kernel
theorem dL_lineFor_22 : decode cL_lineFor 22 = .ok (.ireturn, 1) := by decide +kernel
theorem dL_lineFor_23 : decode cL_lineFor 23 = .ok (.iconst 0, 1) := by decide +kernel
theorem dL_lineFor_24 : decode cL_lineFor 24 = .ok (.ireturn, 1) := by decide +kernel
set_option maxHeartbeats 8000000 in
set_option maxRecDepth 100000 in
theorem mL_lineFor (l : Launch) (hst : l.stackTraces = false) (G : gG) (da : Nat → Nat) (v : vSt) (x : gX) (o1 : Nat) (hk_o1 : kd o1 = 10) (p1 : Int32) (p2 : Int32) (p3 : Int32) (o2 : Nat) (hk_o2 : kd o2 = 34) (ho : oL_lineFor o1 p1 p2 p3 o2 v x) : LI l yL_lineFor cL_lineFor 6 [((0 : Nat), (12 : Nat), (15 : Nat), (13 : Nat)), ((0 : Nat), (12 : Nat), (19 : Nat), (85 : Nat))] rmL_lineFor [.ref (ga G o1), .int p1, .int p2, .int p3, .ref (ga G o2)] G da v x 12 12 (fL_lineFor o1 p1 p2 p3 o2 v x).1 (fL_lineFor o1 p1 p2 p3 o2 v x).2.1 (fL_lineFor o1 p1 p2 p3 o2 v x).2.2 := by
  refine gofL (by decide) rfl (Nat.le_of_ble_eq_true rfl) (fun p e s m args below meth c ls Q X hN htab hH hl E => ?_)
  have hx := X.1
  have hb := X.2.1
  have hown := X.2.2.2.1
  have hts := X.2.2.2.2.1
  have hS : va_S (gA G) s.heap s.heap [] := va_S.rf
  unfold oL_lineFor at ho
  have hl : lv_has ls 6 [(0, .ref (ga G o1)), (1, .int p1), (2, .int p2), (3, .int p3), (4, .ref (ga G o2))] := hl
  refine lv_aload hx hb dL_lineFor_0 (lv_at hl 4 rfl) ?_
  refine lv_iconst (v := 0) hx hb dL_lineFor_2 (by decide) ?_
  refine lv_aload_n hx hb dL_lineFor_3 rfl (lv_at hl 0 rfl) ?_
  refine lv_iload_n hx hb dL_lineFor_4 rfl (lv_at hl 1 rfl) ?_
  refine lv_iload_n hx hb dL_lineFor_5 rfl (lv_at hl 2 rfl) ?_
  refine lv_iload_n hx hb dL_lineFor_6 rfl (lv_at hl 3 rfl) ?_
  have hq1 := ho.1
  have ho := ho.2
  refine k_X10_lineFor hst X hS hH hk_o1 hq1 t_ml_VernierDrawersLaw_93 hl.1 (Nat.le_of_ble_eq_true rfl) ⟨Nat.le_of_ble_eq_true rfl, Nat.le_of_ble_eq_true rfl⟩ ⟨(Nat.le_of_ble_eq_true rfl), (Nat.le_of_ble_eq_true rfl)⟩ dL_lineFor_7 (fun c2 da ce9 q9 H locs hH hS g1 g2 g3 => ?_) (fun c2 da H locs hH hS => ?_)
  · have ho := ho c2
    refine (Decidable.em ((fX10_lineFor o1 p1 p2 p3 v).1 = 1)).elim (fun c3 => ?_) (fun c3 => ?_)
    · skip
      refine t_c1 (k := 1) X htab rfl g1 g2 (c3 ▸ g3) ?_
      refine lv_astore (lv' := [(5, .ref q9), (0, .ref (ga G o1)), (1, .int p1), (2, .int p2), (3, .int p3), (4, .ref (ga G o2))]) hx hb dL_lineFor_15 hl (by decide) rfl (fun ls hl => ?_)
      refine lv_iconst (v := 1) hx hb dL_lineFor_17 (by decide) ?_
      exact E _ _ _ _ _ _ _ _ _ _ dL_lineFor_18 (t31 ((fL_lineFor.eq_1 _ _ _ _ _ _ _).trans ((if_neg c2).trans ((if_pos c3).trans rfl)))) (t32 ((fL_lineFor.eq_1 _ _ _ _ _ _ _).trans ((if_neg c2).trans ((if_pos c3).trans rfl)))) (t33 ((fL_lineFor.eq_1 _ _ _ _ _ _ _).trans ((if_neg c2).trans ((if_pos c3).trans rfl)))) hH hS (Nat.le_of_ble_eq_true rfl) (Nat.le_of_ble_eq_true rfl)
    · have ho := ho c3
      have hq4 := ho
      refine t_c2 (k := 3) X hN htab (by decide) rfl g1 g2 (hq4 ▸ g3) ?_
      refine lv_astore (lv' := [(5, .ref q9), (0, .ref (ga G o1)), (1, .int p1), (2, .int p2), (3, .int p3), (4, .ref (ga G o2))]) hx hb dL_lineFor_19 hl (by decide) rfl (fun ls hl => ?_)
      refine lv_iconst (v := 2) hx hb dL_lineFor_21 (by decide) ?_
      exact E _ _ _ _ _ _ _ _ _ _ dL_lineFor_22 (t31 ((fL_lineFor.eq_1 _ _ _ _ _ _ _).trans ((if_neg c2).trans ((if_neg c3).trans rfl)))) (t32 ((fL_lineFor.eq_1 _ _ _ _ _ _ _).trans ((if_neg c2).trans ((if_neg c3).trans rfl)))) (t33 ((fL_lineFor.eq_1 _ _ _ _ _ _ _).trans ((if_neg c2).trans ((if_neg c3).trans rfl)))) hH hS (Nat.le_of_ble_eq_true rfl) (Nat.le_of_ble_eq_true rfl)
  · skip
    refine lv_i2l (v := ((fX10_lineFor o1 p1 p2 p3 v).2 : Int32).toInt64) hx hb dL_lineFor_10 rfl ?_
    refine last_34 X hH hS hk_o2 (i_in (by decide) (by decide)) dL_lineFor_11 (fun H locs x5 ex5 hH hS => ?_)
    refine lv_goto (tgt := 23) hx hb dL_lineFor_12 (by decide) ?_
    refine lv_iconst (v := 0) hx hb dL_lineFor_23 (by decide) ?_
    replace ex5 := Eq.symm ex5
    subst ex5
    exact E _ _ _ _ _ _ _ _ _ _ dL_lineFor_24 (t31 ((fL_lineFor.eq_1 _ _ _ _ _ _ _).trans ((if_pos c2).trans rfl))) (t32 ((fL_lineFor.eq_1 _ _ _ _ _ _ _).trans ((if_pos c2).trans rfl))) (t33 ((fL_lineFor.eq_1 _ _ _ _ _ _ _).trans ((if_pos c2).trans rfl))) hH hS (Nat.le_of_ble_eq_true rfl) (Nat.le_of_ble_eq_true rfl)
theorem k_L_lineFor {p : Program} {l : Launch} {e : Env} {R : Room} {s : State} {m : MethodId} {args : Array Value} {below : List Frame} {meth : Method} {c : Code} {H : Heap} {locs : List Loc} {cells slots : Nat} {Q : State → Prop} {cc : ByteArray} {pc nL : Nat} {ls : Array Slot} {rest : List Value} {G : gG} {own : String} {da : Nat → Nat} {v : vSt} {x : gX} (hst : l.stackTraces = false) (X : CX G p s m args c cc nL own) (hS : va_S (gA G) s.heap H locs) (hN : NC s) (hH : Hp G da v x H) {o1 : Nat} (hk_o1 : kd o1 = 10) {p1 : Int32} {p2 : Int32} {p3 : Int32} {o2 : Nat} (hk_o2 : kd o2 = 34) (ho : oL_lineFor o1 p1 p2 p3 o2 v x) {idx : Nat} (hml : Cond.methodLink own idx yL_lineFor ∈ TT) (hls : ls.size = nL) (hsum : (rest.map fun v => v.category).sum ≤ 8) (hR : rmL_lineFor.frames + 1 ≤ R.frames ∧ 8 + (6 + 11) + rmL_lineFor.locals ≤ R.locals) (hcs : cells + 12 ≤ R.cells ∧ slots + 12 ≤ R.slots) (hdg : decode cc pc = .ok (.invokestatic idx, 3)) (kk : ∀ (d : Nat → Nat) (H1 : Heap) (locs1 : List Loc) (v1 : vSt) (x1 : gX), v1 = (fL_lineFor o1 p1 p2 p3 o2 v x).2.1 → x1 = (fL_lineFor o1 p1 p2 p3 o2 v x).2.2 → Hp G d v1 x1 H1 → va_S (gA G) s.heap H1 locs1 → W p l e R s m args below meth c H1 locs1 (cells + 12) (slots + 12) Q (F0 m (pc + 3) ls (.int (fL_lineFor o1 p1 p2 p3 o2 v x).1 :: rest))) : W p l e R s m args below meth c H locs cells slots Q (F0 m pc ls (.ref (ga G o2) :: .int p3 :: .int p2 :: .int p1 :: .ref (ga G o1) :: rest)) := c_li (runLS (kp := 5) X.1 X.2.1 X.2.2.1 X.2.2.2.1 X.2.2.2.2.1 (mL_lineFor l hst G da v x o1 hk_o1 p1 p2 p3 o2 hk_o2 ho) pN_bl hml t_st_L_lineFor t_ini_VernierDrawersLaw t_code_L_lineFor ⟨by decide, by decide, by decide +kernel⟩ rfl rfl hR hcs (preN X hN hS hH) rfl hls rfl hsum hdg) hS (fun d9 H9 L9 hH9 => kk d9 H9 L9 _ _ rfl rfl hH9)
def fL_offBy (o1 : Nat) (p1 : Int32) (p2 : Int32) (p3 : Int32) (o2 : Nat) (v : vSt) (x : gX) : Int32 × vSt × gX := if (fX10_offBy o1 p1 p2 p3 v).1 = 0 then (let x5 : gX := xu x o2 (0 : Int32).toNatClampNeg (((fX10_offBy o1 p1 p2 p3 v).2 : Int32).toInt64); (0, v, x5)) else (if (fX10_offBy o1 p1 p2 p3 v).1 = 1 then ((1, v, x)) else ((2, v, x)))
def oL_offBy (o1 : Nat) (p1 : Int32) (p2 : Int32) (p3 : Int32) (o2 : Nat) (v : vSt) (x : gX) : Prop := (oX10_offBy o1 p1 p2 p3 v) ∧ (¬ ((fX10_offBy o1 p1 p2 p3 v).1 = 0) → (¬ ((fX10_offBy o1 p1 p2 p3 v).1 = 1) → ((fX10_offBy o1 p1 p2 p3 v).1 = 3)))
abbrev rmL_offBy : Room := { frames := 9, cells := 12, slots := 12, locals := 159 }
theorem dL_offBy_0 : decode cL_offBy 0 = .ok (.aload 4, 2) := by decide +kernel
theorem dL_offBy_2 : decode cL_offBy 2 = .ok (.iconst 0, 1) := by decide +kernel
theorem dL_offBy_3 : decode cL_offBy 3 = .ok (.aload_n 0, 1) := by decide +kernel
theorem dL_offBy_4 : decode cL_offBy 4 = .ok (.iload_n 1, 1) := by decide +kernel
theorem dL_offBy_5 : decode cL_offBy 5 = .ok (.iload_n 2, 1) := by decide +kernel
theorem dL_offBy_6 : decode cL_offBy 6 = .ok (.iload_n 3, 1) := by decide +kernel
theorem dL_offBy_7 : decode cL_offBy 7 = .ok (.invokevirtual 96, 3) := by decide +kernel
theorem dL_offBy_10 : decode cL_offBy 10 = .ok (.i2l, 1) := by decide +kernel
theorem dL_offBy_11 : decode cL_offBy 11 = .ok (.lastore, 1) := by decide +kernel
theorem dL_offBy_12 : decode cL_offBy 12 = .ok (.goto 11, 3) := by decide +kernel
theorem dL_offBy_15 : decode cL_offBy 15 = .ok (.astore 5, 2) := by decide +kernel
theorem dL_offBy_17 : decode cL_offBy 17 = .ok (.iconst 1, 1) := by decide +kernel
theorem dL_offBy_18 : decode cL_offBy 18 = .ok (.ireturn, 1) := by decide +kernel
theorem dL_offBy_19 : decode cL_offBy 19 = .ok (.astore 5, 2) := by decide +kernel
theorem dL_offBy_21 : decode cL_offBy 21 = .ok (.iconst 2, 1) := by decide +kernel
theorem dL_offBy_22 : decode cL_offBy 22 = .ok (.ireturn, 1) := by decide +kernel
theorem dL_offBy_23 : decode cL_offBy 23 = .ok (.iconst 0, 1) := by decide +kernel
theorem dL_offBy_24 : decode cL_offBy 24 = .ok (.ireturn, 1) := by decide +kernel
set_option maxHeartbeats 8000000 in
set_option maxRecDepth 100000 in
theorem mL_offBy (l : Launch) (hst : l.stackTraces = false) (G : gG) (da : Nat → Nat) (v : vSt) (x : gX) (o1 : Nat) (hk_o1 : kd o1 = 10) (p1 : Int32) (p2 : Int32) (p3 : Int32) (o2 : Nat) (hk_o2 : kd o2 = 34) (ho : oL_offBy o1 p1 p2 p3 o2 v x) : LI l yL_offBy cL_offBy 6 [((0 : Nat), (12 : Nat), (15 : Nat), (13 : Nat)), ((0 : Nat), (12 : Nat), (19 : Nat), (85 : Nat))] rmL_offBy [.ref (ga G o1), .int p1, .int p2, .int p3, .ref (ga G o2)] G da v x 12 12 (fL_offBy o1 p1 p2 p3 o2 v x).1 (fL_offBy o1 p1 p2 p3 o2 v x).2.1 (fL_offBy o1 p1 p2 p3 o2 v x).2.2 := by
  refine gofL (by decide) rfl (Nat.le_of_ble_eq_true rfl) (fun p e s m args below meth c ls Q X hN htab hH hl E => ?_)
  have hx := X.1
  have hb := X.2.1
  have hown := X.2.2.2.1
  have hts := X.2.2.2.2.1
  have hS : va_S (gA G) s.heap s.heap [] := va_S.rf
  unfold oL_offBy at ho
  have hl : lv_has ls 6 [(0, .ref (ga G o1)), (1, .int p1), (2, .int p2), (3, .int p3), (4, .ref (ga G o2))] := hl
  refine lv_aload hx hb dL_offBy_0 (lv_at hl 4 rfl) ?_
  refine lv_iconst (v := 0) hx hb dL_offBy_2 (by decide) ?_
  refine lv_aload_n hx hb dL_offBy_3 rfl (lv_at hl 0 rfl) ?_
  refine lv_iload_n hx hb dL_offBy_4 rfl (lv_at hl 1 rfl) ?_
  refine lv_iload_n hx hb dL_offBy_5 rfl (lv_at hl 2 rfl) ?_
  refine lv_iload_n hx hb dL_offBy_6 rfl (lv_at hl 3 rfl) ?_
  have hq1 := ho.1
  have ho := ho.2
  refine k_X10_offBy hst X hS hH hk_o1 hq1 t_ml_VernierDrawersLaw_96 hl.1 (Nat.le_of_ble_eq_true rfl) ⟨Nat.le_of_ble_eq_true rfl, Nat.le_of_ble_eq_true rfl⟩ ⟨(Nat.le_of_ble_eq_true rfl), (Nat.le_of_ble_eq_true rfl)⟩ dL_offBy_7 (fun c2 da ce9 q9 H locs hH hS g1 g2 g3 => ?_) (fun c2 da H locs hH hS => ?_)
  · have ho := ho c2
    refine (Decidable.em ((fX10_offBy o1 p1 p2 p3 v).1 = 1)).elim (fun c3 => ?_) (fun c3 => ?_)
    · skip
      refine t_c1 (k := 1) X htab rfl g1 g2 (c3 ▸ g3) ?_
      refine lv_astore (lv' := [(5, .ref q9), (0, .ref (ga G o1)), (1, .int p1), (2, .int p2), (3, .int p3), (4, .ref (ga G o2))]) hx hb dL_offBy_15 hl (by decide) rfl (fun ls hl => ?_)
      refine lv_iconst (v := 1) hx hb dL_offBy_17 (by decide) ?_
      exact E _ _ _ _ _ _ _ _ _ _ dL_offBy_18 (t31 ((fL_offBy.eq_1 _ _ _ _ _ _ _).trans ((if_neg c2).trans ((if_pos c3).trans rfl)))) (t32 ((fL_offBy.eq_1 _ _ _ _ _ _ _).trans ((if_neg c2).trans ((if_pos c3).trans rfl)))) (t33 ((fL_offBy.eq_1 _ _ _ _ _ _ _).trans ((if_neg c2).trans ((if_pos c3).trans rfl)))) hH hS (Nat.le_of_ble_eq_true rfl) (Nat.le_of_ble_eq_true rfl)
    · have ho := ho c3
      have hq4 := ho
      refine t_c2 (k := 3) X hN htab (by decide) rfl g1 g2 (hq4 ▸ g3) ?_
      refine lv_astore (lv' := [(5, .ref q9), (0, .ref (ga G o1)), (1, .int p1), (2, .int p2), (3, .int p3), (4, .ref (ga G o2))]) hx hb dL_offBy_19 hl (by decide) rfl (fun ls hl => ?_)
      refine lv_iconst (v := 2) hx hb dL_offBy_21 (by decide) ?_
      exact E _ _ _ _ _ _ _ _ _ _ dL_offBy_22 (t31 ((fL_offBy.eq_1 _ _ _ _ _ _ _).trans ((if_neg c2).trans ((if_neg c3).trans rfl)))) (t32 ((fL_offBy.eq_1 _ _ _ _ _ _ _).trans ((if_neg c2).trans ((if_neg c3).trans rfl)))) (t33 ((fL_offBy.eq_1 _ _ _ _ _ _ _).trans ((if_neg c2).trans ((if_neg c3).trans rfl)))) hH hS (Nat.le_of_ble_eq_true rfl) (Nat.le_of_ble_eq_true rfl)
  · skip
    refine lv_i2l (v := ((fX10_offBy o1 p1 p2 p3 v).2 : Int32).toInt64) hx hb dL_offBy_10 rfl ?_
    refine last_34 X hH hS hk_o2 (i_in (by decide) (by decide)) dL_offBy_11 (fun H locs x5 ex5 hH hS => ?_)
    refine lv_goto (tgt := 23) hx hb dL_offBy_12 (by decide) ?_
    refine lv_iconst (v := 0) hx hb dL_offBy_23 (by decide) ?_
    replace ex5 := Eq.symm ex5
    subst ex5
    exact E _ _ _ _ _ _ _ _ _ _ dL_offBy_24 (t31 ((fL_offBy.eq_1 _ _ _ _ _ _ _).trans ((if_pos c2).trans rfl))) (t32 ((fL_offBy.eq_1 _ _ _ _ _ _ _).trans ((if_pos c2).trans rfl))) (t33 ((fL_offBy.eq_1 _ _ _ _ _ _ _).trans ((if_pos c2).trans rfl))) hH hS (Nat.le_of_ble_eq_true rfl) (Nat.le_of_ble_eq_true rfl)
theorem k_L_offBy {p : Program} {l : Launch} {e : Env} {R : Room} {s : State} {m : MethodId} {args : Array Value} {below : List Frame} {meth : Method} {c : Code} {H : Heap} {locs : List Loc} {cells slots : Nat} {Q : State → Prop} {cc : ByteArray} {pc nL : Nat} {ls : Array Slot} {rest : List Value} {G : gG} {own : String} {da : Nat → Nat} {v : vSt} {x : gX} (hst : l.stackTraces = false) (X : CX G p s m args c cc nL own) (hS : va_S (gA G) s.heap H locs) (hN : NC s) (hH : Hp G da v x H) {o1 : Nat} (hk_o1 : kd o1 = 10) {p1 : Int32} {p2 : Int32} {p3 : Int32} {o2 : Nat} (hk_o2 : kd o2 = 34) (ho : oL_offBy o1 p1 p2 p3 o2 v x) {idx : Nat} (hml : Cond.methodLink own idx yL_offBy ∈ TT) (hls : ls.size = nL) (hsum : (rest.map fun v => v.category).sum ≤ 8) (hR : rmL_offBy.frames + 1 ≤ R.frames ∧ 8 + (6 + 11) + rmL_offBy.locals ≤ R.locals) (hcs : cells + 12 ≤ R.cells ∧ slots + 12 ≤ R.slots) (hdg : decode cc pc = .ok (.invokestatic idx, 3)) (kk : ∀ (d : Nat → Nat) (H1 : Heap) (locs1 : List Loc) (v1 : vSt) (x1 : gX), v1 = (fL_offBy o1 p1 p2 p3 o2 v x).2.1 → x1 = (fL_offBy o1 p1 p2 p3 o2 v x).2.2 → Hp G d v1 x1 H1 → va_S (gA G) s.heap H1 locs1 → W p l e R s m args below meth c H1 locs1 (cells + 12) (slots + 12) Q (F0 m (pc + 3) ls (.int (fL_offBy o1 p1 p2 p3 o2 v x).1 :: rest))) : W p l e R s m args below meth c H locs cells slots Q (F0 m pc ls (.ref (ga G o2) :: .int p3 :: .int p2 :: .int p1 :: .ref (ga G o1) :: rest)) := c_li (runLS (kp := 5) X.1 X.2.1 X.2.2.1 X.2.2.2.1 X.2.2.2.2.1 (mL_offBy l hst G da v x o1 hk_o1 p1 p2 p3 o2 hk_o2 ho) pN_bl hml t_st_L_offBy t_ini_VernierDrawersLaw t_code_L_offBy ⟨by decide, by decide, by decide +kernel⟩ rfl rfl hR hcs (preN X hN hS hH) rfl hls rfl hsum hdg) hS (fun d9 H9 L9 hH9 => kk d9 H9 L9 _ _ rfl rfl hH9)
def fL_blockLength (o1 : Nat) (p1 : Int32) (o2 : Nat) (v : vSt) (x : gX) : Int32 × vSt × gX := if (fX10_blockLength o1 p1 v).1 = 0 then (let x4 : gX := xu x o2 (0 : Int32).toNatClampNeg (((fX10_blockLength o1 p1 v).2 : Int32).toInt64); (0, v, x4)) else ((1, v, x))
def oL_blockLength (o1 : Nat) (p1 : Int32) (o2 : Nat) (v : vSt) (x : gX) : Prop := (oX10_blockLength o1 p1 v) ∧ (¬ ((fX10_blockLength o1 p1 v).1 = 0) → ((fX10_blockLength o1 p1 v).1 = 1))
abbrev rmL_blockLength : Room := { frames := 8, cells := 6, slots := 6, locals := 132 }
theorem dL_blockLength_0 : decode cL_blockLength 0 = .ok (.aload_n 2, 1) := by decide +kernel
theorem dL_blockLength_1 : decode cL_blockLength 1 = .ok (.iconst 0, 1) := by decide +kernel
theorem dL_blockLength_2 : decode cL_blockLength 2 = .ok (.aload_n 0, 1) := by decide +kernel
theorem dL_blockLength_3 : decode cL_blockLength 3 = .ok (.iload_n 1, 1) := by decide +kernel
theorem dL_blockLength_4 : decode cL_blockLength 4 = .ok (.invokevirtual 99, 3) := by decide +kernel
theorem dL_blockLength_7 : decode cL_blockLength 7 = .ok (.i2l, 1) := by decide +kernel
theorem dL_blockLength_8 : decode cL_blockLength 8 = .ok (.lastore, 1) := by decide +kernel
theorem dL_blockLength_9 : decode cL_blockLength 9 = .ok (.goto 6, 3) := by decide +kernel
theorem dL_blockLength_12 : decode cL_blockLength 12 = .ok (.astore_n 3, 1) := by decide +kernel
theorem dL_blockLength_13 : decode cL_blockLength 13 = .ok (.iconst 1, 1) := by decide +kernel
theorem dL_blockLength_14 : decode cL_blockLength 14 = .ok (.ireturn, 1) := by decide +kernel
theorem dL_blockLength_15 : decode cL_blockLength 15 = .ok (.iconst 0, 1) := by decide +kernel
theorem dL_blockLength_16 : decode cL_blockLength 16 = .ok (.ireturn, 1) := by decide +kernel
set_option maxHeartbeats 8000000 in
set_option maxRecDepth 100000 in
theorem mL_blockLength (l : Launch) (hst : l.stackTraces = false) (G : gG) (da : Nat → Nat) (v : vSt) (x : gX) (o1 : Nat) (hk_o1 : kd o1 = 10) (p1 : Int32) (o2 : Nat) (hk_o2 : kd o2 = 34) (ho : oL_blockLength o1 p1 o2 v x) : LI l yL_blockLength cL_blockLength 4 [((0 : Nat), (9 : Nat), (12 : Nat), (13 : Nat))] rmL_blockLength [.ref (ga G o1), .int p1, .ref (ga G o2)] G da v x 6 6 (fL_blockLength o1 p1 o2 v x).1 (fL_blockLength o1 p1 o2 v x).2.1 (fL_blockLength o1 p1 o2 v x).2.2 := by
  refine gofL (by decide) rfl (Nat.le_of_ble_eq_true rfl) (fun p e s m args below meth c ls Q X hN htab hH hl E => ?_)
  have hx := X.1
  have hb := X.2.1
  have hown := X.2.2.2.1
  have hts := X.2.2.2.2.1
  have hS : va_S (gA G) s.heap s.heap [] := va_S.rf
  unfold oL_blockLength at ho
  have hl : lv_has ls 4 [(0, .ref (ga G o1)), (1, .int p1), (2, .ref (ga G o2))] := hl
  refine lv_aload_n hx hb dL_blockLength_0 rfl (lv_at hl 2 rfl) ?_
  refine lv_iconst (v := 0) hx hb dL_blockLength_1 (by decide) ?_
  refine lv_aload_n hx hb dL_blockLength_2 rfl (lv_at hl 0 rfl) ?_
  refine lv_iload_n hx hb dL_blockLength_3 rfl (lv_at hl 1 rfl) ?_
  have hq1 := ho.1
  have ho := ho.2
  refine k_X10_blockLength hst X hS hH hk_o1 hq1 t_ml_VernierDrawersLaw_99 hl.1 (Nat.le_of_ble_eq_true rfl) ⟨Nat.le_of_ble_eq_true rfl, Nat.le_of_ble_eq_true rfl⟩ ⟨(Nat.le_of_ble_eq_true rfl), (Nat.le_of_ble_eq_true rfl)⟩ dL_blockLength_4 (fun c2 da ce9 q9 H locs hH hS g1 g2 g3 => ?_) (fun c2 da H locs hH hS => ?_)
  · have ho := ho c2
    have hq3 := ho
    refine t_c1 (k := 1) X htab rfl g1 g2 (hq3 ▸ g3) ?_
    refine lv_astore_n (lv' := [(3, .ref q9), (0, .ref (ga G o1)), (1, .int p1), (2, .ref (ga G o2))]) hx hb dL_blockLength_12 rfl hl (by decide) rfl (fun ls hl => ?_)
    refine lv_iconst (v := 1) hx hb dL_blockLength_13 (by decide) ?_
    exact E _ _ _ _ _ _ _ _ _ _ dL_blockLength_14 (t31 ((fL_blockLength.eq_1 _ _ _ _ _).trans ((if_neg c2).trans rfl))) (t32 ((fL_blockLength.eq_1 _ _ _ _ _).trans ((if_neg c2).trans rfl))) (t33 ((fL_blockLength.eq_1 _ _ _ _ _).trans ((if_neg c2).trans rfl))) hH hS (Nat.le_of_ble_eq_true rfl) (Nat.le_of_ble_eq_true rfl)
  · skip
    refine lv_i2l (v := ((fX10_blockLength o1 p1 v).2 : Int32).toInt64) hx hb dL_blockLength_7 rfl ?_
    refine last_34 X hH hS hk_o2 (i_in (by decide) (by decide)) dL_blockLength_8 (fun H locs x4 ex4 hH hS => ?_)
    refine lv_goto (tgt := 15) hx hb dL_blockLength_9 (by decide) ?_
    refine lv_iconst (v := 0) hx hb dL_blockLength_15 (by decide) ?_
    replace ex4 := Eq.symm ex4
    subst ex4
    exact E _ _ _ _ _ _ _ _ _ _ dL_blockLength_16 (t31 ((fL_blockLength.eq_1 _ _ _ _ _).trans ((if_pos c2).trans rfl))) (t32 ((fL_blockLength.eq_1 _ _ _ _ _).trans ((if_pos c2).trans rfl))) (t33 ((fL_blockLength.eq_1 _ _ _ _ _).trans ((if_pos c2).trans rfl))) hH hS (Nat.le_of_ble_eq_true rfl) (Nat.le_of_ble_eq_true rfl)
theorem k_L_blockLength {p : Program} {l : Launch} {e : Env} {R : Room} {s : State} {m : MethodId} {args : Array Value} {below : List Frame} {meth : Method} {c : Code} {H : Heap} {locs : List Loc} {cells slots : Nat} {Q : State → Prop} {cc : ByteArray} {pc nL : Nat} {ls : Array Slot} {rest : List Value} {G : gG} {own : String} {da : Nat → Nat} {v : vSt} {x : gX} (hst : l.stackTraces = false) (X : CX G p s m args c cc nL own) (hS : va_S (gA G) s.heap H locs) (hN : NC s) (hH : Hp G da v x H) {o1 : Nat} (hk_o1 : kd o1 = 10) {p1 : Int32} {o2 : Nat} (hk_o2 : kd o2 = 34) (ho : oL_blockLength o1 p1 o2 v x) {idx : Nat} (hml : Cond.methodLink own idx yL_blockLength ∈ TT) (hls : ls.size = nL) (hsum : (rest.map fun v => v.category).sum ≤ 8) (hR : rmL_blockLength.frames + 1 ≤ R.frames ∧ 8 + (4 + 11) + rmL_blockLength.locals ≤ R.locals) (hcs : cells + 6 ≤ R.cells ∧ slots + 6 ≤ R.slots) (hdg : decode cc pc = .ok (.invokestatic idx, 3)) (kk : ∀ (d : Nat → Nat) (H1 : Heap) (locs1 : List Loc) (v1 : vSt) (x1 : gX), v1 = (fL_blockLength o1 p1 o2 v x).2.1 → x1 = (fL_blockLength o1 p1 o2 v x).2.2 → Hp G d v1 x1 H1 → va_S (gA G) s.heap H1 locs1 → W p l e R s m args below meth c H1 locs1 (cells + 6) (slots + 6) Q (F0 m (pc + 3) ls (.int (fL_blockLength o1 p1 o2 v x).1 :: rest))) : W p l e R s m args below meth c H locs cells slots Q (F0 m pc ls (.ref (ga G o2) :: .int p1 :: .ref (ga G o1) :: rest)) := c_li (runLS (kp := 3) X.1 X.2.1 X.2.2.1 X.2.2.2.1 X.2.2.2.2.1 (mL_blockLength l hst G da v x o1 hk_o1 p1 o2 hk_o2 ho) pN_bl hml t_st_L_blockLength t_ini_VernierDrawersLaw t_code_L_blockLength ⟨by decide, by decide, by decide +kernel⟩ rfl rfl hR hcs (preN X hN hS hH) rfl hls rfl hsum hdg) hS (fun d9 H9 L9 hH9 => kk d9 H9 L9 _ _ rfl rfl hH9)
def fL_blockError (o1 : Nat) (p1 : Int32) (o2 : Nat) (v : vSt) (x : gX) : Int32 × vSt × gX := if (fX10_blockError o1 p1 v).1 = 0 then (let x4 : gX := xu x o2 (0 : Int32).toNatClampNeg (((fX10_blockError o1 p1 v).2 : Int32).toInt64); (0, v, x4)) else ((1, v, x))
def oL_blockError (o1 : Nat) (p1 : Int32) (o2 : Nat) (v : vSt) (x : gX) : Prop := (oX10_blockError o1 p1 v) ∧ (¬ ((fX10_blockError o1 p1 v).1 = 0) → ((fX10_blockError o1 p1 v).1 = 1))
abbrev rmL_blockError : Room := { frames := 8, cells := 6, slots := 6, locals := 132 }
theorem dL_blockError_0 : decode cL_blockError 0 = .ok (.aload_n 2, 1) := by decide +kernel
theorem dL_blockError_1 : decode cL_blockError 1 = .ok (.iconst 0, 1) := by decide +kernel
theorem dL_blockError_2 : decode cL_blockError 2 = .ok (.aload_n 0, 1) := by decide +kernel
theorem dL_blockError_3 : decode cL_blockError 3 = .ok (.iload_n 1, 1) := by decide +kernel
theorem dL_blockError_4 : decode cL_blockError 4 = .ok (.invokevirtual 102, 3) := by decide +kernel
theorem dL_blockError_7 : decode cL_blockError 7 = .ok (.i2l, 1) := by decide +kernel
theorem dL_blockError_8 : decode cL_blockError 8 = .ok (.lastore, 1) := by decide +kernel
theorem dL_blockError_9 : decode cL_blockError 9 = .ok (.goto 6, 3) := by decide +kernel
theorem dL_blockError_12 : decode cL_blockError 12 = .ok (.astore_n 3, 1) := by decide +kernel
theorem dL_blockError_13 : decode cL_blockError 13 = .ok (.iconst 1, 1) := by decide +kernel
theorem dL_blockError_14 : decode cL_blockError 14 = .ok (.ireturn, 1) := by decide +kernel
theorem dL_blockError_15 : decode cL_blockError 15 = .ok (.iconst 0, 1) := by decide +kernel
theorem dL_blockError_16 : decode cL_blockError 16 = .ok (.ireturn, 1) := by decide +kernel
set_option maxHeartbeats 8000000 in
set_option maxRecDepth 100000 in
theorem mL_blockError (l : Launch) (hst : l.stackTraces = false) (G : gG) (da : Nat → Nat) (v : vSt) (x : gX) (o1 : Nat) (hk_o1 : kd o1 = 10) (p1 : Int32) (o2 : Nat) (hk_o2 : kd o2 = 34) (ho : oL_blockError o1 p1 o2 v x) : LI l yL_blockError cL_blockError 4 [((0 : Nat), (9 : Nat), (12 : Nat), (13 : Nat))] rmL_blockError [.ref (ga G o1), .int p1, .ref (ga G o2)] G da v x 6 6 (fL_blockError o1 p1 o2 v x).1 (fL_blockError o1 p1 o2 v x).2.1 (fL_blockError o1 p1 o2 v x).2.2 := by
  refine gofL (by decide) rfl (Nat.le_of_ble_eq_true rfl) (fun p e s m args below meth c ls Q X hN htab hH hl E => ?_)
  have hx := X.1
  have hb := X.2.1
  have hown := X.2.2.2.1
  have hts := X.2.2.2.2.1
  have hS : va_S (gA G) s.heap s.heap [] := va_S.rf
  unfold oL_blockError at ho
  have hl : lv_has ls 4 [(0, .ref (ga G o1)), (1, .int p1), (2, .ref (ga G o2))] := hl
  refine lv_aload_n hx hb dL_blockError_0 rfl (lv_at hl 2 rfl) ?_
  refine lv_iconst (v := 0) hx hb dL_blockError_1 (by decide) ?_
  refine lv_aload_n hx hb dL_blockError_2 rfl (lv_at hl 0 rfl) ?_
  refine lv_iload_n hx hb dL_blockError_3 rfl (lv_at hl 1 rfl) ?_
  have hq1 := ho.1
  have ho := ho.2
  refine k_X10_blockError hst X hS hH hk_o1 hq1 t_ml_VernierDrawersLaw_102 hl.1 (Nat.le_of_ble_eq_true rfl) ⟨Nat.le_of_ble_eq_true rfl, Nat.le_of_ble_eq_true rfl⟩ ⟨(Nat.le_of_ble_eq_true rfl), (Nat.le_of_ble_eq_true rfl)⟩ dL_blockError_4 (fun c2 da ce9 q9 H locs hH hS g1 g2 g3 => ?_) (fun c2 da H locs hH hS => ?_)
  · have ho := ho c2
    have hq3 := ho
    refine t_c1 (k := 1) X htab rfl g1 g2 (hq3 ▸ g3) ?_
    refine lv_astore_n (lv' := [(3, .ref q9), (0, .ref (ga G o1)), (1, .int p1), (2, .ref (ga G o2))]) hx hb dL_blockError_12 rfl hl (by decide) rfl (fun ls hl => ?_)
    refine lv_iconst (v := 1) hx hb dL_blockError_13 (by decide) ?_
    exact E _ _ _ _ _ _ _ _ _ _ dL_blockError_14 (t31 ((fL_blockError.eq_1 _ _ _ _ _).trans ((if_neg c2).trans rfl))) (t32 ((fL_blockError.eq_1 _ _ _ _ _).trans ((if_neg c2).trans rfl))) (t33 ((fL_blockError.eq_1 _ _ _ _ _).trans ((if_neg c2).trans rfl))) hH hS (Nat.le_of_ble_eq_true rfl) (Nat.le_of_ble_eq_true rfl)
  · skip
    refine lv_i2l (v := ((fX10_blockError o1 p1 v).2 : Int32).toInt64) hx hb dL_blockError_7 rfl ?_
    refine last_34 X hH hS hk_o2 (i_in (by decide) (by decide)) dL_blockError_8 (fun H locs x4 ex4 hH hS => ?_)
    refine lv_goto (tgt := 15) hx hb dL_blockError_9 (by decide) ?_
    refine lv_iconst (v := 0) hx hb dL_blockError_15 (by decide) ?_
    replace ex4 := Eq.symm ex4
    subst ex4
    exact E _ _ _ _ _ _ _ _ _ _ dL_blockError_16 (t31 ((fL_blockError.eq_1 _ _ _ _ _).trans ((if_pos c2).trans rfl))) (t32 ((fL_blockError.eq_1 _ _ _ _ _).trans ((if_pos c2).trans rfl))) (t33 ((fL_blockError.eq_1 _ _ _ _ _).trans ((if_pos c2).trans rfl))) hH hS (Nat.le_of_ble_eq_true rfl) (Nat.le_of_ble_eq_true rfl)
theorem k_L_blockError {p : Program} {l : Launch} {e : Env} {R : Room} {s : State} {m : MethodId} {args : Array Value} {below : List Frame} {meth : Method} {c : Code} {H : Heap} {locs : List Loc} {cells slots : Nat} {Q : State → Prop} {cc : ByteArray} {pc nL : Nat} {ls : Array Slot} {rest : List Value} {G : gG} {own : String} {da : Nat → Nat} {v : vSt} {x : gX} (hst : l.stackTraces = false) (X : CX G p s m args c cc nL own) (hS : va_S (gA G) s.heap H locs) (hN : NC s) (hH : Hp G da v x H) {o1 : Nat} (hk_o1 : kd o1 = 10) {p1 : Int32} {o2 : Nat} (hk_o2 : kd o2 = 34) (ho : oL_blockError o1 p1 o2 v x) {idx : Nat} (hml : Cond.methodLink own idx yL_blockError ∈ TT) (hls : ls.size = nL) (hsum : (rest.map fun v => v.category).sum ≤ 8) (hR : rmL_blockError.frames + 1 ≤ R.frames ∧ 8 + (4 + 11) + rmL_blockError.locals ≤ R.locals) (hcs : cells + 6 ≤ R.cells ∧ slots + 6 ≤ R.slots) (hdg : decode cc pc = .ok (.invokestatic idx, 3)) (kk : ∀ (d : Nat → Nat) (H1 : Heap) (locs1 : List Loc) (v1 : vSt) (x1 : gX), v1 = (fL_blockError o1 p1 o2 v x).2.1 → x1 = (fL_blockError o1 p1 o2 v x).2.2 → Hp G d v1 x1 H1 → va_S (gA G) s.heap H1 locs1 → W p l e R s m args below meth c H1 locs1 (cells + 6) (slots + 6) Q (F0 m (pc + 3) ls (.int (fL_blockError o1 p1 o2 v x).1 :: rest))) : W p l e R s m args below meth c H locs cells slots Q (F0 m pc ls (.ref (ga G o2) :: .int p1 :: .ref (ga G o1) :: rest)) := c_li (runLS (kp := 3) X.1 X.2.1 X.2.2.1 X.2.2.2.1 X.2.2.2.2.1 (mL_blockError l hst G da v x o1 hk_o1 p1 o2 hk_o2 ho) pN_bl hml t_st_L_blockError t_ini_VernierDrawersLaw t_code_L_blockError ⟨by decide, by decide, by decide +kernel⟩ rfl rfl hR hcs (preN X hN hS hH) rfl hls rfl hsum hdg) hS (fun d9 H9 L9 hH9 => kk d9 H9 L9 _ _ rfl rfl hH9)
def fL_fewestBlocks (o1 : Nat) (p1 : Int32) (o2 : Nat) (v : vSt) (x : gX) : Int32 × vSt × gX := if (fX10_fewestBlocks o1 p1 v x).1 = 0 then (let x3 : gX := (fX10_fewestBlocks o1 p1 v x).2.2; let x6 : gX := xu x3 o2 (0 : Int32).toNatClampNeg (((fX10_fewestBlocks o1 p1 v x).2.1 : Int32).toInt64); (0, v, x6)) else (let x3 : gX := (fX10_fewestBlocks o1 p1 v x).2.2; if (fX10_fewestBlocks o1 p1 v x).1 = 1 then ((1, v, x3)) else ((2, v, x3)))
def oL_fewestBlocks (o1 : Nat) (p1 : Int32) (o2 : Nat) (v : vSt) (x : gX) : Prop := (oX10_fewestBlocks o1 p1 v x) ∧ (¬ ((fX10_fewestBlocks o1 p1 v x).1 = 0) → (∀ x3 : gX, x3 = ((fX10_fewestBlocks o1 p1 v x).2.2) → (¬ ((fX10_fewestBlocks o1 p1 v x).1 = 1) → ((fX10_fewestBlocks o1 p1 v x).1 = 3))))
abbrev rmL_fewestBlocks : Room := { frames := 8, cells := 18, slots := 18, locals := 132 }
theorem dL_fewestBlocks_0 : decode cL_fewestBlocks 0 = .ok (.aload_n 2, 1) := by decide +kernel
theorem dL_fewestBlocks_1 : decode cL_fewestBlocks 1 = .ok (.iconst 0, 1) := by decide +kernel
theorem dL_fewestBlocks_2 : decode cL_fewestBlocks 2 = .ok (.aload_n 0, 1) := by decide +kernel
theorem dL_fewestBlocks_3 : decode cL_fewestBlocks 3 = .ok (.iload_n 1, 1) := by decide +kernel
theorem dL_fewestBlocks_4 : decode cL_fewestBlocks 4 = .ok (.invokevirtual 105, 3) := by decide +kernel
theorem dL_fewestBlocks_7 : decode cL_fewestBlocks 7 = .ok (.i2l, 1) := by decide +kernel
theorem dL_fewestBlocks_8 : decode cL_fewestBlocks 8 = .ok (.lastore, 1) := by decide +kernel
theorem dL_fewestBlocks_9 : decode cL_fewestBlocks 9 = .ok (.goto 9, 3) := by decide +kernel
theorem dL_fewestBlocks_12 : decode cL_fewestBlocks 12 = .ok (.astore_n 3, 1) := by decide +kernel
theorem dL_fewestBlocks_13 : decode cL_fewestBlocks 13 = .ok (.iconst 1, 1) := by decide +kernel
theorem dL_fewestBlocks_14 : decode cL_fewestBlocks 14 = .ok (.ireturn, 1) := by decide +kernel
theorem dL_fewestBlocks_15 : decode cL_fewestBlocks 15 = .ok (.astore_n 3, 1) := by decide +kernel
theorem dL_fewestBlocks_16 : decode cL_fewestBlocks 16 = .ok (.iconst 2, 1) := by decide +kernel
theorem dL_fewestBlocks_17 : decode cL_fewestBlocks 17 = .ok (.ireturn, 1) := by decide +kernel
theorem dL_fewestBlocks_18 : decode cL_fewestBlocks 18 = .ok (.iconst 0, 1) := by decide +kernel
theorem dL_fewestBlocks_19 : decode cL_fewestBlocks 19 = .ok (.ireturn, 1) := by decide +kernel
set_option maxHeartbeats 8000000 in
set_option maxRecDepth 100000 in
theorem mL_fewestBlocks (l : Launch) (hst : l.stackTraces = false) (G : gG) (da : Nat → Nat) (v : vSt) (x : gX) (o1 : Nat) (hk_o1 : kd o1 = 10) (p1 : Int32) (o2 : Nat) (hk_o2 : kd o2 = 34) (ho : oL_fewestBlocks o1 p1 o2 v x) : LI l yL_fewestBlocks cL_fewestBlocks 4 [((0 : Nat), (9 : Nat), (12 : Nat), (13 : Nat)), ((0 : Nat), (9 : Nat), (15 : Nat), (85 : Nat))] rmL_fewestBlocks [.ref (ga G o1), .int p1, .ref (ga G o2)] G da v x 18 18 (fL_fewestBlocks o1 p1 o2 v x).1 (fL_fewestBlocks o1 p1 o2 v x).2.1 (fL_fewestBlocks o1 p1 o2 v x).2.2 := by
  refine gofL (by decide) rfl (Nat.le_of_ble_eq_true rfl) (fun p e s m args below meth c ls Q X hN htab hH hl E => ?_)
  have hx := X.1
  have hb := X.2.1
  have hown := X.2.2.2.1
  have hts := X.2.2.2.2.1
  have hS : va_S (gA G) s.heap s.heap [] := va_S.rf
  unfold oL_fewestBlocks at ho
  have hl : lv_has ls 4 [(0, .ref (ga G o1)), (1, .int p1), (2, .ref (ga G o2))] := hl
  refine lv_aload_n hx hb dL_fewestBlocks_0 rfl (lv_at hl 2 rfl) ?_
  refine lv_iconst (v := 0) hx hb dL_fewestBlocks_1 (by decide) ?_
  refine lv_aload_n hx hb dL_fewestBlocks_2 rfl (lv_at hl 0 rfl) ?_
  refine lv_iload_n hx hb dL_fewestBlocks_3 rfl (lv_at hl 1 rfl) ?_
  have hq1 := ho.1
  have ho := ho.2
  refine k_X10_fewestBlocks hst X hS hH hk_o1 hq1 t_ml_VernierDrawersLaw_105 hl.1 (Nat.le_of_ble_eq_true rfl) ⟨Nat.le_of_ble_eq_true rfl, Nat.le_of_ble_eq_true rfl⟩ ⟨(Nat.le_of_ble_eq_true rfl), (Nat.le_of_ble_eq_true rfl)⟩ dL_fewestBlocks_4 (fun c2 da ce9 q9 H locs x3 ex3 hH hS g1 g2 g3 => ?_) (fun c2 da H locs x3 ex3 hH hS => ?_)
  · have ho := ho c2
    have ho := ho x3 ex3
    refine (Decidable.em ((fX10_fewestBlocks o1 p1 v x).1 = 1)).elim (fun c4 => ?_) (fun c4 => ?_)
    · skip
      refine t_c1 (k := 1) X htab rfl g1 g2 (c4 ▸ g3) ?_
      refine lv_astore_n (lv' := [(3, .ref q9), (0, .ref (ga G o1)), (1, .int p1), (2, .ref (ga G o2))]) hx hb dL_fewestBlocks_12 rfl hl (by decide) rfl (fun ls hl => ?_)
      refine lv_iconst (v := 1) hx hb dL_fewestBlocks_13 (by decide) ?_
      replace ex3 := Eq.symm ex3
      subst ex3
      exact E _ _ _ _ _ _ _ _ _ _ dL_fewestBlocks_14 (t31 ((fL_fewestBlocks.eq_1 _ _ _ _ _).trans ((if_neg c2).trans ((if_pos c4).trans rfl)))) (t32 ((fL_fewestBlocks.eq_1 _ _ _ _ _).trans ((if_neg c2).trans ((if_pos c4).trans rfl)))) (t33 ((fL_fewestBlocks.eq_1 _ _ _ _ _).trans ((if_neg c2).trans ((if_pos c4).trans rfl)))) hH hS (Nat.le_of_ble_eq_true rfl) (Nat.le_of_ble_eq_true rfl)
    · have ho := ho c4
      have hq5 := ho
      refine t_c2 (k := 3) X hN htab (by decide) rfl g1 g2 (hq5 ▸ g3) ?_
      refine lv_astore_n (lv' := [(3, .ref q9), (0, .ref (ga G o1)), (1, .int p1), (2, .ref (ga G o2))]) hx hb dL_fewestBlocks_15 rfl hl (by decide) rfl (fun ls hl => ?_)
      refine lv_iconst (v := 2) hx hb dL_fewestBlocks_16 (by decide) ?_
      replace ex3 := Eq.symm ex3
      subst ex3
      exact E _ _ _ _ _ _ _ _ _ _ dL_fewestBlocks_17 (t31 ((fL_fewestBlocks.eq_1 _ _ _ _ _).trans ((if_neg c2).trans ((if_neg c4).trans rfl)))) (t32 ((fL_fewestBlocks.eq_1 _ _ _ _ _).trans ((if_neg c2).trans ((if_neg c4).trans rfl)))) (t33 ((fL_fewestBlocks.eq_1 _ _ _ _ _).trans ((if_neg c2).trans ((if_neg c4).trans rfl)))) hH hS (Nat.le_of_ble_eq_true rfl) (Nat.le_of_ble_eq_true rfl)
  · skip
    refine lv_i2l (v := ((fX10_fewestBlocks o1 p1 v x).2.1 : Int32).toInt64) hx hb dL_fewestBlocks_7 rfl ?_
    refine last_34 X hH hS hk_o2 (i_in (by decide) (by decide)) dL_fewestBlocks_8 (fun H locs x6 ex6 hH hS => ?_)
    refine lv_goto (tgt := 18) hx hb dL_fewestBlocks_9 (by decide) ?_
    refine lv_iconst (v := 0) hx hb dL_fewestBlocks_18 (by decide) ?_
    replace ex3 := Eq.symm ex3
    replace ex6 := Eq.symm ex6
    subst ex3 ex6
    exact E _ _ _ _ _ _ _ _ _ _ dL_fewestBlocks_19 (t31 ((fL_fewestBlocks.eq_1 _ _ _ _ _).trans ((if_pos c2).trans rfl))) (t32 ((fL_fewestBlocks.eq_1 _ _ _ _ _).trans ((if_pos c2).trans rfl))) (t33 ((fL_fewestBlocks.eq_1 _ _ _ _ _).trans ((if_pos c2).trans rfl))) hH hS (Nat.le_of_ble_eq_true rfl) (Nat.le_of_ble_eq_true rfl)
theorem k_L_fewestBlocks {p : Program} {l : Launch} {e : Env} {R : Room} {s : State} {m : MethodId} {args : Array Value} {below : List Frame} {meth : Method} {c : Code} {H : Heap} {locs : List Loc} {cells slots : Nat} {Q : State → Prop} {cc : ByteArray} {pc nL : Nat} {ls : Array Slot} {rest : List Value} {G : gG} {own : String} {da : Nat → Nat} {v : vSt} {x : gX} (hst : l.stackTraces = false) (X : CX G p s m args c cc nL own) (hS : va_S (gA G) s.heap H locs) (hN : NC s) (hH : Hp G da v x H) {o1 : Nat} (hk_o1 : kd o1 = 10) {p1 : Int32} {o2 : Nat} (hk_o2 : kd o2 = 34) (ho : oL_fewestBlocks o1 p1 o2 v x) {idx : Nat} (hml : Cond.methodLink own idx yL_fewestBlocks ∈ TT) (hls : ls.size = nL) (hsum : (rest.map fun v => v.category).sum ≤ 8) (hR : rmL_fewestBlocks.frames + 1 ≤ R.frames ∧ 8 + (4 + 11) + rmL_fewestBlocks.locals ≤ R.locals) (hcs : cells + 18 ≤ R.cells ∧ slots + 18 ≤ R.slots) (hdg : decode cc pc = .ok (.invokestatic idx, 3)) (kk : ∀ (d : Nat → Nat) (H1 : Heap) (locs1 : List Loc) (v1 : vSt) (x1 : gX), v1 = (fL_fewestBlocks o1 p1 o2 v x).2.1 → x1 = (fL_fewestBlocks o1 p1 o2 v x).2.2 → Hp G d v1 x1 H1 → va_S (gA G) s.heap H1 locs1 → W p l e R s m args below meth c H1 locs1 (cells + 18) (slots + 18) Q (F0 m (pc + 3) ls (.int (fL_fewestBlocks o1 p1 o2 v x).1 :: rest))) : W p l e R s m args below meth c H locs cells slots Q (F0 m pc ls (.ref (ga G o2) :: .int p1 :: .ref (ga G o1) :: rest)) := c_li (runLS (kp := 3) X.1 X.2.1 X.2.2.1 X.2.2.2.1 X.2.2.2.2.1 (mL_fewestBlocks l hst G da v x o1 hk_o1 p1 o2 hk_o2 ho) pN_bl hml t_st_L_fewestBlocks t_ini_VernierDrawersLaw t_code_L_fewestBlocks ⟨by decide, by decide, by decide +kernel⟩ rfl rfl hR hcs (preN X hN hS hH) rfl hls rfl hsum hdg) hS (fun d9 H9 L9 hH9 => kk d9 H9 L9 _ _ rfl rfl hH9)
def fL_fewestByTrying (o1 : Nat) (p1 : Int32) (o2 : Nat) (v : vSt) (x : gX) : Int32 × vSt × gX := if (fX10_fewestByTrying o1 p1 v).1 = 0 then (let x5 : gX := xu x o2 (0 : Int32).toNatClampNeg (((fX10_fewestByTrying o1 p1 v).2 : Int32).toInt64); (0, v, x5)) else (if (fX10_fewestByTrying o1 p1 v).1 = 1 then ((1, v, x)) else ((2, v, x)))
def oL_fewestByTrying (o1 : Nat) (p1 : Int32) (o2 : Nat) (v : vSt) (x : gX) : Prop := (oX10_fewestByTrying o1 p1 v) ∧ (¬ ((fX10_fewestByTrying o1 p1 v).1 = 0) → (¬ ((fX10_fewestByTrying o1 p1 v).1 = 1) → ((fX10_fewestByTrying o1 p1 v).1 = 3)))
abbrev rmL_fewestByTrying : Room := { frames := 9, cells := 12, slots := 12, locals := 153 }
theorem dL_fewestByTrying_0 : decode cL_fewestByTrying 0 = .ok (.aload_n 2, 1) := by decide +kernel
theorem dL_fewestByTrying_1 : decode cL_fewestByTrying 1 = .ok (.iconst 0, 1) := by decide +kernel
theorem dL_fewestByTrying_2 : decode cL_fewestByTrying 2 = .ok (.aload_n 0, 1) := by decide +kernel
theorem dL_fewestByTrying_3 : decode cL_fewestByTrying 3 = .ok (.iload_n 1, 1) := by decide +kernel
theorem dL_fewestByTrying_4 : decode cL_fewestByTrying 4 = .ok (.invokevirtual 108, 3) := by decide +kernel
theorem dL_fewestByTrying_7 : decode cL_fewestByTrying 7 = .ok (.i2l, 1) := by decide +kernel
theorem dL_fewestByTrying_8 : decode cL_fewestByTrying 8 = .ok (.lastore, 1) := by decide +kernel
theorem dL_fewestByTrying_9 : decode cL_fewestByTrying 9 = .ok (.goto 9, 3) := by decide +kernel
theorem dL_fewestByTrying_12 : decode cL_fewestByTrying 12 = .ok (.astore_n 3, 1) := by decide +kernel
theorem dL_fewestByTrying_13 : decode cL_fewestByTrying 13 = .ok (.iconst 1, 1) := by decide +kernel
theorem dL_fewestByTrying_14 : decode cL_fewestByTrying 14 = .ok (.ireturn, 1) := by decide +kernel
theorem dL_fewestByTrying_15 : decode cL_fewestByTrying 15 = .ok (.astore_n 3, 1) := by decide +kernel
theorem dL_fewestByTrying_16 : decode cL_fewestByTrying 16 = .ok (.iconst 2, 1) := by decide +kernel
theorem dL_fewestByTrying_17 : decode cL_fewestByTrying 17 = .ok (.ireturn, 1) := by decide +kernel
theorem dL_fewestByTrying_18 : decode cL_fewestByTrying 18 = .ok (.iconst 0, 1) := by decide +kernel
theorem dL_fewestByTrying_19 : decode cL_fewestByTrying 19 = .ok (.ireturn, 1) := by decide +kernel
set_option maxHeartbeats 8000000 in
set_option maxRecDepth 100000 in
theorem mL_fewestByTrying (l : Launch) (hst : l.stackTraces = false) (G : gG) (da : Nat → Nat) (v : vSt) (x : gX) (o1 : Nat) (hk_o1 : kd o1 = 10) (p1 : Int32) (o2 : Nat) (hk_o2 : kd o2 = 34) (ho : oL_fewestByTrying o1 p1 o2 v x) : LI l yL_fewestByTrying cL_fewestByTrying 4 [((0 : Nat), (9 : Nat), (12 : Nat), (13 : Nat)), ((0 : Nat), (9 : Nat), (15 : Nat), (85 : Nat))] rmL_fewestByTrying [.ref (ga G o1), .int p1, .ref (ga G o2)] G da v x 12 12 (fL_fewestByTrying o1 p1 o2 v x).1 (fL_fewestByTrying o1 p1 o2 v x).2.1 (fL_fewestByTrying o1 p1 o2 v x).2.2 := by
  refine gofL (by decide) rfl (Nat.le_of_ble_eq_true rfl) (fun p e s m args below meth c ls Q X hN htab hH hl E => ?_)
  have hx := X.1
  have hb := X.2.1
  have hown := X.2.2.2.1
  have hts := X.2.2.2.2.1
  have hS : va_S (gA G) s.heap s.heap [] := va_S.rf
  unfold oL_fewestByTrying at ho
  have hl : lv_has ls 4 [(0, .ref (ga G o1)), (1, .int p1), (2, .ref (ga G o2))] := hl
  refine lv_aload_n hx hb dL_fewestByTrying_0 rfl (lv_at hl 2 rfl) ?_
  refine lv_iconst (v := 0) hx hb dL_fewestByTrying_1 (by decide) ?_
  refine lv_aload_n hx hb dL_fewestByTrying_2 rfl (lv_at hl 0 rfl) ?_
  refine lv_iload_n hx hb dL_fewestByTrying_3 rfl (lv_at hl 1 rfl) ?_
  have hq1 := ho.1
  have ho := ho.2
  refine k_X10_fewestByTrying hst X hS hH hk_o1 hq1 t_ml_VernierDrawersLaw_108 hl.1 (Nat.le_of_ble_eq_true rfl) ⟨Nat.le_of_ble_eq_true rfl, Nat.le_of_ble_eq_true rfl⟩ ⟨(Nat.le_of_ble_eq_true rfl), (Nat.le_of_ble_eq_true rfl)⟩ dL_fewestByTrying_4 (fun c2 da ce9 q9 H locs hH hS g1 g2 g3 => ?_) (fun c2 da H locs hH hS => ?_)
  · have ho := ho c2
    refine (Decidable.em ((fX10_fewestByTrying o1 p1 v).1 = 1)).elim (fun c3 => ?_) (fun c3 => ?_)
    · skip
      refine t_c1 (k := 1) X htab rfl g1 g2 (c3 ▸ g3) ?_
      refine lv_astore_n (lv' := [(3, .ref q9), (0, .ref (ga G o1)), (1, .int p1), (2, .ref (ga G o2))]) hx hb dL_fewestByTrying_12 rfl hl (by decide) rfl (fun ls hl => ?_)
      refine lv_iconst (v := 1) hx hb dL_fewestByTrying_13 (by decide) ?_
      exact E _ _ _ _ _ _ _ _ _ _ dL_fewestByTrying_14 (t31 ((fL_fewestByTrying.eq_1 _ _ _ _ _).trans ((if_neg c2).trans ((if_pos c3).trans rfl)))) (t32 ((fL_fewestByTrying.eq_1 _ _ _ _ _).trans ((if_neg c2).trans ((if_pos c3).trans rfl)))) (t33 ((fL_fewestByTrying.eq_1 _ _ _ _ _).trans ((if_neg c2).trans ((if_pos c3).trans rfl)))) hH hS (Nat.le_of_ble_eq_true rfl) (Nat.le_of_ble_eq_true rfl)
    · have ho := ho c3
      have hq4 := ho
      refine t_c2 (k := 3) X hN htab (by decide) rfl g1 g2 (hq4 ▸ g3) ?_
      refine lv_astore_n (lv' := [(3, .ref q9), (0, .ref (ga G o1)), (1, .int p1), (2, .ref (ga G o2))]) hx hb dL_fewestByTrying_15 rfl hl (by decide) rfl (fun ls hl => ?_)
      refine lv_iconst (v := 2) hx hb dL_fewestByTrying_16 (by decide) ?_
      exact E _ _ _ _ _ _ _ _ _ _ dL_fewestByTrying_17 (t31 ((fL_fewestByTrying.eq_1 _ _ _ _ _).trans ((if_neg c2).trans ((if_neg c3).trans rfl)))) (t32 ((fL_fewestByTrying.eq_1 _ _ _ _ _).trans ((if_neg c2).trans ((if_neg c3).trans rfl)))) (t33 ((fL_fewestByTrying.eq_1 _ _ _ _ _).trans ((if_neg c2).trans ((if_neg c3).trans rfl)))) hH hS (Nat.le_of_ble_eq_true rfl) (Nat.le_of_ble_eq_true rfl)
  · skip
    refine lv_i2l (v := ((fX10_fewestByTrying o1 p1 v).2 : Int32).toInt64) hx hb dL_fewestByTrying_7 rfl ?_
    refine last_34 X hH hS hk_o2 (i_in (by decide) (by decide)) dL_fewestByTrying_8 (fun H locs x5 ex5 hH hS => ?_)
    refine lv_goto (tgt := 18) hx hb dL_fewestByTrying_9 (by decide) ?_
    refine lv_iconst (v := 0) hx hb dL_fewestByTrying_18 (by decide) ?_
    replace ex5 := Eq.symm ex5
    subst ex5
    exact E _ _ _ _ _ _ _ _ _ _ dL_fewestByTrying_19 (t31 ((fL_fewestByTrying.eq_1 _ _ _ _ _).trans ((if_pos c2).trans rfl))) (t32 ((fL_fewestByTrying.eq_1 _ _ _ _ _).trans ((if_pos c2).trans rfl))) (t33 ((fL_fewestByTrying.eq_1 _ _ _ _ _).trans ((if_pos c2).trans rfl))) hH hS (Nat.le_of_ble_eq_true rfl) (Nat.le_of_ble_eq_true rfl)
theorem k_L_fewestByTrying {p : Program} {l : Launch} {e : Env} {R : Room} {s : State} {m : MethodId} {args : Array Value} {below : List Frame} {meth : Method} {c : Code} {H : Heap} {locs : List Loc} {cells slots : Nat} {Q : State → Prop} {cc : ByteArray} {pc nL : Nat} {ls : Array Slot} {rest : List Value} {G : gG} {own : String} {da : Nat → Nat} {v : vSt} {x : gX} (hst : l.stackTraces = false) (X : CX G p s m args c cc nL own) (hS : va_S (gA G) s.heap H locs) (hN : NC s) (hH : Hp G da v x H) {o1 : Nat} (hk_o1 : kd o1 = 10) {p1 : Int32} {o2 : Nat} (hk_o2 : kd o2 = 34) (ho : oL_fewestByTrying o1 p1 o2 v x) {idx : Nat} (hml : Cond.methodLink own idx yL_fewestByTrying ∈ TT) (hls : ls.size = nL) (hsum : (rest.map fun v => v.category).sum ≤ 8) (hR : rmL_fewestByTrying.frames + 1 ≤ R.frames ∧ 8 + (4 + 11) + rmL_fewestByTrying.locals ≤ R.locals) (hcs : cells + 12 ≤ R.cells ∧ slots + 12 ≤ R.slots) (hdg : decode cc pc = .ok (.invokestatic idx, 3)) (kk : ∀ (d : Nat → Nat) (H1 : Heap) (locs1 : List Loc) (v1 : vSt) (x1 : gX), v1 = (fL_fewestByTrying o1 p1 o2 v x).2.1 → x1 = (fL_fewestByTrying o1 p1 o2 v x).2.2 → Hp G d v1 x1 H1 → va_S (gA G) s.heap H1 locs1 → W p l e R s m args below meth c H1 locs1 (cells + 12) (slots + 12) Q (F0 m (pc + 3) ls (.int (fL_fewestByTrying o1 p1 o2 v x).1 :: rest))) : W p l e R s m args below meth c H locs cells slots Q (F0 m pc ls (.ref (ga G o2) :: .int p1 :: .ref (ga G o1) :: rest)) := c_li (runLS (kp := 3) X.1 X.2.1 X.2.2.1 X.2.2.2.1 X.2.2.2.2.1 (mL_fewestByTrying l hst G da v x o1 hk_o1 p1 o2 hk_o2 ho) pN_bl hml t_st_L_fewestByTrying t_ini_VernierDrawersLaw t_code_L_fewestByTrying ⟨by decide, by decide, by decide +kernel⟩ rfl rfl hR hcs (preN X hN hS hH) rfl hls rfl hsum hdg) hS (fun d9 H9 L9 hH9 => kk d9 H9 L9 _ _ rfl rfl hH9)
