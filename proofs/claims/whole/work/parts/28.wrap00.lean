/-! the law's wrappers -/
def fL_addTool (o1 : Nat) (p1 : Int32) (p2 : Int32) (o2 : Nat) (v : vSt) (x : gX) : Int32 × vSt × gX := if (fX10_addTool o1 p1 p2 v).1 = 0 then (let v4 : vSt := (fX10_addTool o1 p1 p2 v).2.2; let x7 : gX := xu x o2 (0 : Int32).toNatClampNeg (((fX10_addTool o1 p1 p2 v).2.1 : Int32).toInt64); (0, v4, x7)) else (let v4 : vSt := (fX10_addTool o1 p1 p2 v).2.2; if (fX10_addTool o1 p1 p2 v).1 = 1 then ((1, v4, x)) else ((2, v4, x)))

def kkL_addTool (o1 : Nat) (p1 : Int32) (p2 : Int32) (o2 : Nat) (v : vSt) (x : gX) : Nat := pot ((fL_addTool o1 p1 p2 o2 v x).2.1) - pot v + 36
def oL_addTool (o1 : Nat) (p1 : Int32) (p2 : Int32) (o2 : Nat) (v : vSt) (x : gX) : Prop := (oX10_addTool o1 p1 p2 v) ∧ ((0 + kkX10_addTool o1 p1 p2 v ≤ kkL_addTool o1 p1 p2 o2 v x) ∧ (¬ ((fX10_addTool o1 p1 p2 v).1 = 0) → (∀ v4 : vSt, v4 = ((fX10_addTool o1 p1 p2 v).2.2) → (¬ ((fX10_addTool o1 p1 p2 v).1 = 1) → ((fX10_addTool o1 p1 p2 v).1 = 2)))))
abbrev rmL_addTool (o1 : Nat) (p1 : Int32) (p2 : Int32) (o2 : Nat) (v : vSt) (x : gX) : Room := { frames := 8, cells := kkL_addTool o1 p1 p2 o2 v x, slots := kkL_addTool o1 p1 p2 o2 v x, locals := 219 }
theorem dL_addTool_0 : decode cL_addTool 0 = .ok (.aload_n 3, 1) := by decide +kernel
theorem dL_addTool_1 : decode cL_addTool 1 = .ok (.iconst 0, 1) := by decide +kernel
theorem dL_addTool_2 : decode cL_addTool 2 = .ok (.aload_n 0, 1) := by decide +kernel
theorem dL_addTool_3 : decode cL_addTool 3 = .ok (.iload_n 1, 1) := by decide +kernel
theorem dL_addTool_4 : decode cL_addTool 4 = .ok (.iload_n 2, 1) := by decide +kernel
theorem dL_addTool_5 : decode cL_addTool 5 = .ok (.invokevirtual 7, 3) := by decide +kernel
theorem dL_addTool_8 : decode cL_addTool 8 = .ok (.i2l, 1) := by decide +kernel
theorem dL_addTool_9 : decode cL_addTool 9 = .ok (.lastore, 1) := by decide +kernel
theorem dL_addTool_10 : decode cL_addTool 10 = .ok (.goto 11, 3) := by decide +kernel
theorem dL_addTool_13 : decode cL_addTool 13 = .ok (.astore 4, 2) := by decide +kernel
theorem dL_addTool_15 : decode cL_addTool 15 = .ok (.iconst 1, 1) := by decide +kernel
theorem dL_addTool_16 : decode cL_addTool 16 = .ok (.ireturn, 1) := by decide +kernel
theorem dL_addTool_17 : decode cL_addTool 17 = .ok (.astore 4, 2) := by decide +kernel
theorem dL_addTool_19 : decode cL_addTool 19 = .ok (.iconst 2, 1) := by decide +kernel
theorem dL_addTool_20 : decode cL_addTool 20 = .ok (.ireturn, 1) := by decide +kernel
theorem dL_addTool_21 : decode cL_addTool 21 = .ok (.iconst 0, 1) := by decide +kernel
theorem dL_addTool_22 : decode cL_addTool 22 = .ok (.ireturn, 1) := by decide +kernel
set_option maxHeartbeats 8000000 in
set_option maxRecDepth 100000 in
theorem mL_addTool (l : Launch) (hst : l.stackTraces = false) (G : gG) (da : Nat → Nat) (v : vSt) (x : gX) (o1 : Nat) (hk_o1 : kd o1 = 10) (p1 : Int32) (p2 : Int32) (o2 : Nat) (hk_o2 : kd o2 = 34) (ho : oL_addTool o1 p1 p2 o2 v x) : LI l yL_addTool cL_addTool 5 [((0 : Nat), (10 : Nat), (13 : Nat), (13 : Nat)), ((0 : Nat), (10 : Nat), (17 : Nat), (15 : Nat))] (rmL_addTool o1 p1 p2 o2 v x) [.ref (ga G o1), .int p1, .int p2, .ref (ga G o2)] G da v x (kkL_addTool o1 p1 p2 o2 v x) (kkL_addTool o1 p1 p2 o2 v x) (fL_addTool o1 p1 p2 o2 v x).1 (fL_addTool o1 p1 p2 o2 v x).2.1 (fL_addTool o1 p1 p2 o2 v x).2.2 := by
  refine gofL (by decide) rfl (Nat.le_of_ble_eq_true rfl) (fun p e s m args below meth c ls Q X hN htab hH hl E => ?_)
  have hx := X.1
  have hb := X.2.1
  have hown := X.2.2.2.1
  have hts := X.2.2.2.2.1
  have hS : va_S (gA G) s.heap s.heap [] := va_S.rf
  unfold oL_addTool at ho
  have hl : lv_has ls 5 [(0, .ref (ga G o1)), (1, .int p1), (2, .int p2), (3, .ref (ga G o2))] := hl
  refine lv_aload_n hx hb dL_addTool_0 rfl (lv_at hl 3 rfl) ?_
  refine lv_iconst (v := 0) hx hb dL_addTool_1 (by decide) ?_
  refine lv_aload_n hx hb dL_addTool_2 rfl (lv_at hl 0 rfl) ?_
  refine lv_iload_n hx hb dL_addTool_3 rfl (lv_at hl 1 rfl) ?_
  refine lv_iload_n hx hb dL_addTool_4 rfl (lv_at hl 2 rfl) ?_
  have hq1 := ho.1
  have ho := ho.2
  have hq2 := ho.1
  have ho := ho.2
  refine k_X10_addTool hst X hS hH hk_o1 hq1 t_ml_VernierDrawersLaw_7 hl.1 (Nat.le_of_ble_eq_true rfl) ⟨Nat.le_of_ble_eq_true rfl, Nat.le_of_ble_eq_true rfl⟩ ⟨hq2, hq2⟩ dL_addTool_5 (fun c3 da ce9 q9 H locs v4 ev4 hH hS g1 g2 g3 => ?_) (fun c3 da H locs v4 ev4 hH hS => ?_)
  · have ho := ho c3
    have ho := ho v4 ev4
    refine (Decidable.em ((fX10_addTool o1 p1 p2 v).1 = 1)).elim (fun c5 => ?_) (fun c5 => ?_)
    · skip
      refine t_c1 (k := 1) X htab rfl g1 g2 (c5 ▸ g3) ?_
      refine lv_astore (lv' := [(4, .ref q9), (0, .ref (ga G o1)), (1, .int p1), (2, .int p2), (3, .ref (ga G o2))]) hx hb dL_addTool_13 hl (by decide) rfl (fun ls hl => ?_)
      refine lv_iconst (v := 1) hx hb dL_addTool_15 (by decide) ?_
      replace ev4 := Eq.symm ev4
      subst ev4
      exact E _ _ _ _ _ _ _ _ _ _ dL_addTool_16 (t31 ((fL_addTool.eq_1 _ _ _ _ _ _).trans ((if_neg c3).trans ((if_pos c5).trans rfl)))) (t32 ((fL_addTool.eq_1 _ _ _ _ _ _).trans ((if_neg c3).trans ((if_pos c5).trans rfl)))) (t33 ((fL_addTool.eq_1 _ _ _ _ _ _).trans ((if_neg c3).trans ((if_pos c5).trans rfl)))) hH hS hq2 hq2
    · have ho := ho c5
      have hq6 := ho
      refine t_c2 (k := 2) X hN htab (by decide) rfl g1 g2 (hq6 ▸ g3) ?_
      refine lv_astore (lv' := [(4, .ref q9), (0, .ref (ga G o1)), (1, .int p1), (2, .int p2), (3, .ref (ga G o2))]) hx hb dL_addTool_17 hl (by decide) rfl (fun ls hl => ?_)
      refine lv_iconst (v := 2) hx hb dL_addTool_19 (by decide) ?_
      replace ev4 := Eq.symm ev4
      subst ev4
      exact E _ _ _ _ _ _ _ _ _ _ dL_addTool_20 (t31 ((fL_addTool.eq_1 _ _ _ _ _ _).trans ((if_neg c3).trans ((if_neg c5).trans rfl)))) (t32 ((fL_addTool.eq_1 _ _ _ _ _ _).trans ((if_neg c3).trans ((if_neg c5).trans rfl)))) (t33 ((fL_addTool.eq_1 _ _ _ _ _ _).trans ((if_neg c3).trans ((if_neg c5).trans rfl)))) hH hS hq2 hq2
  · skip
    refine lv_i2l (v := ((fX10_addTool o1 p1 p2 v).2.1 : Int32).toInt64) hx hb dL_addTool_8 rfl ?_
    refine last_34 X hH hS hk_o2 (i_in (by decide) (by decide)) dL_addTool_9 (fun H locs x7 ex7 hH hS => ?_)
    refine lv_goto (tgt := 21) hx hb dL_addTool_10 (by decide) ?_
    refine lv_iconst (v := 0) hx hb dL_addTool_21 (by decide) ?_
    replace ev4 := Eq.symm ev4
    replace ex7 := Eq.symm ex7
    subst ev4 ex7
    exact E _ _ _ _ _ _ _ _ _ _ dL_addTool_22 (t31 ((fL_addTool.eq_1 _ _ _ _ _ _).trans ((if_pos c3).trans rfl))) (t32 ((fL_addTool.eq_1 _ _ _ _ _ _).trans ((if_pos c3).trans rfl))) (t33 ((fL_addTool.eq_1 _ _ _ _ _ _).trans ((if_pos c3).trans rfl))) hH hS hq2 hq2
theorem k_L_addTool {p : Program} {l : Launch} {e : Env} {R : Room} {s : State} {m : MethodId} {args : Array Value} {below : List Frame} {meth : Method} {c : Code} {H : Heap} {locs : List Loc} {cells slots : Nat} {Q : State → Prop} {cc : ByteArray} {pc nL : Nat} {ls : Array Slot} {rest : List Value} {G : gG} {own : String} {da : Nat → Nat} {v : vSt} {x : gX} (hst : l.stackTraces = false) (X : CX G p s m args c cc nL own) (hS : va_S (gA G) s.heap H locs) (hN : NC s) (hH : Hp G da v x H) {o1 : Nat} (hk_o1 : kd o1 = 10) {p1 : Int32} {p2 : Int32} {o2 : Nat} (hk_o2 : kd o2 = 34) (ho : oL_addTool o1 p1 p2 o2 v x) {idx : Nat} (hml : Cond.methodLink own idx yL_addTool ∈ TT) (hls : ls.size = nL) (hsum : (rest.map fun v => v.category).sum ≤ 8) (hR : (rmL_addTool o1 p1 p2 o2 v x).frames + 1 ≤ R.frames ∧ 8 + (5 + 11) + (rmL_addTool o1 p1 p2 o2 v x).locals ≤ R.locals) (hcs : cells + (kkL_addTool o1 p1 p2 o2 v x) ≤ R.cells ∧ slots + (kkL_addTool o1 p1 p2 o2 v x) ≤ R.slots) (hdg : decode cc pc = .ok (.invokestatic idx, 3)) (kk : ∀ (d : Nat → Nat) (H1 : Heap) (locs1 : List Loc) (v1 : vSt) (x1 : gX), v1 = (fL_addTool o1 p1 p2 o2 v x).2.1 → x1 = (fL_addTool o1 p1 p2 o2 v x).2.2 → Hp G d v1 x1 H1 → va_S (gA G) s.heap H1 locs1 → W p l e R s m args below meth c H1 locs1 (cells + (kkL_addTool o1 p1 p2 o2 v x)) (slots + (kkL_addTool o1 p1 p2 o2 v x)) Q (F0 m (pc + 3) ls (.int (fL_addTool o1 p1 p2 o2 v x).1 :: rest))) : W p l e R s m args below meth c H locs cells slots Q (F0 m pc ls (.ref (ga G o2) :: .int p2 :: .int p1 :: .ref (ga G o1) :: rest)) := c_li (runLS (kp := 4) X.1 X.2.1 X.2.2.1 X.2.2.2.1 X.2.2.2.2.1 (mL_addTool l hst G da v x o1 hk_o1 p1 p2 o2 hk_o2 ho) pN_bl hml t_st_L_addTool t_ini_VernierDrawersLaw t_code_L_addTool ⟨by decide, by decide, by decide +kernel⟩ rfl rfl hR hcs (preN X hN hS hH) rfl hls rfl hsum hdg) hS (fun d9 H9 L9 hH9 => kk d9 H9 L9 _ _ rfl rfl hH9)
def fL_addBlock (o1 : Nat) (p1 : Int32) (p2 : Int32) (o2 : Nat) (v : vSt) (x : gX) : Int32 × vSt × gX := if (fX10_addBlock o1 p1 p2 v).1 = 0 then (let v4 : vSt := (fX10_addBlock o1 p1 p2 v).2.2; let x7 : gX := xu x o2 (0 : Int32).toNatClampNeg (((fX10_addBlock o1 p1 p2 v).2.1 : Int32).toInt64); (0, v4, x7)) else (let v4 : vSt := (fX10_addBlock o1 p1 p2 v).2.2; if (fX10_addBlock o1 p1 p2 v).1 = 1 then ((1, v4, x)) else ((2, v4, x)))

def kkL_addBlock (o1 : Nat) (p1 : Int32) (p2 : Int32) (o2 : Nat) (v : vSt) (x : gX) : Nat := pot ((fL_addBlock o1 p1 p2 o2 v x).2.1) - pot v + 36
def oL_addBlock (o1 : Nat) (p1 : Int32) (p2 : Int32) (o2 : Nat) (v : vSt) (x : gX) : Prop := (oX10_addBlock o1 p1 p2 v) ∧ ((0 + kkX10_addBlock o1 p1 p2 v ≤ kkL_addBlock o1 p1 p2 o2 v x) ∧ (¬ ((fX10_addBlock o1 p1 p2 v).1 = 0) → (∀ v4 : vSt, v4 = ((fX10_addBlock o1 p1 p2 v).2.2) → (¬ ((fX10_addBlock o1 p1 p2 v).1 = 1) → ((fX10_addBlock o1 p1 p2 v).1 = 2)))))
abbrev rmL_addBlock (o1 : Nat) (p1 : Int32) (p2 : Int32) (o2 : Nat) (v : vSt) (x : gX) : Room := { frames := 8, cells := kkL_addBlock o1 p1 p2 o2 v x, slots := kkL_addBlock o1 p1 p2 o2 v x, locals := 219 }
theorem dL_addBlock_0 : decode cL_addBlock 0 = .ok (.aload_n 3, 1) := by decide +kernel
theorem dL_addBlock_1 : decode cL_addBlock 1 = .ok (.iconst 0, 1) := by decide +kernel
theorem dL_addBlock_2 : decode cL_addBlock 2 = .ok (.aload_n 0, 1) := by decide +kernel
theorem dL_addBlock_3 : decode cL_addBlock 3 = .ok (.iload_n 1, 1) := by decide +kernel
theorem dL_addBlock_4 : decode cL_addBlock 4 = .ok (.iload_n 2, 1) := by decide +kernel
theorem dL_addBlock_5 : decode cL_addBlock 5 = .ok (.invokevirtual 17, 3) := by decide +kernel
theorem dL_addBlock_8 : decode cL_addBlock 8 = .ok (.i2l, 1) := by decide +kernel
theorem dL_addBlock_9 : decode cL_addBlock 9 = .ok (.lastore, 1) := by decide +kernel
theorem dL_addBlock_10 : decode cL_addBlock 10 = .ok (.goto 11, 3) := by decide +kernel
theorem dL_addBlock_13 : decode cL_addBlock 13 = .ok (.astore 4, 2) := by decide +kernel
theorem dL_addBlock_15 : decode cL_addBlock 15 = .ok (.iconst 1, 1) := by decide +kernel
theorem dL_addBlock_16 : decode cL_addBlock 16 = .ok (.ireturn, 1) := by decide +kernel
theorem dL_addBlock_17 : decode cL_addBlock 17 = .ok (.astore 4, 2) := by decide +kernel
theorem dL_addBlock_19 : decode cL_addBlock 19 = .ok (.iconst 2, 1) := by decide +kernel
theorem dL_addBlock_20 : decode cL_addBlock 20 = .ok (.ireturn, 1) := by decide +kernel
theorem dL_addBlock_21 : decode cL_addBlock 21 = .ok (.iconst 0, 1) := by decide +kernel
theorem dL_addBlock_22 : decode cL_addBlock 22 = .ok (.ireturn, 1) := by decide +kernel
set_option maxHeartbeats 8000000 in
set_option maxRecDepth 100000 in
theorem mL_addBlock (l : Launch) (hst : l.stackTraces = false) (G : gG) (da : Nat → Nat) (v : vSt) (x : gX) (o1 : Nat) (hk_o1 : kd o1 = 10) (p1 : Int32) (p2 : Int32) (o2 : Nat) (hk_o2 : kd o2 = 34) (ho : oL_addBlock o1 p1 p2 o2 v x) : LI l yL_addBlock cL_addBlock 5 [((0 : Nat), (10 : Nat), (13 : Nat), (13 : Nat)), ((0 : Nat), (10 : Nat), (17 : Nat), (15 : Nat))] (rmL_addBlock o1 p1 p2 o2 v x) [.ref (ga G o1), .int p1, .int p2, .ref (ga G o2)] G da v x (kkL_addBlock o1 p1 p2 o2 v x) (kkL_addBlock o1 p1 p2 o2 v x) (fL_addBlock o1 p1 p2 o2 v x).1 (fL_addBlock o1 p1 p2 o2 v x).2.1 (fL_addBlock o1 p1 p2 o2 v x).2.2 := by
  refine gofL (by decide) rfl (Nat.le_of_ble_eq_true rfl) (fun p e s m args below meth c ls Q X hN htab hH hl E => ?_)
  have hx := X.1
  have hb := X.2.1
  have hown := X.2.2.2.1
  have hts := X.2.2.2.2.1
  have hS : va_S (gA G) s.heap s.heap [] := va_S.rf
  unfold oL_addBlock at ho
  have hl : lv_has ls 5 [(0, .ref (ga G o1)), (1, .int p1), (2, .int p2), (3, .ref (ga G o2))] := hl
  refine lv_aload_n hx hb dL_addBlock_0 rfl (lv_at hl 3 rfl) ?_
  refine lv_iconst (v := 0) hx hb dL_addBlock_1 (by decide) ?_
  refine lv_aload_n hx hb dL_addBlock_2 rfl (lv_at hl 0 rfl) ?_
  refine lv_iload_n hx hb dL_addBlock_3 rfl (lv_at hl 1 rfl) ?_
  refine lv_iload_n hx hb dL_addBlock_4 rfl (lv_at hl 2 rfl) ?_
  have hq1 := ho.1
  have ho := ho.2
  have hq2 := ho.1
  have ho := ho.2
  refine k_X10_addBlock hst X hS hH hk_o1 hq1 t_ml_VernierDrawersLaw_17 hl.1 (Nat.le_of_ble_eq_true rfl) ⟨Nat.le_of_ble_eq_true rfl, Nat.le_of_ble_eq_true rfl⟩ ⟨hq2, hq2⟩ dL_addBlock_5 (fun c3 da ce9 q9 H locs v4 ev4 hH hS g1 g2 g3 => ?_) (fun c3 da H locs v4 ev4 hH hS => ?_)
  · have ho := ho c3
    have ho := ho v4 ev4
    refine (Decidable.em ((fX10_addBlock o1 p1 p2 v).1 = 1)).elim (fun c5 => ?_) (fun c5 => ?_)
    · skip
      refine t_c1 (k := 1) X htab rfl g1 g2 (c5 ▸ g3) ?_
      refine lv_astore (lv' := [(4, .ref q9), (0, .ref (ga G o1)), (1, .int p1), (2, .int p2), (3, .ref (ga G o2))]) hx hb dL_addBlock_13 hl (by decide) rfl (fun ls hl => ?_)
      refine lv_iconst (v := 1) hx hb dL_addBlock_15 (by decide) ?_
      replace ev4 := Eq.symm ev4
      subst ev4
      exact E _ _ _ _ _ _ _ _ _ _ dL_addBlock_16 (t31 ((fL_addBlock.eq_1 _ _ _ _ _ _).trans ((if_neg c3).trans ((if_pos c5).trans rfl)))) (t32 ((fL_addBlock.eq_1 _ _ _ _ _ _).trans ((if_neg c3).trans ((if_pos c5).trans rfl)))) (t33 ((fL_addBlock.eq_1 _ _ _ _ _ _).trans ((if_neg c3).trans ((if_pos c5).trans rfl)))) hH hS hq2 hq2
    · have ho := ho c5
      have hq6 := ho
      refine t_c2 (k := 2) X hN htab (by decide) rfl g1 g2 (hq6 ▸ g3) ?_
      refine lv_astore (lv' := [(4, .ref q9), (0, .ref (ga G o1)), (1, .int p1), (2, .int p2), (3, .ref (ga G o2))]) hx hb dL_addBlock_17 hl (by decide) rfl (fun ls hl => ?_)
      refine lv_iconst (v := 2) hx hb dL_addBlock_19 (by decide) ?_
      replace ev4 := Eq.symm ev4
      subst ev4
      exact E _ _ _ _ _ _ _ _ _ _ dL_addBlock_20 (t31 ((fL_addBlock.eq_1 _ _ _ _ _ _).trans ((if_neg c3).trans ((if_neg c5).trans rfl)))) (t32 ((fL_addBlock.eq_1 _ _ _ _ _ _).trans ((if_neg c3).trans ((if_neg c5).trans rfl)))) (t33 ((fL_addBlock.eq_1 _ _ _ _ _ _).trans ((if_neg c3).trans ((if_neg c5).trans rfl)))) hH hS hq2 hq2
  · skip
    refine lv_i2l (v := ((fX10_addBlock o1 p1 p2 v).2.1 : Int32).toInt64) hx hb dL_addBlock_8 rfl ?_
    refine last_34 X hH hS hk_o2 (i_in (by decide) (by decide)) dL_addBlock_9 (fun H locs x7 ex7 hH hS => ?_)
    refine lv_goto (tgt := 21) hx hb dL_addBlock_10 (by decide) ?_
    refine lv_iconst (v := 0) hx hb dL_addBlock_21 (by decide) ?_
    replace ev4 := Eq.symm ev4
    replace ex7 := Eq.symm ex7
    subst ev4 ex7
    exact E _ _ _ _ _ _ _ _ _ _ dL_addBlock_22 (t31 ((fL_addBlock.eq_1 _ _ _ _ _ _).trans ((if_pos c3).trans rfl))) (t32 ((fL_addBlock.eq_1 _ _ _ _ _ _).trans ((if_pos c3).trans rfl))) (t33 ((fL_addBlock.eq_1 _ _ _ _ _ _).trans ((if_pos c3).trans rfl))) hH hS hq2 hq2
theorem k_L_addBlock {p : Program} {l : Launch} {e : Env} {R : Room} {s : State} {m : MethodId} {args : Array Value} {below : List Frame} {meth : Method} {c : Code} {H : Heap} {locs : List Loc} {cells slots : Nat} {Q : State → Prop} {cc : ByteArray} {pc nL : Nat} {ls : Array Slot} {rest : List Value} {G : gG} {own : String} {da : Nat → Nat} {v : vSt} {x : gX} (hst : l.stackTraces = false) (X : CX G p s m args c cc nL own) (hS : va_S (gA G) s.heap H locs) (hN : NC s) (hH : Hp G da v x H) {o1 : Nat} (hk_o1 : kd o1 = 10) {p1 : Int32} {p2 : Int32} {o2 : Nat} (hk_o2 : kd o2 = 34) (ho : oL_addBlock o1 p1 p2 o2 v x) {idx : Nat} (hml : Cond.methodLink own idx yL_addBlock ∈ TT) (hls : ls.size = nL) (hsum : (rest.map fun v => v.category).sum ≤ 8) (hR : (rmL_addBlock o1 p1 p2 o2 v x).frames + 1 ≤ R.frames ∧ 8 + (5 + 11) + (rmL_addBlock o1 p1 p2 o2 v x).locals ≤ R.locals) (hcs : cells + (kkL_addBlock o1 p1 p2 o2 v x) ≤ R.cells ∧ slots + (kkL_addBlock o1 p1 p2 o2 v x) ≤ R.slots) (hdg : decode cc pc = .ok (.invokestatic idx, 3)) (kk : ∀ (d : Nat → Nat) (H1 : Heap) (locs1 : List Loc) (v1 : vSt) (x1 : gX), v1 = (fL_addBlock o1 p1 p2 o2 v x).2.1 → x1 = (fL_addBlock o1 p1 p2 o2 v x).2.2 → Hp G d v1 x1 H1 → va_S (gA G) s.heap H1 locs1 → W p l e R s m args below meth c H1 locs1 (cells + (kkL_addBlock o1 p1 p2 o2 v x)) (slots + (kkL_addBlock o1 p1 p2 o2 v x)) Q (F0 m (pc + 3) ls (.int (fL_addBlock o1 p1 p2 o2 v x).1 :: rest))) : W p l e R s m args below meth c H locs cells slots Q (F0 m pc ls (.ref (ga G o2) :: .int p2 :: .int p1 :: .ref (ga G o1) :: rest)) := c_li (runLS (kp := 4) X.1 X.2.1 X.2.2.1 X.2.2.2.1 X.2.2.2.2.1 (mL_addBlock l hst G da v x o1 hk_o1 p1 p2 o2 hk_o2 ho) pN_bl hml t_st_L_addBlock t_ini_VernierDrawersLaw t_code_L_addBlock ⟨by decide, by decide, by decide +kernel⟩ rfl rfl hR hcs (preN X hN hS hH) rfl hls rfl hsum hdg) hS (fun d9 H9 L9 hH9 => kk d9 H9 L9 _ _ rfl rfl hH9)
def fL_setWarmth (o1 : Nat) (p1 : Int32) (o2 : Nat) (v : vSt) (x : gX) : Int32 × vSt × gX := if (fX10_setWarmth o1 p1 v).1 = 0 then (let v4 : vSt := (fX10_setWarmth o1 p1 v).2.2; let x6 : gX := xu x o2 (0 : Int32).toNatClampNeg (((fX10_setWarmth o1 p1 v).2.1 : Int32).toInt64); (0, v4, x6)) else (let v4 : vSt := (fX10_setWarmth o1 p1 v).2.2; (1, v4, x))

def kkL_setWarmth (o1 : Nat) (p1 : Int32) (o2 : Nat) (v : vSt) (x : gX) : Nat := pot ((fL_setWarmth o1 p1 o2 v x).2.1) - pot v + 36
def oL_setWarmth (o1 : Nat) (p1 : Int32) (o2 : Nat) (v : vSt) (x : gX) : Prop := (oX10_setWarmth o1 p1 v) ∧ ((0 + kkX10_setWarmth o1 p1 v ≤ kkL_setWarmth o1 p1 o2 v x) ∧ (¬ ((fX10_setWarmth o1 p1 v).1 = 0) → (∀ v4 : vSt, v4 = ((fX10_setWarmth o1 p1 v).2.2) → ((fX10_setWarmth o1 p1 v).1 = 1))))
abbrev rmL_setWarmth (o1 : Nat) (p1 : Int32) (o2 : Nat) (v : vSt) (x : gX) : Room := { frames := 8, cells := kkL_setWarmth o1 p1 o2 v x, slots := kkL_setWarmth o1 p1 o2 v x, locals := 218 }
theorem dL_setWarmth_0 : decode cL_setWarmth 0 = .ok (.aload_n 2, 1) := by decide +kernel
theorem dL_setWarmth_1 : decode cL_setWarmth 1 = .ok (.iconst 0, 1) := by decide +kernel
theorem dL_setWarmth_2 : decode cL_setWarmth 2 = .ok (.aload_n 0, 1) := by decide +kernel
theorem dL_setWarmth_3 : decode cL_setWarmth 3 = .ok (.iload_n 1, 1) := by decide +kernel
theorem dL_setWarmth_4 : decode cL_setWarmth 4 = .ok (.invokevirtual 20, 3) := by decide +kernel
theorem dL_setWarmth_7 : decode cL_setWarmth 7 = .ok (.i2l, 1) := by decide +kernel
theorem dL_setWarmth_8 : decode cL_setWarmth 8 = .ok (.lastore, 1) := by decide +kernel
theorem dL_setWarmth_9 : decode cL_setWarmth 9 = .ok (.goto 6, 3) := by decide +kernel
theorem dL_setWarmth_12 : decode cL_setWarmth 12 = .ok (.astore_n 3, 1) := by decide +kernel
theorem dL_setWarmth_13 : decode cL_setWarmth 13 = .ok (.iconst 1, 1) := by decide +kernel
theorem dL_setWarmth_14 : decode cL_setWarmth 14 = .ok (.ireturn, 1) := by decide +kernel
theorem dL_setWarmth_15 : decode cL_setWarmth 15 = .ok (.iconst 0, 1) := by decide +kernel
theorem dL_setWarmth_16 : decode cL_setWarmth 16 = .ok (.ireturn, 1) := by decide +kernel
set_option maxHeartbeats 8000000 in
set_option maxRecDepth 100000 in
theorem mL_setWarmth (l : Launch) (hst : l.stackTraces = false) (G : gG) (da : Nat → Nat) (v : vSt) (x : gX) (o1 : Nat) (hk_o1 : kd o1 = 10) (p1 : Int32) (o2 : Nat) (hk_o2 : kd o2 = 34) (ho : oL_setWarmth o1 p1 o2 v x) : LI l yL_setWarmth cL_setWarmth 4 [((0 : Nat), (9 : Nat), (12 : Nat), (13 : Nat))] (rmL_setWarmth o1 p1 o2 v x) [.ref (ga G o1), .int p1, .ref (ga G o2)] G da v x (kkL_setWarmth o1 p1 o2 v x) (kkL_setWarmth o1 p1 o2 v x) (fL_setWarmth o1 p1 o2 v x).1 (fL_setWarmth o1 p1 o2 v x).2.1 (fL_setWarmth o1 p1 o2 v x).2.2 := by
  refine gofL (by decide) rfl (Nat.le_of_ble_eq_true rfl) (fun p e s m args below meth c ls Q X hN htab hH hl E => ?_)
  have hx := X.1
  have hb := X.2.1
  have hown := X.2.2.2.1
  have hts := X.2.2.2.2.1
  have hS : va_S (gA G) s.heap s.heap [] := va_S.rf
  unfold oL_setWarmth at ho
  have hl : lv_has ls 4 [(0, .ref (ga G o1)), (1, .int p1), (2, .ref (ga G o2))] := hl
  refine lv_aload_n hx hb dL_setWarmth_0 rfl (lv_at hl 2 rfl) ?_
  refine lv_iconst (v := 0) hx hb dL_setWarmth_1 (by decide) ?_
  refine lv_aload_n hx hb dL_setWarmth_2 rfl (lv_at hl 0 rfl) ?_
  refine lv_iload_n hx hb dL_setWarmth_3 rfl (lv_at hl 1 rfl) ?_
  have hq1 := ho.1
  have ho := ho.2
  have hq2 := ho.1
  have ho := ho.2
  refine k_X10_setWarmth hst X hS hH hk_o1 hq1 t_ml_VernierDrawersLaw_20 hl.1 (Nat.le_of_ble_eq_true rfl) ⟨Nat.le_of_ble_eq_true rfl, Nat.le_of_ble_eq_true rfl⟩ ⟨hq2, hq2⟩ dL_setWarmth_4 (fun c3 da ce9 q9 H locs v4 ev4 hH hS g1 g2 g3 => ?_) (fun c3 da H locs v4 ev4 hH hS => ?_)
  · have ho := ho c3
    have ho := ho v4 ev4
    have hq5 := ho
    refine t_c1 (k := 1) X htab rfl g1 g2 (hq5 ▸ g3) ?_
    refine lv_astore_n (lv' := [(3, .ref q9), (0, .ref (ga G o1)), (1, .int p1), (2, .ref (ga G o2))]) hx hb dL_setWarmth_12 rfl hl (by decide) rfl (fun ls hl => ?_)
    refine lv_iconst (v := 1) hx hb dL_setWarmth_13 (by decide) ?_
    replace ev4 := Eq.symm ev4
    subst ev4
    exact E _ _ _ _ _ _ _ _ _ _ dL_setWarmth_14 (t31 ((fL_setWarmth.eq_1 _ _ _ _ _).trans ((if_neg c3).trans rfl))) (t32 ((fL_setWarmth.eq_1 _ _ _ _ _).trans ((if_neg c3).trans rfl))) (t33 ((fL_setWarmth.eq_1 _ _ _ _ _).trans ((if_neg c3).trans rfl))) hH hS hq2 hq2
  · skip
    refine lv_i2l (v := ((fX10_setWarmth o1 p1 v).2.1 : Int32).toInt64) hx hb dL_setWarmth_7 rfl ?_
    refine last_34 X hH hS hk_o2 (i_in (by decide) (by decide)) dL_setWarmth_8 (fun H locs x6 ex6 hH hS => ?_)
    refine lv_goto (tgt := 15) hx hb dL_setWarmth_9 (by decide) ?_
    refine lv_iconst (v := 0) hx hb dL_setWarmth_15 (by decide) ?_
    replace ev4 := Eq.symm ev4
    replace ex6 := Eq.symm ex6
    subst ev4 ex6
    exact E _ _ _ _ _ _ _ _ _ _ dL_setWarmth_16 (t31 ((fL_setWarmth.eq_1 _ _ _ _ _).trans ((if_pos c3).trans rfl))) (t32 ((fL_setWarmth.eq_1 _ _ _ _ _).trans ((if_pos c3).trans rfl))) (t33 ((fL_setWarmth.eq_1 _ _ _ _ _).trans ((if_pos c3).trans rfl))) hH hS hq2 hq2
theorem k_L_setWarmth {p : Program} {l : Launch} {e : Env} {R : Room} {s : State} {m : MethodId} {args : Array Value} {below : List Frame} {meth : Method} {c : Code} {H : Heap} {locs : List Loc} {cells slots : Nat} {Q : State → Prop} {cc : ByteArray} {pc nL : Nat} {ls : Array Slot} {rest : List Value} {G : gG} {own : String} {da : Nat → Nat} {v : vSt} {x : gX} (hst : l.stackTraces = false) (X : CX G p s m args c cc nL own) (hS : va_S (gA G) s.heap H locs) (hN : NC s) (hH : Hp G da v x H) {o1 : Nat} (hk_o1 : kd o1 = 10) {p1 : Int32} {o2 : Nat} (hk_o2 : kd o2 = 34) (ho : oL_setWarmth o1 p1 o2 v x) {idx : Nat} (hml : Cond.methodLink own idx yL_setWarmth ∈ TT) (hls : ls.size = nL) (hsum : (rest.map fun v => v.category).sum ≤ 8) (hR : (rmL_setWarmth o1 p1 o2 v x).frames + 1 ≤ R.frames ∧ 8 + (4 + 11) + (rmL_setWarmth o1 p1 o2 v x).locals ≤ R.locals) (hcs : cells + (kkL_setWarmth o1 p1 o2 v x) ≤ R.cells ∧ slots + (kkL_setWarmth o1 p1 o2 v x) ≤ R.slots) (hdg : decode cc pc = .ok (.invokestatic idx, 3)) (kk : ∀ (d : Nat → Nat) (H1 : Heap) (locs1 : List Loc) (v1 : vSt) (x1 : gX), v1 = (fL_setWarmth o1 p1 o2 v x).2.1 → x1 = (fL_setWarmth o1 p1 o2 v x).2.2 → Hp G d v1 x1 H1 → va_S (gA G) s.heap H1 locs1 → W p l e R s m args below meth c H1 locs1 (cells + (kkL_setWarmth o1 p1 o2 v x)) (slots + (kkL_setWarmth o1 p1 o2 v x)) Q (F0 m (pc + 3) ls (.int (fL_setWarmth o1 p1 o2 v x).1 :: rest))) : W p l e R s m args below meth c H locs cells slots Q (F0 m pc ls (.ref (ga G o2) :: .int p1 :: .ref (ga G o1) :: rest)) := c_li (runLS (kp := 3) X.1 X.2.1 X.2.2.1 X.2.2.2.1 X.2.2.2.2.1 (mL_setWarmth l hst G da v x o1 hk_o1 p1 o2 hk_o2 ho) pN_bl hml t_st_L_setWarmth t_ini_VernierDrawersLaw t_code_L_setWarmth ⟨by decide, by decide, by decide +kernel⟩ rfl rfl hR hcs (preN X hN hS hH) rfl hls rfl hsum hdg) hS (fun d9 H9 L9 hH9 => kk d9 H9 L9 _ _ rfl rfl hH9)
def fL_measure (o1 : Nat) (p1 : Int32) (p2 : Int32) (p3 : Int32) (o2 : Nat) (v : vSt) (x : gX) : Int32 × vSt × gX := if (fX10_measure o1 p1 p2 p3 v).1 = 0 then (let v4 : vSt := (fX10_measure o1 p1 p2 p3 v).2.2; let x7 : gX := xu x o2 (0 : Int32).toNatClampNeg (((fX10_measure o1 p1 p2 p3 v).2.1 : Int32).toInt64); (0, v4, x7)) else (let v4 : vSt := (fX10_measure o1 p1 p2 p3 v).2.2; if (fX10_measure o1 p1 p2 p3 v).1 = 1 then ((1, v4, x)) else ((2, v4, x)))

def kkL_measure (o1 : Nat) (p1 : Int32) (p2 : Int32) (p3 : Int32) (o2 : Nat) (v : vSt) (x : gX) : Nat := pot ((fL_measure o1 p1 p2 p3 o2 v x).2.1) - pot v + 36
def oL_measure (o1 : Nat) (p1 : Int32) (p2 : Int32) (p3 : Int32) (o2 : Nat) (v : vSt) (x : gX) : Prop := (oX10_measure o1 p1 p2 p3 v) ∧ ((0 + kkX10_measure o1 p1 p2 p3 v ≤ kkL_measure o1 p1 p2 p3 o2 v x) ∧ (¬ ((fX10_measure o1 p1 p2 p3 v).1 = 0) → (∀ v4 : vSt, v4 = ((fX10_measure o1 p1 p2 p3 v).2.2) → (¬ ((fX10_measure o1 p1 p2 p3 v).1 = 1) → ((fX10_measure o1 p1 p2 p3 v).1 = 2)))))
abbrev rmL_measure (o1 : Nat) (p1 : Int32) (p2 : Int32) (p3 : Int32) (o2 : Nat) (v : vSt) (x : gX) : Room := { frames := 8, cells := kkL_measure o1 p1 p2 p3 o2 v x, slots := kkL_measure o1 p1 p2 p3 o2 v x, locals := 219 }
theorem dL_measure_0 : decode cL_measure 0 = .ok (.aload 4, 2) := by decide +kernel
theorem dL_measure_2 : decode cL_measure 2 = .ok (.iconst 0, 1) := by decide +kernel
theorem dL_measure_3 : decode cL_measure 3 = .ok (.aload_n 0, 1) := by decide +kernel
theorem dL_measure_4 : decode cL_measure 4 = .ok (.iload_n 1, 1) := by decide +kernel
theorem dL_measure_5 : decode cL_measure 5 = .ok (.iload_n 2, 1) := by decide +kernel
theorem dL_measure_6 : decode cL_measure 6 = .ok (.iload_n 3, 1) := by decide +kernel
theorem dL_measure_7 : decode cL_measure 7 = .ok (.invokevirtual 24, 3) := by decide +kernel
theorem dL_measure_10 : decode cL_measure 10 = .ok (.i2l, 1) := by decide +kernel
theorem dL_measure_11 : decode cL_measure 11 = .ok (.lastore, 1) := by decide +kernel
theorem dL_measure_12 : decode cL_measure 12 = .ok (.goto 11, 3) := by decide +kernel
theorem dL_measure_15 : decode cL_measure 15 = .ok (.astore 5, 2) := by decide +kernel
theorem dL_measure_17 : decode cL_measure 17 = .ok (.iconst 1, 1) := by decide +kernel
theorem dL_measure_18 : decode cL_measure 18 = .ok (.ireturn, 1) := by decide +kernel
theorem dL_measure_19 : decode cL_measure 19 = .ok (.astore 5, 2) := by decide +kernel
theorem dL_measure_21 : decode cL_measure 21 = .ok (.iconst 2, 1) := by decide +kernel
theorem dL_measure_22 : decode cL_measure 22 = .ok (.ireturn, 1) := by decide +kernel
theorem dL_measure_23 : decode cL_measure 23 = .ok (.iconst 0, 1) := by decide +kernel
theorem dL_measure_24 : decode cL_measure 24 = .ok (.ireturn, 1) := by decide +kernel
set_option maxHeartbeats 8000000 in
set_option maxRecDepth 100000 in
theorem mL_measure (l : Launch) (hst : l.stackTraces = false) (G : gG) (da : Nat → Nat) (v : vSt) (x : gX) (o1 : Nat) (hk_o1 : kd o1 = 10) (p1 : Int32) (p2 : Int32) (p3 : Int32) (o2 : Nat) (hk_o2 : kd o2 = 34) (ho : oL_measure o1 p1 p2 p3 o2 v x) : LI l yL_measure cL_measure 6 [((0 : Nat), (12 : Nat), (15 : Nat), (13 : Nat)), ((0 : Nat), (12 : Nat), (19 : Nat), (15 : Nat))] (rmL_measure o1 p1 p2 p3 o2 v x) [.ref (ga G o1), .int p1, .int p2, .int p3, .ref (ga G o2)] G da v x (kkL_measure o1 p1 p2 p3 o2 v x) (kkL_measure o1 p1 p2 p3 o2 v x) (fL_measure o1 p1 p2 p3 o2 v x).1 (fL_measure o1 p1 p2 p3 o2 v x).2.1 (fL_measure o1 p1 p2 p3 o2 v x).2.2 := by
  refine gofL (by decide) rfl (Nat.le_of_ble_eq_true rfl) (fun p e s m args below meth c ls Q X hN htab hH hl E => ?_)
  have hx := X.1
  have hb := X.2.1
  have hown := X.2.2.2.1
  have hts := X.2.2.2.2.1
  have hS : va_S (gA G) s.heap s.heap [] := va_S.rf
  unfold oL_measure at ho
  have hl : lv_has ls 6 [(0, .ref (ga G o1)), (1, .int p1), (2, .int p2), (3, .int p3), (4, .ref (ga G o2))] := hl
  refine lv_aload hx hb dL_measure_0 (lv_at hl 4 rfl) ?_
  refine lv_iconst (v := 0) hx hb dL_measure_2 (by decide) ?_
  refine lv_aload_n hx hb dL_measure_3 rfl (lv_at hl 0 rfl) ?_
  refine lv_iload_n hx hb dL_measure_4 rfl (lv_at hl 1 rfl) ?_
  refine lv_iload_n hx hb dL_measure_5 rfl (lv_at hl 2 rfl) ?_
  refine lv_iload_n hx hb dL_measure_6 rfl (lv_at hl 3 rfl) ?_
  have hq1 := ho.1
  have ho := ho.2
  have hq2 := ho.1
  have ho := ho.2
  refine k_X10_measure hst X hS hH hk_o1 hq1 t_ml_VernierDrawersLaw_24 hl.1 (Nat.le_of_ble_eq_true rfl) ⟨Nat.le_of_ble_eq_true rfl, Nat.le_of_ble_eq_true rfl⟩ ⟨hq2, hq2⟩ dL_measure_7 (fun c3 da ce9 q9 H locs v4 ev4 hH hS g1 g2 g3 => ?_) (fun c3 da H locs v4 ev4 hH hS => ?_)
  · have ho := ho c3
    have ho := ho v4 ev4
    refine (Decidable.em ((fX10_measure o1 p1 p2 p3 v).1 = 1)).elim (fun c5 => ?_) (fun c5 => ?_)
    · skip
      refine t_c1 (k := 1) X htab rfl g1 g2 (c5 ▸ g3) ?_
      refine lv_astore (lv' := [(5, .ref q9), (0, .ref (ga G o1)), (1, .int p1), (2, .int p2), (3, .int p3), (4, .ref (ga G o2))]) hx hb dL_measure_15 hl (by decide) rfl (fun ls hl => ?_)
      refine lv_iconst (v := 1) hx hb dL_measure_17 (by decide) ?_
      replace ev4 := Eq.symm ev4
      subst ev4
      exact E _ _ _ _ _ _ _ _ _ _ dL_measure_18 (t31 ((fL_measure.eq_1 _ _ _ _ _ _ _).trans ((if_neg c3).trans ((if_pos c5).trans rfl)))) (t32 ((fL_measure.eq_1 _ _ _ _ _ _ _).trans ((if_neg c3).trans ((if_pos c5).trans rfl)))) (t33 ((fL_measure.eq_1 _ _ _ _ _ _ _).trans ((if_neg c3).trans ((if_pos c5).trans rfl)))) hH hS hq2 hq2
    · have ho := ho c5
      have hq6 := ho
      refine t_c2 (k := 2) X hN htab (by decide) rfl g1 g2 (hq6 ▸ g3) ?_
      refine lv_astore (lv' := [(5, .ref q9), (0, .ref (ga G o1)), (1, .int p1), (2, .int p2), (3, .int p3), (4, .ref (ga G o2))]) hx hb dL_measure_19 hl (by decide) rfl (fun ls hl => ?_)
      refine lv_iconst (v := 2) hx hb dL_measure_21 (by decide) ?_
      replace ev4 := Eq.symm ev4
      subst ev4
      exact E _ _ _ _ _ _ _ _ _ _ dL_measure_22 (t31 ((fL_measure.eq_1 _ _ _ _ _ _ _).trans ((if_neg c3).trans ((if_neg c5).trans rfl)))) (t32 ((fL_measure.eq_1 _ _ _ _ _ _ _).trans ((if_neg c3).trans ((if_neg c5).trans rfl)))) (t33 ((fL_measure.eq_1 _ _ _ _ _ _ _).trans ((if_neg c3).trans ((if_neg c5).trans rfl)))) hH hS hq2 hq2
  · skip
    refine lv_i2l (v := ((fX10_measure o1 p1 p2 p3 v).2.1 : Int32).toInt64) hx hb dL_measure_10 rfl ?_
    refine last_34 X hH hS hk_o2 (i_in (by decide) (by decide)) dL_measure_11 (fun H locs x7 ex7 hH hS => ?_)
    refine lv_goto (tgt := 23) hx hb dL_measure_12 (by decide) ?_
    refine lv_iconst (v := 0) hx hb dL_measure_23 (by decide) ?_
    replace ev4 := Eq.symm ev4
    replace ex7 := Eq.symm ex7
    subst ev4 ex7
    exact E _ _ _ _ _ _ _ _ _ _ dL_measure_24 (t31 ((fL_measure.eq_1 _ _ _ _ _ _ _).trans ((if_pos c3).trans rfl))) (t32 ((fL_measure.eq_1 _ _ _ _ _ _ _).trans ((if_pos c3).trans rfl))) (t33 ((fL_measure.eq_1 _ _ _ _ _ _ _).trans ((if_pos c3).trans rfl))) hH hS hq2 hq2
theorem k_L_measure {p : Program} {l : Launch} {e : Env} {R : Room} {s : State} {m : MethodId} {args : Array Value} {below : List Frame} {meth : Method} {c : Code} {H : Heap} {locs : List Loc} {cells slots : Nat} {Q : State → Prop} {cc : ByteArray} {pc nL : Nat} {ls : Array Slot} {rest : List Value} {G : gG} {own : String} {da : Nat → Nat} {v : vSt} {x : gX} (hst : l.stackTraces = false) (X : CX G p s m args c cc nL own) (hS : va_S (gA G) s.heap H locs) (hN : NC s) (hH : Hp G da v x H) {o1 : Nat} (hk_o1 : kd o1 = 10) {p1 : Int32} {p2 : Int32} {p3 : Int32} {o2 : Nat} (hk_o2 : kd o2 = 34) (ho : oL_measure o1 p1 p2 p3 o2 v x) {idx : Nat} (hml : Cond.methodLink own idx yL_measure ∈ TT) (hls : ls.size = nL) (hsum : (rest.map fun v => v.category).sum ≤ 8) (hR : (rmL_measure o1 p1 p2 p3 o2 v x).frames + 1 ≤ R.frames ∧ 8 + (6 + 11) + (rmL_measure o1 p1 p2 p3 o2 v x).locals ≤ R.locals) (hcs : cells + (kkL_measure o1 p1 p2 p3 o2 v x) ≤ R.cells ∧ slots + (kkL_measure o1 p1 p2 p3 o2 v x) ≤ R.slots) (hdg : decode cc pc = .ok (.invokestatic idx, 3)) (kk : ∀ (d : Nat → Nat) (H1 : Heap) (locs1 : List Loc) (v1 : vSt) (x1 : gX), v1 = (fL_measure o1 p1 p2 p3 o2 v x).2.1 → x1 = (fL_measure o1 p1 p2 p3 o2 v x).2.2 → Hp G d v1 x1 H1 → va_S (gA G) s.heap H1 locs1 → W p l e R s m args below meth c H1 locs1 (cells + (kkL_measure o1 p1 p2 p3 o2 v x)) (slots + (kkL_measure o1 p1 p2 p3 o2 v x)) Q (F0 m (pc + 3) ls (.int (fL_measure o1 p1 p2 p3 o2 v x).1 :: rest))) : W p l e R s m args below meth c H locs cells slots Q (F0 m pc ls (.ref (ga G o2) :: .int p3 :: .int p2 :: .int p1 :: .ref (ga G o1) :: rest)) := c_li (runLS (kp := 5) X.1 X.2.1 X.2.2.1 X.2.2.2.1 X.2.2.2.2.1 (mL_measure l hst G da v x o1 hk_o1 p1 p2 p3 o2 hk_o2 ho) pN_bl hml t_st_L_measure t_ini_VernierDrawersLaw t_code_L_measure ⟨by decide, by decide, by decide +kernel⟩ rfl rfl hR hcs (preN X hN hS hH) rfl hls rfl hsum hdg) hS (fun d9 H9 L9 hH9 => kk d9 H9 L9 _ _ rfl rfl hH9)
def fL_calibrate (o1 : Nat) (p1 : Int32) (p2 : Int32) (o2 : Nat) (v : vSt) (x : gX) : Int32 × vSt × gX := if (fX10_calibrate o1 p1 p2 v).1 = 0 then (let v4 : vSt := (fX10_calibrate o1 p1 p2 v).2.2; let x7 : gX := xu x o2 (0 : Int32).toNatClampNeg (((fX10_calibrate o1 p1 p2 v).2.1 : Int32).toInt64); (0, v4, x7)) else (let v4 : vSt := (fX10_calibrate o1 p1 p2 v).2.2; if (fX10_calibrate o1 p1 p2 v).1 = 1 then ((1, v4, x)) else ((2, v4, x)))

def kkL_calibrate (o1 : Nat) (p1 : Int32) (p2 : Int32) (o2 : Nat) (v : vSt) (x : gX) : Nat := pot ((fL_calibrate o1 p1 p2 o2 v x).2.1) - pot v + 36
def oL_calibrate (o1 : Nat) (p1 : Int32) (p2 : Int32) (o2 : Nat) (v : vSt) (x : gX) : Prop := (oX10_calibrate o1 p1 p2 v) ∧ ((0 + kkX10_calibrate o1 p1 p2 v ≤ kkL_calibrate o1 p1 p2 o2 v x) ∧ (¬ ((fX10_calibrate o1 p1 p2 v).1 = 0) → (∀ v4 : vSt, v4 = ((fX10_calibrate o1 p1 p2 v).2.2) → (¬ ((fX10_calibrate o1 p1 p2 v).1 = 1) → ((fX10_calibrate o1 p1 p2 v).1 = 2)))))
abbrev rmL_calibrate (o1 : Nat) (p1 : Int32) (p2 : Int32) (o2 : Nat) (v : vSt) (x : gX) : Room := { frames := 8, cells := kkL_calibrate o1 p1 p2 o2 v x, slots := kkL_calibrate o1 p1 p2 o2 v x, locals := 218 }
theorem dL_calibrate_0 : decode cL_calibrate 0 = .ok (.aload_n 3, 1) := by decide +kernel
theorem dL_calibrate_1 : decode cL_calibrate 1 = .ok (.iconst 0, 1) := by decide +kernel
theorem dL_calibrate_2 : decode cL_calibrate 2 = .ok (.aload_n 0, 1) := by decide +kernel
theorem dL_calibrate_3 : decode cL_calibrate 3 = .ok (.iload_n 1, 1) := by decide +kernel
theorem dL_calibrate_4 : decode cL_calibrate 4 = .ok (.iload_n 2, 1) := by decide +kernel
theorem dL_calibrate_5 : decode cL_calibrate 5 = .ok (.invokevirtual 28, 3) := by decide +kernel
theorem dL_calibrate_8 : decode cL_calibrate 8 = .ok (.i2l, 1) := by decide +kernel
theorem dL_calibrate_9 : decode cL_calibrate 9 = .ok (.lastore, 1) := by decide +kernel
theorem dL_calibrate_10 : decode cL_calibrate 10 = .ok (.goto 11, 3) := by decide +kernel
theorem dL_calibrate_13 : decode cL_calibrate 13 = .ok (.astore 4, 2) := by decide +kernel
theorem dL_calibrate_15 : decode cL_calibrate 15 = .ok (.iconst 1, 1) := by decide +kernel
theorem dL_calibrate_16 : decode cL_calibrate 16 = .ok (.ireturn, 1) := by decide +kernel
theorem dL_calibrate_17 : decode cL_calibrate 17 = .ok (.astore 4, 2) := by decide +kernel
theorem dL_calibrate_19 : decode cL_calibrate 19 = .ok (.iconst 2, 1) := by decide +kernel
theorem dL_calibrate_20 : decode cL_calibrate 20 = .ok (.ireturn, 1) := by decide +kernel
theorem dL_calibrate_21 : decode cL_calibrate 21 = .ok (.iconst 0, 1) := by decide +kernel
theorem dL_calibrate_22 : decode cL_calibrate 22 = .ok (.ireturn, 1) := by decide +kernel
set_option maxHeartbeats 8000000 in
set_option maxRecDepth 100000 in
theorem mL_calibrate (l : Launch) (hst : l.stackTraces = false) (G : gG) (da : Nat → Nat) (v : vSt) (x : gX) (o1 : Nat) (hk_o1 : kd o1 = 10) (p1 : Int32) (p2 : Int32) (o2 : Nat) (hk_o2 : kd o2 = 34) (ho : oL_calibrate o1 p1 p2 o2 v x) : LI l yL_calibrate cL_calibrate 5 [((0 : Nat), (10 : Nat), (13 : Nat), (13 : Nat)), ((0 : Nat), (10 : Nat), (17 : Nat), (15 : Nat))] (rmL_calibrate o1 p1 p2 o2 v x) [.ref (ga G o1), .int p1, .int p2, .ref (ga G o2)] G da v x (kkL_calibrate o1 p1 p2 o2 v x) (kkL_calibrate o1 p1 p2 o2 v x) (fL_calibrate o1 p1 p2 o2 v x).1 (fL_calibrate o1 p1 p2 o2 v x).2.1 (fL_calibrate o1 p1 p2 o2 v x).2.2 := by
  refine gofL (by decide) rfl (Nat.le_of_ble_eq_true rfl) (fun p e s m args below meth c ls Q X hN htab hH hl E => ?_)
  have hx := X.1
  have hb := X.2.1
  have hown := X.2.2.2.1
  have hts := X.2.2.2.2.1
  have hS : va_S (gA G) s.heap s.heap [] := va_S.rf
  unfold oL_calibrate at ho
  have hl : lv_has ls 5 [(0, .ref (ga G o1)), (1, .int p1), (2, .int p2), (3, .ref (ga G o2))] := hl
  refine lv_aload_n hx hb dL_calibrate_0 rfl (lv_at hl 3 rfl) ?_
  refine lv_iconst (v := 0) hx hb dL_calibrate_1 (by decide) ?_
  refine lv_aload_n hx hb dL_calibrate_2 rfl (lv_at hl 0 rfl) ?_
  refine lv_iload_n hx hb dL_calibrate_3 rfl (lv_at hl 1 rfl) ?_
  refine lv_iload_n hx hb dL_calibrate_4 rfl (lv_at hl 2 rfl) ?_
  have hq1 := ho.1
  have ho := ho.2
  have hq2 := ho.1
  have ho := ho.2
  refine k_X10_calibrate hst X hS hH hk_o1 hq1 t_ml_VernierDrawersLaw_28 hl.1 (Nat.le_of_ble_eq_true rfl) ⟨Nat.le_of_ble_eq_true rfl, Nat.le_of_ble_eq_true rfl⟩ ⟨hq2, hq2⟩ dL_calibrate_5 (fun c3 da ce9 q9 H locs v4 ev4 hH hS g1 g2 g3 => ?_) (fun c3 da H locs v4 ev4 hH hS => ?_)
  · have ho := ho c3
    have ho := ho v4 ev4
    refine (Decidable.em ((fX10_calibrate o1 p1 p2 v).1 = 1)).elim (fun c5 => ?_) (fun c5 => ?_)
    · skip
      refine t_c1 (k := 1) X htab rfl g1 g2 (c5 ▸ g3) ?_
      refine lv_astore (lv' := [(4, .ref q9), (0, .ref (ga G o1)), (1, .int p1), (2, .int p2), (3, .ref (ga G o2))]) hx hb dL_calibrate_13 hl (by decide) rfl (fun ls hl => ?_)
      refine lv_iconst (v := 1) hx hb dL_calibrate_15 (by decide) ?_
      replace ev4 := Eq.symm ev4
      subst ev4
      exact E _ _ _ _ _ _ _ _ _ _ dL_calibrate_16 (t31 ((fL_calibrate.eq_1 _ _ _ _ _ _).trans ((if_neg c3).trans ((if_pos c5).trans rfl)))) (t32 ((fL_calibrate.eq_1 _ _ _ _ _ _).trans ((if_neg c3).trans ((if_pos c5).trans rfl)))) (t33 ((fL_calibrate.eq_1 _ _ _ _ _ _).trans ((if_neg c3).trans ((if_pos c5).trans rfl)))) hH hS hq2 hq2
    · have ho := ho c5
      have hq6 := ho
      refine t_c2 (k := 2) X hN htab (by decide) rfl g1 g2 (hq6 ▸ g3) ?_
      refine lv_astore (lv' := [(4, .ref q9), (0, .ref (ga G o1)), (1, .int p1), (2, .int p2), (3, .ref (ga G o2))]) hx hb dL_calibrate_17 hl (by decide) rfl (fun ls hl => ?_)
      refine lv_iconst (v := 2) hx hb dL_calibrate_19 (by decide) ?_
      replace ev4 := Eq.symm ev4
      subst ev4
      exact E _ _ _ _ _ _ _ _ _ _ dL_calibrate_20 (t31 ((fL_calibrate.eq_1 _ _ _ _ _ _).trans ((if_neg c3).trans ((if_neg c5).trans rfl)))) (t32 ((fL_calibrate.eq_1 _ _ _ _ _ _).trans ((if_neg c3).trans ((if_neg c5).trans rfl)))) (t33 ((fL_calibrate.eq_1 _ _ _ _ _ _).trans ((if_neg c3).trans ((if_neg c5).trans rfl)))) hH hS hq2 hq2
  · skip
    refine lv_i2l (v := ((fX10_calibrate o1 p1 p2 v).2.1 : Int32).toInt64) hx hb dL_calibrate_8 rfl ?_
    refine last_34 X hH hS hk_o2 (i_in (by decide) (by decide)) dL_calibrate_9 (fun H locs x7 ex7 hH hS => ?_)
    refine lv_goto (tgt := 21) hx hb dL_calibrate_10 (by decide) ?_
    refine lv_iconst (v := 0) hx hb dL_calibrate_21 (by decide) ?_
    replace ev4 := Eq.symm ev4
    replace ex7 := Eq.symm ex7
    subst ev4 ex7
    exact E _ _ _ _ _ _ _ _ _ _ dL_calibrate_22 (t31 ((fL_calibrate.eq_1 _ _ _ _ _ _).trans ((if_pos c3).trans rfl))) (t32 ((fL_calibrate.eq_1 _ _ _ _ _ _).trans ((if_pos c3).trans rfl))) (t33 ((fL_calibrate.eq_1 _ _ _ _ _ _).trans ((if_pos c3).trans rfl))) hH hS hq2 hq2
theorem k_L_calibrate {p : Program} {l : Launch} {e : Env} {R : Room} {s : State} {m : MethodId} {args : Array Value} {below : List Frame} {meth : Method} {c : Code} {H : Heap} {locs : List Loc} {cells slots : Nat} {Q : State → Prop} {cc : ByteArray} {pc nL : Nat} {ls : Array Slot} {rest : List Value} {G : gG} {own : String} {da : Nat → Nat} {v : vSt} {x : gX} (hst : l.stackTraces = false) (X : CX G p s m args c cc nL own) (hS : va_S (gA G) s.heap H locs) (hN : NC s) (hH : Hp G da v x H) {o1 : Nat} (hk_o1 : kd o1 = 10) {p1 : Int32} {p2 : Int32} {o2 : Nat} (hk_o2 : kd o2 = 34) (ho : oL_calibrate o1 p1 p2 o2 v x) {idx : Nat} (hml : Cond.methodLink own idx yL_calibrate ∈ TT) (hls : ls.size = nL) (hsum : (rest.map fun v => v.category).sum ≤ 8) (hR : (rmL_calibrate o1 p1 p2 o2 v x).frames + 1 ≤ R.frames ∧ 8 + (5 + 11) + (rmL_calibrate o1 p1 p2 o2 v x).locals ≤ R.locals) (hcs : cells + (kkL_calibrate o1 p1 p2 o2 v x) ≤ R.cells ∧ slots + (kkL_calibrate o1 p1 p2 o2 v x) ≤ R.slots) (hdg : decode cc pc = .ok (.invokestatic idx, 3)) (kk : ∀ (d : Nat → Nat) (H1 : Heap) (locs1 : List Loc) (v1 : vSt) (x1 : gX), v1 = (fL_calibrate o1 p1 p2 o2 v x).2.1 → x1 = (fL_calibrate o1 p1 p2 o2 v x).2.2 → Hp G d v1 x1 H1 → va_S (gA G) s.heap H1 locs1 → W p l e R s m args below meth c H1 locs1 (cells + (kkL_calibrate o1 p1 p2 o2 v x)) (slots + (kkL_calibrate o1 p1 p2 o2 v x)) Q (F0 m (pc + 3) ls (.int (fL_calibrate o1 p1 p2 o2 v x).1 :: rest))) : W p l e R s m args below meth c H locs cells slots Q (F0 m pc ls (.ref (ga G o2) :: .int p2 :: .int p1 :: .ref (ga G o1) :: rest)) := c_li (runLS (kp := 4) X.1 X.2.1 X.2.2.1 X.2.2.2.1 X.2.2.2.2.1 (mL_calibrate l hst G da v x o1 hk_o1 p1 p2 o2 hk_o2 ho) pN_bl hml t_st_L_calibrate t_ini_VernierDrawersLaw t_code_L_calibrate ⟨by decide, by decide, by decide +kernel⟩ rfl rfl hR hcs (preN X hN hS hH) rfl hls rfl hsum hdg) hS (fun d9 H9 L9 hH9 => kk d9 H9 L9 _ _ rfl rfl hH9)
def fL_endDay (o1 : Nat) (o2 : Nat) (v : vSt) (x : gX) : Int32 × vSt × gX := if (fX10_endDay o1 v).1 = 0 then (let v4 : vSt := (fX10_endDay o1 v).2.2; let x6 : gX := xu x o2 (0 : Int32).toNatClampNeg (((fX10_endDay o1 v).2.1 : Int32).toInt64); (0, v4, x6)) else (let v4 : vSt := (fX10_endDay o1 v).2.2; (1, v4, x))

def kkL_endDay (o1 : Nat) (o2 : Nat) (v : vSt) (x : gX) : Nat := pot ((fL_endDay o1 o2 v x).2.1) - pot v + 36
def oL_endDay (o1 : Nat) (o2 : Nat) (v : vSt) (x : gX) : Prop := (oX10_endDay o1 v) ∧ ((0 + kkX10_endDay o1 v ≤ kkL_endDay o1 o2 v x) ∧ (¬ ((fX10_endDay o1 v).1 = 0) → (∀ v4 : vSt, v4 = ((fX10_endDay o1 v).2.2) → ((fX10_endDay o1 v).1 = 2))))
abbrev rmL_endDay (o1 : Nat) (o2 : Nat) (v : vSt) (x : gX) : Room := { frames := 8, cells := kkL_endDay o1 o2 v x, slots := kkL_endDay o1 o2 v x, locals := 216 }
theorem dL_endDay_0 : decode cL_endDay 0 = .ok (.aload_n 1, 1) := by decide +kernel
theorem dL_endDay_1 : decode cL_endDay 1 = .ok (.iconst 0, 1) := by decide +kernel
theorem dL_endDay_2 : decode cL_endDay 2 = .ok (.aload_n 0, 1) := by decide +kernel
theorem dL_endDay_3 : decode cL_endDay 3 = .ok (.invokevirtual 31, 3) := by decide +kernel
theorem dL_endDay_6 : decode cL_endDay 6 = .ok (.i2l, 1) := by decide +kernel
theorem dL_endDay_7 : decode cL_endDay 7 = .ok (.lastore, 1) := by decide +kernel
theorem dL_endDay_8 : decode cL_endDay 8 = .ok (.goto 6, 3) := by decide +kernel
theorem dL_endDay_11 : decode cL_endDay 11 = .ok (.astore_n 2, 1) := by decide +kernel
theorem dL_endDay_12 : decode cL_endDay 12 = .ok (.iconst 1, 1) := by decide +kernel
theorem dL_endDay_13 : decode cL_endDay 13 = .ok (.ireturn, 1) := by decide +kernel
theorem dL_endDay_14 : decode cL_endDay 14 = .ok (.iconst 0, 1) := by decide +kernel
theorem dL_endDay_15 : decode cL_endDay 15 = .ok (.ireturn, 1) := by decide +kernel
set_option maxHeartbeats 8000000 in
set_option maxRecDepth 100000 in
theorem mL_endDay (l : Launch) (hst : l.stackTraces = false) (G : gG) (da : Nat → Nat) (v : vSt) (x : gX) (o1 : Nat) (hk_o1 : kd o1 = 10) (o2 : Nat) (hk_o2 : kd o2 = 34) (ho : oL_endDay o1 o2 v x) : LI l yL_endDay cL_endDay 3 [((0 : Nat), (8 : Nat), (11 : Nat), (15 : Nat))] (rmL_endDay o1 o2 v x) [.ref (ga G o1), .ref (ga G o2)] G da v x (kkL_endDay o1 o2 v x) (kkL_endDay o1 o2 v x) (fL_endDay o1 o2 v x).1 (fL_endDay o1 o2 v x).2.1 (fL_endDay o1 o2 v x).2.2 := by
  refine gofL (by decide) rfl (Nat.le_of_ble_eq_true rfl) (fun p e s m args below meth c ls Q X hN htab hH hl E => ?_)
  have hx := X.1
  have hb := X.2.1
  have hown := X.2.2.2.1
  have hts := X.2.2.2.2.1
  have hS : va_S (gA G) s.heap s.heap [] := va_S.rf
  unfold oL_endDay at ho
  have hl : lv_has ls 3 [(0, .ref (ga G o1)), (1, .ref (ga G o2))] := hl
  refine lv_aload_n hx hb dL_endDay_0 rfl (lv_at hl 1 rfl) ?_
  refine lv_iconst (v := 0) hx hb dL_endDay_1 (by decide) ?_
  refine lv_aload_n hx hb dL_endDay_2 rfl (lv_at hl 0 rfl) ?_
  have hq1 := ho.1
  have ho := ho.2
  have hq2 := ho.1
  have ho := ho.2
  refine k_X10_endDay hst X hS hH hk_o1 hq1 t_ml_VernierDrawersLaw_31 hl.1 (Nat.le_of_ble_eq_true rfl) ⟨Nat.le_of_ble_eq_true rfl, Nat.le_of_ble_eq_true rfl⟩ ⟨hq2, hq2⟩ dL_endDay_3 (fun c3 da ce9 q9 H locs v4 ev4 hH hS g1 g2 g3 => ?_) (fun c3 da H locs v4 ev4 hH hS => ?_)
  · have ho := ho c3
    have ho := ho v4 ev4
    have hq5 := ho
    refine t_c1 (k := 2) X htab rfl g1 g2 (hq5 ▸ g3) ?_
    refine lv_astore_n (lv' := [(2, .ref q9), (0, .ref (ga G o1)), (1, .ref (ga G o2))]) hx hb dL_endDay_11 rfl hl (by decide) rfl (fun ls hl => ?_)
    refine lv_iconst (v := 1) hx hb dL_endDay_12 (by decide) ?_
    replace ev4 := Eq.symm ev4
    subst ev4
    exact E _ _ _ _ _ _ _ _ _ _ dL_endDay_13 (t31 ((fL_endDay.eq_1 _ _ _ _).trans ((if_neg c3).trans rfl))) (t32 ((fL_endDay.eq_1 _ _ _ _).trans ((if_neg c3).trans rfl))) (t33 ((fL_endDay.eq_1 _ _ _ _).trans ((if_neg c3).trans rfl))) hH hS hq2 hq2
  · skip
    refine lv_i2l (v := ((fX10_endDay o1 v).2.1 : Int32).toInt64) hx hb dL_endDay_6 rfl ?_
    refine last_34 X hH hS hk_o2 (i_in (by decide) (by decide)) dL_endDay_7 (fun H locs x6 ex6 hH hS => ?_)
    refine lv_goto (tgt := 14) hx hb dL_endDay_8 (by decide) ?_
    refine lv_iconst (v := 0) hx hb dL_endDay_14 (by decide) ?_
    replace ev4 := Eq.symm ev4
    replace ex6 := Eq.symm ex6
    subst ev4 ex6
    exact E _ _ _ _ _ _ _ _ _ _ dL_endDay_15 (t31 ((fL_endDay.eq_1 _ _ _ _).trans ((if_pos c3).trans rfl))) (t32 ((fL_endDay.eq_1 _ _ _ _).trans ((if_pos c3).trans rfl))) (t33 ((fL_endDay.eq_1 _ _ _ _).trans ((if_pos c3).trans rfl))) hH hS hq2 hq2
theorem k_L_endDay {p : Program} {l : Launch} {e : Env} {R : Room} {s : State} {m : MethodId} {args : Array Value} {below : List Frame} {meth : Method} {c : Code} {H : Heap} {locs : List Loc} {cells slots : Nat} {Q : State → Prop} {cc : ByteArray} {pc nL : Nat} {ls : Array Slot} {rest : List Value} {G : gG} {own : String} {da : Nat → Nat} {v : vSt} {x : gX} (hst : l.stackTraces = false) (X : CX G p s m args c cc nL own) (hS : va_S (gA G) s.heap H locs) (hN : NC s) (hH : Hp G da v x H) {o1 : Nat} (hk_o1 : kd o1 = 10) {o2 : Nat} (hk_o2 : kd o2 = 34) (ho : oL_endDay o1 o2 v x) {idx : Nat} (hml : Cond.methodLink own idx yL_endDay ∈ TT) (hls : ls.size = nL) (hsum : (rest.map fun v => v.category).sum ≤ 8) (hR : (rmL_endDay o1 o2 v x).frames + 1 ≤ R.frames ∧ 8 + (3 + 11) + (rmL_endDay o1 o2 v x).locals ≤ R.locals) (hcs : cells + (kkL_endDay o1 o2 v x) ≤ R.cells ∧ slots + (kkL_endDay o1 o2 v x) ≤ R.slots) (hdg : decode cc pc = .ok (.invokestatic idx, 3)) (kk : ∀ (d : Nat → Nat) (H1 : Heap) (locs1 : List Loc) (v1 : vSt) (x1 : gX), v1 = (fL_endDay o1 o2 v x).2.1 → x1 = (fL_endDay o1 o2 v x).2.2 → Hp G d v1 x1 H1 → va_S (gA G) s.heap H1 locs1 → W p l e R s m args below meth c H1 locs1 (cells + (kkL_endDay o1 o2 v x)) (slots + (kkL_endDay o1 o2 v x)) Q (F0 m (pc + 3) ls (.int (fL_endDay o1 o2 v x).1 :: rest))) : W p l e R s m args below meth c H locs cells slots Q (F0 m pc ls (.ref (ga G o2) :: .ref (ga G o1) :: rest)) := c_li (runLS (kp := 2) X.1 X.2.1 X.2.2.1 X.2.2.2.1 X.2.2.2.2.1 (mL_endDay l hst G da v x o1 hk_o1 o2 hk_o2 ho) pN_bl hml t_st_L_endDay t_ini_VernierDrawersLaw t_code_L_endDay ⟨by decide, by decide, by decide +kernel⟩ rfl rfl hR hcs (preN X hN hS hH) rfl hls rfl hsum hdg) hS (fun d9 H9 L9 hH9 => kk d9 H9 L9 _ _ rfl rfl hH9)
def fL_addType (o1 : Nat) (p1 : Int32) (p2 : Int32) (p3 : Int32) (p4 : Int32) (o2 : Nat) (v : vSt) (x : gX) : Int32 × vSt × gX := if (fX10_addType o1 p1 p2 p3 p4 v).1 = 0 then (let v4 : vSt := (fX10_addType o1 p1 p2 p3 p4 v).2.2; let x7 : gX := xu x o2 (0 : Int32).toNatClampNeg (((fX10_addType o1 p1 p2 p3 p4 v).2.1 : Int32).toInt64); (0, v4, x7)) else (let v4 : vSt := (fX10_addType o1 p1 p2 p3 p4 v).2.2; if (fX10_addType o1 p1 p2 p3 p4 v).1 = 1 then ((1, v4, x)) else ((2, v4, x)))

def kkL_addType (o1 : Nat) (p1 : Int32) (p2 : Int32) (p3 : Int32) (p4 : Int32) (o2 : Nat) (v : vSt) (x : gX) : Nat := pot ((fL_addType o1 p1 p2 p3 p4 o2 v x).2.1) - pot v + 36
def oL_addType (o1 : Nat) (p1 : Int32) (p2 : Int32) (p3 : Int32) (p4 : Int32) (o2 : Nat) (v : vSt) (x : gX) : Prop := (oX10_addType o1 p1 p2 p3 p4 v) ∧ ((0 + kkX10_addType o1 p1 p2 p3 p4 v ≤ kkL_addType o1 p1 p2 p3 p4 o2 v x) ∧ (¬ ((fX10_addType o1 p1 p2 p3 p4 v).1 = 0) → (∀ v4 : vSt, v4 = ((fX10_addType o1 p1 p2 p3 p4 v).2.2) → (¬ ((fX10_addType o1 p1 p2 p3 p4 v).1 = 1) → ((fX10_addType o1 p1 p2 p3 p4 v).1 = 2)))))
abbrev rmL_addType (o1 : Nat) (p1 : Int32) (p2 : Int32) (p3 : Int32) (p4 : Int32) (o2 : Nat) (v : vSt) (x : gX) : Room := { frames := 8, cells := kkL_addType o1 p1 p2 p3 p4 o2 v x, slots := kkL_addType o1 p1 p2 p3 p4 o2 v x, locals := 220 }
theorem dL_addType_0 : decode cL_addType 0 = .ok (.aload 5, 2) := by decide +kernel
theorem dL_addType_2 : decode cL_addType 2 = .ok (.iconst 0, 1) := by decide +kernel
theorem dL_addType_3 : decode cL_addType 3 = .ok (.aload_n 0, 1) := by decide +kernel
theorem dL_addType_4 : decode cL_addType 4 = .ok (.iload_n 1, 1) := by decide +kernel
theorem dL_addType_5 : decode cL_addType 5 = .ok (.iload_n 2, 1) := by decide +kernel
theorem dL_addType_6 : decode cL_addType 6 = .ok (.iload_n 3, 1) := by decide +kernel
theorem dL_addType_7 : decode cL_addType 7 = .ok (.iload 4, 2) := by decide +kernel
theorem dL_addType_9 : decode cL_addType 9 = .ok (.invokevirtual 35, 3) := by decide +kernel
theorem dL_addType_12 : decode cL_addType 12 = .ok (.i2l, 1) := by decide +kernel
theorem dL_addType_13 : decode cL_addType 13 = .ok (.lastore, 1) := by decide +kernel
theorem dL_addType_14 : decode cL_addType 14 = .ok (.goto 11, 3) := by decide +kernel
theorem dL_addType_17 : decode cL_addType 17 = .ok (.astore 6, 2) := by decide +kernel
theorem dL_addType_19 : decode cL_addType 19 = .ok (.iconst 1, 1) := by decide +kernel
theorem dL_addType_20 : decode cL_addType 20 = .ok (.ireturn, 1) := by decide +kernel
theorem dL_addType_21 : decode cL_addType 21 = .ok (.astore 6, 2) := by decide +kernel
theorem dL_addType_23 : decode cL_addType 23 = .ok (.iconst 2, 1) := by decide +kernel
theorem dL_addType_24 : decode cL_addType 24 = .ok (.ireturn, 1) := by decide +kernel
theorem dL_addType_25 : decode cL_addType 25 = .ok (.iconst 0, 1) := by decide +kernel
theorem dL_addType_26 : decode cL_addType 26 = .ok (.ireturn, 1) := by decide +kernel
set_option maxHeartbeats 8000000 in
set_option maxRecDepth 100000 in
theorem mL_addType (l : Launch) (hst : l.stackTraces = false) (G : gG) (da : Nat → Nat) (v : vSt) (x : gX) (o1 : Nat) (hk_o1 : kd o1 = 10) (p1 : Int32) (p2 : Int32) (p3 : Int32) (p4 : Int32) (o2 : Nat) (hk_o2 : kd o2 = 34) (ho : oL_addType o1 p1 p2 p3 p4 o2 v x) : LI l yL_addType cL_addType 7 [((0 : Nat), (14 : Nat), (17 : Nat), (13 : Nat)), ((0 : Nat), (14 : Nat), (21 : Nat), (15 : Nat))] (rmL_addType o1 p1 p2 p3 p4 o2 v x) [.ref (ga G o1), .int p1, .int p2, .int p3, .int p4, .ref (ga G o2)] G da v x (kkL_addType o1 p1 p2 p3 p4 o2 v x) (kkL_addType o1 p1 p2 p3 p4 o2 v x) (fL_addType o1 p1 p2 p3 p4 o2 v x).1 (fL_addType o1 p1 p2 p3 p4 o2 v x).2.1 (fL_addType o1 p1 p2 p3 p4 o2 v x).2.2 := by
  refine gofL (by decide) rfl (Nat.le_of_ble_eq_true rfl) (fun p e s m args below meth c ls Q X hN htab hH hl E => ?_)
  have hx := X.1
  have hb := X.2.1
  have hown := X.2.2.2.1
  have hts := X.2.2.2.2.1
  have hS : va_S (gA G) s.heap s.heap [] := va_S.rf
  unfold oL_addType at ho
  have hl : lv_has ls 7 [(0, .ref (ga G o1)), (1, .int p1), (2, .int p2), (3, .int p3), (4, .int p4), (5, .ref (ga G o2))] := hl
  refine lv_aload hx hb dL_addType_0 (lv_at hl 5 rfl) ?_
  refine lv_iconst (v := 0) hx hb dL_addType_2 (by decide) ?_
  refine lv_aload_n hx hb dL_addType_3 rfl (lv_at hl 0 rfl) ?_
  refine lv_iload_n hx hb dL_addType_4 rfl (lv_at hl 1 rfl) ?_
  refine lv_iload_n hx hb dL_addType_5 rfl (lv_at hl 2 rfl) ?_
  refine lv_iload_n hx hb dL_addType_6 rfl (lv_at hl 3 rfl) ?_
  refine lv_iload hx hb dL_addType_7 (lv_at hl 4 rfl) ?_
  have hq1 := ho.1
  have ho := ho.2
  have hq2 := ho.1
  have ho := ho.2
  refine k_X10_addType hst X hS hH hk_o1 hq1 t_ml_VernierDrawersLaw_35 hl.1 (Nat.le_of_ble_eq_true rfl) ⟨Nat.le_of_ble_eq_true rfl, Nat.le_of_ble_eq_true rfl⟩ ⟨hq2, hq2⟩ dL_addType_9 (fun c3 da ce9 q9 H locs v4 ev4 hH hS g1 g2 g3 => ?_) (fun c3 da H locs v4 ev4 hH hS => ?_)
  · have ho := ho c3
    have ho := ho v4 ev4
    refine (Decidable.em ((fX10_addType o1 p1 p2 p3 p4 v).1 = 1)).elim (fun c5 => ?_) (fun c5 => ?_)
    · skip
      refine t_c1 (k := 1) X htab rfl g1 g2 (c5 ▸ g3) ?_
      refine lv_astore (lv' := [(6, .ref q9), (0, .ref (ga G o1)), (1, .int p1), (2, .int p2), (3, .int p3), (4, .int p4), (5, .ref (ga G o2))]) hx hb dL_addType_17 hl (by decide) rfl (fun ls hl => ?_)
      refine lv_iconst (v := 1) hx hb dL_addType_19 (by decide) ?_
      replace ev4 := Eq.symm ev4
      subst ev4
      exact E _ _ _ _ _ _ _ _ _ _ dL_addType_20 (t31 ((fL_addType.eq_1 _ _ _ _ _ _ _ _).trans ((if_neg c3).trans ((if_pos c5).trans rfl)))) (t32 ((fL_addType.eq_1 _ _ _ _ _ _ _ _).trans ((if_neg c3).trans ((if_pos c5).trans rfl)))) (t33 ((fL_addType.eq_1 _ _ _ _ _ _ _ _).trans ((if_neg c3).trans ((if_pos c5).trans rfl)))) hH hS hq2 hq2
    · have ho := ho c5
      have hq6 := ho
      refine t_c2 (k := 2) X hN htab (by decide) rfl g1 g2 (hq6 ▸ g3) ?_
      refine lv_astore (lv' := [(6, .ref q9), (0, .ref (ga G o1)), (1, .int p1), (2, .int p2), (3, .int p3), (4, .int p4), (5, .ref (ga G o2))]) hx hb dL_addType_21 hl (by decide) rfl (fun ls hl => ?_)
      refine lv_iconst (v := 2) hx hb dL_addType_23 (by decide) ?_
      replace ev4 := Eq.symm ev4
      subst ev4
      exact E _ _ _ _ _ _ _ _ _ _ dL_addType_24 (t31 ((fL_addType.eq_1 _ _ _ _ _ _ _ _).trans ((if_neg c3).trans ((if_neg c5).trans rfl)))) (t32 ((fL_addType.eq_1 _ _ _ _ _ _ _ _).trans ((if_neg c3).trans ((if_neg c5).trans rfl)))) (t33 ((fL_addType.eq_1 _ _ _ _ _ _ _ _).trans ((if_neg c3).trans ((if_neg c5).trans rfl)))) hH hS hq2 hq2
  · skip
    refine lv_i2l (v := ((fX10_addType o1 p1 p2 p3 p4 v).2.1 : Int32).toInt64) hx hb dL_addType_12 rfl ?_
    refine last_34 X hH hS hk_o2 (i_in (by decide) (by decide)) dL_addType_13 (fun H locs x7 ex7 hH hS => ?_)
    refine lv_goto (tgt := 25) hx hb dL_addType_14 (by decide) ?_
    refine lv_iconst (v := 0) hx hb dL_addType_25 (by decide) ?_
    replace ev4 := Eq.symm ev4
    replace ex7 := Eq.symm ex7
    subst ev4 ex7
    exact E _ _ _ _ _ _ _ _ _ _ dL_addType_26 (t31 ((fL_addType.eq_1 _ _ _ _ _ _ _ _).trans ((if_pos c3).trans rfl))) (t32 ((fL_addType.eq_1 _ _ _ _ _ _ _ _).trans ((if_pos c3).trans rfl))) (t33 ((fL_addType.eq_1 _ _ _ _ _ _ _ _).trans ((if_pos c3).trans rfl))) hH hS hq2 hq2
theorem k_L_addType {p : Program} {l : Launch} {e : Env} {R : Room} {s : State} {m : MethodId} {args : Array Value} {below : List Frame} {meth : Method} {c : Code} {H : Heap} {locs : List Loc} {cells slots : Nat} {Q : State → Prop} {cc : ByteArray} {pc nL : Nat} {ls : Array Slot} {rest : List Value} {G : gG} {own : String} {da : Nat → Nat} {v : vSt} {x : gX} (hst : l.stackTraces = false) (X : CX G p s m args c cc nL own) (hS : va_S (gA G) s.heap H locs) (hN : NC s) (hH : Hp G da v x H) {o1 : Nat} (hk_o1 : kd o1 = 10) {p1 : Int32} {p2 : Int32} {p3 : Int32} {p4 : Int32} {o2 : Nat} (hk_o2 : kd o2 = 34) (ho : oL_addType o1 p1 p2 p3 p4 o2 v x) {idx : Nat} (hml : Cond.methodLink own idx yL_addType ∈ TT) (hls : ls.size = nL) (hsum : (rest.map fun v => v.category).sum ≤ 8) (hR : (rmL_addType o1 p1 p2 p3 p4 o2 v x).frames + 1 ≤ R.frames ∧ 8 + (7 + 11) + (rmL_addType o1 p1 p2 p3 p4 o2 v x).locals ≤ R.locals) (hcs : cells + (kkL_addType o1 p1 p2 p3 p4 o2 v x) ≤ R.cells ∧ slots + (kkL_addType o1 p1 p2 p3 p4 o2 v x) ≤ R.slots) (hdg : decode cc pc = .ok (.invokestatic idx, 3)) (kk : ∀ (d : Nat → Nat) (H1 : Heap) (locs1 : List Loc) (v1 : vSt) (x1 : gX), v1 = (fL_addType o1 p1 p2 p3 p4 o2 v x).2.1 → x1 = (fL_addType o1 p1 p2 p3 p4 o2 v x).2.2 → Hp G d v1 x1 H1 → va_S (gA G) s.heap H1 locs1 → W p l e R s m args below meth c H1 locs1 (cells + (kkL_addType o1 p1 p2 p3 p4 o2 v x)) (slots + (kkL_addType o1 p1 p2 p3 p4 o2 v x)) Q (F0 m (pc + 3) ls (.int (fL_addType o1 p1 p2 p3 p4 o2 v x).1 :: rest))) : W p l e R s m args below meth c H locs cells slots Q (F0 m pc ls (.ref (ga G o2) :: .int p4 :: .int p3 :: .int p2 :: .int p1 :: .ref (ga G o1) :: rest)) := c_li (runLS (kp := 6) X.1 X.2.1 X.2.2.1 X.2.2.2.1 X.2.2.2.2.1 (mL_addType l hst G da v x o1 hk_o1 p1 p2 p3 p4 o2 hk_o2 ho) pN_bl hml t_st_L_addType t_ini_VernierDrawersLaw t_code_L_addType ⟨by decide, by decide, by decide +kernel⟩ rfl rfl hR hcs (preN X hN hS hH) rfl hls rfl hsum hdg) hS (fun d9 H9 L9 hH9 => kk d9 H9 L9 _ _ rfl rfl hH9)
def fL_bring (o1 : Nat) (p1 : Int32) (p2 : Int32) (o2 : Nat) (v : vSt) (x : gX) : Int32 × vSt × gX := if (fX10_bring o1 p1 p2 v).1 = 0 then (let v4 : vSt := (fX10_bring o1 p1 p2 v).2.2; let x7 : gX := xu x o2 (0 : Int32).toNatClampNeg (((fX10_bring o1 p1 p2 v).2.1 : Int32).toInt64); (0, v4, x7)) else (let v4 : vSt := (fX10_bring o1 p1 p2 v).2.2; if (fX10_bring o1 p1 p2 v).1 = 1 then ((1, v4, x)) else ((2, v4, x)))

def kkL_bring (o1 : Nat) (p1 : Int32) (p2 : Int32) (o2 : Nat) (v : vSt) (x : gX) : Nat := pot ((fL_bring o1 p1 p2 o2 v x).2.1) - pot v + 36
def oL_bring (o1 : Nat) (p1 : Int32) (p2 : Int32) (o2 : Nat) (v : vSt) (x : gX) : Prop := (oX10_bring o1 p1 p2 v) ∧ ((0 + kkX10_bring o1 p1 p2 v ≤ kkL_bring o1 p1 p2 o2 v x) ∧ (¬ ((fX10_bring o1 p1 p2 v).1 = 0) → (∀ v4 : vSt, v4 = ((fX10_bring o1 p1 p2 v).2.2) → (¬ ((fX10_bring o1 p1 p2 v).1 = 1) → ((fX10_bring o1 p1 p2 v).1 = 2)))))
abbrev rmL_bring (o1 : Nat) (p1 : Int32) (p2 : Int32) (o2 : Nat) (v : vSt) (x : gX) : Room := { frames := 8, cells := kkL_bring o1 p1 p2 o2 v x, slots := kkL_bring o1 p1 p2 o2 v x, locals := 218 }
theorem dL_bring_0 : decode cL_bring 0 = .ok (.aload_n 3, 1) := by decide +kernel
theorem dL_bring_1 : decode cL_bring 1 = .ok (.iconst 0, 1) := by decide +kernel
theorem dL_bring_2 : decode cL_bring 2 = .ok (.aload_n 0, 1) := by decide +kernel
theorem dL_bring_3 : decode cL_bring 3 = .ok (.iload_n 1, 1) := by decide +kernel
theorem dL_bring_4 : decode cL_bring 4 = .ok (.iload_n 2, 1) := by decide +kernel
theorem dL_bring_5 : decode cL_bring 5 = .ok (.invokevirtual 39, 3) := by decide +kernel
theorem dL_bring_8 : decode cL_bring 8 = .ok (.i2l, 1) := by decide +kernel
theorem dL_bring_9 : decode cL_bring 9 = .ok (.lastore, 1) := by decide +kernel
theorem dL_bring_10 : decode cL_bring 10 = .ok (.goto 11, 3) := by decide +kernel
theorem dL_bring_13 : decode cL_bring 13 = .ok (.astore 4, 2) := by decide +kernel
theorem dL_bring_15 : decode cL_bring 15 = .ok (.iconst 1, 1) := by decide +kernel
theorem dL_bring_16 : decode cL_bring 16 = .ok (.ireturn, 1) := by decide +kernel
theorem dL_bring_17 : decode cL_bring 17 = .ok (.astore 4, 2) := by decide +kernel
theorem dL_bring_19 : decode cL_bring 19 = .ok (.iconst 2, 1) := by decide +kernel
theorem dL_bring_20 : decode cL_bring 20 = .ok (.ireturn, 1) := by decide +kernel
theorem dL_bring_21 : decode cL_bring 21 = .ok (.iconst 0, 1) := by decide +kernel
theorem dL_bring_22 : decode cL_bring 22 = .ok (.ireturn, 1) := by decide +kernel
set_option maxHeartbeats 8000000 in
set_option maxRecDepth 100000 in
theorem mL_bring (l : Launch) (hst : l.stackTraces = false) (G : gG) (da : Nat → Nat) (v : vSt) (x : gX) (o1 : Nat) (hk_o1 : kd o1 = 10) (p1 : Int32) (p2 : Int32) (o2 : Nat) (hk_o2 : kd o2 = 34) (ho : oL_bring o1 p1 p2 o2 v x) : LI l yL_bring cL_bring 5 [((0 : Nat), (10 : Nat), (13 : Nat), (13 : Nat)), ((0 : Nat), (10 : Nat), (17 : Nat), (15 : Nat))] (rmL_bring o1 p1 p2 o2 v x) [.ref (ga G o1), .int p1, .int p2, .ref (ga G o2)] G da v x (kkL_bring o1 p1 p2 o2 v x) (kkL_bring o1 p1 p2 o2 v x) (fL_bring o1 p1 p2 o2 v x).1 (fL_bring o1 p1 p2 o2 v x).2.1 (fL_bring o1 p1 p2 o2 v x).2.2 := by
  refine gofL (by decide) rfl (Nat.le_of_ble_eq_true rfl) (fun p e s m args below meth c ls Q X hN htab hH hl E => ?_)
  have hx := X.1
  have hb := X.2.1
  have hown := X.2.2.2.1
  have hts := X.2.2.2.2.1
  have hS : va_S (gA G) s.heap s.heap [] := va_S.rf
  unfold oL_bring at ho
  have hl : lv_has ls 5 [(0, .ref (ga G o1)), (1, .int p1), (2, .int p2), (3, .ref (ga G o2))] := hl
  refine lv_aload_n hx hb dL_bring_0 rfl (lv_at hl 3 rfl) ?_
  refine lv_iconst (v := 0) hx hb dL_bring_1 (by decide) ?_
  refine lv_aload_n hx hb dL_bring_2 rfl (lv_at hl 0 rfl) ?_
  refine lv_iload_n hx hb dL_bring_3 rfl (lv_at hl 1 rfl) ?_
  refine lv_iload_n hx hb dL_bring_4 rfl (lv_at hl 2 rfl) ?_
  have hq1 := ho.1
  have ho := ho.2
  have hq2 := ho.1
  have ho := ho.2
  refine k_X10_bring hst X hS hH hk_o1 hq1 t_ml_VernierDrawersLaw_39 hl.1 (Nat.le_of_ble_eq_true rfl) ⟨Nat.le_of_ble_eq_true rfl, Nat.le_of_ble_eq_true rfl⟩ ⟨hq2, hq2⟩ dL_bring_5 (fun c3 da ce9 q9 H locs v4 ev4 hH hS g1 g2 g3 => ?_) (fun c3 da H locs v4 ev4 hH hS => ?_)
  · have ho := ho c3
    have ho := ho v4 ev4
    refine (Decidable.em ((fX10_bring o1 p1 p2 v).1 = 1)).elim (fun c5 => ?_) (fun c5 => ?_)
    · skip
      refine t_c1 (k := 1) X htab rfl g1 g2 (c5 ▸ g3) ?_
      refine lv_astore (lv' := [(4, .ref q9), (0, .ref (ga G o1)), (1, .int p1), (2, .int p2), (3, .ref (ga G o2))]) hx hb dL_bring_13 hl (by decide) rfl (fun ls hl => ?_)
      refine lv_iconst (v := 1) hx hb dL_bring_15 (by decide) ?_
      replace ev4 := Eq.symm ev4
      subst ev4
      exact E _ _ _ _ _ _ _ _ _ _ dL_bring_16 (t31 ((fL_bring.eq_1 _ _ _ _ _ _).trans ((if_neg c3).trans ((if_pos c5).trans rfl)))) (t32 ((fL_bring.eq_1 _ _ _ _ _ _).trans ((if_neg c3).trans ((if_pos c5).trans rfl)))) (t33 ((fL_bring.eq_1 _ _ _ _ _ _).trans ((if_neg c3).trans ((if_pos c5).trans rfl)))) hH hS hq2 hq2
    · have ho := ho c5
      have hq6 := ho
      refine t_c2 (k := 2) X hN htab (by decide) rfl g1 g2 (hq6 ▸ g3) ?_
      refine lv_astore (lv' := [(4, .ref q9), (0, .ref (ga G o1)), (1, .int p1), (2, .int p2), (3, .ref (ga G o2))]) hx hb dL_bring_17 hl (by decide) rfl (fun ls hl => ?_)
      refine lv_iconst (v := 2) hx hb dL_bring_19 (by decide) ?_
      replace ev4 := Eq.symm ev4
      subst ev4
      exact E _ _ _ _ _ _ _ _ _ _ dL_bring_20 (t31 ((fL_bring.eq_1 _ _ _ _ _ _).trans ((if_neg c3).trans ((if_neg c5).trans rfl)))) (t32 ((fL_bring.eq_1 _ _ _ _ _ _).trans ((if_neg c3).trans ((if_neg c5).trans rfl)))) (t33 ((fL_bring.eq_1 _ _ _ _ _ _).trans ((if_neg c3).trans ((if_neg c5).trans rfl)))) hH hS hq2 hq2
  · skip
    refine lv_i2l (v := ((fX10_bring o1 p1 p2 v).2.1 : Int32).toInt64) hx hb dL_bring_8 rfl ?_
    refine last_34 X hH hS hk_o2 (i_in (by decide) (by decide)) dL_bring_9 (fun H locs x7 ex7 hH hS => ?_)
    refine lv_goto (tgt := 21) hx hb dL_bring_10 (by decide) ?_
    refine lv_iconst (v := 0) hx hb dL_bring_21 (by decide) ?_
    replace ev4 := Eq.symm ev4
    replace ex7 := Eq.symm ex7
    subst ev4 ex7
    exact E _ _ _ _ _ _ _ _ _ _ dL_bring_22 (t31 ((fL_bring.eq_1 _ _ _ _ _ _).trans ((if_pos c3).trans rfl))) (t32 ((fL_bring.eq_1 _ _ _ _ _ _).trans ((if_pos c3).trans rfl))) (t33 ((fL_bring.eq_1 _ _ _ _ _ _).trans ((if_pos c3).trans rfl))) hH hS hq2 hq2
theorem k_L_bring {p : Program} {l : Launch} {e : Env} {R : Room} {s : State} {m : MethodId} {args : Array Value} {below : List Frame} {meth : Method} {c : Code} {H : Heap} {locs : List Loc} {cells slots : Nat} {Q : State → Prop} {cc : ByteArray} {pc nL : Nat} {ls : Array Slot} {rest : List Value} {G : gG} {own : String} {da : Nat → Nat} {v : vSt} {x : gX} (hst : l.stackTraces = false) (X : CX G p s m args c cc nL own) (hS : va_S (gA G) s.heap H locs) (hN : NC s) (hH : Hp G da v x H) {o1 : Nat} (hk_o1 : kd o1 = 10) {p1 : Int32} {p2 : Int32} {o2 : Nat} (hk_o2 : kd o2 = 34) (ho : oL_bring o1 p1 p2 o2 v x) {idx : Nat} (hml : Cond.methodLink own idx yL_bring ∈ TT) (hls : ls.size = nL) (hsum : (rest.map fun v => v.category).sum ≤ 8) (hR : (rmL_bring o1 p1 p2 o2 v x).frames + 1 ≤ R.frames ∧ 8 + (5 + 11) + (rmL_bring o1 p1 p2 o2 v x).locals ≤ R.locals) (hcs : cells + (kkL_bring o1 p1 p2 o2 v x) ≤ R.cells ∧ slots + (kkL_bring o1 p1 p2 o2 v x) ≤ R.slots) (hdg : decode cc pc = .ok (.invokestatic idx, 3)) (kk : ∀ (d : Nat → Nat) (H1 : Heap) (locs1 : List Loc) (v1 : vSt) (x1 : gX), v1 = (fL_bring o1 p1 p2 o2 v x).2.1 → x1 = (fL_bring o1 p1 p2 o2 v x).2.2 → Hp G d v1 x1 H1 → va_S (gA G) s.heap H1 locs1 → W p l e R s m args below meth c H1 locs1 (cells + (kkL_bring o1 p1 p2 o2 v x)) (slots + (kkL_bring o1 p1 p2 o2 v x)) Q (F0 m (pc + 3) ls (.int (fL_bring o1 p1 p2 o2 v x).1 :: rest))) : W p l e R s m args below meth c H locs cells slots Q (F0 m pc ls (.ref (ga G o2) :: .int p2 :: .int p1 :: .ref (ga G o1) :: rest)) := c_li (runLS (kp := 4) X.1 X.2.1 X.2.2.1 X.2.2.2.1 X.2.2.2.2.1 (mL_bring l hst G da v x o1 hk_o1 p1 p2 o2 hk_o2 ho) pN_bl hml t_st_L_bring t_ini_VernierDrawersLaw t_code_L_bring ⟨by decide, by decide, by decide +kernel⟩ rfl rfl hR hcs (preN X hN hS hH) rfl hls rfl hsum hdg) hS (fun d9 H9 L9 hH9 => kk d9 H9 L9 _ _ rfl rfl hH9)
def fL_judge (o1 : Nat) (p1 : Int32) (o2 : Nat) (v : vSt) (x : gX) : Int32 × vSt × gX := if (fX10_judge o1 p1 v).1 = 0 then (let v4 : vSt := (fX10_judge o1 p1 v).2.2; let x7 : gX := xu x o2 (0 : Int32).toNatClampNeg (((fX10_judge o1 p1 v).2.1 : Int32).toInt64); (0, v4, x7)) else (let v4 : vSt := (fX10_judge o1 p1 v).2.2; if (fX10_judge o1 p1 v).1 = 1 then ((1, v4, x)) else ((2, v4, x)))

def kkL_judge (o1 : Nat) (p1 : Int32) (o2 : Nat) (v : vSt) (x : gX) : Nat := pot ((fL_judge o1 p1 o2 v x).2.1) - pot v + 36
def oL_judge (o1 : Nat) (p1 : Int32) (o2 : Nat) (v : vSt) (x : gX) : Prop := (oX10_judge o1 p1 v) ∧ ((0 + kkX10_judge o1 p1 v ≤ kkL_judge o1 p1 o2 v x) ∧ (¬ ((fX10_judge o1 p1 v).1 = 0) → (∀ v4 : vSt, v4 = ((fX10_judge o1 p1 v).2.2) → (¬ ((fX10_judge o1 p1 v).1 = 1) → ((fX10_judge o1 p1 v).1 = 2)))))
abbrev rmL_judge (o1 : Nat) (p1 : Int32) (o2 : Nat) (v : vSt) (x : gX) : Room := { frames := 8, cells := kkL_judge o1 p1 o2 v x, slots := kkL_judge o1 p1 o2 v x, locals := 217 }
theorem dL_judge_0 : decode cL_judge 0 = .ok (.aload_n 2, 1) := by decide +kernel
theorem dL_judge_1 : decode cL_judge 1 = .ok (.iconst 0, 1) := by decide +kernel
theorem dL_judge_2 : decode cL_judge 2 = .ok (.aload_n 0, 1) := by decide +kernel
theorem dL_judge_3 : decode cL_judge 3 = .ok (.iload_n 1, 1) := by decide +kernel
theorem dL_judge_4 : decode cL_judge 4 = .ok (.invokevirtual 42, 3) := by decide +kernel
theorem dL_judge_7 : decode cL_judge 7 = .ok (.i2l, 1) := by decide +kernel
theorem dL_judge_8 : decode cL_judge 8 = .ok (.lastore, 1) := by decide +kernel
theorem dL_judge_9 : decode cL_judge 9 = .ok (.goto 9, 3) := by decide +kernel
theorem dL_judge_12 : decode cL_judge 12 = .ok (.astore_n 3, 1) := by decide +kernel
theorem dL_judge_13 : decode cL_judge 13 = .ok (.iconst 1, 1) := by decide +kernel
theorem dL_judge_14 : decode cL_judge 14 = .ok (.ireturn, 1) := by decide +kernel
theorem dL_judge_15 : decode cL_judge 15 = .ok (.astore_n 3, 1) := by decide +kernel
theorem dL_judge_16 : decode cL_judge 16 = .ok (.iconst 2, 1) := by decide +kernel
theorem dL_judge_17 : decode cL_judge 17 = .ok (.ireturn, 1) := by decide +kernel
theorem dL_judge_18 : decode cL_judge 18 = .ok (.iconst 0, 1) := by decide +kernel
theorem dL_judge_19 : decode cL_judge 19 = .ok (.ireturn, 1) := by decide +kernel
set_option maxHeartbeats 8000000 in
set_option maxRecDepth 100000 in
theorem mL_judge (l : Launch) (hst : l.stackTraces = false) (G : gG) (da : Nat → Nat) (v : vSt) (x : gX) (o1 : Nat) (hk_o1 : kd o1 = 10) (p1 : Int32) (o2 : Nat) (hk_o2 : kd o2 = 34) (ho : oL_judge o1 p1 o2 v x) : LI l yL_judge cL_judge 4 [((0 : Nat), (9 : Nat), (12 : Nat), (13 : Nat)), ((0 : Nat), (9 : Nat), (15 : Nat), (15 : Nat))] (rmL_judge o1 p1 o2 v x) [.ref (ga G o1), .int p1, .ref (ga G o2)] G da v x (kkL_judge o1 p1 o2 v x) (kkL_judge o1 p1 o2 v x) (fL_judge o1 p1 o2 v x).1 (fL_judge o1 p1 o2 v x).2.1 (fL_judge o1 p1 o2 v x).2.2 := by
  refine gofL (by decide) rfl (Nat.le_of_ble_eq_true rfl) (fun p e s m args below meth c ls Q X hN htab hH hl E => ?_)
  have hx := X.1
  have hb := X.2.1
  have hown := X.2.2.2.1
  have hts := X.2.2.2.2.1
  have hS : va_S (gA G) s.heap s.heap [] := va_S.rf
  unfold oL_judge at ho
  have hl : lv_has ls 4 [(0, .ref (ga G o1)), (1, .int p1), (2, .ref (ga G o2))] := hl
  refine lv_aload_n hx hb dL_judge_0 rfl (lv_at hl 2 rfl) ?_
  refine lv_iconst (v := 0) hx hb dL_judge_1 (by decide) ?_
  refine lv_aload_n hx hb dL_judge_2 rfl (lv_at hl 0 rfl) ?_
  refine lv_iload_n hx hb dL_judge_3 rfl (lv_at hl 1 rfl) ?_
  have hq1 := ho.1
  have ho := ho.2
  have hq2 := ho.1
  have ho := ho.2
  refine k_X10_judge hst X hS hH hk_o1 hq1 t_ml_VernierDrawersLaw_42 hl.1 (Nat.le_of_ble_eq_true rfl) ⟨Nat.le_of_ble_eq_true rfl, Nat.le_of_ble_eq_true rfl⟩ ⟨hq2, hq2⟩ dL_judge_4 (fun c3 da ce9 q9 H locs v4 ev4 hH hS g1 g2 g3 => ?_) (fun c3 da H locs v4 ev4 hH hS => ?_)
  · have ho := ho c3
    have ho := ho v4 ev4
    refine (Decidable.em ((fX10_judge o1 p1 v).1 = 1)).elim (fun c5 => ?_) (fun c5 => ?_)
    · skip
      refine t_c1 (k := 1) X htab rfl g1 g2 (c5 ▸ g3) ?_
      refine lv_astore_n (lv' := [(3, .ref q9), (0, .ref (ga G o1)), (1, .int p1), (2, .ref (ga G o2))]) hx hb dL_judge_12 rfl hl (by decide) rfl (fun ls hl => ?_)
      refine lv_iconst (v := 1) hx hb dL_judge_13 (by decide) ?_
      replace ev4 := Eq.symm ev4
      subst ev4
      exact E _ _ _ _ _ _ _ _ _ _ dL_judge_14 (t31 ((fL_judge.eq_1 _ _ _ _ _).trans ((if_neg c3).trans ((if_pos c5).trans rfl)))) (t32 ((fL_judge.eq_1 _ _ _ _ _).trans ((if_neg c3).trans ((if_pos c5).trans rfl)))) (t33 ((fL_judge.eq_1 _ _ _ _ _).trans ((if_neg c3).trans ((if_pos c5).trans rfl)))) hH hS hq2 hq2
    · have ho := ho c5
      have hq6 := ho
      refine t_c2 (k := 2) X hN htab (by decide) rfl g1 g2 (hq6 ▸ g3) ?_
      refine lv_astore_n (lv' := [(3, .ref q9), (0, .ref (ga G o1)), (1, .int p1), (2, .ref (ga G o2))]) hx hb dL_judge_15 rfl hl (by decide) rfl (fun ls hl => ?_)
      refine lv_iconst (v := 2) hx hb dL_judge_16 (by decide) ?_
      replace ev4 := Eq.symm ev4
      subst ev4
      exact E _ _ _ _ _ _ _ _ _ _ dL_judge_17 (t31 ((fL_judge.eq_1 _ _ _ _ _).trans ((if_neg c3).trans ((if_neg c5).trans rfl)))) (t32 ((fL_judge.eq_1 _ _ _ _ _).trans ((if_neg c3).trans ((if_neg c5).trans rfl)))) (t33 ((fL_judge.eq_1 _ _ _ _ _).trans ((if_neg c3).trans ((if_neg c5).trans rfl)))) hH hS hq2 hq2
  · skip
    refine lv_i2l (v := ((fX10_judge o1 p1 v).2.1 : Int32).toInt64) hx hb dL_judge_7 rfl ?_
    refine last_34 X hH hS hk_o2 (i_in (by decide) (by decide)) dL_judge_8 (fun H locs x7 ex7 hH hS => ?_)
    refine lv_goto (tgt := 18) hx hb dL_judge_9 (by decide) ?_
    refine lv_iconst (v := 0) hx hb dL_judge_18 (by decide) ?_
    replace ev4 := Eq.symm ev4
    replace ex7 := Eq.symm ex7
    subst ev4 ex7
    exact E _ _ _ _ _ _ _ _ _ _ dL_judge_19 (t31 ((fL_judge.eq_1 _ _ _ _ _).trans ((if_pos c3).trans rfl))) (t32 ((fL_judge.eq_1 _ _ _ _ _).trans ((if_pos c3).trans rfl))) (t33 ((fL_judge.eq_1 _ _ _ _ _).trans ((if_pos c3).trans rfl))) hH hS hq2 hq2
theorem k_L_judge {p : Program} {l : Launch} {e : Env} {R : Room} {s : State} {m : MethodId} {args : Array Value} {below : List Frame} {meth : Method} {c : Code} {H : Heap} {locs : List Loc} {cells slots : Nat} {Q : State → Prop} {cc : ByteArray} {pc nL : Nat} {ls : Array Slot} {rest : List Value} {G : gG} {own : String} {da : Nat → Nat} {v : vSt} {x : gX} (hst : l.stackTraces = false) (X : CX G p s m args c cc nL own) (hS : va_S (gA G) s.heap H locs) (hN : NC s) (hH : Hp G da v x H) {o1 : Nat} (hk_o1 : kd o1 = 10) {p1 : Int32} {o2 : Nat} (hk_o2 : kd o2 = 34) (ho : oL_judge o1 p1 o2 v x) {idx : Nat} (hml : Cond.methodLink own idx yL_judge ∈ TT) (hls : ls.size = nL) (hsum : (rest.map fun v => v.category).sum ≤ 8) (hR : (rmL_judge o1 p1 o2 v x).frames + 1 ≤ R.frames ∧ 8 + (4 + 11) + (rmL_judge o1 p1 o2 v x).locals ≤ R.locals) (hcs : cells + (kkL_judge o1 p1 o2 v x) ≤ R.cells ∧ slots + (kkL_judge o1 p1 o2 v x) ≤ R.slots) (hdg : decode cc pc = .ok (.invokestatic idx, 3)) (kk : ∀ (d : Nat → Nat) (H1 : Heap) (locs1 : List Loc) (v1 : vSt) (x1 : gX), v1 = (fL_judge o1 p1 o2 v x).2.1 → x1 = (fL_judge o1 p1 o2 v x).2.2 → Hp G d v1 x1 H1 → va_S (gA G) s.heap H1 locs1 → W p l e R s m args below meth c H1 locs1 (cells + (kkL_judge o1 p1 o2 v x)) (slots + (kkL_judge o1 p1 o2 v x)) Q (F0 m (pc + 3) ls (.int (fL_judge o1 p1 o2 v x).1 :: rest))) : W p l e R s m args below meth c H locs cells slots Q (F0 m pc ls (.ref (ga G o2) :: .int p1 :: .ref (ga G o1) :: rest)) := c_li (runLS (kp := 3) X.1 X.2.1 X.2.2.1 X.2.2.2.1 X.2.2.2.2.1 (mL_judge l hst G da v x o1 hk_o1 p1 o2 hk_o2 ho) pN_bl hml t_st_L_judge t_ini_VernierDrawersLaw t_code_L_judge ⟨by decide, by decide, by decide +kernel⟩ rfl rfl hR hcs (preN X hN hS hH) rfl hls rfl hsum hdg) hS (fun d9 H9 L9 hH9 => kk d9 H9 L9 _ _ rfl rfl hH9)
def fL_file (o1 : Nat) (p1 : Int32) (o2 : Nat) (v : vSt) (x : gX) : Int32 × vSt × gX := if (fX10_file o1 p1 v).1 = 0 then (let v4 : vSt := (fX10_file o1 p1 v).2.2; let x7 : gX := xu x o2 (0 : Int32).toNatClampNeg (((fX10_file o1 p1 v).2.1 : Int32).toInt64); (0, v4, x7)) else (let v4 : vSt := (fX10_file o1 p1 v).2.2; if (fX10_file o1 p1 v).1 = 1 then ((1, v4, x)) else ((2, v4, x)))

def kkL_file (o1 : Nat) (p1 : Int32) (o2 : Nat) (v : vSt) (x : gX) : Nat := pot ((fL_file o1 p1 o2 v x).2.1) - pot v + 36
def oL_file (o1 : Nat) (p1 : Int32) (o2 : Nat) (v : vSt) (x : gX) : Prop := (oX10_file o1 p1 v) ∧ ((0 + kkX10_file o1 p1 v ≤ kkL_file o1 p1 o2 v x) ∧ (¬ ((fX10_file o1 p1 v).1 = 0) → (∀ v4 : vSt, v4 = ((fX10_file o1 p1 v).2.2) → (¬ ((fX10_file o1 p1 v).1 = 1) → ((fX10_file o1 p1 v).1 = 2)))))
abbrev rmL_file (o1 : Nat) (p1 : Int32) (o2 : Nat) (v : vSt) (x : gX) : Room := { frames := 8, cells := kkL_file o1 p1 o2 v x, slots := kkL_file o1 p1 o2 v x, locals := 217 }
theorem dL_file_0 : decode cL_file 0 = .ok (.aload_n 2, 1) := by decide +kernel
theorem dL_file_1 : decode cL_file 1 = .ok (.iconst 0, 1) := by decide +kernel
theorem dL_file_2 : decode cL_file 2 = .ok (.aload_n 0, 1) := by decide +kernel
theorem dL_file_3 : decode cL_file 3 = .ok (.iload_n 1, 1) := by decide +kernel
theorem dL_file_4 : decode cL_file 4 = .ok (.invokevirtual 45, 3) := by decide +kernel
theorem dL_file_7 : decode cL_file 7 = .ok (.i2l, 1) := by decide +kernel
theorem dL_file_8 : decode cL_file 8 = .ok (.lastore, 1) := by decide +kernel
theorem dL_file_9 : decode cL_file 9 = .ok (.goto 9, 3) := by decide +kernel
theorem dL_file_12 : decode cL_file 12 = .ok (.astore_n 3, 1) := by decide +kernel
theorem dL_file_13 : decode cL_file 13 = .ok (.iconst 1, 1) := by decide +kernel
theorem dL_file_14 : decode cL_file 14 = .ok (.ireturn, 1) := by decide +kernel
theorem dL_file_15 : decode cL_file 15 = .ok (.astore_n 3, 1) := by decide +kernel
theorem dL_file_16 : decode cL_file 16 = .ok (.iconst 2, 1) := by decide +kernel
theorem dL_file_17 : decode cL_file 17 = .ok (.ireturn, 1) := by decide +kernel
theorem dL_file_18 : decode cL_file 18 = .ok (.iconst 0, 1) := by decide +kernel
theorem dL_file_19 : decode cL_file 19 = .ok (.ireturn, 1) := by decide +kernel
set_option maxHeartbeats 8000000 in
set_option maxRecDepth 100000 in
theorem mL_file (l : Launch) (hst : l.stackTraces = false) (G : gG) (da : Nat → Nat) (v : vSt) (x : gX) (o1 : Nat) (hk_o1 : kd o1 = 10) (p1 : Int32) (o2 : Nat) (hk_o2 : kd o2 = 34) (ho : oL_file o1 p1 o2 v x) : LI l yL_file cL_file 4 [((0 : Nat), (9 : Nat), (12 : Nat), (13 : Nat)), ((0 : Nat), (9 : Nat), (15 : Nat), (15 : Nat))] (rmL_file o1 p1 o2 v x) [.ref (ga G o1), .int p1, .ref (ga G o2)] G da v x (kkL_file o1 p1 o2 v x) (kkL_file o1 p1 o2 v x) (fL_file o1 p1 o2 v x).1 (fL_file o1 p1 o2 v x).2.1 (fL_file o1 p1 o2 v x).2.2 := by
  refine gofL (by decide) rfl (Nat.le_of_ble_eq_true rfl) (fun p e s m args below meth c ls Q X hN htab hH hl E => ?_)
  have hx := X.1
  have hb := X.2.1
  have hown := X.2.2.2.1
  have hts := X.2.2.2.2.1
  have hS : va_S (gA G) s.heap s.heap [] := va_S.rf
  unfold oL_file at ho
  have hl : lv_has ls 4 [(0, .ref (ga G o1)), (1, .int p1), (2, .ref (ga G o2))] := hl
  refine lv_aload_n hx hb dL_file_0 rfl (lv_at hl 2 rfl) ?_
  refine lv_iconst (v := 0) hx hb dL_file_1 (by decide) ?_
  refine lv_aload_n hx hb dL_file_2 rfl (lv_at hl 0 rfl) ?_
  refine lv_iload_n hx hb dL_file_3 rfl (lv_at hl 1 rfl) ?_
  have hq1 := ho.1
  have ho := ho.2
  have hq2 := ho.1
  have ho := ho.2
  refine k_X10_file hst X hS hH hk_o1 hq1 t_ml_VernierDrawersLaw_45 hl.1 (Nat.le_of_ble_eq_true rfl) ⟨Nat.le_of_ble_eq_true rfl, Nat.le_of_ble_eq_true rfl⟩ ⟨hq2, hq2⟩ dL_file_4 (fun c3 da ce9 q9 H locs v4 ev4 hH hS g1 g2 g3 => ?_) (fun c3 da H locs v4 ev4 hH hS => ?_)
  · have ho := ho c3
    have ho := ho v4 ev4
    refine (Decidable.em ((fX10_file o1 p1 v).1 = 1)).elim (fun c5 => ?_) (fun c5 => ?_)
    · skip
      refine t_c1 (k := 1) X htab rfl g1 g2 (c5 ▸ g3) ?_
      refine lv_astore_n (lv' := [(3, .ref q9), (0, .ref (ga G o1)), (1, .int p1), (2, .ref (ga G o2))]) hx hb dL_file_12 rfl hl (by decide) rfl (fun ls hl => ?_)
      refine lv_iconst (v := 1) hx hb dL_file_13 (by decide) ?_
      replace ev4 := Eq.symm ev4
      subst ev4
      exact E _ _ _ _ _ _ _ _ _ _ dL_file_14 (t31 ((fL_file.eq_1 _ _ _ _ _).trans ((if_neg c3).trans ((if_pos c5).trans rfl)))) (t32 ((fL_file.eq_1 _ _ _ _ _).trans ((if_neg c3).trans ((if_pos c5).trans rfl)))) (t33 ((fL_file.eq_1 _ _ _ _ _).trans ((if_neg c3).trans ((if_pos c5).trans rfl)))) hH hS hq2 hq2
    · have ho := ho c5
      have hq6 := ho
      refine t_c2 (k := 2) X hN htab (by decide) rfl g1 g2 (hq6 ▸ g3) ?_
      refine lv_astore_n (lv' := [(3, .ref q9), (0, .ref (ga G o1)), (1, .int p1), (2, .ref (ga G o2))]) hx hb dL_file_15 rfl hl (by decide) rfl (fun ls hl => ?_)
      refine lv_iconst (v := 2) hx hb dL_file_16 (by decide) ?_
      replace ev4 := Eq.symm ev4
      subst ev4
      exact E _ _ _ _ _ _ _ _ _ _ dL_file_17 (t31 ((fL_file.eq_1 _ _ _ _ _).trans ((if_neg c3).trans ((if_neg c5).trans rfl)))) (t32 ((fL_file.eq_1 _ _ _ _ _).trans ((if_neg c3).trans ((if_neg c5).trans rfl)))) (t33 ((fL_file.eq_1 _ _ _ _ _).trans ((if_neg c3).trans ((if_neg c5).trans rfl)))) hH hS hq2 hq2
  · skip
    refine lv_i2l (v := ((fX10_file o1 p1 v).2.1 : Int32).toInt64) hx hb dL_file_7 rfl ?_
    refine last_34 X hH hS hk_o2 (i_in (by decide) (by decide)) dL_file_8 (fun H locs x7 ex7 hH hS => ?_)
    refine lv_goto (tgt := 18) hx hb dL_file_9 (by decide) ?_
    refine lv_iconst (v := 0) hx hb dL_file_18 (by decide) ?_
    replace ev4 := Eq.symm ev4
    replace ex7 := Eq.symm ex7
    subst ev4 ex7
    exact E _ _ _ _ _ _ _ _ _ _ dL_file_19 (t31 ((fL_file.eq_1 _ _ _ _ _).trans ((if_pos c3).trans rfl))) (t32 ((fL_file.eq_1 _ _ _ _ _).trans ((if_pos c3).trans rfl))) (t33 ((fL_file.eq_1 _ _ _ _ _).trans ((if_pos c3).trans rfl))) hH hS hq2 hq2
theorem k_L_file {p : Program} {l : Launch} {e : Env} {R : Room} {s : State} {m : MethodId} {args : Array Value} {below : List Frame} {meth : Method} {c : Code} {H : Heap} {locs : List Loc} {cells slots : Nat} {Q : State → Prop} {cc : ByteArray} {pc nL : Nat} {ls : Array Slot} {rest : List Value} {G : gG} {own : String} {da : Nat → Nat} {v : vSt} {x : gX} (hst : l.stackTraces = false) (X : CX G p s m args c cc nL own) (hS : va_S (gA G) s.heap H locs) (hN : NC s) (hH : Hp G da v x H) {o1 : Nat} (hk_o1 : kd o1 = 10) {p1 : Int32} {o2 : Nat} (hk_o2 : kd o2 = 34) (ho : oL_file o1 p1 o2 v x) {idx : Nat} (hml : Cond.methodLink own idx yL_file ∈ TT) (hls : ls.size = nL) (hsum : (rest.map fun v => v.category).sum ≤ 8) (hR : (rmL_file o1 p1 o2 v x).frames + 1 ≤ R.frames ∧ 8 + (4 + 11) + (rmL_file o1 p1 o2 v x).locals ≤ R.locals) (hcs : cells + (kkL_file o1 p1 o2 v x) ≤ R.cells ∧ slots + (kkL_file o1 p1 o2 v x) ≤ R.slots) (hdg : decode cc pc = .ok (.invokestatic idx, 3)) (kk : ∀ (d : Nat → Nat) (H1 : Heap) (locs1 : List Loc) (v1 : vSt) (x1 : gX), v1 = (fL_file o1 p1 o2 v x).2.1 → x1 = (fL_file o1 p1 o2 v x).2.2 → Hp G d v1 x1 H1 → va_S (gA G) s.heap H1 locs1 → W p l e R s m args below meth c H1 locs1 (cells + (kkL_file o1 p1 o2 v x)) (slots + (kkL_file o1 p1 o2 v x)) Q (F0 m (pc + 3) ls (.int (fL_file o1 p1 o2 v x).1 :: rest))) : W p l e R s m args below meth c H locs cells slots Q (F0 m pc ls (.ref (ga G o2) :: .int p1 :: .ref (ga G o1) :: rest)) := c_li (runLS (kp := 3) X.1 X.2.1 X.2.2.1 X.2.2.2.1 X.2.2.2.2.1 (mL_file l hst G da v x o1 hk_o1 p1 o2 hk_o2 ho) pN_bl hml t_st_L_file t_ini_VernierDrawersLaw t_code_L_file ⟨by decide, by decide, by decide +kernel⟩ rfl rfl hR hcs (preN X hN hS hH) rfl hls rfl hsum hdg) hS (fun d9 H9 L9 hH9 => kk d9 H9 L9 _ _ rfl rfl hH9)
