/-! the law's wrappers -/
def fL_passUnseen (o1 : Nat) (o2 : Nat) (v : vSt) (x : gX) : Int32 × vSt × gX := if (fX10_passUnseen o1 v).1 = 0 then (let v4 : vSt := (fX10_passUnseen o1 v).2.2; let x6 : gX := xu x o2 (0 : Int32).toNatClampNeg (((fX10_passUnseen o1 v).2.1 : Int32).toInt64); (0, v4, x6)) else (let v4 : vSt := (fX10_passUnseen o1 v).2.2; (1, v4, x))

def kkL_passUnseen (o1 : Nat) (o2 : Nat) (v : vSt) (x : gX) : Nat := pot ((fL_passUnseen o1 o2 v x).2.1) - pot v + 36
def oL_passUnseen (o1 : Nat) (o2 : Nat) (v : vSt) (x : gX) : Prop := (oX10_passUnseen o1 v) ∧ ((0 + kkX10_passUnseen o1 v ≤ kkL_passUnseen o1 o2 v x) ∧ (¬ ((fX10_passUnseen o1 v).1 = 0) → (∀ v4 : vSt, v4 = ((fX10_passUnseen o1 v).2.2) → ((fX10_passUnseen o1 v).1 = 2))))
abbrev rmL_passUnseen (o1 : Nat) (o2 : Nat) (v : vSt) (x : gX) : Room := { frames := 8, cells := kkL_passUnseen o1 o2 v x, slots := kkL_passUnseen o1 o2 v x, locals := 216 }
theorem dL_passUnseen_0 : decode cL_passUnseen 0 = .ok (.aload_n 1, 1) := by decide +kernel
theorem dL_passUnseen_1 : decode cL_passUnseen 1 = .ok (.iconst 0, 1) := by decide +kernel
theorem dL_passUnseen_2 : decode cL_passUnseen 2 = .ok (.aload_n 0, 1) := by decide +kernel
theorem dL_passUnseen_3 : decode cL_passUnseen 3 = .ok (.invokevirtual 48, 3) := by decide +kernel
theorem dL_passUnseen_6 : decode cL_passUnseen 6 = .ok (.i2l, 1) := by decide +kernel
theorem dL_passUnseen_7 : decode cL_passUnseen 7 = .ok (.lastore, 1) := by decide +kernel
theorem dL_passUnseen_8 : decode cL_passUnseen 8 = .ok (.goto 6, 3) := by decide +kernel
theorem dL_passUnseen_11 : decode cL_passUnseen 11 = .ok (.astore_n 2, 1) := by decide +kernel
theorem dL_passUnseen_12 : decode cL_passUnseen 12 = .ok (.iconst 1, 1) := by decide +kernel
theorem dL_passUnseen_13 : decode cL_passUnseen 13 = .ok (.ireturn, 1) := by decide +kernel
theorem dL_passUnseen_14 : decode cL_passUnseen 14 = .ok (.iconst 0, 1) := by decide +kernel
theorem dL_passUnseen_15 : decode cL_passUnseen 15 = .ok (.ireturn, 1) := by decide +kernel
set_option maxHeartbeats 8000000 in
set_option maxRecDepth 100000 in
theorem mL_passUnseen (l : Launch) (hst : l.stackTraces = false) (G : gG) (da : Nat → Nat) (v : vSt) (x : gX) (o1 : Nat) (hk_o1 : kd o1 = 10) (o2 : Nat) (hk_o2 : kd o2 = 34) (ho : oL_passUnseen o1 o2 v x) : LI l yL_passUnseen cL_passUnseen 3 [((0 : Nat), (8 : Nat), (11 : Nat), (15 : Nat))] (rmL_passUnseen o1 o2 v x) [.ref (ga G o1), .ref (ga G o2)] G da v x (kkL_passUnseen o1 o2 v x) (kkL_passUnseen o1 o2 v x) (fL_passUnseen o1 o2 v x).1 (fL_passUnseen o1 o2 v x).2.1 (fL_passUnseen o1 o2 v x).2.2 := by
  refine gofL (by decide) rfl (Nat.le_of_ble_eq_true rfl) (fun p e s m args below meth c ls Q X hN htab hH hl E => ?_)
  have hx := X.1
  have hb := X.2.1
  have hown := X.2.2.2.1
  have hts := X.2.2.2.2.1
  have hS : va_S (gA G) s.heap s.heap [] := va_S.rf
  unfold oL_passUnseen at ho
  have hl : lv_has ls 3 [(0, .ref (ga G o1)), (1, .ref (ga G o2))] := hl
  refine lv_aload_n hx hb dL_passUnseen_0 rfl (lv_at hl 1 rfl) ?_
  refine lv_iconst (v := 0) hx hb dL_passUnseen_1 (by decide) ?_
  refine lv_aload_n hx hb dL_passUnseen_2 rfl (lv_at hl 0 rfl) ?_
  have hq1 := ho.1
  have ho := ho.2
  have hq2 := ho.1
  have ho := ho.2
  refine k_X10_passUnseen hst X hS hH hk_o1 hq1 t_ml_VernierDrawersLaw_48 hl.1 (Nat.le_of_ble_eq_true rfl) ⟨Nat.le_of_ble_eq_true rfl, Nat.le_of_ble_eq_true rfl⟩ ⟨hq2, hq2⟩ dL_passUnseen_3 (fun c3 da ce9 q9 H locs v4 ev4 hH hS g1 g2 g3 => ?_) (fun c3 da H locs v4 ev4 hH hS => ?_)
  · have ho := ho c3
    have ho := ho v4 ev4
    have hq5 := ho
    refine t_c1 (k := 2) X htab rfl g1 g2 (hq5 ▸ g3) ?_
    refine lv_astore_n (lv' := [(2, .ref q9), (0, .ref (ga G o1)), (1, .ref (ga G o2))]) hx hb dL_passUnseen_11 rfl hl (by decide) rfl (fun ls hl => ?_)
    refine lv_iconst (v := 1) hx hb dL_passUnseen_12 (by decide) ?_
    replace ev4 := Eq.symm ev4
    subst ev4
    exact E _ _ _ _ _ _ _ _ _ _ dL_passUnseen_13 (t31 ((fL_passUnseen.eq_1 _ _ _ _).trans ((if_neg c3).trans rfl))) (t32 ((fL_passUnseen.eq_1 _ _ _ _).trans ((if_neg c3).trans rfl))) (t33 ((fL_passUnseen.eq_1 _ _ _ _).trans ((if_neg c3).trans rfl))) hH hS hq2 hq2
  · skip
    refine lv_i2l (v := ((fX10_passUnseen o1 v).2.1 : Int32).toInt64) hx hb dL_passUnseen_6 rfl ?_
    refine last_34 X hH hS hk_o2 (i_in (by decide) (by decide)) dL_passUnseen_7 (fun H locs x6 ex6 hH hS => ?_)
    refine lv_goto (tgt := 14) hx hb dL_passUnseen_8 (by decide) ?_
    refine lv_iconst (v := 0) hx hb dL_passUnseen_14 (by decide) ?_
    replace ev4 := Eq.symm ev4
    replace ex6 := Eq.symm ex6
    subst ev4 ex6
    exact E _ _ _ _ _ _ _ _ _ _ dL_passUnseen_15 (t31 ((fL_passUnseen.eq_1 _ _ _ _).trans ((if_pos c3).trans rfl))) (t32 ((fL_passUnseen.eq_1 _ _ _ _).trans ((if_pos c3).trans rfl))) (t33 ((fL_passUnseen.eq_1 _ _ _ _).trans ((if_pos c3).trans rfl))) hH hS hq2 hq2
theorem k_L_passUnseen {p : Program} {l : Launch} {e : Env} {R : Room} {s : State} {m : MethodId} {args : Array Value} {below : List Frame} {meth : Method} {c : Code} {H : Heap} {locs : List Loc} {cells slots : Nat} {Q : State → Prop} {cc : ByteArray} {pc nL : Nat} {ls : Array Slot} {rest : List Value} {G : gG} {own : String} {da : Nat → Nat} {v : vSt} {x : gX} (hst : l.stackTraces = false) (X : CX G p s m args c cc nL own) (hS : va_S (gA G) s.heap H locs) (hN : NC s) (hH : Hp G da v x H) {o1 : Nat} (hk_o1 : kd o1 = 10) {o2 : Nat} (hk_o2 : kd o2 = 34) (ho : oL_passUnseen o1 o2 v x) {idx : Nat} (hml : Cond.methodLink own idx yL_passUnseen ∈ TT) (hls : ls.size = nL) (hsum : (rest.map fun v => v.category).sum ≤ 8) (hR : (rmL_passUnseen o1 o2 v x).frames + 1 ≤ R.frames ∧ 8 + (3 + 11) + (rmL_passUnseen o1 o2 v x).locals ≤ R.locals) (hcs : cells + (kkL_passUnseen o1 o2 v x) ≤ R.cells ∧ slots + (kkL_passUnseen o1 o2 v x) ≤ R.slots) (hdg : decode cc pc = .ok (.invokestatic idx, 3)) (kk : ∀ (d : Nat → Nat) (H1 : Heap) (locs1 : List Loc) (v1 : vSt) (x1 : gX), v1 = (fL_passUnseen o1 o2 v x).2.1 → x1 = (fL_passUnseen o1 o2 v x).2.2 → Hp G d v1 x1 H1 → va_S (gA G) s.heap H1 locs1 → W p l e R s m args below meth c H1 locs1 (cells + (kkL_passUnseen o1 o2 v x)) (slots + (kkL_passUnseen o1 o2 v x)) Q (F0 m (pc + 3) ls (.int (fL_passUnseen o1 o2 v x).1 :: rest))) : W p l e R s m args below meth c H locs cells slots Q (F0 m pc ls (.ref (ga G o2) :: .ref (ga G o1) :: rest)) := c_li (runLS (kp := 2) X.1 X.2.1 X.2.2.1 X.2.2.2.1 X.2.2.2.2.1 (mL_passUnseen l hst G da v x o1 hk_o1 o2 hk_o2 ho) pN_bl hml t_st_L_passUnseen t_ini_VernierDrawersLaw t_code_L_passUnseen ⟨by decide, by decide, by decide +kernel⟩ rfl rfl hR hcs (preN X hN hS hH) rfl hls rfl hsum hdg) hS (fun d9 H9 L9 hH9 => kk d9 H9 L9 _ _ rfl rfl hH9)
def fL_throwOut (o1 : Nat) (p1 : Int32) (o2 : Nat) (v : vSt) (x : gX) : Int32 × vSt × gX := if (fX10_throwOut o1 p1 v).1 = 0 then (let v4 : vSt := (fX10_throwOut o1 p1 v).2.2; let x6 : gX := xu x o2 (0 : Int32).toNatClampNeg (((fX10_throwOut o1 p1 v).2.1 : Int32).toInt64); (0, v4, x6)) else (let v4 : vSt := (fX10_throwOut o1 p1 v).2.2; (1, v4, x))

def kkL_throwOut (o1 : Nat) (p1 : Int32) (o2 : Nat) (v : vSt) (x : gX) : Nat := pot ((fL_throwOut o1 p1 o2 v x).2.1) - pot v + 36
def oL_throwOut (o1 : Nat) (p1 : Int32) (o2 : Nat) (v : vSt) (x : gX) : Prop := (oX10_throwOut o1 p1 v) ∧ ((0 + kkX10_throwOut o1 p1 v ≤ kkL_throwOut o1 p1 o2 v x) ∧ (¬ ((fX10_throwOut o1 p1 v).1 = 0) → (∀ v4 : vSt, v4 = ((fX10_throwOut o1 p1 v).2.2) → ((fX10_throwOut o1 p1 v).1 = 1))))
abbrev rmL_throwOut (o1 : Nat) (p1 : Int32) (o2 : Nat) (v : vSt) (x : gX) : Room := { frames := 8, cells := kkL_throwOut o1 p1 o2 v x, slots := kkL_throwOut o1 p1 o2 v x, locals := 218 }
theorem dL_throwOut_0 : decode cL_throwOut 0 = .ok (.aload_n 2, 1) := by decide +kernel
theorem dL_throwOut_1 : decode cL_throwOut 1 = .ok (.iconst 0, 1) := by decide +kernel
theorem dL_throwOut_2 : decode cL_throwOut 2 = .ok (.aload_n 0, 1) := by decide +kernel
theorem dL_throwOut_3 : decode cL_throwOut 3 = .ok (.iload_n 1, 1) := by decide +kernel
theorem dL_throwOut_4 : decode cL_throwOut 4 = .ok (.invokevirtual 51, 3) := by decide +kernel
theorem dL_throwOut_7 : decode cL_throwOut 7 = .ok (.i2l, 1) := by decide +kernel
theorem dL_throwOut_8 : decode cL_throwOut 8 = .ok (.lastore, 1) := by decide +kernel
theorem dL_throwOut_9 : decode cL_throwOut 9 = .ok (.goto 6, 3) := by decide +kernel
theorem dL_throwOut_12 : decode cL_throwOut 12 = .ok (.astore_n 3, 1) := by decide +kernel
theorem dL_throwOut_13 : decode cL_throwOut 13 = .ok (.iconst 1, 1) := by decide +kernel
theorem dL_throwOut_14 : decode cL_throwOut 14 = .ok (.ireturn, 1) := by decide +kernel
theorem dL_throwOut_15 : decode cL_throwOut 15 = .ok (.iconst 0, 1) := by decide +kernel
theorem dL_throwOut_16 : decode cL_throwOut 16 = .ok (.ireturn, 1) := by decide +kernel
set_option maxHeartbeats 8000000 in
set_option maxRecDepth 100000 in
theorem mL_throwOut (l : Launch) (hst : l.stackTraces = false) (G : gG) (da : Nat → Nat) (v : vSt) (x : gX) (o1 : Nat) (hk_o1 : kd o1 = 10) (p1 : Int32) (o2 : Nat) (hk_o2 : kd o2 = 34) (ho : oL_throwOut o1 p1 o2 v x) : LI l yL_throwOut cL_throwOut 4 [((0 : Nat), (9 : Nat), (12 : Nat), (13 : Nat))] (rmL_throwOut o1 p1 o2 v x) [.ref (ga G o1), .int p1, .ref (ga G o2)] G da v x (kkL_throwOut o1 p1 o2 v x) (kkL_throwOut o1 p1 o2 v x) (fL_throwOut o1 p1 o2 v x).1 (fL_throwOut o1 p1 o2 v x).2.1 (fL_throwOut o1 p1 o2 v x).2.2 := by
  refine gofL (by decide) rfl (Nat.le_of_ble_eq_true rfl) (fun p e s m args below meth c ls Q X hN htab hH hl E => ?_)
  have hx := X.1
  have hb := X.2.1
  have hown := X.2.2.2.1
  have hts := X.2.2.2.2.1
  have hS : va_S (gA G) s.heap s.heap [] := va_S.rf
  unfold oL_throwOut at ho
  have hl : lv_has ls 4 [(0, .ref (ga G o1)), (1, .int p1), (2, .ref (ga G o2))] := hl
  refine lv_aload_n hx hb dL_throwOut_0 rfl (lv_at hl 2 rfl) ?_
  refine lv_iconst (v := 0) hx hb dL_throwOut_1 (by decide) ?_
  refine lv_aload_n hx hb dL_throwOut_2 rfl (lv_at hl 0 rfl) ?_
  refine lv_iload_n hx hb dL_throwOut_3 rfl (lv_at hl 1 rfl) ?_
  have hq1 := ho.1
  have ho := ho.2
  have hq2 := ho.1
  have ho := ho.2
  refine k_X10_throwOut hst X hS hH hk_o1 hq1 t_ml_VernierDrawersLaw_51 hl.1 (Nat.le_of_ble_eq_true rfl) ⟨Nat.le_of_ble_eq_true rfl, Nat.le_of_ble_eq_true rfl⟩ ⟨hq2, hq2⟩ dL_throwOut_4 (fun c3 da ce9 q9 H locs v4 ev4 hH hS g1 g2 g3 => ?_) (fun c3 da H locs v4 ev4 hH hS => ?_)
  · have ho := ho c3
    have ho := ho v4 ev4
    have hq5 := ho
    refine t_c1 (k := 1) X htab rfl g1 g2 (hq5 ▸ g3) ?_
    refine lv_astore_n (lv' := [(3, .ref q9), (0, .ref (ga G o1)), (1, .int p1), (2, .ref (ga G o2))]) hx hb dL_throwOut_12 rfl hl (by decide) rfl (fun ls hl => ?_)
    refine lv_iconst (v := 1) hx hb dL_throwOut_13 (by decide) ?_
    replace ev4 := Eq.symm ev4
    subst ev4
    exact E _ _ _ _ _ _ _ _ _ _ dL_throwOut_14 (t31 ((fL_throwOut.eq_1 _ _ _ _ _).trans ((if_neg c3).trans rfl))) (t32 ((fL_throwOut.eq_1 _ _ _ _ _).trans ((if_neg c3).trans rfl))) (t33 ((fL_throwOut.eq_1 _ _ _ _ _).trans ((if_neg c3).trans rfl))) hH hS hq2 hq2
  · skip
    refine lv_i2l (v := ((fX10_throwOut o1 p1 v).2.1 : Int32).toInt64) hx hb dL_throwOut_7 rfl ?_
    refine last_34 X hH hS hk_o2 (i_in (by decide) (by decide)) dL_throwOut_8 (fun H locs x6 ex6 hH hS => ?_)
    refine lv_goto (tgt := 15) hx hb dL_throwOut_9 (by decide) ?_
    refine lv_iconst (v := 0) hx hb dL_throwOut_15 (by decide) ?_
    replace ev4 := Eq.symm ev4
    replace ex6 := Eq.symm ex6
    subst ev4 ex6
    exact E _ _ _ _ _ _ _ _ _ _ dL_throwOut_16 (t31 ((fL_throwOut.eq_1 _ _ _ _ _).trans ((if_pos c3).trans rfl))) (t32 ((fL_throwOut.eq_1 _ _ _ _ _).trans ((if_pos c3).trans rfl))) (t33 ((fL_throwOut.eq_1 _ _ _ _ _).trans ((if_pos c3).trans rfl))) hH hS hq2 hq2
theorem k_L_throwOut {p : Program} {l : Launch} {e : Env} {R : Room} {s : State} {m : MethodId} {args : Array Value} {below : List Frame} {meth : Method} {c : Code} {H : Heap} {locs : List Loc} {cells slots : Nat} {Q : State → Prop} {cc : ByteArray} {pc nL : Nat} {ls : Array Slot} {rest : List Value} {G : gG} {own : String} {da : Nat → Nat} {v : vSt} {x : gX} (hst : l.stackTraces = false) (X : CX G p s m args c cc nL own) (hS : va_S (gA G) s.heap H locs) (hN : NC s) (hH : Hp G da v x H) {o1 : Nat} (hk_o1 : kd o1 = 10) {p1 : Int32} {o2 : Nat} (hk_o2 : kd o2 = 34) (ho : oL_throwOut o1 p1 o2 v x) {idx : Nat} (hml : Cond.methodLink own idx yL_throwOut ∈ TT) (hls : ls.size = nL) (hsum : (rest.map fun v => v.category).sum ≤ 8) (hR : (rmL_throwOut o1 p1 o2 v x).frames + 1 ≤ R.frames ∧ 8 + (4 + 11) + (rmL_throwOut o1 p1 o2 v x).locals ≤ R.locals) (hcs : cells + (kkL_throwOut o1 p1 o2 v x) ≤ R.cells ∧ slots + (kkL_throwOut o1 p1 o2 v x) ≤ R.slots) (hdg : decode cc pc = .ok (.invokestatic idx, 3)) (kk : ∀ (d : Nat → Nat) (H1 : Heap) (locs1 : List Loc) (v1 : vSt) (x1 : gX), v1 = (fL_throwOut o1 p1 o2 v x).2.1 → x1 = (fL_throwOut o1 p1 o2 v x).2.2 → Hp G d v1 x1 H1 → va_S (gA G) s.heap H1 locs1 → W p l e R s m args below meth c H1 locs1 (cells + (kkL_throwOut o1 p1 o2 v x)) (slots + (kkL_throwOut o1 p1 o2 v x)) Q (F0 m (pc + 3) ls (.int (fL_throwOut o1 p1 o2 v x).1 :: rest))) : W p l e R s m args below meth c H locs cells slots Q (F0 m pc ls (.ref (ga G o2) :: .int p1 :: .ref (ga G o1) :: rest)) := c_li (runLS (kp := 3) X.1 X.2.1 X.2.2.1 X.2.2.2.1 X.2.2.2.2.1 (mL_throwOut l hst G da v x o1 hk_o1 p1 o2 hk_o2 ho) pN_bl hml t_st_L_throwOut t_ini_VernierDrawersLaw t_code_L_throwOut ⟨by decide, by decide, by decide +kernel⟩ rfl rfl hR hcs (preN X hN hS hH) rfl hls rfl hsum hdg) hS (fun d9 H9 L9 hH9 => kk d9 H9 L9 _ _ rfl rfl hH9)
def fL_setTolerance (o1 : Nat) (p1 : Int32) (o2 : Nat) (v : vSt) (x : gX) : Int32 × vSt × gX := if (fX10_setTolerance o1 p1 v).1 = 0 then (let v4 : vSt := (fX10_setTolerance o1 p1 v).2.2; let x6 : gX := xu x o2 (0 : Int32).toNatClampNeg (((fX10_setTolerance o1 p1 v).2.1 : Int32).toInt64); (0, v4, x6)) else (let v4 : vSt := (fX10_setTolerance o1 p1 v).2.2; (1, v4, x))

def kkL_setTolerance (o1 : Nat) (p1 : Int32) (o2 : Nat) (v : vSt) (x : gX) : Nat := pot ((fL_setTolerance o1 p1 o2 v x).2.1) - pot v + 36
def oL_setTolerance (o1 : Nat) (p1 : Int32) (o2 : Nat) (v : vSt) (x : gX) : Prop := (oX10_setTolerance o1 p1 v) ∧ ((0 + kkX10_setTolerance o1 p1 v ≤ kkL_setTolerance o1 p1 o2 v x) ∧ (¬ ((fX10_setTolerance o1 p1 v).1 = 0) → (∀ v4 : vSt, v4 = ((fX10_setTolerance o1 p1 v).2.2) → ((fX10_setTolerance o1 p1 v).1 = 1))))
abbrev rmL_setTolerance (o1 : Nat) (p1 : Int32) (o2 : Nat) (v : vSt) (x : gX) : Room := { frames := 8, cells := kkL_setTolerance o1 p1 o2 v x, slots := kkL_setTolerance o1 p1 o2 v x, locals := 218 }
theorem dL_setTolerance_0 : decode cL_setTolerance 0 = .ok (.aload_n 2, 1) := by decide +kernel
theorem dL_setTolerance_1 : decode cL_setTolerance 1 = .ok (.iconst 0, 1) := by decide +kernel
theorem dL_setTolerance_2 : decode cL_setTolerance 2 = .ok (.aload_n 0, 1) := by decide +kernel
theorem dL_setTolerance_3 : decode cL_setTolerance 3 = .ok (.iload_n 1, 1) := by decide +kernel
theorem dL_setTolerance_4 : decode cL_setTolerance 4 = .ok (.invokevirtual 54, 3) := by decide +kernel
theorem dL_setTolerance_7 : decode cL_setTolerance 7 = .ok (.i2l, 1) := by decide +kernel
theorem dL_setTolerance_8 : decode cL_setTolerance 8 = .ok (.lastore, 1) := by decide +kernel
theorem dL_setTolerance_9 : decode cL_setTolerance 9 = .ok (.goto 6, 3) := by decide +kernel
theorem dL_setTolerance_12 : decode cL_setTolerance 12 = .ok (.astore_n 3, 1) := by decide +kernel
theorem dL_setTolerance_13 : decode cL_setTolerance 13 = .ok (.iconst 1, 1) := by decide +kernel
theorem dL_setTolerance_14 : decode cL_setTolerance 14 = .ok (.ireturn, 1) := by decide +kernel
theorem dL_setTolerance_15 : decode cL_setTolerance 15 = .ok (.iconst 0, 1) := by decide +kernel
theorem dL_setTolerance_16 : decode cL_setTolerance 16 = .ok (.ireturn, 1) := by decide +kernel
set_option maxHeartbeats 8000000 in
set_option maxRecDepth 100000 in
theorem mL_setTolerance (l : Launch) (hst : l.stackTraces = false) (G : gG) (da : Nat → Nat) (v : vSt) (x : gX) (o1 : Nat) (hk_o1 : kd o1 = 10) (p1 : Int32) (o2 : Nat) (hk_o2 : kd o2 = 34) (ho : oL_setTolerance o1 p1 o2 v x) : LI l yL_setTolerance cL_setTolerance 4 [((0 : Nat), (9 : Nat), (12 : Nat), (13 : Nat))] (rmL_setTolerance o1 p1 o2 v x) [.ref (ga G o1), .int p1, .ref (ga G o2)] G da v x (kkL_setTolerance o1 p1 o2 v x) (kkL_setTolerance o1 p1 o2 v x) (fL_setTolerance o1 p1 o2 v x).1 (fL_setTolerance o1 p1 o2 v x).2.1 (fL_setTolerance o1 p1 o2 v x).2.2 := by
  refine gofL (by decide) rfl (Nat.le_of_ble_eq_true rfl) (fun p e s m args below meth c ls Q X hN htab hH hl E => ?_)
  have hx := X.1
  have hb := X.2.1
  have hown := X.2.2.2.1
  have hts := X.2.2.2.2.1
  have hS : va_S (gA G) s.heap s.heap [] := va_S.rf
  unfold oL_setTolerance at ho
  have hl : lv_has ls 4 [(0, .ref (ga G o1)), (1, .int p1), (2, .ref (ga G o2))] := hl
  refine lv_aload_n hx hb dL_setTolerance_0 rfl (lv_at hl 2 rfl) ?_
  refine lv_iconst (v := 0) hx hb dL_setTolerance_1 (by decide) ?_
  refine lv_aload_n hx hb dL_setTolerance_2 rfl (lv_at hl 0 rfl) ?_
  refine lv_iload_n hx hb dL_setTolerance_3 rfl (lv_at hl 1 rfl) ?_
  have hq1 := ho.1
  have ho := ho.2
  have hq2 := ho.1
  have ho := ho.2
  refine k_X10_setTolerance hst X hS hH hk_o1 hq1 t_ml_VernierDrawersLaw_54 hl.1 (Nat.le_of_ble_eq_true rfl) ⟨Nat.le_of_ble_eq_true rfl, Nat.le_of_ble_eq_true rfl⟩ ⟨hq2, hq2⟩ dL_setTolerance_4 (fun c3 da ce9 q9 H locs v4 ev4 hH hS g1 g2 g3 => ?_) (fun c3 da H locs v4 ev4 hH hS => ?_)
  · have ho := ho c3
    have ho := ho v4 ev4
    have hq5 := ho
    refine t_c1 (k := 1) X htab rfl g1 g2 (hq5 ▸ g3) ?_
    refine lv_astore_n (lv' := [(3, .ref q9), (0, .ref (ga G o1)), (1, .int p1), (2, .ref (ga G o2))]) hx hb dL_setTolerance_12 rfl hl (by decide) rfl (fun ls hl => ?_)
    refine lv_iconst (v := 1) hx hb dL_setTolerance_13 (by decide) ?_
    replace ev4 := Eq.symm ev4
    subst ev4
    exact E _ _ _ _ _ _ _ _ _ _ dL_setTolerance_14 (t31 ((fL_setTolerance.eq_1 _ _ _ _ _).trans ((if_neg c3).trans rfl))) (t32 ((fL_setTolerance.eq_1 _ _ _ _ _).trans ((if_neg c3).trans rfl))) (t33 ((fL_setTolerance.eq_1 _ _ _ _ _).trans ((if_neg c3).trans rfl))) hH hS hq2 hq2
  · skip
    refine lv_i2l (v := ((fX10_setTolerance o1 p1 v).2.1 : Int32).toInt64) hx hb dL_setTolerance_7 rfl ?_
    refine last_34 X hH hS hk_o2 (i_in (by decide) (by decide)) dL_setTolerance_8 (fun H locs x6 ex6 hH hS => ?_)
    refine lv_goto (tgt := 15) hx hb dL_setTolerance_9 (by decide) ?_
    refine lv_iconst (v := 0) hx hb dL_setTolerance_15 (by decide) ?_
    replace ev4 := Eq.symm ev4
    replace ex6 := Eq.symm ex6
    subst ev4 ex6
    exact E _ _ _ _ _ _ _ _ _ _ dL_setTolerance_16 (t31 ((fL_setTolerance.eq_1 _ _ _ _ _).trans ((if_pos c3).trans rfl))) (t32 ((fL_setTolerance.eq_1 _ _ _ _ _).trans ((if_pos c3).trans rfl))) (t33 ((fL_setTolerance.eq_1 _ _ _ _ _).trans ((if_pos c3).trans rfl))) hH hS hq2 hq2
theorem k_L_setTolerance {p : Program} {l : Launch} {e : Env} {R : Room} {s : State} {m : MethodId} {args : Array Value} {below : List Frame} {meth : Method} {c : Code} {H : Heap} {locs : List Loc} {cells slots : Nat} {Q : State → Prop} {cc : ByteArray} {pc nL : Nat} {ls : Array Slot} {rest : List Value} {G : gG} {own : String} {da : Nat → Nat} {v : vSt} {x : gX} (hst : l.stackTraces = false) (X : CX G p s m args c cc nL own) (hS : va_S (gA G) s.heap H locs) (hN : NC s) (hH : Hp G da v x H) {o1 : Nat} (hk_o1 : kd o1 = 10) {p1 : Int32} {o2 : Nat} (hk_o2 : kd o2 = 34) (ho : oL_setTolerance o1 p1 o2 v x) {idx : Nat} (hml : Cond.methodLink own idx yL_setTolerance ∈ TT) (hls : ls.size = nL) (hsum : (rest.map fun v => v.category).sum ≤ 8) (hR : (rmL_setTolerance o1 p1 o2 v x).frames + 1 ≤ R.frames ∧ 8 + (4 + 11) + (rmL_setTolerance o1 p1 o2 v x).locals ≤ R.locals) (hcs : cells + (kkL_setTolerance o1 p1 o2 v x) ≤ R.cells ∧ slots + (kkL_setTolerance o1 p1 o2 v x) ≤ R.slots) (hdg : decode cc pc = .ok (.invokestatic idx, 3)) (kk : ∀ (d : Nat → Nat) (H1 : Heap) (locs1 : List Loc) (v1 : vSt) (x1 : gX), v1 = (fL_setTolerance o1 p1 o2 v x).2.1 → x1 = (fL_setTolerance o1 p1 o2 v x).2.2 → Hp G d v1 x1 H1 → va_S (gA G) s.heap H1 locs1 → W p l e R s m args below meth c H1 locs1 (cells + (kkL_setTolerance o1 p1 o2 v x)) (slots + (kkL_setTolerance o1 p1 o2 v x)) Q (F0 m (pc + 3) ls (.int (fL_setTolerance o1 p1 o2 v x).1 :: rest))) : W p l e R s m args below meth c H locs cells slots Q (F0 m pc ls (.ref (ga G o2) :: .int p1 :: .ref (ga G o1) :: rest)) := c_li (runLS (kp := 3) X.1 X.2.1 X.2.2.1 X.2.2.2.1 X.2.2.2.2.1 (mL_setTolerance l hst G da v x o1 hk_o1 p1 o2 hk_o2 ho) pN_bl hml t_st_L_setTolerance t_ini_VernierDrawersLaw t_code_L_setTolerance ⟨by decide, by decide, by decide +kernel⟩ rfl rfl hR hcs (preN X hN hS hH) rfl hls rfl hsum hdg) hS (fun d9 H9 L9 hH9 => kk d9 H9 L9 _ _ rfl rfl hH9)
def fL_kindOf (o1 : Nat) (p1 : Int32) (o2 : Nat) (v : vSt) (x : gX) : Int32 × vSt × gX := if (fX10_kindOf o1 p1 v).1 = 0 then (let x4 : gX := xu x o2 (0 : Int32).toNatClampNeg (((fX10_kindOf o1 p1 v).2 : Int32).toInt64); (0, v, x4)) else ((1, v, x))
def oL_kindOf (o1 : Nat) (p1 : Int32) (o2 : Nat) (v : vSt) (x : gX) : Prop := (oX10_kindOf o1 p1 v) ∧ (¬ ((fX10_kindOf o1 p1 v).1 = 0) → ((fX10_kindOf o1 p1 v).1 = 1))
abbrev rmL_kindOf : Room := { frames := 8, cells := 6, slots := 6, locals := 132 }
theorem dL_kindOf_0 : decode cL_kindOf 0 = .ok (.aload_n 2, 1) := by decide +kernel
theorem dL_kindOf_1 : decode cL_kindOf 1 = .ok (.iconst 0, 1) := by decide +kernel
theorem dL_kindOf_2 : decode cL_kindOf 2 = .ok (.aload_n 0, 1) := by decide +kernel
theorem dL_kindOf_3 : decode cL_kindOf 3 = .ok (.iload_n 1, 1) := by decide +kernel
theorem dL_kindOf_4 : decode cL_kindOf 4 = .ok (.invokevirtual 57, 3) := by decide +kernel
theorem dL_kindOf_7 : decode cL_kindOf 7 = .ok (.i2l, 1) := by decide +kernel
theorem dL_kindOf_8 : decode cL_kindOf 8 = .ok (.lastore, 1) := by decide +kernel
theorem dL_kindOf_9 : decode cL_kindOf 9 = .ok (.goto 6, 3) := by decide +kernel
theorem dL_kindOf_12 : decode cL_kindOf 12 = .ok (.astore_n 3, 1) := by decide +kernel
theorem dL_kindOf_13 : decode cL_kindOf 13 = .ok (.iconst 1, 1) := by decide +kernel
theorem dL_kindOf_14 : decode cL_kindOf 14 = .ok (.ireturn, 1) := by decide +kernel
theorem dL_kindOf_15 : decode cL_kindOf 15 = .ok (.iconst 0, 1) := by decide +kernel
theorem dL_kindOf_16 : decode cL_kindOf 16 = .ok (.ireturn, 1) := by decide +kernel
set_option maxHeartbeats 8000000 in
set_option maxRecDepth 100000 in
theorem mL_kindOf (l : Launch) (hst : l.stackTraces = false) (G : gG) (da : Nat → Nat) (v : vSt) (x : gX) (o1 : Nat) (hk_o1 : kd o1 = 10) (p1 : Int32) (o2 : Nat) (hk_o2 : kd o2 = 34) (ho : oL_kindOf o1 p1 o2 v x) : LI l yL_kindOf cL_kindOf 4 [((0 : Nat), (9 : Nat), (12 : Nat), (13 : Nat))] rmL_kindOf [.ref (ga G o1), .int p1, .ref (ga G o2)] G da v x 6 6 (fL_kindOf o1 p1 o2 v x).1 (fL_kindOf o1 p1 o2 v x).2.1 (fL_kindOf o1 p1 o2 v x).2.2 := by
  refine gofL (by decide) rfl (Nat.le_of_ble_eq_true rfl) (fun p e s m args below meth c ls Q X hN htab hH hl E => ?_)
  have hx := X.1
  have hb := X.2.1
  have hown := X.2.2.2.1
  have hts := X.2.2.2.2.1
  have hS : va_S (gA G) s.heap s.heap [] := va_S.rf
  unfold oL_kindOf at ho
  have hl : lv_has ls 4 [(0, .ref (ga G o1)), (1, .int p1), (2, .ref (ga G o2))] := hl
  refine lv_aload_n hx hb dL_kindOf_0 rfl (lv_at hl 2 rfl) ?_
  refine lv_iconst (v := 0) hx hb dL_kindOf_1 (by decide) ?_
  refine lv_aload_n hx hb dL_kindOf_2 rfl (lv_at hl 0 rfl) ?_
  refine lv_iload_n hx hb dL_kindOf_3 rfl (lv_at hl 1 rfl) ?_
  have hq1 := ho.1
  have ho := ho.2
  refine k_X10_kindOf hst X hS hH hk_o1 hq1 t_ml_VernierDrawersLaw_57 hl.1 (Nat.le_of_ble_eq_true rfl) ⟨Nat.le_of_ble_eq_true rfl, Nat.le_of_ble_eq_true rfl⟩ ⟨(Nat.le_of_ble_eq_true rfl), (Nat.le_of_ble_eq_true rfl)⟩ dL_kindOf_4 (fun c2 da ce9 q9 H locs hH hS g1 g2 g3 => ?_) (fun c2 da H locs hH hS => ?_)
  · have ho := ho c2
    have hq3 := ho
    refine t_c1 (k := 1) X htab rfl g1 g2 (hq3 ▸ g3) ?_
    refine lv_astore_n (lv' := [(3, .ref q9), (0, .ref (ga G o1)), (1, .int p1), (2, .ref (ga G o2))]) hx hb dL_kindOf_12 rfl hl (by decide) rfl (fun ls hl => ?_)
    refine lv_iconst (v := 1) hx hb dL_kindOf_13 (by decide) ?_
    exact E _ _ _ _ _ _ _ _ _ _ dL_kindOf_14 (t31 ((fL_kindOf.eq_1 _ _ _ _ _).trans ((if_neg c2).trans rfl))) (t32 ((fL_kindOf.eq_1 _ _ _ _ _).trans ((if_neg c2).trans rfl))) (t33 ((fL_kindOf.eq_1 _ _ _ _ _).trans ((if_neg c2).trans rfl))) hH hS (Nat.le_of_ble_eq_true rfl) (Nat.le_of_ble_eq_true rfl)
  · skip
    refine lv_i2l (v := ((fX10_kindOf o1 p1 v).2 : Int32).toInt64) hx hb dL_kindOf_7 rfl ?_
    refine last_34 X hH hS hk_o2 (i_in (by decide) (by decide)) dL_kindOf_8 (fun H locs x4 ex4 hH hS => ?_)
    refine lv_goto (tgt := 15) hx hb dL_kindOf_9 (by decide) ?_
    refine lv_iconst (v := 0) hx hb dL_kindOf_15 (by decide) ?_
    replace ex4 := Eq.symm ex4
    subst ex4
    exact E _ _ _ _ _ _ _ _ _ _ dL_kindOf_16 (t31 ((fL_kindOf.eq_1 _ _ _ _ _).trans ((if_pos c2).trans rfl))) (t32 ((fL_kindOf.eq_1 _ _ _ _ _).trans ((if_pos c2).trans rfl))) (t33 ((fL_kindOf.eq_1 _ _ _ _ _).trans ((if_pos c2).trans rfl))) hH hS (Nat.le_of_ble_eq_true rfl) (Nat.le_of_ble_eq_true rfl)
theorem k_L_kindOf {p : Program} {l : Launch} {e : Env} {R : Room} {s : State} {m : MethodId} {args : Array Value} {below : List Frame} {meth : Method} {c : Code} {H : Heap} {locs : List Loc} {cells slots : Nat} {Q : State → Prop} {cc : ByteArray} {pc nL : Nat} {ls : Array Slot} {rest : List Value} {G : gG} {own : String} {da : Nat → Nat} {v : vSt} {x : gX} (hst : l.stackTraces = false) (X : CX G p s m args c cc nL own) (hS : va_S (gA G) s.heap H locs) (hN : NC s) (hH : Hp G da v x H) {o1 : Nat} (hk_o1 : kd o1 = 10) {p1 : Int32} {o2 : Nat} (hk_o2 : kd o2 = 34) (ho : oL_kindOf o1 p1 o2 v x) {idx : Nat} (hml : Cond.methodLink own idx yL_kindOf ∈ TT) (hls : ls.size = nL) (hsum : (rest.map fun v => v.category).sum ≤ 8) (hR : rmL_kindOf.frames + 1 ≤ R.frames ∧ 8 + (4 + 11) + rmL_kindOf.locals ≤ R.locals) (hcs : cells + 6 ≤ R.cells ∧ slots + 6 ≤ R.slots) (hdg : decode cc pc = .ok (.invokestatic idx, 3)) (kk : ∀ (d : Nat → Nat) (H1 : Heap) (locs1 : List Loc) (v1 : vSt) (x1 : gX), v1 = (fL_kindOf o1 p1 o2 v x).2.1 → x1 = (fL_kindOf o1 p1 o2 v x).2.2 → Hp G d v1 x1 H1 → va_S (gA G) s.heap H1 locs1 → W p l e R s m args below meth c H1 locs1 (cells + 6) (slots + 6) Q (F0 m (pc + 3) ls (.int (fL_kindOf o1 p1 o2 v x).1 :: rest))) : W p l e R s m args below meth c H locs cells slots Q (F0 m pc ls (.ref (ga G o2) :: .int p1 :: .ref (ga G o1) :: rest)) := c_li (runLS (kp := 3) X.1 X.2.1 X.2.2.1 X.2.2.2.1 X.2.2.2.2.1 (mL_kindOf l hst G da v x o1 hk_o1 p1 o2 hk_o2 ho) pN_bl hml t_st_L_kindOf t_ini_VernierDrawersLaw t_code_L_kindOf ⟨by decide, by decide, by decide +kernel⟩ rfl rfl hR hcs (preN X hN hS hH) rfl hls rfl hsum hdg) hS (fun d9 H9 L9 hH9 => kk d9 H9 L9 _ _ rfl rfl hH9)
def fL_stepOf (o1 : Nat) (p1 : Int32) (o2 : Nat) (v : vSt) (x : gX) : Int32 × vSt × gX := if (fX10_stepOf o1 p1 v).1 = 0 then (let x4 : gX := xu x o2 (0 : Int32).toNatClampNeg (((fX10_stepOf o1 p1 v).2 : Int32).toInt64); (0, v, x4)) else ((1, v, x))
def oL_stepOf (o1 : Nat) (p1 : Int32) (o2 : Nat) (v : vSt) (x : gX) : Prop := (oX10_stepOf o1 p1 v) ∧ (¬ ((fX10_stepOf o1 p1 v).1 = 0) → ((fX10_stepOf o1 p1 v).1 = 1))
abbrev rmL_stepOf : Room := { frames := 8, cells := 6, slots := 6, locals := 132 }
theorem dL_stepOf_0 : decode cL_stepOf 0 = .ok (.aload_n 2, 1) := by decide +kernel
theorem dL_stepOf_1 : decode cL_stepOf 1 = .ok (.iconst 0, 1) := by decide +kernel
theorem dL_stepOf_2 : decode cL_stepOf 2 = .ok (.aload_n 0, 1) := by decide +kernel
theorem dL_stepOf_3 : decode cL_stepOf 3 = .ok (.iload_n 1, 1) := by decide +kernel
theorem dL_stepOf_4 : decode cL_stepOf 4 = .ok (.invokevirtual 60, 3) := by decide +kernel
theorem dL_stepOf_7 : decode cL_stepOf 7 = .ok (.i2l, 1) := by decide +kernel
theorem dL_stepOf_8 : decode cL_stepOf 8 = .ok (.lastore, 1) := by decide +kernel
theorem dL_stepOf_9 : decode cL_stepOf 9 = .ok (.goto 6, 3) := by decide +kernel
theorem dL_stepOf_12 : decode cL_stepOf 12 = .ok (.astore_n 3, 1) := by decide +kernel
theorem dL_stepOf_13 : decode cL_stepOf 13 = .ok (.iconst 1, 1) := by decide +kernel
theorem dL_stepOf_14 : decode cL_stepOf 14 = .ok (.ireturn, 1) := by decide +kernel
theorem dL_stepOf_15 : decode cL_stepOf 15 = .ok (.iconst 0, 1) := by decide +kernel
theorem dL_stepOf_16 : decode cL_stepOf 16 = .ok (.ireturn, 1) := by decide +kernel
set_option maxHeartbeats 8000000 in
set_option maxRecDepth 100000 in
theorem mL_stepOf (l : Launch) (hst : l.stackTraces = false) (G : gG) (da : Nat → Nat) (v : vSt) (x : gX) (o1 : Nat) (hk_o1 : kd o1 = 10) (p1 : Int32) (o2 : Nat) (hk_o2 : kd o2 = 34) (ho : oL_stepOf o1 p1 o2 v x) : LI l yL_stepOf cL_stepOf 4 [((0 : Nat), (9 : Nat), (12 : Nat), (13 : Nat))] rmL_stepOf [.ref (ga G o1), .int p1, .ref (ga G o2)] G da v x 6 6 (fL_stepOf o1 p1 o2 v x).1 (fL_stepOf o1 p1 o2 v x).2.1 (fL_stepOf o1 p1 o2 v x).2.2 := by
  refine gofL (by decide) rfl (Nat.le_of_ble_eq_true rfl) (fun p e s m args below meth c ls Q X hN htab hH hl E => ?_)
  have hx := X.1
  have hb := X.2.1
  have hown := X.2.2.2.1
  have hts := X.2.2.2.2.1
  have hS : va_S (gA G) s.heap s.heap [] := va_S.rf
  unfold oL_stepOf at ho
  have hl : lv_has ls 4 [(0, .ref (ga G o1)), (1, .int p1), (2, .ref (ga G o2))] := hl
  refine lv_aload_n hx hb dL_stepOf_0 rfl (lv_at hl 2 rfl) ?_
  refine lv_iconst (v := 0) hx hb dL_stepOf_1 (by decide) ?_
  refine lv_aload_n hx hb dL_stepOf_2 rfl (lv_at hl 0 rfl) ?_
  refine lv_iload_n hx hb dL_stepOf_3 rfl (lv_at hl 1 rfl) ?_
  have hq1 := ho.1
  have ho := ho.2
  refine k_X10_stepOf hst X hS hH hk_o1 hq1 t_ml_VernierDrawersLaw_60 hl.1 (Nat.le_of_ble_eq_true rfl) ⟨Nat.le_of_ble_eq_true rfl, Nat.le_of_ble_eq_true rfl⟩ ⟨(Nat.le_of_ble_eq_true rfl), (Nat.le_of_ble_eq_true rfl)⟩ dL_stepOf_4 (fun c2 da ce9 q9 H locs hH hS g1 g2 g3 => ?_) (fun c2 da H locs hH hS => ?_)
  · have ho := ho c2
    have hq3 := ho
    refine t_c1 (k := 1) X htab rfl g1 g2 (hq3 ▸ g3) ?_
    refine lv_astore_n (lv' := [(3, .ref q9), (0, .ref (ga G o1)), (1, .int p1), (2, .ref (ga G o2))]) hx hb dL_stepOf_12 rfl hl (by decide) rfl (fun ls hl => ?_)
    refine lv_iconst (v := 1) hx hb dL_stepOf_13 (by decide) ?_
    exact E _ _ _ _ _ _ _ _ _ _ dL_stepOf_14 (t31 ((fL_stepOf.eq_1 _ _ _ _ _).trans ((if_neg c2).trans rfl))) (t32 ((fL_stepOf.eq_1 _ _ _ _ _).trans ((if_neg c2).trans rfl))) (t33 ((fL_stepOf.eq_1 _ _ _ _ _).trans ((if_neg c2).trans rfl))) hH hS (Nat.le_of_ble_eq_true rfl) (Nat.le_of_ble_eq_true rfl)
  · skip
    refine lv_i2l (v := ((fX10_stepOf o1 p1 v).2 : Int32).toInt64) hx hb dL_stepOf_7 rfl ?_
    refine last_34 X hH hS hk_o2 (i_in (by decide) (by decide)) dL_stepOf_8 (fun H locs x4 ex4 hH hS => ?_)
    refine lv_goto (tgt := 15) hx hb dL_stepOf_9 (by decide) ?_
    refine lv_iconst (v := 0) hx hb dL_stepOf_15 (by decide) ?_
    replace ex4 := Eq.symm ex4
    subst ex4
    exact E _ _ _ _ _ _ _ _ _ _ dL_stepOf_16 (t31 ((fL_stepOf.eq_1 _ _ _ _ _).trans ((if_pos c2).trans rfl))) (t32 ((fL_stepOf.eq_1 _ _ _ _ _).trans ((if_pos c2).trans rfl))) (t33 ((fL_stepOf.eq_1 _ _ _ _ _).trans ((if_pos c2).trans rfl))) hH hS (Nat.le_of_ble_eq_true rfl) (Nat.le_of_ble_eq_true rfl)
theorem k_L_stepOf {p : Program} {l : Launch} {e : Env} {R : Room} {s : State} {m : MethodId} {args : Array Value} {below : List Frame} {meth : Method} {c : Code} {H : Heap} {locs : List Loc} {cells slots : Nat} {Q : State → Prop} {cc : ByteArray} {pc nL : Nat} {ls : Array Slot} {rest : List Value} {G : gG} {own : String} {da : Nat → Nat} {v : vSt} {x : gX} (hst : l.stackTraces = false) (X : CX G p s m args c cc nL own) (hS : va_S (gA G) s.heap H locs) (hN : NC s) (hH : Hp G da v x H) {o1 : Nat} (hk_o1 : kd o1 = 10) {p1 : Int32} {o2 : Nat} (hk_o2 : kd o2 = 34) (ho : oL_stepOf o1 p1 o2 v x) {idx : Nat} (hml : Cond.methodLink own idx yL_stepOf ∈ TT) (hls : ls.size = nL) (hsum : (rest.map fun v => v.category).sum ≤ 8) (hR : rmL_stepOf.frames + 1 ≤ R.frames ∧ 8 + (4 + 11) + rmL_stepOf.locals ≤ R.locals) (hcs : cells + 6 ≤ R.cells ∧ slots + 6 ≤ R.slots) (hdg : decode cc pc = .ok (.invokestatic idx, 3)) (kk : ∀ (d : Nat → Nat) (H1 : Heap) (locs1 : List Loc) (v1 : vSt) (x1 : gX), v1 = (fL_stepOf o1 p1 o2 v x).2.1 → x1 = (fL_stepOf o1 p1 o2 v x).2.2 → Hp G d v1 x1 H1 → va_S (gA G) s.heap H1 locs1 → W p l e R s m args below meth c H1 locs1 (cells + 6) (slots + 6) Q (F0 m (pc + 3) ls (.int (fL_stepOf o1 p1 o2 v x).1 :: rest))) : W p l e R s m args below meth c H locs cells slots Q (F0 m pc ls (.ref (ga G o2) :: .int p1 :: .ref (ga G o1) :: rest)) := c_li (runLS (kp := 3) X.1 X.2.1 X.2.2.1 X.2.2.2.1 X.2.2.2.2.1 (mL_stepOf l hst G da v x o1 hk_o1 p1 o2 hk_o2 ho) pN_bl hml t_st_L_stepOf t_ini_VernierDrawersLaw t_code_L_stepOf ⟨by decide, by decide, by decide +kernel⟩ rfl rfl hR hcs (preN X hN hS hH) rfl hls rfl hsum hdg) hS (fun d9 H9 L9 hH9 => kk d9 H9 L9 _ _ rfl rfl hH9)
def fL_usesOf (o1 : Nat) (p1 : Int32) (o2 : Nat) (v : vSt) (x : gX) : Int32 × vSt × gX := if (fX10_usesOf o1 p1 v).1 = 0 then (let x4 : gX := xu x o2 (0 : Int32).toNatClampNeg (((fX10_usesOf o1 p1 v).2 : Int32).toInt64); (0, v, x4)) else ((1, v, x))
def oL_usesOf (o1 : Nat) (p1 : Int32) (o2 : Nat) (v : vSt) (x : gX) : Prop := (oX10_usesOf o1 p1 v) ∧ (¬ ((fX10_usesOf o1 p1 v).1 = 0) → ((fX10_usesOf o1 p1 v).1 = 1))
abbrev rmL_usesOf : Room := { frames := 8, cells := 6, slots := 6, locals := 132 }
theorem dL_usesOf_0 : decode cL_usesOf 0 = .ok (.aload_n 2, 1) := by decide +kernel
theorem dL_usesOf_1 : decode cL_usesOf 1 = .ok (.iconst 0, 1) := by decide +kernel
theorem dL_usesOf_2 : decode cL_usesOf 2 = .ok (.aload_n 0, 1) := by decide +kernel
theorem dL_usesOf_3 : decode cL_usesOf 3 = .ok (.iload_n 1, 1) := by decide +kernel
theorem dL_usesOf_4 : decode cL_usesOf 4 = .ok (.invokevirtual 63, 3) := by decide +kernel
theorem dL_usesOf_7 : decode cL_usesOf 7 = .ok (.i2l, 1) := by decide +kernel
theorem dL_usesOf_8 : decode cL_usesOf 8 = .ok (.lastore, 1) := by decide +kernel
theorem dL_usesOf_9 : decode cL_usesOf 9 = .ok (.goto 6, 3) := by decide +kernel
theorem dL_usesOf_12 : decode cL_usesOf 12 = .ok (.astore_n 3, 1) := by decide +kernel
theorem dL_usesOf_13 : decode cL_usesOf 13 = .ok (.iconst 1, 1) := by decide +kernel
theorem dL_usesOf_14 : decode cL_usesOf 14 = .ok (.ireturn, 1) := by decide +kernel
theorem dL_usesOf_15 : decode cL_usesOf 15 = .ok (.iconst 0, 1) := by decide +kernel
theorem dL_usesOf_16 : decode cL_usesOf 16 = .ok (.ireturn, 1) := by decide +kernel
set_option maxHeartbeats 8000000 in
set_option maxRecDepth 100000 in
theorem mL_usesOf (l : Launch) (hst : l.stackTraces = false) (G : gG) (da : Nat → Nat) (v : vSt) (x : gX) (o1 : Nat) (hk_o1 : kd o1 = 10) (p1 : Int32) (o2 : Nat) (hk_o2 : kd o2 = 34) (ho : oL_usesOf o1 p1 o2 v x) : LI l yL_usesOf cL_usesOf 4 [((0 : Nat), (9 : Nat), (12 : Nat), (13 : Nat))] rmL_usesOf [.ref (ga G o1), .int p1, .ref (ga G o2)] G da v x 6 6 (fL_usesOf o1 p1 o2 v x).1 (fL_usesOf o1 p1 o2 v x).2.1 (fL_usesOf o1 p1 o2 v x).2.2 := by
  refine gofL (by decide) rfl (Nat.le_of_ble_eq_true rfl) (fun p e s m args below meth c ls Q X hN htab hH hl E => ?_)
  have hx := X.1
  have hb := X.2.1
  have hown := X.2.2.2.1
  have hts := X.2.2.2.2.1
  have hS : va_S (gA G) s.heap s.heap [] := va_S.rf
  unfold oL_usesOf at ho
  have hl : lv_has ls 4 [(0, .ref (ga G o1)), (1, .int p1), (2, .ref (ga G o2))] := hl
  refine lv_aload_n hx hb dL_usesOf_0 rfl (lv_at hl 2 rfl) ?_
  refine lv_iconst (v := 0) hx hb dL_usesOf_1 (by decide) ?_
  refine lv_aload_n hx hb dL_usesOf_2 rfl (lv_at hl 0 rfl) ?_
  refine lv_iload_n hx hb dL_usesOf_3 rfl (lv_at hl 1 rfl) ?_
  have hq1 := ho.1
  have ho := ho.2
  refine k_X10_usesOf hst X hS hH hk_o1 hq1 t_ml_VernierDrawersLaw_63 hl.1 (Nat.le_of_ble_eq_true rfl) ⟨Nat.le_of_ble_eq_true rfl, Nat.le_of_ble_eq_true rfl⟩ ⟨(Nat.le_of_ble_eq_true rfl), (Nat.le_of_ble_eq_true rfl)⟩ dL_usesOf_4 (fun c2 da ce9 q9 H locs hH hS g1 g2 g3 => ?_) (fun c2 da H locs hH hS => ?_)
  · have ho := ho c2
    have hq3 := ho
    refine t_c1 (k := 1) X htab rfl g1 g2 (hq3 ▸ g3) ?_
    refine lv_astore_n (lv' := [(3, .ref q9), (0, .ref (ga G o1)), (1, .int p1), (2, .ref (ga G o2))]) hx hb dL_usesOf_12 rfl hl (by decide) rfl (fun ls hl => ?_)
    refine lv_iconst (v := 1) hx hb dL_usesOf_13 (by decide) ?_
    exact E _ _ _ _ _ _ _ _ _ _ dL_usesOf_14 (t31 ((fL_usesOf.eq_1 _ _ _ _ _).trans ((if_neg c2).trans rfl))) (t32 ((fL_usesOf.eq_1 _ _ _ _ _).trans ((if_neg c2).trans rfl))) (t33 ((fL_usesOf.eq_1 _ _ _ _ _).trans ((if_neg c2).trans rfl))) hH hS (Nat.le_of_ble_eq_true rfl) (Nat.le_of_ble_eq_true rfl)
  · skip
    refine lv_i2l (v := ((fX10_usesOf o1 p1 v).2 : Int32).toInt64) hx hb dL_usesOf_7 rfl ?_
    refine last_34 X hH hS hk_o2 (i_in (by decide) (by decide)) dL_usesOf_8 (fun H locs x4 ex4 hH hS => ?_)
    refine lv_goto (tgt := 15) hx hb dL_usesOf_9 (by decide) ?_
    refine lv_iconst (v := 0) hx hb dL_usesOf_15 (by decide) ?_
    replace ex4 := Eq.symm ex4
    subst ex4
    exact E _ _ _ _ _ _ _ _ _ _ dL_usesOf_16 (t31 ((fL_usesOf.eq_1 _ _ _ _ _).trans ((if_pos c2).trans rfl))) (t32 ((fL_usesOf.eq_1 _ _ _ _ _).trans ((if_pos c2).trans rfl))) (t33 ((fL_usesOf.eq_1 _ _ _ _ _).trans ((if_pos c2).trans rfl))) hH hS (Nat.le_of_ble_eq_true rfl) (Nat.le_of_ble_eq_true rfl)
theorem k_L_usesOf {p : Program} {l : Launch} {e : Env} {R : Room} {s : State} {m : MethodId} {args : Array Value} {below : List Frame} {meth : Method} {c : Code} {H : Heap} {locs : List Loc} {cells slots : Nat} {Q : State → Prop} {cc : ByteArray} {pc nL : Nat} {ls : Array Slot} {rest : List Value} {G : gG} {own : String} {da : Nat → Nat} {v : vSt} {x : gX} (hst : l.stackTraces = false) (X : CX G p s m args c cc nL own) (hS : va_S (gA G) s.heap H locs) (hN : NC s) (hH : Hp G da v x H) {o1 : Nat} (hk_o1 : kd o1 = 10) {p1 : Int32} {o2 : Nat} (hk_o2 : kd o2 = 34) (ho : oL_usesOf o1 p1 o2 v x) {idx : Nat} (hml : Cond.methodLink own idx yL_usesOf ∈ TT) (hls : ls.size = nL) (hsum : (rest.map fun v => v.category).sum ≤ 8) (hR : rmL_usesOf.frames + 1 ≤ R.frames ∧ 8 + (4 + 11) + rmL_usesOf.locals ≤ R.locals) (hcs : cells + 6 ≤ R.cells ∧ slots + 6 ≤ R.slots) (hdg : decode cc pc = .ok (.invokestatic idx, 3)) (kk : ∀ (d : Nat → Nat) (H1 : Heap) (locs1 : List Loc) (v1 : vSt) (x1 : gX), v1 = (fL_usesOf o1 p1 o2 v x).2.1 → x1 = (fL_usesOf o1 p1 o2 v x).2.2 → Hp G d v1 x1 H1 → va_S (gA G) s.heap H1 locs1 → W p l e R s m args below meth c H1 locs1 (cells + 6) (slots + 6) Q (F0 m (pc + 3) ls (.int (fL_usesOf o1 p1 o2 v x).1 :: rest))) : W p l e R s m args below meth c H locs cells slots Q (F0 m pc ls (.ref (ga G o2) :: .int p1 :: .ref (ga G o1) :: rest)) := c_li (runLS (kp := 3) X.1 X.2.1 X.2.2.1 X.2.2.2.1 X.2.2.2.2.1 (mL_usesOf l hst G da v x o1 hk_o1 p1 o2 hk_o2 ho) pN_bl hml t_st_L_usesOf t_ini_VernierDrawersLaw t_code_L_usesOf ⟨by decide, by decide, by decide +kernel⟩ rfl rfl hR hcs (preN X hN hS hH) rfl hls rfl hsum hdg) hS (fun d9 H9 L9 hH9 => kk d9 H9 L9 _ _ rfl rfl hH9)
def fL_wearOf (o1 : Nat) (p1 : Int32) (o2 : Nat) (v : vSt) (x : gX) : Int32 × vSt × gX := if (fX10_wearOf o1 p1 v).1 = 0 then (let x4 : gX := xu x o2 (0 : Int32).toNatClampNeg (((fX10_wearOf o1 p1 v).2 : Int32).toInt64); (0, v, x4)) else ((1, v, x))
def oL_wearOf (o1 : Nat) (p1 : Int32) (o2 : Nat) (v : vSt) (x : gX) : Prop := (oX10_wearOf o1 p1 v) ∧ (¬ ((fX10_wearOf o1 p1 v).1 = 0) → ((fX10_wearOf o1 p1 v).1 = 1))
abbrev rmL_wearOf : Room := { frames := 8, cells := 6, slots := 6, locals := 132 }
theorem dL_wearOf_0 : decode cL_wearOf 0 = .ok (.aload_n 2, 1) := by decide +kernel
theorem dL_wearOf_1 : decode cL_wearOf 1 = .ok (.iconst 0, 1) := by decide +kernel
theorem dL_wearOf_2 : decode cL_wearOf 2 = .ok (.aload_n 0, 1) := by decide +kernel
theorem dL_wearOf_3 : decode cL_wearOf 3 = .ok (.iload_n 1, 1) := by decide +kernel
theorem dL_wearOf_4 : decode cL_wearOf 4 = .ok (.invokevirtual 66, 3) := by decide +kernel
theorem dL_wearOf_7 : decode cL_wearOf 7 = .ok (.i2l, 1) := by decide +kernel
theorem dL_wearOf_8 : decode cL_wearOf 8 = .ok (.lastore, 1) := by decide +kernel
theorem dL_wearOf_9 : decode cL_wearOf 9 = .ok (.goto 6, 3) := by decide +kernel
theorem dL_wearOf_12 : decode cL_wearOf 12 = .ok (.astore_n 3, 1) := by decide +kernel
theorem dL_wearOf_13 : decode cL_wearOf 13 = .ok (.iconst 1, 1) := by decide +kernel
theorem dL_wearOf_14 : decode cL_wearOf 14 = .ok (.ireturn, 1) := by decide +kernel
theorem dL_wearOf_15 : decode cL_wearOf 15 = .ok (.iconst 0, 1) := by decide +kernel
theorem dL_wearOf_16 : decode cL_wearOf 16 = .ok (.ireturn, 1) := by decide +kernel
set_option maxHeartbeats 8000000 in
set_option maxRecDepth 100000 in
theorem mL_wearOf (l : Launch) (hst : l.stackTraces = false) (G : gG) (da : Nat → Nat) (v : vSt) (x : gX) (o1 : Nat) (hk_o1 : kd o1 = 10) (p1 : Int32) (o2 : Nat) (hk_o2 : kd o2 = 34) (ho : oL_wearOf o1 p1 o2 v x) : LI l yL_wearOf cL_wearOf 4 [((0 : Nat), (9 : Nat), (12 : Nat), (13 : Nat))] rmL_wearOf [.ref (ga G o1), .int p1, .ref (ga G o2)] G da v x 6 6 (fL_wearOf o1 p1 o2 v x).1 (fL_wearOf o1 p1 o2 v x).2.1 (fL_wearOf o1 p1 o2 v x).2.2 := by
  refine gofL (by decide) rfl (Nat.le_of_ble_eq_true rfl) (fun p e s m args below meth c ls Q X hN htab hH hl E => ?_)
  have hx := X.1
  have hb := X.2.1
  have hown := X.2.2.2.1
  have hts := X.2.2.2.2.1
  have hS : va_S (gA G) s.heap s.heap [] := va_S.rf
  unfold oL_wearOf at ho
  have hl : lv_has ls 4 [(0, .ref (ga G o1)), (1, .int p1), (2, .ref (ga G o2))] := hl
  refine lv_aload_n hx hb dL_wearOf_0 rfl (lv_at hl 2 rfl) ?_
  refine lv_iconst (v := 0) hx hb dL_wearOf_1 (by decide) ?_
  refine lv_aload_n hx hb dL_wearOf_2 rfl (lv_at hl 0 rfl) ?_
  refine lv_iload_n hx hb dL_wearOf_3 rfl (lv_at hl 1 rfl) ?_
  have hq1 := ho.1
  have ho := ho.2
  refine k_X10_wearOf hst X hS hH hk_o1 hq1 t_ml_VernierDrawersLaw_66 hl.1 (Nat.le_of_ble_eq_true rfl) ⟨Nat.le_of_ble_eq_true rfl, Nat.le_of_ble_eq_true rfl⟩ ⟨(Nat.le_of_ble_eq_true rfl), (Nat.le_of_ble_eq_true rfl)⟩ dL_wearOf_4 (fun c2 da ce9 q9 H locs hH hS g1 g2 g3 => ?_) (fun c2 da H locs hH hS => ?_)
  · have ho := ho c2
    have hq3 := ho
    refine t_c1 (k := 1) X htab rfl g1 g2 (hq3 ▸ g3) ?_
    refine lv_astore_n (lv' := [(3, .ref q9), (0, .ref (ga G o1)), (1, .int p1), (2, .ref (ga G o2))]) hx hb dL_wearOf_12 rfl hl (by decide) rfl (fun ls hl => ?_)
    refine lv_iconst (v := 1) hx hb dL_wearOf_13 (by decide) ?_
    exact E _ _ _ _ _ _ _ _ _ _ dL_wearOf_14 (t31 ((fL_wearOf.eq_1 _ _ _ _ _).trans ((if_neg c2).trans rfl))) (t32 ((fL_wearOf.eq_1 _ _ _ _ _).trans ((if_neg c2).trans rfl))) (t33 ((fL_wearOf.eq_1 _ _ _ _ _).trans ((if_neg c2).trans rfl))) hH hS (Nat.le_of_ble_eq_true rfl) (Nat.le_of_ble_eq_true rfl)
  · skip
    refine lv_i2l (v := ((fX10_wearOf o1 p1 v).2 : Int32).toInt64) hx hb dL_wearOf_7 rfl ?_
    refine last_34 X hH hS hk_o2 (i_in (by decide) (by decide)) dL_wearOf_8 (fun H locs x4 ex4 hH hS => ?_)
    refine lv_goto (tgt := 15) hx hb dL_wearOf_9 (by decide) ?_
    refine lv_iconst (v := 0) hx hb dL_wearOf_15 (by decide) ?_
    replace ex4 := Eq.symm ex4
    subst ex4
    exact E _ _ _ _ _ _ _ _ _ _ dL_wearOf_16 (t31 ((fL_wearOf.eq_1 _ _ _ _ _).trans ((if_pos c2).trans rfl))) (t32 ((fL_wearOf.eq_1 _ _ _ _ _).trans ((if_pos c2).trans rfl))) (t33 ((fL_wearOf.eq_1 _ _ _ _ _).trans ((if_pos c2).trans rfl))) hH hS (Nat.le_of_ble_eq_true rfl) (Nat.le_of_ble_eq_true rfl)
theorem k_L_wearOf {p : Program} {l : Launch} {e : Env} {R : Room} {s : State} {m : MethodId} {args : Array Value} {below : List Frame} {meth : Method} {c : Code} {H : Heap} {locs : List Loc} {cells slots : Nat} {Q : State → Prop} {cc : ByteArray} {pc nL : Nat} {ls : Array Slot} {rest : List Value} {G : gG} {own : String} {da : Nat → Nat} {v : vSt} {x : gX} (hst : l.stackTraces = false) (X : CX G p s m args c cc nL own) (hS : va_S (gA G) s.heap H locs) (hN : NC s) (hH : Hp G da v x H) {o1 : Nat} (hk_o1 : kd o1 = 10) {p1 : Int32} {o2 : Nat} (hk_o2 : kd o2 = 34) (ho : oL_wearOf o1 p1 o2 v x) {idx : Nat} (hml : Cond.methodLink own idx yL_wearOf ∈ TT) (hls : ls.size = nL) (hsum : (rest.map fun v => v.category).sum ≤ 8) (hR : rmL_wearOf.frames + 1 ≤ R.frames ∧ 8 + (4 + 11) + rmL_wearOf.locals ≤ R.locals) (hcs : cells + 6 ≤ R.cells ∧ slots + 6 ≤ R.slots) (hdg : decode cc pc = .ok (.invokestatic idx, 3)) (kk : ∀ (d : Nat → Nat) (H1 : Heap) (locs1 : List Loc) (v1 : vSt) (x1 : gX), v1 = (fL_wearOf o1 p1 o2 v x).2.1 → x1 = (fL_wearOf o1 p1 o2 v x).2.2 → Hp G d v1 x1 H1 → va_S (gA G) s.heap H1 locs1 → W p l e R s m args below meth c H1 locs1 (cells + 6) (slots + 6) Q (F0 m (pc + 3) ls (.int (fL_wearOf o1 p1 o2 v x).1 :: rest))) : W p l e R s m args below meth c H locs cells slots Q (F0 m pc ls (.ref (ga G o2) :: .int p1 :: .ref (ga G o1) :: rest)) := c_li (runLS (kp := 3) X.1 X.2.1 X.2.2.1 X.2.2.2.1 X.2.2.2.2.1 (mL_wearOf l hst G da v x o1 hk_o1 p1 o2 hk_o2 ho) pN_bl hml t_st_L_wearOf t_ini_VernierDrawersLaw t_code_L_wearOf ⟨by decide, by decide, by decide +kernel⟩ rfl rfl hR hcs (preN X hN hS hH) rfl hls rfl hsum hdg) hS (fun d9 H9 L9 hH9 => kk d9 H9 L9 _ _ rfl rfl hH9)
def fL_knownError (o1 : Nat) (p1 : Int32) (o2 : Nat) (v : vSt) (x : gX) : Int32 × vSt × gX := if (fX10_knownError o1 p1 v).1 = 0 then (let x4 : gX := xu x o2 (0 : Int32).toNatClampNeg (((fX10_knownError o1 p1 v).2 : Int32).toInt64); (0, v, x4)) else ((1, v, x))
def oL_knownError (o1 : Nat) (p1 : Int32) (o2 : Nat) (v : vSt) (x : gX) : Prop := (oX10_knownError o1 p1 v) ∧ (¬ ((fX10_knownError o1 p1 v).1 = 0) → ((fX10_knownError o1 p1 v).1 = 1))
abbrev rmL_knownError : Room := { frames := 8, cells := 6, slots := 6, locals := 132 }
theorem dL_knownError_0 : decode cL_knownError 0 = .ok (.aload_n 2, 1) := by decide +kernel
theorem dL_knownError_1 : decode cL_knownError 1 = .ok (.iconst 0, 1) := by decide +kernel
theorem dL_knownError_2 : decode cL_knownError 2 = .ok (.aload_n 0, 1) := by decide +kernel
theorem dL_knownError_3 : decode cL_knownError 3 = .ok (.iload_n 1, 1) := by decide +kernel
theorem dL_knownError_4 : decode cL_knownError 4 = .ok (.invokevirtual 69, 3) := by decide +kernel
theorem dL_knownError_7 : decode cL_knownError 7 = .ok (.i2l, 1) := by decide +kernel
theorem dL_knownError_8 : decode cL_knownError 8 = .ok (.lastore, 1) := by decide +kernel
theorem dL_knownError_9 : decode cL_knownError 9 = .ok (.goto 6, 3) := by decide +kernel
theorem dL_knownError_12 : decode cL_knownError 12 = .ok (.astore_n 3, 1) := by decide +kernel
theorem dL_knownError_13 : decode cL_knownError 13 = .ok (.iconst 1, 1) := by decide +kernel
theorem dL_knownError_14 : decode cL_knownError 14 = .ok (.ireturn, 1) := by decide +kernel
theorem dL_knownError_15 : decode cL_knownError 15 = .ok (.iconst 0, 1) := by decide +kernel
theorem dL_knownError_16 : decode cL_knownError 16 = .ok (.ireturn, 1) := by decide +kernel
set_option maxHeartbeats 8000000 in
set_option maxRecDepth 100000 in
theorem mL_knownError (l : Launch) (hst : l.stackTraces = false) (G : gG) (da : Nat → Nat) (v : vSt) (x : gX) (o1 : Nat) (hk_o1 : kd o1 = 10) (p1 : Int32) (o2 : Nat) (hk_o2 : kd o2 = 34) (ho : oL_knownError o1 p1 o2 v x) : LI l yL_knownError cL_knownError 4 [((0 : Nat), (9 : Nat), (12 : Nat), (13 : Nat))] rmL_knownError [.ref (ga G o1), .int p1, .ref (ga G o2)] G da v x 6 6 (fL_knownError o1 p1 o2 v x).1 (fL_knownError o1 p1 o2 v x).2.1 (fL_knownError o1 p1 o2 v x).2.2 := by
  refine gofL (by decide) rfl (Nat.le_of_ble_eq_true rfl) (fun p e s m args below meth c ls Q X hN htab hH hl E => ?_)
  have hx := X.1
  have hb := X.2.1
  have hown := X.2.2.2.1
  have hts := X.2.2.2.2.1
  have hS : va_S (gA G) s.heap s.heap [] := va_S.rf
  unfold oL_knownError at ho
  have hl : lv_has ls 4 [(0, .ref (ga G o1)), (1, .int p1), (2, .ref (ga G o2))] := hl
  refine lv_aload_n hx hb dL_knownError_0 rfl (lv_at hl 2 rfl) ?_
  refine lv_iconst (v := 0) hx hb dL_knownError_1 (by decide) ?_
  refine lv_aload_n hx hb dL_knownError_2 rfl (lv_at hl 0 rfl) ?_
  refine lv_iload_n hx hb dL_knownError_3 rfl (lv_at hl 1 rfl) ?_
  have hq1 := ho.1
  have ho := ho.2
  refine k_X10_knownError hst X hS hH hk_o1 hq1 t_ml_VernierDrawersLaw_69 hl.1 (Nat.le_of_ble_eq_true rfl) ⟨Nat.le_of_ble_eq_true rfl, Nat.le_of_ble_eq_true rfl⟩ ⟨(Nat.le_of_ble_eq_true rfl), (Nat.le_of_ble_eq_true rfl)⟩ dL_knownError_4 (fun c2 da ce9 q9 H locs hH hS g1 g2 g3 => ?_) (fun c2 da H locs hH hS => ?_)
  · have ho := ho c2
    have hq3 := ho
    refine t_c1 (k := 1) X htab rfl g1 g2 (hq3 ▸ g3) ?_
    refine lv_astore_n (lv' := [(3, .ref q9), (0, .ref (ga G o1)), (1, .int p1), (2, .ref (ga G o2))]) hx hb dL_knownError_12 rfl hl (by decide) rfl (fun ls hl => ?_)
    refine lv_iconst (v := 1) hx hb dL_knownError_13 (by decide) ?_
    exact E _ _ _ _ _ _ _ _ _ _ dL_knownError_14 (t31 ((fL_knownError.eq_1 _ _ _ _ _).trans ((if_neg c2).trans rfl))) (t32 ((fL_knownError.eq_1 _ _ _ _ _).trans ((if_neg c2).trans rfl))) (t33 ((fL_knownError.eq_1 _ _ _ _ _).trans ((if_neg c2).trans rfl))) hH hS (Nat.le_of_ble_eq_true rfl) (Nat.le_of_ble_eq_true rfl)
  · skip
    refine lv_i2l (v := ((fX10_knownError o1 p1 v).2 : Int32).toInt64) hx hb dL_knownError_7 rfl ?_
    refine last_34 X hH hS hk_o2 (i_in (by decide) (by decide)) dL_knownError_8 (fun H locs x4 ex4 hH hS => ?_)
    refine lv_goto (tgt := 15) hx hb dL_knownError_9 (by decide) ?_
    refine lv_iconst (v := 0) hx hb dL_knownError_15 (by decide) ?_
    replace ex4 := Eq.symm ex4
    subst ex4
    exact E _ _ _ _ _ _ _ _ _ _ dL_knownError_16 (t31 ((fL_knownError.eq_1 _ _ _ _ _).trans ((if_pos c2).trans rfl))) (t32 ((fL_knownError.eq_1 _ _ _ _ _).trans ((if_pos c2).trans rfl))) (t33 ((fL_knownError.eq_1 _ _ _ _ _).trans ((if_pos c2).trans rfl))) hH hS (Nat.le_of_ble_eq_true rfl) (Nat.le_of_ble_eq_true rfl)
theorem k_L_knownError {p : Program} {l : Launch} {e : Env} {R : Room} {s : State} {m : MethodId} {args : Array Value} {below : List Frame} {meth : Method} {c : Code} {H : Heap} {locs : List Loc} {cells slots : Nat} {Q : State → Prop} {cc : ByteArray} {pc nL : Nat} {ls : Array Slot} {rest : List Value} {G : gG} {own : String} {da : Nat → Nat} {v : vSt} {x : gX} (hst : l.stackTraces = false) (X : CX G p s m args c cc nL own) (hS : va_S (gA G) s.heap H locs) (hN : NC s) (hH : Hp G da v x H) {o1 : Nat} (hk_o1 : kd o1 = 10) {p1 : Int32} {o2 : Nat} (hk_o2 : kd o2 = 34) (ho : oL_knownError o1 p1 o2 v x) {idx : Nat} (hml : Cond.methodLink own idx yL_knownError ∈ TT) (hls : ls.size = nL) (hsum : (rest.map fun v => v.category).sum ≤ 8) (hR : rmL_knownError.frames + 1 ≤ R.frames ∧ 8 + (4 + 11) + rmL_knownError.locals ≤ R.locals) (hcs : cells + 6 ≤ R.cells ∧ slots + 6 ≤ R.slots) (hdg : decode cc pc = .ok (.invokestatic idx, 3)) (kk : ∀ (d : Nat → Nat) (H1 : Heap) (locs1 : List Loc) (v1 : vSt) (x1 : gX), v1 = (fL_knownError o1 p1 o2 v x).2.1 → x1 = (fL_knownError o1 p1 o2 v x).2.2 → Hp G d v1 x1 H1 → va_S (gA G) s.heap H1 locs1 → W p l e R s m args below meth c H1 locs1 (cells + 6) (slots + 6) Q (F0 m (pc + 3) ls (.int (fL_knownError o1 p1 o2 v x).1 :: rest))) : W p l e R s m args below meth c H locs cells slots Q (F0 m pc ls (.ref (ga G o2) :: .int p1 :: .ref (ga G o1) :: rest)) := c_li (runLS (kp := 3) X.1 X.2.1 X.2.2.1 X.2.2.2.1 X.2.2.2.2.1 (mL_knownError l hst G da v x o1 hk_o1 p1 o2 hk_o2 ho) pN_bl hml t_st_L_knownError t_ini_VernierDrawersLaw t_code_L_knownError ⟨by decide, by decide, by decide +kernel⟩ rfl rfl hR hcs (preN X hN hS hH) rfl hls rfl hsum hdg) hS (fun d9 H9 L9 hH9 => kk d9 H9 L9 _ _ rfl rfl hH9)
def fL_isDue (o1 : Nat) (p1 : Int32) (o2 : Nat) (v : vSt) (x : gX) : Int32 × vSt × gX := if (fX10_isDue o1 p1 v).1 = 0 then (if (((fX10_isDue o1 p1 v).2) : Int32) = 0 then (let x5 : gX := xu x o2 (0 : Int32).toNatClampNeg 0; (0, v, x5)) else (let x6 : gX := xu x o2 (0 : Int32).toNatClampNeg 1; (0, v, x6))) else ((1, v, x))
def oL_isDue (o1 : Nat) (p1 : Int32) (o2 : Nat) (v : vSt) (x : gX) : Prop := (oX10_isDue o1 p1 v) ∧ (¬ ((fX10_isDue o1 p1 v).1 = 0) → ((fX10_isDue o1 p1 v).1 = 1))
abbrev rmL_isDue : Room := { frames := 8, cells := 6, slots := 6, locals := 132 }
theorem dL_isDue_0 : decode cL_isDue 0 = .ok (.aload_n 2, 1) := by decide +kernel
theorem dL_isDue_1 : decode cL_isDue 1 = .ok (.iconst 0, 1) := by decide +kernel
theorem dL_isDue_2 : decode cL_isDue 2 = .ok (.aload_n 0, 1) := by decide +kernel
theorem dL_isDue_3 : decode cL_isDue 3 = .ok (.iload_n 1, 1) := by decide +kernel
theorem dL_isDue_4 : decode cL_isDue 4 = .ok (.invokevirtual 72, 3) := by decide +kernel
theorem dL_isDue_7 : decode cL_isDue 7 = .ok (.ifCond .eq 7, 3) := by decide +kernel
theorem dL_isDue_10 : decode cL_isDue 10 = .ok (.lconst 1, 1) := by decide +kernel
theorem dL_isDue_11 : decode cL_isDue 11 = .ok (.goto 4, 3) := by decide +kernel
theorem dL_isDue_14 : decode cL_isDue 14 = .ok (.lconst 0, 1) := by decide +kernel
theorem dL_isDue_15 : decode cL_isDue 15 = .ok (.lastore, 1) := by decide +kernel
theorem dL_isDue_16 : decode cL_isDue 16 = .ok (.goto 6, 3) := by decide +kernel
theorem dL_isDue_19 : decode cL_isDue 19 = .ok (.astore_n 3, 1) := by decide +kernel
theorem dL_isDue_20 : decode cL_isDue 20 = .ok (.iconst 1, 1) := by decide +kernel
theorem dL_isDue_21 : decode cL_isDue 21 = .ok (.ireturn, 1) := by decide +kernel
theorem dL_isDue_22 : decode cL_isDue 22 = .ok (.iconst 0, 1) := by decide +kernel
theorem dL_isDue_23 : decode cL_isDue 23 = .ok (.ireturn, 1) := by decide +kernel
set_option maxHeartbeats 8000000 in
set_option maxRecDepth 100000 in
theorem mL_isDue (l : Launch) (hst : l.stackTraces = false) (G : gG) (da : Nat → Nat) (v : vSt) (x : gX) (o1 : Nat) (hk_o1 : kd o1 = 10) (p1 : Int32) (o2 : Nat) (hk_o2 : kd o2 = 34) (ho : oL_isDue o1 p1 o2 v x) : LI l yL_isDue cL_isDue 4 [((0 : Nat), (16 : Nat), (19 : Nat), (13 : Nat))] rmL_isDue [.ref (ga G o1), .int p1, .ref (ga G o2)] G da v x 6 6 (fL_isDue o1 p1 o2 v x).1 (fL_isDue o1 p1 o2 v x).2.1 (fL_isDue o1 p1 o2 v x).2.2 := by
  refine gofL (by decide) rfl (Nat.le_of_ble_eq_true rfl) (fun p e s m args below meth c ls Q X hN htab hH hl E => ?_)
  have hx := X.1
  have hb := X.2.1
  have hown := X.2.2.2.1
  have hts := X.2.2.2.2.1
  have hS : va_S (gA G) s.heap s.heap [] := va_S.rf
  unfold oL_isDue at ho
  have hl : lv_has ls 4 [(0, .ref (ga G o1)), (1, .int p1), (2, .ref (ga G o2))] := hl
  refine lv_aload_n hx hb dL_isDue_0 rfl (lv_at hl 2 rfl) ?_
  refine lv_iconst (v := 0) hx hb dL_isDue_1 (by decide) ?_
  refine lv_aload_n hx hb dL_isDue_2 rfl (lv_at hl 0 rfl) ?_
  refine lv_iload_n hx hb dL_isDue_3 rfl (lv_at hl 1 rfl) ?_
  have hq1 := ho.1
  have ho := ho.2
  refine k_X10_isDue hst X hS hH hk_o1 hq1 t_ml_VernierDrawersLaw_72 hl.1 (Nat.le_of_ble_eq_true rfl) ⟨Nat.le_of_ble_eq_true rfl, Nat.le_of_ble_eq_true rfl⟩ ⟨(Nat.le_of_ble_eq_true rfl), (Nat.le_of_ble_eq_true rfl)⟩ dL_isDue_4 (fun c2 da ce9 q9 H locs hH hS g1 g2 g3 => ?_) (fun c2 da H locs hH hS => ?_)
  · have ho := ho c2
    have hq3 := ho
    refine t_c1 (k := 1) X htab rfl g1 g2 (hq3 ▸ g3) ?_
    refine lv_astore_n (lv' := [(3, .ref q9), (0, .ref (ga G o1)), (1, .int p1), (2, .ref (ga G o2))]) hx hb dL_isDue_19 rfl hl (by decide) rfl (fun ls hl => ?_)
    refine lv_iconst (v := 1) hx hb dL_isDue_20 (by decide) ?_
    exact E _ _ _ _ _ _ _ _ _ _ dL_isDue_21 (t31 ((fL_isDue.eq_1 _ _ _ _ _).trans ((if_neg c2).trans rfl))) (t32 ((fL_isDue.eq_1 _ _ _ _ _).trans ((if_neg c2).trans rfl))) (t33 ((fL_isDue.eq_1 _ _ _ _ _).trans ((if_neg c2).trans rfl))) hH hS (Nat.le_of_ble_eq_true rfl) (Nat.le_of_ble_eq_true rfl)
  · skip
    refine lv_if_eq (tgt := 14) hx hb dL_isDue_7 (by decide) (fun c4 => ?_) (fun c4 => ?_)
    · skip
      refine lv_lconst (v := 0) hx hb dL_isDue_14 rfl ?_
      refine last_34 X hH hS hk_o2 (i_in (by decide) (by decide)) dL_isDue_15 (fun H locs x5 ex5 hH hS => ?_)
      refine lv_goto (tgt := 22) hx hb dL_isDue_16 (by decide) ?_
      refine lv_iconst (v := 0) hx hb dL_isDue_22 (by decide) ?_
      replace ex5 := Eq.symm ex5
      subst ex5
      exact E _ _ _ _ _ _ _ _ _ _ dL_isDue_23 (t31 ((fL_isDue.eq_1 _ _ _ _ _).trans ((if_pos c2).trans ((if_pos c4).trans rfl)))) (t32 ((fL_isDue.eq_1 _ _ _ _ _).trans ((if_pos c2).trans ((if_pos c4).trans rfl)))) (t33 ((fL_isDue.eq_1 _ _ _ _ _).trans ((if_pos c2).trans ((if_pos c4).trans rfl)))) hH hS (Nat.le_of_ble_eq_true rfl) (Nat.le_of_ble_eq_true rfl)
    · skip
      refine lv_lconst (v := 1) hx hb dL_isDue_10 rfl ?_
      refine lv_goto (tgt := 15) hx hb dL_isDue_11 (by decide) ?_
      refine last_34 X hH hS hk_o2 (i_in (by decide) (by decide)) dL_isDue_15 (fun H locs x6 ex6 hH hS => ?_)
      refine lv_goto (tgt := 22) hx hb dL_isDue_16 (by decide) ?_
      refine lv_iconst (v := 0) hx hb dL_isDue_22 (by decide) ?_
      replace ex6 := Eq.symm ex6
      subst ex6
      exact E _ _ _ _ _ _ _ _ _ _ dL_isDue_23 (t31 ((fL_isDue.eq_1 _ _ _ _ _).trans ((if_pos c2).trans ((if_neg c4).trans rfl)))) (t32 ((fL_isDue.eq_1 _ _ _ _ _).trans ((if_pos c2).trans ((if_neg c4).trans rfl)))) (t33 ((fL_isDue.eq_1 _ _ _ _ _).trans ((if_pos c2).trans ((if_neg c4).trans rfl)))) hH hS (Nat.le_of_ble_eq_true rfl) (Nat.le_of_ble_eq_true rfl)
theorem k_L_isDue {p : Program} {l : Launch} {e : Env} {R : Room} {s : State} {m : MethodId} {args : Array Value} {below : List Frame} {meth : Method} {c : Code} {H : Heap} {locs : List Loc} {cells slots : Nat} {Q : State → Prop} {cc : ByteArray} {pc nL : Nat} {ls : Array Slot} {rest : List Value} {G : gG} {own : String} {da : Nat → Nat} {v : vSt} {x : gX} (hst : l.stackTraces = false) (X : CX G p s m args c cc nL own) (hS : va_S (gA G) s.heap H locs) (hN : NC s) (hH : Hp G da v x H) {o1 : Nat} (hk_o1 : kd o1 = 10) {p1 : Int32} {o2 : Nat} (hk_o2 : kd o2 = 34) (ho : oL_isDue o1 p1 o2 v x) {idx : Nat} (hml : Cond.methodLink own idx yL_isDue ∈ TT) (hls : ls.size = nL) (hsum : (rest.map fun v => v.category).sum ≤ 8) (hR : rmL_isDue.frames + 1 ≤ R.frames ∧ 8 + (4 + 11) + rmL_isDue.locals ≤ R.locals) (hcs : cells + 6 ≤ R.cells ∧ slots + 6 ≤ R.slots) (hdg : decode cc pc = .ok (.invokestatic idx, 3)) (kk : ∀ (d : Nat → Nat) (H1 : Heap) (locs1 : List Loc) (v1 : vSt) (x1 : gX), v1 = (fL_isDue o1 p1 o2 v x).2.1 → x1 = (fL_isDue o1 p1 o2 v x).2.2 → Hp G d v1 x1 H1 → va_S (gA G) s.heap H1 locs1 → W p l e R s m args below meth c H1 locs1 (cells + 6) (slots + 6) Q (F0 m (pc + 3) ls (.int (fL_isDue o1 p1 o2 v x).1 :: rest))) : W p l e R s m args below meth c H locs cells slots Q (F0 m pc ls (.ref (ga G o2) :: .int p1 :: .ref (ga G o1) :: rest)) := c_li (runLS (kp := 3) X.1 X.2.1 X.2.2.1 X.2.2.2.1 X.2.2.2.2.1 (mL_isDue l hst G da v x o1 hk_o1 p1 o2 hk_o2 ho) pN_bl hml t_st_L_isDue t_ini_VernierDrawersLaw t_code_L_isDue ⟨by decide, by decide, by decide +kernel⟩ rfl rfl hR hcs (preN X hN hS hH) rfl hls rfl hsum hdg) hS (fun d9 H9 L9 hH9 => kk d9 H9 L9 _ _ rfl rfl hH9)
def fL_usesLeft (o1 : Nat) (p1 : Int32) (o2 : Nat) (v : vSt) (x : gX) : Int32 × vSt × gX := if (fX10_usesLeft o1 p1 v).1 = 0 then (let x4 : gX := xu x o2 (0 : Int32).toNatClampNeg (((fX10_usesLeft o1 p1 v).2 : Int32).toInt64); (0, v, x4)) else ((1, v, x))
def oL_usesLeft (o1 : Nat) (p1 : Int32) (o2 : Nat) (v : vSt) (x : gX) : Prop := (oX10_usesLeft o1 p1 v) ∧ (¬ ((fX10_usesLeft o1 p1 v).1 = 0) → ((fX10_usesLeft o1 p1 v).1 = 1))
abbrev rmL_usesLeft : Room := { frames := 8, cells := 6, slots := 6, locals := 132 }
theorem dL_usesLeft_0 : decode cL_usesLeft 0 = .ok (.aload_n 2, 1) := by decide +kernel
theorem dL_usesLeft_1 : decode cL_usesLeft 1 = .ok (.iconst 0, 1) := by decide +kernel
theorem dL_usesLeft_2 : decode cL_usesLeft 2 = .ok (.aload_n 0, 1) := by decide +kernel
theorem dL_usesLeft_3 : decode cL_usesLeft 3 = .ok (.iload_n 1, 1) := by decide +kernel
theorem dL_usesLeft_4 : decode cL_usesLeft 4 = .ok (.invokevirtual 76, 3) := by decide +kernel
theorem dL_usesLeft_7 : decode cL_usesLeft 7 = .ok (.i2l, 1) := by decide +kernel
theorem dL_usesLeft_8 : decode cL_usesLeft 8 = .ok (.lastore, 1) := by decide +kernel
theorem dL_usesLeft_9 : decode cL_usesLeft 9 = .ok (.goto 6, 3) := by decide +kernel
theorem dL_usesLeft_12 : decode cL_usesLeft 12 = .ok (.astore_n 3, 1) := by decide +kernel
theorem dL_usesLeft_13 : decode cL_usesLeft 13 = .ok (.iconst 1, 1) := by decide +kernel
theorem dL_usesLeft_14 : decode cL_usesLeft 14 = .ok (.ireturn, 1) := by decide +kernel
theorem dL_usesLeft_15 : decode cL_usesLeft 15 = .ok (.iconst 0, 1) := by decide +kernel
theorem dL_usesLeft_16 : decode cL_usesLeft 16 = .ok (.ireturn, 1) := by decide +kernel
set_option maxHeartbeats 8000000 in
set_option maxRecDepth 100000 in
theorem mL_usesLeft (l : Launch) (hst : l.stackTraces = false) (G : gG) (da : Nat → Nat) (v : vSt) (x : gX) (o1 : Nat) (hk_o1 : kd o1 = 10) (p1 : Int32) (o2 : Nat) (hk_o2 : kd o2 = 34) (ho : oL_usesLeft o1 p1 o2 v x) : LI l yL_usesLeft cL_usesLeft 4 [((0 : Nat), (9 : Nat), (12 : Nat), (13 : Nat))] rmL_usesLeft [.ref (ga G o1), .int p1, .ref (ga G o2)] G da v x 6 6 (fL_usesLeft o1 p1 o2 v x).1 (fL_usesLeft o1 p1 o2 v x).2.1 (fL_usesLeft o1 p1 o2 v x).2.2 := by
  refine gofL (by decide) rfl (Nat.le_of_ble_eq_true rfl) (fun p e s m args below meth c ls Q X hN htab hH hl E => ?_)
  have hx := X.1
  have hb := X.2.1
  have hown := X.2.2.2.1
  have hts := X.2.2.2.2.1
  have hS : va_S (gA G) s.heap s.heap [] := va_S.rf
  unfold oL_usesLeft at ho
  have hl : lv_has ls 4 [(0, .ref (ga G o1)), (1, .int p1), (2, .ref (ga G o2))] := hl
  refine lv_aload_n hx hb dL_usesLeft_0 rfl (lv_at hl 2 rfl) ?_
  refine lv_iconst (v := 0) hx hb dL_usesLeft_1 (by decide) ?_
  refine lv_aload_n hx hb dL_usesLeft_2 rfl (lv_at hl 0 rfl) ?_
  refine lv_iload_n hx hb dL_usesLeft_3 rfl (lv_at hl 1 rfl) ?_
  have hq1 := ho.1
  have ho := ho.2
  refine k_X10_usesLeft hst X hS hH hk_o1 hq1 t_ml_VernierDrawersLaw_76 hl.1 (Nat.le_of_ble_eq_true rfl) ⟨Nat.le_of_ble_eq_true rfl, Nat.le_of_ble_eq_true rfl⟩ ⟨(Nat.le_of_ble_eq_true rfl), (Nat.le_of_ble_eq_true rfl)⟩ dL_usesLeft_4 (fun c2 da ce9 q9 H locs hH hS g1 g2 g3 => ?_) (fun c2 da H locs hH hS => ?_)
  · have ho := ho c2
    have hq3 := ho
    refine t_c1 (k := 1) X htab rfl g1 g2 (hq3 ▸ g3) ?_
    refine lv_astore_n (lv' := [(3, .ref q9), (0, .ref (ga G o1)), (1, .int p1), (2, .ref (ga G o2))]) hx hb dL_usesLeft_12 rfl hl (by decide) rfl (fun ls hl => ?_)
    refine lv_iconst (v := 1) hx hb dL_usesLeft_13 (by decide) ?_
    exact E _ _ _ _ _ _ _ _ _ _ dL_usesLeft_14 (t31 ((fL_usesLeft.eq_1 _ _ _ _ _).trans ((if_neg c2).trans rfl))) (t32 ((fL_usesLeft.eq_1 _ _ _ _ _).trans ((if_neg c2).trans rfl))) (t33 ((fL_usesLeft.eq_1 _ _ _ _ _).trans ((if_neg c2).trans rfl))) hH hS (Nat.le_of_ble_eq_true rfl) (Nat.le_of_ble_eq_true rfl)
  · skip
    refine lv_i2l (v := ((fX10_usesLeft o1 p1 v).2 : Int32).toInt64) hx hb dL_usesLeft_7 rfl ?_
    refine last_34 X hH hS hk_o2 (i_in (by decide) (by decide)) dL_usesLeft_8 (fun H locs x4 ex4 hH hS => ?_)
    refine lv_goto (tgt := 15) hx hb dL_usesLeft_9 (by decide) ?_
    refine lv_iconst (v := 0) hx hb dL_usesLeft_15 (by decide) ?_
    replace ex4 := Eq.symm ex4
    subst ex4
    exact E _ _ _ _ _ _ _ _ _ _ dL_usesLeft_16 (t31 ((fL_usesLeft.eq_1 _ _ _ _ _).trans ((if_pos c2).trans rfl))) (t32 ((fL_usesLeft.eq_1 _ _ _ _ _).trans ((if_pos c2).trans rfl))) (t33 ((fL_usesLeft.eq_1 _ _ _ _ _).trans ((if_pos c2).trans rfl))) hH hS (Nat.le_of_ble_eq_true rfl) (Nat.le_of_ble_eq_true rfl)
theorem k_L_usesLeft {p : Program} {l : Launch} {e : Env} {R : Room} {s : State} {m : MethodId} {args : Array Value} {below : List Frame} {meth : Method} {c : Code} {H : Heap} {locs : List Loc} {cells slots : Nat} {Q : State → Prop} {cc : ByteArray} {pc nL : Nat} {ls : Array Slot} {rest : List Value} {G : gG} {own : String} {da : Nat → Nat} {v : vSt} {x : gX} (hst : l.stackTraces = false) (X : CX G p s m args c cc nL own) (hS : va_S (gA G) s.heap H locs) (hN : NC s) (hH : Hp G da v x H) {o1 : Nat} (hk_o1 : kd o1 = 10) {p1 : Int32} {o2 : Nat} (hk_o2 : kd o2 = 34) (ho : oL_usesLeft o1 p1 o2 v x) {idx : Nat} (hml : Cond.methodLink own idx yL_usesLeft ∈ TT) (hls : ls.size = nL) (hsum : (rest.map fun v => v.category).sum ≤ 8) (hR : rmL_usesLeft.frames + 1 ≤ R.frames ∧ 8 + (4 + 11) + rmL_usesLeft.locals ≤ R.locals) (hcs : cells + 6 ≤ R.cells ∧ slots + 6 ≤ R.slots) (hdg : decode cc pc = .ok (.invokestatic idx, 3)) (kk : ∀ (d : Nat → Nat) (H1 : Heap) (locs1 : List Loc) (v1 : vSt) (x1 : gX), v1 = (fL_usesLeft o1 p1 o2 v x).2.1 → x1 = (fL_usesLeft o1 p1 o2 v x).2.2 → Hp G d v1 x1 H1 → va_S (gA G) s.heap H1 locs1 → W p l e R s m args below meth c H1 locs1 (cells + 6) (slots + 6) Q (F0 m (pc + 3) ls (.int (fL_usesLeft o1 p1 o2 v x).1 :: rest))) : W p l e R s m args below meth c H locs cells slots Q (F0 m pc ls (.ref (ga G o2) :: .int p1 :: .ref (ga G o1) :: rest)) := c_li (runLS (kp := 3) X.1 X.2.1 X.2.2.1 X.2.2.2.1 X.2.2.2.2.1 (mL_usesLeft l hst G da v x o1 hk_o1 p1 o2 hk_o2 ho) pN_bl hml t_st_L_usesLeft t_ini_VernierDrawersLaw t_code_L_usesLeft ⟨by decide, by decide, by decide +kernel⟩ rfl rfl hR hcs (preN X hN hS hH) rfl hls rfl hsum hdg) hS (fun d9 H9 L9 hH9 => kk d9 H9 L9 _ _ rfl rfl hH9)
