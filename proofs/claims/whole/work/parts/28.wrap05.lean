/-! the law's wrappers -/
def fL_goodShare (o1 : Nat) (o2 : Nat) (v : vSt) (x : gX) : Int32 × vSt × gX := if (fX10_goodShare o1 v).1 = 0 then (let x5 : gX := xd x (0 : Int32).toNatClampNeg (FP.f2d ((fX10_goodShare o1 v).2)); (0, v, x5)) else ((1, v, x))
def oL_goodShare (o1 : Nat) (o2 : Nat) (v : vSt) (x : gX) : Prop := (oX10_goodShare o1 v) ∧ ((((fX10_goodShare o1 v).1 = 0) → (vf_n64 (FP.f2d ((fX10_goodShare o1 v).2)))) ∧ (¬ ((fX10_goodShare o1 v).1 = 0) → ((fX10_goodShare o1 v).1 = 3)))
abbrev rmL_goodShare : Room := { frames := 7, cells := 6, slots := 6, locals := 110 }
theorem dL_goodShare_0 : decode cL_goodShare 0 = .ok (.aload_n 1, 1) := by decide +kernel
theorem dL_goodShare_1 : decode cL_goodShare 1 = .ok (.iconst 0, 1) := by decide +kernel
theorem dL_goodShare_2 : decode cL_goodShare 2 = .ok (.aload_n 0, 1) := by decide +kernel
theorem dL_goodShare_3 : decode cL_goodShare 3 = .ok (.invokevirtual 172, 3) := by decide +kernel
theorem dL_goodShare_6 : decode cL_goodShare 6 = .ok (.f2d, 1) := by decide +kernel
theorem dL_goodShare_7 : decode cL_goodShare 7 = .ok (.dastore, 1) := by decide +kernel
theorem dL_goodShare_8 : decode cL_goodShare 8 = .ok (.goto 6, 3) := by decide +kernel
theorem dL_goodShare_11 : decode cL_goodShare 11 = .ok (.astore_n 2, 1) := by decide +kernel
theorem dL_goodShare_12 : decode cL_goodShare 12 = .ok (.iconst 1, 1) := by decide +kernel
theorem dL_goodShare_13 : decode cL_goodShare 13 = .ok (.ireturn, 1) := by decide +kernel
theorem dL_goodShare_14 : decode cL_goodShare 14 = .ok (.iconst 0, 1) := by decide +kernel
theorem dL_goodShare_15 : decode cL_goodShare 15 = .ok (.ireturn, 1) := by decide +kernel
set_option maxHeartbeats 8000000 in
set_option maxRecDepth 100000 in
theorem mL_goodShare (l : Launch) (hst : l.stackTraces = false) (G : gG) (da : Nat → Nat) (v : vSt) (x : gX) (o1 : Nat) (hk_o1 : kd o1 = 10) (o2 : Nat) (hk_o2 : kd o2 = 35) (ho : oL_goodShare o1 o2 v x) : LI l yL_goodShare cL_goodShare 3 [((0 : Nat), (8 : Nat), (11 : Nat), (85 : Nat))] rmL_goodShare [.ref (ga G o1), .ref (ga G o2)] G da v x 6 6 (fL_goodShare o1 o2 v x).1 (fL_goodShare o1 o2 v x).2.1 (fL_goodShare o1 o2 v x).2.2 := by
  refine gofL (by decide) rfl (Nat.le_of_ble_eq_true rfl) (fun p e s m args below meth c ls Q X hN htab hH hl E => ?_)
  have hx := X.1
  have hb := X.2.1
  have hown := X.2.2.2.1
  have hts := X.2.2.2.2.1
  have hS : va_S (gA G) s.heap s.heap [] := va_S.rf
  unfold oL_goodShare at ho
  have hl : lv_has ls 3 [(0, .ref (ga G o1)), (1, .ref (ga G o2))] := hl
  refine lv_aload_n hx hb dL_goodShare_0 rfl (lv_at hl 1 rfl) ?_
  refine lv_iconst (v := 0) hx hb dL_goodShare_1 (by decide) ?_
  refine lv_aload_n hx hb dL_goodShare_2 rfl (lv_at hl 0 rfl) ?_
  have hq1 := ho.1
  have ho := ho.2
  refine k_X10_goodShare hst X hS hH hk_o1 hq1 t_ml_VernierDrawersLaw_172 hl.1 (Nat.le_of_ble_eq_true rfl) ⟨Nat.le_of_ble_eq_true rfl, Nat.le_of_ble_eq_true rfl⟩ ⟨(Nat.le_of_ble_eq_true rfl), (Nat.le_of_ble_eq_true rfl)⟩ dL_goodShare_3 (fun c2 da ce9 q9 H locs hH hS g1 g2 g3 => ?_) (fun c2 da H locs hH hS => ?_)
  · have ho := ho.2 c2
    have hq3 := ho
    refine t_c1 (k := 3) X htab rfl g1 g2 (hq3 ▸ g3) ?_
    refine lv_astore_n (lv' := [(2, .ref q9), (0, .ref (ga G o1)), (1, .ref (ga G o2))]) hx hb dL_goodShare_11 rfl hl (by decide) rfl (fun ls hl => ?_)
    refine lv_iconst (v := 1) hx hb dL_goodShare_12 (by decide) ?_
    exact E _ _ _ _ _ _ _ _ _ _ dL_goodShare_13 (t31 ((fL_goodShare.eq_1 _ _ _ _).trans ((if_neg c2).trans rfl))) (t32 ((fL_goodShare.eq_1 _ _ _ _).trans ((if_neg c2).trans rfl))) (t33 ((fL_goodShare.eq_1 _ _ _ _).trans ((if_neg c2).trans rfl))) hH hS (Nat.le_of_ble_eq_true rfl) (Nat.le_of_ble_eq_true rfl)
  · have ho := ho.1 c2
    have hq4 := ho
    refine lv_f2d hx hb dL_goodShare_6 hq4 ?_
    refine dast_35 X hH hS hk_o2 (i_in (by decide) (by decide)) dL_goodShare_7 (fun H locs x5 ex5 hH hS => ?_)
    refine lv_goto (tgt := 14) hx hb dL_goodShare_8 (by decide) ?_
    refine lv_iconst (v := 0) hx hb dL_goodShare_14 (by decide) ?_
    replace ex5 := Eq.symm ex5
    subst ex5
    exact E _ _ _ _ _ _ _ _ _ _ dL_goodShare_15 (t31 ((fL_goodShare.eq_1 _ _ _ _).trans ((if_pos c2).trans rfl))) (t32 ((fL_goodShare.eq_1 _ _ _ _).trans ((if_pos c2).trans rfl))) (t33 ((fL_goodShare.eq_1 _ _ _ _).trans ((if_pos c2).trans rfl))) hH hS (Nat.le_of_ble_eq_true rfl) (Nat.le_of_ble_eq_true rfl)
theorem k_L_goodShare {p : Program} {l : Launch} {e : Env} {R : Room} {s : State} {m : MethodId} {args : Array Value} {below : List Frame} {meth : Method} {c : Code} {H : Heap} {locs : List Loc} {cells slots : Nat} {Q : State → Prop} {cc : ByteArray} {pc nL : Nat} {ls : Array Slot} {rest : List Value} {G : gG} {own : String} {da : Nat → Nat} {v : vSt} {x : gX} (hst : l.stackTraces = false) (X : CX G p s m args c cc nL own) (hS : va_S (gA G) s.heap H locs) (hN : NC s) (hH : Hp G da v x H) {o1 : Nat} (hk_o1 : kd o1 = 10) {o2 : Nat} (hk_o2 : kd o2 = 35) (ho : oL_goodShare o1 o2 v x) {idx : Nat} (hml : Cond.methodLink own idx yL_goodShare ∈ TT) (hls : ls.size = nL) (hsum : (rest.map fun v => v.category).sum ≤ 8) (hR : rmL_goodShare.frames + 1 ≤ R.frames ∧ 8 + (3 + 11) + rmL_goodShare.locals ≤ R.locals) (hcs : cells + 6 ≤ R.cells ∧ slots + 6 ≤ R.slots) (hdg : decode cc pc = .ok (.invokestatic idx, 3)) (kk : ∀ (d : Nat → Nat) (H1 : Heap) (locs1 : List Loc) (v1 : vSt) (x1 : gX), v1 = (fL_goodShare o1 o2 v x).2.1 → x1 = (fL_goodShare o1 o2 v x).2.2 → Hp G d v1 x1 H1 → va_S (gA G) s.heap H1 locs1 → W p l e R s m args below meth c H1 locs1 (cells + 6) (slots + 6) Q (F0 m (pc + 3) ls (.int (fL_goodShare o1 o2 v x).1 :: rest))) : W p l e R s m args below meth c H locs cells slots Q (F0 m pc ls (.ref (ga G o2) :: .ref (ga G o1) :: rest)) := c_li (runLS (kp := 2) X.1 X.2.1 X.2.2.1 X.2.2.2.1 X.2.2.2.2.1 (mL_goodShare l hst G da v x o1 hk_o1 o2 hk_o2 ho) pN_bl hml t_st_L_goodShare t_ini_VernierDrawersLaw t_code_L_goodShare ⟨by decide, by decide, by decide +kernel⟩ rfl rfl hR hcs (preN X hN hS hH) rfl hls rfl hsum hdg) hS (fun d9 H9 L9 hH9 => kk d9 H9 L9 _ _ rfl rfl hH9)
def fL_goBack (o1 : Nat) (o2 : Nat) (v : vSt) (x : gX) : Int32 × vSt × gX := if (fX10_goBack o1 v).1 = 0 then (let v4 : vSt := (fX10_goBack o1 v).2.2; let x6 : gX := xu x o2 (0 : Int32).toNatClampNeg (((fX10_goBack o1 v).2.1 : Int32).toInt64); (0, v4, x6)) else (let v4 : vSt := (fX10_goBack o1 v).2.2; (1, v4, x))

def kkL_goBack (o1 : Nat) (o2 : Nat) (v : vSt) (x : gX) : Nat := pot ((fL_goBack o1 o2 v x).2.1) - pot v + 36
def oL_goBack (o1 : Nat) (o2 : Nat) (v : vSt) (x : gX) : Prop := (oX10_goBack o1 v) ∧ ((0 + kkX10_goBack o1 v ≤ kkL_goBack o1 o2 v x) ∧ (¬ ((fX10_goBack o1 v).1 = 0) → (∀ v4 : vSt, v4 = ((fX10_goBack o1 v).2.2) → ((fX10_goBack o1 v).1 = 2))))
abbrev rmL_goBack (o1 : Nat) (o2 : Nat) (v : vSt) (x : gX) : Room := { frames := 8, cells := kkL_goBack o1 o2 v x, slots := kkL_goBack o1 o2 v x, locals := 216 }
theorem dL_goBack_0 : decode cL_goBack 0 = .ok (.aload_n 1, 1) := by decide +kernel
theorem dL_goBack_1 : decode cL_goBack 1 = .ok (.iconst 0, 1) := by decide +kernel
theorem dL_goBack_2 : decode cL_goBack 2 = .ok (.aload_n 0, 1) := by decide +kernel
theorem dL_goBack_3 : decode cL_goBack 3 = .ok (.invokevirtual 176, 3) := by decide +kernel
theorem dL_goBack_6 : decode cL_goBack 6 = .ok (.i2l, 1) := by decide +kernel
theorem dL_goBack_7 : decode cL_goBack 7 = .ok (.lastore, 1) := by decide +kernel
theorem dL_goBack_8 : decode cL_goBack 8 = .ok (.goto 6, 3) := by decide +kernel
theorem dL_goBack_11 : decode cL_goBack 11 = .ok (.astore_n 2, 1) := by decide +kernel
theorem dL_goBack_12 : decode cL_goBack 12 = .ok (.iconst 1, 1) := by decide +kernel
theorem dL_goBack_13 : decode cL_goBack 13 = .ok (.ireturn, 1) := by decide +kernel
theorem dL_goBack_14 : decode cL_goBack 14 = .ok (.iconst 0, 1) := by decide +kernel
theorem dL_goBack_15 : decode cL_goBack 15 = .ok (.ireturn, 1) := by decide +kernel
set_option maxHeartbeats 8000000 in
set_option maxRecDepth 100000 in
theorem mL_goBack (l : Launch) (hst : l.stackTraces = false) (G : gG) (da : Nat → Nat) (v : vSt) (x : gX) (o1 : Nat) (hk_o1 : kd o1 = 10) (o2 : Nat) (hk_o2 : kd o2 = 34) (ho : oL_goBack o1 o2 v x) : LI l yL_goBack cL_goBack 3 [((0 : Nat), (8 : Nat), (11 : Nat), (15 : Nat))] (rmL_goBack o1 o2 v x) [.ref (ga G o1), .ref (ga G o2)] G da v x (kkL_goBack o1 o2 v x) (kkL_goBack o1 o2 v x) (fL_goBack o1 o2 v x).1 (fL_goBack o1 o2 v x).2.1 (fL_goBack o1 o2 v x).2.2 := by
  refine gofL (by decide) rfl (Nat.le_of_ble_eq_true rfl) (fun p e s m args below meth c ls Q X hN htab hH hl E => ?_)
  have hx := X.1
  have hb := X.2.1
  have hown := X.2.2.2.1
  have hts := X.2.2.2.2.1
  have hS : va_S (gA G) s.heap s.heap [] := va_S.rf
  unfold oL_goBack at ho
  have hl : lv_has ls 3 [(0, .ref (ga G o1)), (1, .ref (ga G o2))] := hl
  refine lv_aload_n hx hb dL_goBack_0 rfl (lv_at hl 1 rfl) ?_
  refine lv_iconst (v := 0) hx hb dL_goBack_1 (by decide) ?_
  refine lv_aload_n hx hb dL_goBack_2 rfl (lv_at hl 0 rfl) ?_
  have hq1 := ho.1
  have ho := ho.2
  have hq2 := ho.1
  have ho := ho.2
  refine k_X10_goBack hst X hS hH hk_o1 hq1 t_ml_VernierDrawersLaw_176 hl.1 (Nat.le_of_ble_eq_true rfl) ⟨Nat.le_of_ble_eq_true rfl, Nat.le_of_ble_eq_true rfl⟩ ⟨hq2, hq2⟩ dL_goBack_3 (fun c3 da ce9 q9 H locs v4 ev4 hH hS g1 g2 g3 => ?_) (fun c3 da H locs v4 ev4 hH hS => ?_)
  · have ho := ho c3
    have ho := ho v4 ev4
    have hq5 := ho
    refine t_c1 (k := 2) X htab rfl g1 g2 (hq5 ▸ g3) ?_
    refine lv_astore_n (lv' := [(2, .ref q9), (0, .ref (ga G o1)), (1, .ref (ga G o2))]) hx hb dL_goBack_11 rfl hl (by decide) rfl (fun ls hl => ?_)
    refine lv_iconst (v := 1) hx hb dL_goBack_12 (by decide) ?_
    replace ev4 := Eq.symm ev4
    subst ev4
    exact E _ _ _ _ _ _ _ _ _ _ dL_goBack_13 (t31 ((fL_goBack.eq_1 _ _ _ _).trans ((if_neg c3).trans rfl))) (t32 ((fL_goBack.eq_1 _ _ _ _).trans ((if_neg c3).trans rfl))) (t33 ((fL_goBack.eq_1 _ _ _ _).trans ((if_neg c3).trans rfl))) hH hS hq2 hq2
  · skip
    refine lv_i2l (v := ((fX10_goBack o1 v).2.1 : Int32).toInt64) hx hb dL_goBack_6 rfl ?_
    refine last_34 X hH hS hk_o2 (i_in (by decide) (by decide)) dL_goBack_7 (fun H locs x6 ex6 hH hS => ?_)
    refine lv_goto (tgt := 14) hx hb dL_goBack_8 (by decide) ?_
    refine lv_iconst (v := 0) hx hb dL_goBack_14 (by decide) ?_
    replace ev4 := Eq.symm ev4
    replace ex6 := Eq.symm ex6
    subst ev4 ex6
    exact E _ _ _ _ _ _ _ _ _ _ dL_goBack_15 (t31 ((fL_goBack.eq_1 _ _ _ _).trans ((if_pos c3).trans rfl))) (t32 ((fL_goBack.eq_1 _ _ _ _).trans ((if_pos c3).trans rfl))) (t33 ((fL_goBack.eq_1 _ _ _ _).trans ((if_pos c3).trans rfl))) hH hS hq2 hq2
theorem k_L_goBack {p : Program} {l : Launch} {e : Env} {R : Room} {s : State} {m : MethodId} {args : Array Value} {below : List Frame} {meth : Method} {c : Code} {H : Heap} {locs : List Loc} {cells slots : Nat} {Q : State → Prop} {cc : ByteArray} {pc nL : Nat} {ls : Array Slot} {rest : List Value} {G : gG} {own : String} {da : Nat → Nat} {v : vSt} {x : gX} (hst : l.stackTraces = false) (X : CX G p s m args c cc nL own) (hS : va_S (gA G) s.heap H locs) (hN : NC s) (hH : Hp G da v x H) {o1 : Nat} (hk_o1 : kd o1 = 10) {o2 : Nat} (hk_o2 : kd o2 = 34) (ho : oL_goBack o1 o2 v x) {idx : Nat} (hml : Cond.methodLink own idx yL_goBack ∈ TT) (hls : ls.size = nL) (hsum : (rest.map fun v => v.category).sum ≤ 8) (hR : (rmL_goBack o1 o2 v x).frames + 1 ≤ R.frames ∧ 8 + (3 + 11) + (rmL_goBack o1 o2 v x).locals ≤ R.locals) (hcs : cells + (kkL_goBack o1 o2 v x) ≤ R.cells ∧ slots + (kkL_goBack o1 o2 v x) ≤ R.slots) (hdg : decode cc pc = .ok (.invokestatic idx, 3)) (kk : ∀ (d : Nat → Nat) (H1 : Heap) (locs1 : List Loc) (v1 : vSt) (x1 : gX), v1 = (fL_goBack o1 o2 v x).2.1 → x1 = (fL_goBack o1 o2 v x).2.2 → Hp G d v1 x1 H1 → va_S (gA G) s.heap H1 locs1 → W p l e R s m args below meth c H1 locs1 (cells + (kkL_goBack o1 o2 v x)) (slots + (kkL_goBack o1 o2 v x)) Q (F0 m (pc + 3) ls (.int (fL_goBack o1 o2 v x).1 :: rest))) : W p l e R s m args below meth c H locs cells slots Q (F0 m pc ls (.ref (ga G o2) :: .ref (ga G o1) :: rest)) := c_li (runLS (kp := 2) X.1 X.2.1 X.2.2.1 X.2.2.2.1 X.2.2.2.2.1 (mL_goBack l hst G da v x o1 hk_o1 o2 hk_o2 ho) pN_bl hml t_st_L_goBack t_ini_VernierDrawersLaw t_code_L_goBack ⟨by decide, by decide, by decide +kernel⟩ rfl rfl hR hcs (preN X hN hS hH) rfl hls rfl hsum hdg) hS (fun d9 H9 L9 hH9 => kk d9 H9 L9 _ _ rfl rfl hH9)
def fL_undo (o1 : Nat) (o2 : Nat) (v : vSt) (x : gX) : Int32 × vSt × gX := if (fX10_undo o1 v).1 = 0 then (let v4 : vSt := (fX10_undo o1 v).2.2; let x6 : gX := xu x o2 (0 : Int32).toNatClampNeg (((fX10_undo o1 v).2.1 : Int32).toInt64); (0, v4, x6)) else (let v4 : vSt := (fX10_undo o1 v).2.2; (1, v4, x))

def kkL_undo (o1 : Nat) (o2 : Nat) (v : vSt) (x : gX) : Nat := pot ((fL_undo o1 o2 v x).2.1) - pot v + 36
def oL_undo (o1 : Nat) (o2 : Nat) (v : vSt) (x : gX) : Prop := (oX10_undo o1 v) ∧ ((0 + kkX10_undo o1 v ≤ kkL_undo o1 o2 v x) ∧ (¬ ((fX10_undo o1 v).1 = 0) → (∀ v4 : vSt, v4 = ((fX10_undo o1 v).2.2) → ((fX10_undo o1 v).1 = 2))))
abbrev rmL_undo (o1 : Nat) (o2 : Nat) (v : vSt) (x : gX) : Room := { frames := 7, cells := kkL_undo o1 o2 v x, slots := kkL_undo o1 o2 v x, locals := 111 }
theorem dL_undo_0 : decode cL_undo 0 = .ok (.aload_n 1, 1) := by decide +kernel
theorem dL_undo_1 : decode cL_undo 1 = .ok (.iconst 0, 1) := by decide +kernel
theorem dL_undo_2 : decode cL_undo 2 = .ok (.aload_n 0, 1) := by decide +kernel
theorem dL_undo_3 : decode cL_undo 3 = .ok (.invokevirtual 179, 3) := by decide +kernel
theorem dL_undo_6 : decode cL_undo 6 = .ok (.i2l, 1) := by decide +kernel
theorem dL_undo_7 : decode cL_undo 7 = .ok (.lastore, 1) := by decide +kernel
theorem dL_undo_8 : decode cL_undo 8 = .ok (.goto 6, 3) := by decide +kernel
theorem dL_undo_11 : decode cL_undo 11 = .ok (.astore_n 2, 1) := by decide +kernel
theorem dL_undo_12 : decode cL_undo 12 = .ok (.iconst 1, 1) := by decide +kernel
theorem dL_undo_13 : decode cL_undo 13 = .ok (.ireturn, 1) := by decide +kernel
theorem dL_undo_14 : decode cL_undo 14 = .ok (.iconst 0, 1) := by decide +kernel
theorem dL_undo_15 : decode cL_undo 15 = .ok (.ireturn, 1) := by decide +kernel
set_option maxHeartbeats 8000000 in
set_option maxRecDepth 100000 in
theorem mL_undo (l : Launch) (hst : l.stackTraces = false) (G : gG) (da : Nat → Nat) (v : vSt) (x : gX) (o1 : Nat) (hk_o1 : kd o1 = 10) (o2 : Nat) (hk_o2 : kd o2 = 34) (ho : oL_undo o1 o2 v x) : LI l yL_undo cL_undo 3 [((0 : Nat), (8 : Nat), (11 : Nat), (15 : Nat))] (rmL_undo o1 o2 v x) [.ref (ga G o1), .ref (ga G o2)] G da v x (kkL_undo o1 o2 v x) (kkL_undo o1 o2 v x) (fL_undo o1 o2 v x).1 (fL_undo o1 o2 v x).2.1 (fL_undo o1 o2 v x).2.2 := by
  refine gofL (by decide) rfl (Nat.le_of_ble_eq_true rfl) (fun p e s m args below meth c ls Q X hN htab hH hl E => ?_)
  have hx := X.1
  have hb := X.2.1
  have hown := X.2.2.2.1
  have hts := X.2.2.2.2.1
  have hS : va_S (gA G) s.heap s.heap [] := va_S.rf
  unfold oL_undo at ho
  have hl : lv_has ls 3 [(0, .ref (ga G o1)), (1, .ref (ga G o2))] := hl
  refine lv_aload_n hx hb dL_undo_0 rfl (lv_at hl 1 rfl) ?_
  refine lv_iconst (v := 0) hx hb dL_undo_1 (by decide) ?_
  refine lv_aload_n hx hb dL_undo_2 rfl (lv_at hl 0 rfl) ?_
  have hq1 := ho.1
  have ho := ho.2
  have hq2 := ho.1
  have ho := ho.2
  refine k_X10_undo hst X hS hH hk_o1 hq1 t_ml_VernierDrawersLaw_179 hl.1 (Nat.le_of_ble_eq_true rfl) ⟨Nat.le_of_ble_eq_true rfl, Nat.le_of_ble_eq_true rfl⟩ ⟨hq2, hq2⟩ dL_undo_3 (fun c3 da ce9 q9 H locs v4 ev4 hH hS g1 g2 g3 => ?_) (fun c3 da H locs v4 ev4 hH hS => ?_)
  · have ho := ho c3
    have ho := ho v4 ev4
    have hq5 := ho
    refine t_c1 (k := 2) X htab rfl g1 g2 (hq5 ▸ g3) ?_
    refine lv_astore_n (lv' := [(2, .ref q9), (0, .ref (ga G o1)), (1, .ref (ga G o2))]) hx hb dL_undo_11 rfl hl (by decide) rfl (fun ls hl => ?_)
    refine lv_iconst (v := 1) hx hb dL_undo_12 (by decide) ?_
    replace ev4 := Eq.symm ev4
    subst ev4
    exact E _ _ _ _ _ _ _ _ _ _ dL_undo_13 (t31 ((fL_undo.eq_1 _ _ _ _).trans ((if_neg c3).trans rfl))) (t32 ((fL_undo.eq_1 _ _ _ _).trans ((if_neg c3).trans rfl))) (t33 ((fL_undo.eq_1 _ _ _ _).trans ((if_neg c3).trans rfl))) hH hS hq2 hq2
  · skip
    refine lv_i2l (v := ((fX10_undo o1 v).2.1 : Int32).toInt64) hx hb dL_undo_6 rfl ?_
    refine last_34 X hH hS hk_o2 (i_in (by decide) (by decide)) dL_undo_7 (fun H locs x6 ex6 hH hS => ?_)
    refine lv_goto (tgt := 14) hx hb dL_undo_8 (by decide) ?_
    refine lv_iconst (v := 0) hx hb dL_undo_14 (by decide) ?_
    replace ev4 := Eq.symm ev4
    replace ex6 := Eq.symm ex6
    subst ev4 ex6
    exact E _ _ _ _ _ _ _ _ _ _ dL_undo_15 (t31 ((fL_undo.eq_1 _ _ _ _).trans ((if_pos c3).trans rfl))) (t32 ((fL_undo.eq_1 _ _ _ _).trans ((if_pos c3).trans rfl))) (t33 ((fL_undo.eq_1 _ _ _ _).trans ((if_pos c3).trans rfl))) hH hS hq2 hq2
theorem k_L_undo {p : Program} {l : Launch} {e : Env} {R : Room} {s : State} {m : MethodId} {args : Array Value} {below : List Frame} {meth : Method} {c : Code} {H : Heap} {locs : List Loc} {cells slots : Nat} {Q : State → Prop} {cc : ByteArray} {pc nL : Nat} {ls : Array Slot} {rest : List Value} {G : gG} {own : String} {da : Nat → Nat} {v : vSt} {x : gX} (hst : l.stackTraces = false) (X : CX G p s m args c cc nL own) (hS : va_S (gA G) s.heap H locs) (hN : NC s) (hH : Hp G da v x H) {o1 : Nat} (hk_o1 : kd o1 = 10) {o2 : Nat} (hk_o2 : kd o2 = 34) (ho : oL_undo o1 o2 v x) {idx : Nat} (hml : Cond.methodLink own idx yL_undo ∈ TT) (hls : ls.size = nL) (hsum : (rest.map fun v => v.category).sum ≤ 8) (hR : (rmL_undo o1 o2 v x).frames + 1 ≤ R.frames ∧ 8 + (3 + 11) + (rmL_undo o1 o2 v x).locals ≤ R.locals) (hcs : cells + (kkL_undo o1 o2 v x) ≤ R.cells ∧ slots + (kkL_undo o1 o2 v x) ≤ R.slots) (hdg : decode cc pc = .ok (.invokestatic idx, 3)) (kk : ∀ (d : Nat → Nat) (H1 : Heap) (locs1 : List Loc) (v1 : vSt) (x1 : gX), v1 = (fL_undo o1 o2 v x).2.1 → x1 = (fL_undo o1 o2 v x).2.2 → Hp G d v1 x1 H1 → va_S (gA G) s.heap H1 locs1 → W p l e R s m args below meth c H1 locs1 (cells + (kkL_undo o1 o2 v x)) (slots + (kkL_undo o1 o2 v x)) Q (F0 m (pc + 3) ls (.int (fL_undo o1 o2 v x).1 :: rest))) : W p l e R s m args below meth c H locs cells slots Q (F0 m pc ls (.ref (ga G o2) :: .ref (ga G o1) :: rest)) := c_li (runLS (kp := 2) X.1 X.2.1 X.2.2.1 X.2.2.2.1 X.2.2.2.2.1 (mL_undo l hst G da v x o1 hk_o1 o2 hk_o2 ho) pN_bl hml t_st_L_undo t_ini_VernierDrawersLaw t_code_L_undo ⟨by decide, by decide, by decide +kernel⟩ rfl rfl hR hcs (preN X hN hS hH) rfl hls rfl hsum hdg) hS (fun d9 H9 L9 hH9 => kk d9 H9 L9 _ _ rfl rfl hH9)
def fL_type (o1 : Nat) (p1 : Int32) (o2 : Nat) (v : vSt) (x : gX) : Int32 × vSt × gX := if (fX10_type o1 p1 v).1 = 0 then (let v4 : vSt := (fX10_type o1 p1 v).2.2; let x7 : gX := xu x o2 (0 : Int32).toNatClampNeg (((fX10_type o1 p1 v).2.1 : Int32).toInt64); (0, v4, x7)) else (let v4 : vSt := (fX10_type o1 p1 v).2.2; if (fX10_type o1 p1 v).1 = 1 then ((1, v4, x)) else ((2, v4, x)))

def kkL_type (o1 : Nat) (p1 : Int32) (o2 : Nat) (v : vSt) (x : gX) : Nat := pot ((fL_type o1 p1 o2 v x).2.1) - pot v + 36
def oL_type (o1 : Nat) (p1 : Int32) (o2 : Nat) (v : vSt) (x : gX) : Prop := (oX10_type o1 p1 v) ∧ ((0 + kkX10_type o1 p1 v ≤ kkL_type o1 p1 o2 v x) ∧ (¬ ((fX10_type o1 p1 v).1 = 0) → (∀ v4 : vSt, v4 = ((fX10_type o1 p1 v).2.2) → (¬ ((fX10_type o1 p1 v).1 = 1) → ((fX10_type o1 p1 v).1 = 2)))))
abbrev rmL_type (o1 : Nat) (p1 : Int32) (o2 : Nat) (v : vSt) (x : gX) : Room := { frames := 7, cells := kkL_type o1 p1 o2 v x, slots := kkL_type o1 p1 o2 v x, locals := 111 }
theorem dL_type_0 : decode cL_type 0 = .ok (.aload_n 2, 1) := by decide +kernel
theorem dL_type_1 : decode cL_type 1 = .ok (.iconst 0, 1) := by decide +kernel
theorem dL_type_2 : decode cL_type 2 = .ok (.aload_n 0, 1) := by decide +kernel
theorem dL_type_3 : decode cL_type 3 = .ok (.iload_n 1, 1) := by decide +kernel
theorem dL_type_4 : decode cL_type 4 = .ok (.invokevirtual 182, 3) := by decide +kernel
theorem dL_type_7 : decode cL_type 7 = .ok (.i2l, 1) := by decide +kernel
theorem dL_type_8 : decode cL_type 8 = .ok (.lastore, 1) := by decide +kernel
theorem dL_type_9 : decode cL_type 9 = .ok (.goto 9, 3) := by decide +kernel
theorem dL_type_12 : decode cL_type 12 = .ok (.astore_n 3, 1) := by decide +kernel
theorem dL_type_13 : decode cL_type 13 = .ok (.iconst 1, 1) := by decide +kernel
theorem dL_type_14 : decode cL_type 14 = .ok (.ireturn, 1) := by decide +kernel
theorem dL_type_15 : decode cL_type 15 = .ok (.astore_n 3, 1) := by decide +kernel
theorem dL_type_16 : decode cL_type 16 = .ok (.iconst 2, 1) := by decide +kernel
theorem dL_type_17 : decode cL_type 17 = .ok (.ireturn, 1) := by decide +kernel
theorem dL_type_18 : decode cL_type 18 = .ok (.iconst 0, 1) := by decide +kernel
theorem dL_type_19 : decode cL_type 19 = .ok (.ireturn, 1) := by decide +kernel
set_option maxHeartbeats 8000000 in
set_option maxRecDepth 100000 in
theorem mL_type (l : Launch) (hst : l.stackTraces = false) (G : gG) (da : Nat → Nat) (v : vSt) (x : gX) (o1 : Nat) (hk_o1 : kd o1 = 10) (p1 : Int32) (o2 : Nat) (hk_o2 : kd o2 = 34) (ho : oL_type o1 p1 o2 v x) : LI l yL_type cL_type 4 [((0 : Nat), (9 : Nat), (12 : Nat), (13 : Nat)), ((0 : Nat), (9 : Nat), (15 : Nat), (15 : Nat))] (rmL_type o1 p1 o2 v x) [.ref (ga G o1), .int p1, .ref (ga G o2)] G da v x (kkL_type o1 p1 o2 v x) (kkL_type o1 p1 o2 v x) (fL_type o1 p1 o2 v x).1 (fL_type o1 p1 o2 v x).2.1 (fL_type o1 p1 o2 v x).2.2 := by
  refine gofL (by decide) rfl (Nat.le_of_ble_eq_true rfl) (fun p e s m args below meth c ls Q X hN htab hH hl E => ?_)
  have hx := X.1
  have hb := X.2.1
  have hown := X.2.2.2.1
  have hts := X.2.2.2.2.1
  have hS : va_S (gA G) s.heap s.heap [] := va_S.rf
  unfold oL_type at ho
  have hl : lv_has ls 4 [(0, .ref (ga G o1)), (1, .int p1), (2, .ref (ga G o2))] := hl
  refine lv_aload_n hx hb dL_type_0 rfl (lv_at hl 2 rfl) ?_
  refine lv_iconst (v := 0) hx hb dL_type_1 (by decide) ?_
  refine lv_aload_n hx hb dL_type_2 rfl (lv_at hl 0 rfl) ?_
  refine lv_iload_n hx hb dL_type_3 rfl (lv_at hl 1 rfl) ?_
  have hq1 := ho.1
  have ho := ho.2
  have hq2 := ho.1
  have ho := ho.2
  refine k_X10_type hst X hS hH hk_o1 hq1 t_ml_VernierDrawersLaw_182 hl.1 (Nat.le_of_ble_eq_true rfl) ⟨Nat.le_of_ble_eq_true rfl, Nat.le_of_ble_eq_true rfl⟩ ⟨hq2, hq2⟩ dL_type_4 (fun c3 da ce9 q9 H locs v4 ev4 hH hS g1 g2 g3 => ?_) (fun c3 da H locs v4 ev4 hH hS => ?_)
  · have ho := ho c3
    have ho := ho v4 ev4
    refine (Decidable.em ((fX10_type o1 p1 v).1 = 1)).elim (fun c5 => ?_) (fun c5 => ?_)
    · skip
      refine t_c1 (k := 1) X htab rfl g1 g2 (c5 ▸ g3) ?_
      refine lv_astore_n (lv' := [(3, .ref q9), (0, .ref (ga G o1)), (1, .int p1), (2, .ref (ga G o2))]) hx hb dL_type_12 rfl hl (by decide) rfl (fun ls hl => ?_)
      refine lv_iconst (v := 1) hx hb dL_type_13 (by decide) ?_
      replace ev4 := Eq.symm ev4
      subst ev4
      exact E _ _ _ _ _ _ _ _ _ _ dL_type_14 (t31 ((fL_type.eq_1 _ _ _ _ _).trans ((if_neg c3).trans ((if_pos c5).trans rfl)))) (t32 ((fL_type.eq_1 _ _ _ _ _).trans ((if_neg c3).trans ((if_pos c5).trans rfl)))) (t33 ((fL_type.eq_1 _ _ _ _ _).trans ((if_neg c3).trans ((if_pos c5).trans rfl)))) hH hS hq2 hq2
    · have ho := ho c5
      have hq6 := ho
      refine t_c2 (k := 2) X hN htab (by decide) rfl g1 g2 (hq6 ▸ g3) ?_
      refine lv_astore_n (lv' := [(3, .ref q9), (0, .ref (ga G o1)), (1, .int p1), (2, .ref (ga G o2))]) hx hb dL_type_15 rfl hl (by decide) rfl (fun ls hl => ?_)
      refine lv_iconst (v := 2) hx hb dL_type_16 (by decide) ?_
      replace ev4 := Eq.symm ev4
      subst ev4
      exact E _ _ _ _ _ _ _ _ _ _ dL_type_17 (t31 ((fL_type.eq_1 _ _ _ _ _).trans ((if_neg c3).trans ((if_neg c5).trans rfl)))) (t32 ((fL_type.eq_1 _ _ _ _ _).trans ((if_neg c3).trans ((if_neg c5).trans rfl)))) (t33 ((fL_type.eq_1 _ _ _ _ _).trans ((if_neg c3).trans ((if_neg c5).trans rfl)))) hH hS hq2 hq2
  · skip
    refine lv_i2l (v := ((fX10_type o1 p1 v).2.1 : Int32).toInt64) hx hb dL_type_7 rfl ?_
    refine last_34 X hH hS hk_o2 (i_in (by decide) (by decide)) dL_type_8 (fun H locs x7 ex7 hH hS => ?_)
    refine lv_goto (tgt := 18) hx hb dL_type_9 (by decide) ?_
    refine lv_iconst (v := 0) hx hb dL_type_18 (by decide) ?_
    replace ev4 := Eq.symm ev4
    replace ex7 := Eq.symm ex7
    subst ev4 ex7
    exact E _ _ _ _ _ _ _ _ _ _ dL_type_19 (t31 ((fL_type.eq_1 _ _ _ _ _).trans ((if_pos c3).trans rfl))) (t32 ((fL_type.eq_1 _ _ _ _ _).trans ((if_pos c3).trans rfl))) (t33 ((fL_type.eq_1 _ _ _ _ _).trans ((if_pos c3).trans rfl))) hH hS hq2 hq2
theorem k_L_type {p : Program} {l : Launch} {e : Env} {R : Room} {s : State} {m : MethodId} {args : Array Value} {below : List Frame} {meth : Method} {c : Code} {H : Heap} {locs : List Loc} {cells slots : Nat} {Q : State → Prop} {cc : ByteArray} {pc nL : Nat} {ls : Array Slot} {rest : List Value} {G : gG} {own : String} {da : Nat → Nat} {v : vSt} {x : gX} (hst : l.stackTraces = false) (X : CX G p s m args c cc nL own) (hS : va_S (gA G) s.heap H locs) (hN : NC s) (hH : Hp G da v x H) {o1 : Nat} (hk_o1 : kd o1 = 10) {p1 : Int32} {o2 : Nat} (hk_o2 : kd o2 = 34) (ho : oL_type o1 p1 o2 v x) {idx : Nat} (hml : Cond.methodLink own idx yL_type ∈ TT) (hls : ls.size = nL) (hsum : (rest.map fun v => v.category).sum ≤ 8) (hR : (rmL_type o1 p1 o2 v x).frames + 1 ≤ R.frames ∧ 8 + (4 + 11) + (rmL_type o1 p1 o2 v x).locals ≤ R.locals) (hcs : cells + (kkL_type o1 p1 o2 v x) ≤ R.cells ∧ slots + (kkL_type o1 p1 o2 v x) ≤ R.slots) (hdg : decode cc pc = .ok (.invokestatic idx, 3)) (kk : ∀ (d : Nat → Nat) (H1 : Heap) (locs1 : List Loc) (v1 : vSt) (x1 : gX), v1 = (fL_type o1 p1 o2 v x).2.1 → x1 = (fL_type o1 p1 o2 v x).2.2 → Hp G d v1 x1 H1 → va_S (gA G) s.heap H1 locs1 → W p l e R s m args below meth c H1 locs1 (cells + (kkL_type o1 p1 o2 v x)) (slots + (kkL_type o1 p1 o2 v x)) Q (F0 m (pc + 3) ls (.int (fL_type o1 p1 o2 v x).1 :: rest))) : W p l e R s m args below meth c H locs cells slots Q (F0 m pc ls (.ref (ga G o2) :: .int p1 :: .ref (ga G o1) :: rest)) := c_li (runLS (kp := 3) X.1 X.2.1 X.2.2.1 X.2.2.2.1 X.2.2.2.2.1 (mL_type l hst G da v x o1 hk_o1 p1 o2 hk_o2 ho) pN_bl hml t_st_L_type t_ini_VernierDrawersLaw t_code_L_type ⟨by decide, by decide, by decide +kernel⟩ rfl rfl hR hcs (preN X hN hS hH) rfl hls rfl hsum hdg) hS (fun d9 H9 L9 hH9 => kk d9 H9 L9 _ _ rfl rfl hH9)
def fL_faultPosition (o1 : Nat) (o2 : Nat) (v : vSt) (x : gX) : Int32 × vSt × gX := if (fX10_faultPosition o1 v).1 = 0 then (let v4 : vSt := (fX10_faultPosition o1 v).2.2; let x6 : gX := xu x o2 (0 : Int32).toNatClampNeg (((fX10_faultPosition o1 v).2.1 : Int32).toInt64); (0, v4, x6)) else (let v4 : vSt := (fX10_faultPosition o1 v).2.2; (1, v4, x))

def kkL_faultPosition (o1 : Nat) (o2 : Nat) (v : vSt) (x : gX) : Nat := pot ((fL_faultPosition o1 o2 v x).2.1) - pot v + 36
def oL_faultPosition (o1 : Nat) (o2 : Nat) (v : vSt) (x : gX) : Prop := (oX10_faultPosition o1 v) ∧ ((0 + kkX10_faultPosition o1 v ≤ kkL_faultPosition o1 o2 v x) ∧ (¬ ((fX10_faultPosition o1 v).1 = 0) → (∀ v4 : vSt, v4 = ((fX10_faultPosition o1 v).2.2) → ((fX10_faultPosition o1 v).1 = 3))))
abbrev rmL_faultPosition (o1 : Nat) (o2 : Nat) (v : vSt) (x : gX) : Room := { frames := 9, cells := kkL_faultPosition o1 o2 v x, slots := kkL_faultPosition o1 o2 v x, locals := 251 }
theorem dL_faultPosition_0 : decode cL_faultPosition 0 = .ok (.aload_n 1, 1) := by decide +kernel
theorem dL_faultPosition_1 : decode cL_faultPosition 1 = .ok (.iconst 0, 1) := by decide +kernel
theorem dL_faultPosition_2 : decode cL_faultPosition 2 = .ok (.aload_n 0, 1) := by decide +kernel
theorem dL_faultPosition_3 : decode cL_faultPosition 3 = .ok (.invokevirtual 185, 3) := by decide +kernel
theorem dL_faultPosition_6 : decode cL_faultPosition 6 = .ok (.i2l, 1) := by decide +kernel
theorem dL_faultPosition_7 : decode cL_faultPosition 7 = .ok (.lastore, 1) := by decide +kernel
theorem dL_faultPosition_8 : decode cL_faultPosition 8 = .ok (.goto 6, 3) := by decide +kernel
theorem dL_faultPosition_11 : decode cL_faultPosition 11 = .ok (.astore_n 2, 1) := by decide +kernel
theorem dL_faultPosition_12 : decode cL_faultPosition 12 = .ok (.iconst 1, 1) := by decide +kernel
theorem dL_faultPosition_13 : decode cL_faultPosition 13 = .ok (.ireturn, 1) := by decide +kernel
theorem dL_faultPosition_14 : decode cL_faultPosition 14 = .ok (.iconst 0, 1) := by decide +kernel
theorem dL_faultPosition_15 : decode cL_faultPosition 15 = .ok (.ireturn, 1) := by decide +kernel
set_option maxHeartbeats 8000000 in
set_option maxRecDepth 100000 in
theorem mL_faultPosition (l : Launch) (hst : l.stackTraces = false) (G : gG) (da : Nat → Nat) (v : vSt) (x : gX) (o1 : Nat) (hk_o1 : kd o1 = 10) (o2 : Nat) (hk_o2 : kd o2 = 34) (ho : oL_faultPosition o1 o2 v x) : LI l yL_faultPosition cL_faultPosition 3 [((0 : Nat), (8 : Nat), (11 : Nat), (85 : Nat))] (rmL_faultPosition o1 o2 v x) [.ref (ga G o1), .ref (ga G o2)] G da v x (kkL_faultPosition o1 o2 v x) (kkL_faultPosition o1 o2 v x) (fL_faultPosition o1 o2 v x).1 (fL_faultPosition o1 o2 v x).2.1 (fL_faultPosition o1 o2 v x).2.2 := by
  refine gofL (by decide) rfl (Nat.le_of_ble_eq_true rfl) (fun p e s m args below meth c ls Q X hN htab hH hl E => ?_)
  have hx := X.1
  have hb := X.2.1
  have hown := X.2.2.2.1
  have hts := X.2.2.2.2.1
  have hS : va_S (gA G) s.heap s.heap [] := va_S.rf
  unfold oL_faultPosition at ho
  have hl : lv_has ls 3 [(0, .ref (ga G o1)), (1, .ref (ga G o2))] := hl
  refine lv_aload_n hx hb dL_faultPosition_0 rfl (lv_at hl 1 rfl) ?_
  refine lv_iconst (v := 0) hx hb dL_faultPosition_1 (by decide) ?_
  refine lv_aload_n hx hb dL_faultPosition_2 rfl (lv_at hl 0 rfl) ?_
  have hq1 := ho.1
  have ho := ho.2
  have hq2 := ho.1
  have ho := ho.2
  refine k_X10_faultPosition hst X hS hH hk_o1 hq1 t_ml_VernierDrawersLaw_185 hl.1 (Nat.le_of_ble_eq_true rfl) ⟨Nat.le_of_ble_eq_true rfl, Nat.le_of_ble_eq_true rfl⟩ ⟨hq2, hq2⟩ dL_faultPosition_3 (fun c3 da ce9 q9 H locs v4 ev4 hH hS g1 g2 g3 => ?_) (fun c3 da H locs v4 ev4 hH hS => ?_)
  · have ho := ho c3
    have ho := ho v4 ev4
    have hq5 := ho
    refine t_c1 (k := 3) X htab rfl g1 g2 (hq5 ▸ g3) ?_
    refine lv_astore_n (lv' := [(2, .ref q9), (0, .ref (ga G o1)), (1, .ref (ga G o2))]) hx hb dL_faultPosition_11 rfl hl (by decide) rfl (fun ls hl => ?_)
    refine lv_iconst (v := 1) hx hb dL_faultPosition_12 (by decide) ?_
    replace ev4 := Eq.symm ev4
    subst ev4
    exact E _ _ _ _ _ _ _ _ _ _ dL_faultPosition_13 (t31 ((fL_faultPosition.eq_1 _ _ _ _).trans ((if_neg c3).trans rfl))) (t32 ((fL_faultPosition.eq_1 _ _ _ _).trans ((if_neg c3).trans rfl))) (t33 ((fL_faultPosition.eq_1 _ _ _ _).trans ((if_neg c3).trans rfl))) hH hS hq2 hq2
  · skip
    refine lv_i2l (v := ((fX10_faultPosition o1 v).2.1 : Int32).toInt64) hx hb dL_faultPosition_6 rfl ?_
    refine last_34 X hH hS hk_o2 (i_in (by decide) (by decide)) dL_faultPosition_7 (fun H locs x6 ex6 hH hS => ?_)
    refine lv_goto (tgt := 14) hx hb dL_faultPosition_8 (by decide) ?_
    refine lv_iconst (v := 0) hx hb dL_faultPosition_14 (by decide) ?_
    replace ev4 := Eq.symm ev4
    replace ex6 := Eq.symm ex6
    subst ev4 ex6
    exact E _ _ _ _ _ _ _ _ _ _ dL_faultPosition_15 (t31 ((fL_faultPosition.eq_1 _ _ _ _).trans ((if_pos c3).trans rfl))) (t32 ((fL_faultPosition.eq_1 _ _ _ _).trans ((if_pos c3).trans rfl))) (t33 ((fL_faultPosition.eq_1 _ _ _ _).trans ((if_pos c3).trans rfl))) hH hS hq2 hq2
theorem k_L_faultPosition {p : Program} {l : Launch} {e : Env} {R : Room} {s : State} {m : MethodId} {args : Array Value} {below : List Frame} {meth : Method} {c : Code} {H : Heap} {locs : List Loc} {cells slots : Nat} {Q : State → Prop} {cc : ByteArray} {pc nL : Nat} {ls : Array Slot} {rest : List Value} {G : gG} {own : String} {da : Nat → Nat} {v : vSt} {x : gX} (hst : l.stackTraces = false) (X : CX G p s m args c cc nL own) (hS : va_S (gA G) s.heap H locs) (hN : NC s) (hH : Hp G da v x H) {o1 : Nat} (hk_o1 : kd o1 = 10) {o2 : Nat} (hk_o2 : kd o2 = 34) (ho : oL_faultPosition o1 o2 v x) {idx : Nat} (hml : Cond.methodLink own idx yL_faultPosition ∈ TT) (hls : ls.size = nL) (hsum : (rest.map fun v => v.category).sum ≤ 8) (hR : (rmL_faultPosition o1 o2 v x).frames + 1 ≤ R.frames ∧ 8 + (3 + 11) + (rmL_faultPosition o1 o2 v x).locals ≤ R.locals) (hcs : cells + (kkL_faultPosition o1 o2 v x) ≤ R.cells ∧ slots + (kkL_faultPosition o1 o2 v x) ≤ R.slots) (hdg : decode cc pc = .ok (.invokestatic idx, 3)) (kk : ∀ (d : Nat → Nat) (H1 : Heap) (locs1 : List Loc) (v1 : vSt) (x1 : gX), v1 = (fL_faultPosition o1 o2 v x).2.1 → x1 = (fL_faultPosition o1 o2 v x).2.2 → Hp G d v1 x1 H1 → va_S (gA G) s.heap H1 locs1 → W p l e R s m args below meth c H1 locs1 (cells + (kkL_faultPosition o1 o2 v x)) (slots + (kkL_faultPosition o1 o2 v x)) Q (F0 m (pc + 3) ls (.int (fL_faultPosition o1 o2 v x).1 :: rest))) : W p l e R s m args below meth c H locs cells slots Q (F0 m pc ls (.ref (ga G o2) :: .ref (ga G o1) :: rest)) := c_li (runLS (kp := 2) X.1 X.2.1 X.2.2.1 X.2.2.2.1 X.2.2.2.2.1 (mL_faultPosition l hst G da v x o1 hk_o1 o2 hk_o2 ho) pN_bl hml t_st_L_faultPosition t_ini_VernierDrawersLaw t_code_L_faultPosition ⟨by decide, by decide, by decide +kernel⟩ rfl rfl hR hcs (preN X hN hS hH) rfl hls rfl hsum hdg) hS (fun d9 H9 L9 hH9 => kk d9 H9 L9 _ _ rfl rfl hH9)
def fL_faultReason (o1 : Nat) (o2 : Nat) (v : vSt) (x : gX) : Int32 × vSt × gX := if (fX10_faultReason o1 v).1 = 0 then (let v4 : vSt := (fX10_faultReason o1 v).2.2; let x6 : gX := xu x o2 (0 : Int32).toNatClampNeg (((fX10_faultReason o1 v).2.1 : Int32).toInt64); (0, v4, x6)) else (let v4 : vSt := (fX10_faultReason o1 v).2.2; (1, v4, x))

def kkL_faultReason (o1 : Nat) (o2 : Nat) (v : vSt) (x : gX) : Nat := pot ((fL_faultReason o1 o2 v x).2.1) - pot v + 36
def oL_faultReason (o1 : Nat) (o2 : Nat) (v : vSt) (x : gX) : Prop := (oX10_faultReason o1 v) ∧ ((0 + kkX10_faultReason o1 v ≤ kkL_faultReason o1 o2 v x) ∧ (¬ ((fX10_faultReason o1 v).1 = 0) → (∀ v4 : vSt, v4 = ((fX10_faultReason o1 v).2.2) → ((fX10_faultReason o1 v).1 = 3))))
abbrev rmL_faultReason (o1 : Nat) (o2 : Nat) (v : vSt) (x : gX) : Room := { frames := 9, cells := kkL_faultReason o1 o2 v x, slots := kkL_faultReason o1 o2 v x, locals := 251 }
theorem dL_faultReason_0 : decode cL_faultReason 0 = .ok (.aload_n 1, 1) := by decide +kernel
theorem dL_faultReason_1 : decode cL_faultReason 1 = .ok (.iconst 0, 1) := by decide +kernel
theorem dL_faultReason_2 : decode cL_faultReason 2 = .ok (.aload_n 0, 1) := by decide +kernel
theorem dL_faultReason_3 : decode cL_faultReason 3 = .ok (.invokevirtual 188, 3) := by decide +kernel
theorem dL_faultReason_6 : decode cL_faultReason 6 = .ok (.i2l, 1) := by decide +kernel
theorem dL_faultReason_7 : decode cL_faultReason 7 = .ok (.lastore, 1) := by decide +kernel
theorem dL_faultReason_8 : decode cL_faultReason 8 = .ok (.goto 6, 3) := by decide +kernel
theorem dL_faultReason_11 : decode cL_faultReason 11 = .ok (.astore_n 2, 1) := by decide +kernel
theorem dL_faultReason_12 : decode cL_faultReason 12 = .ok (.iconst 1, 1) := by decide +kernel
theorem dL_faultReason_13 : decode cL_faultReason 13 = .ok (.ireturn, 1) := by decide +kernel
theorem dL_faultReason_14 : decode cL_faultReason 14 = .ok (.iconst 0, 1) := by decide +kernel
theorem dL_faultReason_15 : decode cL_faultReason 15 = .ok (.ireturn, 1) := by decide +kernel
set_option maxHeartbeats 8000000 in
set_option maxRecDepth 100000 in
theorem mL_faultReason (l : Launch) (hst : l.stackTraces = false) (G : gG) (da : Nat → Nat) (v : vSt) (x : gX) (o1 : Nat) (hk_o1 : kd o1 = 10) (o2 : Nat) (hk_o2 : kd o2 = 34) (ho : oL_faultReason o1 o2 v x) : LI l yL_faultReason cL_faultReason 3 [((0 : Nat), (8 : Nat), (11 : Nat), (85 : Nat))] (rmL_faultReason o1 o2 v x) [.ref (ga G o1), .ref (ga G o2)] G da v x (kkL_faultReason o1 o2 v x) (kkL_faultReason o1 o2 v x) (fL_faultReason o1 o2 v x).1 (fL_faultReason o1 o2 v x).2.1 (fL_faultReason o1 o2 v x).2.2 := by
  refine gofL (by decide) rfl (Nat.le_of_ble_eq_true rfl) (fun p e s m args below meth c ls Q X hN htab hH hl E => ?_)
  have hx := X.1
  have hb := X.2.1
  have hown := X.2.2.2.1
  have hts := X.2.2.2.2.1
  have hS : va_S (gA G) s.heap s.heap [] := va_S.rf
  unfold oL_faultReason at ho
  have hl : lv_has ls 3 [(0, .ref (ga G o1)), (1, .ref (ga G o2))] := hl
  refine lv_aload_n hx hb dL_faultReason_0 rfl (lv_at hl 1 rfl) ?_
  refine lv_iconst (v := 0) hx hb dL_faultReason_1 (by decide) ?_
  refine lv_aload_n hx hb dL_faultReason_2 rfl (lv_at hl 0 rfl) ?_
  have hq1 := ho.1
  have ho := ho.2
  have hq2 := ho.1
  have ho := ho.2
  refine k_X10_faultReason hst X hS hH hk_o1 hq1 t_ml_VernierDrawersLaw_188 hl.1 (Nat.le_of_ble_eq_true rfl) ⟨Nat.le_of_ble_eq_true rfl, Nat.le_of_ble_eq_true rfl⟩ ⟨hq2, hq2⟩ dL_faultReason_3 (fun c3 da ce9 q9 H locs v4 ev4 hH hS g1 g2 g3 => ?_) (fun c3 da H locs v4 ev4 hH hS => ?_)
  · have ho := ho c3
    have ho := ho v4 ev4
    have hq5 := ho
    refine t_c1 (k := 3) X htab rfl g1 g2 (hq5 ▸ g3) ?_
    refine lv_astore_n (lv' := [(2, .ref q9), (0, .ref (ga G o1)), (1, .ref (ga G o2))]) hx hb dL_faultReason_11 rfl hl (by decide) rfl (fun ls hl => ?_)
    refine lv_iconst (v := 1) hx hb dL_faultReason_12 (by decide) ?_
    replace ev4 := Eq.symm ev4
    subst ev4
    exact E _ _ _ _ _ _ _ _ _ _ dL_faultReason_13 (t31 ((fL_faultReason.eq_1 _ _ _ _).trans ((if_neg c3).trans rfl))) (t32 ((fL_faultReason.eq_1 _ _ _ _).trans ((if_neg c3).trans rfl))) (t33 ((fL_faultReason.eq_1 _ _ _ _).trans ((if_neg c3).trans rfl))) hH hS hq2 hq2
  · skip
    refine lv_i2l (v := ((fX10_faultReason o1 v).2.1 : Int32).toInt64) hx hb dL_faultReason_6 rfl ?_
    refine last_34 X hH hS hk_o2 (i_in (by decide) (by decide)) dL_faultReason_7 (fun H locs x6 ex6 hH hS => ?_)
    refine lv_goto (tgt := 14) hx hb dL_faultReason_8 (by decide) ?_
    refine lv_iconst (v := 0) hx hb dL_faultReason_14 (by decide) ?_
    replace ev4 := Eq.symm ev4
    replace ex6 := Eq.symm ex6
    subst ev4 ex6
    exact E _ _ _ _ _ _ _ _ _ _ dL_faultReason_15 (t31 ((fL_faultReason.eq_1 _ _ _ _).trans ((if_pos c3).trans rfl))) (t32 ((fL_faultReason.eq_1 _ _ _ _).trans ((if_pos c3).trans rfl))) (t33 ((fL_faultReason.eq_1 _ _ _ _).trans ((if_pos c3).trans rfl))) hH hS hq2 hq2
theorem k_L_faultReason {p : Program} {l : Launch} {e : Env} {R : Room} {s : State} {m : MethodId} {args : Array Value} {below : List Frame} {meth : Method} {c : Code} {H : Heap} {locs : List Loc} {cells slots : Nat} {Q : State → Prop} {cc : ByteArray} {pc nL : Nat} {ls : Array Slot} {rest : List Value} {G : gG} {own : String} {da : Nat → Nat} {v : vSt} {x : gX} (hst : l.stackTraces = false) (X : CX G p s m args c cc nL own) (hS : va_S (gA G) s.heap H locs) (hN : NC s) (hH : Hp G da v x H) {o1 : Nat} (hk_o1 : kd o1 = 10) {o2 : Nat} (hk_o2 : kd o2 = 34) (ho : oL_faultReason o1 o2 v x) {idx : Nat} (hml : Cond.methodLink own idx yL_faultReason ∈ TT) (hls : ls.size = nL) (hsum : (rest.map fun v => v.category).sum ≤ 8) (hR : (rmL_faultReason o1 o2 v x).frames + 1 ≤ R.frames ∧ 8 + (3 + 11) + (rmL_faultReason o1 o2 v x).locals ≤ R.locals) (hcs : cells + (kkL_faultReason o1 o2 v x) ≤ R.cells ∧ slots + (kkL_faultReason o1 o2 v x) ≤ R.slots) (hdg : decode cc pc = .ok (.invokestatic idx, 3)) (kk : ∀ (d : Nat → Nat) (H1 : Heap) (locs1 : List Loc) (v1 : vSt) (x1 : gX), v1 = (fL_faultReason o1 o2 v x).2.1 → x1 = (fL_faultReason o1 o2 v x).2.2 → Hp G d v1 x1 H1 → va_S (gA G) s.heap H1 locs1 → W p l e R s m args below meth c H1 locs1 (cells + (kkL_faultReason o1 o2 v x)) (slots + (kkL_faultReason o1 o2 v x)) Q (F0 m (pc + 3) ls (.int (fL_faultReason o1 o2 v x).1 :: rest))) : W p l e R s m args below meth c H locs cells slots Q (F0 m pc ls (.ref (ga G o2) :: .ref (ga G o1) :: rest)) := c_li (runLS (kp := 2) X.1 X.2.1 X.2.2.1 X.2.2.2.1 X.2.2.2.2.1 (mL_faultReason l hst G da v x o1 hk_o1 o2 hk_o2 ho) pN_bl hml t_st_L_faultReason t_ini_VernierDrawersLaw t_code_L_faultReason ⟨by decide, by decide, by decide +kernel⟩ rfl rfl hR hcs (preN X hN hS hH) rfl hls rfl hsum hdg) hS (fun d9 H9 L9 hH9 => kk d9 H9 L9 _ _ rfl rfl hH9)
def fL_faultCause (o1 : Nat) (o2 : Nat) (v : vSt) (x : gX) : Int32 × vSt × gX := if (fX10_faultCause o1 v).1 = 0 then (let v4 : vSt := (fX10_faultCause o1 v).2.2; let x6 : gX := xu x o2 (0 : Int32).toNatClampNeg (((fX10_faultCause o1 v).2.1 : Int32).toInt64); (0, v4, x6)) else (let v4 : vSt := (fX10_faultCause o1 v).2.2; (1, v4, x))

def kkL_faultCause (o1 : Nat) (o2 : Nat) (v : vSt) (x : gX) : Nat := pot ((fL_faultCause o1 o2 v x).2.1) - pot v + 36
def oL_faultCause (o1 : Nat) (o2 : Nat) (v : vSt) (x : gX) : Prop := (oX10_faultCause o1 v) ∧ ((0 + kkX10_faultCause o1 v ≤ kkL_faultCause o1 o2 v x) ∧ (¬ ((fX10_faultCause o1 v).1 = 0) → (∀ v4 : vSt, v4 = ((fX10_faultCause o1 v).2.2) → ((fX10_faultCause o1 v).1 = 3))))
abbrev rmL_faultCause (o1 : Nat) (o2 : Nat) (v : vSt) (x : gX) : Room := { frames := 9, cells := kkL_faultCause o1 o2 v x, slots := kkL_faultCause o1 o2 v x, locals := 251 }
theorem dL_faultCause_0 : decode cL_faultCause 0 = .ok (.aload_n 1, 1) := by decide +kernel
theorem dL_faultCause_1 : decode cL_faultCause 1 = .ok (.iconst 0, 1) := by decide +kernel
theorem dL_faultCause_2 : decode cL_faultCause 2 = .ok (.aload_n 0, 1) := by decide +kernel
theorem dL_faultCause_3 : decode cL_faultCause 3 = .ok (.invokevirtual 191, 3) := by decide +kernel
theorem dL_faultCause_6 : decode cL_faultCause 6 = .ok (.i2l, 1) := by decide +kernel
theorem dL_faultCause_7 : decode cL_faultCause 7 = .ok (.lastore, 1) := by decide +kernel
theorem dL_faultCause_8 : decode cL_faultCause 8 = .ok (.goto 6, 3) := by decide +kernel
theorem dL_faultCause_11 : decode cL_faultCause 11 = .ok (.astore_n 2, 1) := by decide +kernel
theorem dL_faultCause_12 : decode cL_faultCause 12 = .ok (.iconst 1, 1) := by decide +kernel
theorem dL_faultCause_13 : decode cL_faultCause 13 = .ok (.ireturn, 1) := by decide +kernel
theorem dL_faultCause_14 : decode cL_faultCause 14 = .ok (.iconst 0, 1) := by decide +kernel
theorem dL_faultCause_15 : decode cL_faultCause 15 = .ok (.ireturn, 1) := by decide +kernel
set_option maxHeartbeats 8000000 in
set_option maxRecDepth 100000 in
theorem mL_faultCause (l : Launch) (hst : l.stackTraces = false) (G : gG) (da : Nat → Nat) (v : vSt) (x : gX) (o1 : Nat) (hk_o1 : kd o1 = 10) (o2 : Nat) (hk_o2 : kd o2 = 34) (ho : oL_faultCause o1 o2 v x) : LI l yL_faultCause cL_faultCause 3 [((0 : Nat), (8 : Nat), (11 : Nat), (85 : Nat))] (rmL_faultCause o1 o2 v x) [.ref (ga G o1), .ref (ga G o2)] G da v x (kkL_faultCause o1 o2 v x) (kkL_faultCause o1 o2 v x) (fL_faultCause o1 o2 v x).1 (fL_faultCause o1 o2 v x).2.1 (fL_faultCause o1 o2 v x).2.2 := by
  refine gofL (by decide) rfl (Nat.le_of_ble_eq_true rfl) (fun p e s m args below meth c ls Q X hN htab hH hl E => ?_)
  have hx := X.1
  have hb := X.2.1
  have hown := X.2.2.2.1
  have hts := X.2.2.2.2.1
  have hS : va_S (gA G) s.heap s.heap [] := va_S.rf
  unfold oL_faultCause at ho
  have hl : lv_has ls 3 [(0, .ref (ga G o1)), (1, .ref (ga G o2))] := hl
  refine lv_aload_n hx hb dL_faultCause_0 rfl (lv_at hl 1 rfl) ?_
  refine lv_iconst (v := 0) hx hb dL_faultCause_1 (by decide) ?_
  refine lv_aload_n hx hb dL_faultCause_2 rfl (lv_at hl 0 rfl) ?_
  have hq1 := ho.1
  have ho := ho.2
  have hq2 := ho.1
  have ho := ho.2
  refine k_X10_faultCause hst X hS hH hk_o1 hq1 t_ml_VernierDrawersLaw_191 hl.1 (Nat.le_of_ble_eq_true rfl) ⟨Nat.le_of_ble_eq_true rfl, Nat.le_of_ble_eq_true rfl⟩ ⟨hq2, hq2⟩ dL_faultCause_3 (fun c3 da ce9 q9 H locs v4 ev4 hH hS g1 g2 g3 => ?_) (fun c3 da H locs v4 ev4 hH hS => ?_)
  · have ho := ho c3
    have ho := ho v4 ev4
    have hq5 := ho
    refine t_c1 (k := 3) X htab rfl g1 g2 (hq5 ▸ g3) ?_
    refine lv_astore_n (lv' := [(2, .ref q9), (0, .ref (ga G o1)), (1, .ref (ga G o2))]) hx hb dL_faultCause_11 rfl hl (by decide) rfl (fun ls hl => ?_)
    refine lv_iconst (v := 1) hx hb dL_faultCause_12 (by decide) ?_
    replace ev4 := Eq.symm ev4
    subst ev4
    exact E _ _ _ _ _ _ _ _ _ _ dL_faultCause_13 (t31 ((fL_faultCause.eq_1 _ _ _ _).trans ((if_neg c3).trans rfl))) (t32 ((fL_faultCause.eq_1 _ _ _ _).trans ((if_neg c3).trans rfl))) (t33 ((fL_faultCause.eq_1 _ _ _ _).trans ((if_neg c3).trans rfl))) hH hS hq2 hq2
  · skip
    refine lv_i2l (v := ((fX10_faultCause o1 v).2.1 : Int32).toInt64) hx hb dL_faultCause_6 rfl ?_
    refine last_34 X hH hS hk_o2 (i_in (by decide) (by decide)) dL_faultCause_7 (fun H locs x6 ex6 hH hS => ?_)
    refine lv_goto (tgt := 14) hx hb dL_faultCause_8 (by decide) ?_
    refine lv_iconst (v := 0) hx hb dL_faultCause_14 (by decide) ?_
    replace ev4 := Eq.symm ev4
    replace ex6 := Eq.symm ex6
    subst ev4 ex6
    exact E _ _ _ _ _ _ _ _ _ _ dL_faultCause_15 (t31 ((fL_faultCause.eq_1 _ _ _ _).trans ((if_pos c3).trans rfl))) (t32 ((fL_faultCause.eq_1 _ _ _ _).trans ((if_pos c3).trans rfl))) (t33 ((fL_faultCause.eq_1 _ _ _ _).trans ((if_pos c3).trans rfl))) hH hS hq2 hq2
theorem k_L_faultCause {p : Program} {l : Launch} {e : Env} {R : Room} {s : State} {m : MethodId} {args : Array Value} {below : List Frame} {meth : Method} {c : Code} {H : Heap} {locs : List Loc} {cells slots : Nat} {Q : State → Prop} {cc : ByteArray} {pc nL : Nat} {ls : Array Slot} {rest : List Value} {G : gG} {own : String} {da : Nat → Nat} {v : vSt} {x : gX} (hst : l.stackTraces = false) (X : CX G p s m args c cc nL own) (hS : va_S (gA G) s.heap H locs) (hN : NC s) (hH : Hp G da v x H) {o1 : Nat} (hk_o1 : kd o1 = 10) {o2 : Nat} (hk_o2 : kd o2 = 34) (ho : oL_faultCause o1 o2 v x) {idx : Nat} (hml : Cond.methodLink own idx yL_faultCause ∈ TT) (hls : ls.size = nL) (hsum : (rest.map fun v => v.category).sum ≤ 8) (hR : (rmL_faultCause o1 o2 v x).frames + 1 ≤ R.frames ∧ 8 + (3 + 11) + (rmL_faultCause o1 o2 v x).locals ≤ R.locals) (hcs : cells + (kkL_faultCause o1 o2 v x) ≤ R.cells ∧ slots + (kkL_faultCause o1 o2 v x) ≤ R.slots) (hdg : decode cc pc = .ok (.invokestatic idx, 3)) (kk : ∀ (d : Nat → Nat) (H1 : Heap) (locs1 : List Loc) (v1 : vSt) (x1 : gX), v1 = (fL_faultCause o1 o2 v x).2.1 → x1 = (fL_faultCause o1 o2 v x).2.2 → Hp G d v1 x1 H1 → va_S (gA G) s.heap H1 locs1 → W p l e R s m args below meth c H1 locs1 (cells + (kkL_faultCause o1 o2 v x)) (slots + (kkL_faultCause o1 o2 v x)) Q (F0 m (pc + 3) ls (.int (fL_faultCause o1 o2 v x).1 :: rest))) : W p l e R s m args below meth c H locs cells slots Q (F0 m pc ls (.ref (ga G o2) :: .ref (ga G o1) :: rest)) := c_li (runLS (kp := 2) X.1 X.2.1 X.2.2.1 X.2.2.2.1 X.2.2.2.2.1 (mL_faultCause l hst G da v x o1 hk_o1 o2 hk_o2 ho) pN_bl hml t_st_L_faultCause t_ini_VernierDrawersLaw t_code_L_faultCause ⟨by decide, by decide, by decide +kernel⟩ rfl rfl hR hcs (preN X hN hS hH) rfl hls rfl hsum hdg) hS (fun d9 H9 L9 hH9 => kk d9 H9 L9 _ _ rfl rfl hH9)
def fL_play (o1 : Nat) (o2 : Nat) (v : vSt) (x : gX) : Int32 × vSt × gX := if (fX10_play o1 v).1 = 0 then (let v4 : vSt := (fX10_play o1 v).2.2; let x6 : gX := xu x o2 (0 : Int32).toNatClampNeg (((fX10_play o1 v).2.1 : Int32).toInt64); (0, v4, x6)) else (let v4 : vSt := (fX10_play o1 v).2.2; (1, v4, x))

def kkL_play (o1 : Nat) (o2 : Nat) (v : vSt) (x : gX) : Nat := pot ((fL_play o1 o2 v x).2.1) - pot v + 36
def oL_play (o1 : Nat) (o2 : Nat) (v : vSt) (x : gX) : Prop := (oX10_play o1 v) ∧ ((0 + kkX10_play o1 v ≤ kkL_play o1 o2 v x) ∧ (¬ ((fX10_play o1 v).1 = 0) → (∀ v4 : vSt, v4 = ((fX10_play o1 v).2.2) → ((fX10_play o1 v).1 = 2))))
abbrev rmL_play (o1 : Nat) (o2 : Nat) (v : vSt) (x : gX) : Room := { frames := 9, cells := kkL_play o1 o2 v x, slots := kkL_play o1 o2 v x, locals := 252 }
theorem dL_play_0 : decode cL_play 0 = .ok (.aload_n 1, 1) := by decide +kernel
theorem dL_play_1 : decode cL_play 1 = .ok (.iconst 0, 1) := by decide +kernel
theorem dL_play_2 : decode cL_play 2 = .ok (.aload_n 0, 1) := by decide +kernel
theorem dL_play_3 : decode cL_play 3 = .ok (.invokevirtual 194, 3) := by decide +kernel
theorem dL_play_6 : decode cL_play 6 = .ok (.i2l, 1) := by decide +kernel
theorem dL_play_7 : decode cL_play 7 = .ok (.lastore, 1) := by decide +kernel
theorem dL_play_8 : decode cL_play 8 = .ok (.goto 6, 3) := by decide +kernel
theorem dL_play_11 : decode cL_play 11 = .ok (.astore_n 2, 1) := by decide +kernel
theorem dL_play_12 : decode cL_play 12 = .ok (.iconst 1, 1) := by decide +kernel
theorem dL_play_13 : decode cL_play 13 = .ok (.ireturn, 1) := by decide +kernel
theorem dL_play_14 : decode cL_play 14 = .ok (.iconst 0, 1) := by decide +kernel
theorem dL_play_15 : decode cL_play 15 = .ok (.ireturn, 1) := by decide +kernel
set_option maxHeartbeats 8000000 in
set_option maxRecDepth 100000 in
theorem mL_play (l : Launch) (hst : l.stackTraces = false) (G : gG) (da : Nat → Nat) (v : vSt) (x : gX) (o1 : Nat) (hk_o1 : kd o1 = 10) (o2 : Nat) (hk_o2 : kd o2 = 34) (ho : oL_play o1 o2 v x) : LI l yL_play cL_play 3 [((0 : Nat), (8 : Nat), (11 : Nat), (15 : Nat))] (rmL_play o1 o2 v x) [.ref (ga G o1), .ref (ga G o2)] G da v x (kkL_play o1 o2 v x) (kkL_play o1 o2 v x) (fL_play o1 o2 v x).1 (fL_play o1 o2 v x).2.1 (fL_play o1 o2 v x).2.2 := by
  refine gofL (by decide) rfl (Nat.le_of_ble_eq_true rfl) (fun p e s m args below meth c ls Q X hN htab hH hl E => ?_)
  have hx := X.1
  have hb := X.2.1
  have hown := X.2.2.2.1
  have hts := X.2.2.2.2.1
  have hS : va_S (gA G) s.heap s.heap [] := va_S.rf
  unfold oL_play at ho
  have hl : lv_has ls 3 [(0, .ref (ga G o1)), (1, .ref (ga G o2))] := hl
  refine lv_aload_n hx hb dL_play_0 rfl (lv_at hl 1 rfl) ?_
  refine lv_iconst (v := 0) hx hb dL_play_1 (by decide) ?_
  refine lv_aload_n hx hb dL_play_2 rfl (lv_at hl 0 rfl) ?_
  have hq1 := ho.1
  have ho := ho.2
  have hq2 := ho.1
  have ho := ho.2
  refine k_X10_play hst X hS hH hk_o1 hq1 t_ml_VernierDrawersLaw_194 hl.1 (Nat.le_of_ble_eq_true rfl) ⟨Nat.le_of_ble_eq_true rfl, Nat.le_of_ble_eq_true rfl⟩ ⟨hq2, hq2⟩ dL_play_3 (fun c3 da ce9 q9 H locs v4 ev4 hH hS g1 g2 g3 => ?_) (fun c3 da H locs v4 ev4 hH hS => ?_)
  · have ho := ho c3
    have ho := ho v4 ev4
    have hq5 := ho
    refine t_c1 (k := 2) X htab rfl g1 g2 (hq5 ▸ g3) ?_
    refine lv_astore_n (lv' := [(2, .ref q9), (0, .ref (ga G o1)), (1, .ref (ga G o2))]) hx hb dL_play_11 rfl hl (by decide) rfl (fun ls hl => ?_)
    refine lv_iconst (v := 1) hx hb dL_play_12 (by decide) ?_
    replace ev4 := Eq.symm ev4
    subst ev4
    exact E _ _ _ _ _ _ _ _ _ _ dL_play_13 (t31 ((fL_play.eq_1 _ _ _ _).trans ((if_neg c3).trans rfl))) (t32 ((fL_play.eq_1 _ _ _ _).trans ((if_neg c3).trans rfl))) (t33 ((fL_play.eq_1 _ _ _ _).trans ((if_neg c3).trans rfl))) hH hS hq2 hq2
  · skip
    refine lv_i2l (v := ((fX10_play o1 v).2.1 : Int32).toInt64) hx hb dL_play_6 rfl ?_
    refine last_34 X hH hS hk_o2 (i_in (by decide) (by decide)) dL_play_7 (fun H locs x6 ex6 hH hS => ?_)
    refine lv_goto (tgt := 14) hx hb dL_play_8 (by decide) ?_
    refine lv_iconst (v := 0) hx hb dL_play_14 (by decide) ?_
    replace ev4 := Eq.symm ev4
    replace ex6 := Eq.symm ex6
    subst ev4 ex6
    exact E _ _ _ _ _ _ _ _ _ _ dL_play_15 (t31 ((fL_play.eq_1 _ _ _ _).trans ((if_pos c3).trans rfl))) (t32 ((fL_play.eq_1 _ _ _ _).trans ((if_pos c3).trans rfl))) (t33 ((fL_play.eq_1 _ _ _ _).trans ((if_pos c3).trans rfl))) hH hS hq2 hq2
theorem k_L_play {p : Program} {l : Launch} {e : Env} {R : Room} {s : State} {m : MethodId} {args : Array Value} {below : List Frame} {meth : Method} {c : Code} {H : Heap} {locs : List Loc} {cells slots : Nat} {Q : State → Prop} {cc : ByteArray} {pc nL : Nat} {ls : Array Slot} {rest : List Value} {G : gG} {own : String} {da : Nat → Nat} {v : vSt} {x : gX} (hst : l.stackTraces = false) (X : CX G p s m args c cc nL own) (hS : va_S (gA G) s.heap H locs) (hN : NC s) (hH : Hp G da v x H) {o1 : Nat} (hk_o1 : kd o1 = 10) {o2 : Nat} (hk_o2 : kd o2 = 34) (ho : oL_play o1 o2 v x) {idx : Nat} (hml : Cond.methodLink own idx yL_play ∈ TT) (hls : ls.size = nL) (hsum : (rest.map fun v => v.category).sum ≤ 8) (hR : (rmL_play o1 o2 v x).frames + 1 ≤ R.frames ∧ 8 + (3 + 11) + (rmL_play o1 o2 v x).locals ≤ R.locals) (hcs : cells + (kkL_play o1 o2 v x) ≤ R.cells ∧ slots + (kkL_play o1 o2 v x) ≤ R.slots) (hdg : decode cc pc = .ok (.invokestatic idx, 3)) (kk : ∀ (d : Nat → Nat) (H1 : Heap) (locs1 : List Loc) (v1 : vSt) (x1 : gX), v1 = (fL_play o1 o2 v x).2.1 → x1 = (fL_play o1 o2 v x).2.2 → Hp G d v1 x1 H1 → va_S (gA G) s.heap H1 locs1 → W p l e R s m args below meth c H1 locs1 (cells + (kkL_play o1 o2 v x)) (slots + (kkL_play o1 o2 v x)) Q (F0 m (pc + 3) ls (.int (fL_play o1 o2 v x).1 :: rest))) : W p l e R s m args below meth c H locs cells slots Q (F0 m pc ls (.ref (ga G o2) :: .ref (ga G o1) :: rest)) := c_li (runLS (kp := 2) X.1 X.2.1 X.2.2.1 X.2.2.2.1 X.2.2.2.2.1 (mL_play l hst G da v x o1 hk_o1 o2 hk_o2 ho) pN_bl hml t_st_L_play t_ini_VernierDrawersLaw t_code_L_play ⟨by decide, by decide, by decide +kernel⟩ rfl rfl hR hcs (preN X hN hS hH) rfl hls rfl hsum hdg) hS (fun d9 H9 L9 hH9 => kk d9 H9 L9 _ _ rfl rfl hH9)
