/-! the methods where they throw nothing -/
abbrev rmZ_X10_stepOf : Room := { frames := 2, cells := 0, slots := 0, locals := 42 }
set_option maxHeartbeats 8000000 in
set_option maxRecDepth 100000 in
theorem mZ_X10_stepOf (l : Launch) (G : gG) (da : Nat → Nat) (v : vSt) (x : gX) (r : Nat) (hk_r : kd r = 10) (p1 : Int32) (ho : oX10_stepOf r p1 v) (hok : (fX10_stepOf r p1 v).1 = 0) : QI l yX10_stepOf cX10_stepOf 2 (some .int) rmZ_X10_stepOf [.ref (ga G r), .int p1] (pW G da v x) ((fX10_stepOf r p1 v).2) := by
  refine gofQ (own := RX10) (by decide) rfl (Nat.le_of_ble_eq_true rfl) (fun p e s m args below meth c ls Q X hH hl E => ?_)
  have hx := X.1
  have hb := X.2.1
  have hown := X.2.2.2.1
  have hts := X.2.2.2.2.1
  have hS : va_S (gA G) s.heap s.heap [] := va_S.rf
  unfold oX10_stepOf at ho
  have hl : lv_has ls 2 [(0, .ref (ga G r)), (1, .int p1)] := hl
  refine lv_aload_n hx hb dX10_stepOf_0 rfl (lv_at hl 0 rfl) ?_
  refine lv_iload_n hx hb dX10_stepOf_1 rfl (lv_at hl 1 rfl) ?_
  have hq1 := ho.1
  have ho := ho.2
  have c2 : (fX10_needTool r p1 v).1 = 0 := Decidable.byContradiction (fun c2 => c2 ((pr1 ((fX10_stepOf.eq_1 _ _ _).trans ((if_neg c2).trans rfl))).trans hok))
  refine kZ_X10_needTool X hS hH hk_r hq1 c2 t_ml_VernierDrawers_181 hl.1 (Nat.le_of_ble_eq_true rfl) ⟨Nat.le_of_ble_eq_true rfl, Nat.le_of_ble_eq_true rfl⟩ ⟨Nat.zero_le _, Nat.zero_le _⟩ dX10_stepOf_2 ?_
  have ho := ho c2
  have hq3 := ho
  refine g_VernierDrawers_190 X hH hq3 dX10_stepOf_5 ?_
  exact E _ _ _ dX10_stepOf_8 rfl (pr2 ((fX10_stepOf.eq_1 _ _ _).trans ((if_pos c2).trans rfl)))
theorem kZ_X10_stepOf {p : Program} {l : Launch} {e : Env} {R : Room} {s : State} {m : MethodId} {args : Array Value} {below : List Frame} {meth : Method} {c : Code} {H : Heap} {locs : List Loc} {cells slots : Nat} {Q : State → Prop} {cc : ByteArray} {pc nL : Nat} {ls : Array Slot} {rest : List Value} {G : gG} {own : String} {da : Nat → Nat} {v : vSt} {x : gX} (X : CX G p s m args c cc nL own) (hS : va_S (gA G) s.heap H locs) (hH : Hp G da v x H) {r : Nat} (hk_r : kd r = 10) {p1 : Int32} (ho : oX10_stepOf r p1 v) (hok : (fX10_stepOf r p1 v).1 = 0) {idx : Nat} (hml : Cond.methodLink own idx yX10_stepOf ∈ TT) (hls : ls.size = nL) (hsum : (rest.map fun v => v.category).sum ≤ 8) (hR : rmZ_X10_stepOf.frames + 1 ≤ R.frames ∧ 8 + (2 + 11) + rmZ_X10_stepOf.locals ≤ R.locals) (hcs : cells ≤ R.cells ∧ slots ≤ R.slots) (hdg : decode cc pc = .ok (.invokevirtual idx, 3)) (kk : W p l e R s m args below meth c H locs cells slots Q (F0 m (pc + 3) ls (.int ((fX10_stepOf r p1 v).2) :: rest))) : W p l e R s m args below meth c H locs cells slots Q (F0 m pc ls (.int p1 :: .ref (ga G r) :: rest)) := c_qi (runV (k := 1) X.1 X.2.1 X.2.2.1 X.2.2.2.1 X.2.2.2.2.1 (mZ_X10_stepOf l G da v x r hk_r p1 ho hok) pW_bl hml t_im_X10_stepOf t_sel_X10_stepOf t_ini_VernierDrawers t_code_X10_stepOf ⟨rfl, by decide, by decide, by decide +kernel⟩ rfl rfl hR hcs (recvW X hH (by rw [hk_r]; decide) (by rw [hk_r]; decide) (ce_10 hk_r) rfl) (preW X hS hH) rfl hls rfl hsum hdg) (fun _ h => h ▸ kk)
abbrev rmZ_X10_blockError : Room := { frames := 2, cells := 0, slots := 0, locals := 42 }
set_option maxHeartbeats 8000000 in
set_option maxRecDepth 100000 in
theorem mZ_X10_blockError (l : Launch) (G : gG) (da : Nat → Nat) (v : vSt) (x : gX) (r : Nat) (hk_r : kd r = 10) (p1 : Int32) (ho : oX10_blockError r p1 v) (hok : (fX10_blockError r p1 v).1 = 0) : QI l yX10_blockError cX10_blockError 2 (some .int) rmZ_X10_blockError [.ref (ga G r), .int p1] (pW G da v x) ((fX10_blockError r p1 v).2) := by
  refine gofQ (own := RX10) (by decide) rfl (Nat.le_of_ble_eq_true rfl) (fun p e s m args below meth c ls Q X hH hl E => ?_)
  have hx := X.1
  have hb := X.2.1
  have hown := X.2.2.2.1
  have hts := X.2.2.2.2.1
  have hS : va_S (gA G) s.heap s.heap [] := va_S.rf
  unfold oX10_blockError at ho
  have hl : lv_has ls 2 [(0, .ref (ga G r)), (1, .int p1)] := hl
  refine lv_aload_n hx hb dX10_blockError_0 rfl (lv_at hl 0 rfl) ?_
  refine lv_iload_n hx hb dX10_blockError_1 rfl (lv_at hl 1 rfl) ?_
  have hq1 := ho.1
  have ho := ho.2
  have c2 : (fX10_needBlock r p1 v).1 = 0 := Decidable.byContradiction (fun c2 => c2 ((pr1 ((fX10_blockError.eq_1 _ _ _).trans ((if_neg c2).trans rfl))).trans hok))
  refine kZ_X10_needBlock X hS hH hk_r hq1 c2 t_ml_VernierDrawers_237 hl.1 (Nat.le_of_ble_eq_true rfl) ⟨Nat.le_of_ble_eq_true rfl, Nat.le_of_ble_eq_true rfl⟩ ⟨Nat.zero_le _, Nat.zero_le _⟩ dX10_blockError_2 ?_
  have ho := ho c2
  have hq3 := ho
  refine g_VernierDrawers_246 X hH hq3 dX10_blockError_5 ?_
  exact E _ _ _ dX10_blockError_8 rfl (pr2 ((fX10_blockError.eq_1 _ _ _).trans ((if_pos c2).trans rfl)))
theorem kZ_X10_blockError {p : Program} {l : Launch} {e : Env} {R : Room} {s : State} {m : MethodId} {args : Array Value} {below : List Frame} {meth : Method} {c : Code} {H : Heap} {locs : List Loc} {cells slots : Nat} {Q : State → Prop} {cc : ByteArray} {pc nL : Nat} {ls : Array Slot} {rest : List Value} {G : gG} {own : String} {da : Nat → Nat} {v : vSt} {x : gX} (X : CX G p s m args c cc nL own) (hS : va_S (gA G) s.heap H locs) (hH : Hp G da v x H) {r : Nat} (hk_r : kd r = 10) {p1 : Int32} (ho : oX10_blockError r p1 v) (hok : (fX10_blockError r p1 v).1 = 0) {idx : Nat} (hml : Cond.methodLink own idx yX10_blockError ∈ TT) (hls : ls.size = nL) (hsum : (rest.map fun v => v.category).sum ≤ 8) (hR : rmZ_X10_blockError.frames + 1 ≤ R.frames ∧ 8 + (2 + 11) + rmZ_X10_blockError.locals ≤ R.locals) (hcs : cells ≤ R.cells ∧ slots ≤ R.slots) (hdg : decode cc pc = .ok (.invokevirtual idx, 3)) (kk : W p l e R s m args below meth c H locs cells slots Q (F0 m (pc + 3) ls (.int ((fX10_blockError r p1 v).2) :: rest))) : W p l e R s m args below meth c H locs cells slots Q (F0 m pc ls (.int p1 :: .ref (ga G r) :: rest)) := c_qi (runV (k := 1) X.1 X.2.1 X.2.2.1 X.2.2.2.1 X.2.2.2.2.1 (mZ_X10_blockError l G da v x r hk_r p1 ho hok) pW_bl hml t_im_X10_blockError t_sel_X10_blockError t_ini_VernierDrawers t_code_X10_blockError ⟨rfl, by decide, by decide, by decide +kernel⟩ rfl rfl hR hcs (recvW X hH (by rw [hk_r]; decide) (by rw [hk_r]; decide) (ce_10 hk_r) rfl) (preW X hS hH) rfl hls rfl hsum hdg) (fun _ h => h ▸ kk)
abbrev rmZ_X10_spreadOf : Room := { frames := 3, cells := 0, slots := 0, locals := 65 }
set_option maxHeartbeats 8000000 in
set_option maxRecDepth 100000 in
theorem mZ_X10_spreadOf (l : Launch) (G : gG) (da : Nat → Nat) (v : vSt) (x : gX) (r : Nat) (hk_r : kd r = 10) (p1 : Int32) (ho : oX10_spreadOf r p1 v) (hok : (fX10_spreadOf r p1 v).1 = 0) : QI l yX10_spreadOf cX10_spreadOf 2 (some .int) rmZ_X10_spreadOf [.ref (ga G r), .int p1] (pW G da v x) ((fX10_spreadOf r p1 v).2) := by
  refine gofQ (own := RX10) (by decide) rfl (Nat.le_of_ble_eq_true rfl) (fun p e s m args below meth c ls Q X hH hl E => ?_)
  have hx := X.1
  have hb := X.2.1
  have hown := X.2.2.2.1
  have hts := X.2.2.2.2.1
  have hS : va_S (gA G) s.heap s.heap [] := va_S.rf
  unfold oX10_spreadOf at ho
  have hl : lv_has ls 2 [(0, .ref (ga G r)), (1, .int p1)] := hl
  refine lv_aload_n hx hb dX10_spreadOf_0 rfl (lv_at hl 0 rfl) ?_
  refine lv_iload_n hx hb dX10_spreadOf_1 rfl (lv_at hl 1 rfl) ?_
  have hq1 := ho.1
  have ho := ho.2
  have c2 : (fX10_needChart r p1 v).1 = 0 := Decidable.byContradiction (fun c2 => c2 ((pr1 ((fX10_spreadOf.eq_1 _ _ _).trans ((if_neg c2).trans rfl))).trans hok))
  refine kZ_X10_needChart X hS hH hk_r hq1 c2 t_ml_VernierDrawers_352 hl.1 (Nat.le_of_ble_eq_true rfl) ⟨Nat.le_of_ble_eq_true rfl, Nat.le_of_ble_eq_true rfl⟩ ⟨Nat.zero_le _, Nat.zero_le _⟩ dX10_spreadOf_2 ?_
  have ho := ho c2
  have hq3 := ho.1
  have ho := ho.2
  have hq4 := ho
  refine k_X4_spread X hS hH hq3 hq4 t_ml_VernierDrawers_361 hl.1 (Nat.le_of_ble_eq_true rfl) ⟨Nat.le_of_ble_eq_true rfl, Nat.le_of_ble_eq_true rfl⟩ ⟨Nat.zero_le _, Nat.zero_le _⟩ dX10_spreadOf_5 ?_
  exact E _ _ _ dX10_spreadOf_8 rfl (pr2 ((fX10_spreadOf.eq_1 _ _ _).trans ((if_pos c2).trans rfl)))
theorem kZ_X10_spreadOf {p : Program} {l : Launch} {e : Env} {R : Room} {s : State} {m : MethodId} {args : Array Value} {below : List Frame} {meth : Method} {c : Code} {H : Heap} {locs : List Loc} {cells slots : Nat} {Q : State → Prop} {cc : ByteArray} {pc nL : Nat} {ls : Array Slot} {rest : List Value} {G : gG} {own : String} {da : Nat → Nat} {v : vSt} {x : gX} (X : CX G p s m args c cc nL own) (hS : va_S (gA G) s.heap H locs) (hH : Hp G da v x H) {r : Nat} (hk_r : kd r = 10) {p1 : Int32} (ho : oX10_spreadOf r p1 v) (hok : (fX10_spreadOf r p1 v).1 = 0) {idx : Nat} (hml : Cond.methodLink own idx yX10_spreadOf ∈ TT) (hls : ls.size = nL) (hsum : (rest.map fun v => v.category).sum ≤ 8) (hR : rmZ_X10_spreadOf.frames + 1 ≤ R.frames ∧ 8 + (2 + 11) + rmZ_X10_spreadOf.locals ≤ R.locals) (hcs : cells ≤ R.cells ∧ slots ≤ R.slots) (hdg : decode cc pc = .ok (.invokevirtual idx, 3)) (kk : W p l e R s m args below meth c H locs cells slots Q (F0 m (pc + 3) ls (.int ((fX10_spreadOf r p1 v).2) :: rest))) : W p l e R s m args below meth c H locs cells slots Q (F0 m pc ls (.int p1 :: .ref (ga G r) :: rest)) := c_qi (runV (k := 1) X.1 X.2.1 X.2.2.1 X.2.2.2.1 X.2.2.2.2.1 (mZ_X10_spreadOf l G da v x r hk_r p1 ho hok) pW_bl hml t_im_X10_spreadOf t_sel_X10_spreadOf t_ini_VernierDrawers t_code_X10_spreadOf ⟨rfl, by decide, by decide, by decide +kernel⟩ rfl rfl hR hcs (recvW X hH (by rw [hk_r]; decide) (by rw [hk_r]; decide) (ce_10 hk_r) rfl) (preW X hS hH) rfl hls rfl hsum hdg) (fun _ h => h ▸ kk)
abbrev rmZ_X10_trueLength : Room := { frames := 4, cells := 0, slots := 0, locals := 92 }
set_option maxHeartbeats 8000000 in
set_option maxRecDepth 100000 in
theorem mZ_X10_trueLength (l : Launch) (G : gG) (da : Nat → Nat) (v : vSt) (x : gX) (r : Nat) (hk_r : kd r = 10) (p1 : Int32) (ho : oX10_trueLength r p1 v) (hok : (fX10_trueLength r p1 v).1 = 0) : QI l yX10_trueLength cX10_trueLength 2 (some .int) rmZ_X10_trueLength [.ref (ga G r), .int p1] (pW G da v x) ((fX10_trueLength r p1 v).2) := by
  refine gofQ (own := RX10) (by decide) rfl (Nat.le_of_ble_eq_true rfl) (fun p e s m args below meth c ls Q X hH hl E => ?_)
  have hx := X.1
  have hb := X.2.1
  have hown := X.2.2.2.1
  have hts := X.2.2.2.2.1
  have hS : va_S (gA G) s.heap s.heap [] := va_S.rf
  unfold oX10_trueLength at ho
  have hl : lv_has ls 2 [(0, .ref (ga G r)), (1, .int p1)] := hl
  refine lv_aload_n hx hb dX10_trueLength_0 rfl (lv_at hl 0 rfl) ?_
  refine g_VernierDrawers_10 X hH hk_r dX10_trueLength_1 ?_
  have hq1 := ho.1
  have ho := ho.2
  refine g_VernierDrawers_41 X hH hq1 dX10_trueLength_4 ?_
  refine lv_aload_n hx hb dX10_trueLength_7 rfl (lv_at hl 0 rfl) ?_
  refine lv_iload_n hx hb dX10_trueLength_8 rfl (lv_at hl 1 rfl) ?_
  have hq2 := ho.1
  have ho := ho.2
  have c3 : (fX10_needStack r p1 v).1 = 0 := Decidable.byContradiction (fun c3 => c3 ((pr1 ((fX10_trueLength.eq_1 _ _ _).trans ((if_neg c3).trans rfl))).trans hok))
  refine kZ_X10_needStack X hS hH hk_r hq2 c3 t_ml_VernierDrawers_264 hl.1 (Nat.le_of_ble_eq_true rfl) ⟨Nat.le_of_ble_eq_true rfl, Nat.le_of_ble_eq_true rfl⟩ ⟨Nat.zero_le _, Nat.zero_le _⟩ dX10_trueLength_9 ?_
  have ho := ho c3
  have hq4 := ho
  refine k_X2_trueLengthOf X hS hH (kc_7_2 hq1) hq4 t_ml_VernierDrawers_272 hl.1 (Nat.le_of_ble_eq_true rfl) ⟨Nat.le_of_ble_eq_true rfl, Nat.le_of_ble_eq_true rfl⟩ ⟨Nat.zero_le _, Nat.zero_le _⟩ dX10_trueLength_12 ?_
  exact E _ _ _ dX10_trueLength_15 rfl (pr2 ((fX10_trueLength.eq_1 _ _ _).trans ((if_pos c3).trans rfl)))
theorem kZ_X10_trueLength {p : Program} {l : Launch} {e : Env} {R : Room} {s : State} {m : MethodId} {args : Array Value} {below : List Frame} {meth : Method} {c : Code} {H : Heap} {locs : List Loc} {cells slots : Nat} {Q : State → Prop} {cc : ByteArray} {pc nL : Nat} {ls : Array Slot} {rest : List Value} {G : gG} {own : String} {da : Nat → Nat} {v : vSt} {x : gX} (X : CX G p s m args c cc nL own) (hS : va_S (gA G) s.heap H locs) (hH : Hp G da v x H) {r : Nat} (hk_r : kd r = 10) {p1 : Int32} (ho : oX10_trueLength r p1 v) (hok : (fX10_trueLength r p1 v).1 = 0) {idx : Nat} (hml : Cond.methodLink own idx yX10_trueLength ∈ TT) (hls : ls.size = nL) (hsum : (rest.map fun v => v.category).sum ≤ 8) (hR : rmZ_X10_trueLength.frames + 1 ≤ R.frames ∧ 8 + (2 + 11) + rmZ_X10_trueLength.locals ≤ R.locals) (hcs : cells ≤ R.cells ∧ slots ≤ R.slots) (hdg : decode cc pc = .ok (.invokevirtual idx, 3)) (kk : W p l e R s m args below meth c H locs cells slots Q (F0 m (pc + 3) ls (.int ((fX10_trueLength r p1 v).2) :: rest))) : W p l e R s m args below meth c H locs cells slots Q (F0 m pc ls (.int p1 :: .ref (ga G r) :: rest)) := c_qi (runV (k := 1) X.1 X.2.1 X.2.2.1 X.2.2.2.1 X.2.2.2.2.1 (mZ_X10_trueLength l G da v x r hk_r p1 ho hok) pW_bl hml t_im_X10_trueLength t_sel_X10_trueLength t_ini_VernierDrawers t_code_X10_trueLength ⟨rfl, by decide, by decide, by decide +kernel⟩ rfl rfl hR hcs (recvW X hH (by rw [hk_r]; decide) (by rw [hk_r]; decide) (ce_10 hk_r) rfl) (preW X hS hH) rfl hls rfl hsum hdg) (fun _ h => h ▸ kk)
abbrev rmZ_X10_whyNotJudge : Room := { frames := 4, cells := 0, slots := 0, locals := 93 }
set_option maxHeartbeats 8000000 in
set_option maxRecDepth 100000 in
theorem mZ_X10_whyNotJudge (l : Launch) (G : gG) (da : Nat → Nat) (v : vSt) (x : gX) (r : Nat) (hk_r : kd r = 10) (p1 : Int32) (ho : oX10_whyNotJudge r p1 v) (hok : (fX10_whyNotJudge r p1 v).1 = 0) : QI l yX10_whyNotJudge cX10_whyNotJudge 2 (some .int) rmZ_X10_whyNotJudge [.ref (ga G r), .int p1] (pW G da v x) ((fX10_whyNotJudge r p1 v).2) := by
  refine gofQ (own := RX10) (by decide) rfl (Nat.le_of_ble_eq_true rfl) (fun p e s m args below meth c ls Q X hH hl E => ?_)
  have hx := X.1
  have hb := X.2.1
  have hown := X.2.2.2.1
  have hts := X.2.2.2.2.1
  have hS : va_S (gA G) s.heap s.heap [] := va_S.rf
  unfold oX10_whyNotJudge at ho
  have hl : lv_has ls 2 [(0, .ref (ga G r)), (1, .int p1)] := hl
  refine lv_aload_n hx hb dX10_whyNotJudge_0 rfl (lv_at hl 0 rfl) ?_
  refine g_VernierDrawers_10 X hH hk_r dX10_whyNotJudge_1 ?_
  have hq1 := ho.1
  have ho := ho.2
  refine g_VernierDrawers_126 X hH hq1 dX10_whyNotJudge_4 ?_
  refine lv_aload_n hx hb dX10_whyNotJudge_7 rfl (lv_at hl 0 rfl) ?_
  refine g_VernierDrawers_10 X hH hk_r dX10_whyNotJudge_8 ?_
  refine g_VernierDrawers_41 X hH hq1 dX10_whyNotJudge_11 ?_
  refine lv_aload_n hx hb dX10_whyNotJudge_14 rfl (lv_at hl 0 rfl) ?_
  refine lv_iload_n hx hb dX10_whyNotJudge_15 rfl (lv_at hl 1 rfl) ?_
  have hq2 := ho.1
  have ho := ho.2
  have c3 : (fX10_needTool r p1 v).1 = 0 := Decidable.byContradiction (fun c3 => c3 ((pr1 ((fX10_whyNotJudge.eq_1 _ _ _).trans ((if_neg c3).trans rfl))).trans hok))
  refine kZ_X10_needTool X hS hH hk_r hq2 c3 t_ml_VernierDrawers_181 hl.1 (Nat.le_of_ble_eq_true rfl) ⟨Nat.le_of_ble_eq_true rfl, Nat.le_of_ble_eq_true rfl⟩ ⟨Nat.zero_le _, Nat.zero_le _⟩ dX10_whyNotJudge_16 ?_
  have ho := ho c3
  have hq4 := ho
  refine k_X0_reasonNotToJudge X hS hH (kc_7_0 hq1) (kc_7_2 hq1) hq4 t_ml_VernierDrawers_304 hl.1 (Nat.le_of_ble_eq_true rfl) ⟨Nat.le_of_ble_eq_true rfl, Nat.le_of_ble_eq_true rfl⟩ ⟨Nat.zero_le _, Nat.zero_le _⟩ dX10_whyNotJudge_19 ?_
  exact E _ _ _ dX10_whyNotJudge_22 rfl (pr2 ((fX10_whyNotJudge.eq_1 _ _ _).trans ((if_pos c3).trans rfl)))
theorem kZ_X10_whyNotJudge {p : Program} {l : Launch} {e : Env} {R : Room} {s : State} {m : MethodId} {args : Array Value} {below : List Frame} {meth : Method} {c : Code} {H : Heap} {locs : List Loc} {cells slots : Nat} {Q : State → Prop} {cc : ByteArray} {pc nL : Nat} {ls : Array Slot} {rest : List Value} {G : gG} {own : String} {da : Nat → Nat} {v : vSt} {x : gX} (X : CX G p s m args c cc nL own) (hS : va_S (gA G) s.heap H locs) (hH : Hp G da v x H) {r : Nat} (hk_r : kd r = 10) {p1 : Int32} (ho : oX10_whyNotJudge r p1 v) (hok : (fX10_whyNotJudge r p1 v).1 = 0) {idx : Nat} (hml : Cond.methodLink own idx yX10_whyNotJudge ∈ TT) (hls : ls.size = nL) (hsum : (rest.map fun v => v.category).sum ≤ 8) (hR : rmZ_X10_whyNotJudge.frames + 1 ≤ R.frames ∧ 8 + (2 + 11) + rmZ_X10_whyNotJudge.locals ≤ R.locals) (hcs : cells ≤ R.cells ∧ slots ≤ R.slots) (hdg : decode cc pc = .ok (.invokevirtual idx, 3)) (kk : W p l e R s m args below meth c H locs cells slots Q (F0 m (pc + 3) ls (.int ((fX10_whyNotJudge r p1 v).2) :: rest))) : W p l e R s m args below meth c H locs cells slots Q (F0 m pc ls (.int p1 :: .ref (ga G r) :: rest)) := c_qi (runV (k := 1) X.1 X.2.1 X.2.2.1 X.2.2.2.1 X.2.2.2.2.1 (mZ_X10_whyNotJudge l G da v x r hk_r p1 ho hok) pW_bl hml t_im_X10_whyNotJudge t_sel_X10_whyNotJudge t_ini_VernierDrawers t_code_X10_whyNotJudge ⟨rfl, by decide, by decide, by decide +kernel⟩ rfl rfl hR hcs (recvW X hH (by rw [hk_r]; decide) (by rw [hk_r]; decide) (ce_10 hk_r) rfl) (preW X hS hH) rfl hls rfl hsum hdg) (fun _ h => h ▸ kk)
abbrev rmZ_X10_markFor : Room := { frames := 5, cells := 0, slots := 0, locals := 116 }
set_option maxHeartbeats 8000000 in
set_option maxRecDepth 100000 in
theorem mZ_X10_markFor (l : Launch) (G : gG) (da : Nat → Nat) (v : vSt) (x : gX) (r : Nat) (hk_r : kd r = 10) (p1 : Int32) (p2 : Int32) (p3 : Int32) (ho : oX10_markFor r p1 p2 p3 v) (hok : (fX10_markFor r p1 p2 p3 v).1 = 0) : QI l yX10_markFor cX10_markFor 5 (some .int) rmZ_X10_markFor [.ref (ga G r), .int p1, .int p2, .int p3] (pW G da v x) ((fX10_markFor r p1 p2 p3 v).2) := by
  refine gofQ (own := RX10) (by decide) rfl (Nat.le_of_ble_eq_true rfl) (fun p e s m args below meth c ls Q X hH hl E => ?_)
  have hx := X.1
  have hb := X.2.1
  have hown := X.2.2.2.1
  have hts := X.2.2.2.2.1
  have hS : va_S (gA G) s.heap s.heap [] := va_S.rf
  unfold oX10_markFor at ho
  have hl : lv_has ls 5 [(0, .ref (ga G r)), (1, .int p1), (2, .int p2), (3, .int p3)] := hl
  refine lv_aload_n hx hb dX10_markFor_0 rfl (lv_at hl 0 rfl) ?_
  refine lv_iload_n hx hb dX10_markFor_1 rfl (lv_at hl 1 rfl) ?_
  refine lv_iload_n hx hb dX10_markFor_2 rfl (lv_at hl 2 rfl) ?_
  refine lv_iload_n hx hb dX10_markFor_3 rfl (lv_at hl 3 rfl) ?_
  have hq1 := ho.1
  have ho := ho.2
  have c2 : (fX10_needReading r p1 p2 p3 v).1 = 0 := Decidable.byContradiction (fun c2 => c2 ((pr1 ((fX10_markFor.eq_1 _ _ _ _ _).trans ((if_neg c2).trans rfl))).trans hok))
  refine kZ_X10_needReading X hS hH hk_r hq1 c2 t_ml_VernierDrawers_218 hl.1 (Nat.le_of_ble_eq_true rfl) ⟨Nat.le_of_ble_eq_true rfl, Nat.le_of_ble_eq_true rfl⟩ ⟨Nat.zero_le _, Nat.zero_le _⟩ dX10_markFor_4 ?_
  have ho := ho c2
  refine lv_istore (lv' := [(4, .int ((fX10_needReading r p1 p2 p3 v).2)), (0, .ref (ga G r)), (1, .int p1), (2, .int p2), (3, .int p3)]) hx hb dX10_markFor_7 hl (by decide) rfl (fun ls hl => ?_)
  refine lv_aload_n hx hb dX10_markFor_9 rfl (lv_at hl 1 rfl) ?_
  refine lv_iload_n hx hb dX10_markFor_10 rfl (lv_at hl 2 rfl) ?_
  have hq3 := ho.1
  have ho := ho.2
  have c4 : (fX10_needTool r p1 v).1 = 0 := Decidable.byContradiction (fun c4 => c4 ((pr1 ((fX10_markFor.eq_1 _ _ _ _ _).trans ((if_pos c2).trans ((if_neg c4).trans rfl)))).trans hok))
  refine kZ_X10_needTool X hS hH hk_r hq3 c4 t_ml_VernierDrawers_181 hl.1 (Nat.le_of_ble_eq_true rfl) ⟨Nat.le_of_ble_eq_true rfl, Nat.le_of_ble_eq_true rfl⟩ ⟨Nat.zero_le _, Nat.zero_le _⟩ dX10_markFor_11 ?_
  have ho := ho c4
  have hq5 := ho
  refine lv_iload hx hb dX10_markFor_14 (lv_at hl 0 rfl) ?_
  refine k_X8_markAt X hS hH hq5 t_ml_VernierDrawers_228 hl.1 (Nat.le_of_ble_eq_true rfl) ⟨Nat.le_of_ble_eq_true rfl, Nat.le_of_ble_eq_true rfl⟩ ⟨Nat.zero_le _, Nat.zero_le _⟩ dX10_markFor_16 ?_
  exact E _ _ _ dX10_markFor_19 rfl (pr2 ((fX10_markFor.eq_1 _ _ _ _ _).trans ((if_pos c2).trans ((if_pos c4).trans rfl))))
theorem kZ_X10_markFor {p : Program} {l : Launch} {e : Env} {R : Room} {s : State} {m : MethodId} {args : Array Value} {below : List Frame} {meth : Method} {c : Code} {H : Heap} {locs : List Loc} {cells slots : Nat} {Q : State → Prop} {cc : ByteArray} {pc nL : Nat} {ls : Array Slot} {rest : List Value} {G : gG} {own : String} {da : Nat → Nat} {v : vSt} {x : gX} (X : CX G p s m args c cc nL own) (hS : va_S (gA G) s.heap H locs) (hH : Hp G da v x H) {r : Nat} (hk_r : kd r = 10) {p1 : Int32} {p2 : Int32} {p3 : Int32} (ho : oX10_markFor r p1 p2 p3 v) (hok : (fX10_markFor r p1 p2 p3 v).1 = 0) {idx : Nat} (hml : Cond.methodLink own idx yX10_markFor ∈ TT) (hls : ls.size = nL) (hsum : (rest.map fun v => v.category).sum ≤ 8) (hR : rmZ_X10_markFor.frames + 1 ≤ R.frames ∧ 8 + (5 + 11) + rmZ_X10_markFor.locals ≤ R.locals) (hcs : cells ≤ R.cells ∧ slots ≤ R.slots) (hdg : decode cc pc = .ok (.invokevirtual idx, 3)) (kk : W p l e R s m args below meth c H locs cells slots Q (F0 m (pc + 3) ls (.int ((fX10_markFor r p1 p2 p3 v).2) :: rest))) : W p l e R s m args below meth c H locs cells slots Q (F0 m pc ls (.int p3 :: .int p2 :: .int p1 :: .ref (ga G r) :: rest)) := c_qi (runV (k := 3) X.1 X.2.1 X.2.2.1 X.2.2.2.1 X.2.2.2.2.1 (mZ_X10_markFor l G da v x r hk_r p1 p2 p3 ho hok) pW_bl hml t_im_X10_markFor t_sel_X10_markFor t_ini_VernierDrawers t_code_X10_markFor ⟨rfl, by decide, by decide, by decide +kernel⟩ rfl rfl hR hcs (recvW X hH (by rw [hk_r]; decide) (by rw [hk_r]; decide) (ce_10 hk_r) rfl) (preW X hS hH) rfl hls rfl hsum hdg) (fun _ h => h ▸ kk)
abbrev rmZ_X10_lineFor : Room := { frames := 5, cells := 0, slots := 0, locals := 116 }
set_option maxHeartbeats 8000000 in
set_option maxRecDepth 100000 in
theorem mZ_X10_lineFor (l : Launch) (G : gG) (da : Nat → Nat) (v : vSt) (x : gX) (r : Nat) (hk_r : kd r = 10) (p1 : Int32) (p2 : Int32) (p3 : Int32) (ho : oX10_lineFor r p1 p2 p3 v) (hok : (fX10_lineFor r p1 p2 p3 v).1 = 0) : QI l yX10_lineFor cX10_lineFor 5 (some .int) rmZ_X10_lineFor [.ref (ga G r), .int p1, .int p2, .int p3] (pW G da v x) ((fX10_lineFor r p1 p2 p3 v).2) := by
  refine gofQ (own := RX10) (by decide) rfl (Nat.le_of_ble_eq_true rfl) (fun p e s m args below meth c ls Q X hH hl E => ?_)
  have hx := X.1
  have hb := X.2.1
  have hown := X.2.2.2.1
  have hts := X.2.2.2.2.1
  have hS : va_S (gA G) s.heap s.heap [] := va_S.rf
  unfold oX10_lineFor at ho
  have hl : lv_has ls 5 [(0, .ref (ga G r)), (1, .int p1), (2, .int p2), (3, .int p3)] := hl
  refine lv_aload_n hx hb dX10_lineFor_0 rfl (lv_at hl 0 rfl) ?_
  refine lv_iload_n hx hb dX10_lineFor_1 rfl (lv_at hl 1 rfl) ?_
  refine lv_iload_n hx hb dX10_lineFor_2 rfl (lv_at hl 2 rfl) ?_
  refine lv_iload_n hx hb dX10_lineFor_3 rfl (lv_at hl 3 rfl) ?_
  have hq1 := ho.1
  have ho := ho.2
  have c2 : (fX10_needReading r p1 p2 p3 v).1 = 0 := Decidable.byContradiction (fun c2 => c2 ((pr1 ((fX10_lineFor.eq_1 _ _ _ _ _).trans ((if_neg c2).trans rfl))).trans hok))
  refine kZ_X10_needReading X hS hH hk_r hq1 c2 t_ml_VernierDrawers_218 hl.1 (Nat.le_of_ble_eq_true rfl) ⟨Nat.le_of_ble_eq_true rfl, Nat.le_of_ble_eq_true rfl⟩ ⟨Nat.zero_le _, Nat.zero_le _⟩ dX10_lineFor_4 ?_
  have ho := ho c2
  refine lv_istore (lv' := [(4, .int ((fX10_needReading r p1 p2 p3 v).2)), (0, .ref (ga G r)), (1, .int p1), (2, .int p2), (3, .int p3)]) hx hb dX10_lineFor_7 hl (by decide) rfl (fun ls hl => ?_)
  refine lv_aload_n hx hb dX10_lineFor_9 rfl (lv_at hl 1 rfl) ?_
  refine lv_iload_n hx hb dX10_lineFor_10 rfl (lv_at hl 2 rfl) ?_
  have hq3 := ho.1
  have ho := ho.2
  have c4 : (fX10_needTool r p1 v).1 = 0 := Decidable.byContradiction (fun c4 => c4 ((pr1 ((fX10_lineFor.eq_1 _ _ _ _ _).trans ((if_pos c2).trans ((if_neg c4).trans rfl)))).trans hok))
  refine kZ_X10_needTool X hS hH hk_r hq3 c4 t_ml_VernierDrawers_181 hl.1 (Nat.le_of_ble_eq_true rfl) ⟨Nat.le_of_ble_eq_true rfl, Nat.le_of_ble_eq_true rfl⟩ ⟨Nat.zero_le _, Nat.zero_le _⟩ dX10_lineFor_11 ?_
  have ho := ho c4
  have hq5 := ho
  refine lv_iload hx hb dX10_lineFor_14 (lv_at hl 0 rfl) ?_
  refine k_X8_lineAt X hS hH hq5 t_ml_VernierDrawers_231 hl.1 (Nat.le_of_ble_eq_true rfl) ⟨Nat.le_of_ble_eq_true rfl, Nat.le_of_ble_eq_true rfl⟩ ⟨Nat.zero_le _, Nat.zero_le _⟩ dX10_lineFor_16 ?_
  exact E _ _ _ dX10_lineFor_19 rfl (pr2 ((fX10_lineFor.eq_1 _ _ _ _ _).trans ((if_pos c2).trans ((if_pos c4).trans rfl))))
theorem kZ_X10_lineFor {p : Program} {l : Launch} {e : Env} {R : Room} {s : State} {m : MethodId} {args : Array Value} {below : List Frame} {meth : Method} {c : Code} {H : Heap} {locs : List Loc} {cells slots : Nat} {Q : State → Prop} {cc : ByteArray} {pc nL : Nat} {ls : Array Slot} {rest : List Value} {G : gG} {own : String} {da : Nat → Nat} {v : vSt} {x : gX} (X : CX G p s m args c cc nL own) (hS : va_S (gA G) s.heap H locs) (hH : Hp G da v x H) {r : Nat} (hk_r : kd r = 10) {p1 : Int32} {p2 : Int32} {p3 : Int32} (ho : oX10_lineFor r p1 p2 p3 v) (hok : (fX10_lineFor r p1 p2 p3 v).1 = 0) {idx : Nat} (hml : Cond.methodLink own idx yX10_lineFor ∈ TT) (hls : ls.size = nL) (hsum : (rest.map fun v => v.category).sum ≤ 8) (hR : rmZ_X10_lineFor.frames + 1 ≤ R.frames ∧ 8 + (5 + 11) + rmZ_X10_lineFor.locals ≤ R.locals) (hcs : cells ≤ R.cells ∧ slots ≤ R.slots) (hdg : decode cc pc = .ok (.invokevirtual idx, 3)) (kk : W p l e R s m args below meth c H locs cells slots Q (F0 m (pc + 3) ls (.int ((fX10_lineFor r p1 p2 p3 v).2) :: rest))) : W p l e R s m args below meth c H locs cells slots Q (F0 m pc ls (.int p3 :: .int p2 :: .int p1 :: .ref (ga G r) :: rest)) := c_qi (runV (k := 3) X.1 X.2.1 X.2.2.1 X.2.2.2.1 X.2.2.2.2.1 (mZ_X10_lineFor l G da v x r hk_r p1 p2 p3 ho hok) pW_bl hml t_im_X10_lineFor t_sel_X10_lineFor t_ini_VernierDrawers t_code_X10_lineFor ⟨rfl, by decide, by decide, by decide +kernel⟩ rfl rfl hR hcs (recvW X hH (by rw [hk_r]; decide) (by rw [hk_r]; decide) (ce_10 hk_r) rfl) (preW X hS hH) rfl hls rfl hsum hdg) (fun _ h => h ▸ kk)
abbrev rmZ_X10_offBy : Room := { frames := 5, cells := 0, slots := 0, locals := 116 }
set_option maxHeartbeats 8000000 in
set_option maxRecDepth 100000 in
theorem mZ_X10_offBy (l : Launch) (G : gG) (da : Nat → Nat) (v : vSt) (x : gX) (r : Nat) (hk_r : kd r = 10) (p1 : Int32) (p2 : Int32) (p3 : Int32) (ho : oX10_offBy r p1 p2 p3 v) (hok : (fX10_offBy r p1 p2 p3 v).1 = 0) : QI l yX10_offBy cX10_offBy 5 (some .int) rmZ_X10_offBy [.ref (ga G r), .int p1, .int p2, .int p3] (pW G da v x) ((fX10_offBy r p1 p2 p3 v).2) := by
  refine gofQ (own := RX10) (by decide) rfl (Nat.le_of_ble_eq_true rfl) (fun p e s m args below meth c ls Q X hH hl E => ?_)
  have hx := X.1
  have hb := X.2.1
  have hown := X.2.2.2.1
  have hts := X.2.2.2.2.1
  have hS : va_S (gA G) s.heap s.heap [] := va_S.rf
  unfold oX10_offBy at ho
  have hl : lv_has ls 5 [(0, .ref (ga G r)), (1, .int p1), (2, .int p2), (3, .int p3)] := hl
  refine lv_aload_n hx hb dX10_offBy_0 rfl (lv_at hl 0 rfl) ?_
  refine lv_iload_n hx hb dX10_offBy_1 rfl (lv_at hl 1 rfl) ?_
  refine lv_iload_n hx hb dX10_offBy_2 rfl (lv_at hl 2 rfl) ?_
  refine lv_iload_n hx hb dX10_offBy_3 rfl (lv_at hl 3 rfl) ?_
  have hq1 := ho.1
  have ho := ho.2
  have c2 : (fX10_needReading r p1 p2 p3 v).1 = 0 := Decidable.byContradiction (fun c2 => c2 ((pr1 ((fX10_offBy.eq_1 _ _ _ _ _).trans ((if_neg c2).trans rfl))).trans hok))
  refine kZ_X10_needReading X hS hH hk_r hq1 c2 t_ml_VernierDrawers_218 hl.1 (Nat.le_of_ble_eq_true rfl) ⟨Nat.le_of_ble_eq_true rfl, Nat.le_of_ble_eq_true rfl⟩ ⟨Nat.zero_le _, Nat.zero_le _⟩ dX10_offBy_4 ?_
  have ho := ho c2
  refine lv_istore (lv' := [(4, .int ((fX10_needReading r p1 p2 p3 v).2)), (0, .ref (ga G r)), (1, .int p1), (2, .int p2), (3, .int p3)]) hx hb dX10_offBy_7 hl (by decide) rfl (fun ls hl => ?_)
  refine lv_iload hx hb dX10_offBy_9 (lv_at hl 0 rfl) ?_
  refine lv_aload_n hx hb dX10_offBy_11 rfl (lv_at hl 1 rfl) ?_
  refine lv_iload_n hx hb dX10_offBy_12 rfl (lv_at hl 2 rfl) ?_
  have hq3 := ho.1
  have ho := ho.2
  have c4 : (fX10_needTool r p1 v).1 = 0 := Decidable.byContradiction (fun c4 => c4 ((pr1 ((fX10_offBy.eq_1 _ _ _ _ _).trans ((if_pos c2).trans ((if_neg c4).trans rfl)))).trans hok))
  refine kZ_X10_needTool X hS hH hk_r hq3 c4 t_ml_VernierDrawers_181 hl.1 (Nat.le_of_ble_eq_true rfl) ⟨Nat.le_of_ble_eq_true rfl, Nat.le_of_ble_eq_true rfl⟩ ⟨Nat.zero_le _, Nat.zero_le _⟩ dX10_offBy_13 ?_
  have ho := ho c4
  have hq5 := ho
  refine g_VernierDrawers_199 X hH hq5 dX10_offBy_16 ?_
  refine lv_isub hx hb dX10_offBy_19 ?_
  refine lv_iload_n hx hb dX10_offBy_20 rfl (lv_at hl 4 rfl) ?_
  refine lv_isub hx hb dX10_offBy_21 ?_
  refine k_mabs X t_ml_VernierDrawers_234 hl.1 ⟨Nat.le_of_ble_eq_true rfl, Nat.le_of_ble_eq_true rfl⟩ ⟨Nat.zero_le _, Nat.zero_le _⟩ dX10_offBy_22 ?_
  exact E _ _ _ dX10_offBy_25 rfl (pr2 ((fX10_offBy.eq_1 _ _ _ _ _).trans ((if_pos c2).trans ((if_pos c4).trans rfl))))
theorem kZ_X10_offBy {p : Program} {l : Launch} {e : Env} {R : Room} {s : State} {m : MethodId} {args : Array Value} {below : List Frame} {meth : Method} {c : Code} {H : Heap} {locs : List Loc} {cells slots : Nat} {Q : State → Prop} {cc : ByteArray} {pc nL : Nat} {ls : Array Slot} {rest : List Value} {G : gG} {own : String} {da : Nat → Nat} {v : vSt} {x : gX} (X : CX G p s m args c cc nL own) (hS : va_S (gA G) s.heap H locs) (hH : Hp G da v x H) {r : Nat} (hk_r : kd r = 10) {p1 : Int32} {p2 : Int32} {p3 : Int32} (ho : oX10_offBy r p1 p2 p3 v) (hok : (fX10_offBy r p1 p2 p3 v).1 = 0) {idx : Nat} (hml : Cond.methodLink own idx yX10_offBy ∈ TT) (hls : ls.size = nL) (hsum : (rest.map fun v => v.category).sum ≤ 8) (hR : rmZ_X10_offBy.frames + 1 ≤ R.frames ∧ 8 + (5 + 11) + rmZ_X10_offBy.locals ≤ R.locals) (hcs : cells ≤ R.cells ∧ slots ≤ R.slots) (hdg : decode cc pc = .ok (.invokevirtual idx, 3)) (kk : W p l e R s m args below meth c H locs cells slots Q (F0 m (pc + 3) ls (.int ((fX10_offBy r p1 p2 p3 v).2) :: rest))) : W p l e R s m args below meth c H locs cells slots Q (F0 m pc ls (.int p3 :: .int p2 :: .int p1 :: .ref (ga G r) :: rest)) := c_qi (runV (k := 3) X.1 X.2.1 X.2.2.1 X.2.2.2.1 X.2.2.2.2.1 (mZ_X10_offBy l G da v x r hk_r p1 p2 p3 ho hok) pW_bl hml t_im_X10_offBy t_sel_X10_offBy t_ini_VernierDrawers t_code_X10_offBy ⟨rfl, by decide, by decide, by decide +kernel⟩ rfl rfl hR hcs (recvW X hH (by rw [hk_r]; decide) (by rw [hk_r]; decide) (ce_10 hk_r) rfl) (preW X hS hH) rfl hls rfl hsum hdg) (fun _ h => h ▸ kk)
abbrev rmZ_X10_signalsOf : Room := { frames := 4, cells := 0, slots := 0, locals := 88 }
set_option maxHeartbeats 8000000 in
set_option maxRecDepth 100000 in
theorem mZ_X10_signalsOf (l : Launch) (G : gG) (da : Nat → Nat) (v : vSt) (x : gX) (r : Nat) (hk_r : kd r = 10) (p1 : Int32) (ho : oX10_signalsOf r p1 v) (hok : (fX10_signalsOf r p1 v).1 = 0) : QI l yX10_signalsOf cX10_signalsOf 2 (some .int) rmZ_X10_signalsOf [.ref (ga G r), .int p1] (pW G da v x) ((fX10_signalsOf r p1 v).2) := by
  refine gofQ (own := RX10) (by decide) rfl (Nat.le_of_ble_eq_true rfl) (fun p e s m args below meth c ls Q X hH hl E => ?_)
  have hx := X.1
  have hb := X.2.1
  have hown := X.2.2.2.1
  have hts := X.2.2.2.2.1
  have hS : va_S (gA G) s.heap s.heap [] := va_S.rf
  unfold oX10_signalsOf at ho
  have hl : lv_has ls 2 [(0, .ref (ga G r)), (1, .int p1)] := hl
  refine lv_aload_n hx hb dX10_signalsOf_0 rfl (lv_at hl 0 rfl) ?_
  refine lv_iload_n hx hb dX10_signalsOf_1 rfl (lv_at hl 1 rfl) ?_
  have hq1 := ho.1
  have ho := ho.2
  have c2 : (fX10_needType r p1 v).1 = 0 := Decidable.byContradiction (fun c2 => c2 ((pr1 ((fX10_signalsOf.eq_1 _ _ _).trans ((if_neg c2).trans rfl))).trans hok))
  refine kZ_X10_needType X hS hH hk_r hq1 c2 t_ml_VernierDrawers_167 hl.1 (Nat.le_of_ble_eq_true rfl) ⟨Nat.le_of_ble_eq_true rfl, Nat.le_of_ble_eq_true rfl⟩ ⟨Nat.zero_le _, Nat.zero_le _⟩ dX10_signalsOf_2 ?_
  have ho := ho c2
  have hq3 := ho
  refine k_X4_signals X hS hH hq3 t_ml_VernierDrawers_349 hl.1 (Nat.le_of_ble_eq_true rfl) ⟨Nat.le_of_ble_eq_true rfl, Nat.le_of_ble_eq_true rfl⟩ ⟨Nat.zero_le _, Nat.zero_le _⟩ dX10_signalsOf_5 ?_
  exact E _ _ _ dX10_signalsOf_8 rfl (pr2 ((fX10_signalsOf.eq_1 _ _ _).trans ((if_pos c2).trans rfl)))
theorem kZ_X10_signalsOf {p : Program} {l : Launch} {e : Env} {R : Room} {s : State} {m : MethodId} {args : Array Value} {below : List Frame} {meth : Method} {c : Code} {H : Heap} {locs : List Loc} {cells slots : Nat} {Q : State → Prop} {cc : ByteArray} {pc nL : Nat} {ls : Array Slot} {rest : List Value} {G : gG} {own : String} {da : Nat → Nat} {v : vSt} {x : gX} (X : CX G p s m args c cc nL own) (hS : va_S (gA G) s.heap H locs) (hH : Hp G da v x H) {r : Nat} (hk_r : kd r = 10) {p1 : Int32} (ho : oX10_signalsOf r p1 v) (hok : (fX10_signalsOf r p1 v).1 = 0) {idx : Nat} (hml : Cond.methodLink own idx yX10_signalsOf ∈ TT) (hls : ls.size = nL) (hsum : (rest.map fun v => v.category).sum ≤ 8) (hR : rmZ_X10_signalsOf.frames + 1 ≤ R.frames ∧ 8 + (2 + 11) + rmZ_X10_signalsOf.locals ≤ R.locals) (hcs : cells ≤ R.cells ∧ slots ≤ R.slots) (hdg : decode cc pc = .ok (.invokevirtual idx, 3)) (kk : W p l e R s m args below meth c H locs cells slots Q (F0 m (pc + 3) ls (.int ((fX10_signalsOf r p1 v).2) :: rest))) : W p l e R s m args below meth c H locs cells slots Q (F0 m pc ls (.int p1 :: .ref (ga G r) :: rest)) := c_qi (runV (k := 1) X.1 X.2.1 X.2.2.1 X.2.2.2.1 X.2.2.2.2.1 (mZ_X10_signalsOf l G da v x r hk_r p1 ho hok) pW_bl hml t_im_X10_signalsOf t_sel_X10_signalsOf t_ini_VernierDrawers t_code_X10_signalsOf ⟨rfl, by decide, by decide, by decide +kernel⟩ rfl rfl hR hcs (recvW X hH (by rw [hk_r]; decide) (by rw [hk_r]; decide) (ce_10 hk_r) rfl) (preW X hS hH) rfl hls rfl hsum hdg) (fun _ h => h ▸ kk)
abbrev rmZ_X10_wouldJudge : Room := { frames := 4, cells := 0, slots := 0, locals := 93 }
set_option maxHeartbeats 8000000 in
set_option maxRecDepth 100000 in
theorem mZ_X10_wouldJudge (l : Launch) (G : gG) (da : Nat → Nat) (v : vSt) (x : gX) (r : Nat) (hk_r : kd r = 10) (p1 : Int32) (ho : oX10_wouldJudge r p1 v) (hok : (fX10_wouldJudge r p1 v).1 = 0) : QI l yX10_wouldJudge cX10_wouldJudge 3 (some .int) rmZ_X10_wouldJudge [.ref (ga G r), .int p1] (pW G da v x) ((fX10_wouldJudge r p1 v).2) := by
  refine gofQ (own := RX10) (by decide) rfl (Nat.le_of_ble_eq_true rfl) (fun p e s m args below meth c ls Q X hH hl E => ?_)
  have hx := X.1
  have hb := X.2.1
  have hown := X.2.2.2.1
  have hts := X.2.2.2.2.1
  have hS : va_S (gA G) s.heap s.heap [] := va_S.rf
  unfold oX10_wouldJudge at ho
  have hl : lv_has ls 3 [(0, .ref (ga G r)), (1, .int p1)] := hl
  refine lv_aload_n hx hb dX10_wouldJudge_0 rfl (lv_at hl 0 rfl) ?_
  refine lv_iload_n hx hb dX10_wouldJudge_1 rfl (lv_at hl 1 rfl) ?_
  have hq1 := ho.1
  have ho := ho.2
  have c2 : (fX10_needTool r p1 v).1 = 0 := Decidable.byContradiction (fun c2 => c2 ((pr1 ((fX10_wouldJudge.eq_1 _ _ _).trans ((if_neg c2).trans rfl))).trans hok))
  refine kZ_X10_needTool X hS hH hk_r hq1 c2 t_ml_VernierDrawers_181 hl.1 (Nat.le_of_ble_eq_true rfl) ⟨Nat.le_of_ble_eq_true rfl, Nat.le_of_ble_eq_true rfl⟩ ⟨Nat.zero_le _, Nat.zero_le _⟩ dX10_wouldJudge_2 ?_
  have ho := ho c2
  have hq3 := ho.1
  have ho := ho.2
  refine lv_astore_n (lv' := [(2, .ref (ga G ((fX10_needTool r p1 v).2))), (0, .ref (ga G r)), (1, .int p1)]) hx hb dX10_wouldJudge_5 rfl hl (by decide) rfl (fun ls hl => ?_)
  refine lv_aload_n hx hb dX10_wouldJudge_6 rfl (lv_at hl 1 rfl) ?_
  refine g_VernierDrawers_10 X hH hk_r dX10_wouldJudge_7 ?_
  have hq4 := ho
  refine g_VernierDrawers_126 X hH hq4 dX10_wouldJudge_10 ?_
  refine lv_aload_n hx hb dX10_wouldJudge_13 rfl (lv_at hl 1 rfl) ?_
  refine g_VernierDrawers_10 X hH hk_r dX10_wouldJudge_14 ?_
  refine g_VernierDrawers_41 X hH hq4 dX10_wouldJudge_17 ?_
  refine lv_aload_n hx hb dX10_wouldJudge_20 rfl (lv_at hl 0 rfl) ?_
  refine k_X0_reasonNotToJudge X hS hH (kc_7_0 hq4) (kc_7_2 hq4) hq3 t_ml_VernierDrawers_304 hl.1 (Nat.le_of_ble_eq_true rfl) ⟨Nat.le_of_ble_eq_true rfl, Nat.le_of_ble_eq_true rfl⟩ ⟨Nat.zero_le _, Nat.zero_le _⟩ dX10_wouldJudge_21 ?_
  refine lv_if_eq (tgt := 38) hx hb dX10_wouldJudge_24 (by decide) (fun c5 => ?_) (fun c5 => ?_)
  · skip
    refine lv_aload_n hx hb dX10_wouldJudge_38 rfl (lv_at hl 1 rfl) ?_
    refine g_VernierDrawers_10 X hH hk_r dX10_wouldJudge_39 ?_
    refine g_VernierDrawers_126 X hH hq4 dX10_wouldJudge_42 ?_
    refine lv_aload_n hx hb dX10_wouldJudge_45 rfl (lv_at hl 1 rfl) ?_
    refine g_VernierDrawers_10 X hH hk_r dX10_wouldJudge_46 ?_
    refine g_VernierDrawers_126 X hH hq4 dX10_wouldJudge_49 ?_
    refine lv_aload_n hx hb dX10_wouldJudge_52 rfl (lv_at hl 1 rfl) ?_
    refine g_VernierDrawers_10 X hH hk_r dX10_wouldJudge_53 ?_
    refine g_VernierDrawers_41 X hH hq4 dX10_wouldJudge_56 ?_
    refine lv_aload_n hx hb dX10_wouldJudge_59 rfl (lv_at hl 0 rfl) ?_
    refine k_X0_measuredWith X hS hH (kc_7_0 hq4) (kc_7_2 hq4) hq3 t_ml_VernierDrawers_310 hl.1 (Nat.le_of_ble_eq_true rfl) ⟨Nat.le_of_ble_eq_true rfl, Nat.le_of_ble_eq_true rfl⟩ ⟨Nat.zero_le _, Nat.zero_le _⟩ dX10_wouldJudge_60 ?_
    refine lv_aload_n hx hb dX10_wouldJudge_63 rfl (lv_at hl 0 rfl) ?_
    refine k_X0_outcomeOf X hS hH (kc_7_0 hq4) hq3 t_ml_VernierDrawers_313 hl.1 (Nat.le_of_ble_eq_true rfl) ⟨Nat.le_of_ble_eq_true rfl, Nat.le_of_ble_eq_true rfl⟩ ⟨Nat.zero_le _, Nat.zero_le _⟩ dX10_wouldJudge_64 ?_
    exact E _ _ _ dX10_wouldJudge_67 rfl (pr2 ((fX10_wouldJudge.eq_1 _ _ _).trans ((if_pos c2).trans ((if_pos c5).trans rfl))))
  · skip
    exact absurd ((pr1 ((fX10_wouldJudge.eq_1 _ _ _).trans ((if_pos c2).trans ((if_neg c5).trans rfl)))).trans hok) (by decide)
theorem kZ_X10_wouldJudge {p : Program} {l : Launch} {e : Env} {R : Room} {s : State} {m : MethodId} {args : Array Value} {below : List Frame} {meth : Method} {c : Code} {H : Heap} {locs : List Loc} {cells slots : Nat} {Q : State → Prop} {cc : ByteArray} {pc nL : Nat} {ls : Array Slot} {rest : List Value} {G : gG} {own : String} {da : Nat → Nat} {v : vSt} {x : gX} (X : CX G p s m args c cc nL own) (hS : va_S (gA G) s.heap H locs) (hH : Hp G da v x H) {r : Nat} (hk_r : kd r = 10) {p1 : Int32} (ho : oX10_wouldJudge r p1 v) (hok : (fX10_wouldJudge r p1 v).1 = 0) {idx : Nat} (hml : Cond.methodLink own idx yX10_wouldJudge ∈ TT) (hls : ls.size = nL) (hsum : (rest.map fun v => v.category).sum ≤ 8) (hR : rmZ_X10_wouldJudge.frames + 1 ≤ R.frames ∧ 8 + (3 + 11) + rmZ_X10_wouldJudge.locals ≤ R.locals) (hcs : cells ≤ R.cells ∧ slots ≤ R.slots) (hdg : decode cc pc = .ok (.invokevirtual idx, 3)) (kk : W p l e R s m args below meth c H locs cells slots Q (F0 m (pc + 3) ls (.int ((fX10_wouldJudge r p1 v).2) :: rest))) : W p l e R s m args below meth c H locs cells slots Q (F0 m pc ls (.int p1 :: .ref (ga G r) :: rest)) := c_qi (runV (k := 1) X.1 X.2.1 X.2.2.1 X.2.2.2.1 X.2.2.2.2.1 (mZ_X10_wouldJudge l G da v x r hk_r p1 ho hok) pW_bl hml t_im_X10_wouldJudge t_sel_X10_wouldJudge t_ini_VernierDrawers t_code_X10_wouldJudge ⟨rfl, by decide, by decide, by decide +kernel⟩ rfl rfl hR hcs (recvW X hH (by rw [hk_r]; decide) (by rw [hk_r]; decide) (ce_10 hk_r) rfl) (preW X hS hH) rfl hls rfl hsum hdg) (fun _ h => h ▸ kk)
