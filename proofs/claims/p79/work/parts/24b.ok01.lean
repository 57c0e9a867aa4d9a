/-! the methods where they throw nothing -/
abbrev rmZ_X10_needStack : Room := { frames := 3, cells := 0, slots := 0, locals := 70 }
set_option maxHeartbeats 8000000 in
set_option maxRecDepth 100000 in
theorem mZ_X10_needStack (l : Launch) (G : gG) (da : Nat → Nat) (v : vSt) (x : gX) (r : Nat) (hk_r : kd r = 10) (p1 : Int32) (ho : oX10_needStack r p1 v) (hok : (fX10_needStack r p1 v).1 = 0) : QI l yX10_needStack cX10_needStack 3 (some .int) rmZ_X10_needStack [.ref (ga G r), .int p1] (pW G da v x) ((fX10_needStack r p1 v).2) := by
  refine gofQ (own := RX10) (by decide) rfl (Nat.le_of_ble_eq_true rfl) (fun p e s m args below meth c ls Q X hH hl E => ?_)
  have hx := X.1
  have hb := X.2.1
  have hown := X.2.2.2.1
  have hts := X.2.2.2.2.1
  have hS : va_S (gA G) s.heap s.heap [] := va_S.rf
  unfold oX10_needStack at ho
  have hl : lv_has ls 3 [(0, .ref (ga G r)), (1, .int p1)] := hl
  refine lv_iload_n hx hb dX10_needStack_0 rfl (lv_at hl 1 rfl) ?_
  have c1 : fX10_needStackLength p1 v = 0 := Decidable.byContradiction (fun c1 => c1 ((pr1 ((fX10_needStack.eq_1 _ _ _).trans ((if_neg c1).trans rfl))).trans hok))
  refine kZ_X10_needStackLength X hS hH c1 t_ml_VernierDrawers_249 hl.1 (Nat.le_of_ble_eq_true rfl) ⟨Nat.le_of_ble_eq_true rfl, Nat.le_of_ble_eq_true rfl⟩ ⟨Nat.zero_le _, Nat.zero_le _⟩ dX10_needStack_1 ?_
  have ho := ho c1
  refine lv_aload_n hx hb dX10_needStack_4 rfl (lv_at hl 0 rfl) ?_
  refine g_VernierDrawers_10 X hH hk_r dX10_needStack_5 ?_
  have hq2 := ho.1
  have ho := ho.2
  refine g_VernierDrawers_41 X hH hq2 dX10_needStack_8 ?_
  refine lv_iload_n hx hb dX10_needStack_11 rfl (lv_at hl 1 rfl) ?_
  have hq3 := ho
  refine k_X2_stack X hS hH (kc_7_2 hq2) hq3 t_ml_VernierDrawers_484 hl.1 (Nat.le_of_ble_eq_true rfl) ⟨Nat.le_of_ble_eq_true rfl, Nat.le_of_ble_eq_true rfl⟩ ⟨Nat.zero_le _, Nat.zero_le _⟩ dX10_needStack_12 ?_
  refine lv_istore_n (lv' := [(2, .int (fX2_stack ((rN (v r 0)) + 1) p1 v)), (0, .ref (ga G r)), (1, .int p1)]) hx hb dX10_needStack_15 rfl hl (by decide) rfl (fun ls hl => ?_)
  refine lv_iload_n hx hb dX10_needStack_16 rfl (lv_at hl 0 rfl) ?_
  refine lv_if_ne (tgt := 31) hx hb dX10_needStack_17 (by decide) (fun c4 => ?_) (fun c4 => ?_)
  · skip
    refine lv_iload_n hx hb dX10_needStack_31 rfl (lv_at hl 0 rfl) ?_
    exact E _ _ _ dX10_needStack_32 rfl (pr2 ((fX10_needStack.eq_1 _ _ _).trans ((if_pos c1).trans ((if_neg c4).trans rfl))))
  · skip
    exact absurd ((pr1 ((fX10_needStack.eq_1 _ _ _).trans ((if_pos c1).trans ((if_pos c4).trans rfl)))).trans hok) (by decide)
theorem kZ_X10_needStack {p : Program} {l : Launch} {e : Env} {R : Room} {s : State} {m : MethodId} {args : Array Value} {below : List Frame} {meth : Method} {c : Code} {H : Heap} {locs : List Loc} {cells slots : Nat} {Q : State → Prop} {cc : ByteArray} {pc nL : Nat} {ls : Array Slot} {rest : List Value} {G : gG} {own : String} {da : Nat → Nat} {v : vSt} {x : gX} (X : CX G p s m args c cc nL own) (hS : va_S (gA G) s.heap H locs) (hH : Hp G da v x H) {r : Nat} (hk_r : kd r = 10) {p1 : Int32} (ho : oX10_needStack r p1 v) (hok : (fX10_needStack r p1 v).1 = 0) {idx : Nat} (hml : Cond.methodLink own idx yX10_needStack ∈ TT) (hls : ls.size = nL) (hsum : (rest.map fun v => v.category).sum ≤ 8) (hR : rmZ_X10_needStack.frames + 1 ≤ R.frames ∧ 8 + (3 + 11) + rmZ_X10_needStack.locals ≤ R.locals) (hcs : cells ≤ R.cells ∧ slots ≤ R.slots) (hdg : decode cc pc = .ok (.invokevirtual idx, 3)) (kk : W p l e R s m args below meth c H locs cells slots Q (F0 m (pc + 3) ls (.int ((fX10_needStack r p1 v).2) :: rest))) : W p l e R s m args below meth c H locs cells slots Q (F0 m pc ls (.int p1 :: .ref (ga G r) :: rest)) := c_qi (runV (k := 1) X.1 X.2.1 X.2.2.1 X.2.2.2.1 X.2.2.2.2.1 (mZ_X10_needStack l G da v x r hk_r p1 ho hok) pW_bl hml t_im_X10_needStack t_sel_X10_needStack t_ini_VernierDrawers t_code_X10_needStack ⟨rfl, by decide, by decide, by decide +kernel⟩ rfl rfl hR hcs (recvW X hH (by rw [hk_r]; decide) (by rw [hk_r]; decide) (ce_10 hk_r) rfl) (preW X hS hH) rfl hls rfl hsum hdg) (fun _ h => h ▸ kk)
abbrev rmZ_X10_needChart : Room := { frames := 2, cells := 0, slots := 0, locals := 42 }
set_option maxHeartbeats 8000000 in
set_option maxRecDepth 100000 in
theorem mZ_X10_needChart (l : Launch) (G : gG) (da : Nat → Nat) (v : vSt) (x : gX) (r : Nat) (hk_r : kd r = 10) (p1 : Int32) (ho : oX10_needChart r p1 v) (hok : (fX10_needChart r p1 v).1 = 0) : QR l yX10_needChart cX10_needChart 3 (some (.object "VernierDrawers$PieceType")) rmZ_X10_needChart [.ref (ga G r), .int p1] (pW G da v x) (ga G ((fX10_needChart r p1 v).2)) := by
  refine gofQR (own := RX10) (by decide) rfl (Nat.le_of_ble_eq_true rfl) (fun p e s m args below meth c ls Q X hH hl E => ?_)
  have hx := X.1
  have hb := X.2.1
  have hown := X.2.2.2.1
  have hts := X.2.2.2.2.1
  have hS : va_S (gA G) s.heap s.heap [] := va_S.rf
  unfold oX10_needChart at ho
  have hl : lv_has ls 3 [(0, .ref (ga G r)), (1, .int p1)] := hl
  refine lv_aload_n hx hb dX10_needChart_0 rfl (lv_at hl 0 rfl) ?_
  refine lv_iload_n hx hb dX10_needChart_1 rfl (lv_at hl 1 rfl) ?_
  have hq1 := ho.1
  have ho := ho.2
  have c2 : (fX10_needType r p1 v).1 = 0 := Decidable.byContradiction (fun c2 => c2 ((pr1 ((fX10_needChart.eq_1 _ _ _).trans ((if_neg c2).trans rfl))).trans hok))
  refine kZ_X10_needType X hS hH hk_r hq1 c2 t_ml_VernierDrawers_167 hl.1 (Nat.le_of_ble_eq_true rfl) ⟨Nat.le_of_ble_eq_true rfl, Nat.le_of_ble_eq_true rfl⟩ ⟨Nat.zero_le _, Nat.zero_le _⟩ dX10_needChart_2 ?_
  have ho := ho c2
  have hq3 := ho
  refine lv_astore_n (lv' := [(2, .ref (ga G ((fX10_needType r p1 v).2))), (0, .ref (ga G r)), (1, .int p1)]) hx hb dX10_needChart_5 rfl hl (by decide) rfl (fun ls hl => ?_)
  refine lv_aload_n hx hb dX10_needChart_6 rfl (lv_at hl 0 rfl) ?_
  refine g_VernierDrawers_339 X hH hq3 dX10_needChart_7 ?_
  refine lv_if_gt (tgt := 24) hx hb dX10_needChart_10 (by decide) (fun c4 => ?_) (fun c4 => ?_)
  · skip
    refine lv_aload_n hx hb dX10_needChart_24 rfl (lv_at hl 0 rfl) ?_
    exact E _ _ _ dX10_needChart_25 (congrArg (ga G) (pr2 ((fX10_needChart.eq_1 _ _ _).trans ((if_pos c2).trans ((if_pos c4).trans rfl)))))
  · skip
    exact absurd ((pr1 ((fX10_needChart.eq_1 _ _ _).trans ((if_pos c2).trans ((if_neg c4).trans rfl)))).trans hok) (by decide)
theorem kZ_X10_needChart {p : Program} {l : Launch} {e : Env} {R : Room} {s : State} {m : MethodId} {args : Array Value} {below : List Frame} {meth : Method} {c : Code} {H : Heap} {locs : List Loc} {cells slots : Nat} {Q : State → Prop} {cc : ByteArray} {pc nL : Nat} {ls : Array Slot} {rest : List Value} {G : gG} {own : String} {da : Nat → Nat} {v : vSt} {x : gX} (X : CX G p s m args c cc nL own) (hS : va_S (gA G) s.heap H locs) (hH : Hp G da v x H) {r : Nat} (hk_r : kd r = 10) {p1 : Int32} (ho : oX10_needChart r p1 v) (hok : (fX10_needChart r p1 v).1 = 0) {idx : Nat} (hml : Cond.methodLink own idx yX10_needChart ∈ TT) (hls : ls.size = nL) (hsum : (rest.map fun v => v.category).sum ≤ 8) (hR : rmZ_X10_needChart.frames + 1 ≤ R.frames ∧ 8 + (3 + 11) + rmZ_X10_needChart.locals ≤ R.locals) (hcs : cells ≤ R.cells ∧ slots ≤ R.slots) (hdg : decode cc pc = .ok (.invokevirtual idx, 3)) (kk : W p l e R s m args below meth c H locs cells slots Q (F0 m (pc + 3) ls (.ref (ga G ((fX10_needChart r p1 v).2)) :: rest))) : W p l e R s m args below meth c H locs cells slots Q (F0 m pc ls (.int p1 :: .ref (ga G r) :: rest)) := c_qr (runV (k := 1) X.1 X.2.1 X.2.2.1 X.2.2.2.1 X.2.2.2.2.1 (mZ_X10_needChart l G da v x r hk_r p1 ho hok) pW_bl hml t_im_X10_needChart t_sel_X10_needChart t_ini_VernierDrawers t_code_X10_needChart ⟨rfl, by decide, by decide, by decide +kernel⟩ rfl rfl hR hcs (recvW X hH (by rw [hk_r]; decide) (by rw [hk_r]; decide) (ce_10 hk_r) rfl) (preW X hS hH) rfl hls rfl hsum hdg) (fun _ h => h ▸ kk)
abbrev rmZ_X10_mannerOf : Room := { frames := 2, cells := 0, slots := 0, locals := 42 }
set_option maxHeartbeats 8000000 in
set_option maxRecDepth 100000 in
theorem mZ_X10_mannerOf (l : Launch) (G : gG) (da : Nat → Nat) (v : vSt) (x : gX) (r : Nat) (hk_r : kd r = 10) (p1 : Int32) (ho : oX10_mannerOf r p1 v) (hok : (fX10_mannerOf r p1 v).1 = 0) : QI l yX10_mannerOf cX10_mannerOf 2 (some .int) rmZ_X10_mannerOf [.ref (ga G r), .int p1] (pW G da v x) ((fX10_mannerOf r p1 v).2) := by
  refine gofQ (own := RX10) (by decide) rfl (Nat.le_of_ble_eq_true rfl) (fun p e s m args below meth c ls Q X hH hl E => ?_)
  have hx := X.1
  have hb := X.2.1
  have hown := X.2.2.2.1
  have hts := X.2.2.2.2.1
  have hS : va_S (gA G) s.heap s.heap [] := va_S.rf
  unfold oX10_mannerOf at ho
  have hl : lv_has ls 2 [(0, .ref (ga G r)), (1, .int p1)] := hl
  refine lv_aload_n hx hb dX10_mannerOf_0 rfl (lv_at hl 0 rfl) ?_
  refine lv_iload_n hx hb dX10_mannerOf_1 rfl (lv_at hl 1 rfl) ?_
  have hq1 := ho.1
  have ho := ho.2
  have c2 : (fX10_needType r p1 v).1 = 0 := Decidable.byContradiction (fun c2 => c2 ((pr1 ((fX10_mannerOf.eq_1 _ _ _).trans ((if_neg c2).trans rfl))).trans hok))
  refine kZ_X10_needType X hS hH hk_r hq1 c2 t_ml_VernierDrawers_167 hl.1 (Nat.le_of_ble_eq_true rfl) ⟨Nat.le_of_ble_eq_true rfl, Nat.le_of_ble_eq_true rfl⟩ ⟨Nat.zero_le _, Nat.zero_le _⟩ dX10_mannerOf_2 ?_
  have ho := ho c2
  have hq3 := ho
  refine g_VernierDrawers_325 X hH hq3 dX10_mannerOf_5 ?_
  exact E _ _ _ dX10_mannerOf_8 rfl (pr2 ((fX10_mannerOf.eq_1 _ _ _).trans ((if_pos c2).trans rfl)))
theorem kZ_X10_mannerOf {p : Program} {l : Launch} {e : Env} {R : Room} {s : State} {m : MethodId} {args : Array Value} {below : List Frame} {meth : Method} {c : Code} {H : Heap} {locs : List Loc} {cells slots : Nat} {Q : State → Prop} {cc : ByteArray} {pc nL : Nat} {ls : Array Slot} {rest : List Value} {G : gG} {own : String} {da : Nat → Nat} {v : vSt} {x : gX} (X : CX G p s m args c cc nL own) (hS : va_S (gA G) s.heap H locs) (hH : Hp G da v x H) {r : Nat} (hk_r : kd r = 10) {p1 : Int32} (ho : oX10_mannerOf r p1 v) (hok : (fX10_mannerOf r p1 v).1 = 0) {idx : Nat} (hml : Cond.methodLink own idx yX10_mannerOf ∈ TT) (hls : ls.size = nL) (hsum : (rest.map fun v => v.category).sum ≤ 8) (hR : rmZ_X10_mannerOf.frames + 1 ≤ R.frames ∧ 8 + (2 + 11) + rmZ_X10_mannerOf.locals ≤ R.locals) (hcs : cells ≤ R.cells ∧ slots ≤ R.slots) (hdg : decode cc pc = .ok (.invokevirtual idx, 3)) (kk : W p l e R s m args below meth c H locs cells slots Q (F0 m (pc + 3) ls (.int ((fX10_mannerOf r p1 v).2) :: rest))) : W p l e R s m args below meth c H locs cells slots Q (F0 m pc ls (.int p1 :: .ref (ga G r) :: rest)) := c_qi (runV (k := 1) X.1 X.2.1 X.2.2.1 X.2.2.2.1 X.2.2.2.2.1 (mZ_X10_mannerOf l G da v x r hk_r p1 ho hok) pW_bl hml t_im_X10_mannerOf t_sel_X10_mannerOf t_ini_VernierDrawers t_code_X10_mannerOf ⟨rfl, by decide, by decide, by decide +kernel⟩ rfl rfl hR hcs (recvW X hH (by rw [hk_r]; decide) (by rw [hk_r]; decide) (ce_10 hk_r) rfl) (preW X hS hH) rfl hls rfl hsum hdg) (fun _ h => h ▸ kk)
abbrev rmZ_X10_usesLeft : Room := { frames := 2, cells := 0, slots := 0, locals := 42 }
set_option maxHeartbeats 8000000 in
set_option maxRecDepth 100000 in
theorem mZ_X10_usesLeft (l : Launch) (G : gG) (da : Nat → Nat) (v : vSt) (x : gX) (r : Nat) (hk_r : kd r = 10) (p1 : Int32) (ho : oX10_usesLeft r p1 v) (hok : (fX10_usesLeft r p1 v).1 = 0) : QI l yX10_usesLeft cX10_usesLeft 2 (some .int) rmZ_X10_usesLeft [.ref (ga G r), .int p1] (pW G da v x) ((fX10_usesLeft r p1 v).2) := by
  refine gofQ (own := RX10) (by decide) rfl (Nat.le_of_ble_eq_true rfl) (fun p e s m args below meth c ls Q X hH hl E => ?_)
  have hx := X.1
  have hb := X.2.1
  have hown := X.2.2.2.1
  have hts := X.2.2.2.2.1
  have hS : va_S (gA G) s.heap s.heap [] := va_S.rf
  unfold oX10_usesLeft at ho
  have hl : lv_has ls 2 [(0, .ref (ga G r)), (1, .int p1)] := hl
  refine lv_iconst (v := 0) hx hb dX10_usesLeft_0 (by decide) ?_
  refine lv_bipush (v := 30) hx hb dX10_usesLeft_1 (by decide) ?_
  refine lv_aload_n hx hb dX10_usesLeft_3 rfl (lv_at hl 0 rfl) ?_
  refine lv_iload_n hx hb dX10_usesLeft_4 rfl (lv_at hl 1 rfl) ?_
  have hq1 := ho.1
  have ho := ho.2
  have c2 : (fX10_needTool r p1 v).1 = 0 := Decidable.byContradiction (fun c2 => c2 ((pr1 ((fX10_usesLeft.eq_1 _ _ _).trans ((if_neg c2).trans rfl))).trans hok))
  refine kZ_X10_needTool X hS hH hk_r hq1 c2 t_ml_VernierDrawers_181 hl.1 (Nat.le_of_ble_eq_true rfl) ⟨Nat.le_of_ble_eq_true rfl, Nat.le_of_ble_eq_true rfl⟩ ⟨Nat.zero_le _, Nat.zero_le _⟩ dX10_usesLeft_5 ?_
  have ho := ho c2
  have hq3 := ho
  refine g_VernierDrawers_205 X hH hq3 dX10_usesLeft_8 ?_
  refine lv_isub hx hb dX10_usesLeft_11 ?_
  refine k_mmax X t_ml_VernierDrawers_208 hl.1 ⟨Nat.le_of_ble_eq_true rfl, Nat.le_of_ble_eq_true rfl⟩ ⟨Nat.zero_le _, Nat.zero_le _⟩ dX10_usesLeft_12 ?_
  exact E _ _ _ dX10_usesLeft_15 rfl (pr2 ((fX10_usesLeft.eq_1 _ _ _).trans ((if_pos c2).trans rfl)))
theorem kZ_X10_usesLeft {p : Program} {l : Launch} {e : Env} {R : Room} {s : State} {m : MethodId} {args : Array Value} {below : List Frame} {meth : Method} {c : Code} {H : Heap} {locs : List Loc} {cells slots : Nat} {Q : State → Prop} {cc : ByteArray} {pc nL : Nat} {ls : Array Slot} {rest : List Value} {G : gG} {own : String} {da : Nat → Nat} {v : vSt} {x : gX} (X : CX G p s m args c cc nL own) (hS : va_S (gA G) s.heap H locs) (hH : Hp G da v x H) {r : Nat} (hk_r : kd r = 10) {p1 : Int32} (ho : oX10_usesLeft r p1 v) (hok : (fX10_usesLeft r p1 v).1 = 0) {idx : Nat} (hml : Cond.methodLink own idx yX10_usesLeft ∈ TT) (hls : ls.size = nL) (hsum : (rest.map fun v => v.category).sum ≤ 8) (hR : rmZ_X10_usesLeft.frames + 1 ≤ R.frames ∧ 8 + (2 + 11) + rmZ_X10_usesLeft.locals ≤ R.locals) (hcs : cells ≤ R.cells ∧ slots ≤ R.slots) (hdg : decode cc pc = .ok (.invokevirtual idx, 3)) (kk : W p l e R s m args below meth c H locs cells slots Q (F0 m (pc + 3) ls (.int ((fX10_usesLeft r p1 v).2) :: rest))) : W p l e R s m args below meth c H locs cells slots Q (F0 m pc ls (.int p1 :: .ref (ga G r) :: rest)) := c_qi (runV (k := 1) X.1 X.2.1 X.2.2.1 X.2.2.2.1 X.2.2.2.2.1 (mZ_X10_usesLeft l G da v x r hk_r p1 ho hok) pW_bl hml t_im_X10_usesLeft t_sel_X10_usesLeft t_ini_VernierDrawers t_code_X10_usesLeft ⟨rfl, by decide, by decide, by decide +kernel⟩ rfl rfl hR hcs (recvW X hH (by rw [hk_r]; decide) (by rw [hk_r]; decide) (ce_10 hk_r) rfl) (preW X hS hH) rfl hls rfl hsum hdg) (fun _ h => h ▸ kk)
abbrev rmZ_X10_recordOf : Room := { frames := 2, cells := 0, slots := 0, locals := 42 }
set_option maxHeartbeats 8000000 in
set_option maxRecDepth 100000 in
theorem mZ_X10_recordOf (l : Launch) (G : gG) (da : Nat → Nat) (v : vSt) (x : gX) (r : Nat) (hk_r : kd r = 10) (p1 : Int32) (ho : oX10_recordOf r p1 v) (hok : (fX10_recordOf r p1 v).1 = 0) : QI l yX10_recordOf cX10_recordOf 2 (some .int) rmZ_X10_recordOf [.ref (ga G r), .int p1] (pW G da v x) ((fX10_recordOf r p1 v).2) := by
  refine gofQ (own := RX10) (by decide) rfl (Nat.le_of_ble_eq_true rfl) (fun p e s m args below meth c ls Q X hH hl E => ?_)
  have hx := X.1
  have hb := X.2.1
  have hown := X.2.2.2.1
  have hts := X.2.2.2.2.1
  have hS : va_S (gA G) s.heap s.heap [] := va_S.rf
  unfold oX10_recordOf at ho
  have hl : lv_has ls 2 [(0, .ref (ga G r)), (1, .int p1)] := hl
  refine lv_aload_n hx hb dX10_recordOf_0 rfl (lv_at hl 0 rfl) ?_
  refine lv_iload_n hx hb dX10_recordOf_1 rfl (lv_at hl 1 rfl) ?_
  have hq1 := ho.1
  have ho := ho.2
  have c2 : (fX10_needType r p1 v).1 = 0 := Decidable.byContradiction (fun c2 => c2 ((pr1 ((fX10_recordOf.eq_1 _ _ _).trans ((if_neg c2).trans rfl))).trans hok))
  refine kZ_X10_needType X hS hH hk_r hq1 c2 t_ml_VernierDrawers_167 hl.1 (Nat.le_of_ble_eq_true rfl) ⟨Nat.le_of_ble_eq_true rfl, Nat.le_of_ble_eq_true rfl⟩ ⟨Nat.zero_le _, Nat.zero_le _⟩ dX10_recordOf_2 ?_
  have ho := ho c2
  have hq3 := ho
  refine g_VernierDrawers_328 X hH hq3 dX10_recordOf_5 ?_
  exact E _ _ _ dX10_recordOf_8 rfl (pr2 ((fX10_recordOf.eq_1 _ _ _).trans ((if_pos c2).trans rfl)))
theorem kZ_X10_recordOf {p : Program} {l : Launch} {e : Env} {R : Room} {s : State} {m : MethodId} {args : Array Value} {below : List Frame} {meth : Method} {c : Code} {H : Heap} {locs : List Loc} {cells slots : Nat} {Q : State → Prop} {cc : ByteArray} {pc nL : Nat} {ls : Array Slot} {rest : List Value} {G : gG} {own : String} {da : Nat → Nat} {v : vSt} {x : gX} (X : CX G p s m args c cc nL own) (hS : va_S (gA G) s.heap H locs) (hH : Hp G da v x H) {r : Nat} (hk_r : kd r = 10) {p1 : Int32} (ho : oX10_recordOf r p1 v) (hok : (fX10_recordOf r p1 v).1 = 0) {idx : Nat} (hml : Cond.methodLink own idx yX10_recordOf ∈ TT) (hls : ls.size = nL) (hsum : (rest.map fun v => v.category).sum ≤ 8) (hR : rmZ_X10_recordOf.frames + 1 ≤ R.frames ∧ 8 + (2 + 11) + rmZ_X10_recordOf.locals ≤ R.locals) (hcs : cells ≤ R.cells ∧ slots ≤ R.slots) (hdg : decode cc pc = .ok (.invokevirtual idx, 3)) (kk : W p l e R s m args below meth c H locs cells slots Q (F0 m (pc + 3) ls (.int ((fX10_recordOf r p1 v).2) :: rest))) : W p l e R s m args below meth c H locs cells slots Q (F0 m pc ls (.int p1 :: .ref (ga G r) :: rest)) := c_qi (runV (k := 1) X.1 X.2.1 X.2.2.1 X.2.2.2.1 X.2.2.2.2.1 (mZ_X10_recordOf l G da v x r hk_r p1 ho hok) pW_bl hml t_im_X10_recordOf t_sel_X10_recordOf t_ini_VernierDrawers t_code_X10_recordOf ⟨rfl, by decide, by decide, by decide +kernel⟩ rfl rfl hR hcs (recvW X hH (by rw [hk_r]; decide) (by rw [hk_r]; decide) (ce_10 hk_r) rfl) (preW X hS hH) rfl hls rfl hsum hdg) (fun _ h => h ▸ kk)
abbrev rmZ_X10_typeAt : Room := { frames := 2, cells := 0, slots := 0, locals := 42 }
set_option maxHeartbeats 8000000 in
set_option maxRecDepth 100000 in
theorem mZ_X10_typeAt (l : Launch) (G : gG) (da : Nat → Nat) (v : vSt) (x : gX) (r : Nat) (hk_r : kd r = 10) (p1 : Int32) (ho : oX10_typeAt r p1 v) (hok : (fX10_typeAt r p1 v).1 = 0) : QI l yX10_typeAt cX10_typeAt 2 (some .int) rmZ_X10_typeAt [.ref (ga G r), .int p1] (pW G da v x) ((fX10_typeAt r p1 v).2) := by
  refine gofQ (own := RX10) (by decide) rfl (Nat.le_of_ble_eq_true rfl) (fun p e s m args below meth c ls Q X hH hl E => ?_)
  have hx := X.1
  have hb := X.2.1
  have hown := X.2.2.2.1
  have hts := X.2.2.2.2.1
  have hS : va_S (gA G) s.heap s.heap [] := va_S.rf
  unfold oX10_typeAt at ho
  have hl : lv_has ls 2 [(0, .ref (ga G r)), (1, .int p1)] := hl
  refine lv_iload_n hx hb dX10_typeAt_0 rfl (lv_at hl 1 rfl) ?_
  refine lv_aload_n hx hb dX10_typeAt_1 rfl (lv_at hl 0 rfl) ?_
  refine g_VernierDrawers_10 X hH hk_r dX10_typeAt_2 ?_
  have hq1 := ho
  refine g_VernierDrawers_126 X hH hq1 dX10_typeAt_5 ?_
  refine g_VernierDrawers_282 X hH (kc_7_0 hq1) dX10_typeAt_8 ?_
  refine g_VernierDrawers_286 X hH (Or.inl (kc_0_5 (kc_7_0 hq1))) dX10_typeAt_11 ?_
  have c2 : fX10_needPlace p1 (v (((rN (v r 0)) + 2) + 4) 3) v = 0 := Decidable.byContradiction (fun c2 => c2 ((pr1 ((fX10_typeAt.eq_1 _ _ _).trans ((if_neg c2).trans rfl))).trans hok))
  refine kZ_X10_needPlace X hS hH c2 t_ml_VernierDrawers_291 hl.1 (Nat.le_of_ble_eq_true rfl) ⟨Nat.le_of_ble_eq_true rfl, Nat.le_of_ble_eq_true rfl⟩ ⟨Nat.zero_le _, Nat.zero_le _⟩ dX10_typeAt_14 ?_
  refine lv_aload_n hx hb dX10_typeAt_17 rfl (lv_at hl 0 rfl) ?_
  refine g_VernierDrawers_10 X hH hk_r dX10_typeAt_18 ?_
  refine g_VernierDrawers_126 X hH hq1 dX10_typeAt_21 ?_
  refine g_VernierDrawers_282 X hH (kc_7_0 hq1) dX10_typeAt_24 ?_
  refine lv_iload_n hx hb dX10_typeAt_27 rfl (lv_at hl 1 rfl) ?_
  refine k_X5_typeOfPiece X hS hH (Or.inl (kc_0_5 (kc_7_0 hq1))) t_ml_VernierDrawers_295 hl.1 (Nat.le_of_ble_eq_true rfl) ⟨Nat.le_of_ble_eq_true rfl, Nat.le_of_ble_eq_true rfl⟩ ⟨Nat.zero_le _, Nat.zero_le _⟩ dX10_typeAt_28 ?_
  exact E _ _ _ dX10_typeAt_31 rfl (pr2 ((fX10_typeAt.eq_1 _ _ _).trans ((if_pos c2).trans rfl)))
theorem kZ_X10_typeAt {p : Program} {l : Launch} {e : Env} {R : Room} {s : State} {m : MethodId} {args : Array Value} {below : List Frame} {meth : Method} {c : Code} {H : Heap} {locs : List Loc} {cells slots : Nat} {Q : State → Prop} {cc : ByteArray} {pc nL : Nat} {ls : Array Slot} {rest : List Value} {G : gG} {own : String} {da : Nat → Nat} {v : vSt} {x : gX} (X : CX G p s m args c cc nL own) (hS : va_S (gA G) s.heap H locs) (hH : Hp G da v x H) {r : Nat} (hk_r : kd r = 10) {p1 : Int32} (ho : oX10_typeAt r p1 v) (hok : (fX10_typeAt r p1 v).1 = 0) {idx : Nat} (hml : Cond.methodLink own idx yX10_typeAt ∈ TT) (hls : ls.size = nL) (hsum : (rest.map fun v => v.category).sum ≤ 8) (hR : rmZ_X10_typeAt.frames + 1 ≤ R.frames ∧ 8 + (2 + 11) + rmZ_X10_typeAt.locals ≤ R.locals) (hcs : cells ≤ R.cells ∧ slots ≤ R.slots) (hdg : decode cc pc = .ok (.invokevirtual idx, 3)) (kk : W p l e R s m args below meth c H locs cells slots Q (F0 m (pc + 3) ls (.int ((fX10_typeAt r p1 v).2) :: rest))) : W p l e R s m args below meth c H locs cells slots Q (F0 m pc ls (.int p1 :: .ref (ga G r) :: rest)) := c_qi (runV (k := 1) X.1 X.2.1 X.2.2.1 X.2.2.2.1 X.2.2.2.2.1 (mZ_X10_typeAt l G da v x r hk_r p1 ho hok) pW_bl hml t_im_X10_typeAt t_sel_X10_typeAt t_ini_VernierDrawers t_code_X10_typeAt ⟨rfl, by decide, by decide, by decide +kernel⟩ rfl rfl hR hcs (recvW X hH (by rw [hk_r]; decide) (by rw [hk_r]; decide) (ce_10 hk_r) rfl) (preW X hS hH) rfl hls rfl hsum hdg) (fun _ h => h ▸ kk)
abbrev rmZ_X10_badOf : Room := { frames := 2, cells := 0, slots := 0, locals := 44 }
set_option maxHeartbeats 8000000 in
set_option maxRecDepth 100000 in
theorem mZ_X10_badOf (l : Launch) (G : gG) (da : Nat → Nat) (v : vSt) (x : gX) (r : Nat) (hk_r : kd r = 10) (p1 : Int32) (ho : oX10_badOf r p1 v) (hok : (fX10_badOf r p1 v).1 = 0) : QI l yX10_badOf cX10_badOf 2 (some .int) rmZ_X10_badOf [.ref (ga G r), .int p1] (pW G da v x) ((fX10_badOf r p1 v).2) := by
  refine gofQ (own := RX10) (by decide) rfl (Nat.le_of_ble_eq_true rfl) (fun p e s m args below meth c ls Q X hH hl E => ?_)
  have hx := X.1
  have hb := X.2.1
  have hown := X.2.2.2.1
  have hts := X.2.2.2.2.1
  have hS : va_S (gA G) s.heap s.heap [] := va_S.rf
  unfold oX10_badOf at ho
  have hl : lv_has ls 2 [(0, .ref (ga G r)), (1, .int p1)] := hl
  refine lv_aload_n hx hb dX10_badOf_0 rfl (lv_at hl 0 rfl) ?_
  refine lv_iload_n hx hb dX10_badOf_1 rfl (lv_at hl 1 rfl) ?_
  have hq1 := ho.1
  have ho := ho.2
  have c2 : (fX10_needType r p1 v).1 = 0 := Decidable.byContradiction (fun c2 => c2 ((pr1 ((fX10_badOf.eq_1 _ _ _).trans ((if_neg c2).trans rfl))).trans hok))
  refine kZ_X10_needType X hS hH hk_r hq1 c2 t_ml_VernierDrawers_167 hl.1 (Nat.le_of_ble_eq_true rfl) ⟨Nat.le_of_ble_eq_true rfl, Nat.le_of_ble_eq_true rfl⟩ ⟨Nat.zero_le _, Nat.zero_le _⟩ dX10_badOf_2 ?_
  have ho := ho c2
  have hq3 := ho
  refine lv_bipush (v := 10) hx hb dX10_badOf_5 (by decide) ?_
  refine k_X4_badOfLatest X hS hH hq3 t_ml_VernierDrawers_331 hl.1 (Nat.le_of_ble_eq_true rfl) ⟨Nat.le_of_ble_eq_true rfl, Nat.le_of_ble_eq_true rfl⟩ ⟨Nat.zero_le _, Nat.zero_le _⟩ dX10_badOf_7 ?_
  exact E _ _ _ dX10_badOf_10 rfl (pr2 ((fX10_badOf.eq_1 _ _ _).trans ((if_pos c2).trans rfl)))
theorem kZ_X10_badOf {p : Program} {l : Launch} {e : Env} {R : Room} {s : State} {m : MethodId} {args : Array Value} {below : List Frame} {meth : Method} {c : Code} {H : Heap} {locs : List Loc} {cells slots : Nat} {Q : State → Prop} {cc : ByteArray} {pc nL : Nat} {ls : Array Slot} {rest : List Value} {G : gG} {own : String} {da : Nat → Nat} {v : vSt} {x : gX} (X : CX G p s m args c cc nL own) (hS : va_S (gA G) s.heap H locs) (hH : Hp G da v x H) {r : Nat} (hk_r : kd r = 10) {p1 : Int32} (ho : oX10_badOf r p1 v) (hok : (fX10_badOf r p1 v).1 = 0) {idx : Nat} (hml : Cond.methodLink own idx yX10_badOf ∈ TT) (hls : ls.size = nL) (hsum : (rest.map fun v => v.category).sum ≤ 8) (hR : rmZ_X10_badOf.frames + 1 ≤ R.frames ∧ 8 + (2 + 11) + rmZ_X10_badOf.locals ≤ R.locals) (hcs : cells ≤ R.cells ∧ slots ≤ R.slots) (hdg : decode cc pc = .ok (.invokevirtual idx, 3)) (kk : W p l e R s m args below meth c H locs cells slots Q (F0 m (pc + 3) ls (.int ((fX10_badOf r p1 v).2) :: rest))) : W p l e R s m args below meth c H locs cells slots Q (F0 m pc ls (.int p1 :: .ref (ga G r) :: rest)) := c_qi (runV (k := 1) X.1 X.2.1 X.2.2.1 X.2.2.2.1 X.2.2.2.2.1 (mZ_X10_badOf l G da v x r hk_r p1 ho hok) pW_bl hml t_im_X10_badOf t_sel_X10_badOf t_ini_VernierDrawers t_code_X10_badOf ⟨rfl, by decide, by decide, by decide +kernel⟩ rfl rfl hR hcs (recvW X hH (by rw [hk_r]; decide) (by rw [hk_r]; decide) (ce_10 hk_r) rfl) (preW X hS hH) rfl hls rfl hsum hdg) (fun _ h => h ▸ kk)
abbrev rmZ_X10_charted : Room := { frames := 2, cells := 0, slots := 0, locals := 42 }
set_option maxHeartbeats 8000000 in
set_option maxRecDepth 100000 in
theorem mZ_X10_charted (l : Launch) (G : gG) (da : Nat → Nat) (v : vSt) (x : gX) (r : Nat) (hk_r : kd r = 10) (p1 : Int32) (ho : oX10_charted r p1 v) (hok : (fX10_charted r p1 v).1 = 0) : QI l yX10_charted cX10_charted 2 (some .int) rmZ_X10_charted [.ref (ga G r), .int p1] (pW G da v x) ((fX10_charted r p1 v).2) := by
  refine gofQ (own := RX10) (by decide) rfl (Nat.le_of_ble_eq_true rfl) (fun p e s m args below meth c ls Q X hH hl E => ?_)
  have hx := X.1
  have hb := X.2.1
  have hown := X.2.2.2.1
  have hts := X.2.2.2.2.1
  have hS : va_S (gA G) s.heap s.heap [] := va_S.rf
  unfold oX10_charted at ho
  have hl : lv_has ls 2 [(0, .ref (ga G r)), (1, .int p1)] := hl
  refine lv_aload_n hx hb dX10_charted_0 rfl (lv_at hl 0 rfl) ?_
  refine lv_iload_n hx hb dX10_charted_1 rfl (lv_at hl 1 rfl) ?_
  have hq1 := ho.1
  have ho := ho.2
  have c2 : (fX10_needType r p1 v).1 = 0 := Decidable.byContradiction (fun c2 => c2 ((pr1 ((fX10_charted.eq_1 _ _ _).trans ((if_neg c2).trans rfl))).trans hok))
  refine kZ_X10_needType X hS hH hk_r hq1 c2 t_ml_VernierDrawers_167 hl.1 (Nat.le_of_ble_eq_true rfl) ⟨Nat.le_of_ble_eq_true rfl, Nat.le_of_ble_eq_true rfl⟩ ⟨Nat.zero_le _, Nat.zero_le _⟩ dX10_charted_2 ?_
  have ho := ho c2
  have hq3 := ho
  refine g_VernierDrawers_339 X hH hq3 dX10_charted_5 ?_
  exact E _ _ _ dX10_charted_8 rfl (pr2 ((fX10_charted.eq_1 _ _ _).trans ((if_pos c2).trans rfl)))
theorem kZ_X10_charted {p : Program} {l : Launch} {e : Env} {R : Room} {s : State} {m : MethodId} {args : Array Value} {below : List Frame} {meth : Method} {c : Code} {H : Heap} {locs : List Loc} {cells slots : Nat} {Q : State → Prop} {cc : ByteArray} {pc nL : Nat} {ls : Array Slot} {rest : List Value} {G : gG} {own : String} {da : Nat → Nat} {v : vSt} {x : gX} (X : CX G p s m args c cc nL own) (hS : va_S (gA G) s.heap H locs) (hH : Hp G da v x H) {r : Nat} (hk_r : kd r = 10) {p1 : Int32} (ho : oX10_charted r p1 v) (hok : (fX10_charted r p1 v).1 = 0) {idx : Nat} (hml : Cond.methodLink own idx yX10_charted ∈ TT) (hls : ls.size = nL) (hsum : (rest.map fun v => v.category).sum ≤ 8) (hR : rmZ_X10_charted.frames + 1 ≤ R.frames ∧ 8 + (2 + 11) + rmZ_X10_charted.locals ≤ R.locals) (hcs : cells ≤ R.cells ∧ slots ≤ R.slots) (hdg : decode cc pc = .ok (.invokevirtual idx, 3)) (kk : W p l e R s m args below meth c H locs cells slots Q (F0 m (pc + 3) ls (.int ((fX10_charted r p1 v).2) :: rest))) : W p l e R s m args below meth c H locs cells slots Q (F0 m pc ls (.int p1 :: .ref (ga G r) :: rest)) := c_qi (runV (k := 1) X.1 X.2.1 X.2.2.1 X.2.2.2.1 X.2.2.2.2.1 (mZ_X10_charted l G da v x r hk_r p1 ho hok) pW_bl hml t_im_X10_charted t_sel_X10_charted t_ini_VernierDrawers t_code_X10_charted ⟨rfl, by decide, by decide, by decide +kernel⟩ rfl rfl hR hcs (recvW X hH (by rw [hk_r]; decide) (by rw [hk_r]; decide) (ce_10 hk_r) rfl) (preW X hS hH) rfl hls rfl hsum hdg) (fun _ h => h ▸ kk)
abbrev rmZ_X10_usesOf : Room := { frames := 2, cells := 0, slots := 0, locals := 42 }
set_option maxHeartbeats 8000000 in
set_option maxRecDepth 100000 in
theorem mZ_X10_usesOf (l : Launch) (G : gG) (da : Nat → Nat) (v : vSt) (x : gX) (r : Nat) (hk_r : kd r = 10) (p1 : Int32) (ho : oX10_usesOf r p1 v) (hok : (fX10_usesOf r p1 v).1 = 0) : QI l yX10_usesOf cX10_usesOf 2 (some .int) rmZ_X10_usesOf [.ref (ga G r), .int p1] (pW G da v x) ((fX10_usesOf r p1 v).2) := by
  refine gofQ (own := RX10) (by decide) rfl (Nat.le_of_ble_eq_true rfl) (fun p e s m args below meth c ls Q X hH hl E => ?_)
  have hx := X.1
  have hb := X.2.1
  have hown := X.2.2.2.1
  have hts := X.2.2.2.2.1
  have hS : va_S (gA G) s.heap s.heap [] := va_S.rf
  unfold oX10_usesOf at ho
  have hl : lv_has ls 2 [(0, .ref (ga G r)), (1, .int p1)] := hl
  refine lv_aload_n hx hb dX10_usesOf_0 rfl (lv_at hl 0 rfl) ?_
  refine lv_iload_n hx hb dX10_usesOf_1 rfl (lv_at hl 1 rfl) ?_
  have hq1 := ho.1
  have ho := ho.2
  have c2 : (fX10_needTool r p1 v).1 = 0 := Decidable.byContradiction (fun c2 => c2 ((pr1 ((fX10_usesOf.eq_1 _ _ _).trans ((if_neg c2).trans rfl))).trans hok))
  refine kZ_X10_needTool X hS hH hk_r hq1 c2 t_ml_VernierDrawers_181 hl.1 (Nat.le_of_ble_eq_true rfl) ⟨Nat.le_of_ble_eq_true rfl, Nat.le_of_ble_eq_true rfl⟩ ⟨Nat.zero_le _, Nat.zero_le _⟩ dX10_usesOf_2 ?_
  have ho := ho c2
  have hq3 := ho
  refine g_VernierDrawers_193 X hH hq3 dX10_usesOf_5 ?_
  exact E _ _ _ dX10_usesOf_8 rfl (pr2 ((fX10_usesOf.eq_1 _ _ _).trans ((if_pos c2).trans rfl)))
theorem kZ_X10_usesOf {p : Program} {l : Launch} {e : Env} {R : Room} {s : State} {m : MethodId} {args : Array Value} {below : List Frame} {meth : Method} {c : Code} {H : Heap} {locs : List Loc} {cells slots : Nat} {Q : State → Prop} {cc : ByteArray} {pc nL : Nat} {ls : Array Slot} {rest : List Value} {G : gG} {own : String} {da : Nat → Nat} {v : vSt} {x : gX} (X : CX G p s m args c cc nL own) (hS : va_S (gA G) s.heap H locs) (hH : Hp G da v x H) {r : Nat} (hk_r : kd r = 10) {p1 : Int32} (ho : oX10_usesOf r p1 v) (hok : (fX10_usesOf r p1 v).1 = 0) {idx : Nat} (hml : Cond.methodLink own idx yX10_usesOf ∈ TT) (hls : ls.size = nL) (hsum : (rest.map fun v => v.category).sum ≤ 8) (hR : rmZ_X10_usesOf.frames + 1 ≤ R.frames ∧ 8 + (2 + 11) + rmZ_X10_usesOf.locals ≤ R.locals) (hcs : cells ≤ R.cells ∧ slots ≤ R.slots) (hdg : decode cc pc = .ok (.invokevirtual idx, 3)) (kk : W p l e R s m args below meth c H locs cells slots Q (F0 m (pc + 3) ls (.int ((fX10_usesOf r p1 v).2) :: rest))) : W p l e R s m args below meth c H locs cells slots Q (F0 m pc ls (.int p1 :: .ref (ga G r) :: rest)) := c_qi (runV (k := 1) X.1 X.2.1 X.2.2.1 X.2.2.2.1 X.2.2.2.2.1 (mZ_X10_usesOf l G da v x r hk_r p1 ho hok) pW_bl hml t_im_X10_usesOf t_sel_X10_usesOf t_ini_VernierDrawers t_code_X10_usesOf ⟨rfl, by decide, by decide, by decide +kernel⟩ rfl rfl hR hcs (recvW X hH (by rw [hk_r]; decide) (by rw [hk_r]; decide) (ce_10 hk_r) rfl) (preW X hS hH) rfl hls rfl hsum hdg) (fun _ h => h ▸ kk)
abbrev rmZ_X10_wearOf : Room := { frames := 2, cells := 0, slots := 0, locals := 42 }
set_option maxHeartbeats 8000000 in
set_option maxRecDepth 100000 in
theorem mZ_X10_wearOf (l : Launch) (G : gG) (da : Nat → Nat) (v : vSt) (x : gX) (r : Nat) (hk_r : kd r = 10) (p1 : Int32) (ho : oX10_wearOf r p1 v) (hok : (fX10_wearOf r p1 v).1 = 0) : QI l yX10_wearOf cX10_wearOf 2 (some .int) rmZ_X10_wearOf [.ref (ga G r), .int p1] (pW G da v x) ((fX10_wearOf r p1 v).2) := by
  refine gofQ (own := RX10) (by decide) rfl (Nat.le_of_ble_eq_true rfl) (fun p e s m args below meth c ls Q X hH hl E => ?_)
  have hx := X.1
  have hb := X.2.1
  have hown := X.2.2.2.1
  have hts := X.2.2.2.2.1
  have hS : va_S (gA G) s.heap s.heap [] := va_S.rf
  unfold oX10_wearOf at ho
  have hl : lv_has ls 2 [(0, .ref (ga G r)), (1, .int p1)] := hl
  refine lv_aload_n hx hb dX10_wearOf_0 rfl (lv_at hl 0 rfl) ?_
  refine lv_iload_n hx hb dX10_wearOf_1 rfl (lv_at hl 1 rfl) ?_
  have hq1 := ho.1
  have ho := ho.2
  have c2 : (fX10_needTool r p1 v).1 = 0 := Decidable.byContradiction (fun c2 => c2 ((pr1 ((fX10_wearOf.eq_1 _ _ _).trans ((if_neg c2).trans rfl))).trans hok))
  refine kZ_X10_needTool X hS hH hk_r hq1 c2 t_ml_VernierDrawers_181 hl.1 (Nat.le_of_ble_eq_true rfl) ⟨Nat.le_of_ble_eq_true rfl, Nat.le_of_ble_eq_true rfl⟩ ⟨Nat.zero_le _, Nat.zero_le _⟩ dX10_wearOf_2 ?_
  have ho := ho c2
  have hq3 := ho
  refine g_VernierDrawers_196 X hH hq3 dX10_wearOf_5 ?_
  exact E _ _ _ dX10_wearOf_8 rfl (pr2 ((fX10_wearOf.eq_1 _ _ _).trans ((if_pos c2).trans rfl)))
theorem kZ_X10_wearOf {p : Program} {l : Launch} {e : Env} {R : Room} {s : State} {m : MethodId} {args : Array Value} {below : List Frame} {meth : Method} {c : Code} {H : Heap} {locs : List Loc} {cells slots : Nat} {Q : State → Prop} {cc : ByteArray} {pc nL : Nat} {ls : Array Slot} {rest : List Value} {G : gG} {own : String} {da : Nat → Nat} {v : vSt} {x : gX} (X : CX G p s m args c cc nL own) (hS : va_S (gA G) s.heap H locs) (hH : Hp G da v x H) {r : Nat} (hk_r : kd r = 10) {p1 : Int32} (ho : oX10_wearOf r p1 v) (hok : (fX10_wearOf r p1 v).1 = 0) {idx : Nat} (hml : Cond.methodLink own idx yX10_wearOf ∈ TT) (hls : ls.size = nL) (hsum : (rest.map fun v => v.category).sum ≤ 8) (hR : rmZ_X10_wearOf.frames + 1 ≤ R.frames ∧ 8 + (2 + 11) + rmZ_X10_wearOf.locals ≤ R.locals) (hcs : cells ≤ R.cells ∧ slots ≤ R.slots) (hdg : decode cc pc = .ok (.invokevirtual idx, 3)) (kk : W p l e R s m args below meth c H locs cells slots Q (F0 m (pc + 3) ls (.int ((fX10_wearOf r p1 v).2) :: rest))) : W p l e R s m args below meth c H locs cells slots Q (F0 m pc ls (.int p1 :: .ref (ga G r) :: rest)) := c_qi (runV (k := 1) X.1 X.2.1 X.2.2.1 X.2.2.2.1 X.2.2.2.2.1 (mZ_X10_wearOf l G da v x r hk_r p1 ho hok) pW_bl hml t_im_X10_wearOf t_sel_X10_wearOf t_ini_VernierDrawers t_code_X10_wearOf ⟨rfl, by decide, by decide, by decide +kernel⟩ rfl rfl hR hcs (recvW X hH (by rw [hk_r]; decide) (by rw [hk_r]; decide) (ce_10 hk_r) rfl) (preW X hS hH) rfl hls rfl hsum hdg) (fun _ h => h ▸ kk)
abbrev rmZ_X10_knownError : Room := { frames := 2, cells := 0, slots := 0, locals := 42 }
set_option maxHeartbeats 8000000 in
set_option maxRecDepth 100000 in
theorem mZ_X10_knownError (l : Launch) (G : gG) (da : Nat → Nat) (v : vSt) (x : gX) (r : Nat) (hk_r : kd r = 10) (p1 : Int32) (ho : oX10_knownError r p1 v) (hok : (fX10_knownError r p1 v).1 = 0) : QI l yX10_knownError cX10_knownError 2 (some .int) rmZ_X10_knownError [.ref (ga G r), .int p1] (pW G da v x) ((fX10_knownError r p1 v).2) := by
  refine gofQ (own := RX10) (by decide) rfl (Nat.le_of_ble_eq_true rfl) (fun p e s m args below meth c ls Q X hH hl E => ?_)
  have hx := X.1
  have hb := X.2.1
  have hown := X.2.2.2.1
  have hts := X.2.2.2.2.1
  have hS : va_S (gA G) s.heap s.heap [] := va_S.rf
  unfold oX10_knownError at ho
  have hl : lv_has ls 2 [(0, .ref (ga G r)), (1, .int p1)] := hl
  refine lv_aload_n hx hb dX10_knownError_0 rfl (lv_at hl 0 rfl) ?_
  refine lv_iload_n hx hb dX10_knownError_1 rfl (lv_at hl 1 rfl) ?_
  have hq1 := ho.1
  have ho := ho.2
  have c2 : (fX10_needTool r p1 v).1 = 0 := Decidable.byContradiction (fun c2 => c2 ((pr1 ((fX10_knownError.eq_1 _ _ _).trans ((if_neg c2).trans rfl))).trans hok))
  refine kZ_X10_needTool X hS hH hk_r hq1 c2 t_ml_VernierDrawers_181 hl.1 (Nat.le_of_ble_eq_true rfl) ⟨Nat.le_of_ble_eq_true rfl, Nat.le_of_ble_eq_true rfl⟩ ⟨Nat.zero_le _, Nat.zero_le _⟩ dX10_knownError_2 ?_
  have ho := ho c2
  have hq3 := ho
  refine g_VernierDrawers_199 X hH hq3 dX10_knownError_5 ?_
  exact E _ _ _ dX10_knownError_8 rfl (pr2 ((fX10_knownError.eq_1 _ _ _).trans ((if_pos c2).trans rfl)))
theorem kZ_X10_knownError {p : Program} {l : Launch} {e : Env} {R : Room} {s : State} {m : MethodId} {args : Array Value} {below : List Frame} {meth : Method} {c : Code} {H : Heap} {locs : List Loc} {cells slots : Nat} {Q : State → Prop} {cc : ByteArray} {pc nL : Nat} {ls : Array Slot} {rest : List Value} {G : gG} {own : String} {da : Nat → Nat} {v : vSt} {x : gX} (X : CX G p s m args c cc nL own) (hS : va_S (gA G) s.heap H locs) (hH : Hp G da v x H) {r : Nat} (hk_r : kd r = 10) {p1 : Int32} (ho : oX10_knownError r p1 v) (hok : (fX10_knownError r p1 v).1 = 0) {idx : Nat} (hml : Cond.methodLink own idx yX10_knownError ∈ TT) (hls : ls.size = nL) (hsum : (rest.map fun v => v.category).sum ≤ 8) (hR : rmZ_X10_knownError.frames + 1 ≤ R.frames ∧ 8 + (2 + 11) + rmZ_X10_knownError.locals ≤ R.locals) (hcs : cells ≤ R.cells ∧ slots ≤ R.slots) (hdg : decode cc pc = .ok (.invokevirtual idx, 3)) (kk : W p l e R s m args below meth c H locs cells slots Q (F0 m (pc + 3) ls (.int ((fX10_knownError r p1 v).2) :: rest))) : W p l e R s m args below meth c H locs cells slots Q (F0 m pc ls (.int p1 :: .ref (ga G r) :: rest)) := c_qi (runV (k := 1) X.1 X.2.1 X.2.2.1 X.2.2.2.1 X.2.2.2.2.1 (mZ_X10_knownError l G da v x r hk_r p1 ho hok) pW_bl hml t_im_X10_knownError t_sel_X10_knownError t_ini_VernierDrawers t_code_X10_knownError ⟨rfl, by decide, by decide, by decide +kernel⟩ rfl rfl hR hcs (recvW X hH (by rw [hk_r]; decide) (by rw [hk_r]; decide) (ce_10 hk_r) rfl) (preW X hS hH) rfl hls rfl hsum hdg) (fun _ h => h ▸ kk)
abbrev rmZ_X10_isDue : Room := { frames := 2, cells := 0, slots := 0, locals := 42 }
set_option maxHeartbeats 8000000 in
set_option maxRecDepth 100000 in
theorem mZ_X10_isDue (l : Launch) (G : gG) (da : Nat → Nat) (v : vSt) (x : gX) (r : Nat) (hk_r : kd r = 10) (p1 : Int32) (ho : oX10_isDue r p1 v) (hok : (fX10_isDue r p1 v).1 = 0) : QI l yX10_isDue cX10_isDue 2 (some .boolean) rmZ_X10_isDue [.ref (ga G r), .int p1] (pW G da v x) ((fX10_isDue r p1 v).2) := by
  refine gofQ (own := RX10) (by decide) rfl (Nat.le_of_ble_eq_true rfl) (fun p e s m args below meth c ls Q X hH hl E => ?_)
  have hx := X.1
  have hb := X.2.1
  have hown := X.2.2.2.1
  have hts := X.2.2.2.2.1
  have hS : va_S (gA G) s.heap s.heap [] := va_S.rf
  unfold oX10_isDue at ho
  have hl : lv_has ls 2 [(0, .ref (ga G r)), (1, .int p1)] := hl
  refine lv_aload_n hx hb dX10_isDue_0 rfl (lv_at hl 0 rfl) ?_
  refine lv_iload_n hx hb dX10_isDue_1 rfl (lv_at hl 1 rfl) ?_
  have hq1 := ho.1
  have ho := ho.2
  have c2 : (fX10_needTool r p1 v).1 = 0 := Decidable.byContradiction (fun c2 => c2 ((pr1 ((fX10_isDue.eq_1 _ _ _).trans ((if_neg c2).trans rfl))).trans hok))
  refine kZ_X10_needTool X hS hH hk_r hq1 c2 t_ml_VernierDrawers_181 hl.1 (Nat.le_of_ble_eq_true rfl) ⟨Nat.le_of_ble_eq_true rfl, Nat.le_of_ble_eq_true rfl⟩ ⟨Nat.zero_le _, Nat.zero_le _⟩ dX10_isDue_2 ?_
  have ho := ho c2
  have hq3 := ho.1
  have ho := ho.2
  refine lv_aload_n hx hb dX10_isDue_5 rfl (lv_at hl 0 rfl) ?_
  refine g_VernierDrawers_10 X hH hk_r dX10_isDue_6 ?_
  have hq4 := ho
  refine g_VernierDrawers_41 X hH hq4 dX10_isDue_9 ?_
  refine g_VernierDrawers_114 X hH (kc_7_2 hq4) dX10_isDue_12 ?_
  refine k_X8_dueOn X hS hH hq3 t_ml_VernierDrawers_202 hl.1 (Nat.le_of_ble_eq_true rfl) ⟨Nat.le_of_ble_eq_true rfl, Nat.le_of_ble_eq_true rfl⟩ ⟨Nat.zero_le _, Nat.zero_le _⟩ dX10_isDue_15 ?_
  exact E _ _ _ dX10_isDue_18 (bn01 b01_X8_dueOn).1 (pr2 ((fX10_isDue.eq_1 _ _ _).trans ((if_pos c2).trans rfl)))
theorem kZ_X10_isDue {p : Program} {l : Launch} {e : Env} {R : Room} {s : State} {m : MethodId} {args : Array Value} {below : List Frame} {meth : Method} {c : Code} {H : Heap} {locs : List Loc} {cells slots : Nat} {Q : State → Prop} {cc : ByteArray} {pc nL : Nat} {ls : Array Slot} {rest : List Value} {G : gG} {own : String} {da : Nat → Nat} {v : vSt} {x : gX} (X : CX G p s m args c cc nL own) (hS : va_S (gA G) s.heap H locs) (hH : Hp G da v x H) {r : Nat} (hk_r : kd r = 10) {p1 : Int32} (ho : oX10_isDue r p1 v) (hok : (fX10_isDue r p1 v).1 = 0) {idx : Nat} (hml : Cond.methodLink own idx yX10_isDue ∈ TT) (hls : ls.size = nL) (hsum : (rest.map fun v => v.category).sum ≤ 8) (hR : rmZ_X10_isDue.frames + 1 ≤ R.frames ∧ 8 + (2 + 11) + rmZ_X10_isDue.locals ≤ R.locals) (hcs : cells ≤ R.cells ∧ slots ≤ R.slots) (hdg : decode cc pc = .ok (.invokevirtual idx, 3)) (kk : W p l e R s m args below meth c H locs cells slots Q (F0 m (pc + 3) ls (.int ((fX10_isDue r p1 v).2) :: rest))) : W p l e R s m args below meth c H locs cells slots Q (F0 m pc ls (.int p1 :: .ref (ga G r) :: rest)) := c_qi (runV (k := 1) X.1 X.2.1 X.2.2.1 X.2.2.2.1 X.2.2.2.2.1 (mZ_X10_isDue l G da v x r hk_r p1 ho hok) pW_bl hml t_im_X10_isDue t_sel_X10_isDue t_ini_VernierDrawers t_code_X10_isDue ⟨rfl, by decide, by decide, by decide +kernel⟩ rfl rfl hR hcs (recvW X hH (by rw [hk_r]; decide) (by rw [hk_r]; decide) (ce_10 hk_r) rfl) (preW X hS hH) rfl hls rfl hsum hdg) (fun _ h => h ▸ kk)
