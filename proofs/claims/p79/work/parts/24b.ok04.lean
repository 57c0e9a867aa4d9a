/-! the methods where they throw nothing -/
abbrev rmZ_X10_readingByLooking : Room := { frames := 5, cells := 0, slots := 0, locals := 116 }
set_option maxHeartbeats 8000000 in
set_option maxRecDepth 100000 in
theorem mZ_X10_readingByLooking (l : Launch) (G : gG) (da : Nat → Nat) (v : vSt) (x : gX) (r : Nat) (hk_r : kd r = 10) (p1 : Int32) (p2 : Int32) (p3 : Int32) (ho : oX10_readingByLooking r p1 p2 p3 v) (hok : (fX10_readingByLooking r p1 p2 p3 v).1 = 0) : QI l yX10_readingByLooking cX10_readingByLooking 5 (some .int) rmZ_X10_readingByLooking [.ref (ga G r), .int p1, .int p2, .int p3] (pW G da v x) ((fX10_readingByLooking r p1 p2 p3 v).2) := by
  refine gofQ (own := RX10) (by decide) rfl (Nat.le_of_ble_eq_true rfl) (fun p e s m args below meth c ls Q X hH hl E => ?_)
  have hx := X.1
  have hb := X.2.1
  have hown := X.2.2.2.1
  have hts := X.2.2.2.2.1
  have hS : va_S (gA G) s.heap s.heap [] := va_S.rf
  unfold oX10_readingByLooking at ho
  have hl : lv_has ls 5 [(0, .ref (ga G r)), (1, .int p1), (2, .int p2), (3, .int p3)] := hl
  refine lv_aload_n hx hb dX10_readingByLooking_0 rfl (lv_at hl 0 rfl) ?_
  refine lv_iload_n hx hb dX10_readingByLooking_1 rfl (lv_at hl 1 rfl) ?_
  refine lv_iload_n hx hb dX10_readingByLooking_2 rfl (lv_at hl 2 rfl) ?_
  refine lv_iload_n hx hb dX10_readingByLooking_3 rfl (lv_at hl 3 rfl) ?_
  have hq1 := ho.1
  have ho := ho.2
  have c2 : (fX10_needReading r p1 p2 p3 v).1 = 0 := Decidable.byContradiction (fun c2 => c2 ((pr1 ((fX10_readingByLooking.eq_1 _ _ _ _ _).trans ((if_neg c2).trans rfl))).trans hok))
  refine kZ_X10_needReading X hS hH hk_r hq1 c2 t_ml_VernierDrawers_218 hl.1 (Nat.le_of_ble_eq_true rfl) ⟨Nat.le_of_ble_eq_true rfl, Nat.le_of_ble_eq_true rfl⟩ ⟨Nat.zero_le _, Nat.zero_le _⟩ dX10_readingByLooking_4 ?_
  have ho := ho c2
  refine lv_pop hx hb dX10_readingByLooking_7 rfl ?_
  refine lv_aload_n hx hb dX10_readingByLooking_8 rfl (lv_at hl 0 rfl) ?_
  refine lv_iload_n hx hb dX10_readingByLooking_9 rfl (lv_at hl 1 rfl) ?_
  have hq3 := ho.1
  have ho := ho.2
  have c4 : (fX10_needTool r p1 v).1 = 0 := Decidable.byContradiction (fun c4 => c4 ((pr1 ((fX10_readingByLooking.eq_1 _ _ _ _ _).trans ((if_pos c2).trans ((if_neg c4).trans rfl)))).trans hok))
  refine kZ_X10_needTool X hS hH hk_r hq3 c4 t_ml_VernierDrawers_181 hl.1 (Nat.le_of_ble_eq_true rfl) ⟨Nat.le_of_ble_eq_true rfl, Nat.le_of_ble_eq_true rfl⟩ ⟨Nat.zero_le _, Nat.zero_le _⟩ dX10_readingByLooking_10 ?_
  have ho := ho c4
  have hq5 := ho.1
  have ho := ho.2
  refine lv_astore (lv' := [(4, .ref (ga G ((fX10_needTool r p1 v).2))), (0, .ref (ga G r)), (1, .int p1), (2, .int p2), (3, .int p3)]) hx hb dX10_readingByLooking_13 hl (by decide) rfl (fun ls hl => ?_)
  refine lv_aload hx hb dX10_readingByLooking_15 (lv_at hl 0 rfl) ?_
  refine lv_aload_n hx hb dX10_readingByLooking_17 rfl (lv_at hl 1 rfl) ?_
  refine g_VernierDrawers_10 X hH hk_r dX10_readingByLooking_18 ?_
  have hq6 := ho.1
  have ho := ho.2
  refine g_VernierDrawers_41 X hH hq6 dX10_readingByLooking_21 ?_
  refine lv_aload hx hb dX10_readingByLooking_24 (lv_at hl 0 rfl) ?_
  refine lv_iload_n hx hb dX10_readingByLooking_26 rfl (lv_at hl 3 rfl) ?_
  refine lv_iload_n hx hb dX10_readingByLooking_27 rfl (lv_at hl 4 rfl) ?_
  refine k_X2_shown X hS hH (kc_7_2 hq6) hq5 t_ml_VernierDrawers_221 hl.1 (Nat.le_of_ble_eq_true rfl) ⟨Nat.le_of_ble_eq_true rfl, Nat.le_of_ble_eq_true rfl⟩ ⟨Nat.zero_le _, Nat.zero_le _⟩ dX10_readingByLooking_28 ?_
  have hq7 := ho
  refine k_X8_nearestLine X hS hH hq5 hq7 t_ml_VernierDrawers_225 hl.1 (Nat.le_of_ble_eq_true rfl) ⟨Nat.le_of_ble_eq_true rfl, Nat.le_of_ble_eq_true rfl⟩ ⟨Nat.zero_le _, Nat.zero_le _⟩ dX10_readingByLooking_31 ?_
  exact E _ _ _ dX10_readingByLooking_34 rfl (pr2 ((fX10_readingByLooking.eq_1 _ _ _ _ _).trans ((if_pos c2).trans ((if_pos c4).trans rfl))))
theorem kZ_X10_readingByLooking {p : Program} {l : Launch} {e : Env} {R : Room} {s : State} {m : MethodId} {args : Array Value} {below : List Frame} {meth : Method} {c : Code} {H : Heap} {locs : List Loc} {cells slots : Nat} {Q : State → Prop} {cc : ByteArray} {pc nL : Nat} {ls : Array Slot} {rest : List Value} {G : gG} {own : String} {da : Nat → Nat} {v : vSt} {x : gX} (X : CX G p s m args c cc nL own) (hS : va_S (gA G) s.heap H locs) (hH : Hp G da v x H) {r : Nat} (hk_r : kd r = 10) {p1 : Int32} {p2 : Int32} {p3 : Int32} (ho : oX10_readingByLooking r p1 p2 p3 v) (hok : (fX10_readingByLooking r p1 p2 p3 v).1 = 0) {idx : Nat} (hml : Cond.methodLink own idx yX10_readingByLooking ∈ TT) (hls : ls.size = nL) (hsum : (rest.map fun v => v.category).sum ≤ 8) (hR : rmZ_X10_readingByLooking.frames + 1 ≤ R.frames ∧ 8 + (5 + 11) + rmZ_X10_readingByLooking.locals ≤ R.locals) (hcs : cells ≤ R.cells ∧ slots ≤ R.slots) (hdg : decode cc pc = .ok (.invokevirtual idx, 3)) (kk : W p l e R s m args below meth c H locs cells slots Q (F0 m (pc + 3) ls (.int ((fX10_readingByLooking r p1 p2 p3 v).2) :: rest))) : W p l e R s m args below meth c H locs cells slots Q (F0 m pc ls (.int p3 :: .int p2 :: .int p1 :: .ref (ga G r) :: rest)) := c_qi (runV (k := 3) X.1 X.2.1 X.2.2.1 X.2.2.2.1 X.2.2.2.2.1 (mZ_X10_readingByLooking l G da v x r hk_r p1 p2 p3 ho hok) pW_bl hml t_im_X10_readingByLooking t_sel_X10_readingByLooking t_ini_VernierDrawers t_code_X10_readingByLooking ⟨rfl, by decide, by decide, by decide +kernel⟩ rfl rfl hR hcs (recvW X hH (by rw [hk_r]; decide) (by rw [hk_r]; decide) (ce_10 hk_r) rfl) (preW X hS hH) rfl hls rfl hsum hdg) (fun _ h => h ▸ kk)
abbrev rmZ_X10_fewestByTrying : Room := { frames := 4, cells := 0, slots := 0, locals := 92 }
set_option maxHeartbeats 8000000 in
set_option maxRecDepth 100000 in
theorem mZ_X10_fewestByTrying (l : Launch) (G : gG) (da : Nat → Nat) (v : vSt) (x : gX) (r : Nat) (hk_r : kd r = 10) (p1 : Int32) (ho : oX10_fewestByTrying r p1 v) (hok : (fX10_fewestByTrying r p1 v).1 = 0) : QI l yX10_fewestByTrying cX10_fewestByTrying 2 (some .int) rmZ_X10_fewestByTrying [.ref (ga G r), .int p1] (pW G da v x) ((fX10_fewestByTrying r p1 v).2) := by
  refine gofQ (own := RX10) (by decide) rfl (Nat.le_of_ble_eq_true rfl) (fun p e s m args below meth c ls Q X hH hl E => ?_)
  have hx := X.1
  have hb := X.2.1
  have hown := X.2.2.2.1
  have hts := X.2.2.2.2.1
  have hS : va_S (gA G) s.heap s.heap [] := va_S.rf
  unfold oX10_fewestByTrying at ho
  have hl : lv_has ls 2 [(0, .ref (ga G r)), (1, .int p1)] := hl
  refine lv_aload_n hx hb dX10_fewestByTrying_0 rfl (lv_at hl 0 rfl) ?_
  refine lv_iload_n hx hb dX10_fewestByTrying_1 rfl (lv_at hl 1 rfl) ?_
  have hq1 := ho
  have c2 : (fX10_needStack r p1 v).1 = 0 := Decidable.byContradiction (fun c2 => c2 ((pr1 ((fX10_fewestByTrying.eq_1 _ _ _).trans ((if_neg c2).trans rfl))).trans hok))
  refine kZ_X10_needStack X hS hH hk_r hq1 c2 t_ml_VernierDrawers_264 hl.1 (Nat.le_of_ble_eq_true rfl) ⟨Nat.le_of_ble_eq_true rfl, Nat.le_of_ble_eq_true rfl⟩ ⟨Nat.zero_le _, Nat.zero_le _⟩ dX10_fewestByTrying_2 ?_
  refine k_J6_bitCount_0f7a4 X hS  t_ml_VernierDrawers_267 hl.1 (Nat.le_of_ble_eq_true rfl) ⟨Nat.le_of_ble_eq_true rfl, Nat.le_of_ble_eq_true rfl⟩ ⟨Nat.zero_le _, Nat.zero_le _⟩ dX10_fewestByTrying_5 ?_
  exact E _ _ _ dX10_fewestByTrying_8 rfl (pr2 ((fX10_fewestByTrying.eq_1 _ _ _).trans ((if_pos c2).trans rfl)))
theorem kZ_X10_fewestByTrying {p : Program} {l : Launch} {e : Env} {R : Room} {s : State} {m : MethodId} {args : Array Value} {below : List Frame} {meth : Method} {c : Code} {H : Heap} {locs : List Loc} {cells slots : Nat} {Q : State → Prop} {cc : ByteArray} {pc nL : Nat} {ls : Array Slot} {rest : List Value} {G : gG} {own : String} {da : Nat → Nat} {v : vSt} {x : gX} (X : CX G p s m args c cc nL own) (hS : va_S (gA G) s.heap H locs) (hH : Hp G da v x H) {r : Nat} (hk_r : kd r = 10) {p1 : Int32} (ho : oX10_fewestByTrying r p1 v) (hok : (fX10_fewestByTrying r p1 v).1 = 0) {idx : Nat} (hml : Cond.methodLink own idx yX10_fewestByTrying ∈ TT) (hls : ls.size = nL) (hsum : (rest.map fun v => v.category).sum ≤ 8) (hR : rmZ_X10_fewestByTrying.frames + 1 ≤ R.frames ∧ 8 + (2 + 11) + rmZ_X10_fewestByTrying.locals ≤ R.locals) (hcs : cells ≤ R.cells ∧ slots ≤ R.slots) (hdg : decode cc pc = .ok (.invokevirtual idx, 3)) (kk : W p l e R s m args below meth c H locs cells slots Q (F0 m (pc + 3) ls (.int ((fX10_fewestByTrying r p1 v).2) :: rest))) : W p l e R s m args below meth c H locs cells slots Q (F0 m pc ls (.int p1 :: .ref (ga G r) :: rest)) := c_qi (runV (k := 1) X.1 X.2.1 X.2.2.1 X.2.2.2.1 X.2.2.2.2.1 (mZ_X10_fewestByTrying l G da v x r hk_r p1 ho hok) pW_bl hml t_im_X10_fewestByTrying t_sel_X10_fewestByTrying t_ini_VernierDrawers t_code_X10_fewestByTrying ⟨rfl, by decide, by decide, by decide +kernel⟩ rfl rfl hR hcs (recvW X hH (by rw [hk_r]; decide) (by rw [hk_r]; decide) (ce_10 hk_r) rfl) (preW X hS hH) rfl hls rfl hsum hdg) (fun _ h => h ▸ kk)
abbrev rmZ_X10_stackFor : Room := { frames := 4, cells := 0, slots := 0, locals := 92 }
set_option maxHeartbeats 8000000 in
set_option maxRecDepth 100000 in
theorem mZ_X10_stackFor (l : Launch) (G : gG) (da : Nat → Nat) (v : vSt) (x : gX) (r : Nat) (hk_r : kd r = 10) (p1 : Int32) (ho : oX10_stackFor r p1 v) (hok : (fX10_stackFor r p1 v).1 = 0) : QI l yX10_stackFor cX10_stackFor 2 (some .int) rmZ_X10_stackFor [.ref (ga G r), .int p1] (pW G da v x) ((fX10_stackFor r p1 v).2) := by
  refine gofQ (own := RX10) (by decide) rfl (Nat.le_of_ble_eq_true rfl) (fun p e s m args below meth c ls Q X hH hl E => ?_)
  have hx := X.1
  have hb := X.2.1
  have hown := X.2.2.2.1
  have hts := X.2.2.2.2.1
  have hS : va_S (gA G) s.heap s.heap [] := va_S.rf
  unfold oX10_stackFor at ho
  have hl : lv_has ls 2 [(0, .ref (ga G r)), (1, .int p1)] := hl
  refine lv_aload_n hx hb dX10_stackFor_0 rfl (lv_at hl 0 rfl) ?_
  refine lv_iload_n hx hb dX10_stackFor_1 rfl (lv_at hl 1 rfl) ?_
  have hq1 := ho
  have c2 : (fX10_needStack r p1 v).1 = 0 := Decidable.byContradiction (fun c2 => c2 ((pr1 ((fX10_stackFor.eq_1 _ _ _).trans ((if_neg c2).trans rfl))).trans hok))
  refine kZ_X10_needStack X hS hH hk_r hq1 c2 t_ml_VernierDrawers_264 hl.1 (Nat.le_of_ble_eq_true rfl) ⟨Nat.le_of_ble_eq_true rfl, Nat.le_of_ble_eq_true rfl⟩ ⟨Nat.zero_le _, Nat.zero_le _⟩ dX10_stackFor_2 ?_
  exact E _ _ _ dX10_stackFor_5 rfl (pr2 ((fX10_stackFor.eq_1 _ _ _).trans ((if_pos c2).trans rfl)))
theorem kZ_X10_stackFor {p : Program} {l : Launch} {e : Env} {R : Room} {s : State} {m : MethodId} {args : Array Value} {below : List Frame} {meth : Method} {c : Code} {H : Heap} {locs : List Loc} {cells slots : Nat} {Q : State → Prop} {cc : ByteArray} {pc nL : Nat} {ls : Array Slot} {rest : List Value} {G : gG} {own : String} {da : Nat → Nat} {v : vSt} {x : gX} (X : CX G p s m args c cc nL own) (hS : va_S (gA G) s.heap H locs) (hH : Hp G da v x H) {r : Nat} (hk_r : kd r = 10) {p1 : Int32} (ho : oX10_stackFor r p1 v) (hok : (fX10_stackFor r p1 v).1 = 0) {idx : Nat} (hml : Cond.methodLink own idx yX10_stackFor ∈ TT) (hls : ls.size = nL) (hsum : (rest.map fun v => v.category).sum ≤ 8) (hR : rmZ_X10_stackFor.frames + 1 ≤ R.frames ∧ 8 + (2 + 11) + rmZ_X10_stackFor.locals ≤ R.locals) (hcs : cells ≤ R.cells ∧ slots ≤ R.slots) (hdg : decode cc pc = .ok (.invokevirtual idx, 3)) (kk : W p l e R s m args below meth c H locs cells slots Q (F0 m (pc + 3) ls (.int ((fX10_stackFor r p1 v).2) :: rest))) : W p l e R s m args below meth c H locs cells slots Q (F0 m pc ls (.int p1 :: .ref (ga G r) :: rest)) := c_qi (runV (k := 1) X.1 X.2.1 X.2.2.1 X.2.2.2.1 X.2.2.2.2.1 (mZ_X10_stackFor l G da v x r hk_r p1 ho hok) pW_bl hml t_im_X10_stackFor t_sel_X10_stackFor t_ini_VernierDrawers t_code_X10_stackFor ⟨rfl, by decide, by decide, by decide +kernel⟩ rfl rfl hR hcs (recvW X hH (by rw [hk_r]; decide) (by rw [hk_r]; decide) (ce_10 hk_r) rfl) (preW X hS hH) rfl hls rfl hsum hdg) (fun _ h => h ▸ kk)
abbrev rmZ_X10_bestTool : Room := { frames := 5, cells := 0, slots := 0, locals := 118 }
set_option maxHeartbeats 8000000 in
set_option maxRecDepth 100000 in
theorem mZ_X10_bestTool (l : Launch) (G : gG) (da : Nat → Nat) (v : vSt) (x : gX) (r : Nat) (hk_r : kd r = 10) (ho : oX10_bestTool r v) (hok : (fX10_bestTool r v).1 = 0) : QI l yX10_bestTool cX10_bestTool 2 (some .int) rmZ_X10_bestTool [.ref (ga G r)] (pW G da v x) ((fX10_bestTool r v).2) := by
  refine gofQ (own := RX10) (by decide) rfl (Nat.le_of_ble_eq_true rfl) (fun p e s m args below meth c ls Q X hH hl E => ?_)
  have hx := X.1
  have hb := X.2.1
  have hown := X.2.2.2.1
  have hts := X.2.2.2.2.1
  have hS : va_S (gA G) s.heap s.heap [] := va_S.rf
  unfold oX10_bestTool at ho
  have hl : lv_has ls 2 [(0, .ref (ga G r))] := hl
  refine lv_aload_n hx hb dX10_bestTool_0 rfl (lv_at hl 0 rfl) ?_
  refine g_VernierDrawers_10 X hH hk_r dX10_bestTool_1 ?_
  have hq1 := ho.1
  have ho := ho.2
  have hq2 := ho
  refine k_X7_bestToolToJudge X hS hH hq1 hq2 t_ml_VernierDrawers_317 hl.1 (Nat.le_of_ble_eq_true rfl) ⟨Nat.le_of_ble_eq_true rfl, Nat.le_of_ble_eq_true rfl⟩ ⟨Nat.zero_le _, Nat.zero_le _⟩ dX10_bestTool_4 ?_
  refine lv_istore_n (lv' := [(1, .int (fX7_bestToolToJudge (rN (v r 0)) v)), (0, .ref (ga G r))]) hx hb dX10_bestTool_7 rfl hl (by decide) rfl (fun ls hl => ?_)
  refine lv_iload_n hx hb dX10_bestTool_8 rfl (lv_at hl 0 rfl) ?_
  refine lv_if_ge (tgt := 23) hx hb dX10_bestTool_9 (by decide) (fun c3 => ?_) (fun c3 => ?_)
  · skip
    refine lv_iload_n hx hb dX10_bestTool_23 rfl (lv_at hl 0 rfl) ?_
    exact E _ _ _ dX10_bestTool_24 rfl (pr2 ((fX10_bestTool.eq_1 _ _).trans ((if_pos c3).trans rfl)))
  · skip
    exact absurd ((pr1 ((fX10_bestTool.eq_1 _ _).trans ((if_neg c3).trans rfl))).trans hok) (by decide)
theorem kZ_X10_bestTool {p : Program} {l : Launch} {e : Env} {R : Room} {s : State} {m : MethodId} {args : Array Value} {below : List Frame} {meth : Method} {c : Code} {H : Heap} {locs : List Loc} {cells slots : Nat} {Q : State → Prop} {cc : ByteArray} {pc nL : Nat} {ls : Array Slot} {rest : List Value} {G : gG} {own : String} {da : Nat → Nat} {v : vSt} {x : gX} (X : CX G p s m args c cc nL own) (hS : va_S (gA G) s.heap H locs) (hH : Hp G da v x H) {r : Nat} (hk_r : kd r = 10) (ho : oX10_bestTool r v) (hok : (fX10_bestTool r v).1 = 0) {idx : Nat} (hml : Cond.methodLink own idx yX10_bestTool ∈ TT) (hls : ls.size = nL) (hsum : (rest.map fun v => v.category).sum ≤ 8) (hR : rmZ_X10_bestTool.frames + 1 ≤ R.frames ∧ 8 + (2 + 11) + rmZ_X10_bestTool.locals ≤ R.locals) (hcs : cells ≤ R.cells ∧ slots ≤ R.slots) (hdg : decode cc pc = .ok (.invokevirtual idx, 3)) (kk : W p l e R s m args below meth c H locs cells slots Q (F0 m (pc + 3) ls (.int ((fX10_bestTool r v).2) :: rest))) : W p l e R s m args below meth c H locs cells slots Q (F0 m pc ls (.ref (ga G r) :: rest)) := c_qi (runV (k := 0) X.1 X.2.1 X.2.2.1 X.2.2.2.1 X.2.2.2.2.1 (mZ_X10_bestTool l G da v x r hk_r ho hok) pW_bl hml t_im_X10_bestTool t_sel_X10_bestTool t_ini_VernierDrawers t_code_X10_bestTool ⟨rfl, by decide, by decide, by decide +kernel⟩ rfl rfl hR hcs (recvW X hH (by rw [hk_r]; decide) (by rw [hk_r]; decide) (ce_10 hk_r) rfl) (preW X hS hH) rfl hls rfl hsum hdg) (fun _ h => h ▸ kk)
abbrev rmZ_X10_type : Room := { frames := 1, cells := 0, slots := 0, locals := 22 }
set_option maxHeartbeats 8000000 in
set_option maxRecDepth 100000 in
theorem mZ_X10_type (l : Launch) (G : gG) (da : Nat → Nat) (v : vSt) (x : gX) (r : Nat) (hk_r : kd r = 10) (p1 : Int32) (ho : oX10_type r p1 v) (hok : (fX10_type r p1 v).1 = 0) : MI l yX10_type cX10_type 2 (some .int) rmZ_X10_type [.ref (ga G r), .int p1] G da v x 0 0 ((fX10_type r p1 v).2.1) (fX10_type r p1 v).2.2 x := by
  refine gofMI (own := RX10) (by decide) rfl (Nat.le_of_ble_eq_true rfl) (fun p e s m args below meth c ls Q X hH hl E => ?_)
  have hx := X.1
  have hb := X.2.1
  have hown := X.2.2.2.1
  have hts := X.2.2.2.2.1
  have hS : va_S (gA G) s.heap s.heap [] := va_S.rf
  unfold oX10_type at ho
  have hl : lv_has ls 2 [(0, .ref (ga G r)), (1, .int p1)] := hl
  refine lv_iload_n hx hb dX10_type_0 rfl (lv_at hl 1 rfl) ?_
  refine lv_bipush (v := 32) hx hb dX10_type_1 (by decide) ?_
  refine lv_bipush (v := 126) hx hb dX10_type_3 (by decide) ?_
  refine k_X10_inRange X hS  t_ml_VernierDrawers_49 hl.1 (Nat.le_of_ble_eq_true rfl) ⟨Nat.le_of_ble_eq_true rfl, Nat.le_of_ble_eq_true rfl⟩ ⟨Nat.zero_le _, Nat.zero_le _⟩ dX10_type_5 ?_
  refine lv_if_ne (tgt := 22) hx hb dX10_type_8 (by decide) (fun c1 => ?_) (fun c1 => ?_)
  · have ho := ho.2 c1
    refine lv_aload_n hx hb dX10_type_22 rfl (lv_at hl 0 rfl) ?_
    refine g_VernierDrawers_408 X hH hk_r dX10_type_23 ?_
    refine lv_aload_n hx hb dX10_type_26 rfl (lv_at hl 0 rfl) ?_
    refine g_VernierDrawers_23 X hH hk_r dX10_type_27 ?_
    refine len_27 X hH kd_450 dX10_type_30 ?_
    refine lv_icmp_lt (tgt := 45) hx hb dX10_type_31 (by decide) (fun c2 => ?_) (fun c2 => ?_)
    · have ho := ho.1 c2
      refine lv_aload_n hx hb dX10_type_45 rfl (lv_at hl 0 rfl) ?_
      refine g_VernierDrawers_23 X hH hk_r dX10_type_46 ?_
      refine lv_aload_n hx hb dX10_type_49 rfl (lv_at hl 0 rfl) ?_
      refine g_VernierDrawers_408 X hH hk_r dX10_type_50 ?_
      refine lv_iload_n hx hb dX10_type_53 rfl (lv_at hl 1 rfl) ?_
      refine lv_i2c (v := ((p1 : Int32).toUInt32 % 65536).toInt32) hx hb dX10_type_54 rfl ?_
      have hq3 := ho.1
      have ho := ho.2
      have hq4 := ho
      refine cast_27 X hH hS kd_450 hq3 hq4 dX10_type_55 (fun H locs v5 ev5 hH hS => ?_)
      refine lv_aload_n hx hb dX10_type_56 rfl (lv_at hl 0 rfl) ?_
      refine lv_dup hx hb dX10_type_57 rfl ?_
      refine g_VernierDrawers_408 X hH hk_r dX10_type_58 ?_
      refine lv_iconst (v := 1) hx hb dX10_type_61 (by decide) ?_
      refine lv_iadd hx hb dX10_type_62 ?_
      refine p_VernierDrawers_408 X hH hS hk_r dX10_type_63 (fun H locs v6 ev6 hH hS => ?_)
      refine lv_aload_n hx hb dX10_type_66 rfl (lv_at hl 0 rfl) ?_
      refine g_VernierDrawers_408 X hH hk_r dX10_type_67 ?_
      replace ev5 := Eq.symm ev5
      replace ev6 := Eq.symm ev6
      subst ev5 ev6
      exact E _ _ _ _ _ _ _ _ _ dX10_type_70 rfl (t32 ((fX10_type.eq_1 _ _ _).trans ((if_neg c1).trans ((if_pos c2).trans rfl)))) (t33 ((fX10_type.eq_1 _ _ _).trans ((if_neg c1).trans ((if_pos c2).trans rfl)))) hH hS (Nat.zero_le _) (Nat.zero_le _)
    · have ho := ho.2 c2
      have hq7 := ho
      exact absurd ((t31 ((fX10_type.eq_1 _ _ _).trans ((if_neg c1).trans ((if_neg c2).trans rfl)))).trans hok) (by decide)
  · have ho := ho.1 c1
    have hq8 := ho
    exact absurd ((t31 ((fX10_type.eq_1 _ _ _).trans ((if_pos c1).trans rfl))).trans hok) (by decide)
theorem kZ_X10_type {p : Program} {l : Launch} {e : Env} {R : Room} {s : State} {m : MethodId} {args : Array Value} {below : List Frame} {meth : Method} {c : Code} {H : Heap} {locs : List Loc} {cells slots : Nat} {Q : State → Prop} {cc : ByteArray} {pc nL : Nat} {ls : Array Slot} {rest : List Value} {G : gG} {own : String} {da : Nat → Nat} {v : vSt} {x : gX} (X : CX G p s m args c cc nL own) (hS : va_S (gA G) s.heap H locs) (hH : Hp G da v x H) {r : Nat} (hk_r : kd r = 10) {p1 : Int32} (ho : oX10_type r p1 v) (hok : (fX10_type r p1 v).1 = 0) {idx : Nat} (hml : Cond.methodLink own idx yX10_type ∈ TT) (hls : ls.size = nL) (hsum : (rest.map fun v => v.category).sum ≤ 8) (hR : rmZ_X10_type.frames + 1 ≤ R.frames ∧ 8 + (2 + 11) + rmZ_X10_type.locals ≤ R.locals) (hcs : cells ≤ R.cells ∧ slots ≤ R.slots) (hdg : decode cc pc = .ok (.invokevirtual idx, 3)) (kk : ∀ (d : Nat → Nat) (H1 : Heap) (locs1 : List Loc) (v1 : vSt), v1 = (fX10_type r p1 v).2.2 → Hp G d v1 x H1 → va_S (gA G) s.heap H1 locs1 → W p l e R s m args below meth c H1 locs1 cells slots Q (F0 m (pc + 3) ls (.int ((fX10_type r p1 v).2.1) :: rest))) : W p l e R s m args below meth c H locs cells slots Q (F0 m pc ls (.int p1 :: .ref (ga G r) :: rest)) := c_mi X.2.2.2.2.2.2 (runV (k := 1) X.1 X.2.1 X.2.2.1 X.2.2.2.1 X.2.2.2.2.1 (mZ_X10_type l G da v x r hk_r p1 ho hok) pW_bl hml t_im_X10_type t_sel_X10_type t_ini_VernierDrawers t_code_X10_type ⟨rfl, by decide, by decide, by decide +kernel⟩ rfl rfl hR hcs (recvW X hH (by rw [hk_r]; decide) (by rw [hk_r]; decide) (ce_10 hk_r) rfl) (preW X hS hH) rfl hls rfl hsum hdg) hS kk
abbrev rmZ_X10_middleOf : Room := { frames := 3, cells := 12, slots := 12, locals := 64 }
set_option maxHeartbeats 8000000 in
set_option maxRecDepth 100000 in
theorem mZ_X10_middleOf (l : Launch) (G : gG) (da : Nat → Nat) (v : vSt) (x : gX) (r : Nat) (hk_r : kd r = 10) (p1 : Int32) (ho : oX10_middleOf r p1 v) (hok : (fX10_middleOf r p1 v).1 = 0) : MI l yX10_middleOf cX10_middleOf 2 (some .int) rmZ_X10_middleOf [.ref (ga G r), .int p1] G da v x 12 12 ((fX10_middleOf r p1 v).2.1) v x := by
  refine gofMI (own := RX10) (by decide) rfl (Nat.le_of_ble_eq_true rfl) (fun p e s m args below meth c ls Q X hH hl E => ?_)
  have hx := X.1
  have hb := X.2.1
  have hown := X.2.2.2.1
  have hts := X.2.2.2.2.1
  have hS : va_S (gA G) s.heap s.heap [] := va_S.rf
  unfold oX10_middleOf at ho
  have hl : lv_has ls 2 [(0, .ref (ga G r)), (1, .int p1)] := hl
  refine lv_aload_n hx hb dX10_middleOf_0 rfl (lv_at hl 0 rfl) ?_
  refine lv_iload_n hx hb dX10_middleOf_1 rfl (lv_at hl 1 rfl) ?_
  have hq1 := ho.1
  have ho := ho.2
  have hq2 := ho.1
  have ho := ho.2
  have c3 : (fX10_needChart r p1 v).1 = 0 := Decidable.byContradiction (fun c3 => c3 ((t31 ((fX10_middleOf.eq_1 _ _ _).trans ((if_neg c3).trans rfl))).trans hok))
  refine kZ_X10_needChart X hS hH hk_r hq1 c3 t_ml_VernierDrawers_352 hl.1 (Nat.le_of_ble_eq_true rfl) ⟨Nat.le_of_ble_eq_true rfl, Nat.le_of_ble_eq_true rfl⟩ ⟨Nat.zero_le _, Nat.zero_le _⟩ dX10_middleOf_2 ?_
  have ho := ho c3
  have hq4 := ho.1
  have ho := ho.2
  have hq5 := ho.1
  have ho := ho.2
  have hq6 := ho
  refine k_X4_middleInOrder X hS hH hq4 hq5 t_ml_VernierDrawers_355 hl.1 (Nat.le_of_ble_eq_true rfl) ⟨Nat.le_of_ble_eq_true rfl, Nat.le_of_ble_eq_true rfl⟩ ⟨(Nat.le_of_ble_eq_true rfl), (Nat.le_of_ble_eq_true rfl)⟩ dX10_middleOf_5 (fun da H locs v7 ev7 hH hS => ?_)
  replace ev7 := Eq.symm ev7
  subst ev7
  exact E _ _ _ _ _ _ _ _ _ dX10_middleOf_8 rfl (t32 ((fX10_middleOf.eq_1 _ _ _).trans ((if_pos c3).trans rfl))) rfl hH hS (Nat.le_of_ble_eq_true rfl) (Nat.le_of_ble_eq_true rfl)
theorem kZ_X10_middleOf {p : Program} {l : Launch} {e : Env} {R : Room} {s : State} {m : MethodId} {args : Array Value} {below : List Frame} {meth : Method} {c : Code} {H : Heap} {locs : List Loc} {cells slots : Nat} {Q : State → Prop} {cc : ByteArray} {pc nL : Nat} {ls : Array Slot} {rest : List Value} {G : gG} {own : String} {da : Nat → Nat} {v : vSt} {x : gX} (X : CX G p s m args c cc nL own) (hS : va_S (gA G) s.heap H locs) (hH : Hp G da v x H) {r : Nat} (hk_r : kd r = 10) {p1 : Int32} (ho : oX10_middleOf r p1 v) (hok : (fX10_middleOf r p1 v).1 = 0) {idx : Nat} (hml : Cond.methodLink own idx yX10_middleOf ∈ TT) (hls : ls.size = nL) (hsum : (rest.map fun v => v.category).sum ≤ 8) (hR : rmZ_X10_middleOf.frames + 1 ≤ R.frames ∧ 8 + (2 + 11) + rmZ_X10_middleOf.locals ≤ R.locals) (hcs : cells + 12 ≤ R.cells ∧ slots + 12 ≤ R.slots) (hdg : decode cc pc = .ok (.invokevirtual idx, 3)) (kk : ∀ (d : Nat → Nat) (H1 : Heap) (locs1 : List Loc), Hp G d v x H1 → va_S (gA G) s.heap H1 locs1 → W p l e R s m args below meth c H1 locs1 (cells + 12) (slots + 12) Q (F0 m (pc + 3) ls (.int ((fX10_middleOf r p1 v).2.1) :: rest))) : W p l e R s m args below meth c H locs cells slots Q (F0 m pc ls (.int p1 :: .ref (ga G r) :: rest)) := c_mi X.2.2.2.2.2.2 (runV (k := 1) X.1 X.2.1 X.2.2.1 X.2.2.2.1 X.2.2.2.2.1 (mZ_X10_middleOf l G da v x r hk_r p1 ho hok) pW_bl hml t_im_X10_middleOf t_sel_X10_middleOf t_ini_VernierDrawers t_code_X10_middleOf ⟨rfl, by decide, by decide, by decide +kernel⟩ rfl rfl hR hcs (recvW X hH (by rw [hk_r]; decide) (by rw [hk_r]; decide) (ce_10 hk_r) rfl) (preW X hS hH) rfl hls rfl hsum hdg) hS (fun d9 H9 L9 v9 e9 hH9 => kk d9 H9 L9 (by subst e9; exact hH9))
abbrev rmZ_X10_middleByTaking : Room := { frames := 3, cells := 12, slots := 12, locals := 66 }
set_option maxHeartbeats 8000000 in
set_option maxRecDepth 100000 in
theorem mZ_X10_middleByTaking (l : Launch) (G : gG) (da : Nat → Nat) (v : vSt) (x : gX) (r : Nat) (hk_r : kd r = 10) (p1 : Int32) (ho : oX10_middleByTaking r p1 v) (hok : (fX10_middleByTaking r p1 v).1 = 0) : MI l yX10_middleByTaking cX10_middleByTaking 2 (some .int) rmZ_X10_middleByTaking [.ref (ga G r), .int p1] G da v x 12 12 ((fX10_middleByTaking r p1 v).2.1) v x := by
  refine gofMI (own := RX10) (by decide) rfl (Nat.le_of_ble_eq_true rfl) (fun p e s m args below meth c ls Q X hH hl E => ?_)
  have hx := X.1
  have hb := X.2.1
  have hown := X.2.2.2.1
  have hts := X.2.2.2.2.1
  have hS : va_S (gA G) s.heap s.heap [] := va_S.rf
  unfold oX10_middleByTaking at ho
  have hl : lv_has ls 2 [(0, .ref (ga G r)), (1, .int p1)] := hl
  refine lv_aload_n hx hb dX10_middleByTaking_0 rfl (lv_at hl 0 rfl) ?_
  refine lv_iload_n hx hb dX10_middleByTaking_1 rfl (lv_at hl 1 rfl) ?_
  have hq1 := ho.1
  have ho := ho.2
  have hq2 := ho.1
  have ho := ho.2
  have c3 : (fX10_needChart r p1 v).1 = 0 := Decidable.byContradiction (fun c3 => c3 ((t31 ((fX10_middleByTaking.eq_1 _ _ _).trans ((if_neg c3).trans rfl))).trans hok))
  refine kZ_X10_needChart X hS hH hk_r hq1 c3 t_ml_VernierDrawers_352 hl.1 (Nat.le_of_ble_eq_true rfl) ⟨Nat.le_of_ble_eq_true rfl, Nat.le_of_ble_eq_true rfl⟩ ⟨Nat.zero_le _, Nat.zero_le _⟩ dX10_middleByTaking_2 ?_
  have ho := ho c3
  have hq4 := ho.1
  have ho := ho.2
  have hq5 := ho.1
  have ho := ho.2
  have hq6 := ho
  refine k_X4_middleLeft X hS hH hq4 hq5 t_ml_VernierDrawers_358 hl.1 (Nat.le_of_ble_eq_true rfl) ⟨Nat.le_of_ble_eq_true rfl, Nat.le_of_ble_eq_true rfl⟩ ⟨(Nat.le_of_ble_eq_true rfl), (Nat.le_of_ble_eq_true rfl)⟩ dX10_middleByTaking_5 (fun da H locs v7 ev7 hH hS => ?_)
  replace ev7 := Eq.symm ev7
  subst ev7
  exact E _ _ _ _ _ _ _ _ _ dX10_middleByTaking_8 rfl (t32 ((fX10_middleByTaking.eq_1 _ _ _).trans ((if_pos c3).trans rfl))) rfl hH hS (Nat.le_of_ble_eq_true rfl) (Nat.le_of_ble_eq_true rfl)
theorem kZ_X10_middleByTaking {p : Program} {l : Launch} {e : Env} {R : Room} {s : State} {m : MethodId} {args : Array Value} {below : List Frame} {meth : Method} {c : Code} {H : Heap} {locs : List Loc} {cells slots : Nat} {Q : State → Prop} {cc : ByteArray} {pc nL : Nat} {ls : Array Slot} {rest : List Value} {G : gG} {own : String} {da : Nat → Nat} {v : vSt} {x : gX} (X : CX G p s m args c cc nL own) (hS : va_S (gA G) s.heap H locs) (hH : Hp G da v x H) {r : Nat} (hk_r : kd r = 10) {p1 : Int32} (ho : oX10_middleByTaking r p1 v) (hok : (fX10_middleByTaking r p1 v).1 = 0) {idx : Nat} (hml : Cond.methodLink own idx yX10_middleByTaking ∈ TT) (hls : ls.size = nL) (hsum : (rest.map fun v => v.category).sum ≤ 8) (hR : rmZ_X10_middleByTaking.frames + 1 ≤ R.frames ∧ 8 + (2 + 11) + rmZ_X10_middleByTaking.locals ≤ R.locals) (hcs : cells + 12 ≤ R.cells ∧ slots + 12 ≤ R.slots) (hdg : decode cc pc = .ok (.invokevirtual idx, 3)) (kk : ∀ (d : Nat → Nat) (H1 : Heap) (locs1 : List Loc), Hp G d v x H1 → va_S (gA G) s.heap H1 locs1 → W p l e R s m args below meth c H1 locs1 (cells + 12) (slots + 12) Q (F0 m (pc + 3) ls (.int ((fX10_middleByTaking r p1 v).2.1) :: rest))) : W p l e R s m args below meth c H locs cells slots Q (F0 m pc ls (.int p1 :: .ref (ga G r) :: rest)) := c_mi X.2.2.2.2.2.2 (runV (k := 1) X.1 X.2.1 X.2.2.1 X.2.2.2.1 X.2.2.2.2.1 (mZ_X10_middleByTaking l G da v x r hk_r p1 ho hok) pW_bl hml t_im_X10_middleByTaking t_sel_X10_middleByTaking t_ini_VernierDrawers t_code_X10_middleByTaking ⟨rfl, by decide, by decide, by decide +kernel⟩ rfl rfl hR hcs (recvW X hH (by rw [hk_r]; decide) (by rw [hk_r]; decide) (ce_10 hk_r) rfl) (preW X hS hH) rfl hls rfl hsum hdg) hS (fun d9 H9 L9 v9 e9 hH9 => kk d9 H9 L9 (by subst e9; exact hH9))
