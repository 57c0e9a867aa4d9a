/-! 17.model -/
def fX11_lays (r : Nat) (p1 : Int32) (p2 : Int32) (p3 : Int32) (v : vSt) : vSt := let v2 : vSt := u2 v 462 ((78 + (21 * p1)) + p2 : Int32).toNatClampNeg p3; v2
def oX11_lays (r : Nat) (p1 : Int32) (p2 : Int32) (p3 : Int32) (v : vSt) : Prop := vp_in ((78 + (21 * p1)) + p2) (mlen 462)
abbrev rmX11_lays : Room := { frames := 0, cells := 0, slots := 0, locals := 0 }
theorem dX11_lays_0 : decode cX11_lays 0 = .ok (.aload_n 0, 1) := by decide +kernel
theorem dX11_lays_1 : decode cX11_lays 1 = .ok (.getfield 7, 3) := by decide +kernel
theorem dX11_lays_4 : decode cX11_lays 4 = .ok (.bipush 78, 2) := by decide +kernel
theorem dX11_lays_6 : decode cX11_lays 6 = .ok (.bipush 21, 2) := by decide +kernel
theorem dX11_lays_8 : decode cX11_lays 8 = .ok (.iload_n 1, 1) := by decide +kernel
theorem dX11_lays_9 : decode cX11_lays 9 = .ok (.imul, 1) := by decide +kernel
theorem dX11_lays_10 : decode cX11_lays 10 = .ok (.iadd, 1) := by decide +kernel
theorem dX11_lays_11 : decode cX11_lays 11 = .ok (.iload_n 2, 1) := by decide +kernel
theorem dX11_lays_12 : decode cX11_lays 12 = .ok (.iadd, 1) := by decide +kernel
theorem dX11_lays_13 : decode cX11_lays 13 = .ok (.iload_n 3, 1) := by decide +kernel
theorem dX11_lays_14 : decode cX11_lays 14 = .ok (.iastore, 1) := by decide +kernel
theorem dX11_lays_15 : decode cX11_lays 15 = .ok (.return_, 1) := by decide +kernel
set_option maxHeartbeats 8000000 in
set_option maxRecDepth 100000 in
theorem mX11_lays (l : Launch) (G : gG) (da : Nat → Nat) (v : vSt) (x : gX) (r : Nat) (hk_r : kd r = 11) (p1 : Int32) (p2 : Int32) (p3 : Int32) (ho : oX11_lays r p1 p2 p3 v) : MV l yX11_lays cX11_lays 4 none rmX11_lays [.ref (ga G r), .int p1, .int p2, .int p3] G da v x 0 0 (fX11_lays r p1 p2 p3 v) x := by
  refine gofMV (own := RX11) (by decide) rfl (Nat.le_of_ble_eq_true rfl) (fun p e s m args below meth c ls Q X hH hl E => ?_)
  have hx := X.1
  have hb := X.2.1
  have hown := X.2.2.2.1
  have hts := X.2.2.2.2.1
  have hS : va_S (gA G) s.heap s.heap [] := va_S.rf
  unfold oX11_lays at ho
  have hl : lv_has ls 4 [(0, .ref (ga G r)), (1, .int p1), (2, .int p2), (3, .int p3)] := hl
  refine lv_aload_n hx hb dX11_lays_0 rfl (lv_at hl 0 rfl) ?_
  refine g_VernierDrawersModel_7 X hH hk_r dX11_lays_1 ?_
  refine lv_bipush (v := 78) hx hb dX11_lays_4 (by decide) ?_
  refine lv_bipush (v := 21) hx hb dX11_lays_6 (by decide) ?_
  refine lv_iload_n hx hb dX11_lays_8 rfl (lv_at hl 1 rfl) ?_
  refine lv_imul hx hb dX11_lays_9 ?_
  refine lv_iadd hx hb dX11_lays_10 ?_
  refine lv_iload_n hx hb dX11_lays_11 rfl (lv_at hl 2 rfl) ?_
  refine lv_iadd hx hb dX11_lays_12 ?_
  refine lv_iload_n hx hb dX11_lays_13 rfl (lv_at hl 3 rfl) ?_
  have hq1 := ho
  refine ast_M X hH hS (Or.inl kd_462) hq1 dX11_lays_14 (fun H locs v2 ev2 hH hS => ?_)
  replace ev2 := Eq.symm ev2
  subst ev2
  exact E _ _ _ _ _ _ _ _ dX11_lays_15 (Eq.symm rfl) hH hS (Nat.zero_le _) (Nat.zero_le _)
theorem k_X11_lays {p : Program} {l : Launch} {e : Env} {R : Room} {s : State} {m : MethodId} {args : Array Value} {below : List Frame} {meth : Method} {c : Code} {H : Heap} {locs : List Loc} {cells slots : Nat} {Q : State → Prop} {cc : ByteArray} {pc nL : Nat} {ls : Array Slot} {rest : List Value} {G : gG} {own : String} {da : Nat → Nat} {v : vSt} {x : gX} (X : CX G p s m args c cc nL own) (hS : va_S (gA G) s.heap H locs) (hH : Hp G da v x H) {r : Nat} (hk_r : kd r = 11) {p1 : Int32} {p2 : Int32} {p3 : Int32} (ho : oX11_lays r p1 p2 p3 v) {idx : Nat} (hml : Cond.methodLink own idx yX11_lays ∈ TT) (hls : ls.size = nL) (hsum : (rest.map fun v => v.category).sum ≤ 8) (hR : rmX11_lays.frames + 1 ≤ R.frames ∧ 8 + (4 + 11) + rmX11_lays.locals ≤ R.locals) (hcs : cells ≤ R.cells ∧ slots ≤ R.slots) (hdg : decode cc pc = .ok (.invokevirtual idx, 3)) (kk : ∀ (d : Nat → Nat) (H1 : Heap) (locs1 : List Loc) (v1 : vSt), v1 = fX11_lays r p1 p2 p3 v → Hp G d v1 x H1 → va_S (gA G) s.heap H1 locs1 → W p l e R s m args below meth c H1 locs1 cells slots Q (F0 m (pc + 3) ls rest)) : W p l e R s m args below meth c H locs cells slots Q (F0 m pc ls (.int p3 :: .int p2 :: .int p1 :: .ref (ga G r) :: rest)) := c_mv X.2.2.2.2.2.2 (runV (k := 3) X.1 X.2.1 X.2.2.1 X.2.2.2.1 X.2.2.2.2.1 (mX11_lays l G da v x r hk_r p1 p2 p3 ho) pW_bl hml t_im_X11_lays t_sel_X11_lays t_ini_VernierDrawersModel t_code_X11_lays ⟨rfl, by decide, by decide, by decide +kernel⟩ rfl rfl hR hcs (recvW X hH (by rw [hk_r]; decide) (by rw [hk_r]; decide) (ce_11 hk_r) rfl) (preW X hS hH) rfl hls rfl hsum hdg) hS kk
def fX11_piece (p1 : Int32) (p2 : Int32) (p3 : Int32) : Int32 := ((((p2 + 20000) * 8) + p1) * 2) + p3
abbrev rmX11_piece : Room := { frames := 0, cells := 0, slots := 0, locals := 0 }
theorem dX11_piece_0 : decode cX11_piece 0 = .ok (.iload_n 1, 1) := by decide +kernel
theorem dX11_piece_1 : decode cX11_piece 1 = .ok (.sipush 20000, 3) := by decide +kernel
theorem dX11_piece_4 : decode cX11_piece 4 = .ok (.iadd, 1) := by decide +kernel
theorem dX11_piece_5 : decode cX11_piece 5 = .ok (.bipush 8, 2) := by decide +kernel
theorem dX11_piece_7 : decode cX11_piece 7 = .ok (.imul, 1) := by decide +kernel
theorem dX11_piece_8 : decode cX11_piece 8 = .ok (.iload_n 0, 1) := by decide +kernel
theorem dX11_piece_9 : decode cX11_piece 9 = .ok (.iadd, 1) := by decide +kernel
theorem dX11_piece_10 : decode cX11_piece 10 = .ok (.iconst 2, 1) := by decide +kernel
theorem dX11_piece_11 : decode cX11_piece 11 = .ok (.imul, 1) := by decide +kernel
theorem dX11_piece_12 : decode cX11_piece 12 = .ok (.iload_n 2, 1) := by decide +kernel
theorem dX11_piece_13 : decode cX11_piece 13 = .ok (.iadd, 1) := by decide +kernel
theorem dX11_piece_14 : decode cX11_piece 14 = .ok (.ireturn, 1) := by decide +kernel
set_option maxHeartbeats 8000000 in
set_option maxRecDepth 100000 in
theorem mX11_piece (l : Launch) (G : gG) (p1 : Int32) (p2 : Int32) (p3 : Int32) : PI l yX11_piece cX11_piece 3 (some .int) rmX11_piece [.int p1, .int p2, .int p3] G (fun _ => True) (fX11_piece p1 p2 p3) := by
  refine gofP (own := RX11) (by decide) rfl (Nat.le_of_ble_eq_true rfl) (fun p e s m args below meth c ls Q X _ hl E => ?_)
  have hx := X.1
  have hb := X.2.1
  have hown := X.2.2.2.1
  have hts := X.2.2.2.2.1
  have hS : va_S (gA G) s.heap s.heap [] := va_S.rf
  have ho : True := trivial
  have hl : lv_has ls 3 [(0, .int p1), (1, .int p2), (2, .int p3)] := hl
  refine lv_iload_n hx hb dX11_piece_0 rfl (lv_at hl 1 rfl) ?_
  refine lv_sipush (v := 20000) hx hb dX11_piece_1 (by decide) ?_
  refine lv_iadd hx hb dX11_piece_4 ?_
  refine lv_bipush (v := 8) hx hb dX11_piece_5 (by decide) ?_
  refine lv_imul hx hb dX11_piece_7 ?_
  refine lv_iload_n hx hb dX11_piece_8 rfl (lv_at hl 0 rfl) ?_
  refine lv_iadd hx hb dX11_piece_9 ?_
  refine lv_iconst (v := 2) hx hb dX11_piece_10 (by decide) ?_
  refine lv_imul hx hb dX11_piece_11 ?_
  refine lv_iload_n hx hb dX11_piece_12 rfl (lv_at hl 2 rfl) ?_
  refine lv_iadd hx hb dX11_piece_13 ?_
  exact E _ _ _ dX11_piece_14 rfl (Eq.symm rfl)
theorem k_X11_piece {p : Program} {l : Launch} {e : Env} {R : Room} {s : State} {m : MethodId} {args : Array Value} {below : List Frame} {meth : Method} {c : Code} {H : Heap} {locs : List Loc} {cells slots : Nat} {Q : State → Prop} {cc : ByteArray} {pc nL : Nat} {ls : Array Slot} {rest : List Value} {G : gG} {own : String} (X : CX G p s m args c cc nL own) (hS : va_S (gA G) s.heap H locs) {p1 : Int32} {p2 : Int32} {p3 : Int32} {idx : Nat} (hml : Cond.methodLink own idx yX11_piece ∈ TT) (hls : ls.size = nL) (hsum : (rest.map fun v => v.category).sum ≤ 8) (hR : rmX11_piece.frames + 1 ≤ R.frames ∧ 8 + (3 + 11) + rmX11_piece.locals ≤ R.locals) (hcs : cells ≤ R.cells ∧ slots ≤ R.slots) (hdg : decode cc pc = .ok (.invokestatic idx, 3)) (kk : W p l e R s m args below meth c H locs cells slots Q (F0 m (pc + 3) ls (.int (fX11_piece p1 p2 p3) :: rest))) : W p l e R s m args below meth c H locs cells slots Q (F0 m pc ls (.int p3 :: .int p2 :: .int p1 :: rest)) := c_qi (runS (k := 3) X.1 X.2.1 X.2.2.1 X.2.2.2.1 X.2.2.2.2.1 (mX11_piece l G p1 p2 p3) (pT_bl (fun _ _ _ _ h => h)) hml t_st_X11_piece t_ini_VernierDrawersModel t_code_X11_piece ⟨by decide, by decide, by decide +kernel⟩ rfl rfl hR hcs (fun U hU hW => ⟨preT X hS U hU hW, trivial⟩) rfl hls rfl hsum hdg) (fun _ h => h ▸ kk)
def fX11_typeOf (p1 : Int32) : Int32 := (p1 / 2) - (p1 / 2) / 8 * 8
abbrev rmX11_typeOf : Room := { frames := 0, cells := 0, slots := 0, locals := 0 }
theorem dX11_typeOf_0 : decode cX11_typeOf 0 = .ok (.iload_n 0, 1) := by decide +kernel
theorem dX11_typeOf_1 : decode cX11_typeOf 1 = .ok (.iconst 2, 1) := by decide +kernel
theorem dX11_typeOf_2 : decode cX11_typeOf 2 = .ok (.idiv, 1) := by decide +kernel
theorem dX11_typeOf_3 : decode cX11_typeOf 3 = .ok (.bipush 8, 2) := by decide +kernel
theorem dX11_typeOf_5 : decode cX11_typeOf 5 = .ok (.irem, 1) := by decide +kernel
theorem dX11_typeOf_6 : decode cX11_typeOf 6 = .ok (.ireturn, 1) := by decide +kernel
set_option maxHeartbeats 8000000 in
set_option maxRecDepth 100000 in
theorem mX11_typeOf (l : Launch) (G : gG) (p1 : Int32) : PI l yX11_typeOf cX11_typeOf 1 (some .int) rmX11_typeOf [.int p1] G (fun _ => True) (fX11_typeOf p1) := by
  refine gofP (own := RX11) (by decide) rfl (Nat.le_of_ble_eq_true rfl) (fun p e s m args below meth c ls Q X _ hl E => ?_)
  have hx := X.1
  have hb := X.2.1
  have hown := X.2.2.2.1
  have hts := X.2.2.2.2.1
  have hS : va_S (gA G) s.heap s.heap [] := va_S.rf
  have ho : True := trivial
  have hl : lv_has ls 1 [(0, .int p1)] := hl
  refine lv_iload_n hx hb dX11_typeOf_0 rfl (lv_at hl 0 rfl) ?_
  refine lv_iconst (v := 2) hx hb dX11_typeOf_1 (by decide) ?_
  refine lv_idiv hx hb dX11_typeOf_2 (by decide) ?_
  refine lv_bipush (v := 8) hx hb dX11_typeOf_3 (by decide) ?_
  refine lv_irem hx hb dX11_typeOf_5 (by decide) ?_
  exact E _ _ _ dX11_typeOf_6 rfl (Eq.symm rfl)
theorem k_X11_typeOf {p : Program} {l : Launch} {e : Env} {R : Room} {s : State} {m : MethodId} {args : Array Value} {below : List Frame} {meth : Method} {c : Code} {H : Heap} {locs : List Loc} {cells slots : Nat} {Q : State → Prop} {cc : ByteArray} {pc nL : Nat} {ls : Array Slot} {rest : List Value} {G : gG} {own : String} (X : CX G p s m args c cc nL own) (hS : va_S (gA G) s.heap H locs) {p1 : Int32} {idx : Nat} (hml : Cond.methodLink own idx yX11_typeOf ∈ TT) (hls : ls.size = nL) (hsum : (rest.map fun v => v.category).sum ≤ 8) (hR : rmX11_typeOf.frames + 1 ≤ R.frames ∧ 8 + (1 + 11) + rmX11_typeOf.locals ≤ R.locals) (hcs : cells ≤ R.cells ∧ slots ≤ R.slots) (hdg : decode cc pc = .ok (.invokestatic idx, 3)) (kk : W p l e R s m args below meth c H locs cells slots Q (F0 m (pc + 3) ls (.int (fX11_typeOf p1) :: rest))) : W p l e R s m args below meth c H locs cells slots Q (F0 m pc ls (.int p1 :: rest)) := c_qi (runS (k := 1) X.1 X.2.1 X.2.2.1 X.2.2.2.1 X.2.2.2.2.1 (mX11_typeOf l G p1) (pT_bl (fun _ _ _ _ h => h)) hml t_st_X11_typeOf t_ini_VernierDrawersModel t_code_X11_typeOf ⟨by decide, by decide, by decide +kernel⟩ rfl rfl hR hcs (fun U hU hW => ⟨preT X hS U hU hW, trivial⟩) rfl hls rfl hsum hdg) (fun _ h => h ▸ kk)
def fX11_deviationOf (p1 : Int32) : Int32 := (p1 / 16) - 20000
abbrev rmX11_deviationOf : Room := { frames := 0, cells := 0, slots := 0, locals := 0 }
theorem dX11_deviationOf_0 : decode cX11_deviationOf 0 = .ok (.iload_n 0, 1) := by decide +kernel
theorem dX11_deviationOf_1 : decode cX11_deviationOf 1 = .ok (.bipush 16, 2) := by decide +kernel
theorem dX11_deviationOf_3 : decode cX11_deviationOf 3 = .ok (.idiv, 1) := by decide +kernel
theorem dX11_deviationOf_4 : decode cX11_deviationOf 4 = .ok (.sipush 20000, 3) := by decide +kernel
theorem dX11_deviationOf_7 : decode cX11_deviationOf 7 = .ok (.isub, 1) := by decide +kernel
theorem dX11_deviationOf_8 : decode cX11_deviationOf 8 = .ok (.ireturn, 1) := by decide +kernel
set_option maxHeartbeats 8000000 in
set_option maxRecDepth 100000 in
theorem mX11_deviationOf (l : Launch) (G : gG) (p1 : Int32) : PI l yX11_deviationOf cX11_deviationOf 1 (some .int) rmX11_deviationOf [.int p1] G (fun _ => True) (fX11_deviationOf p1) := by
  refine gofP (own := RX11) (by decide) rfl (Nat.le_of_ble_eq_true rfl) (fun p e s m args below meth c ls Q X _ hl E => ?_)
  have hx := X.1
  have hb := X.2.1
  have hown := X.2.2.2.1
  have hts := X.2.2.2.2.1
  have hS : va_S (gA G) s.heap s.heap [] := va_S.rf
  have ho : True := trivial
  have hl : lv_has ls 1 [(0, .int p1)] := hl
  refine lv_iload_n hx hb dX11_deviationOf_0 rfl (lv_at hl 0 rfl) ?_
  refine lv_bipush (v := 16) hx hb dX11_deviationOf_1 (by decide) ?_
  refine lv_idiv hx hb dX11_deviationOf_3 (by decide) ?_
  refine lv_sipush (v := 20000) hx hb dX11_deviationOf_4 (by decide) ?_
  refine lv_isub hx hb dX11_deviationOf_7 ?_
  exact E _ _ _ dX11_deviationOf_8 rfl (Eq.symm rfl)
theorem k_X11_deviationOf {p : Program} {l : Launch} {e : Env} {R : Room} {s : State} {m : MethodId} {args : Array Value} {below : List Frame} {meth : Method} {c : Code} {H : Heap} {locs : List Loc} {cells slots : Nat} {Q : State → Prop} {cc : ByteArray} {pc nL : Nat} {ls : Array Slot} {rest : List Value} {G : gG} {own : String} (X : CX G p s m args c cc nL own) (hS : va_S (gA G) s.heap H locs) {p1 : Int32} {idx : Nat} (hml : Cond.methodLink own idx yX11_deviationOf ∈ TT) (hls : ls.size = nL) (hsum : (rest.map fun v => v.category).sum ≤ 8) (hR : rmX11_deviationOf.frames + 1 ≤ R.frames ∧ 8 + (1 + 11) + rmX11_deviationOf.locals ≤ R.locals) (hcs : cells ≤ R.cells ∧ slots ≤ R.slots) (hdg : decode cc pc = .ok (.invokestatic idx, 3)) (kk : W p l e R s m args below meth c H locs cells slots Q (F0 m (pc + 3) ls (.int (fX11_deviationOf p1) :: rest))) : W p l e R s m args below meth c H locs cells slots Q (F0 m pc ls (.int p1 :: rest)) := c_qi (runS (k := 1) X.1 X.2.1 X.2.2.1 X.2.2.2.1 X.2.2.2.2.1 (mX11_deviationOf l G p1) (pT_bl (fun _ _ _ _ h => h)) hml t_st_X11_deviationOf t_ini_VernierDrawersModel t_code_X11_deviationOf ⟨by decide, by decide, by decide +kernel⟩ rfl rfl hR hcs (fun U hU hW => ⟨preT X hS U hU hW, trivial⟩) rfl hls rfl hsum hdg) (fun _ h => h ▸ kk)
def fX11_firstType (r : Nat) (v : vSt) : Int32 := fX11_typeOf (v 462 (183 : Int32).toNatClampNeg)
def oX11_firstType (r : Nat) (v : vSt) : Prop := vp_in (183) (mlen 462)
abbrev rmX11_firstType : Room := { frames := 1, cells := 0, slots := 0, locals := 20 }
theorem dX11_firstType_0 : decode cX11_firstType 0 = .ok (.aload_n 0, 1) := by decide +kernel
theorem dX11_firstType_1 : decode cX11_firstType 1 = .ok (.getfield 7, 3) := by decide +kernel
theorem dX11_firstType_4 : decode cX11_firstType 4 = .ok (.sipush 183, 3) := by decide +kernel
theorem dX11_firstType_7 : decode cX11_firstType 7 = .ok (.iaload, 1) := by decide +kernel
theorem dX11_firstType_8 : decode cX11_firstType 8 = .ok (.invokestatic 83, 3) := by decide +kernel
theorem dX11_firstType_11 : decode cX11_firstType 11 = .ok (.ireturn, 1) := by decide +kernel
set_option maxHeartbeats 8000000 in
set_option maxRecDepth 100000 in
theorem mX11_firstType (l : Launch) (G : gG) (da : Nat → Nat) (v : vSt) (x : gX) (r : Nat) (hk_r : kd r = 11) (ho : oX11_firstType r v) : QI l yX11_firstType cX11_firstType 1 (some .int) rmX11_firstType [.ref (ga G r)] (pW G da v x) (fX11_firstType r v) := by
  refine gofQ (own := RX11) (by decide) rfl (Nat.le_of_ble_eq_true rfl) (fun p e s m args below meth c ls Q X hH hl E => ?_)
  have hx := X.1
  have hb := X.2.1
  have hown := X.2.2.2.1
  have hts := X.2.2.2.2.1
  have hS : va_S (gA G) s.heap s.heap [] := va_S.rf
  unfold oX11_firstType at ho
  have hl : lv_has ls 1 [(0, .ref (ga G r))] := hl
  refine lv_aload_n hx hb dX11_firstType_0 rfl (lv_at hl 0 rfl) ?_
  refine g_VernierDrawersModel_7 X hH hk_r dX11_firstType_1 ?_
  refine lv_sipush (v := 183) hx hb dX11_firstType_4 (by decide) ?_
  have hq1 := ho
  refine ald_M X hH (Or.inl kd_462) hq1 dX11_firstType_7 ?_
  refine k_X11_typeOf X hS  t_ml_VernierDrawersModel_83 hl.1 (Nat.le_of_ble_eq_true rfl) ⟨Nat.le_of_ble_eq_true rfl, Nat.le_of_ble_eq_true rfl⟩ ⟨Nat.zero_le _, Nat.zero_le _⟩ dX11_firstType_8 ?_
  exact E _ _ _ dX11_firstType_11 rfl (Eq.symm rfl)
theorem k_X11_firstType {p : Program} {l : Launch} {e : Env} {R : Room} {s : State} {m : MethodId} {args : Array Value} {below : List Frame} {meth : Method} {c : Code} {H : Heap} {locs : List Loc} {cells slots : Nat} {Q : State → Prop} {cc : ByteArray} {pc nL : Nat} {ls : Array Slot} {rest : List Value} {G : gG} {own : String} {da : Nat → Nat} {v : vSt} {x : gX} (X : CX G p s m args c cc nL own) (hS : va_S (gA G) s.heap H locs) (hH : Hp G da v x H) {r : Nat} (hk_r : kd r = 11) (ho : oX11_firstType r v) {idx : Nat} (hml : Cond.methodLink own idx yX11_firstType ∈ TT) (hls : ls.size = nL) (hsum : (rest.map fun v => v.category).sum ≤ 8) (hR : rmX11_firstType.frames + 1 ≤ R.frames ∧ 8 + (1 + 11) + rmX11_firstType.locals ≤ R.locals) (hcs : cells ≤ R.cells ∧ slots ≤ R.slots) (hdg : decode cc pc = .ok (.invokevirtual idx, 3)) (kk : W p l e R s m args below meth c H locs cells slots Q (F0 m (pc + 3) ls (.int (fX11_firstType r v) :: rest))) : W p l e R s m args below meth c H locs cells slots Q (F0 m pc ls (.ref (ga G r) :: rest)) := c_qi (runV (k := 0) X.1 X.2.1 X.2.2.1 X.2.2.2.1 X.2.2.2.2.1 (mX11_firstType l G da v x r hk_r ho) pW_bl hml t_im_X11_firstType t_sel_X11_firstType t_ini_VernierDrawersModel t_code_X11_firstType ⟨rfl, by decide, by decide, by decide +kernel⟩ rfl rfl hR hcs (recvW X hH (by rw [hk_r]; decide) (by rw [hk_r]; decide) (ce_11 hk_r) rfl) (preW X hS hH) rfl hls rfl hsum hdg) (fun _ h => h ▸ kk)
def fX11_firstLength (r : Nat) (v : vSt) : Int32 := (fX11_of r (fX11_firstType r v) 0 v) + (fX11_deviationOf (v 462 (183 : Int32).toNatClampNeg))
def oX11_firstLength (r : Nat) (v : vSt) : Prop := (oX11_firstType r v) ∧ ((oX11_of r (fX11_firstType r v) 0 v) ∧ (vp_in (183) (mlen 462)))
abbrev rmX11_firstLength : Room := { frames := 2, cells := 0, slots := 0, locals := 40 }
theorem dX11_firstLength_0 : decode cX11_firstLength 0 = .ok (.aload_n 0, 1) := by decide +kernel
theorem dX11_firstLength_1 : decode cX11_firstLength 1 = .ok (.aload_n 0, 1) := by decide +kernel
theorem dX11_firstLength_2 : decode cX11_firstLength 2 = .ok (.invokevirtual 86, 3) := by decide +kernel
theorem dX11_firstLength_5 : decode cX11_firstLength 5 = .ok (.iconst 0, 1) := by decide +kernel
theorem dX11_firstLength_6 : decode cX11_firstLength 6 = .ok (.invokevirtual 90, 3) := by decide +kernel
theorem dX11_firstLength_9 : decode cX11_firstLength 9 = .ok (.aload_n 0, 1) := by decide +kernel
theorem dX11_firstLength_10 : decode cX11_firstLength 10 = .ok (.getfield 7, 3) := by decide +kernel
theorem dX11_firstLength_13 : decode cX11_firstLength 13 = .ok (.sipush 183, 3) := by decide +kernel
theorem dX11_firstLength_16 : decode cX11_firstLength 16 = .ok (.iaload, 1) := by decide +kernel
theorem dX11_firstLength_17 : decode cX11_firstLength 17 = .ok (.invokestatic 93, 3) := by decide +kernel
theorem dX11_firstLength_20 : decode cX11_firstLength 20 = .ok (.iadd, 1) := by decide +kernel
theorem dX11_firstLength_21 : decode cX11_firstLength 21 = .ok (.ireturn, 1) := by decide +kernel
set_option maxHeartbeats 8000000 in
set_option maxRecDepth 100000 in
theorem mX11_firstLength (l : Launch) (G : gG) (da : Nat → Nat) (v : vSt) (x : gX) (r : Nat) (hk_r : kd r = 11) (ho : oX11_firstLength r v) : QI l yX11_firstLength cX11_firstLength 1 (some .int) rmX11_firstLength [.ref (ga G r)] (pW G da v x) (fX11_firstLength r v) := by
  refine gofQ (own := RX11) (by decide) rfl (Nat.le_of_ble_eq_true rfl) (fun p e s m args below meth c ls Q X hH hl E => ?_)
  have hx := X.1
  have hb := X.2.1
  have hown := X.2.2.2.1
  have hts := X.2.2.2.2.1
  have hS : va_S (gA G) s.heap s.heap [] := va_S.rf
  unfold oX11_firstLength at ho
  have hl : lv_has ls 1 [(0, .ref (ga G r))] := hl
  refine lv_aload_n hx hb dX11_firstLength_0 rfl (lv_at hl 0 rfl) ?_
  refine lv_aload_n hx hb dX11_firstLength_1 rfl (lv_at hl 0 rfl) ?_
  have hq1 := ho.1
  have ho := ho.2
  refine k_X11_firstType X hS hH hk_r hq1 t_ml_VernierDrawersModel_86 hl.1 (Nat.le_of_ble_eq_true rfl) ⟨Nat.le_of_ble_eq_true rfl, Nat.le_of_ble_eq_true rfl⟩ ⟨Nat.zero_le _, Nat.zero_le _⟩ dX11_firstLength_2 ?_
  refine lv_iconst (v := 0) hx hb dX11_firstLength_5 (by decide) ?_
  have hq2 := ho.1
  have ho := ho.2
  refine k_X11_of X hS hH hk_r hq2 t_ml_VernierDrawersModel_90 hl.1 (Nat.le_of_ble_eq_true rfl) ⟨Nat.le_of_ble_eq_true rfl, Nat.le_of_ble_eq_true rfl⟩ ⟨Nat.zero_le _, Nat.zero_le _⟩ dX11_firstLength_6 ?_
  refine lv_aload_n hx hb dX11_firstLength_9 rfl (lv_at hl 0 rfl) ?_
  refine g_VernierDrawersModel_7 X hH hk_r dX11_firstLength_10 ?_
  refine lv_sipush (v := 183) hx hb dX11_firstLength_13 (by decide) ?_
  have hq3 := ho
  refine ald_M X hH (Or.inl kd_462) hq3 dX11_firstLength_16 ?_
  refine k_X11_deviationOf X hS  t_ml_VernierDrawersModel_93 hl.1 (Nat.le_of_ble_eq_true rfl) ⟨Nat.le_of_ble_eq_true rfl, Nat.le_of_ble_eq_true rfl⟩ ⟨Nat.zero_le _, Nat.zero_le _⟩ dX11_firstLength_17 ?_
  refine lv_iadd hx hb dX11_firstLength_20 ?_
  exact E _ _ _ dX11_firstLength_21 rfl (Eq.symm rfl)
theorem k_X11_firstLength {p : Program} {l : Launch} {e : Env} {R : Room} {s : State} {m : MethodId} {args : Array Value} {below : List Frame} {meth : Method} {c : Code} {H : Heap} {locs : List Loc} {cells slots : Nat} {Q : State → Prop} {cc : ByteArray} {pc nL : Nat} {ls : Array Slot} {rest : List Value} {G : gG} {own : String} {da : Nat → Nat} {v : vSt} {x : gX} (X : CX G p s m args c cc nL own) (hS : va_S (gA G) s.heap H locs) (hH : Hp G da v x H) {r : Nat} (hk_r : kd r = 11) (ho : oX11_firstLength r v) {idx : Nat} (hml : Cond.methodLink own idx yX11_firstLength ∈ TT) (hls : ls.size = nL) (hsum : (rest.map fun v => v.category).sum ≤ 8) (hR : rmX11_firstLength.frames + 1 ≤ R.frames ∧ 8 + (1 + 11) + rmX11_firstLength.locals ≤ R.locals) (hcs : cells ≤ R.cells ∧ slots ≤ R.slots) (hdg : decode cc pc = .ok (.invokevirtual idx, 3)) (kk : W p l e R s m args below meth c H locs cells slots Q (F0 m (pc + 3) ls (.int (fX11_firstLength r v) :: rest))) : W p l e R s m args below meth c H locs cells slots Q (F0 m pc ls (.ref (ga G r) :: rest)) := c_qi (runV (k := 0) X.1 X.2.1 X.2.2.1 X.2.2.2.1 X.2.2.2.2.1 (mX11_firstLength l G da v x r hk_r ho) pW_bl hml t_im_X11_firstLength t_sel_X11_firstLength t_ini_VernierDrawersModel t_code_X11_firstLength ⟨rfl, by decide, by decide, by decide +kernel⟩ rfl rfl hR hcs (recvW X hH (by rw [hk_r]; decide) (by rw [hk_r]; decide) (ce_11 hk_r) rfl) (preW X hS hH) rfl hls rfl hsum hdg) (fun _ h => h ▸ kk)
def fX11_firstReading (r : Nat) (p1 : Int32) (v : vSt) : Int32 := fX11_reading r p1 (fX11_of r (fX11_firstType r v) 3 v) (fX11_firstLength r v) v
def oX11_firstReading (r : Nat) (p1 : Int32) (v : vSt) : Prop := (oX11_firstType r v) ∧ ((oX11_of r (fX11_firstType r v) 3 v) ∧ ((oX11_firstLength r v) ∧ (oX11_reading r p1 (fX11_of r (fX11_firstType r v) 3 v) (fX11_firstLength r v) v)))
abbrev rmX11_firstReading : Room := { frames := 3, cells := 0, slots := 0, locals := 70 }
theorem dX11_firstReading_0 : decode cX11_firstReading 0 = .ok (.aload_n 0, 1) := by decide +kernel
theorem dX11_firstReading_1 : decode cX11_firstReading 1 = .ok (.iload_n 1, 1) := by decide +kernel
theorem dX11_firstReading_2 : decode cX11_firstReading 2 = .ok (.aload_n 0, 1) := by decide +kernel
theorem dX11_firstReading_3 : decode cX11_firstReading 3 = .ok (.aload_n 0, 1) := by decide +kernel
theorem dX11_firstReading_4 : decode cX11_firstReading 4 = .ok (.invokevirtual 86, 3) := by decide +kernel
theorem dX11_firstReading_7 : decode cX11_firstReading 7 = .ok (.iconst 3, 1) := by decide +kernel
theorem dX11_firstReading_8 : decode cX11_firstReading 8 = .ok (.invokevirtual 90, 3) := by decide +kernel
theorem dX11_firstReading_11 : decode cX11_firstReading 11 = .ok (.aload_n 0, 1) := by decide +kernel
theorem dX11_firstReading_12 : decode cX11_firstReading 12 = .ok (.invokevirtual 96, 3) := by decide +kernel
theorem dX11_firstReading_15 : decode cX11_firstReading 15 = .ok (.invokevirtual 99, 3) := by decide +kernel
theorem dX11_firstReading_18 : decode cX11_firstReading 18 = .ok (.ireturn, 1) := by decide +kernel
set_option maxHeartbeats 8000000 in
set_option maxRecDepth 100000 in
theorem mX11_firstReading (l : Launch) (G : gG) (da : Nat → Nat) (v : vSt) (x : gX) (r : Nat) (hk_r : kd r = 11) (p1 : Int32) (ho : oX11_firstReading r p1 v) : QI l yX11_firstReading cX11_firstReading 2 (some .int) rmX11_firstReading [.ref (ga G r), .int p1] (pW G da v x) (fX11_firstReading r p1 v) := by
  refine gofQ (own := RX11) (by decide) rfl (Nat.le_of_ble_eq_true rfl) (fun p e s m args below meth c ls Q X hH hl E => ?_)
  have hx := X.1
  have hb := X.2.1
  have hown := X.2.2.2.1
  have hts := X.2.2.2.2.1
  have hS : va_S (gA G) s.heap s.heap [] := va_S.rf
  unfold oX11_firstReading at ho
  have hl : lv_has ls 2 [(0, .ref (ga G r)), (1, .int p1)] := hl
  refine lv_aload_n hx hb dX11_firstReading_0 rfl (lv_at hl 0 rfl) ?_
  refine lv_iload_n hx hb dX11_firstReading_1 rfl (lv_at hl 1 rfl) ?_
  refine lv_aload_n hx hb dX11_firstReading_2 rfl (lv_at hl 0 rfl) ?_
  refine lv_aload_n hx hb dX11_firstReading_3 rfl (lv_at hl 0 rfl) ?_
  have hq1 := ho.1
  have ho := ho.2
  refine k_X11_firstType X hS hH hk_r hq1 t_ml_VernierDrawersModel_86 hl.1 (Nat.le_of_ble_eq_true rfl) ⟨Nat.le_of_ble_eq_true rfl, Nat.le_of_ble_eq_true rfl⟩ ⟨Nat.zero_le _, Nat.zero_le _⟩ dX11_firstReading_4 ?_
  refine lv_iconst (v := 3) hx hb dX11_firstReading_7 (by decide) ?_
  have hq2 := ho.1
  have ho := ho.2
  refine k_X11_of X hS hH hk_r hq2 t_ml_VernierDrawersModel_90 hl.1 (Nat.le_of_ble_eq_true rfl) ⟨Nat.le_of_ble_eq_true rfl, Nat.le_of_ble_eq_true rfl⟩ ⟨Nat.zero_le _, Nat.zero_le _⟩ dX11_firstReading_8 ?_
  refine lv_aload_n hx hb dX11_firstReading_11 rfl (lv_at hl 0 rfl) ?_
  have hq3 := ho.1
  have ho := ho.2
  refine k_X11_firstLength X hS hH hk_r hq3 t_ml_VernierDrawersModel_96 hl.1 (Nat.le_of_ble_eq_true rfl) ⟨Nat.le_of_ble_eq_true rfl, Nat.le_of_ble_eq_true rfl⟩ ⟨Nat.zero_le _, Nat.zero_le _⟩ dX11_firstReading_12 ?_
  have hq4 := ho
  refine k_X11_reading X hS hH hk_r hq4 t_ml_VernierDrawersModel_99 hl.1 (Nat.le_of_ble_eq_true rfl) ⟨Nat.le_of_ble_eq_true rfl, Nat.le_of_ble_eq_true rfl⟩ ⟨Nat.zero_le _, Nat.zero_le _⟩ dX11_firstReading_15 ?_
  exact E _ _ _ dX11_firstReading_18 rfl (Eq.symm rfl)
theorem k_X11_firstReading {p : Program} {l : Launch} {e : Env} {R : Room} {s : State} {m : MethodId} {args : Array Value} {below : List Frame} {meth : Method} {c : Code} {H : Heap} {locs : List Loc} {cells slots : Nat} {Q : State → Prop} {cc : ByteArray} {pc nL : Nat} {ls : Array Slot} {rest : List Value} {G : gG} {own : String} {da : Nat → Nat} {v : vSt} {x : gX} (X : CX G p s m args c cc nL own) (hS : va_S (gA G) s.heap H locs) (hH : Hp G da v x H) {r : Nat} (hk_r : kd r = 11) {p1 : Int32} (ho : oX11_firstReading r p1 v) {idx : Nat} (hml : Cond.methodLink own idx yX11_firstReading ∈ TT) (hls : ls.size = nL) (hsum : (rest.map fun v => v.category).sum ≤ 8) (hR : rmX11_firstReading.frames + 1 ≤ R.frames ∧ 8 + (2 + 11) + rmX11_firstReading.locals ≤ R.locals) (hcs : cells ≤ R.cells ∧ slots ≤ R.slots) (hdg : decode cc pc = .ok (.invokevirtual idx, 3)) (kk : W p l e R s m args below meth c H locs cells slots Q (F0 m (pc + 3) ls (.int (fX11_firstReading r p1 v) :: rest))) : W p l e R s m args below meth c H locs cells slots Q (F0 m pc ls (.int p1 :: .ref (ga G r) :: rest)) := c_qi (runV (k := 1) X.1 X.2.1 X.2.2.1 X.2.2.2.1 X.2.2.2.2.1 (mX11_firstReading l G da v x r hk_r p1 ho) pW_bl hml t_im_X11_firstReading t_sel_X11_firstReading t_ini_VernierDrawersModel t_code_X11_firstReading ⟨rfl, by decide, by decide, by decide +kernel⟩ rfl rfl hR hcs (recvW X hH (by rw [hk_r]; decide) (by rw [hk_r]; decide) (ce_11 hk_r) rfl) (preW X hS hH) rfl hls rfl hsum hdg) (fun _ h => h ▸ kk)
def fX11_reasonNot (r : Nat) (p1 : Int32) (v : vSt) : Int32 := if ((v 462 (206 : Int32).toNatClampNeg) : Int32) = 0 then 1 else (let y7 : Int32 := (if ((5 * (fX11_step r p1 v)) : Int32) ≤ ((fX11_of r (fX11_firstType r v) 2 v) - (fX11_of r (fX11_firstType r v) 1 v)) then 0 else 1 : Int32); if ((fX11_due r p1 v) : Int32) = 0 then (if (y7 : Int32) = 0 then (if (0 : Int32) ≤ (fX11_firstReading r p1 v) then 0 else 4) else 3) else 2)
def oX11_reasonNot (r : Nat) (p1 : Int32) (v : vSt) : Prop := (vp_in (206) (mlen 462)) ∧ (¬ (((v 462 (206 : Int32).toNatClampNeg) : Int32) = 0) → ((oX11_firstType r v) ∧ ((oX11_step r p1 v) ∧ ((oX11_of r (fX11_firstType r v) 2 v) ∧ ((oX11_of r (fX11_firstType r v) 1 v) ∧ ((∀ (y7 : Int32), y7 = ((if ((5 * (fX11_step r p1 v)) : Int32) ≤ ((fX11_of r (fX11_firstType r v) 2 v) - (fX11_of r (fX11_firstType r v) 1 v)) then 0 else 1 : Int32) : Int32) → ((oX11_due r p1 v) ∧ ((((fX11_due r p1 v) : Int32) = 0) → (((y7 : Int32) = 0) → (oX11_firstReading r p1 v)))))))))))
abbrev rmX11_reasonNot : Room := { frames := 4, cells := 0, slots := 0, locals := 91 }
theorem dX11_reasonNot_0 : decode cX11_reasonNot 0 = .ok (.aload_n 0, 1) := by decide +kernel
theorem dX11_reasonNot_1 : decode cX11_reasonNot 1 = .ok (.getfield 7, 3) := by decide +kernel
theorem dX11_reasonNot_4 : decode cX11_reasonNot 4 = .ok (.sipush 206, 3) := by decide +kernel
theorem dX11_reasonNot_7 : decode cX11_reasonNot 7 = .ok (.iaload, 1) := by decide +kernel
theorem dX11_reasonNot_8 : decode cX11_reasonNot 8 = .ok (.ifCond .ne 5, 3) := by decide +kernel
theorem dX11_reasonNot_11 : decode cX11_reasonNot 11 = .ok (.iconst 1, 1) := by decide +kernel
theorem dX11_reasonNot_12 : decode cX11_reasonNot 12 = .ok (.ireturn, 1) := by decide +kernel
theorem dX11_reasonNot_13 : decode cX11_reasonNot 13 = .ok (.aload_n 0, 1) := by decide +kernel
theorem dX11_reasonNot_14 : decode cX11_reasonNot 14 = .ok (.invokevirtual 86, 3) := by decide +kernel
theorem dX11_reasonNot_17 : decode cX11_reasonNot 17 = .ok (.istore_n 2, 1) := by decide +kernel
theorem dX11_reasonNot_18 : decode cX11_reasonNot 18 = .ok (.iconst 5, 1) := by decide +kernel
theorem dX11_reasonNot_19 : decode cX11_reasonNot 19 = .ok (.aload_n 0, 1) := by decide +kernel
theorem dX11_reasonNot_20 : decode cX11_reasonNot 20 = .ok (.iload_n 1, 1) := by decide +kernel
theorem dX11_reasonNot_21 : decode cX11_reasonNot 21 = .ok (.invokevirtual 61, 3) := by decide +kernel
theorem dX11_reasonNot_24 : decode cX11_reasonNot 24 = .ok (.imul, 1) := by decide +kernel
theorem dX11_reasonNot_25 : decode cX11_reasonNot 25 = .ok (.aload_n 0, 1) := by decide +kernel
theorem dX11_reasonNot_26 : decode cX11_reasonNot 26 = .ok (.iload_n 2, 1) := by decide +kernel
theorem dX11_reasonNot_27 : decode cX11_reasonNot 27 = .ok (.iconst 2, 1) := by decide +kernel
theorem dX11_reasonNot_28 : decode cX11_reasonNot 28 = .ok (.invokevirtual 90, 3) := by decide +kernel
theorem dX11_reasonNot_31 : decode cX11_reasonNot 31 = .ok (.aload_n 0, 1) := by decide +kernel
theorem dX11_reasonNot_32 : decode cX11_reasonNot 32 = .ok (.iload_n 2, 1) := by decide +kernel
theorem dX11_reasonNot_33 : decode cX11_reasonNot 33 = .ok (.iconst 1, 1) := by decide +kernel
theorem dX11_reasonNot_34 : decode cX11_reasonNot 34 = .ok (.invokevirtual 90, 3) := by decide +kernel
theorem dX11_reasonNot_37 : decode cX11_reasonNot 37 = .ok (.isub, 1) := by decide +kernel
theorem dX11_reasonNot_38 : decode cX11_reasonNot 38 = .ok (.if_icmp .le 7, 3) := by decide +kernel
theorem dX11_reasonNot_41 : decode cX11_reasonNot 41 = .ok (.iconst 1, 1) := by decide +kernel
theorem dX11_reasonNot_42 : decode cX11_reasonNot 42 = .ok (.goto 4, 3) := by decide +kernel
theorem dX11_reasonNot_45 : decode cX11_reasonNot 45 = .ok (.iconst 0, 1) := by decide +kernel
theorem dX11_reasonNot_46 : decode cX11_reasonNot 46 = .ok (.istore_n 3, 1) := by decide +kernel
theorem dX11_reasonNot_47 : decode cX11_reasonNot 47 = .ok (.aload_n 0, 1) := by decide +kernel
theorem dX11_reasonNot_48 : decode cX11_reasonNot 48 = .ok (.iload_n 1, 1) := by decide +kernel
theorem dX11_reasonNot_49 : decode cX11_reasonNot 49 = .ok (.invokevirtual 103, 3) := by decide +kernel
theorem dX11_reasonNot_52 : decode cX11_reasonNot 52 = .ok (.ifCond .eq 7, 3) := by decide +kernel
theorem dX11_reasonNot_55 : decode cX11_reasonNot 55 = .ok (.iconst 2, 1) := by decide +kernel
theorem dX11_reasonNot_56 : decode cX11_reasonNot 56 = .ok (.goto 24, 3) := by decide +kernel
theorem dX11_reasonNot_59 : decode cX11_reasonNot 59 = .ok (.iload_n 3, 1) := by decide +kernel
theorem dX11_reasonNot_60 : decode cX11_reasonNot 60 = .ok (.ifCond .eq 7, 3) := by decide +kernel
theorem dX11_reasonNot_63 : decode cX11_reasonNot 63 = .ok (.iconst 3, 1) := by decide +kernel
theorem dX11_reasonNot_64 : decode cX11_reasonNot 64 = .ok (.goto 16, 3) := by decide +kernel
theorem dX11_reasonNot_67 : decode cX11_reasonNot 67 = .ok (.aload_n 0, 1) := by decide +kernel
theorem dX11_reasonNot_68 : decode cX11_reasonNot 68 = .ok (.iload_n 1, 1) := by decide +kernel
theorem dX11_reasonNot_69 : decode cX11_reasonNot 69 = .ok (.invokevirtual 107, 3) := by decide +kernel
theorem dX11_reasonNot_72 : decode cX11_reasonNot 72 = .ok (.ifCond .ge 7, 3) := by decide +kernel
theorem dX11_reasonNot_75 : decode cX11_reasonNot 75 = .ok (.iconst 4, 1) := by decide +kernel
theorem dX11_reasonNot_76 : decode cX11_reasonNot 76 = .ok (.goto 4, 3) := by decide +kernel
theorem dX11_reasonNot_79 : decode cX11_reasonNot 79 = .ok (.iconst 0, 1) := by decide +kernel
theorem dX11_reasonNot_80 : decode cX11_reasonNot 80 = .ok (.ireturn, 1) := by decide +kernel
set_option maxHeartbeats 8000000 in
set_option maxRecDepth 100000 in
theorem mX11_reasonNot (l : Launch) (G : gG) (da : Nat → Nat) (v : vSt) (x : gX) (r : Nat) (hk_r : kd r = 11) (p1 : Int32) (ho : oX11_reasonNot r p1 v) : QI l yX11_reasonNot cX11_reasonNot 4 (some .int) rmX11_reasonNot [.ref (ga G r), .int p1] (pW G da v x) (fX11_reasonNot r p1 v) := by
  refine gofQ (own := RX11) (by decide) rfl (Nat.le_of_ble_eq_true rfl) (fun p e s m args below meth c ls Q X hH hl E => ?_)
  have hx := X.1
  have hb := X.2.1
  have hown := X.2.2.2.1
  have hts := X.2.2.2.2.1
  have hS : va_S (gA G) s.heap s.heap [] := va_S.rf
  unfold oX11_reasonNot at ho
  have hl : lv_has ls 4 [(0, .ref (ga G r)), (1, .int p1)] := hl
  refine lv_aload_n hx hb dX11_reasonNot_0 rfl (lv_at hl 0 rfl) ?_
  refine g_VernierDrawersModel_7 X hH hk_r dX11_reasonNot_1 ?_
  refine lv_sipush (v := 206) hx hb dX11_reasonNot_4 (by decide) ?_
  have hq1 := ho.1
  have ho := ho.2
  refine ald_M X hH (Or.inl kd_462) hq1 dX11_reasonNot_7 ?_
  refine lv_if_ne (tgt := 13) hx hb dX11_reasonNot_8 (by decide) (fun c2 => ?_) (fun c2 => ?_)
  · have ho := ho c2
    refine lv_aload_n hx hb dX11_reasonNot_13 rfl (lv_at hl 0 rfl) ?_
    have hq3 := ho.1
    have ho := ho.2
    refine k_X11_firstType X hS hH hk_r hq3 t_ml_VernierDrawersModel_86 hl.1 (Nat.le_of_ble_eq_true rfl) ⟨Nat.le_of_ble_eq_true rfl, Nat.le_of_ble_eq_true rfl⟩ ⟨Nat.zero_le _, Nat.zero_le _⟩ dX11_reasonNot_14 ?_
    refine lv_istore_n (lv' := [(2, .int (fX11_firstType r v)), (0, .ref (ga G r)), (1, .int p1)]) hx hb dX11_reasonNot_17 rfl hl (by decide) rfl (fun ls hl => ?_)
    refine lv_iconst (v := 5) hx hb dX11_reasonNot_18 (by decide) ?_
    refine lv_aload_n hx hb dX11_reasonNot_19 rfl (lv_at hl 1 rfl) ?_
    refine lv_iload_n hx hb dX11_reasonNot_20 rfl (lv_at hl 2 rfl) ?_
    have hq4 := ho.1
    have ho := ho.2
    refine k_X11_step X hS hH hk_r hq4 t_ml_VernierDrawersModel_61 hl.1 (Nat.le_of_ble_eq_true rfl) ⟨Nat.le_of_ble_eq_true rfl, Nat.le_of_ble_eq_true rfl⟩ ⟨Nat.zero_le _, Nat.zero_le _⟩ dX11_reasonNot_21 ?_
    refine lv_imul hx hb dX11_reasonNot_24 ?_
    refine lv_aload_n hx hb dX11_reasonNot_25 rfl (lv_at hl 1 rfl) ?_
    refine lv_iload_n hx hb dX11_reasonNot_26 rfl (lv_at hl 0 rfl) ?_
    refine lv_iconst (v := 2) hx hb dX11_reasonNot_27 (by decide) ?_
    have hq5 := ho.1
    have ho := ho.2
    refine k_X11_of X hS hH hk_r hq5 t_ml_VernierDrawersModel_90 hl.1 (Nat.le_of_ble_eq_true rfl) ⟨Nat.le_of_ble_eq_true rfl, Nat.le_of_ble_eq_true rfl⟩ ⟨Nat.zero_le _, Nat.zero_le _⟩ dX11_reasonNot_28 ?_
    refine lv_aload_n hx hb dX11_reasonNot_31 rfl (lv_at hl 1 rfl) ?_
    refine lv_iload_n hx hb dX11_reasonNot_32 rfl (lv_at hl 0 rfl) ?_
    refine lv_iconst (v := 1) hx hb dX11_reasonNot_33 (by decide) ?_
    have hq6 := ho.1
    have ho := ho.2
    refine k_X11_of X hS hH hk_r hq6 t_ml_VernierDrawersModel_90 hl.1 (Nat.le_of_ble_eq_true rfl) ⟨Nat.le_of_ble_eq_true rfl, Nat.le_of_ble_eq_true rfl⟩ ⟨Nat.zero_le _, Nat.zero_le _⟩ dX11_reasonNot_34 ?_
    refine lv_isub hx hb dX11_reasonNot_37 ?_
    have K8 : ∀ (y7 : Int32) (ls : Array Slot), y7 = (if ((5 * (fX11_step r p1 v)) : Int32) ≤ ((fX11_of r (fX11_firstType r v) 2 v) - (fX11_of r (fX11_firstType r v) 1 v)) then 0 else 1 : Int32) → lv_has ls 4 [(0, .ref (ga G r)), (1, .int p1)] → W p l e rmX11_reasonNot s m args below meth c s.heap [] 0 0 Q (F0 m 46 ls [.int y7]) := by
      intro y7 ls ey7 hl
      have ho := ho y7 ey7
      refine lv_istore_n (lv' := [(3, .int y7), (0, .ref (ga G r)), (1, .int p1)]) hx hb dX11_reasonNot_46 rfl hl (by decide) rfl (fun ls hl => ?_)
      refine lv_aload_n hx hb dX11_reasonNot_47 rfl (lv_at hl 1 rfl) ?_
      refine lv_iload_n hx hb dX11_reasonNot_48 rfl (lv_at hl 2 rfl) ?_
      have hq9 := ho.1
      have ho := ho.2
      refine k_X11_due X hS hH hk_r hq9 t_ml_VernierDrawersModel_103 hl.1 (Nat.le_of_ble_eq_true rfl) ⟨Nat.le_of_ble_eq_true rfl, Nat.le_of_ble_eq_true rfl⟩ ⟨Nat.zero_le _, Nat.zero_le _⟩ dX11_reasonNot_49 ?_
      refine lv_if_eq (tgt := 59) hx hb dX11_reasonNot_52 (by decide) (fun c10 => ?_) (fun c10 => ?_)
      · have ho := ho c10
        refine lv_iload_n hx hb dX11_reasonNot_59 rfl (lv_at hl 0 rfl) ?_
        refine lv_if_eq (tgt := 67) hx hb dX11_reasonNot_60 (by decide) (fun c11 => ?_) (fun c11 => ?_)
        · have ho := ho c11
          refine lv_aload_n hx hb dX11_reasonNot_67 rfl (lv_at hl 1 rfl) ?_
          refine lv_iload_n hx hb dX11_reasonNot_68 rfl (lv_at hl 2 rfl) ?_
          have hq12 := ho
          refine k_X11_firstReading X hS hH hk_r hq12 t_ml_VernierDrawersModel_107 hl.1 (Nat.le_of_ble_eq_true rfl) ⟨Nat.le_of_ble_eq_true rfl, Nat.le_of_ble_eq_true rfl⟩ ⟨Nat.zero_le _, Nat.zero_le _⟩ dX11_reasonNot_69 ?_
          refine lv_if_ge (tgt := 79) hx hb dX11_reasonNot_72 (by decide) (fun c13 => ?_) (fun c13 => ?_)
          · skip
            refine lv_iconst (v := 0) hx hb dX11_reasonNot_79 (by decide) ?_
            replace ey7 := Eq.symm ey7
            subst ey7
            exact E _ _ _ dX11_reasonNot_80 rfl (Eq.symm ((fX11_reasonNot.eq_1 _ _ _).trans ((if_neg c2).trans ((if_pos c10).trans ((if_pos c11).trans ((if_pos c13).trans rfl))))))
          · skip
            refine lv_iconst (v := 4) hx hb dX11_reasonNot_75 (by decide) ?_
            refine lv_goto (tgt := 80) hx hb dX11_reasonNot_76 (by decide) ?_
            replace ey7 := Eq.symm ey7
            subst ey7
            exact E _ _ _ dX11_reasonNot_80 rfl (Eq.symm ((fX11_reasonNot.eq_1 _ _ _).trans ((if_neg c2).trans ((if_pos c10).trans ((if_pos c11).trans ((if_neg c13).trans rfl))))))
        · skip
          refine lv_iconst (v := 3) hx hb dX11_reasonNot_63 (by decide) ?_
          refine lv_goto (tgt := 80) hx hb dX11_reasonNot_64 (by decide) ?_
          replace ey7 := Eq.symm ey7
          subst ey7
          exact E _ _ _ dX11_reasonNot_80 rfl (Eq.symm ((fX11_reasonNot.eq_1 _ _ _).trans ((if_neg c2).trans ((if_pos c10).trans ((if_neg c11).trans rfl)))))
      · skip
        refine lv_iconst (v := 2) hx hb dX11_reasonNot_55 (by decide) ?_
        refine lv_goto (tgt := 80) hx hb dX11_reasonNot_56 (by decide) ?_
        replace ey7 := Eq.symm ey7
        subst ey7
        exact E _ _ _ dX11_reasonNot_80 rfl (Eq.symm ((fX11_reasonNot.eq_1 _ _ _).trans ((if_neg c2).trans ((if_neg c10).trans rfl))))
    refine lv_icmp_le (tgt := 45) hx hb dX11_reasonNot_38 (by decide) (fun c8 => ?_) (fun c8 => ?_)
    · skip
      refine lv_iconst (v := 0) hx hb dX11_reasonNot_45 (by decide) ?_
      exact K8 _ _ (Eq.symm ((if_pos c8).trans rfl)) (lv_sub hl [1, 2] rfl)
    · skip
      refine lv_iconst (v := 1) hx hb dX11_reasonNot_41 (by decide) ?_
      refine lv_goto (tgt := 46) hx hb dX11_reasonNot_42 (by decide) ?_
      exact K8 _ _ (Eq.symm ((if_neg c8).trans rfl)) (lv_sub hl [1, 2] rfl)
  · skip
    refine lv_iconst (v := 1) hx hb dX11_reasonNot_11 (by decide) ?_
    exact E _ _ _ dX11_reasonNot_12 rfl (Eq.symm ((fX11_reasonNot.eq_1 _ _ _).trans ((if_pos c2).trans rfl)))
theorem k_X11_reasonNot {p : Program} {l : Launch} {e : Env} {R : Room} {s : State} {m : MethodId} {args : Array Value} {below : List Frame} {meth : Method} {c : Code} {H : Heap} {locs : List Loc} {cells slots : Nat} {Q : State → Prop} {cc : ByteArray} {pc nL : Nat} {ls : Array Slot} {rest : List Value} {G : gG} {own : String} {da : Nat → Nat} {v : vSt} {x : gX} (X : CX G p s m args c cc nL own) (hS : va_S (gA G) s.heap H locs) (hH : Hp G da v x H) {r : Nat} (hk_r : kd r = 11) {p1 : Int32} (ho : oX11_reasonNot r p1 v) {idx : Nat} (hml : Cond.methodLink own idx yX11_reasonNot ∈ TT) (hls : ls.size = nL) (hsum : (rest.map fun v => v.category).sum ≤ 8) (hR : rmX11_reasonNot.frames + 1 ≤ R.frames ∧ 8 + (4 + 11) + rmX11_reasonNot.locals ≤ R.locals) (hcs : cells ≤ R.cells ∧ slots ≤ R.slots) (hdg : decode cc pc = .ok (.invokevirtual idx, 3)) (kk : W p l e R s m args below meth c H locs cells slots Q (F0 m (pc + 3) ls (.int (fX11_reasonNot r p1 v) :: rest))) : W p l e R s m args below meth c H locs cells slots Q (F0 m pc ls (.int p1 :: .ref (ga G r) :: rest)) := c_qi (runV (k := 1) X.1 X.2.1 X.2.2.1 X.2.2.2.1 X.2.2.2.2.1 (mX11_reasonNot l G da v x r hk_r p1 ho) pW_bl hml t_im_X11_reasonNot t_sel_X11_reasonNot t_ini_VernierDrawersModel t_code_X11_reasonNot ⟨rfl, by decide, by decide, by decide +kernel⟩ rfl rfl hR hcs (recvW X hH (by rw [hk_r]; decide) (by rw [hk_r]; decide) (ce_11 hk_r) rfl) (preW X hS hH) rfl hls rfl hsum hdg) (fun _ h => h ▸ kk)
