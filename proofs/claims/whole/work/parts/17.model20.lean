/-! 17.model -/
def fX11_toldOfType (r : Nat) (p1 : Int32) (p2 : Int32) (v : vSt) : Int32 × vSt := let v3 : vSt := (fX11_asks r (fX11_isType r p1 v) v).2; if (((fX11_asks r (fX11_isType r p1 v) v).1) : Int32) = 0 then ((0, v3)) else ((fX11_of r p1 p2 v3, v3))
def oX11_toldOfType (r : Nat) (p1 : Int32) (p2 : Int32) (v : vSt) : Prop := (oX11_isType r p1 v) ∧ ((oX11_asks r (fX11_isType r p1 v) v) ∧ (∀ v3 : vSt, v3 = ((fX11_asks r (fX11_isType r p1 v) v).2) → (¬ ((((fX11_asks r (fX11_isType r p1 v) v).1) : Int32) = 0) → (oX11_of r p1 p2 v3))))
abbrev rmX11_toldOfType : Room := { frames := 2, cells := 0, slots := 0, locals := 43 }
theorem dX11_toldOfType_0 : decode cX11_toldOfType 0 = .ok (.aload_n 0, 1) := by decide +kernel
theorem dX11_toldOfType_1 : decode cX11_toldOfType 1 = .ok (.aload_n 0, 1) := by decide +kernel
theorem dX11_toldOfType_2 : decode cX11_toldOfType 2 = .ok (.iload_n 1, 1) := by decide +kernel
theorem dX11_toldOfType_3 : decode cX11_toldOfType 3 = .ok (.invokevirtual 152, 3) := by decide +kernel
theorem dX11_toldOfType_6 : decode cX11_toldOfType 6 = .ok (.invokevirtual 214, 3) := by decide +kernel
theorem dX11_toldOfType_9 : decode cX11_toldOfType 9 = .ok (.ifCond .eq 12, 3) := by decide +kernel
theorem dX11_toldOfType_12 : decode cX11_toldOfType 12 = .ok (.aload_n 0, 1) := by decide +kernel
theorem dX11_toldOfType_13 : decode cX11_toldOfType 13 = .ok (.iload_n 1, 1) := by decide +kernel
theorem dX11_toldOfType_14 : decode cX11_toldOfType 14 = .ok (.iload_n 2, 1) := by decide +kernel
theorem dX11_toldOfType_15 : decode cX11_toldOfType 15 = .ok (.invokevirtual 90, 3) := by decide +kernel
theorem dX11_toldOfType_18 : decode cX11_toldOfType 18 = .ok (.goto 4, 3) := by decide +kernel
theorem dX11_toldOfType_21 : decode cX11_toldOfType 21 = .ok (.iconst 0, 1) := by decide +kernel
theorem dX11_toldOfType_22 : decode cX11_toldOfType 22 = .ok (.ireturn, 1) := by decide +kernel
set_option maxHeartbeats 8000000 in
set_option maxRecDepth 100000 in
theorem mX11_toldOfType (l : Launch) (G : gG) (da : Nat → Nat) (v : vSt) (x : gX) (r : Nat) (hk_r : kd r = 11) (p1 : Int32) (p2 : Int32) (ho : oX11_toldOfType r p1 p2 v) : MI l yX11_toldOfType cX11_toldOfType 3 (some .int) rmX11_toldOfType [.ref (ga G r), .int p1, .int p2] G da v x 0 0 (fX11_toldOfType r p1 p2 v).1 (fX11_toldOfType r p1 p2 v).2 x := by
  refine gofMI (own := RX11) (by decide) rfl (Nat.le_of_ble_eq_true rfl) (fun p e s m args below meth c ls Q X hH hl E => ?_)
  have hx := X.1
  have hb := X.2.1
  have hown := X.2.2.2.1
  have hts := X.2.2.2.2.1
  have hS : va_S (gA G) s.heap s.heap [] := va_S.rf
  unfold oX11_toldOfType at ho
  have hl : lv_has ls 3 [(0, .ref (ga G r)), (1, .int p1), (2, .int p2)] := hl
  refine lv_aload_n hx hb dX11_toldOfType_0 rfl (lv_at hl 0 rfl) ?_
  refine lv_aload_n hx hb dX11_toldOfType_1 rfl (lv_at hl 0 rfl) ?_
  refine lv_iload_n hx hb dX11_toldOfType_2 rfl (lv_at hl 1 rfl) ?_
  have hq1 := ho.1
  have ho := ho.2
  refine k_X11_isType X hS hH hk_r hq1 t_ml_VernierDrawersModel_152 hl.1 (Nat.le_of_ble_eq_true rfl) ⟨Nat.le_of_ble_eq_true rfl, Nat.le_of_ble_eq_true rfl⟩ ⟨Nat.zero_le _, Nat.zero_le _⟩ dX11_toldOfType_3 ?_
  have hq2 := ho.1
  have ho := ho.2
  refine k_X11_asks X hS hH hk_r hq2 t_ml_VernierDrawersModel_214 hl.1 (Nat.le_of_ble_eq_true rfl) ⟨Nat.le_of_ble_eq_true rfl, Nat.le_of_ble_eq_true rfl⟩ ⟨Nat.zero_le _, Nat.zero_le _⟩ dX11_toldOfType_6 (fun da H locs v3 ev3 hH hS => ?_)
  have ho := ho v3 ev3
  refine lv_if_eq (tgt := 21) hx hb dX11_toldOfType_9 (by decide) (fun c4 => ?_) (fun c4 => ?_)
  · skip
    refine lv_iconst (v := 0) hx hb dX11_toldOfType_21 (by decide) ?_
    replace ev3 := Eq.symm ev3
    subst ev3
    exact E _ _ _ _ _ _ _ _ _ dX11_toldOfType_22 rfl (pr1 ((fX11_toldOfType.eq_1 _ _ _ _).trans ((if_pos c4).trans rfl))) (pr2 ((fX11_toldOfType.eq_1 _ _ _ _).trans ((if_pos c4).trans rfl))) hH hS (Nat.zero_le _) (Nat.zero_le _)
  · have ho := ho c4
    refine lv_aload_n hx hb dX11_toldOfType_12 rfl (lv_at hl 0 rfl) ?_
    refine lv_iload_n hx hb dX11_toldOfType_13 rfl (lv_at hl 1 rfl) ?_
    refine lv_iload_n hx hb dX11_toldOfType_14 rfl (lv_at hl 2 rfl) ?_
    have hq5 := ho
    refine k_X11_of X hS hH hk_r hq5 t_ml_VernierDrawersModel_90 hl.1 (Nat.le_of_ble_eq_true rfl) ⟨Nat.le_of_ble_eq_true rfl, Nat.le_of_ble_eq_true rfl⟩ ⟨Nat.zero_le _, Nat.zero_le _⟩ dX11_toldOfType_15 ?_
    refine lv_goto (tgt := 22) hx hb dX11_toldOfType_18 (by decide) ?_
    replace ev3 := Eq.symm ev3
    subst ev3
    exact E _ _ _ _ _ _ _ _ _ dX11_toldOfType_22 rfl (pr1 ((fX11_toldOfType.eq_1 _ _ _ _).trans ((if_neg c4).trans rfl))) (pr2 ((fX11_toldOfType.eq_1 _ _ _ _).trans ((if_neg c4).trans rfl))) hH hS (Nat.zero_le _) (Nat.zero_le _)
theorem k_X11_toldOfType {p : Program} {l : Launch} {e : Env} {R : Room} {s : State} {m : MethodId} {args : Array Value} {below : List Frame} {meth : Method} {c : Code} {H : Heap} {locs : List Loc} {cells slots : Nat} {Q : State → Prop} {cc : ByteArray} {pc nL : Nat} {ls : Array Slot} {rest : List Value} {G : gG} {own : String} {da : Nat → Nat} {v : vSt} {x : gX} (X : CX G p s m args c cc nL own) (hS : va_S (gA G) s.heap H locs) (hH : Hp G da v x H) {r : Nat} (hk_r : kd r = 11) {p1 : Int32} {p2 : Int32} (ho : oX11_toldOfType r p1 p2 v) {idx : Nat} (hml : Cond.methodLink own idx yX11_toldOfType ∈ TT) (hls : ls.size = nL) (hsum : (rest.map fun v => v.category).sum ≤ 8) (hR : rmX11_toldOfType.frames + 1 ≤ R.frames ∧ 8 + (3 + 11) + rmX11_toldOfType.locals ≤ R.locals) (hcs : cells ≤ R.cells ∧ slots ≤ R.slots) (hdg : decode cc pc = .ok (.invokevirtual idx, 3)) (kk : ∀ (d : Nat → Nat) (H1 : Heap) (locs1 : List Loc) (v1 : vSt), v1 = (fX11_toldOfType r p1 p2 v).2 → Hp G d v1 x H1 → va_S (gA G) s.heap H1 locs1 → W p l e R s m args below meth c H1 locs1 cells slots Q (F0 m (pc + 3) ls (.int (fX11_toldOfType r p1 p2 v).1 :: rest))) : W p l e R s m args below meth c H locs cells slots Q (F0 m pc ls (.int p2 :: .int p1 :: .ref (ga G r) :: rest)) := c_mi X.2.2.2.2.2.2 (runV (k := 2) X.1 X.2.1 X.2.2.1 X.2.2.2.1 X.2.2.2.2.1 (mX11_toldOfType l G da v x r hk_r p1 p2 ho) pW_bl hml t_im_X11_toldOfType t_sel_X11_toldOfType t_ini_VernierDrawersModel t_code_X11_toldOfType ⟨rfl, by decide, by decide, by decide +kernel⟩ rfl rfl hR hcs (recvW X hH (by rw [hk_r]; decide) (by rw [hk_r]; decide) (ce_11 hk_r) rfl) (preW X hS hH) rfl hls rfl hsum hdg) hS kk
def fX11_types (r : Nat) (v : vSt) : Int32 × vSt := let v2 : vSt := (fX11_account r 205 v).2; ((fX11_account r 205 v).1, v2)
def oX11_types (r : Nat) (v : vSt) : Prop := oX11_account r 205 v
abbrev rmX11_types : Room := { frames := 1, cells := 0, slots := 0, locals := 21 }
theorem dX11_types_0 : decode cX11_types 0 = .ok (.aload_n 0, 1) := by decide +kernel
theorem dX11_types_1 : decode cX11_types 1 = .ok (.sipush 205, 3) := by decide +kernel
theorem dX11_types_4 : decode cX11_types 4 = .ok (.invokevirtual 218, 3) := by decide +kernel
theorem dX11_types_7 : decode cX11_types 7 = .ok (.ireturn, 1) := by decide +kernel
set_option maxHeartbeats 8000000 in
set_option maxRecDepth 100000 in
theorem mX11_types (l : Launch) (G : gG) (da : Nat → Nat) (v : vSt) (x : gX) (r : Nat) (hk_r : kd r = 11) (ho : oX11_types r v) : MI l yX11_types cX11_types 1 (some .int) rmX11_types [.ref (ga G r)] G da v x 0 0 (fX11_types r v).1 (fX11_types r v).2 x := by
  refine gofMI (own := RX11) (by decide) rfl (Nat.le_of_ble_eq_true rfl) (fun p e s m args below meth c ls Q X hH hl E => ?_)
  have hx := X.1
  have hb := X.2.1
  have hown := X.2.2.2.1
  have hts := X.2.2.2.2.1
  have hS : va_S (gA G) s.heap s.heap [] := va_S.rf
  unfold oX11_types at ho
  have hl : lv_has ls 1 [(0, .ref (ga G r))] := hl
  refine lv_aload_n hx hb dX11_types_0 rfl (lv_at hl 0 rfl) ?_
  refine lv_sipush (v := 205) hx hb dX11_types_1 (by decide) ?_
  have hq1 := ho
  refine k_X11_account X hS hH hk_r hq1 t_ml_VernierDrawersModel_218 hl.1 (Nat.le_of_ble_eq_true rfl) ⟨Nat.le_of_ble_eq_true rfl, Nat.le_of_ble_eq_true rfl⟩ ⟨Nat.zero_le _, Nat.zero_le _⟩ dX11_types_4 (fun da H locs v2 ev2 hH hS => ?_)
  replace ev2 := Eq.symm ev2
  subst ev2
  exact E _ _ _ _ _ _ _ _ _ dX11_types_7 rfl (pr1 rfl) (pr2 rfl) hH hS (Nat.zero_le _) (Nat.zero_le _)
theorem k_X11_types {p : Program} {l : Launch} {e : Env} {R : Room} {s : State} {m : MethodId} {args : Array Value} {below : List Frame} {meth : Method} {c : Code} {H : Heap} {locs : List Loc} {cells slots : Nat} {Q : State → Prop} {cc : ByteArray} {pc nL : Nat} {ls : Array Slot} {rest : List Value} {G : gG} {own : String} {da : Nat → Nat} {v : vSt} {x : gX} (X : CX G p s m args c cc nL own) (hS : va_S (gA G) s.heap H locs) (hH : Hp G da v x H) {r : Nat} (hk_r : kd r = 11) (ho : oX11_types r v) {idx : Nat} (hml : Cond.methodLink own idx yX11_types ∈ TT) (hls : ls.size = nL) (hsum : (rest.map fun v => v.category).sum ≤ 8) (hR : rmX11_types.frames + 1 ≤ R.frames ∧ 8 + (1 + 11) + rmX11_types.locals ≤ R.locals) (hcs : cells ≤ R.cells ∧ slots ≤ R.slots) (hdg : decode cc pc = .ok (.invokevirtual idx, 3)) (kk : ∀ (d : Nat → Nat) (H1 : Heap) (locs1 : List Loc) (v1 : vSt), v1 = (fX11_types r v).2 → Hp G d v1 x H1 → va_S (gA G) s.heap H1 locs1 → W p l e R s m args below meth c H1 locs1 cells slots Q (F0 m (pc + 3) ls (.int (fX11_types r v).1 :: rest))) : W p l e R s m args below meth c H locs cells slots Q (F0 m pc ls (.ref (ga G r) :: rest)) := c_mi X.2.2.2.2.2.2 (runV (k := 0) X.1 X.2.1 X.2.2.1 X.2.2.2.1 X.2.2.2.2.1 (mX11_types l G da v x r hk_r ho) pW_bl hml t_im_X11_types t_sel_X11_types t_ini_VernierDrawersModel t_code_X11_types ⟨rfl, by decide, by decide, by decide +kernel⟩ rfl rfl hR hcs (recvW X hH (by rw [hk_r]; decide) (by rw [hk_r]; decide) (ce_11 hk_r) rfl) (preW X hS hH) rfl hls rfl hsum hdg) hS kk
def fX11_lengthOf (r : Nat) (p1 : Int32) (v : vSt) : Int32 × vSt := let v2 : vSt := (fX11_toldOfType r p1 0 v).2; ((fX11_toldOfType r p1 0 v).1, v2)
def oX11_lengthOf (r : Nat) (p1 : Int32) (v : vSt) : Prop := oX11_toldOfType r p1 0 v
abbrev rmX11_lengthOf : Room := { frames := 3, cells := 0, slots := 0, locals := 65 }
theorem dX11_lengthOf_0 : decode cX11_lengthOf 0 = .ok (.aload_n 0, 1) := by decide +kernel
theorem dX11_lengthOf_1 : decode cX11_lengthOf 1 = .ok (.iload_n 1, 1) := by decide +kernel
theorem dX11_lengthOf_2 : decode cX11_lengthOf 2 = .ok (.iconst 0, 1) := by decide +kernel
theorem dX11_lengthOf_3 : decode cX11_lengthOf 3 = .ok (.invokevirtual 236, 3) := by decide +kernel
theorem dX11_lengthOf_6 : decode cX11_lengthOf 6 = .ok (.ireturn, 1) := by decide +kernel
set_option maxHeartbeats 8000000 in
set_option maxRecDepth 100000 in
theorem mX11_lengthOf (l : Launch) (G : gG) (da : Nat → Nat) (v : vSt) (x : gX) (r : Nat) (hk_r : kd r = 11) (p1 : Int32) (ho : oX11_lengthOf r p1 v) : MI l yX11_lengthOf cX11_lengthOf 2 (some .int) rmX11_lengthOf [.ref (ga G r), .int p1] G da v x 0 0 (fX11_lengthOf r p1 v).1 (fX11_lengthOf r p1 v).2 x := by
  refine gofMI (own := RX11) (by decide) rfl (Nat.le_of_ble_eq_true rfl) (fun p e s m args below meth c ls Q X hH hl E => ?_)
  have hx := X.1
  have hb := X.2.1
  have hown := X.2.2.2.1
  have hts := X.2.2.2.2.1
  have hS : va_S (gA G) s.heap s.heap [] := va_S.rf
  unfold oX11_lengthOf at ho
  have hl : lv_has ls 2 [(0, .ref (ga G r)), (1, .int p1)] := hl
  refine lv_aload_n hx hb dX11_lengthOf_0 rfl (lv_at hl 0 rfl) ?_
  refine lv_iload_n hx hb dX11_lengthOf_1 rfl (lv_at hl 1 rfl) ?_
  refine lv_iconst (v := 0) hx hb dX11_lengthOf_2 (by decide) ?_
  have hq1 := ho
  refine k_X11_toldOfType X hS hH hk_r hq1 t_ml_VernierDrawersModel_236 hl.1 (Nat.le_of_ble_eq_true rfl) ⟨Nat.le_of_ble_eq_true rfl, Nat.le_of_ble_eq_true rfl⟩ ⟨Nat.zero_le _, Nat.zero_le _⟩ dX11_lengthOf_3 (fun da H locs v2 ev2 hH hS => ?_)
  replace ev2 := Eq.symm ev2
  subst ev2
  exact E _ _ _ _ _ _ _ _ _ dX11_lengthOf_6 rfl (pr1 rfl) (pr2 rfl) hH hS (Nat.zero_le _) (Nat.zero_le _)
theorem k_X11_lengthOf {p : Program} {l : Launch} {e : Env} {R : Room} {s : State} {m : MethodId} {args : Array Value} {below : List Frame} {meth : Method} {c : Code} {H : Heap} {locs : List Loc} {cells slots : Nat} {Q : State → Prop} {cc : ByteArray} {pc nL : Nat} {ls : Array Slot} {rest : List Value} {G : gG} {own : String} {da : Nat → Nat} {v : vSt} {x : gX} (X : CX G p s m args c cc nL own) (hS : va_S (gA G) s.heap H locs) (hH : Hp G da v x H) {r : Nat} (hk_r : kd r = 11) {p1 : Int32} (ho : oX11_lengthOf r p1 v) {idx : Nat} (hml : Cond.methodLink own idx yX11_lengthOf ∈ TT) (hls : ls.size = nL) (hsum : (rest.map fun v => v.category).sum ≤ 8) (hR : rmX11_lengthOf.frames + 1 ≤ R.frames ∧ 8 + (2 + 11) + rmX11_lengthOf.locals ≤ R.locals) (hcs : cells ≤ R.cells ∧ slots ≤ R.slots) (hdg : decode cc pc = .ok (.invokevirtual idx, 3)) (kk : ∀ (d : Nat → Nat) (H1 : Heap) (locs1 : List Loc) (v1 : vSt), v1 = (fX11_lengthOf r p1 v).2 → Hp G d v1 x H1 → va_S (gA G) s.heap H1 locs1 → W p l e R s m args below meth c H1 locs1 cells slots Q (F0 m (pc + 3) ls (.int (fX11_lengthOf r p1 v).1 :: rest))) : W p l e R s m args below meth c H locs cells slots Q (F0 m pc ls (.int p1 :: .ref (ga G r) :: rest)) := c_mi X.2.2.2.2.2.2 (runV (k := 1) X.1 X.2.1 X.2.2.1 X.2.2.2.1 X.2.2.2.2.1 (mX11_lengthOf l G da v x r hk_r p1 ho) pW_bl hml t_im_X11_lengthOf t_sel_X11_lengthOf t_ini_VernierDrawersModel t_code_X11_lengthOf ⟨rfl, by decide, by decide, by decide +kernel⟩ rfl rfl hR hcs (recvW X hH (by rw [hk_r]; decide) (by rw [hk_r]; decide) (ce_11 hk_r) rfl) (preW X hS hH) rfl hls rfl hsum hdg) hS kk
def fX11_widthOf (r : Nat) (p1 : Int32) (v : vSt) : Int32 × vSt := let v3 : vSt := (fX11_asks r (fX11_isType r p1 v) v).2; if (((fX11_asks r (fX11_isType r p1 v) v).1) : Int32) = 0 then ((0, v3)) else (((fX11_of r p1 2 v3) - (fX11_of r p1 1 v3), v3))
def oX11_widthOf (r : Nat) (p1 : Int32) (v : vSt) : Prop := (oX11_isType r p1 v) ∧ ((oX11_asks r (fX11_isType r p1 v) v) ∧ (∀ v3 : vSt, v3 = ((fX11_asks r (fX11_isType r p1 v) v).2) → (¬ ((((fX11_asks r (fX11_isType r p1 v) v).1) : Int32) = 0) → ((oX11_of r p1 2 v3) ∧ (oX11_of r p1 1 v3)))))
abbrev rmX11_widthOf : Room := { frames := 2, cells := 0, slots := 0, locals := 43 }
theorem dX11_widthOf_0 : decode cX11_widthOf 0 = .ok (.aload_n 0, 1) := by decide +kernel
theorem dX11_widthOf_1 : decode cX11_widthOf 1 = .ok (.aload_n 0, 1) := by decide +kernel
theorem dX11_widthOf_2 : decode cX11_widthOf 2 = .ok (.iload_n 1, 1) := by decide +kernel
theorem dX11_widthOf_3 : decode cX11_widthOf 3 = .ok (.invokevirtual 152, 3) := by decide +kernel
theorem dX11_widthOf_6 : decode cX11_widthOf 6 = .ok (.invokevirtual 214, 3) := by decide +kernel
theorem dX11_widthOf_9 : decode cX11_widthOf 9 = .ok (.ifCond .eq 19, 3) := by decide +kernel
theorem dX11_widthOf_12 : decode cX11_widthOf 12 = .ok (.aload_n 0, 1) := by decide +kernel
theorem dX11_widthOf_13 : decode cX11_widthOf 13 = .ok (.iload_n 1, 1) := by decide +kernel
theorem dX11_widthOf_14 : decode cX11_widthOf 14 = .ok (.iconst 2, 1) := by decide +kernel
theorem dX11_widthOf_15 : decode cX11_widthOf 15 = .ok (.invokevirtual 90, 3) := by decide +kernel
theorem dX11_widthOf_18 : decode cX11_widthOf 18 = .ok (.aload_n 0, 1) := by decide +kernel
theorem dX11_widthOf_19 : decode cX11_widthOf 19 = .ok (.iload_n 1, 1) := by decide +kernel
theorem dX11_widthOf_20 : decode cX11_widthOf 20 = .ok (.iconst 1, 1) := by decide +kernel
theorem dX11_widthOf_21 : decode cX11_widthOf 21 = .ok (.invokevirtual 90, 3) := by decide +kernel
theorem dX11_widthOf_24 : decode cX11_widthOf 24 = .ok (.isub, 1) := by decide +kernel
theorem dX11_widthOf_25 : decode cX11_widthOf 25 = .ok (.goto 4, 3) := by decide +kernel
theorem dX11_widthOf_28 : decode cX11_widthOf 28 = .ok (.iconst 0, 1) := by decide +kernel
theorem dX11_widthOf_29 : decode cX11_widthOf 29 = .ok (.ireturn, 1) := by decide +kernel
set_option maxHeartbeats 8000000 in
set_option maxRecDepth 100000 in
theorem mX11_widthOf (l : Launch) (G : gG) (da : Nat → Nat) (v : vSt) (x : gX) (r : Nat) (hk_r : kd r = 11) (p1 : Int32) (ho : oX11_widthOf r p1 v) : MI l yX11_widthOf cX11_widthOf 2 (some .int) rmX11_widthOf [.ref (ga G r), .int p1] G da v x 0 0 (fX11_widthOf r p1 v).1 (fX11_widthOf r p1 v).2 x := by
  refine gofMI (own := RX11) (by decide) rfl (Nat.le_of_ble_eq_true rfl) (fun p e s m args below meth c ls Q X hH hl E => ?_)
  have hx := X.1
  have hb := X.2.1
  have hown := X.2.2.2.1
  have hts := X.2.2.2.2.1
  have hS : va_S (gA G) s.heap s.heap [] := va_S.rf
  unfold oX11_widthOf at ho
  have hl : lv_has ls 2 [(0, .ref (ga G r)), (1, .int p1)] := hl
  refine lv_aload_n hx hb dX11_widthOf_0 rfl (lv_at hl 0 rfl) ?_
  refine lv_aload_n hx hb dX11_widthOf_1 rfl (lv_at hl 0 rfl) ?_
  refine lv_iload_n hx hb dX11_widthOf_2 rfl (lv_at hl 1 rfl) ?_
  have hq1 := ho.1
  have ho := ho.2
  refine k_X11_isType X hS hH hk_r hq1 t_ml_VernierDrawersModel_152 hl.1 (Nat.le_of_ble_eq_true rfl) ⟨Nat.le_of_ble_eq_true rfl, Nat.le_of_ble_eq_true rfl⟩ ⟨Nat.zero_le _, Nat.zero_le _⟩ dX11_widthOf_3 ?_
  have hq2 := ho.1
  have ho := ho.2
  refine k_X11_asks X hS hH hk_r hq2 t_ml_VernierDrawersModel_214 hl.1 (Nat.le_of_ble_eq_true rfl) ⟨Nat.le_of_ble_eq_true rfl, Nat.le_of_ble_eq_true rfl⟩ ⟨Nat.zero_le _, Nat.zero_le _⟩ dX11_widthOf_6 (fun da H locs v3 ev3 hH hS => ?_)
  have ho := ho v3 ev3
  refine lv_if_eq (tgt := 28) hx hb dX11_widthOf_9 (by decide) (fun c4 => ?_) (fun c4 => ?_)
  · skip
    refine lv_iconst (v := 0) hx hb dX11_widthOf_28 (by decide) ?_
    replace ev3 := Eq.symm ev3
    subst ev3
    exact E _ _ _ _ _ _ _ _ _ dX11_widthOf_29 rfl (pr1 ((fX11_widthOf.eq_1 _ _ _).trans ((if_pos c4).trans rfl))) (pr2 ((fX11_widthOf.eq_1 _ _ _).trans ((if_pos c4).trans rfl))) hH hS (Nat.zero_le _) (Nat.zero_le _)
  · have ho := ho c4
    refine lv_aload_n hx hb dX11_widthOf_12 rfl (lv_at hl 0 rfl) ?_
    refine lv_iload_n hx hb dX11_widthOf_13 rfl (lv_at hl 1 rfl) ?_
    refine lv_iconst (v := 2) hx hb dX11_widthOf_14 (by decide) ?_
    have hq5 := ho.1
    have ho := ho.2
    refine k_X11_of X hS hH hk_r hq5 t_ml_VernierDrawersModel_90 hl.1 (Nat.le_of_ble_eq_true rfl) ⟨Nat.le_of_ble_eq_true rfl, Nat.le_of_ble_eq_true rfl⟩ ⟨Nat.zero_le _, Nat.zero_le _⟩ dX11_widthOf_15 ?_
    refine lv_aload_n hx hb dX11_widthOf_18 rfl (lv_at hl 0 rfl) ?_
    refine lv_iload_n hx hb dX11_widthOf_19 rfl (lv_at hl 1 rfl) ?_
    refine lv_iconst (v := 1) hx hb dX11_widthOf_20 (by decide) ?_
    have hq6 := ho
    refine k_X11_of X hS hH hk_r hq6 t_ml_VernierDrawersModel_90 hl.1 (Nat.le_of_ble_eq_true rfl) ⟨Nat.le_of_ble_eq_true rfl, Nat.le_of_ble_eq_true rfl⟩ ⟨Nat.zero_le _, Nat.zero_le _⟩ dX11_widthOf_21 ?_
    refine lv_isub hx hb dX11_widthOf_24 ?_
    refine lv_goto (tgt := 29) hx hb dX11_widthOf_25 (by decide) ?_
    replace ev3 := Eq.symm ev3
    subst ev3
    exact E _ _ _ _ _ _ _ _ _ dX11_widthOf_29 rfl (pr1 ((fX11_widthOf.eq_1 _ _ _).trans ((if_neg c4).trans rfl))) (pr2 ((fX11_widthOf.eq_1 _ _ _).trans ((if_neg c4).trans rfl))) hH hS (Nat.zero_le _) (Nat.zero_le _)
theorem k_X11_widthOf {p : Program} {l : Launch} {e : Env} {R : Room} {s : State} {m : MethodId} {args : Array Value} {below : List Frame} {meth : Method} {c : Code} {H : Heap} {locs : List Loc} {cells slots : Nat} {Q : State → Prop} {cc : ByteArray} {pc nL : Nat} {ls : Array Slot} {rest : List Value} {G : gG} {own : String} {da : Nat → Nat} {v : vSt} {x : gX} (X : CX G p s m args c cc nL own) (hS : va_S (gA G) s.heap H locs) (hH : Hp G da v x H) {r : Nat} (hk_r : kd r = 11) {p1 : Int32} (ho : oX11_widthOf r p1 v) {idx : Nat} (hml : Cond.methodLink own idx yX11_widthOf ∈ TT) (hls : ls.size = nL) (hsum : (rest.map fun v => v.category).sum ≤ 8) (hR : rmX11_widthOf.frames + 1 ≤ R.frames ∧ 8 + (2 + 11) + rmX11_widthOf.locals ≤ R.locals) (hcs : cells ≤ R.cells ∧ slots ≤ R.slots) (hdg : decode cc pc = .ok (.invokevirtual idx, 3)) (kk : ∀ (d : Nat → Nat) (H1 : Heap) (locs1 : List Loc) (v1 : vSt), v1 = (fX11_widthOf r p1 v).2 → Hp G d v1 x H1 → va_S (gA G) s.heap H1 locs1 → W p l e R s m args below meth c H1 locs1 cells slots Q (F0 m (pc + 3) ls (.int (fX11_widthOf r p1 v).1 :: rest))) : W p l e R s m args below meth c H locs cells slots Q (F0 m pc ls (.int p1 :: .ref (ga G r) :: rest)) := c_mi X.2.2.2.2.2.2 (runV (k := 1) X.1 X.2.1 X.2.2.1 X.2.2.2.1 X.2.2.2.2.1 (mX11_widthOf l G da v x r hk_r p1 ho) pW_bl hml t_im_X11_widthOf t_sel_X11_widthOf t_ini_VernierDrawersModel t_code_X11_widthOf ⟨rfl, by decide, by decide, by decide +kernel⟩ rfl rfl hR hcs (recvW X hH (by rw [hk_r]; decide) (by rw [hk_r]; decide) (ce_11 hk_r) rfl) (preW X hS hH) rfl hls rfl hsum hdg) hS kk
def fX11_onBench (r : Nat) (v : vSt) : Int32 × vSt := let v2 : vSt := (fX11_account r 206 v).2; ((fX11_account r 206 v).1, v2)
def oX11_onBench (r : Nat) (v : vSt) : Prop := oX11_account r 206 v
abbrev rmX11_onBench : Room := { frames := 1, cells := 0, slots := 0, locals := 21 }
theorem dX11_onBench_0 : decode cX11_onBench 0 = .ok (.aload_n 0, 1) := by decide +kernel
theorem dX11_onBench_1 : decode cX11_onBench 1 = .ok (.sipush 206, 3) := by decide +kernel
theorem dX11_onBench_4 : decode cX11_onBench 4 = .ok (.invokevirtual 218, 3) := by decide +kernel
theorem dX11_onBench_7 : decode cX11_onBench 7 = .ok (.ireturn, 1) := by decide +kernel
set_option maxHeartbeats 8000000 in
set_option maxRecDepth 100000 in
theorem mX11_onBench (l : Launch) (G : gG) (da : Nat → Nat) (v : vSt) (x : gX) (r : Nat) (hk_r : kd r = 11) (ho : oX11_onBench r v) : MI l yX11_onBench cX11_onBench 1 (some .int) rmX11_onBench [.ref (ga G r)] G da v x 0 0 (fX11_onBench r v).1 (fX11_onBench r v).2 x := by
  refine gofMI (own := RX11) (by decide) rfl (Nat.le_of_ble_eq_true rfl) (fun p e s m args below meth c ls Q X hH hl E => ?_)
  have hx := X.1
  have hb := X.2.1
  have hown := X.2.2.2.1
  have hts := X.2.2.2.2.1
  have hS : va_S (gA G) s.heap s.heap [] := va_S.rf
  unfold oX11_onBench at ho
  have hl : lv_has ls 1 [(0, .ref (ga G r))] := hl
  refine lv_aload_n hx hb dX11_onBench_0 rfl (lv_at hl 0 rfl) ?_
  refine lv_sipush (v := 206) hx hb dX11_onBench_1 (by decide) ?_
  have hq1 := ho
  refine k_X11_account X hS hH hk_r hq1 t_ml_VernierDrawersModel_218 hl.1 (Nat.le_of_ble_eq_true rfl) ⟨Nat.le_of_ble_eq_true rfl, Nat.le_of_ble_eq_true rfl⟩ ⟨Nat.zero_le _, Nat.zero_le _⟩ dX11_onBench_4 (fun da H locs v2 ev2 hH hS => ?_)
  replace ev2 := Eq.symm ev2
  subst ev2
  exact E _ _ _ _ _ _ _ _ _ dX11_onBench_7 rfl (pr1 rfl) (pr2 rfl) hH hS (Nat.zero_le _) (Nat.zero_le _)
theorem k_X11_onBench {p : Program} {l : Launch} {e : Env} {R : Room} {s : State} {m : MethodId} {args : Array Value} {below : List Frame} {meth : Method} {c : Code} {H : Heap} {locs : List Loc} {cells slots : Nat} {Q : State → Prop} {cc : ByteArray} {pc nL : Nat} {ls : Array Slot} {rest : List Value} {G : gG} {own : String} {da : Nat → Nat} {v : vSt} {x : gX} (X : CX G p s m args c cc nL own) (hS : va_S (gA G) s.heap H locs) (hH : Hp G da v x H) {r : Nat} (hk_r : kd r = 11) (ho : oX11_onBench r v) {idx : Nat} (hml : Cond.methodLink own idx yX11_onBench ∈ TT) (hls : ls.size = nL) (hsum : (rest.map fun v => v.category).sum ≤ 8) (hR : rmX11_onBench.frames + 1 ≤ R.frames ∧ 8 + (1 + 11) + rmX11_onBench.locals ≤ R.locals) (hcs : cells ≤ R.cells ∧ slots ≤ R.slots) (hdg : decode cc pc = .ok (.invokevirtual idx, 3)) (kk : ∀ (d : Nat → Nat) (H1 : Heap) (locs1 : List Loc) (v1 : vSt), v1 = (fX11_onBench r v).2 → Hp G d v1 x H1 → va_S (gA G) s.heap H1 locs1 → W p l e R s m args below meth c H1 locs1 cells slots Q (F0 m (pc + 3) ls (.int (fX11_onBench r v).1 :: rest))) : W p l e R s m args below meth c H locs cells slots Q (F0 m pc ls (.ref (ga G r) :: rest)) := c_mi X.2.2.2.2.2.2 (runV (k := 0) X.1 X.2.1 X.2.2.1 X.2.2.2.1 X.2.2.2.2.1 (mX11_onBench l G da v x r hk_r ho) pW_bl hml t_im_X11_onBench t_sel_X11_onBench t_ini_VernierDrawersModel t_code_X11_onBench ⟨rfl, by decide, by decide, by decide +kernel⟩ rfl rfl hR hcs (recvW X hH (by rw [hk_r]; decide) (by rw [hk_r]; decide) (ce_11 hk_r) rfl) (preW X hS hH) rfl hls rfl hsum hdg) hS kk
def fX11_pieceAt (r : Nat) (p1 : Int32) (v : vSt) : Int32 × vSt := let y1 : Int32 := (if (p1 : Int32) < 0 then 0 else 1 : Int32); let v4 : vSt := (fX11_asks r y1 v).2; if (((fX11_asks r y1 v).1) : Int32) = 0 then ((0, v4)) else (if ((v4 462 (206 : Int32).toNatClampNeg) : Int32) ≤ p1 then (let v8 : vSt := (fX11_fails r 2 v4).2; ((fX11_fails r 2 v4).1, v8)) else ((v4 462 (183 + p1 : Int32).toNatClampNeg, v4)))
def oX11_pieceAt (r : Nat) (p1 : Int32) (v : vSt) : Prop := (∀ (y1 : Int32), y1 = ((if (p1 : Int32) < 0 then 0 else 1 : Int32) : Int32) → ((oX11_asks r y1 v) ∧ (∀ v4 : vSt, v4 = ((fX11_asks r y1 v).2) → (¬ ((((fX11_asks r y1 v).1) : Int32) = 0) → ((vp_in (206) (mlen 462)) ∧ (¬ (((v4 462 (206 : Int32).toNatClampNeg) : Int32) ≤ p1) → (vp_in (183 + p1) (mlen 462))))))))
abbrev rmX11_pieceAt : Room := { frames := 1, cells := 0, slots := 0, locals := 21 }
theorem dX11_pieceAt_0 : decode cX11_pieceAt 0 = .ok (.aload_n 0, 1) := by decide +kernel
theorem dX11_pieceAt_1 : decode cX11_pieceAt 1 = .ok (.iload_n 1, 1) := by decide +kernel
theorem dX11_pieceAt_2 : decode cX11_pieceAt 2 = .ok (.ifCond .lt 7, 3) := by decide +kernel
theorem dX11_pieceAt_5 : decode cX11_pieceAt 5 = .ok (.iconst 1, 1) := by decide +kernel
theorem dX11_pieceAt_6 : decode cX11_pieceAt 6 = .ok (.goto 4, 3) := by decide +kernel
theorem dX11_pieceAt_9 : decode cX11_pieceAt 9 = .ok (.iconst 0, 1) := by decide +kernel
theorem dX11_pieceAt_10 : decode cX11_pieceAt 10 = .ok (.invokevirtual 214, 3) := by decide +kernel
theorem dX11_pieceAt_13 : decode cX11_pieceAt 13 = .ok (.ifCond .ne 5, 3) := by decide +kernel
theorem dX11_pieceAt_16 : decode cX11_pieceAt 16 = .ok (.iconst 0, 1) := by decide +kernel
theorem dX11_pieceAt_17 : decode cX11_pieceAt 17 = .ok (.ireturn, 1) := by decide +kernel
theorem dX11_pieceAt_18 : decode cX11_pieceAt 18 = .ok (.iload_n 1, 1) := by decide +kernel
theorem dX11_pieceAt_19 : decode cX11_pieceAt 19 = .ok (.aload_n 0, 1) := by decide +kernel
theorem dX11_pieceAt_20 : decode cX11_pieceAt 20 = .ok (.getfield 7, 3) := by decide +kernel
theorem dX11_pieceAt_23 : decode cX11_pieceAt 23 = .ok (.sipush 206, 3) := by decide +kernel
theorem dX11_pieceAt_26 : decode cX11_pieceAt 26 = .ok (.iaload, 1) := by decide +kernel
theorem dX11_pieceAt_27 : decode cX11_pieceAt 27 = .ok (.if_icmp .ge 16, 3) := by decide +kernel
theorem dX11_pieceAt_30 : decode cX11_pieceAt 30 = .ok (.aload_n 0, 1) := by decide +kernel
theorem dX11_pieceAt_31 : decode cX11_pieceAt 31 = .ok (.getfield 7, 3) := by decide +kernel
theorem dX11_pieceAt_34 : decode cX11_pieceAt 34 = .ok (.sipush 183, 3) := by decide +kernel
theorem dX11_pieceAt_37 : decode cX11_pieceAt 37 = .ok (.iload_n 1, 1) := by decide +kernel
theorem dX11_pieceAt_38 : decode cX11_pieceAt 38 = .ok (.iadd, 1) := by decide +kernel
theorem dX11_pieceAt_39 : decode cX11_pieceAt 39 = .ok (.iaload, 1) := by decide +kernel
theorem dX11_pieceAt_40 : decode cX11_pieceAt 40 = .ok (.goto 8, 3) := by decide +kernel
theorem dX11_pieceAt_43 : decode cX11_pieceAt 43 = .ok (.aload_n 0, 1) := by decide +kernel
theorem dX11_pieceAt_44 : decode cX11_pieceAt 44 = .ok (.iconst 2, 1) := by decide +kernel
theorem dX11_pieceAt_45 : decode cX11_pieceAt 45 = .ok (.invokevirtual 42, 3) := by decide +kernel
theorem dX11_pieceAt_48 : decode cX11_pieceAt 48 = .ok (.ireturn, 1) := by decide +kernel
set_option maxHeartbeats 8000000 in
set_option maxRecDepth 100000 in
theorem mX11_pieceAt (l : Launch) (G : gG) (da : Nat → Nat) (v : vSt) (x : gX) (r : Nat) (hk_r : kd r = 11) (p1 : Int32) (ho : oX11_pieceAt r p1 v) : MI l yX11_pieceAt cX11_pieceAt 2 (some .int) rmX11_pieceAt [.ref (ga G r), .int p1] G da v x 0 0 (fX11_pieceAt r p1 v).1 (fX11_pieceAt r p1 v).2 x := by
  refine gofMI (own := RX11) (by decide) rfl (Nat.le_of_ble_eq_true rfl) (fun p e s m args below meth c ls Q X hH hl E => ?_)
  have hx := X.1
  have hb := X.2.1
  have hown := X.2.2.2.1
  have hts := X.2.2.2.2.1
  have hS : va_S (gA G) s.heap s.heap [] := va_S.rf
  unfold oX11_pieceAt at ho
  have hl : lv_has ls 2 [(0, .ref (ga G r)), (1, .int p1)] := hl
  refine lv_aload_n hx hb dX11_pieceAt_0 rfl (lv_at hl 0 rfl) ?_
  refine lv_iload_n hx hb dX11_pieceAt_1 rfl (lv_at hl 1 rfl) ?_
  have K2 : ∀ (y1 : Int32) (ls : Array Slot), y1 = (if (p1 : Int32) < 0 then 0 else 1 : Int32) → lv_has ls 2 [(0, .ref (ga G r)), (1, .int p1)] → W p l e rmX11_pieceAt s m args below meth c s.heap [] 0 0 Q (F0 m 10 ls [.int y1, .ref (ga G r)]) := by
    intro y1 ls ey1 hl
    have ho := ho y1 ey1
    have hq3 := ho.1
    have ho := ho.2
    refine k_X11_asks X hS hH hk_r hq3 t_ml_VernierDrawersModel_214 hl.1 (Nat.le_of_ble_eq_true rfl) ⟨Nat.le_of_ble_eq_true rfl, Nat.le_of_ble_eq_true rfl⟩ ⟨Nat.zero_le _, Nat.zero_le _⟩ dX11_pieceAt_10 (fun da H locs v4 ev4 hH hS => ?_)
    have ho := ho v4 ev4
    refine lv_if_ne (tgt := 18) hx hb dX11_pieceAt_13 (by decide) (fun c5 => ?_) (fun c5 => ?_)
    · have ho := ho c5
      refine lv_iload_n hx hb dX11_pieceAt_18 rfl (lv_at hl 1 rfl) ?_
      refine lv_aload_n hx hb dX11_pieceAt_19 rfl (lv_at hl 0 rfl) ?_
      refine g_VernierDrawersModel_7 X hH hk_r dX11_pieceAt_20 ?_
      refine lv_sipush (v := 206) hx hb dX11_pieceAt_23 (by decide) ?_
      have hq6 := ho.1
      have ho := ho.2
      refine ald_M X hH (Or.inl kd_462) hq6 dX11_pieceAt_26 ?_
      refine lv_icmp_ge (tgt := 43) hx hb dX11_pieceAt_27 (by decide) (fun c7 => ?_) (fun c7 => ?_)
      · skip
        refine lv_aload_n hx hb dX11_pieceAt_43 rfl (lv_at hl 0 rfl) ?_
        refine lv_iconst (v := 2) hx hb dX11_pieceAt_44 (by decide) ?_
        refine k_X11_fails X hS hH hk_r t_ml_VernierDrawersModel_42 hl.1 (Nat.le_of_ble_eq_true rfl) ⟨Nat.le_of_ble_eq_true rfl, Nat.le_of_ble_eq_true rfl⟩ ⟨Nat.zero_le _, Nat.zero_le _⟩ dX11_pieceAt_45 (fun da H locs v8 ev8 hH hS => ?_)
        replace ey1 := Eq.symm ey1
        replace ev4 := Eq.symm ev4
        replace ev8 := Eq.symm ev8
        subst ey1 ev4 ev8
        exact E _ _ _ _ _ _ _ _ _ dX11_pieceAt_48 rfl (pr1 ((fX11_pieceAt.eq_1 _ _ _).trans ((if_neg c5).trans ((if_pos c7).trans rfl)))) (pr2 ((fX11_pieceAt.eq_1 _ _ _).trans ((if_neg c5).trans ((if_pos c7).trans rfl)))) hH hS (Nat.zero_le _) (Nat.zero_le _)
      · have ho := ho c7
        refine lv_aload_n hx hb dX11_pieceAt_30 rfl (lv_at hl 0 rfl) ?_
        refine g_VernierDrawersModel_7 X hH hk_r dX11_pieceAt_31 ?_
        refine lv_sipush (v := 183) hx hb dX11_pieceAt_34 (by decide) ?_
        refine lv_iload_n hx hb dX11_pieceAt_37 rfl (lv_at hl 1 rfl) ?_
        refine lv_iadd hx hb dX11_pieceAt_38 ?_
        have hq9 := ho
        refine ald_M X hH (Or.inl kd_462) hq9 dX11_pieceAt_39 ?_
        refine lv_goto (tgt := 48) hx hb dX11_pieceAt_40 (by decide) ?_
        replace ey1 := Eq.symm ey1
        replace ev4 := Eq.symm ev4
        subst ey1 ev4
        exact E _ _ _ _ _ _ _ _ _ dX11_pieceAt_48 rfl (pr1 ((fX11_pieceAt.eq_1 _ _ _).trans ((if_neg c5).trans ((if_neg c7).trans rfl)))) (pr2 ((fX11_pieceAt.eq_1 _ _ _).trans ((if_neg c5).trans ((if_neg c7).trans rfl)))) hH hS (Nat.zero_le _) (Nat.zero_le _)
    · skip
      refine lv_iconst (v := 0) hx hb dX11_pieceAt_16 (by decide) ?_
      replace ey1 := Eq.symm ey1
      replace ev4 := Eq.symm ev4
      subst ey1 ev4
      exact E _ _ _ _ _ _ _ _ _ dX11_pieceAt_17 rfl (pr1 ((fX11_pieceAt.eq_1 _ _ _).trans ((if_pos c5).trans rfl))) (pr2 ((fX11_pieceAt.eq_1 _ _ _).trans ((if_pos c5).trans rfl))) hH hS (Nat.zero_le _) (Nat.zero_le _)
  refine lv_if_lt (tgt := 9) hx hb dX11_pieceAt_2 (by decide) (fun c2 => ?_) (fun c2 => ?_)
  · skip
    refine lv_iconst (v := 0) hx hb dX11_pieceAt_9 (by decide) ?_
    exact K2 _ _ (Eq.symm ((if_pos c2).trans rfl)) (lv_sub hl [0, 1] rfl)
  · skip
    refine lv_iconst (v := 1) hx hb dX11_pieceAt_5 (by decide) ?_
    refine lv_goto (tgt := 10) hx hb dX11_pieceAt_6 (by decide) ?_
    exact K2 _ _ (Eq.symm ((if_neg c2).trans rfl)) (lv_sub hl [0, 1] rfl)
theorem k_X11_pieceAt {p : Program} {l : Launch} {e : Env} {R : Room} {s : State} {m : MethodId} {args : Array Value} {below : List Frame} {meth : Method} {c : Code} {H : Heap} {locs : List Loc} {cells slots : Nat} {Q : State → Prop} {cc : ByteArray} {pc nL : Nat} {ls : Array Slot} {rest : List Value} {G : gG} {own : String} {da : Nat → Nat} {v : vSt} {x : gX} (X : CX G p s m args c cc nL own) (hS : va_S (gA G) s.heap H locs) (hH : Hp G da v x H) {r : Nat} (hk_r : kd r = 11) {p1 : Int32} (ho : oX11_pieceAt r p1 v) {idx : Nat} (hml : Cond.methodLink own idx yX11_pieceAt ∈ TT) (hls : ls.size = nL) (hsum : (rest.map fun v => v.category).sum ≤ 8) (hR : rmX11_pieceAt.frames + 1 ≤ R.frames ∧ 8 + (2 + 11) + rmX11_pieceAt.locals ≤ R.locals) (hcs : cells ≤ R.cells ∧ slots ≤ R.slots) (hdg : decode cc pc = .ok (.invokevirtual idx, 3)) (kk : ∀ (d : Nat → Nat) (H1 : Heap) (locs1 : List Loc) (v1 : vSt), v1 = (fX11_pieceAt r p1 v).2 → Hp G d v1 x H1 → va_S (gA G) s.heap H1 locs1 → W p l e R s m args below meth c H1 locs1 cells slots Q (F0 m (pc + 3) ls (.int (fX11_pieceAt r p1 v).1 :: rest))) : W p l e R s m args below meth c H locs cells slots Q (F0 m pc ls (.int p1 :: .ref (ga G r) :: rest)) := c_mi X.2.2.2.2.2.2 (runV (k := 1) X.1 X.2.1 X.2.2.1 X.2.2.2.1 X.2.2.2.2.1 (mX11_pieceAt l G da v x r hk_r p1 ho) pW_bl hml t_im_X11_pieceAt t_sel_X11_pieceAt t_ini_VernierDrawersModel t_code_X11_pieceAt ⟨rfl, by decide, by decide, by decide +kernel⟩ rfl rfl hR hcs (recvW X hH (by rw [hk_r]; decide) (by rw [hk_r]; decide) (ce_11 hk_r) rfl) (preW X hS hH) rfl hls rfl hsum hdg) hS kk
def fX11_typeAt (r : Nat) (p1 : Int32) (v : vSt) : Int32 × vSt := let v2 : vSt := (fX11_pieceAt r p1 v).2; (fX11_typeOf ((fX11_pieceAt r p1 v).1), v2)
def oX11_typeAt (r : Nat) (p1 : Int32) (v : vSt) : Prop := oX11_pieceAt r p1 v
abbrev rmX11_typeAt : Room := { frames := 2, cells := 0, slots := 0, locals := 42 }
theorem dX11_typeAt_0 : decode cX11_typeAt 0 = .ok (.aload_n 0, 1) := by decide +kernel
theorem dX11_typeAt_1 : decode cX11_typeAt 1 = .ok (.iload_n 1, 1) := by decide +kernel
theorem dX11_typeAt_2 : decode cX11_typeAt 2 = .ok (.invokevirtual 239, 3) := by decide +kernel
theorem dX11_typeAt_5 : decode cX11_typeAt 5 = .ok (.invokestatic 83, 3) := by decide +kernel
theorem dX11_typeAt_8 : decode cX11_typeAt 8 = .ok (.ireturn, 1) := by decide +kernel
set_option maxHeartbeats 8000000 in
set_option maxRecDepth 100000 in
theorem mX11_typeAt (l : Launch) (G : gG) (da : Nat → Nat) (v : vSt) (x : gX) (r : Nat) (hk_r : kd r = 11) (p1 : Int32) (ho : oX11_typeAt r p1 v) : MI l yX11_typeAt cX11_typeAt 2 (some .int) rmX11_typeAt [.ref (ga G r), .int p1] G da v x 0 0 (fX11_typeAt r p1 v).1 (fX11_typeAt r p1 v).2 x := by
  refine gofMI (own := RX11) (by decide) rfl (Nat.le_of_ble_eq_true rfl) (fun p e s m args below meth c ls Q X hH hl E => ?_)
  have hx := X.1
  have hb := X.2.1
  have hown := X.2.2.2.1
  have hts := X.2.2.2.2.1
  have hS : va_S (gA G) s.heap s.heap [] := va_S.rf
  unfold oX11_typeAt at ho
  have hl : lv_has ls 2 [(0, .ref (ga G r)), (1, .int p1)] := hl
  refine lv_aload_n hx hb dX11_typeAt_0 rfl (lv_at hl 0 rfl) ?_
  refine lv_iload_n hx hb dX11_typeAt_1 rfl (lv_at hl 1 rfl) ?_
  have hq1 := ho
  refine k_X11_pieceAt X hS hH hk_r hq1 t_ml_VernierDrawersModel_239 hl.1 (Nat.le_of_ble_eq_true rfl) ⟨Nat.le_of_ble_eq_true rfl, Nat.le_of_ble_eq_true rfl⟩ ⟨Nat.zero_le _, Nat.zero_le _⟩ dX11_typeAt_2 (fun da H locs v2 ev2 hH hS => ?_)
  refine k_X11_typeOf X hS  t_ml_VernierDrawersModel_83 hl.1 (Nat.le_of_ble_eq_true rfl) ⟨Nat.le_of_ble_eq_true rfl, Nat.le_of_ble_eq_true rfl⟩ ⟨Nat.zero_le _, Nat.zero_le _⟩ dX11_typeAt_5 ?_
  replace ev2 := Eq.symm ev2
  subst ev2
  exact E _ _ _ _ _ _ _ _ _ dX11_typeAt_8 rfl (pr1 rfl) (pr2 rfl) hH hS (Nat.zero_le _) (Nat.zero_le _)
theorem k_X11_typeAt {p : Program} {l : Launch} {e : Env} {R : Room} {s : State} {m : MethodId} {args : Array Value} {below : List Frame} {meth : Method} {c : Code} {H : Heap} {locs : List Loc} {cells slots : Nat} {Q : State → Prop} {cc : ByteArray} {pc nL : Nat} {ls : Array Slot} {rest : List Value} {G : gG} {own : String} {da : Nat → Nat} {v : vSt} {x : gX} (X : CX G p s m args c cc nL own) (hS : va_S (gA G) s.heap H locs) (hH : Hp G da v x H) {r : Nat} (hk_r : kd r = 11) {p1 : Int32} (ho : oX11_typeAt r p1 v) {idx : Nat} (hml : Cond.methodLink own idx yX11_typeAt ∈ TT) (hls : ls.size = nL) (hsum : (rest.map fun v => v.category).sum ≤ 8) (hR : rmX11_typeAt.frames + 1 ≤ R.frames ∧ 8 + (2 + 11) + rmX11_typeAt.locals ≤ R.locals) (hcs : cells ≤ R.cells ∧ slots ≤ R.slots) (hdg : decode cc pc = .ok (.invokevirtual idx, 3)) (kk : ∀ (d : Nat → Nat) (H1 : Heap) (locs1 : List Loc) (v1 : vSt), v1 = (fX11_typeAt r p1 v).2 → Hp G d v1 x H1 → va_S (gA G) s.heap H1 locs1 → W p l e R s m args below meth c H1 locs1 cells slots Q (F0 m (pc + 3) ls (.int (fX11_typeAt r p1 v).1 :: rest))) : W p l e R s m args below meth c H locs cells slots Q (F0 m pc ls (.int p1 :: .ref (ga G r) :: rest)) := c_mi X.2.2.2.2.2.2 (runV (k := 1) X.1 X.2.1 X.2.2.1 X.2.2.2.1 X.2.2.2.2.1 (mX11_typeAt l G da v x r hk_r p1 ho) pW_bl hml t_im_X11_typeAt t_sel_X11_typeAt t_ini_VernierDrawersModel t_code_X11_typeAt ⟨rfl, by decide, by decide, by decide +kernel⟩ rfl rfl hR hcs (recvW X hH (by rw [hk_r]; decide) (by rw [hk_r]; decide) (ce_11 hk_r) rfl) (preW X hS hH) rfl hls rfl hsum hdg) hS kk
def fX11_wasDoubted (r : Nat) (p1 : Int32) (v : vSt) : Int32 × vSt := let v2 : vSt := (fX11_pieceAt r p1 v).2; if ((((fX11_pieceAt r p1 v).1) - ((fX11_pieceAt r p1 v).1) / 2 * 2) : Int32) = 1 then ((1, v2)) else ((0, v2))
def oX11_wasDoubted (r : Nat) (p1 : Int32) (v : vSt) : Prop := oX11_pieceAt r p1 v
abbrev rmX11_wasDoubted : Room := { frames := 2, cells := 0, slots := 0, locals := 42 }
theorem dX11_wasDoubted_0 : decode cX11_wasDoubted 0 = .ok (.aload_n 0, 1) := by decide +kernel
theorem dX11_wasDoubted_1 : decode cX11_wasDoubted 1 = .ok (.iload_n 1, 1) := by decide +kernel
theorem dX11_wasDoubted_2 : decode cX11_wasDoubted 2 = .ok (.invokevirtual 239, 3) := by decide +kernel
theorem dX11_wasDoubted_5 : decode cX11_wasDoubted 5 = .ok (.iconst 2, 1) := by decide +kernel
theorem dX11_wasDoubted_6 : decode cX11_wasDoubted 6 = .ok (.irem, 1) := by decide +kernel
theorem dX11_wasDoubted_7 : decode cX11_wasDoubted 7 = .ok (.iconst 1, 1) := by decide +kernel
theorem dX11_wasDoubted_8 : decode cX11_wasDoubted 8 = .ok (.if_icmp .ne 7, 3) := by decide +kernel
theorem dX11_wasDoubted_11 : decode cX11_wasDoubted 11 = .ok (.iconst 1, 1) := by decide +kernel
theorem dX11_wasDoubted_12 : decode cX11_wasDoubted 12 = .ok (.goto 4, 3) := by decide +kernel
theorem dX11_wasDoubted_15 : decode cX11_wasDoubted 15 = .ok (.iconst 0, 1) := by decide +kernel
theorem dX11_wasDoubted_16 : decode cX11_wasDoubted 16 = .ok (.ireturn, 1) := by decide +kernel
set_option maxHeartbeats 8000000 in
set_option maxRecDepth 100000 in
theorem mX11_wasDoubted (l : Launch) (G : gG) (da : Nat → Nat) (v : vSt) (x : gX) (r : Nat) (hk_r : kd r = 11) (p1 : Int32) (ho : oX11_wasDoubted r p1 v) : MI l yX11_wasDoubted cX11_wasDoubted 2 (some .boolean) rmX11_wasDoubted [.ref (ga G r), .int p1] G da v x 0 0 (fX11_wasDoubted r p1 v).1 (fX11_wasDoubted r p1 v).2 x := by
  refine gofMI (own := RX11) (by decide) rfl (Nat.le_of_ble_eq_true rfl) (fun p e s m args below meth c ls Q X hH hl E => ?_)
  have hx := X.1
  have hb := X.2.1
  have hown := X.2.2.2.1
  have hts := X.2.2.2.2.1
  have hS : va_S (gA G) s.heap s.heap [] := va_S.rf
  unfold oX11_wasDoubted at ho
  have hl : lv_has ls 2 [(0, .ref (ga G r)), (1, .int p1)] := hl
  refine lv_aload_n hx hb dX11_wasDoubted_0 rfl (lv_at hl 0 rfl) ?_
  refine lv_iload_n hx hb dX11_wasDoubted_1 rfl (lv_at hl 1 rfl) ?_
  have hq1 := ho
  refine k_X11_pieceAt X hS hH hk_r hq1 t_ml_VernierDrawersModel_239 hl.1 (Nat.le_of_ble_eq_true rfl) ⟨Nat.le_of_ble_eq_true rfl, Nat.le_of_ble_eq_true rfl⟩ ⟨Nat.zero_le _, Nat.zero_le _⟩ dX11_wasDoubted_2 (fun da H locs v2 ev2 hH hS => ?_)
  refine lv_iconst (v := 2) hx hb dX11_wasDoubted_5 (by decide) ?_
  refine lv_irem hx hb dX11_wasDoubted_6 (by decide) ?_
  refine lv_iconst (v := 1) hx hb dX11_wasDoubted_7 (by decide) ?_
  refine lv_icmp_ne (tgt := 15) hx hb dX11_wasDoubted_8 (by decide) (fun c3 => ?_) (fun c3 => ?_)
  · skip
    refine lv_iconst (v := 0) hx hb dX11_wasDoubted_15 (by decide) ?_
    replace ev2 := Eq.symm ev2
    subst ev2
    exact E _ _ _ _ _ _ _ _ _ dX11_wasDoubted_16 rfl (pr1 ((fX11_wasDoubted.eq_1 _ _ _).trans ((if_neg c3).trans rfl))) (pr2 ((fX11_wasDoubted.eq_1 _ _ _).trans ((if_neg c3).trans rfl))) hH hS (Nat.zero_le _) (Nat.zero_le _)
  · skip
    refine lv_iconst (v := 1) hx hb dX11_wasDoubted_11 (by decide) ?_
    refine lv_goto (tgt := 16) hx hb dX11_wasDoubted_12 (by decide) ?_
    replace ev2 := Eq.symm ev2
    subst ev2
    exact E _ _ _ _ _ _ _ _ _ dX11_wasDoubted_16 rfl (pr1 ((fX11_wasDoubted.eq_1 _ _ _).trans ((if_pos c3).trans rfl))) (pr2 ((fX11_wasDoubted.eq_1 _ _ _).trans ((if_pos c3).trans rfl))) hH hS (Nat.zero_le _) (Nat.zero_le _)
theorem k_X11_wasDoubted {p : Program} {l : Launch} {e : Env} {R : Room} {s : State} {m : MethodId} {args : Array Value} {below : List Frame} {meth : Method} {c : Code} {H : Heap} {locs : List Loc} {cells slots : Nat} {Q : State → Prop} {cc : ByteArray} {pc nL : Nat} {ls : Array Slot} {rest : List Value} {G : gG} {own : String} {da : Nat → Nat} {v : vSt} {x : gX} (X : CX G p s m args c cc nL own) (hS : va_S (gA G) s.heap H locs) (hH : Hp G da v x H) {r : Nat} (hk_r : kd r = 11) {p1 : Int32} (ho : oX11_wasDoubted r p1 v) {idx : Nat} (hml : Cond.methodLink own idx yX11_wasDoubted ∈ TT) (hls : ls.size = nL) (hsum : (rest.map fun v => v.category).sum ≤ 8) (hR : rmX11_wasDoubted.frames + 1 ≤ R.frames ∧ 8 + (2 + 11) + rmX11_wasDoubted.locals ≤ R.locals) (hcs : cells ≤ R.cells ∧ slots ≤ R.slots) (hdg : decode cc pc = .ok (.invokevirtual idx, 3)) (kk : ∀ (d : Nat → Nat) (H1 : Heap) (locs1 : List Loc) (v1 : vSt), v1 = (fX11_wasDoubted r p1 v).2 → Hp G d v1 x H1 → va_S (gA G) s.heap H1 locs1 → W p l e R s m args below meth c H1 locs1 cells slots Q (F0 m (pc + 3) ls (.int (fX11_wasDoubted r p1 v).1 :: rest))) : W p l e R s m args below meth c H locs cells slots Q (F0 m pc ls (.int p1 :: .ref (ga G r) :: rest)) := c_mi X.2.2.2.2.2.2 (runV (k := 1) X.1 X.2.1 X.2.2.1 X.2.2.2.1 X.2.2.2.2.1 (mX11_wasDoubted l G da v x r hk_r p1 ho) pW_bl hml t_im_X11_wasDoubted t_sel_X11_wasDoubted t_ini_VernierDrawersModel t_code_X11_wasDoubted ⟨rfl, by decide, by decide, by decide +kernel⟩ rfl rfl hR hcs (recvW X hH (by rw [hk_r]; decide) (by rw [hk_r]; decide) (ce_11 hk_r) rfl) (preW X hS hH) rfl hls rfl hsum hdg) hS kk
def fX11_toFile (r : Nat) (v : vSt) : Int32 × vSt := let v2 : vSt := (fX11_account r 207 v).2; ((fX11_account r 207 v).1, v2)
def oX11_toFile (r : Nat) (v : vSt) : Prop := oX11_account r 207 v
abbrev rmX11_toFile : Room := { frames := 1, cells := 0, slots := 0, locals := 21 }
theorem dX11_toFile_0 : decode cX11_toFile 0 = .ok (.aload_n 0, 1) := by decide +kernel
theorem dX11_toFile_1 : decode cX11_toFile 1 = .ok (.sipush 207, 3) := by decide +kernel
theorem dX11_toFile_4 : decode cX11_toFile 4 = .ok (.invokevirtual 218, 3) := by decide +kernel
theorem dX11_toFile_7 : decode cX11_toFile 7 = .ok (.ireturn, 1) := by decide +kernel
set_option maxHeartbeats 8000000 in
set_option maxRecDepth 100000 in
theorem mX11_toFile (l : Launch) (G : gG) (da : Nat → Nat) (v : vSt) (x : gX) (r : Nat) (hk_r : kd r = 11) (ho : oX11_toFile r v) : MI l yX11_toFile cX11_toFile 1 (some .int) rmX11_toFile [.ref (ga G r)] G da v x 0 0 (fX11_toFile r v).1 (fX11_toFile r v).2 x := by
  refine gofMI (own := RX11) (by decide) rfl (Nat.le_of_ble_eq_true rfl) (fun p e s m args below meth c ls Q X hH hl E => ?_)
  have hx := X.1
  have hb := X.2.1
  have hown := X.2.2.2.1
  have hts := X.2.2.2.2.1
  have hS : va_S (gA G) s.heap s.heap [] := va_S.rf
  unfold oX11_toFile at ho
  have hl : lv_has ls 1 [(0, .ref (ga G r))] := hl
  refine lv_aload_n hx hb dX11_toFile_0 rfl (lv_at hl 0 rfl) ?_
  refine lv_sipush (v := 207) hx hb dX11_toFile_1 (by decide) ?_
  have hq1 := ho
  refine k_X11_account X hS hH hk_r hq1 t_ml_VernierDrawersModel_218 hl.1 (Nat.le_of_ble_eq_true rfl) ⟨Nat.le_of_ble_eq_true rfl, Nat.le_of_ble_eq_true rfl⟩ ⟨Nat.zero_le _, Nat.zero_le _⟩ dX11_toFile_4 (fun da H locs v2 ev2 hH hS => ?_)
  replace ev2 := Eq.symm ev2
  subst ev2
  exact E _ _ _ _ _ _ _ _ _ dX11_toFile_7 rfl (pr1 rfl) (pr2 rfl) hH hS (Nat.zero_le _) (Nat.zero_le _)
theorem k_X11_toFile {p : Program} {l : Launch} {e : Env} {R : Room} {s : State} {m : MethodId} {args : Array Value} {below : List Frame} {meth : Method} {c : Code} {H : Heap} {locs : List Loc} {cells slots : Nat} {Q : State → Prop} {cc : ByteArray} {pc nL : Nat} {ls : Array Slot} {rest : List Value} {G : gG} {own : String} {da : Nat → Nat} {v : vSt} {x : gX} (X : CX G p s m args c cc nL own) (hS : va_S (gA G) s.heap H locs) (hH : Hp G da v x H) {r : Nat} (hk_r : kd r = 11) (ho : oX11_toFile r v) {idx : Nat} (hml : Cond.methodLink own idx yX11_toFile ∈ TT) (hls : ls.size = nL) (hsum : (rest.map fun v => v.category).sum ≤ 8) (hR : rmX11_toFile.frames + 1 ≤ R.frames ∧ 8 + (1 + 11) + rmX11_toFile.locals ≤ R.locals) (hcs : cells ≤ R.cells ∧ slots ≤ R.slots) (hdg : decode cc pc = .ok (.invokevirtual idx, 3)) (kk : ∀ (d : Nat → Nat) (H1 : Heap) (locs1 : List Loc) (v1 : vSt), v1 = (fX11_toFile r v).2 → Hp G d v1 x H1 → va_S (gA G) s.heap H1 locs1 → W p l e R s m args below meth c H1 locs1 cells slots Q (F0 m (pc + 3) ls (.int (fX11_toFile r v).1 :: rest))) : W p l e R s m args below meth c H locs cells slots Q (F0 m pc ls (.ref (ga G r) :: rest)) := c_mi X.2.2.2.2.2.2 (runV (k := 0) X.1 X.2.1 X.2.2.1 X.2.2.2.1 X.2.2.2.2.1 (mX11_toFile l G da v x r hk_r ho) pW_bl hml t_im_X11_toFile t_sel_X11_toFile t_ini_VernierDrawersModel t_code_X11_toFile ⟨rfl, by decide, by decide, by decide +kernel⟩ rfl rfl hR hcs (recvW X hH (by rw [hk_r]; decide) (by rw [hk_r]; decide) (ce_11 hk_r) rfl) (preW X hS hH) rfl hls rfl hsum hdg) hS kk
def fX11_whyNotJudge (r : Nat) (p1 : Int32) (v : vSt) : Int32 × vSt := let v3 : vSt := (fX11_asks r (fX11_isTool r p1 v) v).2; if (((fX11_asks r (fX11_isTool r p1 v) v).1) : Int32) = 0 then ((0, v3)) else ((fX11_reasonNot r p1 v3, v3))
def oX11_whyNotJudge (r : Nat) (p1 : Int32) (v : vSt) : Prop := (oX11_isTool r p1 v) ∧ ((oX11_asks r (fX11_isTool r p1 v) v) ∧ (∀ v3 : vSt, v3 = ((fX11_asks r (fX11_isTool r p1 v) v).2) → (¬ ((((fX11_asks r (fX11_isTool r p1 v) v).1) : Int32) = 0) → (oX11_reasonNot r p1 v3))))
abbrev rmX11_whyNotJudge : Room := { frames := 5, cells := 0, slots := 0, locals := 114 }
theorem dX11_whyNotJudge_0 : decode cX11_whyNotJudge 0 = .ok (.aload_n 0, 1) := by decide +kernel
theorem dX11_whyNotJudge_1 : decode cX11_whyNotJudge 1 = .ok (.aload_n 0, 1) := by decide +kernel
theorem dX11_whyNotJudge_2 : decode cX11_whyNotJudge 2 = .ok (.iload_n 1, 1) := by decide +kernel
theorem dX11_whyNotJudge_3 : decode cX11_whyNotJudge 3 = .ok (.invokevirtual 129, 3) := by decide +kernel
theorem dX11_whyNotJudge_6 : decode cX11_whyNotJudge 6 = .ok (.invokevirtual 214, 3) := by decide +kernel
theorem dX11_whyNotJudge_9 : decode cX11_whyNotJudge 9 = .ok (.ifCond .eq 11, 3) := by decide +kernel
theorem dX11_whyNotJudge_12 : decode cX11_whyNotJudge 12 = .ok (.aload_n 0, 1) := by decide +kernel
theorem dX11_whyNotJudge_13 : decode cX11_whyNotJudge 13 = .ok (.iload_n 1, 1) := by decide +kernel
theorem dX11_whyNotJudge_14 : decode cX11_whyNotJudge 14 = .ok (.invokevirtual 161, 3) := by decide +kernel
theorem dX11_whyNotJudge_17 : decode cX11_whyNotJudge 17 = .ok (.goto 4, 3) := by decide +kernel
theorem dX11_whyNotJudge_20 : decode cX11_whyNotJudge 20 = .ok (.iconst 0, 1) := by decide +kernel
theorem dX11_whyNotJudge_21 : decode cX11_whyNotJudge 21 = .ok (.ireturn, 1) := by decide +kernel
set_option maxHeartbeats 8000000 in
set_option maxRecDepth 100000 in
theorem mX11_whyNotJudge (l : Launch) (G : gG) (da : Nat → Nat) (v : vSt) (x : gX) (r : Nat) (hk_r : kd r = 11) (p1 : Int32) (ho : oX11_whyNotJudge r p1 v) : MI l yX11_whyNotJudge cX11_whyNotJudge 2 (some .int) rmX11_whyNotJudge [.ref (ga G r), .int p1] G da v x 0 0 (fX11_whyNotJudge r p1 v).1 (fX11_whyNotJudge r p1 v).2 x := by
  refine gofMI (own := RX11) (by decide) rfl (Nat.le_of_ble_eq_true rfl) (fun p e s m args below meth c ls Q X hH hl E => ?_)
  have hx := X.1
  have hb := X.2.1
  have hown := X.2.2.2.1
  have hts := X.2.2.2.2.1
  have hS : va_S (gA G) s.heap s.heap [] := va_S.rf
  unfold oX11_whyNotJudge at ho
  have hl : lv_has ls 2 [(0, .ref (ga G r)), (1, .int p1)] := hl
  refine lv_aload_n hx hb dX11_whyNotJudge_0 rfl (lv_at hl 0 rfl) ?_
  refine lv_aload_n hx hb dX11_whyNotJudge_1 rfl (lv_at hl 0 rfl) ?_
  refine lv_iload_n hx hb dX11_whyNotJudge_2 rfl (lv_at hl 1 rfl) ?_
  have hq1 := ho.1
  have ho := ho.2
  refine k_X11_isTool X hS hH hk_r hq1 t_ml_VernierDrawersModel_129 hl.1 (Nat.le_of_ble_eq_true rfl) ⟨Nat.le_of_ble_eq_true rfl, Nat.le_of_ble_eq_true rfl⟩ ⟨Nat.zero_le _, Nat.zero_le _⟩ dX11_whyNotJudge_3 ?_
  have hq2 := ho.1
  have ho := ho.2
  refine k_X11_asks X hS hH hk_r hq2 t_ml_VernierDrawersModel_214 hl.1 (Nat.le_of_ble_eq_true rfl) ⟨Nat.le_of_ble_eq_true rfl, Nat.le_of_ble_eq_true rfl⟩ ⟨Nat.zero_le _, Nat.zero_le _⟩ dX11_whyNotJudge_6 (fun da H locs v3 ev3 hH hS => ?_)
  have ho := ho v3 ev3
  refine lv_if_eq (tgt := 20) hx hb dX11_whyNotJudge_9 (by decide) (fun c4 => ?_) (fun c4 => ?_)
  · skip
    refine lv_iconst (v := 0) hx hb dX11_whyNotJudge_20 (by decide) ?_
    replace ev3 := Eq.symm ev3
    subst ev3
    exact E _ _ _ _ _ _ _ _ _ dX11_whyNotJudge_21 rfl (pr1 ((fX11_whyNotJudge.eq_1 _ _ _).trans ((if_pos c4).trans rfl))) (pr2 ((fX11_whyNotJudge.eq_1 _ _ _).trans ((if_pos c4).trans rfl))) hH hS (Nat.zero_le _) (Nat.zero_le _)
  · have ho := ho c4
    refine lv_aload_n hx hb dX11_whyNotJudge_12 rfl (lv_at hl 0 rfl) ?_
    refine lv_iload_n hx hb dX11_whyNotJudge_13 rfl (lv_at hl 1 rfl) ?_
    have hq5 := ho
    refine k_X11_reasonNot X hS hH hk_r hq5 t_ml_VernierDrawersModel_161 hl.1 (Nat.le_of_ble_eq_true rfl) ⟨Nat.le_of_ble_eq_true rfl, Nat.le_of_ble_eq_true rfl⟩ ⟨Nat.zero_le _, Nat.zero_le _⟩ dX11_whyNotJudge_14 ?_
    refine lv_goto (tgt := 21) hx hb dX11_whyNotJudge_17 (by decide) ?_
    replace ev3 := Eq.symm ev3
    subst ev3
    exact E _ _ _ _ _ _ _ _ _ dX11_whyNotJudge_21 rfl (pr1 ((fX11_whyNotJudge.eq_1 _ _ _).trans ((if_neg c4).trans rfl))) (pr2 ((fX11_whyNotJudge.eq_1 _ _ _).trans ((if_neg c4).trans rfl))) hH hS (Nat.zero_le _) (Nat.zero_le _)
theorem k_X11_whyNotJudge {p : Program} {l : Launch} {e : Env} {R : Room} {s : State} {m : MethodId} {args : Array Value} {below : List Frame} {meth : Method} {c : Code} {H : Heap} {locs : List Loc} {cells slots : Nat} {Q : State → Prop} {cc : ByteArray} {pc nL : Nat} {ls : Array Slot} {rest : List Value} {G : gG} {own : String} {da : Nat → Nat} {v : vSt} {x : gX} (X : CX G p s m args c cc nL own) (hS : va_S (gA G) s.heap H locs) (hH : Hp G da v x H) {r : Nat} (hk_r : kd r = 11) {p1 : Int32} (ho : oX11_whyNotJudge r p1 v) {idx : Nat} (hml : Cond.methodLink own idx yX11_whyNotJudge ∈ TT) (hls : ls.size = nL) (hsum : (rest.map fun v => v.category).sum ≤ 8) (hR : rmX11_whyNotJudge.frames + 1 ≤ R.frames ∧ 8 + (2 + 11) + rmX11_whyNotJudge.locals ≤ R.locals) (hcs : cells ≤ R.cells ∧ slots ≤ R.slots) (hdg : decode cc pc = .ok (.invokevirtual idx, 3)) (kk : ∀ (d : Nat → Nat) (H1 : Heap) (locs1 : List Loc) (v1 : vSt), v1 = (fX11_whyNotJudge r p1 v).2 → Hp G d v1 x H1 → va_S (gA G) s.heap H1 locs1 → W p l e R s m args below meth c H1 locs1 cells slots Q (F0 m (pc + 3) ls (.int (fX11_whyNotJudge r p1 v).1 :: rest))) : W p l e R s m args below meth c H locs cells slots Q (F0 m pc ls (.int p1 :: .ref (ga G r) :: rest)) := c_mi X.2.2.2.2.2.2 (runV (k := 1) X.1 X.2.1 X.2.2.1 X.2.2.2.1 X.2.2.2.2.1 (mX11_whyNotJudge l G da v x r hk_r p1 ho) pW_bl hml t_im_X11_whyNotJudge t_sel_X11_whyNotJudge t_ini_VernierDrawersModel t_code_X11_whyNotJudge ⟨rfl, by decide, by decide, by decide +kernel⟩ rfl rfl hR hcs (recvW X hH (by rw [hk_r]; decide) (by rw [hk_r]; decide) (ce_11 hk_r) rfl) (preW X hS hH) rfl hls rfl hsum hdg) hS kk
