/-! 17.model -/
def fX11_account (r : Nat) (p1 : Int32) (v : vSt) : Int32 × vSt := let v1 : vSt := u2 v r 8 0; (v1 462 (p1 : Int32).toNatClampNeg, v1)
def oX11_account (r : Nat) (p1 : Int32) (v : vSt) : Prop := ∀ v1 : vSt, v1 = (u2 v r 8 0) → (vp_in (p1) (mlen 462))
abbrev rmX11_account : Room := { frames := 0, cells := 0, slots := 0, locals := 0 }
theorem dX11_account_0 : decode cX11_account 0 = .ok (.aload_n 0, 1) := by decide +kernel
theorem dX11_account_1 : decode cX11_account 1 = .ok (.iconst 0, 1) := by decide +kernel
theorem dX11_account_2 : decode cX11_account 2 = .ok (.putfield 29, 3) := by decide +kernel
theorem dX11_account_5 : decode cX11_account 5 = .ok (.aload_n 0, 1) := by decide +kernel
theorem dX11_account_6 : decode cX11_account 6 = .ok (.getfield 7, 3) := by decide +kernel
theorem dX11_account_9 : decode cX11_account 9 = .ok (.iload_n 1, 1) := by decide +kernel
theorem dX11_account_10 : decode cX11_account 10 = .ok (.iaload, 1) := by decide +kernel
theorem dX11_account_11 : decode cX11_account 11 = .ok (.ireturn, 1) := by decide +kernel
set_option maxHeartbeats 8000000 in
set_option maxRecDepth 100000 in
theorem mX11_account (l : Launch) (G : gG) (da : Nat → Nat) (v : vSt) (x : gX) (r : Nat) (hk_r : kd r = 11) (p1 : Int32) (ho : oX11_account r p1 v) : MI l yX11_account cX11_account 2 (some .int) rmX11_account [.ref (ga G r), .int p1] G da v x 0 0 (fX11_account r p1 v).1 (fX11_account r p1 v).2 x := by
  refine gofMI (own := RX11) (by decide) rfl (Nat.le_of_ble_eq_true rfl) (fun p e s m args below meth c ls Q X hH hl E => ?_)
  have hx := X.1
  have hb := X.2.1
  have hown := X.2.2.2.1
  have hts := X.2.2.2.2.1
  have hS : va_S (gA G) s.heap s.heap [] := va_S.rf
  unfold oX11_account at ho
  have hl : lv_has ls 2 [(0, .ref (ga G r)), (1, .int p1)] := hl
  refine lv_aload_n hx hb dX11_account_0 rfl (lv_at hl 0 rfl) ?_
  refine lv_iconst (v := 0) hx hb dX11_account_1 (by decide) ?_
  refine p_VernierDrawersModel_29 X hH hS hk_r dX11_account_2 (fun H locs v1 ev1 hH hS => ?_)
  have ho := ho v1 ev1
  refine lv_aload_n hx hb dX11_account_5 rfl (lv_at hl 0 rfl) ?_
  refine g_VernierDrawersModel_7 X hH hk_r dX11_account_6 ?_
  refine lv_iload_n hx hb dX11_account_9 rfl (lv_at hl 1 rfl) ?_
  have hq2 := ho
  refine ald_M X hH (Or.inl kd_462) hq2 dX11_account_10 ?_
  replace ev1 := Eq.symm ev1
  subst ev1
  exact E _ _ _ _ _ _ _ _ _ dX11_account_11 rfl (pr1 rfl) (pr2 rfl) hH hS (Nat.zero_le _) (Nat.zero_le _)
theorem k_X11_account {p : Program} {l : Launch} {e : Env} {R : Room} {s : State} {m : MethodId} {args : Array Value} {below : List Frame} {meth : Method} {c : Code} {H : Heap} {locs : List Loc} {cells slots : Nat} {Q : State → Prop} {cc : ByteArray} {pc nL : Nat} {ls : Array Slot} {rest : List Value} {G : gG} {own : String} {da : Nat → Nat} {v : vSt} {x : gX} (X : CX G p s m args c cc nL own) (hS : va_S (gA G) s.heap H locs) (hH : Hp G da v x H) {r : Nat} (hk_r : kd r = 11) {p1 : Int32} (ho : oX11_account r p1 v) {idx : Nat} (hml : Cond.methodLink own idx yX11_account ∈ TT) (hls : ls.size = nL) (hsum : (rest.map fun v => v.category).sum ≤ 8) (hR : rmX11_account.frames + 1 ≤ R.frames ∧ 8 + (2 + 11) + rmX11_account.locals ≤ R.locals) (hcs : cells ≤ R.cells ∧ slots ≤ R.slots) (hdg : decode cc pc = .ok (.invokevirtual idx, 3)) (kk : ∀ (d : Nat → Nat) (H1 : Heap) (locs1 : List Loc) (v1 : vSt), v1 = (fX11_account r p1 v).2 → Hp G d v1 x H1 → va_S (gA G) s.heap H1 locs1 → W p l e R s m args below meth c H1 locs1 cells slots Q (F0 m (pc + 3) ls (.int (fX11_account r p1 v).1 :: rest))) : W p l e R s m args below meth c H locs cells slots Q (F0 m pc ls (.int p1 :: .ref (ga G r) :: rest)) := c_mi X.2.2.2.2.2.2 (runV (k := 1) X.1 X.2.1 X.2.2.1 X.2.2.2.1 X.2.2.2.2.1 (mX11_account l G da v x r hk_r p1 ho) pW_bl hml t_im_X11_account t_sel_X11_account t_ini_VernierDrawersModel t_code_X11_account ⟨rfl, by decide, by decide, by decide +kernel⟩ rfl rfl hR hcs (recvW X hH (by rw [hk_r]; decide) (by rw [hk_r]; decide) (ce_11 hk_r) rfl) (preW X hS hH) rfl hls rfl hsum hdg) hS kk
def fX11_toldOfTool (r : Nat) (p1 : Int32) (p2 : Int32) (v : vSt) : Int32 × vSt := let v3 : vSt := (fX11_asks r (fX11_isTool r p1 v) v).2; if (((fX11_asks r (fX11_isTool r p1 v) v).1) : Int32) = 0 then ((0, v3)) else ((fX11_tool r p1 p2 v3, v3))
def oX11_toldOfTool (r : Nat) (p1 : Int32) (p2 : Int32) (v : vSt) : Prop := (oX11_isTool r p1 v) ∧ ((oX11_asks r (fX11_isTool r p1 v) v) ∧ (∀ v3 : vSt, v3 = ((fX11_asks r (fX11_isTool r p1 v) v).2) → (¬ ((((fX11_asks r (fX11_isTool r p1 v) v).1) : Int32) = 0) → (oX11_tool r p1 p2 v3))))
abbrev rmX11_toldOfTool : Room := { frames := 2, cells := 0, slots := 0, locals := 43 }
theorem dX11_toldOfTool_0 : decode cX11_toldOfTool 0 = .ok (.aload_n 0, 1) := by decide +kernel
theorem dX11_toldOfTool_1 : decode cX11_toldOfTool 1 = .ok (.aload_n 0, 1) := by decide +kernel
theorem dX11_toldOfTool_2 : decode cX11_toldOfTool 2 = .ok (.iload_n 1, 1) := by decide +kernel
theorem dX11_toldOfTool_3 : decode cX11_toldOfTool 3 = .ok (.invokevirtual 129, 3) := by decide +kernel
theorem dX11_toldOfTool_6 : decode cX11_toldOfTool 6 = .ok (.invokevirtual 214, 3) := by decide +kernel
theorem dX11_toldOfTool_9 : decode cX11_toldOfTool 9 = .ok (.ifCond .eq 12, 3) := by decide +kernel
theorem dX11_toldOfTool_12 : decode cX11_toldOfTool 12 = .ok (.aload_n 0, 1) := by decide +kernel
theorem dX11_toldOfTool_13 : decode cX11_toldOfTool 13 = .ok (.iload_n 1, 1) := by decide +kernel
theorem dX11_toldOfTool_14 : decode cX11_toldOfTool 14 = .ok (.iload_n 2, 1) := by decide +kernel
theorem dX11_toldOfTool_15 : decode cX11_toldOfTool 15 = .ok (.invokevirtual 54, 3) := by decide +kernel
theorem dX11_toldOfTool_18 : decode cX11_toldOfTool 18 = .ok (.goto 4, 3) := by decide +kernel
theorem dX11_toldOfTool_21 : decode cX11_toldOfTool 21 = .ok (.iconst 0, 1) := by decide +kernel
theorem dX11_toldOfTool_22 : decode cX11_toldOfTool 22 = .ok (.ireturn, 1) := by decide +kernel
set_option maxHeartbeats 8000000 in
set_option maxRecDepth 100000 in
theorem mX11_toldOfTool (l : Launch) (G : gG) (da : Nat → Nat) (v : vSt) (x : gX) (r : Nat) (hk_r : kd r = 11) (p1 : Int32) (p2 : Int32) (ho : oX11_toldOfTool r p1 p2 v) : MI l yX11_toldOfTool cX11_toldOfTool 3 (some .int) rmX11_toldOfTool [.ref (ga G r), .int p1, .int p2] G da v x 0 0 (fX11_toldOfTool r p1 p2 v).1 (fX11_toldOfTool r p1 p2 v).2 x := by
  refine gofMI (own := RX11) (by decide) rfl (Nat.le_of_ble_eq_true rfl) (fun p e s m args below meth c ls Q X hH hl E => ?_)
  have hx := X.1
  have hb := X.2.1
  have hown := X.2.2.2.1
  have hts := X.2.2.2.2.1
  have hS : va_S (gA G) s.heap s.heap [] := va_S.rf
  unfold oX11_toldOfTool at ho
  have hl : lv_has ls 3 [(0, .ref (ga G r)), (1, .int p1), (2, .int p2)] := hl
  refine lv_aload_n hx hb dX11_toldOfTool_0 rfl (lv_at hl 0 rfl) ?_
  refine lv_aload_n hx hb dX11_toldOfTool_1 rfl (lv_at hl 0 rfl) ?_
  refine lv_iload_n hx hb dX11_toldOfTool_2 rfl (lv_at hl 1 rfl) ?_
  have hq1 := ho.1
  have ho := ho.2
  refine k_X11_isTool X hS hH hk_r hq1 t_ml_VernierDrawersModel_129 hl.1 (Nat.le_of_ble_eq_true rfl) ⟨Nat.le_of_ble_eq_true rfl, Nat.le_of_ble_eq_true rfl⟩ ⟨Nat.zero_le _, Nat.zero_le _⟩ dX11_toldOfTool_3 ?_
  have hq2 := ho.1
  have ho := ho.2
  refine k_X11_asks X hS hH hk_r hq2 t_ml_VernierDrawersModel_214 hl.1 (Nat.le_of_ble_eq_true rfl) ⟨Nat.le_of_ble_eq_true rfl, Nat.le_of_ble_eq_true rfl⟩ ⟨Nat.zero_le _, Nat.zero_le _⟩ dX11_toldOfTool_6 (fun da H locs v3 ev3 hH hS => ?_)
  have ho := ho v3 ev3
  refine lv_if_eq (tgt := 21) hx hb dX11_toldOfTool_9 (by decide) (fun c4 => ?_) (fun c4 => ?_)
  · skip
    refine lv_iconst (v := 0) hx hb dX11_toldOfTool_21 (by decide) ?_
    replace ev3 := Eq.symm ev3
    subst ev3
    exact E _ _ _ _ _ _ _ _ _ dX11_toldOfTool_22 rfl (pr1 ((fX11_toldOfTool.eq_1 _ _ _ _).trans ((if_pos c4).trans rfl))) (pr2 ((fX11_toldOfTool.eq_1 _ _ _ _).trans ((if_pos c4).trans rfl))) hH hS (Nat.zero_le _) (Nat.zero_le _)
  · have ho := ho c4
    refine lv_aload_n hx hb dX11_toldOfTool_12 rfl (lv_at hl 0 rfl) ?_
    refine lv_iload_n hx hb dX11_toldOfTool_13 rfl (lv_at hl 1 rfl) ?_
    refine lv_iload_n hx hb dX11_toldOfTool_14 rfl (lv_at hl 2 rfl) ?_
    have hq5 := ho
    refine k_X11_tool X hS hH hk_r hq5 t_ml_VernierDrawersModel_54 hl.1 (Nat.le_of_ble_eq_true rfl) ⟨Nat.le_of_ble_eq_true rfl, Nat.le_of_ble_eq_true rfl⟩ ⟨Nat.zero_le _, Nat.zero_le _⟩ dX11_toldOfTool_15 ?_
    refine lv_goto (tgt := 22) hx hb dX11_toldOfTool_18 (by decide) ?_
    replace ev3 := Eq.symm ev3
    subst ev3
    exact E _ _ _ _ _ _ _ _ _ dX11_toldOfTool_22 rfl (pr1 ((fX11_toldOfTool.eq_1 _ _ _ _).trans ((if_neg c4).trans rfl))) (pr2 ((fX11_toldOfTool.eq_1 _ _ _ _).trans ((if_neg c4).trans rfl))) hH hS (Nat.zero_le _) (Nat.zero_le _)
theorem k_X11_toldOfTool {p : Program} {l : Launch} {e : Env} {R : Room} {s : State} {m : MethodId} {args : Array Value} {below : List Frame} {meth : Method} {c : Code} {H : Heap} {locs : List Loc} {cells slots : Nat} {Q : State → Prop} {cc : ByteArray} {pc nL : Nat} {ls : Array Slot} {rest : List Value} {G : gG} {own : String} {da : Nat → Nat} {v : vSt} {x : gX} (X : CX G p s m args c cc nL own) (hS : va_S (gA G) s.heap H locs) (hH : Hp G da v x H) {r : Nat} (hk_r : kd r = 11) {p1 : Int32} {p2 : Int32} (ho : oX11_toldOfTool r p1 p2 v) {idx : Nat} (hml : Cond.methodLink own idx yX11_toldOfTool ∈ TT) (hls : ls.size = nL) (hsum : (rest.map fun v => v.category).sum ≤ 8) (hR : rmX11_toldOfTool.frames + 1 ≤ R.frames ∧ 8 + (3 + 11) + rmX11_toldOfTool.locals ≤ R.locals) (hcs : cells ≤ R.cells ∧ slots ≤ R.slots) (hdg : decode cc pc = .ok (.invokevirtual idx, 3)) (kk : ∀ (d : Nat → Nat) (H1 : Heap) (locs1 : List Loc) (v1 : vSt), v1 = (fX11_toldOfTool r p1 p2 v).2 → Hp G d v1 x H1 → va_S (gA G) s.heap H1 locs1 → W p l e R s m args below meth c H1 locs1 cells slots Q (F0 m (pc + 3) ls (.int (fX11_toldOfTool r p1 p2 v).1 :: rest))) : W p l e R s m args below meth c H locs cells slots Q (F0 m pc ls (.int p2 :: .int p1 :: .ref (ga G r) :: rest)) := c_mi X.2.2.2.2.2.2 (runV (k := 2) X.1 X.2.1 X.2.2.1 X.2.2.2.1 X.2.2.2.2.1 (mX11_toldOfTool l G da v x r hk_r p1 p2 ho) pW_bl hml t_im_X11_toldOfTool t_sel_X11_toldOfTool t_ini_VernierDrawersModel t_code_X11_toldOfTool ⟨rfl, by decide, by decide, by decide +kernel⟩ rfl rfl hR hcs (recvW X hH (by rw [hk_r]; decide) (by rw [hk_r]; decide) (ce_11 hk_r) rfl) (preW X hS hH) rfl hls rfl hsum hdg) hS kk
def fX11_tools (r : Nat) (v : vSt) : Int32 × vSt := let v2 : vSt := (fX11_account r 203 v).2; ((fX11_account r 203 v).1, v2)
def oX11_tools (r : Nat) (v : vSt) : Prop := oX11_account r 203 v
abbrev rmX11_tools : Room := { frames := 1, cells := 0, slots := 0, locals := 21 }
theorem dX11_tools_0 : decode cX11_tools 0 = .ok (.aload_n 0, 1) := by decide +kernel
theorem dX11_tools_1 : decode cX11_tools 1 = .ok (.sipush 203, 3) := by decide +kernel
theorem dX11_tools_4 : decode cX11_tools 4 = .ok (.invokevirtual 218, 3) := by decide +kernel
theorem dX11_tools_7 : decode cX11_tools 7 = .ok (.ireturn, 1) := by decide +kernel
set_option maxHeartbeats 8000000 in
set_option maxRecDepth 100000 in
theorem mX11_tools (l : Launch) (G : gG) (da : Nat → Nat) (v : vSt) (x : gX) (r : Nat) (hk_r : kd r = 11) (ho : oX11_tools r v) : MI l yX11_tools cX11_tools 1 (some .int) rmX11_tools [.ref (ga G r)] G da v x 0 0 (fX11_tools r v).1 (fX11_tools r v).2 x := by
  refine gofMI (own := RX11) (by decide) rfl (Nat.le_of_ble_eq_true rfl) (fun p e s m args below meth c ls Q X hH hl E => ?_)
  have hx := X.1
  have hb := X.2.1
  have hown := X.2.2.2.1
  have hts := X.2.2.2.2.1
  have hS : va_S (gA G) s.heap s.heap [] := va_S.rf
  unfold oX11_tools at ho
  have hl : lv_has ls 1 [(0, .ref (ga G r))] := hl
  refine lv_aload_n hx hb dX11_tools_0 rfl (lv_at hl 0 rfl) ?_
  refine lv_sipush (v := 203) hx hb dX11_tools_1 (by decide) ?_
  have hq1 := ho
  refine k_X11_account X hS hH hk_r hq1 t_ml_VernierDrawersModel_218 hl.1 (Nat.le_of_ble_eq_true rfl) ⟨Nat.le_of_ble_eq_true rfl, Nat.le_of_ble_eq_true rfl⟩ ⟨Nat.zero_le _, Nat.zero_le _⟩ dX11_tools_4 (fun da H locs v2 ev2 hH hS => ?_)
  replace ev2 := Eq.symm ev2
  subst ev2
  exact E _ _ _ _ _ _ _ _ _ dX11_tools_7 rfl (pr1 rfl) (pr2 rfl) hH hS (Nat.zero_le _) (Nat.zero_le _)
theorem k_X11_tools {p : Program} {l : Launch} {e : Env} {R : Room} {s : State} {m : MethodId} {args : Array Value} {below : List Frame} {meth : Method} {c : Code} {H : Heap} {locs : List Loc} {cells slots : Nat} {Q : State → Prop} {cc : ByteArray} {pc nL : Nat} {ls : Array Slot} {rest : List Value} {G : gG} {own : String} {da : Nat → Nat} {v : vSt} {x : gX} (X : CX G p s m args c cc nL own) (hS : va_S (gA G) s.heap H locs) (hH : Hp G da v x H) {r : Nat} (hk_r : kd r = 11) (ho : oX11_tools r v) {idx : Nat} (hml : Cond.methodLink own idx yX11_tools ∈ TT) (hls : ls.size = nL) (hsum : (rest.map fun v => v.category).sum ≤ 8) (hR : rmX11_tools.frames + 1 ≤ R.frames ∧ 8 + (1 + 11) + rmX11_tools.locals ≤ R.locals) (hcs : cells ≤ R.cells ∧ slots ≤ R.slots) (hdg : decode cc pc = .ok (.invokevirtual idx, 3)) (kk : ∀ (d : Nat → Nat) (H1 : Heap) (locs1 : List Loc) (v1 : vSt), v1 = (fX11_tools r v).2 → Hp G d v1 x H1 → va_S (gA G) s.heap H1 locs1 → W p l e R s m args below meth c H1 locs1 cells slots Q (F0 m (pc + 3) ls (.int (fX11_tools r v).1 :: rest))) : W p l e R s m args below meth c H locs cells slots Q (F0 m pc ls (.ref (ga G r) :: rest)) := c_mi X.2.2.2.2.2.2 (runV (k := 0) X.1 X.2.1 X.2.2.1 X.2.2.2.1 X.2.2.2.2.1 (mX11_tools l G da v x r hk_r ho) pW_bl hml t_im_X11_tools t_sel_X11_tools t_ini_VernierDrawersModel t_code_X11_tools ⟨rfl, by decide, by decide, by decide +kernel⟩ rfl rfl hR hcs (recvW X hH (by rw [hk_r]; decide) (by rw [hk_r]; decide) (ce_11 hk_r) rfl) (preW X hS hH) rfl hls rfl hsum hdg) hS kk
def fX11_kindOf (r : Nat) (p1 : Int32) (v : vSt) : Int32 × vSt := let v2 : vSt := (fX11_toldOfTool r p1 0 v).2; ((fX11_toldOfTool r p1 0 v).1, v2)
def oX11_kindOf (r : Nat) (p1 : Int32) (v : vSt) : Prop := oX11_toldOfTool r p1 0 v
abbrev rmX11_kindOf : Room := { frames := 3, cells := 0, slots := 0, locals := 65 }
theorem dX11_kindOf_0 : decode cX11_kindOf 0 = .ok (.aload_n 0, 1) := by decide +kernel
theorem dX11_kindOf_1 : decode cX11_kindOf 1 = .ok (.iload_n 1, 1) := by decide +kernel
theorem dX11_kindOf_2 : decode cX11_kindOf 2 = .ok (.iconst 0, 1) := by decide +kernel
theorem dX11_kindOf_3 : decode cX11_kindOf 3 = .ok (.invokevirtual 221, 3) := by decide +kernel
theorem dX11_kindOf_6 : decode cX11_kindOf 6 = .ok (.ireturn, 1) := by decide +kernel
set_option maxHeartbeats 8000000 in
set_option maxRecDepth 100000 in
theorem mX11_kindOf (l : Launch) (G : gG) (da : Nat → Nat) (v : vSt) (x : gX) (r : Nat) (hk_r : kd r = 11) (p1 : Int32) (ho : oX11_kindOf r p1 v) : MI l yX11_kindOf cX11_kindOf 2 (some .int) rmX11_kindOf [.ref (ga G r), .int p1] G da v x 0 0 (fX11_kindOf r p1 v).1 (fX11_kindOf r p1 v).2 x := by
  refine gofMI (own := RX11) (by decide) rfl (Nat.le_of_ble_eq_true rfl) (fun p e s m args below meth c ls Q X hH hl E => ?_)
  have hx := X.1
  have hb := X.2.1
  have hown := X.2.2.2.1
  have hts := X.2.2.2.2.1
  have hS : va_S (gA G) s.heap s.heap [] := va_S.rf
  unfold oX11_kindOf at ho
  have hl : lv_has ls 2 [(0, .ref (ga G r)), (1, .int p1)] := hl
  refine lv_aload_n hx hb dX11_kindOf_0 rfl (lv_at hl 0 rfl) ?_
  refine lv_iload_n hx hb dX11_kindOf_1 rfl (lv_at hl 1 rfl) ?_
  refine lv_iconst (v := 0) hx hb dX11_kindOf_2 (by decide) ?_
  have hq1 := ho
  refine k_X11_toldOfTool X hS hH hk_r hq1 t_ml_VernierDrawersModel_221 hl.1 (Nat.le_of_ble_eq_true rfl) ⟨Nat.le_of_ble_eq_true rfl, Nat.le_of_ble_eq_true rfl⟩ ⟨Nat.zero_le _, Nat.zero_le _⟩ dX11_kindOf_3 (fun da H locs v2 ev2 hH hS => ?_)
  replace ev2 := Eq.symm ev2
  subst ev2
  exact E _ _ _ _ _ _ _ _ _ dX11_kindOf_6 rfl (pr1 rfl) (pr2 rfl) hH hS (Nat.zero_le _) (Nat.zero_le _)
theorem k_X11_kindOf {p : Program} {l : Launch} {e : Env} {R : Room} {s : State} {m : MethodId} {args : Array Value} {below : List Frame} {meth : Method} {c : Code} {H : Heap} {locs : List Loc} {cells slots : Nat} {Q : State → Prop} {cc : ByteArray} {pc nL : Nat} {ls : Array Slot} {rest : List Value} {G : gG} {own : String} {da : Nat → Nat} {v : vSt} {x : gX} (X : CX G p s m args c cc nL own) (hS : va_S (gA G) s.heap H locs) (hH : Hp G da v x H) {r : Nat} (hk_r : kd r = 11) {p1 : Int32} (ho : oX11_kindOf r p1 v) {idx : Nat} (hml : Cond.methodLink own idx yX11_kindOf ∈ TT) (hls : ls.size = nL) (hsum : (rest.map fun v => v.category).sum ≤ 8) (hR : rmX11_kindOf.frames + 1 ≤ R.frames ∧ 8 + (2 + 11) + rmX11_kindOf.locals ≤ R.locals) (hcs : cells ≤ R.cells ∧ slots ≤ R.slots) (hdg : decode cc pc = .ok (.invokevirtual idx, 3)) (kk : ∀ (d : Nat → Nat) (H1 : Heap) (locs1 : List Loc) (v1 : vSt), v1 = (fX11_kindOf r p1 v).2 → Hp G d v1 x H1 → va_S (gA G) s.heap H1 locs1 → W p l e R s m args below meth c H1 locs1 cells slots Q (F0 m (pc + 3) ls (.int (fX11_kindOf r p1 v).1 :: rest))) : W p l e R s m args below meth c H locs cells slots Q (F0 m pc ls (.int p1 :: .ref (ga G r) :: rest)) := c_mi X.2.2.2.2.2.2 (runV (k := 1) X.1 X.2.1 X.2.2.1 X.2.2.2.1 X.2.2.2.2.1 (mX11_kindOf l G da v x r hk_r p1 ho) pW_bl hml t_im_X11_kindOf t_sel_X11_kindOf t_ini_VernierDrawersModel t_code_X11_kindOf ⟨rfl, by decide, by decide, by decide +kernel⟩ rfl rfl hR hcs (recvW X hH (by rw [hk_r]; decide) (by rw [hk_r]; decide) (ce_11 hk_r) rfl) (preW X hS hH) rfl hls rfl hsum hdg) hS kk
def fX11_stepOf (r : Nat) (p1 : Int32) (v : vSt) : Int32 × vSt := let v3 : vSt := (fX11_asks r (fX11_isTool r p1 v) v).2; if (((fX11_asks r (fX11_isTool r p1 v) v).1) : Int32) = 0 then ((0, v3)) else ((fX11_step r p1 v3, v3))
def oX11_stepOf (r : Nat) (p1 : Int32) (v : vSt) : Prop := (oX11_isTool r p1 v) ∧ ((oX11_asks r (fX11_isTool r p1 v) v) ∧ (∀ v3 : vSt, v3 = ((fX11_asks r (fX11_isTool r p1 v) v).2) → (¬ ((((fX11_asks r (fX11_isTool r p1 v) v).1) : Int32) = 0) → (oX11_step r p1 v3))))
abbrev rmX11_stepOf : Room := { frames := 2, cells := 0, slots := 0, locals := 44 }
theorem dX11_stepOf_0 : decode cX11_stepOf 0 = .ok (.aload_n 0, 1) := by decide +kernel
theorem dX11_stepOf_1 : decode cX11_stepOf 1 = .ok (.aload_n 0, 1) := by decide +kernel
theorem dX11_stepOf_2 : decode cX11_stepOf 2 = .ok (.iload_n 1, 1) := by decide +kernel
theorem dX11_stepOf_3 : decode cX11_stepOf 3 = .ok (.invokevirtual 129, 3) := by decide +kernel
theorem dX11_stepOf_6 : decode cX11_stepOf 6 = .ok (.invokevirtual 214, 3) := by decide +kernel
theorem dX11_stepOf_9 : decode cX11_stepOf 9 = .ok (.ifCond .eq 11, 3) := by decide +kernel
theorem dX11_stepOf_12 : decode cX11_stepOf 12 = .ok (.aload_n 0, 1) := by decide +kernel
theorem dX11_stepOf_13 : decode cX11_stepOf 13 = .ok (.iload_n 1, 1) := by decide +kernel
theorem dX11_stepOf_14 : decode cX11_stepOf 14 = .ok (.invokevirtual 61, 3) := by decide +kernel
theorem dX11_stepOf_17 : decode cX11_stepOf 17 = .ok (.goto 4, 3) := by decide +kernel
theorem dX11_stepOf_20 : decode cX11_stepOf 20 = .ok (.iconst 0, 1) := by decide +kernel
theorem dX11_stepOf_21 : decode cX11_stepOf 21 = .ok (.ireturn, 1) := by decide +kernel
set_option maxHeartbeats 8000000 in
set_option maxRecDepth 100000 in
theorem mX11_stepOf (l : Launch) (G : gG) (da : Nat → Nat) (v : vSt) (x : gX) (r : Nat) (hk_r : kd r = 11) (p1 : Int32) (ho : oX11_stepOf r p1 v) : MI l yX11_stepOf cX11_stepOf 2 (some .int) rmX11_stepOf [.ref (ga G r), .int p1] G da v x 0 0 (fX11_stepOf r p1 v).1 (fX11_stepOf r p1 v).2 x := by
  refine gofMI (own := RX11) (by decide) rfl (Nat.le_of_ble_eq_true rfl) (fun p e s m args below meth c ls Q X hH hl E => ?_)
  have hx := X.1
  have hb := X.2.1
  have hown := X.2.2.2.1
  have hts := X.2.2.2.2.1
  have hS : va_S (gA G) s.heap s.heap [] := va_S.rf
  unfold oX11_stepOf at ho
  have hl : lv_has ls 2 [(0, .ref (ga G r)), (1, .int p1)] := hl
  refine lv_aload_n hx hb dX11_stepOf_0 rfl (lv_at hl 0 rfl) ?_
  refine lv_aload_n hx hb dX11_stepOf_1 rfl (lv_at hl 0 rfl) ?_
  refine lv_iload_n hx hb dX11_stepOf_2 rfl (lv_at hl 1 rfl) ?_
  have hq1 := ho.1
  have ho := ho.2
  refine k_X11_isTool X hS hH hk_r hq1 t_ml_VernierDrawersModel_129 hl.1 (Nat.le_of_ble_eq_true rfl) ⟨Nat.le_of_ble_eq_true rfl, Nat.le_of_ble_eq_true rfl⟩ ⟨Nat.zero_le _, Nat.zero_le _⟩ dX11_stepOf_3 ?_
  have hq2 := ho.1
  have ho := ho.2
  refine k_X11_asks X hS hH hk_r hq2 t_ml_VernierDrawersModel_214 hl.1 (Nat.le_of_ble_eq_true rfl) ⟨Nat.le_of_ble_eq_true rfl, Nat.le_of_ble_eq_true rfl⟩ ⟨Nat.zero_le _, Nat.zero_le _⟩ dX11_stepOf_6 (fun da H locs v3 ev3 hH hS => ?_)
  have ho := ho v3 ev3
  refine lv_if_eq (tgt := 20) hx hb dX11_stepOf_9 (by decide) (fun c4 => ?_) (fun c4 => ?_)
  · skip
    refine lv_iconst (v := 0) hx hb dX11_stepOf_20 (by decide) ?_
    replace ev3 := Eq.symm ev3
    subst ev3
    exact E _ _ _ _ _ _ _ _ _ dX11_stepOf_21 rfl (pr1 ((fX11_stepOf.eq_1 _ _ _).trans ((if_pos c4).trans rfl))) (pr2 ((fX11_stepOf.eq_1 _ _ _).trans ((if_pos c4).trans rfl))) hH hS (Nat.zero_le _) (Nat.zero_le _)
  · have ho := ho c4
    refine lv_aload_n hx hb dX11_stepOf_12 rfl (lv_at hl 0 rfl) ?_
    refine lv_iload_n hx hb dX11_stepOf_13 rfl (lv_at hl 1 rfl) ?_
    have hq5 := ho
    refine k_X11_step X hS hH hk_r hq5 t_ml_VernierDrawersModel_61 hl.1 (Nat.le_of_ble_eq_true rfl) ⟨Nat.le_of_ble_eq_true rfl, Nat.le_of_ble_eq_true rfl⟩ ⟨Nat.zero_le _, Nat.zero_le _⟩ dX11_stepOf_14 ?_
    refine lv_goto (tgt := 21) hx hb dX11_stepOf_17 (by decide) ?_
    replace ev3 := Eq.symm ev3
    subst ev3
    exact E _ _ _ _ _ _ _ _ _ dX11_stepOf_21 rfl (pr1 ((fX11_stepOf.eq_1 _ _ _).trans ((if_neg c4).trans rfl))) (pr2 ((fX11_stepOf.eq_1 _ _ _).trans ((if_neg c4).trans rfl))) hH hS (Nat.zero_le _) (Nat.zero_le _)
theorem k_X11_stepOf {p : Program} {l : Launch} {e : Env} {R : Room} {s : State} {m : MethodId} {args : Array Value} {below : List Frame} {meth : Method} {c : Code} {H : Heap} {locs : List Loc} {cells slots : Nat} {Q : State → Prop} {cc : ByteArray} {pc nL : Nat} {ls : Array Slot} {rest : List Value} {G : gG} {own : String} {da : Nat → Nat} {v : vSt} {x : gX} (X : CX G p s m args c cc nL own) (hS : va_S (gA G) s.heap H locs) (hH : Hp G da v x H) {r : Nat} (hk_r : kd r = 11) {p1 : Int32} (ho : oX11_stepOf r p1 v) {idx : Nat} (hml : Cond.methodLink own idx yX11_stepOf ∈ TT) (hls : ls.size = nL) (hsum : (rest.map fun v => v.category).sum ≤ 8) (hR : rmX11_stepOf.frames + 1 ≤ R.frames ∧ 8 + (2 + 11) + rmX11_stepOf.locals ≤ R.locals) (hcs : cells ≤ R.cells ∧ slots ≤ R.slots) (hdg : decode cc pc = .ok (.invokevirtual idx, 3)) (kk : ∀ (d : Nat → Nat) (H1 : Heap) (locs1 : List Loc) (v1 : vSt), v1 = (fX11_stepOf r p1 v).2 → Hp G d v1 x H1 → va_S (gA G) s.heap H1 locs1 → W p l e R s m args below meth c H1 locs1 cells slots Q (F0 m (pc + 3) ls (.int (fX11_stepOf r p1 v).1 :: rest))) : W p l e R s m args below meth c H locs cells slots Q (F0 m pc ls (.int p1 :: .ref (ga G r) :: rest)) := c_mi X.2.2.2.2.2.2 (runV (k := 1) X.1 X.2.1 X.2.2.1 X.2.2.2.1 X.2.2.2.2.1 (mX11_stepOf l G da v x r hk_r p1 ho) pW_bl hml t_im_X11_stepOf t_sel_X11_stepOf t_ini_VernierDrawersModel t_code_X11_stepOf ⟨rfl, by decide, by decide, by decide +kernel⟩ rfl rfl hR hcs (recvW X hH (by rw [hk_r]; decide) (by rw [hk_r]; decide) (ce_11 hk_r) rfl) (preW X hS hH) rfl hls rfl hsum hdg) hS kk
def fX11_usesOf (r : Nat) (p1 : Int32) (v : vSt) : Int32 × vSt := let v2 : vSt := (fX11_toldOfTool r p1 5 v).2; ((fX11_toldOfTool r p1 5 v).1, v2)
def oX11_usesOf (r : Nat) (p1 : Int32) (v : vSt) : Prop := oX11_toldOfTool r p1 5 v
abbrev rmX11_usesOf : Room := { frames := 3, cells := 0, slots := 0, locals := 65 }
theorem dX11_usesOf_0 : decode cX11_usesOf 0 = .ok (.aload_n 0, 1) := by decide +kernel
theorem dX11_usesOf_1 : decode cX11_usesOf 1 = .ok (.iload_n 1, 1) := by decide +kernel
theorem dX11_usesOf_2 : decode cX11_usesOf 2 = .ok (.iconst 5, 1) := by decide +kernel
theorem dX11_usesOf_3 : decode cX11_usesOf 3 = .ok (.invokevirtual 221, 3) := by decide +kernel
theorem dX11_usesOf_6 : decode cX11_usesOf 6 = .ok (.ireturn, 1) := by decide +kernel
set_option maxHeartbeats 8000000 in
set_option maxRecDepth 100000 in
theorem mX11_usesOf (l : Launch) (G : gG) (da : Nat → Nat) (v : vSt) (x : gX) (r : Nat) (hk_r : kd r = 11) (p1 : Int32) (ho : oX11_usesOf r p1 v) : MI l yX11_usesOf cX11_usesOf 2 (some .int) rmX11_usesOf [.ref (ga G r), .int p1] G da v x 0 0 (fX11_usesOf r p1 v).1 (fX11_usesOf r p1 v).2 x := by
  refine gofMI (own := RX11) (by decide) rfl (Nat.le_of_ble_eq_true rfl) (fun p e s m args below meth c ls Q X hH hl E => ?_)
  have hx := X.1
  have hb := X.2.1
  have hown := X.2.2.2.1
  have hts := X.2.2.2.2.1
  have hS : va_S (gA G) s.heap s.heap [] := va_S.rf
  unfold oX11_usesOf at ho
  have hl : lv_has ls 2 [(0, .ref (ga G r)), (1, .int p1)] := hl
  refine lv_aload_n hx hb dX11_usesOf_0 rfl (lv_at hl 0 rfl) ?_
  refine lv_iload_n hx hb dX11_usesOf_1 rfl (lv_at hl 1 rfl) ?_
  refine lv_iconst (v := 5) hx hb dX11_usesOf_2 (by decide) ?_
  have hq1 := ho
  refine k_X11_toldOfTool X hS hH hk_r hq1 t_ml_VernierDrawersModel_221 hl.1 (Nat.le_of_ble_eq_true rfl) ⟨Nat.le_of_ble_eq_true rfl, Nat.le_of_ble_eq_true rfl⟩ ⟨Nat.zero_le _, Nat.zero_le _⟩ dX11_usesOf_3 (fun da H locs v2 ev2 hH hS => ?_)
  replace ev2 := Eq.symm ev2
  subst ev2
  exact E _ _ _ _ _ _ _ _ _ dX11_usesOf_6 rfl (pr1 rfl) (pr2 rfl) hH hS (Nat.zero_le _) (Nat.zero_le _)
theorem k_X11_usesOf {p : Program} {l : Launch} {e : Env} {R : Room} {s : State} {m : MethodId} {args : Array Value} {below : List Frame} {meth : Method} {c : Code} {H : Heap} {locs : List Loc} {cells slots : Nat} {Q : State → Prop} {cc : ByteArray} {pc nL : Nat} {ls : Array Slot} {rest : List Value} {G : gG} {own : String} {da : Nat → Nat} {v : vSt} {x : gX} (X : CX G p s m args c cc nL own) (hS : va_S (gA G) s.heap H locs) (hH : Hp G da v x H) {r : Nat} (hk_r : kd r = 11) {p1 : Int32} (ho : oX11_usesOf r p1 v) {idx : Nat} (hml : Cond.methodLink own idx yX11_usesOf ∈ TT) (hls : ls.size = nL) (hsum : (rest.map fun v => v.category).sum ≤ 8) (hR : rmX11_usesOf.frames + 1 ≤ R.frames ∧ 8 + (2 + 11) + rmX11_usesOf.locals ≤ R.locals) (hcs : cells ≤ R.cells ∧ slots ≤ R.slots) (hdg : decode cc pc = .ok (.invokevirtual idx, 3)) (kk : ∀ (d : Nat → Nat) (H1 : Heap) (locs1 : List Loc) (v1 : vSt), v1 = (fX11_usesOf r p1 v).2 → Hp G d v1 x H1 → va_S (gA G) s.heap H1 locs1 → W p l e R s m args below meth c H1 locs1 cells slots Q (F0 m (pc + 3) ls (.int (fX11_usesOf r p1 v).1 :: rest))) : W p l e R s m args below meth c H locs cells slots Q (F0 m pc ls (.int p1 :: .ref (ga G r) :: rest)) := c_mi X.2.2.2.2.2.2 (runV (k := 1) X.1 X.2.1 X.2.2.1 X.2.2.2.1 X.2.2.2.2.1 (mX11_usesOf l G da v x r hk_r p1 ho) pW_bl hml t_im_X11_usesOf t_sel_X11_usesOf t_ini_VernierDrawersModel t_code_X11_usesOf ⟨rfl, by decide, by decide, by decide +kernel⟩ rfl rfl hR hcs (recvW X hH (by rw [hk_r]; decide) (by rw [hk_r]; decide) (ce_11 hk_r) rfl) (preW X hS hH) rfl hls rfl hsum hdg) hS kk
def fX11_wearOf (r : Nat) (p1 : Int32) (v : vSt) : Int32 × vSt := let v2 : vSt := (fX11_toldOfTool r p1 2 v).2; ((fX11_toldOfTool r p1 2 v).1, v2)
def oX11_wearOf (r : Nat) (p1 : Int32) (v : vSt) : Prop := oX11_toldOfTool r p1 2 v
abbrev rmX11_wearOf : Room := { frames := 3, cells := 0, slots := 0, locals := 65 }
theorem dX11_wearOf_0 : decode cX11_wearOf 0 = .ok (.aload_n 0, 1) := by decide +kernel
theorem dX11_wearOf_1 : decode cX11_wearOf 1 = .ok (.iload_n 1, 1) := by decide +kernel
theorem dX11_wearOf_2 : decode cX11_wearOf 2 = .ok (.iconst 2, 1) := by decide +kernel
theorem dX11_wearOf_3 : decode cX11_wearOf 3 = .ok (.invokevirtual 221, 3) := by decide +kernel
theorem dX11_wearOf_6 : decode cX11_wearOf 6 = .ok (.ireturn, 1) := by decide +kernel
set_option maxHeartbeats 8000000 in
set_option maxRecDepth 100000 in
theorem mX11_wearOf (l : Launch) (G : gG) (da : Nat → Nat) (v : vSt) (x : gX) (r : Nat) (hk_r : kd r = 11) (p1 : Int32) (ho : oX11_wearOf r p1 v) : MI l yX11_wearOf cX11_wearOf 2 (some .int) rmX11_wearOf [.ref (ga G r), .int p1] G da v x 0 0 (fX11_wearOf r p1 v).1 (fX11_wearOf r p1 v).2 x := by
  refine gofMI (own := RX11) (by decide) rfl (Nat.le_of_ble_eq_true rfl) (fun p e s m args below meth c ls Q X hH hl E => ?_)
  have hx := X.1
  have hb := X.2.1
  have hown := X.2.2.2.1
  have hts := X.2.2.2.2.1
  have hS : va_S (gA G) s.heap s.heap [] := va_S.rf
  unfold oX11_wearOf at ho
  have hl : lv_has ls 2 [(0, .ref (ga G r)), (1, .int p1)] := hl
  refine lv_aload_n hx hb dX11_wearOf_0 rfl (lv_at hl 0 rfl) ?_
  refine lv_iload_n hx hb dX11_wearOf_1 rfl (lv_at hl 1 rfl) ?_
  refine lv_iconst (v := 2) hx hb dX11_wearOf_2 (by decide) ?_
  have hq1 := ho
  refine k_X11_toldOfTool X hS hH hk_r hq1 t_ml_VernierDrawersModel_221 hl.1 (Nat.le_of_ble_eq_true rfl) ⟨Nat.le_of_ble_eq_true rfl, Nat.le_of_ble_eq_true rfl⟩ ⟨Nat.zero_le _, Nat.zero_le _⟩ dX11_wearOf_3 (fun da H locs v2 ev2 hH hS => ?_)
  replace ev2 := Eq.symm ev2
  subst ev2
  exact E _ _ _ _ _ _ _ _ _ dX11_wearOf_6 rfl (pr1 rfl) (pr2 rfl) hH hS (Nat.zero_le _) (Nat.zero_le _)
theorem k_X11_wearOf {p : Program} {l : Launch} {e : Env} {R : Room} {s : State} {m : MethodId} {args : Array Value} {below : List Frame} {meth : Method} {c : Code} {H : Heap} {locs : List Loc} {cells slots : Nat} {Q : State → Prop} {cc : ByteArray} {pc nL : Nat} {ls : Array Slot} {rest : List Value} {G : gG} {own : String} {da : Nat → Nat} {v : vSt} {x : gX} (X : CX G p s m args c cc nL own) (hS : va_S (gA G) s.heap H locs) (hH : Hp G da v x H) {r : Nat} (hk_r : kd r = 11) {p1 : Int32} (ho : oX11_wearOf r p1 v) {idx : Nat} (hml : Cond.methodLink own idx yX11_wearOf ∈ TT) (hls : ls.size = nL) (hsum : (rest.map fun v => v.category).sum ≤ 8) (hR : rmX11_wearOf.frames + 1 ≤ R.frames ∧ 8 + (2 + 11) + rmX11_wearOf.locals ≤ R.locals) (hcs : cells ≤ R.cells ∧ slots ≤ R.slots) (hdg : decode cc pc = .ok (.invokevirtual idx, 3)) (kk : ∀ (d : Nat → Nat) (H1 : Heap) (locs1 : List Loc) (v1 : vSt), v1 = (fX11_wearOf r p1 v).2 → Hp G d v1 x H1 → va_S (gA G) s.heap H1 locs1 → W p l e R s m args below meth c H1 locs1 cells slots Q (F0 m (pc + 3) ls (.int (fX11_wearOf r p1 v).1 :: rest))) : W p l e R s m args below meth c H locs cells slots Q (F0 m pc ls (.int p1 :: .ref (ga G r) :: rest)) := c_mi X.2.2.2.2.2.2 (runV (k := 1) X.1 X.2.1 X.2.2.1 X.2.2.2.1 X.2.2.2.2.1 (mX11_wearOf l G da v x r hk_r p1 ho) pW_bl hml t_im_X11_wearOf t_sel_X11_wearOf t_ini_VernierDrawersModel t_code_X11_wearOf ⟨rfl, by decide, by decide, by decide +kernel⟩ rfl rfl hR hcs (recvW X hH (by rw [hk_r]; decide) (by rw [hk_r]; decide) (ce_11 hk_r) rfl) (preW X hS hH) rfl hls rfl hsum hdg) hS kk
def fX11_knownError (r : Nat) (p1 : Int32) (v : vSt) : Int32 × vSt := let v2 : vSt := (fX11_toldOfTool r p1 3 v).2; ((fX11_toldOfTool r p1 3 v).1, v2)
def oX11_knownError (r : Nat) (p1 : Int32) (v : vSt) : Prop := oX11_toldOfTool r p1 3 v
abbrev rmX11_knownError : Room := { frames := 3, cells := 0, slots := 0, locals := 65 }
theorem dX11_knownError_0 : decode cX11_knownError 0 = .ok (.aload_n 0, 1) := by decide +kernel
theorem dX11_knownError_1 : decode cX11_knownError 1 = .ok (.iload_n 1, 1) := by decide +kernel
theorem dX11_knownError_2 : decode cX11_knownError 2 = .ok (.iconst 3, 1) := by decide +kernel
theorem dX11_knownError_3 : decode cX11_knownError 3 = .ok (.invokevirtual 221, 3) := by decide +kernel
theorem dX11_knownError_6 : decode cX11_knownError 6 = .ok (.ireturn, 1) := by decide +kernel
set_option maxHeartbeats 8000000 in
set_option maxRecDepth 100000 in
theorem mX11_knownError (l : Launch) (G : gG) (da : Nat → Nat) (v : vSt) (x : gX) (r : Nat) (hk_r : kd r = 11) (p1 : Int32) (ho : oX11_knownError r p1 v) : MI l yX11_knownError cX11_knownError 2 (some .int) rmX11_knownError [.ref (ga G r), .int p1] G da v x 0 0 (fX11_knownError r p1 v).1 (fX11_knownError r p1 v).2 x := by
  refine gofMI (own := RX11) (by decide) rfl (Nat.le_of_ble_eq_true rfl) (fun p e s m args below meth c ls Q X hH hl E => ?_)
  have hx := X.1
  have hb := X.2.1
  have hown := X.2.2.2.1
  have hts := X.2.2.2.2.1
  have hS : va_S (gA G) s.heap s.heap [] := va_S.rf
  unfold oX11_knownError at ho
  have hl : lv_has ls 2 [(0, .ref (ga G r)), (1, .int p1)] := hl
  refine lv_aload_n hx hb dX11_knownError_0 rfl (lv_at hl 0 rfl) ?_
  refine lv_iload_n hx hb dX11_knownError_1 rfl (lv_at hl 1 rfl) ?_
  refine lv_iconst (v := 3) hx hb dX11_knownError_2 (by decide) ?_
  have hq1 := ho
  refine k_X11_toldOfTool X hS hH hk_r hq1 t_ml_VernierDrawersModel_221 hl.1 (Nat.le_of_ble_eq_true rfl) ⟨Nat.le_of_ble_eq_true rfl, Nat.le_of_ble_eq_true rfl⟩ ⟨Nat.zero_le _, Nat.zero_le _⟩ dX11_knownError_3 (fun da H locs v2 ev2 hH hS => ?_)
  replace ev2 := Eq.symm ev2
  subst ev2
  exact E _ _ _ _ _ _ _ _ _ dX11_knownError_6 rfl (pr1 rfl) (pr2 rfl) hH hS (Nat.zero_le _) (Nat.zero_le _)
theorem k_X11_knownError {p : Program} {l : Launch} {e : Env} {R : Room} {s : State} {m : MethodId} {args : Array Value} {below : List Frame} {meth : Method} {c : Code} {H : Heap} {locs : List Loc} {cells slots : Nat} {Q : State → Prop} {cc : ByteArray} {pc nL : Nat} {ls : Array Slot} {rest : List Value} {G : gG} {own : String} {da : Nat → Nat} {v : vSt} {x : gX} (X : CX G p s m args c cc nL own) (hS : va_S (gA G) s.heap H locs) (hH : Hp G da v x H) {r : Nat} (hk_r : kd r = 11) {p1 : Int32} (ho : oX11_knownError r p1 v) {idx : Nat} (hml : Cond.methodLink own idx yX11_knownError ∈ TT) (hls : ls.size = nL) (hsum : (rest.map fun v => v.category).sum ≤ 8) (hR : rmX11_knownError.frames + 1 ≤ R.frames ∧ 8 + (2 + 11) + rmX11_knownError.locals ≤ R.locals) (hcs : cells ≤ R.cells ∧ slots ≤ R.slots) (hdg : decode cc pc = .ok (.invokevirtual idx, 3)) (kk : ∀ (d : Nat → Nat) (H1 : Heap) (locs1 : List Loc) (v1 : vSt), v1 = (fX11_knownError r p1 v).2 → Hp G d v1 x H1 → va_S (gA G) s.heap H1 locs1 → W p l e R s m args below meth c H1 locs1 cells slots Q (F0 m (pc + 3) ls (.int (fX11_knownError r p1 v).1 :: rest))) : W p l e R s m args below meth c H locs cells slots Q (F0 m pc ls (.int p1 :: .ref (ga G r) :: rest)) := c_mi X.2.2.2.2.2.2 (runV (k := 1) X.1 X.2.1 X.2.2.1 X.2.2.2.1 X.2.2.2.2.1 (mX11_knownError l G da v x r hk_r p1 ho) pW_bl hml t_im_X11_knownError t_sel_X11_knownError t_ini_VernierDrawersModel t_code_X11_knownError ⟨rfl, by decide, by decide, by decide +kernel⟩ rfl rfl hR hcs (recvW X hH (by rw [hk_r]; decide) (by rw [hk_r]; decide) (ce_11 hk_r) rfl) (preW X hS hH) rfl hls rfl hsum hdg) hS kk
def fX11_isDue (r : Nat) (p1 : Int32) (v : vSt) : Int32 × vSt := let v3 : vSt := (fX11_asks r (fX11_isTool r p1 v) v).2; if (((fX11_asks r (fX11_isTool r p1 v) v).1) : Int32) = 0 then ((0, v3)) else (if ((fX11_due r p1 v3) : Int32) = 0 then ((0, v3)) else ((1, v3)))
def oX11_isDue (r : Nat) (p1 : Int32) (v : vSt) : Prop := (oX11_isTool r p1 v) ∧ ((oX11_asks r (fX11_isTool r p1 v) v) ∧ (∀ v3 : vSt, v3 = ((fX11_asks r (fX11_isTool r p1 v) v).2) → (¬ ((((fX11_asks r (fX11_isTool r p1 v) v).1) : Int32) = 0) → (oX11_due r p1 v3))))
abbrev rmX11_isDue : Room := { frames := 2, cells := 0, slots := 0, locals := 43 }
theorem dX11_isDue_0 : decode cX11_isDue 0 = .ok (.aload_n 0, 1) := by decide +kernel
theorem dX11_isDue_1 : decode cX11_isDue 1 = .ok (.aload_n 0, 1) := by decide +kernel
theorem dX11_isDue_2 : decode cX11_isDue 2 = .ok (.iload_n 1, 1) := by decide +kernel
theorem dX11_isDue_3 : decode cX11_isDue 3 = .ok (.invokevirtual 129, 3) := by decide +kernel
theorem dX11_isDue_6 : decode cX11_isDue 6 = .ok (.invokevirtual 214, 3) := by decide +kernel
theorem dX11_isDue_9 : decode cX11_isDue 9 = .ok (.ifCond .eq 15, 3) := by decide +kernel
theorem dX11_isDue_12 : decode cX11_isDue 12 = .ok (.aload_n 0, 1) := by decide +kernel
theorem dX11_isDue_13 : decode cX11_isDue 13 = .ok (.iload_n 1, 1) := by decide +kernel
theorem dX11_isDue_14 : decode cX11_isDue 14 = .ok (.invokevirtual 103, 3) := by decide +kernel
theorem dX11_isDue_17 : decode cX11_isDue 17 = .ok (.ifCond .eq 7, 3) := by decide +kernel
theorem dX11_isDue_20 : decode cX11_isDue 20 = .ok (.iconst 1, 1) := by decide +kernel
theorem dX11_isDue_21 : decode cX11_isDue 21 = .ok (.goto 4, 3) := by decide +kernel
theorem dX11_isDue_24 : decode cX11_isDue 24 = .ok (.iconst 0, 1) := by decide +kernel
theorem dX11_isDue_25 : decode cX11_isDue 25 = .ok (.ireturn, 1) := by decide +kernel
set_option maxHeartbeats 8000000 in
set_option maxRecDepth 100000 in
theorem mX11_isDue (l : Launch) (G : gG) (da : Nat → Nat) (v : vSt) (x : gX) (r : Nat) (hk_r : kd r = 11) (p1 : Int32) (ho : oX11_isDue r p1 v) : MI l yX11_isDue cX11_isDue 2 (some .boolean) rmX11_isDue [.ref (ga G r), .int p1] G da v x 0 0 (fX11_isDue r p1 v).1 (fX11_isDue r p1 v).2 x := by
  refine gofMI (own := RX11) (by decide) rfl (Nat.le_of_ble_eq_true rfl) (fun p e s m args below meth c ls Q X hH hl E => ?_)
  have hx := X.1
  have hb := X.2.1
  have hown := X.2.2.2.1
  have hts := X.2.2.2.2.1
  have hS : va_S (gA G) s.heap s.heap [] := va_S.rf
  unfold oX11_isDue at ho
  have hl : lv_has ls 2 [(0, .ref (ga G r)), (1, .int p1)] := hl
  refine lv_aload_n hx hb dX11_isDue_0 rfl (lv_at hl 0 rfl) ?_
  refine lv_aload_n hx hb dX11_isDue_1 rfl (lv_at hl 0 rfl) ?_
  refine lv_iload_n hx hb dX11_isDue_2 rfl (lv_at hl 1 rfl) ?_
  have hq1 := ho.1
  have ho := ho.2
  refine k_X11_isTool X hS hH hk_r hq1 t_ml_VernierDrawersModel_129 hl.1 (Nat.le_of_ble_eq_true rfl) ⟨Nat.le_of_ble_eq_true rfl, Nat.le_of_ble_eq_true rfl⟩ ⟨Nat.zero_le _, Nat.zero_le _⟩ dX11_isDue_3 ?_
  have hq2 := ho.1
  have ho := ho.2
  refine k_X11_asks X hS hH hk_r hq2 t_ml_VernierDrawersModel_214 hl.1 (Nat.le_of_ble_eq_true rfl) ⟨Nat.le_of_ble_eq_true rfl, Nat.le_of_ble_eq_true rfl⟩ ⟨Nat.zero_le _, Nat.zero_le _⟩ dX11_isDue_6 (fun da H locs v3 ev3 hH hS => ?_)
  have ho := ho v3 ev3
  refine lv_if_eq (tgt := 24) hx hb dX11_isDue_9 (by decide) (fun c4 => ?_) (fun c4 => ?_)
  · skip
    refine lv_iconst (v := 0) hx hb dX11_isDue_24 (by decide) ?_
    replace ev3 := Eq.symm ev3
    subst ev3
    exact E _ _ _ _ _ _ _ _ _ dX11_isDue_25 rfl (pr1 ((fX11_isDue.eq_1 _ _ _).trans ((if_pos c4).trans rfl))) (pr2 ((fX11_isDue.eq_1 _ _ _).trans ((if_pos c4).trans rfl))) hH hS (Nat.zero_le _) (Nat.zero_le _)
  · have ho := ho c4
    refine lv_aload_n hx hb dX11_isDue_12 rfl (lv_at hl 0 rfl) ?_
    refine lv_iload_n hx hb dX11_isDue_13 rfl (lv_at hl 1 rfl) ?_
    have hq5 := ho
    refine k_X11_due X hS hH hk_r hq5 t_ml_VernierDrawersModel_103 hl.1 (Nat.le_of_ble_eq_true rfl) ⟨Nat.le_of_ble_eq_true rfl, Nat.le_of_ble_eq_true rfl⟩ ⟨Nat.zero_le _, Nat.zero_le _⟩ dX11_isDue_14 ?_
    refine lv_if_eq (tgt := 24) hx hb dX11_isDue_17 (by decide) (fun c6 => ?_) (fun c6 => ?_)
    · skip
      refine lv_iconst (v := 0) hx hb dX11_isDue_24 (by decide) ?_
      replace ev3 := Eq.symm ev3
      subst ev3
      exact E _ _ _ _ _ _ _ _ _ dX11_isDue_25 rfl (pr1 ((fX11_isDue.eq_1 _ _ _).trans ((if_neg c4).trans ((if_pos c6).trans rfl)))) (pr2 ((fX11_isDue.eq_1 _ _ _).trans ((if_neg c4).trans ((if_pos c6).trans rfl)))) hH hS (Nat.zero_le _) (Nat.zero_le _)
    · skip
      refine lv_iconst (v := 1) hx hb dX11_isDue_20 (by decide) ?_
      refine lv_goto (tgt := 25) hx hb dX11_isDue_21 (by decide) ?_
      replace ev3 := Eq.symm ev3
      subst ev3
      exact E _ _ _ _ _ _ _ _ _ dX11_isDue_25 rfl (pr1 ((fX11_isDue.eq_1 _ _ _).trans ((if_neg c4).trans ((if_neg c6).trans rfl)))) (pr2 ((fX11_isDue.eq_1 _ _ _).trans ((if_neg c4).trans ((if_neg c6).trans rfl)))) hH hS (Nat.zero_le _) (Nat.zero_le _)
theorem k_X11_isDue {p : Program} {l : Launch} {e : Env} {R : Room} {s : State} {m : MethodId} {args : Array Value} {below : List Frame} {meth : Method} {c : Code} {H : Heap} {locs : List Loc} {cells slots : Nat} {Q : State → Prop} {cc : ByteArray} {pc nL : Nat} {ls : Array Slot} {rest : List Value} {G : gG} {own : String} {da : Nat → Nat} {v : vSt} {x : gX} (X : CX G p s m args c cc nL own) (hS : va_S (gA G) s.heap H locs) (hH : Hp G da v x H) {r : Nat} (hk_r : kd r = 11) {p1 : Int32} (ho : oX11_isDue r p1 v) {idx : Nat} (hml : Cond.methodLink own idx yX11_isDue ∈ TT) (hls : ls.size = nL) (hsum : (rest.map fun v => v.category).sum ≤ 8) (hR : rmX11_isDue.frames + 1 ≤ R.frames ∧ 8 + (2 + 11) + rmX11_isDue.locals ≤ R.locals) (hcs : cells ≤ R.cells ∧ slots ≤ R.slots) (hdg : decode cc pc = .ok (.invokevirtual idx, 3)) (kk : ∀ (d : Nat → Nat) (H1 : Heap) (locs1 : List Loc) (v1 : vSt), v1 = (fX11_isDue r p1 v).2 → Hp G d v1 x H1 → va_S (gA G) s.heap H1 locs1 → W p l e R s m args below meth c H1 locs1 cells slots Q (F0 m (pc + 3) ls (.int (fX11_isDue r p1 v).1 :: rest))) : W p l e R s m args below meth c H locs cells slots Q (F0 m pc ls (.int p1 :: .ref (ga G r) :: rest)) := c_mi X.2.2.2.2.2.2 (runV (k := 1) X.1 X.2.1 X.2.2.1 X.2.2.2.1 X.2.2.2.2.1 (mX11_isDue l G da v x r hk_r p1 ho) pW_bl hml t_im_X11_isDue t_sel_X11_isDue t_ini_VernierDrawersModel t_code_X11_isDue ⟨rfl, by decide, by decide, by decide +kernel⟩ rfl rfl hR hcs (recvW X hH (by rw [hk_r]; decide) (by rw [hk_r]; decide) (ce_11 hk_r) rfl) (preW X hS hH) rfl hls rfl hsum hdg) hS kk
def fX11_usesLeft (r : Nat) (p1 : Int32) (v : vSt) : Int32 × vSt := let v3 : vSt := (fX11_asks r (fX11_isTool r p1 v) v).2; if (((fX11_asks r (fX11_isTool r p1 v) v).1) : Int32) = 0 then ((0, v3)) else ((fX11_more 0 (30 - (fX11_tool r p1 6 v3)), v3))
def oX11_usesLeft (r : Nat) (p1 : Int32) (v : vSt) : Prop := (oX11_isTool r p1 v) ∧ ((oX11_asks r (fX11_isTool r p1 v) v) ∧ (∀ v3 : vSt, v3 = ((fX11_asks r (fX11_isTool r p1 v) v).2) → (¬ ((((fX11_asks r (fX11_isTool r p1 v) v).1) : Int32) = 0) → (oX11_tool r p1 6 v3))))
abbrev rmX11_usesLeft : Room := { frames := 2, cells := 0, slots := 0, locals := 43 }
theorem dX11_usesLeft_0 : decode cX11_usesLeft 0 = .ok (.aload_n 0, 1) := by decide +kernel
theorem dX11_usesLeft_1 : decode cX11_usesLeft 1 = .ok (.aload_n 0, 1) := by decide +kernel
theorem dX11_usesLeft_2 : decode cX11_usesLeft 2 = .ok (.iload_n 1, 1) := by decide +kernel
theorem dX11_usesLeft_3 : decode cX11_usesLeft 3 = .ok (.invokevirtual 129, 3) := by decide +kernel
theorem dX11_usesLeft_6 : decode cX11_usesLeft 6 = .ok (.invokevirtual 214, 3) := by decide +kernel
theorem dX11_usesLeft_9 : decode cX11_usesLeft 9 = .ok (.ifCond .eq 20, 3) := by decide +kernel
theorem dX11_usesLeft_12 : decode cX11_usesLeft 12 = .ok (.iconst 0, 1) := by decide +kernel
theorem dX11_usesLeft_13 : decode cX11_usesLeft 13 = .ok (.bipush 30, 2) := by decide +kernel
theorem dX11_usesLeft_15 : decode cX11_usesLeft 15 = .ok (.aload_n 0, 1) := by decide +kernel
theorem dX11_usesLeft_16 : decode cX11_usesLeft 16 = .ok (.iload_n 1, 1) := by decide +kernel
theorem dX11_usesLeft_17 : decode cX11_usesLeft 17 = .ok (.bipush 6, 2) := by decide +kernel
theorem dX11_usesLeft_19 : decode cX11_usesLeft 19 = .ok (.invokevirtual 54, 3) := by decide +kernel
theorem dX11_usesLeft_22 : decode cX11_usesLeft 22 = .ok (.isub, 1) := by decide +kernel
theorem dX11_usesLeft_23 : decode cX11_usesLeft 23 = .ok (.invokestatic 80, 3) := by decide +kernel
theorem dX11_usesLeft_26 : decode cX11_usesLeft 26 = .ok (.goto 4, 3) := by decide +kernel
theorem dX11_usesLeft_29 : decode cX11_usesLeft 29 = .ok (.iconst 0, 1) := by decide +kernel
theorem dX11_usesLeft_30 : decode cX11_usesLeft 30 = .ok (.ireturn, 1) := by decide +kernel
set_option maxHeartbeats 8000000 in
set_option maxRecDepth 100000 in
theorem mX11_usesLeft (l : Launch) (G : gG) (da : Nat → Nat) (v : vSt) (x : gX) (r : Nat) (hk_r : kd r = 11) (p1 : Int32) (ho : oX11_usesLeft r p1 v) : MI l yX11_usesLeft cX11_usesLeft 2 (some .int) rmX11_usesLeft [.ref (ga G r), .int p1] G da v x 0 0 (fX11_usesLeft r p1 v).1 (fX11_usesLeft r p1 v).2 x := by
  refine gofMI (own := RX11) (by decide) rfl (Nat.le_of_ble_eq_true rfl) (fun p e s m args below meth c ls Q X hH hl E => ?_)
  have hx := X.1
  have hb := X.2.1
  have hown := X.2.2.2.1
  have hts := X.2.2.2.2.1
  have hS : va_S (gA G) s.heap s.heap [] := va_S.rf
  unfold oX11_usesLeft at ho
  have hl : lv_has ls 2 [(0, .ref (ga G r)), (1, .int p1)] := hl
  refine lv_aload_n hx hb dX11_usesLeft_0 rfl (lv_at hl 0 rfl) ?_
  refine lv_aload_n hx hb dX11_usesLeft_1 rfl (lv_at hl 0 rfl) ?_
  refine lv_iload_n hx hb dX11_usesLeft_2 rfl (lv_at hl 1 rfl) ?_
  have hq1 := ho.1
  have ho := ho.2
  refine k_X11_isTool X hS hH hk_r hq1 t_ml_VernierDrawersModel_129 hl.1 (Nat.le_of_ble_eq_true rfl) ⟨Nat.le_of_ble_eq_true rfl, Nat.le_of_ble_eq_true rfl⟩ ⟨Nat.zero_le _, Nat.zero_le _⟩ dX11_usesLeft_3 ?_
  have hq2 := ho.1
  have ho := ho.2
  refine k_X11_asks X hS hH hk_r hq2 t_ml_VernierDrawersModel_214 hl.1 (Nat.le_of_ble_eq_true rfl) ⟨Nat.le_of_ble_eq_true rfl, Nat.le_of_ble_eq_true rfl⟩ ⟨Nat.zero_le _, Nat.zero_le _⟩ dX11_usesLeft_6 (fun da H locs v3 ev3 hH hS => ?_)
  have ho := ho v3 ev3
  refine lv_if_eq (tgt := 29) hx hb dX11_usesLeft_9 (by decide) (fun c4 => ?_) (fun c4 => ?_)
  · skip
    refine lv_iconst (v := 0) hx hb dX11_usesLeft_29 (by decide) ?_
    replace ev3 := Eq.symm ev3
    subst ev3
    exact E _ _ _ _ _ _ _ _ _ dX11_usesLeft_30 rfl (pr1 ((fX11_usesLeft.eq_1 _ _ _).trans ((if_pos c4).trans rfl))) (pr2 ((fX11_usesLeft.eq_1 _ _ _).trans ((if_pos c4).trans rfl))) hH hS (Nat.zero_le _) (Nat.zero_le _)
  · have ho := ho c4
    refine lv_iconst (v := 0) hx hb dX11_usesLeft_12 (by decide) ?_
    refine lv_bipush (v := 30) hx hb dX11_usesLeft_13 (by decide) ?_
    refine lv_aload_n hx hb dX11_usesLeft_15 rfl (lv_at hl 0 rfl) ?_
    refine lv_iload_n hx hb dX11_usesLeft_16 rfl (lv_at hl 1 rfl) ?_
    refine lv_bipush (v := 6) hx hb dX11_usesLeft_17 (by decide) ?_
    have hq5 := ho
    refine k_X11_tool X hS hH hk_r hq5 t_ml_VernierDrawersModel_54 hl.1 (Nat.le_of_ble_eq_true rfl) ⟨Nat.le_of_ble_eq_true rfl, Nat.le_of_ble_eq_true rfl⟩ ⟨Nat.zero_le _, Nat.zero_le _⟩ dX11_usesLeft_19 ?_
    refine lv_isub hx hb dX11_usesLeft_22 ?_
    refine k_X11_more X hS  t_ml_VernierDrawersModel_80 hl.1 (Nat.le_of_ble_eq_true rfl) ⟨Nat.le_of_ble_eq_true rfl, Nat.le_of_ble_eq_true rfl⟩ ⟨Nat.zero_le _, Nat.zero_le _⟩ dX11_usesLeft_23 ?_
    refine lv_goto (tgt := 30) hx hb dX11_usesLeft_26 (by decide) ?_
    replace ev3 := Eq.symm ev3
    subst ev3
    exact E _ _ _ _ _ _ _ _ _ dX11_usesLeft_30 rfl (pr1 ((fX11_usesLeft.eq_1 _ _ _).trans ((if_neg c4).trans rfl))) (pr2 ((fX11_usesLeft.eq_1 _ _ _).trans ((if_neg c4).trans rfl))) hH hS (Nat.zero_le _) (Nat.zero_le _)
theorem k_X11_usesLeft {p : Program} {l : Launch} {e : Env} {R : Room} {s : State} {m : MethodId} {args : Array Value} {below : List Frame} {meth : Method} {c : Code} {H : Heap} {locs : List Loc} {cells slots : Nat} {Q : State → Prop} {cc : ByteArray} {pc nL : Nat} {ls : Array Slot} {rest : List Value} {G : gG} {own : String} {da : Nat → Nat} {v : vSt} {x : gX} (X : CX G p s m args c cc nL own) (hS : va_S (gA G) s.heap H locs) (hH : Hp G da v x H) {r : Nat} (hk_r : kd r = 11) {p1 : Int32} (ho : oX11_usesLeft r p1 v) {idx : Nat} (hml : Cond.methodLink own idx yX11_usesLeft ∈ TT) (hls : ls.size = nL) (hsum : (rest.map fun v => v.category).sum ≤ 8) (hR : rmX11_usesLeft.frames + 1 ≤ R.frames ∧ 8 + (2 + 11) + rmX11_usesLeft.locals ≤ R.locals) (hcs : cells ≤ R.cells ∧ slots ≤ R.slots) (hdg : decode cc pc = .ok (.invokevirtual idx, 3)) (kk : ∀ (d : Nat → Nat) (H1 : Heap) (locs1 : List Loc) (v1 : vSt), v1 = (fX11_usesLeft r p1 v).2 → Hp G d v1 x H1 → va_S (gA G) s.heap H1 locs1 → W p l e R s m args below meth c H1 locs1 cells slots Q (F0 m (pc + 3) ls (.int (fX11_usesLeft r p1 v).1 :: rest))) : W p l e R s m args below meth c H locs cells slots Q (F0 m pc ls (.int p1 :: .ref (ga G r) :: rest)) := c_mi X.2.2.2.2.2.2 (runV (k := 1) X.1 X.2.1 X.2.2.1 X.2.2.2.1 X.2.2.2.2.1 (mX11_usesLeft l G da v x r hk_r p1 ho) pW_bl hml t_im_X11_usesLeft t_sel_X11_usesLeft t_ini_VernierDrawersModel t_code_X11_usesLeft ⟨rfl, by decide, by decide, by decide +kernel⟩ rfl rfl hR hcs (recvW X hH (by rw [hk_r]; decide) (by rw [hk_r]; decide) (ce_11 hk_r) rfl) (preW X hS hH) rfl hls rfl hsum hdg) hS kk
def fX11_warmth (r : Nat) (v : vSt) : Int32 × vSt := let v2 : vSt := (fX11_account r 208 v).2; ((fX11_account r 208 v).1, v2)
def oX11_warmth (r : Nat) (v : vSt) : Prop := oX11_account r 208 v
abbrev rmX11_warmth : Room := { frames := 1, cells := 0, slots := 0, locals := 21 }
theorem dX11_warmth_0 : decode cX11_warmth 0 = .ok (.aload_n 0, 1) := by decide +kernel
theorem dX11_warmth_1 : decode cX11_warmth 1 = .ok (.sipush 208, 3) := by decide +kernel
theorem dX11_warmth_4 : decode cX11_warmth 4 = .ok (.invokevirtual 218, 3) := by decide +kernel
theorem dX11_warmth_7 : decode cX11_warmth 7 = .ok (.ireturn, 1) := by decide +kernel
set_option maxHeartbeats 8000000 in
set_option maxRecDepth 100000 in
theorem mX11_warmth (l : Launch) (G : gG) (da : Nat → Nat) (v : vSt) (x : gX) (r : Nat) (hk_r : kd r = 11) (ho : oX11_warmth r v) : MI l yX11_warmth cX11_warmth 1 (some .int) rmX11_warmth [.ref (ga G r)] G da v x 0 0 (fX11_warmth r v).1 (fX11_warmth r v).2 x := by
  refine gofMI (own := RX11) (by decide) rfl (Nat.le_of_ble_eq_true rfl) (fun p e s m args below meth c ls Q X hH hl E => ?_)
  have hx := X.1
  have hb := X.2.1
  have hown := X.2.2.2.1
  have hts := X.2.2.2.2.1
  have hS : va_S (gA G) s.heap s.heap [] := va_S.rf
  unfold oX11_warmth at ho
  have hl : lv_has ls 1 [(0, .ref (ga G r))] := hl
  refine lv_aload_n hx hb dX11_warmth_0 rfl (lv_at hl 0 rfl) ?_
  refine lv_sipush (v := 208) hx hb dX11_warmth_1 (by decide) ?_
  have hq1 := ho
  refine k_X11_account X hS hH hk_r hq1 t_ml_VernierDrawersModel_218 hl.1 (Nat.le_of_ble_eq_true rfl) ⟨Nat.le_of_ble_eq_true rfl, Nat.le_of_ble_eq_true rfl⟩ ⟨Nat.zero_le _, Nat.zero_le _⟩ dX11_warmth_4 (fun da H locs v2 ev2 hH hS => ?_)
  replace ev2 := Eq.symm ev2
  subst ev2
  exact E _ _ _ _ _ _ _ _ _ dX11_warmth_7 rfl (pr1 rfl) (pr2 rfl) hH hS (Nat.zero_le _) (Nat.zero_le _)
theorem k_X11_warmth {p : Program} {l : Launch} {e : Env} {R : Room} {s : State} {m : MethodId} {args : Array Value} {below : List Frame} {meth : Method} {c : Code} {H : Heap} {locs : List Loc} {cells slots : Nat} {Q : State → Prop} {cc : ByteArray} {pc nL : Nat} {ls : Array Slot} {rest : List Value} {G : gG} {own : String} {da : Nat → Nat} {v : vSt} {x : gX} (X : CX G p s m args c cc nL own) (hS : va_S (gA G) s.heap H locs) (hH : Hp G da v x H) {r : Nat} (hk_r : kd r = 11) (ho : oX11_warmth r v) {idx : Nat} (hml : Cond.methodLink own idx yX11_warmth ∈ TT) (hls : ls.size = nL) (hsum : (rest.map fun v => v.category).sum ≤ 8) (hR : rmX11_warmth.frames + 1 ≤ R.frames ∧ 8 + (1 + 11) + rmX11_warmth.locals ≤ R.locals) (hcs : cells ≤ R.cells ∧ slots ≤ R.slots) (hdg : decode cc pc = .ok (.invokevirtual idx, 3)) (kk : ∀ (d : Nat → Nat) (H1 : Heap) (locs1 : List Loc) (v1 : vSt), v1 = (fX11_warmth r v).2 → Hp G d v1 x H1 → va_S (gA G) s.heap H1 locs1 → W p l e R s m args below meth c H1 locs1 cells slots Q (F0 m (pc + 3) ls (.int (fX11_warmth r v).1 :: rest))) : W p l e R s m args below meth c H locs cells slots Q (F0 m pc ls (.ref (ga G r) :: rest)) := c_mi X.2.2.2.2.2.2 (runV (k := 0) X.1 X.2.1 X.2.2.1 X.2.2.2.1 X.2.2.2.2.1 (mX11_warmth l G da v x r hk_r ho) pW_bl hml t_im_X11_warmth t_sel_X11_warmth t_ini_VernierDrawersModel t_code_X11_warmth ⟨rfl, by decide, by decide, by decide +kernel⟩ rfl rfl hR hcs (recvW X hH (by rw [hk_r]; decide) (by rw [hk_r]; decide) (ce_11 hk_r) rfl) (preW X hS hH) rfl hls rfl hsum hdg) hS kk
def fX11_stretchOf (r : Nat) (p1 : Int32) (p2 : Int32) (v : vSt) : Int32 × vSt := let y1 : Int32 := (if ((fX11_isMaterial p1) : Int32) = 0 then 0 else (if ((fX11_isLength p2) : Int32) = 0 then 0 else 1) : Int32); let v4 : vSt := (fX11_asks r y1 v).2; if (((fX11_asks r y1 v).1) : Int32) = 0 then ((0, v4)) else ((fX11_stretch r p1 p2 v4, v4))
def oX11_stretchOf (r : Nat) (p1 : Int32) (p2 : Int32) (v : vSt) : Prop := (∀ (y1 : Int32), y1 = ((if ((fX11_isMaterial p1) : Int32) = 0 then 0 else (if ((fX11_isLength p2) : Int32) = 0 then 0 else 1) : Int32) : Int32) → ((oX11_asks r y1 v) ∧ (∀ v4 : vSt, v4 = ((fX11_asks r y1 v).2) → (¬ ((((fX11_asks r y1 v).1) : Int32) = 0) → (oX11_stretch r p1 p2 v4)))))
abbrev rmX11_stretchOf : Room := { frames := 2, cells := 0, slots := 0, locals := 42 }
theorem dX11_stretchOf_0 : decode cX11_stretchOf 0 = .ok (.aload_n 0, 1) := by decide +kernel
theorem dX11_stretchOf_1 : decode cX11_stretchOf 1 = .ok (.iload_n 1, 1) := by decide +kernel
theorem dX11_stretchOf_2 : decode cX11_stretchOf 2 = .ok (.invokestatic 132, 3) := by decide +kernel
theorem dX11_stretchOf_5 : decode cX11_stretchOf 5 = .ok (.ifCond .eq 14, 3) := by decide +kernel
theorem dX11_stretchOf_8 : decode cX11_stretchOf 8 = .ok (.iload_n 2, 1) := by decide +kernel
theorem dX11_stretchOf_9 : decode cX11_stretchOf 9 = .ok (.invokestatic 135, 3) := by decide +kernel
theorem dX11_stretchOf_12 : decode cX11_stretchOf 12 = .ok (.ifCond .eq 7, 3) := by decide +kernel
theorem dX11_stretchOf_15 : decode cX11_stretchOf 15 = .ok (.iconst 1, 1) := by decide +kernel
theorem dX11_stretchOf_16 : decode cX11_stretchOf 16 = .ok (.goto 4, 3) := by decide +kernel
theorem dX11_stretchOf_19 : decode cX11_stretchOf 19 = .ok (.iconst 0, 1) := by decide +kernel
theorem dX11_stretchOf_20 : decode cX11_stretchOf 20 = .ok (.invokevirtual 214, 3) := by decide +kernel
theorem dX11_stretchOf_23 : decode cX11_stretchOf 23 = .ok (.ifCond .eq 12, 3) := by decide +kernel
theorem dX11_stretchOf_26 : decode cX11_stretchOf 26 = .ok (.aload_n 0, 1) := by decide +kernel
theorem dX11_stretchOf_27 : decode cX11_stretchOf 27 = .ok (.iload_n 1, 1) := by decide +kernel
theorem dX11_stretchOf_28 : decode cX11_stretchOf 28 = .ok (.iload_n 2, 1) := by decide +kernel
theorem dX11_stretchOf_29 : decode cX11_stretchOf 29 = .ok (.invokevirtual 58, 3) := by decide +kernel
theorem dX11_stretchOf_32 : decode cX11_stretchOf 32 = .ok (.goto 4, 3) := by decide +kernel
theorem dX11_stretchOf_35 : decode cX11_stretchOf 35 = .ok (.iconst 0, 1) := by decide +kernel
theorem dX11_stretchOf_36 : decode cX11_stretchOf 36 = .ok (.ireturn, 1) := by decide +kernel
set_option maxHeartbeats 8000000 in
set_option maxRecDepth 100000 in
theorem mX11_stretchOf (l : Launch) (G : gG) (da : Nat → Nat) (v : vSt) (x : gX) (r : Nat) (hk_r : kd r = 11) (p1 : Int32) (p2 : Int32) (ho : oX11_stretchOf r p1 p2 v) : MI l yX11_stretchOf cX11_stretchOf 3 (some .int) rmX11_stretchOf [.ref (ga G r), .int p1, .int p2] G da v x 0 0 (fX11_stretchOf r p1 p2 v).1 (fX11_stretchOf r p1 p2 v).2 x := by
  refine gofMI (own := RX11) (by decide) rfl (Nat.le_of_ble_eq_true rfl) (fun p e s m args below meth c ls Q X hH hl E => ?_)
  have hx := X.1
  have hb := X.2.1
  have hown := X.2.2.2.1
  have hts := X.2.2.2.2.1
  have hS : va_S (gA G) s.heap s.heap [] := va_S.rf
  unfold oX11_stretchOf at ho
  have hl : lv_has ls 3 [(0, .ref (ga G r)), (1, .int p1), (2, .int p2)] := hl
  refine lv_aload_n hx hb dX11_stretchOf_0 rfl (lv_at hl 0 rfl) ?_
  refine lv_iload_n hx hb dX11_stretchOf_1 rfl (lv_at hl 1 rfl) ?_
  refine k_X11_isMaterial X hS  t_ml_VernierDrawersModel_132 hl.1 (Nat.le_of_ble_eq_true rfl) ⟨Nat.le_of_ble_eq_true rfl, Nat.le_of_ble_eq_true rfl⟩ ⟨Nat.zero_le _, Nat.zero_le _⟩ dX11_stretchOf_2 ?_
  have K2 : ∀ (y1 : Int32) (ls : Array Slot), y1 = (if ((fX11_isMaterial p1) : Int32) = 0 then 0 else (if ((fX11_isLength p2) : Int32) = 0 then 0 else 1) : Int32) → lv_has ls 3 [(0, .ref (ga G r)), (1, .int p1), (2, .int p2)] → W p l e rmX11_stretchOf s m args below meth c s.heap [] 0 0 Q (F0 m 20 ls [.int y1, .ref (ga G r)]) := by
    intro y1 ls ey1 hl
    have ho := ho y1 ey1
    have hq3 := ho.1
    have ho := ho.2
    refine k_X11_asks X hS hH hk_r hq3 t_ml_VernierDrawersModel_214 hl.1 (Nat.le_of_ble_eq_true rfl) ⟨Nat.le_of_ble_eq_true rfl, Nat.le_of_ble_eq_true rfl⟩ ⟨Nat.zero_le _, Nat.zero_le _⟩ dX11_stretchOf_20 (fun da H locs v4 ev4 hH hS => ?_)
    have ho := ho v4 ev4
    refine lv_if_eq (tgt := 35) hx hb dX11_stretchOf_23 (by decide) (fun c5 => ?_) (fun c5 => ?_)
    · skip
      refine lv_iconst (v := 0) hx hb dX11_stretchOf_35 (by decide) ?_
      replace ey1 := Eq.symm ey1
      replace ev4 := Eq.symm ev4
      subst ey1 ev4
      exact E _ _ _ _ _ _ _ _ _ dX11_stretchOf_36 rfl (pr1 ((fX11_stretchOf.eq_1 _ _ _ _).trans ((if_pos c5).trans rfl))) (pr2 ((fX11_stretchOf.eq_1 _ _ _ _).trans ((if_pos c5).trans rfl))) hH hS (Nat.zero_le _) (Nat.zero_le _)
    · have ho := ho c5
      refine lv_aload_n hx hb dX11_stretchOf_26 rfl (lv_at hl 0 rfl) ?_
      refine lv_iload_n hx hb dX11_stretchOf_27 rfl (lv_at hl 1 rfl) ?_
      refine lv_iload_n hx hb dX11_stretchOf_28 rfl (lv_at hl 2 rfl) ?_
      have hq6 := ho
      refine k_X11_stretch X hS hH hk_r hq6 t_ml_VernierDrawersModel_58 hl.1 (Nat.le_of_ble_eq_true rfl) ⟨Nat.le_of_ble_eq_true rfl, Nat.le_of_ble_eq_true rfl⟩ ⟨Nat.zero_le _, Nat.zero_le _⟩ dX11_stretchOf_29 ?_
      refine lv_goto (tgt := 36) hx hb dX11_stretchOf_32 (by decide) ?_
      replace ey1 := Eq.symm ey1
      replace ev4 := Eq.symm ev4
      subst ey1 ev4
      exact E _ _ _ _ _ _ _ _ _ dX11_stretchOf_36 rfl (pr1 ((fX11_stretchOf.eq_1 _ _ _ _).trans ((if_neg c5).trans rfl))) (pr2 ((fX11_stretchOf.eq_1 _ _ _ _).trans ((if_neg c5).trans rfl))) hH hS (Nat.zero_le _) (Nat.zero_le _)
  refine lv_if_eq (tgt := 19) hx hb dX11_stretchOf_5 (by decide) (fun c2 => ?_) (fun c2 => ?_)
  · skip
    refine lv_iconst (v := 0) hx hb dX11_stretchOf_19 (by decide) ?_
    exact K2 _ _ (Eq.symm ((if_pos c2).trans rfl)) (lv_sub hl [0, 1, 2] rfl)
  · skip
    refine lv_iload_n hx hb dX11_stretchOf_8 rfl (lv_at hl 2 rfl) ?_
    refine k_X11_isLength X hS  t_ml_VernierDrawersModel_135 hl.1 (Nat.le_of_ble_eq_true rfl) ⟨Nat.le_of_ble_eq_true rfl, Nat.le_of_ble_eq_true rfl⟩ ⟨Nat.zero_le _, Nat.zero_le _⟩ dX11_stretchOf_9 ?_
    refine lv_if_eq (tgt := 19) hx hb dX11_stretchOf_12 (by decide) (fun c3 => ?_) (fun c3 => ?_)
    · skip
      refine lv_iconst (v := 0) hx hb dX11_stretchOf_19 (by decide) ?_
      exact K2 _ _ (Eq.symm ((if_neg c2).trans ((if_pos c3).trans rfl))) (lv_sub hl [0, 1, 2] rfl)
    · skip
      refine lv_iconst (v := 1) hx hb dX11_stretchOf_15 (by decide) ?_
      refine lv_goto (tgt := 20) hx hb dX11_stretchOf_16 (by decide) ?_
      exact K2 _ _ (Eq.symm ((if_neg c2).trans ((if_neg c3).trans rfl))) (lv_sub hl [0, 1, 2] rfl)
theorem k_X11_stretchOf {p : Program} {l : Launch} {e : Env} {R : Room} {s : State} {m : MethodId} {args : Array Value} {below : List Frame} {meth : Method} {c : Code} {H : Heap} {locs : List Loc} {cells slots : Nat} {Q : State → Prop} {cc : ByteArray} {pc nL : Nat} {ls : Array Slot} {rest : List Value} {G : gG} {own : String} {da : Nat → Nat} {v : vSt} {x : gX} (X : CX G p s m args c cc nL own) (hS : va_S (gA G) s.heap H locs) (hH : Hp G da v x H) {r : Nat} (hk_r : kd r = 11) {p1 : Int32} {p2 : Int32} (ho : oX11_stretchOf r p1 p2 v) {idx : Nat} (hml : Cond.methodLink own idx yX11_stretchOf ∈ TT) (hls : ls.size = nL) (hsum : (rest.map fun v => v.category).sum ≤ 8) (hR : rmX11_stretchOf.frames + 1 ≤ R.frames ∧ 8 + (3 + 11) + rmX11_stretchOf.locals ≤ R.locals) (hcs : cells ≤ R.cells ∧ slots ≤ R.slots) (hdg : decode cc pc = .ok (.invokevirtual idx, 3)) (kk : ∀ (d : Nat → Nat) (H1 : Heap) (locs1 : List Loc) (v1 : vSt), v1 = (fX11_stretchOf r p1 p2 v).2 → Hp G d v1 x H1 → va_S (gA G) s.heap H1 locs1 → W p l e R s m args below meth c H1 locs1 cells slots Q (F0 m (pc + 3) ls (.int (fX11_stretchOf r p1 p2 v).1 :: rest))) : W p l e R s m args below meth c H locs cells slots Q (F0 m pc ls (.int p2 :: .int p1 :: .ref (ga G r) :: rest)) := c_mi X.2.2.2.2.2.2 (runV (k := 2) X.1 X.2.1 X.2.2.1 X.2.2.2.1 X.2.2.2.2.1 (mX11_stretchOf l G da v x r hk_r p1 p2 ho) pW_bl hml t_im_X11_stretchOf t_sel_X11_stretchOf t_ini_VernierDrawersModel t_code_X11_stretchOf ⟨rfl, by decide, by decide, by decide +kernel⟩ rfl rfl hR hcs (recvW X hH (by rw [hk_r]; decide) (by rw [hk_r]; decide) (ce_11 hk_r) rfl) (preW X hS hH) rfl hls rfl hsum hdg) hS kk
