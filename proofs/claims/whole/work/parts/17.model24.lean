/-! 17.model -/
def fX11_middleOf (r : Nat) (p1 : Int32) (v : vSt) : Int32 × vSt := let v2 : vSt := (fX11_asksChart r p1 0 v).2; if (((fX11_asksChart r p1 0 v).1) : Int32) = 0 then ((0, v2)) else ((fX11_middle r p1 v2, v2))
def oX11_middleOf (r : Nat) (p1 : Int32) (v : vSt) : Prop := (oX11_asksChart r p1 0 v) ∧ (∀ v2 : vSt, v2 = ((fX11_asksChart r p1 0 v).2) → (¬ ((((fX11_asksChart r p1 0 v).1) : Int32) = 0) → (oX11_middle r p1 v2)))
abbrev rmX11_middleOf : Room := { frames := 4, cells := 0, slots := 0, locals := 92 }
theorem dX11_middleOf_0 : decode cX11_middleOf 0 = .ok (.aload_n 0, 1) := by decide +kernel
theorem dX11_middleOf_1 : decode cX11_middleOf 1 = .ok (.iload_n 1, 1) := by decide +kernel
theorem dX11_middleOf_2 : decode cX11_middleOf 2 = .ok (.iconst 0, 1) := by decide +kernel
theorem dX11_middleOf_3 : decode cX11_middleOf 3 = .ok (.invokevirtual 242, 3) := by decide +kernel
theorem dX11_middleOf_6 : decode cX11_middleOf 6 = .ok (.ifCond .eq 11, 3) := by decide +kernel
theorem dX11_middleOf_9 : decode cX11_middleOf 9 = .ok (.aload_n 0, 1) := by decide +kernel
theorem dX11_middleOf_10 : decode cX11_middleOf 10 = .ok (.iload_n 1, 1) := by decide +kernel
theorem dX11_middleOf_11 : decode cX11_middleOf 11 = .ok (.invokevirtual 207, 3) := by decide +kernel
theorem dX11_middleOf_14 : decode cX11_middleOf 14 = .ok (.goto 4, 3) := by decide +kernel
theorem dX11_middleOf_17 : decode cX11_middleOf 17 = .ok (.iconst 0, 1) := by decide +kernel
theorem dX11_middleOf_18 : decode cX11_middleOf 18 = .ok (.ireturn, 1) := by decide +kernel
set_option maxHeartbeats 8000000 in
set_option maxRecDepth 100000 in
theorem mX11_middleOf (l : Launch) (G : gG) (da : Nat → Nat) (v : vSt) (x : gX) (r : Nat) (hk_r : kd r = 11) (p1 : Int32) (ho : oX11_middleOf r p1 v) : MI l yX11_middleOf cX11_middleOf 2 (some .int) rmX11_middleOf [.ref (ga G r), .int p1] G da v x 0 0 (fX11_middleOf r p1 v).1 (fX11_middleOf r p1 v).2 x := by
  refine gofMI (own := RX11) (by decide) rfl (Nat.le_of_ble_eq_true rfl) (fun p e s m args below meth c ls Q X hH hl E => ?_)
  have hx := X.1
  have hb := X.2.1
  have hown := X.2.2.2.1
  have hts := X.2.2.2.2.1
  have hS : va_S (gA G) s.heap s.heap [] := va_S.rf
  unfold oX11_middleOf at ho
  have hl : lv_has ls 2 [(0, .ref (ga G r)), (1, .int p1)] := hl
  refine lv_aload_n hx hb dX11_middleOf_0 rfl (lv_at hl 0 rfl) ?_
  refine lv_iload_n hx hb dX11_middleOf_1 rfl (lv_at hl 1 rfl) ?_
  refine lv_iconst (v := 0) hx hb dX11_middleOf_2 (by decide) ?_
  have hq1 := ho.1
  have ho := ho.2
  refine k_X11_asksChart X hS hH hk_r hq1 t_ml_VernierDrawersModel_242 hl.1 (Nat.le_of_ble_eq_true rfl) ⟨Nat.le_of_ble_eq_true rfl, Nat.le_of_ble_eq_true rfl⟩ ⟨Nat.zero_le _, Nat.zero_le _⟩ dX11_middleOf_3 (fun da H locs v2 ev2 hH hS => ?_)
  have ho := ho v2 ev2
  refine lv_if_eq (tgt := 17) hx hb dX11_middleOf_6 (by decide) (fun c3 => ?_) (fun c3 => ?_)
  · skip
    refine lv_iconst (v := 0) hx hb dX11_middleOf_17 (by decide) ?_
    replace ev2 := Eq.symm ev2
    subst ev2
    exact E _ _ _ _ _ _ _ _ _ dX11_middleOf_18 rfl (pr1 ((fX11_middleOf.eq_1 _ _ _).trans ((if_pos c3).trans rfl))) (pr2 ((fX11_middleOf.eq_1 _ _ _).trans ((if_pos c3).trans rfl))) hH hS (Nat.zero_le _) (Nat.zero_le _)
  · have ho := ho c3
    refine lv_aload_n hx hb dX11_middleOf_9 rfl (lv_at hl 0 rfl) ?_
    refine lv_iload_n hx hb dX11_middleOf_10 rfl (lv_at hl 1 rfl) ?_
    have hq4 := ho
    refine k_X11_middle X hS hH hk_r hq4 t_ml_VernierDrawersModel_207 hl.1 (Nat.le_of_ble_eq_true rfl) ⟨Nat.le_of_ble_eq_true rfl, Nat.le_of_ble_eq_true rfl⟩ ⟨Nat.zero_le _, Nat.zero_le _⟩ dX11_middleOf_11 ?_
    refine lv_goto (tgt := 18) hx hb dX11_middleOf_14 (by decide) ?_
    replace ev2 := Eq.symm ev2
    subst ev2
    exact E _ _ _ _ _ _ _ _ _ dX11_middleOf_18 rfl (pr1 ((fX11_middleOf.eq_1 _ _ _).trans ((if_neg c3).trans rfl))) (pr2 ((fX11_middleOf.eq_1 _ _ _).trans ((if_neg c3).trans rfl))) hH hS (Nat.zero_le _) (Nat.zero_le _)
theorem k_X11_middleOf {p : Program} {l : Launch} {e : Env} {R : Room} {s : State} {m : MethodId} {args : Array Value} {below : List Frame} {meth : Method} {c : Code} {H : Heap} {locs : List Loc} {cells slots : Nat} {Q : State → Prop} {cc : ByteArray} {pc nL : Nat} {ls : Array Slot} {rest : List Value} {G : gG} {own : String} {da : Nat → Nat} {v : vSt} {x : gX} (X : CX G p s m args c cc nL own) (hS : va_S (gA G) s.heap H locs) (hH : Hp G da v x H) {r : Nat} (hk_r : kd r = 11) {p1 : Int32} (ho : oX11_middleOf r p1 v) {idx : Nat} (hml : Cond.methodLink own idx yX11_middleOf ∈ TT) (hls : ls.size = nL) (hsum : (rest.map fun v => v.category).sum ≤ 8) (hR : rmX11_middleOf.frames + 1 ≤ R.frames ∧ 8 + (2 + 11) + rmX11_middleOf.locals ≤ R.locals) (hcs : cells ≤ R.cells ∧ slots ≤ R.slots) (hdg : decode cc pc = .ok (.invokevirtual idx, 3)) (kk : ∀ (d : Nat → Nat) (H1 : Heap) (locs1 : List Loc) (v1 : vSt), v1 = (fX11_middleOf r p1 v).2 → Hp G d v1 x H1 → va_S (gA G) s.heap H1 locs1 → W p l e R s m args below meth c H1 locs1 cells slots Q (F0 m (pc + 3) ls (.int (fX11_middleOf r p1 v).1 :: rest))) : W p l e R s m args below meth c H locs cells slots Q (F0 m pc ls (.int p1 :: .ref (ga G r) :: rest)) := c_mi X.2.2.2.2.2.2 (runV (k := 1) X.1 X.2.1 X.2.2.1 X.2.2.2.1 X.2.2.2.2.1 (mX11_middleOf l G da v x r hk_r p1 ho) pW_bl hml t_im_X11_middleOf t_sel_X11_middleOf t_ini_VernierDrawersModel t_code_X11_middleOf ⟨rfl, by decide, by decide, by decide +kernel⟩ rfl rfl hR hcs (recvW X hH (by rw [hk_r]; decide) (by rw [hk_r]; decide) (ce_11 hk_r) rfl) (preW X hS hH) rfl hls rfl hsum hdg) hS kk
def fX11_middleByTaking (r : Nat) (p1 : Int32) (v : vSt) : Int32 × vSt := let v2 : vSt := (fX11_asksChart r p1 0 v).2; if (((fX11_asksChart r p1 0 v).1) : Int32) = 0 then ((0, v2)) else ((fX11_middle r p1 v2, v2))
def oX11_middleByTaking (r : Nat) (p1 : Int32) (v : vSt) : Prop := (oX11_asksChart r p1 0 v) ∧ (∀ v2 : vSt, v2 = ((fX11_asksChart r p1 0 v).2) → (¬ ((((fX11_asksChart r p1 0 v).1) : Int32) = 0) → (oX11_middle r p1 v2)))
abbrev rmX11_middleByTaking : Room := { frames := 4, cells := 0, slots := 0, locals := 92 }
theorem dX11_middleByTaking_0 : decode cX11_middleByTaking 0 = .ok (.aload_n 0, 1) := by decide +kernel
theorem dX11_middleByTaking_1 : decode cX11_middleByTaking 1 = .ok (.iload_n 1, 1) := by decide +kernel
theorem dX11_middleByTaking_2 : decode cX11_middleByTaking 2 = .ok (.iconst 0, 1) := by decide +kernel
theorem dX11_middleByTaking_3 : decode cX11_middleByTaking 3 = .ok (.invokevirtual 242, 3) := by decide +kernel
theorem dX11_middleByTaking_6 : decode cX11_middleByTaking 6 = .ok (.ifCond .eq 11, 3) := by decide +kernel
theorem dX11_middleByTaking_9 : decode cX11_middleByTaking 9 = .ok (.aload_n 0, 1) := by decide +kernel
theorem dX11_middleByTaking_10 : decode cX11_middleByTaking 10 = .ok (.iload_n 1, 1) := by decide +kernel
theorem dX11_middleByTaking_11 : decode cX11_middleByTaking 11 = .ok (.invokevirtual 207, 3) := by decide +kernel
theorem dX11_middleByTaking_14 : decode cX11_middleByTaking 14 = .ok (.goto 4, 3) := by decide +kernel
theorem dX11_middleByTaking_17 : decode cX11_middleByTaking 17 = .ok (.iconst 0, 1) := by decide +kernel
theorem dX11_middleByTaking_18 : decode cX11_middleByTaking 18 = .ok (.ireturn, 1) := by decide +kernel
set_option maxHeartbeats 8000000 in
set_option maxRecDepth 100000 in
theorem mX11_middleByTaking (l : Launch) (G : gG) (da : Nat → Nat) (v : vSt) (x : gX) (r : Nat) (hk_r : kd r = 11) (p1 : Int32) (ho : oX11_middleByTaking r p1 v) : MI l yX11_middleByTaking cX11_middleByTaking 2 (some .int) rmX11_middleByTaking [.ref (ga G r), .int p1] G da v x 0 0 (fX11_middleByTaking r p1 v).1 (fX11_middleByTaking r p1 v).2 x := by
  refine gofMI (own := RX11) (by decide) rfl (Nat.le_of_ble_eq_true rfl) (fun p e s m args below meth c ls Q X hH hl E => ?_)
  have hx := X.1
  have hb := X.2.1
  have hown := X.2.2.2.1
  have hts := X.2.2.2.2.1
  have hS : va_S (gA G) s.heap s.heap [] := va_S.rf
  unfold oX11_middleByTaking at ho
  have hl : lv_has ls 2 [(0, .ref (ga G r)), (1, .int p1)] := hl
  refine lv_aload_n hx hb dX11_middleByTaking_0 rfl (lv_at hl 0 rfl) ?_
  refine lv_iload_n hx hb dX11_middleByTaking_1 rfl (lv_at hl 1 rfl) ?_
  refine lv_iconst (v := 0) hx hb dX11_middleByTaking_2 (by decide) ?_
  have hq1 := ho.1
  have ho := ho.2
  refine k_X11_asksChart X hS hH hk_r hq1 t_ml_VernierDrawersModel_242 hl.1 (Nat.le_of_ble_eq_true rfl) ⟨Nat.le_of_ble_eq_true rfl, Nat.le_of_ble_eq_true rfl⟩ ⟨Nat.zero_le _, Nat.zero_le _⟩ dX11_middleByTaking_3 (fun da H locs v2 ev2 hH hS => ?_)
  have ho := ho v2 ev2
  refine lv_if_eq (tgt := 17) hx hb dX11_middleByTaking_6 (by decide) (fun c3 => ?_) (fun c3 => ?_)
  · skip
    refine lv_iconst (v := 0) hx hb dX11_middleByTaking_17 (by decide) ?_
    replace ev2 := Eq.symm ev2
    subst ev2
    exact E _ _ _ _ _ _ _ _ _ dX11_middleByTaking_18 rfl (pr1 ((fX11_middleByTaking.eq_1 _ _ _).trans ((if_pos c3).trans rfl))) (pr2 ((fX11_middleByTaking.eq_1 _ _ _).trans ((if_pos c3).trans rfl))) hH hS (Nat.zero_le _) (Nat.zero_le _)
  · have ho := ho c3
    refine lv_aload_n hx hb dX11_middleByTaking_9 rfl (lv_at hl 0 rfl) ?_
    refine lv_iload_n hx hb dX11_middleByTaking_10 rfl (lv_at hl 1 rfl) ?_
    have hq4 := ho
    refine k_X11_middle X hS hH hk_r hq4 t_ml_VernierDrawersModel_207 hl.1 (Nat.le_of_ble_eq_true rfl) ⟨Nat.le_of_ble_eq_true rfl, Nat.le_of_ble_eq_true rfl⟩ ⟨Nat.zero_le _, Nat.zero_le _⟩ dX11_middleByTaking_11 ?_
    refine lv_goto (tgt := 18) hx hb dX11_middleByTaking_14 (by decide) ?_
    replace ev2 := Eq.symm ev2
    subst ev2
    exact E _ _ _ _ _ _ _ _ _ dX11_middleByTaking_18 rfl (pr1 ((fX11_middleByTaking.eq_1 _ _ _).trans ((if_neg c3).trans rfl))) (pr2 ((fX11_middleByTaking.eq_1 _ _ _).trans ((if_neg c3).trans rfl))) hH hS (Nat.zero_le _) (Nat.zero_le _)
theorem k_X11_middleByTaking {p : Program} {l : Launch} {e : Env} {R : Room} {s : State} {m : MethodId} {args : Array Value} {below : List Frame} {meth : Method} {c : Code} {H : Heap} {locs : List Loc} {cells slots : Nat} {Q : State → Prop} {cc : ByteArray} {pc nL : Nat} {ls : Array Slot} {rest : List Value} {G : gG} {own : String} {da : Nat → Nat} {v : vSt} {x : gX} (X : CX G p s m args c cc nL own) (hS : va_S (gA G) s.heap H locs) (hH : Hp G da v x H) {r : Nat} (hk_r : kd r = 11) {p1 : Int32} (ho : oX11_middleByTaking r p1 v) {idx : Nat} (hml : Cond.methodLink own idx yX11_middleByTaking ∈ TT) (hls : ls.size = nL) (hsum : (rest.map fun v => v.category).sum ≤ 8) (hR : rmX11_middleByTaking.frames + 1 ≤ R.frames ∧ 8 + (2 + 11) + rmX11_middleByTaking.locals ≤ R.locals) (hcs : cells ≤ R.cells ∧ slots ≤ R.slots) (hdg : decode cc pc = .ok (.invokevirtual idx, 3)) (kk : ∀ (d : Nat → Nat) (H1 : Heap) (locs1 : List Loc) (v1 : vSt), v1 = (fX11_middleByTaking r p1 v).2 → Hp G d v1 x H1 → va_S (gA G) s.heap H1 locs1 → W p l e R s m args below meth c H1 locs1 cells slots Q (F0 m (pc + 3) ls (.int (fX11_middleByTaking r p1 v).1 :: rest))) : W p l e R s m args below meth c H locs cells slots Q (F0 m pc ls (.int p1 :: .ref (ga G r) :: rest)) := c_mi X.2.2.2.2.2.2 (runV (k := 1) X.1 X.2.1 X.2.2.1 X.2.2.2.1 X.2.2.2.2.1 (mX11_middleByTaking l G da v x r hk_r p1 ho) pW_bl hml t_im_X11_middleByTaking t_sel_X11_middleByTaking t_ini_VernierDrawersModel t_code_X11_middleByTaking ⟨rfl, by decide, by decide, by decide +kernel⟩ rfl rfl hR hcs (recvW X hH (by rw [hk_r]; decide) (by rw [hk_r]; decide) (ce_11 hk_r) rfl) (preW X hS hH) rfl hls rfl hsum hdg) hS kk
def fX11_spreadOf (r : Nat) (p1 : Int32) (v : vSt) : Int32 × vSt := let v2 : vSt := (fX11_asksChart r p1 0 v).2; if (((fX11_asksChart r p1 0 v).1) : Int32) = 0 then ((0, v2)) else (((fX11_inOrder r p1 ((fX11_of r p1 8 v2) - 1) v2) - (fX11_inOrder r p1 0 v2), v2))
def oX11_spreadOf (r : Nat) (p1 : Int32) (v : vSt) : Prop := (oX11_asksChart r p1 0 v) ∧ (∀ v2 : vSt, v2 = ((fX11_asksChart r p1 0 v).2) → (¬ ((((fX11_asksChart r p1 0 v).1) : Int32) = 0) → ((oX11_of r p1 8 v2) ∧ ((oX11_inOrder r p1 ((fX11_of r p1 8 v2) - 1) v2) ∧ (oX11_inOrder r p1 0 v2)))))
abbrev rmX11_spreadOf : Room := { frames := 3, cells := 0, slots := 0, locals := 71 }
theorem dX11_spreadOf_0 : decode cX11_spreadOf 0 = .ok (.aload_n 0, 1) := by decide +kernel
theorem dX11_spreadOf_1 : decode cX11_spreadOf 1 = .ok (.iload_n 1, 1) := by decide +kernel
theorem dX11_spreadOf_2 : decode cX11_spreadOf 2 = .ok (.iconst 0, 1) := by decide +kernel
theorem dX11_spreadOf_3 : decode cX11_spreadOf 3 = .ok (.invokevirtual 242, 3) := by decide +kernel
theorem dX11_spreadOf_6 : decode cX11_spreadOf 6 = .ok (.ifCond .eq 27, 3) := by decide +kernel
theorem dX11_spreadOf_9 : decode cX11_spreadOf 9 = .ok (.aload_n 0, 1) := by decide +kernel
theorem dX11_spreadOf_10 : decode cX11_spreadOf 10 = .ok (.iload_n 1, 1) := by decide +kernel
theorem dX11_spreadOf_11 : decode cX11_spreadOf 11 = .ok (.aload_n 0, 1) := by decide +kernel
theorem dX11_spreadOf_12 : decode cX11_spreadOf 12 = .ok (.iload_n 1, 1) := by decide +kernel
theorem dX11_spreadOf_13 : decode cX11_spreadOf 13 = .ok (.bipush 8, 2) := by decide +kernel
theorem dX11_spreadOf_15 : decode cX11_spreadOf 15 = .ok (.invokevirtual 90, 3) := by decide +kernel
theorem dX11_spreadOf_18 : decode cX11_spreadOf 18 = .ok (.iconst 1, 1) := by decide +kernel
theorem dX11_spreadOf_19 : decode cX11_spreadOf 19 = .ok (.isub, 1) := by decide +kernel
theorem dX11_spreadOf_20 : decode cX11_spreadOf 20 = .ok (.invokevirtual 126, 3) := by decide +kernel
theorem dX11_spreadOf_23 : decode cX11_spreadOf 23 = .ok (.aload_n 0, 1) := by decide +kernel
theorem dX11_spreadOf_24 : decode cX11_spreadOf 24 = .ok (.iload_n 1, 1) := by decide +kernel
theorem dX11_spreadOf_25 : decode cX11_spreadOf 25 = .ok (.iconst 0, 1) := by decide +kernel
theorem dX11_spreadOf_26 : decode cX11_spreadOf 26 = .ok (.invokevirtual 126, 3) := by decide +kernel
theorem dX11_spreadOf_29 : decode cX11_spreadOf 29 = .ok (.isub, 1) := by decide +kernel
theorem dX11_spreadOf_30 : decode cX11_spreadOf 30 = .ok (.goto 4, 3) := by decide +kernel
theorem dX11_spreadOf_33 : decode cX11_spreadOf 33 = .ok (.iconst 0, 1) := by decide +kernel
theorem dX11_spreadOf_34 : decode cX11_spreadOf 34 = .ok (.ireturn, 1) := by decide +kernel
set_option maxHeartbeats 8000000 in
set_option maxRecDepth 100000 in
theorem mX11_spreadOf (l : Launch) (G : gG) (da : Nat → Nat) (v : vSt) (x : gX) (r : Nat) (hk_r : kd r = 11) (p1 : Int32) (ho : oX11_spreadOf r p1 v) : MI l yX11_spreadOf cX11_spreadOf 2 (some .int) rmX11_spreadOf [.ref (ga G r), .int p1] G da v x 0 0 (fX11_spreadOf r p1 v).1 (fX11_spreadOf r p1 v).2 x := by
  refine gofMI (own := RX11) (by decide) rfl (Nat.le_of_ble_eq_true rfl) (fun p e s m args below meth c ls Q X hH hl E => ?_)
  have hx := X.1
  have hb := X.2.1
  have hown := X.2.2.2.1
  have hts := X.2.2.2.2.1
  have hS : va_S (gA G) s.heap s.heap [] := va_S.rf
  unfold oX11_spreadOf at ho
  have hl : lv_has ls 2 [(0, .ref (ga G r)), (1, .int p1)] := hl
  refine lv_aload_n hx hb dX11_spreadOf_0 rfl (lv_at hl 0 rfl) ?_
  refine lv_iload_n hx hb dX11_spreadOf_1 rfl (lv_at hl 1 rfl) ?_
  refine lv_iconst (v := 0) hx hb dX11_spreadOf_2 (by decide) ?_
  have hq1 := ho.1
  have ho := ho.2
  refine k_X11_asksChart X hS hH hk_r hq1 t_ml_VernierDrawersModel_242 hl.1 (Nat.le_of_ble_eq_true rfl) ⟨Nat.le_of_ble_eq_true rfl, Nat.le_of_ble_eq_true rfl⟩ ⟨Nat.zero_le _, Nat.zero_le _⟩ dX11_spreadOf_3 (fun da H locs v2 ev2 hH hS => ?_)
  have ho := ho v2 ev2
  refine lv_if_eq (tgt := 33) hx hb dX11_spreadOf_6 (by decide) (fun c3 => ?_) (fun c3 => ?_)
  · skip
    refine lv_iconst (v := 0) hx hb dX11_spreadOf_33 (by decide) ?_
    replace ev2 := Eq.symm ev2
    subst ev2
    exact E _ _ _ _ _ _ _ _ _ dX11_spreadOf_34 rfl (pr1 ((fX11_spreadOf.eq_1 _ _ _).trans ((if_pos c3).trans rfl))) (pr2 ((fX11_spreadOf.eq_1 _ _ _).trans ((if_pos c3).trans rfl))) hH hS (Nat.zero_le _) (Nat.zero_le _)
  · have ho := ho c3
    refine lv_aload_n hx hb dX11_spreadOf_9 rfl (lv_at hl 0 rfl) ?_
    refine lv_iload_n hx hb dX11_spreadOf_10 rfl (lv_at hl 1 rfl) ?_
    refine lv_aload_n hx hb dX11_spreadOf_11 rfl (lv_at hl 0 rfl) ?_
    refine lv_iload_n hx hb dX11_spreadOf_12 rfl (lv_at hl 1 rfl) ?_
    refine lv_bipush (v := 8) hx hb dX11_spreadOf_13 (by decide) ?_
    have hq4 := ho.1
    have ho := ho.2
    refine k_X11_of X hS hH hk_r hq4 t_ml_VernierDrawersModel_90 hl.1 (Nat.le_of_ble_eq_true rfl) ⟨Nat.le_of_ble_eq_true rfl, Nat.le_of_ble_eq_true rfl⟩ ⟨Nat.zero_le _, Nat.zero_le _⟩ dX11_spreadOf_15 ?_
    refine lv_iconst (v := 1) hx hb dX11_spreadOf_18 (by decide) ?_
    refine lv_isub hx hb dX11_spreadOf_19 ?_
    have hq5 := ho.1
    have ho := ho.2
    refine k_X11_inOrder X hS hH hk_r hq5 t_ml_VernierDrawersModel_126 hl.1 (Nat.le_of_ble_eq_true rfl) ⟨Nat.le_of_ble_eq_true rfl, Nat.le_of_ble_eq_true rfl⟩ ⟨Nat.zero_le _, Nat.zero_le _⟩ dX11_spreadOf_20 ?_
    refine lv_aload_n hx hb dX11_spreadOf_23 rfl (lv_at hl 0 rfl) ?_
    refine lv_iload_n hx hb dX11_spreadOf_24 rfl (lv_at hl 1 rfl) ?_
    refine lv_iconst (v := 0) hx hb dX11_spreadOf_25 (by decide) ?_
    have hq6 := ho
    refine k_X11_inOrder X hS hH hk_r hq6 t_ml_VernierDrawersModel_126 hl.1 (Nat.le_of_ble_eq_true rfl) ⟨Nat.le_of_ble_eq_true rfl, Nat.le_of_ble_eq_true rfl⟩ ⟨Nat.zero_le _, Nat.zero_le _⟩ dX11_spreadOf_26 ?_
    refine lv_isub hx hb dX11_spreadOf_29 ?_
    refine lv_goto (tgt := 34) hx hb dX11_spreadOf_30 (by decide) ?_
    replace ev2 := Eq.symm ev2
    subst ev2
    exact E _ _ _ _ _ _ _ _ _ dX11_spreadOf_34 rfl (pr1 ((fX11_spreadOf.eq_1 _ _ _).trans ((if_neg c3).trans rfl))) (pr2 ((fX11_spreadOf.eq_1 _ _ _).trans ((if_neg c3).trans rfl))) hH hS (Nat.zero_le _) (Nat.zero_le _)
theorem k_X11_spreadOf {p : Program} {l : Launch} {e : Env} {R : Room} {s : State} {m : MethodId} {args : Array Value} {below : List Frame} {meth : Method} {c : Code} {H : Heap} {locs : List Loc} {cells slots : Nat} {Q : State → Prop} {cc : ByteArray} {pc nL : Nat} {ls : Array Slot} {rest : List Value} {G : gG} {own : String} {da : Nat → Nat} {v : vSt} {x : gX} (X : CX G p s m args c cc nL own) (hS : va_S (gA G) s.heap H locs) (hH : Hp G da v x H) {r : Nat} (hk_r : kd r = 11) {p1 : Int32} (ho : oX11_spreadOf r p1 v) {idx : Nat} (hml : Cond.methodLink own idx yX11_spreadOf ∈ TT) (hls : ls.size = nL) (hsum : (rest.map fun v => v.category).sum ≤ 8) (hR : rmX11_spreadOf.frames + 1 ≤ R.frames ∧ 8 + (2 + 11) + rmX11_spreadOf.locals ≤ R.locals) (hcs : cells ≤ R.cells ∧ slots ≤ R.slots) (hdg : decode cc pc = .ok (.invokevirtual idx, 3)) (kk : ∀ (d : Nat → Nat) (H1 : Heap) (locs1 : List Loc) (v1 : vSt), v1 = (fX11_spreadOf r p1 v).2 → Hp G d v1 x H1 → va_S (gA G) s.heap H1 locs1 → W p l e R s m args below meth c H1 locs1 cells slots Q (F0 m (pc + 3) ls (.int (fX11_spreadOf r p1 v).1 :: rest))) : W p l e R s m args below meth c H locs cells slots Q (F0 m pc ls (.int p1 :: .ref (ga G r) :: rest)) := c_mi X.2.2.2.2.2.2 (runV (k := 1) X.1 X.2.1 X.2.2.1 X.2.2.2.1 X.2.2.2.2.1 (mX11_spreadOf l G da v x r hk_r p1 ho) pW_bl hml t_im_X11_spreadOf t_sel_X11_spreadOf t_ini_VernierDrawersModel t_code_X11_spreadOf ⟨rfl, by decide, by decide, by decide +kernel⟩ rfl rfl hR hcs (recvW X hH (by rw [hk_r]; decide) (by rw [hk_r]; decide) (ce_11 hk_r) rfl) (preW X hS hH) rfl hls rfl hsum hdg) hS kk
def fX11_days (r : Nat) (v : vSt) : Int32 × vSt := let v2 : vSt := (fX11_account r 210 v).2; ((fX11_account r 210 v).1, v2)
def oX11_days (r : Nat) (v : vSt) : Prop := oX11_account r 210 v
abbrev rmX11_days : Room := { frames := 1, cells := 0, slots := 0, locals := 21 }
theorem dX11_days_0 : decode cX11_days 0 = .ok (.aload_n 0, 1) := by decide +kernel
theorem dX11_days_1 : decode cX11_days 1 = .ok (.sipush 210, 3) := by decide +kernel
theorem dX11_days_4 : decode cX11_days 4 = .ok (.invokevirtual 218, 3) := by decide +kernel
theorem dX11_days_7 : decode cX11_days 7 = .ok (.ireturn, 1) := by decide +kernel
set_option maxHeartbeats 8000000 in
set_option maxRecDepth 100000 in
theorem mX11_days (l : Launch) (G : gG) (da : Nat → Nat) (v : vSt) (x : gX) (r : Nat) (hk_r : kd r = 11) (ho : oX11_days r v) : MI l yX11_days cX11_days 1 (some .int) rmX11_days [.ref (ga G r)] G da v x 0 0 (fX11_days r v).1 (fX11_days r v).2 x := by
  refine gofMI (own := RX11) (by decide) rfl (Nat.le_of_ble_eq_true rfl) (fun p e s m args below meth c ls Q X hH hl E => ?_)
  have hx := X.1
  have hb := X.2.1
  have hown := X.2.2.2.1
  have hts := X.2.2.2.2.1
  have hS : va_S (gA G) s.heap s.heap [] := va_S.rf
  unfold oX11_days at ho
  have hl : lv_has ls 1 [(0, .ref (ga G r))] := hl
  refine lv_aload_n hx hb dX11_days_0 rfl (lv_at hl 0 rfl) ?_
  refine lv_sipush (v := 210) hx hb dX11_days_1 (by decide) ?_
  have hq1 := ho
  refine k_X11_account X hS hH hk_r hq1 t_ml_VernierDrawersModel_218 hl.1 (Nat.le_of_ble_eq_true rfl) ⟨Nat.le_of_ble_eq_true rfl, Nat.le_of_ble_eq_true rfl⟩ ⟨Nat.zero_le _, Nat.zero_le _⟩ dX11_days_4 (fun da H locs v2 ev2 hH hS => ?_)
  replace ev2 := Eq.symm ev2
  subst ev2
  exact E _ _ _ _ _ _ _ _ _ dX11_days_7 rfl (pr1 rfl) (pr2 rfl) hH hS (Nat.zero_le _) (Nat.zero_le _)
theorem k_X11_days {p : Program} {l : Launch} {e : Env} {R : Room} {s : State} {m : MethodId} {args : Array Value} {below : List Frame} {meth : Method} {c : Code} {H : Heap} {locs : List Loc} {cells slots : Nat} {Q : State → Prop} {cc : ByteArray} {pc nL : Nat} {ls : Array Slot} {rest : List Value} {G : gG} {own : String} {da : Nat → Nat} {v : vSt} {x : gX} (X : CX G p s m args c cc nL own) (hS : va_S (gA G) s.heap H locs) (hH : Hp G da v x H) {r : Nat} (hk_r : kd r = 11) (ho : oX11_days r v) {idx : Nat} (hml : Cond.methodLink own idx yX11_days ∈ TT) (hls : ls.size = nL) (hsum : (rest.map fun v => v.category).sum ≤ 8) (hR : rmX11_days.frames + 1 ≤ R.frames ∧ 8 + (1 + 11) + rmX11_days.locals ≤ R.locals) (hcs : cells ≤ R.cells ∧ slots ≤ R.slots) (hdg : decode cc pc = .ok (.invokevirtual idx, 3)) (kk : ∀ (d : Nat → Nat) (H1 : Heap) (locs1 : List Loc) (v1 : vSt), v1 = (fX11_days r v).2 → Hp G d v1 x H1 → va_S (gA G) s.heap H1 locs1 → W p l e R s m args below meth c H1 locs1 cells slots Q (F0 m (pc + 3) ls (.int (fX11_days r v).1 :: rest))) : W p l e R s m args below meth c H locs cells slots Q (F0 m pc ls (.ref (ga G r) :: rest)) := c_mi X.2.2.2.2.2.2 (runV (k := 0) X.1 X.2.1 X.2.2.1 X.2.2.2.1 X.2.2.2.2.1 (mX11_days l G da v x r hk_r ho) pW_bl hml t_im_X11_days t_sel_X11_days t_ini_VernierDrawersModel t_code_X11_days ⟨rfl, by decide, by decide, by decide +kernel⟩ rfl rfl hR hcs (recvW X hH (by rw [hk_r]; decide) (by rw [hk_r]; decide) (ce_11 hk_r) rfl) (preW X hS hH) rfl hls rfl hsum hdg) hS kk
def fX11_brought (r : Nat) (v : vSt) : Int32 × vSt := let v2 : vSt := (fX11_account r 211 v).2; ((fX11_account r 211 v).1, v2)
def oX11_brought (r : Nat) (v : vSt) : Prop := oX11_account r 211 v
abbrev rmX11_brought : Room := { frames := 1, cells := 0, slots := 0, locals := 21 }
theorem dX11_brought_0 : decode cX11_brought 0 = .ok (.aload_n 0, 1) := by decide +kernel
theorem dX11_brought_1 : decode cX11_brought 1 = .ok (.sipush 211, 3) := by decide +kernel
theorem dX11_brought_4 : decode cX11_brought 4 = .ok (.invokevirtual 218, 3) := by decide +kernel
theorem dX11_brought_7 : decode cX11_brought 7 = .ok (.ireturn, 1) := by decide +kernel
set_option maxHeartbeats 8000000 in
set_option maxRecDepth 100000 in
theorem mX11_brought (l : Launch) (G : gG) (da : Nat → Nat) (v : vSt) (x : gX) (r : Nat) (hk_r : kd r = 11) (ho : oX11_brought r v) : MI l yX11_brought cX11_brought 1 (some .int) rmX11_brought [.ref (ga G r)] G da v x 0 0 (fX11_brought r v).1 (fX11_brought r v).2 x := by
  refine gofMI (own := RX11) (by decide) rfl (Nat.le_of_ble_eq_true rfl) (fun p e s m args below meth c ls Q X hH hl E => ?_)
  have hx := X.1
  have hb := X.2.1
  have hown := X.2.2.2.1
  have hts := X.2.2.2.2.1
  have hS : va_S (gA G) s.heap s.heap [] := va_S.rf
  unfold oX11_brought at ho
  have hl : lv_has ls 1 [(0, .ref (ga G r))] := hl
  refine lv_aload_n hx hb dX11_brought_0 rfl (lv_at hl 0 rfl) ?_
  refine lv_sipush (v := 211) hx hb dX11_brought_1 (by decide) ?_
  have hq1 := ho
  refine k_X11_account X hS hH hk_r hq1 t_ml_VernierDrawersModel_218 hl.1 (Nat.le_of_ble_eq_true rfl) ⟨Nat.le_of_ble_eq_true rfl, Nat.le_of_ble_eq_true rfl⟩ ⟨Nat.zero_le _, Nat.zero_le _⟩ dX11_brought_4 (fun da H locs v2 ev2 hH hS => ?_)
  replace ev2 := Eq.symm ev2
  subst ev2
  exact E _ _ _ _ _ _ _ _ _ dX11_brought_7 rfl (pr1 rfl) (pr2 rfl) hH hS (Nat.zero_le _) (Nat.zero_le _)
theorem k_X11_brought {p : Program} {l : Launch} {e : Env} {R : Room} {s : State} {m : MethodId} {args : Array Value} {below : List Frame} {meth : Method} {c : Code} {H : Heap} {locs : List Loc} {cells slots : Nat} {Q : State → Prop} {cc : ByteArray} {pc nL : Nat} {ls : Array Slot} {rest : List Value} {G : gG} {own : String} {da : Nat → Nat} {v : vSt} {x : gX} (X : CX G p s m args c cc nL own) (hS : va_S (gA G) s.heap H locs) (hH : Hp G da v x H) {r : Nat} (hk_r : kd r = 11) (ho : oX11_brought r v) {idx : Nat} (hml : Cond.methodLink own idx yX11_brought ∈ TT) (hls : ls.size = nL) (hsum : (rest.map fun v => v.category).sum ≤ 8) (hR : rmX11_brought.frames + 1 ≤ R.frames ∧ 8 + (1 + 11) + rmX11_brought.locals ≤ R.locals) (hcs : cells ≤ R.cells ∧ slots ≤ R.slots) (hdg : decode cc pc = .ok (.invokevirtual idx, 3)) (kk : ∀ (d : Nat → Nat) (H1 : Heap) (locs1 : List Loc) (v1 : vSt), v1 = (fX11_brought r v).2 → Hp G d v1 x H1 → va_S (gA G) s.heap H1 locs1 → W p l e R s m args below meth c H1 locs1 cells slots Q (F0 m (pc + 3) ls (.int (fX11_brought r v).1 :: rest))) : W p l e R s m args below meth c H locs cells slots Q (F0 m pc ls (.ref (ga G r) :: rest)) := c_mi X.2.2.2.2.2.2 (runV (k := 0) X.1 X.2.1 X.2.2.1 X.2.2.2.1 X.2.2.2.2.1 (mX11_brought l G da v x r hk_r ho) pW_bl hml t_im_X11_brought t_sel_X11_brought t_ini_VernierDrawersModel t_code_X11_brought ⟨rfl, by decide, by decide, by decide +kernel⟩ rfl rfl hR hcs (recvW X hH (by rw [hk_r]; decide) (by rw [hk_r]; decide) (ce_11 hk_r) rfl) (preW X hS hH) rfl hls rfl hsum hdg) hS kk
def fX11_broughtByPlaces (r : Nat) (v : vSt) : Int32 × vSt := let v2 : vSt := (fX11_account r 211 v).2; ((fX11_account r 211 v).1, v2)
def oX11_broughtByPlaces (r : Nat) (v : vSt) : Prop := oX11_account r 211 v
abbrev rmX11_broughtByPlaces : Room := { frames := 1, cells := 0, slots := 0, locals := 21 }
theorem dX11_broughtByPlaces_0 : decode cX11_broughtByPlaces 0 = .ok (.aload_n 0, 1) := by decide +kernel
theorem dX11_broughtByPlaces_1 : decode cX11_broughtByPlaces 1 = .ok (.sipush 211, 3) := by decide +kernel
theorem dX11_broughtByPlaces_4 : decode cX11_broughtByPlaces 4 = .ok (.invokevirtual 218, 3) := by decide +kernel
theorem dX11_broughtByPlaces_7 : decode cX11_broughtByPlaces 7 = .ok (.ireturn, 1) := by decide +kernel
set_option maxHeartbeats 8000000 in
set_option maxRecDepth 100000 in
theorem mX11_broughtByPlaces (l : Launch) (G : gG) (da : Nat → Nat) (v : vSt) (x : gX) (r : Nat) (hk_r : kd r = 11) (ho : oX11_broughtByPlaces r v) : MI l yX11_broughtByPlaces cX11_broughtByPlaces 1 (some .int) rmX11_broughtByPlaces [.ref (ga G r)] G da v x 0 0 (fX11_broughtByPlaces r v).1 (fX11_broughtByPlaces r v).2 x := by
  refine gofMI (own := RX11) (by decide) rfl (Nat.le_of_ble_eq_true rfl) (fun p e s m args below meth c ls Q X hH hl E => ?_)
  have hx := X.1
  have hb := X.2.1
  have hown := X.2.2.2.1
  have hts := X.2.2.2.2.1
  have hS : va_S (gA G) s.heap s.heap [] := va_S.rf
  unfold oX11_broughtByPlaces at ho
  have hl : lv_has ls 1 [(0, .ref (ga G r))] := hl
  refine lv_aload_n hx hb dX11_broughtByPlaces_0 rfl (lv_at hl 0 rfl) ?_
  refine lv_sipush (v := 211) hx hb dX11_broughtByPlaces_1 (by decide) ?_
  have hq1 := ho
  refine k_X11_account X hS hH hk_r hq1 t_ml_VernierDrawersModel_218 hl.1 (Nat.le_of_ble_eq_true rfl) ⟨Nat.le_of_ble_eq_true rfl, Nat.le_of_ble_eq_true rfl⟩ ⟨Nat.zero_le _, Nat.zero_le _⟩ dX11_broughtByPlaces_4 (fun da H locs v2 ev2 hH hS => ?_)
  replace ev2 := Eq.symm ev2
  subst ev2
  exact E _ _ _ _ _ _ _ _ _ dX11_broughtByPlaces_7 rfl (pr1 rfl) (pr2 rfl) hH hS (Nat.zero_le _) (Nat.zero_le _)
theorem k_X11_broughtByPlaces {p : Program} {l : Launch} {e : Env} {R : Room} {s : State} {m : MethodId} {args : Array Value} {below : List Frame} {meth : Method} {c : Code} {H : Heap} {locs : List Loc} {cells slots : Nat} {Q : State → Prop} {cc : ByteArray} {pc nL : Nat} {ls : Array Slot} {rest : List Value} {G : gG} {own : String} {da : Nat → Nat} {v : vSt} {x : gX} (X : CX G p s m args c cc nL own) (hS : va_S (gA G) s.heap H locs) (hH : Hp G da v x H) {r : Nat} (hk_r : kd r = 11) (ho : oX11_broughtByPlaces r v) {idx : Nat} (hml : Cond.methodLink own idx yX11_broughtByPlaces ∈ TT) (hls : ls.size = nL) (hsum : (rest.map fun v => v.category).sum ≤ 8) (hR : rmX11_broughtByPlaces.frames + 1 ≤ R.frames ∧ 8 + (1 + 11) + rmX11_broughtByPlaces.locals ≤ R.locals) (hcs : cells ≤ R.cells ∧ slots ≤ R.slots) (hdg : decode cc pc = .ok (.invokevirtual idx, 3)) (kk : ∀ (d : Nat → Nat) (H1 : Heap) (locs1 : List Loc) (v1 : vSt), v1 = (fX11_broughtByPlaces r v).2 → Hp G d v1 x H1 → va_S (gA G) s.heap H1 locs1 → W p l e R s m args below meth c H1 locs1 cells slots Q (F0 m (pc + 3) ls (.int (fX11_broughtByPlaces r v).1 :: rest))) : W p l e R s m args below meth c H locs cells slots Q (F0 m pc ls (.ref (ga G r) :: rest)) := c_mi X.2.2.2.2.2.2 (runV (k := 0) X.1 X.2.1 X.2.2.1 X.2.2.2.1 X.2.2.2.2.1 (mX11_broughtByPlaces l G da v x r hk_r ho) pW_bl hml t_im_X11_broughtByPlaces t_sel_X11_broughtByPlaces t_ini_VernierDrawersModel t_code_X11_broughtByPlaces ⟨rfl, by decide, by decide, by decide +kernel⟩ rfl rfl hR hcs (recvW X hH (by rw [hk_r]; decide) (by rw [hk_r]; decide) (ce_11 hk_r) rfl) (preW X hS hH) rfl hls rfl hsum hdg) hS kk
def fX11_good (r : Nat) (v : vSt) : Int32 × vSt := let v2 : vSt := (fX11_account r 212 v).2; ((fX11_account r 212 v).1, v2)
def oX11_good (r : Nat) (v : vSt) : Prop := oX11_account r 212 v
abbrev rmX11_good : Room := { frames := 1, cells := 0, slots := 0, locals := 21 }
theorem dX11_good_0 : decode cX11_good 0 = .ok (.aload_n 0, 1) := by decide +kernel
theorem dX11_good_1 : decode cX11_good 1 = .ok (.sipush 212, 3) := by decide +kernel
theorem dX11_good_4 : decode cX11_good 4 = .ok (.invokevirtual 218, 3) := by decide +kernel
theorem dX11_good_7 : decode cX11_good 7 = .ok (.ireturn, 1) := by decide +kernel
set_option maxHeartbeats 8000000 in
set_option maxRecDepth 100000 in
theorem mX11_good (l : Launch) (G : gG) (da : Nat → Nat) (v : vSt) (x : gX) (r : Nat) (hk_r : kd r = 11) (ho : oX11_good r v) : MI l yX11_good cX11_good 1 (some .int) rmX11_good [.ref (ga G r)] G da v x 0 0 (fX11_good r v).1 (fX11_good r v).2 x := by
  refine gofMI (own := RX11) (by decide) rfl (Nat.le_of_ble_eq_true rfl) (fun p e s m args below meth c ls Q X hH hl E => ?_)
  have hx := X.1
  have hb := X.2.1
  have hown := X.2.2.2.1
  have hts := X.2.2.2.2.1
  have hS : va_S (gA G) s.heap s.heap [] := va_S.rf
  unfold oX11_good at ho
  have hl : lv_has ls 1 [(0, .ref (ga G r))] := hl
  refine lv_aload_n hx hb dX11_good_0 rfl (lv_at hl 0 rfl) ?_
  refine lv_sipush (v := 212) hx hb dX11_good_1 (by decide) ?_
  have hq1 := ho
  refine k_X11_account X hS hH hk_r hq1 t_ml_VernierDrawersModel_218 hl.1 (Nat.le_of_ble_eq_true rfl) ⟨Nat.le_of_ble_eq_true rfl, Nat.le_of_ble_eq_true rfl⟩ ⟨Nat.zero_le _, Nat.zero_le _⟩ dX11_good_4 (fun da H locs v2 ev2 hH hS => ?_)
  replace ev2 := Eq.symm ev2
  subst ev2
  exact E _ _ _ _ _ _ _ _ _ dX11_good_7 rfl (pr1 rfl) (pr2 rfl) hH hS (Nat.zero_le _) (Nat.zero_le _)
theorem k_X11_good {p : Program} {l : Launch} {e : Env} {R : Room} {s : State} {m : MethodId} {args : Array Value} {below : List Frame} {meth : Method} {c : Code} {H : Heap} {locs : List Loc} {cells slots : Nat} {Q : State → Prop} {cc : ByteArray} {pc nL : Nat} {ls : Array Slot} {rest : List Value} {G : gG} {own : String} {da : Nat → Nat} {v : vSt} {x : gX} (X : CX G p s m args c cc nL own) (hS : va_S (gA G) s.heap H locs) (hH : Hp G da v x H) {r : Nat} (hk_r : kd r = 11) (ho : oX11_good r v) {idx : Nat} (hml : Cond.methodLink own idx yX11_good ∈ TT) (hls : ls.size = nL) (hsum : (rest.map fun v => v.category).sum ≤ 8) (hR : rmX11_good.frames + 1 ≤ R.frames ∧ 8 + (1 + 11) + rmX11_good.locals ≤ R.locals) (hcs : cells ≤ R.cells ∧ slots ≤ R.slots) (hdg : decode cc pc = .ok (.invokevirtual idx, 3)) (kk : ∀ (d : Nat → Nat) (H1 : Heap) (locs1 : List Loc) (v1 : vSt), v1 = (fX11_good r v).2 → Hp G d v1 x H1 → va_S (gA G) s.heap H1 locs1 → W p l e R s m args below meth c H1 locs1 cells slots Q (F0 m (pc + 3) ls (.int (fX11_good r v).1 :: rest))) : W p l e R s m args below meth c H locs cells slots Q (F0 m pc ls (.ref (ga G r) :: rest)) := c_mi X.2.2.2.2.2.2 (runV (k := 0) X.1 X.2.1 X.2.2.1 X.2.2.2.1 X.2.2.2.2.1 (mX11_good l G da v x r hk_r ho) pW_bl hml t_im_X11_good t_sel_X11_good t_ini_VernierDrawersModel t_code_X11_good ⟨rfl, by decide, by decide, by decide +kernel⟩ rfl rfl hR hcs (recvW X hH (by rw [hk_r]; decide) (by rw [hk_r]; decide) (ce_11 hk_r) rfl) (preW X hS hH) rfl hls rfl hsum hdg) hS kk
def fX11_thrownAway (r : Nat) (v : vSt) : Int32 × vSt := let v2 : vSt := (fX11_account r 213 v).2; ((fX11_account r 213 v).1, v2)
def oX11_thrownAway (r : Nat) (v : vSt) : Prop := oX11_account r 213 v
abbrev rmX11_thrownAway : Room := { frames := 1, cells := 0, slots := 0, locals := 21 }
theorem dX11_thrownAway_0 : decode cX11_thrownAway 0 = .ok (.aload_n 0, 1) := by decide +kernel
theorem dX11_thrownAway_1 : decode cX11_thrownAway 1 = .ok (.sipush 213, 3) := by decide +kernel
theorem dX11_thrownAway_4 : decode cX11_thrownAway 4 = .ok (.invokevirtual 218, 3) := by decide +kernel
theorem dX11_thrownAway_7 : decode cX11_thrownAway 7 = .ok (.ireturn, 1) := by decide +kernel
set_option maxHeartbeats 8000000 in
set_option maxRecDepth 100000 in
theorem mX11_thrownAway (l : Launch) (G : gG) (da : Nat → Nat) (v : vSt) (x : gX) (r : Nat) (hk_r : kd r = 11) (ho : oX11_thrownAway r v) : MI l yX11_thrownAway cX11_thrownAway 1 (some .int) rmX11_thrownAway [.ref (ga G r)] G da v x 0 0 (fX11_thrownAway r v).1 (fX11_thrownAway r v).2 x := by
  refine gofMI (own := RX11) (by decide) rfl (Nat.le_of_ble_eq_true rfl) (fun p e s m args below meth c ls Q X hH hl E => ?_)
  have hx := X.1
  have hb := X.2.1
  have hown := X.2.2.2.1
  have hts := X.2.2.2.2.1
  have hS : va_S (gA G) s.heap s.heap [] := va_S.rf
  unfold oX11_thrownAway at ho
  have hl : lv_has ls 1 [(0, .ref (ga G r))] := hl
  refine lv_aload_n hx hb dX11_thrownAway_0 rfl (lv_at hl 0 rfl) ?_
  refine lv_sipush (v := 213) hx hb dX11_thrownAway_1 (by decide) ?_
  have hq1 := ho
  refine k_X11_account X hS hH hk_r hq1 t_ml_VernierDrawersModel_218 hl.1 (Nat.le_of_ble_eq_true rfl) ⟨Nat.le_of_ble_eq_true rfl, Nat.le_of_ble_eq_true rfl⟩ ⟨Nat.zero_le _, Nat.zero_le _⟩ dX11_thrownAway_4 (fun da H locs v2 ev2 hH hS => ?_)
  replace ev2 := Eq.symm ev2
  subst ev2
  exact E _ _ _ _ _ _ _ _ _ dX11_thrownAway_7 rfl (pr1 rfl) (pr2 rfl) hH hS (Nat.zero_le _) (Nat.zero_le _)
theorem k_X11_thrownAway {p : Program} {l : Launch} {e : Env} {R : Room} {s : State} {m : MethodId} {args : Array Value} {below : List Frame} {meth : Method} {c : Code} {H : Heap} {locs : List Loc} {cells slots : Nat} {Q : State → Prop} {cc : ByteArray} {pc nL : Nat} {ls : Array Slot} {rest : List Value} {G : gG} {own : String} {da : Nat → Nat} {v : vSt} {x : gX} (X : CX G p s m args c cc nL own) (hS : va_S (gA G) s.heap H locs) (hH : Hp G da v x H) {r : Nat} (hk_r : kd r = 11) (ho : oX11_thrownAway r v) {idx : Nat} (hml : Cond.methodLink own idx yX11_thrownAway ∈ TT) (hls : ls.size = nL) (hsum : (rest.map fun v => v.category).sum ≤ 8) (hR : rmX11_thrownAway.frames + 1 ≤ R.frames ∧ 8 + (1 + 11) + rmX11_thrownAway.locals ≤ R.locals) (hcs : cells ≤ R.cells ∧ slots ≤ R.slots) (hdg : decode cc pc = .ok (.invokevirtual idx, 3)) (kk : ∀ (d : Nat → Nat) (H1 : Heap) (locs1 : List Loc) (v1 : vSt), v1 = (fX11_thrownAway r v).2 → Hp G d v1 x H1 → va_S (gA G) s.heap H1 locs1 → W p l e R s m args below meth c H1 locs1 cells slots Q (F0 m (pc + 3) ls (.int (fX11_thrownAway r v).1 :: rest))) : W p l e R s m args below meth c H locs cells slots Q (F0 m pc ls (.ref (ga G r) :: rest)) := c_mi X.2.2.2.2.2.2 (runV (k := 0) X.1 X.2.1 X.2.2.1 X.2.2.2.1 X.2.2.2.2.1 (mX11_thrownAway l G da v x r hk_r ho) pW_bl hml t_im_X11_thrownAway t_sel_X11_thrownAway t_ini_VernierDrawersModel t_code_X11_thrownAway ⟨rfl, by decide, by decide, by decide +kernel⟩ rfl rfl hR hcs (recvW X hH (by rw [hk_r]; decide) (by rw [hk_r]; decide) (ce_11 hk_r) rfl) (preW X hS hH) rfl hls rfl hsum hdg) hS kk
def fX11_unseen (r : Nat) (v : vSt) : Int32 × vSt := let v2 : vSt := (fX11_account r 214 v).2; ((fX11_account r 214 v).1, v2)
def oX11_unseen (r : Nat) (v : vSt) : Prop := oX11_account r 214 v
abbrev rmX11_unseen : Room := { frames := 1, cells := 0, slots := 0, locals := 21 }
theorem dX11_unseen_0 : decode cX11_unseen 0 = .ok (.aload_n 0, 1) := by decide +kernel
theorem dX11_unseen_1 : decode cX11_unseen 1 = .ok (.sipush 214, 3) := by decide +kernel
theorem dX11_unseen_4 : decode cX11_unseen 4 = .ok (.invokevirtual 218, 3) := by decide +kernel
theorem dX11_unseen_7 : decode cX11_unseen 7 = .ok (.ireturn, 1) := by decide +kernel
set_option maxHeartbeats 8000000 in
set_option maxRecDepth 100000 in
theorem mX11_unseen (l : Launch) (G : gG) (da : Nat → Nat) (v : vSt) (x : gX) (r : Nat) (hk_r : kd r = 11) (ho : oX11_unseen r v) : MI l yX11_unseen cX11_unseen 1 (some .int) rmX11_unseen [.ref (ga G r)] G da v x 0 0 (fX11_unseen r v).1 (fX11_unseen r v).2 x := by
  refine gofMI (own := RX11) (by decide) rfl (Nat.le_of_ble_eq_true rfl) (fun p e s m args below meth c ls Q X hH hl E => ?_)
  have hx := X.1
  have hb := X.2.1
  have hown := X.2.2.2.1
  have hts := X.2.2.2.2.1
  have hS : va_S (gA G) s.heap s.heap [] := va_S.rf
  unfold oX11_unseen at ho
  have hl : lv_has ls 1 [(0, .ref (ga G r))] := hl
  refine lv_aload_n hx hb dX11_unseen_0 rfl (lv_at hl 0 rfl) ?_
  refine lv_sipush (v := 214) hx hb dX11_unseen_1 (by decide) ?_
  have hq1 := ho
  refine k_X11_account X hS hH hk_r hq1 t_ml_VernierDrawersModel_218 hl.1 (Nat.le_of_ble_eq_true rfl) ⟨Nat.le_of_ble_eq_true rfl, Nat.le_of_ble_eq_true rfl⟩ ⟨Nat.zero_le _, Nat.zero_le _⟩ dX11_unseen_4 (fun da H locs v2 ev2 hH hS => ?_)
  replace ev2 := Eq.symm ev2
  subst ev2
  exact E _ _ _ _ _ _ _ _ _ dX11_unseen_7 rfl (pr1 rfl) (pr2 rfl) hH hS (Nat.zero_le _) (Nat.zero_le _)
theorem k_X11_unseen {p : Program} {l : Launch} {e : Env} {R : Room} {s : State} {m : MethodId} {args : Array Value} {below : List Frame} {meth : Method} {c : Code} {H : Heap} {locs : List Loc} {cells slots : Nat} {Q : State → Prop} {cc : ByteArray} {pc nL : Nat} {ls : Array Slot} {rest : List Value} {G : gG} {own : String} {da : Nat → Nat} {v : vSt} {x : gX} (X : CX G p s m args c cc nL own) (hS : va_S (gA G) s.heap H locs) (hH : Hp G da v x H) {r : Nat} (hk_r : kd r = 11) (ho : oX11_unseen r v) {idx : Nat} (hml : Cond.methodLink own idx yX11_unseen ∈ TT) (hls : ls.size = nL) (hsum : (rest.map fun v => v.category).sum ≤ 8) (hR : rmX11_unseen.frames + 1 ≤ R.frames ∧ 8 + (1 + 11) + rmX11_unseen.locals ≤ R.locals) (hcs : cells ≤ R.cells ∧ slots ≤ R.slots) (hdg : decode cc pc = .ok (.invokevirtual idx, 3)) (kk : ∀ (d : Nat → Nat) (H1 : Heap) (locs1 : List Loc) (v1 : vSt), v1 = (fX11_unseen r v).2 → Hp G d v1 x H1 → va_S (gA G) s.heap H1 locs1 → W p l e R s m args below meth c H1 locs1 cells slots Q (F0 m (pc + 3) ls (.int (fX11_unseen r v).1 :: rest))) : W p l e R s m args below meth c H locs cells slots Q (F0 m pc ls (.ref (ga G r) :: rest)) := c_mi X.2.2.2.2.2.2 (runV (k := 0) X.1 X.2.1 X.2.2.1 X.2.2.2.1 X.2.2.2.2.1 (mX11_unseen l G da v x r hk_r ho) pW_bl hml t_im_X11_unseen t_sel_X11_unseen t_ini_VernierDrawersModel t_code_X11_unseen ⟨rfl, by decide, by decide, by decide +kernel⟩ rfl rfl hR hcs (recvW X hH (by rw [hk_r]; decide) (by rw [hk_r]; decide) (ce_11 hk_r) rfl) (preW X hS hH) rfl hls rfl hsum hdg) hS kk
def fX11_doubts (r : Nat) (v : vSt) : Int32 × vSt := let v2 : vSt := (fX11_account r 215 v).2; ((fX11_account r 215 v).1, v2)
def oX11_doubts (r : Nat) (v : vSt) : Prop := oX11_account r 215 v
abbrev rmX11_doubts : Room := { frames := 1, cells := 0, slots := 0, locals := 21 }
theorem dX11_doubts_0 : decode cX11_doubts 0 = .ok (.aload_n 0, 1) := by decide +kernel
theorem dX11_doubts_1 : decode cX11_doubts 1 = .ok (.sipush 215, 3) := by decide +kernel
theorem dX11_doubts_4 : decode cX11_doubts 4 = .ok (.invokevirtual 218, 3) := by decide +kernel
theorem dX11_doubts_7 : decode cX11_doubts 7 = .ok (.ireturn, 1) := by decide +kernel
set_option maxHeartbeats 8000000 in
set_option maxRecDepth 100000 in
theorem mX11_doubts (l : Launch) (G : gG) (da : Nat → Nat) (v : vSt) (x : gX) (r : Nat) (hk_r : kd r = 11) (ho : oX11_doubts r v) : MI l yX11_doubts cX11_doubts 1 (some .int) rmX11_doubts [.ref (ga G r)] G da v x 0 0 (fX11_doubts r v).1 (fX11_doubts r v).2 x := by
  refine gofMI (own := RX11) (by decide) rfl (Nat.le_of_ble_eq_true rfl) (fun p e s m args below meth c ls Q X hH hl E => ?_)
  have hx := X.1
  have hb := X.2.1
  have hown := X.2.2.2.1
  have hts := X.2.2.2.2.1
  have hS : va_S (gA G) s.heap s.heap [] := va_S.rf
  unfold oX11_doubts at ho
  have hl : lv_has ls 1 [(0, .ref (ga G r))] := hl
  refine lv_aload_n hx hb dX11_doubts_0 rfl (lv_at hl 0 rfl) ?_
  refine lv_sipush (v := 215) hx hb dX11_doubts_1 (by decide) ?_
  have hq1 := ho
  refine k_X11_account X hS hH hk_r hq1 t_ml_VernierDrawersModel_218 hl.1 (Nat.le_of_ble_eq_true rfl) ⟨Nat.le_of_ble_eq_true rfl, Nat.le_of_ble_eq_true rfl⟩ ⟨Nat.zero_le _, Nat.zero_le _⟩ dX11_doubts_4 (fun da H locs v2 ev2 hH hS => ?_)
  replace ev2 := Eq.symm ev2
  subst ev2
  exact E _ _ _ _ _ _ _ _ _ dX11_doubts_7 rfl (pr1 rfl) (pr2 rfl) hH hS (Nat.zero_le _) (Nat.zero_le _)
theorem k_X11_doubts {p : Program} {l : Launch} {e : Env} {R : Room} {s : State} {m : MethodId} {args : Array Value} {below : List Frame} {meth : Method} {c : Code} {H : Heap} {locs : List Loc} {cells slots : Nat} {Q : State → Prop} {cc : ByteArray} {pc nL : Nat} {ls : Array Slot} {rest : List Value} {G : gG} {own : String} {da : Nat → Nat} {v : vSt} {x : gX} (X : CX G p s m args c cc nL own) (hS : va_S (gA G) s.heap H locs) (hH : Hp G da v x H) {r : Nat} (hk_r : kd r = 11) (ho : oX11_doubts r v) {idx : Nat} (hml : Cond.methodLink own idx yX11_doubts ∈ TT) (hls : ls.size = nL) (hsum : (rest.map fun v => v.category).sum ≤ 8) (hR : rmX11_doubts.frames + 1 ≤ R.frames ∧ 8 + (1 + 11) + rmX11_doubts.locals ≤ R.locals) (hcs : cells ≤ R.cells ∧ slots ≤ R.slots) (hdg : decode cc pc = .ok (.invokevirtual idx, 3)) (kk : ∀ (d : Nat → Nat) (H1 : Heap) (locs1 : List Loc) (v1 : vSt), v1 = (fX11_doubts r v).2 → Hp G d v1 x H1 → va_S (gA G) s.heap H1 locs1 → W p l e R s m args below meth c H1 locs1 cells slots Q (F0 m (pc + 3) ls (.int (fX11_doubts r v).1 :: rest))) : W p l e R s m args below meth c H locs cells slots Q (F0 m pc ls (.ref (ga G r) :: rest)) := c_mi X.2.2.2.2.2.2 (runV (k := 0) X.1 X.2.1 X.2.2.1 X.2.2.2.1 X.2.2.2.2.1 (mX11_doubts l G da v x r hk_r ho) pW_bl hml t_im_X11_doubts t_sel_X11_doubts t_ini_VernierDrawersModel t_code_X11_doubts ⟨rfl, by decide, by decide, by decide +kernel⟩ rfl rfl hR hcs (recvW X hH (by rw [hk_r]; decide) (by rw [hk_r]; decide) (ce_11 hk_r) rfl) (preW X hS hH) rfl hls rfl hsum hdg) hS kk
def fX11_states (r : Nat) (v : vSt) : Int32 × vSt := let v1 : vSt := u2 v r 8 0; (v1 r 5, v1)
abbrev rmX11_states : Room := { frames := 0, cells := 0, slots := 0, locals := 0 }
theorem dX11_states_0 : decode cX11_states 0 = .ok (.aload_n 0, 1) := by decide +kernel
theorem dX11_states_1 : decode cX11_states 1 = .ok (.iconst 0, 1) := by decide +kernel
theorem dX11_states_2 : decode cX11_states 2 = .ok (.putfield 29, 3) := by decide +kernel
theorem dX11_states_5 : decode cX11_states 5 = .ok (.aload_n 0, 1) := by decide +kernel
theorem dX11_states_6 : decode cX11_states 6 = .ok (.getfield 37, 3) := by decide +kernel
theorem dX11_states_9 : decode cX11_states 9 = .ok (.ireturn, 1) := by decide +kernel
set_option maxHeartbeats 8000000 in
set_option maxRecDepth 100000 in
theorem mX11_states (l : Launch) (G : gG) (da : Nat → Nat) (v : vSt) (x : gX) (r : Nat) (hk_r : kd r = 11) : MI l yX11_states cX11_states 1 (some .int) rmX11_states [.ref (ga G r)] G da v x 0 0 (fX11_states r v).1 (fX11_states r v).2 x := by
  refine gofMI (own := RX11) (by decide) rfl (Nat.le_of_ble_eq_true rfl) (fun p e s m args below meth c ls Q X hH hl E => ?_)
  have hx := X.1
  have hb := X.2.1
  have hown := X.2.2.2.1
  have hts := X.2.2.2.2.1
  have hS : va_S (gA G) s.heap s.heap [] := va_S.rf
  have ho : True := trivial
  have hl : lv_has ls 1 [(0, .ref (ga G r))] := hl
  refine lv_aload_n hx hb dX11_states_0 rfl (lv_at hl 0 rfl) ?_
  refine lv_iconst (v := 0) hx hb dX11_states_1 (by decide) ?_
  refine p_VernierDrawersModel_29 X hH hS hk_r dX11_states_2 (fun H locs v1 ev1 hH hS => ?_)
  refine lv_aload_n hx hb dX11_states_5 rfl (lv_at hl 0 rfl) ?_
  refine g_VernierDrawersModel_37 X hH hk_r dX11_states_6 ?_
  replace ev1 := Eq.symm ev1
  subst ev1
  exact E _ _ _ _ _ _ _ _ _ dX11_states_9 rfl (pr1 rfl) (pr2 rfl) hH hS (Nat.zero_le _) (Nat.zero_le _)
theorem k_X11_states {p : Program} {l : Launch} {e : Env} {R : Room} {s : State} {m : MethodId} {args : Array Value} {below : List Frame} {meth : Method} {c : Code} {H : Heap} {locs : List Loc} {cells slots : Nat} {Q : State → Prop} {cc : ByteArray} {pc nL : Nat} {ls : Array Slot} {rest : List Value} {G : gG} {own : String} {da : Nat → Nat} {v : vSt} {x : gX} (X : CX G p s m args c cc nL own) (hS : va_S (gA G) s.heap H locs) (hH : Hp G da v x H) {r : Nat} (hk_r : kd r = 11) {idx : Nat} (hml : Cond.methodLink own idx yX11_states ∈ TT) (hls : ls.size = nL) (hsum : (rest.map fun v => v.category).sum ≤ 8) (hR : rmX11_states.frames + 1 ≤ R.frames ∧ 8 + (1 + 11) + rmX11_states.locals ≤ R.locals) (hcs : cells ≤ R.cells ∧ slots ≤ R.slots) (hdg : decode cc pc = .ok (.invokevirtual idx, 3)) (kk : ∀ (d : Nat → Nat) (H1 : Heap) (locs1 : List Loc) (v1 : vSt), v1 = (fX11_states r v).2 → Hp G d v1 x H1 → va_S (gA G) s.heap H1 locs1 → W p l e R s m args below meth c H1 locs1 cells slots Q (F0 m (pc + 3) ls (.int (fX11_states r v).1 :: rest))) : W p l e R s m args below meth c H locs cells slots Q (F0 m pc ls (.ref (ga G r) :: rest)) := c_mi X.2.2.2.2.2.2 (runV (k := 0) X.1 X.2.1 X.2.2.1 X.2.2.2.1 X.2.2.2.2.1 (mX11_states l G da v x r hk_r) pW_bl hml t_im_X11_states t_sel_X11_states t_ini_VernierDrawersModel t_code_X11_states ⟨rfl, by decide, by decide, by decide +kernel⟩ rfl rfl hR hcs (recvW X hH (by rw [hk_r]; decide) (by rw [hk_r]; decide) (ce_11 hk_r) rfl) (preW X hS hH) rfl hls rfl hsum hdg) hS kk
def fX11_type (r : Nat) (p1 : Int32) (v : vSt) : Int32 × vSt := let v1 : vSt := u2 v r 8 0; if ((fX11_in p1 32 126) : Int32) = 0 then (let v8 : vSt := (fX11_fails r 1 v1).2; ((fX11_fails r 1 v1).1, v8)) else (if ((v1 r 7) : Int32) = 60 then (let v7 : vSt := (fX11_fails r 2 v1).2; ((fX11_fails r 2 v1).1, v7)) else (let v5 : vSt := u2 v1 466 (v1 r 7 : Int32).toNatClampNeg p1; let v6 : vSt := u2 v5 r 7 ((v5 r 7) + 1); (v6 r 7, v6)))
def oX11_type (r : Nat) (p1 : Int32) (v : vSt) : Prop := ∀ v1 : vSt, v1 = (u2 v r 8 0) → (¬ (((fX11_in p1 32 126) : Int32) = 0) → (¬ (((v1 r 7) : Int32) = 60) → (vp_in (v1 r 7) 60)))
abbrev rmX11_type : Room := { frames := 1, cells := 0, slots := 0, locals := 22 }
theorem dX11_type_0 : decode cX11_type 0 = .ok (.aload_n 0, 1) := by decide +kernel
theorem dX11_type_1 : decode cX11_type 1 = .ok (.iconst 0, 1) := by decide +kernel
theorem dX11_type_2 : decode cX11_type 2 = .ok (.putfield 29, 3) := by decide +kernel
theorem dX11_type_5 : decode cX11_type 5 = .ok (.iload_n 1, 1) := by decide +kernel
theorem dX11_type_6 : decode cX11_type 6 = .ok (.bipush 32, 2) := by decide +kernel
theorem dX11_type_8 : decode cX11_type 8 = .ok (.bipush 126, 2) := by decide +kernel
theorem dX11_type_10 : decode cX11_type 10 = .ok (.invokestatic 49, 3) := by decide +kernel
theorem dX11_type_13 : decode cX11_type 13 = .ok (.ifCond .ne 9, 3) := by decide +kernel
theorem dX11_type_16 : decode cX11_type 16 = .ok (.aload_n 0, 1) := by decide +kernel
theorem dX11_type_17 : decode cX11_type 17 = .ok (.iconst 1, 1) := by decide +kernel
theorem dX11_type_18 : decode cX11_type 18 = .ok (.invokevirtual 42, 3) := by decide +kernel
theorem dX11_type_21 : decode cX11_type 21 = .ok (.ireturn, 1) := by decide +kernel
theorem dX11_type_22 : decode cX11_type 22 = .ok (.aload_n 0, 1) := by decide +kernel
theorem dX11_type_23 : decode cX11_type 23 = .ok (.getfield 253, 3) := by decide +kernel
theorem dX11_type_26 : decode cX11_type 26 = .ok (.bipush 60, 2) := by decide +kernel
theorem dX11_type_28 : decode cX11_type 28 = .ok (.if_icmp .ne 9, 3) := by decide +kernel
theorem dX11_type_31 : decode cX11_type 31 = .ok (.aload_n 0, 1) := by decide +kernel
theorem dX11_type_32 : decode cX11_type 32 = .ok (.iconst 2, 1) := by decide +kernel
theorem dX11_type_33 : decode cX11_type 33 = .ok (.invokevirtual 42, 3) := by decide +kernel
theorem dX11_type_36 : decode cX11_type 36 = .ok (.ireturn, 1) := by decide +kernel
theorem dX11_type_37 : decode cX11_type 37 = .ok (.aload_n 0, 1) := by decide +kernel
theorem dX11_type_38 : decode cX11_type 38 = .ok (.getfield 22, 3) := by decide +kernel
theorem dX11_type_41 : decode cX11_type 41 = .ok (.aload_n 0, 1) := by decide +kernel
theorem dX11_type_42 : decode cX11_type 42 = .ok (.getfield 253, 3) := by decide +kernel
theorem dX11_type_45 : decode cX11_type 45 = .ok (.iload_n 1, 1) := by decide +kernel
theorem dX11_type_46 : decode cX11_type 46 = .ok (.iastore, 1) := by decide +kernel
theorem dX11_type_47 : decode cX11_type 47 = .ok (.aload_n 0, 1) := by decide +kernel
theorem dX11_type_48 : decode cX11_type 48 = .ok (.dup, 1) := by decide +kernel
theorem dX11_type_49 : decode cX11_type 49 = .ok (.getfield 253, 3) := by decide +kernel
theorem dX11_type_52 : decode cX11_type 52 = .ok (.iconst 1, 1) := by decide +kernel
theorem dX11_type_53 : decode cX11_type 53 = .ok (.iadd, 1) := by decide +kernel
theorem dX11_type_54 : decode cX11_type 54 = .ok (.putfield 253, 3) := by decide +kernel
theorem dX11_type_57 : decode cX11_type 57 = .ok (.aload_n 0, 1) := by decide +kernel
theorem dX11_type_58 : decode cX11_type 58 = .ok (.getfield 253, 3) := by decide +kernel
theorem dX11_type_61 : decode cX11_type 61 = .ok (.ireturn, 1) := by decide +kernel
set_option maxHeartbeats 8000000 in
set_option maxRecDepth 100000 in
theorem mX11_type (l : Launch) (G : gG) (da : Nat → Nat) (v : vSt) (x : gX) (r : Nat) (hk_r : kd r = 11) (p1 : Int32) (ho : oX11_type r p1 v) : MI l yX11_type cX11_type 2 (some .int) rmX11_type [.ref (ga G r), .int p1] G da v x 0 0 (fX11_type r p1 v).1 (fX11_type r p1 v).2 x := by
  refine gofMI (own := RX11) (by decide) rfl (Nat.le_of_ble_eq_true rfl) (fun p e s m args below meth c ls Q X hH hl E => ?_)
  have hx := X.1
  have hb := X.2.1
  have hown := X.2.2.2.1
  have hts := X.2.2.2.2.1
  have hS : va_S (gA G) s.heap s.heap [] := va_S.rf
  unfold oX11_type at ho
  have hl : lv_has ls 2 [(0, .ref (ga G r)), (1, .int p1)] := hl
  refine lv_aload_n hx hb dX11_type_0 rfl (lv_at hl 0 rfl) ?_
  refine lv_iconst (v := 0) hx hb dX11_type_1 (by decide) ?_
  refine p_VernierDrawersModel_29 X hH hS hk_r dX11_type_2 (fun H locs v1 ev1 hH hS => ?_)
  have ho := ho v1 ev1
  refine lv_iload_n hx hb dX11_type_5 rfl (lv_at hl 1 rfl) ?_
  refine lv_bipush (v := 32) hx hb dX11_type_6 (by decide) ?_
  refine lv_bipush (v := 126) hx hb dX11_type_8 (by decide) ?_
  refine k_X11_in X hS  t_ml_VernierDrawersModel_49 hl.1 (Nat.le_of_ble_eq_true rfl) ⟨Nat.le_of_ble_eq_true rfl, Nat.le_of_ble_eq_true rfl⟩ ⟨Nat.zero_le _, Nat.zero_le _⟩ dX11_type_10 ?_
  refine lv_if_ne (tgt := 22) hx hb dX11_type_13 (by decide) (fun c2 => ?_) (fun c2 => ?_)
  · have ho := ho c2
    refine lv_aload_n hx hb dX11_type_22 rfl (lv_at hl 0 rfl) ?_
    refine g_VernierDrawersModel_253 X hH hk_r dX11_type_23 ?_
    refine lv_bipush (v := 60) hx hb dX11_type_26 (by decide) ?_
    refine lv_icmp_ne (tgt := 37) hx hb dX11_type_28 (by decide) (fun c3 => ?_) (fun c3 => ?_)
    · have ho := ho c3
      refine lv_aload_n hx hb dX11_type_37 rfl (lv_at hl 0 rfl) ?_
      refine g_VernierDrawersModel_22 X hH hk_r dX11_type_38 ?_
      refine lv_aload_n hx hb dX11_type_41 rfl (lv_at hl 0 rfl) ?_
      refine g_VernierDrawersModel_253 X hH hk_r dX11_type_42 ?_
      refine lv_iload_n hx hb dX11_type_45 rfl (lv_at hl 1 rfl) ?_
      have hq4 := ho
      refine ast_32 X hH hS kd_466 hq4 dX11_type_46 (fun H locs v5 ev5 hH hS => ?_)
      refine lv_aload_n hx hb dX11_type_47 rfl (lv_at hl 0 rfl) ?_
      refine lv_dup hx hb dX11_type_48 rfl ?_
      refine g_VernierDrawersModel_253 X hH hk_r dX11_type_49 ?_
      refine lv_iconst (v := 1) hx hb dX11_type_52 (by decide) ?_
      refine lv_iadd hx hb dX11_type_53 ?_
      refine p_VernierDrawersModel_253 X hH hS hk_r dX11_type_54 (fun H locs v6 ev6 hH hS => ?_)
      refine lv_aload_n hx hb dX11_type_57 rfl (lv_at hl 0 rfl) ?_
      refine g_VernierDrawersModel_253 X hH hk_r dX11_type_58 ?_
      replace ev1 := Eq.symm ev1
      replace ev5 := Eq.symm ev5
      replace ev6 := Eq.symm ev6
      subst ev1 ev5 ev6
      exact E _ _ _ _ _ _ _ _ _ dX11_type_61 rfl (pr1 ((fX11_type.eq_1 _ _ _).trans ((if_neg c2).trans ((if_neg c3).trans rfl)))) (pr2 ((fX11_type.eq_1 _ _ _).trans ((if_neg c2).trans ((if_neg c3).trans rfl)))) hH hS (Nat.zero_le _) (Nat.zero_le _)
    · skip
      refine lv_aload_n hx hb dX11_type_31 rfl (lv_at hl 0 rfl) ?_
      refine lv_iconst (v := 2) hx hb dX11_type_32 (by decide) ?_
      refine k_X11_fails X hS hH hk_r t_ml_VernierDrawersModel_42 hl.1 (Nat.le_of_ble_eq_true rfl) ⟨Nat.le_of_ble_eq_true rfl, Nat.le_of_ble_eq_true rfl⟩ ⟨Nat.zero_le _, Nat.zero_le _⟩ dX11_type_33 (fun da H locs v7 ev7 hH hS => ?_)
      replace ev1 := Eq.symm ev1
      replace ev7 := Eq.symm ev7
      subst ev1 ev7
      exact E _ _ _ _ _ _ _ _ _ dX11_type_36 rfl (pr1 ((fX11_type.eq_1 _ _ _).trans ((if_neg c2).trans ((if_pos c3).trans rfl)))) (pr2 ((fX11_type.eq_1 _ _ _).trans ((if_neg c2).trans ((if_pos c3).trans rfl)))) hH hS (Nat.zero_le _) (Nat.zero_le _)
  · skip
    refine lv_aload_n hx hb dX11_type_16 rfl (lv_at hl 0 rfl) ?_
    refine lv_iconst (v := 1) hx hb dX11_type_17 (by decide) ?_
    refine k_X11_fails X hS hH hk_r t_ml_VernierDrawersModel_42 hl.1 (Nat.le_of_ble_eq_true rfl) ⟨Nat.le_of_ble_eq_true rfl, Nat.le_of_ble_eq_true rfl⟩ ⟨Nat.zero_le _, Nat.zero_le _⟩ dX11_type_18 (fun da H locs v8 ev8 hH hS => ?_)
    replace ev1 := Eq.symm ev1
    replace ev8 := Eq.symm ev8
    subst ev1 ev8
    exact E _ _ _ _ _ _ _ _ _ dX11_type_21 rfl (pr1 ((fX11_type.eq_1 _ _ _).trans ((if_pos c2).trans rfl))) (pr2 ((fX11_type.eq_1 _ _ _).trans ((if_pos c2).trans rfl))) hH hS (Nat.zero_le _) (Nat.zero_le _)
theorem k_X11_type {p : Program} {l : Launch} {e : Env} {R : Room} {s : State} {m : MethodId} {args : Array Value} {below : List Frame} {meth : Method} {c : Code} {H : Heap} {locs : List Loc} {cells slots : Nat} {Q : State → Prop} {cc : ByteArray} {pc nL : Nat} {ls : Array Slot} {rest : List Value} {G : gG} {own : String} {da : Nat → Nat} {v : vSt} {x : gX} (X : CX G p s m args c cc nL own) (hS : va_S (gA G) s.heap H locs) (hH : Hp G da v x H) {r : Nat} (hk_r : kd r = 11) {p1 : Int32} (ho : oX11_type r p1 v) {idx : Nat} (hml : Cond.methodLink own idx yX11_type ∈ TT) (hls : ls.size = nL) (hsum : (rest.map fun v => v.category).sum ≤ 8) (hR : rmX11_type.frames + 1 ≤ R.frames ∧ 8 + (2 + 11) + rmX11_type.locals ≤ R.locals) (hcs : cells ≤ R.cells ∧ slots ≤ R.slots) (hdg : decode cc pc = .ok (.invokevirtual idx, 3)) (kk : ∀ (d : Nat → Nat) (H1 : Heap) (locs1 : List Loc) (v1 : vSt), v1 = (fX11_type r p1 v).2 → Hp G d v1 x H1 → va_S (gA G) s.heap H1 locs1 → W p l e R s m args below meth c H1 locs1 cells slots Q (F0 m (pc + 3) ls (.int (fX11_type r p1 v).1 :: rest))) : W p l e R s m args below meth c H locs cells slots Q (F0 m pc ls (.int p1 :: .ref (ga G r) :: rest)) := c_mi X.2.2.2.2.2.2 (runV (k := 1) X.1 X.2.1 X.2.2.1 X.2.2.2.1 X.2.2.2.2.1 (mX11_type l G da v x r hk_r p1 ho) pW_bl hml t_im_X11_type t_sel_X11_type t_ini_VernierDrawersModel t_code_X11_type ⟨rfl, by decide, by decide, by decide +kernel⟩ rfl rfl hR hcs (recvW X hH (by rw [hk_r]; decide) (by rw [hk_r]; decide) (ce_11 hk_r) rfl) (preW X hS hH) rfl hls rfl hsum hdg) hS kk
