/-! 17.model -/
def fX11_toldReading (r : Nat) (p1 : Int32) (p2 : Int32) (p3 : Int32) (v : vSt) : Int32 × vSt := let y2 : Int32 := (if ((fX11_isTool r p1 v) : Int32) = 0 then 0 else (if ((fX11_isMaterial p2) : Int32) = 0 then 0 else (if ((fX11_isLength p3) : Int32) = 0 then 0 else 1)) : Int32); let v5 : vSt := (fX11_asks r y2 v).2; if (((fX11_asks r y2 v).1) : Int32) = 0 then ((0, v5)) else (if (0 : Int32) ≤ (fX11_reading r p1 p2 p3 v5) then ((fX11_reading r p1 p2 p3 v5, v5)) else (let v9 : vSt := (fX11_fails r 2 v5).2; ((fX11_fails r 2 v5).1, v9)))
def oX11_toldReading (r : Nat) (p1 : Int32) (p2 : Int32) (p3 : Int32) (v : vSt) : Prop := (oX11_isTool r p1 v) ∧ ((∀ (y2 : Int32), y2 = ((if ((fX11_isTool r p1 v) : Int32) = 0 then 0 else (if ((fX11_isMaterial p2) : Int32) = 0 then 0 else (if ((fX11_isLength p3) : Int32) = 0 then 0 else 1)) : Int32) : Int32) → ((oX11_asks r y2 v) ∧ (∀ v5 : vSt, v5 = ((fX11_asks r y2 v).2) → (¬ ((((fX11_asks r y2 v).1) : Int32) = 0) → (oX11_reading r p1 p2 p3 v5))))))
abbrev rmX11_toldReading : Room := { frames := 3, cells := 0, slots := 0, locals := 70 }
theorem dX11_toldReading_0 : decode cX11_toldReading 0 = .ok (.aload_n 0, 1) := by decide +kernel
theorem dX11_toldReading_1 : decode cX11_toldReading 1 = .ok (.aload_n 0, 1) := by decide +kernel
theorem dX11_toldReading_2 : decode cX11_toldReading 2 = .ok (.iload_n 1, 1) := by decide +kernel
theorem dX11_toldReading_3 : decode cX11_toldReading 3 = .ok (.invokevirtual 129, 3) := by decide +kernel
theorem dX11_toldReading_6 : decode cX11_toldReading 6 = .ok (.ifCond .eq 21, 3) := by decide +kernel
theorem dX11_toldReading_9 : decode cX11_toldReading 9 = .ok (.iload_n 2, 1) := by decide +kernel
theorem dX11_toldReading_10 : decode cX11_toldReading 10 = .ok (.invokestatic 132, 3) := by decide +kernel
theorem dX11_toldReading_13 : decode cX11_toldReading 13 = .ok (.ifCond .eq 14, 3) := by decide +kernel
theorem dX11_toldReading_16 : decode cX11_toldReading 16 = .ok (.iload_n 3, 1) := by decide +kernel
theorem dX11_toldReading_17 : decode cX11_toldReading 17 = .ok (.invokestatic 135, 3) := by decide +kernel
theorem dX11_toldReading_20 : decode cX11_toldReading 20 = .ok (.ifCond .eq 7, 3) := by decide +kernel
theorem dX11_toldReading_23 : decode cX11_toldReading 23 = .ok (.iconst 1, 1) := by decide +kernel
theorem dX11_toldReading_24 : decode cX11_toldReading 24 = .ok (.goto 4, 3) := by decide +kernel
theorem dX11_toldReading_27 : decode cX11_toldReading 27 = .ok (.iconst 0, 1) := by decide +kernel
theorem dX11_toldReading_28 : decode cX11_toldReading 28 = .ok (.invokevirtual 214, 3) := by decide +kernel
theorem dX11_toldReading_31 : decode cX11_toldReading 31 = .ok (.ifCond .ne 5, 3) := by decide +kernel
theorem dX11_toldReading_34 : decode cX11_toldReading 34 = .ok (.iconst 0, 1) := by decide +kernel
theorem dX11_toldReading_35 : decode cX11_toldReading 35 = .ok (.ireturn, 1) := by decide +kernel
theorem dX11_toldReading_36 : decode cX11_toldReading 36 = .ok (.aload_n 0, 1) := by decide +kernel
theorem dX11_toldReading_37 : decode cX11_toldReading 37 = .ok (.iload_n 1, 1) := by decide +kernel
theorem dX11_toldReading_38 : decode cX11_toldReading 38 = .ok (.iload_n 2, 1) := by decide +kernel
theorem dX11_toldReading_39 : decode cX11_toldReading 39 = .ok (.iload_n 3, 1) := by decide +kernel
theorem dX11_toldReading_40 : decode cX11_toldReading 40 = .ok (.invokevirtual 99, 3) := by decide +kernel
theorem dX11_toldReading_43 : decode cX11_toldReading 43 = .ok (.istore 4, 2) := by decide +kernel
theorem dX11_toldReading_45 : decode cX11_toldReading 45 = .ok (.iload 4, 2) := by decide +kernel
theorem dX11_toldReading_47 : decode cX11_toldReading 47 = .ok (.ifCond .ge 11, 3) := by decide +kernel
theorem dX11_toldReading_50 : decode cX11_toldReading 50 = .ok (.aload_n 0, 1) := by decide +kernel
theorem dX11_toldReading_51 : decode cX11_toldReading 51 = .ok (.iconst 2, 1) := by decide +kernel
theorem dX11_toldReading_52 : decode cX11_toldReading 52 = .ok (.invokevirtual 42, 3) := by decide +kernel
theorem dX11_toldReading_55 : decode cX11_toldReading 55 = .ok (.goto 5, 3) := by decide +kernel
theorem dX11_toldReading_58 : decode cX11_toldReading 58 = .ok (.iload 4, 2) := by decide +kernel
theorem dX11_toldReading_60 : decode cX11_toldReading 60 = .ok (.ireturn, 1) := by decide +kernel
set_option maxHeartbeats 8000000 in
set_option maxRecDepth 100000 in
theorem mX11_toldReading (l : Launch) (G : gG) (da : Nat → Nat) (v : vSt) (x : gX) (r : Nat) (hk_r : kd r = 11) (p1 : Int32) (p2 : Int32) (p3 : Int32) (ho : oX11_toldReading r p1 p2 p3 v) : MI l yX11_toldReading cX11_toldReading 5 (some .int) rmX11_toldReading [.ref (ga G r), .int p1, .int p2, .int p3] G da v x 0 0 (fX11_toldReading r p1 p2 p3 v).1 (fX11_toldReading r p1 p2 p3 v).2 x := by
  refine gofMI (own := RX11) (by decide) rfl (Nat.le_of_ble_eq_true rfl) (fun p e s m args below meth c ls Q X hH hl E => ?_)
  have hx := X.1
  have hb := X.2.1
  have hown := X.2.2.2.1
  have hts := X.2.2.2.2.1
  have hS : va_S (gA G) s.heap s.heap [] := va_S.rf
  unfold oX11_toldReading at ho
  have hl : lv_has ls 5 [(0, .ref (ga G r)), (1, .int p1), (2, .int p2), (3, .int p3)] := hl
  refine lv_aload_n hx hb dX11_toldReading_0 rfl (lv_at hl 0 rfl) ?_
  refine lv_aload_n hx hb dX11_toldReading_1 rfl (lv_at hl 0 rfl) ?_
  refine lv_iload_n hx hb dX11_toldReading_2 rfl (lv_at hl 1 rfl) ?_
  have hq1 := ho.1
  have ho := ho.2
  refine k_X11_isTool X hS hH hk_r hq1 t_ml_VernierDrawersModel_129 hl.1 (Nat.le_of_ble_eq_true rfl) ⟨Nat.le_of_ble_eq_true rfl, Nat.le_of_ble_eq_true rfl⟩ ⟨Nat.zero_le _, Nat.zero_le _⟩ dX11_toldReading_3 ?_
  have K3 : ∀ (y2 : Int32) (ls : Array Slot), y2 = (if ((fX11_isTool r p1 v) : Int32) = 0 then 0 else (if ((fX11_isMaterial p2) : Int32) = 0 then 0 else (if ((fX11_isLength p3) : Int32) = 0 then 0 else 1)) : Int32) → lv_has ls 5 [(0, .ref (ga G r)), (1, .int p1), (2, .int p2), (3, .int p3)] → W p l e rmX11_toldReading s m args below meth c s.heap [] 0 0 Q (F0 m 28 ls [.int y2, .ref (ga G r)]) := by
    intro y2 ls ey2 hl
    have ho := ho y2 ey2
    have hq4 := ho.1
    have ho := ho.2
    refine k_X11_asks X hS hH hk_r hq4 t_ml_VernierDrawersModel_214 hl.1 (Nat.le_of_ble_eq_true rfl) ⟨Nat.le_of_ble_eq_true rfl, Nat.le_of_ble_eq_true rfl⟩ ⟨Nat.zero_le _, Nat.zero_le _⟩ dX11_toldReading_28 (fun da H locs v5 ev5 hH hS => ?_)
    have ho := ho v5 ev5
    refine lv_if_ne (tgt := 36) hx hb dX11_toldReading_31 (by decide) (fun c6 => ?_) (fun c6 => ?_)
    · have ho := ho c6
      refine lv_aload_n hx hb dX11_toldReading_36 rfl (lv_at hl 0 rfl) ?_
      refine lv_iload_n hx hb dX11_toldReading_37 rfl (lv_at hl 1 rfl) ?_
      refine lv_iload_n hx hb dX11_toldReading_38 rfl (lv_at hl 2 rfl) ?_
      refine lv_iload_n hx hb dX11_toldReading_39 rfl (lv_at hl 3 rfl) ?_
      have hq7 := ho
      refine k_X11_reading X hS hH hk_r hq7 t_ml_VernierDrawersModel_99 hl.1 (Nat.le_of_ble_eq_true rfl) ⟨Nat.le_of_ble_eq_true rfl, Nat.le_of_ble_eq_true rfl⟩ ⟨Nat.zero_le _, Nat.zero_le _⟩ dX11_toldReading_40 ?_
      refine lv_istore (lv' := [(4, .int (fX11_reading r p1 p2 p3 v5)), (0, .ref (ga G r)), (1, .int p1), (2, .int p2), (3, .int p3)]) hx hb dX11_toldReading_43 hl (by decide) rfl (fun ls hl => ?_)
      refine lv_iload hx hb dX11_toldReading_45 (lv_at hl 0 rfl) ?_
      refine lv_if_ge (tgt := 58) hx hb dX11_toldReading_47 (by decide) (fun c8 => ?_) (fun c8 => ?_)
      · skip
        refine lv_iload hx hb dX11_toldReading_58 (lv_at hl 0 rfl) ?_
        replace ey2 := Eq.symm ey2
        replace ev5 := Eq.symm ev5
        subst ey2 ev5
        exact E _ _ _ _ _ _ _ _ _ dX11_toldReading_60 rfl (pr1 ((fX11_toldReading.eq_1 _ _ _ _ _).trans ((if_neg c6).trans ((if_pos c8).trans rfl)))) (pr2 ((fX11_toldReading.eq_1 _ _ _ _ _).trans ((if_neg c6).trans ((if_pos c8).trans rfl)))) hH hS (Nat.zero_le _) (Nat.zero_le _)
      · skip
        refine lv_aload_n hx hb dX11_toldReading_50 rfl (lv_at hl 1 rfl) ?_
        refine lv_iconst (v := 2) hx hb dX11_toldReading_51 (by decide) ?_
        refine k_X11_fails X hS hH hk_r t_ml_VernierDrawersModel_42 hl.1 (Nat.le_of_ble_eq_true rfl) ⟨Nat.le_of_ble_eq_true rfl, Nat.le_of_ble_eq_true rfl⟩ ⟨Nat.zero_le _, Nat.zero_le _⟩ dX11_toldReading_52 (fun da H locs v9 ev9 hH hS => ?_)
        refine lv_goto (tgt := 60) hx hb dX11_toldReading_55 (by decide) ?_
        replace ey2 := Eq.symm ey2
        replace ev5 := Eq.symm ev5
        replace ev9 := Eq.symm ev9
        subst ey2 ev5 ev9
        exact E _ _ _ _ _ _ _ _ _ dX11_toldReading_60 rfl (pr1 ((fX11_toldReading.eq_1 _ _ _ _ _).trans ((if_neg c6).trans ((if_neg c8).trans rfl)))) (pr2 ((fX11_toldReading.eq_1 _ _ _ _ _).trans ((if_neg c6).trans ((if_neg c8).trans rfl)))) hH hS (Nat.zero_le _) (Nat.zero_le _)
    · skip
      refine lv_iconst (v := 0) hx hb dX11_toldReading_34 (by decide) ?_
      replace ey2 := Eq.symm ey2
      replace ev5 := Eq.symm ev5
      subst ey2 ev5
      exact E _ _ _ _ _ _ _ _ _ dX11_toldReading_35 rfl (pr1 ((fX11_toldReading.eq_1 _ _ _ _ _).trans ((if_pos c6).trans rfl))) (pr2 ((fX11_toldReading.eq_1 _ _ _ _ _).trans ((if_pos c6).trans rfl))) hH hS (Nat.zero_le _) (Nat.zero_le _)
  refine lv_if_eq (tgt := 27) hx hb dX11_toldReading_6 (by decide) (fun c3 => ?_) (fun c3 => ?_)
  · skip
    refine lv_iconst (v := 0) hx hb dX11_toldReading_27 (by decide) ?_
    exact K3 _ _ (Eq.symm ((if_pos c3).trans rfl)) (lv_sub hl [0, 1, 2, 3] rfl)
  · skip
    refine lv_iload_n hx hb dX11_toldReading_9 rfl (lv_at hl 2 rfl) ?_
    refine k_X11_isMaterial X hS  t_ml_VernierDrawersModel_132 hl.1 (Nat.le_of_ble_eq_true rfl) ⟨Nat.le_of_ble_eq_true rfl, Nat.le_of_ble_eq_true rfl⟩ ⟨Nat.zero_le _, Nat.zero_le _⟩ dX11_toldReading_10 ?_
    refine lv_if_eq (tgt := 27) hx hb dX11_toldReading_13 (by decide) (fun c4 => ?_) (fun c4 => ?_)
    · skip
      refine lv_iconst (v := 0) hx hb dX11_toldReading_27 (by decide) ?_
      exact K3 _ _ (Eq.symm ((if_neg c3).trans ((if_pos c4).trans rfl))) (lv_sub hl [0, 1, 2, 3] rfl)
    · skip
      refine lv_iload_n hx hb dX11_toldReading_16 rfl (lv_at hl 3 rfl) ?_
      refine k_X11_isLength X hS  t_ml_VernierDrawersModel_135 hl.1 (Nat.le_of_ble_eq_true rfl) ⟨Nat.le_of_ble_eq_true rfl, Nat.le_of_ble_eq_true rfl⟩ ⟨Nat.zero_le _, Nat.zero_le _⟩ dX11_toldReading_17 ?_
      refine lv_if_eq (tgt := 27) hx hb dX11_toldReading_20 (by decide) (fun c5 => ?_) (fun c5 => ?_)
      · skip
        refine lv_iconst (v := 0) hx hb dX11_toldReading_27 (by decide) ?_
        exact K3 _ _ (Eq.symm ((if_neg c3).trans ((if_neg c4).trans ((if_pos c5).trans rfl)))) (lv_sub hl [0, 1, 2, 3] rfl)
      · skip
        refine lv_iconst (v := 1) hx hb dX11_toldReading_23 (by decide) ?_
        refine lv_goto (tgt := 28) hx hb dX11_toldReading_24 (by decide) ?_
        exact K3 _ _ (Eq.symm ((if_neg c3).trans ((if_neg c4).trans ((if_neg c5).trans rfl)))) (lv_sub hl [0, 1, 2, 3] rfl)
theorem k_X11_toldReading {p : Program} {l : Launch} {e : Env} {R : Room} {s : State} {m : MethodId} {args : Array Value} {below : List Frame} {meth : Method} {c : Code} {H : Heap} {locs : List Loc} {cells slots : Nat} {Q : State → Prop} {cc : ByteArray} {pc nL : Nat} {ls : Array Slot} {rest : List Value} {G : gG} {own : String} {da : Nat → Nat} {v : vSt} {x : gX} (X : CX G p s m args c cc nL own) (hS : va_S (gA G) s.heap H locs) (hH : Hp G da v x H) {r : Nat} (hk_r : kd r = 11) {p1 : Int32} {p2 : Int32} {p3 : Int32} (ho : oX11_toldReading r p1 p2 p3 v) {idx : Nat} (hml : Cond.methodLink own idx yX11_toldReading ∈ TT) (hls : ls.size = nL) (hsum : (rest.map fun v => v.category).sum ≤ 8) (hR : rmX11_toldReading.frames + 1 ≤ R.frames ∧ 8 + (5 + 11) + rmX11_toldReading.locals ≤ R.locals) (hcs : cells ≤ R.cells ∧ slots ≤ R.slots) (hdg : decode cc pc = .ok (.invokevirtual idx, 3)) (kk : ∀ (d : Nat → Nat) (H1 : Heap) (locs1 : List Loc) (v1 : vSt), v1 = (fX11_toldReading r p1 p2 p3 v).2 → Hp G d v1 x H1 → va_S (gA G) s.heap H1 locs1 → W p l e R s m args below meth c H1 locs1 cells slots Q (F0 m (pc + 3) ls (.int (fX11_toldReading r p1 p2 p3 v).1 :: rest))) : W p l e R s m args below meth c H locs cells slots Q (F0 m pc ls (.int p3 :: .int p2 :: .int p1 :: .ref (ga G r) :: rest)) := c_mi X.2.2.2.2.2.2 (runV (k := 3) X.1 X.2.1 X.2.2.1 X.2.2.2.1 X.2.2.2.2.1 (mX11_toldReading l G da v x r hk_r p1 p2 p3 ho) pW_bl hml t_im_X11_toldReading t_sel_X11_toldReading t_ini_VernierDrawersModel t_code_X11_toldReading ⟨rfl, by decide, by decide, by decide +kernel⟩ rfl rfl hR hcs (recvW X hH (by rw [hk_r]; decide) (by rw [hk_r]; decide) (ce_11 hk_r) rfl) (preW X hS hH) rfl hls rfl hsum hdg) hS kk
def fX11_readingFor (r : Nat) (p1 : Int32) (p2 : Int32) (p3 : Int32) (v : vSt) : Int32 × vSt := let v2 : vSt := (fX11_toldReading r p1 p2 p3 v).2; ((fX11_toldReading r p1 p2 p3 v).1, v2)
def oX11_readingFor (r : Nat) (p1 : Int32) (p2 : Int32) (p3 : Int32) (v : vSt) : Prop := oX11_toldReading r p1 p2 p3 v
abbrev rmX11_readingFor : Room := { frames := 4, cells := 0, slots := 0, locals := 94 }
theorem dX11_readingFor_0 : decode cX11_readingFor 0 = .ok (.aload_n 0, 1) := by decide +kernel
theorem dX11_readingFor_1 : decode cX11_readingFor 1 = .ok (.iload_n 1, 1) := by decide +kernel
theorem dX11_readingFor_2 : decode cX11_readingFor 2 = .ok (.iload_n 2, 1) := by decide +kernel
theorem dX11_readingFor_3 : decode cX11_readingFor 3 = .ok (.iload_n 3, 1) := by decide +kernel
theorem dX11_readingFor_4 : decode cX11_readingFor 4 = .ok (.invokevirtual 224, 3) := by decide +kernel
theorem dX11_readingFor_7 : decode cX11_readingFor 7 = .ok (.ireturn, 1) := by decide +kernel
set_option maxHeartbeats 8000000 in
set_option maxRecDepth 100000 in
theorem mX11_readingFor (l : Launch) (G : gG) (da : Nat → Nat) (v : vSt) (x : gX) (r : Nat) (hk_r : kd r = 11) (p1 : Int32) (p2 : Int32) (p3 : Int32) (ho : oX11_readingFor r p1 p2 p3 v) : MI l yX11_readingFor cX11_readingFor 4 (some .int) rmX11_readingFor [.ref (ga G r), .int p1, .int p2, .int p3] G da v x 0 0 (fX11_readingFor r p1 p2 p3 v).1 (fX11_readingFor r p1 p2 p3 v).2 x := by
  refine gofMI (own := RX11) (by decide) rfl (Nat.le_of_ble_eq_true rfl) (fun p e s m args below meth c ls Q X hH hl E => ?_)
  have hx := X.1
  have hb := X.2.1
  have hown := X.2.2.2.1
  have hts := X.2.2.2.2.1
  have hS : va_S (gA G) s.heap s.heap [] := va_S.rf
  unfold oX11_readingFor at ho
  have hl : lv_has ls 4 [(0, .ref (ga G r)), (1, .int p1), (2, .int p2), (3, .int p3)] := hl
  refine lv_aload_n hx hb dX11_readingFor_0 rfl (lv_at hl 0 rfl) ?_
  refine lv_iload_n hx hb dX11_readingFor_1 rfl (lv_at hl 1 rfl) ?_
  refine lv_iload_n hx hb dX11_readingFor_2 rfl (lv_at hl 2 rfl) ?_
  refine lv_iload_n hx hb dX11_readingFor_3 rfl (lv_at hl 3 rfl) ?_
  have hq1 := ho
  refine k_X11_toldReading X hS hH hk_r hq1 t_ml_VernierDrawersModel_224 hl.1 (Nat.le_of_ble_eq_true rfl) ⟨Nat.le_of_ble_eq_true rfl, Nat.le_of_ble_eq_true rfl⟩ ⟨Nat.zero_le _, Nat.zero_le _⟩ dX11_readingFor_4 (fun da H locs v2 ev2 hH hS => ?_)
  replace ev2 := Eq.symm ev2
  subst ev2
  exact E _ _ _ _ _ _ _ _ _ dX11_readingFor_7 rfl (pr1 rfl) (pr2 rfl) hH hS (Nat.zero_le _) (Nat.zero_le _)
theorem k_X11_readingFor {p : Program} {l : Launch} {e : Env} {R : Room} {s : State} {m : MethodId} {args : Array Value} {below : List Frame} {meth : Method} {c : Code} {H : Heap} {locs : List Loc} {cells slots : Nat} {Q : State → Prop} {cc : ByteArray} {pc nL : Nat} {ls : Array Slot} {rest : List Value} {G : gG} {own : String} {da : Nat → Nat} {v : vSt} {x : gX} (X : CX G p s m args c cc nL own) (hS : va_S (gA G) s.heap H locs) (hH : Hp G da v x H) {r : Nat} (hk_r : kd r = 11) {p1 : Int32} {p2 : Int32} {p3 : Int32} (ho : oX11_readingFor r p1 p2 p3 v) {idx : Nat} (hml : Cond.methodLink own idx yX11_readingFor ∈ TT) (hls : ls.size = nL) (hsum : (rest.map fun v => v.category).sum ≤ 8) (hR : rmX11_readingFor.frames + 1 ≤ R.frames ∧ 8 + (4 + 11) + rmX11_readingFor.locals ≤ R.locals) (hcs : cells ≤ R.cells ∧ slots ≤ R.slots) (hdg : decode cc pc = .ok (.invokevirtual idx, 3)) (kk : ∀ (d : Nat → Nat) (H1 : Heap) (locs1 : List Loc) (v1 : vSt), v1 = (fX11_readingFor r p1 p2 p3 v).2 → Hp G d v1 x H1 → va_S (gA G) s.heap H1 locs1 → W p l e R s m args below meth c H1 locs1 cells slots Q (F0 m (pc + 3) ls (.int (fX11_readingFor r p1 p2 p3 v).1 :: rest))) : W p l e R s m args below meth c H locs cells slots Q (F0 m pc ls (.int p3 :: .int p2 :: .int p1 :: .ref (ga G r) :: rest)) := c_mi X.2.2.2.2.2.2 (runV (k := 3) X.1 X.2.1 X.2.2.1 X.2.2.2.1 X.2.2.2.2.1 (mX11_readingFor l G da v x r hk_r p1 p2 p3 ho) pW_bl hml t_im_X11_readingFor t_sel_X11_readingFor t_ini_VernierDrawersModel t_code_X11_readingFor ⟨rfl, by decide, by decide, by decide +kernel⟩ rfl rfl hR hcs (recvW X hH (by rw [hk_r]; decide) (by rw [hk_r]; decide) (ce_11 hk_r) rfl) (preW X hS hH) rfl hls rfl hsum hdg) hS kk
def fX11_readingByLooking (r : Nat) (p1 : Int32) (p2 : Int32) (p3 : Int32) (v : vSt) : Int32 × vSt := let v2 : vSt := (fX11_toldReading r p1 p2 p3 v).2; ((fX11_toldReading r p1 p2 p3 v).1, v2)
def oX11_readingByLooking (r : Nat) (p1 : Int32) (p2 : Int32) (p3 : Int32) (v : vSt) : Prop := oX11_toldReading r p1 p2 p3 v
abbrev rmX11_readingByLooking : Room := { frames := 4, cells := 0, slots := 0, locals := 94 }
theorem dX11_readingByLooking_0 : decode cX11_readingByLooking 0 = .ok (.aload_n 0, 1) := by decide +kernel
theorem dX11_readingByLooking_1 : decode cX11_readingByLooking 1 = .ok (.iload_n 1, 1) := by decide +kernel
theorem dX11_readingByLooking_2 : decode cX11_readingByLooking 2 = .ok (.iload_n 2, 1) := by decide +kernel
theorem dX11_readingByLooking_3 : decode cX11_readingByLooking 3 = .ok (.iload_n 3, 1) := by decide +kernel
theorem dX11_readingByLooking_4 : decode cX11_readingByLooking 4 = .ok (.invokevirtual 224, 3) := by decide +kernel
theorem dX11_readingByLooking_7 : decode cX11_readingByLooking 7 = .ok (.ireturn, 1) := by decide +kernel
set_option maxHeartbeats 8000000 in
set_option maxRecDepth 100000 in
theorem mX11_readingByLooking (l : Launch) (G : gG) (da : Nat → Nat) (v : vSt) (x : gX) (r : Nat) (hk_r : kd r = 11) (p1 : Int32) (p2 : Int32) (p3 : Int32) (ho : oX11_readingByLooking r p1 p2 p3 v) : MI l yX11_readingByLooking cX11_readingByLooking 4 (some .int) rmX11_readingByLooking [.ref (ga G r), .int p1, .int p2, .int p3] G da v x 0 0 (fX11_readingByLooking r p1 p2 p3 v).1 (fX11_readingByLooking r p1 p2 p3 v).2 x := by
  refine gofMI (own := RX11) (by decide) rfl (Nat.le_of_ble_eq_true rfl) (fun p e s m args below meth c ls Q X hH hl E => ?_)
  have hx := X.1
  have hb := X.2.1
  have hown := X.2.2.2.1
  have hts := X.2.2.2.2.1
  have hS : va_S (gA G) s.heap s.heap [] := va_S.rf
  unfold oX11_readingByLooking at ho
  have hl : lv_has ls 4 [(0, .ref (ga G r)), (1, .int p1), (2, .int p2), (3, .int p3)] := hl
  refine lv_aload_n hx hb dX11_readingByLooking_0 rfl (lv_at hl 0 rfl) ?_
  refine lv_iload_n hx hb dX11_readingByLooking_1 rfl (lv_at hl 1 rfl) ?_
  refine lv_iload_n hx hb dX11_readingByLooking_2 rfl (lv_at hl 2 rfl) ?_
  refine lv_iload_n hx hb dX11_readingByLooking_3 rfl (lv_at hl 3 rfl) ?_
  have hq1 := ho
  refine k_X11_toldReading X hS hH hk_r hq1 t_ml_VernierDrawersModel_224 hl.1 (Nat.le_of_ble_eq_true rfl) ⟨Nat.le_of_ble_eq_true rfl, Nat.le_of_ble_eq_true rfl⟩ ⟨Nat.zero_le _, Nat.zero_le _⟩ dX11_readingByLooking_4 (fun da H locs v2 ev2 hH hS => ?_)
  replace ev2 := Eq.symm ev2
  subst ev2
  exact E _ _ _ _ _ _ _ _ _ dX11_readingByLooking_7 rfl (pr1 rfl) (pr2 rfl) hH hS (Nat.zero_le _) (Nat.zero_le _)
theorem k_X11_readingByLooking {p : Program} {l : Launch} {e : Env} {R : Room} {s : State} {m : MethodId} {args : Array Value} {below : List Frame} {meth : Method} {c : Code} {H : Heap} {locs : List Loc} {cells slots : Nat} {Q : State → Prop} {cc : ByteArray} {pc nL : Nat} {ls : Array Slot} {rest : List Value} {G : gG} {own : String} {da : Nat → Nat} {v : vSt} {x : gX} (X : CX G p s m args c cc nL own) (hS : va_S (gA G) s.heap H locs) (hH : Hp G da v x H) {r : Nat} (hk_r : kd r = 11) {p1 : Int32} {p2 : Int32} {p3 : Int32} (ho : oX11_readingByLooking r p1 p2 p3 v) {idx : Nat} (hml : Cond.methodLink own idx yX11_readingByLooking ∈ TT) (hls : ls.size = nL) (hsum : (rest.map fun v => v.category).sum ≤ 8) (hR : rmX11_readingByLooking.frames + 1 ≤ R.frames ∧ 8 + (4 + 11) + rmX11_readingByLooking.locals ≤ R.locals) (hcs : cells ≤ R.cells ∧ slots ≤ R.slots) (hdg : decode cc pc = .ok (.invokevirtual idx, 3)) (kk : ∀ (d : Nat → Nat) (H1 : Heap) (locs1 : List Loc) (v1 : vSt), v1 = (fX11_readingByLooking r p1 p2 p3 v).2 → Hp G d v1 x H1 → va_S (gA G) s.heap H1 locs1 → W p l e R s m args below meth c H1 locs1 cells slots Q (F0 m (pc + 3) ls (.int (fX11_readingByLooking r p1 p2 p3 v).1 :: rest))) : W p l e R s m args below meth c H locs cells slots Q (F0 m pc ls (.int p3 :: .int p2 :: .int p1 :: .ref (ga G r) :: rest)) := c_mi X.2.2.2.2.2.2 (runV (k := 3) X.1 X.2.1 X.2.2.1 X.2.2.2.1 X.2.2.2.2.1 (mX11_readingByLooking l G da v x r hk_r p1 p2 p3 ho) pW_bl hml t_im_X11_readingByLooking t_sel_X11_readingByLooking t_ini_VernierDrawersModel t_code_X11_readingByLooking ⟨rfl, by decide, by decide, by decide +kernel⟩ rfl rfl hR hcs (recvW X hH (by rw [hk_r]; decide) (by rw [hk_r]; decide) (ce_11 hk_r) rfl) (preW X hS hH) rfl hls rfl hsum hdg) hS kk
def fX11_markFor (r : Nat) (p1 : Int32) (p2 : Int32) (p3 : Int32) (v : vSt) : Int32 × vSt := let v2 : vSt := (fX11_toldReading r p1 p2 p3 v).2; if ((v2 r 8) : Int32) ≤ 0 then ((((fX11_toldReading r p1 p2 p3 v).1) / (fX11_apart r p1 v2), v2)) else ((0, v2))
def oX11_markFor (r : Nat) (p1 : Int32) (p2 : Int32) (p3 : Int32) (v : vSt) : Prop := (oX11_toldReading r p1 p2 p3 v) ∧ (∀ v2 : vSt, v2 = ((fX11_toldReading r p1 p2 p3 v).2) → ((((v2 r 8) : Int32) ≤ 0) → ((oX11_apart r p1 v2) ∧ (¬ (fX11_apart r p1 v2 : Int32) = 0))))
abbrev rmX11_markFor : Room := { frames := 4, cells := 0, slots := 0, locals := 94 }
theorem dX11_markFor_0 : decode cX11_markFor 0 = .ok (.aload_n 0, 1) := by decide +kernel
theorem dX11_markFor_1 : decode cX11_markFor 1 = .ok (.iload_n 1, 1) := by decide +kernel
theorem dX11_markFor_2 : decode cX11_markFor 2 = .ok (.iload_n 2, 1) := by decide +kernel
theorem dX11_markFor_3 : decode cX11_markFor 3 = .ok (.iload_n 3, 1) := by decide +kernel
theorem dX11_markFor_4 : decode cX11_markFor 4 = .ok (.invokevirtual 224, 3) := by decide +kernel
theorem dX11_markFor_7 : decode cX11_markFor 7 = .ok (.istore 4, 2) := by decide +kernel
theorem dX11_markFor_9 : decode cX11_markFor 9 = .ok (.aload_n 0, 1) := by decide +kernel
theorem dX11_markFor_10 : decode cX11_markFor 10 = .ok (.getfield 29, 3) := by decide +kernel
theorem dX11_markFor_13 : decode cX11_markFor 13 = .ok (.ifCond .le 7, 3) := by decide +kernel
theorem dX11_markFor_16 : decode cX11_markFor 16 = .ok (.iconst 0, 1) := by decide +kernel
theorem dX11_markFor_17 : decode cX11_markFor 17 = .ok (.goto 11, 3) := by decide +kernel
theorem dX11_markFor_20 : decode cX11_markFor 20 = .ok (.iload 4, 2) := by decide +kernel
theorem dX11_markFor_22 : decode cX11_markFor 22 = .ok (.aload_n 0, 1) := by decide +kernel
theorem dX11_markFor_23 : decode cX11_markFor 23 = .ok (.iload_n 1, 1) := by decide +kernel
theorem dX11_markFor_24 : decode cX11_markFor 24 = .ok (.invokevirtual 227, 3) := by decide +kernel
theorem dX11_markFor_27 : decode cX11_markFor 27 = .ok (.idiv, 1) := by decide +kernel
theorem dX11_markFor_28 : decode cX11_markFor 28 = .ok (.ireturn, 1) := by decide +kernel
set_option maxHeartbeats 8000000 in
set_option maxRecDepth 100000 in
theorem mX11_markFor (l : Launch) (G : gG) (da : Nat → Nat) (v : vSt) (x : gX) (r : Nat) (hk_r : kd r = 11) (p1 : Int32) (p2 : Int32) (p3 : Int32) (ho : oX11_markFor r p1 p2 p3 v) : MI l yX11_markFor cX11_markFor 5 (some .int) rmX11_markFor [.ref (ga G r), .int p1, .int p2, .int p3] G da v x 0 0 (fX11_markFor r p1 p2 p3 v).1 (fX11_markFor r p1 p2 p3 v).2 x := by
  refine gofMI (own := RX11) (by decide) rfl (Nat.le_of_ble_eq_true rfl) (fun p e s m args below meth c ls Q X hH hl E => ?_)
  have hx := X.1
  have hb := X.2.1
  have hown := X.2.2.2.1
  have hts := X.2.2.2.2.1
  have hS : va_S (gA G) s.heap s.heap [] := va_S.rf
  unfold oX11_markFor at ho
  have hl : lv_has ls 5 [(0, .ref (ga G r)), (1, .int p1), (2, .int p2), (3, .int p3)] := hl
  refine lv_aload_n hx hb dX11_markFor_0 rfl (lv_at hl 0 rfl) ?_
  refine lv_iload_n hx hb dX11_markFor_1 rfl (lv_at hl 1 rfl) ?_
  refine lv_iload_n hx hb dX11_markFor_2 rfl (lv_at hl 2 rfl) ?_
  refine lv_iload_n hx hb dX11_markFor_3 rfl (lv_at hl 3 rfl) ?_
  have hq1 := ho.1
  have ho := ho.2
  refine k_X11_toldReading X hS hH hk_r hq1 t_ml_VernierDrawersModel_224 hl.1 (Nat.le_of_ble_eq_true rfl) ⟨Nat.le_of_ble_eq_true rfl, Nat.le_of_ble_eq_true rfl⟩ ⟨Nat.zero_le _, Nat.zero_le _⟩ dX11_markFor_4 (fun da H locs v2 ev2 hH hS => ?_)
  have ho := ho v2 ev2
  refine lv_istore (lv' := [(4, .int ((fX11_toldReading r p1 p2 p3 v).1)), (0, .ref (ga G r)), (1, .int p1), (2, .int p2), (3, .int p3)]) hx hb dX11_markFor_7 hl (by decide) rfl (fun ls hl => ?_)
  refine lv_aload_n hx hb dX11_markFor_9 rfl (lv_at hl 1 rfl) ?_
  refine g_VernierDrawersModel_29 X hH hk_r dX11_markFor_10 ?_
  refine lv_if_le (tgt := 20) hx hb dX11_markFor_13 (by decide) (fun c3 => ?_) (fun c3 => ?_)
  · have ho := ho c3
    refine lv_iload hx hb dX11_markFor_20 (lv_at hl 0 rfl) ?_
    refine lv_aload_n hx hb dX11_markFor_22 rfl (lv_at hl 1 rfl) ?_
    refine lv_iload_n hx hb dX11_markFor_23 rfl (lv_at hl 2 rfl) ?_
    have hq4 := ho.1
    have ho := ho.2
    refine k_X11_apart X hS hH hk_r hq4 t_ml_VernierDrawersModel_227 hl.1 (Nat.le_of_ble_eq_true rfl) ⟨Nat.le_of_ble_eq_true rfl, Nat.le_of_ble_eq_true rfl⟩ ⟨Nat.zero_le _, Nat.zero_le _⟩ dX11_markFor_24 ?_
    have hq5 := ho
    refine lv_idiv hx hb dX11_markFor_27 hq5 ?_
    replace ev2 := Eq.symm ev2
    subst ev2
    exact E _ _ _ _ _ _ _ _ _ dX11_markFor_28 rfl (pr1 ((fX11_markFor.eq_1 _ _ _ _ _).trans ((if_pos c3).trans rfl))) (pr2 ((fX11_markFor.eq_1 _ _ _ _ _).trans ((if_pos c3).trans rfl))) hH hS (Nat.zero_le _) (Nat.zero_le _)
  · skip
    refine lv_iconst (v := 0) hx hb dX11_markFor_16 (by decide) ?_
    refine lv_goto (tgt := 28) hx hb dX11_markFor_17 (by decide) ?_
    replace ev2 := Eq.symm ev2
    subst ev2
    exact E _ _ _ _ _ _ _ _ _ dX11_markFor_28 rfl (pr1 ((fX11_markFor.eq_1 _ _ _ _ _).trans ((if_neg c3).trans rfl))) (pr2 ((fX11_markFor.eq_1 _ _ _ _ _).trans ((if_neg c3).trans rfl))) hH hS (Nat.zero_le _) (Nat.zero_le _)
theorem k_X11_markFor {p : Program} {l : Launch} {e : Env} {R : Room} {s : State} {m : MethodId} {args : Array Value} {below : List Frame} {meth : Method} {c : Code} {H : Heap} {locs : List Loc} {cells slots : Nat} {Q : State → Prop} {cc : ByteArray} {pc nL : Nat} {ls : Array Slot} {rest : List Value} {G : gG} {own : String} {da : Nat → Nat} {v : vSt} {x : gX} (X : CX G p s m args c cc nL own) (hS : va_S (gA G) s.heap H locs) (hH : Hp G da v x H) {r : Nat} (hk_r : kd r = 11) {p1 : Int32} {p2 : Int32} {p3 : Int32} (ho : oX11_markFor r p1 p2 p3 v) {idx : Nat} (hml : Cond.methodLink own idx yX11_markFor ∈ TT) (hls : ls.size = nL) (hsum : (rest.map fun v => v.category).sum ≤ 8) (hR : rmX11_markFor.frames + 1 ≤ R.frames ∧ 8 + (5 + 11) + rmX11_markFor.locals ≤ R.locals) (hcs : cells ≤ R.cells ∧ slots ≤ R.slots) (hdg : decode cc pc = .ok (.invokevirtual idx, 3)) (kk : ∀ (d : Nat → Nat) (H1 : Heap) (locs1 : List Loc) (v1 : vSt), v1 = (fX11_markFor r p1 p2 p3 v).2 → Hp G d v1 x H1 → va_S (gA G) s.heap H1 locs1 → W p l e R s m args below meth c H1 locs1 cells slots Q (F0 m (pc + 3) ls (.int (fX11_markFor r p1 p2 p3 v).1 :: rest))) : W p l e R s m args below meth c H locs cells slots Q (F0 m pc ls (.int p3 :: .int p2 :: .int p1 :: .ref (ga G r) :: rest)) := c_mi X.2.2.2.2.2.2 (runV (k := 3) X.1 X.2.1 X.2.2.1 X.2.2.2.1 X.2.2.2.2.1 (mX11_markFor l G da v x r hk_r p1 p2 p3 ho) pW_bl hml t_im_X11_markFor t_sel_X11_markFor t_ini_VernierDrawersModel t_code_X11_markFor ⟨rfl, by decide, by decide, by decide +kernel⟩ rfl rfl hR hcs (recvW X hH (by rw [hk_r]; decide) (by rw [hk_r]; decide) (ce_11 hk_r) rfl) (preW X hS hH) rfl hls rfl hsum hdg) hS kk
def fX11_lineFor (r : Nat) (p1 : Int32) (p2 : Int32) (p3 : Int32) (v : vSt) : Int32 × vSt := let v2 : vSt := (fX11_toldReading r p1 p2 p3 v).2; if ((v2 r 8) : Int32) ≤ 0 then (((((fX11_toldReading r p1 p2 p3 v).1) - ((fX11_toldReading r p1 p2 p3 v).1) / (fX11_apart r p1 v2) * (fX11_apart r p1 v2)) / (fX11_step r p1 v2), v2)) else ((0, v2))
def oX11_lineFor (r : Nat) (p1 : Int32) (p2 : Int32) (p3 : Int32) (v : vSt) : Prop := (oX11_toldReading r p1 p2 p3 v) ∧ (∀ v2 : vSt, v2 = ((fX11_toldReading r p1 p2 p3 v).2) → ((((v2 r 8) : Int32) ≤ 0) → ((oX11_apart r p1 v2) ∧ ((¬ (fX11_apart r p1 v2 : Int32) = 0) ∧ ((oX11_step r p1 v2) ∧ (¬ (fX11_step r p1 v2 : Int32) = 0))))))
abbrev rmX11_lineFor : Room := { frames := 4, cells := 0, slots := 0, locals := 94 }
theorem dX11_lineFor_0 : decode cX11_lineFor 0 = .ok (.aload_n 0, 1) := by decide +kernel
theorem dX11_lineFor_1 : decode cX11_lineFor 1 = .ok (.iload_n 1, 1) := by decide +kernel
theorem dX11_lineFor_2 : decode cX11_lineFor 2 = .ok (.iload_n 2, 1) := by decide +kernel
theorem dX11_lineFor_3 : decode cX11_lineFor 3 = .ok (.iload_n 3, 1) := by decide +kernel
theorem dX11_lineFor_4 : decode cX11_lineFor 4 = .ok (.invokevirtual 224, 3) := by decide +kernel
theorem dX11_lineFor_7 : decode cX11_lineFor 7 = .ok (.istore 4, 2) := by decide +kernel
theorem dX11_lineFor_9 : decode cX11_lineFor 9 = .ok (.aload_n 0, 1) := by decide +kernel
theorem dX11_lineFor_10 : decode cX11_lineFor 10 = .ok (.getfield 29, 3) := by decide +kernel
theorem dX11_lineFor_13 : decode cX11_lineFor 13 = .ok (.ifCond .le 7, 3) := by decide +kernel
theorem dX11_lineFor_16 : decode cX11_lineFor 16 = .ok (.iconst 0, 1) := by decide +kernel
theorem dX11_lineFor_17 : decode cX11_lineFor 17 = .ok (.goto 17, 3) := by decide +kernel
theorem dX11_lineFor_20 : decode cX11_lineFor 20 = .ok (.iload 4, 2) := by decide +kernel
theorem dX11_lineFor_22 : decode cX11_lineFor 22 = .ok (.aload_n 0, 1) := by decide +kernel
theorem dX11_lineFor_23 : decode cX11_lineFor 23 = .ok (.iload_n 1, 1) := by decide +kernel
theorem dX11_lineFor_24 : decode cX11_lineFor 24 = .ok (.invokevirtual 227, 3) := by decide +kernel
theorem dX11_lineFor_27 : decode cX11_lineFor 27 = .ok (.irem, 1) := by decide +kernel
theorem dX11_lineFor_28 : decode cX11_lineFor 28 = .ok (.aload_n 0, 1) := by decide +kernel
theorem dX11_lineFor_29 : decode cX11_lineFor 29 = .ok (.iload_n 1, 1) := by decide +kernel
theorem dX11_lineFor_30 : decode cX11_lineFor 30 = .ok (.invokevirtual 61, 3) := by decide +kernel
theorem dX11_lineFor_33 : decode cX11_lineFor 33 = .ok (.idiv, 1) := by decide +kernel
theorem dX11_lineFor_34 : decode cX11_lineFor 34 = .ok (.ireturn, 1) := by decide +kernel
set_option maxHeartbeats 8000000 in
set_option maxRecDepth 100000 in
theorem mX11_lineFor (l : Launch) (G : gG) (da : Nat → Nat) (v : vSt) (x : gX) (r : Nat) (hk_r : kd r = 11) (p1 : Int32) (p2 : Int32) (p3 : Int32) (ho : oX11_lineFor r p1 p2 p3 v) : MI l yX11_lineFor cX11_lineFor 5 (some .int) rmX11_lineFor [.ref (ga G r), .int p1, .int p2, .int p3] G da v x 0 0 (fX11_lineFor r p1 p2 p3 v).1 (fX11_lineFor r p1 p2 p3 v).2 x := by
  refine gofMI (own := RX11) (by decide) rfl (Nat.le_of_ble_eq_true rfl) (fun p e s m args below meth c ls Q X hH hl E => ?_)
  have hx := X.1
  have hb := X.2.1
  have hown := X.2.2.2.1
  have hts := X.2.2.2.2.1
  have hS : va_S (gA G) s.heap s.heap [] := va_S.rf
  unfold oX11_lineFor at ho
  have hl : lv_has ls 5 [(0, .ref (ga G r)), (1, .int p1), (2, .int p2), (3, .int p3)] := hl
  refine lv_aload_n hx hb dX11_lineFor_0 rfl (lv_at hl 0 rfl) ?_
  refine lv_iload_n hx hb dX11_lineFor_1 rfl (lv_at hl 1 rfl) ?_
  refine lv_iload_n hx hb dX11_lineFor_2 rfl (lv_at hl 2 rfl) ?_
  refine lv_iload_n hx hb dX11_lineFor_3 rfl (lv_at hl 3 rfl) ?_
  have hq1 := ho.1
  have ho := ho.2
  refine k_X11_toldReading X hS hH hk_r hq1 t_ml_VernierDrawersModel_224 hl.1 (Nat.le_of_ble_eq_true rfl) ⟨Nat.le_of_ble_eq_true rfl, Nat.le_of_ble_eq_true rfl⟩ ⟨Nat.zero_le _, Nat.zero_le _⟩ dX11_lineFor_4 (fun da H locs v2 ev2 hH hS => ?_)
  have ho := ho v2 ev2
  refine lv_istore (lv' := [(4, .int ((fX11_toldReading r p1 p2 p3 v).1)), (0, .ref (ga G r)), (1, .int p1), (2, .int p2), (3, .int p3)]) hx hb dX11_lineFor_7 hl (by decide) rfl (fun ls hl => ?_)
  refine lv_aload_n hx hb dX11_lineFor_9 rfl (lv_at hl 1 rfl) ?_
  refine g_VernierDrawersModel_29 X hH hk_r dX11_lineFor_10 ?_
  refine lv_if_le (tgt := 20) hx hb dX11_lineFor_13 (by decide) (fun c3 => ?_) (fun c3 => ?_)
  · have ho := ho c3
    refine lv_iload hx hb dX11_lineFor_20 (lv_at hl 0 rfl) ?_
    refine lv_aload_n hx hb dX11_lineFor_22 rfl (lv_at hl 1 rfl) ?_
    refine lv_iload_n hx hb dX11_lineFor_23 rfl (lv_at hl 2 rfl) ?_
    have hq4 := ho.1
    have ho := ho.2
    refine k_X11_apart X hS hH hk_r hq4 t_ml_VernierDrawersModel_227 hl.1 (Nat.le_of_ble_eq_true rfl) ⟨Nat.le_of_ble_eq_true rfl, Nat.le_of_ble_eq_true rfl⟩ ⟨Nat.zero_le _, Nat.zero_le _⟩ dX11_lineFor_24 ?_
    have hq5 := ho.1
    have ho := ho.2
    refine lv_irem hx hb dX11_lineFor_27 hq5 ?_
    refine lv_aload_n hx hb dX11_lineFor_28 rfl (lv_at hl 1 rfl) ?_
    refine lv_iload_n hx hb dX11_lineFor_29 rfl (lv_at hl 2 rfl) ?_
    have hq6 := ho.1
    have ho := ho.2
    refine k_X11_step X hS hH hk_r hq6 t_ml_VernierDrawersModel_61 hl.1 (Nat.le_of_ble_eq_true rfl) ⟨Nat.le_of_ble_eq_true rfl, Nat.le_of_ble_eq_true rfl⟩ ⟨Nat.zero_le _, Nat.zero_le _⟩ dX11_lineFor_30 ?_
    have hq7 := ho
    refine lv_idiv hx hb dX11_lineFor_33 hq7 ?_
    replace ev2 := Eq.symm ev2
    subst ev2
    exact E _ _ _ _ _ _ _ _ _ dX11_lineFor_34 rfl (pr1 ((fX11_lineFor.eq_1 _ _ _ _ _).trans ((if_pos c3).trans rfl))) (pr2 ((fX11_lineFor.eq_1 _ _ _ _ _).trans ((if_pos c3).trans rfl))) hH hS (Nat.zero_le _) (Nat.zero_le _)
  · skip
    refine lv_iconst (v := 0) hx hb dX11_lineFor_16 (by decide) ?_
    refine lv_goto (tgt := 34) hx hb dX11_lineFor_17 (by decide) ?_
    replace ev2 := Eq.symm ev2
    subst ev2
    exact E _ _ _ _ _ _ _ _ _ dX11_lineFor_34 rfl (pr1 ((fX11_lineFor.eq_1 _ _ _ _ _).trans ((if_neg c3).trans rfl))) (pr2 ((fX11_lineFor.eq_1 _ _ _ _ _).trans ((if_neg c3).trans rfl))) hH hS (Nat.zero_le _) (Nat.zero_le _)
theorem k_X11_lineFor {p : Program} {l : Launch} {e : Env} {R : Room} {s : State} {m : MethodId} {args : Array Value} {below : List Frame} {meth : Method} {c : Code} {H : Heap} {locs : List Loc} {cells slots : Nat} {Q : State → Prop} {cc : ByteArray} {pc nL : Nat} {ls : Array Slot} {rest : List Value} {G : gG} {own : String} {da : Nat → Nat} {v : vSt} {x : gX} (X : CX G p s m args c cc nL own) (hS : va_S (gA G) s.heap H locs) (hH : Hp G da v x H) {r : Nat} (hk_r : kd r = 11) {p1 : Int32} {p2 : Int32} {p3 : Int32} (ho : oX11_lineFor r p1 p2 p3 v) {idx : Nat} (hml : Cond.methodLink own idx yX11_lineFor ∈ TT) (hls : ls.size = nL) (hsum : (rest.map fun v => v.category).sum ≤ 8) (hR : rmX11_lineFor.frames + 1 ≤ R.frames ∧ 8 + (5 + 11) + rmX11_lineFor.locals ≤ R.locals) (hcs : cells ≤ R.cells ∧ slots ≤ R.slots) (hdg : decode cc pc = .ok (.invokevirtual idx, 3)) (kk : ∀ (d : Nat → Nat) (H1 : Heap) (locs1 : List Loc) (v1 : vSt), v1 = (fX11_lineFor r p1 p2 p3 v).2 → Hp G d v1 x H1 → va_S (gA G) s.heap H1 locs1 → W p l e R s m args below meth c H1 locs1 cells slots Q (F0 m (pc + 3) ls (.int (fX11_lineFor r p1 p2 p3 v).1 :: rest))) : W p l e R s m args below meth c H locs cells slots Q (F0 m pc ls (.int p3 :: .int p2 :: .int p1 :: .ref (ga G r) :: rest)) := c_mi X.2.2.2.2.2.2 (runV (k := 3) X.1 X.2.1 X.2.2.1 X.2.2.2.1 X.2.2.2.2.1 (mX11_lineFor l G da v x r hk_r p1 p2 p3 ho) pW_bl hml t_im_X11_lineFor t_sel_X11_lineFor t_ini_VernierDrawersModel t_code_X11_lineFor ⟨rfl, by decide, by decide, by decide +kernel⟩ rfl rfl hR hcs (recvW X hH (by rw [hk_r]; decide) (by rw [hk_r]; decide) (ce_11 hk_r) rfl) (preW X hS hH) rfl hls rfl hsum hdg) hS kk
def fX11_offBy (r : Nat) (p1 : Int32) (p2 : Int32) (p3 : Int32) (v : vSt) : Int32 × vSt := let v2 : vSt := (fX11_toldReading r p1 p2 p3 v).2; if ((v2 r 8) : Int32) ≤ 0 then ((fX11_size ((((fX11_toldReading r p1 p2 p3 v).1) - (fX11_tool r p1 3 v2)) - p3), v2)) else ((0, v2))
def oX11_offBy (r : Nat) (p1 : Int32) (p2 : Int32) (p3 : Int32) (v : vSt) : Prop := (oX11_toldReading r p1 p2 p3 v) ∧ (∀ v2 : vSt, v2 = ((fX11_toldReading r p1 p2 p3 v).2) → ((((v2 r 8) : Int32) ≤ 0) → (oX11_tool r p1 3 v2)))
abbrev rmX11_offBy : Room := { frames := 4, cells := 0, slots := 0, locals := 94 }
theorem dX11_offBy_0 : decode cX11_offBy 0 = .ok (.aload_n 0, 1) := by decide +kernel
theorem dX11_offBy_1 : decode cX11_offBy 1 = .ok (.iload_n 1, 1) := by decide +kernel
theorem dX11_offBy_2 : decode cX11_offBy 2 = .ok (.iload_n 2, 1) := by decide +kernel
theorem dX11_offBy_3 : decode cX11_offBy 3 = .ok (.iload_n 3, 1) := by decide +kernel
theorem dX11_offBy_4 : decode cX11_offBy 4 = .ok (.invokevirtual 224, 3) := by decide +kernel
theorem dX11_offBy_7 : decode cX11_offBy 7 = .ok (.istore 4, 2) := by decide +kernel
theorem dX11_offBy_9 : decode cX11_offBy 9 = .ok (.aload_n 0, 1) := by decide +kernel
theorem dX11_offBy_10 : decode cX11_offBy 10 = .ok (.getfield 29, 3) := by decide +kernel
theorem dX11_offBy_13 : decode cX11_offBy 13 = .ok (.ifCond .le 7, 3) := by decide +kernel
theorem dX11_offBy_16 : decode cX11_offBy 16 = .ok (.iconst 0, 1) := by decide +kernel
theorem dX11_offBy_17 : decode cX11_offBy 17 = .ok (.goto 17, 3) := by decide +kernel
theorem dX11_offBy_20 : decode cX11_offBy 20 = .ok (.iload 4, 2) := by decide +kernel
theorem dX11_offBy_22 : decode cX11_offBy 22 = .ok (.aload_n 0, 1) := by decide +kernel
theorem dX11_offBy_23 : decode cX11_offBy 23 = .ok (.iload_n 1, 1) := by decide +kernel
theorem dX11_offBy_24 : decode cX11_offBy 24 = .ok (.iconst 3, 1) := by decide +kernel
theorem dX11_offBy_25 : decode cX11_offBy 25 = .ok (.invokevirtual 54, 3) := by decide +kernel
theorem dX11_offBy_28 : decode cX11_offBy 28 = .ok (.isub, 1) := by decide +kernel
theorem dX11_offBy_29 : decode cX11_offBy 29 = .ok (.iload_n 3, 1) := by decide +kernel
theorem dX11_offBy_30 : decode cX11_offBy 30 = .ok (.isub, 1) := by decide +kernel
theorem dX11_offBy_31 : decode cX11_offBy 31 = .ok (.invokestatic 113, 3) := by decide +kernel
theorem dX11_offBy_34 : decode cX11_offBy 34 = .ok (.ireturn, 1) := by decide +kernel
set_option maxHeartbeats 8000000 in
set_option maxRecDepth 100000 in
theorem mX11_offBy (l : Launch) (G : gG) (da : Nat → Nat) (v : vSt) (x : gX) (r : Nat) (hk_r : kd r = 11) (p1 : Int32) (p2 : Int32) (p3 : Int32) (ho : oX11_offBy r p1 p2 p3 v) : MI l yX11_offBy cX11_offBy 5 (some .int) rmX11_offBy [.ref (ga G r), .int p1, .int p2, .int p3] G da v x 0 0 (fX11_offBy r p1 p2 p3 v).1 (fX11_offBy r p1 p2 p3 v).2 x := by
  refine gofMI (own := RX11) (by decide) rfl (Nat.le_of_ble_eq_true rfl) (fun p e s m args below meth c ls Q X hH hl E => ?_)
  have hx := X.1
  have hb := X.2.1
  have hown := X.2.2.2.1
  have hts := X.2.2.2.2.1
  have hS : va_S (gA G) s.heap s.heap [] := va_S.rf
  unfold oX11_offBy at ho
  have hl : lv_has ls 5 [(0, .ref (ga G r)), (1, .int p1), (2, .int p2), (3, .int p3)] := hl
  refine lv_aload_n hx hb dX11_offBy_0 rfl (lv_at hl 0 rfl) ?_
  refine lv_iload_n hx hb dX11_offBy_1 rfl (lv_at hl 1 rfl) ?_
  refine lv_iload_n hx hb dX11_offBy_2 rfl (lv_at hl 2 rfl) ?_
  refine lv_iload_n hx hb dX11_offBy_3 rfl (lv_at hl 3 rfl) ?_
  have hq1 := ho.1
  have ho := ho.2
  refine k_X11_toldReading X hS hH hk_r hq1 t_ml_VernierDrawersModel_224 hl.1 (Nat.le_of_ble_eq_true rfl) ⟨Nat.le_of_ble_eq_true rfl, Nat.le_of_ble_eq_true rfl⟩ ⟨Nat.zero_le _, Nat.zero_le _⟩ dX11_offBy_4 (fun da H locs v2 ev2 hH hS => ?_)
  have ho := ho v2 ev2
  refine lv_istore (lv' := [(4, .int ((fX11_toldReading r p1 p2 p3 v).1)), (0, .ref (ga G r)), (1, .int p1), (2, .int p2), (3, .int p3)]) hx hb dX11_offBy_7 hl (by decide) rfl (fun ls hl => ?_)
  refine lv_aload_n hx hb dX11_offBy_9 rfl (lv_at hl 1 rfl) ?_
  refine g_VernierDrawersModel_29 X hH hk_r dX11_offBy_10 ?_
  refine lv_if_le (tgt := 20) hx hb dX11_offBy_13 (by decide) (fun c3 => ?_) (fun c3 => ?_)
  · have ho := ho c3
    refine lv_iload hx hb dX11_offBy_20 (lv_at hl 0 rfl) ?_
    refine lv_aload_n hx hb dX11_offBy_22 rfl (lv_at hl 1 rfl) ?_
    refine lv_iload_n hx hb dX11_offBy_23 rfl (lv_at hl 2 rfl) ?_
    refine lv_iconst (v := 3) hx hb dX11_offBy_24 (by decide) ?_
    have hq4 := ho
    refine k_X11_tool X hS hH hk_r hq4 t_ml_VernierDrawersModel_54 hl.1 (Nat.le_of_ble_eq_true rfl) ⟨Nat.le_of_ble_eq_true rfl, Nat.le_of_ble_eq_true rfl⟩ ⟨Nat.zero_le _, Nat.zero_le _⟩ dX11_offBy_25 ?_
    refine lv_isub hx hb dX11_offBy_28 ?_
    refine lv_iload_n hx hb dX11_offBy_29 rfl (lv_at hl 4 rfl) ?_
    refine lv_isub hx hb dX11_offBy_30 ?_
    refine k_X11_size X hS  t_ml_VernierDrawersModel_113 hl.1 (Nat.le_of_ble_eq_true rfl) ⟨Nat.le_of_ble_eq_true rfl, Nat.le_of_ble_eq_true rfl⟩ ⟨Nat.zero_le _, Nat.zero_le _⟩ dX11_offBy_31 ?_
    replace ev2 := Eq.symm ev2
    subst ev2
    exact E _ _ _ _ _ _ _ _ _ dX11_offBy_34 rfl (pr1 ((fX11_offBy.eq_1 _ _ _ _ _).trans ((if_pos c3).trans rfl))) (pr2 ((fX11_offBy.eq_1 _ _ _ _ _).trans ((if_pos c3).trans rfl))) hH hS (Nat.zero_le _) (Nat.zero_le _)
  · skip
    refine lv_iconst (v := 0) hx hb dX11_offBy_16 (by decide) ?_
    refine lv_goto (tgt := 34) hx hb dX11_offBy_17 (by decide) ?_
    replace ev2 := Eq.symm ev2
    subst ev2
    exact E _ _ _ _ _ _ _ _ _ dX11_offBy_34 rfl (pr1 ((fX11_offBy.eq_1 _ _ _ _ _).trans ((if_neg c3).trans rfl))) (pr2 ((fX11_offBy.eq_1 _ _ _ _ _).trans ((if_neg c3).trans rfl))) hH hS (Nat.zero_le _) (Nat.zero_le _)
theorem k_X11_offBy {p : Program} {l : Launch} {e : Env} {R : Room} {s : State} {m : MethodId} {args : Array Value} {below : List Frame} {meth : Method} {c : Code} {H : Heap} {locs : List Loc} {cells slots : Nat} {Q : State → Prop} {cc : ByteArray} {pc nL : Nat} {ls : Array Slot} {rest : List Value} {G : gG} {own : String} {da : Nat → Nat} {v : vSt} {x : gX} (X : CX G p s m args c cc nL own) (hS : va_S (gA G) s.heap H locs) (hH : Hp G da v x H) {r : Nat} (hk_r : kd r = 11) {p1 : Int32} {p2 : Int32} {p3 : Int32} (ho : oX11_offBy r p1 p2 p3 v) {idx : Nat} (hml : Cond.methodLink own idx yX11_offBy ∈ TT) (hls : ls.size = nL) (hsum : (rest.map fun v => v.category).sum ≤ 8) (hR : rmX11_offBy.frames + 1 ≤ R.frames ∧ 8 + (5 + 11) + rmX11_offBy.locals ≤ R.locals) (hcs : cells ≤ R.cells ∧ slots ≤ R.slots) (hdg : decode cc pc = .ok (.invokevirtual idx, 3)) (kk : ∀ (d : Nat → Nat) (H1 : Heap) (locs1 : List Loc) (v1 : vSt), v1 = (fX11_offBy r p1 p2 p3 v).2 → Hp G d v1 x H1 → va_S (gA G) s.heap H1 locs1 → W p l e R s m args below meth c H1 locs1 cells slots Q (F0 m (pc + 3) ls (.int (fX11_offBy r p1 p2 p3 v).1 :: rest))) : W p l e R s m args below meth c H locs cells slots Q (F0 m pc ls (.int p3 :: .int p2 :: .int p1 :: .ref (ga G r) :: rest)) := c_mi X.2.2.2.2.2.2 (runV (k := 3) X.1 X.2.1 X.2.2.1 X.2.2.2.1 X.2.2.2.2.1 (mX11_offBy l G da v x r hk_r p1 p2 p3 ho) pW_bl hml t_im_X11_offBy t_sel_X11_offBy t_ini_VernierDrawersModel t_code_X11_offBy ⟨rfl, by decide, by decide, by decide +kernel⟩ rfl rfl hR hcs (recvW X hH (by rw [hk_r]; decide) (by rw [hk_r]; decide) (ce_11 hk_r) rfl) (preW X hS hH) rfl hls rfl hsum hdg) hS kk
