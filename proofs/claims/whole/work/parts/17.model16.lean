/-! 17.model -/
def fX11_setTolerance (r : Nat) (p1 : Int32) (v : vSt) : Int32 × vSt := let v2 : vSt := fX11_begins r v; if ((fX11_in p1 0 99) : Int32) = 0 then (let v8 : vSt := (fX11_fails r 1 v2).2; ((fX11_fails r 1 v2).1, v8)) else (let v5 : vSt := u2 v2 462 (209 : Int32).toNatClampNeg p1; let v7 : vSt := (fX11_ends r (v2 462 (209 : Int32).toNatClampNeg) 2 v5).2; ((fX11_ends r (v2 462 (209 : Int32).toNatClampNeg) 2 v5).1, v7))
def oX11_setTolerance (r : Nat) (p1 : Int32) (v : vSt) : Prop := (oX11_begins r v) ∧ (∀ v2 : vSt, v2 = (fX11_begins r v) → (¬ (((fX11_in p1 0 99) : Int32) = 0) → ((vp_in (209) (mlen 462)) ∧ (∀ v5 : vSt, v5 = (u2 v2 462 (209 : Int32).toNatClampNeg p1) → (oX11_ends r (v2 462 (209 : Int32).toNatClampNeg) 2 v5)))))
abbrev rmX11_setTolerance : Room := { frames := 3, cells := 0, slots := 0, locals := 67 }
theorem dX11_setTolerance_0 : decode cX11_setTolerance 0 = .ok (.aload_n 0, 1) := by decide +kernel
theorem dX11_setTolerance_1 : decode cX11_setTolerance 1 = .ok (.invokevirtual 180, 3) := by decide +kernel
theorem dX11_setTolerance_4 : decode cX11_setTolerance 4 = .ok (.iload_n 1, 1) := by decide +kernel
theorem dX11_setTolerance_5 : decode cX11_setTolerance 5 = .ok (.iconst 0, 1) := by decide +kernel
theorem dX11_setTolerance_6 : decode cX11_setTolerance 6 = .ok (.bipush 99, 2) := by decide +kernel
theorem dX11_setTolerance_8 : decode cX11_setTolerance 8 = .ok (.invokestatic 49, 3) := by decide +kernel
theorem dX11_setTolerance_11 : decode cX11_setTolerance 11 = .ok (.ifCond .ne 9, 3) := by decide +kernel
theorem dX11_setTolerance_14 : decode cX11_setTolerance 14 = .ok (.aload_n 0, 1) := by decide +kernel
theorem dX11_setTolerance_15 : decode cX11_setTolerance 15 = .ok (.iconst 1, 1) := by decide +kernel
theorem dX11_setTolerance_16 : decode cX11_setTolerance 16 = .ok (.invokevirtual 42, 3) := by decide +kernel
theorem dX11_setTolerance_19 : decode cX11_setTolerance 19 = .ok (.ireturn, 1) := by decide +kernel
theorem dX11_setTolerance_20 : decode cX11_setTolerance 20 = .ok (.aload_n 0, 1) := by decide +kernel
theorem dX11_setTolerance_21 : decode cX11_setTolerance 21 = .ok (.getfield 7, 3) := by decide +kernel
theorem dX11_setTolerance_24 : decode cX11_setTolerance 24 = .ok (.sipush 209, 3) := by decide +kernel
theorem dX11_setTolerance_27 : decode cX11_setTolerance 27 = .ok (.iaload, 1) := by decide +kernel
theorem dX11_setTolerance_28 : decode cX11_setTolerance 28 = .ok (.istore_n 2, 1) := by decide +kernel
theorem dX11_setTolerance_29 : decode cX11_setTolerance 29 = .ok (.aload_n 0, 1) := by decide +kernel
theorem dX11_setTolerance_30 : decode cX11_setTolerance 30 = .ok (.getfield 7, 3) := by decide +kernel
theorem dX11_setTolerance_33 : decode cX11_setTolerance 33 = .ok (.sipush 209, 3) := by decide +kernel
theorem dX11_setTolerance_36 : decode cX11_setTolerance 36 = .ok (.iload_n 1, 1) := by decide +kernel
theorem dX11_setTolerance_37 : decode cX11_setTolerance 37 = .ok (.iastore, 1) := by decide +kernel
theorem dX11_setTolerance_38 : decode cX11_setTolerance 38 = .ok (.aload_n 0, 1) := by decide +kernel
theorem dX11_setTolerance_39 : decode cX11_setTolerance 39 = .ok (.iload_n 2, 1) := by decide +kernel
theorem dX11_setTolerance_40 : decode cX11_setTolerance 40 = .ok (.iconst 2, 1) := by decide +kernel
theorem dX11_setTolerance_41 : decode cX11_setTolerance 41 = .ok (.invokevirtual 183, 3) := by decide +kernel
theorem dX11_setTolerance_44 : decode cX11_setTolerance 44 = .ok (.ireturn, 1) := by decide +kernel
set_option maxHeartbeats 8000000 in
set_option maxRecDepth 100000 in
theorem mX11_setTolerance (l : Launch) (G : gG) (da : Nat → Nat) (v : vSt) (x : gX) (r : Nat) (hk_r : kd r = 11) (p1 : Int32) (ho : oX11_setTolerance r p1 v) : MI l yX11_setTolerance cX11_setTolerance 3 (some .int) rmX11_setTolerance [.ref (ga G r), .int p1] G da v x 0 0 (fX11_setTolerance r p1 v).1 (fX11_setTolerance r p1 v).2 x := by
  refine gofMI (own := RX11) (by decide) rfl (Nat.le_of_ble_eq_true rfl) (fun p e s m args below meth c ls Q X hH hl E => ?_)
  have hx := X.1
  have hb := X.2.1
  have hown := X.2.2.2.1
  have hts := X.2.2.2.2.1
  have hS : va_S (gA G) s.heap s.heap [] := va_S.rf
  unfold oX11_setTolerance at ho
  have hl : lv_has ls 3 [(0, .ref (ga G r)), (1, .int p1)] := hl
  refine lv_aload_n hx hb dX11_setTolerance_0 rfl (lv_at hl 0 rfl) ?_
  have hq1 := ho.1
  have ho := ho.2
  refine k_X11_begins X hS hH hk_r hq1 t_ml_VernierDrawersModel_180 hl.1 (Nat.le_of_ble_eq_true rfl) ⟨Nat.le_of_ble_eq_true rfl, Nat.le_of_ble_eq_true rfl⟩ ⟨Nat.zero_le _, Nat.zero_le _⟩ dX11_setTolerance_1 (fun da H locs v2 ev2 hH hS => ?_)
  have ho := ho v2 ev2
  refine lv_iload_n hx hb dX11_setTolerance_4 rfl (lv_at hl 1 rfl) ?_
  refine lv_iconst (v := 0) hx hb dX11_setTolerance_5 (by decide) ?_
  refine lv_bipush (v := 99) hx hb dX11_setTolerance_6 (by decide) ?_
  refine k_X11_in X hS  t_ml_VernierDrawersModel_49 hl.1 (Nat.le_of_ble_eq_true rfl) ⟨Nat.le_of_ble_eq_true rfl, Nat.le_of_ble_eq_true rfl⟩ ⟨Nat.zero_le _, Nat.zero_le _⟩ dX11_setTolerance_8 ?_
  refine lv_if_ne (tgt := 20) hx hb dX11_setTolerance_11 (by decide) (fun c3 => ?_) (fun c3 => ?_)
  · have ho := ho c3
    refine lv_aload_n hx hb dX11_setTolerance_20 rfl (lv_at hl 0 rfl) ?_
    refine g_VernierDrawersModel_7 X hH hk_r dX11_setTolerance_21 ?_
    refine lv_sipush (v := 209) hx hb dX11_setTolerance_24 (by decide) ?_
    have hq4 := ho.1
    have ho := ho.2
    refine ald_M X hH (Or.inl kd_462) hq4 dX11_setTolerance_27 ?_
    refine lv_istore_n (lv' := [(2, .int (v2 462 (209 : Int32).toNatClampNeg)), (0, .ref (ga G r)), (1, .int p1)]) hx hb dX11_setTolerance_28 rfl hl (by decide) rfl (fun ls hl => ?_)
    refine lv_aload_n hx hb dX11_setTolerance_29 rfl (lv_at hl 1 rfl) ?_
    refine g_VernierDrawersModel_7 X hH hk_r dX11_setTolerance_30 ?_
    refine lv_sipush (v := 209) hx hb dX11_setTolerance_33 (by decide) ?_
    refine lv_iload_n hx hb dX11_setTolerance_36 rfl (lv_at hl 2 rfl) ?_
    refine ast_M X hH hS (Or.inl kd_462) hq4 dX11_setTolerance_37 (fun H locs v5 ev5 hH hS => ?_)
    have ho := ho v5 ev5
    refine lv_aload_n hx hb dX11_setTolerance_38 rfl (lv_at hl 1 rfl) ?_
    refine lv_iload_n hx hb dX11_setTolerance_39 rfl (lv_at hl 0 rfl) ?_
    refine lv_iconst (v := 2) hx hb dX11_setTolerance_40 (by decide) ?_
    have hq6 := ho
    refine k_X11_ends X hS hH hk_r hq6 t_ml_VernierDrawersModel_183 hl.1 (Nat.le_of_ble_eq_true rfl) ⟨Nat.le_of_ble_eq_true rfl, Nat.le_of_ble_eq_true rfl⟩ ⟨Nat.zero_le _, Nat.zero_le _⟩ dX11_setTolerance_41 (fun da H locs v7 ev7 hH hS => ?_)
    replace ev2 := Eq.symm ev2
    replace ev5 := Eq.symm ev5
    replace ev7 := Eq.symm ev7
    subst ev2 ev5 ev7
    exact E _ _ _ _ _ _ _ _ _ dX11_setTolerance_44 rfl (pr1 ((fX11_setTolerance.eq_1 _ _ _).trans ((if_neg c3).trans rfl))) (pr2 ((fX11_setTolerance.eq_1 _ _ _).trans ((if_neg c3).trans rfl))) hH hS (Nat.zero_le _) (Nat.zero_le _)
  · skip
    refine lv_aload_n hx hb dX11_setTolerance_14 rfl (lv_at hl 0 rfl) ?_
    refine lv_iconst (v := 1) hx hb dX11_setTolerance_15 (by decide) ?_
    refine k_X11_fails X hS hH hk_r t_ml_VernierDrawersModel_42 hl.1 (Nat.le_of_ble_eq_true rfl) ⟨Nat.le_of_ble_eq_true rfl, Nat.le_of_ble_eq_true rfl⟩ ⟨Nat.zero_le _, Nat.zero_le _⟩ dX11_setTolerance_16 (fun da H locs v8 ev8 hH hS => ?_)
    replace ev2 := Eq.symm ev2
    replace ev8 := Eq.symm ev8
    subst ev2 ev8
    exact E _ _ _ _ _ _ _ _ _ dX11_setTolerance_19 rfl (pr1 ((fX11_setTolerance.eq_1 _ _ _).trans ((if_pos c3).trans rfl))) (pr2 ((fX11_setTolerance.eq_1 _ _ _).trans ((if_pos c3).trans rfl))) hH hS (Nat.zero_le _) (Nat.zero_le _)
theorem k_X11_setTolerance {p : Program} {l : Launch} {e : Env} {R : Room} {s : State} {m : MethodId} {args : Array Value} {below : List Frame} {meth : Method} {c : Code} {H : Heap} {locs : List Loc} {cells slots : Nat} {Q : State → Prop} {cc : ByteArray} {pc nL : Nat} {ls : Array Slot} {rest : List Value} {G : gG} {own : String} {da : Nat → Nat} {v : vSt} {x : gX} (X : CX G p s m args c cc nL own) (hS : va_S (gA G) s.heap H locs) (hH : Hp G da v x H) {r : Nat} (hk_r : kd r = 11) {p1 : Int32} (ho : oX11_setTolerance r p1 v) {idx : Nat} (hml : Cond.methodLink own idx yX11_setTolerance ∈ TT) (hls : ls.size = nL) (hsum : (rest.map fun v => v.category).sum ≤ 8) (hR : rmX11_setTolerance.frames + 1 ≤ R.frames ∧ 8 + (3 + 11) + rmX11_setTolerance.locals ≤ R.locals) (hcs : cells ≤ R.cells ∧ slots ≤ R.slots) (hdg : decode cc pc = .ok (.invokevirtual idx, 3)) (kk : ∀ (d : Nat → Nat) (H1 : Heap) (locs1 : List Loc) (v1 : vSt), v1 = (fX11_setTolerance r p1 v).2 → Hp G d v1 x H1 → va_S (gA G) s.heap H1 locs1 → W p l e R s m args below meth c H1 locs1 cells slots Q (F0 m (pc + 3) ls (.int (fX11_setTolerance r p1 v).1 :: rest))) : W p l e R s m args below meth c H locs cells slots Q (F0 m pc ls (.int p1 :: .ref (ga G r) :: rest)) := c_mi X.2.2.2.2.2.2 (runV (k := 1) X.1 X.2.1 X.2.2.1 X.2.2.2.1 X.2.2.2.2.1 (mX11_setTolerance l G da v x r hk_r p1 ho) pW_bl hml t_im_X11_setTolerance t_sel_X11_setTolerance t_ini_VernierDrawersModel t_code_X11_setTolerance ⟨rfl, by decide, by decide, by decide +kernel⟩ rfl rfl hR hcs (recvW X hH (by rw [hk_r]; decide) (by rw [hk_r]; decide) (ce_11 hk_r) rfl) (preW X hS hH) rfl hls rfl hsum hdg) hS kk
def fX11_undo (r : Nat) (v : vSt) : Int32 × vSt := let v1 : vSt := u2 v r 8 0; if ((v1 r 5) : Int32) = 0 then (let v6 : vSt := (fX11_fails r 1 v1).2; ((fX11_fails r 1 v1).1, v6)) else (let v3 : vSt := u2 v1 r 5 ((v1 r 5) - 1); let v5 : vSt := fX11_copies 465 (3417 * (v3 r 5)) 462 0 v3; (v5 r 5, v5))
def oX11_undo (r : Nat) (v : vSt) : Prop := ∀ v1 : vSt, v1 = (u2 v r 8 0) → (¬ (((v1 r 5) : Int32) = 0) → (∀ v3 : vSt, v3 = (u2 v1 r 5 ((v1 r 5) - 1)) → (oX11_copies 465 (3417 * (v3 r 5)) 462 0 v3)))
abbrev rmX11_undo : Room := { frames := 1, cells := 0, slots := 0, locals := 24 }
theorem dX11_undo_0 : decode cX11_undo 0 = .ok (.aload_n 0, 1) := by decide +kernel
theorem dX11_undo_1 : decode cX11_undo 1 = .ok (.iconst 0, 1) := by decide +kernel
theorem dX11_undo_2 : decode cX11_undo 2 = .ok (.putfield 29, 3) := by decide +kernel
theorem dX11_undo_5 : decode cX11_undo 5 = .ok (.aload_n 0, 1) := by decide +kernel
theorem dX11_undo_6 : decode cX11_undo 6 = .ok (.getfield 37, 3) := by decide +kernel
theorem dX11_undo_9 : decode cX11_undo 9 = .ok (.ifCond .ne 9, 3) := by decide +kernel
theorem dX11_undo_12 : decode cX11_undo 12 = .ok (.aload_n 0, 1) := by decide +kernel
theorem dX11_undo_13 : decode cX11_undo 13 = .ok (.iconst 1, 1) := by decide +kernel
theorem dX11_undo_14 : decode cX11_undo 14 = .ok (.invokevirtual 42, 3) := by decide +kernel
theorem dX11_undo_17 : decode cX11_undo 17 = .ok (.ireturn, 1) := by decide +kernel
theorem dX11_undo_18 : decode cX11_undo 18 = .ok (.aload_n 0, 1) := by decide +kernel
theorem dX11_undo_19 : decode cX11_undo 19 = .ok (.dup, 1) := by decide +kernel
theorem dX11_undo_20 : decode cX11_undo 20 = .ok (.getfield 37, 3) := by decide +kernel
theorem dX11_undo_23 : decode cX11_undo 23 = .ok (.iconst 1, 1) := by decide +kernel
theorem dX11_undo_24 : decode cX11_undo 24 = .ok (.isub, 1) := by decide +kernel
theorem dX11_undo_25 : decode cX11_undo 25 = .ok (.putfield 37, 3) := by decide +kernel
theorem dX11_undo_28 : decode cX11_undo 28 = .ok (.aload_n 0, 1) := by decide +kernel
theorem dX11_undo_29 : decode cX11_undo 29 = .ok (.getfield 19, 3) := by decide +kernel
theorem dX11_undo_32 : decode cX11_undo 32 = .ok (.sipush 3417, 3) := by decide +kernel
theorem dX11_undo_35 : decode cX11_undo 35 = .ok (.aload_n 0, 1) := by decide +kernel
theorem dX11_undo_36 : decode cX11_undo 36 = .ok (.getfield 37, 3) := by decide +kernel
theorem dX11_undo_39 : decode cX11_undo 39 = .ok (.imul, 1) := by decide +kernel
theorem dX11_undo_40 : decode cX11_undo 40 = .ok (.aload_n 0, 1) := by decide +kernel
theorem dX11_undo_41 : decode cX11_undo 41 = .ok (.getfield 7, 3) := by decide +kernel
theorem dX11_undo_44 : decode cX11_undo 44 = .ok (.iconst 0, 1) := by decide +kernel
theorem dX11_undo_45 : decode cX11_undo 45 = .ok (.invokestatic 33, 3) := by decide +kernel
theorem dX11_undo_48 : decode cX11_undo 48 = .ok (.aload_n 0, 1) := by decide +kernel
theorem dX11_undo_49 : decode cX11_undo 49 = .ok (.getfield 37, 3) := by decide +kernel
theorem dX11_undo_52 : decode cX11_undo 52 = .ok (.ireturn, 1) := by decide +kernel
set_option maxHeartbeats 8000000 in
set_option maxRecDepth 100000 in
theorem mX11_undo (l : Launch) (G : gG) (da : Nat → Nat) (v : vSt) (x : gX) (r : Nat) (hk_r : kd r = 11) (ho : oX11_undo r v) : MI l yX11_undo cX11_undo 1 (some .int) rmX11_undo [.ref (ga G r)] G da v x 0 0 (fX11_undo r v).1 (fX11_undo r v).2 x := by
  refine gofMI (own := RX11) (by decide) rfl (Nat.le_of_ble_eq_true rfl) (fun p e s m args below meth c ls Q X hH hl E => ?_)
  have hx := X.1
  have hb := X.2.1
  have hown := X.2.2.2.1
  have hts := X.2.2.2.2.1
  have hS : va_S (gA G) s.heap s.heap [] := va_S.rf
  unfold oX11_undo at ho
  have hl : lv_has ls 1 [(0, .ref (ga G r))] := hl
  refine lv_aload_n hx hb dX11_undo_0 rfl (lv_at hl 0 rfl) ?_
  refine lv_iconst (v := 0) hx hb dX11_undo_1 (by decide) ?_
  refine p_VernierDrawersModel_29 X hH hS hk_r dX11_undo_2 (fun H locs v1 ev1 hH hS => ?_)
  have ho := ho v1 ev1
  refine lv_aload_n hx hb dX11_undo_5 rfl (lv_at hl 0 rfl) ?_
  refine g_VernierDrawersModel_37 X hH hk_r dX11_undo_6 ?_
  refine lv_if_ne (tgt := 18) hx hb dX11_undo_9 (by decide) (fun c2 => ?_) (fun c2 => ?_)
  · have ho := ho c2
    refine lv_aload_n hx hb dX11_undo_18 rfl (lv_at hl 0 rfl) ?_
    refine lv_dup hx hb dX11_undo_19 rfl ?_
    refine g_VernierDrawersModel_37 X hH hk_r dX11_undo_20 ?_
    refine lv_iconst (v := 1) hx hb dX11_undo_23 (by decide) ?_
    refine lv_isub hx hb dX11_undo_24 ?_
    refine p_VernierDrawersModel_37 X hH hS hk_r dX11_undo_25 (fun H locs v3 ev3 hH hS => ?_)
    have ho := ho v3 ev3
    refine lv_aload_n hx hb dX11_undo_28 rfl (lv_at hl 0 rfl) ?_
    refine g_VernierDrawersModel_19 X hH hk_r dX11_undo_29 ?_
    refine lv_sipush (v := 3417) hx hb dX11_undo_32 (by decide) ?_
    refine lv_aload_n hx hb dX11_undo_35 rfl (lv_at hl 0 rfl) ?_
    refine g_VernierDrawersModel_37 X hH hk_r dX11_undo_36 ?_
    refine lv_imul hx hb dX11_undo_39 ?_
    refine lv_aload_n hx hb dX11_undo_40 rfl (lv_at hl 0 rfl) ?_
    refine g_VernierDrawersModel_7 X hH hk_r dX11_undo_41 ?_
    refine lv_iconst (v := 0) hx hb dX11_undo_44 (by decide) ?_
    have hq4 := ho
    refine k_X11_copies X hS hH (Or.inr kd_465) (Or.inl kd_462) hq4 t_ml_VernierDrawersModel_33 hl.1 (Nat.le_of_ble_eq_true rfl) ⟨Nat.le_of_ble_eq_true rfl, Nat.le_of_ble_eq_true rfl⟩ ⟨Nat.zero_le _, Nat.zero_le _⟩ dX11_undo_45 (fun da H locs v5 ev5 hH hS => ?_)
    refine lv_aload_n hx hb dX11_undo_48 rfl (lv_at hl 0 rfl) ?_
    refine g_VernierDrawersModel_37 X hH hk_r dX11_undo_49 ?_
    replace ev1 := Eq.symm ev1
    replace ev3 := Eq.symm ev3
    replace ev5 := Eq.symm ev5
    subst ev1 ev3 ev5
    exact E _ _ _ _ _ _ _ _ _ dX11_undo_52 rfl (pr1 ((fX11_undo.eq_1 _ _).trans ((if_neg c2).trans rfl))) (pr2 ((fX11_undo.eq_1 _ _).trans ((if_neg c2).trans rfl))) hH hS (Nat.zero_le _) (Nat.zero_le _)
  · skip
    refine lv_aload_n hx hb dX11_undo_12 rfl (lv_at hl 0 rfl) ?_
    refine lv_iconst (v := 1) hx hb dX11_undo_13 (by decide) ?_
    refine k_X11_fails X hS hH hk_r t_ml_VernierDrawersModel_42 hl.1 (Nat.le_of_ble_eq_true rfl) ⟨Nat.le_of_ble_eq_true rfl, Nat.le_of_ble_eq_true rfl⟩ ⟨Nat.zero_le _, Nat.zero_le _⟩ dX11_undo_14 (fun da H locs v6 ev6 hH hS => ?_)
    replace ev1 := Eq.symm ev1
    replace ev6 := Eq.symm ev6
    subst ev1 ev6
    exact E _ _ _ _ _ _ _ _ _ dX11_undo_17 rfl (pr1 ((fX11_undo.eq_1 _ _).trans ((if_pos c2).trans rfl))) (pr2 ((fX11_undo.eq_1 _ _).trans ((if_pos c2).trans rfl))) hH hS (Nat.zero_le _) (Nat.zero_le _)
theorem k_X11_undo {p : Program} {l : Launch} {e : Env} {R : Room} {s : State} {m : MethodId} {args : Array Value} {below : List Frame} {meth : Method} {c : Code} {H : Heap} {locs : List Loc} {cells slots : Nat} {Q : State → Prop} {cc : ByteArray} {pc nL : Nat} {ls : Array Slot} {rest : List Value} {G : gG} {own : String} {da : Nat → Nat} {v : vSt} {x : gX} (X : CX G p s m args c cc nL own) (hS : va_S (gA G) s.heap H locs) (hH : Hp G da v x H) {r : Nat} (hk_r : kd r = 11) (ho : oX11_undo r v) {idx : Nat} (hml : Cond.methodLink own idx yX11_undo ∈ TT) (hls : ls.size = nL) (hsum : (rest.map fun v => v.category).sum ≤ 8) (hR : rmX11_undo.frames + 1 ≤ R.frames ∧ 8 + (1 + 11) + rmX11_undo.locals ≤ R.locals) (hcs : cells ≤ R.cells ∧ slots ≤ R.slots) (hdg : decode cc pc = .ok (.invokevirtual idx, 3)) (kk : ∀ (d : Nat → Nat) (H1 : Heap) (locs1 : List Loc) (v1 : vSt), v1 = (fX11_undo r v).2 → Hp G d v1 x H1 → va_S (gA G) s.heap H1 locs1 → W p l e R s m args below meth c H1 locs1 cells slots Q (F0 m (pc + 3) ls (.int (fX11_undo r v).1 :: rest))) : W p l e R s m args below meth c H locs cells slots Q (F0 m pc ls (.ref (ga G r) :: rest)) := c_mi X.2.2.2.2.2.2 (runV (k := 0) X.1 X.2.1 X.2.2.1 X.2.2.2.1 X.2.2.2.2.1 (mX11_undo l G da v x r hk_r ho) pW_bl hml t_im_X11_undo t_sel_X11_undo t_ini_VernierDrawersModel t_code_X11_undo ⟨rfl, by decide, by decide, by decide +kernel⟩ rfl rfl hR hcs (recvW X hH (by rw [hk_r]; decide) (by rw [hk_r]; decide) (ce_11 hk_r) rfl) (preW X hS hH) rfl hls rfl hsum hdg) hS kk
def fX11_keep (r : Nat) (v : vSt) : Int32 × vSt := let v1 : vSt := u2 v r 8 0; let v2 : vSt := u2 v1 r 3 1; let v4 : vSt := fX11_copies 462 0 464 0 v2; (v4 462 (206 : Int32).toNatClampNeg, v4)
def oX11_keep (r : Nat) (v : vSt) : Prop := ∀ v1 : vSt, v1 = (u2 v r 8 0) → (∀ v2 : vSt, v2 = (u2 v1 r 3 1) → ((oX11_copies 462 0 464 0 v2) ∧ (∀ v4 : vSt, v4 = (fX11_copies 462 0 464 0 v2) → (vp_in (206) (mlen 462)))))
abbrev rmX11_keep : Room := { frames := 1, cells := 0, slots := 0, locals := 24 }
theorem dX11_keep_0 : decode cX11_keep 0 = .ok (.aload_n 0, 1) := by decide +kernel
theorem dX11_keep_1 : decode cX11_keep 1 = .ok (.iconst 0, 1) := by decide +kernel
theorem dX11_keep_2 : decode cX11_keep 2 = .ok (.putfield 29, 3) := by decide +kernel
theorem dX11_keep_5 : decode cX11_keep 5 = .ok (.aload_n 0, 1) := by decide +kernel
theorem dX11_keep_6 : decode cX11_keep 6 = .ok (.iconst 1, 1) := by decide +kernel
theorem dX11_keep_7 : decode cX11_keep 7 = .ok (.putfield 210, 3) := by decide +kernel
theorem dX11_keep_10 : decode cX11_keep 10 = .ok (.aload_n 0, 1) := by decide +kernel
theorem dX11_keep_11 : decode cX11_keep 11 = .ok (.getfield 7, 3) := by decide +kernel
theorem dX11_keep_14 : decode cX11_keep 14 = .ok (.iconst 0, 1) := by decide +kernel
theorem dX11_keep_15 : decode cX11_keep 15 = .ok (.aload_n 0, 1) := by decide +kernel
theorem dX11_keep_16 : decode cX11_keep 16 = .ok (.getfield 16, 3) := by decide +kernel
theorem dX11_keep_19 : decode cX11_keep 19 = .ok (.iconst 0, 1) := by decide +kernel
theorem dX11_keep_20 : decode cX11_keep 20 = .ok (.invokestatic 33, 3) := by decide +kernel
theorem dX11_keep_23 : decode cX11_keep 23 = .ok (.aload_n 0, 1) := by decide +kernel
theorem dX11_keep_24 : decode cX11_keep 24 = .ok (.getfield 7, 3) := by decide +kernel
theorem dX11_keep_27 : decode cX11_keep 27 = .ok (.sipush 206, 3) := by decide +kernel
theorem dX11_keep_30 : decode cX11_keep 30 = .ok (.iaload, 1) := by decide +kernel
theorem dX11_keep_31 : decode cX11_keep 31 = .ok (.ireturn, 1) := by decide +kernel
set_option maxHeartbeats 8000000 in
set_option maxRecDepth 100000 in
theorem mX11_keep (l : Launch) (G : gG) (da : Nat → Nat) (v : vSt) (x : gX) (r : Nat) (hk_r : kd r = 11) (ho : oX11_keep r v) : MI l yX11_keep cX11_keep 1 (some .int) rmX11_keep [.ref (ga G r)] G da v x 0 0 (fX11_keep r v).1 (fX11_keep r v).2 x := by
  refine gofMI (own := RX11) (by decide) rfl (Nat.le_of_ble_eq_true rfl) (fun p e s m args below meth c ls Q X hH hl E => ?_)
  have hx := X.1
  have hb := X.2.1
  have hown := X.2.2.2.1
  have hts := X.2.2.2.2.1
  have hS : va_S (gA G) s.heap s.heap [] := va_S.rf
  unfold oX11_keep at ho
  have hl : lv_has ls 1 [(0, .ref (ga G r))] := hl
  refine lv_aload_n hx hb dX11_keep_0 rfl (lv_at hl 0 rfl) ?_
  refine lv_iconst (v := 0) hx hb dX11_keep_1 (by decide) ?_
  refine p_VernierDrawersModel_29 X hH hS hk_r dX11_keep_2 (fun H locs v1 ev1 hH hS => ?_)
  have ho := ho v1 ev1
  refine lv_aload_n hx hb dX11_keep_5 rfl (lv_at hl 0 rfl) ?_
  refine lv_iconst (v := 1) hx hb dX11_keep_6 (by decide) ?_
  refine p_VernierDrawersModel_210 X hH hS hk_r rfl rfl dX11_keep_7 (fun H locs v2 ev2 hH hS => ?_)
  have ho := ho v2 ev2
  refine lv_aload_n hx hb dX11_keep_10 rfl (lv_at hl 0 rfl) ?_
  refine g_VernierDrawersModel_7 X hH hk_r dX11_keep_11 ?_
  refine lv_iconst (v := 0) hx hb dX11_keep_14 (by decide) ?_
  refine lv_aload_n hx hb dX11_keep_15 rfl (lv_at hl 0 rfl) ?_
  refine g_VernierDrawersModel_16 X hH hk_r dX11_keep_16 ?_
  refine lv_iconst (v := 0) hx hb dX11_keep_19 (by decide) ?_
  have hq3 := ho.1
  have ho := ho.2
  refine k_X11_copies X hS hH (Or.inl kd_462) (Or.inl kd_464) hq3 t_ml_VernierDrawersModel_33 hl.1 (Nat.le_of_ble_eq_true rfl) ⟨Nat.le_of_ble_eq_true rfl, Nat.le_of_ble_eq_true rfl⟩ ⟨Nat.zero_le _, Nat.zero_le _⟩ dX11_keep_20 (fun da H locs v4 ev4 hH hS => ?_)
  have ho := ho v4 ev4
  refine lv_aload_n hx hb dX11_keep_23 rfl (lv_at hl 0 rfl) ?_
  refine g_VernierDrawersModel_7 X hH hk_r dX11_keep_24 ?_
  refine lv_sipush (v := 206) hx hb dX11_keep_27 (by decide) ?_
  have hq5 := ho
  refine ald_M X hH (Or.inl kd_462) hq5 dX11_keep_30 ?_
  replace ev1 := Eq.symm ev1
  replace ev2 := Eq.symm ev2
  replace ev4 := Eq.symm ev4
  subst ev1 ev2 ev4
  exact E _ _ _ _ _ _ _ _ _ dX11_keep_31 rfl (pr1 rfl) (pr2 rfl) hH hS (Nat.zero_le _) (Nat.zero_le _)
theorem k_X11_keep {p : Program} {l : Launch} {e : Env} {R : Room} {s : State} {m : MethodId} {args : Array Value} {below : List Frame} {meth : Method} {c : Code} {H : Heap} {locs : List Loc} {cells slots : Nat} {Q : State → Prop} {cc : ByteArray} {pc nL : Nat} {ls : Array Slot} {rest : List Value} {G : gG} {own : String} {da : Nat → Nat} {v : vSt} {x : gX} (X : CX G p s m args c cc nL own) (hS : va_S (gA G) s.heap H locs) (hH : Hp G da v x H) {r : Nat} (hk_r : kd r = 11) (ho : oX11_keep r v) {idx : Nat} (hml : Cond.methodLink own idx yX11_keep ∈ TT) (hls : ls.size = nL) (hsum : (rest.map fun v => v.category).sum ≤ 8) (hR : rmX11_keep.frames + 1 ≤ R.frames ∧ 8 + (1 + 11) + rmX11_keep.locals ≤ R.locals) (hcs : cells ≤ R.cells ∧ slots ≤ R.slots) (hdg : decode cc pc = .ok (.invokevirtual idx, 3)) (kk : ∀ (d : Nat → Nat) (H1 : Heap) (locs1 : List Loc) (v1 : vSt), v1 = (fX11_keep r v).2 → Hp G d v1 x H1 → va_S (gA G) s.heap H1 locs1 → W p l e R s m args below meth c H1 locs1 cells slots Q (F0 m (pc + 3) ls (.int (fX11_keep r v).1 :: rest))) : W p l e R s m args below meth c H locs cells slots Q (F0 m pc ls (.ref (ga G r) :: rest)) := c_mi X.2.2.2.2.2.2 (runV (k := 0) X.1 X.2.1 X.2.2.1 X.2.2.2.1 X.2.2.2.2.1 (mX11_keep l G da v x r hk_r ho) pW_bl hml t_im_X11_keep t_sel_X11_keep t_ini_VernierDrawersModel t_code_X11_keep ⟨rfl, by decide, by decide, by decide +kernel⟩ rfl rfl hR hcs (recvW X hH (by rw [hk_r]; decide) (by rw [hk_r]; decide) (ce_11 hk_r) rfl) (preW X hS hH) rfl hls rfl hsum hdg) hS kk
def fX11_goBack (r : Nat) (v : vSt) : Int32 × vSt := let v2 : vSt := fX11_begins r v; if ((v2 r 3) : Int32) = 0 then (let v9 : vSt := (fX11_fails r 1 v2).2; ((fX11_fails r 1 v2).1, v9)) else (let v5 : vSt := fX11_copies 464 0 462 0 v2; let v7 : vSt := fX11_records r v5; (v7 462 (206 : Int32).toNatClampNeg, v7))
def oX11_goBack (r : Nat) (v : vSt) : Prop := (oX11_begins r v) ∧ (∀ v2 : vSt, v2 = (fX11_begins r v) → (¬ (((v2 r 3) : Int32) = 0) → ((oX11_copies 464 0 462 0 v2) ∧ (∀ v5 : vSt, v5 = (fX11_copies 464 0 462 0 v2) → ((oX11_records r v5) ∧ (∀ v7 : vSt, v7 = (fX11_records r v5) → (vp_in (206) (mlen 462))))))))
abbrev rmX11_goBack : Room := { frames := 2, cells := 0, slots := 0, locals := 45 }
theorem dX11_goBack_0 : decode cX11_goBack 0 = .ok (.aload_n 0, 1) := by decide +kernel
theorem dX11_goBack_1 : decode cX11_goBack 1 = .ok (.invokevirtual 180, 3) := by decide +kernel
theorem dX11_goBack_4 : decode cX11_goBack 4 = .ok (.aload_n 0, 1) := by decide +kernel
theorem dX11_goBack_5 : decode cX11_goBack 5 = .ok (.getfield 210, 3) := by decide +kernel
theorem dX11_goBack_8 : decode cX11_goBack 8 = .ok (.ifCond .ne 9, 3) := by decide +kernel
theorem dX11_goBack_11 : decode cX11_goBack 11 = .ok (.aload_n 0, 1) := by decide +kernel
theorem dX11_goBack_12 : decode cX11_goBack 12 = .ok (.iconst 1, 1) := by decide +kernel
theorem dX11_goBack_13 : decode cX11_goBack 13 = .ok (.invokevirtual 42, 3) := by decide +kernel
theorem dX11_goBack_16 : decode cX11_goBack 16 = .ok (.ireturn, 1) := by decide +kernel
theorem dX11_goBack_17 : decode cX11_goBack 17 = .ok (.aload_n 0, 1) := by decide +kernel
theorem dX11_goBack_18 : decode cX11_goBack 18 = .ok (.getfield 16, 3) := by decide +kernel
theorem dX11_goBack_21 : decode cX11_goBack 21 = .ok (.iconst 0, 1) := by decide +kernel
theorem dX11_goBack_22 : decode cX11_goBack 22 = .ok (.aload_n 0, 1) := by decide +kernel
theorem dX11_goBack_23 : decode cX11_goBack 23 = .ok (.getfield 7, 3) := by decide +kernel
theorem dX11_goBack_26 : decode cX11_goBack 26 = .ok (.iconst 0, 1) := by decide +kernel
theorem dX11_goBack_27 : decode cX11_goBack 27 = .ok (.invokestatic 33, 3) := by decide +kernel
theorem dX11_goBack_30 : decode cX11_goBack 30 = .ok (.aload_n 0, 1) := by decide +kernel
theorem dX11_goBack_31 : decode cX11_goBack 31 = .ok (.invokevirtual 46, 3) := by decide +kernel
theorem dX11_goBack_34 : decode cX11_goBack 34 = .ok (.aload_n 0, 1) := by decide +kernel
theorem dX11_goBack_35 : decode cX11_goBack 35 = .ok (.getfield 7, 3) := by decide +kernel
theorem dX11_goBack_38 : decode cX11_goBack 38 = .ok (.sipush 206, 3) := by decide +kernel
theorem dX11_goBack_41 : decode cX11_goBack 41 = .ok (.iaload, 1) := by decide +kernel
theorem dX11_goBack_42 : decode cX11_goBack 42 = .ok (.ireturn, 1) := by decide +kernel
set_option maxHeartbeats 8000000 in
set_option maxRecDepth 100000 in
theorem mX11_goBack (l : Launch) (G : gG) (da : Nat → Nat) (v : vSt) (x : gX) (r : Nat) (hk_r : kd r = 11) (ho : oX11_goBack r v) : MI l yX11_goBack cX11_goBack 1 (some .int) rmX11_goBack [.ref (ga G r)] G da v x 0 0 (fX11_goBack r v).1 (fX11_goBack r v).2 x := by
  refine gofMI (own := RX11) (by decide) rfl (Nat.le_of_ble_eq_true rfl) (fun p e s m args below meth c ls Q X hH hl E => ?_)
  have hx := X.1
  have hb := X.2.1
  have hown := X.2.2.2.1
  have hts := X.2.2.2.2.1
  have hS : va_S (gA G) s.heap s.heap [] := va_S.rf
  unfold oX11_goBack at ho
  have hl : lv_has ls 1 [(0, .ref (ga G r))] := hl
  refine lv_aload_n hx hb dX11_goBack_0 rfl (lv_at hl 0 rfl) ?_
  have hq1 := ho.1
  have ho := ho.2
  refine k_X11_begins X hS hH hk_r hq1 t_ml_VernierDrawersModel_180 hl.1 (Nat.le_of_ble_eq_true rfl) ⟨Nat.le_of_ble_eq_true rfl, Nat.le_of_ble_eq_true rfl⟩ ⟨Nat.zero_le _, Nat.zero_le _⟩ dX11_goBack_1 (fun da H locs v2 ev2 hH hS => ?_)
  have ho := ho v2 ev2
  refine lv_aload_n hx hb dX11_goBack_4 rfl (lv_at hl 0 rfl) ?_
  refine g_VernierDrawersModel_210 X hH hk_r dX11_goBack_5 ?_
  refine lv_if_ne (tgt := 17) hx hb dX11_goBack_8 (by decide) (fun c3 => ?_) (fun c3 => ?_)
  · have ho := ho c3
    refine lv_aload_n hx hb dX11_goBack_17 rfl (lv_at hl 0 rfl) ?_
    refine g_VernierDrawersModel_16 X hH hk_r dX11_goBack_18 ?_
    refine lv_iconst (v := 0) hx hb dX11_goBack_21 (by decide) ?_
    refine lv_aload_n hx hb dX11_goBack_22 rfl (lv_at hl 0 rfl) ?_
    refine g_VernierDrawersModel_7 X hH hk_r dX11_goBack_23 ?_
    refine lv_iconst (v := 0) hx hb dX11_goBack_26 (by decide) ?_
    have hq4 := ho.1
    have ho := ho.2
    refine k_X11_copies X hS hH (Or.inl kd_464) (Or.inl kd_462) hq4 t_ml_VernierDrawersModel_33 hl.1 (Nat.le_of_ble_eq_true rfl) ⟨Nat.le_of_ble_eq_true rfl, Nat.le_of_ble_eq_true rfl⟩ ⟨Nat.zero_le _, Nat.zero_le _⟩ dX11_goBack_27 (fun da H locs v5 ev5 hH hS => ?_)
    have ho := ho v5 ev5
    refine lv_aload_n hx hb dX11_goBack_30 rfl (lv_at hl 0 rfl) ?_
    have hq6 := ho.1
    have ho := ho.2
    refine k_X11_records X hS hH hk_r hq6 t_ml_VernierDrawersModel_46 hl.1 (Nat.le_of_ble_eq_true rfl) ⟨Nat.le_of_ble_eq_true rfl, Nat.le_of_ble_eq_true rfl⟩ ⟨Nat.zero_le _, Nat.zero_le _⟩ dX11_goBack_31 (fun da H locs v7 ev7 hH hS => ?_)
    have ho := ho v7 ev7
    refine lv_aload_n hx hb dX11_goBack_34 rfl (lv_at hl 0 rfl) ?_
    refine g_VernierDrawersModel_7 X hH hk_r dX11_goBack_35 ?_
    refine lv_sipush (v := 206) hx hb dX11_goBack_38 (by decide) ?_
    have hq8 := ho
    refine ald_M X hH (Or.inl kd_462) hq8 dX11_goBack_41 ?_
    replace ev2 := Eq.symm ev2
    replace ev5 := Eq.symm ev5
    replace ev7 := Eq.symm ev7
    subst ev2 ev5 ev7
    exact E _ _ _ _ _ _ _ _ _ dX11_goBack_42 rfl (pr1 ((fX11_goBack.eq_1 _ _).trans ((if_neg c3).trans rfl))) (pr2 ((fX11_goBack.eq_1 _ _).trans ((if_neg c3).trans rfl))) hH hS (Nat.zero_le _) (Nat.zero_le _)
  · skip
    refine lv_aload_n hx hb dX11_goBack_11 rfl (lv_at hl 0 rfl) ?_
    refine lv_iconst (v := 1) hx hb dX11_goBack_12 (by decide) ?_
    refine k_X11_fails X hS hH hk_r t_ml_VernierDrawersModel_42 hl.1 (Nat.le_of_ble_eq_true rfl) ⟨Nat.le_of_ble_eq_true rfl, Nat.le_of_ble_eq_true rfl⟩ ⟨Nat.zero_le _, Nat.zero_le _⟩ dX11_goBack_13 (fun da H locs v9 ev9 hH hS => ?_)
    replace ev2 := Eq.symm ev2
    replace ev9 := Eq.symm ev9
    subst ev2 ev9
    exact E _ _ _ _ _ _ _ _ _ dX11_goBack_16 rfl (pr1 ((fX11_goBack.eq_1 _ _).trans ((if_pos c3).trans rfl))) (pr2 ((fX11_goBack.eq_1 _ _).trans ((if_pos c3).trans rfl))) hH hS (Nat.zero_le _) (Nat.zero_le _)
theorem k_X11_goBack {p : Program} {l : Launch} {e : Env} {R : Room} {s : State} {m : MethodId} {args : Array Value} {below : List Frame} {meth : Method} {c : Code} {H : Heap} {locs : List Loc} {cells slots : Nat} {Q : State → Prop} {cc : ByteArray} {pc nL : Nat} {ls : Array Slot} {rest : List Value} {G : gG} {own : String} {da : Nat → Nat} {v : vSt} {x : gX} (X : CX G p s m args c cc nL own) (hS : va_S (gA G) s.heap H locs) (hH : Hp G da v x H) {r : Nat} (hk_r : kd r = 11) (ho : oX11_goBack r v) {idx : Nat} (hml : Cond.methodLink own idx yX11_goBack ∈ TT) (hls : ls.size = nL) (hsum : (rest.map fun v => v.category).sum ≤ 8) (hR : rmX11_goBack.frames + 1 ≤ R.frames ∧ 8 + (1 + 11) + rmX11_goBack.locals ≤ R.locals) (hcs : cells ≤ R.cells ∧ slots ≤ R.slots) (hdg : decode cc pc = .ok (.invokevirtual idx, 3)) (kk : ∀ (d : Nat → Nat) (H1 : Heap) (locs1 : List Loc) (v1 : vSt), v1 = (fX11_goBack r v).2 → Hp G d v1 x H1 → va_S (gA G) s.heap H1 locs1 → W p l e R s m args below meth c H1 locs1 cells slots Q (F0 m (pc + 3) ls (.int (fX11_goBack r v).1 :: rest))) : W p l e R s m args below meth c H locs cells slots Q (F0 m pc ls (.ref (ga G r) :: rest)) := c_mi X.2.2.2.2.2.2 (runV (k := 0) X.1 X.2.1 X.2.2.1 X.2.2.2.1 X.2.2.2.2.1 (mX11_goBack l G da v x r hk_r ho) pW_bl hml t_im_X11_goBack t_sel_X11_goBack t_ini_VernierDrawersModel t_code_X11_goBack ⟨rfl, by decide, by decide, by decide +kernel⟩ rfl rfl hR hcs (recvW X hH (by rw [hk_r]; decide) (by rw [hk_r]; decide) (ce_11 hk_r) rfl) (preW X hS hH) rfl hls rfl hsum hdg) hS kk
def fX11_asks (r : Nat) (p1 : Int32) (v : vSt) : Int32 × vSt := let y1 : Int32 := (if (p1 : Int32) = 0 then 1 else 0 : Int32); let v3 : vSt := u2 v r 8 y1; (p1, v3)
def oX11_asks (r : Nat) (p1 : Int32) (v : vSt) : Prop := (∀ (y1 : Int32), y1 = ((if (p1 : Int32) = 0 then 1 else 0 : Int32) : Int32) → (∀ v3 : vSt, v3 = (u2 v r 8 y1) → (((p1 : Int32) = 0 ∨ (p1 : Int32) = 1))))
abbrev rmX11_asks : Room := { frames := 0, cells := 0, slots := 0, locals := 0 }
theorem dX11_asks_0 : decode cX11_asks 0 = .ok (.aload_n 0, 1) := by decide +kernel
theorem dX11_asks_1 : decode cX11_asks 1 = .ok (.iload_n 1, 1) := by decide +kernel
theorem dX11_asks_2 : decode cX11_asks 2 = .ok (.ifCond .eq 7, 3) := by decide +kernel
theorem dX11_asks_5 : decode cX11_asks 5 = .ok (.iconst 0, 1) := by decide +kernel
theorem dX11_asks_6 : decode cX11_asks 6 = .ok (.goto 4, 3) := by decide +kernel
theorem dX11_asks_9 : decode cX11_asks 9 = .ok (.iconst 1, 1) := by decide +kernel
theorem dX11_asks_10 : decode cX11_asks 10 = .ok (.putfield 29, 3) := by decide +kernel
theorem dX11_asks_13 : decode cX11_asks 13 = .ok (.iload_n 1, 1) := by decide +kernel
theorem dX11_asks_14 : decode cX11_asks 14 = .ok (.ireturn, 1) := by decide +kernel
set_option maxHeartbeats 8000000 in
set_option maxRecDepth 100000 in
theorem mX11_asks (l : Launch) (G : gG) (da : Nat → Nat) (v : vSt) (x : gX) (r : Nat) (hk_r : kd r = 11) (p1 : Int32) (ho : oX11_asks r p1 v) : MI l yX11_asks cX11_asks 2 (some .boolean) rmX11_asks [.ref (ga G r), .int p1] G da v x 0 0 (fX11_asks r p1 v).1 (fX11_asks r p1 v).2 x := by
  refine gofMI (own := RX11) (by decide) rfl (Nat.le_of_ble_eq_true rfl) (fun p e s m args below meth c ls Q X hH hl E => ?_)
  have hx := X.1
  have hb := X.2.1
  have hown := X.2.2.2.1
  have hts := X.2.2.2.2.1
  have hS : va_S (gA G) s.heap s.heap [] := va_S.rf
  unfold oX11_asks at ho
  have hl : lv_has ls 2 [(0, .ref (ga G r)), (1, .int p1)] := hl
  refine lv_aload_n hx hb dX11_asks_0 rfl (lv_at hl 0 rfl) ?_
  refine lv_iload_n hx hb dX11_asks_1 rfl (lv_at hl 1 rfl) ?_
  have K2 : ∀ (y1 : Int32) (ls : Array Slot), y1 = (if (p1 : Int32) = 0 then 1 else 0 : Int32) → lv_has ls 2 [(1, .int p1)] → W p l e rmX11_asks s m args below meth c s.heap [] 0 0 Q (F0 m 10 ls [.int y1, .ref (ga G r)]) := by
    intro y1 ls ey1 hl
    have ho := ho y1 ey1
    refine p_VernierDrawersModel_29 X hH hS hk_r dX11_asks_10 (fun H locs v3 ev3 hH hS => ?_)
    have ho := ho v3 ev3
    refine lv_iload_n hx hb dX11_asks_13 rfl (lv_at hl 0 rfl) ?_
    have hq4 := ho
    replace ey1 := Eq.symm ey1
    replace ev3 := Eq.symm ev3
    subst ey1 ev3
    exact E _ _ _ _ _ _ _ _ _ dX11_asks_14 (bn01 hq4).1 (pr1 rfl) (pr2 rfl) hH hS (Nat.zero_le _) (Nat.zero_le _)
  refine lv_if_eq (tgt := 9) hx hb dX11_asks_2 (by decide) (fun c2 => ?_) (fun c2 => ?_)
  · skip
    refine lv_iconst (v := 1) hx hb dX11_asks_9 (by decide) ?_
    exact K2 _ _ (Eq.symm ((if_pos c2).trans rfl)) (lv_sub hl [1] rfl)
  · skip
    refine lv_iconst (v := 0) hx hb dX11_asks_5 (by decide) ?_
    refine lv_goto (tgt := 10) hx hb dX11_asks_6 (by decide) ?_
    exact K2 _ _ (Eq.symm ((if_neg c2).trans rfl)) (lv_sub hl [1] rfl)
theorem k_X11_asks {p : Program} {l : Launch} {e : Env} {R : Room} {s : State} {m : MethodId} {args : Array Value} {below : List Frame} {meth : Method} {c : Code} {H : Heap} {locs : List Loc} {cells slots : Nat} {Q : State → Prop} {cc : ByteArray} {pc nL : Nat} {ls : Array Slot} {rest : List Value} {G : gG} {own : String} {da : Nat → Nat} {v : vSt} {x : gX} (X : CX G p s m args c cc nL own) (hS : va_S (gA G) s.heap H locs) (hH : Hp G da v x H) {r : Nat} (hk_r : kd r = 11) {p1 : Int32} (ho : oX11_asks r p1 v) {idx : Nat} (hml : Cond.methodLink own idx yX11_asks ∈ TT) (hls : ls.size = nL) (hsum : (rest.map fun v => v.category).sum ≤ 8) (hR : rmX11_asks.frames + 1 ≤ R.frames ∧ 8 + (2 + 11) + rmX11_asks.locals ≤ R.locals) (hcs : cells ≤ R.cells ∧ slots ≤ R.slots) (hdg : decode cc pc = .ok (.invokevirtual idx, 3)) (kk : ∀ (d : Nat → Nat) (H1 : Heap) (locs1 : List Loc) (v1 : vSt), v1 = (fX11_asks r p1 v).2 → Hp G d v1 x H1 → va_S (gA G) s.heap H1 locs1 → W p l e R s m args below meth c H1 locs1 cells slots Q (F0 m (pc + 3) ls (.int (fX11_asks r p1 v).1 :: rest))) : W p l e R s m args below meth c H locs cells slots Q (F0 m pc ls (.int p1 :: .ref (ga G r) :: rest)) := c_mi X.2.2.2.2.2.2 (runV (k := 1) X.1 X.2.1 X.2.2.1 X.2.2.2.1 X.2.2.2.2.1 (mX11_asks l G da v x r hk_r p1 ho) pW_bl hml t_im_X11_asks t_sel_X11_asks t_ini_VernierDrawersModel t_code_X11_asks ⟨rfl, by decide, by decide, by decide +kernel⟩ rfl rfl hR hcs (recvW X hH (by rw [hk_r]; decide) (by rw [hk_r]; decide) (ce_11 hk_r) rfl) (preW X hS hH) rfl hls rfl hsum hdg) hS kk
