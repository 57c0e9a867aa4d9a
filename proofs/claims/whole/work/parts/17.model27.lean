/-! 17.model -/
def fX11_faultTold (r : Nat) (p1 : Int32) (v : vSt) : Int32 × vSt := let v1 : vSt := u2 v r 8 0; let v3 : vSt := fX11_copies 462 0 463 0 v1; let v5 : vSt := (fX11_doesAll r v3).2; let v7 : vSt := fX11_copies 463 0 462 0 v5; if ((v7 r 16) : Int32) = 0 then (let v11 : vSt := (fX11_fails r 1 v7).2; ((fX11_fails r 1 v7).1, v11)) else (if (p1 : Int32) = 0 then ((v7 r 11, v7)) else (if (p1 : Int32) = 1 then ((v7 r 16, v7)) else ((v7 r 17, v7))))
def oX11_faultTold (r : Nat) (p1 : Int32) (v : vSt) : Prop := ∀ v1 : vSt, v1 = (u2 v r 8 0) → ((oX11_copies 462 0 463 0 v1) ∧ (∀ v3 : vSt, v3 = (fX11_copies 462 0 463 0 v1) → ((oX11_doesAll r v3) ∧ (∀ v5 : vSt, v5 = ((fX11_doesAll r v3).2) → (oX11_copies 463 0 462 0 v5)))))
abbrev rmX11_faultTold : Room := { frames := 9, cells := 0, slots := 0, locals := 203 }
theorem dX11_faultTold_0 : decode cX11_faultTold 0 = .ok (.aload_n 0, 1) := by decide +kernel
theorem dX11_faultTold_1 : decode cX11_faultTold 1 = .ok (.iconst 0, 1) := by decide +kernel
theorem dX11_faultTold_2 : decode cX11_faultTold 2 = .ok (.putfield 29, 3) := by decide +kernel
theorem dX11_faultTold_5 : decode cX11_faultTold 5 = .ok (.aload_n 0, 1) := by decide +kernel
theorem dX11_faultTold_6 : decode cX11_faultTold 6 = .ok (.getfield 7, 3) := by decide +kernel
theorem dX11_faultTold_9 : decode cX11_faultTold 9 = .ok (.iconst 0, 1) := by decide +kernel
theorem dX11_faultTold_10 : decode cX11_faultTold 10 = .ok (.aload_n 0, 1) := by decide +kernel
theorem dX11_faultTold_11 : decode cX11_faultTold 11 = .ok (.getfield 13, 3) := by decide +kernel
theorem dX11_faultTold_14 : decode cX11_faultTold 14 = .ok (.iconst 0, 1) := by decide +kernel
theorem dX11_faultTold_15 : decode cX11_faultTold 15 = .ok (.invokestatic 33, 3) := by decide +kernel
theorem dX11_faultTold_18 : decode cX11_faultTold 18 = .ok (.aload_n 0, 1) := by decide +kernel
theorem dX11_faultTold_19 : decode cX11_faultTold 19 = .ok (.invokevirtual 296, 3) := by decide +kernel
theorem dX11_faultTold_22 : decode cX11_faultTold 22 = .ok (.istore_n 2, 1) := by decide +kernel
theorem dX11_faultTold_23 : decode cX11_faultTold 23 = .ok (.aload_n 0, 1) := by decide +kernel
theorem dX11_faultTold_24 : decode cX11_faultTold 24 = .ok (.getfield 13, 3) := by decide +kernel
theorem dX11_faultTold_27 : decode cX11_faultTold 27 = .ok (.iconst 0, 1) := by decide +kernel
theorem dX11_faultTold_28 : decode cX11_faultTold 28 = .ok (.aload_n 0, 1) := by decide +kernel
theorem dX11_faultTold_29 : decode cX11_faultTold 29 = .ok (.getfield 7, 3) := by decide +kernel
theorem dX11_faultTold_32 : decode cX11_faultTold 32 = .ok (.iconst 0, 1) := by decide +kernel
theorem dX11_faultTold_33 : decode cX11_faultTold 33 = .ok (.invokestatic 33, 3) := by decide +kernel
theorem dX11_faultTold_36 : decode cX11_faultTold 36 = .ok (.aload_n 0, 1) := by decide +kernel
theorem dX11_faultTold_37 : decode cX11_faultTold 37 = .ok (.getfield 284, 3) := by decide +kernel
theorem dX11_faultTold_40 : decode cX11_faultTold 40 = .ok (.ifCond .ne 11, 3) := by decide +kernel
theorem dX11_faultTold_43 : decode cX11_faultTold 43 = .ok (.aload_n 0, 1) := by decide +kernel
theorem dX11_faultTold_44 : decode cX11_faultTold 44 = .ok (.iconst 1, 1) := by decide +kernel
theorem dX11_faultTold_45 : decode cX11_faultTold 45 = .ok (.invokevirtual 42, 3) := by decide +kernel
theorem dX11_faultTold_48 : decode cX11_faultTold 48 = .ok (.goto 30, 3) := by decide +kernel
theorem dX11_faultTold_51 : decode cX11_faultTold 51 = .ok (.iload_n 1, 1) := by decide +kernel
theorem dX11_faultTold_52 : decode cX11_faultTold 52 = .ok (.ifCond .ne 10, 3) := by decide +kernel
theorem dX11_faultTold_55 : decode cX11_faultTold 55 = .ok (.aload_n 0, 1) := by decide +kernel
theorem dX11_faultTold_56 : decode cX11_faultTold 56 = .ok (.getfield 265, 3) := by decide +kernel
theorem dX11_faultTold_59 : decode cX11_faultTold 59 = .ok (.goto 19, 3) := by decide +kernel
theorem dX11_faultTold_62 : decode cX11_faultTold 62 = .ok (.iload_n 1, 1) := by decide +kernel
theorem dX11_faultTold_63 : decode cX11_faultTold 63 = .ok (.iconst 1, 1) := by decide +kernel
theorem dX11_faultTold_64 : decode cX11_faultTold 64 = .ok (.if_icmp .ne 10, 3) := by decide +kernel
theorem dX11_faultTold_67 : decode cX11_faultTold 67 = .ok (.aload_n 0, 1) := by decide +kernel
theorem dX11_faultTold_68 : decode cX11_faultTold 68 = .ok (.getfield 284, 3) := by decide +kernel
theorem dX11_faultTold_71 : decode cX11_faultTold 71 = .ok (.goto 7, 3) := by decide +kernel
theorem dX11_faultTold_74 : decode cX11_faultTold 74 = .ok (.aload_n 0, 1) := by decide +kernel
theorem dX11_faultTold_75 : decode cX11_faultTold 75 = .ok (.getfield 293, 3) := by decide +kernel
theorem dX11_faultTold_78 : decode cX11_faultTold 78 = .ok (.ireturn, 1) := by decide +kernel
set_option maxHeartbeats 8000000 in
set_option maxRecDepth 100000 in
theorem mX11_faultTold (l : Launch) (G : gG) (da : Nat → Nat) (v : vSt) (x : gX) (r : Nat) (hk_r : kd r = 11) (p1 : Int32) (ho : oX11_faultTold r p1 v) : MI l yX11_faultTold cX11_faultTold 3 (some .int) rmX11_faultTold [.ref (ga G r), .int p1] G da v x 0 0 (fX11_faultTold r p1 v).1 (fX11_faultTold r p1 v).2 x := by
  refine gofMI (own := RX11) (by decide) rfl (Nat.le_of_ble_eq_true rfl) (fun p e s m args below meth c ls Q X hH hl E => ?_)
  have hx := X.1
  have hb := X.2.1
  have hown := X.2.2.2.1
  have hts := X.2.2.2.2.1
  have hS : va_S (gA G) s.heap s.heap [] := va_S.rf
  unfold oX11_faultTold at ho
  have hl : lv_has ls 3 [(0, .ref (ga G r)), (1, .int p1)] := hl
  refine lv_aload_n hx hb dX11_faultTold_0 rfl (lv_at hl 0 rfl) ?_
  refine lv_iconst (v := 0) hx hb dX11_faultTold_1 (by decide) ?_
  refine p_VernierDrawersModel_29 X hH hS hk_r dX11_faultTold_2 (fun H locs v1 ev1 hH hS => ?_)
  have ho := ho v1 ev1
  refine lv_aload_n hx hb dX11_faultTold_5 rfl (lv_at hl 0 rfl) ?_
  refine g_VernierDrawersModel_7 X hH hk_r dX11_faultTold_6 ?_
  refine lv_iconst (v := 0) hx hb dX11_faultTold_9 (by decide) ?_
  refine lv_aload_n hx hb dX11_faultTold_10 rfl (lv_at hl 0 rfl) ?_
  refine g_VernierDrawersModel_13 X hH hk_r dX11_faultTold_11 ?_
  refine lv_iconst (v := 0) hx hb dX11_faultTold_14 (by decide) ?_
  have hq2 := ho.1
  have ho := ho.2
  refine k_X11_copies X hS hH (Or.inl kd_462) (Or.inl kd_463) hq2 t_ml_VernierDrawersModel_33 hl.1 (Nat.le_of_ble_eq_true rfl) ⟨Nat.le_of_ble_eq_true rfl, Nat.le_of_ble_eq_true rfl⟩ ⟨Nat.zero_le _, Nat.zero_le _⟩ dX11_faultTold_15 (fun da H locs v3 ev3 hH hS => ?_)
  have ho := ho v3 ev3
  refine lv_aload_n hx hb dX11_faultTold_18 rfl (lv_at hl 0 rfl) ?_
  have hq4 := ho.1
  have ho := ho.2
  refine k_X11_doesAll X hS hH hk_r hq4 t_ml_VernierDrawersModel_296 hl.1 (Nat.le_of_ble_eq_true rfl) ⟨Nat.le_of_ble_eq_true rfl, Nat.le_of_ble_eq_true rfl⟩ ⟨Nat.zero_le _, Nat.zero_le _⟩ dX11_faultTold_19 (fun da H locs v5 ev5 hH hS => ?_)
  have ho := ho v5 ev5
  refine lv_istore_n (lv' := [(2, .int ((fX11_doesAll r v3).1)), (0, .ref (ga G r)), (1, .int p1)]) hx hb dX11_faultTold_22 rfl hl (by decide) rfl (fun ls hl => ?_)
  refine lv_aload_n hx hb dX11_faultTold_23 rfl (lv_at hl 1 rfl) ?_
  refine g_VernierDrawersModel_13 X hH hk_r dX11_faultTold_24 ?_
  refine lv_iconst (v := 0) hx hb dX11_faultTold_27 (by decide) ?_
  refine lv_aload_n hx hb dX11_faultTold_28 rfl (lv_at hl 1 rfl) ?_
  refine g_VernierDrawersModel_7 X hH hk_r dX11_faultTold_29 ?_
  refine lv_iconst (v := 0) hx hb dX11_faultTold_32 (by decide) ?_
  have hq6 := ho
  refine k_X11_copies X hS hH (Or.inl kd_463) (Or.inl kd_462) hq6 t_ml_VernierDrawersModel_33 hl.1 (Nat.le_of_ble_eq_true rfl) ⟨Nat.le_of_ble_eq_true rfl, Nat.le_of_ble_eq_true rfl⟩ ⟨Nat.zero_le _, Nat.zero_le _⟩ dX11_faultTold_33 (fun da H locs v7 ev7 hH hS => ?_)
  refine lv_aload_n hx hb dX11_faultTold_36 rfl (lv_at hl 1 rfl) ?_
  refine g_VernierDrawersModel_284 X hH hk_r dX11_faultTold_37 ?_
  refine lv_if_ne (tgt := 51) hx hb dX11_faultTold_40 (by decide) (fun c8 => ?_) (fun c8 => ?_)
  · skip
    refine lv_iload_n hx hb dX11_faultTold_51 rfl (lv_at hl 2 rfl) ?_
    refine lv_if_ne (tgt := 62) hx hb dX11_faultTold_52 (by decide) (fun c9 => ?_) (fun c9 => ?_)
    · skip
      refine lv_iload_n hx hb dX11_faultTold_62 rfl (lv_at hl 2 rfl) ?_
      refine lv_iconst (v := 1) hx hb dX11_faultTold_63 (by decide) ?_
      refine lv_icmp_ne (tgt := 74) hx hb dX11_faultTold_64 (by decide) (fun c10 => ?_) (fun c10 => ?_)
      · skip
        refine lv_aload_n hx hb dX11_faultTold_74 rfl (lv_at hl 1 rfl) ?_
        refine g_VernierDrawersModel_293 X hH hk_r dX11_faultTold_75 ?_
        replace ev1 := Eq.symm ev1
        replace ev3 := Eq.symm ev3
        replace ev5 := Eq.symm ev5
        replace ev7 := Eq.symm ev7
        subst ev1 ev3 ev5 ev7
        exact E _ _ _ _ _ _ _ _ _ dX11_faultTold_78 rfl (pr1 ((fX11_faultTold.eq_1 _ _ _).trans ((if_neg c8).trans ((if_neg c9).trans ((if_neg c10).trans rfl))))) (pr2 ((fX11_faultTold.eq_1 _ _ _).trans ((if_neg c8).trans ((if_neg c9).trans ((if_neg c10).trans rfl))))) hH hS (Nat.zero_le _) (Nat.zero_le _)
      · skip
        refine lv_aload_n hx hb dX11_faultTold_67 rfl (lv_at hl 1 rfl) ?_
        refine g_VernierDrawersModel_284 X hH hk_r dX11_faultTold_68 ?_
        refine lv_goto (tgt := 78) hx hb dX11_faultTold_71 (by decide) ?_
        replace ev1 := Eq.symm ev1
        replace ev3 := Eq.symm ev3
        replace ev5 := Eq.symm ev5
        replace ev7 := Eq.symm ev7
        subst ev1 ev3 ev5 ev7
        exact E _ _ _ _ _ _ _ _ _ dX11_faultTold_78 rfl (pr1 ((fX11_faultTold.eq_1 _ _ _).trans ((if_neg c8).trans ((if_neg c9).trans ((if_pos c10).trans rfl))))) (pr2 ((fX11_faultTold.eq_1 _ _ _).trans ((if_neg c8).trans ((if_neg c9).trans ((if_pos c10).trans rfl))))) hH hS (Nat.zero_le _) (Nat.zero_le _)
    · skip
      refine lv_aload_n hx hb dX11_faultTold_55 rfl (lv_at hl 1 rfl) ?_
      refine g_VernierDrawersModel_265 X hH hk_r dX11_faultTold_56 ?_
      refine lv_goto (tgt := 78) hx hb dX11_faultTold_59 (by decide) ?_
      replace ev1 := Eq.symm ev1
      replace ev3 := Eq.symm ev3
      replace ev5 := Eq.symm ev5
      replace ev7 := Eq.symm ev7
      subst ev1 ev3 ev5 ev7
      exact E _ _ _ _ _ _ _ _ _ dX11_faultTold_78 rfl (pr1 ((fX11_faultTold.eq_1 _ _ _).trans ((if_neg c8).trans ((if_pos c9).trans rfl)))) (pr2 ((fX11_faultTold.eq_1 _ _ _).trans ((if_neg c8).trans ((if_pos c9).trans rfl)))) hH hS (Nat.zero_le _) (Nat.zero_le _)
  · skip
    refine lv_aload_n hx hb dX11_faultTold_43 rfl (lv_at hl 1 rfl) ?_
    refine lv_iconst (v := 1) hx hb dX11_faultTold_44 (by decide) ?_
    refine k_X11_fails X hS hH hk_r t_ml_VernierDrawersModel_42 hl.1 (Nat.le_of_ble_eq_true rfl) ⟨Nat.le_of_ble_eq_true rfl, Nat.le_of_ble_eq_true rfl⟩ ⟨Nat.zero_le _, Nat.zero_le _⟩ dX11_faultTold_45 (fun da H locs v11 ev11 hH hS => ?_)
    refine lv_goto (tgt := 78) hx hb dX11_faultTold_48 (by decide) ?_
    replace ev1 := Eq.symm ev1
    replace ev3 := Eq.symm ev3
    replace ev5 := Eq.symm ev5
    replace ev7 := Eq.symm ev7
    replace ev11 := Eq.symm ev11
    subst ev1 ev3 ev5 ev7 ev11
    exact E _ _ _ _ _ _ _ _ _ dX11_faultTold_78 rfl (pr1 ((fX11_faultTold.eq_1 _ _ _).trans ((if_pos c8).trans rfl))) (pr2 ((fX11_faultTold.eq_1 _ _ _).trans ((if_pos c8).trans rfl))) hH hS (Nat.zero_le _) (Nat.zero_le _)
theorem k_X11_faultTold {p : Program} {l : Launch} {e : Env} {R : Room} {s : State} {m : MethodId} {args : Array Value} {below : List Frame} {meth : Method} {c : Code} {H : Heap} {locs : List Loc} {cells slots : Nat} {Q : State → Prop} {cc : ByteArray} {pc nL : Nat} {ls : Array Slot} {rest : List Value} {G : gG} {own : String} {da : Nat → Nat} {v : vSt} {x : gX} (X : CX G p s m args c cc nL own) (hS : va_S (gA G) s.heap H locs) (hH : Hp G da v x H) {r : Nat} (hk_r : kd r = 11) {p1 : Int32} (ho : oX11_faultTold r p1 v) {idx : Nat} (hml : Cond.methodLink own idx yX11_faultTold ∈ TT) (hls : ls.size = nL) (hsum : (rest.map fun v => v.category).sum ≤ 8) (hR : rmX11_faultTold.frames + 1 ≤ R.frames ∧ 8 + (3 + 11) + rmX11_faultTold.locals ≤ R.locals) (hcs : cells ≤ R.cells ∧ slots ≤ R.slots) (hdg : decode cc pc = .ok (.invokevirtual idx, 3)) (kk : ∀ (d : Nat → Nat) (H1 : Heap) (locs1 : List Loc) (v1 : vSt), v1 = (fX11_faultTold r p1 v).2 → Hp G d v1 x H1 → va_S (gA G) s.heap H1 locs1 → W p l e R s m args below meth c H1 locs1 cells slots Q (F0 m (pc + 3) ls (.int (fX11_faultTold r p1 v).1 :: rest))) : W p l e R s m args below meth c H locs cells slots Q (F0 m pc ls (.int p1 :: .ref (ga G r) :: rest)) := c_mi X.2.2.2.2.2.2 (runV (k := 1) X.1 X.2.1 X.2.2.1 X.2.2.2.1 X.2.2.2.2.1 (mX11_faultTold l G da v x r hk_r p1 ho) pW_bl hml t_im_X11_faultTold t_sel_X11_faultTold t_ini_VernierDrawersModel t_code_X11_faultTold ⟨rfl, by decide, by decide, by decide +kernel⟩ rfl rfl hR hcs (recvW X hH (by rw [hk_r]; decide) (by rw [hk_r]; decide) (ce_11 hk_r) rfl) (preW X hS hH) rfl hls rfl hsum hdg) hS kk
def fX11_faultPosition (r : Nat) (v : vSt) : Int32 × vSt := let v2 : vSt := (fX11_faultTold r 0 v).2; ((fX11_faultTold r 0 v).1, v2)
def oX11_faultPosition (r : Nat) (v : vSt) : Prop := oX11_faultTold r 0 v
abbrev rmX11_faultPosition : Room := { frames := 10, cells := 0, slots := 0, locals := 225 }
theorem dX11_faultPosition_0 : decode cX11_faultPosition 0 = .ok (.aload_n 0, 1) := by decide +kernel
theorem dX11_faultPosition_1 : decode cX11_faultPosition 1 = .ok (.iconst 0, 1) := by decide +kernel
theorem dX11_faultPosition_2 : decode cX11_faultPosition 2 = .ok (.invokevirtual 299, 3) := by decide +kernel
theorem dX11_faultPosition_5 : decode cX11_faultPosition 5 = .ok (.ireturn, 1) := by decide +kernel
set_option maxHeartbeats 8000000 in
set_option maxRecDepth 100000 in
theorem mX11_faultPosition (l : Launch) (G : gG) (da : Nat → Nat) (v : vSt) (x : gX) (r : Nat) (hk_r : kd r = 11) (ho : oX11_faultPosition r v) : MI l yX11_faultPosition cX11_faultPosition 1 (some .int) rmX11_faultPosition [.ref (ga G r)] G da v x 0 0 (fX11_faultPosition r v).1 (fX11_faultPosition r v).2 x := by
  refine gofMI (own := RX11) (by decide) rfl (Nat.le_of_ble_eq_true rfl) (fun p e s m args below meth c ls Q X hH hl E => ?_)
  have hx := X.1
  have hb := X.2.1
  have hown := X.2.2.2.1
  have hts := X.2.2.2.2.1
  have hS : va_S (gA G) s.heap s.heap [] := va_S.rf
  unfold oX11_faultPosition at ho
  have hl : lv_has ls 1 [(0, .ref (ga G r))] := hl
  refine lv_aload_n hx hb dX11_faultPosition_0 rfl (lv_at hl 0 rfl) ?_
  refine lv_iconst (v := 0) hx hb dX11_faultPosition_1 (by decide) ?_
  have hq1 := ho
  refine k_X11_faultTold X hS hH hk_r hq1 t_ml_VernierDrawersModel_299 hl.1 (Nat.le_of_ble_eq_true rfl) ⟨Nat.le_of_ble_eq_true rfl, Nat.le_of_ble_eq_true rfl⟩ ⟨Nat.zero_le _, Nat.zero_le _⟩ dX11_faultPosition_2 (fun da H locs v2 ev2 hH hS => ?_)
  replace ev2 := Eq.symm ev2
  subst ev2
  exact E _ _ _ _ _ _ _ _ _ dX11_faultPosition_5 rfl (pr1 rfl) (pr2 rfl) hH hS (Nat.zero_le _) (Nat.zero_le _)
theorem k_X11_faultPosition {p : Program} {l : Launch} {e : Env} {R : Room} {s : State} {m : MethodId} {args : Array Value} {below : List Frame} {meth : Method} {c : Code} {H : Heap} {locs : List Loc} {cells slots : Nat} {Q : State → Prop} {cc : ByteArray} {pc nL : Nat} {ls : Array Slot} {rest : List Value} {G : gG} {own : String} {da : Nat → Nat} {v : vSt} {x : gX} (X : CX G p s m args c cc nL own) (hS : va_S (gA G) s.heap H locs) (hH : Hp G da v x H) {r : Nat} (hk_r : kd r = 11) (ho : oX11_faultPosition r v) {idx : Nat} (hml : Cond.methodLink own idx yX11_faultPosition ∈ TT) (hls : ls.size = nL) (hsum : (rest.map fun v => v.category).sum ≤ 8) (hR : rmX11_faultPosition.frames + 1 ≤ R.frames ∧ 8 + (1 + 11) + rmX11_faultPosition.locals ≤ R.locals) (hcs : cells ≤ R.cells ∧ slots ≤ R.slots) (hdg : decode cc pc = .ok (.invokevirtual idx, 3)) (kk : ∀ (d : Nat → Nat) (H1 : Heap) (locs1 : List Loc) (v1 : vSt), v1 = (fX11_faultPosition r v).2 → Hp G d v1 x H1 → va_S (gA G) s.heap H1 locs1 → W p l e R s m args below meth c H1 locs1 cells slots Q (F0 m (pc + 3) ls (.int (fX11_faultPosition r v).1 :: rest))) : W p l e R s m args below meth c H locs cells slots Q (F0 m pc ls (.ref (ga G r) :: rest)) := c_mi X.2.2.2.2.2.2 (runV (k := 0) X.1 X.2.1 X.2.2.1 X.2.2.2.1 X.2.2.2.2.1 (mX11_faultPosition l G da v x r hk_r ho) pW_bl hml t_im_X11_faultPosition t_sel_X11_faultPosition t_ini_VernierDrawersModel t_code_X11_faultPosition ⟨rfl, by decide, by decide, by decide +kernel⟩ rfl rfl hR hcs (recvW X hH (by rw [hk_r]; decide) (by rw [hk_r]; decide) (ce_11 hk_r) rfl) (preW X hS hH) rfl hls rfl hsum hdg) hS kk
def fX11_faultReason (r : Nat) (v : vSt) : Int32 × vSt := let v2 : vSt := (fX11_faultTold r 1 v).2; ((fX11_faultTold r 1 v).1, v2)
def oX11_faultReason (r : Nat) (v : vSt) : Prop := oX11_faultTold r 1 v
abbrev rmX11_faultReason : Room := { frames := 10, cells := 0, slots := 0, locals := 225 }
theorem dX11_faultReason_0 : decode cX11_faultReason 0 = .ok (.aload_n 0, 1) := by decide +kernel
theorem dX11_faultReason_1 : decode cX11_faultReason 1 = .ok (.iconst 1, 1) := by decide +kernel
theorem dX11_faultReason_2 : decode cX11_faultReason 2 = .ok (.invokevirtual 299, 3) := by decide +kernel
theorem dX11_faultReason_5 : decode cX11_faultReason 5 = .ok (.ireturn, 1) := by decide +kernel
set_option maxHeartbeats 8000000 in
set_option maxRecDepth 100000 in
theorem mX11_faultReason (l : Launch) (G : gG) (da : Nat → Nat) (v : vSt) (x : gX) (r : Nat) (hk_r : kd r = 11) (ho : oX11_faultReason r v) : MI l yX11_faultReason cX11_faultReason 1 (some .int) rmX11_faultReason [.ref (ga G r)] G da v x 0 0 (fX11_faultReason r v).1 (fX11_faultReason r v).2 x := by
  refine gofMI (own := RX11) (by decide) rfl (Nat.le_of_ble_eq_true rfl) (fun p e s m args below meth c ls Q X hH hl E => ?_)
  have hx := X.1
  have hb := X.2.1
  have hown := X.2.2.2.1
  have hts := X.2.2.2.2.1
  have hS : va_S (gA G) s.heap s.heap [] := va_S.rf
  unfold oX11_faultReason at ho
  have hl : lv_has ls 1 [(0, .ref (ga G r))] := hl
  refine lv_aload_n hx hb dX11_faultReason_0 rfl (lv_at hl 0 rfl) ?_
  refine lv_iconst (v := 1) hx hb dX11_faultReason_1 (by decide) ?_
  have hq1 := ho
  refine k_X11_faultTold X hS hH hk_r hq1 t_ml_VernierDrawersModel_299 hl.1 (Nat.le_of_ble_eq_true rfl) ⟨Nat.le_of_ble_eq_true rfl, Nat.le_of_ble_eq_true rfl⟩ ⟨Nat.zero_le _, Nat.zero_le _⟩ dX11_faultReason_2 (fun da H locs v2 ev2 hH hS => ?_)
  replace ev2 := Eq.symm ev2
  subst ev2
  exact E _ _ _ _ _ _ _ _ _ dX11_faultReason_5 rfl (pr1 rfl) (pr2 rfl) hH hS (Nat.zero_le _) (Nat.zero_le _)
theorem k_X11_faultReason {p : Program} {l : Launch} {e : Env} {R : Room} {s : State} {m : MethodId} {args : Array Value} {below : List Frame} {meth : Method} {c : Code} {H : Heap} {locs : List Loc} {cells slots : Nat} {Q : State → Prop} {cc : ByteArray} {pc nL : Nat} {ls : Array Slot} {rest : List Value} {G : gG} {own : String} {da : Nat → Nat} {v : vSt} {x : gX} (X : CX G p s m args c cc nL own) (hS : va_S (gA G) s.heap H locs) (hH : Hp G da v x H) {r : Nat} (hk_r : kd r = 11) (ho : oX11_faultReason r v) {idx : Nat} (hml : Cond.methodLink own idx yX11_faultReason ∈ TT) (hls : ls.size = nL) (hsum : (rest.map fun v => v.category).sum ≤ 8) (hR : rmX11_faultReason.frames + 1 ≤ R.frames ∧ 8 + (1 + 11) + rmX11_faultReason.locals ≤ R.locals) (hcs : cells ≤ R.cells ∧ slots ≤ R.slots) (hdg : decode cc pc = .ok (.invokevirtual idx, 3)) (kk : ∀ (d : Nat → Nat) (H1 : Heap) (locs1 : List Loc) (v1 : vSt), v1 = (fX11_faultReason r v).2 → Hp G d v1 x H1 → va_S (gA G) s.heap H1 locs1 → W p l e R s m args below meth c H1 locs1 cells slots Q (F0 m (pc + 3) ls (.int (fX11_faultReason r v).1 :: rest))) : W p l e R s m args below meth c H locs cells slots Q (F0 m pc ls (.ref (ga G r) :: rest)) := c_mi X.2.2.2.2.2.2 (runV (k := 0) X.1 X.2.1 X.2.2.1 X.2.2.2.1 X.2.2.2.2.1 (mX11_faultReason l G da v x r hk_r ho) pW_bl hml t_im_X11_faultReason t_sel_X11_faultReason t_ini_VernierDrawersModel t_code_X11_faultReason ⟨rfl, by decide, by decide, by decide +kernel⟩ rfl rfl hR hcs (recvW X hH (by rw [hk_r]; decide) (by rw [hk_r]; decide) (ce_11 hk_r) rfl) (preW X hS hH) rfl hls rfl hsum hdg) hS kk
def fX11_faultCause (r : Nat) (v : vSt) : Int32 × vSt := let v2 : vSt := (fX11_faultTold r 2 v).2; ((fX11_faultTold r 2 v).1, v2)
def oX11_faultCause (r : Nat) (v : vSt) : Prop := oX11_faultTold r 2 v
abbrev rmX11_faultCause : Room := { frames := 10, cells := 0, slots := 0, locals := 225 }
theorem dX11_faultCause_0 : decode cX11_faultCause 0 = .ok (.aload_n 0, 1) := by decide +kernel
theorem dX11_faultCause_1 : decode cX11_faultCause 1 = .ok (.iconst 2, 1) := by decide +kernel
theorem dX11_faultCause_2 : decode cX11_faultCause 2 = .ok (.invokevirtual 299, 3) := by decide +kernel
theorem dX11_faultCause_5 : decode cX11_faultCause 5 = .ok (.ireturn, 1) := by decide +kernel
set_option maxHeartbeats 8000000 in
set_option maxRecDepth 100000 in
theorem mX11_faultCause (l : Launch) (G : gG) (da : Nat → Nat) (v : vSt) (x : gX) (r : Nat) (hk_r : kd r = 11) (ho : oX11_faultCause r v) : MI l yX11_faultCause cX11_faultCause 1 (some .int) rmX11_faultCause [.ref (ga G r)] G da v x 0 0 (fX11_faultCause r v).1 (fX11_faultCause r v).2 x := by
  refine gofMI (own := RX11) (by decide) rfl (Nat.le_of_ble_eq_true rfl) (fun p e s m args below meth c ls Q X hH hl E => ?_)
  have hx := X.1
  have hb := X.2.1
  have hown := X.2.2.2.1
  have hts := X.2.2.2.2.1
  have hS : va_S (gA G) s.heap s.heap [] := va_S.rf
  unfold oX11_faultCause at ho
  have hl : lv_has ls 1 [(0, .ref (ga G r))] := hl
  refine lv_aload_n hx hb dX11_faultCause_0 rfl (lv_at hl 0 rfl) ?_
  refine lv_iconst (v := 2) hx hb dX11_faultCause_1 (by decide) ?_
  have hq1 := ho
  refine k_X11_faultTold X hS hH hk_r hq1 t_ml_VernierDrawersModel_299 hl.1 (Nat.le_of_ble_eq_true rfl) ⟨Nat.le_of_ble_eq_true rfl, Nat.le_of_ble_eq_true rfl⟩ ⟨Nat.zero_le _, Nat.zero_le _⟩ dX11_faultCause_2 (fun da H locs v2 ev2 hH hS => ?_)
  replace ev2 := Eq.symm ev2
  subst ev2
  exact E _ _ _ _ _ _ _ _ _ dX11_faultCause_5 rfl (pr1 rfl) (pr2 rfl) hH hS (Nat.zero_le _) (Nat.zero_le _)
theorem k_X11_faultCause {p : Program} {l : Launch} {e : Env} {R : Room} {s : State} {m : MethodId} {args : Array Value} {below : List Frame} {meth : Method} {c : Code} {H : Heap} {locs : List Loc} {cells slots : Nat} {Q : State → Prop} {cc : ByteArray} {pc nL : Nat} {ls : Array Slot} {rest : List Value} {G : gG} {own : String} {da : Nat → Nat} {v : vSt} {x : gX} (X : CX G p s m args c cc nL own) (hS : va_S (gA G) s.heap H locs) (hH : Hp G da v x H) {r : Nat} (hk_r : kd r = 11) (ho : oX11_faultCause r v) {idx : Nat} (hml : Cond.methodLink own idx yX11_faultCause ∈ TT) (hls : ls.size = nL) (hsum : (rest.map fun v => v.category).sum ≤ 8) (hR : rmX11_faultCause.frames + 1 ≤ R.frames ∧ 8 + (1 + 11) + rmX11_faultCause.locals ≤ R.locals) (hcs : cells ≤ R.cells ∧ slots ≤ R.slots) (hdg : decode cc pc = .ok (.invokevirtual idx, 3)) (kk : ∀ (d : Nat → Nat) (H1 : Heap) (locs1 : List Loc) (v1 : vSt), v1 = (fX11_faultCause r v).2 → Hp G d v1 x H1 → va_S (gA G) s.heap H1 locs1 → W p l e R s m args below meth c H1 locs1 cells slots Q (F0 m (pc + 3) ls (.int (fX11_faultCause r v).1 :: rest))) : W p l e R s m args below meth c H locs cells slots Q (F0 m pc ls (.ref (ga G r) :: rest)) := c_mi X.2.2.2.2.2.2 (runV (k := 0) X.1 X.2.1 X.2.2.1 X.2.2.2.1 X.2.2.2.2.1 (mX11_faultCause l G da v x r hk_r ho) pW_bl hml t_im_X11_faultCause t_sel_X11_faultCause t_ini_VernierDrawersModel t_code_X11_faultCause ⟨rfl, by decide, by decide, by decide +kernel⟩ rfl rfl hR hcs (recvW X hH (by rw [hk_r]; decide) (by rw [hk_r]; decide) (ce_11 hk_r) rfl) (preW X hS hH) rfl hls rfl hsum hdg) hS kk
def fX11_play (r : Nat) (v : vSt) : Int32 × vSt := let v2 : vSt := fX11_begins r v; let v4 : vSt := (fX11_doesAll r v2).2; if ((v4 r 16) : Int32) ≤ 0 then (let v7 : vSt := fX11_records r v4; ((fX11_doesAll r v2).1, v7)) else (let v9 : vSt := fX11_copies 463 0 462 0 v4; let v10 : vSt := (fX11_fails r 1 v9).2; ((fX11_fails r 1 v9).1, v10))
def oX11_play (r : Nat) (v : vSt) : Prop := (oX11_begins r v) ∧ (∀ v2 : vSt, v2 = (fX11_begins r v) → ((oX11_doesAll r v2) ∧ (∀ v4 : vSt, v4 = ((fX11_doesAll r v2).2) → (((((v4 r 16) : Int32) ≤ 0) → (oX11_records r v4)) ∧ (¬ (((v4 r 16) : Int32) ≤ 0) → (oX11_copies 463 0 462 0 v4))))))
abbrev rmX11_play : Room := { frames := 9, cells := 0, slots := 0, locals := 203 }
theorem dX11_play_0 : decode cX11_play 0 = .ok (.aload_n 0, 1) := by decide +kernel
theorem dX11_play_1 : decode cX11_play 1 = .ok (.invokevirtual 180, 3) := by decide +kernel
theorem dX11_play_4 : decode cX11_play 4 = .ok (.aload_n 0, 1) := by decide +kernel
theorem dX11_play_5 : decode cX11_play 5 = .ok (.invokevirtual 296, 3) := by decide +kernel
theorem dX11_play_8 : decode cX11_play 8 = .ok (.istore_n 1, 1) := by decide +kernel
theorem dX11_play_9 : decode cX11_play 9 = .ok (.aload_n 0, 1) := by decide +kernel
theorem dX11_play_10 : decode cX11_play 10 = .ok (.getfield 284, 3) := by decide +kernel
theorem dX11_play_13 : decode cX11_play 13 = .ok (.ifCond .le 22, 3) := by decide +kernel
theorem dX11_play_16 : decode cX11_play 16 = .ok (.aload_n 0, 1) := by decide +kernel
theorem dX11_play_17 : decode cX11_play 17 = .ok (.getfield 13, 3) := by decide +kernel
theorem dX11_play_20 : decode cX11_play 20 = .ok (.iconst 0, 1) := by decide +kernel
theorem dX11_play_21 : decode cX11_play 21 = .ok (.aload_n 0, 1) := by decide +kernel
theorem dX11_play_22 : decode cX11_play 22 = .ok (.getfield 7, 3) := by decide +kernel
theorem dX11_play_25 : decode cX11_play 25 = .ok (.iconst 0, 1) := by decide +kernel
theorem dX11_play_26 : decode cX11_play 26 = .ok (.invokestatic 33, 3) := by decide +kernel
theorem dX11_play_29 : decode cX11_play 29 = .ok (.aload_n 0, 1) := by decide +kernel
theorem dX11_play_30 : decode cX11_play 30 = .ok (.iconst 1, 1) := by decide +kernel
theorem dX11_play_31 : decode cX11_play 31 = .ok (.invokevirtual 42, 3) := by decide +kernel
theorem dX11_play_34 : decode cX11_play 34 = .ok (.ireturn, 1) := by decide +kernel
theorem dX11_play_35 : decode cX11_play 35 = .ok (.aload_n 0, 1) := by decide +kernel
theorem dX11_play_36 : decode cX11_play 36 = .ok (.invokevirtual 46, 3) := by decide +kernel
theorem dX11_play_39 : decode cX11_play 39 = .ok (.iload_n 1, 1) := by decide +kernel
theorem dX11_play_40 : decode cX11_play 40 = .ok (.ireturn, 1) := by decide +kernel
set_option maxHeartbeats 8000000 in
set_option maxRecDepth 100000 in
theorem mX11_play (l : Launch) (G : gG) (da : Nat → Nat) (v : vSt) (x : gX) (r : Nat) (hk_r : kd r = 11) (ho : oX11_play r v) : MI l yX11_play cX11_play 2 (some .int) rmX11_play [.ref (ga G r)] G da v x 0 0 (fX11_play r v).1 (fX11_play r v).2 x := by
  refine gofMI (own := RX11) (by decide) rfl (Nat.le_of_ble_eq_true rfl) (fun p e s m args below meth c ls Q X hH hl E => ?_)
  have hx := X.1
  have hb := X.2.1
  have hown := X.2.2.2.1
  have hts := X.2.2.2.2.1
  have hS : va_S (gA G) s.heap s.heap [] := va_S.rf
  unfold oX11_play at ho
  have hl : lv_has ls 2 [(0, .ref (ga G r))] := hl
  refine lv_aload_n hx hb dX11_play_0 rfl (lv_at hl 0 rfl) ?_
  have hq1 := ho.1
  have ho := ho.2
  refine k_X11_begins X hS hH hk_r hq1 t_ml_VernierDrawersModel_180 hl.1 (Nat.le_of_ble_eq_true rfl) ⟨Nat.le_of_ble_eq_true rfl, Nat.le_of_ble_eq_true rfl⟩ ⟨Nat.zero_le _, Nat.zero_le _⟩ dX11_play_1 (fun da H locs v2 ev2 hH hS => ?_)
  have ho := ho v2 ev2
  refine lv_aload_n hx hb dX11_play_4 rfl (lv_at hl 0 rfl) ?_
  have hq3 := ho.1
  have ho := ho.2
  refine k_X11_doesAll X hS hH hk_r hq3 t_ml_VernierDrawersModel_296 hl.1 (Nat.le_of_ble_eq_true rfl) ⟨Nat.le_of_ble_eq_true rfl, Nat.le_of_ble_eq_true rfl⟩ ⟨Nat.zero_le _, Nat.zero_le _⟩ dX11_play_5 (fun da H locs v4 ev4 hH hS => ?_)
  have ho := ho v4 ev4
  refine lv_istore_n (lv' := [(1, .int ((fX11_doesAll r v2).1)), (0, .ref (ga G r))]) hx hb dX11_play_8 rfl hl (by decide) rfl (fun ls hl => ?_)
  refine lv_aload_n hx hb dX11_play_9 rfl (lv_at hl 1 rfl) ?_
  refine g_VernierDrawersModel_284 X hH hk_r dX11_play_10 ?_
  refine lv_if_le (tgt := 35) hx hb dX11_play_13 (by decide) (fun c5 => ?_) (fun c5 => ?_)
  · have ho := ho.1 c5
    refine lv_aload_n hx hb dX11_play_35 rfl (lv_at hl 1 rfl) ?_
    have hq6 := ho
    refine k_X11_records X hS hH hk_r hq6 t_ml_VernierDrawersModel_46 hl.1 (Nat.le_of_ble_eq_true rfl) ⟨Nat.le_of_ble_eq_true rfl, Nat.le_of_ble_eq_true rfl⟩ ⟨Nat.zero_le _, Nat.zero_le _⟩ dX11_play_36 (fun da H locs v7 ev7 hH hS => ?_)
    refine lv_iload_n hx hb dX11_play_39 rfl (lv_at hl 0 rfl) ?_
    replace ev2 := Eq.symm ev2
    replace ev4 := Eq.symm ev4
    replace ev7 := Eq.symm ev7
    subst ev2 ev4 ev7
    exact E _ _ _ _ _ _ _ _ _ dX11_play_40 rfl (pr1 ((fX11_play.eq_1 _ _).trans ((if_pos c5).trans rfl))) (pr2 ((fX11_play.eq_1 _ _).trans ((if_pos c5).trans rfl))) hH hS (Nat.zero_le _) (Nat.zero_le _)
  · have ho := ho.2 c5
    refine lv_aload_n hx hb dX11_play_16 rfl (lv_at hl 1 rfl) ?_
    refine g_VernierDrawersModel_13 X hH hk_r dX11_play_17 ?_
    refine lv_iconst (v := 0) hx hb dX11_play_20 (by decide) ?_
    refine lv_aload_n hx hb dX11_play_21 rfl (lv_at hl 1 rfl) ?_
    refine g_VernierDrawersModel_7 X hH hk_r dX11_play_22 ?_
    refine lv_iconst (v := 0) hx hb dX11_play_25 (by decide) ?_
    have hq8 := ho
    refine k_X11_copies X hS hH (Or.inl kd_463) (Or.inl kd_462) hq8 t_ml_VernierDrawersModel_33 hl.1 (Nat.le_of_ble_eq_true rfl) ⟨Nat.le_of_ble_eq_true rfl, Nat.le_of_ble_eq_true rfl⟩ ⟨Nat.zero_le _, Nat.zero_le _⟩ dX11_play_26 (fun da H locs v9 ev9 hH hS => ?_)
    refine lv_aload_n hx hb dX11_play_29 rfl (lv_at hl 1 rfl) ?_
    refine lv_iconst (v := 1) hx hb dX11_play_30 (by decide) ?_
    refine k_X11_fails X hS hH hk_r t_ml_VernierDrawersModel_42 hl.1 (Nat.le_of_ble_eq_true rfl) ⟨Nat.le_of_ble_eq_true rfl, Nat.le_of_ble_eq_true rfl⟩ ⟨Nat.zero_le _, Nat.zero_le _⟩ dX11_play_31 (fun da H locs v10 ev10 hH hS => ?_)
    replace ev2 := Eq.symm ev2
    replace ev4 := Eq.symm ev4
    replace ev9 := Eq.symm ev9
    replace ev10 := Eq.symm ev10
    subst ev2 ev4 ev9 ev10
    exact E _ _ _ _ _ _ _ _ _ dX11_play_34 rfl (pr1 ((fX11_play.eq_1 _ _).trans ((if_neg c5).trans rfl))) (pr2 ((fX11_play.eq_1 _ _).trans ((if_neg c5).trans rfl))) hH hS (Nat.zero_le _) (Nat.zero_le _)
theorem k_X11_play {p : Program} {l : Launch} {e : Env} {R : Room} {s : State} {m : MethodId} {args : Array Value} {below : List Frame} {meth : Method} {c : Code} {H : Heap} {locs : List Loc} {cells slots : Nat} {Q : State → Prop} {cc : ByteArray} {pc nL : Nat} {ls : Array Slot} {rest : List Value} {G : gG} {own : String} {da : Nat → Nat} {v : vSt} {x : gX} (X : CX G p s m args c cc nL own) (hS : va_S (gA G) s.heap H locs) (hH : Hp G da v x H) {r : Nat} (hk_r : kd r = 11) (ho : oX11_play r v) {idx : Nat} (hml : Cond.methodLink own idx yX11_play ∈ TT) (hls : ls.size = nL) (hsum : (rest.map fun v => v.category).sum ≤ 8) (hR : rmX11_play.frames + 1 ≤ R.frames ∧ 8 + (2 + 11) + rmX11_play.locals ≤ R.locals) (hcs : cells ≤ R.cells ∧ slots ≤ R.slots) (hdg : decode cc pc = .ok (.invokevirtual idx, 3)) (kk : ∀ (d : Nat → Nat) (H1 : Heap) (locs1 : List Loc) (v1 : vSt), v1 = (fX11_play r v).2 → Hp G d v1 x H1 → va_S (gA G) s.heap H1 locs1 → W p l e R s m args below meth c H1 locs1 cells slots Q (F0 m (pc + 3) ls (.int (fX11_play r v).1 :: rest))) : W p l e R s m args below meth c H locs cells slots Q (F0 m pc ls (.ref (ga G r) :: rest)) := c_mi X.2.2.2.2.2.2 (runV (k := 0) X.1 X.2.1 X.2.2.1 X.2.2.2.1 X.2.2.2.2.1 (mX11_play l G da v x r hk_r ho) pW_bl hml t_im_X11_play t_sel_X11_play t_ini_VernierDrawersModel t_code_X11_play ⟨rfl, by decide, by decide, by decide +kernel⟩ rfl rfl hR hcs (recvW X hH (by rw [hk_r]; decide) (by rw [hk_r]; decide) (ce_11 hk_r) rfl) (preW X hS hH) rfl hls rfl hsum hdg) hS kk
