/-! 17.model -/
def fX11_wouldJudge (r : Nat) (p1 : Int32) (v : vSt) : Int32 × vSt := let v3 : vSt := (fX11_asks r (fX11_isTool r p1 v) v).2; if (((fX11_asks r (fX11_isTool r p1 v) v).1) : Int32) = 0 then ((0, v3)) else (if ((fX11_reasonNot r p1 v3) : Int32) = 0 then ((fX11_judgement r p1 v3, v3)) else (let v7 : vSt := (fX11_fails r 2 v3).2; ((fX11_fails r 2 v3).1, v7)))
def oX11_wouldJudge (r : Nat) (p1 : Int32) (v : vSt) : Prop := (oX11_isTool r p1 v) ∧ ((oX11_asks r (fX11_isTool r p1 v) v) ∧ (∀ v3 : vSt, v3 = ((fX11_asks r (fX11_isTool r p1 v) v).2) → (¬ ((((fX11_asks r (fX11_isTool r p1 v) v).1) : Int32) = 0) → ((oX11_reasonNot r p1 v3) ∧ ((((fX11_reasonNot r p1 v3) : Int32) = 0) → (oX11_judgement r p1 v3))))))
abbrev rmX11_wouldJudge : Room := { frames := 6, cells := 0, slots := 0, locals := 136 }
theorem dX11_wouldJudge_0 : decode cX11_wouldJudge 0 = .ok (.aload_n 0, 1) := by decide +kernel
theorem dX11_wouldJudge_1 : decode cX11_wouldJudge 1 = .ok (.aload_n 0, 1) := by decide +kernel
theorem dX11_wouldJudge_2 : decode cX11_wouldJudge 2 = .ok (.iload_n 1, 1) := by decide +kernel
theorem dX11_wouldJudge_3 : decode cX11_wouldJudge 3 = .ok (.invokevirtual 129, 3) := by decide +kernel
theorem dX11_wouldJudge_6 : decode cX11_wouldJudge 6 = .ok (.invokevirtual 214, 3) := by decide +kernel
theorem dX11_wouldJudge_9 : decode cX11_wouldJudge 9 = .ok (.ifCond .ne 5, 3) := by decide +kernel
theorem dX11_wouldJudge_12 : decode cX11_wouldJudge 12 = .ok (.iconst 0, 1) := by decide +kernel
theorem dX11_wouldJudge_13 : decode cX11_wouldJudge 13 = .ok (.ireturn, 1) := by decide +kernel
theorem dX11_wouldJudge_14 : decode cX11_wouldJudge 14 = .ok (.aload_n 0, 1) := by decide +kernel
theorem dX11_wouldJudge_15 : decode cX11_wouldJudge 15 = .ok (.iload_n 1, 1) := by decide +kernel
theorem dX11_wouldJudge_16 : decode cX11_wouldJudge 16 = .ok (.invokevirtual 161, 3) := by decide +kernel
theorem dX11_wouldJudge_19 : decode cX11_wouldJudge 19 = .ok (.ifCond .ne 11, 3) := by decide +kernel
theorem dX11_wouldJudge_22 : decode cX11_wouldJudge 22 = .ok (.aload_n 0, 1) := by decide +kernel
theorem dX11_wouldJudge_23 : decode cX11_wouldJudge 23 = .ok (.iload_n 1, 1) := by decide +kernel
theorem dX11_wouldJudge_24 : decode cX11_wouldJudge 24 = .ok (.invokevirtual 164, 3) := by decide +kernel
theorem dX11_wouldJudge_27 : decode cX11_wouldJudge 27 = .ok (.goto 8, 3) := by decide +kernel
theorem dX11_wouldJudge_30 : decode cX11_wouldJudge 30 = .ok (.aload_n 0, 1) := by decide +kernel
theorem dX11_wouldJudge_31 : decode cX11_wouldJudge 31 = .ok (.iconst 2, 1) := by decide +kernel
theorem dX11_wouldJudge_32 : decode cX11_wouldJudge 32 = .ok (.invokevirtual 42, 3) := by decide +kernel
theorem dX11_wouldJudge_35 : decode cX11_wouldJudge 35 = .ok (.ireturn, 1) := by decide +kernel
set_option maxHeartbeats 8000000 in
set_option maxRecDepth 100000 in
theorem mX11_wouldJudge (l : Launch) (G : gG) (da : Nat → Nat) (v : vSt) (x : gX) (r : Nat) (hk_r : kd r = 11) (p1 : Int32) (ho : oX11_wouldJudge r p1 v) : MI l yX11_wouldJudge cX11_wouldJudge 2 (some .int) rmX11_wouldJudge [.ref (ga G r), .int p1] G da v x 0 0 (fX11_wouldJudge r p1 v).1 (fX11_wouldJudge r p1 v).2 x := by
  refine gofMI (own := RX11) (by decide) rfl (Nat.le_of_ble_eq_true rfl) (fun p e s m args below meth c ls Q X hH hl E => ?_)
  have hx := X.1
  have hb := X.2.1
  have hown := X.2.2.2.1
  have hts := X.2.2.2.2.1
  have hS : va_S (gA G) s.heap s.heap [] := va_S.rf
  unfold oX11_wouldJudge at ho
  have hl : lv_has ls 2 [(0, .ref (ga G r)), (1, .int p1)] := hl
  refine lv_aload_n hx hb dX11_wouldJudge_0 rfl (lv_at hl 0 rfl) ?_
  refine lv_aload_n hx hb dX11_wouldJudge_1 rfl (lv_at hl 0 rfl) ?_
  refine lv_iload_n hx hb dX11_wouldJudge_2 rfl (lv_at hl 1 rfl) ?_
  have hq1 := ho.1
  have ho := ho.2
  refine k_X11_isTool X hS hH hk_r hq1 t_ml_VernierDrawersModel_129 hl.1 (Nat.le_of_ble_eq_true rfl) ⟨Nat.le_of_ble_eq_true rfl, Nat.le_of_ble_eq_true rfl⟩ ⟨Nat.zero_le _, Nat.zero_le _⟩ dX11_wouldJudge_3 ?_
  have hq2 := ho.1
  have ho := ho.2
  refine k_X11_asks X hS hH hk_r hq2 t_ml_VernierDrawersModel_214 hl.1 (Nat.le_of_ble_eq_true rfl) ⟨Nat.le_of_ble_eq_true rfl, Nat.le_of_ble_eq_true rfl⟩ ⟨Nat.zero_le _, Nat.zero_le _⟩ dX11_wouldJudge_6 (fun da H locs v3 ev3 hH hS => ?_)
  have ho := ho v3 ev3
  refine lv_if_ne (tgt := 14) hx hb dX11_wouldJudge_9 (by decide) (fun c4 => ?_) (fun c4 => ?_)
  · have ho := ho c4
    refine lv_aload_n hx hb dX11_wouldJudge_14 rfl (lv_at hl 0 rfl) ?_
    refine lv_iload_n hx hb dX11_wouldJudge_15 rfl (lv_at hl 1 rfl) ?_
    have hq5 := ho.1
    have ho := ho.2
    refine k_X11_reasonNot X hS hH hk_r hq5 t_ml_VernierDrawersModel_161 hl.1 (Nat.le_of_ble_eq_true rfl) ⟨Nat.le_of_ble_eq_true rfl, Nat.le_of_ble_eq_true rfl⟩ ⟨Nat.zero_le _, Nat.zero_le _⟩ dX11_wouldJudge_16 ?_
    refine lv_if_ne (tgt := 30) hx hb dX11_wouldJudge_19 (by decide) (fun c6 => ?_) (fun c6 => ?_)
    · skip
      refine lv_aload_n hx hb dX11_wouldJudge_30 rfl (lv_at hl 0 rfl) ?_
      refine lv_iconst (v := 2) hx hb dX11_wouldJudge_31 (by decide) ?_
      refine k_X11_fails X hS hH hk_r t_ml_VernierDrawersModel_42 hl.1 (Nat.le_of_ble_eq_true rfl) ⟨Nat.le_of_ble_eq_true rfl, Nat.le_of_ble_eq_true rfl⟩ ⟨Nat.zero_le _, Nat.zero_le _⟩ dX11_wouldJudge_32 (fun da H locs v7 ev7 hH hS => ?_)
      replace ev3 := Eq.symm ev3
      replace ev7 := Eq.symm ev7
      subst ev3 ev7
      exact E _ _ _ _ _ _ _ _ _ dX11_wouldJudge_35 rfl (pr1 ((fX11_wouldJudge.eq_1 _ _ _).trans ((if_neg c4).trans ((if_neg c6).trans rfl)))) (pr2 ((fX11_wouldJudge.eq_1 _ _ _).trans ((if_neg c4).trans ((if_neg c6).trans rfl)))) hH hS (Nat.zero_le _) (Nat.zero_le _)
    · have ho := ho c6
      refine lv_aload_n hx hb dX11_wouldJudge_22 rfl (lv_at hl 0 rfl) ?_
      refine lv_iload_n hx hb dX11_wouldJudge_23 rfl (lv_at hl 1 rfl) ?_
      have hq8 := ho
      refine k_X11_judgement X hS hH hk_r hq8 t_ml_VernierDrawersModel_164 hl.1 (Nat.le_of_ble_eq_true rfl) ⟨Nat.le_of_ble_eq_true rfl, Nat.le_of_ble_eq_true rfl⟩ ⟨Nat.zero_le _, Nat.zero_le _⟩ dX11_wouldJudge_24 ?_
      refine lv_goto (tgt := 35) hx hb dX11_wouldJudge_27 (by decide) ?_
      replace ev3 := Eq.symm ev3
      subst ev3
      exact E _ _ _ _ _ _ _ _ _ dX11_wouldJudge_35 rfl (pr1 ((fX11_wouldJudge.eq_1 _ _ _).trans ((if_neg c4).trans ((if_pos c6).trans rfl)))) (pr2 ((fX11_wouldJudge.eq_1 _ _ _).trans ((if_neg c4).trans ((if_pos c6).trans rfl)))) hH hS (Nat.zero_le _) (Nat.zero_le _)
  · skip
    refine lv_iconst (v := 0) hx hb dX11_wouldJudge_12 (by decide) ?_
    replace ev3 := Eq.symm ev3
    subst ev3
    exact E _ _ _ _ _ _ _ _ _ dX11_wouldJudge_13 rfl (pr1 ((fX11_wouldJudge.eq_1 _ _ _).trans ((if_pos c4).trans rfl))) (pr2 ((fX11_wouldJudge.eq_1 _ _ _).trans ((if_pos c4).trans rfl))) hH hS (Nat.zero_le _) (Nat.zero_le _)
theorem k_X11_wouldJudge {p : Program} {l : Launch} {e : Env} {R : Room} {s : State} {m : MethodId} {args : Array Value} {below : List Frame} {meth : Method} {c : Code} {H : Heap} {locs : List Loc} {cells slots : Nat} {Q : State → Prop} {cc : ByteArray} {pc nL : Nat} {ls : Array Slot} {rest : List Value} {G : gG} {own : String} {da : Nat → Nat} {v : vSt} {x : gX} (X : CX G p s m args c cc nL own) (hS : va_S (gA G) s.heap H locs) (hH : Hp G da v x H) {r : Nat} (hk_r : kd r = 11) {p1 : Int32} (ho : oX11_wouldJudge r p1 v) {idx : Nat} (hml : Cond.methodLink own idx yX11_wouldJudge ∈ TT) (hls : ls.size = nL) (hsum : (rest.map fun v => v.category).sum ≤ 8) (hR : rmX11_wouldJudge.frames + 1 ≤ R.frames ∧ 8 + (2 + 11) + rmX11_wouldJudge.locals ≤ R.locals) (hcs : cells ≤ R.cells ∧ slots ≤ R.slots) (hdg : decode cc pc = .ok (.invokevirtual idx, 3)) (kk : ∀ (d : Nat → Nat) (H1 : Heap) (locs1 : List Loc) (v1 : vSt), v1 = (fX11_wouldJudge r p1 v).2 → Hp G d v1 x H1 → va_S (gA G) s.heap H1 locs1 → W p l e R s m args below meth c H1 locs1 cells slots Q (F0 m (pc + 3) ls (.int (fX11_wouldJudge r p1 v).1 :: rest))) : W p l e R s m args below meth c H locs cells slots Q (F0 m pc ls (.int p1 :: .ref (ga G r) :: rest)) := c_mi X.2.2.2.2.2.2 (runV (k := 1) X.1 X.2.1 X.2.2.1 X.2.2.2.1 X.2.2.2.2.1 (mX11_wouldJudge l G da v x r hk_r p1 ho) pW_bl hml t_im_X11_wouldJudge t_sel_X11_wouldJudge t_ini_VernierDrawersModel t_code_X11_wouldJudge ⟨rfl, by decide, by decide, by decide +kernel⟩ rfl rfl hR hcs (recvW X hH (by rw [hk_r]; decide) (by rw [hk_r]; decide) (ce_11 hk_r) rfl) (preW X hS hH) rfl hls rfl hsum hdg) hS kk
def lX11_bestTool_13 (v : vSt) (r : Nat) : Nat → Int32 → Int32 → Int32
  | 0, i2, i3 => i3
  | n + 1, i2, i3 => if (i2 : Int32) < 0 then i3 else (let y6 : Int32 := (if ((fX11_reasonNot r i2 v) : Int32) = 0 then (if (i3 : Int32) < 0 then 1 else (if ((fX11_step r i3 v) : Int32) < (fX11_step r i2 v) then 0 else 1)) else 0 : Int32); let y8 : Int32 := (if (y6 : Int32) = 0 then i3 else i2 : Int32); lX11_bestTool_13 v r n (i2 + (-1)) y8)
def olX11_bestTool_13 (v : vSt) (r : Nat) : Nat → Int32 → Int32 → Prop
  | 0, _, _ => False
  | n + 1, i2, i3 => ¬ ((i2 : Int32) < 0) → ((oX11_reasonNot r i2 v) ∧ (((((fX11_reasonNot r i2 v) : Int32) = 0) → (¬ ((i3 : Int32) < 0) → ((oX11_step r i2 v) ∧ (oX11_step r i3 v)))) ∧ (∀ (y6 : Int32), y6 = ((if ((fX11_reasonNot r i2 v) : Int32) = 0 then (if (i3 : Int32) < 0 then 1 else (if ((fX11_step r i3 v) : Int32) < (fX11_step r i2 v) then 0 else 1)) else 0 : Int32) : Int32) → ((∀ (y8 : Int32), y8 = ((if (y6 : Int32) = 0 then i3 else i2 : Int32) : Int32) → (olX11_bestTool_13 v r n (i2 + (-1)) y8))))))
def fX11_bestTool (r : Nat) (v : vSt) : Int32 × vSt := let y4 : Int32 := (lX11_bestTool_13 v r ((Int32.toInt ((v 462 (203 : Int32).toNatClampNeg) - 1)).toNat + 2) ((v 462 (203 : Int32).toNatClampNeg) - 1) (-1)); let y12 : Int32 := (if (y4 : Int32) < 0 then 0 else 1 : Int32); let v15 : vSt := (fX11_asks r y12 v).2; if (((fX11_asks r y12 v).1) : Int32) = 0 then ((0, v15)) else ((y4, v15))
def oX11_bestTool (r : Nat) (v : vSt) : Prop := (vp_in (203) (mlen 462)) ∧ (olX11_bestTool_13 v r ((Int32.toInt ((v 462 (203 : Int32).toNatClampNeg) - 1)).toNat + 2) ((v 462 (203 : Int32).toNatClampNeg) - 1) (-1) ∧ (∀ (y4 : Int32), y4 = ((lX11_bestTool_13 v r ((Int32.toInt ((v 462 (203 : Int32).toNatClampNeg) - 1)).toNat + 2) ((v 462 (203 : Int32).toNatClampNeg) - 1) (-1)) : Int32) → ((∀ (y12 : Int32), y12 = ((if (y4 : Int32) < 0 then 0 else 1 : Int32) : Int32) → (oX11_asks r y12 v)))))
abbrev rmX11_bestTool : Room := { frames := 5, cells := 0, slots := 0, locals := 114 }
theorem dX11_bestTool_0 : decode cX11_bestTool 0 = .ok (.iconst (-1), 1) := by decide +kernel
theorem dX11_bestTool_1 : decode cX11_bestTool 1 = .ok (.istore_n 1, 1) := by decide +kernel
theorem dX11_bestTool_2 : decode cX11_bestTool 2 = .ok (.aload_n 0, 1) := by decide +kernel
theorem dX11_bestTool_3 : decode cX11_bestTool 3 = .ok (.getfield 7, 3) := by decide +kernel
theorem dX11_bestTool_6 : decode cX11_bestTool 6 = .ok (.sipush 203, 3) := by decide +kernel
theorem dX11_bestTool_9 : decode cX11_bestTool 9 = .ok (.iaload, 1) := by decide +kernel
theorem dX11_bestTool_10 : decode cX11_bestTool 10 = .ok (.iconst 1, 1) := by decide +kernel
theorem dX11_bestTool_11 : decode cX11_bestTool 11 = .ok (.isub, 1) := by decide +kernel
theorem dX11_bestTool_12 : decode cX11_bestTool 12 = .ok (.istore_n 2, 1) := by decide +kernel
theorem dX11_bestTool_13 : decode cX11_bestTool 13 = .ok (.iload_n 2, 1) := by decide +kernel
theorem dX11_bestTool_14 : decode cX11_bestTool 14 = .ok (.ifCond .lt 50, 3) := by decide +kernel
theorem dX11_bestTool_17 : decode cX11_bestTool 17 = .ok (.aload_n 0, 1) := by decide +kernel
theorem dX11_bestTool_18 : decode cX11_bestTool 18 = .ok (.iload_n 2, 1) := by decide +kernel
theorem dX11_bestTool_19 : decode cX11_bestTool 19 = .ok (.invokevirtual 161, 3) := by decide +kernel
theorem dX11_bestTool_22 : decode cX11_bestTool 22 = .ok (.ifCond .ne 24, 3) := by decide +kernel
theorem dX11_bestTool_25 : decode cX11_bestTool 25 = .ok (.iload_n 1, 1) := by decide +kernel
theorem dX11_bestTool_26 : decode cX11_bestTool 26 = .ok (.ifCond .lt 16, 3) := by decide +kernel
theorem dX11_bestTool_29 : decode cX11_bestTool 29 = .ok (.aload_n 0, 1) := by decide +kernel
theorem dX11_bestTool_30 : decode cX11_bestTool 30 = .ok (.iload_n 2, 1) := by decide +kernel
theorem dX11_bestTool_31 : decode cX11_bestTool 31 = .ok (.invokevirtual 61, 3) := by decide +kernel
theorem dX11_bestTool_34 : decode cX11_bestTool 34 = .ok (.aload_n 0, 1) := by decide +kernel
theorem dX11_bestTool_35 : decode cX11_bestTool 35 = .ok (.iload_n 1, 1) := by decide +kernel
theorem dX11_bestTool_36 : decode cX11_bestTool 36 = .ok (.invokevirtual 61, 3) := by decide +kernel
theorem dX11_bestTool_39 : decode cX11_bestTool 39 = .ok (.if_icmp .gt 7, 3) := by decide +kernel
theorem dX11_bestTool_42 : decode cX11_bestTool 42 = .ok (.iconst 1, 1) := by decide +kernel
theorem dX11_bestTool_43 : decode cX11_bestTool 43 = .ok (.goto 4, 3) := by decide +kernel
theorem dX11_bestTool_46 : decode cX11_bestTool 46 = .ok (.iconst 0, 1) := by decide +kernel
theorem dX11_bestTool_47 : decode cX11_bestTool 47 = .ok (.istore_n 3, 1) := by decide +kernel
theorem dX11_bestTool_48 : decode cX11_bestTool 48 = .ok (.iload_n 3, 1) := by decide +kernel
theorem dX11_bestTool_49 : decode cX11_bestTool 49 = .ok (.ifCond .eq 7, 3) := by decide +kernel
theorem dX11_bestTool_52 : decode cX11_bestTool 52 = .ok (.iload_n 2, 1) := by decide +kernel
theorem dX11_bestTool_53 : decode cX11_bestTool 53 = .ok (.goto 4, 3) := by decide +kernel
theorem dX11_bestTool_56 : decode cX11_bestTool 56 = .ok (.iload_n 1, 1) := by decide +kernel
theorem dX11_bestTool_57 : decode cX11_bestTool 57 = .ok (.istore_n 1, 1) := by decide +kernel
theorem dX11_bestTool_58 : decode cX11_bestTool 58 = .ok (.iinc 2 (-1), 3) := by decide +kernel
theorem dX11_bestTool_61 : decode cX11_bestTool 61 = .ok (.goto (-48), 3) := by decide +kernel
theorem dX11_bestTool_64 : decode cX11_bestTool 64 = .ok (.aload_n 0, 1) := by decide +kernel
theorem dX11_bestTool_65 : decode cX11_bestTool 65 = .ok (.iload_n 1, 1) := by decide +kernel
theorem dX11_bestTool_66 : decode cX11_bestTool 66 = .ok (.ifCond .lt 7, 3) := by decide +kernel
theorem dX11_bestTool_69 : decode cX11_bestTool 69 = .ok (.iconst 1, 1) := by decide +kernel
theorem dX11_bestTool_70 : decode cX11_bestTool 70 = .ok (.goto 4, 3) := by decide +kernel
theorem dX11_bestTool_73 : decode cX11_bestTool 73 = .ok (.iconst 0, 1) := by decide +kernel
theorem dX11_bestTool_74 : decode cX11_bestTool 74 = .ok (.invokevirtual 214, 3) := by decide +kernel
theorem dX11_bestTool_77 : decode cX11_bestTool 77 = .ok (.ifCond .eq 7, 3) := by decide +kernel
theorem dX11_bestTool_80 : decode cX11_bestTool 80 = .ok (.iload_n 1, 1) := by decide +kernel
theorem dX11_bestTool_81 : decode cX11_bestTool 81 = .ok (.goto 4, 3) := by decide +kernel
theorem dX11_bestTool_84 : decode cX11_bestTool 84 = .ok (.iconst 0, 1) := by decide +kernel
theorem dX11_bestTool_85 : decode cX11_bestTool 85 = .ok (.ireturn, 1) := by decide +kernel
set_option maxHeartbeats 8000000 in
set_option maxRecDepth 100000 in
theorem mX11_bestTool (l : Launch) (G : gG) (da : Nat → Nat) (v : vSt) (x : gX) (r : Nat) (hk_r : kd r = 11) (ho : oX11_bestTool r v) : MI l yX11_bestTool cX11_bestTool 4 (some .int) rmX11_bestTool [.ref (ga G r)] G da v x 0 0 (fX11_bestTool r v).1 (fX11_bestTool r v).2 x := by
  refine gofMI (own := RX11) (by decide) rfl (Nat.le_of_ble_eq_true rfl) (fun p e s m args below meth c ls Q X hH hl E => ?_)
  have hx := X.1
  have hb := X.2.1
  have hown := X.2.2.2.1
  have hts := X.2.2.2.2.1
  have hS : va_S (gA G) s.heap s.heap [] := va_S.rf
  unfold oX11_bestTool at ho
  have hl : lv_has ls 4 [(0, .ref (ga G r))] := hl
  refine lv_iconst (v := (-1)) hx hb dX11_bestTool_0 (by decide) ?_
  refine lv_istore_n (lv' := [(1, .int (-1)), (0, .ref (ga G r))]) hx hb dX11_bestTool_1 rfl hl (by decide) rfl (fun ls hl => ?_)
  refine lv_aload_n hx hb dX11_bestTool_2 rfl (lv_at hl 1 rfl) ?_
  refine g_VernierDrawersModel_7 X hH hk_r dX11_bestTool_3 ?_
  refine lv_sipush (v := 203) hx hb dX11_bestTool_6 (by decide) ?_
  have hq1 := ho.1
  have ho := ho.2
  refine ald_M X hH (Or.inl kd_462) hq1 dX11_bestTool_9 ?_
  refine lv_iconst (v := 1) hx hb dX11_bestTool_10 (by decide) ?_
  refine lv_isub hx hb dX11_bestTool_11 ?_
  refine lv_istore_n (lv' := [(2, .int ((v 462 (203 : Int32).toNatClampNeg) - 1)), (1, .int (-1)), (0, .ref (ga G r))]) hx hb dX11_bestTool_12 rfl hl (by decide) rfl (fun ls hl => ?_)
  have L5 : ∀ (n : Nat) (i2 : Int32) (i3 : Int32) (ls : Array Slot), olX11_bestTool_13 v r n i2 i3 → lv_has ls 4 [(2, .int i2), (1, .int i3), (0, .ref (ga G r))] → (∀ (y4 : Int32) (ls : Array Slot), y4 = (lX11_bestTool_13 v r n i2 i3 : Int32) → lv_has ls 4 [(1, .int y4), (0, .ref (ga G r))] → W p l e rmX11_bestTool s m args below meth c s.heap [] 0 0 Q (F0 m 64 ls [])) → W p l e rmX11_bestTool s m args below meth c s.heap [] 0 0 Q (F0 m 13 ls []) := by
    clear ho
    intro n
    induction n with
    | zero =>
      intro i2 i3 ls ho
      exact ho.elim
    | succ n ih =>
      intro i2 i3 ls ho hl K6
      refine lv_iload_n hx hb dX11_bestTool_13 rfl (lv_at hl 0 rfl) ?_
      refine lv_if_lt (tgt := 64) hx hb dX11_bestTool_14 (by decide) (fun c4 => ?_) (fun c4 => ?_)
      · skip
        exact K6 _ _ (Eq.symm (((lX11_bestTool_13.eq_2 _ _ _ _ _)).trans ((if_pos c4).trans rfl))) (lv_sub hl [1, 2] rfl)
      · have ho := ho c4
        refine lv_aload_n hx hb dX11_bestTool_17 rfl (lv_at hl 2 rfl) ?_
        refine lv_iload_n hx hb dX11_bestTool_18 rfl (lv_at hl 0 rfl) ?_
        have hq5 := ho.1
        have ho := ho.2
        refine k_X11_reasonNot X hS hH hk_r hq5 t_ml_VernierDrawersModel_161 hl.1 (Nat.le_of_ble_eq_true rfl) ⟨Nat.le_of_ble_eq_true rfl, Nat.le_of_ble_eq_true rfl⟩ ⟨Nat.zero_le _, Nat.zero_le _⟩ dX11_bestTool_19 ?_
        have K7 : ∀ (y6 : Int32) (ls : Array Slot), y6 = (if ((fX11_reasonNot r i2 v) : Int32) = 0 then (if (i3 : Int32) < 0 then 1 else (if ((fX11_step r i3 v) : Int32) < (fX11_step r i2 v) then 0 else 1)) else 0 : Int32) → lv_has ls 4 [(2, .int i2), (1, .int i3), (0, .ref (ga G r))] → W p l e rmX11_bestTool s m args below meth c s.heap [] 0 0 Q (F0 m 47 ls [.int y6]) := by
          intro y6 ls ey6 hl
          have ho := ho.2 y6 ey6
          refine lv_istore_n (lv' := [(3, .int y6), (2, .int i2), (1, .int i3), (0, .ref (ga G r))]) hx hb dX11_bestTool_47 rfl hl (by decide) rfl (fun ls hl => ?_)
          refine lv_iload_n hx hb dX11_bestTool_48 rfl (lv_at hl 0 rfl) ?_
          have K9 : ∀ (y8 : Int32) (ls : Array Slot), y8 = (if (y6 : Int32) = 0 then i3 else i2 : Int32) → lv_has ls 4 [(2, .int i2), (0, .ref (ga G r))] → W p l e rmX11_bestTool s m args below meth c s.heap [] 0 0 Q (F0 m 57 ls [.int y8]) := by
            intro y8 ls ey8 hl
            have ho := ho y8 ey8
            refine lv_istore_n (lv' := [(1, .int y8), (2, .int i2), (0, .ref (ga G r))]) hx hb dX11_bestTool_57 rfl hl (by decide) rfl (fun ls hl => ?_)
            refine lv_iinc (v := i2 + (-1)) (lv' := [(2, .int (i2 + (-1))), (1, .int y8), (0, .ref (ga G r))]) hx hb dX11_bestTool_58 hl (k := 1) rfl rfl (by decide) rfl (fun ls hl => ?_)
            refine lv_goto (tgt := 13) hx hb dX11_bestTool_61 (by decide) ?_
            replace ey6 := Eq.symm ey6
            replace ey8 := Eq.symm ey8
            subst ey6 ey8
            exact ih _ _ _ ho (lv_sub hl [0, 1, 2] rfl) (fun y4 ls q0 hl => K6 y4 ls (q0.trans (congrArg (fun z : Int32 => z) (Eq.symm (((lX11_bestTool_13.eq_2 _ _ _ _ _)).trans ((if_neg c4).trans rfl))))) hl)
          refine lv_if_eq (tgt := 56) hx hb dX11_bestTool_49 (by decide) (fun c9 => ?_) (fun c9 => ?_)
          · skip
            refine lv_iload_n hx hb dX11_bestTool_56 rfl (lv_at hl 2 rfl) ?_
            exact K9 _ _ (Eq.symm ((if_pos c9).trans rfl)) (lv_sub hl [1, 3] rfl)
          · skip
            refine lv_iload_n hx hb dX11_bestTool_52 rfl (lv_at hl 1 rfl) ?_
            refine lv_goto (tgt := 57) hx hb dX11_bestTool_53 (by decide) ?_
            exact K9 _ _ (Eq.symm ((if_neg c9).trans rfl)) (lv_sub hl [1, 3] rfl)
        have ho := ho.1
        refine lv_if_ne (tgt := 46) hx hb dX11_bestTool_22 (by decide) (fun c7 => ?_) (fun c7 => ?_)
        · skip
          refine lv_iconst (v := 0) hx hb dX11_bestTool_46 (by decide) ?_
          exact K7 _ _ (Eq.symm ((if_neg c7).trans rfl)) (lv_sub hl [0, 1, 2] rfl)
        · have ho := ho c7
          refine lv_iload_n hx hb dX11_bestTool_25 rfl (lv_at hl 1 rfl) ?_
          refine lv_if_lt (tgt := 42) hx hb dX11_bestTool_26 (by decide) (fun c8 => ?_) (fun c8 => ?_)
          · skip
            refine lv_iconst (v := 1) hx hb dX11_bestTool_42 (by decide) ?_
            refine lv_goto (tgt := 47) hx hb dX11_bestTool_43 (by decide) ?_
            exact K7 _ _ (Eq.symm ((if_pos c7).trans ((if_pos c8).trans rfl))) (lv_sub hl [0, 1, 2] rfl)
          · have ho := ho c8
            refine lv_aload_n hx hb dX11_bestTool_29 rfl (lv_at hl 2 rfl) ?_
            refine lv_iload_n hx hb dX11_bestTool_30 rfl (lv_at hl 0 rfl) ?_
            have hq9 := ho.1
            have ho := ho.2
            refine k_X11_step X hS hH hk_r hq9 t_ml_VernierDrawersModel_61 hl.1 (Nat.le_of_ble_eq_true rfl) ⟨Nat.le_of_ble_eq_true rfl, Nat.le_of_ble_eq_true rfl⟩ ⟨Nat.zero_le _, Nat.zero_le _⟩ dX11_bestTool_31 ?_
            refine lv_aload_n hx hb dX11_bestTool_34 rfl (lv_at hl 2 rfl) ?_
            refine lv_iload_n hx hb dX11_bestTool_35 rfl (lv_at hl 1 rfl) ?_
            have hq10 := ho
            refine k_X11_step X hS hH hk_r hq10 t_ml_VernierDrawersModel_61 hl.1 (Nat.le_of_ble_eq_true rfl) ⟨Nat.le_of_ble_eq_true rfl, Nat.le_of_ble_eq_true rfl⟩ ⟨Nat.zero_le _, Nat.zero_le _⟩ dX11_bestTool_36 ?_
            refine lv_icmp_gt (tgt := 46) hx hb dX11_bestTool_39 (by decide) (fun c11 => ?_) (fun c11 => ?_)
            · skip
              refine lv_iconst (v := 0) hx hb dX11_bestTool_46 (by decide) ?_
              exact K7 _ _ (Eq.symm ((if_pos c7).trans ((if_neg c8).trans ((if_pos c11).trans rfl)))) (lv_sub hl [0, 1, 2] rfl)
            · skip
              refine lv_iconst (v := 1) hx hb dX11_bestTool_42 (by decide) ?_
              refine lv_goto (tgt := 47) hx hb dX11_bestTool_43 (by decide) ?_
              exact K7 _ _ (Eq.symm ((if_pos c7).trans ((if_neg c8).trans ((if_neg c11).trans rfl)))) (lv_sub hl [0, 1, 2] rfl)
  have hol := ho.1
  refine L5 ((Int32.toInt ((v 462 (203 : Int32).toNatClampNeg) - 1)).toNat + 2) ((v 462 (203 : Int32).toNatClampNeg) - 1) (-1) _ hol (lv_sub hl [0, 1, 2] rfl) (fun y4 ls ey4 hl => ?_)
  have ho := ho.2 y4 ey4
  refine lv_aload_n hx hb dX11_bestTool_64 rfl (lv_at hl 1 rfl) ?_
  refine lv_iload_n hx hb dX11_bestTool_65 rfl (lv_at hl 0 rfl) ?_
  have K13 : ∀ (y12 : Int32) (ls : Array Slot), y12 = (if (y4 : Int32) < 0 then 0 else 1 : Int32) → lv_has ls 4 [(1, .int y4)] → W p l e rmX11_bestTool s m args below meth c s.heap [] 0 0 Q (F0 m 74 ls [.int y12, .ref (ga G r)]) := by
    intro y12 ls ey12 hl
    have ho := ho y12 ey12
    have hq14 := ho
    refine k_X11_asks X hS hH hk_r hq14 t_ml_VernierDrawersModel_214 hl.1 (Nat.le_of_ble_eq_true rfl) ⟨Nat.le_of_ble_eq_true rfl, Nat.le_of_ble_eq_true rfl⟩ ⟨Nat.zero_le _, Nat.zero_le _⟩ dX11_bestTool_74 (fun da H locs v15 ev15 hH hS => ?_)
    refine lv_if_eq (tgt := 84) hx hb dX11_bestTool_77 (by decide) (fun c16 => ?_) (fun c16 => ?_)
    · skip
      refine lv_iconst (v := 0) hx hb dX11_bestTool_84 (by decide) ?_
      replace ey4 := Eq.symm ey4
      replace ey12 := Eq.symm ey12
      replace ev15 := Eq.symm ev15
      subst ey4 ey12 ev15
      exact E _ _ _ _ _ _ _ _ _ dX11_bestTool_85 rfl (pr1 ((fX11_bestTool.eq_1 _ _).trans ((if_pos c16).trans rfl))) (pr2 ((fX11_bestTool.eq_1 _ _).trans ((if_pos c16).trans rfl))) hH hS (Nat.zero_le _) (Nat.zero_le _)
    · skip
      refine lv_iload_n hx hb dX11_bestTool_80 rfl (lv_at hl 0 rfl) ?_
      refine lv_goto (tgt := 85) hx hb dX11_bestTool_81 (by decide) ?_
      replace ey4 := Eq.symm ey4
      replace ey12 := Eq.symm ey12
      replace ev15 := Eq.symm ev15
      subst ey4 ey12 ev15
      exact E _ _ _ _ _ _ _ _ _ dX11_bestTool_85 rfl (pr1 ((fX11_bestTool.eq_1 _ _).trans ((if_neg c16).trans rfl))) (pr2 ((fX11_bestTool.eq_1 _ _).trans ((if_neg c16).trans rfl))) hH hS (Nat.zero_le _) (Nat.zero_le _)
  refine lv_if_lt (tgt := 73) hx hb dX11_bestTool_66 (by decide) (fun c13 => ?_) (fun c13 => ?_)
  · skip
    refine lv_iconst (v := 0) hx hb dX11_bestTool_73 (by decide) ?_
    exact K13 _ _ (Eq.symm ((if_pos c13).trans rfl)) (lv_sub hl [0] rfl)
  · skip
    refine lv_iconst (v := 1) hx hb dX11_bestTool_69 (by decide) ?_
    refine lv_goto (tgt := 74) hx hb dX11_bestTool_70 (by decide) ?_
    exact K13 _ _ (Eq.symm ((if_neg c13).trans rfl)) (lv_sub hl [0] rfl)
theorem k_X11_bestTool {p : Program} {l : Launch} {e : Env} {R : Room} {s : State} {m : MethodId} {args : Array Value} {below : List Frame} {meth : Method} {c : Code} {H : Heap} {locs : List Loc} {cells slots : Nat} {Q : State → Prop} {cc : ByteArray} {pc nL : Nat} {ls : Array Slot} {rest : List Value} {G : gG} {own : String} {da : Nat → Nat} {v : vSt} {x : gX} (X : CX G p s m args c cc nL own) (hS : va_S (gA G) s.heap H locs) (hH : Hp G da v x H) {r : Nat} (hk_r : kd r = 11) (ho : oX11_bestTool r v) {idx : Nat} (hml : Cond.methodLink own idx yX11_bestTool ∈ TT) (hls : ls.size = nL) (hsum : (rest.map fun v => v.category).sum ≤ 8) (hR : rmX11_bestTool.frames + 1 ≤ R.frames ∧ 8 + (4 + 11) + rmX11_bestTool.locals ≤ R.locals) (hcs : cells ≤ R.cells ∧ slots ≤ R.slots) (hdg : decode cc pc = .ok (.invokevirtual idx, 3)) (kk : ∀ (d : Nat → Nat) (H1 : Heap) (locs1 : List Loc) (v1 : vSt), v1 = (fX11_bestTool r v).2 → Hp G d v1 x H1 → va_S (gA G) s.heap H1 locs1 → W p l e R s m args below meth c H1 locs1 cells slots Q (F0 m (pc + 3) ls (.int (fX11_bestTool r v).1 :: rest))) : W p l e R s m args below meth c H locs cells slots Q (F0 m pc ls (.ref (ga G r) :: rest)) := c_mi X.2.2.2.2.2.2 (runV (k := 0) X.1 X.2.1 X.2.2.1 X.2.2.2.1 X.2.2.2.2.1 (mX11_bestTool l G da v x r hk_r ho) pW_bl hml t_im_X11_bestTool t_sel_X11_bestTool t_ini_VernierDrawersModel t_code_X11_bestTool ⟨rfl, by decide, by decide, by decide +kernel⟩ rfl rfl hR hcs (recvW X hH (by rw [hk_r]; decide) (by rw [hk_r]; decide) (ce_11 hk_r) rfl) (preW X hS hH) rfl hls rfl hsum hdg) hS kk
def fX11_whyNotPass (r : Nat) (v : vSt) : Int32 × vSt := let v1 : vSt := u2 v r 8 0; (fX11_reasonNotPass r v1, v1)
def oX11_whyNotPass (r : Nat) (v : vSt) : Prop := ∀ v1 : vSt, v1 = (u2 v r 8 0) → (oX11_reasonNotPass r v1)
abbrev rmX11_whyNotPass : Room := { frames := 3, cells := 0, slots := 0, locals := 61 }
theorem dX11_whyNotPass_0 : decode cX11_whyNotPass 0 = .ok (.aload_n 0, 1) := by decide +kernel
theorem dX11_whyNotPass_1 : decode cX11_whyNotPass 1 = .ok (.iconst 0, 1) := by decide +kernel
theorem dX11_whyNotPass_2 : decode cX11_whyNotPass 2 = .ok (.putfield 29, 3) := by decide +kernel
theorem dX11_whyNotPass_5 : decode cX11_whyNotPass 5 = .ok (.aload_n 0, 1) := by decide +kernel
theorem dX11_whyNotPass_6 : decode cX11_whyNotPass 6 = .ok (.invokevirtual 177, 3) := by decide +kernel
theorem dX11_whyNotPass_9 : decode cX11_whyNotPass 9 = .ok (.ireturn, 1) := by decide +kernel
set_option maxHeartbeats 8000000 in
set_option maxRecDepth 100000 in
theorem mX11_whyNotPass (l : Launch) (G : gG) (da : Nat → Nat) (v : vSt) (x : gX) (r : Nat) (hk_r : kd r = 11) (ho : oX11_whyNotPass r v) : MI l yX11_whyNotPass cX11_whyNotPass 1 (some .int) rmX11_whyNotPass [.ref (ga G r)] G da v x 0 0 (fX11_whyNotPass r v).1 (fX11_whyNotPass r v).2 x := by
  refine gofMI (own := RX11) (by decide) rfl (Nat.le_of_ble_eq_true rfl) (fun p e s m args below meth c ls Q X hH hl E => ?_)
  have hx := X.1
  have hb := X.2.1
  have hown := X.2.2.2.1
  have hts := X.2.2.2.2.1
  have hS : va_S (gA G) s.heap s.heap [] := va_S.rf
  unfold oX11_whyNotPass at ho
  have hl : lv_has ls 1 [(0, .ref (ga G r))] := hl
  refine lv_aload_n hx hb dX11_whyNotPass_0 rfl (lv_at hl 0 rfl) ?_
  refine lv_iconst (v := 0) hx hb dX11_whyNotPass_1 (by decide) ?_
  refine p_VernierDrawersModel_29 X hH hS hk_r dX11_whyNotPass_2 (fun H locs v1 ev1 hH hS => ?_)
  have ho := ho v1 ev1
  refine lv_aload_n hx hb dX11_whyNotPass_5 rfl (lv_at hl 0 rfl) ?_
  have hq2 := ho
  refine k_X11_reasonNotPass X hS hH hk_r hq2 t_ml_VernierDrawersModel_177 hl.1 (Nat.le_of_ble_eq_true rfl) ⟨Nat.le_of_ble_eq_true rfl, Nat.le_of_ble_eq_true rfl⟩ ⟨Nat.zero_le _, Nat.zero_le _⟩ dX11_whyNotPass_6 ?_
  replace ev1 := Eq.symm ev1
  subst ev1
  exact E _ _ _ _ _ _ _ _ _ dX11_whyNotPass_9 rfl (pr1 rfl) (pr2 rfl) hH hS (Nat.zero_le _) (Nat.zero_le _)
theorem k_X11_whyNotPass {p : Program} {l : Launch} {e : Env} {R : Room} {s : State} {m : MethodId} {args : Array Value} {below : List Frame} {meth : Method} {c : Code} {H : Heap} {locs : List Loc} {cells slots : Nat} {Q : State → Prop} {cc : ByteArray} {pc nL : Nat} {ls : Array Slot} {rest : List Value} {G : gG} {own : String} {da : Nat → Nat} {v : vSt} {x : gX} (X : CX G p s m args c cc nL own) (hS : va_S (gA G) s.heap H locs) (hH : Hp G da v x H) {r : Nat} (hk_r : kd r = 11) (ho : oX11_whyNotPass r v) {idx : Nat} (hml : Cond.methodLink own idx yX11_whyNotPass ∈ TT) (hls : ls.size = nL) (hsum : (rest.map fun v => v.category).sum ≤ 8) (hR : rmX11_whyNotPass.frames + 1 ≤ R.frames ∧ 8 + (1 + 11) + rmX11_whyNotPass.locals ≤ R.locals) (hcs : cells ≤ R.cells ∧ slots ≤ R.slots) (hdg : decode cc pc = .ok (.invokevirtual idx, 3)) (kk : ∀ (d : Nat → Nat) (H1 : Heap) (locs1 : List Loc) (v1 : vSt), v1 = (fX11_whyNotPass r v).2 → Hp G d v1 x H1 → va_S (gA G) s.heap H1 locs1 → W p l e R s m args below meth c H1 locs1 cells slots Q (F0 m (pc + 3) ls (.int (fX11_whyNotPass r v).1 :: rest))) : W p l e R s m args below meth c H locs cells slots Q (F0 m pc ls (.ref (ga G r) :: rest)) := c_mi X.2.2.2.2.2.2 (runV (k := 0) X.1 X.2.1 X.2.2.1 X.2.2.2.1 X.2.2.2.2.1 (mX11_whyNotPass l G da v x r hk_r ho) pW_bl hml t_im_X11_whyNotPass t_sel_X11_whyNotPass t_ini_VernierDrawersModel t_code_X11_whyNotPass ⟨rfl, by decide, by decide, by decide +kernel⟩ rfl rfl hR hcs (recvW X hH (by rw [hk_r]; decide) (by rw [hk_r]; decide) (ce_11 hk_r) rfl) (preW X hS hH) rfl hls rfl hsum hdg) hS kk
def fX11_mannerOf (r : Nat) (p1 : Int32) (v : vSt) : Int32 × vSt := let v2 : vSt := (fX11_toldOfType r p1 4 v).2; ((fX11_toldOfType r p1 4 v).1, v2)
def oX11_mannerOf (r : Nat) (p1 : Int32) (v : vSt) : Prop := oX11_toldOfType r p1 4 v
abbrev rmX11_mannerOf : Room := { frames := 3, cells := 0, slots := 0, locals := 65 }
theorem dX11_mannerOf_0 : decode cX11_mannerOf 0 = .ok (.aload_n 0, 1) := by decide +kernel
theorem dX11_mannerOf_1 : decode cX11_mannerOf 1 = .ok (.iload_n 1, 1) := by decide +kernel
theorem dX11_mannerOf_2 : decode cX11_mannerOf 2 = .ok (.iconst 4, 1) := by decide +kernel
theorem dX11_mannerOf_3 : decode cX11_mannerOf 3 = .ok (.invokevirtual 236, 3) := by decide +kernel
theorem dX11_mannerOf_6 : decode cX11_mannerOf 6 = .ok (.ireturn, 1) := by decide +kernel
set_option maxHeartbeats 8000000 in
set_option maxRecDepth 100000 in
theorem mX11_mannerOf (l : Launch) (G : gG) (da : Nat → Nat) (v : vSt) (x : gX) (r : Nat) (hk_r : kd r = 11) (p1 : Int32) (ho : oX11_mannerOf r p1 v) : MI l yX11_mannerOf cX11_mannerOf 2 (some .int) rmX11_mannerOf [.ref (ga G r), .int p1] G da v x 0 0 (fX11_mannerOf r p1 v).1 (fX11_mannerOf r p1 v).2 x := by
  refine gofMI (own := RX11) (by decide) rfl (Nat.le_of_ble_eq_true rfl) (fun p e s m args below meth c ls Q X hH hl E => ?_)
  have hx := X.1
  have hb := X.2.1
  have hown := X.2.2.2.1
  have hts := X.2.2.2.2.1
  have hS : va_S (gA G) s.heap s.heap [] := va_S.rf
  unfold oX11_mannerOf at ho
  have hl : lv_has ls 2 [(0, .ref (ga G r)), (1, .int p1)] := hl
  refine lv_aload_n hx hb dX11_mannerOf_0 rfl (lv_at hl 0 rfl) ?_
  refine lv_iload_n hx hb dX11_mannerOf_1 rfl (lv_at hl 1 rfl) ?_
  refine lv_iconst (v := 4) hx hb dX11_mannerOf_2 (by decide) ?_
  have hq1 := ho
  refine k_X11_toldOfType X hS hH hk_r hq1 t_ml_VernierDrawersModel_236 hl.1 (Nat.le_of_ble_eq_true rfl) ⟨Nat.le_of_ble_eq_true rfl, Nat.le_of_ble_eq_true rfl⟩ ⟨Nat.zero_le _, Nat.zero_le _⟩ dX11_mannerOf_3 (fun da H locs v2 ev2 hH hS => ?_)
  replace ev2 := Eq.symm ev2
  subst ev2
  exact E _ _ _ _ _ _ _ _ _ dX11_mannerOf_6 rfl (pr1 rfl) (pr2 rfl) hH hS (Nat.zero_le _) (Nat.zero_le _)
theorem k_X11_mannerOf {p : Program} {l : Launch} {e : Env} {R : Room} {s : State} {m : MethodId} {args : Array Value} {below : List Frame} {meth : Method} {c : Code} {H : Heap} {locs : List Loc} {cells slots : Nat} {Q : State → Prop} {cc : ByteArray} {pc nL : Nat} {ls : Array Slot} {rest : List Value} {G : gG} {own : String} {da : Nat → Nat} {v : vSt} {x : gX} (X : CX G p s m args c cc nL own) (hS : va_S (gA G) s.heap H locs) (hH : Hp G da v x H) {r : Nat} (hk_r : kd r = 11) {p1 : Int32} (ho : oX11_mannerOf r p1 v) {idx : Nat} (hml : Cond.methodLink own idx yX11_mannerOf ∈ TT) (hls : ls.size = nL) (hsum : (rest.map fun v => v.category).sum ≤ 8) (hR : rmX11_mannerOf.frames + 1 ≤ R.frames ∧ 8 + (2 + 11) + rmX11_mannerOf.locals ≤ R.locals) (hcs : cells ≤ R.cells ∧ slots ≤ R.slots) (hdg : decode cc pc = .ok (.invokevirtual idx, 3)) (kk : ∀ (d : Nat → Nat) (H1 : Heap) (locs1 : List Loc) (v1 : vSt), v1 = (fX11_mannerOf r p1 v).2 → Hp G d v1 x H1 → va_S (gA G) s.heap H1 locs1 → W p l e R s m args below meth c H1 locs1 cells slots Q (F0 m (pc + 3) ls (.int (fX11_mannerOf r p1 v).1 :: rest))) : W p l e R s m args below meth c H locs cells slots Q (F0 m pc ls (.int p1 :: .ref (ga G r) :: rest)) := c_mi X.2.2.2.2.2.2 (runV (k := 1) X.1 X.2.1 X.2.2.1 X.2.2.2.1 X.2.2.2.2.1 (mX11_mannerOf l G da v x r hk_r p1 ho) pW_bl hml t_im_X11_mannerOf t_sel_X11_mannerOf t_ini_VernierDrawersModel t_code_X11_mannerOf ⟨rfl, by decide, by decide, by decide +kernel⟩ rfl rfl hR hcs (recvW X hH (by rw [hk_r]; decide) (by rw [hk_r]; decide) (ce_11 hk_r) rfl) (preW X hS hH) rfl hls rfl hsum hdg) hS kk
def fX11_recordOf (r : Nat) (p1 : Int32) (v : vSt) : Int32 × vSt := let v2 : vSt := (fX11_toldOfType r p1 5 v).2; ((fX11_toldOfType r p1 5 v).1, v2)
def oX11_recordOf (r : Nat) (p1 : Int32) (v : vSt) : Prop := oX11_toldOfType r p1 5 v
abbrev rmX11_recordOf : Room := { frames := 3, cells := 0, slots := 0, locals := 65 }
theorem dX11_recordOf_0 : decode cX11_recordOf 0 = .ok (.aload_n 0, 1) := by decide +kernel
theorem dX11_recordOf_1 : decode cX11_recordOf 1 = .ok (.iload_n 1, 1) := by decide +kernel
theorem dX11_recordOf_2 : decode cX11_recordOf 2 = .ok (.iconst 5, 1) := by decide +kernel
theorem dX11_recordOf_3 : decode cX11_recordOf 3 = .ok (.invokevirtual 236, 3) := by decide +kernel
theorem dX11_recordOf_6 : decode cX11_recordOf 6 = .ok (.ireturn, 1) := by decide +kernel
set_option maxHeartbeats 8000000 in
set_option maxRecDepth 100000 in
theorem mX11_recordOf (l : Launch) (G : gG) (da : Nat → Nat) (v : vSt) (x : gX) (r : Nat) (hk_r : kd r = 11) (p1 : Int32) (ho : oX11_recordOf r p1 v) : MI l yX11_recordOf cX11_recordOf 2 (some .int) rmX11_recordOf [.ref (ga G r), .int p1] G da v x 0 0 (fX11_recordOf r p1 v).1 (fX11_recordOf r p1 v).2 x := by
  refine gofMI (own := RX11) (by decide) rfl (Nat.le_of_ble_eq_true rfl) (fun p e s m args below meth c ls Q X hH hl E => ?_)
  have hx := X.1
  have hb := X.2.1
  have hown := X.2.2.2.1
  have hts := X.2.2.2.2.1
  have hS : va_S (gA G) s.heap s.heap [] := va_S.rf
  unfold oX11_recordOf at ho
  have hl : lv_has ls 2 [(0, .ref (ga G r)), (1, .int p1)] := hl
  refine lv_aload_n hx hb dX11_recordOf_0 rfl (lv_at hl 0 rfl) ?_
  refine lv_iload_n hx hb dX11_recordOf_1 rfl (lv_at hl 1 rfl) ?_
  refine lv_iconst (v := 5) hx hb dX11_recordOf_2 (by decide) ?_
  have hq1 := ho
  refine k_X11_toldOfType X hS hH hk_r hq1 t_ml_VernierDrawersModel_236 hl.1 (Nat.le_of_ble_eq_true rfl) ⟨Nat.le_of_ble_eq_true rfl, Nat.le_of_ble_eq_true rfl⟩ ⟨Nat.zero_le _, Nat.zero_le _⟩ dX11_recordOf_3 (fun da H locs v2 ev2 hH hS => ?_)
  replace ev2 := Eq.symm ev2
  subst ev2
  exact E _ _ _ _ _ _ _ _ _ dX11_recordOf_6 rfl (pr1 rfl) (pr2 rfl) hH hS (Nat.zero_le _) (Nat.zero_le _)
theorem k_X11_recordOf {p : Program} {l : Launch} {e : Env} {R : Room} {s : State} {m : MethodId} {args : Array Value} {below : List Frame} {meth : Method} {c : Code} {H : Heap} {locs : List Loc} {cells slots : Nat} {Q : State → Prop} {cc : ByteArray} {pc nL : Nat} {ls : Array Slot} {rest : List Value} {G : gG} {own : String} {da : Nat → Nat} {v : vSt} {x : gX} (X : CX G p s m args c cc nL own) (hS : va_S (gA G) s.heap H locs) (hH : Hp G da v x H) {r : Nat} (hk_r : kd r = 11) {p1 : Int32} (ho : oX11_recordOf r p1 v) {idx : Nat} (hml : Cond.methodLink own idx yX11_recordOf ∈ TT) (hls : ls.size = nL) (hsum : (rest.map fun v => v.category).sum ≤ 8) (hR : rmX11_recordOf.frames + 1 ≤ R.frames ∧ 8 + (2 + 11) + rmX11_recordOf.locals ≤ R.locals) (hcs : cells ≤ R.cells ∧ slots ≤ R.slots) (hdg : decode cc pc = .ok (.invokevirtual idx, 3)) (kk : ∀ (d : Nat → Nat) (H1 : Heap) (locs1 : List Loc) (v1 : vSt), v1 = (fX11_recordOf r p1 v).2 → Hp G d v1 x H1 → va_S (gA G) s.heap H1 locs1 → W p l e R s m args below meth c H1 locs1 cells slots Q (F0 m (pc + 3) ls (.int (fX11_recordOf r p1 v).1 :: rest))) : W p l e R s m args below meth c H locs cells slots Q (F0 m pc ls (.int p1 :: .ref (ga G r) :: rest)) := c_mi X.2.2.2.2.2.2 (runV (k := 1) X.1 X.2.1 X.2.2.1 X.2.2.2.1 X.2.2.2.2.1 (mX11_recordOf l G da v x r hk_r p1 ho) pW_bl hml t_im_X11_recordOf t_sel_X11_recordOf t_ini_VernierDrawersModel t_code_X11_recordOf ⟨rfl, by decide, by decide, by decide +kernel⟩ rfl rfl hR hcs (recvW X hH (by rw [hk_r]; decide) (by rw [hk_r]; decide) (ce_11 hk_r) rfl) (preW X hS hH) rfl hls rfl hsum hdg) hS kk
def fX11_badOf (r : Nat) (p1 : Int32) (v : vSt) : Int32 × vSt := let v2 : vSt := (fX11_toldOfType r p1 6 v).2; (fX11_ones ((fX11_toldOfType r p1 6 v).1), v2)
def oX11_badOf (r : Nat) (p1 : Int32) (v : vSt) : Prop := (oX11_toldOfType r p1 6 v) ∧ (∀ v2 : vSt, v2 = ((fX11_toldOfType r p1 6 v).2) → (oX11_ones ((fX11_toldOfType r p1 6 v).1)))
abbrev rmX11_badOf : Room := { frames := 3, cells := 0, slots := 0, locals := 65 }
theorem dX11_badOf_0 : decode cX11_badOf 0 = .ok (.aload_n 0, 1) := by decide +kernel
theorem dX11_badOf_1 : decode cX11_badOf 1 = .ok (.iload_n 1, 1) := by decide +kernel
theorem dX11_badOf_2 : decode cX11_badOf 2 = .ok (.bipush 6, 2) := by decide +kernel
theorem dX11_badOf_4 : decode cX11_badOf 4 = .ok (.invokevirtual 236, 3) := by decide +kernel
theorem dX11_badOf_7 : decode cX11_badOf 7 = .ok (.invokestatic 74, 3) := by decide +kernel
theorem dX11_badOf_10 : decode cX11_badOf 10 = .ok (.ireturn, 1) := by decide +kernel
set_option maxHeartbeats 8000000 in
set_option maxRecDepth 100000 in
theorem mX11_badOf (l : Launch) (G : gG) (da : Nat → Nat) (v : vSt) (x : gX) (r : Nat) (hk_r : kd r = 11) (p1 : Int32) (ho : oX11_badOf r p1 v) : MI l yX11_badOf cX11_badOf 2 (some .int) rmX11_badOf [.ref (ga G r), .int p1] G da v x 0 0 (fX11_badOf r p1 v).1 (fX11_badOf r p1 v).2 x := by
  refine gofMI (own := RX11) (by decide) rfl (Nat.le_of_ble_eq_true rfl) (fun p e s m args below meth c ls Q X hH hl E => ?_)
  have hx := X.1
  have hb := X.2.1
  have hown := X.2.2.2.1
  have hts := X.2.2.2.2.1
  have hS : va_S (gA G) s.heap s.heap [] := va_S.rf
  unfold oX11_badOf at ho
  have hl : lv_has ls 2 [(0, .ref (ga G r)), (1, .int p1)] := hl
  refine lv_aload_n hx hb dX11_badOf_0 rfl (lv_at hl 0 rfl) ?_
  refine lv_iload_n hx hb dX11_badOf_1 rfl (lv_at hl 1 rfl) ?_
  refine lv_bipush (v := 6) hx hb dX11_badOf_2 (by decide) ?_
  have hq1 := ho.1
  have ho := ho.2
  refine k_X11_toldOfType X hS hH hk_r hq1 t_ml_VernierDrawersModel_236 hl.1 (Nat.le_of_ble_eq_true rfl) ⟨Nat.le_of_ble_eq_true rfl, Nat.le_of_ble_eq_true rfl⟩ ⟨Nat.zero_le _, Nat.zero_le _⟩ dX11_badOf_4 (fun da H locs v2 ev2 hH hS => ?_)
  have ho := ho v2 ev2
  have hq3 := ho
  refine k_X11_ones X hS hq3 t_ml_VernierDrawersModel_74 hl.1 (Nat.le_of_ble_eq_true rfl) ⟨Nat.le_of_ble_eq_true rfl, Nat.le_of_ble_eq_true rfl⟩ ⟨Nat.zero_le _, Nat.zero_le _⟩ dX11_badOf_7 ?_
  replace ev2 := Eq.symm ev2
  subst ev2
  exact E _ _ _ _ _ _ _ _ _ dX11_badOf_10 rfl (pr1 rfl) (pr2 rfl) hH hS (Nat.zero_le _) (Nat.zero_le _)
theorem k_X11_badOf {p : Program} {l : Launch} {e : Env} {R : Room} {s : State} {m : MethodId} {args : Array Value} {below : List Frame} {meth : Method} {c : Code} {H : Heap} {locs : List Loc} {cells slots : Nat} {Q : State → Prop} {cc : ByteArray} {pc nL : Nat} {ls : Array Slot} {rest : List Value} {G : gG} {own : String} {da : Nat → Nat} {v : vSt} {x : gX} (X : CX G p s m args c cc nL own) (hS : va_S (gA G) s.heap H locs) (hH : Hp G da v x H) {r : Nat} (hk_r : kd r = 11) {p1 : Int32} (ho : oX11_badOf r p1 v) {idx : Nat} (hml : Cond.methodLink own idx yX11_badOf ∈ TT) (hls : ls.size = nL) (hsum : (rest.map fun v => v.category).sum ≤ 8) (hR : rmX11_badOf.frames + 1 ≤ R.frames ∧ 8 + (2 + 11) + rmX11_badOf.locals ≤ R.locals) (hcs : cells ≤ R.cells ∧ slots ≤ R.slots) (hdg : decode cc pc = .ok (.invokevirtual idx, 3)) (kk : ∀ (d : Nat → Nat) (H1 : Heap) (locs1 : List Loc) (v1 : vSt), v1 = (fX11_badOf r p1 v).2 → Hp G d v1 x H1 → va_S (gA G) s.heap H1 locs1 → W p l e R s m args below meth c H1 locs1 cells slots Q (F0 m (pc + 3) ls (.int (fX11_badOf r p1 v).1 :: rest))) : W p l e R s m args below meth c H locs cells slots Q (F0 m pc ls (.int p1 :: .ref (ga G r) :: rest)) := c_mi X.2.2.2.2.2.2 (runV (k := 1) X.1 X.2.1 X.2.2.1 X.2.2.2.1 X.2.2.2.2.1 (mX11_badOf l G da v x r hk_r p1 ho) pW_bl hml t_im_X11_badOf t_sel_X11_badOf t_ini_VernierDrawersModel t_code_X11_badOf ⟨rfl, by decide, by decide, by decide +kernel⟩ rfl rfl hR hcs (recvW X hH (by rw [hk_r]; decide) (by rw [hk_r]; decide) (ce_11 hk_r) rfl) (preW X hS hH) rfl hls rfl hsum hdg) hS kk
def lX11_goodUntilChange_32 (r : Nat) (p1 : Int32) (v3 : vSt) : Nat → Int32 → Int32
  | 0, i7 => i7
  | n + 1, i7 => if ((fX11_of r p1 5 v3) : Int32) ≤ i7 then i7 else (if ((((fX11_of r p1 6 v3) >>> (i7 &&& 31)) &&& 1) : Int32) = 0 then (lX11_goodUntilChange_32 r p1 v3 n (i7 + 1)) else i7)
def olX11_goodUntilChange_32 (r : Nat) (p1 : Int32) (v3 : vSt) : Nat → Int32 → Prop
  | 0, _ => False
  | n + 1, i7 => (oX11_of r p1 5 v3) ∧ (¬ (((fX11_of r p1 5 v3) : Int32) ≤ i7) → ((oX11_of r p1 6 v3) ∧ ((((((fX11_of r p1 6 v3) >>> (i7 &&& 31)) &&& 1) : Int32) = 0) → (olX11_goodUntilChange_32 r p1 v3 n (i7 + 1)))))
def fX11_goodUntilChange (r : Nat) (p1 : Int32) (v : vSt) : Int32 × vSt := let v3 : vSt := (fX11_asks r (fX11_isType r p1 v) v).2; if (((fX11_asks r (fX11_isType r p1 v) v).1) : Int32) = 0 then ((0, v3)) else (if ((fX11_of r p1 4 v3) : Int32) = 2 then (let v13 : vSt := (fX11_fails r 2 v3).2; ((fX11_fails r 2 v3).1, v13)) else (let y8 : Int32 := (lX11_goodUntilChange_32 r p1 v3 ((Int32.toInt ((fX11_of r p1 5 v3)) - Int32.toInt 0).toNat + 1) 0); if ((fX11_of r p1 4 v3) : Int32) = 0 then ((10 - y8, v3)) else ((5 - y8, v3))))
def oX11_goodUntilChange (r : Nat) (p1 : Int32) (v : vSt) : Prop := (oX11_isType r p1 v) ∧ ((oX11_asks r (fX11_isType r p1 v) v) ∧ (∀ v3 : vSt, v3 = ((fX11_asks r (fX11_isType r p1 v) v).2) → (¬ ((((fX11_asks r (fX11_isType r p1 v) v).1) : Int32) = 0) → ((oX11_of r p1 4 v3) ∧ (¬ (((fX11_of r p1 4 v3) : Int32) = 2) → (olX11_goodUntilChange_32 r p1 v3 ((Int32.toInt ((fX11_of r p1 5 v3)) - Int32.toInt 0).toNat + 1) 0))))))
abbrev rmX11_goodUntilChange : Room := { frames := 2, cells := 0, slots := 0, locals := 43 }
theorem dX11_goodUntilChange_0 : decode cX11_goodUntilChange 0 = .ok (.aload_n 0, 1) := by decide +kernel
theorem dX11_goodUntilChange_1 : decode cX11_goodUntilChange 1 = .ok (.aload_n 0, 1) := by decide +kernel
theorem dX11_goodUntilChange_2 : decode cX11_goodUntilChange 2 = .ok (.iload_n 1, 1) := by decide +kernel
theorem dX11_goodUntilChange_3 : decode cX11_goodUntilChange 3 = .ok (.invokevirtual 152, 3) := by decide +kernel
theorem dX11_goodUntilChange_6 : decode cX11_goodUntilChange 6 = .ok (.invokevirtual 214, 3) := by decide +kernel
theorem dX11_goodUntilChange_9 : decode cX11_goodUntilChange 9 = .ok (.ifCond .ne 5, 3) := by decide +kernel
theorem dX11_goodUntilChange_12 : decode cX11_goodUntilChange 12 = .ok (.iconst 0, 1) := by decide +kernel
theorem dX11_goodUntilChange_13 : decode cX11_goodUntilChange 13 = .ok (.ireturn, 1) := by decide +kernel
theorem dX11_goodUntilChange_14 : decode cX11_goodUntilChange 14 = .ok (.aload_n 0, 1) := by decide +kernel
theorem dX11_goodUntilChange_15 : decode cX11_goodUntilChange 15 = .ok (.iload_n 1, 1) := by decide +kernel
theorem dX11_goodUntilChange_16 : decode cX11_goodUntilChange 16 = .ok (.iconst 4, 1) := by decide +kernel
theorem dX11_goodUntilChange_17 : decode cX11_goodUntilChange 17 = .ok (.invokevirtual 90, 3) := by decide +kernel
theorem dX11_goodUntilChange_20 : decode cX11_goodUntilChange 20 = .ok (.iconst 2, 1) := by decide +kernel
theorem dX11_goodUntilChange_21 : decode cX11_goodUntilChange 21 = .ok (.if_icmp .ne 9, 3) := by decide +kernel
theorem dX11_goodUntilChange_24 : decode cX11_goodUntilChange 24 = .ok (.aload_n 0, 1) := by decide +kernel
theorem dX11_goodUntilChange_25 : decode cX11_goodUntilChange 25 = .ok (.iconst 2, 1) := by decide +kernel
theorem dX11_goodUntilChange_26 : decode cX11_goodUntilChange 26 = .ok (.invokevirtual 42, 3) := by decide +kernel
theorem dX11_goodUntilChange_29 : decode cX11_goodUntilChange 29 = .ok (.ireturn, 1) := by decide +kernel
theorem dX11_goodUntilChange_30 : decode cX11_goodUntilChange 30 = .ok (.iconst 0, 1) := by decide +kernel
theorem dX11_goodUntilChange_31 : decode cX11_goodUntilChange 31 = .ok (.istore_n 2, 1) := by decide +kernel
theorem dX11_goodUntilChange_32 : decode cX11_goodUntilChange 32 = .ok (.iload_n 2, 1) := by decide +kernel
theorem dX11_goodUntilChange_33 : decode cX11_goodUntilChange 33 = .ok (.aload_n 0, 1) := by decide +kernel
theorem dX11_goodUntilChange_34 : decode cX11_goodUntilChange 34 = .ok (.iload_n 1, 1) := by decide +kernel
theorem dX11_goodUntilChange_35 : decode cX11_goodUntilChange 35 = .ok (.iconst 5, 1) := by decide +kernel
theorem dX11_goodUntilChange_36 : decode cX11_goodUntilChange 36 = .ok (.invokevirtual 90, 3) := by decide +kernel
theorem dX11_goodUntilChange_39 : decode cX11_goodUntilChange 39 = .ok (.if_icmp .ge 23, 3) := by decide +kernel
theorem dX11_goodUntilChange_42 : decode cX11_goodUntilChange 42 = .ok (.aload_n 0, 1) := by decide +kernel
theorem dX11_goodUntilChange_43 : decode cX11_goodUntilChange 43 = .ok (.iload_n 1, 1) := by decide +kernel
theorem dX11_goodUntilChange_44 : decode cX11_goodUntilChange 44 = .ok (.bipush 6, 2) := by decide +kernel
theorem dX11_goodUntilChange_46 : decode cX11_goodUntilChange 46 = .ok (.invokevirtual 90, 3) := by decide +kernel
theorem dX11_goodUntilChange_49 : decode cX11_goodUntilChange 49 = .ok (.iload_n 2, 1) := by decide +kernel
theorem dX11_goodUntilChange_50 : decode cX11_goodUntilChange 50 = .ok (.ishr, 1) := by decide +kernel
theorem dX11_goodUntilChange_51 : decode cX11_goodUntilChange 51 = .ok (.iconst 1, 1) := by decide +kernel
theorem dX11_goodUntilChange_52 : decode cX11_goodUntilChange 52 = .ok (.iand, 1) := by decide +kernel
theorem dX11_goodUntilChange_53 : decode cX11_goodUntilChange 53 = .ok (.ifCond .ne 9, 3) := by decide +kernel
theorem dX11_goodUntilChange_56 : decode cX11_goodUntilChange 56 = .ok (.iinc 2 1, 3) := by decide +kernel
theorem dX11_goodUntilChange_59 : decode cX11_goodUntilChange 59 = .ok (.goto (-27), 3) := by decide +kernel
theorem dX11_goodUntilChange_62 : decode cX11_goodUntilChange 62 = .ok (.aload_n 0, 1) := by decide +kernel
theorem dX11_goodUntilChange_63 : decode cX11_goodUntilChange 63 = .ok (.iload_n 1, 1) := by decide +kernel
theorem dX11_goodUntilChange_64 : decode cX11_goodUntilChange 64 = .ok (.iconst 4, 1) := by decide +kernel
theorem dX11_goodUntilChange_65 : decode cX11_goodUntilChange 65 = .ok (.invokevirtual 90, 3) := by decide +kernel
theorem dX11_goodUntilChange_68 : decode cX11_goodUntilChange 68 = .ok (.ifCond .ne 8, 3) := by decide +kernel
theorem dX11_goodUntilChange_71 : decode cX11_goodUntilChange 71 = .ok (.bipush 10, 2) := by decide +kernel
theorem dX11_goodUntilChange_73 : decode cX11_goodUntilChange 73 = .ok (.goto 4, 3) := by decide +kernel
theorem dX11_goodUntilChange_76 : decode cX11_goodUntilChange 76 = .ok (.iconst 5, 1) := by decide +kernel
theorem dX11_goodUntilChange_77 : decode cX11_goodUntilChange 77 = .ok (.iload_n 2, 1) := by decide +kernel
theorem dX11_goodUntilChange_78 : decode cX11_goodUntilChange 78 = .ok (.isub, 1) := by decide +kernel
theorem dX11_goodUntilChange_79 : decode cX11_goodUntilChange 79 = .ok (.ireturn, 1) := by decide +kernel
set_option maxHeartbeats 8000000 in
set_option maxRecDepth 100000 in
theorem mX11_goodUntilChange (l : Launch) (G : gG) (da : Nat → Nat) (v : vSt) (x : gX) (r : Nat) (hk_r : kd r = 11) (p1 : Int32) (ho : oX11_goodUntilChange r p1 v) : MI l yX11_goodUntilChange cX11_goodUntilChange 3 (some .int) rmX11_goodUntilChange [.ref (ga G r), .int p1] G da v x 0 0 (fX11_goodUntilChange r p1 v).1 (fX11_goodUntilChange r p1 v).2 x := by
  refine gofMI (own := RX11) (by decide) rfl (Nat.le_of_ble_eq_true rfl) (fun p e s m args below meth c ls Q X hH hl E => ?_)
  have hx := X.1
  have hb := X.2.1
  have hown := X.2.2.2.1
  have hts := X.2.2.2.2.1
  have hS : va_S (gA G) s.heap s.heap [] := va_S.rf
  unfold oX11_goodUntilChange at ho
  have hl : lv_has ls 3 [(0, .ref (ga G r)), (1, .int p1)] := hl
  refine lv_aload_n hx hb dX11_goodUntilChange_0 rfl (lv_at hl 0 rfl) ?_
  refine lv_aload_n hx hb dX11_goodUntilChange_1 rfl (lv_at hl 0 rfl) ?_
  refine lv_iload_n hx hb dX11_goodUntilChange_2 rfl (lv_at hl 1 rfl) ?_
  have hq1 := ho.1
  have ho := ho.2
  refine k_X11_isType X hS hH hk_r hq1 t_ml_VernierDrawersModel_152 hl.1 (Nat.le_of_ble_eq_true rfl) ⟨Nat.le_of_ble_eq_true rfl, Nat.le_of_ble_eq_true rfl⟩ ⟨Nat.zero_le _, Nat.zero_le _⟩ dX11_goodUntilChange_3 ?_
  have hq2 := ho.1
  have ho := ho.2
  refine k_X11_asks X hS hH hk_r hq2 t_ml_VernierDrawersModel_214 hl.1 (Nat.le_of_ble_eq_true rfl) ⟨Nat.le_of_ble_eq_true rfl, Nat.le_of_ble_eq_true rfl⟩ ⟨Nat.zero_le _, Nat.zero_le _⟩ dX11_goodUntilChange_6 (fun da H locs v3 ev3 hH hS => ?_)
  have ho := ho v3 ev3
  refine lv_if_ne (tgt := 14) hx hb dX11_goodUntilChange_9 (by decide) (fun c4 => ?_) (fun c4 => ?_)
  · have ho := ho c4
    refine lv_aload_n hx hb dX11_goodUntilChange_14 rfl (lv_at hl 0 rfl) ?_
    refine lv_iload_n hx hb dX11_goodUntilChange_15 rfl (lv_at hl 1 rfl) ?_
    refine lv_iconst (v := 4) hx hb dX11_goodUntilChange_16 (by decide) ?_
    have hq5 := ho.1
    have ho := ho.2
    refine k_X11_of X hS hH hk_r hq5 t_ml_VernierDrawersModel_90 hl.1 (Nat.le_of_ble_eq_true rfl) ⟨Nat.le_of_ble_eq_true rfl, Nat.le_of_ble_eq_true rfl⟩ ⟨Nat.zero_le _, Nat.zero_le _⟩ dX11_goodUntilChange_17 ?_
    refine lv_iconst (v := 2) hx hb dX11_goodUntilChange_20 (by decide) ?_
    refine lv_icmp_ne (tgt := 30) hx hb dX11_goodUntilChange_21 (by decide) (fun c6 => ?_) (fun c6 => ?_)
    · have ho := ho c6
      refine lv_iconst (v := 0) hx hb dX11_goodUntilChange_30 (by decide) ?_
      refine lv_istore_n (lv' := [(2, .int 0), (0, .ref (ga G r)), (1, .int p1)]) hx hb dX11_goodUntilChange_31 rfl hl (by decide) rfl (fun ls hl => ?_)
      have L9 : ∀ (n : Nat) (i7 : Int32) (ls : Array Slot), olX11_goodUntilChange_32 r p1 v3 n i7 → lv_has ls 3 [(2, .int i7), (0, .ref (ga G r)), (1, .int p1)] → (∀ (y8 : Int32) (ls : Array Slot), y8 = (lX11_goodUntilChange_32 r p1 v3 n i7 : Int32) → lv_has ls 3 [(2, .int y8), (0, .ref (ga G r)), (1, .int p1)] → W p l e rmX11_goodUntilChange s m args below meth c H locs 0 0 Q (F0 m 62 ls [])) → W p l e rmX11_goodUntilChange s m args below meth c H locs 0 0 Q (F0 m 32 ls []) := by
        clear ho
        intro n
        induction n with
        | zero =>
          intro i7 ls ho
          exact ho.elim
        | succ n ih =>
          intro i7 ls ho hl K10
          refine lv_iload_n hx hb dX11_goodUntilChange_32 rfl (lv_at hl 0 rfl) ?_
          refine lv_aload_n hx hb dX11_goodUntilChange_33 rfl (lv_at hl 1 rfl) ?_
          refine lv_iload_n hx hb dX11_goodUntilChange_34 rfl (lv_at hl 2 rfl) ?_
          refine lv_iconst (v := 5) hx hb dX11_goodUntilChange_35 (by decide) ?_
          have hq8 := ho.1
          have ho := ho.2
          refine k_X11_of X hS hH hk_r hq8 t_ml_VernierDrawersModel_90 hl.1 (Nat.le_of_ble_eq_true rfl) ⟨Nat.le_of_ble_eq_true rfl, Nat.le_of_ble_eq_true rfl⟩ ⟨Nat.zero_le _, Nat.zero_le _⟩ dX11_goodUntilChange_36 ?_
          refine lv_icmp_ge (tgt := 62) hx hb dX11_goodUntilChange_39 (by decide) (fun c9 => ?_) (fun c9 => ?_)
          · skip
            exact K10 _ _ (Eq.symm (((lX11_goodUntilChange_32.eq_2 _ _ _ _ _)).trans ((if_pos c9).trans rfl))) (lv_sub hl [0, 1, 2] rfl)
          · have ho := ho c9
            refine lv_aload_n hx hb dX11_goodUntilChange_42 rfl (lv_at hl 1 rfl) ?_
            refine lv_iload_n hx hb dX11_goodUntilChange_43 rfl (lv_at hl 2 rfl) ?_
            refine lv_bipush (v := 6) hx hb dX11_goodUntilChange_44 (by decide) ?_
            have hq10 := ho.1
            have ho := ho.2
            refine k_X11_of X hS hH hk_r hq10 t_ml_VernierDrawersModel_90 hl.1 (Nat.le_of_ble_eq_true rfl) ⟨Nat.le_of_ble_eq_true rfl, Nat.le_of_ble_eq_true rfl⟩ ⟨Nat.zero_le _, Nat.zero_le _⟩ dX11_goodUntilChange_46 ?_
            refine lv_iload_n hx hb dX11_goodUntilChange_49 rfl (lv_at hl 0 rfl) ?_
            refine lv_ishr hx hb dX11_goodUntilChange_50 ?_
            refine lv_iconst (v := 1) hx hb dX11_goodUntilChange_51 (by decide) ?_
            refine lv_iand hx hb dX11_goodUntilChange_52 ?_
            refine lv_if_ne (tgt := 62) hx hb dX11_goodUntilChange_53 (by decide) (fun c11 => ?_) (fun c11 => ?_)
            · skip
              exact K10 _ _ (Eq.symm (((lX11_goodUntilChange_32.eq_2 _ _ _ _ _)).trans ((if_neg c9).trans ((if_neg c11).trans rfl)))) (lv_sub hl [0, 1, 2] rfl)
            · have ho := ho c11
              refine lv_iinc (v := i7 + 1) (lv' := [(2, .int (i7 + 1)), (0, .ref (ga G r)), (1, .int p1)]) hx hb dX11_goodUntilChange_56 hl (k := 0) rfl rfl (by decide) rfl (fun ls hl => ?_)
              refine lv_goto (tgt := 32) hx hb dX11_goodUntilChange_59 (by decide) ?_
              exact ih _ _ ho (lv_sub hl [0, 1, 2] rfl) (fun y8 ls q0 hl => K10 y8 ls (q0.trans (congrArg (fun z : Int32 => z) (Eq.symm (((lX11_goodUntilChange_32.eq_2 _ _ _ _ _)).trans ((if_neg c9).trans ((if_pos c11).trans rfl)))))) hl)
      have hol := ho
      refine L9 ((Int32.toInt ((fX11_of r p1 5 v3)) - Int32.toInt 0).toNat + 1) 0 _ hol (lv_sub hl [0, 1, 2] rfl) (fun y8 ls ey8 hl => ?_)
      refine lv_aload_n hx hb dX11_goodUntilChange_62 rfl (lv_at hl 1 rfl) ?_
      refine lv_iload_n hx hb dX11_goodUntilChange_63 rfl (lv_at hl 2 rfl) ?_
      refine lv_iconst (v := 4) hx hb dX11_goodUntilChange_64 (by decide) ?_
      refine k_X11_of X hS hH hk_r hq5 t_ml_VernierDrawersModel_90 hl.1 (Nat.le_of_ble_eq_true rfl) ⟨Nat.le_of_ble_eq_true rfl, Nat.le_of_ble_eq_true rfl⟩ ⟨Nat.zero_le _, Nat.zero_le _⟩ dX11_goodUntilChange_65 ?_
      refine lv_if_ne (tgt := 76) hx hb dX11_goodUntilChange_68 (by decide) (fun c12 => ?_) (fun c12 => ?_)
      · skip
        refine lv_iconst (v := 5) hx hb dX11_goodUntilChange_76 (by decide) ?_
        refine lv_iload_n hx hb dX11_goodUntilChange_77 rfl (lv_at hl 0 rfl) ?_
        refine lv_isub hx hb dX11_goodUntilChange_78 ?_
        replace ev3 := Eq.symm ev3
        replace ey8 := Eq.symm ey8
        subst ev3 ey8
        exact E _ _ _ _ _ _ _ _ _ dX11_goodUntilChange_79 rfl (pr1 ((fX11_goodUntilChange.eq_1 _ _ _).trans ((if_neg c4).trans ((if_neg c6).trans ((if_neg c12).trans rfl))))) (pr2 ((fX11_goodUntilChange.eq_1 _ _ _).trans ((if_neg c4).trans ((if_neg c6).trans ((if_neg c12).trans rfl))))) hH hS (Nat.zero_le _) (Nat.zero_le _)
      · skip
        refine lv_bipush (v := 10) hx hb dX11_goodUntilChange_71 (by decide) ?_
        refine lv_goto (tgt := 77) hx hb dX11_goodUntilChange_73 (by decide) ?_
        refine lv_iload_n hx hb dX11_goodUntilChange_77 rfl (lv_at hl 0 rfl) ?_
        refine lv_isub hx hb dX11_goodUntilChange_78 ?_
        replace ev3 := Eq.symm ev3
        replace ey8 := Eq.symm ey8
        subst ev3 ey8
        exact E _ _ _ _ _ _ _ _ _ dX11_goodUntilChange_79 rfl (pr1 ((fX11_goodUntilChange.eq_1 _ _ _).trans ((if_neg c4).trans ((if_neg c6).trans ((if_pos c12).trans rfl))))) (pr2 ((fX11_goodUntilChange.eq_1 _ _ _).trans ((if_neg c4).trans ((if_neg c6).trans ((if_pos c12).trans rfl))))) hH hS (Nat.zero_le _) (Nat.zero_le _)
    · skip
      refine lv_aload_n hx hb dX11_goodUntilChange_24 rfl (lv_at hl 0 rfl) ?_
      refine lv_iconst (v := 2) hx hb dX11_goodUntilChange_25 (by decide) ?_
      refine k_X11_fails X hS hH hk_r t_ml_VernierDrawersModel_42 hl.1 (Nat.le_of_ble_eq_true rfl) ⟨Nat.le_of_ble_eq_true rfl, Nat.le_of_ble_eq_true rfl⟩ ⟨Nat.zero_le _, Nat.zero_le _⟩ dX11_goodUntilChange_26 (fun da H locs v13 ev13 hH hS => ?_)
      replace ev3 := Eq.symm ev3
      replace ev13 := Eq.symm ev13
      subst ev3 ev13
      exact E _ _ _ _ _ _ _ _ _ dX11_goodUntilChange_29 rfl (pr1 ((fX11_goodUntilChange.eq_1 _ _ _).trans ((if_neg c4).trans ((if_pos c6).trans rfl)))) (pr2 ((fX11_goodUntilChange.eq_1 _ _ _).trans ((if_neg c4).trans ((if_pos c6).trans rfl)))) hH hS (Nat.zero_le _) (Nat.zero_le _)
  · skip
    refine lv_iconst (v := 0) hx hb dX11_goodUntilChange_12 (by decide) ?_
    replace ev3 := Eq.symm ev3
    subst ev3
    exact E _ _ _ _ _ _ _ _ _ dX11_goodUntilChange_13 rfl (pr1 ((fX11_goodUntilChange.eq_1 _ _ _).trans ((if_pos c4).trans rfl))) (pr2 ((fX11_goodUntilChange.eq_1 _ _ _).trans ((if_pos c4).trans rfl))) hH hS (Nat.zero_le _) (Nat.zero_le _)
theorem k_X11_goodUntilChange {p : Program} {l : Launch} {e : Env} {R : Room} {s : State} {m : MethodId} {args : Array Value} {below : List Frame} {meth : Method} {c : Code} {H : Heap} {locs : List Loc} {cells slots : Nat} {Q : State → Prop} {cc : ByteArray} {pc nL : Nat} {ls : Array Slot} {rest : List Value} {G : gG} {own : String} {da : Nat → Nat} {v : vSt} {x : gX} (X : CX G p s m args c cc nL own) (hS : va_S (gA G) s.heap H locs) (hH : Hp G da v x H) {r : Nat} (hk_r : kd r = 11) {p1 : Int32} (ho : oX11_goodUntilChange r p1 v) {idx : Nat} (hml : Cond.methodLink own idx yX11_goodUntilChange ∈ TT) (hls : ls.size = nL) (hsum : (rest.map fun v => v.category).sum ≤ 8) (hR : rmX11_goodUntilChange.frames + 1 ≤ R.frames ∧ 8 + (3 + 11) + rmX11_goodUntilChange.locals ≤ R.locals) (hcs : cells ≤ R.cells ∧ slots ≤ R.slots) (hdg : decode cc pc = .ok (.invokevirtual idx, 3)) (kk : ∀ (d : Nat → Nat) (H1 : Heap) (locs1 : List Loc) (v1 : vSt), v1 = (fX11_goodUntilChange r p1 v).2 → Hp G d v1 x H1 → va_S (gA G) s.heap H1 locs1 → W p l e R s m args below meth c H1 locs1 cells slots Q (F0 m (pc + 3) ls (.int (fX11_goodUntilChange r p1 v).1 :: rest))) : W p l e R s m args below meth c H locs cells slots Q (F0 m pc ls (.int p1 :: .ref (ga G r) :: rest)) := c_mi X.2.2.2.2.2.2 (runV (k := 1) X.1 X.2.1 X.2.2.1 X.2.2.2.1 X.2.2.2.2.1 (mX11_goodUntilChange l G da v x r hk_r p1 ho) pW_bl hml t_im_X11_goodUntilChange t_sel_X11_goodUntilChange t_ini_VernierDrawersModel t_code_X11_goodUntilChange ⟨rfl, by decide, by decide, by decide +kernel⟩ rfl rfl hR hcs (recvW X hH (by rw [hk_r]; decide) (by rw [hk_r]; decide) (ce_11 hk_r) rfl) (preW X hS hH) rfl hls rfl hsum hdg) hS kk
