/-! 17.model -/
def fX11_reasonNotPass (r : Nat) (v : vSt) : Int32 := if ((v 462 (206 : Int32).toNatClampNeg) : Int32) = 0 then 1 else (if ((fX11_of r (fX11_firstType r v) 4 v) : Int32) = 2 then (if ((fX11_of r (fX11_firstType r v) 7 v) : Int32) = 1 then 3 else 0) else 2)
def oX11_reasonNotPass (r : Nat) (v : vSt) : Prop := (vp_in (206) (mlen 462)) ∧ (¬ (((v 462 (206 : Int32).toNatClampNeg) : Int32) = 0) → ((oX11_firstType r v) ∧ ((oX11_of r (fX11_firstType r v) 4 v) ∧ ((((fX11_of r (fX11_firstType r v) 4 v) : Int32) = 2) → (oX11_of r (fX11_firstType r v) 7 v)))))
abbrev rmX11_reasonNotPass : Room := { frames := 2, cells := 0, slots := 0, locals := 40 }
theorem dX11_reasonNotPass_0 : decode cX11_reasonNotPass 0 = .ok (.aload_n 0, 1) := by decide +kernel
theorem dX11_reasonNotPass_1 : decode cX11_reasonNotPass 1 = .ok (.getfield 7, 3) := by decide +kernel
theorem dX11_reasonNotPass_4 : decode cX11_reasonNotPass 4 = .ok (.sipush 206, 3) := by decide +kernel
theorem dX11_reasonNotPass_7 : decode cX11_reasonNotPass 7 = .ok (.iaload, 1) := by decide +kernel
theorem dX11_reasonNotPass_8 : decode cX11_reasonNotPass 8 = .ok (.ifCond .ne 5, 3) := by decide +kernel
theorem dX11_reasonNotPass_11 : decode cX11_reasonNotPass 11 = .ok (.iconst 1, 1) := by decide +kernel
theorem dX11_reasonNotPass_12 : decode cX11_reasonNotPass 12 = .ok (.ireturn, 1) := by decide +kernel
theorem dX11_reasonNotPass_13 : decode cX11_reasonNotPass 13 = .ok (.aload_n 0, 1) := by decide +kernel
theorem dX11_reasonNotPass_14 : decode cX11_reasonNotPass 14 = .ok (.invokevirtual 86, 3) := by decide +kernel
theorem dX11_reasonNotPass_17 : decode cX11_reasonNotPass 17 = .ok (.istore_n 1, 1) := by decide +kernel
theorem dX11_reasonNotPass_18 : decode cX11_reasonNotPass 18 = .ok (.aload_n 0, 1) := by decide +kernel
theorem dX11_reasonNotPass_19 : decode cX11_reasonNotPass 19 = .ok (.iload_n 1, 1) := by decide +kernel
theorem dX11_reasonNotPass_20 : decode cX11_reasonNotPass 20 = .ok (.iconst 4, 1) := by decide +kernel
theorem dX11_reasonNotPass_21 : decode cX11_reasonNotPass 21 = .ok (.invokevirtual 90, 3) := by decide +kernel
theorem dX11_reasonNotPass_24 : decode cX11_reasonNotPass 24 = .ok (.iconst 2, 1) := by decide +kernel
theorem dX11_reasonNotPass_25 : decode cX11_reasonNotPass 25 = .ok (.if_icmp .eq 7, 3) := by decide +kernel
theorem dX11_reasonNotPass_28 : decode cX11_reasonNotPass 28 = .ok (.iconst 2, 1) := by decide +kernel
theorem dX11_reasonNotPass_29 : decode cX11_reasonNotPass 29 = .ok (.goto 19, 3) := by decide +kernel
theorem dX11_reasonNotPass_32 : decode cX11_reasonNotPass 32 = .ok (.aload_n 0, 1) := by decide +kernel
theorem dX11_reasonNotPass_33 : decode cX11_reasonNotPass 33 = .ok (.iload_n 1, 1) := by decide +kernel
theorem dX11_reasonNotPass_34 : decode cX11_reasonNotPass 34 = .ok (.bipush 7, 2) := by decide +kernel
theorem dX11_reasonNotPass_36 : decode cX11_reasonNotPass 36 = .ok (.invokevirtual 90, 3) := by decide +kernel
theorem dX11_reasonNotPass_39 : decode cX11_reasonNotPass 39 = .ok (.iconst 1, 1) := by decide +kernel
theorem dX11_reasonNotPass_40 : decode cX11_reasonNotPass 40 = .ok (.if_icmp .ne 7, 3) := by decide +kernel
theorem dX11_reasonNotPass_43 : decode cX11_reasonNotPass 43 = .ok (.iconst 3, 1) := by decide +kernel
theorem dX11_reasonNotPass_44 : decode cX11_reasonNotPass 44 = .ok (.goto 4, 3) := by decide +kernel
theorem dX11_reasonNotPass_47 : decode cX11_reasonNotPass 47 = .ok (.iconst 0, 1) := by decide +kernel
theorem dX11_reasonNotPass_48 : decode cX11_reasonNotPass 48 = .ok (.ireturn, 1) := by decide +kernel
set_option maxHeartbeats 8000000 in
set_option maxRecDepth 100000 in
theorem mX11_reasonNotPass (l : Launch) (G : gG) (da : Nat → Nat) (v : vSt) (x : gX) (r : Nat) (hk_r : kd r = 11) (ho : oX11_reasonNotPass r v) : QI l yX11_reasonNotPass cX11_reasonNotPass 2 (some .int) rmX11_reasonNotPass [.ref (ga G r)] (pW G da v x) (fX11_reasonNotPass r v) := by
  refine gofQ (own := RX11) (by decide) rfl (Nat.le_of_ble_eq_true rfl) (fun p e s m args below meth c ls Q X hH hl E => ?_)
  have hx := X.1
  have hb := X.2.1
  have hown := X.2.2.2.1
  have hts := X.2.2.2.2.1
  have hS : va_S (gA G) s.heap s.heap [] := va_S.rf
  unfold oX11_reasonNotPass at ho
  have hl : lv_has ls 2 [(0, .ref (ga G r))] := hl
  refine lv_aload_n hx hb dX11_reasonNotPass_0 rfl (lv_at hl 0 rfl) ?_
  refine g_VernierDrawersModel_7 X hH hk_r dX11_reasonNotPass_1 ?_
  refine lv_sipush (v := 206) hx hb dX11_reasonNotPass_4 (by decide) ?_
  have hq1 := ho.1
  have ho := ho.2
  refine ald_M X hH (Or.inl kd_462) hq1 dX11_reasonNotPass_7 ?_
  refine lv_if_ne (tgt := 13) hx hb dX11_reasonNotPass_8 (by decide) (fun c2 => ?_) (fun c2 => ?_)
  · have ho := ho c2
    refine lv_aload_n hx hb dX11_reasonNotPass_13 rfl (lv_at hl 0 rfl) ?_
    have hq3 := ho.1
    have ho := ho.2
    refine k_X11_firstType X hS hH hk_r hq3 t_ml_VernierDrawersModel_86 hl.1 (Nat.le_of_ble_eq_true rfl) ⟨Nat.le_of_ble_eq_true rfl, Nat.le_of_ble_eq_true rfl⟩ ⟨Nat.zero_le _, Nat.zero_le _⟩ dX11_reasonNotPass_14 ?_
    refine lv_istore_n (lv' := [(1, .int (fX11_firstType r v)), (0, .ref (ga G r))]) hx hb dX11_reasonNotPass_17 rfl hl (by decide) rfl (fun ls hl => ?_)
    refine lv_aload_n hx hb dX11_reasonNotPass_18 rfl (lv_at hl 1 rfl) ?_
    refine lv_iload_n hx hb dX11_reasonNotPass_19 rfl (lv_at hl 0 rfl) ?_
    refine lv_iconst (v := 4) hx hb dX11_reasonNotPass_20 (by decide) ?_
    have hq4 := ho.1
    have ho := ho.2
    refine k_X11_of X hS hH hk_r hq4 t_ml_VernierDrawersModel_90 hl.1 (Nat.le_of_ble_eq_true rfl) ⟨Nat.le_of_ble_eq_true rfl, Nat.le_of_ble_eq_true rfl⟩ ⟨Nat.zero_le _, Nat.zero_le _⟩ dX11_reasonNotPass_21 ?_
    refine lv_iconst (v := 2) hx hb dX11_reasonNotPass_24 (by decide) ?_
    refine lv_icmp_eq (tgt := 32) hx hb dX11_reasonNotPass_25 (by decide) (fun c5 => ?_) (fun c5 => ?_)
    · have ho := ho c5
      refine lv_aload_n hx hb dX11_reasonNotPass_32 rfl (lv_at hl 1 rfl) ?_
      refine lv_iload_n hx hb dX11_reasonNotPass_33 rfl (lv_at hl 0 rfl) ?_
      refine lv_bipush (v := 7) hx hb dX11_reasonNotPass_34 (by decide) ?_
      have hq6 := ho
      refine k_X11_of X hS hH hk_r hq6 t_ml_VernierDrawersModel_90 hl.1 (Nat.le_of_ble_eq_true rfl) ⟨Nat.le_of_ble_eq_true rfl, Nat.le_of_ble_eq_true rfl⟩ ⟨Nat.zero_le _, Nat.zero_le _⟩ dX11_reasonNotPass_36 ?_
      refine lv_iconst (v := 1) hx hb dX11_reasonNotPass_39 (by decide) ?_
      refine lv_icmp_ne (tgt := 47) hx hb dX11_reasonNotPass_40 (by decide) (fun c7 => ?_) (fun c7 => ?_)
      · skip
        refine lv_iconst (v := 0) hx hb dX11_reasonNotPass_47 (by decide) ?_
        exact E _ _ _ dX11_reasonNotPass_48 rfl (Eq.symm ((fX11_reasonNotPass.eq_1 _ _).trans ((if_neg c2).trans ((if_pos c5).trans ((if_neg c7).trans rfl)))))
      · skip
        refine lv_iconst (v := 3) hx hb dX11_reasonNotPass_43 (by decide) ?_
        refine lv_goto (tgt := 48) hx hb dX11_reasonNotPass_44 (by decide) ?_
        exact E _ _ _ dX11_reasonNotPass_48 rfl (Eq.symm ((fX11_reasonNotPass.eq_1 _ _).trans ((if_neg c2).trans ((if_pos c5).trans ((if_pos c7).trans rfl)))))
    · skip
      refine lv_iconst (v := 2) hx hb dX11_reasonNotPass_28 (by decide) ?_
      refine lv_goto (tgt := 48) hx hb dX11_reasonNotPass_29 (by decide) ?_
      exact E _ _ _ dX11_reasonNotPass_48 rfl (Eq.symm ((fX11_reasonNotPass.eq_1 _ _).trans ((if_neg c2).trans ((if_neg c5).trans rfl))))
  · skip
    refine lv_iconst (v := 1) hx hb dX11_reasonNotPass_11 (by decide) ?_
    exact E _ _ _ dX11_reasonNotPass_12 rfl (Eq.symm ((fX11_reasonNotPass.eq_1 _ _).trans ((if_pos c2).trans rfl)))
theorem k_X11_reasonNotPass {p : Program} {l : Launch} {e : Env} {R : Room} {s : State} {m : MethodId} {args : Array Value} {below : List Frame} {meth : Method} {c : Code} {H : Heap} {locs : List Loc} {cells slots : Nat} {Q : State → Prop} {cc : ByteArray} {pc nL : Nat} {ls : Array Slot} {rest : List Value} {G : gG} {own : String} {da : Nat → Nat} {v : vSt} {x : gX} (X : CX G p s m args c cc nL own) (hS : va_S (gA G) s.heap H locs) (hH : Hp G da v x H) {r : Nat} (hk_r : kd r = 11) (ho : oX11_reasonNotPass r v) {idx : Nat} (hml : Cond.methodLink own idx yX11_reasonNotPass ∈ TT) (hls : ls.size = nL) (hsum : (rest.map fun v => v.category).sum ≤ 8) (hR : rmX11_reasonNotPass.frames + 1 ≤ R.frames ∧ 8 + (2 + 11) + rmX11_reasonNotPass.locals ≤ R.locals) (hcs : cells ≤ R.cells ∧ slots ≤ R.slots) (hdg : decode cc pc = .ok (.invokevirtual idx, 3)) (kk : W p l e R s m args below meth c H locs cells slots Q (F0 m (pc + 3) ls (.int (fX11_reasonNotPass r v) :: rest))) : W p l e R s m args below meth c H locs cells slots Q (F0 m pc ls (.ref (ga G r) :: rest)) := c_qi (runV (k := 0) X.1 X.2.1 X.2.2.1 X.2.2.2.1 X.2.2.2.2.1 (mX11_reasonNotPass l G da v x r hk_r ho) pW_bl hml t_im_X11_reasonNotPass t_sel_X11_reasonNotPass t_ini_VernierDrawersModel t_code_X11_reasonNotPass ⟨rfl, by decide, by decide, by decide +kernel⟩ rfl rfl hR hcs (recvW X hH (by rw [hk_r]; decide) (by rw [hk_r]; decide) (ce_11 hk_r) rfl) (preW X hS hH) rfl hls rfl hsum hdg) (fun _ h => h ▸ kk)
def fX11_measured (r : Nat) (p1 : Int32) (v : vSt) : Int32 := ((fX11_firstReading r p1 v) - (fX11_tool r p1 3 v)) - (fX11_of r (fX11_firstType r v) 0 v)
def oX11_measured (r : Nat) (p1 : Int32) (v : vSt) : Prop := (oX11_firstReading r p1 v) ∧ ((oX11_tool r p1 3 v) ∧ ((oX11_firstType r v) ∧ (oX11_of r (fX11_firstType r v) 0 v)))
abbrev rmX11_measured : Room := { frames := 4, cells := 0, slots := 0, locals := 91 }
theorem dX11_measured_0 : decode cX11_measured 0 = .ok (.aload_n 0, 1) := by decide +kernel
theorem dX11_measured_1 : decode cX11_measured 1 = .ok (.iload_n 1, 1) := by decide +kernel
theorem dX11_measured_2 : decode cX11_measured 2 = .ok (.invokevirtual 107, 3) := by decide +kernel
theorem dX11_measured_5 : decode cX11_measured 5 = .ok (.aload_n 0, 1) := by decide +kernel
theorem dX11_measured_6 : decode cX11_measured 6 = .ok (.iload_n 1, 1) := by decide +kernel
theorem dX11_measured_7 : decode cX11_measured 7 = .ok (.iconst 3, 1) := by decide +kernel
theorem dX11_measured_8 : decode cX11_measured 8 = .ok (.invokevirtual 54, 3) := by decide +kernel
theorem dX11_measured_11 : decode cX11_measured 11 = .ok (.isub, 1) := by decide +kernel
theorem dX11_measured_12 : decode cX11_measured 12 = .ok (.aload_n 0, 1) := by decide +kernel
theorem dX11_measured_13 : decode cX11_measured 13 = .ok (.aload_n 0, 1) := by decide +kernel
theorem dX11_measured_14 : decode cX11_measured 14 = .ok (.invokevirtual 86, 3) := by decide +kernel
theorem dX11_measured_17 : decode cX11_measured 17 = .ok (.iconst 0, 1) := by decide +kernel
theorem dX11_measured_18 : decode cX11_measured 18 = .ok (.invokevirtual 90, 3) := by decide +kernel
theorem dX11_measured_21 : decode cX11_measured 21 = .ok (.isub, 1) := by decide +kernel
theorem dX11_measured_22 : decode cX11_measured 22 = .ok (.ireturn, 1) := by decide +kernel
set_option maxHeartbeats 8000000 in
set_option maxRecDepth 100000 in
theorem mX11_measured (l : Launch) (G : gG) (da : Nat → Nat) (v : vSt) (x : gX) (r : Nat) (hk_r : kd r = 11) (p1 : Int32) (ho : oX11_measured r p1 v) : QI l yX11_measured cX11_measured 2 (some .int) rmX11_measured [.ref (ga G r), .int p1] (pW G da v x) (fX11_measured r p1 v) := by
  refine gofQ (own := RX11) (by decide) rfl (Nat.le_of_ble_eq_true rfl) (fun p e s m args below meth c ls Q X hH hl E => ?_)
  have hx := X.1
  have hb := X.2.1
  have hown := X.2.2.2.1
  have hts := X.2.2.2.2.1
  have hS : va_S (gA G) s.heap s.heap [] := va_S.rf
  unfold oX11_measured at ho
  have hl : lv_has ls 2 [(0, .ref (ga G r)), (1, .int p1)] := hl
  refine lv_aload_n hx hb dX11_measured_0 rfl (lv_at hl 0 rfl) ?_
  refine lv_iload_n hx hb dX11_measured_1 rfl (lv_at hl 1 rfl) ?_
  have hq1 := ho.1
  have ho := ho.2
  refine k_X11_firstReading X hS hH hk_r hq1 t_ml_VernierDrawersModel_107 hl.1 (Nat.le_of_ble_eq_true rfl) ⟨Nat.le_of_ble_eq_true rfl, Nat.le_of_ble_eq_true rfl⟩ ⟨Nat.zero_le _, Nat.zero_le _⟩ dX11_measured_2 ?_
  refine lv_aload_n hx hb dX11_measured_5 rfl (lv_at hl 0 rfl) ?_
  refine lv_iload_n hx hb dX11_measured_6 rfl (lv_at hl 1 rfl) ?_
  refine lv_iconst (v := 3) hx hb dX11_measured_7 (by decide) ?_
  have hq2 := ho.1
  have ho := ho.2
  refine k_X11_tool X hS hH hk_r hq2 t_ml_VernierDrawersModel_54 hl.1 (Nat.le_of_ble_eq_true rfl) ⟨Nat.le_of_ble_eq_true rfl, Nat.le_of_ble_eq_true rfl⟩ ⟨Nat.zero_le _, Nat.zero_le _⟩ dX11_measured_8 ?_
  refine lv_isub hx hb dX11_measured_11 ?_
  refine lv_aload_n hx hb dX11_measured_12 rfl (lv_at hl 0 rfl) ?_
  refine lv_aload_n hx hb dX11_measured_13 rfl (lv_at hl 0 rfl) ?_
  have hq3 := ho.1
  have ho := ho.2
  refine k_X11_firstType X hS hH hk_r hq3 t_ml_VernierDrawersModel_86 hl.1 (Nat.le_of_ble_eq_true rfl) ⟨Nat.le_of_ble_eq_true rfl, Nat.le_of_ble_eq_true rfl⟩ ⟨Nat.zero_le _, Nat.zero_le _⟩ dX11_measured_14 ?_
  refine lv_iconst (v := 0) hx hb dX11_measured_17 (by decide) ?_
  have hq4 := ho
  refine k_X11_of X hS hH hk_r hq4 t_ml_VernierDrawersModel_90 hl.1 (Nat.le_of_ble_eq_true rfl) ⟨Nat.le_of_ble_eq_true rfl, Nat.le_of_ble_eq_true rfl⟩ ⟨Nat.zero_le _, Nat.zero_le _⟩ dX11_measured_18 ?_
  refine lv_isub hx hb dX11_measured_21 ?_
  exact E _ _ _ dX11_measured_22 rfl (Eq.symm rfl)
theorem k_X11_measured {p : Program} {l : Launch} {e : Env} {R : Room} {s : State} {m : MethodId} {args : Array Value} {below : List Frame} {meth : Method} {c : Code} {H : Heap} {locs : List Loc} {cells slots : Nat} {Q : State → Prop} {cc : ByteArray} {pc nL : Nat} {ls : Array Slot} {rest : List Value} {G : gG} {own : String} {da : Nat → Nat} {v : vSt} {x : gX} (X : CX G p s m args c cc nL own) (hS : va_S (gA G) s.heap H locs) (hH : Hp G da v x H) {r : Nat} (hk_r : kd r = 11) {p1 : Int32} (ho : oX11_measured r p1 v) {idx : Nat} (hml : Cond.methodLink own idx yX11_measured ∈ TT) (hls : ls.size = nL) (hsum : (rest.map fun v => v.category).sum ≤ 8) (hR : rmX11_measured.frames + 1 ≤ R.frames ∧ 8 + (2 + 11) + rmX11_measured.locals ≤ R.locals) (hcs : cells ≤ R.cells ∧ slots ≤ R.slots) (hdg : decode cc pc = .ok (.invokevirtual idx, 3)) (kk : W p l e R s m args below meth c H locs cells slots Q (F0 m (pc + 3) ls (.int (fX11_measured r p1 v) :: rest))) : W p l e R s m args below meth c H locs cells slots Q (F0 m pc ls (.int p1 :: .ref (ga G r) :: rest)) := c_qi (runV (k := 1) X.1 X.2.1 X.2.2.1 X.2.2.2.1 X.2.2.2.2.1 (mX11_measured l G da v x r hk_r p1 ho) pW_bl hml t_im_X11_measured t_sel_X11_measured t_ini_VernierDrawersModel t_code_X11_measured ⟨rfl, by decide, by decide, by decide +kernel⟩ rfl rfl hR hcs (recvW X hH (by rw [hk_r]; decide) (by rw [hk_r]; decide) (ce_11 hk_r) rfl) (preW X hS hH) rfl hls rfl hsum hdg) (fun _ h => h ▸ kk)
def fX11_judgement (r : Nat) (p1 : Int32) (v : vSt) : Int32 := let y6 : Int32 := (if ((fX11_step r p1 v) : Int32) ≤ (fX11_less (fX11_size ((fX11_measured r p1 v) - (fX11_of r (fX11_firstType r v) 1 v))) (fX11_size ((fX11_measured r p1 v) - (fX11_of r (fX11_firstType r v) 2 v)))) then 0 else 1 : Int32); if (y6 : Int32) = 0 then (if ((fX11_measured r p1 v) : Int32) ≤ (fX11_of r (fX11_firstType r v) 2 v) then (if ((fX11_of r (fX11_firstType r v) 1 v) : Int32) ≤ (fX11_measured r p1 v) then 0 else 2) else 1) else (if (((v 462 (183 : Int32).toNatClampNeg) - (v 462 (183 : Int32).toNatClampNeg) / 2 * 2) : Int32) = 0 then 3 else (if ((fX11_measured r p1 v) : Int32) ≤ (fX11_of r (fX11_firstType r v) 2 v) then (if ((fX11_of r (fX11_firstType r v) 1 v) : Int32) ≤ (fX11_measured r p1 v) then 0 else 2) else 1))
def oX11_judgement (r : Nat) (p1 : Int32) (v : vSt) : Prop := (oX11_firstType r v) ∧ ((oX11_measured r p1 v) ∧ ((oX11_of r (fX11_firstType r v) 1 v) ∧ ((oX11_of r (fX11_firstType r v) 2 v) ∧ ((oX11_step r p1 v) ∧ ((∀ (y6 : Int32), y6 = ((if ((fX11_step r p1 v) : Int32) ≤ (fX11_less (fX11_size ((fX11_measured r p1 v) - (fX11_of r (fX11_firstType r v) 1 v))) (fX11_size ((fX11_measured r p1 v) - (fX11_of r (fX11_firstType r v) 2 v)))) then 0 else 1 : Int32) : Int32) → (¬ ((y6 : Int32) = 0) → (vp_in (183) (mlen 462)))))))))
abbrev rmX11_judgement : Room := { frames := 5, cells := 0, slots := 0, locals := 112 }
theorem dX11_judgement_0 : decode cX11_judgement 0 = .ok (.aload_n 0, 1) := by decide +kernel
theorem dX11_judgement_1 : decode cX11_judgement 1 = .ok (.invokevirtual 86, 3) := by decide +kernel
theorem dX11_judgement_4 : decode cX11_judgement 4 = .ok (.istore_n 2, 1) := by decide +kernel
theorem dX11_judgement_5 : decode cX11_judgement 5 = .ok (.aload_n 0, 1) := by decide +kernel
theorem dX11_judgement_6 : decode cX11_judgement 6 = .ok (.iload_n 1, 1) := by decide +kernel
theorem dX11_judgement_7 : decode cX11_judgement 7 = .ok (.invokevirtual 110, 3) := by decide +kernel
theorem dX11_judgement_10 : decode cX11_judgement 10 = .ok (.istore_n 3, 1) := by decide +kernel
theorem dX11_judgement_11 : decode cX11_judgement 11 = .ok (.iload_n 3, 1) := by decide +kernel
theorem dX11_judgement_12 : decode cX11_judgement 12 = .ok (.aload_n 0, 1) := by decide +kernel
theorem dX11_judgement_13 : decode cX11_judgement 13 = .ok (.iload_n 2, 1) := by decide +kernel
theorem dX11_judgement_14 : decode cX11_judgement 14 = .ok (.iconst 1, 1) := by decide +kernel
theorem dX11_judgement_15 : decode cX11_judgement 15 = .ok (.invokevirtual 90, 3) := by decide +kernel
theorem dX11_judgement_18 : decode cX11_judgement 18 = .ok (.isub, 1) := by decide +kernel
theorem dX11_judgement_19 : decode cX11_judgement 19 = .ok (.invokestatic 113, 3) := by decide +kernel
theorem dX11_judgement_22 : decode cX11_judgement 22 = .ok (.iload_n 3, 1) := by decide +kernel
theorem dX11_judgement_23 : decode cX11_judgement 23 = .ok (.aload_n 0, 1) := by decide +kernel
theorem dX11_judgement_24 : decode cX11_judgement 24 = .ok (.iload_n 2, 1) := by decide +kernel
theorem dX11_judgement_25 : decode cX11_judgement 25 = .ok (.iconst 2, 1) := by decide +kernel
theorem dX11_judgement_26 : decode cX11_judgement 26 = .ok (.invokevirtual 90, 3) := by decide +kernel
theorem dX11_judgement_29 : decode cX11_judgement 29 = .ok (.isub, 1) := by decide +kernel
theorem dX11_judgement_30 : decode cX11_judgement 30 = .ok (.invokestatic 113, 3) := by decide +kernel
theorem dX11_judgement_33 : decode cX11_judgement 33 = .ok (.invokestatic 68, 3) := by decide +kernel
theorem dX11_judgement_36 : decode cX11_judgement 36 = .ok (.aload_n 0, 1) := by decide +kernel
theorem dX11_judgement_37 : decode cX11_judgement 37 = .ok (.iload_n 1, 1) := by decide +kernel
theorem dX11_judgement_38 : decode cX11_judgement 38 = .ok (.invokevirtual 61, 3) := by decide +kernel
theorem dX11_judgement_41 : decode cX11_judgement 41 = .ok (.if_icmp .ge 7, 3) := by decide +kernel
theorem dX11_judgement_44 : decode cX11_judgement 44 = .ok (.iconst 1, 1) := by decide +kernel
theorem dX11_judgement_45 : decode cX11_judgement 45 = .ok (.goto 4, 3) := by decide +kernel
theorem dX11_judgement_48 : decode cX11_judgement 48 = .ok (.iconst 0, 1) := by decide +kernel
theorem dX11_judgement_49 : decode cX11_judgement 49 = .ok (.istore 4, 2) := by decide +kernel
theorem dX11_judgement_51 : decode cX11_judgement 51 = .ok (.iload 4, 2) := by decide +kernel
theorem dX11_judgement_53 : decode cX11_judgement 53 = .ok (.ifCond .eq 18, 3) := by decide +kernel
theorem dX11_judgement_56 : decode cX11_judgement 56 = .ok (.aload_n 0, 1) := by decide +kernel
theorem dX11_judgement_57 : decode cX11_judgement 57 = .ok (.getfield 7, 3) := by decide +kernel
theorem dX11_judgement_60 : decode cX11_judgement 60 = .ok (.sipush 183, 3) := by decide +kernel
theorem dX11_judgement_63 : decode cX11_judgement 63 = .ok (.iaload, 1) := by decide +kernel
theorem dX11_judgement_64 : decode cX11_judgement 64 = .ok (.iconst 2, 1) := by decide +kernel
theorem dX11_judgement_65 : decode cX11_judgement 65 = .ok (.irem, 1) := by decide +kernel
theorem dX11_judgement_66 : decode cX11_judgement 66 = .ok (.ifCond .ne 5, 3) := by decide +kernel
theorem dX11_judgement_69 : decode cX11_judgement 69 = .ok (.iconst 3, 1) := by decide +kernel
theorem dX11_judgement_70 : decode cX11_judgement 70 = .ok (.ireturn, 1) := by decide +kernel
theorem dX11_judgement_71 : decode cX11_judgement 71 = .ok (.iload_n 3, 1) := by decide +kernel
theorem dX11_judgement_72 : decode cX11_judgement 72 = .ok (.aload_n 0, 1) := by decide +kernel
theorem dX11_judgement_73 : decode cX11_judgement 73 = .ok (.iload_n 2, 1) := by decide +kernel
theorem dX11_judgement_74 : decode cX11_judgement 74 = .ok (.iconst 2, 1) := by decide +kernel
theorem dX11_judgement_75 : decode cX11_judgement 75 = .ok (.invokevirtual 90, 3) := by decide +kernel
theorem dX11_judgement_78 : decode cX11_judgement 78 = .ok (.if_icmp .le 7, 3) := by decide +kernel
theorem dX11_judgement_81 : decode cX11_judgement 81 = .ok (.iconst 1, 1) := by decide +kernel
theorem dX11_judgement_82 : decode cX11_judgement 82 = .ok (.goto 18, 3) := by decide +kernel
theorem dX11_judgement_85 : decode cX11_judgement 85 = .ok (.iload_n 3, 1) := by decide +kernel
theorem dX11_judgement_86 : decode cX11_judgement 86 = .ok (.aload_n 0, 1) := by decide +kernel
theorem dX11_judgement_87 : decode cX11_judgement 87 = .ok (.iload_n 2, 1) := by decide +kernel
theorem dX11_judgement_88 : decode cX11_judgement 88 = .ok (.iconst 1, 1) := by decide +kernel
theorem dX11_judgement_89 : decode cX11_judgement 89 = .ok (.invokevirtual 90, 3) := by decide +kernel
theorem dX11_judgement_92 : decode cX11_judgement 92 = .ok (.if_icmp .ge 7, 3) := by decide +kernel
theorem dX11_judgement_95 : decode cX11_judgement 95 = .ok (.iconst 2, 1) := by decide +kernel
theorem dX11_judgement_96 : decode cX11_judgement 96 = .ok (.goto 4, 3) := by decide +kernel
theorem dX11_judgement_99 : decode cX11_judgement 99 = .ok (.iconst 0, 1) := by decide +kernel
theorem dX11_judgement_100 : decode cX11_judgement 100 = .ok (.ireturn, 1) := by decide +kernel
set_option maxHeartbeats 8000000 in
set_option maxRecDepth 100000 in
theorem mX11_judgement (l : Launch) (G : gG) (da : Nat → Nat) (v : vSt) (x : gX) (r : Nat) (hk_r : kd r = 11) (p1 : Int32) (ho : oX11_judgement r p1 v) : QI l yX11_judgement cX11_judgement 5 (some .int) rmX11_judgement [.ref (ga G r), .int p1] (pW G da v x) (fX11_judgement r p1 v) := by
  refine gofQ (own := RX11) (by decide) rfl (Nat.le_of_ble_eq_true rfl) (fun p e s m args below meth c ls Q X hH hl E => ?_)
  have hx := X.1
  have hb := X.2.1
  have hown := X.2.2.2.1
  have hts := X.2.2.2.2.1
  have hS : va_S (gA G) s.heap s.heap [] := va_S.rf
  unfold oX11_judgement at ho
  have hl : lv_has ls 5 [(0, .ref (ga G r)), (1, .int p1)] := hl
  refine lv_aload_n hx hb dX11_judgement_0 rfl (lv_at hl 0 rfl) ?_
  have hq1 := ho.1
  have ho := ho.2
  refine k_X11_firstType X hS hH hk_r hq1 t_ml_VernierDrawersModel_86 hl.1 (Nat.le_of_ble_eq_true rfl) ⟨Nat.le_of_ble_eq_true rfl, Nat.le_of_ble_eq_true rfl⟩ ⟨Nat.zero_le _, Nat.zero_le _⟩ dX11_judgement_1 ?_
  refine lv_istore_n (lv' := [(2, .int (fX11_firstType r v)), (0, .ref (ga G r)), (1, .int p1)]) hx hb dX11_judgement_4 rfl hl (by decide) rfl (fun ls hl => ?_)
  refine lv_aload_n hx hb dX11_judgement_5 rfl (lv_at hl 1 rfl) ?_
  refine lv_iload_n hx hb dX11_judgement_6 rfl (lv_at hl 2 rfl) ?_
  have hq2 := ho.1
  have ho := ho.2
  refine k_X11_measured X hS hH hk_r hq2 t_ml_VernierDrawersModel_110 hl.1 (Nat.le_of_ble_eq_true rfl) ⟨Nat.le_of_ble_eq_true rfl, Nat.le_of_ble_eq_true rfl⟩ ⟨Nat.zero_le _, Nat.zero_le _⟩ dX11_judgement_7 ?_
  refine lv_istore_n (lv' := [(3, .int (fX11_measured r p1 v)), (2, .int (fX11_firstType r v)), (0, .ref (ga G r)), (1, .int p1)]) hx hb dX11_judgement_10 rfl hl (by decide) rfl (fun ls hl => ?_)
  refine lv_iload_n hx hb dX11_judgement_11 rfl (lv_at hl 0 rfl) ?_
  refine lv_aload_n hx hb dX11_judgement_12 rfl (lv_at hl 2 rfl) ?_
  refine lv_iload_n hx hb dX11_judgement_13 rfl (lv_at hl 1 rfl) ?_
  refine lv_iconst (v := 1) hx hb dX11_judgement_14 (by decide) ?_
  have hq3 := ho.1
  have ho := ho.2
  refine k_X11_of X hS hH hk_r hq3 t_ml_VernierDrawersModel_90 hl.1 (Nat.le_of_ble_eq_true rfl) ⟨Nat.le_of_ble_eq_true rfl, Nat.le_of_ble_eq_true rfl⟩ ⟨Nat.zero_le _, Nat.zero_le _⟩ dX11_judgement_15 ?_
  refine lv_isub hx hb dX11_judgement_18 ?_
  refine k_X11_size X hS  t_ml_VernierDrawersModel_113 hl.1 (Nat.le_of_ble_eq_true rfl) ⟨Nat.le_of_ble_eq_true rfl, Nat.le_of_ble_eq_true rfl⟩ ⟨Nat.zero_le _, Nat.zero_le _⟩ dX11_judgement_19 ?_
  refine lv_iload_n hx hb dX11_judgement_22 rfl (lv_at hl 0 rfl) ?_
  refine lv_aload_n hx hb dX11_judgement_23 rfl (lv_at hl 2 rfl) ?_
  refine lv_iload_n hx hb dX11_judgement_24 rfl (lv_at hl 1 rfl) ?_
  refine lv_iconst (v := 2) hx hb dX11_judgement_25 (by decide) ?_
  have hq4 := ho.1
  have ho := ho.2
  refine k_X11_of X hS hH hk_r hq4 t_ml_VernierDrawersModel_90 hl.1 (Nat.le_of_ble_eq_true rfl) ⟨Nat.le_of_ble_eq_true rfl, Nat.le_of_ble_eq_true rfl⟩ ⟨Nat.zero_le _, Nat.zero_le _⟩ dX11_judgement_26 ?_
  refine lv_isub hx hb dX11_judgement_29 ?_
  refine k_X11_size X hS  t_ml_VernierDrawersModel_113 hl.1 (Nat.le_of_ble_eq_true rfl) ⟨Nat.le_of_ble_eq_true rfl, Nat.le_of_ble_eq_true rfl⟩ ⟨Nat.zero_le _, Nat.zero_le _⟩ dX11_judgement_30 ?_
  refine k_X11_less X hS  t_ml_VernierDrawersModel_68 hl.1 (Nat.le_of_ble_eq_true rfl) ⟨Nat.le_of_ble_eq_true rfl, Nat.le_of_ble_eq_true rfl⟩ ⟨Nat.zero_le _, Nat.zero_le _⟩ dX11_judgement_33 ?_
  refine lv_aload_n hx hb dX11_judgement_36 rfl (lv_at hl 2 rfl) ?_
  refine lv_iload_n hx hb dX11_judgement_37 rfl (lv_at hl 3 rfl) ?_
  have hq5 := ho.1
  have ho := ho.2
  refine k_X11_step X hS hH hk_r hq5 t_ml_VernierDrawersModel_61 hl.1 (Nat.le_of_ble_eq_true rfl) ⟨Nat.le_of_ble_eq_true rfl, Nat.le_of_ble_eq_true rfl⟩ ⟨Nat.zero_le _, Nat.zero_le _⟩ dX11_judgement_38 ?_
  have K7 : ∀ (y6 : Int32) (ls : Array Slot), y6 = (if ((fX11_step r p1 v) : Int32) ≤ (fX11_less (fX11_size ((fX11_measured r p1 v) - (fX11_of r (fX11_firstType r v) 1 v))) (fX11_size ((fX11_measured r p1 v) - (fX11_of r (fX11_firstType r v) 2 v)))) then 0 else 1 : Int32) → lv_has ls 5 [(3, .int (fX11_measured r p1 v)), (2, .int (fX11_firstType r v)), (0, .ref (ga G r))] → W p l e rmX11_judgement s m args below meth c s.heap [] 0 0 Q (F0 m 49 ls [.int y6]) := by
    intro y6 ls ey6 hl
    have ho := ho y6 ey6
    refine lv_istore (lv' := [(4, .int y6), (3, .int (fX11_measured r p1 v)), (2, .int (fX11_firstType r v)), (0, .ref (ga G r))]) hx hb dX11_judgement_49 hl (by decide) rfl (fun ls hl => ?_)
    refine lv_iload hx hb dX11_judgement_51 (lv_at hl 0 rfl) ?_
    refine lv_if_eq (tgt := 71) hx hb dX11_judgement_53 (by decide) (fun c8 => ?_) (fun c8 => ?_)
    · skip
      refine lv_iload_n hx hb dX11_judgement_71 rfl (lv_at hl 1 rfl) ?_
      refine lv_aload_n hx hb dX11_judgement_72 rfl (lv_at hl 3 rfl) ?_
      refine lv_iload_n hx hb dX11_judgement_73 rfl (lv_at hl 2 rfl) ?_
      refine lv_iconst (v := 2) hx hb dX11_judgement_74 (by decide) ?_
      refine k_X11_of X hS hH hk_r hq4 t_ml_VernierDrawersModel_90 hl.1 (Nat.le_of_ble_eq_true rfl) ⟨Nat.le_of_ble_eq_true rfl, Nat.le_of_ble_eq_true rfl⟩ ⟨Nat.zero_le _, Nat.zero_le _⟩ dX11_judgement_75 ?_
      refine lv_icmp_le (tgt := 85) hx hb dX11_judgement_78 (by decide) (fun c9 => ?_) (fun c9 => ?_)
      · skip
        refine lv_iload_n hx hb dX11_judgement_85 rfl (lv_at hl 1 rfl) ?_
        refine lv_aload_n hx hb dX11_judgement_86 rfl (lv_at hl 3 rfl) ?_
        refine lv_iload_n hx hb dX11_judgement_87 rfl (lv_at hl 2 rfl) ?_
        refine lv_iconst (v := 1) hx hb dX11_judgement_88 (by decide) ?_
        refine k_X11_of X hS hH hk_r hq3 t_ml_VernierDrawersModel_90 hl.1 (Nat.le_of_ble_eq_true rfl) ⟨Nat.le_of_ble_eq_true rfl, Nat.le_of_ble_eq_true rfl⟩ ⟨Nat.zero_le _, Nat.zero_le _⟩ dX11_judgement_89 ?_
        refine lv_icmp_ge (tgt := 99) hx hb dX11_judgement_92 (by decide) (fun c10 => ?_) (fun c10 => ?_)
        · skip
          refine lv_iconst (v := 0) hx hb dX11_judgement_99 (by decide) ?_
          replace ey6 := Eq.symm ey6
          subst ey6
          exact E _ _ _ dX11_judgement_100 rfl (Eq.symm ((fX11_judgement.eq_1 _ _ _).trans ((if_pos c8).trans ((if_pos c9).trans ((if_pos c10).trans rfl)))))
        · skip
          refine lv_iconst (v := 2) hx hb dX11_judgement_95 (by decide) ?_
          refine lv_goto (tgt := 100) hx hb dX11_judgement_96 (by decide) ?_
          replace ey6 := Eq.symm ey6
          subst ey6
          exact E _ _ _ dX11_judgement_100 rfl (Eq.symm ((fX11_judgement.eq_1 _ _ _).trans ((if_pos c8).trans ((if_pos c9).trans ((if_neg c10).trans rfl)))))
      · skip
        refine lv_iconst (v := 1) hx hb dX11_judgement_81 (by decide) ?_
        refine lv_goto (tgt := 100) hx hb dX11_judgement_82 (by decide) ?_
        replace ey6 := Eq.symm ey6
        subst ey6
        exact E _ _ _ dX11_judgement_100 rfl (Eq.symm ((fX11_judgement.eq_1 _ _ _).trans ((if_pos c8).trans ((if_neg c9).trans rfl))))
    · have ho := ho c8
      refine lv_aload_n hx hb dX11_judgement_56 rfl (lv_at hl 3 rfl) ?_
      refine g_VernierDrawersModel_7 X hH hk_r dX11_judgement_57 ?_
      refine lv_sipush (v := 183) hx hb dX11_judgement_60 (by decide) ?_
      have hq11 := ho
      refine ald_M X hH (Or.inl kd_462) hq11 dX11_judgement_63 ?_
      refine lv_iconst (v := 2) hx hb dX11_judgement_64 (by decide) ?_
      refine lv_irem hx hb dX11_judgement_65 (by decide) ?_
      refine lv_if_ne (tgt := 71) hx hb dX11_judgement_66 (by decide) (fun c12 => ?_) (fun c12 => ?_)
      · skip
        refine lv_iload_n hx hb dX11_judgement_71 rfl (lv_at hl 1 rfl) ?_
        refine lv_aload_n hx hb dX11_judgement_72 rfl (lv_at hl 3 rfl) ?_
        refine lv_iload_n hx hb dX11_judgement_73 rfl (lv_at hl 2 rfl) ?_
        refine lv_iconst (v := 2) hx hb dX11_judgement_74 (by decide) ?_
        refine k_X11_of X hS hH hk_r hq4 t_ml_VernierDrawersModel_90 hl.1 (Nat.le_of_ble_eq_true rfl) ⟨Nat.le_of_ble_eq_true rfl, Nat.le_of_ble_eq_true rfl⟩ ⟨Nat.zero_le _, Nat.zero_le _⟩ dX11_judgement_75 ?_
        refine lv_icmp_le (tgt := 85) hx hb dX11_judgement_78 (by decide) (fun c13 => ?_) (fun c13 => ?_)
        · skip
          refine lv_iload_n hx hb dX11_judgement_85 rfl (lv_at hl 1 rfl) ?_
          refine lv_aload_n hx hb dX11_judgement_86 rfl (lv_at hl 3 rfl) ?_
          refine lv_iload_n hx hb dX11_judgement_87 rfl (lv_at hl 2 rfl) ?_
          refine lv_iconst (v := 1) hx hb dX11_judgement_88 (by decide) ?_
          refine k_X11_of X hS hH hk_r hq3 t_ml_VernierDrawersModel_90 hl.1 (Nat.le_of_ble_eq_true rfl) ⟨Nat.le_of_ble_eq_true rfl, Nat.le_of_ble_eq_true rfl⟩ ⟨Nat.zero_le _, Nat.zero_le _⟩ dX11_judgement_89 ?_
          refine lv_icmp_ge (tgt := 99) hx hb dX11_judgement_92 (by decide) (fun c14 => ?_) (fun c14 => ?_)
          · skip
            refine lv_iconst (v := 0) hx hb dX11_judgement_99 (by decide) ?_
            replace ey6 := Eq.symm ey6
            subst ey6
            exact E _ _ _ dX11_judgement_100 rfl (Eq.symm ((fX11_judgement.eq_1 _ _ _).trans ((if_neg c8).trans ((if_neg c12).trans ((if_pos c13).trans ((if_pos c14).trans rfl))))))
          · skip
            refine lv_iconst (v := 2) hx hb dX11_judgement_95 (by decide) ?_
            refine lv_goto (tgt := 100) hx hb dX11_judgement_96 (by decide) ?_
            replace ey6 := Eq.symm ey6
            subst ey6
            exact E _ _ _ dX11_judgement_100 rfl (Eq.symm ((fX11_judgement.eq_1 _ _ _).trans ((if_neg c8).trans ((if_neg c12).trans ((if_pos c13).trans ((if_neg c14).trans rfl))))))
        · skip
          refine lv_iconst (v := 1) hx hb dX11_judgement_81 (by decide) ?_
          refine lv_goto (tgt := 100) hx hb dX11_judgement_82 (by decide) ?_
          replace ey6 := Eq.symm ey6
          subst ey6
          exact E _ _ _ dX11_judgement_100 rfl (Eq.symm ((fX11_judgement.eq_1 _ _ _).trans ((if_neg c8).trans ((if_neg c12).trans ((if_neg c13).trans rfl)))))
      · skip
        refine lv_iconst (v := 3) hx hb dX11_judgement_69 (by decide) ?_
        replace ey6 := Eq.symm ey6
        subst ey6
        exact E _ _ _ dX11_judgement_70 rfl (Eq.symm ((fX11_judgement.eq_1 _ _ _).trans ((if_neg c8).trans ((if_pos c12).trans rfl))))
  refine lv_icmp_ge (tgt := 48) hx hb dX11_judgement_41 (by decide) (fun c7 => ?_) (fun c7 => ?_)
  · skip
    refine lv_iconst (v := 0) hx hb dX11_judgement_48 (by decide) ?_
    exact K7 _ _ (Eq.symm ((if_pos c7).trans rfl)) (lv_sub hl [0, 1, 2] rfl)
  · skip
    refine lv_iconst (v := 1) hx hb dX11_judgement_44 (by decide) ?_
    refine lv_goto (tgt := 49) hx hb dX11_judgement_45 (by decide) ?_
    exact K7 _ _ (Eq.symm ((if_neg c7).trans rfl)) (lv_sub hl [0, 1, 2] rfl)
theorem k_X11_judgement {p : Program} {l : Launch} {e : Env} {R : Room} {s : State} {m : MethodId} {args : Array Value} {below : List Frame} {meth : Method} {c : Code} {H : Heap} {locs : List Loc} {cells slots : Nat} {Q : State → Prop} {cc : ByteArray} {pc nL : Nat} {ls : Array Slot} {rest : List Value} {G : gG} {own : String} {da : Nat → Nat} {v : vSt} {x : gX} (X : CX G p s m args c cc nL own) (hS : va_S (gA G) s.heap H locs) (hH : Hp G da v x H) {r : Nat} (hk_r : kd r = 11) {p1 : Int32} (ho : oX11_judgement r p1 v) {idx : Nat} (hml : Cond.methodLink own idx yX11_judgement ∈ TT) (hls : ls.size = nL) (hsum : (rest.map fun v => v.category).sum ≤ 8) (hR : rmX11_judgement.frames + 1 ≤ R.frames ∧ 8 + (5 + 11) + rmX11_judgement.locals ≤ R.locals) (hcs : cells ≤ R.cells ∧ slots ≤ R.slots) (hdg : decode cc pc = .ok (.invokevirtual idx, 3)) (kk : W p l e R s m args below meth c H locs cells slots Q (F0 m (pc + 3) ls (.int (fX11_judgement r p1 v) :: rest))) : W p l e R s m args below meth c H locs cells slots Q (F0 m pc ls (.int p1 :: .ref (ga G r) :: rest)) := c_qi (runV (k := 1) X.1 X.2.1 X.2.2.1 X.2.2.2.1 X.2.2.2.2.1 (mX11_judgement l G da v x r hk_r p1 ho) pW_bl hml t_im_X11_judgement t_sel_X11_judgement t_ini_VernierDrawersModel t_code_X11_judgement ⟨rfl, by decide, by decide, by decide +kernel⟩ rfl rfl hR hcs (recvW X hH (by rw [hk_r]; decide) (by rw [hk_r]; decide) (ce_11 hk_r) rfl) (preW X hS hH) rfl hls rfl hsum hdg) (fun _ h => h ▸ kk)
