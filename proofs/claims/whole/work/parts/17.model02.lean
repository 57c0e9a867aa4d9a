/-! 17.model -/
def fX11_apart (r : Nat) (p1 : Int32) (v : vSt) : Int32 := if ((fX11_tool r p1 0 v) : Int32) = 3 then 50 else 100
def oX11_apart (r : Nat) (p1 : Int32) (v : vSt) : Prop := oX11_tool r p1 0 v
abbrev rmX11_apart : Room := { frames := 1, cells := 0, slots := 0, locals := 22 }
theorem dX11_apart_0 : decode cX11_apart 0 = .ok (.aload_n 0, 1) := by decide +kernel
theorem dX11_apart_1 : decode cX11_apart 1 = .ok (.iload_n 1, 1) := by decide +kernel
theorem dX11_apart_2 : decode cX11_apart 2 = .ok (.iconst 0, 1) := by decide +kernel
theorem dX11_apart_3 : decode cX11_apart 3 = .ok (.invokevirtual 54, 3) := by decide +kernel
theorem dX11_apart_6 : decode cX11_apart 6 = .ok (.iconst 3, 1) := by decide +kernel
theorem dX11_apart_7 : decode cX11_apart 7 = .ok (.if_icmp .ne 8, 3) := by decide +kernel
theorem dX11_apart_10 : decode cX11_apart 10 = .ok (.bipush 50, 2) := by decide +kernel
theorem dX11_apart_12 : decode cX11_apart 12 = .ok (.goto 5, 3) := by decide +kernel
theorem dX11_apart_15 : decode cX11_apart 15 = .ok (.bipush 100, 2) := by decide +kernel
theorem dX11_apart_17 : decode cX11_apart 17 = .ok (.ireturn, 1) := by decide +kernel
set_option maxHeartbeats 8000000 in
set_option maxRecDepth 100000 in
theorem mX11_apart (l : Launch) (G : gG) (da : Nat → Nat) (v : vSt) (x : gX) (r : Nat) (hk_r : kd r = 11) (p1 : Int32) (ho : oX11_apart r p1 v) : QI l yX11_apart cX11_apart 2 (some .int) rmX11_apart [.ref (ga G r), .int p1] (pW G da v x) (fX11_apart r p1 v) := by
  refine gofQ (own := RX11) (by decide) rfl (Nat.le_of_ble_eq_true rfl) (fun p e s m args below meth c ls Q X hH hl E => ?_)
  have hx := X.1
  have hb := X.2.1
  have hown := X.2.2.2.1
  have hts := X.2.2.2.2.1
  have hS : va_S (gA G) s.heap s.heap [] := va_S.rf
  unfold oX11_apart at ho
  have hl : lv_has ls 2 [(0, .ref (ga G r)), (1, .int p1)] := hl
  refine lv_aload_n hx hb dX11_apart_0 rfl (lv_at hl 0 rfl) ?_
  refine lv_iload_n hx hb dX11_apart_1 rfl (lv_at hl 1 rfl) ?_
  refine lv_iconst (v := 0) hx hb dX11_apart_2 (by decide) ?_
  have hq1 := ho
  refine k_X11_tool X hS hH hk_r hq1 t_ml_VernierDrawersModel_54 hl.1 (Nat.le_of_ble_eq_true rfl) ⟨Nat.le_of_ble_eq_true rfl, Nat.le_of_ble_eq_true rfl⟩ ⟨Nat.zero_le _, Nat.zero_le _⟩ dX11_apart_3 ?_
  refine lv_iconst (v := 3) hx hb dX11_apart_6 (by decide) ?_
  refine lv_icmp_ne (tgt := 15) hx hb dX11_apart_7 (by decide) (fun c2 => ?_) (fun c2 => ?_)
  · skip
    refine lv_bipush (v := 100) hx hb dX11_apart_15 (by decide) ?_
    exact E _ _ _ dX11_apart_17 rfl (Eq.symm ((fX11_apart.eq_1 _ _ _).trans ((if_neg c2).trans rfl)))
  · skip
    refine lv_bipush (v := 50) hx hb dX11_apart_10 (by decide) ?_
    refine lv_goto (tgt := 17) hx hb dX11_apart_12 (by decide) ?_
    exact E _ _ _ dX11_apart_17 rfl (Eq.symm ((fX11_apart.eq_1 _ _ _).trans ((if_pos c2).trans rfl)))
theorem k_X11_apart {p : Program} {l : Launch} {e : Env} {R : Room} {s : State} {m : MethodId} {args : Array Value} {below : List Frame} {meth : Method} {c : Code} {H : Heap} {locs : List Loc} {cells slots : Nat} {Q : State → Prop} {cc : ByteArray} {pc nL : Nat} {ls : Array Slot} {rest : List Value} {G : gG} {own : String} {da : Nat → Nat} {v : vSt} {x : gX} (X : CX G p s m args c cc nL own) (hS : va_S (gA G) s.heap H locs) (hH : Hp G da v x H) {r : Nat} (hk_r : kd r = 11) {p1 : Int32} (ho : oX11_apart r p1 v) {idx : Nat} (hml : Cond.methodLink own idx yX11_apart ∈ TT) (hls : ls.size = nL) (hsum : (rest.map fun v => v.category).sum ≤ 8) (hR : rmX11_apart.frames + 1 ≤ R.frames ∧ 8 + (2 + 11) + rmX11_apart.locals ≤ R.locals) (hcs : cells ≤ R.cells ∧ slots ≤ R.slots) (hdg : decode cc pc = .ok (.invokevirtual idx, 3)) (kk : W p l e R s m args below meth c H locs cells slots Q (F0 m (pc + 3) ls (.int (fX11_apart r p1 v) :: rest))) : W p l e R s m args below meth c H locs cells slots Q (F0 m pc ls (.int p1 :: .ref (ga G r) :: rest)) := c_qi (runV (k := 1) X.1 X.2.1 X.2.2.1 X.2.2.2.1 X.2.2.2.2.1 (mX11_apart l G da v x r hk_r p1 ho) pW_bl hml t_im_X11_apart t_sel_X11_apart t_ini_VernierDrawersModel t_code_X11_apart ⟨rfl, by decide, by decide, by decide +kernel⟩ rfl rfl hR hcs (recvW X hH (by rw [hk_r]; decide) (by rw [hk_r]; decide) (ce_11 hk_r) rfl) (preW X hS hH) rfl hls rfl hsum hdg) (fun _ h => h ▸ kk)
def fX11_reading (r : Nat) (p1 : Int32) (p2 : Int32) (p3 : Int32) (v : vSt) : Int32 := let y5 : Int32 := (((p3 + (fX11_stretch r p2 p3 v)) + (fX11_tool r p1 1 v)) - (fX11_stretch r 0 p3 v)) - (fX11_tool r p1 2 v); let y7 : Int32 := (if (3 : Int32) ≤ (fX11_tool r p1 0 v) then 2500 else 15000 : Int32); if ((fX11_in y5 0 y7) : Int32) = 0 then ((-1)) else (((y5 + ((fX11_step r p1 v) / 2)) / (fX11_step r p1 v)) * (fX11_step r p1 v))
def oX11_reading (r : Nat) (p1 : Int32) (p2 : Int32) (p3 : Int32) (v : vSt) : Prop := (oX11_stretch r p2 p3 v) ∧ ((oX11_tool r p1 1 v) ∧ ((oX11_stretch r 0 p3 v) ∧ ((oX11_tool r p1 2 v) ∧ (∀ y5 : Int32, y5 = ((((p3 + (fX11_stretch r p2 p3 v)) + (fX11_tool r p1 1 v)) - (fX11_stretch r 0 p3 v)) - (fX11_tool r p1 2 v)) → ((oX11_tool r p1 0 v) ∧ ((∀ (y7 : Int32), y7 = ((if (3 : Int32) ≤ (fX11_tool r p1 0 v) then 2500 else 15000 : Int32) : Int32) → ((oX11_step r p1 v) ∧ (¬ (((fX11_in y5 0 y7) : Int32) = 0) → (¬ (fX11_step r p1 v : Int32) = 0))))))))))
abbrev rmX11_reading : Room := { frames := 2, cells := 0, slots := 0, locals := 44 }
theorem dX11_reading_0 : decode cX11_reading 0 = .ok (.iload_n 3, 1) := by decide +kernel
theorem dX11_reading_1 : decode cX11_reading 1 = .ok (.aload_n 0, 1) := by decide +kernel
theorem dX11_reading_2 : decode cX11_reading 2 = .ok (.iload_n 2, 1) := by decide +kernel
theorem dX11_reading_3 : decode cX11_reading 3 = .ok (.iload_n 3, 1) := by decide +kernel
theorem dX11_reading_4 : decode cX11_reading 4 = .ok (.invokevirtual 58, 3) := by decide +kernel
theorem dX11_reading_7 : decode cX11_reading 7 = .ok (.iadd, 1) := by decide +kernel
theorem dX11_reading_8 : decode cX11_reading 8 = .ok (.aload_n 0, 1) := by decide +kernel
theorem dX11_reading_9 : decode cX11_reading 9 = .ok (.iload_n 1, 1) := by decide +kernel
theorem dX11_reading_10 : decode cX11_reading 10 = .ok (.iconst 1, 1) := by decide +kernel
theorem dX11_reading_11 : decode cX11_reading 11 = .ok (.invokevirtual 54, 3) := by decide +kernel
theorem dX11_reading_14 : decode cX11_reading 14 = .ok (.iadd, 1) := by decide +kernel
theorem dX11_reading_15 : decode cX11_reading 15 = .ok (.aload_n 0, 1) := by decide +kernel
theorem dX11_reading_16 : decode cX11_reading 16 = .ok (.iconst 0, 1) := by decide +kernel
theorem dX11_reading_17 : decode cX11_reading 17 = .ok (.iload_n 3, 1) := by decide +kernel
theorem dX11_reading_18 : decode cX11_reading 18 = .ok (.invokevirtual 58, 3) := by decide +kernel
theorem dX11_reading_21 : decode cX11_reading 21 = .ok (.isub, 1) := by decide +kernel
theorem dX11_reading_22 : decode cX11_reading 22 = .ok (.aload_n 0, 1) := by decide +kernel
theorem dX11_reading_23 : decode cX11_reading 23 = .ok (.iload_n 1, 1) := by decide +kernel
theorem dX11_reading_24 : decode cX11_reading 24 = .ok (.iconst 2, 1) := by decide +kernel
theorem dX11_reading_25 : decode cX11_reading 25 = .ok (.invokevirtual 54, 3) := by decide +kernel
theorem dX11_reading_28 : decode cX11_reading 28 = .ok (.isub, 1) := by decide +kernel
theorem dX11_reading_29 : decode cX11_reading 29 = .ok (.istore 4, 2) := by decide +kernel
theorem dX11_reading_31 : decode cX11_reading 31 = .ok (.aload_n 0, 1) := by decide +kernel
theorem dX11_reading_32 : decode cX11_reading 32 = .ok (.iload_n 1, 1) := by decide +kernel
theorem dX11_reading_33 : decode cX11_reading 33 = .ok (.iconst 0, 1) := by decide +kernel
theorem dX11_reading_34 : decode cX11_reading 34 = .ok (.invokevirtual 54, 3) := by decide +kernel
theorem dX11_reading_37 : decode cX11_reading 37 = .ok (.iconst 3, 1) := by decide +kernel
theorem dX11_reading_38 : decode cX11_reading 38 = .ok (.if_icmp .ge 9, 3) := by decide +kernel
theorem dX11_reading_41 : decode cX11_reading 41 = .ok (.sipush 15000, 3) := by decide +kernel
theorem dX11_reading_44 : decode cX11_reading 44 = .ok (.goto 6, 3) := by decide +kernel
theorem dX11_reading_47 : decode cX11_reading 47 = .ok (.sipush 2500, 3) := by decide +kernel
theorem dX11_reading_50 : decode cX11_reading 50 = .ok (.istore 5, 2) := by decide +kernel
theorem dX11_reading_52 : decode cX11_reading 52 = .ok (.aload_n 0, 1) := by decide +kernel
theorem dX11_reading_53 : decode cX11_reading 53 = .ok (.iload_n 1, 1) := by decide +kernel
theorem dX11_reading_54 : decode cX11_reading 54 = .ok (.invokevirtual 61, 3) := by decide +kernel
theorem dX11_reading_57 : decode cX11_reading 57 = .ok (.istore 6, 2) := by decide +kernel
theorem dX11_reading_59 : decode cX11_reading 59 = .ok (.iload 4, 2) := by decide +kernel
theorem dX11_reading_61 : decode cX11_reading 61 = .ok (.iconst 0, 1) := by decide +kernel
theorem dX11_reading_62 : decode cX11_reading 62 = .ok (.iload 5, 2) := by decide +kernel
theorem dX11_reading_64 : decode cX11_reading 64 = .ok (.invokestatic 49, 3) := by decide +kernel
theorem dX11_reading_67 : decode cX11_reading 67 = .ok (.ifCond .eq 19, 3) := by decide +kernel
theorem dX11_reading_70 : decode cX11_reading 70 = .ok (.iload 4, 2) := by decide +kernel
theorem dX11_reading_72 : decode cX11_reading 72 = .ok (.iload 6, 2) := by decide +kernel
theorem dX11_reading_74 : decode cX11_reading 74 = .ok (.iconst 2, 1) := by decide +kernel
theorem dX11_reading_75 : decode cX11_reading 75 = .ok (.idiv, 1) := by decide +kernel
theorem dX11_reading_76 : decode cX11_reading 76 = .ok (.iadd, 1) := by decide +kernel
theorem dX11_reading_77 : decode cX11_reading 77 = .ok (.iload 6, 2) := by decide +kernel
theorem dX11_reading_79 : decode cX11_reading 79 = .ok (.idiv, 1) := by decide +kernel
theorem dX11_reading_80 : decode cX11_reading 80 = .ok (.iload 6, 2) := by decide +kernel
theorem dX11_reading_82 : decode cX11_reading 82 = .ok (.imul, 1) := by decide +kernel
theorem dX11_reading_83 : decode cX11_reading 83 = .ok (.goto 4, 3) := by decide +kernel
theorem dX11_reading_86 : decode cX11_reading 86 = .ok (.iconst (-1), 1) := by decide +kernel
theorem dX11_reading_87 : decode cX11_reading 87 = .ok (.ireturn, 1) := by decide +kernel
set_option maxHeartbeats 8000000 in
set_option maxRecDepth 100000 in
theorem mX11_reading (l : Launch) (G : gG) (da : Nat → Nat) (v : vSt) (x : gX) (r : Nat) (hk_r : kd r = 11) (p1 : Int32) (p2 : Int32) (p3 : Int32) (ho : oX11_reading r p1 p2 p3 v) : QI l yX11_reading cX11_reading 7 (some .int) rmX11_reading [.ref (ga G r), .int p1, .int p2, .int p3] (pW G da v x) (fX11_reading r p1 p2 p3 v) := by
  refine gofQ (own := RX11) (by decide) rfl (Nat.le_of_ble_eq_true rfl) (fun p e s m args below meth c ls Q X hH hl E => ?_)
  have hx := X.1
  have hb := X.2.1
  have hown := X.2.2.2.1
  have hts := X.2.2.2.2.1
  have hS : va_S (gA G) s.heap s.heap [] := va_S.rf
  unfold oX11_reading at ho
  have hl : lv_has ls 7 [(0, .ref (ga G r)), (1, .int p1), (2, .int p2), (3, .int p3)] := hl
  refine lv_iload_n hx hb dX11_reading_0 rfl (lv_at hl 3 rfl) ?_
  refine lv_aload_n hx hb dX11_reading_1 rfl (lv_at hl 0 rfl) ?_
  refine lv_iload_n hx hb dX11_reading_2 rfl (lv_at hl 2 rfl) ?_
  refine lv_iload_n hx hb dX11_reading_3 rfl (lv_at hl 3 rfl) ?_
  have hq1 := ho.1
  have ho := ho.2
  refine k_X11_stretch X hS hH hk_r hq1 t_ml_VernierDrawersModel_58 hl.1 (Nat.le_of_ble_eq_true rfl) ⟨Nat.le_of_ble_eq_true rfl, Nat.le_of_ble_eq_true rfl⟩ ⟨Nat.zero_le _, Nat.zero_le _⟩ dX11_reading_4 ?_
  refine lv_iadd hx hb dX11_reading_7 ?_
  refine lv_aload_n hx hb dX11_reading_8 rfl (lv_at hl 0 rfl) ?_
  refine lv_iload_n hx hb dX11_reading_9 rfl (lv_at hl 1 rfl) ?_
  refine lv_iconst (v := 1) hx hb dX11_reading_10 (by decide) ?_
  have hq2 := ho.1
  have ho := ho.2
  refine k_X11_tool X hS hH hk_r hq2 t_ml_VernierDrawersModel_54 hl.1 (Nat.le_of_ble_eq_true rfl) ⟨Nat.le_of_ble_eq_true rfl, Nat.le_of_ble_eq_true rfl⟩ ⟨Nat.zero_le _, Nat.zero_le _⟩ dX11_reading_11 ?_
  refine lv_iadd hx hb dX11_reading_14 ?_
  refine lv_aload_n hx hb dX11_reading_15 rfl (lv_at hl 0 rfl) ?_
  refine lv_iconst (v := 0) hx hb dX11_reading_16 (by decide) ?_
  refine lv_iload_n hx hb dX11_reading_17 rfl (lv_at hl 3 rfl) ?_
  have hq3 := ho.1
  have ho := ho.2
  refine k_X11_stretch X hS hH hk_r hq3 t_ml_VernierDrawersModel_58 hl.1 (Nat.le_of_ble_eq_true rfl) ⟨Nat.le_of_ble_eq_true rfl, Nat.le_of_ble_eq_true rfl⟩ ⟨Nat.zero_le _, Nat.zero_le _⟩ dX11_reading_18 ?_
  refine lv_isub hx hb dX11_reading_21 ?_
  refine lv_aload_n hx hb dX11_reading_22 rfl (lv_at hl 0 rfl) ?_
  refine lv_iload_n hx hb dX11_reading_23 rfl (lv_at hl 1 rfl) ?_
  refine lv_iconst (v := 2) hx hb dX11_reading_24 (by decide) ?_
  have hq4 := ho.1
  have ho := ho.2
  refine k_X11_tool X hS hH hk_r hq4 t_ml_VernierDrawersModel_54 hl.1 (Nat.le_of_ble_eq_true rfl) ⟨Nat.le_of_ble_eq_true rfl, Nat.le_of_ble_eq_true rfl⟩ ⟨Nat.zero_le _, Nat.zero_le _⟩ dX11_reading_25 ?_
  refine lv_isub hx hb dX11_reading_28 ?_
  obtain ⟨y5, ey5⟩ : ∃ z : Int32, z = (((p3 + (fX11_stretch r p2 p3 v)) + (fX11_tool r p1 1 v)) - (fX11_stretch r 0 p3 v)) - (fX11_tool r p1 2 v) := ⟨_, rfl⟩
  rw [← ey5]
  have ho := ho y5 ey5
  refine lv_istore (lv' := [(4, .int y5), (0, .ref (ga G r)), (1, .int p1), (2, .int p2), (3, .int p3)]) hx hb dX11_reading_29 hl (by decide) rfl (fun ls hl => ?_)
  refine lv_aload_n hx hb dX11_reading_31 rfl (lv_at hl 1 rfl) ?_
  refine lv_iload_n hx hb dX11_reading_32 rfl (lv_at hl 2 rfl) ?_
  refine lv_iconst (v := 0) hx hb dX11_reading_33 (by decide) ?_
  have hq6 := ho.1
  have ho := ho.2
  refine k_X11_tool X hS hH hk_r hq6 t_ml_VernierDrawersModel_54 hl.1 (Nat.le_of_ble_eq_true rfl) ⟨Nat.le_of_ble_eq_true rfl, Nat.le_of_ble_eq_true rfl⟩ ⟨Nat.zero_le _, Nat.zero_le _⟩ dX11_reading_34 ?_
  refine lv_iconst (v := 3) hx hb dX11_reading_37 (by decide) ?_
  have K8 : ∀ (y7 : Int32) (ls : Array Slot), y7 = (if (3 : Int32) ≤ (fX11_tool r p1 0 v) then 2500 else 15000 : Int32) → lv_has ls 7 [(4, .int y5), (0, .ref (ga G r)), (1, .int p1)] → W p l e rmX11_reading s m args below meth c s.heap [] 0 0 Q (F0 m 50 ls [.int y7]) := by
    intro y7 ls ey7 hl
    have ho := ho y7 ey7
    refine lv_istore (lv' := [(5, .int y7), (4, .int y5), (0, .ref (ga G r)), (1, .int p1)]) hx hb dX11_reading_50 hl (by decide) rfl (fun ls hl => ?_)
    refine lv_aload_n hx hb dX11_reading_52 rfl (lv_at hl 2 rfl) ?_
    refine lv_iload_n hx hb dX11_reading_53 rfl (lv_at hl 3 rfl) ?_
    have hq9 := ho.1
    have ho := ho.2
    refine k_X11_step X hS hH hk_r hq9 t_ml_VernierDrawersModel_61 hl.1 (Nat.le_of_ble_eq_true rfl) ⟨Nat.le_of_ble_eq_true rfl, Nat.le_of_ble_eq_true rfl⟩ ⟨Nat.zero_le _, Nat.zero_le _⟩ dX11_reading_54 ?_
    refine lv_istore (lv' := [(6, .int (fX11_step r p1 v)), (5, .int y7), (4, .int y5), (0, .ref (ga G r)), (1, .int p1)]) hx hb dX11_reading_57 hl (by decide) rfl (fun ls hl => ?_)
    refine lv_iload hx hb dX11_reading_59 (lv_at hl 2 rfl) ?_
    refine lv_iconst (v := 0) hx hb dX11_reading_61 (by decide) ?_
    refine lv_iload hx hb dX11_reading_62 (lv_at hl 1 rfl) ?_
    refine k_X11_in X hS  t_ml_VernierDrawersModel_49 hl.1 (Nat.le_of_ble_eq_true rfl) ⟨Nat.le_of_ble_eq_true rfl, Nat.le_of_ble_eq_true rfl⟩ ⟨Nat.zero_le _, Nat.zero_le _⟩ dX11_reading_64 ?_
    refine lv_if_eq (tgt := 86) hx hb dX11_reading_67 (by decide) (fun c10 => ?_) (fun c10 => ?_)
    · skip
      refine lv_iconst (v := (-1)) hx hb dX11_reading_86 (by decide) ?_
      replace ey5 := Eq.symm ey5
      replace ey7 := Eq.symm ey7
      subst ey5 ey7
      exact E _ _ _ dX11_reading_87 rfl (Eq.symm ((fX11_reading.eq_1 _ _ _ _ _).trans ((if_pos c10).trans rfl)))
    · have ho := ho c10
      refine lv_iload hx hb dX11_reading_70 (lv_at hl 2 rfl) ?_
      refine lv_iload hx hb dX11_reading_72 (lv_at hl 0 rfl) ?_
      refine lv_iconst (v := 2) hx hb dX11_reading_74 (by decide) ?_
      refine lv_idiv hx hb dX11_reading_75 (by decide) ?_
      refine lv_iadd hx hb dX11_reading_76 ?_
      refine lv_iload hx hb dX11_reading_77 (lv_at hl 0 rfl) ?_
      have hq11 := ho
      refine lv_idiv hx hb dX11_reading_79 hq11 ?_
      refine lv_iload hx hb dX11_reading_80 (lv_at hl 0 rfl) ?_
      refine lv_imul hx hb dX11_reading_82 ?_
      refine lv_goto (tgt := 87) hx hb dX11_reading_83 (by decide) ?_
      replace ey5 := Eq.symm ey5
      replace ey7 := Eq.symm ey7
      subst ey5 ey7
      exact E _ _ _ dX11_reading_87 rfl (Eq.symm ((fX11_reading.eq_1 _ _ _ _ _).trans ((if_neg c10).trans rfl)))
  refine lv_icmp_ge (tgt := 47) hx hb dX11_reading_38 (by decide) (fun c8 => ?_) (fun c8 => ?_)
  · skip
    refine lv_sipush (v := 2500) hx hb dX11_reading_47 (by decide) ?_
    exact K8 _ _ (Eq.symm ((if_pos c8).trans rfl)) (lv_sub hl [0, 1, 2] rfl)
  · skip
    refine lv_sipush (v := 15000) hx hb dX11_reading_41 (by decide) ?_
    refine lv_goto (tgt := 50) hx hb dX11_reading_44 (by decide) ?_
    exact K8 _ _ (Eq.symm ((if_neg c8).trans rfl)) (lv_sub hl [0, 1, 2] rfl)
theorem k_X11_reading {p : Program} {l : Launch} {e : Env} {R : Room} {s : State} {m : MethodId} {args : Array Value} {below : List Frame} {meth : Method} {c : Code} {H : Heap} {locs : List Loc} {cells slots : Nat} {Q : State → Prop} {cc : ByteArray} {pc nL : Nat} {ls : Array Slot} {rest : List Value} {G : gG} {own : String} {da : Nat → Nat} {v : vSt} {x : gX} (X : CX G p s m args c cc nL own) (hS : va_S (gA G) s.heap H locs) (hH : Hp G da v x H) {r : Nat} (hk_r : kd r = 11) {p1 : Int32} {p2 : Int32} {p3 : Int32} (ho : oX11_reading r p1 p2 p3 v) {idx : Nat} (hml : Cond.methodLink own idx yX11_reading ∈ TT) (hls : ls.size = nL) (hsum : (rest.map fun v => v.category).sum ≤ 8) (hR : rmX11_reading.frames + 1 ≤ R.frames ∧ 8 + (7 + 11) + rmX11_reading.locals ≤ R.locals) (hcs : cells ≤ R.cells ∧ slots ≤ R.slots) (hdg : decode cc pc = .ok (.invokevirtual idx, 3)) (kk : W p l e R s m args below meth c H locs cells slots Q (F0 m (pc + 3) ls (.int (fX11_reading r p1 p2 p3 v) :: rest))) : W p l e R s m args below meth c H locs cells slots Q (F0 m pc ls (.int p3 :: .int p2 :: .int p1 :: .ref (ga G r) :: rest)) := c_qi (runV (k := 3) X.1 X.2.1 X.2.2.1 X.2.2.2.1 X.2.2.2.2.1 (mX11_reading l G da v x r hk_r p1 p2 p3 ho) pW_bl hml t_im_X11_reading t_sel_X11_reading t_ini_VernierDrawersModel t_code_X11_reading ⟨rfl, by decide, by decide, by decide +kernel⟩ rfl rfl hR hcs (recvW X hH (by rw [hk_r]; decide) (by rw [hk_r]; decide) (ce_11 hk_r) rfl) (preW X hS hH) rfl hls rfl hsum hdg) (fun _ h => h ▸ kk)
def fX11_uses (r : Nat) (p1 : Int32) (p2 : Int32) (v : vSt) : vSt := let v3 : vSt := fX11_sets r p1 5 ((fX11_tool r p1 5 v) + 1) v; let v6 : vSt := fX11_sets r p1 6 ((fX11_tool r p1 6 v3) + 1) v3; let v9 : vSt := fX11_sets r p1 4 (((fX11_tool r p1 4 v6) + 3) - p2) v6; if ((fX11_tool r p1 4 v9) : Int32) < 20 then v9 else (let v14 : vSt := fX11_sets r p1 2 (fX11_less 40 ((fX11_tool r p1 2 v9) + 1)) v9; let v17 : vSt := fX11_sets r p1 4 ((fX11_tool r p1 4 v14) - 20) v14; v17)
def oX11_uses (r : Nat) (p1 : Int32) (p2 : Int32) (v : vSt) : Prop := (oX11_tool r p1 5 v) ∧ ((oX11_sets r p1 5 ((fX11_tool r p1 5 v) + 1) v) ∧ (∀ v3 : vSt, v3 = (fX11_sets r p1 5 ((fX11_tool r p1 5 v) + 1) v) → ((oX11_tool r p1 6 v3) ∧ ((oX11_sets r p1 6 ((fX11_tool r p1 6 v3) + 1) v3) ∧ (∀ v6 : vSt, v6 = (fX11_sets r p1 6 ((fX11_tool r p1 6 v3) + 1) v3) → ((oX11_tool r p1 4 v6) ∧ ((oX11_sets r p1 4 (((fX11_tool r p1 4 v6) + 3) - p2) v6) ∧ (∀ v9 : vSt, v9 = (fX11_sets r p1 4 (((fX11_tool r p1 4 v6) + 3) - p2) v6) → ((oX11_tool r p1 4 v9) ∧ (¬ (((fX11_tool r p1 4 v9) : Int32) < 20) → ((oX11_tool r p1 2 v9) ∧ ((oX11_sets r p1 2 (fX11_less 40 ((fX11_tool r p1 2 v9) + 1)) v9) ∧ (∀ v14 : vSt, v14 = (fX11_sets r p1 2 (fX11_less 40 ((fX11_tool r p1 2 v9) + 1)) v9) → ((oX11_tool r p1 4 v14) ∧ (oX11_sets r p1 4 ((fX11_tool r p1 4 v14) - 20) v14)))))))))))))))
abbrev rmX11_uses : Room := { frames := 1, cells := 0, slots := 0, locals := 23 }
theorem dX11_uses_0 : decode cX11_uses 0 = .ok (.aload_n 0, 1) := by decide +kernel
theorem dX11_uses_1 : decode cX11_uses 1 = .ok (.iload_n 1, 1) := by decide +kernel
theorem dX11_uses_2 : decode cX11_uses 2 = .ok (.iconst 5, 1) := by decide +kernel
theorem dX11_uses_3 : decode cX11_uses 3 = .ok (.aload_n 0, 1) := by decide +kernel
theorem dX11_uses_4 : decode cX11_uses 4 = .ok (.iload_n 1, 1) := by decide +kernel
theorem dX11_uses_5 : decode cX11_uses 5 = .ok (.iconst 5, 1) := by decide +kernel
theorem dX11_uses_6 : decode cX11_uses 6 = .ok (.invokevirtual 54, 3) := by decide +kernel
theorem dX11_uses_9 : decode cX11_uses 9 = .ok (.iconst 1, 1) := by decide +kernel
theorem dX11_uses_10 : decode cX11_uses 10 = .ok (.iadd, 1) := by decide +kernel
theorem dX11_uses_11 : decode cX11_uses 11 = .ok (.invokevirtual 64, 3) := by decide +kernel
theorem dX11_uses_14 : decode cX11_uses 14 = .ok (.aload_n 0, 1) := by decide +kernel
theorem dX11_uses_15 : decode cX11_uses 15 = .ok (.iload_n 1, 1) := by decide +kernel
theorem dX11_uses_16 : decode cX11_uses 16 = .ok (.bipush 6, 2) := by decide +kernel
theorem dX11_uses_18 : decode cX11_uses 18 = .ok (.aload_n 0, 1) := by decide +kernel
theorem dX11_uses_19 : decode cX11_uses 19 = .ok (.iload_n 1, 1) := by decide +kernel
theorem dX11_uses_20 : decode cX11_uses 20 = .ok (.bipush 6, 2) := by decide +kernel
theorem dX11_uses_22 : decode cX11_uses 22 = .ok (.invokevirtual 54, 3) := by decide +kernel
theorem dX11_uses_25 : decode cX11_uses 25 = .ok (.iconst 1, 1) := by decide +kernel
theorem dX11_uses_26 : decode cX11_uses 26 = .ok (.iadd, 1) := by decide +kernel
theorem dX11_uses_27 : decode cX11_uses 27 = .ok (.invokevirtual 64, 3) := by decide +kernel
theorem dX11_uses_30 : decode cX11_uses 30 = .ok (.aload_n 0, 1) := by decide +kernel
theorem dX11_uses_31 : decode cX11_uses 31 = .ok (.iload_n 1, 1) := by decide +kernel
theorem dX11_uses_32 : decode cX11_uses 32 = .ok (.iconst 4, 1) := by decide +kernel
theorem dX11_uses_33 : decode cX11_uses 33 = .ok (.aload_n 0, 1) := by decide +kernel
theorem dX11_uses_34 : decode cX11_uses 34 = .ok (.iload_n 1, 1) := by decide +kernel
theorem dX11_uses_35 : decode cX11_uses 35 = .ok (.iconst 4, 1) := by decide +kernel
theorem dX11_uses_36 : decode cX11_uses 36 = .ok (.invokevirtual 54, 3) := by decide +kernel
theorem dX11_uses_39 : decode cX11_uses 39 = .ok (.iconst 3, 1) := by decide +kernel
theorem dX11_uses_40 : decode cX11_uses 40 = .ok (.iadd, 1) := by decide +kernel
theorem dX11_uses_41 : decode cX11_uses 41 = .ok (.iload_n 2, 1) := by decide +kernel
theorem dX11_uses_42 : decode cX11_uses 42 = .ok (.isub, 1) := by decide +kernel
theorem dX11_uses_43 : decode cX11_uses 43 = .ok (.invokevirtual 64, 3) := by decide +kernel
theorem dX11_uses_46 : decode cX11_uses 46 = .ok (.aload_n 0, 1) := by decide +kernel
theorem dX11_uses_47 : decode cX11_uses 47 = .ok (.iload_n 1, 1) := by decide +kernel
theorem dX11_uses_48 : decode cX11_uses 48 = .ok (.iconst 4, 1) := by decide +kernel
theorem dX11_uses_49 : decode cX11_uses 49 = .ok (.invokevirtual 54, 3) := by decide +kernel
theorem dX11_uses_52 : decode cX11_uses 52 = .ok (.bipush 20, 2) := by decide +kernel
theorem dX11_uses_54 : decode cX11_uses 54 = .ok (.if_icmp .lt 37, 3) := by decide +kernel
theorem dX11_uses_57 : decode cX11_uses 57 = .ok (.aload_n 0, 1) := by decide +kernel
theorem dX11_uses_58 : decode cX11_uses 58 = .ok (.iload_n 1, 1) := by decide +kernel
theorem dX11_uses_59 : decode cX11_uses 59 = .ok (.iconst 2, 1) := by decide +kernel
theorem dX11_uses_60 : decode cX11_uses 60 = .ok (.bipush 40, 2) := by decide +kernel
theorem dX11_uses_62 : decode cX11_uses 62 = .ok (.aload_n 0, 1) := by decide +kernel
theorem dX11_uses_63 : decode cX11_uses 63 = .ok (.iload_n 1, 1) := by decide +kernel
theorem dX11_uses_64 : decode cX11_uses 64 = .ok (.iconst 2, 1) := by decide +kernel
theorem dX11_uses_65 : decode cX11_uses 65 = .ok (.invokevirtual 54, 3) := by decide +kernel
theorem dX11_uses_68 : decode cX11_uses 68 = .ok (.iconst 1, 1) := by decide +kernel
theorem dX11_uses_69 : decode cX11_uses 69 = .ok (.iadd, 1) := by decide +kernel
theorem dX11_uses_70 : decode cX11_uses 70 = .ok (.invokestatic 68, 3) := by decide +kernel
theorem dX11_uses_73 : decode cX11_uses 73 = .ok (.invokevirtual 64, 3) := by decide +kernel
theorem dX11_uses_76 : decode cX11_uses 76 = .ok (.aload_n 0, 1) := by decide +kernel
theorem dX11_uses_77 : decode cX11_uses 77 = .ok (.iload_n 1, 1) := by decide +kernel
theorem dX11_uses_78 : decode cX11_uses 78 = .ok (.iconst 4, 1) := by decide +kernel
theorem dX11_uses_79 : decode cX11_uses 79 = .ok (.aload_n 0, 1) := by decide +kernel
theorem dX11_uses_80 : decode cX11_uses 80 = .ok (.iload_n 1, 1) := by decide +kernel
theorem dX11_uses_81 : decode cX11_uses 81 = .ok (.iconst 4, 1) := by decide +kernel
theorem dX11_uses_82 : decode cX11_uses 82 = .ok (.invokevirtual 54, 3) := by decide +kernel
theorem dX11_uses_85 : decode cX11_uses 85 = .ok (.bipush 20, 2) := by decide +kernel
theorem dX11_uses_87 : decode cX11_uses 87 = .ok (.isub, 1) := by decide +kernel
theorem dX11_uses_88 : decode cX11_uses 88 = .ok (.invokevirtual 64, 3) := by decide +kernel
theorem dX11_uses_91 : decode cX11_uses 91 = .ok (.return_, 1) := by decide +kernel
set_option maxHeartbeats 8000000 in
set_option maxRecDepth 100000 in
theorem mX11_uses (l : Launch) (G : gG) (da : Nat → Nat) (v : vSt) (x : gX) (r : Nat) (hk_r : kd r = 11) (p1 : Int32) (p2 : Int32) (ho : oX11_uses r p1 p2 v) : MV l yX11_uses cX11_uses 3 none rmX11_uses [.ref (ga G r), .int p1, .int p2] G da v x 0 0 (fX11_uses r p1 p2 v) x := by
  refine gofMV (own := RX11) (by decide) rfl (Nat.le_of_ble_eq_true rfl) (fun p e s m args below meth c ls Q X hH hl E => ?_)
  have hx := X.1
  have hb := X.2.1
  have hown := X.2.2.2.1
  have hts := X.2.2.2.2.1
  have hS : va_S (gA G) s.heap s.heap [] := va_S.rf
  unfold oX11_uses at ho
  have hl : lv_has ls 3 [(0, .ref (ga G r)), (1, .int p1), (2, .int p2)] := hl
  refine lv_aload_n hx hb dX11_uses_0 rfl (lv_at hl 0 rfl) ?_
  refine lv_iload_n hx hb dX11_uses_1 rfl (lv_at hl 1 rfl) ?_
  refine lv_iconst (v := 5) hx hb dX11_uses_2 (by decide) ?_
  refine lv_aload_n hx hb dX11_uses_3 rfl (lv_at hl 0 rfl) ?_
  refine lv_iload_n hx hb dX11_uses_4 rfl (lv_at hl 1 rfl) ?_
  refine lv_iconst (v := 5) hx hb dX11_uses_5 (by decide) ?_
  have hq1 := ho.1
  have ho := ho.2
  refine k_X11_tool X hS hH hk_r hq1 t_ml_VernierDrawersModel_54 hl.1 (Nat.le_of_ble_eq_true rfl) ⟨Nat.le_of_ble_eq_true rfl, Nat.le_of_ble_eq_true rfl⟩ ⟨Nat.zero_le _, Nat.zero_le _⟩ dX11_uses_6 ?_
  refine lv_iconst (v := 1) hx hb dX11_uses_9 (by decide) ?_
  refine lv_iadd hx hb dX11_uses_10 ?_
  have hq2 := ho.1
  have ho := ho.2
  refine k_X11_sets X hS hH hk_r hq2 t_ml_VernierDrawersModel_64 hl.1 (Nat.le_of_ble_eq_true rfl) ⟨Nat.le_of_ble_eq_true rfl, Nat.le_of_ble_eq_true rfl⟩ ⟨Nat.zero_le _, Nat.zero_le _⟩ dX11_uses_11 (fun da H locs v3 ev3 hH hS => ?_)
  have ho := ho v3 ev3
  refine lv_aload_n hx hb dX11_uses_14 rfl (lv_at hl 0 rfl) ?_
  refine lv_iload_n hx hb dX11_uses_15 rfl (lv_at hl 1 rfl) ?_
  refine lv_bipush (v := 6) hx hb dX11_uses_16 (by decide) ?_
  refine lv_aload_n hx hb dX11_uses_18 rfl (lv_at hl 0 rfl) ?_
  refine lv_iload_n hx hb dX11_uses_19 rfl (lv_at hl 1 rfl) ?_
  refine lv_bipush (v := 6) hx hb dX11_uses_20 (by decide) ?_
  have hq4 := ho.1
  have ho := ho.2
  refine k_X11_tool X hS hH hk_r hq4 t_ml_VernierDrawersModel_54 hl.1 (Nat.le_of_ble_eq_true rfl) ⟨Nat.le_of_ble_eq_true rfl, Nat.le_of_ble_eq_true rfl⟩ ⟨Nat.zero_le _, Nat.zero_le _⟩ dX11_uses_22 ?_
  refine lv_iconst (v := 1) hx hb dX11_uses_25 (by decide) ?_
  refine lv_iadd hx hb dX11_uses_26 ?_
  have hq5 := ho.1
  have ho := ho.2
  refine k_X11_sets X hS hH hk_r hq5 t_ml_VernierDrawersModel_64 hl.1 (Nat.le_of_ble_eq_true rfl) ⟨Nat.le_of_ble_eq_true rfl, Nat.le_of_ble_eq_true rfl⟩ ⟨Nat.zero_le _, Nat.zero_le _⟩ dX11_uses_27 (fun da H locs v6 ev6 hH hS => ?_)
  have ho := ho v6 ev6
  refine lv_aload_n hx hb dX11_uses_30 rfl (lv_at hl 0 rfl) ?_
  refine lv_iload_n hx hb dX11_uses_31 rfl (lv_at hl 1 rfl) ?_
  refine lv_iconst (v := 4) hx hb dX11_uses_32 (by decide) ?_
  refine lv_aload_n hx hb dX11_uses_33 rfl (lv_at hl 0 rfl) ?_
  refine lv_iload_n hx hb dX11_uses_34 rfl (lv_at hl 1 rfl) ?_
  refine lv_iconst (v := 4) hx hb dX11_uses_35 (by decide) ?_
  have hq7 := ho.1
  have ho := ho.2
  refine k_X11_tool X hS hH hk_r hq7 t_ml_VernierDrawersModel_54 hl.1 (Nat.le_of_ble_eq_true rfl) ⟨Nat.le_of_ble_eq_true rfl, Nat.le_of_ble_eq_true rfl⟩ ⟨Nat.zero_le _, Nat.zero_le _⟩ dX11_uses_36 ?_
  refine lv_iconst (v := 3) hx hb dX11_uses_39 (by decide) ?_
  refine lv_iadd hx hb dX11_uses_40 ?_
  refine lv_iload_n hx hb dX11_uses_41 rfl (lv_at hl 2 rfl) ?_
  refine lv_isub hx hb dX11_uses_42 ?_
  have hq8 := ho.1
  have ho := ho.2
  refine k_X11_sets X hS hH hk_r hq8 t_ml_VernierDrawersModel_64 hl.1 (Nat.le_of_ble_eq_true rfl) ⟨Nat.le_of_ble_eq_true rfl, Nat.le_of_ble_eq_true rfl⟩ ⟨Nat.zero_le _, Nat.zero_le _⟩ dX11_uses_43 (fun da H locs v9 ev9 hH hS => ?_)
  have ho := ho v9 ev9
  refine lv_aload_n hx hb dX11_uses_46 rfl (lv_at hl 0 rfl) ?_
  refine lv_iload_n hx hb dX11_uses_47 rfl (lv_at hl 1 rfl) ?_
  refine lv_iconst (v := 4) hx hb dX11_uses_48 (by decide) ?_
  have hq10 := ho.1
  have ho := ho.2
  refine k_X11_tool X hS hH hk_r hq10 t_ml_VernierDrawersModel_54 hl.1 (Nat.le_of_ble_eq_true rfl) ⟨Nat.le_of_ble_eq_true rfl, Nat.le_of_ble_eq_true rfl⟩ ⟨Nat.zero_le _, Nat.zero_le _⟩ dX11_uses_49 ?_
  refine lv_bipush (v := 20) hx hb dX11_uses_52 (by decide) ?_
  refine lv_icmp_lt (tgt := 91) hx hb dX11_uses_54 (by decide) (fun c11 => ?_) (fun c11 => ?_)
  · skip
    replace ev3 := Eq.symm ev3
    replace ev6 := Eq.symm ev6
    replace ev9 := Eq.symm ev9
    subst ev3 ev6 ev9
    exact E _ _ _ _ _ _ _ _ dX11_uses_91 (Eq.symm ((fX11_uses.eq_1 _ _ _ _).trans ((if_pos c11).trans rfl))) hH hS (Nat.zero_le _) (Nat.zero_le _)
  · have ho := ho c11
    refine lv_aload_n hx hb dX11_uses_57 rfl (lv_at hl 0 rfl) ?_
    refine lv_iload_n hx hb dX11_uses_58 rfl (lv_at hl 1 rfl) ?_
    refine lv_iconst (v := 2) hx hb dX11_uses_59 (by decide) ?_
    refine lv_bipush (v := 40) hx hb dX11_uses_60 (by decide) ?_
    refine lv_aload_n hx hb dX11_uses_62 rfl (lv_at hl 0 rfl) ?_
    refine lv_iload_n hx hb dX11_uses_63 rfl (lv_at hl 1 rfl) ?_
    refine lv_iconst (v := 2) hx hb dX11_uses_64 (by decide) ?_
    have hq12 := ho.1
    have ho := ho.2
    refine k_X11_tool X hS hH hk_r hq12 t_ml_VernierDrawersModel_54 hl.1 (Nat.le_of_ble_eq_true rfl) ⟨Nat.le_of_ble_eq_true rfl, Nat.le_of_ble_eq_true rfl⟩ ⟨Nat.zero_le _, Nat.zero_le _⟩ dX11_uses_65 ?_
    refine lv_iconst (v := 1) hx hb dX11_uses_68 (by decide) ?_
    refine lv_iadd hx hb dX11_uses_69 ?_
    refine k_X11_less X hS  t_ml_VernierDrawersModel_68 hl.1 (Nat.le_of_ble_eq_true rfl) ⟨Nat.le_of_ble_eq_true rfl, Nat.le_of_ble_eq_true rfl⟩ ⟨Nat.zero_le _, Nat.zero_le _⟩ dX11_uses_70 ?_
    have hq13 := ho.1
    have ho := ho.2
    refine k_X11_sets X hS hH hk_r hq13 t_ml_VernierDrawersModel_64 hl.1 (Nat.le_of_ble_eq_true rfl) ⟨Nat.le_of_ble_eq_true rfl, Nat.le_of_ble_eq_true rfl⟩ ⟨Nat.zero_le _, Nat.zero_le _⟩ dX11_uses_73 (fun da H locs v14 ev14 hH hS => ?_)
    have ho := ho v14 ev14
    refine lv_aload_n hx hb dX11_uses_76 rfl (lv_at hl 0 rfl) ?_
    refine lv_iload_n hx hb dX11_uses_77 rfl (lv_at hl 1 rfl) ?_
    refine lv_iconst (v := 4) hx hb dX11_uses_78 (by decide) ?_
    refine lv_aload_n hx hb dX11_uses_79 rfl (lv_at hl 0 rfl) ?_
    refine lv_iload_n hx hb dX11_uses_80 rfl (lv_at hl 1 rfl) ?_
    refine lv_iconst (v := 4) hx hb dX11_uses_81 (by decide) ?_
    have hq15 := ho.1
    have ho := ho.2
    refine k_X11_tool X hS hH hk_r hq15 t_ml_VernierDrawersModel_54 hl.1 (Nat.le_of_ble_eq_true rfl) ⟨Nat.le_of_ble_eq_true rfl, Nat.le_of_ble_eq_true rfl⟩ ⟨Nat.zero_le _, Nat.zero_le _⟩ dX11_uses_82 ?_
    refine lv_bipush (v := 20) hx hb dX11_uses_85 (by decide) ?_
    refine lv_isub hx hb dX11_uses_87 ?_
    have hq16 := ho
    refine k_X11_sets X hS hH hk_r hq16 t_ml_VernierDrawersModel_64 hl.1 (Nat.le_of_ble_eq_true rfl) ⟨Nat.le_of_ble_eq_true rfl, Nat.le_of_ble_eq_true rfl⟩ ⟨Nat.zero_le _, Nat.zero_le _⟩ dX11_uses_88 (fun da H locs v17 ev17 hH hS => ?_)
    replace ev3 := Eq.symm ev3
    replace ev6 := Eq.symm ev6
    replace ev9 := Eq.symm ev9
    replace ev14 := Eq.symm ev14
    replace ev17 := Eq.symm ev17
    subst ev3 ev6 ev9 ev14 ev17
    exact E _ _ _ _ _ _ _ _ dX11_uses_91 (Eq.symm ((fX11_uses.eq_1 _ _ _ _).trans ((if_neg c11).trans rfl))) hH hS (Nat.zero_le _) (Nat.zero_le _)
theorem k_X11_uses {p : Program} {l : Launch} {e : Env} {R : Room} {s : State} {m : MethodId} {args : Array Value} {below : List Frame} {meth : Method} {c : Code} {H : Heap} {locs : List Loc} {cells slots : Nat} {Q : State → Prop} {cc : ByteArray} {pc nL : Nat} {ls : Array Slot} {rest : List Value} {G : gG} {own : String} {da : Nat → Nat} {v : vSt} {x : gX} (X : CX G p s m args c cc nL own) (hS : va_S (gA G) s.heap H locs) (hH : Hp G da v x H) {r : Nat} (hk_r : kd r = 11) {p1 : Int32} {p2 : Int32} (ho : oX11_uses r p1 p2 v) {idx : Nat} (hml : Cond.methodLink own idx yX11_uses ∈ TT) (hls : ls.size = nL) (hsum : (rest.map fun v => v.category).sum ≤ 8) (hR : rmX11_uses.frames + 1 ≤ R.frames ∧ 8 + (3 + 11) + rmX11_uses.locals ≤ R.locals) (hcs : cells ≤ R.cells ∧ slots ≤ R.slots) (hdg : decode cc pc = .ok (.invokevirtual idx, 3)) (kk : ∀ (d : Nat → Nat) (H1 : Heap) (locs1 : List Loc) (v1 : vSt), v1 = fX11_uses r p1 p2 v → Hp G d v1 x H1 → va_S (gA G) s.heap H1 locs1 → W p l e R s m args below meth c H1 locs1 cells slots Q (F0 m (pc + 3) ls rest)) : W p l e R s m args below meth c H locs cells slots Q (F0 m pc ls (.int p2 :: .int p1 :: .ref (ga G r) :: rest)) := c_mv X.2.2.2.2.2.2 (runV (k := 2) X.1 X.2.1 X.2.2.1 X.2.2.2.1 X.2.2.2.2.1 (mX11_uses l G da v x r hk_r p1 p2 ho) pW_bl hml t_im_X11_uses t_sel_X11_uses t_ini_VernierDrawersModel t_code_X11_uses ⟨rfl, by decide, by decide, by decide +kernel⟩ rfl rfl hR hcs (recvW X hH (by rw [hk_r]; decide) (by rw [hk_r]; decide) (ce_11 hk_r) rfl) (preW X hS hH) rfl hls rfl hsum hdg) hS kk
