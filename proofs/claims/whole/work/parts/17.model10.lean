/-! 17.model -/
def fX11_goCalibrate (r : Nat) (p1 : Int32) (p2 : Int32) (v : vSt) : Int32 × vSt := if ((fX11_isTool r p1 v) : Int32) = 0 then (((-100001), v)) else (if ((fX11_in p2 1 15000) : Int32) = 0 then (((-100001), v)) else (let y5 : Int32 := (if ((fX11_stack r p2 v) : Int32) = 0 then ((-1)) else (fX11_reading r p1 0 (fX11_truly r (fX11_stack r p2 v) v) v) : Int32); if (0 : Int32) ≤ y5 then (let v9 : vSt := fX11_uses r p1 0 v; let v11 : vSt := fX11_usesBlocks r (fX11_stack r p2 v) v9; let v13 : vSt := fX11_sets r p1 3 (y5 - p2) v11; let v15 : vSt := fX11_sets r p1 6 0 v13; let v18 : vSt := fX11_sets r p1 7 (v15 462 (210 : Int32).toNatClampNeg) v15; (y5 - p2, v18)) else (((-100002), v))))
def oX11_goCalibrate (r : Nat) (p1 : Int32) (p2 : Int32) (v : vSt) : Prop := (oX11_isTool r p1 v) ∧ (¬ (((fX11_isTool r p1 v) : Int32) = 0) → (¬ (((fX11_in p2 1 15000) : Int32) = 0) → ((oX11_stack r p2 v) ∧ ((¬ (((fX11_stack r p2 v) : Int32) = 0) → ((oX11_truly r (fX11_stack r p2 v) v) ∧ (oX11_reading r p1 0 (fX11_truly r (fX11_stack r p2 v) v) v))) ∧ (∀ (y5 : Int32), y5 = ((if ((fX11_stack r p2 v) : Int32) = 0 then ((-1)) else (fX11_reading r p1 0 (fX11_truly r (fX11_stack r p2 v) v) v) : Int32) : Int32) → (((0 : Int32) ≤ y5) → ((oX11_uses r p1 0 v) ∧ (∀ v9 : vSt, v9 = (fX11_uses r p1 0 v) → ((oX11_usesBlocks r (fX11_stack r p2 v) v9) ∧ (∀ v11 : vSt, v11 = (fX11_usesBlocks r (fX11_stack r p2 v) v9) → ((oX11_sets r p1 3 (y5 - p2) v11) ∧ (∀ v13 : vSt, v13 = (fX11_sets r p1 3 (y5 - p2) v11) → ((oX11_sets r p1 6 0 v13) ∧ (∀ v15 : vSt, v15 = (fX11_sets r p1 6 0 v13) → ((vp_in (210) (mlen 462)) ∧ (oX11_sets r p1 7 (v15 462 (210 : Int32).toNatClampNeg) v15))))))))))))))))
abbrev rmX11_goCalibrate : Room := { frames := 3, cells := 0, slots := 0, locals := 72 }
theorem dX11_goCalibrate_0 : decode cX11_goCalibrate 0 = .ok (.aload_n 0, 1) := by decide +kernel
theorem dX11_goCalibrate_1 : decode cX11_goCalibrate 1 = .ok (.iload_n 1, 1) := by decide +kernel
theorem dX11_goCalibrate_2 : decode cX11_goCalibrate 2 = .ok (.invokevirtual 129, 3) := by decide +kernel
theorem dX11_goCalibrate_5 : decode cX11_goCalibrate 5 = .ok (.ifCond .eq 14, 3) := by decide +kernel
theorem dX11_goCalibrate_8 : decode cX11_goCalibrate 8 = .ok (.iload_n 2, 1) := by decide +kernel
theorem dX11_goCalibrate_9 : decode cX11_goCalibrate 9 = .ok (.iconst 1, 1) := by decide +kernel
theorem dX11_goCalibrate_10 : decode cX11_goCalibrate 10 = .ok (.sipush 15000, 3) := by decide +kernel
theorem dX11_goCalibrate_13 : decode cX11_goCalibrate 13 = .ok (.invokestatic 49, 3) := by decide +kernel
theorem dX11_goCalibrate_16 : decode cX11_goCalibrate 16 = .ok (.ifCond .ne 6, 3) := by decide +kernel
theorem dX11_goCalibrate_19 : decode cX11_goCalibrate 19 = .ok (.ldc 40, 2) := by decide +kernel
theorem dX11_goCalibrate_21 : decode cX11_goCalibrate 21 = .ok (.ireturn, 1) := by decide +kernel
theorem dX11_goCalibrate_22 : decode cX11_goCalibrate 22 = .ok (.aload_n 0, 1) := by decide +kernel
theorem dX11_goCalibrate_23 : decode cX11_goCalibrate 23 = .ok (.iload_n 2, 1) := by decide +kernel
theorem dX11_goCalibrate_24 : decode cX11_goCalibrate 24 = .ok (.invokevirtual 142, 3) := by decide +kernel
theorem dX11_goCalibrate_27 : decode cX11_goCalibrate 27 = .ok (.istore_n 3, 1) := by decide +kernel
theorem dX11_goCalibrate_28 : decode cX11_goCalibrate 28 = .ok (.iload_n 3, 1) := by decide +kernel
theorem dX11_goCalibrate_29 : decode cX11_goCalibrate 29 = .ok (.ifCond .ne 7, 3) := by decide +kernel
theorem dX11_goCalibrate_32 : decode cX11_goCalibrate 32 = .ok (.iconst (-1), 1) := by decide +kernel
theorem dX11_goCalibrate_33 : decode cX11_goCalibrate 33 = .ok (.goto 14, 3) := by decide +kernel
theorem dX11_goCalibrate_36 : decode cX11_goCalibrate 36 = .ok (.aload_n 0, 1) := by decide +kernel
theorem dX11_goCalibrate_37 : decode cX11_goCalibrate 37 = .ok (.iload_n 1, 1) := by decide +kernel
theorem dX11_goCalibrate_38 : decode cX11_goCalibrate 38 = .ok (.iconst 0, 1) := by decide +kernel
theorem dX11_goCalibrate_39 : decode cX11_goCalibrate 39 = .ok (.aload_n 0, 1) := by decide +kernel
theorem dX11_goCalibrate_40 : decode cX11_goCalibrate 40 = .ok (.iload_n 3, 1) := by decide +kernel
theorem dX11_goCalibrate_41 : decode cX11_goCalibrate 41 = .ok (.invokevirtual 145, 3) := by decide +kernel
theorem dX11_goCalibrate_44 : decode cX11_goCalibrate 44 = .ok (.invokevirtual 99, 3) := by decide +kernel
theorem dX11_goCalibrate_47 : decode cX11_goCalibrate 47 = .ok (.istore 4, 2) := by decide +kernel
theorem dX11_goCalibrate_49 : decode cX11_goCalibrate 49 = .ok (.iload 4, 2) := by decide +kernel
theorem dX11_goCalibrate_51 : decode cX11_goCalibrate 51 = .ok (.ifCond .ge 6, 3) := by decide +kernel
theorem dX11_goCalibrate_54 : decode cX11_goCalibrate 54 = .ok (.ldc 41, 2) := by decide +kernel
theorem dX11_goCalibrate_56 : decode cX11_goCalibrate 56 = .ok (.ireturn, 1) := by decide +kernel
theorem dX11_goCalibrate_57 : decode cX11_goCalibrate 57 = .ok (.aload_n 0, 1) := by decide +kernel
theorem dX11_goCalibrate_58 : decode cX11_goCalibrate 58 = .ok (.iload_n 1, 1) := by decide +kernel
theorem dX11_goCalibrate_59 : decode cX11_goCalibrate 59 = .ok (.iconst 0, 1) := by decide +kernel
theorem dX11_goCalibrate_60 : decode cX11_goCalibrate 60 = .ok (.invokevirtual 138, 3) := by decide +kernel
theorem dX11_goCalibrate_63 : decode cX11_goCalibrate 63 = .ok (.aload_n 0, 1) := by decide +kernel
theorem dX11_goCalibrate_64 : decode cX11_goCalibrate 64 = .ok (.iload_n 3, 1) := by decide +kernel
theorem dX11_goCalibrate_65 : decode cX11_goCalibrate 65 = .ok (.invokevirtual 148, 3) := by decide +kernel
theorem dX11_goCalibrate_68 : decode cX11_goCalibrate 68 = .ok (.aload_n 0, 1) := by decide +kernel
theorem dX11_goCalibrate_69 : decode cX11_goCalibrate 69 = .ok (.iload_n 1, 1) := by decide +kernel
theorem dX11_goCalibrate_70 : decode cX11_goCalibrate 70 = .ok (.iconst 3, 1) := by decide +kernel
theorem dX11_goCalibrate_71 : decode cX11_goCalibrate 71 = .ok (.iload 4, 2) := by decide +kernel
theorem dX11_goCalibrate_73 : decode cX11_goCalibrate 73 = .ok (.iload_n 2, 1) := by decide +kernel
theorem dX11_goCalibrate_74 : decode cX11_goCalibrate 74 = .ok (.isub, 1) := by decide +kernel
theorem dX11_goCalibrate_75 : decode cX11_goCalibrate 75 = .ok (.invokevirtual 64, 3) := by decide +kernel
theorem dX11_goCalibrate_78 : decode cX11_goCalibrate 78 = .ok (.aload_n 0, 1) := by decide +kernel
theorem dX11_goCalibrate_79 : decode cX11_goCalibrate 79 = .ok (.iload_n 1, 1) := by decide +kernel
theorem dX11_goCalibrate_80 : decode cX11_goCalibrate 80 = .ok (.bipush 6, 2) := by decide +kernel
theorem dX11_goCalibrate_82 : decode cX11_goCalibrate 82 = .ok (.iconst 0, 1) := by decide +kernel
theorem dX11_goCalibrate_83 : decode cX11_goCalibrate 83 = .ok (.invokevirtual 64, 3) := by decide +kernel
theorem dX11_goCalibrate_86 : decode cX11_goCalibrate 86 = .ok (.aload_n 0, 1) := by decide +kernel
theorem dX11_goCalibrate_87 : decode cX11_goCalibrate 87 = .ok (.iload_n 1, 1) := by decide +kernel
theorem dX11_goCalibrate_88 : decode cX11_goCalibrate 88 = .ok (.bipush 7, 2) := by decide +kernel
theorem dX11_goCalibrate_90 : decode cX11_goCalibrate 90 = .ok (.aload_n 0, 1) := by decide +kernel
theorem dX11_goCalibrate_91 : decode cX11_goCalibrate 91 = .ok (.getfield 7, 3) := by decide +kernel
theorem dX11_goCalibrate_94 : decode cX11_goCalibrate 94 = .ok (.sipush 210, 3) := by decide +kernel
theorem dX11_goCalibrate_97 : decode cX11_goCalibrate 97 = .ok (.iaload, 1) := by decide +kernel
theorem dX11_goCalibrate_98 : decode cX11_goCalibrate 98 = .ok (.invokevirtual 64, 3) := by decide +kernel
theorem dX11_goCalibrate_101 : decode cX11_goCalibrate 101 = .ok (.iload 4, 2) := by decide +kernel
theorem dX11_goCalibrate_103 : decode cX11_goCalibrate 103 = .ok (.iload_n 2, 1) := by decide +kernel
theorem dX11_goCalibrate_104 : decode cX11_goCalibrate 104 = .ok (.isub, 1) := by decide +kernel
theorem dX11_goCalibrate_105 : decode cX11_goCalibrate 105 = .ok (.ireturn, 1) := by decide +kernel
set_option maxHeartbeats 8000000 in
set_option maxRecDepth 100000 in
theorem mX11_goCalibrate (l : Launch) (G : gG) (da : Nat → Nat) (v : vSt) (x : gX) (r : Nat) (hk_r : kd r = 11) (p1 : Int32) (p2 : Int32) (ho : oX11_goCalibrate r p1 p2 v) : MI l yX11_goCalibrate cX11_goCalibrate 5 (some .int) rmX11_goCalibrate [.ref (ga G r), .int p1, .int p2] G da v x 0 0 (fX11_goCalibrate r p1 p2 v).1 (fX11_goCalibrate r p1 p2 v).2 x := by
  refine gofMI (own := RX11) (by decide) rfl (Nat.le_of_ble_eq_true rfl) (fun p e s m args below meth c ls Q X hH hl E => ?_)
  have hx := X.1
  have hb := X.2.1
  have hown := X.2.2.2.1
  have hts := X.2.2.2.2.1
  have hS : va_S (gA G) s.heap s.heap [] := va_S.rf
  unfold oX11_goCalibrate at ho
  have hl : lv_has ls 5 [(0, .ref (ga G r)), (1, .int p1), (2, .int p2)] := hl
  refine lv_aload_n hx hb dX11_goCalibrate_0 rfl (lv_at hl 0 rfl) ?_
  refine lv_iload_n hx hb dX11_goCalibrate_1 rfl (lv_at hl 1 rfl) ?_
  have hq1 := ho.1
  have ho := ho.2
  refine k_X11_isTool X hS hH hk_r hq1 t_ml_VernierDrawersModel_129 hl.1 (Nat.le_of_ble_eq_true rfl) ⟨Nat.le_of_ble_eq_true rfl, Nat.le_of_ble_eq_true rfl⟩ ⟨Nat.zero_le _, Nat.zero_le _⟩ dX11_goCalibrate_2 ?_
  refine lv_if_eq (tgt := 19) hx hb dX11_goCalibrate_5 (by decide) (fun c2 => ?_) (fun c2 => ?_)
  · skip
    refine lv_ldc (v := (-100001)) hx hb hown (hts _ t_con_VernierDrawersModel_40) dX11_goCalibrate_19 ?_
    exact E _ _ _ _ _ _ _ _ _ dX11_goCalibrate_21 rfl (pr1 ((fX11_goCalibrate.eq_1 _ _ _ _).trans ((if_pos c2).trans rfl))) (pr2 ((fX11_goCalibrate.eq_1 _ _ _ _).trans ((if_pos c2).trans rfl))) hH hS (Nat.zero_le _) (Nat.zero_le _)
  · have ho := ho c2
    refine lv_iload_n hx hb dX11_goCalibrate_8 rfl (lv_at hl 2 rfl) ?_
    refine lv_iconst (v := 1) hx hb dX11_goCalibrate_9 (by decide) ?_
    refine lv_sipush (v := 15000) hx hb dX11_goCalibrate_10 (by decide) ?_
    refine k_X11_in X hS  t_ml_VernierDrawersModel_49 hl.1 (Nat.le_of_ble_eq_true rfl) ⟨Nat.le_of_ble_eq_true rfl, Nat.le_of_ble_eq_true rfl⟩ ⟨Nat.zero_le _, Nat.zero_le _⟩ dX11_goCalibrate_13 ?_
    refine lv_if_ne (tgt := 22) hx hb dX11_goCalibrate_16 (by decide) (fun c3 => ?_) (fun c3 => ?_)
    · have ho := ho c3
      refine lv_aload_n hx hb dX11_goCalibrate_22 rfl (lv_at hl 0 rfl) ?_
      refine lv_iload_n hx hb dX11_goCalibrate_23 rfl (lv_at hl 2 rfl) ?_
      have hq4 := ho.1
      have ho := ho.2
      refine k_X11_stack X hS hH hk_r hq4 t_ml_VernierDrawersModel_142 hl.1 (Nat.le_of_ble_eq_true rfl) ⟨Nat.le_of_ble_eq_true rfl, Nat.le_of_ble_eq_true rfl⟩ ⟨Nat.zero_le _, Nat.zero_le _⟩ dX11_goCalibrate_24 ?_
      refine lv_istore_n (lv' := [(3, .int (fX11_stack r p2 v)), (0, .ref (ga G r)), (1, .int p1), (2, .int p2)]) hx hb dX11_goCalibrate_27 rfl hl (by decide) rfl (fun ls hl => ?_)
      refine lv_iload_n hx hb dX11_goCalibrate_28 rfl (lv_at hl 0 rfl) ?_
      have K6 : ∀ (y5 : Int32) (ls : Array Slot), y5 = (if ((fX11_stack r p2 v) : Int32) = 0 then ((-1)) else (fX11_reading r p1 0 (fX11_truly r (fX11_stack r p2 v) v) v) : Int32) → lv_has ls 5 [(3, .int (fX11_stack r p2 v)), (0, .ref (ga G r)), (1, .int p1), (2, .int p2)] → W p l e rmX11_goCalibrate s m args below meth c s.heap [] 0 0 Q (F0 m 47 ls [.int y5]) := by
        intro y5 ls ey5 hl
        have ho := ho.2 y5 ey5
        refine lv_istore (lv' := [(4, .int y5), (3, .int (fX11_stack r p2 v)), (0, .ref (ga G r)), (1, .int p1), (2, .int p2)]) hx hb dX11_goCalibrate_47 hl (by decide) rfl (fun ls hl => ?_)
        refine lv_iload hx hb dX11_goCalibrate_49 (lv_at hl 0 rfl) ?_
        refine lv_if_ge (tgt := 57) hx hb dX11_goCalibrate_51 (by decide) (fun c7 => ?_) (fun c7 => ?_)
        · have ho := ho c7
          refine lv_aload_n hx hb dX11_goCalibrate_57 rfl (lv_at hl 2 rfl) ?_
          refine lv_iload_n hx hb dX11_goCalibrate_58 rfl (lv_at hl 3 rfl) ?_
          refine lv_iconst (v := 0) hx hb dX11_goCalibrate_59 (by decide) ?_
          have hq8 := ho.1
          have ho := ho.2
          refine k_X11_uses X hS hH hk_r hq8 t_ml_VernierDrawersModel_138 hl.1 (Nat.le_of_ble_eq_true rfl) ⟨Nat.le_of_ble_eq_true rfl, Nat.le_of_ble_eq_true rfl⟩ ⟨Nat.zero_le _, Nat.zero_le _⟩ dX11_goCalibrate_60 (fun da H locs v9 ev9 hH hS => ?_)
          have ho := ho v9 ev9
          refine lv_aload_n hx hb dX11_goCalibrate_63 rfl (lv_at hl 2 rfl) ?_
          refine lv_iload_n hx hb dX11_goCalibrate_64 rfl (lv_at hl 1 rfl) ?_
          have hq10 := ho.1
          have ho := ho.2
          refine k_X11_usesBlocks X hS hH hk_r hq10 t_ml_VernierDrawersModel_148 hl.1 (Nat.le_of_ble_eq_true rfl) ⟨Nat.le_of_ble_eq_true rfl, Nat.le_of_ble_eq_true rfl⟩ ⟨Nat.zero_le _, Nat.zero_le _⟩ dX11_goCalibrate_65 (fun da H locs v11 ev11 hH hS => ?_)
          have ho := ho v11 ev11
          refine lv_aload_n hx hb dX11_goCalibrate_68 rfl (lv_at hl 2 rfl) ?_
          refine lv_iload_n hx hb dX11_goCalibrate_69 rfl (lv_at hl 3 rfl) ?_
          refine lv_iconst (v := 3) hx hb dX11_goCalibrate_70 (by decide) ?_
          refine lv_iload hx hb dX11_goCalibrate_71 (lv_at hl 0 rfl) ?_
          refine lv_iload_n hx hb dX11_goCalibrate_73 rfl (lv_at hl 4 rfl) ?_
          refine lv_isub hx hb dX11_goCalibrate_74 ?_
          have hq12 := ho.1
          have ho := ho.2
          refine k_X11_sets X hS hH hk_r hq12 t_ml_VernierDrawersModel_64 hl.1 (Nat.le_of_ble_eq_true rfl) ⟨Nat.le_of_ble_eq_true rfl, Nat.le_of_ble_eq_true rfl⟩ ⟨Nat.zero_le _, Nat.zero_le _⟩ dX11_goCalibrate_75 (fun da H locs v13 ev13 hH hS => ?_)
          have ho := ho v13 ev13
          refine lv_aload_n hx hb dX11_goCalibrate_78 rfl (lv_at hl 2 rfl) ?_
          refine lv_iload_n hx hb dX11_goCalibrate_79 rfl (lv_at hl 3 rfl) ?_
          refine lv_bipush (v := 6) hx hb dX11_goCalibrate_80 (by decide) ?_
          refine lv_iconst (v := 0) hx hb dX11_goCalibrate_82 (by decide) ?_
          have hq14 := ho.1
          have ho := ho.2
          refine k_X11_sets X hS hH hk_r hq14 t_ml_VernierDrawersModel_64 hl.1 (Nat.le_of_ble_eq_true rfl) ⟨Nat.le_of_ble_eq_true rfl, Nat.le_of_ble_eq_true rfl⟩ ⟨Nat.zero_le _, Nat.zero_le _⟩ dX11_goCalibrate_83 (fun da H locs v15 ev15 hH hS => ?_)
          have ho := ho v15 ev15
          refine lv_aload_n hx hb dX11_goCalibrate_86 rfl (lv_at hl 2 rfl) ?_
          refine lv_iload_n hx hb dX11_goCalibrate_87 rfl (lv_at hl 3 rfl) ?_
          refine lv_bipush (v := 7) hx hb dX11_goCalibrate_88 (by decide) ?_
          refine lv_aload_n hx hb dX11_goCalibrate_90 rfl (lv_at hl 2 rfl) ?_
          refine g_VernierDrawersModel_7 X hH hk_r dX11_goCalibrate_91 ?_
          refine lv_sipush (v := 210) hx hb dX11_goCalibrate_94 (by decide) ?_
          have hq16 := ho.1
          have ho := ho.2
          refine ald_M X hH (Or.inl kd_462) hq16 dX11_goCalibrate_97 ?_
          have hq17 := ho
          refine k_X11_sets X hS hH hk_r hq17 t_ml_VernierDrawersModel_64 hl.1 (Nat.le_of_ble_eq_true rfl) ⟨Nat.le_of_ble_eq_true rfl, Nat.le_of_ble_eq_true rfl⟩ ⟨Nat.zero_le _, Nat.zero_le _⟩ dX11_goCalibrate_98 (fun da H locs v18 ev18 hH hS => ?_)
          refine lv_iload hx hb dX11_goCalibrate_101 (lv_at hl 0 rfl) ?_
          refine lv_iload_n hx hb dX11_goCalibrate_103 rfl (lv_at hl 4 rfl) ?_
          refine lv_isub hx hb dX11_goCalibrate_104 ?_
          replace ey5 := Eq.symm ey5
          replace ev9 := Eq.symm ev9
          replace ev11 := Eq.symm ev11
          replace ev13 := Eq.symm ev13
          replace ev15 := Eq.symm ev15
          replace ev18 := Eq.symm ev18
          subst ey5 ev9 ev11 ev13 ev15 ev18
          exact E _ _ _ _ _ _ _ _ _ dX11_goCalibrate_105 rfl (pr1 ((fX11_goCalibrate.eq_1 _ _ _ _).trans ((if_neg c2).trans ((if_neg c3).trans ((if_pos c7).trans rfl))))) (pr2 ((fX11_goCalibrate.eq_1 _ _ _ _).trans ((if_neg c2).trans ((if_neg c3).trans ((if_pos c7).trans rfl))))) hH hS (Nat.zero_le _) (Nat.zero_le _)
        · skip
          refine lv_ldc (v := (-100002)) hx hb hown (hts _ t_con_VernierDrawersModel_41) dX11_goCalibrate_54 ?_
          replace ey5 := Eq.symm ey5
          subst ey5
          exact E _ _ _ _ _ _ _ _ _ dX11_goCalibrate_56 rfl (pr1 ((fX11_goCalibrate.eq_1 _ _ _ _).trans ((if_neg c2).trans ((if_neg c3).trans ((if_neg c7).trans rfl))))) (pr2 ((fX11_goCalibrate.eq_1 _ _ _ _).trans ((if_neg c2).trans ((if_neg c3).trans ((if_neg c7).trans rfl))))) hH hS (Nat.zero_le _) (Nat.zero_le _)
      have ho := ho.1
      refine lv_if_ne (tgt := 36) hx hb dX11_goCalibrate_29 (by decide) (fun c6 => ?_) (fun c6 => ?_)
      · have ho := ho c6
        refine lv_aload_n hx hb dX11_goCalibrate_36 rfl (lv_at hl 1 rfl) ?_
        refine lv_iload_n hx hb dX11_goCalibrate_37 rfl (lv_at hl 2 rfl) ?_
        refine lv_iconst (v := 0) hx hb dX11_goCalibrate_38 (by decide) ?_
        refine lv_aload_n hx hb dX11_goCalibrate_39 rfl (lv_at hl 1 rfl) ?_
        refine lv_iload_n hx hb dX11_goCalibrate_40 rfl (lv_at hl 0 rfl) ?_
        have hq7 := ho.1
        have ho := ho.2
        refine k_X11_truly X hS hH hk_r hq7 t_ml_VernierDrawersModel_145 hl.1 (Nat.le_of_ble_eq_true rfl) ⟨Nat.le_of_ble_eq_true rfl, Nat.le_of_ble_eq_true rfl⟩ ⟨Nat.zero_le _, Nat.zero_le _⟩ dX11_goCalibrate_41 ?_
        have hq8 := ho
        refine k_X11_reading X hS hH hk_r hq8 t_ml_VernierDrawersModel_99 hl.1 (Nat.le_of_ble_eq_true rfl) ⟨Nat.le_of_ble_eq_true rfl, Nat.le_of_ble_eq_true rfl⟩ ⟨Nat.zero_le _, Nat.zero_le _⟩ dX11_goCalibrate_44 ?_
        exact K6 _ _ (Eq.symm ((if_neg c6).trans rfl)) (lv_sub hl [0, 1, 2, 3] rfl)
      · skip
        refine lv_iconst (v := (-1)) hx hb dX11_goCalibrate_32 (by decide) ?_
        refine lv_goto (tgt := 47) hx hb dX11_goCalibrate_33 (by decide) ?_
        exact K6 _ _ (Eq.symm ((if_pos c6).trans rfl)) (lv_sub hl [0, 1, 2, 3] rfl)
    · skip
      refine lv_ldc (v := (-100001)) hx hb hown (hts _ t_con_VernierDrawersModel_40) dX11_goCalibrate_19 ?_
      exact E _ _ _ _ _ _ _ _ _ dX11_goCalibrate_21 rfl (pr1 ((fX11_goCalibrate.eq_1 _ _ _ _).trans ((if_neg c2).trans ((if_pos c3).trans rfl)))) (pr2 ((fX11_goCalibrate.eq_1 _ _ _ _).trans ((if_neg c2).trans ((if_pos c3).trans rfl)))) hH hS (Nat.zero_le _) (Nat.zero_le _)
theorem k_X11_goCalibrate {p : Program} {l : Launch} {e : Env} {R : Room} {s : State} {m : MethodId} {args : Array Value} {below : List Frame} {meth : Method} {c : Code} {H : Heap} {locs : List Loc} {cells slots : Nat} {Q : State → Prop} {cc : ByteArray} {pc nL : Nat} {ls : Array Slot} {rest : List Value} {G : gG} {own : String} {da : Nat → Nat} {v : vSt} {x : gX} (X : CX G p s m args c cc nL own) (hS : va_S (gA G) s.heap H locs) (hH : Hp G da v x H) {r : Nat} (hk_r : kd r = 11) {p1 : Int32} {p2 : Int32} (ho : oX11_goCalibrate r p1 p2 v) {idx : Nat} (hml : Cond.methodLink own idx yX11_goCalibrate ∈ TT) (hls : ls.size = nL) (hsum : (rest.map fun v => v.category).sum ≤ 8) (hR : rmX11_goCalibrate.frames + 1 ≤ R.frames ∧ 8 + (5 + 11) + rmX11_goCalibrate.locals ≤ R.locals) (hcs : cells ≤ R.cells ∧ slots ≤ R.slots) (hdg : decode cc pc = .ok (.invokevirtual idx, 3)) (kk : ∀ (d : Nat → Nat) (H1 : Heap) (locs1 : List Loc) (v1 : vSt), v1 = (fX11_goCalibrate r p1 p2 v).2 → Hp G d v1 x H1 → va_S (gA G) s.heap H1 locs1 → W p l e R s m args below meth c H1 locs1 cells slots Q (F0 m (pc + 3) ls (.int (fX11_goCalibrate r p1 p2 v).1 :: rest))) : W p l e R s m args below meth c H locs cells slots Q (F0 m pc ls (.int p2 :: .int p1 :: .ref (ga G r) :: rest)) := c_mi X.2.2.2.2.2.2 (runV (k := 2) X.1 X.2.1 X.2.2.1 X.2.2.2.1 X.2.2.2.2.1 (mX11_goCalibrate l G da v x r hk_r p1 p2 ho) pW_bl hml t_im_X11_goCalibrate t_sel_X11_goCalibrate t_ini_VernierDrawersModel t_code_X11_goCalibrate ⟨rfl, by decide, by decide, by decide +kernel⟩ rfl rfl hR hcs (recvW X hH (by rw [hk_r]; decide) (by rw [hk_r]; decide) (ce_11 hk_r) rfl) (preW X hS hH) rfl hls rfl hsum hdg) hS kk
def fX11_goBring (r : Nat) (p1 : Int32) (p2 : Int32) (v : vSt) : Int32 × vSt := let y2 : Int32 := (if ((fX11_isType r p1 v) : Int32) = 0 then 0 else (if ((fX11_in p2 (-200) 200) : Int32) = 0 then 0 else (if (((fX11_of r p1 0 v) + p2) : Int32) < 1 then 0 else 1)) : Int32); if (y2 : Int32) = 0 then (((-100001), v)) else (if ((v 462 (206 : Int32).toNatClampNeg) : Int32) = 20 then (((-100002), v)) else (let v8 : vSt := fX11_toBench r (fX11_piece p1 p2 0) v; let v10 : vSt := u2 v8 462 (211 : Int32).toNatClampNeg ((v8 462 (211 : Int32).toNatClampNeg) + 1); (v10 462 (206 : Int32).toNatClampNeg, v10)))
def oX11_goBring (r : Nat) (p1 : Int32) (p2 : Int32) (v : vSt) : Prop := (oX11_isType r p1 v) ∧ ((¬ (((fX11_isType r p1 v) : Int32) = 0) → (¬ (((fX11_in p2 (-200) 200) : Int32) = 0) → (oX11_of r p1 0 v))) ∧ (∀ (y2 : Int32), y2 = ((if ((fX11_isType r p1 v) : Int32) = 0 then 0 else (if ((fX11_in p2 (-200) 200) : Int32) = 0 then 0 else (if (((fX11_of r p1 0 v) + p2) : Int32) < 1 then 0 else 1)) : Int32) : Int32) → (¬ ((y2 : Int32) = 0) → ((vp_in (206) (mlen 462)) ∧ (¬ (((v 462 (206 : Int32).toNatClampNeg) : Int32) = 20) → ((oX11_toBench r (fX11_piece p1 p2 0) v) ∧ (∀ v8 : vSt, v8 = (fX11_toBench r (fX11_piece p1 p2 0) v) → (vp_in (211) (mlen 462)))))))))
abbrev rmX11_goBring : Room := { frames := 2, cells := 0, slots := 0, locals := 43 }
theorem dX11_goBring_0 : decode cX11_goBring 0 = .ok (.aload_n 0, 1) := by decide +kernel
theorem dX11_goBring_1 : decode cX11_goBring 1 = .ok (.iload_n 1, 1) := by decide +kernel
theorem dX11_goBring_2 : decode cX11_goBring 2 = .ok (.invokevirtual 152, 3) := by decide +kernel
theorem dX11_goBring_5 : decode cX11_goBring 5 = .ok (.ifCond .eq 32, 3) := by decide +kernel
theorem dX11_goBring_8 : decode cX11_goBring 8 = .ok (.iload_n 2, 1) := by decide +kernel
theorem dX11_goBring_9 : decode cX11_goBring 9 = .ok (.sipush (-200), 3) := by decide +kernel
theorem dX11_goBring_12 : decode cX11_goBring 12 = .ok (.sipush 200, 3) := by decide +kernel
theorem dX11_goBring_15 : decode cX11_goBring 15 = .ok (.invokestatic 49, 3) := by decide +kernel
theorem dX11_goBring_18 : decode cX11_goBring 18 = .ok (.ifCond .eq 19, 3) := by decide +kernel
theorem dX11_goBring_21 : decode cX11_goBring 21 = .ok (.aload_n 0, 1) := by decide +kernel
theorem dX11_goBring_22 : decode cX11_goBring 22 = .ok (.iload_n 1, 1) := by decide +kernel
theorem dX11_goBring_23 : decode cX11_goBring 23 = .ok (.iconst 0, 1) := by decide +kernel
theorem dX11_goBring_24 : decode cX11_goBring 24 = .ok (.invokevirtual 90, 3) := by decide +kernel
theorem dX11_goBring_27 : decode cX11_goBring 27 = .ok (.iload_n 2, 1) := by decide +kernel
theorem dX11_goBring_28 : decode cX11_goBring 28 = .ok (.iadd, 1) := by decide +kernel
theorem dX11_goBring_29 : decode cX11_goBring 29 = .ok (.iconst 1, 1) := by decide +kernel
theorem dX11_goBring_30 : decode cX11_goBring 30 = .ok (.if_icmp .lt 7, 3) := by decide +kernel
theorem dX11_goBring_33 : decode cX11_goBring 33 = .ok (.iconst 1, 1) := by decide +kernel
theorem dX11_goBring_34 : decode cX11_goBring 34 = .ok (.goto 4, 3) := by decide +kernel
theorem dX11_goBring_37 : decode cX11_goBring 37 = .ok (.iconst 0, 1) := by decide +kernel
theorem dX11_goBring_38 : decode cX11_goBring 38 = .ok (.istore_n 3, 1) := by decide +kernel
theorem dX11_goBring_39 : decode cX11_goBring 39 = .ok (.iload_n 3, 1) := by decide +kernel
theorem dX11_goBring_40 : decode cX11_goBring 40 = .ok (.ifCond .ne 6, 3) := by decide +kernel
theorem dX11_goBring_43 : decode cX11_goBring 43 = .ok (.ldc 40, 2) := by decide +kernel
theorem dX11_goBring_45 : decode cX11_goBring 45 = .ok (.ireturn, 1) := by decide +kernel
theorem dX11_goBring_46 : decode cX11_goBring 46 = .ok (.aload_n 0, 1) := by decide +kernel
theorem dX11_goBring_47 : decode cX11_goBring 47 = .ok (.getfield 7, 3) := by decide +kernel
theorem dX11_goBring_50 : decode cX11_goBring 50 = .ok (.sipush 206, 3) := by decide +kernel
theorem dX11_goBring_53 : decode cX11_goBring 53 = .ok (.iaload, 1) := by decide +kernel
theorem dX11_goBring_54 : decode cX11_goBring 54 = .ok (.bipush 20, 2) := by decide +kernel
theorem dX11_goBring_56 : decode cX11_goBring 56 = .ok (.if_icmp .ne 6, 3) := by decide +kernel
theorem dX11_goBring_59 : decode cX11_goBring 59 = .ok (.ldc 41, 2) := by decide +kernel
theorem dX11_goBring_61 : decode cX11_goBring 61 = .ok (.ireturn, 1) := by decide +kernel
theorem dX11_goBring_62 : decode cX11_goBring 62 = .ok (.aload_n 0, 1) := by decide +kernel
theorem dX11_goBring_63 : decode cX11_goBring 63 = .ok (.iload_n 1, 1) := by decide +kernel
theorem dX11_goBring_64 : decode cX11_goBring 64 = .ok (.iload_n 2, 1) := by decide +kernel
theorem dX11_goBring_65 : decode cX11_goBring 65 = .ok (.iconst 0, 1) := by decide +kernel
theorem dX11_goBring_66 : decode cX11_goBring 66 = .ok (.invokestatic 155, 3) := by decide +kernel
theorem dX11_goBring_69 : decode cX11_goBring 69 = .ok (.invokevirtual 158, 3) := by decide +kernel
theorem dX11_goBring_72 : decode cX11_goBring 72 = .ok (.aload_n 0, 1) := by decide +kernel
theorem dX11_goBring_73 : decode cX11_goBring 73 = .ok (.getfield 7, 3) := by decide +kernel
theorem dX11_goBring_76 : decode cX11_goBring 76 = .ok (.sipush 211, 3) := by decide +kernel
theorem dX11_goBring_79 : decode cX11_goBring 79 = .ok (.dup2, 1) := by decide +kernel
theorem dX11_goBring_80 : decode cX11_goBring 80 = .ok (.iaload, 1) := by decide +kernel
theorem dX11_goBring_81 : decode cX11_goBring 81 = .ok (.iconst 1, 1) := by decide +kernel
theorem dX11_goBring_82 : decode cX11_goBring 82 = .ok (.iadd, 1) := by decide +kernel
theorem dX11_goBring_83 : decode cX11_goBring 83 = .ok (.iastore, 1) := by decide +kernel
theorem dX11_goBring_84 : decode cX11_goBring 84 = .ok (.aload_n 0, 1) := by decide +kernel
theorem dX11_goBring_85 : decode cX11_goBring 85 = .ok (.getfield 7, 3) := by decide +kernel
theorem dX11_goBring_88 : decode cX11_goBring 88 = .ok (.sipush 206, 3) := by decide +kernel
theorem dX11_goBring_91 : decode cX11_goBring 91 = .ok (.iaload, 1) := by decide +kernel
theorem dX11_goBring_92 : decode cX11_goBring 92 = .ok (.ireturn, 1) := by decide +kernel
set_option maxHeartbeats 8000000 in
set_option maxRecDepth 100000 in
theorem mX11_goBring (l : Launch) (G : gG) (da : Nat → Nat) (v : vSt) (x : gX) (r : Nat) (hk_r : kd r = 11) (p1 : Int32) (p2 : Int32) (ho : oX11_goBring r p1 p2 v) : MI l yX11_goBring cX11_goBring 4 (some .int) rmX11_goBring [.ref (ga G r), .int p1, .int p2] G da v x 0 0 (fX11_goBring r p1 p2 v).1 (fX11_goBring r p1 p2 v).2 x := by
  refine gofMI (own := RX11) (by decide) rfl (Nat.le_of_ble_eq_true rfl) (fun p e s m args below meth c ls Q X hH hl E => ?_)
  have hx := X.1
  have hb := X.2.1
  have hown := X.2.2.2.1
  have hts := X.2.2.2.2.1
  have hS : va_S (gA G) s.heap s.heap [] := va_S.rf
  unfold oX11_goBring at ho
  have hl : lv_has ls 4 [(0, .ref (ga G r)), (1, .int p1), (2, .int p2)] := hl
  refine lv_aload_n hx hb dX11_goBring_0 rfl (lv_at hl 0 rfl) ?_
  refine lv_iload_n hx hb dX11_goBring_1 rfl (lv_at hl 1 rfl) ?_
  have hq1 := ho.1
  have ho := ho.2
  refine k_X11_isType X hS hH hk_r hq1 t_ml_VernierDrawersModel_152 hl.1 (Nat.le_of_ble_eq_true rfl) ⟨Nat.le_of_ble_eq_true rfl, Nat.le_of_ble_eq_true rfl⟩ ⟨Nat.zero_le _, Nat.zero_le _⟩ dX11_goBring_2 ?_
  have K3 : ∀ (y2 : Int32) (ls : Array Slot), y2 = (if ((fX11_isType r p1 v) : Int32) = 0 then 0 else (if ((fX11_in p2 (-200) 200) : Int32) = 0 then 0 else (if (((fX11_of r p1 0 v) + p2) : Int32) < 1 then 0 else 1)) : Int32) → lv_has ls 4 [(0, .ref (ga G r)), (1, .int p1), (2, .int p2)] → W p l e rmX11_goBring s m args below meth c s.heap [] 0 0 Q (F0 m 38 ls [.int y2]) := by
    intro y2 ls ey2 hl
    have ho := ho.2 y2 ey2
    refine lv_istore_n (lv' := [(3, .int y2), (0, .ref (ga G r)), (1, .int p1), (2, .int p2)]) hx hb dX11_goBring_38 rfl hl (by decide) rfl (fun ls hl => ?_)
    refine lv_iload_n hx hb dX11_goBring_39 rfl (lv_at hl 0 rfl) ?_
    refine lv_if_ne (tgt := 46) hx hb dX11_goBring_40 (by decide) (fun c4 => ?_) (fun c4 => ?_)
    · have ho := ho c4
      refine lv_aload_n hx hb dX11_goBring_46 rfl (lv_at hl 1 rfl) ?_
      refine g_VernierDrawersModel_7 X hH hk_r dX11_goBring_47 ?_
      refine lv_sipush (v := 206) hx hb dX11_goBring_50 (by decide) ?_
      have hq5 := ho.1
      have ho := ho.2
      refine ald_M X hH (Or.inl kd_462) hq5 dX11_goBring_53 ?_
      refine lv_bipush (v := 20) hx hb dX11_goBring_54 (by decide) ?_
      refine lv_icmp_ne (tgt := 62) hx hb dX11_goBring_56 (by decide) (fun c6 => ?_) (fun c6 => ?_)
      · have ho := ho c6
        refine lv_aload_n hx hb dX11_goBring_62 rfl (lv_at hl 1 rfl) ?_
        refine lv_iload_n hx hb dX11_goBring_63 rfl (lv_at hl 2 rfl) ?_
        refine lv_iload_n hx hb dX11_goBring_64 rfl (lv_at hl 3 rfl) ?_
        refine lv_iconst (v := 0) hx hb dX11_goBring_65 (by decide) ?_
        refine k_X11_piece X hS  t_ml_VernierDrawersModel_155 hl.1 (Nat.le_of_ble_eq_true rfl) ⟨Nat.le_of_ble_eq_true rfl, Nat.le_of_ble_eq_true rfl⟩ ⟨Nat.zero_le _, Nat.zero_le _⟩ dX11_goBring_66 ?_
        have hq7 := ho.1
        have ho := ho.2
        refine k_X11_toBench X hS hH hk_r hq7 t_ml_VernierDrawersModel_158 hl.1 (Nat.le_of_ble_eq_true rfl) ⟨Nat.le_of_ble_eq_true rfl, Nat.le_of_ble_eq_true rfl⟩ ⟨Nat.zero_le _, Nat.zero_le _⟩ dX11_goBring_69 (fun da H locs v8 ev8 hH hS => ?_)
        have ho := ho v8 ev8
        refine lv_aload_n hx hb dX11_goBring_72 rfl (lv_at hl 1 rfl) ?_
        refine g_VernierDrawersModel_7 X hH hk_r dX11_goBring_73 ?_
        refine lv_sipush (v := 211) hx hb dX11_goBring_76 (by decide) ?_
        refine lv_dup2_11 hx hb dX11_goBring_79 rfl rfl ?_
        have hq9 := ho
        refine ald_M X hH (Or.inl kd_462) hq9 dX11_goBring_80 ?_
        refine lv_iconst (v := 1) hx hb dX11_goBring_81 (by decide) ?_
        refine lv_iadd hx hb dX11_goBring_82 ?_
        refine ast_M X hH hS (Or.inl kd_462) hq9 dX11_goBring_83 (fun H locs v10 ev10 hH hS => ?_)
        refine lv_aload_n hx hb dX11_goBring_84 rfl (lv_at hl 1 rfl) ?_
        refine g_VernierDrawersModel_7 X hH hk_r dX11_goBring_85 ?_
        refine lv_sipush (v := 206) hx hb dX11_goBring_88 (by decide) ?_
        refine ald_M X hH (Or.inl kd_462) hq5 dX11_goBring_91 ?_
        replace ey2 := Eq.symm ey2
        replace ev8 := Eq.symm ev8
        replace ev10 := Eq.symm ev10
        subst ey2 ev8 ev10
        exact E _ _ _ _ _ _ _ _ _ dX11_goBring_92 rfl (pr1 ((fX11_goBring.eq_1 _ _ _ _).trans ((if_neg c4).trans ((if_neg c6).trans rfl)))) (pr2 ((fX11_goBring.eq_1 _ _ _ _).trans ((if_neg c4).trans ((if_neg c6).trans rfl)))) hH hS (Nat.zero_le _) (Nat.zero_le _)
      · skip
        refine lv_ldc (v := (-100002)) hx hb hown (hts _ t_con_VernierDrawersModel_41) dX11_goBring_59 ?_
        replace ey2 := Eq.symm ey2
        subst ey2
        exact E _ _ _ _ _ _ _ _ _ dX11_goBring_61 rfl (pr1 ((fX11_goBring.eq_1 _ _ _ _).trans ((if_neg c4).trans ((if_pos c6).trans rfl)))) (pr2 ((fX11_goBring.eq_1 _ _ _ _).trans ((if_neg c4).trans ((if_pos c6).trans rfl)))) hH hS (Nat.zero_le _) (Nat.zero_le _)
    · skip
      refine lv_ldc (v := (-100001)) hx hb hown (hts _ t_con_VernierDrawersModel_40) dX11_goBring_43 ?_
      replace ey2 := Eq.symm ey2
      subst ey2
      exact E _ _ _ _ _ _ _ _ _ dX11_goBring_45 rfl (pr1 ((fX11_goBring.eq_1 _ _ _ _).trans ((if_pos c4).trans rfl))) (pr2 ((fX11_goBring.eq_1 _ _ _ _).trans ((if_pos c4).trans rfl))) hH hS (Nat.zero_le _) (Nat.zero_le _)
  have ho := ho.1
  refine lv_if_eq (tgt := 37) hx hb dX11_goBring_5 (by decide) (fun c3 => ?_) (fun c3 => ?_)
  · skip
    refine lv_iconst (v := 0) hx hb dX11_goBring_37 (by decide) ?_
    exact K3 _ _ (Eq.symm ((if_pos c3).trans rfl)) (lv_sub hl [0, 1, 2] rfl)
  · have ho := ho c3
    refine lv_iload_n hx hb dX11_goBring_8 rfl (lv_at hl 2 rfl) ?_
    refine lv_sipush (v := (-200)) hx hb dX11_goBring_9 (by decide) ?_
    refine lv_sipush (v := 200) hx hb dX11_goBring_12 (by decide) ?_
    refine k_X11_in X hS  t_ml_VernierDrawersModel_49 hl.1 (Nat.le_of_ble_eq_true rfl) ⟨Nat.le_of_ble_eq_true rfl, Nat.le_of_ble_eq_true rfl⟩ ⟨Nat.zero_le _, Nat.zero_le _⟩ dX11_goBring_15 ?_
    refine lv_if_eq (tgt := 37) hx hb dX11_goBring_18 (by decide) (fun c4 => ?_) (fun c4 => ?_)
    · skip
      refine lv_iconst (v := 0) hx hb dX11_goBring_37 (by decide) ?_
      exact K3 _ _ (Eq.symm ((if_neg c3).trans ((if_pos c4).trans rfl))) (lv_sub hl [0, 1, 2] rfl)
    · have ho := ho c4
      refine lv_aload_n hx hb dX11_goBring_21 rfl (lv_at hl 0 rfl) ?_
      refine lv_iload_n hx hb dX11_goBring_22 rfl (lv_at hl 1 rfl) ?_
      refine lv_iconst (v := 0) hx hb dX11_goBring_23 (by decide) ?_
      have hq5 := ho
      refine k_X11_of X hS hH hk_r hq5 t_ml_VernierDrawersModel_90 hl.1 (Nat.le_of_ble_eq_true rfl) ⟨Nat.le_of_ble_eq_true rfl, Nat.le_of_ble_eq_true rfl⟩ ⟨Nat.zero_le _, Nat.zero_le _⟩ dX11_goBring_24 ?_
      refine lv_iload_n hx hb dX11_goBring_27 rfl (lv_at hl 2 rfl) ?_
      refine lv_iadd hx hb dX11_goBring_28 ?_
      refine lv_iconst (v := 1) hx hb dX11_goBring_29 (by decide) ?_
      refine lv_icmp_lt (tgt := 37) hx hb dX11_goBring_30 (by decide) (fun c6 => ?_) (fun c6 => ?_)
      · skip
        refine lv_iconst (v := 0) hx hb dX11_goBring_37 (by decide) ?_
        exact K3 _ _ (Eq.symm ((if_neg c3).trans ((if_neg c4).trans ((if_pos c6).trans rfl)))) (lv_sub hl [0, 1, 2] rfl)
      · skip
        refine lv_iconst (v := 1) hx hb dX11_goBring_33 (by decide) ?_
        refine lv_goto (tgt := 38) hx hb dX11_goBring_34 (by decide) ?_
        exact K3 _ _ (Eq.symm ((if_neg c3).trans ((if_neg c4).trans ((if_neg c6).trans rfl)))) (lv_sub hl [0, 1, 2] rfl)
theorem k_X11_goBring {p : Program} {l : Launch} {e : Env} {R : Room} {s : State} {m : MethodId} {args : Array Value} {below : List Frame} {meth : Method} {c : Code} {H : Heap} {locs : List Loc} {cells slots : Nat} {Q : State → Prop} {cc : ByteArray} {pc nL : Nat} {ls : Array Slot} {rest : List Value} {G : gG} {own : String} {da : Nat → Nat} {v : vSt} {x : gX} (X : CX G p s m args c cc nL own) (hS : va_S (gA G) s.heap H locs) (hH : Hp G da v x H) {r : Nat} (hk_r : kd r = 11) {p1 : Int32} {p2 : Int32} (ho : oX11_goBring r p1 p2 v) {idx : Nat} (hml : Cond.methodLink own idx yX11_goBring ∈ TT) (hls : ls.size = nL) (hsum : (rest.map fun v => v.category).sum ≤ 8) (hR : rmX11_goBring.frames + 1 ≤ R.frames ∧ 8 + (4 + 11) + rmX11_goBring.locals ≤ R.locals) (hcs : cells ≤ R.cells ∧ slots ≤ R.slots) (hdg : decode cc pc = .ok (.invokevirtual idx, 3)) (kk : ∀ (d : Nat → Nat) (H1 : Heap) (locs1 : List Loc) (v1 : vSt), v1 = (fX11_goBring r p1 p2 v).2 → Hp G d v1 x H1 → va_S (gA G) s.heap H1 locs1 → W p l e R s m args below meth c H1 locs1 cells slots Q (F0 m (pc + 3) ls (.int (fX11_goBring r p1 p2 v).1 :: rest))) : W p l e R s m args below meth c H locs cells slots Q (F0 m pc ls (.int p2 :: .int p1 :: .ref (ga G r) :: rest)) := c_mi X.2.2.2.2.2.2 (runV (k := 2) X.1 X.2.1 X.2.2.1 X.2.2.2.1 X.2.2.2.2.1 (mX11_goBring l G da v x r hk_r p1 p2 ho) pW_bl hml t_im_X11_goBring t_sel_X11_goBring t_ini_VernierDrawersModel t_code_X11_goBring ⟨rfl, by decide, by decide, by decide +kernel⟩ rfl rfl hR hcs (recvW X hH (by rw [hk_r]; decide) (by rw [hk_r]; decide) (ce_11 hk_r) rfl) (preW X hS hH) rfl hls rfl hsum hdg) hS kk
