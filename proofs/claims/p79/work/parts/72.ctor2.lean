/-! THE CONSTRUCTORS, b: drawer, bench, state. -/
theorem dX2_init_0 : decode cX2_init 0 = .ok (.aload_n 0, 1) := by decide +kernel
theorem dX2_init_1 : decode cX2_init 1 = .ok (.invokespecial 3, 3) := by decide +kernel
theorem dX2_init_4 : decode cX2_init 4 = .ok (.aload_n 0, 1) := by decide +kernel
theorem dX2_init_5 : decode cX2_init 5 = .ok (.bipush 6, 2) := by decide +kernel
theorem dX2_init_7 : decode cX2_init 7 = .ok (.anewarray 9, 3) := by decide +kernel
theorem dX2_init_10 : decode cX2_init 10 = .ok (.putfield 11, 3) := by decide +kernel
theorem dX2_init_13 : decode cX2_init 13 = .ok (.aload_n 0, 1) := by decide +kernel
theorem dX2_init_14 : decode cX2_init 14 = .ok (.bipush 10, 2) := by decide +kernel
theorem dX2_init_16 : decode cX2_init 16 = .ok (.anewarray 17, 3) := by decide +kernel
theorem dX2_init_19 : decode cX2_init 19 = .ok (.putfield 19, 3) := by decide +kernel
theorem dX2_init_22 : decode cX2_init 22 = .ok (.aload_n 0, 1) := by decide +kernel
theorem dX2_init_23 : decode cX2_init 23 = .ok (.bipush 20, 2) := by decide +kernel
theorem dX2_init_25 : decode cX2_init 25 = .ok (.putfield 23, 3) := by decide +kernel
theorem dX2_init_28 : decode cX2_init 28 = .ok (.iconst 0, 1) := by decide +kernel
theorem dX2_init_29 : decode cX2_init 29 = .ok (.istore_n 1, 1) := by decide +kernel
theorem dX2_init_30 : decode cX2_init 30 = .ok (.iload_n 1, 1) := by decide +kernel
theorem dX2_init_31 : decode cX2_init 31 = .ok (.aload_n 0, 1) := by decide +kernel
theorem dX2_init_32 : decode cX2_init 32 = .ok (.getfield 11, 3) := by decide +kernel
theorem dX2_init_35 : decode cX2_init 35 = .ok (.arraylength, 1) := by decide +kernel
theorem dX2_init_36 : decode cX2_init 36 = .ok (.if_icmp .ge 22, 3) := by decide +kernel
theorem dX2_init_39 : decode cX2_init 39 = .ok (.aload_n 0, 1) := by decide +kernel
theorem dX2_init_40 : decode cX2_init 40 = .ok (.getfield 11, 3) := by decide +kernel
theorem dX2_init_43 : decode cX2_init 43 = .ok (.iload_n 1, 1) := by decide +kernel
theorem dX2_init_44 : decode cX2_init 44 = .ok (.new 9, 3) := by decide +kernel
theorem dX2_init_47 : decode cX2_init 47 = .ok (.dup, 1) := by decide +kernel
theorem dX2_init_48 : decode cX2_init 48 = .ok (.invokespecial 27, 3) := by decide +kernel
theorem dX2_init_51 : decode cX2_init 51 = .ok (.aastore, 1) := by decide +kernel
theorem dX2_init_52 : decode cX2_init 52 = .ok (.iinc 1 1, 3) := by decide +kernel
theorem dX2_init_55 : decode cX2_init 55 = .ok (.goto (-25), 3) := by decide +kernel
theorem dX2_init_58 : decode cX2_init 58 = .ok (.iconst 0, 1) := by decide +kernel
theorem dX2_init_59 : decode cX2_init 59 = .ok (.istore_n 1, 1) := by decide +kernel
theorem dX2_init_60 : decode cX2_init 60 = .ok (.iload_n 1, 1) := by decide +kernel
theorem dX2_init_61 : decode cX2_init 61 = .ok (.aload_n 0, 1) := by decide +kernel
theorem dX2_init_62 : decode cX2_init 62 = .ok (.getfield 19, 3) := by decide +kernel
theorem dX2_init_65 : decode cX2_init 65 = .ok (.arraylength, 1) := by decide +kernel
theorem dX2_init_66 : decode cX2_init 66 = .ok (.if_icmp .ge 22, 3) := by decide +kernel
theorem dX2_init_69 : decode cX2_init 69 = .ok (.aload_n 0, 1) := by decide +kernel
theorem dX2_init_70 : decode cX2_init 70 = .ok (.getfield 19, 3) := by decide +kernel
theorem dX2_init_73 : decode cX2_init 73 = .ok (.iload_n 1, 1) := by decide +kernel
theorem dX2_init_74 : decode cX2_init 74 = .ok (.new 17, 3) := by decide +kernel
theorem dX2_init_77 : decode cX2_init 77 = .ok (.dup, 1) := by decide +kernel
theorem dX2_init_78 : decode cX2_init 78 = .ok (.invokespecial 28, 3) := by decide +kernel
theorem dX2_init_81 : decode cX2_init 81 = .ok (.aastore, 1) := by decide +kernel
theorem dX2_init_82 : decode cX2_init 82 = .ok (.iinc 1 1, 3) := by decide +kernel
theorem dX2_init_85 : decode cX2_init 85 = .ok (.goto (-25), 3) := by decide +kernel
theorem dX2_init_88 : decode cX2_init 88 = .ok (.return_, 1) := by decide +kernel
def FN_X2 (G : gG) (q : Nat) (δ : Nat → Nat) : va_W := [((δ 0), aQ (gc G 6) 10 (va_up (va_up (va_up (va_up (va_up (va_up (va_up (va_up (va_up (va_up (fun _ => none) (0 : Int32).toNatClampNeg (some (δ 1))) (1 : Int32).toNatClampNeg (some (δ 2))) (2 : Int32).toNatClampNeg (some (δ 3))) (3 : Int32).toNatClampNeg (some (δ 4))) (4 : Int32).toNatClampNeg (some (δ 5))) (5 : Int32).toNatClampNeg (some (δ 6))) (6 : Int32).toNatClampNeg (some (δ 7))) (7 : Int32).toNatClampNeg (some (δ 8))) (8 : Int32).toNatClampNeg (some (δ 9))) (9 : Int32).toNatClampNeg (some (δ 10)))), ((δ 11), aQ (gc G 5) 6 (va_up (va_up (va_up (va_up (va_up (va_up (fun _ => none) (0 : Int32).toNatClampNeg (some (δ 12))) (1 : Int32).toNatClampNeg (some (δ 13))) (2 : Int32).toNatClampNeg (some (δ 14))) (3 : Int32).toNatClampNeg (some (δ 15))) (4 : Int32).toNatClampNeg (some (δ 16))) (5 : Int32).toNatClampNeg (some (δ 17)))), (q, .inr (2, [.ref (δ 11), .ref (δ 0), .int 0, .int 0, .int 20, .int 0])), ((δ 10), .inr (1, [.int 0, .int 0, .int 0])), ((δ 9), .inr (1, [.int 0, .int 0, .int 0])), ((δ 8), .inr (1, [.int 0, .int 0, .int 0])), ((δ 7), .inr (1, [.int 0, .int 0, .int 0])), ((δ 6), .inr (1, [.int 0, .int 0, .int 0])), ((δ 5), .inr (1, [.int 0, .int 0, .int 0])), ((δ 4), .inr (1, [.int 0, .int 0, .int 0])), ((δ 3), .inr (1, [.int 0, .int 0, .int 0])), ((δ 2), .inr (1, [.int 0, .int 0, .int 0])), ((δ 1), .inr (1, [.int 0, .int 0, .int 0])), ((δ 17), .inr (8, [.int 0, .int 0, .int 0, .int 0, .int 0, .int 0, .int 0, .int 0, .int 0])), ((δ 16), .inr (8, [.int 0, .int 0, .int 0, .int 0, .int 0, .int 0, .int 0, .int 0, .int 0])), ((δ 15), .inr (8, [.int 0, .int 0, .int 0, .int 0, .int 0, .int 0, .int 0, .int 0, .int 0])), ((δ 14), .inr (8, [.int 0, .int 0, .int 0, .int 0, .int 0, .int 0, .int 0, .int 0, .int 0])), ((δ 13), .inr (8, [.int 0, .int 0, .int 0, .int 0, .int 0, .int 0, .int 0, .int 0, .int 0])), ((δ 12), .inr (8, [.int 0, .int 0, .int 0, .int 0, .int 0, .int 0, .int 0, .int 0, .int 0]))]
abbrev rmN_X2 : Room := { frames := 2, cells := 18, slots := 100, locals := 32 }
theorem k_N2 (l : Launch) (G : gG) : NIc l yX2_init cX2_init 2 rmN_X2 G (.inr (2, [.null, .null, .int 0, .int 0, .int 0, .int 0])) 18 100 (FN_X2 G) := by
  refine gofN (own := RX2) (by decide +kernel) rfl rfl (by decide) (fun a ws p e s m args below meth c ls Q X hin hAO hH hl E => ?_)
  have hx := X.1
  have hb := X.2.1
  have hS : va_S (gA G) s.heap s.heap [] := va_S.rf
  refine lv_aload_n hx hb dX2_init_0 rfl (lv_at hl 0 rfl) ?_
  refine n_obj X t_ml_Drawer_3 hl.1 dX2_init_1 (Nat.le_of_ble_eq_true rfl) (Nat.le_of_ble_eq_true rfl) ?_
  refine lv_aload_n hx hb dX2_init_4 rfl (lv_at hl 0 rfl) ?_
  refine lv_bipush (v := 6) hx hb dX2_init_5 (by decide) ?_
  refine n_newq (C := RX8) X t_cl_Drawer_9 hAO.1 (t0 := 5) rfl (n := 6) (N' := 6) (by decide) rfl (Nat.le_of_ble_eq_true rfl) hH hS (Nat.le_of_ble_eq_true rfl) (Nat.le_of_ble_eq_true rfl) dX2_init_7 (fun q1 H hH hS => ?_)
  have hH : GW G ((q1, aQ (gc G 5) 6 (fun _ => none)) :: (a, .inr (2, [.null, .null, .int 0, .int 0, .int 0, .int 0])) :: ws) H := hH
  refine n_putF X hin (C := RX2) inX2 tyX2 tyX2_ok nmX2 hH hS 1 rfl rfl 0 (by decide) t_fl_Drawer_11 rfl rfl rfl (tyX2_ok 0 (by decide)) rfl rfl (Nat.le_of_ble_eq_true rfl) dX2_init_10 (fun H locs hH hS => ?_)
  have hH : GW G ((q1, aQ (gc G 5) 6 (fun _ => none)) :: (a, .inr (2, [.ref q1, .null, .int 0, .int 0, .int 0, .int 0])) :: ws) H := hH
  refine lv_aload_n hx hb dX2_init_13 rfl (lv_at hl 0 rfl) ?_
  refine lv_bipush (v := 10) hx hb dX2_init_14 (by decide) ?_
  refine n_newq (C := RX1) X t_cl_Drawer_17 hAO.2.1 (t0 := 6) rfl (n := 10) (N' := 10) (by decide) rfl (Nat.le_of_ble_eq_true rfl) hH hS (Nat.le_of_ble_eq_true rfl) (Nat.le_of_ble_eq_true rfl) dX2_init_16 (fun q2 H hH hS => ?_)
  have hH : GW G ((q2, aQ (gc G 6) 10 (fun _ => none)) :: (q1, aQ (gc G 5) 6 (fun _ => none)) :: (a, .inr (2, [.ref q1, .null, .int 0, .int 0, .int 0, .int 0])) :: ws) H := hH
  refine n_putF X hin (C := RX2) inX2 tyX2 tyX2_ok nmX2 hH hS 2 rfl rfl 1 (by decide) t_fl_Drawer_19 rfl rfl rfl (tyX2_ok 1 (by decide)) rfl rfl (Nat.le_of_ble_eq_true rfl) dX2_init_19 (fun H locs hH hS => ?_)
  have hH : GW G ((q2, aQ (gc G 6) 10 (fun _ => none)) :: (q1, aQ (gc G 5) 6 (fun _ => none)) :: (a, .inr (2, [.ref q1, .ref q2, .int 0, .int 0, .int 0, .int 0])) :: ws) H := hH
  refine lv_aload_n hx hb dX2_init_22 rfl (lv_at hl 0 rfl) ?_
  refine lv_bipush (v := 20) hx hb dX2_init_23 (by decide) ?_
  refine n_put X (C := RX2) inX2 tyX2 tyX2_ok nmX2 hH hS 2 rfl rfl 4 (by decide) t_fl_Drawer_23 rfl rfl (tyX2_ok 4 (by decide)) rfl rfl (Nat.le_of_ble_eq_true rfl) dX2_init_25 (fun H locs hH hS => ?_)
  have hH : GW G ((q2, aQ (gc G 6) 10 (fun _ => none)) :: (q1, aQ (gc G 5) 6 (fun _ => none)) :: (a, .inr (2, [.ref q1, .ref q2, .int 0, .int 0, .int 20, .int 0])) :: ws) H := hH
  refine lv_iconst (v := 0) hx hb dX2_init_28 (by decide) ?_
  refine lv_istore_n (lv' := [(1, .int 0), (0, .ref a)]) hx hb dX2_init_29 rfl hl (by decide) rfl (fun ls hl => ?_)
  refine lv_iload_n hx hb dX2_init_30 rfl (lv_at hl 0 rfl) ?_
  refine lv_aload_n hx hb dX2_init_31 rfl (lv_at hl 1 rfl) ?_
  refine n_get X (C := RX2) inX2 hH 2 rfl rfl 0 (by decide) t_fl_Drawer_11 rfl rfl dX2_init_32 ?_
  refine n_alen X hH 1 5 rfl rfl (y := 6) rfl dX2_init_35 ?_
  refine lv_icmp_ge (tgt := 58) hx hb dX2_init_36 (by decide) (fun z => absurd z (by decide)) (fun _ => ?_)
  refine lv_aload_n hx hb dX2_init_39 rfl (lv_at hl 1 rfl) ?_
  refine n_get X (C := RX2) inX2 hH 2 rfl rfl 0 (by decide) t_fl_Drawer_11 rfl rfl dX2_init_40 ?_
  refine lv_iload_n hx hb dX2_init_43 rfl (lv_at hl 0 rfl) ?_
  refine n_new X (C := RX8) tyX8 tyX8_ok inX8 t_cl_Drawer_9 t_inst_Tool t_ini_Tool (ci := 8) rfl (fs := [.int 0, .int 0, .int 0, .int 0, .int 0, .int 0, .int 0, .int 0, .int 0]) dfX8 hH hS (Nat.le_of_ble_eq_true rfl) (Nat.le_of_ble_eq_true rfl) dX2_init_44 (fun q3 H hH hS => ?_)
  refine lv_dup hx hb dX2_init_47 rfl ?_
  refine n_callN X hAO (k_N8 l G) (X.2.2.2.2.2.1.2.2.1 _ t_mn_Drawer_27 rfl) t_im_X8_init t_ini_Tool t_code_X8_init rfl ⟨by decide +kernel, by decide +kernel, by decide +kernel⟩ rfl rfl ⟨(Nat.le_of_ble_eq_true rfl), (Nat.le_of_ble_eq_true rfl)⟩ ⟨(Nat.le_of_ble_eq_true rfl), (Nat.le_of_ble_eq_true rfl)⟩ hH hS hl.1 (Nat.le_of_ble_eq_true rfl) dX2_init_48 (fun α4 H locs hH hS => ?_)
  have hH := GW.under (h := [(q2, aQ (gc G 6) 10 (fun _ => none)), (q1, aQ (gc G 5) 6 (fun _ => none)), (a, .inr (2, [.ref q1, .ref q2, .int 0, .int 0, .int 20, .int 0]))]) hH
  have hH : GW G ((q2, aQ (gc G 6) 10 (fun _ => none)) :: (q1, aQ (gc G 5) 6 (fun _ => none)) :: (a, .inr (2, [.ref q1, .ref q2, .int 0, .int 0, .int 20, .int 0])) :: (FN_X8 G q3 α4 ++ ws)) H := hH
  refine n_astq X hH hS 1 5 3 8 rfl rfl rfl rfl (i := 0) (i_in (by decide) (by decide)) dX2_init_51 (fun H locs hH hS => ?_)
  have hH : GW G ((q2, aQ (gc G 6) 10 (fun _ => none)) :: (q1, aQ (gc G 5) 6 (va_up (fun _ => none) (0 : Int32).toNatClampNeg (some q3))) :: (a, .inr (2, [.ref q1, .ref q2, .int 0, .int 0, .int 20, .int 0])) :: (FN_X8 G q3 α4 ++ ws)) H := hH
  refine lv_iinc (v := 1) (lv' := [(1, .int 1), (0, .ref a)]) hx hb dX2_init_52 hl (k := 0) rfl (by decide) (by decide) rfl (fun ls hl => ?_)
  refine lv_goto (tgt := 30) hx hb dX2_init_55 (by decide) ?_
  refine lv_iload_n hx hb dX2_init_30 rfl (lv_at hl 0 rfl) ?_
  refine lv_aload_n hx hb dX2_init_31 rfl (lv_at hl 1 rfl) ?_
  refine n_get X (C := RX2) inX2 hH 2 rfl rfl 0 (by decide) t_fl_Drawer_11 rfl rfl dX2_init_32 ?_
  refine n_alen X hH 1 5 rfl rfl (y := 6) rfl dX2_init_35 ?_
  refine lv_icmp_ge (tgt := 58) hx hb dX2_init_36 (by decide) (fun z => absurd z (by decide)) (fun _ => ?_)
  refine lv_aload_n hx hb dX2_init_39 rfl (lv_at hl 1 rfl) ?_
  refine n_get X (C := RX2) inX2 hH 2 rfl rfl 0 (by decide) t_fl_Drawer_11 rfl rfl dX2_init_40 ?_
  refine lv_iload_n hx hb dX2_init_43 rfl (lv_at hl 0 rfl) ?_
  refine n_new X (C := RX8) tyX8 tyX8_ok inX8 t_cl_Drawer_9 t_inst_Tool t_ini_Tool (ci := 8) rfl (fs := [.int 0, .int 0, .int 0, .int 0, .int 0, .int 0, .int 0, .int 0, .int 0]) dfX8 hH hS (Nat.le_of_ble_eq_true rfl) (Nat.le_of_ble_eq_true rfl) dX2_init_44 (fun q5 H hH hS => ?_)
  refine lv_dup hx hb dX2_init_47 rfl ?_
  refine n_callN X hAO (k_N8 l G) (X.2.2.2.2.2.1.2.2.1 _ t_mn_Drawer_27 rfl) t_im_X8_init t_ini_Tool t_code_X8_init rfl ⟨by decide +kernel, by decide +kernel, by decide +kernel⟩ rfl rfl ⟨(Nat.le_of_ble_eq_true rfl), (Nat.le_of_ble_eq_true rfl)⟩ ⟨(Nat.le_of_ble_eq_true rfl), (Nat.le_of_ble_eq_true rfl)⟩ hH hS hl.1 (Nat.le_of_ble_eq_true rfl) dX2_init_48 (fun α6 H locs hH hS => ?_)
  have hH := GW.under (h := [(q2, aQ (gc G 6) 10 (fun _ => none)), (q1, aQ (gc G 5) 6 (va_up (fun _ => none) (0 : Int32).toNatClampNeg (some q3))), (a, .inr (2, [.ref q1, .ref q2, .int 0, .int 0, .int 20, .int 0]))]) hH
  have hH : GW G ((q2, aQ (gc G 6) 10 (fun _ => none)) :: (q1, aQ (gc G 5) 6 (va_up (fun _ => none) (0 : Int32).toNatClampNeg (some q3))) :: (a, .inr (2, [.ref q1, .ref q2, .int 0, .int 0, .int 20, .int 0])) :: (FN_X8 G q5 α6 ++ (FN_X8 G q3 α4 ++ ws))) H := hH
  refine n_astq X hH hS 1 5 3 8 rfl rfl rfl rfl (i := 1) (i_in (by decide) (by decide)) dX2_init_51 (fun H locs hH hS => ?_)
  have hH : GW G ((q2, aQ (gc G 6) 10 (fun _ => none)) :: (q1, aQ (gc G 5) 6 (va_up (va_up (fun _ => none) (0 : Int32).toNatClampNeg (some q3)) (1 : Int32).toNatClampNeg (some q5))) :: (a, .inr (2, [.ref q1, .ref q2, .int 0, .int 0, .int 20, .int 0])) :: (FN_X8 G q5 α6 ++ (FN_X8 G q3 α4 ++ ws))) H := hH
  refine lv_iinc (v := 2) (lv' := [(1, .int 2), (0, .ref a)]) hx hb dX2_init_52 hl (k := 0) rfl (by decide) (by decide) rfl (fun ls hl => ?_)
  refine lv_goto (tgt := 30) hx hb dX2_init_55 (by decide) ?_
  refine lv_iload_n hx hb dX2_init_30 rfl (lv_at hl 0 rfl) ?_
  refine lv_aload_n hx hb dX2_init_31 rfl (lv_at hl 1 rfl) ?_
  refine n_get X (C := RX2) inX2 hH 2 rfl rfl 0 (by decide) t_fl_Drawer_11 rfl rfl dX2_init_32 ?_
  refine n_alen X hH 1 5 rfl rfl (y := 6) rfl dX2_init_35 ?_
  refine lv_icmp_ge (tgt := 58) hx hb dX2_init_36 (by decide) (fun z => absurd z (by decide)) (fun _ => ?_)
  refine lv_aload_n hx hb dX2_init_39 rfl (lv_at hl 1 rfl) ?_
  refine n_get X (C := RX2) inX2 hH 2 rfl rfl 0 (by decide) t_fl_Drawer_11 rfl rfl dX2_init_40 ?_
  refine lv_iload_n hx hb dX2_init_43 rfl (lv_at hl 0 rfl) ?_
  refine n_new X (C := RX8) tyX8 tyX8_ok inX8 t_cl_Drawer_9 t_inst_Tool t_ini_Tool (ci := 8) rfl (fs := [.int 0, .int 0, .int 0, .int 0, .int 0, .int 0, .int 0, .int 0, .int 0]) dfX8 hH hS (Nat.le_of_ble_eq_true rfl) (Nat.le_of_ble_eq_true rfl) dX2_init_44 (fun q7 H hH hS => ?_)
  refine lv_dup hx hb dX2_init_47 rfl ?_
  refine n_callN X hAO (k_N8 l G) (X.2.2.2.2.2.1.2.2.1 _ t_mn_Drawer_27 rfl) t_im_X8_init t_ini_Tool t_code_X8_init rfl ⟨by decide +kernel, by decide +kernel, by decide +kernel⟩ rfl rfl ⟨(Nat.le_of_ble_eq_true rfl), (Nat.le_of_ble_eq_true rfl)⟩ ⟨(Nat.le_of_ble_eq_true rfl), (Nat.le_of_ble_eq_true rfl)⟩ hH hS hl.1 (Nat.le_of_ble_eq_true rfl) dX2_init_48 (fun α8 H locs hH hS => ?_)
  have hH := GW.under (h := [(q2, aQ (gc G 6) 10 (fun _ => none)), (q1, aQ (gc G 5) 6 (va_up (va_up (fun _ => none) (0 : Int32).toNatClampNeg (some q3)) (1 : Int32).toNatClampNeg (some q5))), (a, .inr (2, [.ref q1, .ref q2, .int 0, .int 0, .int 20, .int 0]))]) hH
  have hH : GW G ((q2, aQ (gc G 6) 10 (fun _ => none)) :: (q1, aQ (gc G 5) 6 (va_up (va_up (fun _ => none) (0 : Int32).toNatClampNeg (some q3)) (1 : Int32).toNatClampNeg (some q5))) :: (a, .inr (2, [.ref q1, .ref q2, .int 0, .int 0, .int 20, .int 0])) :: (FN_X8 G q7 α8 ++ (FN_X8 G q5 α6 ++ (FN_X8 G q3 α4 ++ ws)))) H := hH
  refine n_astq X hH hS 1 5 3 8 rfl rfl rfl rfl (i := 2) (i_in (by decide) (by decide)) dX2_init_51 (fun H locs hH hS => ?_)
  have hH : GW G ((q2, aQ (gc G 6) 10 (fun _ => none)) :: (q1, aQ (gc G 5) 6 (va_up (va_up (va_up (fun _ => none) (0 : Int32).toNatClampNeg (some q3)) (1 : Int32).toNatClampNeg (some q5)) (2 : Int32).toNatClampNeg (some q7))) :: (a, .inr (2, [.ref q1, .ref q2, .int 0, .int 0, .int 20, .int 0])) :: (FN_X8 G q7 α8 ++ (FN_X8 G q5 α6 ++ (FN_X8 G q3 α4 ++ ws)))) H := hH
  refine lv_iinc (v := 3) (lv' := [(1, .int 3), (0, .ref a)]) hx hb dX2_init_52 hl (k := 0) rfl (by decide) (by decide) rfl (fun ls hl => ?_)
  refine lv_goto (tgt := 30) hx hb dX2_init_55 (by decide) ?_
  refine lv_iload_n hx hb dX2_init_30 rfl (lv_at hl 0 rfl) ?_
  refine lv_aload_n hx hb dX2_init_31 rfl (lv_at hl 1 rfl) ?_
  refine n_get X (C := RX2) inX2 hH 2 rfl rfl 0 (by decide) t_fl_Drawer_11 rfl rfl dX2_init_32 ?_
  refine n_alen X hH 1 5 rfl rfl (y := 6) rfl dX2_init_35 ?_
  refine lv_icmp_ge (tgt := 58) hx hb dX2_init_36 (by decide) (fun z => absurd z (by decide)) (fun _ => ?_)
  refine lv_aload_n hx hb dX2_init_39 rfl (lv_at hl 1 rfl) ?_
  refine n_get X (C := RX2) inX2 hH 2 rfl rfl 0 (by decide) t_fl_Drawer_11 rfl rfl dX2_init_40 ?_
  refine lv_iload_n hx hb dX2_init_43 rfl (lv_at hl 0 rfl) ?_
  refine n_new X (C := RX8) tyX8 tyX8_ok inX8 t_cl_Drawer_9 t_inst_Tool t_ini_Tool (ci := 8) rfl (fs := [.int 0, .int 0, .int 0, .int 0, .int 0, .int 0, .int 0, .int 0, .int 0]) dfX8 hH hS (Nat.le_of_ble_eq_true rfl) (Nat.le_of_ble_eq_true rfl) dX2_init_44 (fun q9 H hH hS => ?_)
  refine lv_dup hx hb dX2_init_47 rfl ?_
  refine n_callN X hAO (k_N8 l G) (X.2.2.2.2.2.1.2.2.1 _ t_mn_Drawer_27 rfl) t_im_X8_init t_ini_Tool t_code_X8_init rfl ⟨by decide +kernel, by decide +kernel, by decide +kernel⟩ rfl rfl ⟨(Nat.le_of_ble_eq_true rfl), (Nat.le_of_ble_eq_true rfl)⟩ ⟨(Nat.le_of_ble_eq_true rfl), (Nat.le_of_ble_eq_true rfl)⟩ hH hS hl.1 (Nat.le_of_ble_eq_true rfl) dX2_init_48 (fun α10 H locs hH hS => ?_)
  have hH := GW.under (h := [(q2, aQ (gc G 6) 10 (fun _ => none)), (q1, aQ (gc G 5) 6 (va_up (va_up (va_up (fun _ => none) (0 : Int32).toNatClampNeg (some q3)) (1 : Int32).toNatClampNeg (some q5)) (2 : Int32).toNatClampNeg (some q7))), (a, .inr (2, [.ref q1, .ref q2, .int 0, .int 0, .int 20, .int 0]))]) hH
  have hH : GW G ((q2, aQ (gc G 6) 10 (fun _ => none)) :: (q1, aQ (gc G 5) 6 (va_up (va_up (va_up (fun _ => none) (0 : Int32).toNatClampNeg (some q3)) (1 : Int32).toNatClampNeg (some q5)) (2 : Int32).toNatClampNeg (some q7))) :: (a, .inr (2, [.ref q1, .ref q2, .int 0, .int 0, .int 20, .int 0])) :: (FN_X8 G q9 α10 ++ (FN_X8 G q7 α8 ++ (FN_X8 G q5 α6 ++ (FN_X8 G q3 α4 ++ ws))))) H := hH
  refine n_astq X hH hS 1 5 3 8 rfl rfl rfl rfl (i := 3) (i_in (by decide) (by decide)) dX2_init_51 (fun H locs hH hS => ?_)
  have hH : GW G ((q2, aQ (gc G 6) 10 (fun _ => none)) :: (q1, aQ (gc G 5) 6 (va_up (va_up (va_up (va_up (fun _ => none) (0 : Int32).toNatClampNeg (some q3)) (1 : Int32).toNatClampNeg (some q5)) (2 : Int32).toNatClampNeg (some q7)) (3 : Int32).toNatClampNeg (some q9))) :: (a, .inr (2, [.ref q1, .ref q2, .int 0, .int 0, .int 20, .int 0])) :: (FN_X8 G q9 α10 ++ (FN_X8 G q7 α8 ++ (FN_X8 G q5 α6 ++ (FN_X8 G q3 α4 ++ ws))))) H := hH
  refine lv_iinc (v := 4) (lv' := [(1, .int 4), (0, .ref a)]) hx hb dX2_init_52 hl (k := 0) rfl (by decide) (by decide) rfl (fun ls hl => ?_)
  refine lv_goto (tgt := 30) hx hb dX2_init_55 (by decide) ?_
  refine lv_iload_n hx hb dX2_init_30 rfl (lv_at hl 0 rfl) ?_
  refine lv_aload_n hx hb dX2_init_31 rfl (lv_at hl 1 rfl) ?_
  refine n_get X (C := RX2) inX2 hH 2 rfl rfl 0 (by decide) t_fl_Drawer_11 rfl rfl dX2_init_32 ?_
  refine n_alen X hH 1 5 rfl rfl (y := 6) rfl dX2_init_35 ?_
  refine lv_icmp_ge (tgt := 58) hx hb dX2_init_36 (by decide) (fun z => absurd z (by decide)) (fun _ => ?_)
  refine lv_aload_n hx hb dX2_init_39 rfl (lv_at hl 1 rfl) ?_
  refine n_get X (C := RX2) inX2 hH 2 rfl rfl 0 (by decide) t_fl_Drawer_11 rfl rfl dX2_init_40 ?_
  refine lv_iload_n hx hb dX2_init_43 rfl (lv_at hl 0 rfl) ?_
  refine n_new X (C := RX8) tyX8 tyX8_ok inX8 t_cl_Drawer_9 t_inst_Tool t_ini_Tool (ci := 8) rfl (fs := [.int 0, .int 0, .int 0, .int 0, .int 0, .int 0, .int 0, .int 0, .int 0]) dfX8 hH hS (Nat.le_of_ble_eq_true rfl) (Nat.le_of_ble_eq_true rfl) dX2_init_44 (fun q11 H hH hS => ?_)
  refine lv_dup hx hb dX2_init_47 rfl ?_
  refine n_callN X hAO (k_N8 l G) (X.2.2.2.2.2.1.2.2.1 _ t_mn_Drawer_27 rfl) t_im_X8_init t_ini_Tool t_code_X8_init rfl ⟨by decide +kernel, by decide +kernel, by decide +kernel⟩ rfl rfl ⟨(Nat.le_of_ble_eq_true rfl), (Nat.le_of_ble_eq_true rfl)⟩ ⟨(Nat.le_of_ble_eq_true rfl), (Nat.le_of_ble_eq_true rfl)⟩ hH hS hl.1 (Nat.le_of_ble_eq_true rfl) dX2_init_48 (fun α12 H locs hH hS => ?_)
  have hH := GW.under (h := [(q2, aQ (gc G 6) 10 (fun _ => none)), (q1, aQ (gc G 5) 6 (va_up (va_up (va_up (va_up (fun _ => none) (0 : Int32).toNatClampNeg (some q3)) (1 : Int32).toNatClampNeg (some q5)) (2 : Int32).toNatClampNeg (some q7)) (3 : Int32).toNatClampNeg (some q9))), (a, .inr (2, [.ref q1, .ref q2, .int 0, .int 0, .int 20, .int 0]))]) hH
  have hH : GW G ((q2, aQ (gc G 6) 10 (fun _ => none)) :: (q1, aQ (gc G 5) 6 (va_up (va_up (va_up (va_up (fun _ => none) (0 : Int32).toNatClampNeg (some q3)) (1 : Int32).toNatClampNeg (some q5)) (2 : Int32).toNatClampNeg (some q7)) (3 : Int32).toNatClampNeg (some q9))) :: (a, .inr (2, [.ref q1, .ref q2, .int 0, .int 0, .int 20, .int 0])) :: (FN_X8 G q11 α12 ++ (FN_X8 G q9 α10 ++ (FN_X8 G q7 α8 ++ (FN_X8 G q5 α6 ++ (FN_X8 G q3 α4 ++ ws)))))) H := hH
  refine n_astq X hH hS 1 5 3 8 rfl rfl rfl rfl (i := 4) (i_in (by decide) (by decide)) dX2_init_51 (fun H locs hH hS => ?_)
  have hH : GW G ((q2, aQ (gc G 6) 10 (fun _ => none)) :: (q1, aQ (gc G 5) 6 (va_up (va_up (va_up (va_up (va_up (fun _ => none) (0 : Int32).toNatClampNeg (some q3)) (1 : Int32).toNatClampNeg (some q5)) (2 : Int32).toNatClampNeg (some q7)) (3 : Int32).toNatClampNeg (some q9)) (4 : Int32).toNatClampNeg (some q11))) :: (a, .inr (2, [.ref q1, .ref q2, .int 0, .int 0, .int 20, .int 0])) :: (FN_X8 G q11 α12 ++ (FN_X8 G q9 α10 ++ (FN_X8 G q7 α8 ++ (FN_X8 G q5 α6 ++ (FN_X8 G q3 α4 ++ ws)))))) H := hH
  refine lv_iinc (v := 5) (lv' := [(1, .int 5), (0, .ref a)]) hx hb dX2_init_52 hl (k := 0) rfl (by decide) (by decide) rfl (fun ls hl => ?_)
  refine lv_goto (tgt := 30) hx hb dX2_init_55 (by decide) ?_
  refine lv_iload_n hx hb dX2_init_30 rfl (lv_at hl 0 rfl) ?_
  refine lv_aload_n hx hb dX2_init_31 rfl (lv_at hl 1 rfl) ?_
  refine n_get X (C := RX2) inX2 hH 2 rfl rfl 0 (by decide) t_fl_Drawer_11 rfl rfl dX2_init_32 ?_
  refine n_alen X hH 1 5 rfl rfl (y := 6) rfl dX2_init_35 ?_
  refine lv_icmp_ge (tgt := 58) hx hb dX2_init_36 (by decide) (fun z => absurd z (by decide)) (fun _ => ?_)
  refine lv_aload_n hx hb dX2_init_39 rfl (lv_at hl 1 rfl) ?_
  refine n_get X (C := RX2) inX2 hH 2 rfl rfl 0 (by decide) t_fl_Drawer_11 rfl rfl dX2_init_40 ?_
  refine lv_iload_n hx hb dX2_init_43 rfl (lv_at hl 0 rfl) ?_
  refine n_new X (C := RX8) tyX8 tyX8_ok inX8 t_cl_Drawer_9 t_inst_Tool t_ini_Tool (ci := 8) rfl (fs := [.int 0, .int 0, .int 0, .int 0, .int 0, .int 0, .int 0, .int 0, .int 0]) dfX8 hH hS (Nat.le_of_ble_eq_true rfl) (Nat.le_of_ble_eq_true rfl) dX2_init_44 (fun q13 H hH hS => ?_)
  refine lv_dup hx hb dX2_init_47 rfl ?_
  refine n_callN X hAO (k_N8 l G) (X.2.2.2.2.2.1.2.2.1 _ t_mn_Drawer_27 rfl) t_im_X8_init t_ini_Tool t_code_X8_init rfl ⟨by decide +kernel, by decide +kernel, by decide +kernel⟩ rfl rfl ⟨(Nat.le_of_ble_eq_true rfl), (Nat.le_of_ble_eq_true rfl)⟩ ⟨(Nat.le_of_ble_eq_true rfl), (Nat.le_of_ble_eq_true rfl)⟩ hH hS hl.1 (Nat.le_of_ble_eq_true rfl) dX2_init_48 (fun α14 H locs hH hS => ?_)
  have hH := GW.under (h := [(q2, aQ (gc G 6) 10 (fun _ => none)), (q1, aQ (gc G 5) 6 (va_up (va_up (va_up (va_up (va_up (fun _ => none) (0 : Int32).toNatClampNeg (some q3)) (1 : Int32).toNatClampNeg (some q5)) (2 : Int32).toNatClampNeg (some q7)) (3 : Int32).toNatClampNeg (some q9)) (4 : Int32).toNatClampNeg (some q11))), (a, .inr (2, [.ref q1, .ref q2, .int 0, .int 0, .int 20, .int 0]))]) hH
  have hH : GW G ((q2, aQ (gc G 6) 10 (fun _ => none)) :: (q1, aQ (gc G 5) 6 (va_up (va_up (va_up (va_up (va_up (fun _ => none) (0 : Int32).toNatClampNeg (some q3)) (1 : Int32).toNatClampNeg (some q5)) (2 : Int32).toNatClampNeg (some q7)) (3 : Int32).toNatClampNeg (some q9)) (4 : Int32).toNatClampNeg (some q11))) :: (a, .inr (2, [.ref q1, .ref q2, .int 0, .int 0, .int 20, .int 0])) :: (FN_X8 G q13 α14 ++ (FN_X8 G q11 α12 ++ (FN_X8 G q9 α10 ++ (FN_X8 G q7 α8 ++ (FN_X8 G q5 α6 ++ (FN_X8 G q3 α4 ++ ws))))))) H := hH
  refine n_astq X hH hS 1 5 3 8 rfl rfl rfl rfl (i := 5) (i_in (by decide) (by decide)) dX2_init_51 (fun H locs hH hS => ?_)
  have hH : GW G ((q2, aQ (gc G 6) 10 (fun _ => none)) :: (q1, aQ (gc G 5) 6 (va_up (va_up (va_up (va_up (va_up (va_up (fun _ => none) (0 : Int32).toNatClampNeg (some q3)) (1 : Int32).toNatClampNeg (some q5)) (2 : Int32).toNatClampNeg (some q7)) (3 : Int32).toNatClampNeg (some q9)) (4 : Int32).toNatClampNeg (some q11)) (5 : Int32).toNatClampNeg (some q13))) :: (a, .inr (2, [.ref q1, .ref q2, .int 0, .int 0, .int 20, .int 0])) :: (FN_X8 G q13 α14 ++ (FN_X8 G q11 α12 ++ (FN_X8 G q9 α10 ++ (FN_X8 G q7 α8 ++ (FN_X8 G q5 α6 ++ (FN_X8 G q3 α4 ++ ws))))))) H := hH
  refine lv_iinc (v := 6) (lv' := [(1, .int 6), (0, .ref a)]) hx hb dX2_init_52 hl (k := 0) rfl (by decide) (by decide) rfl (fun ls hl => ?_)
  refine lv_goto (tgt := 30) hx hb dX2_init_55 (by decide) ?_
  refine lv_iload_n hx hb dX2_init_30 rfl (lv_at hl 0 rfl) ?_
  refine lv_aload_n hx hb dX2_init_31 rfl (lv_at hl 1 rfl) ?_
  refine n_get X (C := RX2) inX2 hH 2 rfl rfl 0 (by decide) t_fl_Drawer_11 rfl rfl dX2_init_32 ?_
  refine n_alen X hH 1 5 rfl rfl (y := 6) rfl dX2_init_35 ?_
  refine lv_icmp_ge (tgt := 58) hx hb dX2_init_36 (by decide) (fun _ => ?_) (fun z => absurd (by decide) z)
  refine lv_iconst (v := 0) hx hb dX2_init_58 (by decide) ?_
  refine lv_istore_n (lv' := [(1, .int 0), (0, .ref a)]) hx hb dX2_init_59 rfl hl (by decide) rfl (fun ls hl => ?_)
  refine lv_iload_n hx hb dX2_init_60 rfl (lv_at hl 0 rfl) ?_
  refine lv_aload_n hx hb dX2_init_61 rfl (lv_at hl 1 rfl) ?_
  refine n_get X (C := RX2) inX2 hH 2 rfl rfl 1 (by decide) t_fl_Drawer_19 rfl rfl dX2_init_62 ?_
  refine n_alen X hH 0 6 rfl rfl (y := 10) rfl dX2_init_65 ?_
  refine lv_icmp_ge (tgt := 88) hx hb dX2_init_66 (by decide) (fun z => absurd z (by decide)) (fun _ => ?_)
  refine lv_aload_n hx hb dX2_init_69 rfl (lv_at hl 1 rfl) ?_
  refine n_get X (C := RX2) inX2 hH 2 rfl rfl 1 (by decide) t_fl_Drawer_19 rfl rfl dX2_init_70 ?_
  refine lv_iload_n hx hb dX2_init_73 rfl (lv_at hl 0 rfl) ?_
  refine n_new X (C := RX1) tyX1 tyX1_ok inX1 t_cl_Drawer_17 t_inst_Block t_ini_Block (ci := 1) rfl (fs := [.int 0, .int 0, .int 0]) dfX1 hH hS (Nat.le_of_ble_eq_true rfl) (Nat.le_of_ble_eq_true rfl) dX2_init_74 (fun q15 H hH hS => ?_)
  refine lv_dup hx hb dX2_init_77 rfl ?_
  refine n_callN X hAO (k_N1 l G) (X.2.2.2.2.2.1.2.2.1 _ t_mn_Drawer_28 rfl) t_im_X1_init t_ini_Block t_code_X1_init rfl ⟨by decide +kernel, by decide +kernel, by decide +kernel⟩ rfl rfl ⟨(Nat.le_of_ble_eq_true rfl), (Nat.le_of_ble_eq_true rfl)⟩ ⟨(Nat.le_of_ble_eq_true rfl), (Nat.le_of_ble_eq_true rfl)⟩ hH hS hl.1 (Nat.le_of_ble_eq_true rfl) dX2_init_78 (fun α16 H locs hH hS => ?_)
  have hH := GW.under (h := [(q2, aQ (gc G 6) 10 (fun _ => none)), (q1, aQ (gc G 5) 6 (va_up (va_up (va_up (va_up (va_up (va_up (fun _ => none) (0 : Int32).toNatClampNeg (some q3)) (1 : Int32).toNatClampNeg (some q5)) (2 : Int32).toNatClampNeg (some q7)) (3 : Int32).toNatClampNeg (some q9)) (4 : Int32).toNatClampNeg (some q11)) (5 : Int32).toNatClampNeg (some q13))), (a, .inr (2, [.ref q1, .ref q2, .int 0, .int 0, .int 20, .int 0]))]) hH
  have hH : GW G ((q2, aQ (gc G 6) 10 (fun _ => none)) :: (q1, aQ (gc G 5) 6 (va_up (va_up (va_up (va_up (va_up (va_up (fun _ => none) (0 : Int32).toNatClampNeg (some q3)) (1 : Int32).toNatClampNeg (some q5)) (2 : Int32).toNatClampNeg (some q7)) (3 : Int32).toNatClampNeg (some q9)) (4 : Int32).toNatClampNeg (some q11)) (5 : Int32).toNatClampNeg (some q13))) :: (a, .inr (2, [.ref q1, .ref q2, .int 0, .int 0, .int 20, .int 0])) :: (FN_X1 G q15 α16 ++ (FN_X8 G q13 α14 ++ (FN_X8 G q11 α12 ++ (FN_X8 G q9 α10 ++ (FN_X8 G q7 α8 ++ (FN_X8 G q5 α6 ++ (FN_X8 G q3 α4 ++ ws)))))))) H := hH
  refine n_astq X hH hS 0 6 3 1 rfl rfl rfl rfl (i := 0) (i_in (by decide) (by decide)) dX2_init_81 (fun H locs hH hS => ?_)
  have hH : GW G ((q2, aQ (gc G 6) 10 (va_up (fun _ => none) (0 : Int32).toNatClampNeg (some q15))) :: (q1, aQ (gc G 5) 6 (va_up (va_up (va_up (va_up (va_up (va_up (fun _ => none) (0 : Int32).toNatClampNeg (some q3)) (1 : Int32).toNatClampNeg (some q5)) (2 : Int32).toNatClampNeg (some q7)) (3 : Int32).toNatClampNeg (some q9)) (4 : Int32).toNatClampNeg (some q11)) (5 : Int32).toNatClampNeg (some q13))) :: (a, .inr (2, [.ref q1, .ref q2, .int 0, .int 0, .int 20, .int 0])) :: (FN_X1 G q15 α16 ++ (FN_X8 G q13 α14 ++ (FN_X8 G q11 α12 ++ (FN_X8 G q9 α10 ++ (FN_X8 G q7 α8 ++ (FN_X8 G q5 α6 ++ (FN_X8 G q3 α4 ++ ws)))))))) H := hH
  refine lv_iinc (v := 1) (lv' := [(1, .int 1), (0, .ref a)]) hx hb dX2_init_82 hl (k := 0) rfl (by decide) (by decide) rfl (fun ls hl => ?_)
  refine lv_goto (tgt := 60) hx hb dX2_init_85 (by decide) ?_
  refine lv_iload_n hx hb dX2_init_60 rfl (lv_at hl 0 rfl) ?_
  refine lv_aload_n hx hb dX2_init_61 rfl (lv_at hl 1 rfl) ?_
  refine n_get X (C := RX2) inX2 hH 2 rfl rfl 1 (by decide) t_fl_Drawer_19 rfl rfl dX2_init_62 ?_
  refine n_alen X hH 0 6 rfl rfl (y := 10) rfl dX2_init_65 ?_
  refine lv_icmp_ge (tgt := 88) hx hb dX2_init_66 (by decide) (fun z => absurd z (by decide)) (fun _ => ?_)
  refine lv_aload_n hx hb dX2_init_69 rfl (lv_at hl 1 rfl) ?_
  refine n_get X (C := RX2) inX2 hH 2 rfl rfl 1 (by decide) t_fl_Drawer_19 rfl rfl dX2_init_70 ?_
  refine lv_iload_n hx hb dX2_init_73 rfl (lv_at hl 0 rfl) ?_
  refine n_new X (C := RX1) tyX1 tyX1_ok inX1 t_cl_Drawer_17 t_inst_Block t_ini_Block (ci := 1) rfl (fs := [.int 0, .int 0, .int 0]) dfX1 hH hS (Nat.le_of_ble_eq_true rfl) (Nat.le_of_ble_eq_true rfl) dX2_init_74 (fun q17 H hH hS => ?_)
  refine lv_dup hx hb dX2_init_77 rfl ?_
  refine n_callN X hAO (k_N1 l G) (X.2.2.2.2.2.1.2.2.1 _ t_mn_Drawer_28 rfl) t_im_X1_init t_ini_Block t_code_X1_init rfl ⟨by decide +kernel, by decide +kernel, by decide +kernel⟩ rfl rfl ⟨(Nat.le_of_ble_eq_true rfl), (Nat.le_of_ble_eq_true rfl)⟩ ⟨(Nat.le_of_ble_eq_true rfl), (Nat.le_of_ble_eq_true rfl)⟩ hH hS hl.1 (Nat.le_of_ble_eq_true rfl) dX2_init_78 (fun α18 H locs hH hS => ?_)
  have hH := GW.under (h := [(q2, aQ (gc G 6) 10 (va_up (fun _ => none) (0 : Int32).toNatClampNeg (some q15))), (q1, aQ (gc G 5) 6 (va_up (va_up (va_up (va_up (va_up (va_up (fun _ => none) (0 : Int32).toNatClampNeg (some q3)) (1 : Int32).toNatClampNeg (some q5)) (2 : Int32).toNatClampNeg (some q7)) (3 : Int32).toNatClampNeg (some q9)) (4 : Int32).toNatClampNeg (some q11)) (5 : Int32).toNatClampNeg (some q13))), (a, .inr (2, [.ref q1, .ref q2, .int 0, .int 0, .int 20, .int 0]))]) hH
  have hH : GW G ((q2, aQ (gc G 6) 10 (va_up (fun _ => none) (0 : Int32).toNatClampNeg (some q15))) :: (q1, aQ (gc G 5) 6 (va_up (va_up (va_up (va_up (va_up (va_up (fun _ => none) (0 : Int32).toNatClampNeg (some q3)) (1 : Int32).toNatClampNeg (some q5)) (2 : Int32).toNatClampNeg (some q7)) (3 : Int32).toNatClampNeg (some q9)) (4 : Int32).toNatClampNeg (some q11)) (5 : Int32).toNatClampNeg (some q13))) :: (a, .inr (2, [.ref q1, .ref q2, .int 0, .int 0, .int 20, .int 0])) :: (FN_X1 G q17 α18 ++ (FN_X1 G q15 α16 ++ (FN_X8 G q13 α14 ++ (FN_X8 G q11 α12 ++ (FN_X8 G q9 α10 ++ (FN_X8 G q7 α8 ++ (FN_X8 G q5 α6 ++ (FN_X8 G q3 α4 ++ ws))))))))) H := hH
  refine n_astq X hH hS 0 6 3 1 rfl rfl rfl rfl (i := 1) (i_in (by decide) (by decide)) dX2_init_81 (fun H locs hH hS => ?_)
  have hH : GW G ((q2, aQ (gc G 6) 10 (va_up (va_up (fun _ => none) (0 : Int32).toNatClampNeg (some q15)) (1 : Int32).toNatClampNeg (some q17))) :: (q1, aQ (gc G 5) 6 (va_up (va_up (va_up (va_up (va_up (va_up (fun _ => none) (0 : Int32).toNatClampNeg (some q3)) (1 : Int32).toNatClampNeg (some q5)) (2 : Int32).toNatClampNeg (some q7)) (3 : Int32).toNatClampNeg (some q9)) (4 : Int32).toNatClampNeg (some q11)) (5 : Int32).toNatClampNeg (some q13))) :: (a, .inr (2, [.ref q1, .ref q2, .int 0, .int 0, .int 20, .int 0])) :: (FN_X1 G q17 α18 ++ (FN_X1 G q15 α16 ++ (FN_X8 G q13 α14 ++ (FN_X8 G q11 α12 ++ (FN_X8 G q9 α10 ++ (FN_X8 G q7 α8 ++ (FN_X8 G q5 α6 ++ (FN_X8 G q3 α4 ++ ws))))))))) H := hH
  refine lv_iinc (v := 2) (lv' := [(1, .int 2), (0, .ref a)]) hx hb dX2_init_82 hl (k := 0) rfl (by decide) (by decide) rfl (fun ls hl => ?_)
  refine lv_goto (tgt := 60) hx hb dX2_init_85 (by decide) ?_
  refine lv_iload_n hx hb dX2_init_60 rfl (lv_at hl 0 rfl) ?_
  refine lv_aload_n hx hb dX2_init_61 rfl (lv_at hl 1 rfl) ?_
  refine n_get X (C := RX2) inX2 hH 2 rfl rfl 1 (by decide) t_fl_Drawer_19 rfl rfl dX2_init_62 ?_
  refine n_alen X hH 0 6 rfl rfl (y := 10) rfl dX2_init_65 ?_
  refine lv_icmp_ge (tgt := 88) hx hb dX2_init_66 (by decide) (fun z => absurd z (by decide)) (fun _ => ?_)
  refine lv_aload_n hx hb dX2_init_69 rfl (lv_at hl 1 rfl) ?_
  refine n_get X (C := RX2) inX2 hH 2 rfl rfl 1 (by decide) t_fl_Drawer_19 rfl rfl dX2_init_70 ?_
  refine lv_iload_n hx hb dX2_init_73 rfl (lv_at hl 0 rfl) ?_
  refine n_new X (C := RX1) tyX1 tyX1_ok inX1 t_cl_Drawer_17 t_inst_Block t_ini_Block (ci := 1) rfl (fs := [.int 0, .int 0, .int 0]) dfX1 hH hS (Nat.le_of_ble_eq_true rfl) (Nat.le_of_ble_eq_true rfl) dX2_init_74 (fun q19 H hH hS => ?_)
  refine lv_dup hx hb dX2_init_77 rfl ?_
  refine n_callN X hAO (k_N1 l G) (X.2.2.2.2.2.1.2.2.1 _ t_mn_Drawer_28 rfl) t_im_X1_init t_ini_Block t_code_X1_init rfl ⟨by decide +kernel, by decide +kernel, by decide +kernel⟩ rfl rfl ⟨(Nat.le_of_ble_eq_true rfl), (Nat.le_of_ble_eq_true rfl)⟩ ⟨(Nat.le_of_ble_eq_true rfl), (Nat.le_of_ble_eq_true rfl)⟩ hH hS hl.1 (Nat.le_of_ble_eq_true rfl) dX2_init_78 (fun α20 H locs hH hS => ?_)
  have hH := GW.under (h := [(q2, aQ (gc G 6) 10 (va_up (va_up (fun _ => none) (0 : Int32).toNatClampNeg (some q15)) (1 : Int32).toNatClampNeg (some q17))), (q1, aQ (gc G 5) 6 (va_up (va_up (va_up (va_up (va_up (va_up (fun _ => none) (0 : Int32).toNatClampNeg (some q3)) (1 : Int32).toNatClampNeg (some q5)) (2 : Int32).toNatClampNeg (some q7)) (3 : Int32).toNatClampNeg (some q9)) (4 : Int32).toNatClampNeg (some q11)) (5 : Int32).toNatClampNeg (some q13))), (a, .inr (2, [.ref q1, .ref q2, .int 0, .int 0, .int 20, .int 0]))]) hH
  have hH : GW G ((q2, aQ (gc G 6) 10 (va_up (va_up (fun _ => none) (0 : Int32).toNatClampNeg (some q15)) (1 : Int32).toNatClampNeg (some q17))) :: (q1, aQ (gc G 5) 6 (va_up (va_up (va_up (va_up (va_up (va_up (fun _ => none) (0 : Int32).toNatClampNeg (some q3)) (1 : Int32).toNatClampNeg (some q5)) (2 : Int32).toNatClampNeg (some q7)) (3 : Int32).toNatClampNeg (some q9)) (4 : Int32).toNatClampNeg (some q11)) (5 : Int32).toNatClampNeg (some q13))) :: (a, .inr (2, [.ref q1, .ref q2, .int 0, .int 0, .int 20, .int 0])) :: (FN_X1 G q19 α20 ++ (FN_X1 G q17 α18 ++ (FN_X1 G q15 α16 ++ (FN_X8 G q13 α14 ++ (FN_X8 G q11 α12 ++ (FN_X8 G q9 α10 ++ (FN_X8 G q7 α8 ++ (FN_X8 G q5 α6 ++ (FN_X8 G q3 α4 ++ ws)))))))))) H := hH
  refine n_astq X hH hS 0 6 3 1 rfl rfl rfl rfl (i := 2) (i_in (by decide) (by decide)) dX2_init_81 (fun H locs hH hS => ?_)
  have hH : GW G ((q2, aQ (gc G 6) 10 (va_up (va_up (va_up (fun _ => none) (0 : Int32).toNatClampNeg (some q15)) (1 : Int32).toNatClampNeg (some q17)) (2 : Int32).toNatClampNeg (some q19))) :: (q1, aQ (gc G 5) 6 (va_up (va_up (va_up (va_up (va_up (va_up (fun _ => none) (0 : Int32).toNatClampNeg (some q3)) (1 : Int32).toNatClampNeg (some q5)) (2 : Int32).toNatClampNeg (some q7)) (3 : Int32).toNatClampNeg (some q9)) (4 : Int32).toNatClampNeg (some q11)) (5 : Int32).toNatClampNeg (some q13))) :: (a, .inr (2, [.ref q1, .ref q2, .int 0, .int 0, .int 20, .int 0])) :: (FN_X1 G q19 α20 ++ (FN_X1 G q17 α18 ++ (FN_X1 G q15 α16 ++ (FN_X8 G q13 α14 ++ (FN_X8 G q11 α12 ++ (FN_X8 G q9 α10 ++ (FN_X8 G q7 α8 ++ (FN_X8 G q5 α6 ++ (FN_X8 G q3 α4 ++ ws)))))))))) H := hH
  refine lv_iinc (v := 3) (lv' := [(1, .int 3), (0, .ref a)]) hx hb dX2_init_82 hl (k := 0) rfl (by decide) (by decide) rfl (fun ls hl => ?_)
  refine lv_goto (tgt := 60) hx hb dX2_init_85 (by decide) ?_
  refine lv_iload_n hx hb dX2_init_60 rfl (lv_at hl 0 rfl) ?_
  refine lv_aload_n hx hb dX2_init_61 rfl (lv_at hl 1 rfl) ?_
  refine n_get X (C := RX2) inX2 hH 2 rfl rfl 1 (by decide) t_fl_Drawer_19 rfl rfl dX2_init_62 ?_
  refine n_alen X hH 0 6 rfl rfl (y := 10) rfl dX2_init_65 ?_
  refine lv_icmp_ge (tgt := 88) hx hb dX2_init_66 (by decide) (fun z => absurd z (by decide)) (fun _ => ?_)
  refine lv_aload_n hx hb dX2_init_69 rfl (lv_at hl 1 rfl) ?_
  refine n_get X (C := RX2) inX2 hH 2 rfl rfl 1 (by decide) t_fl_Drawer_19 rfl rfl dX2_init_70 ?_
  refine lv_iload_n hx hb dX2_init_73 rfl (lv_at hl 0 rfl) ?_
  refine n_new X (C := RX1) tyX1 tyX1_ok inX1 t_cl_Drawer_17 t_inst_Block t_ini_Block (ci := 1) rfl (fs := [.int 0, .int 0, .int 0]) dfX1 hH hS (Nat.le_of_ble_eq_true rfl) (Nat.le_of_ble_eq_true rfl) dX2_init_74 (fun q21 H hH hS => ?_)
  refine lv_dup hx hb dX2_init_77 rfl ?_
  refine n_callN X hAO (k_N1 l G) (X.2.2.2.2.2.1.2.2.1 _ t_mn_Drawer_28 rfl) t_im_X1_init t_ini_Block t_code_X1_init rfl ⟨by decide +kernel, by decide +kernel, by decide +kernel⟩ rfl rfl ⟨(Nat.le_of_ble_eq_true rfl), (Nat.le_of_ble_eq_true rfl)⟩ ⟨(Nat.le_of_ble_eq_true rfl), (Nat.le_of_ble_eq_true rfl)⟩ hH hS hl.1 (Nat.le_of_ble_eq_true rfl) dX2_init_78 (fun α22 H locs hH hS => ?_)
  have hH := GW.under (h := [(q2, aQ (gc G 6) 10 (va_up (va_up (va_up (fun _ => none) (0 : Int32).toNatClampNeg (some q15)) (1 : Int32).toNatClampNeg (some q17)) (2 : Int32).toNatClampNeg (some q19))), (q1, aQ (gc G 5) 6 (va_up (va_up (va_up (va_up (va_up (va_up (fun _ => none) (0 : Int32).toNatClampNeg (some q3)) (1 : Int32).toNatClampNeg (some q5)) (2 : Int32).toNatClampNeg (some q7)) (3 : Int32).toNatClampNeg (some q9)) (4 : Int32).toNatClampNeg (some q11)) (5 : Int32).toNatClampNeg (some q13))), (a, .inr (2, [.ref q1, .ref q2, .int 0, .int 0, .int 20, .int 0]))]) hH
  have hH : GW G ((q2, aQ (gc G 6) 10 (va_up (va_up (va_up (fun _ => none) (0 : Int32).toNatClampNeg (some q15)) (1 : Int32).toNatClampNeg (some q17)) (2 : Int32).toNatClampNeg (some q19))) :: (q1, aQ (gc G 5) 6 (va_up (va_up (va_up (va_up (va_up (va_up (fun _ => none) (0 : Int32).toNatClampNeg (some q3)) (1 : Int32).toNatClampNeg (some q5)) (2 : Int32).toNatClampNeg (some q7)) (3 : Int32).toNatClampNeg (some q9)) (4 : Int32).toNatClampNeg (some q11)) (5 : Int32).toNatClampNeg (some q13))) :: (a, .inr (2, [.ref q1, .ref q2, .int 0, .int 0, .int 20, .int 0])) :: (FN_X1 G q21 α22 ++ (FN_X1 G q19 α20 ++ (FN_X1 G q17 α18 ++ (FN_X1 G q15 α16 ++ (FN_X8 G q13 α14 ++ (FN_X8 G q11 α12 ++ (FN_X8 G q9 α10 ++ (FN_X8 G q7 α8 ++ (FN_X8 G q5 α6 ++ (FN_X8 G q3 α4 ++ ws))))))))))) H := hH
  refine n_astq X hH hS 0 6 3 1 rfl rfl rfl rfl (i := 3) (i_in (by decide) (by decide)) dX2_init_81 (fun H locs hH hS => ?_)
  have hH : GW G ((q2, aQ (gc G 6) 10 (va_up (va_up (va_up (va_up (fun _ => none) (0 : Int32).toNatClampNeg (some q15)) (1 : Int32).toNatClampNeg (some q17)) (2 : Int32).toNatClampNeg (some q19)) (3 : Int32).toNatClampNeg (some q21))) :: (q1, aQ (gc G 5) 6 (va_up (va_up (va_up (va_up (va_up (va_up (fun _ => none) (0 : Int32).toNatClampNeg (some q3)) (1 : Int32).toNatClampNeg (some q5)) (2 : Int32).toNatClampNeg (some q7)) (3 : Int32).toNatClampNeg (some q9)) (4 : Int32).toNatClampNeg (some q11)) (5 : Int32).toNatClampNeg (some q13))) :: (a, .inr (2, [.ref q1, .ref q2, .int 0, .int 0, .int 20, .int 0])) :: (FN_X1 G q21 α22 ++ (FN_X1 G q19 α20 ++ (FN_X1 G q17 α18 ++ (FN_X1 G q15 α16 ++ (FN_X8 G q13 α14 ++ (FN_X8 G q11 α12 ++ (FN_X8 G q9 α10 ++ (FN_X8 G q7 α8 ++ (FN_X8 G q5 α6 ++ (FN_X8 G q3 α4 ++ ws))))))))))) H := hH
  refine lv_iinc (v := 4) (lv' := [(1, .int 4), (0, .ref a)]) hx hb dX2_init_82 hl (k := 0) rfl (by decide) (by decide) rfl (fun ls hl => ?_)
  refine lv_goto (tgt := 60) hx hb dX2_init_85 (by decide) ?_
  refine lv_iload_n hx hb dX2_init_60 rfl (lv_at hl 0 rfl) ?_
  refine lv_aload_n hx hb dX2_init_61 rfl (lv_at hl 1 rfl) ?_
  refine n_get X (C := RX2) inX2 hH 2 rfl rfl 1 (by decide) t_fl_Drawer_19 rfl rfl dX2_init_62 ?_
  refine n_alen X hH 0 6 rfl rfl (y := 10) rfl dX2_init_65 ?_
  refine lv_icmp_ge (tgt := 88) hx hb dX2_init_66 (by decide) (fun z => absurd z (by decide)) (fun _ => ?_)
  refine lv_aload_n hx hb dX2_init_69 rfl (lv_at hl 1 rfl) ?_
  refine n_get X (C := RX2) inX2 hH 2 rfl rfl 1 (by decide) t_fl_Drawer_19 rfl rfl dX2_init_70 ?_
  refine lv_iload_n hx hb dX2_init_73 rfl (lv_at hl 0 rfl) ?_
  refine n_new X (C := RX1) tyX1 tyX1_ok inX1 t_cl_Drawer_17 t_inst_Block t_ini_Block (ci := 1) rfl (fs := [.int 0, .int 0, .int 0]) dfX1 hH hS (Nat.le_of_ble_eq_true rfl) (Nat.le_of_ble_eq_true rfl) dX2_init_74 (fun q23 H hH hS => ?_)
  refine lv_dup hx hb dX2_init_77 rfl ?_
  refine n_callN X hAO (k_N1 l G) (X.2.2.2.2.2.1.2.2.1 _ t_mn_Drawer_28 rfl) t_im_X1_init t_ini_Block t_code_X1_init rfl ⟨by decide +kernel, by decide +kernel, by decide +kernel⟩ rfl rfl ⟨(Nat.le_of_ble_eq_true rfl), (Nat.le_of_ble_eq_true rfl)⟩ ⟨(Nat.le_of_ble_eq_true rfl), (Nat.le_of_ble_eq_true rfl)⟩ hH hS hl.1 (Nat.le_of_ble_eq_true rfl) dX2_init_78 (fun α24 H locs hH hS => ?_)
  have hH := GW.under (h := [(q2, aQ (gc G 6) 10 (va_up (va_up (va_up (va_up (fun _ => none) (0 : Int32).toNatClampNeg (some q15)) (1 : Int32).toNatClampNeg (some q17)) (2 : Int32).toNatClampNeg (some q19)) (3 : Int32).toNatClampNeg (some q21))), (q1, aQ (gc G 5) 6 (va_up (va_up (va_up (va_up (va_up (va_up (fun _ => none) (0 : Int32).toNatClampNeg (some q3)) (1 : Int32).toNatClampNeg (some q5)) (2 : Int32).toNatClampNeg (some q7)) (3 : Int32).toNatClampNeg (some q9)) (4 : Int32).toNatClampNeg (some q11)) (5 : Int32).toNatClampNeg (some q13))), (a, .inr (2, [.ref q1, .ref q2, .int 0, .int 0, .int 20, .int 0]))]) hH
  have hH : GW G ((q2, aQ (gc G 6) 10 (va_up (va_up (va_up (va_up (fun _ => none) (0 : Int32).toNatClampNeg (some q15)) (1 : Int32).toNatClampNeg (some q17)) (2 : Int32).toNatClampNeg (some q19)) (3 : Int32).toNatClampNeg (some q21))) :: (q1, aQ (gc G 5) 6 (va_up (va_up (va_up (va_up (va_up (va_up (fun _ => none) (0 : Int32).toNatClampNeg (some q3)) (1 : Int32).toNatClampNeg (some q5)) (2 : Int32).toNatClampNeg (some q7)) (3 : Int32).toNatClampNeg (some q9)) (4 : Int32).toNatClampNeg (some q11)) (5 : Int32).toNatClampNeg (some q13))) :: (a, .inr (2, [.ref q1, .ref q2, .int 0, .int 0, .int 20, .int 0])) :: (FN_X1 G q23 α24 ++ (FN_X1 G q21 α22 ++ (FN_X1 G q19 α20 ++ (FN_X1 G q17 α18 ++ (FN_X1 G q15 α16 ++ (FN_X8 G q13 α14 ++ (FN_X8 G q11 α12 ++ (FN_X8 G q9 α10 ++ (FN_X8 G q7 α8 ++ (FN_X8 G q5 α6 ++ (FN_X8 G q3 α4 ++ ws)))))))))))) H := hH
  refine n_astq X hH hS 0 6 3 1 rfl rfl rfl rfl (i := 4) (i_in (by decide) (by decide)) dX2_init_81 (fun H locs hH hS => ?_)
  have hH : GW G ((q2, aQ (gc G 6) 10 (va_up (va_up (va_up (va_up (va_up (fun _ => none) (0 : Int32).toNatClampNeg (some q15)) (1 : Int32).toNatClampNeg (some q17)) (2 : Int32).toNatClampNeg (some q19)) (3 : Int32).toNatClampNeg (some q21)) (4 : Int32).toNatClampNeg (some q23))) :: (q1, aQ (gc G 5) 6 (va_up (va_up (va_up (va_up (va_up (va_up (fun _ => none) (0 : Int32).toNatClampNeg (some q3)) (1 : Int32).toNatClampNeg (some q5)) (2 : Int32).toNatClampNeg (some q7)) (3 : Int32).toNatClampNeg (some q9)) (4 : Int32).toNatClampNeg (some q11)) (5 : Int32).toNatClampNeg (some q13))) :: (a, .inr (2, [.ref q1, .ref q2, .int 0, .int 0, .int 20, .int 0])) :: (FN_X1 G q23 α24 ++ (FN_X1 G q21 α22 ++ (FN_X1 G q19 α20 ++ (FN_X1 G q17 α18 ++ (FN_X1 G q15 α16 ++ (FN_X8 G q13 α14 ++ (FN_X8 G q11 α12 ++ (FN_X8 G q9 α10 ++ (FN_X8 G q7 α8 ++ (FN_X8 G q5 α6 ++ (FN_X8 G q3 α4 ++ ws)))))))))))) H := hH
  refine lv_iinc (v := 5) (lv' := [(1, .int 5), (0, .ref a)]) hx hb dX2_init_82 hl (k := 0) rfl (by decide) (by decide) rfl (fun ls hl => ?_)
  refine lv_goto (tgt := 60) hx hb dX2_init_85 (by decide) ?_
  refine lv_iload_n hx hb dX2_init_60 rfl (lv_at hl 0 rfl) ?_
  refine lv_aload_n hx hb dX2_init_61 rfl (lv_at hl 1 rfl) ?_
  refine n_get X (C := RX2) inX2 hH 2 rfl rfl 1 (by decide) t_fl_Drawer_19 rfl rfl dX2_init_62 ?_
  refine n_alen X hH 0 6 rfl rfl (y := 10) rfl dX2_init_65 ?_
  refine lv_icmp_ge (tgt := 88) hx hb dX2_init_66 (by decide) (fun z => absurd z (by decide)) (fun _ => ?_)
  refine lv_aload_n hx hb dX2_init_69 rfl (lv_at hl 1 rfl) ?_
  refine n_get X (C := RX2) inX2 hH 2 rfl rfl 1 (by decide) t_fl_Drawer_19 rfl rfl dX2_init_70 ?_
  refine lv_iload_n hx hb dX2_init_73 rfl (lv_at hl 0 rfl) ?_
  refine n_new X (C := RX1) tyX1 tyX1_ok inX1 t_cl_Drawer_17 t_inst_Block t_ini_Block (ci := 1) rfl (fs := [.int 0, .int 0, .int 0]) dfX1 hH hS (Nat.le_of_ble_eq_true rfl) (Nat.le_of_ble_eq_true rfl) dX2_init_74 (fun q25 H hH hS => ?_)
  refine lv_dup hx hb dX2_init_77 rfl ?_
  refine n_callN X hAO (k_N1 l G) (X.2.2.2.2.2.1.2.2.1 _ t_mn_Drawer_28 rfl) t_im_X1_init t_ini_Block t_code_X1_init rfl ⟨by decide +kernel, by decide +kernel, by decide +kernel⟩ rfl rfl ⟨(Nat.le_of_ble_eq_true rfl), (Nat.le_of_ble_eq_true rfl)⟩ ⟨(Nat.le_of_ble_eq_true rfl), (Nat.le_of_ble_eq_true rfl)⟩ hH hS hl.1 (Nat.le_of_ble_eq_true rfl) dX2_init_78 (fun α26 H locs hH hS => ?_)
  have hH := GW.under (h := [(q2, aQ (gc G 6) 10 (va_up (va_up (va_up (va_up (va_up (fun _ => none) (0 : Int32).toNatClampNeg (some q15)) (1 : Int32).toNatClampNeg (some q17)) (2 : Int32).toNatClampNeg (some q19)) (3 : Int32).toNatClampNeg (some q21)) (4 : Int32).toNatClampNeg (some q23))), (q1, aQ (gc G 5) 6 (va_up (va_up (va_up (va_up (va_up (va_up (fun _ => none) (0 : Int32).toNatClampNeg (some q3)) (1 : Int32).toNatClampNeg (some q5)) (2 : Int32).toNatClampNeg (some q7)) (3 : Int32).toNatClampNeg (some q9)) (4 : Int32).toNatClampNeg (some q11)) (5 : Int32).toNatClampNeg (some q13))), (a, .inr (2, [.ref q1, .ref q2, .int 0, .int 0, .int 20, .int 0]))]) hH
  have hH : GW G ((q2, aQ (gc G 6) 10 (va_up (va_up (va_up (va_up (va_up (fun _ => none) (0 : Int32).toNatClampNeg (some q15)) (1 : Int32).toNatClampNeg (some q17)) (2 : Int32).toNatClampNeg (some q19)) (3 : Int32).toNatClampNeg (some q21)) (4 : Int32).toNatClampNeg (some q23))) :: (q1, aQ (gc G 5) 6 (va_up (va_up (va_up (va_up (va_up (va_up (fun _ => none) (0 : Int32).toNatClampNeg (some q3)) (1 : Int32).toNatClampNeg (some q5)) (2 : Int32).toNatClampNeg (some q7)) (3 : Int32).toNatClampNeg (some q9)) (4 : Int32).toNatClampNeg (some q11)) (5 : Int32).toNatClampNeg (some q13))) :: (a, .inr (2, [.ref q1, .ref q2, .int 0, .int 0, .int 20, .int 0])) :: (FN_X1 G q25 α26 ++ (FN_X1 G q23 α24 ++ (FN_X1 G q21 α22 ++ (FN_X1 G q19 α20 ++ (FN_X1 G q17 α18 ++ (FN_X1 G q15 α16 ++ (FN_X8 G q13 α14 ++ (FN_X8 G q11 α12 ++ (FN_X8 G q9 α10 ++ (FN_X8 G q7 α8 ++ (FN_X8 G q5 α6 ++ (FN_X8 G q3 α4 ++ ws))))))))))))) H := hH
  refine n_astq X hH hS 0 6 3 1 rfl rfl rfl rfl (i := 5) (i_in (by decide) (by decide)) dX2_init_81 (fun H locs hH hS => ?_)
  have hH : GW G ((q2, aQ (gc G 6) 10 (va_up (va_up (va_up (va_up (va_up (va_up (fun _ => none) (0 : Int32).toNatClampNeg (some q15)) (1 : Int32).toNatClampNeg (some q17)) (2 : Int32).toNatClampNeg (some q19)) (3 : Int32).toNatClampNeg (some q21)) (4 : Int32).toNatClampNeg (some q23)) (5 : Int32).toNatClampNeg (some q25))) :: (q1, aQ (gc G 5) 6 (va_up (va_up (va_up (va_up (va_up (va_up (fun _ => none) (0 : Int32).toNatClampNeg (some q3)) (1 : Int32).toNatClampNeg (some q5)) (2 : Int32).toNatClampNeg (some q7)) (3 : Int32).toNatClampNeg (some q9)) (4 : Int32).toNatClampNeg (some q11)) (5 : Int32).toNatClampNeg (some q13))) :: (a, .inr (2, [.ref q1, .ref q2, .int 0, .int 0, .int 20, .int 0])) :: (FN_X1 G q25 α26 ++ (FN_X1 G q23 α24 ++ (FN_X1 G q21 α22 ++ (FN_X1 G q19 α20 ++ (FN_X1 G q17 α18 ++ (FN_X1 G q15 α16 ++ (FN_X8 G q13 α14 ++ (FN_X8 G q11 α12 ++ (FN_X8 G q9 α10 ++ (FN_X8 G q7 α8 ++ (FN_X8 G q5 α6 ++ (FN_X8 G q3 α4 ++ ws))))))))))))) H := hH
  refine lv_iinc (v := 6) (lv' := [(1, .int 6), (0, .ref a)]) hx hb dX2_init_82 hl (k := 0) rfl (by decide) (by decide) rfl (fun ls hl => ?_)
  refine lv_goto (tgt := 60) hx hb dX2_init_85 (by decide) ?_
  refine lv_iload_n hx hb dX2_init_60 rfl (lv_at hl 0 rfl) ?_
  refine lv_aload_n hx hb dX2_init_61 rfl (lv_at hl 1 rfl) ?_
  refine n_get X (C := RX2) inX2 hH 2 rfl rfl 1 (by decide) t_fl_Drawer_19 rfl rfl dX2_init_62 ?_
  refine n_alen X hH 0 6 rfl rfl (y := 10) rfl dX2_init_65 ?_
  refine lv_icmp_ge (tgt := 88) hx hb dX2_init_66 (by decide) (fun z => absurd z (by decide)) (fun _ => ?_)
  refine lv_aload_n hx hb dX2_init_69 rfl (lv_at hl 1 rfl) ?_
  refine n_get X (C := RX2) inX2 hH 2 rfl rfl 1 (by decide) t_fl_Drawer_19 rfl rfl dX2_init_70 ?_
  refine lv_iload_n hx hb dX2_init_73 rfl (lv_at hl 0 rfl) ?_
  refine n_new X (C := RX1) tyX1 tyX1_ok inX1 t_cl_Drawer_17 t_inst_Block t_ini_Block (ci := 1) rfl (fs := [.int 0, .int 0, .int 0]) dfX1 hH hS (Nat.le_of_ble_eq_true rfl) (Nat.le_of_ble_eq_true rfl) dX2_init_74 (fun q27 H hH hS => ?_)
  refine lv_dup hx hb dX2_init_77 rfl ?_
  refine n_callN X hAO (k_N1 l G) (X.2.2.2.2.2.1.2.2.1 _ t_mn_Drawer_28 rfl) t_im_X1_init t_ini_Block t_code_X1_init rfl ⟨by decide +kernel, by decide +kernel, by decide +kernel⟩ rfl rfl ⟨(Nat.le_of_ble_eq_true rfl), (Nat.le_of_ble_eq_true rfl)⟩ ⟨(Nat.le_of_ble_eq_true rfl), (Nat.le_of_ble_eq_true rfl)⟩ hH hS hl.1 (Nat.le_of_ble_eq_true rfl) dX2_init_78 (fun α28 H locs hH hS => ?_)
  have hH := GW.under (h := [(q2, aQ (gc G 6) 10 (va_up (va_up (va_up (va_up (va_up (va_up (fun _ => none) (0 : Int32).toNatClampNeg (some q15)) (1 : Int32).toNatClampNeg (some q17)) (2 : Int32).toNatClampNeg (some q19)) (3 : Int32).toNatClampNeg (some q21)) (4 : Int32).toNatClampNeg (some q23)) (5 : Int32).toNatClampNeg (some q25))), (q1, aQ (gc G 5) 6 (va_up (va_up (va_up (va_up (va_up (va_up (fun _ => none) (0 : Int32).toNatClampNeg (some q3)) (1 : Int32).toNatClampNeg (some q5)) (2 : Int32).toNatClampNeg (some q7)) (3 : Int32).toNatClampNeg (some q9)) (4 : Int32).toNatClampNeg (some q11)) (5 : Int32).toNatClampNeg (some q13))), (a, .inr (2, [.ref q1, .ref q2, .int 0, .int 0, .int 20, .int 0]))]) hH
  have hH : GW G ((q2, aQ (gc G 6) 10 (va_up (va_up (va_up (va_up (va_up (va_up (fun _ => none) (0 : Int32).toNatClampNeg (some q15)) (1 : Int32).toNatClampNeg (some q17)) (2 : Int32).toNatClampNeg (some q19)) (3 : Int32).toNatClampNeg (some q21)) (4 : Int32).toNatClampNeg (some q23)) (5 : Int32).toNatClampNeg (some q25))) :: (q1, aQ (gc G 5) 6 (va_up (va_up (va_up (va_up (va_up (va_up (fun _ => none) (0 : Int32).toNatClampNeg (some q3)) (1 : Int32).toNatClampNeg (some q5)) (2 : Int32).toNatClampNeg (some q7)) (3 : Int32).toNatClampNeg (some q9)) (4 : Int32).toNatClampNeg (some q11)) (5 : Int32).toNatClampNeg (some q13))) :: (a, .inr (2, [.ref q1, .ref q2, .int 0, .int 0, .int 20, .int 0])) :: (FN_X1 G q27 α28 ++ (FN_X1 G q25 α26 ++ (FN_X1 G q23 α24 ++ (FN_X1 G q21 α22 ++ (FN_X1 G q19 α20 ++ (FN_X1 G q17 α18 ++ (FN_X1 G q15 α16 ++ (FN_X8 G q13 α14 ++ (FN_X8 G q11 α12 ++ (FN_X8 G q9 α10 ++ (FN_X8 G q7 α8 ++ (FN_X8 G q5 α6 ++ (FN_X8 G q3 α4 ++ ws)))))))))))))) H := hH
  refine n_astq X hH hS 0 6 3 1 rfl rfl rfl rfl (i := 6) (i_in (by decide) (by decide)) dX2_init_81 (fun H locs hH hS => ?_)
  have hH : GW G ((q2, aQ (gc G 6) 10 (va_up (va_up (va_up (va_up (va_up (va_up (va_up (fun _ => none) (0 : Int32).toNatClampNeg (some q15)) (1 : Int32).toNatClampNeg (some q17)) (2 : Int32).toNatClampNeg (some q19)) (3 : Int32).toNatClampNeg (some q21)) (4 : Int32).toNatClampNeg (some q23)) (5 : Int32).toNatClampNeg (some q25)) (6 : Int32).toNatClampNeg (some q27))) :: (q1, aQ (gc G 5) 6 (va_up (va_up (va_up (va_up (va_up (va_up (fun _ => none) (0 : Int32).toNatClampNeg (some q3)) (1 : Int32).toNatClampNeg (some q5)) (2 : Int32).toNatClampNeg (some q7)) (3 : Int32).toNatClampNeg (some q9)) (4 : Int32).toNatClampNeg (some q11)) (5 : Int32).toNatClampNeg (some q13))) :: (a, .inr (2, [.ref q1, .ref q2, .int 0, .int 0, .int 20, .int 0])) :: (FN_X1 G q27 α28 ++ (FN_X1 G q25 α26 ++ (FN_X1 G q23 α24 ++ (FN_X1 G q21 α22 ++ (FN_X1 G q19 α20 ++ (FN_X1 G q17 α18 ++ (FN_X1 G q15 α16 ++ (FN_X8 G q13 α14 ++ (FN_X8 G q11 α12 ++ (FN_X8 G q9 α10 ++ (FN_X8 G q7 α8 ++ (FN_X8 G q5 α6 ++ (FN_X8 G q3 α4 ++ ws)))))))))))))) H := hH
  refine lv_iinc (v := 7) (lv' := [(1, .int 7), (0, .ref a)]) hx hb dX2_init_82 hl (k := 0) rfl (by decide) (by decide) rfl (fun ls hl => ?_)
  refine lv_goto (tgt := 60) hx hb dX2_init_85 (by decide) ?_
  refine lv_iload_n hx hb dX2_init_60 rfl (lv_at hl 0 rfl) ?_
  refine lv_aload_n hx hb dX2_init_61 rfl (lv_at hl 1 rfl) ?_
  refine n_get X (C := RX2) inX2 hH 2 rfl rfl 1 (by decide) t_fl_Drawer_19 rfl rfl dX2_init_62 ?_
  refine n_alen X hH 0 6 rfl rfl (y := 10) rfl dX2_init_65 ?_
  refine lv_icmp_ge (tgt := 88) hx hb dX2_init_66 (by decide) (fun z => absurd z (by decide)) (fun _ => ?_)
  refine lv_aload_n hx hb dX2_init_69 rfl (lv_at hl 1 rfl) ?_
  refine n_get X (C := RX2) inX2 hH 2 rfl rfl 1 (by decide) t_fl_Drawer_19 rfl rfl dX2_init_70 ?_
  refine lv_iload_n hx hb dX2_init_73 rfl (lv_at hl 0 rfl) ?_
  refine n_new X (C := RX1) tyX1 tyX1_ok inX1 t_cl_Drawer_17 t_inst_Block t_ini_Block (ci := 1) rfl (fs := [.int 0, .int 0, .int 0]) dfX1 hH hS (Nat.le_of_ble_eq_true rfl) (Nat.le_of_ble_eq_true rfl) dX2_init_74 (fun q29 H hH hS => ?_)
  refine lv_dup hx hb dX2_init_77 rfl ?_
  refine n_callN X hAO (k_N1 l G) (X.2.2.2.2.2.1.2.2.1 _ t_mn_Drawer_28 rfl) t_im_X1_init t_ini_Block t_code_X1_init rfl ⟨by decide +kernel, by decide +kernel, by decide +kernel⟩ rfl rfl ⟨(Nat.le_of_ble_eq_true rfl), (Nat.le_of_ble_eq_true rfl)⟩ ⟨(Nat.le_of_ble_eq_true rfl), (Nat.le_of_ble_eq_true rfl)⟩ hH hS hl.1 (Nat.le_of_ble_eq_true rfl) dX2_init_78 (fun α30 H locs hH hS => ?_)
  have hH := GW.under (h := [(q2, aQ (gc G 6) 10 (va_up (va_up (va_up (va_up (va_up (va_up (va_up (fun _ => none) (0 : Int32).toNatClampNeg (some q15)) (1 : Int32).toNatClampNeg (some q17)) (2 : Int32).toNatClampNeg (some q19)) (3 : Int32).toNatClampNeg (some q21)) (4 : Int32).toNatClampNeg (some q23)) (5 : Int32).toNatClampNeg (some q25)) (6 : Int32).toNatClampNeg (some q27))), (q1, aQ (gc G 5) 6 (va_up (va_up (va_up (va_up (va_up (va_up (fun _ => none) (0 : Int32).toNatClampNeg (some q3)) (1 : Int32).toNatClampNeg (some q5)) (2 : Int32).toNatClampNeg (some q7)) (3 : Int32).toNatClampNeg (some q9)) (4 : Int32).toNatClampNeg (some q11)) (5 : Int32).toNatClampNeg (some q13))), (a, .inr (2, [.ref q1, .ref q2, .int 0, .int 0, .int 20, .int 0]))]) hH
  have hH : GW G ((q2, aQ (gc G 6) 10 (va_up (va_up (va_up (va_up (va_up (va_up (va_up (fun _ => none) (0 : Int32).toNatClampNeg (some q15)) (1 : Int32).toNatClampNeg (some q17)) (2 : Int32).toNatClampNeg (some q19)) (3 : Int32).toNatClampNeg (some q21)) (4 : Int32).toNatClampNeg (some q23)) (5 : Int32).toNatClampNeg (some q25)) (6 : Int32).toNatClampNeg (some q27))) :: (q1, aQ (gc G 5) 6 (va_up (va_up (va_up (va_up (va_up (va_up (fun _ => none) (0 : Int32).toNatClampNeg (some q3)) (1 : Int32).toNatClampNeg (some q5)) (2 : Int32).toNatClampNeg (some q7)) (3 : Int32).toNatClampNeg (some q9)) (4 : Int32).toNatClampNeg (some q11)) (5 : Int32).toNatClampNeg (some q13))) :: (a, .inr (2, [.ref q1, .ref q2, .int 0, .int 0, .int 20, .int 0])) :: (FN_X1 G q29 α30 ++ (FN_X1 G q27 α28 ++ (FN_X1 G q25 α26 ++ (FN_X1 G q23 α24 ++ (FN_X1 G q21 α22 ++ (FN_X1 G q19 α20 ++ (FN_X1 G q17 α18 ++ (FN_X1 G q15 α16 ++ (FN_X8 G q13 α14 ++ (FN_X8 G q11 α12 ++ (FN_X8 G q9 α10 ++ (FN_X8 G q7 α8 ++ (FN_X8 G q5 α6 ++ (FN_X8 G q3 α4 ++ ws))))))))))))))) H := hH
  refine n_astq X hH hS 0 6 3 1 rfl rfl rfl rfl (i := 7) (i_in (by decide) (by decide)) dX2_init_81 (fun H locs hH hS => ?_)
  have hH : GW G ((q2, aQ (gc G 6) 10 (va_up (va_up (va_up (va_up (va_up (va_up (va_up (va_up (fun _ => none) (0 : Int32).toNatClampNeg (some q15)) (1 : Int32).toNatClampNeg (some q17)) (2 : Int32).toNatClampNeg (some q19)) (3 : Int32).toNatClampNeg (some q21)) (4 : Int32).toNatClampNeg (some q23)) (5 : Int32).toNatClampNeg (some q25)) (6 : Int32).toNatClampNeg (some q27)) (7 : Int32).toNatClampNeg (some q29))) :: (q1, aQ (gc G 5) 6 (va_up (va_up (va_up (va_up (va_up (va_up (fun _ => none) (0 : Int32).toNatClampNeg (some q3)) (1 : Int32).toNatClampNeg (some q5)) (2 : Int32).toNatClampNeg (some q7)) (3 : Int32).toNatClampNeg (some q9)) (4 : Int32).toNatClampNeg (some q11)) (5 : Int32).toNatClampNeg (some q13))) :: (a, .inr (2, [.ref q1, .ref q2, .int 0, .int 0, .int 20, .int 0])) :: (FN_X1 G q29 α30 ++ (FN_X1 G q27 α28 ++ (FN_X1 G q25 α26 ++ (FN_X1 G q23 α24 ++ (FN_X1 G q21 α22 ++ (FN_X1 G q19 α20 ++ (FN_X1 G q17 α18 ++ (FN_X1 G q15 α16 ++ (FN_X8 G q13 α14 ++ (FN_X8 G q11 α12 ++ (FN_X8 G q9 α10 ++ (FN_X8 G q7 α8 ++ (FN_X8 G q5 α6 ++ (FN_X8 G q3 α4 ++ ws))))))))))))))) H := hH
  refine lv_iinc (v := 8) (lv' := [(1, .int 8), (0, .ref a)]) hx hb dX2_init_82 hl (k := 0) rfl (by decide) (by decide) rfl (fun ls hl => ?_)
  refine lv_goto (tgt := 60) hx hb dX2_init_85 (by decide) ?_
  refine lv_iload_n hx hb dX2_init_60 rfl (lv_at hl 0 rfl) ?_
  refine lv_aload_n hx hb dX2_init_61 rfl (lv_at hl 1 rfl) ?_
  refine n_get X (C := RX2) inX2 hH 2 rfl rfl 1 (by decide) t_fl_Drawer_19 rfl rfl dX2_init_62 ?_
  refine n_alen X hH 0 6 rfl rfl (y := 10) rfl dX2_init_65 ?_
  refine lv_icmp_ge (tgt := 88) hx hb dX2_init_66 (by decide) (fun z => absurd z (by decide)) (fun _ => ?_)
  refine lv_aload_n hx hb dX2_init_69 rfl (lv_at hl 1 rfl) ?_
  refine n_get X (C := RX2) inX2 hH 2 rfl rfl 1 (by decide) t_fl_Drawer_19 rfl rfl dX2_init_70 ?_
  refine lv_iload_n hx hb dX2_init_73 rfl (lv_at hl 0 rfl) ?_
  refine n_new X (C := RX1) tyX1 tyX1_ok inX1 t_cl_Drawer_17 t_inst_Block t_ini_Block (ci := 1) rfl (fs := [.int 0, .int 0, .int 0]) dfX1 hH hS (Nat.le_of_ble_eq_true rfl) (Nat.le_of_ble_eq_true rfl) dX2_init_74 (fun q31 H hH hS => ?_)
  refine lv_dup hx hb dX2_init_77 rfl ?_
  refine n_callN X hAO (k_N1 l G) (X.2.2.2.2.2.1.2.2.1 _ t_mn_Drawer_28 rfl) t_im_X1_init t_ini_Block t_code_X1_init rfl ⟨by decide +kernel, by decide +kernel, by decide +kernel⟩ rfl rfl ⟨(Nat.le_of_ble_eq_true rfl), (Nat.le_of_ble_eq_true rfl)⟩ ⟨(Nat.le_of_ble_eq_true rfl), (Nat.le_of_ble_eq_true rfl)⟩ hH hS hl.1 (Nat.le_of_ble_eq_true rfl) dX2_init_78 (fun α32 H locs hH hS => ?_)
  have hH := GW.under (h := [(q2, aQ (gc G 6) 10 (va_up (va_up (va_up (va_up (va_up (va_up (va_up (va_up (fun _ => none) (0 : Int32).toNatClampNeg (some q15)) (1 : Int32).toNatClampNeg (some q17)) (2 : Int32).toNatClampNeg (some q19)) (3 : Int32).toNatClampNeg (some q21)) (4 : Int32).toNatClampNeg (some q23)) (5 : Int32).toNatClampNeg (some q25)) (6 : Int32).toNatClampNeg (some q27)) (7 : Int32).toNatClampNeg (some q29))), (q1, aQ (gc G 5) 6 (va_up (va_up (va_up (va_up (va_up (va_up (fun _ => none) (0 : Int32).toNatClampNeg (some q3)) (1 : Int32).toNatClampNeg (some q5)) (2 : Int32).toNatClampNeg (some q7)) (3 : Int32).toNatClampNeg (some q9)) (4 : Int32).toNatClampNeg (some q11)) (5 : Int32).toNatClampNeg (some q13))), (a, .inr (2, [.ref q1, .ref q2, .int 0, .int 0, .int 20, .int 0]))]) hH
  have hH : GW G ((q2, aQ (gc G 6) 10 (va_up (va_up (va_up (va_up (va_up (va_up (va_up (va_up (fun _ => none) (0 : Int32).toNatClampNeg (some q15)) (1 : Int32).toNatClampNeg (some q17)) (2 : Int32).toNatClampNeg (some q19)) (3 : Int32).toNatClampNeg (some q21)) (4 : Int32).toNatClampNeg (some q23)) (5 : Int32).toNatClampNeg (some q25)) (6 : Int32).toNatClampNeg (some q27)) (7 : Int32).toNatClampNeg (some q29))) :: (q1, aQ (gc G 5) 6 (va_up (va_up (va_up (va_up (va_up (va_up (fun _ => none) (0 : Int32).toNatClampNeg (some q3)) (1 : Int32).toNatClampNeg (some q5)) (2 : Int32).toNatClampNeg (some q7)) (3 : Int32).toNatClampNeg (some q9)) (4 : Int32).toNatClampNeg (some q11)) (5 : Int32).toNatClampNeg (some q13))) :: (a, .inr (2, [.ref q1, .ref q2, .int 0, .int 0, .int 20, .int 0])) :: (FN_X1 G q31 α32 ++ (FN_X1 G q29 α30 ++ (FN_X1 G q27 α28 ++ (FN_X1 G q25 α26 ++ (FN_X1 G q23 α24 ++ (FN_X1 G q21 α22 ++ (FN_X1 G q19 α20 ++ (FN_X1 G q17 α18 ++ (FN_X1 G q15 α16 ++ (FN_X8 G q13 α14 ++ (FN_X8 G q11 α12 ++ (FN_X8 G q9 α10 ++ (FN_X8 G q7 α8 ++ (FN_X8 G q5 α6 ++ (FN_X8 G q3 α4 ++ ws)))))))))))))))) H := hH
  refine n_astq X hH hS 0 6 3 1 rfl rfl rfl rfl (i := 8) (i_in (by decide) (by decide)) dX2_init_81 (fun H locs hH hS => ?_)
  have hH : GW G ((q2, aQ (gc G 6) 10 (va_up (va_up (va_up (va_up (va_up (va_up (va_up (va_up (va_up (fun _ => none) (0 : Int32).toNatClampNeg (some q15)) (1 : Int32).toNatClampNeg (some q17)) (2 : Int32).toNatClampNeg (some q19)) (3 : Int32).toNatClampNeg (some q21)) (4 : Int32).toNatClampNeg (some q23)) (5 : Int32).toNatClampNeg (some q25)) (6 : Int32).toNatClampNeg (some q27)) (7 : Int32).toNatClampNeg (some q29)) (8 : Int32).toNatClampNeg (some q31))) :: (q1, aQ (gc G 5) 6 (va_up (va_up (va_up (va_up (va_up (va_up (fun _ => none) (0 : Int32).toNatClampNeg (some q3)) (1 : Int32).toNatClampNeg (some q5)) (2 : Int32).toNatClampNeg (some q7)) (3 : Int32).toNatClampNeg (some q9)) (4 : Int32).toNatClampNeg (some q11)) (5 : Int32).toNatClampNeg (some q13))) :: (a, .inr (2, [.ref q1, .ref q2, .int 0, .int 0, .int 20, .int 0])) :: (FN_X1 G q31 α32 ++ (FN_X1 G q29 α30 ++ (FN_X1 G q27 α28 ++ (FN_X1 G q25 α26 ++ (FN_X1 G q23 α24 ++ (FN_X1 G q21 α22 ++ (FN_X1 G q19 α20 ++ (FN_X1 G q17 α18 ++ (FN_X1 G q15 α16 ++ (FN_X8 G q13 α14 ++ (FN_X8 G q11 α12 ++ (FN_X8 G q9 α10 ++ (FN_X8 G q7 α8 ++ (FN_X8 G q5 α6 ++ (FN_X8 G q3 α4 ++ ws)))))))))))))))) H := hH
  refine lv_iinc (v := 9) (lv' := [(1, .int 9), (0, .ref a)]) hx hb dX2_init_82 hl (k := 0) rfl (by decide) (by decide) rfl (fun ls hl => ?_)
  refine lv_goto (tgt := 60) hx hb dX2_init_85 (by decide) ?_
  refine lv_iload_n hx hb dX2_init_60 rfl (lv_at hl 0 rfl) ?_
  refine lv_aload_n hx hb dX2_init_61 rfl (lv_at hl 1 rfl) ?_
  refine n_get X (C := RX2) inX2 hH 2 rfl rfl 1 (by decide) t_fl_Drawer_19 rfl rfl dX2_init_62 ?_
  refine n_alen X hH 0 6 rfl rfl (y := 10) rfl dX2_init_65 ?_
  refine lv_icmp_ge (tgt := 88) hx hb dX2_init_66 (by decide) (fun z => absurd z (by decide)) (fun _ => ?_)
  refine lv_aload_n hx hb dX2_init_69 rfl (lv_at hl 1 rfl) ?_
  refine n_get X (C := RX2) inX2 hH 2 rfl rfl 1 (by decide) t_fl_Drawer_19 rfl rfl dX2_init_70 ?_
  refine lv_iload_n hx hb dX2_init_73 rfl (lv_at hl 0 rfl) ?_
  refine n_new X (C := RX1) tyX1 tyX1_ok inX1 t_cl_Drawer_17 t_inst_Block t_ini_Block (ci := 1) rfl (fs := [.int 0, .int 0, .int 0]) dfX1 hH hS (Nat.le_of_ble_eq_true rfl) (Nat.le_of_ble_eq_true rfl) dX2_init_74 (fun q33 H hH hS => ?_)
  refine lv_dup hx hb dX2_init_77 rfl ?_
  refine n_callN X hAO (k_N1 l G) (X.2.2.2.2.2.1.2.2.1 _ t_mn_Drawer_28 rfl) t_im_X1_init t_ini_Block t_code_X1_init rfl ⟨by decide +kernel, by decide +kernel, by decide +kernel⟩ rfl rfl ⟨(Nat.le_of_ble_eq_true rfl), (Nat.le_of_ble_eq_true rfl)⟩ ⟨(Nat.le_of_ble_eq_true rfl), (Nat.le_of_ble_eq_true rfl)⟩ hH hS hl.1 (Nat.le_of_ble_eq_true rfl) dX2_init_78 (fun α34 H locs hH hS => ?_)
  have hH := GW.under (h := [(q2, aQ (gc G 6) 10 (va_up (va_up (va_up (va_up (va_up (va_up (va_up (va_up (va_up (fun _ => none) (0 : Int32).toNatClampNeg (some q15)) (1 : Int32).toNatClampNeg (some q17)) (2 : Int32).toNatClampNeg (some q19)) (3 : Int32).toNatClampNeg (some q21)) (4 : Int32).toNatClampNeg (some q23)) (5 : Int32).toNatClampNeg (some q25)) (6 : Int32).toNatClampNeg (some q27)) (7 : Int32).toNatClampNeg (some q29)) (8 : Int32).toNatClampNeg (some q31))), (q1, aQ (gc G 5) 6 (va_up (va_up (va_up (va_up (va_up (va_up (fun _ => none) (0 : Int32).toNatClampNeg (some q3)) (1 : Int32).toNatClampNeg (some q5)) (2 : Int32).toNatClampNeg (some q7)) (3 : Int32).toNatClampNeg (some q9)) (4 : Int32).toNatClampNeg (some q11)) (5 : Int32).toNatClampNeg (some q13))), (a, .inr (2, [.ref q1, .ref q2, .int 0, .int 0, .int 20, .int 0]))]) hH
  have hH : GW G ((q2, aQ (gc G 6) 10 (va_up (va_up (va_up (va_up (va_up (va_up (va_up (va_up (va_up (fun _ => none) (0 : Int32).toNatClampNeg (some q15)) (1 : Int32).toNatClampNeg (some q17)) (2 : Int32).toNatClampNeg (some q19)) (3 : Int32).toNatClampNeg (some q21)) (4 : Int32).toNatClampNeg (some q23)) (5 : Int32).toNatClampNeg (some q25)) (6 : Int32).toNatClampNeg (some q27)) (7 : Int32).toNatClampNeg (some q29)) (8 : Int32).toNatClampNeg (some q31))) :: (q1, aQ (gc G 5) 6 (va_up (va_up (va_up (va_up (va_up (va_up (fun _ => none) (0 : Int32).toNatClampNeg (some q3)) (1 : Int32).toNatClampNeg (some q5)) (2 : Int32).toNatClampNeg (some q7)) (3 : Int32).toNatClampNeg (some q9)) (4 : Int32).toNatClampNeg (some q11)) (5 : Int32).toNatClampNeg (some q13))) :: (a, .inr (2, [.ref q1, .ref q2, .int 0, .int 0, .int 20, .int 0])) :: (FN_X1 G q33 α34 ++ (FN_X1 G q31 α32 ++ (FN_X1 G q29 α30 ++ (FN_X1 G q27 α28 ++ (FN_X1 G q25 α26 ++ (FN_X1 G q23 α24 ++ (FN_X1 G q21 α22 ++ (FN_X1 G q19 α20 ++ (FN_X1 G q17 α18 ++ (FN_X1 G q15 α16 ++ (FN_X8 G q13 α14 ++ (FN_X8 G q11 α12 ++ (FN_X8 G q9 α10 ++ (FN_X8 G q7 α8 ++ (FN_X8 G q5 α6 ++ (FN_X8 G q3 α4 ++ ws))))))))))))))))) H := hH
  refine n_astq X hH hS 0 6 3 1 rfl rfl rfl rfl (i := 9) (i_in (by decide) (by decide)) dX2_init_81 (fun H locs hH hS => ?_)
  have hH : GW G ((q2, aQ (gc G 6) 10 (va_up (va_up (va_up (va_up (va_up (va_up (va_up (va_up (va_up (va_up (fun _ => none) (0 : Int32).toNatClampNeg (some q15)) (1 : Int32).toNatClampNeg (some q17)) (2 : Int32).toNatClampNeg (some q19)) (3 : Int32).toNatClampNeg (some q21)) (4 : Int32).toNatClampNeg (some q23)) (5 : Int32).toNatClampNeg (some q25)) (6 : Int32).toNatClampNeg (some q27)) (7 : Int32).toNatClampNeg (some q29)) (8 : Int32).toNatClampNeg (some q31)) (9 : Int32).toNatClampNeg (some q33))) :: (q1, aQ (gc G 5) 6 (va_up (va_up (va_up (va_up (va_up (va_up (fun _ => none) (0 : Int32).toNatClampNeg (some q3)) (1 : Int32).toNatClampNeg (some q5)) (2 : Int32).toNatClampNeg (some q7)) (3 : Int32).toNatClampNeg (some q9)) (4 : Int32).toNatClampNeg (some q11)) (5 : Int32).toNatClampNeg (some q13))) :: (a, .inr (2, [.ref q1, .ref q2, .int 0, .int 0, .int 20, .int 0])) :: (FN_X1 G q33 α34 ++ (FN_X1 G q31 α32 ++ (FN_X1 G q29 α30 ++ (FN_X1 G q27 α28 ++ (FN_X1 G q25 α26 ++ (FN_X1 G q23 α24 ++ (FN_X1 G q21 α22 ++ (FN_X1 G q19 α20 ++ (FN_X1 G q17 α18 ++ (FN_X1 G q15 α16 ++ (FN_X8 G q13 α14 ++ (FN_X8 G q11 α12 ++ (FN_X8 G q9 α10 ++ (FN_X8 G q7 α8 ++ (FN_X8 G q5 α6 ++ (FN_X8 G q3 α4 ++ ws))))))))))))))))) H := hH
  refine lv_iinc (v := 10) (lv' := [(1, .int 10), (0, .ref a)]) hx hb dX2_init_82 hl (k := 0) rfl (by decide) (by decide) rfl (fun ls hl => ?_)
  refine lv_goto (tgt := 60) hx hb dX2_init_85 (by decide) ?_
  refine lv_iload_n hx hb dX2_init_60 rfl (lv_at hl 0 rfl) ?_
  refine lv_aload_n hx hb dX2_init_61 rfl (lv_at hl 1 rfl) ?_
  refine n_get X (C := RX2) inX2 hH 2 rfl rfl 1 (by decide) t_fl_Drawer_19 rfl rfl dX2_init_62 ?_
  refine n_alen X hH 0 6 rfl rfl (y := 10) rfl dX2_init_65 ?_
  refine lv_icmp_ge (tgt := 88) hx hb dX2_init_66 (by decide) (fun _ => ?_) (fun z => absurd (by decide) z)
  exact E _ _ _ _ (fun i => ([q2, q15, q17, q19, q21, q23, q25, q27, q29, q31, q33, q1, q3, q5, q7, q9, q11, q13] : List Nat).getD i 0) _ _ dX2_init_88 hH hS (Nat.le_of_ble_eq_true rfl) (Nat.le_of_ble_eq_true rfl)
theorem dX0_init_0 : decode cX0_init 0 = .ok (.aload_n 0, 1) := by decide +kernel
theorem dX0_init_1 : decode cX0_init 1 = .ok (.invokespecial 3, 3) := by decide +kernel
theorem dX0_init_4 : decode cX0_init 4 = .ok (.aload_n 0, 1) := by decide +kernel
theorem dX0_init_5 : decode cX0_init 5 = .ok (.iconst 5, 1) := by decide +kernel
theorem dX0_init_6 : decode cX0_init 6 = .ok (.anewarray 9, 3) := by decide +kernel
theorem dX0_init_9 : decode cX0_init 9 = .ok (.putfield 11, 3) := by decide +kernel
theorem dX0_init_12 : decode cX0_init 12 = .ok (.aload_n 0, 1) := by decide +kernel
theorem dX0_init_13 : decode cX0_init 13 = .ok (.new 17, 3) := by decide +kernel
theorem dX0_init_16 : decode cX0_init 16 = .ok (.dup, 1) := by decide +kernel
theorem dX0_init_17 : decode cX0_init 17 = .ok (.invokespecial 19, 3) := by decide +kernel
theorem dX0_init_20 : decode cX0_init 20 = .ok (.putfield 20, 3) := by decide +kernel
theorem dX0_init_23 : decode cX0_init 23 = .ok (.aload_n 0, 1) := by decide +kernel
theorem dX0_init_24 : decode cX0_init 24 = .ok (.new 17, 3) := by decide +kernel
theorem dX0_init_27 : decode cX0_init 27 = .ok (.dup, 1) := by decide +kernel
theorem dX0_init_28 : decode cX0_init 28 = .ok (.invokespecial 19, 3) := by decide +kernel
theorem dX0_init_31 : decode cX0_init 31 = .ok (.putfield 24, 3) := by decide +kernel
theorem dX0_init_34 : decode cX0_init 34 = .ok (.aload_n 0, 1) := by decide +kernel
theorem dX0_init_35 : decode cX0_init 35 = .ok (.bipush 10, 2) := by decide +kernel
theorem dX0_init_37 : decode cX0_init 37 = .ok (.putfield 27, 3) := by decide +kernel
theorem dX0_init_40 : decode cX0_init 40 = .ok (.iconst 0, 1) := by decide +kernel
theorem dX0_init_41 : decode cX0_init 41 = .ok (.istore_n 1, 1) := by decide +kernel
theorem dX0_init_42 : decode cX0_init 42 = .ok (.iload_n 1, 1) := by decide +kernel
theorem dX0_init_43 : decode cX0_init 43 = .ok (.aload_n 0, 1) := by decide +kernel
theorem dX0_init_44 : decode cX0_init 44 = .ok (.getfield 11, 3) := by decide +kernel
theorem dX0_init_47 : decode cX0_init 47 = .ok (.arraylength, 1) := by decide +kernel
theorem dX0_init_48 : decode cX0_init 48 = .ok (.if_icmp .ge 22, 3) := by decide +kernel
theorem dX0_init_51 : decode cX0_init 51 = .ok (.aload_n 0, 1) := by decide +kernel
theorem dX0_init_52 : decode cX0_init 52 = .ok (.getfield 11, 3) := by decide +kernel
theorem dX0_init_55 : decode cX0_init 55 = .ok (.iload_n 1, 1) := by decide +kernel
theorem dX0_init_56 : decode cX0_init 56 = .ok (.new 9, 3) := by decide +kernel
theorem dX0_init_59 : decode cX0_init 59 = .ok (.dup, 1) := by decide +kernel
theorem dX0_init_60 : decode cX0_init 60 = .ok (.invokespecial 31, 3) := by decide +kernel
theorem dX0_init_63 : decode cX0_init 63 = .ok (.aastore, 1) := by decide +kernel
theorem dX0_init_64 : decode cX0_init 64 = .ok (.iinc 1 1, 3) := by decide +kernel
theorem dX0_init_67 : decode cX0_init 67 = .ok (.goto (-25), 3) := by decide +kernel
theorem dX0_init_70 : decode cX0_init 70 = .ok (.return_, 1) := by decide +kernel
def FN_X0 (G : gG) (q : Nat) (δ : Nat → Nat) : va_W := [((δ 0), aQ (gc G 7) 5 (va_up (va_up (va_up (va_up (va_up (fun _ => none) (0 : Int32).toNatClampNeg (some (δ 1))) (1 : Int32).toNatClampNeg (some (δ 2))) (2 : Int32).toNatClampNeg (some (δ 3))) (3 : Int32).toNatClampNeg (some (δ 4))) (4 : Int32).toNatClampNeg (some (δ 5)))), (q, .inr (0, [.ref (δ 0), .int 0, .ref (δ 6), .ref (δ 7), .int 10, .int 0, .int 0, .int 0, .int 0, .int 0, .int 0])), ((δ 8), aI (gc G 0) 12 (fun _ => 0)), ((δ 9), aI (gc G 0) 10 (fun _ => 0)), ((δ 5), .inr (4, [.int 0, .int 0, .int 0, .int 0, .int 0, .int 0, .ref (δ 9), .int 0, .ref (δ 8), .int 0])), ((δ 10), aI (gc G 0) 12 (fun _ => 0)), ((δ 11), aI (gc G 0) 10 (fun _ => 0)), ((δ 4), .inr (4, [.int 0, .int 0, .int 0, .int 0, .int 0, .int 0, .ref (δ 11), .int 0, .ref (δ 10), .int 0])), ((δ 12), aI (gc G 0) 12 (fun _ => 0)), ((δ 13), aI (gc G 0) 10 (fun _ => 0)), ((δ 3), .inr (4, [.int 0, .int 0, .int 0, .int 0, .int 0, .int 0, .ref (δ 13), .int 0, .ref (δ 12), .int 0])), ((δ 14), aI (gc G 0) 12 (fun _ => 0)), ((δ 15), aI (gc G 0) 10 (fun _ => 0)), ((δ 2), .inr (4, [.int 0, .int 0, .int 0, .int 0, .int 0, .int 0, .ref (δ 15), .int 0, .ref (δ 14), .int 0])), ((δ 16), aI (gc G 0) 12 (fun _ => 0)), ((δ 17), aI (gc G 0) 10 (fun _ => 0)), ((δ 1), .inr (4, [.int 0, .int 0, .int 0, .int 0, .int 0, .int 0, .ref (δ 17), .int 0, .ref (δ 16), .int 0])), ((δ 18), aI (gc G 0) 20 (fun _ => 0)), ((δ 19), aI (gc G 0) 20 (fun _ => 0)), ((δ 20), aI (gc G 0) 20 (fun _ => 0)), ((δ 7), .inr (5, [.ref (δ 20), .ref (δ 19), .ref (δ 18), .int 0])), ((δ 21), aI (gc G 0) 20 (fun _ => 0)), ((δ 22), aI (gc G 0) 20 (fun _ => 0)), ((δ 23), aI (gc G 0) 20 (fun _ => 0)), ((δ 6), .inr (5, [.ref (δ 23), .ref (δ 22), .ref (δ 21), .int 0]))]
abbrev rmN_X0 : Room := { frames := 2, cells := 24, slots := 293, locals := 32 }
theorem k_N0 (l : Launch) (G : gG) : NIc l yX0_init cX0_init 2 rmN_X0 G (.inr (0, [.null, .int 0, .null, .null, .int 0, .int 0, .int 0, .int 0, .int 0, .int 0, .int 0])) 24 293 (FN_X0 G) := by
  refine gofN (own := RX0) (by decide +kernel) rfl rfl (by decide) (fun a ws p e s m args below meth c ls Q X hin hAO hH hl E => ?_)
  have hx := X.1
  have hb := X.2.1
  have hS : va_S (gA G) s.heap s.heap [] := va_S.rf
  refine lv_aload_n hx hb dX0_init_0 rfl (lv_at hl 0 rfl) ?_
  refine n_obj X t_ml_Bench_3 hl.1 dX0_init_1 (Nat.le_of_ble_eq_true rfl) (Nat.le_of_ble_eq_true rfl) ?_
  refine lv_aload_n hx hb dX0_init_4 rfl (lv_at hl 0 rfl) ?_
  refine lv_iconst (v := 5) hx hb dX0_init_5 (by decide) ?_
  refine n_newq (C := RX4) X t_cl_Bench_9 hAO.2.2.1 (t0 := 7) rfl (n := 5) (N' := 5) (by decide) rfl (Nat.le_of_ble_eq_true rfl) hH hS (Nat.le_of_ble_eq_true rfl) (Nat.le_of_ble_eq_true rfl) dX0_init_6 (fun q1 H hH hS => ?_)
  have hH : GW G ((q1, aQ (gc G 7) 5 (fun _ => none)) :: (a, .inr (0, [.null, .int 0, .null, .null, .int 0, .int 0, .int 0, .int 0, .int 0, .int 0, .int 0])) :: ws) H := hH
  refine n_putF X hin (C := RX0) inX0 tyX0 tyX0_ok nmX0 hH hS 1 rfl rfl 0 (by decide) t_fl_Bench_11 rfl rfl rfl (tyX0_ok 0 (by decide)) rfl rfl (Nat.le_of_ble_eq_true rfl) dX0_init_9 (fun H locs hH hS => ?_)
  have hH : GW G ((q1, aQ (gc G 7) 5 (fun _ => none)) :: (a, .inr (0, [.ref q1, .int 0, .null, .null, .int 0, .int 0, .int 0, .int 0, .int 0, .int 0, .int 0])) :: ws) H := hH
  refine lv_aload_n hx hb dX0_init_12 rfl (lv_at hl 0 rfl) ?_
  refine n_new X (C := RX5) tyX5 tyX5_ok inX5 t_cl_Bench_17 t_inst_Pieces t_ini_Pieces (ci := 5) rfl (fs := [.null, .null, .null, .int 0]) dfX5 hH hS (Nat.le_of_ble_eq_true rfl) (Nat.le_of_ble_eq_true rfl) dX0_init_13 (fun q2 H hH hS => ?_)
  refine lv_dup hx hb dX0_init_16 rfl ?_
  refine n_callN X hAO (k_N5 l G) (X.2.2.2.2.2.1.2.2.1 _ t_mn_Bench_19 rfl) t_im_X5_init t_ini_Pieces t_code_X5_init rfl ⟨by decide +kernel, by decide +kernel, by decide +kernel⟩ rfl rfl ⟨(Nat.le_of_ble_eq_true rfl), (Nat.le_of_ble_eq_true rfl)⟩ ⟨(Nat.le_of_ble_eq_true rfl), (Nat.le_of_ble_eq_true rfl)⟩ hH hS hl.1 (Nat.le_of_ble_eq_true rfl) dX0_init_17 (fun α3 H locs hH hS => ?_)
  have hH := GW.under (h := [(q1, aQ (gc G 7) 5 (fun _ => none)), (a, .inr (0, [.ref q1, .int 0, .null, .null, .int 0, .int 0, .int 0, .int 0, .int 0, .int 0, .int 0]))]) hH
  have hH : GW G ((q1, aQ (gc G 7) 5 (fun _ => none)) :: (a, .inr (0, [.ref q1, .int 0, .null, .null, .int 0, .int 0, .int 0, .int 0, .int 0, .int 0, .int 0])) :: (FN_X5 G q2 α3 ++ ws)) H := hH
  refine n_putF X hin (C := RX0) inX0 tyX0 tyX0_ok nmX0 hH hS 1 rfl rfl 2 (by decide) t_fl_Bench_20 rfl rfl rfl (tyX0_ok 2 (by decide)) rfl rfl (Nat.le_of_ble_eq_true rfl) dX0_init_20 (fun H locs hH hS => ?_)
  have hH : GW G ((q1, aQ (gc G 7) 5 (fun _ => none)) :: (a, .inr (0, [.ref q1, .int 0, .ref q2, .null, .int 0, .int 0, .int 0, .int 0, .int 0, .int 0, .int 0])) :: (FN_X5 G q2 α3 ++ ws)) H := hH
  refine lv_aload_n hx hb dX0_init_23 rfl (lv_at hl 0 rfl) ?_
  refine n_new X (C := RX5) tyX5 tyX5_ok inX5 t_cl_Bench_17 t_inst_Pieces t_ini_Pieces (ci := 5) rfl (fs := [.null, .null, .null, .int 0]) dfX5 hH hS (Nat.le_of_ble_eq_true rfl) (Nat.le_of_ble_eq_true rfl) dX0_init_24 (fun q4 H hH hS => ?_)
  refine lv_dup hx hb dX0_init_27 rfl ?_
  refine n_callN X hAO (k_N5 l G) (X.2.2.2.2.2.1.2.2.1 _ t_mn_Bench_19 rfl) t_im_X5_init t_ini_Pieces t_code_X5_init rfl ⟨by decide +kernel, by decide +kernel, by decide +kernel⟩ rfl rfl ⟨(Nat.le_of_ble_eq_true rfl), (Nat.le_of_ble_eq_true rfl)⟩ ⟨(Nat.le_of_ble_eq_true rfl), (Nat.le_of_ble_eq_true rfl)⟩ hH hS hl.1 (Nat.le_of_ble_eq_true rfl) dX0_init_28 (fun α5 H locs hH hS => ?_)
  have hH := GW.under (h := [(q1, aQ (gc G 7) 5 (fun _ => none)), (a, .inr (0, [.ref q1, .int 0, .ref q2, .null, .int 0, .int 0, .int 0, .int 0, .int 0, .int 0, .int 0]))]) hH
  have hH : GW G ((q1, aQ (gc G 7) 5 (fun _ => none)) :: (a, .inr (0, [.ref q1, .int 0, .ref q2, .null, .int 0, .int 0, .int 0, .int 0, .int 0, .int 0, .int 0])) :: (FN_X5 G q4 α5 ++ (FN_X5 G q2 α3 ++ ws))) H := hH
  refine n_putF X hin (C := RX0) inX0 tyX0 tyX0_ok nmX0 hH hS 1 rfl rfl 3 (by decide) t_fl_Bench_24 rfl rfl rfl (tyX0_ok 3 (by decide)) rfl rfl (Nat.le_of_ble_eq_true rfl) dX0_init_31 (fun H locs hH hS => ?_)
  have hH : GW G ((q1, aQ (gc G 7) 5 (fun _ => none)) :: (a, .inr (0, [.ref q1, .int 0, .ref q2, .ref q4, .int 0, .int 0, .int 0, .int 0, .int 0, .int 0, .int 0])) :: (FN_X5 G q4 α5 ++ (FN_X5 G q2 α3 ++ ws))) H := hH
  refine lv_aload_n hx hb dX0_init_34 rfl (lv_at hl 0 rfl) ?_
  refine lv_bipush (v := 10) hx hb dX0_init_35 (by decide) ?_
  refine n_put X (C := RX0) inX0 tyX0 tyX0_ok nmX0 hH hS 1 rfl rfl 4 (by decide) t_fl_Bench_27 rfl rfl (tyX0_ok 4 (by decide)) rfl rfl (Nat.le_of_ble_eq_true rfl) dX0_init_37 (fun H locs hH hS => ?_)
  have hH : GW G ((q1, aQ (gc G 7) 5 (fun _ => none)) :: (a, .inr (0, [.ref q1, .int 0, .ref q2, .ref q4, .int 10, .int 0, .int 0, .int 0, .int 0, .int 0, .int 0])) :: (FN_X5 G q4 α5 ++ (FN_X5 G q2 α3 ++ ws))) H := hH
  refine lv_iconst (v := 0) hx hb dX0_init_40 (by decide) ?_
  refine lv_istore_n (lv' := [(1, .int 0), (0, .ref a)]) hx hb dX0_init_41 rfl hl (by decide) rfl (fun ls hl => ?_)
  refine lv_iload_n hx hb dX0_init_42 rfl (lv_at hl 0 rfl) ?_
  refine lv_aload_n hx hb dX0_init_43 rfl (lv_at hl 1 rfl) ?_
  refine n_get X (C := RX0) inX0 hH 1 rfl rfl 0 (by decide) t_fl_Bench_11 rfl rfl dX0_init_44 ?_
  refine n_alen X hH 0 7 rfl rfl (y := 5) rfl dX0_init_47 ?_
  refine lv_icmp_ge (tgt := 70) hx hb dX0_init_48 (by decide) (fun z => absurd z (by decide)) (fun _ => ?_)
  refine lv_aload_n hx hb dX0_init_51 rfl (lv_at hl 1 rfl) ?_
  refine n_get X (C := RX0) inX0 hH 1 rfl rfl 0 (by decide) t_fl_Bench_11 rfl rfl dX0_init_52 ?_
  refine lv_iload_n hx hb dX0_init_55 rfl (lv_at hl 0 rfl) ?_
  refine n_new X (C := RX4) tyX4 tyX4_ok inX4 t_cl_Bench_9 t_inst_PieceType t_ini_PieceType (ci := 4) rfl (fs := [.int 0, .int 0, .int 0, .int 0, .int 0, .int 0, .null, .int 0, .null, .int 0]) dfX4 hH hS (Nat.le_of_ble_eq_true rfl) (Nat.le_of_ble_eq_true rfl) dX0_init_56 (fun q6 H hH hS => ?_)
  refine lv_dup hx hb dX0_init_59 rfl ?_
  refine n_callN X hAO (k_N4 l G) (X.2.2.2.2.2.1.2.2.1 _ t_mn_Bench_31 rfl) t_im_X4_init t_ini_PieceType t_code_X4_init rfl ⟨by decide +kernel, by decide +kernel, by decide +kernel⟩ rfl rfl ⟨(Nat.le_of_ble_eq_true rfl), (Nat.le_of_ble_eq_true rfl)⟩ ⟨(Nat.le_of_ble_eq_true rfl), (Nat.le_of_ble_eq_true rfl)⟩ hH hS hl.1 (Nat.le_of_ble_eq_true rfl) dX0_init_60 (fun α7 H locs hH hS => ?_)
  have hH := GW.under (h := [(q1, aQ (gc G 7) 5 (fun _ => none)), (a, .inr (0, [.ref q1, .int 0, .ref q2, .ref q4, .int 10, .int 0, .int 0, .int 0, .int 0, .int 0, .int 0]))]) hH
  have hH : GW G ((q1, aQ (gc G 7) 5 (fun _ => none)) :: (a, .inr (0, [.ref q1, .int 0, .ref q2, .ref q4, .int 10, .int 0, .int 0, .int 0, .int 0, .int 0, .int 0])) :: (FN_X4 G q6 α7 ++ (FN_X5 G q4 α5 ++ (FN_X5 G q2 α3 ++ ws)))) H := hH
  refine n_astq X hH hS 0 7 4 4 rfl rfl rfl rfl (i := 0) (i_in (by decide) (by decide)) dX0_init_63 (fun H locs hH hS => ?_)
  have hH : GW G ((q1, aQ (gc G 7) 5 (va_up (fun _ => none) (0 : Int32).toNatClampNeg (some q6))) :: (a, .inr (0, [.ref q1, .int 0, .ref q2, .ref q4, .int 10, .int 0, .int 0, .int 0, .int 0, .int 0, .int 0])) :: (FN_X4 G q6 α7 ++ (FN_X5 G q4 α5 ++ (FN_X5 G q2 α3 ++ ws)))) H := hH
  refine lv_iinc (v := 1) (lv' := [(1, .int 1), (0, .ref a)]) hx hb dX0_init_64 hl (k := 0) rfl (by decide) (by decide) rfl (fun ls hl => ?_)
  refine lv_goto (tgt := 42) hx hb dX0_init_67 (by decide) ?_
  refine lv_iload_n hx hb dX0_init_42 rfl (lv_at hl 0 rfl) ?_
  refine lv_aload_n hx hb dX0_init_43 rfl (lv_at hl 1 rfl) ?_
  refine n_get X (C := RX0) inX0 hH 1 rfl rfl 0 (by decide) t_fl_Bench_11 rfl rfl dX0_init_44 ?_
  refine n_alen X hH 0 7 rfl rfl (y := 5) rfl dX0_init_47 ?_
  refine lv_icmp_ge (tgt := 70) hx hb dX0_init_48 (by decide) (fun z => absurd z (by decide)) (fun _ => ?_)
  refine lv_aload_n hx hb dX0_init_51 rfl (lv_at hl 1 rfl) ?_
  refine n_get X (C := RX0) inX0 hH 1 rfl rfl 0 (by decide) t_fl_Bench_11 rfl rfl dX0_init_52 ?_
  refine lv_iload_n hx hb dX0_init_55 rfl (lv_at hl 0 rfl) ?_
  refine n_new X (C := RX4) tyX4 tyX4_ok inX4 t_cl_Bench_9 t_inst_PieceType t_ini_PieceType (ci := 4) rfl (fs := [.int 0, .int 0, .int 0, .int 0, .int 0, .int 0, .null, .int 0, .null, .int 0]) dfX4 hH hS (Nat.le_of_ble_eq_true rfl) (Nat.le_of_ble_eq_true rfl) dX0_init_56 (fun q8 H hH hS => ?_)
  refine lv_dup hx hb dX0_init_59 rfl ?_
  refine n_callN X hAO (k_N4 l G) (X.2.2.2.2.2.1.2.2.1 _ t_mn_Bench_31 rfl) t_im_X4_init t_ini_PieceType t_code_X4_init rfl ⟨by decide +kernel, by decide +kernel, by decide +kernel⟩ rfl rfl ⟨(Nat.le_of_ble_eq_true rfl), (Nat.le_of_ble_eq_true rfl)⟩ ⟨(Nat.le_of_ble_eq_true rfl), (Nat.le_of_ble_eq_true rfl)⟩ hH hS hl.1 (Nat.le_of_ble_eq_true rfl) dX0_init_60 (fun α9 H locs hH hS => ?_)
  have hH := GW.under (h := [(q1, aQ (gc G 7) 5 (va_up (fun _ => none) (0 : Int32).toNatClampNeg (some q6))), (a, .inr (0, [.ref q1, .int 0, .ref q2, .ref q4, .int 10, .int 0, .int 0, .int 0, .int 0, .int 0, .int 0]))]) hH
  have hH : GW G ((q1, aQ (gc G 7) 5 (va_up (fun _ => none) (0 : Int32).toNatClampNeg (some q6))) :: (a, .inr (0, [.ref q1, .int 0, .ref q2, .ref q4, .int 10, .int 0, .int 0, .int 0, .int 0, .int 0, .int 0])) :: (FN_X4 G q8 α9 ++ (FN_X4 G q6 α7 ++ (FN_X5 G q4 α5 ++ (FN_X5 G q2 α3 ++ ws))))) H := hH
  refine n_astq X hH hS 0 7 4 4 rfl rfl rfl rfl (i := 1) (i_in (by decide) (by decide)) dX0_init_63 (fun H locs hH hS => ?_)
  have hH : GW G ((q1, aQ (gc G 7) 5 (va_up (va_up (fun _ => none) (0 : Int32).toNatClampNeg (some q6)) (1 : Int32).toNatClampNeg (some q8))) :: (a, .inr (0, [.ref q1, .int 0, .ref q2, .ref q4, .int 10, .int 0, .int 0, .int 0, .int 0, .int 0, .int 0])) :: (FN_X4 G q8 α9 ++ (FN_X4 G q6 α7 ++ (FN_X5 G q4 α5 ++ (FN_X5 G q2 α3 ++ ws))))) H := hH
  refine lv_iinc (v := 2) (lv' := [(1, .int 2), (0, .ref a)]) hx hb dX0_init_64 hl (k := 0) rfl (by decide) (by decide) rfl (fun ls hl => ?_)
  refine lv_goto (tgt := 42) hx hb dX0_init_67 (by decide) ?_
  refine lv_iload_n hx hb dX0_init_42 rfl (lv_at hl 0 rfl) ?_
  refine lv_aload_n hx hb dX0_init_43 rfl (lv_at hl 1 rfl) ?_
  refine n_get X (C := RX0) inX0 hH 1 rfl rfl 0 (by decide) t_fl_Bench_11 rfl rfl dX0_init_44 ?_
  refine n_alen X hH 0 7 rfl rfl (y := 5) rfl dX0_init_47 ?_
  refine lv_icmp_ge (tgt := 70) hx hb dX0_init_48 (by decide) (fun z => absurd z (by decide)) (fun _ => ?_)
  refine lv_aload_n hx hb dX0_init_51 rfl (lv_at hl 1 rfl) ?_
  refine n_get X (C := RX0) inX0 hH 1 rfl rfl 0 (by decide) t_fl_Bench_11 rfl rfl dX0_init_52 ?_
  refine lv_iload_n hx hb dX0_init_55 rfl (lv_at hl 0 rfl) ?_
  refine n_new X (C := RX4) tyX4 tyX4_ok inX4 t_cl_Bench_9 t_inst_PieceType t_ini_PieceType (ci := 4) rfl (fs := [.int 0, .int 0, .int 0, .int 0, .int 0, .int 0, .null, .int 0, .null, .int 0]) dfX4 hH hS (Nat.le_of_ble_eq_true rfl) (Nat.le_of_ble_eq_true rfl) dX0_init_56 (fun q10 H hH hS => ?_)
  refine lv_dup hx hb dX0_init_59 rfl ?_
  refine n_callN X hAO (k_N4 l G) (X.2.2.2.2.2.1.2.2.1 _ t_mn_Bench_31 rfl) t_im_X4_init t_ini_PieceType t_code_X4_init rfl ⟨by decide +kernel, by decide +kernel, by decide +kernel⟩ rfl rfl ⟨(Nat.le_of_ble_eq_true rfl), (Nat.le_of_ble_eq_true rfl)⟩ ⟨(Nat.le_of_ble_eq_true rfl), (Nat.le_of_ble_eq_true rfl)⟩ hH hS hl.1 (Nat.le_of_ble_eq_true rfl) dX0_init_60 (fun α11 H locs hH hS => ?_)
  have hH := GW.under (h := [(q1, aQ (gc G 7) 5 (va_up (va_up (fun _ => none) (0 : Int32).toNatClampNeg (some q6)) (1 : Int32).toNatClampNeg (some q8))), (a, .inr (0, [.ref q1, .int 0, .ref q2, .ref q4, .int 10, .int 0, .int 0, .int 0, .int 0, .int 0, .int 0]))]) hH
  have hH : GW G ((q1, aQ (gc G 7) 5 (va_up (va_up (fun _ => none) (0 : Int32).toNatClampNeg (some q6)) (1 : Int32).toNatClampNeg (some q8))) :: (a, .inr (0, [.ref q1, .int 0, .ref q2, .ref q4, .int 10, .int 0, .int 0, .int 0, .int 0, .int 0, .int 0])) :: (FN_X4 G q10 α11 ++ (FN_X4 G q8 α9 ++ (FN_X4 G q6 α7 ++ (FN_X5 G q4 α5 ++ (FN_X5 G q2 α3 ++ ws)))))) H := hH
  refine n_astq X hH hS 0 7 4 4 rfl rfl rfl rfl (i := 2) (i_in (by decide) (by decide)) dX0_init_63 (fun H locs hH hS => ?_)
  have hH : GW G ((q1, aQ (gc G 7) 5 (va_up (va_up (va_up (fun _ => none) (0 : Int32).toNatClampNeg (some q6)) (1 : Int32).toNatClampNeg (some q8)) (2 : Int32).toNatClampNeg (some q10))) :: (a, .inr (0, [.ref q1, .int 0, .ref q2, .ref q4, .int 10, .int 0, .int 0, .int 0, .int 0, .int 0, .int 0])) :: (FN_X4 G q10 α11 ++ (FN_X4 G q8 α9 ++ (FN_X4 G q6 α7 ++ (FN_X5 G q4 α5 ++ (FN_X5 G q2 α3 ++ ws)))))) H := hH
  refine lv_iinc (v := 3) (lv' := [(1, .int 3), (0, .ref a)]) hx hb dX0_init_64 hl (k := 0) rfl (by decide) (by decide) rfl (fun ls hl => ?_)
  refine lv_goto (tgt := 42) hx hb dX0_init_67 (by decide) ?_
  refine lv_iload_n hx hb dX0_init_42 rfl (lv_at hl 0 rfl) ?_
  refine lv_aload_n hx hb dX0_init_43 rfl (lv_at hl 1 rfl) ?_
  refine n_get X (C := RX0) inX0 hH 1 rfl rfl 0 (by decide) t_fl_Bench_11 rfl rfl dX0_init_44 ?_
  refine n_alen X hH 0 7 rfl rfl (y := 5) rfl dX0_init_47 ?_
  refine lv_icmp_ge (tgt := 70) hx hb dX0_init_48 (by decide) (fun z => absurd z (by decide)) (fun _ => ?_)
  refine lv_aload_n hx hb dX0_init_51 rfl (lv_at hl 1 rfl) ?_
  refine n_get X (C := RX0) inX0 hH 1 rfl rfl 0 (by decide) t_fl_Bench_11 rfl rfl dX0_init_52 ?_
  refine lv_iload_n hx hb dX0_init_55 rfl (lv_at hl 0 rfl) ?_
  refine n_new X (C := RX4) tyX4 tyX4_ok inX4 t_cl_Bench_9 t_inst_PieceType t_ini_PieceType (ci := 4) rfl (fs := [.int 0, .int 0, .int 0, .int 0, .int 0, .int 0, .null, .int 0, .null, .int 0]) dfX4 hH hS (Nat.le_of_ble_eq_true rfl) (Nat.le_of_ble_eq_true rfl) dX0_init_56 (fun q12 H hH hS => ?_)
  refine lv_dup hx hb dX0_init_59 rfl ?_
  refine n_callN X hAO (k_N4 l G) (X.2.2.2.2.2.1.2.2.1 _ t_mn_Bench_31 rfl) t_im_X4_init t_ini_PieceType t_code_X4_init rfl ⟨by decide +kernel, by decide +kernel, by decide +kernel⟩ rfl rfl ⟨(Nat.le_of_ble_eq_true rfl), (Nat.le_of_ble_eq_true rfl)⟩ ⟨(Nat.le_of_ble_eq_true rfl), (Nat.le_of_ble_eq_true rfl)⟩ hH hS hl.1 (Nat.le_of_ble_eq_true rfl) dX0_init_60 (fun α13 H locs hH hS => ?_)
  have hH := GW.under (h := [(q1, aQ (gc G 7) 5 (va_up (va_up (va_up (fun _ => none) (0 : Int32).toNatClampNeg (some q6)) (1 : Int32).toNatClampNeg (some q8)) (2 : Int32).toNatClampNeg (some q10))), (a, .inr (0, [.ref q1, .int 0, .ref q2, .ref q4, .int 10, .int 0, .int 0, .int 0, .int 0, .int 0, .int 0]))]) hH
  have hH : GW G ((q1, aQ (gc G 7) 5 (va_up (va_up (va_up (fun _ => none) (0 : Int32).toNatClampNeg (some q6)) (1 : Int32).toNatClampNeg (some q8)) (2 : Int32).toNatClampNeg (some q10))) :: (a, .inr (0, [.ref q1, .int 0, .ref q2, .ref q4, .int 10, .int 0, .int 0, .int 0, .int 0, .int 0, .int 0])) :: (FN_X4 G q12 α13 ++ (FN_X4 G q10 α11 ++ (FN_X4 G q8 α9 ++ (FN_X4 G q6 α7 ++ (FN_X5 G q4 α5 ++ (FN_X5 G q2 α3 ++ ws))))))) H := hH
  refine n_astq X hH hS 0 7 4 4 rfl rfl rfl rfl (i := 3) (i_in (by decide) (by decide)) dX0_init_63 (fun H locs hH hS => ?_)
  have hH : GW G ((q1, aQ (gc G 7) 5 (va_up (va_up (va_up (va_up (fun _ => none) (0 : Int32).toNatClampNeg (some q6)) (1 : Int32).toNatClampNeg (some q8)) (2 : Int32).toNatClampNeg (some q10)) (3 : Int32).toNatClampNeg (some q12))) :: (a, .inr (0, [.ref q1, .int 0, .ref q2, .ref q4, .int 10, .int 0, .int 0, .int 0, .int 0, .int 0, .int 0])) :: (FN_X4 G q12 α13 ++ (FN_X4 G q10 α11 ++ (FN_X4 G q8 α9 ++ (FN_X4 G q6 α7 ++ (FN_X5 G q4 α5 ++ (FN_X5 G q2 α3 ++ ws))))))) H := hH
  refine lv_iinc (v := 4) (lv' := [(1, .int 4), (0, .ref a)]) hx hb dX0_init_64 hl (k := 0) rfl (by decide) (by decide) rfl (fun ls hl => ?_)
  refine lv_goto (tgt := 42) hx hb dX0_init_67 (by decide) ?_
  refine lv_iload_n hx hb dX0_init_42 rfl (lv_at hl 0 rfl) ?_
  refine lv_aload_n hx hb dX0_init_43 rfl (lv_at hl 1 rfl) ?_
  refine n_get X (C := RX0) inX0 hH 1 rfl rfl 0 (by decide) t_fl_Bench_11 rfl rfl dX0_init_44 ?_
  refine n_alen X hH 0 7 rfl rfl (y := 5) rfl dX0_init_47 ?_
  refine lv_icmp_ge (tgt := 70) hx hb dX0_init_48 (by decide) (fun z => absurd z (by decide)) (fun _ => ?_)
  refine lv_aload_n hx hb dX0_init_51 rfl (lv_at hl 1 rfl) ?_
  refine n_get X (C := RX0) inX0 hH 1 rfl rfl 0 (by decide) t_fl_Bench_11 rfl rfl dX0_init_52 ?_
  refine lv_iload_n hx hb dX0_init_55 rfl (lv_at hl 0 rfl) ?_
  refine n_new X (C := RX4) tyX4 tyX4_ok inX4 t_cl_Bench_9 t_inst_PieceType t_ini_PieceType (ci := 4) rfl (fs := [.int 0, .int 0, .int 0, .int 0, .int 0, .int 0, .null, .int 0, .null, .int 0]) dfX4 hH hS (Nat.le_of_ble_eq_true rfl) (Nat.le_of_ble_eq_true rfl) dX0_init_56 (fun q14 H hH hS => ?_)
  refine lv_dup hx hb dX0_init_59 rfl ?_
  refine n_callN X hAO (k_N4 l G) (X.2.2.2.2.2.1.2.2.1 _ t_mn_Bench_31 rfl) t_im_X4_init t_ini_PieceType t_code_X4_init rfl ⟨by decide +kernel, by decide +kernel, by decide +kernel⟩ rfl rfl ⟨(Nat.le_of_ble_eq_true rfl), (Nat.le_of_ble_eq_true rfl)⟩ ⟨(Nat.le_of_ble_eq_true rfl), (Nat.le_of_ble_eq_true rfl)⟩ hH hS hl.1 (Nat.le_of_ble_eq_true rfl) dX0_init_60 (fun α15 H locs hH hS => ?_)
  have hH := GW.under (h := [(q1, aQ (gc G 7) 5 (va_up (va_up (va_up (va_up (fun _ => none) (0 : Int32).toNatClampNeg (some q6)) (1 : Int32).toNatClampNeg (some q8)) (2 : Int32).toNatClampNeg (some q10)) (3 : Int32).toNatClampNeg (some q12))), (a, .inr (0, [.ref q1, .int 0, .ref q2, .ref q4, .int 10, .int 0, .int 0, .int 0, .int 0, .int 0, .int 0]))]) hH
  have hH : GW G ((q1, aQ (gc G 7) 5 (va_up (va_up (va_up (va_up (fun _ => none) (0 : Int32).toNatClampNeg (some q6)) (1 : Int32).toNatClampNeg (some q8)) (2 : Int32).toNatClampNeg (some q10)) (3 : Int32).toNatClampNeg (some q12))) :: (a, .inr (0, [.ref q1, .int 0, .ref q2, .ref q4, .int 10, .int 0, .int 0, .int 0, .int 0, .int 0, .int 0])) :: (FN_X4 G q14 α15 ++ (FN_X4 G q12 α13 ++ (FN_X4 G q10 α11 ++ (FN_X4 G q8 α9 ++ (FN_X4 G q6 α7 ++ (FN_X5 G q4 α5 ++ (FN_X5 G q2 α3 ++ ws)))))))) H := hH
  refine n_astq X hH hS 0 7 4 4 rfl rfl rfl rfl (i := 4) (i_in (by decide) (by decide)) dX0_init_63 (fun H locs hH hS => ?_)
  have hH : GW G ((q1, aQ (gc G 7) 5 (va_up (va_up (va_up (va_up (va_up (fun _ => none) (0 : Int32).toNatClampNeg (some q6)) (1 : Int32).toNatClampNeg (some q8)) (2 : Int32).toNatClampNeg (some q10)) (3 : Int32).toNatClampNeg (some q12)) (4 : Int32).toNatClampNeg (some q14))) :: (a, .inr (0, [.ref q1, .int 0, .ref q2, .ref q4, .int 10, .int 0, .int 0, .int 0, .int 0, .int 0, .int 0])) :: (FN_X4 G q14 α15 ++ (FN_X4 G q12 α13 ++ (FN_X4 G q10 α11 ++ (FN_X4 G q8 α9 ++ (FN_X4 G q6 α7 ++ (FN_X5 G q4 α5 ++ (FN_X5 G q2 α3 ++ ws)))))))) H := hH
  refine lv_iinc (v := 5) (lv' := [(1, .int 5), (0, .ref a)]) hx hb dX0_init_64 hl (k := 0) rfl (by decide) (by decide) rfl (fun ls hl => ?_)
  refine lv_goto (tgt := 42) hx hb dX0_init_67 (by decide) ?_
  refine lv_iload_n hx hb dX0_init_42 rfl (lv_at hl 0 rfl) ?_
  refine lv_aload_n hx hb dX0_init_43 rfl (lv_at hl 1 rfl) ?_
  refine n_get X (C := RX0) inX0 hH 1 rfl rfl 0 (by decide) t_fl_Bench_11 rfl rfl dX0_init_44 ?_
  refine n_alen X hH 0 7 rfl rfl (y := 5) rfl dX0_init_47 ?_
  refine lv_icmp_ge (tgt := 70) hx hb dX0_init_48 (by decide) (fun _ => ?_) (fun z => absurd (by decide) z)
  exact E _ _ _ _ (fun i => ([q1, q6, q8, q10, q12, q14, q2, q4, (α15 0), (α15 1), (α13 0), (α13 1), (α11 0), (α11 1), (α9 0), (α9 1), (α7 0), (α7 1), (α5 0), (α5 1), (α5 2), (α3 0), (α3 1), (α3 2)] : List Nat).getD i 0) _ _ dX0_init_70 hH hS (Nat.le_of_ble_eq_true rfl) (Nat.le_of_ble_eq_true rfl)
theorem dX7_init_0 : decode cX7_init 0 = .ok (.aload_n 0, 1) := by decide +kernel
theorem dX7_init_1 : decode cX7_init 1 = .ok (.invokespecial 3, 3) := by decide +kernel
theorem dX7_init_4 : decode cX7_init 4 = .ok (.aload_n 0, 1) := by decide +kernel
theorem dX7_init_5 : decode cX7_init 5 = .ok (.new 9, 3) := by decide +kernel
theorem dX7_init_8 : decode cX7_init 8 = .ok (.dup, 1) := by decide +kernel
theorem dX7_init_9 : decode cX7_init 9 = .ok (.invokespecial 11, 3) := by decide +kernel
theorem dX7_init_12 : decode cX7_init 12 = .ok (.putfield 12, 3) := by decide +kernel
theorem dX7_init_15 : decode cX7_init 15 = .ok (.aload_n 0, 1) := by decide +kernel
theorem dX7_init_16 : decode cX7_init 16 = .ok (.new 18, 3) := by decide +kernel
theorem dX7_init_19 : decode cX7_init 19 = .ok (.dup, 1) := by decide +kernel
theorem dX7_init_20 : decode cX7_init 20 = .ok (.invokespecial 20, 3) := by decide +kernel
theorem dX7_init_23 : decode cX7_init 23 = .ok (.putfield 21, 3) := by decide +kernel
theorem dX7_init_26 : decode cX7_init 26 = .ok (.return_, 1) := by decide +kernel
def FN_X7 (G : gG) (q : Nat) (δ : Nat → Nat) : va_W := [(q, .inr (7, [.ref (δ 0), .ref (δ 1)])), ((δ 2), aQ (gc G 7) 5 (va_up (va_up (va_up (va_up (va_up (fun _ => none) (0 : Int32).toNatClampNeg (some (δ 3))) (1 : Int32).toNatClampNeg (some (δ 4))) (2 : Int32).toNatClampNeg (some (δ 5))) (3 : Int32).toNatClampNeg (some (δ 6))) (4 : Int32).toNatClampNeg (some (δ 7)))), ((δ 1), .inr (0, [.ref (δ 2), .int 0, .ref (δ 8), .ref (δ 9), .int 10, .int 0, .int 0, .int 0, .int 0, .int 0, .int 0])), ((δ 10), aI (gc G 0) 12 (fun _ => 0)), ((δ 11), aI (gc G 0) 10 (fun _ => 0)), ((δ 7), .inr (4, [.int 0, .int 0, .int 0, .int 0, .int 0, .int 0, .ref (δ 11), .int 0, .ref (δ 10), .int 0])), ((δ 12), aI (gc G 0) 12 (fun _ => 0)), ((δ 13), aI (gc G 0) 10 (fun _ => 0)), ((δ 6), .inr (4, [.int 0, .int 0, .int 0, .int 0, .int 0, .int 0, .ref (δ 13), .int 0, .ref (δ 12), .int 0])), ((δ 14), aI (gc G 0) 12 (fun _ => 0)), ((δ 15), aI (gc G 0) 10 (fun _ => 0)), ((δ 5), .inr (4, [.int 0, .int 0, .int 0, .int 0, .int 0, .int 0, .ref (δ 15), .int 0, .ref (δ 14), .int 0])), ((δ 16), aI (gc G 0) 12 (fun _ => 0)), ((δ 17), aI (gc G 0) 10 (fun _ => 0)), ((δ 4), .inr (4, [.int 0, .int 0, .int 0, .int 0, .int 0, .int 0, .ref (δ 17), .int 0, .ref (δ 16), .int 0])), ((δ 18), aI (gc G 0) 12 (fun _ => 0)), ((δ 19), aI (gc G 0) 10 (fun _ => 0)), ((δ 3), .inr (4, [.int 0, .int 0, .int 0, .int 0, .int 0, .int 0, .ref (δ 19), .int 0, .ref (δ 18), .int 0])), ((δ 20), aI (gc G 0) 20 (fun _ => 0)), ((δ 21), aI (gc G 0) 20 (fun _ => 0)), ((δ 22), aI (gc G 0) 20 (fun _ => 0)), ((δ 9), .inr (5, [.ref (δ 22), .ref (δ 21), .ref (δ 20), .int 0])), ((δ 23), aI (gc G 0) 20 (fun _ => 0)), ((δ 24), aI (gc G 0) 20 (fun _ => 0)), ((δ 25), aI (gc G 0) 20 (fun _ => 0)), ((δ 8), .inr (5, [.ref (δ 25), .ref (δ 24), .ref (δ 23), .int 0])), ((δ 26), aQ (gc G 6) 10 (va_up (va_up (va_up (va_up (va_up (va_up (va_up (va_up (va_up (va_up (fun _ => none) (0 : Int32).toNatClampNeg (some (δ 27))) (1 : Int32).toNatClampNeg (some (δ 28))) (2 : Int32).toNatClampNeg (some (δ 29))) (3 : Int32).toNatClampNeg (some (δ 30))) (4 : Int32).toNatClampNeg (some (δ 31))) (5 : Int32).toNatClampNeg (some (δ 32))) (6 : Int32).toNatClampNeg (some (δ 33))) (7 : Int32).toNatClampNeg (some (δ 34))) (8 : Int32).toNatClampNeg (some (δ 35))) (9 : Int32).toNatClampNeg (some (δ 36)))), ((δ 37), aQ (gc G 5) 6 (va_up (va_up (va_up (va_up (va_up (va_up (fun _ => none) (0 : Int32).toNatClampNeg (some (δ 38))) (1 : Int32).toNatClampNeg (some (δ 39))) (2 : Int32).toNatClampNeg (some (δ 40))) (3 : Int32).toNatClampNeg (some (δ 41))) (4 : Int32).toNatClampNeg (some (δ 42))) (5 : Int32).toNatClampNeg (some (δ 43)))), ((δ 0), .inr (2, [.ref (δ 37), .ref (δ 26), .int 0, .int 0, .int 20, .int 0])), ((δ 36), .inr (1, [.int 0, .int 0, .int 0])), ((δ 35), .inr (1, [.int 0, .int 0, .int 0])), ((δ 34), .inr (1, [.int 0, .int 0, .int 0])), ((δ 33), .inr (1, [.int 0, .int 0, .int 0])), ((δ 32), .inr (1, [.int 0, .int 0, .int 0])), ((δ 31), .inr (1, [.int 0, .int 0, .int 0])), ((δ 30), .inr (1, [.int 0, .int 0, .int 0])), ((δ 29), .inr (1, [.int 0, .int 0, .int 0])), ((δ 28), .inr (1, [.int 0, .int 0, .int 0])), ((δ 27), .inr (1, [.int 0, .int 0, .int 0])), ((δ 43), .inr (8, [.int 0, .int 0, .int 0, .int 0, .int 0, .int 0, .int 0, .int 0, .int 0])), ((δ 42), .inr (8, [.int 0, .int 0, .int 0, .int 0, .int 0, .int 0, .int 0, .int 0, .int 0])), ((δ 41), .inr (8, [.int 0, .int 0, .int 0, .int 0, .int 0, .int 0, .int 0, .int 0, .int 0])), ((δ 40), .inr (8, [.int 0, .int 0, .int 0, .int 0, .int 0, .int 0, .int 0, .int 0, .int 0])), ((δ 39), .inr (8, [.int 0, .int 0, .int 0, .int 0, .int 0, .int 0, .int 0, .int 0, .int 0])), ((δ 38), .inr (8, [.int 0, .int 0, .int 0, .int 0, .int 0, .int 0, .int 0, .int 0, .int 0]))]
abbrev rmN_X7 : Room := { frames := 3, cells := 44, slots := 410, locals := 53 }
theorem k_N7 (l : Launch) (G : gG) : NIc l yX7_init cX7_init 1 rmN_X7 G (.inr (7, [.null, .null])) 44 410 (FN_X7 G) := by
  refine gofN (own := RX7) (by decide +kernel) rfl rfl (by decide) (fun a ws p e s m args below meth c ls Q X hin hAO hH hl E => ?_)
  have hx := X.1
  have hb := X.2.1
  have hS : va_S (gA G) s.heap s.heap [] := va_S.rf
  refine lv_aload_n hx hb dX7_init_0 rfl (lv_at hl 0 rfl) ?_
  refine n_obj X t_ml_State_3 hl.1 dX7_init_1 (Nat.le_of_ble_eq_true rfl) (Nat.le_of_ble_eq_true rfl) ?_
  refine lv_aload_n hx hb dX7_init_4 rfl (lv_at hl 0 rfl) ?_
  refine n_new X (C := RX2) tyX2 tyX2_ok inX2 t_cl_State_9 t_inst_Drawer t_ini_Drawer (ci := 2) rfl (fs := [.null, .null, .int 0, .int 0, .int 0, .int 0]) dfX2 hH hS (Nat.le_of_ble_eq_true rfl) (Nat.le_of_ble_eq_true rfl) dX7_init_5 (fun q1 H hH hS => ?_)
  refine lv_dup hx hb dX7_init_8 rfl ?_
  refine n_call X hAO (k_N2 l G) t_ml_State_11 t_im_X2_init t_ini_Drawer t_code_X2_init rfl ⟨by decide +kernel, by decide +kernel, by decide +kernel⟩ rfl rfl ⟨(Nat.le_of_ble_eq_true rfl), (Nat.le_of_ble_eq_true rfl)⟩ ⟨(Nat.le_of_ble_eq_true rfl), (Nat.le_of_ble_eq_true rfl)⟩ hH hS hl.1 (Nat.le_of_ble_eq_true rfl) dX7_init_9 (fun α2 H locs hH hS => ?_)
  have hH := GW.under (h := [(a, .inr (7, [.null, .null]))]) hH
  have hH : GW G ((a, .inr (7, [.null, .null])) :: (FN_X2 G q1 α2 ++ ws)) H := hH
  refine n_putF X hin (C := RX7) inX7 tyX7 tyX7_ok nmX7 hH hS 0 rfl rfl 0 (by decide) t_fl_State_12 rfl rfl rfl (tyX7_ok 0 (by decide)) rfl rfl (Nat.le_of_ble_eq_true rfl) dX7_init_12 (fun H locs hH hS => ?_)
  have hH : GW G ((a, .inr (7, [.ref q1, .null])) :: (FN_X2 G q1 α2 ++ ws)) H := hH
  refine lv_aload_n hx hb dX7_init_15 rfl (lv_at hl 0 rfl) ?_
  refine n_new X (C := RX0) tyX0 tyX0_ok inX0 t_cl_State_18 t_inst_Bench t_ini_Bench (ci := 0) rfl (fs := [.null, .int 0, .null, .null, .int 0, .int 0, .int 0, .int 0, .int 0, .int 0, .int 0]) dfX0 hH hS (Nat.le_of_ble_eq_true rfl) (Nat.le_of_ble_eq_true rfl) dX7_init_16 (fun q3 H hH hS => ?_)
  refine lv_dup hx hb dX7_init_19 rfl ?_
  refine n_call X hAO (k_N0 l G) t_ml_State_20 t_im_X0_init t_ini_Bench t_code_X0_init rfl ⟨by decide +kernel, by decide +kernel, by decide +kernel⟩ rfl rfl ⟨(Nat.le_of_ble_eq_true rfl), (Nat.le_of_ble_eq_true rfl)⟩ ⟨(Nat.le_of_ble_eq_true rfl), (Nat.le_of_ble_eq_true rfl)⟩ hH hS hl.1 (Nat.le_of_ble_eq_true rfl) dX7_init_20 (fun α4 H locs hH hS => ?_)
  have hH := GW.under (h := [(a, .inr (7, [.ref q1, .null]))]) hH
  have hH : GW G ((a, .inr (7, [.ref q1, .null])) :: (FN_X0 G q3 α4 ++ (FN_X2 G q1 α2 ++ ws))) H := hH
  refine n_putF X hin (C := RX7) inX7 tyX7 tyX7_ok nmX7 hH hS 0 rfl rfl 1 (by decide) t_fl_State_21 rfl rfl rfl (tyX7_ok 1 (by decide)) rfl rfl (Nat.le_of_ble_eq_true rfl) dX7_init_23 (fun H locs hH hS => ?_)
  have hH : GW G ((a, .inr (7, [.ref q1, .ref q3])) :: (FN_X0 G q3 α4 ++ (FN_X2 G q1 α2 ++ ws))) H := hH
  exact E _ _ _ _ (fun i => ([q1, q3, (α4 0), (α4 1), (α4 2), (α4 3), (α4 4), (α4 5), (α4 6), (α4 7), (α4 8), (α4 9), (α4 10), (α4 11), (α4 12), (α4 13), (α4 14), (α4 15), (α4 16), (α4 17), (α4 18), (α4 19), (α4 20), (α4 21), (α4 22), (α4 23), (α2 0), (α2 1), (α2 2), (α2 3), (α2 4), (α2 5), (α2 6), (α2 7), (α2 8), (α2 9), (α2 10), (α2 11), (α2 12), (α2 13), (α2 14), (α2 15), (α2 16), (α2 17)] : List Nat).getD i 0) _ _ dX7_init_26 hH hS (Nat.le_of_ble_eq_true rfl) (Nat.le_of_ble_eq_true rfl)
theorem dX9_init_0 : decode cX9_init 0 = .ok (.aload_n 0, 1) := by decide +kernel
theorem dX9_init_1 : decode cX9_init 1 = .ok (.invokespecial 3, 3) := by decide +kernel
theorem dX9_init_4 : decode cX9_init 4 = .ok (.aload_n 0, 1) := by decide +kernel
theorem dX9_init_5 : decode cX9_init 5 = .ok (.new 9, 3) := by decide +kernel
theorem dX9_init_8 : decode cX9_init 8 = .ok (.dup, 1) := by decide +kernel
theorem dX9_init_9 : decode cX9_init 9 = .ok (.invokespecial 11, 3) := by decide +kernel
theorem dX9_init_12 : decode cX9_init 12 = .ok (.putfield 12, 3) := by decide +kernel
theorem dX9_init_15 : decode cX9_init 15 = .ok (.aload_n 0, 1) := by decide +kernel
theorem dX9_init_16 : decode cX9_init 16 = .ok (.new 18, 3) := by decide +kernel
theorem dX9_init_19 : decode cX9_init 19 = .ok (.dup, 1) := by decide +kernel
theorem dX9_init_20 : decode cX9_init 20 = .ok (.invokespecial 20, 3) := by decide +kernel
theorem dX9_init_23 : decode cX9_init 23 = .ok (.putfield 21, 3) := by decide +kernel
theorem dX9_init_26 : decode cX9_init 26 = .ok (.return_, 1) := by decide +kernel
def FN_X9 (G : gG) (q : Nat) (δ : Nat → Nat) : va_W := [(q, .inr (9, [.ref (δ 0), .ref (δ 1), .int 0, .int 0, .int 0, .int 0])), ((δ 1), .inr (3, [.int 0, .int 0, .int 0, .int 0, .int 0, .int 0])), ((δ 0), .inr (7, [.ref (δ 2), .ref (δ 3)])), ((δ 4), aQ (gc G 7) 5 (va_up (va_up (va_up (va_up (va_up (fun _ => none) (0 : Int32).toNatClampNeg (some (δ 5))) (1 : Int32).toNatClampNeg (some (δ 6))) (2 : Int32).toNatClampNeg (some (δ 7))) (3 : Int32).toNatClampNeg (some (δ 8))) (4 : Int32).toNatClampNeg (some (δ 9)))), ((δ 3), .inr (0, [.ref (δ 4), .int 0, .ref (δ 10), .ref (δ 11), .int 10, .int 0, .int 0, .int 0, .int 0, .int 0, .int 0])), ((δ 12), aI (gc G 0) 12 (fun _ => 0)), ((δ 13), aI (gc G 0) 10 (fun _ => 0)), ((δ 9), .inr (4, [.int 0, .int 0, .int 0, .int 0, .int 0, .int 0, .ref (δ 13), .int 0, .ref (δ 12), .int 0])), ((δ 14), aI (gc G 0) 12 (fun _ => 0)), ((δ 15), aI (gc G 0) 10 (fun _ => 0)), ((δ 8), .inr (4, [.int 0, .int 0, .int 0, .int 0, .int 0, .int 0, .ref (δ 15), .int 0, .ref (δ 14), .int 0])), ((δ 16), aI (gc G 0) 12 (fun _ => 0)), ((δ 17), aI (gc G 0) 10 (fun _ => 0)), ((δ 7), .inr (4, [.int 0, .int 0, .int 0, .int 0, .int 0, .int 0, .ref (δ 17), .int 0, .ref (δ 16), .int 0])), ((δ 18), aI (gc G 0) 12 (fun _ => 0)), ((δ 19), aI (gc G 0) 10 (fun _ => 0)), ((δ 6), .inr (4, [.int 0, .int 0, .int 0, .int 0, .int 0, .int 0, .ref (δ 19), .int 0, .ref (δ 18), .int 0])), ((δ 20), aI (gc G 0) 12 (fun _ => 0)), ((δ 21), aI (gc G 0) 10 (fun _ => 0)), ((δ 5), .inr (4, [.int 0, .int 0, .int 0, .int 0, .int 0, .int 0, .ref (δ 21), .int 0, .ref (δ 20), .int 0])), ((δ 22), aI (gc G 0) 20 (fun _ => 0)), ((δ 23), aI (gc G 0) 20 (fun _ => 0)), ((δ 24), aI (gc G 0) 20 (fun _ => 0)), ((δ 11), .inr (5, [.ref (δ 24), .ref (δ 23), .ref (δ 22), .int 0])), ((δ 25), aI (gc G 0) 20 (fun _ => 0)), ((δ 26), aI (gc G 0) 20 (fun _ => 0)), ((δ 27), aI (gc G 0) 20 (fun _ => 0)), ((δ 10), .inr (5, [.ref (δ 27), .ref (δ 26), .ref (δ 25), .int 0])), ((δ 28), aQ (gc G 6) 10 (va_up (va_up (va_up (va_up (va_up (va_up (va_up (va_up (va_up (va_up (fun _ => none) (0 : Int32).toNatClampNeg (some (δ 29))) (1 : Int32).toNatClampNeg (some (δ 30))) (2 : Int32).toNatClampNeg (some (δ 31))) (3 : Int32).toNatClampNeg (some (δ 32))) (4 : Int32).toNatClampNeg (some (δ 33))) (5 : Int32).toNatClampNeg (some (δ 34))) (6 : Int32).toNatClampNeg (some (δ 35))) (7 : Int32).toNatClampNeg (some (δ 36))) (8 : Int32).toNatClampNeg (some (δ 37))) (9 : Int32).toNatClampNeg (some (δ 38)))), ((δ 39), aQ (gc G 5) 6 (va_up (va_up (va_up (va_up (va_up (va_up (fun _ => none) (0 : Int32).toNatClampNeg (some (δ 40))) (1 : Int32).toNatClampNeg (some (δ 41))) (2 : Int32).toNatClampNeg (some (δ 42))) (3 : Int32).toNatClampNeg (some (δ 43))) (4 : Int32).toNatClampNeg (some (δ 44))) (5 : Int32).toNatClampNeg (some (δ 45)))), ((δ 2), .inr (2, [.ref (δ 39), .ref (δ 28), .int 0, .int 0, .int 20, .int 0])), ((δ 38), .inr (1, [.int 0, .int 0, .int 0])), ((δ 37), .inr (1, [.int 0, .int 0, .int 0])), ((δ 36), .inr (1, [.int 0, .int 0, .int 0])), ((δ 35), .inr (1, [.int 0, .int 0, .int 0])), ((δ 34), .inr (1, [.int 0, .int 0, .int 0])), ((δ 33), .inr (1, [.int 0, .int 0, .int 0])), ((δ 32), .inr (1, [.int 0, .int 0, .int 0])), ((δ 31), .inr (1, [.int 0, .int 0, .int 0])), ((δ 30), .inr (1, [.int 0, .int 0, .int 0])), ((δ 29), .inr (1, [.int 0, .int 0, .int 0])), ((δ 45), .inr (8, [.int 0, .int 0, .int 0, .int 0, .int 0, .int 0, .int 0, .int 0, .int 0])), ((δ 44), .inr (8, [.int 0, .int 0, .int 0, .int 0, .int 0, .int 0, .int 0, .int 0, .int 0])), ((δ 43), .inr (8, [.int 0, .int 0, .int 0, .int 0, .int 0, .int 0, .int 0, .int 0, .int 0])), ((δ 42), .inr (8, [.int 0, .int 0, .int 0, .int 0, .int 0, .int 0, .int 0, .int 0, .int 0])), ((δ 41), .inr (8, [.int 0, .int 0, .int 0, .int 0, .int 0, .int 0, .int 0, .int 0, .int 0])), ((δ 40), .inr (8, [.int 0, .int 0, .int 0, .int 0, .int 0, .int 0, .int 0, .int 0, .int 0]))]
abbrev rmN_X9 : Room := { frames := 4, cells := 46, slots := 418, locals := 73 }
theorem k_N9 (l : Launch) (G : gG) : NIc l yX9_init cX9_init 1 rmN_X9 G (.inr (9, [.null, .null, .int 0, .int 0, .int 0, .int 0])) 46 418 (FN_X9 G) := by
  refine gofN (own := RX9) (by decide +kernel) rfl rfl (by decide) (fun a ws p e s m args below meth c ls Q X hin hAO hH hl E => ?_)
  have hx := X.1
  have hb := X.2.1
  have hS : va_S (gA G) s.heap s.heap [] := va_S.rf
  refine lv_aload_n hx hb dX9_init_0 rfl (lv_at hl 0 rfl) ?_
  refine n_obj X t_ml_Trial_3 hl.1 dX9_init_1 (Nat.le_of_ble_eq_true rfl) (Nat.le_of_ble_eq_true rfl) ?_
  refine lv_aload_n hx hb dX9_init_4 rfl (lv_at hl 0 rfl) ?_
  refine n_new X (C := RX7) tyX7 tyX7_ok inX7 t_cl_Trial_9 t_inst_State t_ini_State (ci := 7) rfl (fs := [.null, .null]) dfX7 hH hS (Nat.le_of_ble_eq_true rfl) (Nat.le_of_ble_eq_true rfl) dX9_init_5 (fun q1 H hH hS => ?_)
  refine lv_dup hx hb dX9_init_8 rfl ?_
  refine n_callN X hAO (k_N7 l G) (X.2.2.2.2.2.1.2.2.1 _ t_mn_Trial_11 rfl) t_im_X7_init t_ini_State t_code_X7_init rfl ⟨by decide +kernel, by decide +kernel, by decide +kernel⟩ rfl rfl ⟨(Nat.le_of_ble_eq_true rfl), (Nat.le_of_ble_eq_true rfl)⟩ ⟨(Nat.le_of_ble_eq_true rfl), (Nat.le_of_ble_eq_true rfl)⟩ hH hS hl.1 (Nat.le_of_ble_eq_true rfl) dX9_init_9 (fun α2 H locs hH hS => ?_)
  have hH := GW.under (h := [(a, .inr (9, [.null, .null, .int 0, .int 0, .int 0, .int 0]))]) hH
  have hH : GW G ((a, .inr (9, [.null, .null, .int 0, .int 0, .int 0, .int 0])) :: (FN_X7 G q1 α2 ++ ws)) H := hH
  refine n_put X (C := RX9) inX9 tyX9 tyX9_ok nmX9 hH hS 0 rfl rfl 0 (by decide) t_fl_Trial_12 rfl rfl (tyX9_ok 0 (by decide)) rfl rfl (Nat.le_of_ble_eq_true rfl) dX9_init_12 (fun H locs hH hS => ?_)
  have hH : GW G ((a, .inr (9, [.ref q1, .null, .int 0, .int 0, .int 0, .int 0])) :: (FN_X7 G q1 α2 ++ ws)) H := hH
  refine lv_aload_n hx hb dX9_init_15 rfl (lv_at hl 0 rfl) ?_
  refine n_new X (C := RX3) tyX3 tyX3_ok inX3 t_cl_Trial_18 t_inst_Order t_ini_Order (ci := 3) rfl (fs := [.int 0, .int 0, .int 0, .int 0, .int 0, .int 0]) dfX3 hH hS (Nat.le_of_ble_eq_true rfl) (Nat.le_of_ble_eq_true rfl) dX9_init_16 (fun q3 H hH hS => ?_)
  refine lv_dup hx hb dX9_init_19 rfl ?_
  refine n_callN X hAO (k_N3 l G) (X.2.2.2.2.2.1.2.2.1 _ t_mn_Trial_20 rfl) t_im_X3_init t_ini_Order t_code_X3_init rfl ⟨by decide +kernel, by decide +kernel, by decide +kernel⟩ rfl rfl ⟨(Nat.le_of_ble_eq_true rfl), (Nat.le_of_ble_eq_true rfl)⟩ ⟨(Nat.le_of_ble_eq_true rfl), (Nat.le_of_ble_eq_true rfl)⟩ hH hS hl.1 (Nat.le_of_ble_eq_true rfl) dX9_init_20 (fun α4 H locs hH hS => ?_)
  have hH := GW.under (h := [(a, .inr (9, [.ref q1, .null, .int 0, .int 0, .int 0, .int 0]))]) hH
  have hH : GW G ((a, .inr (9, [.ref q1, .null, .int 0, .int 0, .int 0, .int 0])) :: (FN_X3 G q3 α4 ++ (FN_X7 G q1 α2 ++ ws))) H := hH
  refine n_putF X hin (C := RX9) inX9 tyX9 tyX9_ok nmX9 hH hS 0 rfl rfl 1 (by decide) t_fl_Trial_21 rfl rfl rfl (tyX9_ok 1 (by decide)) rfl rfl (Nat.le_of_ble_eq_true rfl) dX9_init_23 (fun H locs hH hS => ?_)
  have hH : GW G ((a, .inr (9, [.ref q1, .ref q3, .int 0, .int 0, .int 0, .int 0])) :: (FN_X3 G q3 α4 ++ (FN_X7 G q1 α2 ++ ws))) H := hH
  exact E _ _ _ _ (fun i => ([q1, q3, (α2 0), (α2 1), (α2 2), (α2 3), (α2 4), (α2 5), (α2 6), (α2 7), (α2 8), (α2 9), (α2 10), (α2 11), (α2 12), (α2 13), (α2 14), (α2 15), (α2 16), (α2 17), (α2 18), (α2 19), (α2 20), (α2 21), (α2 22), (α2 23), (α2 24), (α2 25), (α2 26), (α2 27), (α2 28), (α2 29), (α2 30), (α2 31), (α2 32), (α2 33), (α2 34), (α2 35), (α2 36), (α2 37), (α2 38), (α2 39), (α2 40), (α2 41), (α2 42), (α2 43)] : List Nat).getD i 0) _ _ dX9_init_26 hH hS (Nat.le_of_ble_eq_true rfl) (Nat.le_of_ble_eq_true rfl)
