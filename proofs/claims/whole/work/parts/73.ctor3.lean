/-! THE CONSTRUCTORS, c: the model. -/
theorem dX11_init_0 : decode cX11_init 0 = .ok (.aload_n 0, 1) := by decide +kernel
theorem dX11_init_1 : decode cX11_init 1 = .ok (.invokespecial 1, 3) := by decide +kernel
theorem dX11_init_4 : decode cX11_init 4 = .ok (.aload_n 0, 1) := by decide +kernel
theorem dX11_init_5 : decode cX11_init 5 = .ok (.sipush 3417, 3) := by decide +kernel
theorem dX11_init_8 : decode cX11_init 8 = .ok (.newarray .int, 2) := by decide +kernel
theorem dX11_init_10 : decode cX11_init 10 = .ok (.putfield 7, 3) := by decide +kernel
theorem dX11_init_13 : decode cX11_init 13 = .ok (.aload_n 0, 1) := by decide +kernel
theorem dX11_init_14 : decode cX11_init 14 = .ok (.sipush 3417, 3) := by decide +kernel
theorem dX11_init_17 : decode cX11_init 17 = .ok (.newarray .int, 2) := by decide +kernel
theorem dX11_init_19 : decode cX11_init 19 = .ok (.putfield 13, 3) := by decide +kernel
theorem dX11_init_22 : decode cX11_init 22 = .ok (.aload_n 0, 1) := by decide +kernel
theorem dX11_init_23 : decode cX11_init 23 = .ok (.sipush 3417, 3) := by decide +kernel
theorem dX11_init_26 : decode cX11_init 26 = .ok (.newarray .int, 2) := by decide +kernel
theorem dX11_init_28 : decode cX11_init 28 = .ok (.putfield 16, 3) := by decide +kernel
theorem dX11_init_31 : decode cX11_init 31 = .ok (.aload_n 0, 1) := by decide +kernel
theorem dX11_init_32 : decode cX11_init 32 = .ok (.sipush 13668, 3) := by decide +kernel
theorem dX11_init_35 : decode cX11_init 35 = .ok (.newarray .int, 2) := by decide +kernel
theorem dX11_init_37 : decode cX11_init 37 = .ok (.putfield 19, 3) := by decide +kernel
theorem dX11_init_40 : decode cX11_init 40 = .ok (.aload_n 0, 1) := by decide +kernel
theorem dX11_init_41 : decode cX11_init 41 = .ok (.bipush 60, 2) := by decide +kernel
theorem dX11_init_43 : decode cX11_init 43 = .ok (.newarray .int, 2) := by decide +kernel
theorem dX11_init_45 : decode cX11_init 45 = .ok (.putfield 22, 3) := by decide +kernel
theorem dX11_init_48 : decode cX11_init 48 = .ok (.aload_n 0, 1) := by decide +kernel
theorem dX11_init_49 : decode cX11_init 49 = .ok (.sipush 15001, 3) := by decide +kernel
theorem dX11_init_52 : decode cX11_init 52 = .ok (.newarray .boolean, 2) := by decide +kernel
theorem dX11_init_54 : decode cX11_init 54 = .ok (.putfield 25, 3) := by decide +kernel
theorem dX11_init_57 : decode cX11_init 57 = .ok (.aload_n 0, 1) := by decide +kernel
theorem dX11_init_58 : decode cX11_init 58 = .ok (.getfield 7, 3) := by decide +kernel
theorem dX11_init_61 : decode cX11_init 61 = .ok (.sipush 208, 3) := by decide +kernel
theorem dX11_init_64 : decode cX11_init 64 = .ok (.bipush 20, 2) := by decide +kernel
theorem dX11_init_66 : decode cX11_init 66 = .ok (.iastore, 1) := by decide +kernel
theorem dX11_init_67 : decode cX11_init 67 = .ok (.aload_n 0, 1) := by decide +kernel
theorem dX11_init_68 : decode cX11_init 68 = .ok (.getfield 7, 3) := by decide +kernel
theorem dX11_init_71 : decode cX11_init 71 = .ok (.sipush 209, 3) := by decide +kernel
theorem dX11_init_74 : decode cX11_init 74 = .ok (.bipush 10, 2) := by decide +kernel
theorem dX11_init_76 : decode cX11_init 76 = .ok (.iastore, 1) := by decide +kernel
theorem dX11_init_77 : decode cX11_init 77 = .ok (.return_, 1) := by decide +kernel
def FN_X11 (G : gG) (q : Nat) (δ : Nat → Nat) : va_W := [((δ 0), aI (gc G 3) 15001 (fun _ => 0)), ((δ 1), aI (gc G 0) 60 (fun _ => 0)), ((δ 2), aI (gc G 0) 13668 (fun _ => 0)), ((δ 3), aI (gc G 0) 3417 (fun _ => 0)), ((δ 4), aI (gc G 0) 3417 (fun _ => 0)), ((δ 5), aI (gc G 0) 3417 (upd (upd (fun _ => 0) (208 : Int32).toNatClampNeg 20) (209 : Int32).toNatClampNeg 10)), (q, .inr (11, [.ref (δ 5), .ref (δ 4), .ref (δ 3), .int 0, .ref (δ 2), .int 0, .ref (δ 1), .int 0, .int 0, .ref (δ 0), .int 0, .int 0, .int 0, .int 0, .int 0, .int 0, .int 0, .int 0]))]
abbrev rmN_X11 : Room := { frames := 1, cells := 6, slots := 38980, locals := 12 }
theorem k_N11 (l : Launch) (G : gG) : NI l yX11_init cX11_init 1 rmN_X11 G (.inr (11, [.null, .null, .null, .int 0, .null, .int 0, .null, .int 0, .int 0, .null, .int 0, .int 0, .int 0, .int 0, .int 0, .int 0, .int 0, .int 0])) 6 38980 (FN_X11 G) := by
  refine gofN (own := RX11) (by decide +kernel) rfl rfl (by decide) (fun a ws p e s m args below meth c ls Q X hin hAO hH hl E => ?_)
  have hx := X.1
  have hb := X.2.1
  have hS : va_S (gA G) s.heap s.heap [] := va_S.rf
  refine lv_aload_n hx hb dX11_init_0 rfl (lv_at hl 0 rfl) ?_
  refine n_obj X t_ml_VernierDrawersModel_1 hl.1 dX11_init_1 (Nat.le_of_ble_eq_true rfl) (Nat.le_of_ble_eq_true rfl) ?_
  refine lv_aload_n hx hb dX11_init_4 rfl (lv_at hl 0 rfl) ?_
  refine lv_sipush (v := 3417) hx hb dX11_init_5 (by decide) ?_
  refine n_newa X (atype := .int) (ty := .int) rfl t_ac_int (t0 := 0) rfl (fun _ _ e1 e2 => Option.some.inj (e1.symm.trans e2)) (n := 3417) (N' := 3417) (a0 := (3417, .inl (fun _ => 0))) (fun _ => rfl) (by decide) rfl (Nat.le_of_ble_eq_true rfl) hH hS (Nat.le_of_ble_eq_true rfl) (Nat.le_of_ble_eq_true rfl) dX11_init_8 (fun q1 H hH hS => ?_)
  have hH : GW G ((q1, aI (gc G 0) 3417 (fun _ => 0)) :: (a, .inr (11, [.null, .null, .null, .int 0, .null, .int 0, .null, .int 0, .int 0, .null, .int 0, .int 0, .int 0, .int 0, .int 0, .int 0, .int 0, .int 0])) :: ws) H := hH
  refine n_putF X hin (C := RX11) inX11 tyX11 tyX11_ok nmX11 hH hS 1 rfl rfl 0 (by decide) t_fl_VernierDrawersModel_7 rfl rfl rfl (tyX11_ok 0 (by decide)) rfl rfl (Nat.le_of_ble_eq_true rfl) dX11_init_10 (fun H locs hH hS => ?_)
  have hH : GW G ((q1, aI (gc G 0) 3417 (fun _ => 0)) :: (a, .inr (11, [.ref q1, .null, .null, .int 0, .null, .int 0, .null, .int 0, .int 0, .null, .int 0, .int 0, .int 0, .int 0, .int 0, .int 0, .int 0, .int 0])) :: ws) H := hH
  refine lv_aload_n hx hb dX11_init_13 rfl (lv_at hl 0 rfl) ?_
  refine lv_sipush (v := 3417) hx hb dX11_init_14 (by decide) ?_
  refine n_newa X (atype := .int) (ty := .int) rfl t_ac_int (t0 := 0) rfl (fun _ _ e1 e2 => Option.some.inj (e1.symm.trans e2)) (n := 3417) (N' := 3417) (a0 := (3417, .inl (fun _ => 0))) (fun _ => rfl) (by decide) rfl (Nat.le_of_ble_eq_true rfl) hH hS (Nat.le_of_ble_eq_true rfl) (Nat.le_of_ble_eq_true rfl) dX11_init_17 (fun q2 H hH hS => ?_)
  have hH : GW G ((q2, aI (gc G 0) 3417 (fun _ => 0)) :: (q1, aI (gc G 0) 3417 (fun _ => 0)) :: (a, .inr (11, [.ref q1, .null, .null, .int 0, .null, .int 0, .null, .int 0, .int 0, .null, .int 0, .int 0, .int 0, .int 0, .int 0, .int 0, .int 0, .int 0])) :: ws) H := hH
  refine n_putF X hin (C := RX11) inX11 tyX11 tyX11_ok nmX11 hH hS 2 rfl rfl 1 (by decide) t_fl_VernierDrawersModel_13 rfl rfl rfl (tyX11_ok 1 (by decide)) rfl rfl (Nat.le_of_ble_eq_true rfl) dX11_init_19 (fun H locs hH hS => ?_)
  have hH : GW G ((q2, aI (gc G 0) 3417 (fun _ => 0)) :: (q1, aI (gc G 0) 3417 (fun _ => 0)) :: (a, .inr (11, [.ref q1, .ref q2, .null, .int 0, .null, .int 0, .null, .int 0, .int 0, .null, .int 0, .int 0, .int 0, .int 0, .int 0, .int 0, .int 0, .int 0])) :: ws) H := hH
  refine lv_aload_n hx hb dX11_init_22 rfl (lv_at hl 0 rfl) ?_
  refine lv_sipush (v := 3417) hx hb dX11_init_23 (by decide) ?_
  refine n_newa X (atype := .int) (ty := .int) rfl t_ac_int (t0 := 0) rfl (fun _ _ e1 e2 => Option.some.inj (e1.symm.trans e2)) (n := 3417) (N' := 3417) (a0 := (3417, .inl (fun _ => 0))) (fun _ => rfl) (by decide) rfl (Nat.le_of_ble_eq_true rfl) hH hS (Nat.le_of_ble_eq_true rfl) (Nat.le_of_ble_eq_true rfl) dX11_init_26 (fun q3 H hH hS => ?_)
  have hH : GW G ((q3, aI (gc G 0) 3417 (fun _ => 0)) :: (q2, aI (gc G 0) 3417 (fun _ => 0)) :: (q1, aI (gc G 0) 3417 (fun _ => 0)) :: (a, .inr (11, [.ref q1, .ref q2, .null, .int 0, .null, .int 0, .null, .int 0, .int 0, .null, .int 0, .int 0, .int 0, .int 0, .int 0, .int 0, .int 0, .int 0])) :: ws) H := hH
  refine n_putF X hin (C := RX11) inX11 tyX11 tyX11_ok nmX11 hH hS 3 rfl rfl 2 (by decide) t_fl_VernierDrawersModel_16 rfl rfl rfl (tyX11_ok 2 (by decide)) rfl rfl (Nat.le_of_ble_eq_true rfl) dX11_init_28 (fun H locs hH hS => ?_)
  have hH : GW G ((q3, aI (gc G 0) 3417 (fun _ => 0)) :: (q2, aI (gc G 0) 3417 (fun _ => 0)) :: (q1, aI (gc G 0) 3417 (fun _ => 0)) :: (a, .inr (11, [.ref q1, .ref q2, .ref q3, .int 0, .null, .int 0, .null, .int 0, .int 0, .null, .int 0, .int 0, .int 0, .int 0, .int 0, .int 0, .int 0, .int 0])) :: ws) H := hH
  refine lv_aload_n hx hb dX11_init_31 rfl (lv_at hl 0 rfl) ?_
  refine lv_sipush (v := 13668) hx hb dX11_init_32 (by decide) ?_
  refine n_newa X (atype := .int) (ty := .int) rfl t_ac_int (t0 := 0) rfl (fun _ _ e1 e2 => Option.some.inj (e1.symm.trans e2)) (n := 13668) (N' := 13668) (a0 := (13668, .inl (fun _ => 0))) (fun _ => rfl) (by decide) rfl (Nat.le_of_ble_eq_true rfl) hH hS (Nat.le_of_ble_eq_true rfl) (Nat.le_of_ble_eq_true rfl) dX11_init_35 (fun q4 H hH hS => ?_)
  have hH : GW G ((q4, aI (gc G 0) 13668 (fun _ => 0)) :: (q3, aI (gc G 0) 3417 (fun _ => 0)) :: (q2, aI (gc G 0) 3417 (fun _ => 0)) :: (q1, aI (gc G 0) 3417 (fun _ => 0)) :: (a, .inr (11, [.ref q1, .ref q2, .ref q3, .int 0, .null, .int 0, .null, .int 0, .int 0, .null, .int 0, .int 0, .int 0, .int 0, .int 0, .int 0, .int 0, .int 0])) :: ws) H := hH
  refine n_putF X hin (C := RX11) inX11 tyX11 tyX11_ok nmX11 hH hS 4 rfl rfl 4 (by decide) t_fl_VernierDrawersModel_19 rfl rfl rfl (tyX11_ok 4 (by decide)) rfl rfl (Nat.le_of_ble_eq_true rfl) dX11_init_37 (fun H locs hH hS => ?_)
  have hH : GW G ((q4, aI (gc G 0) 13668 (fun _ => 0)) :: (q3, aI (gc G 0) 3417 (fun _ => 0)) :: (q2, aI (gc G 0) 3417 (fun _ => 0)) :: (q1, aI (gc G 0) 3417 (fun _ => 0)) :: (a, .inr (11, [.ref q1, .ref q2, .ref q3, .int 0, .ref q4, .int 0, .null, .int 0, .int 0, .null, .int 0, .int 0, .int 0, .int 0, .int 0, .int 0, .int 0, .int 0])) :: ws) H := hH
  refine lv_aload_n hx hb dX11_init_40 rfl (lv_at hl 0 rfl) ?_
  refine lv_bipush (v := 60) hx hb dX11_init_41 (by decide) ?_
  refine n_newa X (atype := .int) (ty := .int) rfl t_ac_int (t0 := 0) rfl (fun _ _ e1 e2 => Option.some.inj (e1.symm.trans e2)) (n := 60) (N' := 60) (a0 := (60, .inl (fun _ => 0))) (fun _ => rfl) (by decide) rfl (Nat.le_of_ble_eq_true rfl) hH hS (Nat.le_of_ble_eq_true rfl) (Nat.le_of_ble_eq_true rfl) dX11_init_43 (fun q5 H hH hS => ?_)
  have hH : GW G ((q5, aI (gc G 0) 60 (fun _ => 0)) :: (q4, aI (gc G 0) 13668 (fun _ => 0)) :: (q3, aI (gc G 0) 3417 (fun _ => 0)) :: (q2, aI (gc G 0) 3417 (fun _ => 0)) :: (q1, aI (gc G 0) 3417 (fun _ => 0)) :: (a, .inr (11, [.ref q1, .ref q2, .ref q3, .int 0, .ref q4, .int 0, .null, .int 0, .int 0, .null, .int 0, .int 0, .int 0, .int 0, .int 0, .int 0, .int 0, .int 0])) :: ws) H := hH
  refine n_putF X hin (C := RX11) inX11 tyX11 tyX11_ok nmX11 hH hS 5 rfl rfl 6 (by decide) t_fl_VernierDrawersModel_22 rfl rfl rfl (tyX11_ok 6 (by decide)) rfl rfl (Nat.le_of_ble_eq_true rfl) dX11_init_45 (fun H locs hH hS => ?_)
  have hH : GW G ((q5, aI (gc G 0) 60 (fun _ => 0)) :: (q4, aI (gc G 0) 13668 (fun _ => 0)) :: (q3, aI (gc G 0) 3417 (fun _ => 0)) :: (q2, aI (gc G 0) 3417 (fun _ => 0)) :: (q1, aI (gc G 0) 3417 (fun _ => 0)) :: (a, .inr (11, [.ref q1, .ref q2, .ref q3, .int 0, .ref q4, .int 0, .ref q5, .int 0, .int 0, .null, .int 0, .int 0, .int 0, .int 0, .int 0, .int 0, .int 0, .int 0])) :: ws) H := hH
  refine lv_aload_n hx hb dX11_init_48 rfl (lv_at hl 0 rfl) ?_
  refine lv_sipush (v := 15001) hx hb dX11_init_49 (by decide) ?_
  refine n_newa X (atype := .boolean) (ty := .boolean) rfl t_ac_boolean (t0 := 3) rfl (fun _ _ e1 e2 => Option.some.inj (e1.symm.trans e2)) (n := 15001) (N' := 15001) (a0 := (15001, .inl (fun _ => 0))) (fun _ => rfl) (by decide) rfl (Nat.le_of_ble_eq_true rfl) hH hS (Nat.le_of_ble_eq_true rfl) (Nat.le_of_ble_eq_true rfl) dX11_init_52 (fun q6 H hH hS => ?_)
  have hH : GW G ((q6, aI (gc G 3) 15001 (fun _ => 0)) :: (q5, aI (gc G 0) 60 (fun _ => 0)) :: (q4, aI (gc G 0) 13668 (fun _ => 0)) :: (q3, aI (gc G 0) 3417 (fun _ => 0)) :: (q2, aI (gc G 0) 3417 (fun _ => 0)) :: (q1, aI (gc G 0) 3417 (fun _ => 0)) :: (a, .inr (11, [.ref q1, .ref q2, .ref q3, .int 0, .ref q4, .int 0, .ref q5, .int 0, .int 0, .null, .int 0, .int 0, .int 0, .int 0, .int 0, .int 0, .int 0, .int 0])) :: ws) H := hH
  refine n_putF X hin (C := RX11) inX11 tyX11 tyX11_ok nmX11 hH hS 6 rfl rfl 9 (by decide) t_fl_VernierDrawersModel_25 rfl rfl rfl (tyX11_ok 9 (by decide)) rfl rfl (Nat.le_of_ble_eq_true rfl) dX11_init_54 (fun H locs hH hS => ?_)
  have hH : GW G ((q6, aI (gc G 3) 15001 (fun _ => 0)) :: (q5, aI (gc G 0) 60 (fun _ => 0)) :: (q4, aI (gc G 0) 13668 (fun _ => 0)) :: (q3, aI (gc G 0) 3417 (fun _ => 0)) :: (q2, aI (gc G 0) 3417 (fun _ => 0)) :: (q1, aI (gc G 0) 3417 (fun _ => 0)) :: (a, .inr (11, [.ref q1, .ref q2, .ref q3, .int 0, .ref q4, .int 0, .ref q5, .int 0, .int 0, .ref q6, .int 0, .int 0, .int 0, .int 0, .int 0, .int 0, .int 0, .int 0])) :: ws) H := hH
  refine lv_aload_n hx hb dX11_init_57 rfl (lv_at hl 0 rfl) ?_
  refine n_get X (C := RX11) inX11 hH 6 rfl rfl 0 (by decide) t_fl_VernierDrawersModel_7 rfl rfl dX11_init_58 ?_
  refine lv_sipush (v := 208) hx hb dX11_init_61 (by decide) ?_
  refine lv_bipush (v := 20) hx hb dX11_init_64 (by decide) ?_
  refine n_iast X hH hS 5 0 rfl rfl (i := 208) (i_in (by decide) (by decide)) dX11_init_66 (fun H locs hH hS => ?_)
  have hH : GW G ((q6, aI (gc G 3) 15001 (fun _ => 0)) :: (q5, aI (gc G 0) 60 (fun _ => 0)) :: (q4, aI (gc G 0) 13668 (fun _ => 0)) :: (q3, aI (gc G 0) 3417 (fun _ => 0)) :: (q2, aI (gc G 0) 3417 (fun _ => 0)) :: (q1, aI (gc G 0) 3417 (upd (fun _ => 0) (208 : Int32).toNatClampNeg 20)) :: (a, .inr (11, [.ref q1, .ref q2, .ref q3, .int 0, .ref q4, .int 0, .ref q5, .int 0, .int 0, .ref q6, .int 0, .int 0, .int 0, .int 0, .int 0, .int 0, .int 0, .int 0])) :: ws) H := hH
  refine lv_aload_n hx hb dX11_init_67 rfl (lv_at hl 0 rfl) ?_
  refine n_get X (C := RX11) inX11 hH 6 rfl rfl 0 (by decide) t_fl_VernierDrawersModel_7 rfl rfl dX11_init_68 ?_
  refine lv_sipush (v := 209) hx hb dX11_init_71 (by decide) ?_
  refine lv_bipush (v := 10) hx hb dX11_init_74 (by decide) ?_
  refine n_iast X hH hS 5 0 rfl rfl (i := 209) (i_in (by decide) (by decide)) dX11_init_76 (fun H locs hH hS => ?_)
  have hH : GW G ((q6, aI (gc G 3) 15001 (fun _ => 0)) :: (q5, aI (gc G 0) 60 (fun _ => 0)) :: (q4, aI (gc G 0) 13668 (fun _ => 0)) :: (q3, aI (gc G 0) 3417 (fun _ => 0)) :: (q2, aI (gc G 0) 3417 (fun _ => 0)) :: (q1, aI (gc G 0) 3417 (upd (upd (fun _ => 0) (208 : Int32).toNatClampNeg 20) (209 : Int32).toNatClampNeg 10)) :: (a, .inr (11, [.ref q1, .ref q2, .ref q3, .int 0, .ref q4, .int 0, .ref q5, .int 0, .int 0, .ref q6, .int 0, .int 0, .int 0, .int 0, .int 0, .int 0, .int 0, .int 0])) :: ws) H := hH
  exact E _ _ _ _ (fun i => ([q6, q5, q4, q3, q2, q1] : List Nat).getD i 0) _ _ dX11_init_77 hH hS (Nat.le_of_ble_eq_true rfl) (Nat.le_of_ble_eq_true rfl)
