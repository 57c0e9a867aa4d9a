/-! THE CONSTRUCTORS, a: tools, blocks, types, queues. -/
theorem dfX0 : ∀ j, j < 11 → defaultValue (tyX0 j) = vp_V [.null, .int 0, .null, .null, .int 0, .int 0, .int 0, .int 0, .int 0, .int 0, .int 0] j := fun j hj => match j, hj with
  | 0, _ => rfl
  | 1, _ => rfl
  | 2, _ => rfl
  | 3, _ => rfl
  | 4, _ => rfl
  | 5, _ => rfl
  | 6, _ => rfl
  | 7, _ => rfl
  | 8, _ => rfl
  | 9, _ => rfl
  | 10, _ => rfl
  | k + 11, h => absurd h (by omega)
theorem dfX1 : ∀ j, j < 3 → defaultValue (tyX1 j) = vp_V [.int 0, .int 0, .int 0] j := fun j hj => match j, hj with
  | 0, _ => rfl
  | 1, _ => rfl
  | 2, _ => rfl
  | k + 3, h => absurd h (by omega)
theorem dfX2 : ∀ j, j < 6 → defaultValue (tyX2 j) = vp_V [.null, .null, .int 0, .int 0, .int 0, .int 0] j := fun j hj => match j, hj with
  | 0, _ => rfl
  | 1, _ => rfl
  | 2, _ => rfl
  | 3, _ => rfl
  | 4, _ => rfl
  | 5, _ => rfl
  | k + 6, h => absurd h (by omega)
theorem dfX3 : ∀ j, j < 6 → defaultValue (tyX3 j) = vp_V [.int 0, .int 0, .int 0, .int 0, .int 0, .int 0] j := fun j hj => match j, hj with
  | 0, _ => rfl
  | 1, _ => rfl
  | 2, _ => rfl
  | 3, _ => rfl
  | 4, _ => rfl
  | 5, _ => rfl
  | k + 6, h => absurd h (by omega)
theorem dfX4 : ∀ j, j < 10 → defaultValue (tyX4 j) = vp_V [.int 0, .int 0, .int 0, .int 0, .int 0, .int 0, .null, .int 0, .null, .int 0] j := fun j hj => match j, hj with
  | 0, _ => rfl
  | 1, _ => rfl
  | 2, _ => rfl
  | 3, _ => rfl
  | 4, _ => rfl
  | 5, _ => rfl
  | 6, _ => rfl
  | 7, _ => rfl
  | 8, _ => rfl
  | 9, _ => rfl
  | k + 10, h => absurd h (by omega)
theorem dfX5 : ∀ j, j < 4 → defaultValue (tyX5 j) = vp_V [.null, .null, .null, .int 0] j := fun j hj => match j, hj with
  | 0, _ => rfl
  | 1, _ => rfl
  | 2, _ => rfl
  | 3, _ => rfl
  | k + 4, h => absurd h (by omega)
theorem dfX6 : ∀ j, j < 1 → defaultValue (tyX6 j) = vp_V [.null] j := fun j hj => match j, hj with
  | 0, _ => rfl
  | k + 1, h => absurd h (by omega)
theorem dfX7 : ∀ j, j < 2 → defaultValue (tyX7 j) = vp_V [.null, .null] j := fun j hj => match j, hj with
  | 0, _ => rfl
  | 1, _ => rfl
  | k + 2, h => absurd h (by omega)
theorem dfX8 : ∀ j, j < 9 → defaultValue (tyX8 j) = vp_V [.int 0, .int 0, .int 0, .int 0, .int 0, .int 0, .int 0, .int 0, .int 0] j := fun j hj => match j, hj with
  | 0, _ => rfl
  | 1, _ => rfl
  | 2, _ => rfl
  | 3, _ => rfl
  | 4, _ => rfl
  | 5, _ => rfl
  | 6, _ => rfl
  | 7, _ => rfl
  | 8, _ => rfl
  | k + 9, h => absurd h (by omega)
theorem dfX9 : ∀ j, j < 6 → defaultValue (tyX9 j) = vp_V [.null, .null, .int 0, .int 0, .int 0, .int 0] j := fun j hj => match j, hj with
  | 0, _ => rfl
  | 1, _ => rfl
  | 2, _ => rfl
  | 3, _ => rfl
  | 4, _ => rfl
  | 5, _ => rfl
  | k + 6, h => absurd h (by omega)
theorem dfX10 : ∀ j, j < 9 → defaultValue (tyX10 j) = vp_V [.null, .null, .int 0, .null, .int 0, .null, .int 0, .null, .null] j := fun j hj => match j, hj with
  | 0, _ => rfl
  | 1, _ => rfl
  | 2, _ => rfl
  | 3, _ => rfl
  | 4, _ => rfl
  | 5, _ => rfl
  | 6, _ => rfl
  | 7, _ => rfl
  | 8, _ => rfl
  | k + 9, h => absurd h (by omega)
theorem dX8_init_0 : decode cX8_init 0 = .ok (.aload_n 0, 1) := by decide +kernel
theorem dX8_init_1 : decode cX8_init 1 = .ok (.invokespecial 3, 3) := by decide +kernel
theorem dX8_init_4 : decode cX8_init 4 = .ok (.return_, 1) := by decide +kernel
def FN_X8 (G : gG) (q : Nat) (δ : Nat → Nat) : va_W := [(q, .inr (8, [.int 0, .int 0, .int 0, .int 0, .int 0, .int 0, .int 0, .int 0, .int 0]))]
abbrev rmN_X8 : Room := { frames := 1, cells := 0, slots := 0, locals := 12 }
theorem k_N8 (l : Launch) (G : gG) : NIc l yX8_init cX8_init 1 rmN_X8 G (.inr (8, [.int 0, .int 0, .int 0, .int 0, .int 0, .int 0, .int 0, .int 0, .int 0])) 0 0 (FN_X8 G) := by
  refine gofN (own := RX8) (by decide +kernel) rfl rfl (by decide) (fun a ws p e s m args below meth c ls Q X hin hAO hH hl E => ?_)
  have hx := X.1
  have hb := X.2.1
  have hS : va_S (gA G) s.heap s.heap [] := va_S.rf
  refine lv_aload_n hx hb dX8_init_0 rfl (lv_at hl 0 rfl) ?_
  refine n_obj X t_ml_Tool_3 hl.1 dX8_init_1 (Nat.le_of_ble_eq_true rfl) (Nat.le_of_ble_eq_true rfl) ?_
  exact E _ _ _ _ (fun i => ([] : List Nat).getD i 0) _ _ dX8_init_4 hH hS (Nat.le_of_ble_eq_true rfl) (Nat.le_of_ble_eq_true rfl)
theorem dX1_init_0 : decode cX1_init 0 = .ok (.aload_n 0, 1) := by decide +kernel
theorem dX1_init_1 : decode cX1_init 1 = .ok (.invokespecial 3, 3) := by decide +kernel
theorem dX1_init_4 : decode cX1_init 4 = .ok (.return_, 1) := by decide +kernel
def FN_X1 (G : gG) (q : Nat) (δ : Nat → Nat) : va_W := [(q, .inr (1, [.int 0, .int 0, .int 0]))]
abbrev rmN_X1 : Room := { frames := 1, cells := 0, slots := 0, locals := 12 }
theorem k_N1 (l : Launch) (G : gG) : NIc l yX1_init cX1_init 1 rmN_X1 G (.inr (1, [.int 0, .int 0, .int 0])) 0 0 (FN_X1 G) := by
  refine gofN (own := RX1) (by decide +kernel) rfl rfl (by decide) (fun a ws p e s m args below meth c ls Q X hin hAO hH hl E => ?_)
  have hx := X.1
  have hb := X.2.1
  have hS : va_S (gA G) s.heap s.heap [] := va_S.rf
  refine lv_aload_n hx hb dX1_init_0 rfl (lv_at hl 0 rfl) ?_
  refine n_obj X t_ml_Block_3 hl.1 dX1_init_1 (Nat.le_of_ble_eq_true rfl) (Nat.le_of_ble_eq_true rfl) ?_
  exact E _ _ _ _ (fun i => ([] : List Nat).getD i 0) _ _ dX1_init_4 hH hS (Nat.le_of_ble_eq_true rfl) (Nat.le_of_ble_eq_true rfl)
theorem dX3_init_0 : decode cX3_init 0 = .ok (.aload_n 0, 1) := by decide +kernel
theorem dX3_init_1 : decode cX3_init 1 = .ok (.invokespecial 3, 3) := by decide +kernel
theorem dX3_init_4 : decode cX3_init 4 = .ok (.return_, 1) := by decide +kernel
def FN_X3 (G : gG) (q : Nat) (δ : Nat → Nat) : va_W := [(q, .inr (3, [.int 0, .int 0, .int 0, .int 0, .int 0, .int 0]))]
abbrev rmN_X3 : Room := { frames := 1, cells := 0, slots := 0, locals := 12 }
theorem k_N3 (l : Launch) (G : gG) : NIc l yX3_init cX3_init 1 rmN_X3 G (.inr (3, [.int 0, .int 0, .int 0, .int 0, .int 0, .int 0])) 0 0 (FN_X3 G) := by
  refine gofN (own := RX3) (by decide +kernel) rfl rfl (by decide) (fun a ws p e s m args below meth c ls Q X hin hAO hH hl E => ?_)
  have hx := X.1
  have hb := X.2.1
  have hS : va_S (gA G) s.heap s.heap [] := va_S.rf
  refine lv_aload_n hx hb dX3_init_0 rfl (lv_at hl 0 rfl) ?_
  refine n_obj X t_ml_Order_3 hl.1 dX3_init_1 (Nat.le_of_ble_eq_true rfl) (Nat.le_of_ble_eq_true rfl) ?_
  exact E _ _ _ _ (fun i => ([] : List Nat).getD i 0) _ _ dX3_init_4 hH hS (Nat.le_of_ble_eq_true rfl) (Nat.le_of_ble_eq_true rfl)
theorem dX4_init_0 : decode cX4_init 0 = .ok (.aload_n 0, 1) := by decide +kernel
theorem dX4_init_1 : decode cX4_init 1 = .ok (.invokespecial 3, 3) := by decide +kernel
theorem dX4_init_4 : decode cX4_init 4 = .ok (.aload_n 0, 1) := by decide +kernel
theorem dX4_init_5 : decode cX4_init 5 = .ok (.bipush 10, 2) := by decide +kernel
theorem dX4_init_7 : decode cX4_init 7 = .ok (.newarray .int, 2) := by decide +kernel
theorem dX4_init_9 : decode cX4_init 9 = .ok (.putfield 9, 3) := by decide +kernel
theorem dX4_init_12 : decode cX4_init 12 = .ok (.aload_n 0, 1) := by decide +kernel
theorem dX4_init_13 : decode cX4_init 13 = .ok (.bipush 12, 2) := by decide +kernel
theorem dX4_init_15 : decode cX4_init 15 = .ok (.newarray .int, 2) := by decide +kernel
theorem dX4_init_17 : decode cX4_init 17 = .ok (.putfield 15, 3) := by decide +kernel
theorem dX4_init_20 : decode cX4_init 20 = .ok (.return_, 1) := by decide +kernel
def FN_X4 (G : gG) (q : Nat) (δ : Nat → Nat) : va_W := [((δ 0), aI (gc G 0) 12 (fun _ => 0)), ((δ 1), aI (gc G 0) 10 (fun _ => 0)), (q, .inr (4, [.int 0, .int 0, .int 0, .int 0, .int 0, .int 0, .ref (δ 1), .int 0, .ref (δ 0), .int 0]))]
abbrev rmN_X4 : Room := { frames := 1, cells := 2, slots := 22, locals := 12 }
theorem k_N4 (l : Launch) (G : gG) : NIc l yX4_init cX4_init 1 rmN_X4 G (.inr (4, [.int 0, .int 0, .int 0, .int 0, .int 0, .int 0, .null, .int 0, .null, .int 0])) 2 22 (FN_X4 G) := by
  refine gofN (own := RX4) (by decide +kernel) rfl rfl (by decide) (fun a ws p e s m args below meth c ls Q X hin hAO hH hl E => ?_)
  have hx := X.1
  have hb := X.2.1
  have hS : va_S (gA G) s.heap s.heap [] := va_S.rf
  refine lv_aload_n hx hb dX4_init_0 rfl (lv_at hl 0 rfl) ?_
  refine n_obj X t_ml_PieceType_3 hl.1 dX4_init_1 (Nat.le_of_ble_eq_true rfl) (Nat.le_of_ble_eq_true rfl) ?_
  refine lv_aload_n hx hb dX4_init_4 rfl (lv_at hl 0 rfl) ?_
  refine lv_bipush (v := 10) hx hb dX4_init_5 (by decide) ?_
  refine n_newa X (atype := .int) (ty := .int) rfl t_ac_int (t0 := 0) rfl (fun _ _ e1 e2 => Option.some.inj (e1.symm.trans e2)) (n := 10) (N' := 10) (a0 := (10, .inl (fun _ => 0))) (fun _ => rfl) (by decide) rfl (Nat.le_of_ble_eq_true rfl) hH hS (Nat.le_of_ble_eq_true rfl) (Nat.le_of_ble_eq_true rfl) dX4_init_7 (fun q1 H hH hS => ?_)
  have hH : GW G ((q1, aI (gc G 0) 10 (fun _ => 0)) :: (a, .inr (4, [.int 0, .int 0, .int 0, .int 0, .int 0, .int 0, .null, .int 0, .null, .int 0])) :: ws) H := hH
  refine n_putF X hin (C := RX4) inX4 tyX4 tyX4_ok nmX4 hH hS 1 rfl rfl 6 (by decide) t_fl_PieceType_9 rfl rfl rfl (tyX4_ok 6 (by decide)) rfl rfl (Nat.le_of_ble_eq_true rfl) dX4_init_9 (fun H locs hH hS => ?_)
  have hH : GW G ((q1, aI (gc G 0) 10 (fun _ => 0)) :: (a, .inr (4, [.int 0, .int 0, .int 0, .int 0, .int 0, .int 0, .ref q1, .int 0, .null, .int 0])) :: ws) H := hH
  refine lv_aload_n hx hb dX4_init_12 rfl (lv_at hl 0 rfl) ?_
  refine lv_bipush (v := 12) hx hb dX4_init_13 (by decide) ?_
  refine n_newa X (atype := .int) (ty := .int) rfl t_ac_int (t0 := 0) rfl (fun _ _ e1 e2 => Option.some.inj (e1.symm.trans e2)) (n := 12) (N' := 12) (a0 := (12, .inl (fun _ => 0))) (fun _ => rfl) (by decide) rfl (Nat.le_of_ble_eq_true rfl) hH hS (Nat.le_of_ble_eq_true rfl) (Nat.le_of_ble_eq_true rfl) dX4_init_15 (fun q2 H hH hS => ?_)
  have hH : GW G ((q2, aI (gc G 0) 12 (fun _ => 0)) :: (q1, aI (gc G 0) 10 (fun _ => 0)) :: (a, .inr (4, [.int 0, .int 0, .int 0, .int 0, .int 0, .int 0, .ref q1, .int 0, .null, .int 0])) :: ws) H := hH
  refine n_putF X hin (C := RX4) inX4 tyX4 tyX4_ok nmX4 hH hS 2 rfl rfl 8 (by decide) t_fl_PieceType_15 rfl rfl rfl (tyX4_ok 8 (by decide)) rfl rfl (Nat.le_of_ble_eq_true rfl) dX4_init_17 (fun H locs hH hS => ?_)
  have hH : GW G ((q2, aI (gc G 0) 12 (fun _ => 0)) :: (q1, aI (gc G 0) 10 (fun _ => 0)) :: (a, .inr (4, [.int 0, .int 0, .int 0, .int 0, .int 0, .int 0, .ref q1, .int 0, .ref q2, .int 0])) :: ws) H := hH
  exact E _ _ _ _ (fun i => ([q2, q1] : List Nat).getD i 0) _ _ dX4_init_20 hH hS (Nat.le_of_ble_eq_true rfl) (Nat.le_of_ble_eq_true rfl)
theorem dX5_init_0 : decode cX5_init 0 = .ok (.aload_n 0, 1) := by decide +kernel
theorem dX5_init_1 : decode cX5_init 1 = .ok (.invokespecial 3, 3) := by decide +kernel
theorem dX5_init_4 : decode cX5_init 4 = .ok (.aload_n 0, 1) := by decide +kernel
theorem dX5_init_5 : decode cX5_init 5 = .ok (.bipush 20, 2) := by decide +kernel
theorem dX5_init_7 : decode cX5_init 7 = .ok (.newarray .int, 2) := by decide +kernel
theorem dX5_init_9 : decode cX5_init 9 = .ok (.putfield 9, 3) := by decide +kernel
theorem dX5_init_12 : decode cX5_init 12 = .ok (.aload_n 0, 1) := by decide +kernel
theorem dX5_init_13 : decode cX5_init 13 = .ok (.bipush 20, 2) := by decide +kernel
theorem dX5_init_15 : decode cX5_init 15 = .ok (.newarray .int, 2) := by decide +kernel
theorem dX5_init_17 : decode cX5_init 17 = .ok (.putfield 15, 3) := by decide +kernel
theorem dX5_init_20 : decode cX5_init 20 = .ok (.aload_n 0, 1) := by decide +kernel
theorem dX5_init_21 : decode cX5_init 21 = .ok (.bipush 20, 2) := by decide +kernel
theorem dX5_init_23 : decode cX5_init 23 = .ok (.newarray .int, 2) := by decide +kernel
theorem dX5_init_25 : decode cX5_init 25 = .ok (.putfield 18, 3) := by decide +kernel
theorem dX5_init_28 : decode cX5_init 28 = .ok (.return_, 1) := by decide +kernel
def FN_X5 (G : gG) (q : Nat) (δ : Nat → Nat) : va_W := [((δ 0), aI (gc G 0) 20 (fun _ => 0)), ((δ 1), aI (gc G 0) 20 (fun _ => 0)), ((δ 2), aI (gc G 0) 20 (fun _ => 0)), (q, .inr (5, [.ref (δ 2), .ref (δ 1), .ref (δ 0), .int 0]))]
abbrev rmN_X5 : Room := { frames := 1, cells := 3, slots := 60, locals := 12 }
theorem k_N5 (l : Launch) (G : gG) : NIc l yX5_init cX5_init 1 rmN_X5 G (.inr (5, [.null, .null, .null, .int 0])) 3 60 (FN_X5 G) := by
  refine gofN (own := RX5) (by decide +kernel) rfl rfl (by decide) (fun a ws p e s m args below meth c ls Q X hin hAO hH hl E => ?_)
  have hx := X.1
  have hb := X.2.1
  have hS : va_S (gA G) s.heap s.heap [] := va_S.rf
  refine lv_aload_n hx hb dX5_init_0 rfl (lv_at hl 0 rfl) ?_
  refine n_obj X t_ml_Pieces_3 hl.1 dX5_init_1 (Nat.le_of_ble_eq_true rfl) (Nat.le_of_ble_eq_true rfl) ?_
  refine lv_aload_n hx hb dX5_init_4 rfl (lv_at hl 0 rfl) ?_
  refine lv_bipush (v := 20) hx hb dX5_init_5 (by decide) ?_
  refine n_newa X (atype := .int) (ty := .int) rfl t_ac_int (t0 := 0) rfl (fun _ _ e1 e2 => Option.some.inj (e1.symm.trans e2)) (n := 20) (N' := 20) (a0 := (20, .inl (fun _ => 0))) (fun _ => rfl) (by decide) rfl (Nat.le_of_ble_eq_true rfl) hH hS (Nat.le_of_ble_eq_true rfl) (Nat.le_of_ble_eq_true rfl) dX5_init_7 (fun q1 H hH hS => ?_)
  have hH : GW G ((q1, aI (gc G 0) 20 (fun _ => 0)) :: (a, .inr (5, [.null, .null, .null, .int 0])) :: ws) H := hH
  refine n_put X (C := RX5) inX5 tyX5 tyX5_ok nmX5 hH hS 1 rfl rfl 0 (by decide) t_fl_Pieces_9 rfl rfl (tyX5_ok 0 (by decide)) rfl rfl (Nat.le_of_ble_eq_true rfl) dX5_init_9 (fun H locs hH hS => ?_)
  have hH : GW G ((q1, aI (gc G 0) 20 (fun _ => 0)) :: (a, .inr (5, [.ref q1, .null, .null, .int 0])) :: ws) H := hH
  refine lv_aload_n hx hb dX5_init_12 rfl (lv_at hl 0 rfl) ?_
  refine lv_bipush (v := 20) hx hb dX5_init_13 (by decide) ?_
  refine n_newa X (atype := .int) (ty := .int) rfl t_ac_int (t0 := 0) rfl (fun _ _ e1 e2 => Option.some.inj (e1.symm.trans e2)) (n := 20) (N' := 20) (a0 := (20, .inl (fun _ => 0))) (fun _ => rfl) (by decide) rfl (Nat.le_of_ble_eq_true rfl) hH hS (Nat.le_of_ble_eq_true rfl) (Nat.le_of_ble_eq_true rfl) dX5_init_15 (fun q2 H hH hS => ?_)
  have hH : GW G ((q2, aI (gc G 0) 20 (fun _ => 0)) :: (q1, aI (gc G 0) 20 (fun _ => 0)) :: (a, .inr (5, [.ref q1, .null, .null, .int 0])) :: ws) H := hH
  refine n_put X (C := RX5) inX5 tyX5 tyX5_ok nmX5 hH hS 2 rfl rfl 1 (by decide) t_fl_Pieces_15 rfl rfl (tyX5_ok 1 (by decide)) rfl rfl (Nat.le_of_ble_eq_true rfl) dX5_init_17 (fun H locs hH hS => ?_)
  have hH : GW G ((q2, aI (gc G 0) 20 (fun _ => 0)) :: (q1, aI (gc G 0) 20 (fun _ => 0)) :: (a, .inr (5, [.ref q1, .ref q2, .null, .int 0])) :: ws) H := hH
  refine lv_aload_n hx hb dX5_init_20 rfl (lv_at hl 0 rfl) ?_
  refine lv_bipush (v := 20) hx hb dX5_init_21 (by decide) ?_
  refine n_newa X (atype := .int) (ty := .int) rfl t_ac_int (t0 := 0) rfl (fun _ _ e1 e2 => Option.some.inj (e1.symm.trans e2)) (n := 20) (N' := 20) (a0 := (20, .inl (fun _ => 0))) (fun _ => rfl) (by decide) rfl (Nat.le_of_ble_eq_true rfl) hH hS (Nat.le_of_ble_eq_true rfl) (Nat.le_of_ble_eq_true rfl) dX5_init_23 (fun q3 H hH hS => ?_)
  have hH : GW G ((q3, aI (gc G 0) 20 (fun _ => 0)) :: (q2, aI (gc G 0) 20 (fun _ => 0)) :: (q1, aI (gc G 0) 20 (fun _ => 0)) :: (a, .inr (5, [.ref q1, .ref q2, .null, .int 0])) :: ws) H := hH
  refine n_put X (C := RX5) inX5 tyX5 tyX5_ok nmX5 hH hS 3 rfl rfl 2 (by decide) t_fl_Pieces_18 rfl rfl (tyX5_ok 2 (by decide)) rfl rfl (Nat.le_of_ble_eq_true rfl) dX5_init_25 (fun H locs hH hS => ?_)
  have hH : GW G ((q3, aI (gc G 0) 20 (fun _ => 0)) :: (q2, aI (gc G 0) 20 (fun _ => 0)) :: (q1, aI (gc G 0) 20 (fun _ => 0)) :: (a, .inr (5, [.ref q1, .ref q2, .ref q3, .int 0])) :: ws) H := hH
  exact E _ _ _ _ (fun i => ([q3, q2, q1] : List Nat).getD i 0) _ _ dX5_init_28 hH hS (Nat.le_of_ble_eq_true rfl) (Nat.le_of_ble_eq_true rfl)
