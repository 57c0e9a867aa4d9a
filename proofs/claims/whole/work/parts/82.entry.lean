/-! THE LAW FROM ITS ENTRY: the four objects are made, then the loop. -/
theorem dL_law_0 : decode cL_law 0 = .ok (.new 8, 3) := by decide +kernel
theorem dL_law_3 : decode cL_law 3 = .ok (.dup, 1) := by decide +kernel
theorem dL_law_4 : decode cL_law 4 = .ok (.invokespecial 197, 3) := by decide +kernel
theorem dL_law_7 : decode cL_law 7 = .ok (.astore_n 1, 1) := by decide +kernel
theorem dL_law_8 : decode cL_law 8 = .ok (.new 198, 3) := by decide +kernel
theorem dL_law_11 : decode cL_law 11 = .ok (.dup, 1) := by decide +kernel
theorem dL_law_12 : decode cL_law 12 = .ok (.invokespecial 200, 3) := by decide +kernel
theorem dL_law_15 : decode cL_law 15 = .ok (.astore_n 2, 1) := by decide +kernel
theorem dL_law_16 : decode cL_law 16 = .ok (.iconst 1, 1) := by decide +kernel
theorem dL_law_17 : decode cL_law 17 = .ok (.newarray .long, 2) := by decide +kernel
theorem dL_law_19 : decode cL_law 19 = .ok (.astore_n 3, 1) := by decide +kernel
theorem dL_law_20 : decode cL_law 20 = .ok (.iconst 1, 1) := by decide +kernel
theorem dL_law_21 : decode cL_law 21 = .ok (.newarray .double, 2) := by decide +kernel
theorem dL_law_23 : decode cL_law 23 = .ok (.astore 4, 2) := by decide +kernel
theorem dL_law_25 : decode cL_law 25 = .ok (.iconst 0, 1) := by decide +kernel
theorem dL_law_26 : decode cL_law 26 = .ok (.istore 5, 2) := by decide +kernel
theorem dL_law_4042 : decode cL_law 4042 = .ok (.iconst 1, 1) := by decide +kernel
theorem dL_law_4043 : decode cL_law 4043 = .ok (.ireturn, 1) := by decide +kernel
set_option maxRecDepth 100000 in
theorem law_start {p : Program} {l : Launch} {e : Env} {s : State} {m : MethodId} {below : List Frame} {meth : Method} {c : Code} {Q : State → Prop} (hst : l.stackTraces = false) {b L : Nat} {xs : Nat → Int32} (hL : L ≤ 2560) (hx : p.tables.exec = Jvm.exec) (hb : c.code = cL_law) (hml : c.maxLocals = 8) (hown : s.vm.findClass RL = some m.cls)
    (hts : ∀ w ∈ lw_tbl, w.before #[Value.ref b] s = true) (hX : va_X b L xs s s.heap) (hbl : b < s.heap.size) (hg : (Jvm.Cond.and given_1 narrow_1).before #[Value.ref b] s = true) (h6 : ∀ G : gG, NI l yX6_init cX6_init 1 rmN_X6 G (.inr (6, [.null])) 7 1416 (FN_X6 G))
    (E : ∀ (H1 : Heap) (locs1 : List Loc) (ls1 : Array Slot) (c1 : Nat), c1 ≤ 601024 → va_S (fun q => s.heap.size ≤ q) s.heap H1 locs1 → W p l e room_1 s m #[Value.ref b] below meth c H1 locs1 c1 c1 Q (F0 m 4042 ls1 [])) :
    W p l e room_1 s m #[Value.ref b] below meth c s.heap [] 0 0 Q (entryFrame m ([Value.ref b] : List Value).toArray 8) := by
  obtain ⟨G, hgb, hT, hAO, hNC, hAL⟩ := start_G hts hg
  have htt : ∀ w ∈ TT, w.before #[Value.ref b] s = true := fun w h => hts w (TT_tbl w h)
  have X : CX G p s m #[Value.ref b] c cL_law 8 RL := ⟨hx, hb, hml, hown, htt, hT, by rw [hgb]; exact Nat.le_refl _⟩
  have hS : va_S (gA G) s.heap s.heap [] := va_S.rf
  have hH : GW G [] s.heap := ⟨fun k q h => by simp at h, fun i j p q h => by simp at h, fun k q h => by simp at h⟩
  have hl := lv_entry ([.ref b]) (n := 8) (Nat.le_of_ble_eq_true rfl)
  rw [lg_entry_eq]
  generalize (lg_sl ([.ref b]) ++ List.replicate (8 - (lg_sl ([.ref b])).length) Slot.unset).toArray = ls at hl ⊢
  have hl : lv_has ls 8 [(0, .ref b)] := hl
  refine n_new X (C := RX10) tyX10 tyX10_ok inX10 t_cl_VernierDrawersLaw_8 t_inst_VernierDrawers t_ini_VernierDrawers (ci := 10) rfl (fs := [.null, .null, .int 0, .null, .int 0, .null, .int 0, .null, .null]) dfX10 hH hS (Nat.le_of_ble_eq_true rfl) (Nat.le_of_ble_eq_true rfl) dL_law_0 (fun q H hH hS => ?_)
  refine lv_dup hx hb dL_law_3 rfl ?_
  refine n_call X hAO (k_N10 l G (h6 G)) t_ml_VernierDrawersLaw_197 t_im_X10_init t_ini_VernierDrawers t_code_X10_init rfl ⟨by decide +kernel, by decide +kernel, by decide +kernel⟩ rfl rfl ⟨(Nat.le_of_ble_eq_true rfl), (Nat.le_of_ble_eq_true rfl)⟩ ⟨(Nat.le_of_ble_eq_true rfl), (Nat.le_of_ble_eq_true rfl)⟩ hH hS hl.1 (Nat.le_of_ble_eq_true rfl) dL_law_4 (fun α H locs hH hS => ?_)
  refine lv_astore_n (lv' := [(1, .ref q), (0, .ref b)]) hx hb dL_law_7 rfl hl (by decide) rfl (fun ls hl => ?_)
  refine n_new X (C := RX11) tyX11 tyX11_ok inX11 t_cl_VernierDrawersLaw_198 t_inst_VernierDrawersModel t_ini_VernierDrawersModel (ci := 11) rfl (fs := [.null, .null, .null, .int 0, .null, .int 0, .null, .int 0, .int 0, .null, .int 0, .int 0, .int 0, .int 0, .int 0, .int 0, .int 0, .int 0]) dfX11 hH hS (Nat.le_of_ble_eq_true rfl) (Nat.le_of_ble_eq_true rfl) dL_law_8 (fun q2 H hH hS => ?_)
  refine lv_dup hx hb dL_law_11 rfl ?_
  refine n_call X hAO (k_N11 l G) t_ml_VernierDrawersLaw_200 t_im_X11_init t_ini_VernierDrawersModel t_code_X11_init rfl ⟨by decide +kernel, by decide +kernel, by decide +kernel⟩ rfl rfl ⟨(Nat.le_of_ble_eq_true rfl), (Nat.le_of_ble_eq_true rfl)⟩ ⟨(Nat.le_of_ble_eq_true rfl), (Nat.le_of_ble_eq_true rfl)⟩ hH hS hl.1 (Nat.le_of_ble_eq_true rfl) dL_law_12 (fun β H locs hH hS => ?_)
  refine lv_astore_n (lv' := [(2, .ref q2), (1, .ref q), (0, .ref b)]) hx hb dL_law_15 rfl hl (by decide) rfl (fun ls hl => ?_)
  refine lv_iconst (v := 1) hx hb dL_law_16 (by decide) ?_
  refine n_newa X (atype := .long) (ty := .long) rfl t_ac_long (t0 := 1) rfl (fun _ _ e1 e2 => Option.some.inj (e1.symm.trans e2)) (n := 1) (N' := 1) (a0 := (1, .inr (.inl (fun _ => 0)))) (fun _ => rfl) (by decide) rfl (Nat.le_of_ble_eq_true rfl) hH hS (Nat.le_of_ble_eq_true rfl) (Nat.le_of_ble_eq_true rfl) dL_law_17 (fun o H hH hS => ?_)
  refine lv_astore_n (lv' := [(3, .ref o), (2, .ref q2), (1, .ref q), (0, .ref b)]) hx hb dL_law_19 rfl hl (by decide) rfl (fun ls hl => ?_)
  refine lv_iconst (v := 1) hx hb dL_law_20 (by decide) ?_
  refine n_newa X (atype := .double) (ty := .double) rfl t_ac_double (t0 := 4) rfl (fun _ _ e1 e2 => Option.some.inj (e1.symm.trans e2)) (n := 1) (N' := 1) (a0 := (1, .inr (.inr (.inr (.inl (fun _ => 0)))))) (fun _ => rfl) (by decide) rfl (Nat.le_of_ble_eq_true rfl) hH hS (Nat.le_of_ble_eq_true rfl) (Nat.le_of_ble_eq_true rfl) dL_law_21 (fun d H hH hS => ?_)
  refine lv_astore (lv' := [(4, .ref d), (3, .ref o), (2, .ref q2), (1, .ref q), (0, .ref b)]) hx hb dL_law_23 hl (by decide) rfl (fun ls hl => ?_)
  refine lv_iconst (v := 0) hx hb dL_law_25 (by decide) ?_
  refine lv_istore (lv' := [(5, .int 0), (4, .ref d), (3, .ref o), (2, .ref q2), (1, .ref q), (0, .ref b)]) hx hb dL_law_26 hl (by decide) rfl (fun ls hl => ?_)
  have hW : GW G (W0 G q q2 o d α β) H := hH
  have hHp := hp0 hW
  have X1 : CX (G1 G q q2 o d α β) p s m #[Value.ref b] c cL_law 8 RL := X
  have hbA : ¬ gA (G1 G q q2 o d α β) b := by
    show ¬ gb G ≤ b
    rw [hgb]
    exact Nat.not_le.mpr hbl
  have hl1 : lv_has ls 8 [(0, .ref b), (1, .ref (ga (G1 G q q2 o d α β) 448)), (2, .ref (ga (G1 G q q2 o d α β) 461)), (3, .ref (ga (G1 G q q2 o d α β) 468)), (4, .ref (ga (G1 G q q2 o d α β) 469)), (5, .int (Int32.ofNat (5 * 0)))] := lv_sub hl [5, 4, 3, 2, 1, 0] rfl
  refine W.widen (k := 60000) (n := 60000) (Nat.le_of_ble_eq_true rfl) (Nat.le_of_ble_eq_true rfl) ?_
  refine law_loop hst X1 hNC hX hbl hbA hL (K := 60000) (Nat.le_of_ble_eq_true rfl) (fun H1 locs1 ls1 c1 hc1 hS1 => E H1 locs1 ls1 c1 hc1 ?_) (L + 1) 0 0 60000 H locs ls _ v0 x0 (by omega) (by omega) Inv0 (by omega) hHp hS hl1
  have hS1 : va_S (fun q => gb G ≤ q) s.heap H1 locs1 := hS1
  rw [hgb] at hS1
  exact hS1
