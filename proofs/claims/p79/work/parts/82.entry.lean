/-! THE LAW FROM ITS ENTRY: the object is made, then its body. -/
theorem dL_law_0 : decode cL_law 0 = .ok (.new 10, 3) := by decide +kernel
theorem dL_law_3 : decode cL_law 3 = .ok (.dup, 1) := by decide +kernel
theorem dL_law_4 : decode cL_law 4 = .ok (.invokespecial 384, 3) := by decide +kernel
theorem dL_law_7 : decode cL_law 7 = .ok (.astore_n 1, 1) := by decide +kernel
theorem dL_law_403 : decode cL_law 403 = .ok (.ireturn, 1) := by decide +kernel
set_option maxRecDepth 100000 in
theorem law_start {p : Program} {l : Launch} {e : Env} {s : State} {m : MethodId} {below : List Frame} {meth : Method} {c : Code} {Q : State → Prop} (hst : l.stackTraces = false) {b L : Nat} {xs : Nat → Int32} (hL : L ≤ 260) (hx : p.tables.exec = Jvm.exec) (hb : c.code = cL_law) (hml : c.maxLocals = 13) (hown : s.vm.findClass RL = some m.cls)
    (hts : ∀ w ∈ lw_tbl, w.before #[Value.ref b] s = true) (hX : va_X b L xs s s.heap) (hbl : b < s.heap.size) (hg : (Jvm.Cond.and given_1 narrow_1).before #[Value.ref b] s = true) (h6 : ∀ G : gG, NIc l yX6_init cX6_init 1 rmN_X6 G (.inr (6, [.null])) 7 1416 (FN_X6 G))
    (E : ∀ (H1 : Heap) (locs1 : List Loc) (ls1 : Array Slot) (c1 : Nat), c1 ≤ 600104 → va_S (fun q => s.heap.size ≤ q) s.heap H1 locs1 → W p l e room_1 s m #[Value.ref b] below meth c H1 locs1 c1 c1 Q (F0 m 403 ls1 [.int 1])) :
    W p l e room_1 s m #[Value.ref b] below meth c s.heap [] 0 0 Q (entryFrame m ([Value.ref b] : List Value).toArray 13) := by
  obtain ⟨G, hgb, hT, hAO, hNC, hAL⟩ := start_G hts hg
  have htt : ∀ w ∈ TT, w.before #[Value.ref b] s = true := fun w h => hts w (TT_tbl w h)
  have X : CX G p s m #[Value.ref b] c cL_law 13 RL := ⟨hx, hb, hml, hown, htt, hT, by rw [hgb]; exact Nat.le_refl _⟩
  have hS : va_S (gA G) s.heap s.heap [] := va_S.rf
  have hH : GW G [] s.heap := ⟨fun k q h => by simp at h, fun i j p q h => by simp at h, fun k q h => by simp at h⟩
  have hl := lv_entry ([.ref b]) (n := 13) (Nat.le_of_ble_eq_true rfl)
  rw [lg_entry_eq]
  generalize (lg_sl ([.ref b]) ++ List.replicate (13 - (lg_sl ([.ref b])).length) Slot.unset).toArray = ls at hl ⊢
  have hl : lv_has ls 13 [(0, .ref b)] := hl
  refine n_new X (C := RX10) tyX10 tyX10_ok inX10 t_cl_VernierDrawersLaw_10 t_inst_VernierDrawers t_ini_VernierDrawers (ci := 10) rfl (fs := [.null, .null, .int 0, .null, .int 0, .null, .int 0, .null, .null]) dfX10 hH hS (Nat.le_of_ble_eq_true rfl) (Nat.le_of_ble_eq_true rfl) dL_law_0 (fun q H hH hS => ?_)
  refine lv_dup hx hb dL_law_3 rfl ?_
  refine n_call X hAO (k_N10 l G (h6 G)) t_ml_VernierDrawersLaw_384 t_im_X10_init t_ini_VernierDrawers t_code_X10_init rfl ⟨by decide +kernel, by decide +kernel, by decide +kernel⟩ rfl rfl ⟨(Nat.le_of_ble_eq_true rfl), (Nat.le_of_ble_eq_true rfl)⟩ ⟨(Nat.le_of_ble_eq_true rfl), (Nat.le_of_ble_eq_true rfl)⟩ hH hS hl.1 (Nat.le_of_ble_eq_true rfl) dL_law_4 (fun α H locs hH hS => ?_)
  refine lv_astore_n (lv' := [(1, .ref q), (0, .ref b)]) hx hb dL_law_7 rfl hl (by decide) rfl (fun ls hl => ?_)
  have hW : GW G (W0 G q α) H := hH
  have hHp := hp0 hW
  have X1 : CX (G1 G q α) p s m #[Value.ref b] c cL_law 13 RL := X
  have hbA : ¬ gA (G1 G q α) b := by
    show ¬ gb G ≤ b
    rw [hgb]
    exact Nat.not_le.mpr hbl
  have hl1 : lv_has ls 13 [(0, .ref b), (1, .ref (ga (G1 G q α) 448))] := lv_sub hl [1, 0] rfl
  refine W.widen (k := 60000) (n := 60000) (Nat.le_of_ble_eq_true rfl) (Nat.le_of_ble_eq_true rfl) ?_
  have I58 : Inv 58 0 v0 := Inv0.to (by omega)
  refine law_body hst X1 hNC hX hbl hbA hL hHp hS hl1 (c0 := 60000) (by omega) (pot_le I58) (law_o hL I58 (by decide +kernel) (by decide +kernel) (fun j h1 h2 => A0_0 (by omega) (by omega))) (fun da1 H1 locs1 ls1 v2 c1 hc1 _ hS1 => E H1 locs1 ls1 c1 hc1 ?_)
  have hS1 : va_S (fun q => gb G ≤ q) s.heap H1 locs1 := hS1
  rw [hgb] at hS1
  exact hS1
