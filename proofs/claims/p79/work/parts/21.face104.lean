/-! 21.face1 -/
def fX10_needChart (r : Nat) (p1 : Int32) (v : vSt) : Nat × Nat := if (fX10_needType r p1 v).1 = 0 then (if (0 : Int32) < (v ((fX10_needType r p1 v).2) 9) then ((0, (fX10_needType r p1 v).2)) else ((3, 0))) else (((fX10_needType r p1 v).1, 0))
def oX10_needChart (r : Nat) (p1 : Int32) (v : vSt) : Prop := (oX10_needType r p1 v) ∧ (((fX10_needType r p1 v).1 = 0) → (kd (fX10_needType r p1 v).2 = 4))
abbrev rmX10_needChart : Room := { frames := 7, cells := 12, slots := 12, locals := 111 }
theorem dX10_needChart_0 : decode cX10_needChart 0 = .ok (.aload_n 0, 1) := by decide +kernel
theorem dX10_needChart_1 : decode cX10_needChart 1 = .ok (.iload_n 1, 1) := by decide +kernel
theorem dX10_needChart_2 : decode cX10_needChart 2 = .ok (.invokevirtual 167, 3) := by decide +kernel
theorem dX10_needChart_5 : decode cX10_needChart 5 = .ok (.astore_n 2, 1) := by decide +kernel
theorem dX10_needChart_6 : decode cX10_needChart 6 = .ok (.aload_n 2, 1) := by decide +kernel
theorem dX10_needChart_7 : decode cX10_needChart 7 = .ok (.getfield 339, 3) := by decide +kernel
theorem dX10_needChart_10 : decode cX10_needChart 10 = .ok (.ifCond .gt 14, 3) := by decide +kernel
theorem dX10_needChart_13 : decode cX10_needChart 13 = .ok (.new 259, 3) := by decide +kernel
theorem dX10_needChart_16 : decode cX10_needChart 16 = .ok (.dup, 1) := by decide +kernel
theorem dX10_needChart_17 : decode cX10_needChart 17 = .ok (.ldc_w 471, 3) := by decide +kernel
theorem dX10_needChart_20 : decode cX10_needChart 20 = .ok (.invokespecial 263, 3) := by decide +kernel
theorem dX10_needChart_23 : decode cX10_needChart 23 = .ok (.athrow, 1) := by decide +kernel
theorem dX10_needChart_24 : decode cX10_needChart 24 = .ok (.aload_n 2, 1) := by decide +kernel
theorem dX10_needChart_25 : decode cX10_needChart 25 = .ok (.areturn, 1) := by decide +kernel
set_option maxHeartbeats 8000000 in
set_option maxRecDepth 100000 in
theorem mX10_needChart (l : Launch) (hst : l.stackTraces = false) (G : gG) (da : Nat → Nat) (v : vSt) (x : gX) (r : Nat) (hk_r : kd r = 10) (p1 : Int32) (ho : oX10_needChart r p1 v) : TR l yX10_needChart cX10_needChart 3 (some (.object "VernierDrawers$PieceType")) rmX10_needChart [.ref (ga G r), .int p1] G da v x 12 12 (fX10_needChart r p1 v).1 (fX10_needChart r p1 v).2 v x := by
  refine gofTR hst (by decide) rfl (Nat.le_of_ble_eq_true rfl) ⟨Nat.le_of_ble_eq_true rfl, Nat.le_of_ble_eq_true rfl, Nat.le_refl _, Nat.le_refl _⟩ (fun p e s m args below meth c ls Q X hH hl E EX ES EW => ?_)
  have hx := X.1
  have hb := X.2.1
  have hown := X.2.2.2.1
  have hts := X.2.2.2.2.1
  have hS : va_S (gA G) s.heap s.heap [] := va_S.rf
  unfold oX10_needChart at ho
  have hl : lv_has ls 3 [(0, .ref (ga G r)), (1, .int p1)] := hl
  refine lv_aload_n hx hb dX10_needChart_0 rfl (lv_at hl 0 rfl) ?_
  refine lv_iload_n hx hb dX10_needChart_1 rfl (lv_at hl 1 rfl) ?_
  have hq1 := ho.1
  have ho := ho.2
  refine k_X10_needType hst X hS hH hk_r hq1 t_ml_VernierDrawers_167 hl.1 (Nat.le_of_ble_eq_true rfl) ⟨Nat.le_of_ble_eq_true rfl, Nat.le_of_ble_eq_true rfl⟩ ⟨(Nat.le_of_ble_eq_true rfl), (Nat.le_of_ble_eq_true rfl)⟩ dX10_needChart_2 (fun c2 da ce9 q9 H locs hH hS g1 g2 g3 => ?_) (fun c2 da H locs hH hS => ?_)
  · skip
    exact EX _ _ _ _ _ _ _ _ _ _ _ _ c2 (pr1 ((fX10_needChart.eq_1 _ _ _).trans ((if_neg c2).trans rfl))) rfl hH hS g1 g2 g3 (Nat.le_of_ble_eq_true rfl) (Nat.le_of_ble_eq_true rfl)
  · have ho := ho c2
    have hq3 := ho
    refine lv_astore_n (lv' := [(2, .ref (ga G ((fX10_needType r p1 v).2))), (0, .ref (ga G r)), (1, .int p1)]) hx hb dX10_needChart_5 rfl hl (by decide) rfl (fun ls hl => ?_)
    refine lv_aload_n hx hb dX10_needChart_6 rfl (lv_at hl 0 rfl) ?_
    refine g_VernierDrawers_339 X hH hq3 dX10_needChart_7 ?_
    refine lv_if_gt (tgt := 24) hx hb dX10_needChart_10 (by decide) (fun c4 => ?_) (fun c4 => ?_)
    · skip
      refine lv_aload_n hx hb dX10_needChart_24 rfl (lv_at hl 0 rfl) ?_
      exact E _ _ _ _ _ _ _ _ _ dX10_needChart_25 (Eq.symm (pr1 ((fX10_needChart.eq_1 _ _ _).trans ((if_pos c2).trans ((if_pos c4).trans rfl))))) (pr2 ((fX10_needChart.eq_1 _ _ _).trans ((if_pos c2).trans ((if_pos c4).trans rfl)))) rfl hH hS (Nat.le_of_ble_eq_true rfl) (Nat.le_of_ble_eq_true rfl)
    · skip
      exact EW _ _ _ _ _ _ _ _ _ _ _ _ _ _ (th_3 X) (by decide) (pr1 ((fX10_needChart.eq_1 _ _ _).trans ((if_pos c2).trans ((if_neg c4).trans rfl)))) rfl hH hS t_sr_VernierDrawers_471 hl.1 dX10_needChart_13 dX10_needChart_16 dX10_needChart_17 dX10_needChart_20 dX10_needChart_23 (Nat.le_of_ble_eq_true rfl) (Nat.le_of_ble_eq_true rfl) (Nat.le_of_ble_eq_true rfl)
theorem k_X10_needChart {p : Program} {l : Launch} {e : Env} {R : Room} {s : State} {m : MethodId} {args : Array Value} {below : List Frame} {meth : Method} {c : Code} {H : Heap} {locs : List Loc} {cells slots : Nat} {Q : State → Prop} {cc : ByteArray} {pc nL : Nat} {ls : Array Slot} {rest : List Value} {G : gG} {own : String} {da : Nat → Nat} {v : vSt} {x : gX} (hst : l.stackTraces = false) (X : CX G p s m args c cc nL own) (hS : va_S (gA G) s.heap H locs) (hH : Hp G da v x H) {r : Nat} (hk_r : kd r = 10) {p1 : Int32} (ho : oX10_needChart r p1 v) {idx : Nat} (hml : Cond.methodLink own idx yX10_needChart ∈ TT) (hls : ls.size = nL) (hsum : (rest.map fun v => v.category).sum ≤ 8) (hR : rmX10_needChart.frames + 1 ≤ R.frames ∧ 8 + (3 + 11) + rmX10_needChart.locals ≤ R.locals) (hcs : cells + 12 ≤ R.cells ∧ slots + 12 ≤ R.slots) (hdg : decode cc pc = .ok (.invokevirtual idx, 3)) (kx : ¬ (fX10_needChart r p1 v).1 = 0 → ∀ (d : Nat → Nat) (ce : Cell) (q9 : Addr) (H1 : Heap) (locs1 : List Loc), Hp G d v x H1 → va_S (gA G) s.heap H1 locs1 → H1[q9]? = some ce → ce.vm = .none → s.vm.findClass (exN (fX10_needChart r p1 v).1) = some ce.cls → vx_W p l e R s m args below meth c H1 locs1 (cells + 12) (slots + 12) Q (F0 m pc ls rest) q9) (kk : (fX10_needChart r p1 v).1 = 0 → ∀ (d : Nat → Nat) (H1 : Heap) (locs1 : List Loc), Hp G d v x H1 → va_S (gA G) s.heap H1 locs1 → W p l e R s m args below meth c H1 locs1 (cells + 12) (slots + 12) Q (F0 m (pc + 3) ls (.ref (ga G (fX10_needChart r p1 v).2) :: rest))) : W p l e R s m args below meth c H locs cells slots Q (F0 m pc ls (.int p1 :: .ref (ga G r) :: rest)) := c_tr (runxV (kp := 1) X.1 X.2.1 X.2.2.1 X.2.2.2.1 X.2.2.2.2.1 (mX10_needChart l hst G da v x r hk_r p1 ho) pW_bl hml t_im_X10_needChart t_sel_X10_needChart t_ini_VernierDrawers t_code_X10_needChart ⟨rfl, by decide, by decide, by decide +kernel⟩ rfl rfl hR hcs (recvW X hH (by rw [hk_r]; decide) (by rw [hk_r]; decide) (ce_10 hk_r) rfl) (preW X hS hH) rfl hls rfl hsum hdg) hS (fun h9 d9 ce9 q9 H9 L9 v9 e9 hH9 => kx h9 d9 ce9 q9 H9 L9 (by subst e9; exact hH9)) (fun h9 d9 H9 L9 v9 e9 hH9 => kk h9 d9 H9 L9 (by subst e9; exact hH9))
def fX10_needPlace (p1 : Int32) (p2 : Int32) (v : vSt) : Nat := if (0 : Int32) ≤ p1 then (if (p1 : Int32) < p2 then 0 else 3) else 1
abbrev rmX10_needPlace : Room := { frames := 6, cells := 6, slots := 6, locals := 90 }
theorem dX10_needPlace_0 : decode cX10_needPlace 0 = .ok (.iload_n 0, 1) := by decide +kernel
theorem dX10_needPlace_1 : decode cX10_needPlace 1 = .ok (.ifCond .ge 14, 3) := by decide +kernel
theorem dX10_needPlace_4 : decode cX10_needPlace 4 = .ok (.new 53, 3) := by decide +kernel
theorem dX10_needPlace_7 : decode cX10_needPlace 7 = .ok (.dup, 1) := by decide +kernel
theorem dX10_needPlace_8 : decode cX10_needPlace 8 = .ok (.ldc_w 473, 3) := by decide +kernel
theorem dX10_needPlace_11 : decode cX10_needPlace 11 = .ok (.invokespecial 57, 3) := by decide +kernel
theorem dX10_needPlace_14 : decode cX10_needPlace 14 = .ok (.athrow, 1) := by decide +kernel
theorem dX10_needPlace_15 : decode cX10_needPlace 15 = .ok (.iload_n 0, 1) := by decide +kernel
theorem dX10_needPlace_16 : decode cX10_needPlace 16 = .ok (.iload_n 1, 1) := by decide +kernel
theorem dX10_needPlace_17 : decode cX10_needPlace 17 = .ok (.if_icmp .lt 14, 3) := by decide +kernel
theorem dX10_needPlace_20 : decode cX10_needPlace 20 = .ok (.new 259, 3) := by decide +kernel
theorem dX10_needPlace_23 : decode cX10_needPlace 23 = .ok (.dup, 1) := by decide +kernel
theorem dX10_needPlace_24 : decode cX10_needPlace 24 = .ok (.ldc_w 475, 3) := by decide +kernel
theorem dX10_needPlace_27 : decode cX10_needPlace 27 = .ok (.invokespecial 263, 3) := by decide +kernel
theorem dX10_needPlace_30 : decode cX10_needPlace 30 = .ok (.athrow, 1) := by decide +kernel
theorem dX10_needPlace_31 : decode cX10_needPlace 31 = .ok (.return_, 1) := by decide +kernel
set_option maxHeartbeats 8000000 in
set_option maxRecDepth 100000 in
theorem mX10_needPlace (l : Launch) (hst : l.stackTraces = false) (G : gG) (da : Nat → Nat) (v : vSt) (x : gX) (p1 : Int32) (p2 : Int32) : TV l yX10_needPlace cX10_needPlace 2 none rmX10_needPlace [.int p1, .int p2] G da v x 6 6 (fX10_needPlace p1 p2 v) v x := by
  refine gofTV hst (by decide) rfl (Nat.le_of_ble_eq_true rfl) ⟨Nat.le_of_ble_eq_true rfl, Nat.le_of_ble_eq_true rfl, Nat.le_refl _, Nat.le_refl _⟩ (fun p e s m args below meth c ls Q X hH hl E EX ES EW => ?_)
  have hx := X.1
  have hb := X.2.1
  have hown := X.2.2.2.1
  have hts := X.2.2.2.2.1
  have hS : va_S (gA G) s.heap s.heap [] := va_S.rf
  have ho : True := trivial
  have hl : lv_has ls 2 [(0, .int p1), (1, .int p2)] := hl
  refine lv_iload_n hx hb dX10_needPlace_0 rfl (lv_at hl 0 rfl) ?_
  refine lv_if_ge (tgt := 15) hx hb dX10_needPlace_1 (by decide) (fun c1 => ?_) (fun c1 => ?_)
  · skip
    refine lv_iload_n hx hb dX10_needPlace_15 rfl (lv_at hl 0 rfl) ?_
    refine lv_iload_n hx hb dX10_needPlace_16 rfl (lv_at hl 1 rfl) ?_
    refine lv_icmp_lt (tgt := 31) hx hb dX10_needPlace_17 (by decide) (fun c2 => ?_) (fun c2 => ?_)
    · skip
      exact E _ _ _ _ _ _ _ _ dX10_needPlace_31 (Eq.symm (Eq.symm ((fX10_needPlace.eq_1 _ _ _).trans ((if_pos c1).trans ((if_pos c2).trans rfl))))) rfl hH hS (Nat.zero_le _) (Nat.zero_le _)
    · skip
      exact EW _ _ _ _ _ _ _ _ _ _ _ _ _ _ (th_3 X) (by decide) (Eq.symm ((fX10_needPlace.eq_1 _ _ _).trans ((if_pos c1).trans ((if_neg c2).trans rfl)))) rfl hH hS t_sr_VernierDrawers_475 hl.1 dX10_needPlace_20 dX10_needPlace_23 dX10_needPlace_24 dX10_needPlace_27 dX10_needPlace_30 (Nat.le_of_ble_eq_true rfl) (Nat.le_of_ble_eq_true rfl) (Nat.le_of_ble_eq_true rfl)
  · skip
    exact EW _ _ _ _ _ _ _ _ _ _ _ _ _ _ (th_1 X) (by decide) (Eq.symm ((fX10_needPlace.eq_1 _ _ _).trans ((if_neg c1).trans rfl))) rfl hH hS t_sr_VernierDrawers_473 hl.1 dX10_needPlace_4 dX10_needPlace_7 dX10_needPlace_8 dX10_needPlace_11 dX10_needPlace_14 (Nat.le_of_ble_eq_true rfl) (Nat.le_of_ble_eq_true rfl) (Nat.le_of_ble_eq_true rfl)
theorem k_X10_needPlace {p : Program} {l : Launch} {e : Env} {R : Room} {s : State} {m : MethodId} {args : Array Value} {below : List Frame} {meth : Method} {c : Code} {H : Heap} {locs : List Loc} {cells slots : Nat} {Q : State → Prop} {cc : ByteArray} {pc nL : Nat} {ls : Array Slot} {rest : List Value} {G : gG} {own : String} {da : Nat → Nat} {v : vSt} {x : gX} (hst : l.stackTraces = false) (X : CX G p s m args c cc nL own) (hS : va_S (gA G) s.heap H locs) (hH : Hp G da v x H) {p1 : Int32} {p2 : Int32} {idx : Nat} (hml : Cond.methodLink own idx yX10_needPlace ∈ TT) (hls : ls.size = nL) (hsum : (rest.map fun v => v.category).sum ≤ 8) (hR : rmX10_needPlace.frames + 1 ≤ R.frames ∧ 8 + (2 + 11) + rmX10_needPlace.locals ≤ R.locals) (hcs : cells + 6 ≤ R.cells ∧ slots + 6 ≤ R.slots) (hdg : decode cc pc = .ok (.invokestatic idx, 3)) (kx : ¬ (fX10_needPlace p1 p2 v) = 0 → ∀ (d : Nat → Nat) (ce : Cell) (q9 : Addr) (H1 : Heap) (locs1 : List Loc), Hp G d v x H1 → va_S (gA G) s.heap H1 locs1 → H1[q9]? = some ce → ce.vm = .none → s.vm.findClass (exN (fX10_needPlace p1 p2 v)) = some ce.cls → vx_W p l e R s m args below meth c H1 locs1 (cells + 6) (slots + 6) Q (F0 m pc ls rest) q9) (kk : (fX10_needPlace p1 p2 v) = 0 → ∀ (d : Nat → Nat) (H1 : Heap) (locs1 : List Loc), Hp G d v x H1 → va_S (gA G) s.heap H1 locs1 → W p l e R s m args below meth c H1 locs1 (cells + 6) (slots + 6) Q (F0 m (pc + 3) ls (rest))) : W p l e R s m args below meth c H locs cells slots Q (F0 m pc ls (.int p2 :: .int p1 :: rest)) := c_tv (runxS (kp := 2) X.1 X.2.1 X.2.2.1 X.2.2.2.1 X.2.2.2.2.1 (mX10_needPlace l hst G da v x p1 p2) pW_bl hml t_st_X10_needPlace t_ini_VernierDrawers t_code_X10_needPlace ⟨by decide, by decide, by decide +kernel⟩ rfl rfl hR hcs (preW X hS hH) rfl hls rfl hsum hdg) hS (fun h9 d9 ce9 q9 H9 L9 v9 e9 hH9 => kx h9 d9 ce9 q9 H9 L9 (by subst e9; exact hH9)) (fun h9 d9 H9 L9 v9 e9 hH9 => kk h9 d9 H9 L9 (by subst e9; exact hH9))
def fX10_needReading (r : Nat) (p1 : Int32) (p2 : Int32) (p3 : Int32) (v : vSt) : Nat × Int32 := if ((fX2_refusalToMeasure ((rN (v r 0)) + 1) p1 p2 p3 v) : Int32) = 1 then ((1, 0)) else (if ((fX2_refusalToMeasure ((rN (v r 0)) + 1) p1 p2 p3 v) : Int32) = 2 then ((3, 0)) else (if (fX10_needTool r p1 v).1 = 0 then ((0, fX2_reading ((rN (v r 0)) + 1) ((fX10_needTool r p1 v).2) p2 p3 v)) else (((fX10_needTool r p1 v).1, 0))))
def oX10_needReading (r : Nat) (p1 : Int32) (p2 : Int32) (p3 : Int32) (v : vSt) : Prop := (kd (rN (v r 0)) = 7) ∧ (¬ (((fX2_refusalToMeasure ((rN (v r 0)) + 1) p1 p2 p3 v) : Int32) = 1) → (¬ (((fX2_refusalToMeasure ((rN (v r 0)) + 1) p1 p2 p3 v) : Int32) = 2) → ((oX10_needTool r p1 v) ∧ (((fX10_needTool r p1 v).1 = 0) → (kd (fX10_needTool r p1 v).2 = 8)))))
abbrev rmX10_needReading : Room := { frames := 7, cells := 6, slots := 6, locals := 111 }
theorem dX10_needReading_0 : decode cX10_needReading 0 = .ok (.aload_n 0, 1) := by decide +kernel
theorem dX10_needReading_1 : decode cX10_needReading 1 = .ok (.getfield 10, 3) := by decide +kernel
theorem dX10_needReading_4 : decode cX10_needReading 4 = .ok (.getfield 41, 3) := by decide +kernel
theorem dX10_needReading_7 : decode cX10_needReading 7 = .ok (.iload_n 1, 1) := by decide +kernel
theorem dX10_needReading_8 : decode cX10_needReading 8 = .ok (.iload_n 2, 1) := by decide +kernel
theorem dX10_needReading_9 : decode cX10_needReading 9 = .ok (.iload_n 3, 1) := by decide +kernel
theorem dX10_needReading_10 : decode cX10_needReading 10 = .ok (.invokevirtual 93, 3) := by decide +kernel
theorem dX10_needReading_13 : decode cX10_needReading 13 = .ok (.istore 4, 2) := by decide +kernel
theorem dX10_needReading_15 : decode cX10_needReading 15 = .ok (.iload 4, 2) := by decide +kernel
theorem dX10_needReading_17 : decode cX10_needReading 17 = .ok (.iconst 1, 1) := by decide +kernel
theorem dX10_needReading_18 : decode cX10_needReading 18 = .ok (.if_icmp .ne 14, 3) := by decide +kernel
theorem dX10_needReading_21 : decode cX10_needReading 21 = .ok (.new 53, 3) := by decide +kernel
theorem dX10_needReading_24 : decode cX10_needReading 24 = .ok (.dup, 1) := by decide +kernel
theorem dX10_needReading_25 : decode cX10_needReading 25 = .ok (.ldc_w 477, 3) := by decide +kernel
theorem dX10_needReading_28 : decode cX10_needReading 28 = .ok (.invokespecial 57, 3) := by decide +kernel
theorem dX10_needReading_31 : decode cX10_needReading 31 = .ok (.athrow, 1) := by decide +kernel
theorem dX10_needReading_32 : decode cX10_needReading 32 = .ok (.iload 4, 2) := by decide +kernel
theorem dX10_needReading_34 : decode cX10_needReading 34 = .ok (.iconst 2, 1) := by decide +kernel
theorem dX10_needReading_35 : decode cX10_needReading 35 = .ok (.if_icmp .ne 14, 3) := by decide +kernel
theorem dX10_needReading_38 : decode cX10_needReading 38 = .ok (.new 259, 3) := by decide +kernel
theorem dX10_needReading_41 : decode cX10_needReading 41 = .ok (.dup, 1) := by decide +kernel
theorem dX10_needReading_42 : decode cX10_needReading 42 = .ok (.ldc_w 479, 3) := by decide +kernel
theorem dX10_needReading_45 : decode cX10_needReading 45 = .ok (.invokespecial 263, 3) := by decide +kernel
theorem dX10_needReading_48 : decode cX10_needReading 48 = .ok (.athrow, 1) := by decide +kernel
theorem dX10_needReading_49 : decode cX10_needReading 49 = .ok (.aload_n 0, 1) := by decide +kernel
theorem dX10_needReading_50 : decode cX10_needReading 50 = .ok (.getfield 10, 3) := by decide +kernel
theorem dX10_needReading_53 : decode cX10_needReading 53 = .ok (.getfield 41, 3) := by decide +kernel
theorem dX10_needReading_56 : decode cX10_needReading 56 = .ok (.aload_n 0, 1) := by decide +kernel
theorem dX10_needReading_57 : decode cX10_needReading 57 = .ok (.iload_n 1, 1) := by decide +kernel
theorem dX10_needReading_58 : decode cX10_needReading 58 = .ok (.invokevirtual 181, 3) := by decide +kernel
theorem dX10_needReading_61 : decode cX10_needReading 61 = .ok (.iload_n 2, 1) := by decide +kernel
theorem dX10_needReading_62 : decode cX10_needReading 62 = .ok (.iload_n 3, 1) := by decide +kernel
theorem dX10_needReading_63 : decode cX10_needReading 63 = .ok (.invokevirtual 481, 3) := by decide +kernel
theorem dX10_needReading_66 : decode cX10_needReading 66 = .ok (.ireturn, 1) := by decide +kernel
set_option maxHeartbeats 8000000 in
set_option maxRecDepth 100000 in
theorem mX10_needReading (l : Launch) (hst : l.stackTraces = false) (G : gG) (da : Nat → Nat) (v : vSt) (x : gX) (r : Nat) (hk_r : kd r = 10) (p1 : Int32) (p2 : Int32) (p3 : Int32) (ho : oX10_needReading r p1 p2 p3 v) : TI l yX10_needReading cX10_needReading 5 (some .int) rmX10_needReading [.ref (ga G r), .int p1, .int p2, .int p3] G da v x 6 6 (fX10_needReading r p1 p2 p3 v).1 (fX10_needReading r p1 p2 p3 v).2 v x := by
  refine gofTI hst (by decide) rfl (Nat.le_of_ble_eq_true rfl) ⟨Nat.le_of_ble_eq_true rfl, Nat.le_of_ble_eq_true rfl, Nat.le_refl _, Nat.le_refl _⟩ (fun p e s m args below meth c ls Q X hH hl E EX ES EW => ?_)
  have hx := X.1
  have hb := X.2.1
  have hown := X.2.2.2.1
  have hts := X.2.2.2.2.1
  have hS : va_S (gA G) s.heap s.heap [] := va_S.rf
  unfold oX10_needReading at ho
  have hl : lv_has ls 5 [(0, .ref (ga G r)), (1, .int p1), (2, .int p2), (3, .int p3)] := hl
  refine lv_aload_n hx hb dX10_needReading_0 rfl (lv_at hl 0 rfl) ?_
  refine g_VernierDrawers_10 X hH hk_r dX10_needReading_1 ?_
  have hq1 := ho.1
  have ho := ho.2
  refine g_VernierDrawers_41 X hH hq1 dX10_needReading_4 ?_
  refine lv_iload_n hx hb dX10_needReading_7 rfl (lv_at hl 1 rfl) ?_
  refine lv_iload_n hx hb dX10_needReading_8 rfl (lv_at hl 2 rfl) ?_
  refine lv_iload_n hx hb dX10_needReading_9 rfl (lv_at hl 3 rfl) ?_
  refine k_X2_refusalToMeasure X hS hH (kc_7_2 hq1) t_ml_VernierDrawers_93 hl.1 (Nat.le_of_ble_eq_true rfl) ⟨Nat.le_of_ble_eq_true rfl, Nat.le_of_ble_eq_true rfl⟩ ⟨Nat.zero_le _, Nat.zero_le _⟩ dX10_needReading_10 ?_
  refine lv_istore (lv' := [(4, .int (fX2_refusalToMeasure ((rN (v r 0)) + 1) p1 p2 p3 v)), (0, .ref (ga G r)), (1, .int p1), (2, .int p2), (3, .int p3)]) hx hb dX10_needReading_13 hl (by decide) rfl (fun ls hl => ?_)
  refine lv_iload hx hb dX10_needReading_15 (lv_at hl 0 rfl) ?_
  refine lv_iconst (v := 1) hx hb dX10_needReading_17 (by decide) ?_
  refine lv_icmp_ne (tgt := 32) hx hb dX10_needReading_18 (by decide) (fun c2 => ?_) (fun c2 => ?_)
  · have ho := ho c2
    refine lv_iload hx hb dX10_needReading_32 (lv_at hl 0 rfl) ?_
    refine lv_iconst (v := 2) hx hb dX10_needReading_34 (by decide) ?_
    refine lv_icmp_ne (tgt := 49) hx hb dX10_needReading_35 (by decide) (fun c3 => ?_) (fun c3 => ?_)
    · have ho := ho c3
      refine lv_aload_n hx hb dX10_needReading_49 rfl (lv_at hl 1 rfl) ?_
      refine g_VernierDrawers_10 X hH hk_r dX10_needReading_50 ?_
      refine g_VernierDrawers_41 X hH hq1 dX10_needReading_53 ?_
      refine lv_aload_n hx hb dX10_needReading_56 rfl (lv_at hl 1 rfl) ?_
      refine lv_iload_n hx hb dX10_needReading_57 rfl (lv_at hl 2 rfl) ?_
      have hq4 := ho.1
      have ho := ho.2
      refine k_X10_needTool hst X hS hH hk_r hq4 t_ml_VernierDrawers_181 hl.1 (Nat.le_of_ble_eq_true rfl) ⟨Nat.le_of_ble_eq_true rfl, Nat.le_of_ble_eq_true rfl⟩ ⟨(Nat.le_of_ble_eq_true rfl), (Nat.le_of_ble_eq_true rfl)⟩ dX10_needReading_58 (fun c5 da ce9 q9 H locs hH hS g1 g2 g3 => ?_) (fun c5 da H locs hH hS => ?_)
      · skip
        exact EX _ _ _ _ _ _ _ _ _ _ _ _ c5 (pr1 ((fX10_needReading.eq_1 _ _ _ _ _).trans ((if_neg c2).trans ((if_neg c3).trans ((if_neg c5).trans rfl))))) rfl hH hS g1 g2 g3 (Nat.le_of_ble_eq_true rfl) (Nat.le_of_ble_eq_true rfl)
      · have ho := ho c5
        have hq6 := ho
        refine lv_iload_n hx hb dX10_needReading_61 rfl (lv_at hl 3 rfl) ?_
        refine lv_iload_n hx hb dX10_needReading_62 rfl (lv_at hl 4 rfl) ?_
        refine k_X2_reading X hS hH (kc_7_2 hq1) hq6 t_ml_VernierDrawers_481 hl.1 (Nat.le_of_ble_eq_true rfl) ⟨Nat.le_of_ble_eq_true rfl, Nat.le_of_ble_eq_true rfl⟩ ⟨(Nat.le_of_ble_eq_true rfl), (Nat.le_of_ble_eq_true rfl)⟩ dX10_needReading_63 ?_
        exact E _ _ _ _ _ _ _ _ _ dX10_needReading_66 rfl (Eq.symm (pr1 ((fX10_needReading.eq_1 _ _ _ _ _).trans ((if_neg c2).trans ((if_neg c3).trans ((if_pos c5).trans rfl)))))) (pr2 ((fX10_needReading.eq_1 _ _ _ _ _).trans ((if_neg c2).trans ((if_neg c3).trans ((if_pos c5).trans rfl))))) rfl hH hS (Nat.le_of_ble_eq_true rfl) (Nat.le_of_ble_eq_true rfl)
    · skip
      exact EW _ _ _ _ _ _ _ _ _ _ _ _ _ _ (th_3 X) (by decide) (pr1 ((fX10_needReading.eq_1 _ _ _ _ _).trans ((if_neg c2).trans ((if_pos c3).trans rfl)))) rfl hH hS t_sr_VernierDrawers_479 hl.1 dX10_needReading_38 dX10_needReading_41 dX10_needReading_42 dX10_needReading_45 dX10_needReading_48 (Nat.le_of_ble_eq_true rfl) (Nat.le_of_ble_eq_true rfl) (Nat.le_of_ble_eq_true rfl)
  · skip
    exact EW _ _ _ _ _ _ _ _ _ _ _ _ _ _ (th_1 X) (by decide) (pr1 ((fX10_needReading.eq_1 _ _ _ _ _).trans ((if_pos c2).trans rfl))) rfl hH hS t_sr_VernierDrawers_477 hl.1 dX10_needReading_21 dX10_needReading_24 dX10_needReading_25 dX10_needReading_28 dX10_needReading_31 (Nat.le_of_ble_eq_true rfl) (Nat.le_of_ble_eq_true rfl) (Nat.le_of_ble_eq_true rfl)
theorem k_X10_needReading {p : Program} {l : Launch} {e : Env} {R : Room} {s : State} {m : MethodId} {args : Array Value} {below : List Frame} {meth : Method} {c : Code} {H : Heap} {locs : List Loc} {cells slots : Nat} {Q : State → Prop} {cc : ByteArray} {pc nL : Nat} {ls : Array Slot} {rest : List Value} {G : gG} {own : String} {da : Nat → Nat} {v : vSt} {x : gX} (hst : l.stackTraces = false) (X : CX G p s m args c cc nL own) (hS : va_S (gA G) s.heap H locs) (hH : Hp G da v x H) {r : Nat} (hk_r : kd r = 10) {p1 : Int32} {p2 : Int32} {p3 : Int32} (ho : oX10_needReading r p1 p2 p3 v) {idx : Nat} (hml : Cond.methodLink own idx yX10_needReading ∈ TT) (hls : ls.size = nL) (hsum : (rest.map fun v => v.category).sum ≤ 8) (hR : rmX10_needReading.frames + 1 ≤ R.frames ∧ 8 + (5 + 11) + rmX10_needReading.locals ≤ R.locals) (hcs : cells + 6 ≤ R.cells ∧ slots + 6 ≤ R.slots) (hdg : decode cc pc = .ok (.invokevirtual idx, 3)) (kx : ¬ (fX10_needReading r p1 p2 p3 v).1 = 0 → ∀ (d : Nat → Nat) (ce : Cell) (q9 : Addr) (H1 : Heap) (locs1 : List Loc), Hp G d v x H1 → va_S (gA G) s.heap H1 locs1 → H1[q9]? = some ce → ce.vm = .none → s.vm.findClass (exN (fX10_needReading r p1 p2 p3 v).1) = some ce.cls → vx_W p l e R s m args below meth c H1 locs1 (cells + 6) (slots + 6) Q (F0 m pc ls rest) q9) (kk : (fX10_needReading r p1 p2 p3 v).1 = 0 → ∀ (d : Nat → Nat) (H1 : Heap) (locs1 : List Loc), Hp G d v x H1 → va_S (gA G) s.heap H1 locs1 → W p l e R s m args below meth c H1 locs1 (cells + 6) (slots + 6) Q (F0 m (pc + 3) ls (.int (fX10_needReading r p1 p2 p3 v).2 :: rest))) : W p l e R s m args below meth c H locs cells slots Q (F0 m pc ls (.int p3 :: .int p2 :: .int p1 :: .ref (ga G r) :: rest)) := c_ti (runxV (kp := 3) X.1 X.2.1 X.2.2.1 X.2.2.2.1 X.2.2.2.2.1 (mX10_needReading l hst G da v x r hk_r p1 p2 p3 ho) pW_bl hml t_im_X10_needReading t_sel_X10_needReading t_ini_VernierDrawers t_code_X10_needReading ⟨rfl, by decide, by decide, by decide +kernel⟩ rfl rfl hR hcs (recvW X hH (by rw [hk_r]; decide) (by rw [hk_r]; decide) (ce_10 hk_r) rfl) (preW X hS hH) rfl hls rfl hsum hdg) hS (fun h9 d9 ce9 q9 H9 L9 v9 e9 hH9 => kx h9 d9 ce9 q9 H9 L9 (by subst e9; exact hH9)) (fun h9 d9 H9 L9 v9 e9 hH9 => kk h9 d9 H9 L9 (by subst e9; exact hH9))
def fX10_needStackLength (p1 : Int32) (v : vSt) : Nat := if ((fX10_inRange p1 1 15000) : Int32) = 0 then 1 else 0
abbrev rmX10_needStackLength : Room := { frames := 6, cells := 6, slots := 6, locals := 90 }
theorem dX10_needStackLength_0 : decode cX10_needStackLength 0 = .ok (.iload_n 0, 1) := by decide +kernel
theorem dX10_needStackLength_1 : decode cX10_needStackLength 1 = .ok (.iconst 1, 1) := by decide +kernel
theorem dX10_needStackLength_2 : decode cX10_needStackLength 2 = .ok (.sipush 15000, 3) := by decide +kernel
theorem dX10_needStackLength_5 : decode cX10_needStackLength 5 = .ok (.invokestatic 49, 3) := by decide +kernel
theorem dX10_needStackLength_8 : decode cX10_needStackLength 8 = .ok (.ifCond .ne 13, 3) := by decide +kernel
theorem dX10_needStackLength_11 : decode cX10_needStackLength 11 = .ok (.new 53, 3) := by decide +kernel
theorem dX10_needStackLength_14 : decode cX10_needStackLength 14 = .ok (.dup, 1) := by decide +kernel
theorem dX10_needStackLength_15 : decode cX10_needStackLength 15 = .ok (.ldc 179, 2) := by decide +kernel
theorem dX10_needStackLength_17 : decode cX10_needStackLength 17 = .ok (.invokespecial 57, 3) := by decide +kernel
theorem dX10_needStackLength_20 : decode cX10_needStackLength 20 = .ok (.athrow, 1) := by decide +kernel
theorem dX10_needStackLength_21 : decode cX10_needStackLength 21 = .ok (.return_, 1) := by decide +kernel
set_option maxHeartbeats 8000000 in
set_option maxRecDepth 100000 in
theorem mX10_needStackLength (l : Launch) (hst : l.stackTraces = false) (G : gG) (da : Nat → Nat) (v : vSt) (x : gX) (p1 : Int32) : TV l yX10_needStackLength cX10_needStackLength 1 none rmX10_needStackLength [.int p1] G da v x 6 6 (fX10_needStackLength p1 v) v x := by
  refine gofTV hst (by decide) rfl (Nat.le_of_ble_eq_true rfl) ⟨Nat.le_of_ble_eq_true rfl, Nat.le_of_ble_eq_true rfl, Nat.le_refl _, Nat.le_refl _⟩ (fun p e s m args below meth c ls Q X hH hl E EX ES EW => ?_)
  have hx := X.1
  have hb := X.2.1
  have hown := X.2.2.2.1
  have hts := X.2.2.2.2.1
  have hS : va_S (gA G) s.heap s.heap [] := va_S.rf
  have ho : True := trivial
  have hl : lv_has ls 1 [(0, .int p1)] := hl
  refine lv_iload_n hx hb dX10_needStackLength_0 rfl (lv_at hl 0 rfl) ?_
  refine lv_iconst (v := 1) hx hb dX10_needStackLength_1 (by decide) ?_
  refine lv_sipush (v := 15000) hx hb dX10_needStackLength_2 (by decide) ?_
  refine k_X10_inRange X hS  t_ml_VernierDrawers_49 hl.1 (Nat.le_of_ble_eq_true rfl) ⟨Nat.le_of_ble_eq_true rfl, Nat.le_of_ble_eq_true rfl⟩ ⟨Nat.zero_le _, Nat.zero_le _⟩ dX10_needStackLength_5 ?_
  refine lv_if_ne (tgt := 21) hx hb dX10_needStackLength_8 (by decide) (fun c1 => ?_) (fun c1 => ?_)
  · skip
    exact E _ _ _ _ _ _ _ _ dX10_needStackLength_21 (Eq.symm (Eq.symm ((fX10_needStackLength.eq_1 _ _).trans ((if_neg c1).trans rfl)))) rfl hH hS (Nat.zero_le _) (Nat.zero_le _)
  · skip
    exact ES _ _ _ _ _ _ _ _ _ _ _ _ _ _ (th_1 X) (by decide) (Eq.symm ((fX10_needStackLength.eq_1 _ _).trans ((if_pos c1).trans rfl))) rfl hH hS t_sr_VernierDrawers_179 hl.1 dX10_needStackLength_11 dX10_needStackLength_14 dX10_needStackLength_15 dX10_needStackLength_17 dX10_needStackLength_20 (Nat.le_of_ble_eq_true rfl) (Nat.le_of_ble_eq_true rfl) (Nat.le_of_ble_eq_true rfl)
theorem k_X10_needStackLength {p : Program} {l : Launch} {e : Env} {R : Room} {s : State} {m : MethodId} {args : Array Value} {below : List Frame} {meth : Method} {c : Code} {H : Heap} {locs : List Loc} {cells slots : Nat} {Q : State → Prop} {cc : ByteArray} {pc nL : Nat} {ls : Array Slot} {rest : List Value} {G : gG} {own : String} {da : Nat → Nat} {v : vSt} {x : gX} (hst : l.stackTraces = false) (X : CX G p s m args c cc nL own) (hS : va_S (gA G) s.heap H locs) (hH : Hp G da v x H) {p1 : Int32} {idx : Nat} (hml : Cond.methodLink own idx yX10_needStackLength ∈ TT) (hls : ls.size = nL) (hsum : (rest.map fun v => v.category).sum ≤ 8) (hR : rmX10_needStackLength.frames + 1 ≤ R.frames ∧ 8 + (1 + 11) + rmX10_needStackLength.locals ≤ R.locals) (hcs : cells + 6 ≤ R.cells ∧ slots + 6 ≤ R.slots) (hdg : decode cc pc = .ok (.invokestatic idx, 3)) (kx : ¬ (fX10_needStackLength p1 v) = 0 → ∀ (d : Nat → Nat) (ce : Cell) (q9 : Addr) (H1 : Heap) (locs1 : List Loc), Hp G d v x H1 → va_S (gA G) s.heap H1 locs1 → H1[q9]? = some ce → ce.vm = .none → s.vm.findClass (exN (fX10_needStackLength p1 v)) = some ce.cls → vx_W p l e R s m args below meth c H1 locs1 (cells + 6) (slots + 6) Q (F0 m pc ls rest) q9) (kk : (fX10_needStackLength p1 v) = 0 → ∀ (d : Nat → Nat) (H1 : Heap) (locs1 : List Loc), Hp G d v x H1 → va_S (gA G) s.heap H1 locs1 → W p l e R s m args below meth c H1 locs1 (cells + 6) (slots + 6) Q (F0 m (pc + 3) ls (rest))) : W p l e R s m args below meth c H locs cells slots Q (F0 m pc ls (.int p1 :: rest)) := c_tv (runxS (kp := 1) X.1 X.2.1 X.2.2.1 X.2.2.2.1 X.2.2.2.2.1 (mX10_needStackLength l hst G da v x p1) pW_bl hml t_st_X10_needStackLength t_ini_VernierDrawers t_code_X10_needStackLength ⟨by decide, by decide, by decide +kernel⟩ rfl rfl hR hcs (preW X hS hH) rfl hls rfl hsum hdg) hS (fun h9 d9 ce9 q9 H9 L9 v9 e9 hH9 => kx h9 d9 ce9 q9 H9 L9 (by subst e9; exact hH9)) (fun h9 d9 H9 L9 v9 e9 hH9 => kk h9 d9 H9 L9 (by subst e9; exact hH9))
def fX10_needStack (r : Nat) (p1 : Int32) (v : vSt) : Nat × Int32 := if fX10_needStackLength p1 v = 0 then (if ((fX2_stack ((rN (v r 0)) + 1) p1 v) : Int32) = 0 then ((3, 0)) else ((0, fX2_stack ((rN (v r 0)) + 1) p1 v))) else ((fX10_needStackLength p1 v, 0))
def oX10_needStack (r : Nat) (p1 : Int32) (v : vSt) : Prop := (fX10_needStackLength p1 v = 0) → ((kd (rN (v r 0)) = 7) ∧ (0 ≤ (v ((rN (v r 0)) + 1) 2).toInt ∧ (v ((rN (v r 0)) + 1) 2).toInt ≤ 6 ∧ 0 ≤ (v ((rN (v r 0)) + 1) 3).toInt ∧ (v ((rN (v r 0)) + 1) 3).toInt ≤ 10))
abbrev rmX10_needStack : Room := { frames := 7, cells := 12, slots := 12, locals := 110 }
theorem dX10_needStack_0 : decode cX10_needStack 0 = .ok (.iload_n 1, 1) := by decide +kernel
theorem dX10_needStack_1 : decode cX10_needStack 1 = .ok (.invokestatic 249, 3) := by decide +kernel
theorem dX10_needStack_4 : decode cX10_needStack 4 = .ok (.aload_n 0, 1) := by decide +kernel
theorem dX10_needStack_5 : decode cX10_needStack 5 = .ok (.getfield 10, 3) := by decide +kernel
theorem dX10_needStack_8 : decode cX10_needStack 8 = .ok (.getfield 41, 3) := by decide +kernel
theorem dX10_needStack_11 : decode cX10_needStack 11 = .ok (.iload_n 1, 1) := by decide +kernel
theorem dX10_needStack_12 : decode cX10_needStack 12 = .ok (.invokevirtual 484, 3) := by decide +kernel
theorem dX10_needStack_15 : decode cX10_needStack 15 = .ok (.istore_n 2, 1) := by decide +kernel
theorem dX10_needStack_16 : decode cX10_needStack 16 = .ok (.iload_n 2, 1) := by decide +kernel
theorem dX10_needStack_17 : decode cX10_needStack 17 = .ok (.ifCond .ne 14, 3) := by decide +kernel
theorem dX10_needStack_20 : decode cX10_needStack 20 = .ok (.new 259, 3) := by decide +kernel
theorem dX10_needStack_23 : decode cX10_needStack 23 = .ok (.dup, 1) := by decide +kernel
theorem dX10_needStack_24 : decode cX10_needStack 24 = .ok (.ldc_w 261, 3) := by decide +kernel
theorem dX10_needStack_27 : decode cX10_needStack 27 = .ok (.invokespecial 263, 3) := by decide +kernel
theorem dX10_needStack_30 : decode cX10_needStack 30 = .ok (.athrow, 1) := by decide +kernel
theorem dX10_needStack_31 : decode cX10_needStack 31 = .ok (.iload_n 2, 1) := by decide +kernel
theorem dX10_needStack_32 : decode cX10_needStack 32 = .ok (.ireturn, 1) := by decide +kernel
set_option maxHeartbeats 8000000 in
set_option maxRecDepth 100000 in
theorem mX10_needStack (l : Launch) (hst : l.stackTraces = false) (G : gG) (da : Nat → Nat) (v : vSt) (x : gX) (r : Nat) (hk_r : kd r = 10) (p1 : Int32) (ho : oX10_needStack r p1 v) : TI l yX10_needStack cX10_needStack 3 (some .int) rmX10_needStack [.ref (ga G r), .int p1] G da v x 12 12 (fX10_needStack r p1 v).1 (fX10_needStack r p1 v).2 v x := by
  refine gofTI hst (by decide) rfl (Nat.le_of_ble_eq_true rfl) ⟨Nat.le_of_ble_eq_true rfl, Nat.le_of_ble_eq_true rfl, Nat.le_refl _, Nat.le_refl _⟩ (fun p e s m args below meth c ls Q X hH hl E EX ES EW => ?_)
  have hx := X.1
  have hb := X.2.1
  have hown := X.2.2.2.1
  have hts := X.2.2.2.2.1
  have hS : va_S (gA G) s.heap s.heap [] := va_S.rf
  unfold oX10_needStack at ho
  have hl : lv_has ls 3 [(0, .ref (ga G r)), (1, .int p1)] := hl
  refine lv_iload_n hx hb dX10_needStack_0 rfl (lv_at hl 1 rfl) ?_
  refine k_X10_needStackLength hst X hS hH  t_ml_VernierDrawers_249 hl.1 (Nat.le_of_ble_eq_true rfl) ⟨Nat.le_of_ble_eq_true rfl, Nat.le_of_ble_eq_true rfl⟩ ⟨(Nat.le_of_ble_eq_true rfl), (Nat.le_of_ble_eq_true rfl)⟩ dX10_needStack_1 (fun c1 da ce9 q9 H locs hH hS g1 g2 g3 => ?_) (fun c1 da H locs hH hS => ?_)
  · skip
    exact EX _ _ _ _ _ _ _ _ _ _ _ _ c1 (pr1 ((fX10_needStack.eq_1 _ _ _).trans ((if_neg c1).trans rfl))) rfl hH hS g1 g2 g3 (Nat.le_of_ble_eq_true rfl) (Nat.le_of_ble_eq_true rfl)
  · have ho := ho c1
    refine lv_aload_n hx hb dX10_needStack_4 rfl (lv_at hl 0 rfl) ?_
    refine g_VernierDrawers_10 X hH hk_r dX10_needStack_5 ?_
    have hq2 := ho.1
    have ho := ho.2
    refine g_VernierDrawers_41 X hH hq2 dX10_needStack_8 ?_
    refine lv_iload_n hx hb dX10_needStack_11 rfl (lv_at hl 1 rfl) ?_
    have hq3 := ho
    refine k_X2_stack X hS hH (kc_7_2 hq2) hq3 t_ml_VernierDrawers_484 hl.1 (Nat.le_of_ble_eq_true rfl) ⟨Nat.le_of_ble_eq_true rfl, Nat.le_of_ble_eq_true rfl⟩ ⟨(Nat.le_of_ble_eq_true rfl), (Nat.le_of_ble_eq_true rfl)⟩ dX10_needStack_12 ?_
    refine lv_istore_n (lv' := [(2, .int (fX2_stack ((rN (v r 0)) + 1) p1 v)), (0, .ref (ga G r)), (1, .int p1)]) hx hb dX10_needStack_15 rfl hl (by decide) rfl (fun ls hl => ?_)
    refine lv_iload_n hx hb dX10_needStack_16 rfl (lv_at hl 0 rfl) ?_
    refine lv_if_ne (tgt := 31) hx hb dX10_needStack_17 (by decide) (fun c4 => ?_) (fun c4 => ?_)
    · skip
      refine lv_iload_n hx hb dX10_needStack_31 rfl (lv_at hl 0 rfl) ?_
      exact E _ _ _ _ _ _ _ _ _ dX10_needStack_32 rfl (Eq.symm (pr1 ((fX10_needStack.eq_1 _ _ _).trans ((if_pos c1).trans ((if_neg c4).trans rfl))))) (pr2 ((fX10_needStack.eq_1 _ _ _).trans ((if_pos c1).trans ((if_neg c4).trans rfl)))) rfl hH hS (Nat.le_of_ble_eq_true rfl) (Nat.le_of_ble_eq_true rfl)
    · skip
      exact EW _ _ _ _ _ _ _ _ _ _ _ _ _ _ (th_3 X) (by decide) (pr1 ((fX10_needStack.eq_1 _ _ _).trans ((if_pos c1).trans ((if_pos c4).trans rfl)))) rfl hH hS t_sr_VernierDrawers_261 hl.1 dX10_needStack_20 dX10_needStack_23 dX10_needStack_24 dX10_needStack_27 dX10_needStack_30 (Nat.le_of_ble_eq_true rfl) (Nat.le_of_ble_eq_true rfl) (Nat.le_of_ble_eq_true rfl)
theorem k_X10_needStack {p : Program} {l : Launch} {e : Env} {R : Room} {s : State} {m : MethodId} {args : Array Value} {below : List Frame} {meth : Method} {c : Code} {H : Heap} {locs : List Loc} {cells slots : Nat} {Q : State → Prop} {cc : ByteArray} {pc nL : Nat} {ls : Array Slot} {rest : List Value} {G : gG} {own : String} {da : Nat → Nat} {v : vSt} {x : gX} (hst : l.stackTraces = false) (X : CX G p s m args c cc nL own) (hS : va_S (gA G) s.heap H locs) (hH : Hp G da v x H) {r : Nat} (hk_r : kd r = 10) {p1 : Int32} (ho : oX10_needStack r p1 v) {idx : Nat} (hml : Cond.methodLink own idx yX10_needStack ∈ TT) (hls : ls.size = nL) (hsum : (rest.map fun v => v.category).sum ≤ 8) (hR : rmX10_needStack.frames + 1 ≤ R.frames ∧ 8 + (3 + 11) + rmX10_needStack.locals ≤ R.locals) (hcs : cells + 12 ≤ R.cells ∧ slots + 12 ≤ R.slots) (hdg : decode cc pc = .ok (.invokevirtual idx, 3)) (kx : ¬ (fX10_needStack r p1 v).1 = 0 → ∀ (d : Nat → Nat) (ce : Cell) (q9 : Addr) (H1 : Heap) (locs1 : List Loc), Hp G d v x H1 → va_S (gA G) s.heap H1 locs1 → H1[q9]? = some ce → ce.vm = .none → s.vm.findClass (exN (fX10_needStack r p1 v).1) = some ce.cls → vx_W p l e R s m args below meth c H1 locs1 (cells + 12) (slots + 12) Q (F0 m pc ls rest) q9) (kk : (fX10_needStack r p1 v).1 = 0 → ∀ (d : Nat → Nat) (H1 : Heap) (locs1 : List Loc), Hp G d v x H1 → va_S (gA G) s.heap H1 locs1 → W p l e R s m args below meth c H1 locs1 (cells + 12) (slots + 12) Q (F0 m (pc + 3) ls (.int (fX10_needStack r p1 v).2 :: rest))) : W p l e R s m args below meth c H locs cells slots Q (F0 m pc ls (.int p1 :: .ref (ga G r) :: rest)) := c_ti (runxV (kp := 1) X.1 X.2.1 X.2.2.1 X.2.2.2.1 X.2.2.2.2.1 (mX10_needStack l hst G da v x r hk_r p1 ho) pW_bl hml t_im_X10_needStack t_sel_X10_needStack t_ini_VernierDrawers t_code_X10_needStack ⟨rfl, by decide, by decide, by decide +kernel⟩ rfl rfl hR hcs (recvW X hH (by rw [hk_r]; decide) (by rw [hk_r]; decide) (ce_10 hk_r) rfl) (preW X hS hH) rfl hls rfl hsum hdg) hS (fun h9 d9 ce9 q9 H9 L9 v9 e9 hH9 => kx h9 d9 ce9 q9 H9 L9 (by subst e9; exact hH9)) (fun h9 d9 H9 L9 v9 e9 hH9 => kk h9 d9 H9 L9 (by subst e9; exact hH9))
def fX10_needFault (r : Nat) (v : vSt) : Nat := if ((v 451 4) : Int32) = 0 then 3 else 0
abbrev rmX10_needFault : Room := { frames := 6, cells := 6, slots := 6, locals := 90 }
theorem dX10_needFault_0 : decode cX10_needFault 0 = .ok (.aload_n 0, 1) := by decide +kernel
theorem dX10_needFault_1 : decode cX10_needFault 1 = .ok (.getfield 30, 3) := by decide +kernel
theorem dX10_needFault_4 : decode cX10_needFault 4 = .ok (.getfield 423, 3) := by decide +kernel
theorem dX10_needFault_7 : decode cX10_needFault 7 = .ok (.ifCond .ne 14, 3) := by decide +kernel
theorem dX10_needFault_10 : decode cX10_needFault 10 = .ok (.new 259, 3) := by decide +kernel
theorem dX10_needFault_13 : decode cX10_needFault 13 = .ok (.dup, 1) := by decide +kernel
theorem dX10_needFault_14 : decode cX10_needFault 14 = .ok (.ldc_w 487, 3) := by decide +kernel
theorem dX10_needFault_17 : decode cX10_needFault 17 = .ok (.invokespecial 263, 3) := by decide +kernel
theorem dX10_needFault_20 : decode cX10_needFault 20 = .ok (.athrow, 1) := by decide +kernel
theorem dX10_needFault_21 : decode cX10_needFault 21 = .ok (.return_, 1) := by decide +kernel
set_option maxHeartbeats 8000000 in
set_option maxRecDepth 100000 in
theorem mX10_needFault (l : Launch) (hst : l.stackTraces = false) (G : gG) (da : Nat → Nat) (v : vSt) (x : gX) (r : Nat) (hk_r : kd r = 10) : TV l yX10_needFault cX10_needFault 1 none rmX10_needFault [.ref (ga G r)] G da v x 6 6 (fX10_needFault r v) v x := by
  refine gofTV hst (by decide) rfl (Nat.le_of_ble_eq_true rfl) ⟨Nat.le_of_ble_eq_true rfl, Nat.le_of_ble_eq_true rfl, Nat.le_refl _, Nat.le_refl _⟩ (fun p e s m args below meth c ls Q X hH hl E EX ES EW => ?_)
  have hx := X.1
  have hb := X.2.1
  have hown := X.2.2.2.1
  have hts := X.2.2.2.2.1
  have hS : va_S (gA G) s.heap s.heap [] := va_S.rf
  have ho : True := trivial
  have hl : lv_has ls 1 [(0, .ref (ga G r))] := hl
  refine lv_aload_n hx hb dX10_needFault_0 rfl (lv_at hl 0 rfl) ?_
  refine g_VernierDrawers_30 X hH hk_r dX10_needFault_1 ?_
  refine g_VernierDrawers_423 X hH kd_451 dX10_needFault_4 ?_
  refine lv_if_ne (tgt := 21) hx hb dX10_needFault_7 (by decide) (fun c1 => ?_) (fun c1 => ?_)
  · skip
    exact E _ _ _ _ _ _ _ _ dX10_needFault_21 (Eq.symm (Eq.symm ((fX10_needFault.eq_1 _ _).trans ((if_neg c1).trans rfl)))) rfl hH hS (Nat.zero_le _) (Nat.zero_le _)
  · skip
    exact EW _ _ _ _ _ _ _ _ _ _ _ _ _ _ (th_3 X) (by decide) (Eq.symm ((fX10_needFault.eq_1 _ _).trans ((if_pos c1).trans rfl))) rfl hH hS t_sr_VernierDrawers_487 hl.1 dX10_needFault_10 dX10_needFault_13 dX10_needFault_14 dX10_needFault_17 dX10_needFault_20 (Nat.le_of_ble_eq_true rfl) (Nat.le_of_ble_eq_true rfl) (Nat.le_of_ble_eq_true rfl)
theorem k_X10_needFault {p : Program} {l : Launch} {e : Env} {R : Room} {s : State} {m : MethodId} {args : Array Value} {below : List Frame} {meth : Method} {c : Code} {H : Heap} {locs : List Loc} {cells slots : Nat} {Q : State → Prop} {cc : ByteArray} {pc nL : Nat} {ls : Array Slot} {rest : List Value} {G : gG} {own : String} {da : Nat → Nat} {v : vSt} {x : gX} (hst : l.stackTraces = false) (X : CX G p s m args c cc nL own) (hS : va_S (gA G) s.heap H locs) (hH : Hp G da v x H) {r : Nat} (hk_r : kd r = 10) {idx : Nat} (hml : Cond.methodLink own idx yX10_needFault ∈ TT) (hls : ls.size = nL) (hsum : (rest.map fun v => v.category).sum ≤ 8) (hR : rmX10_needFault.frames + 1 ≤ R.frames ∧ 8 + (1 + 11) + rmX10_needFault.locals ≤ R.locals) (hcs : cells + 6 ≤ R.cells ∧ slots + 6 ≤ R.slots) (hdg : decode cc pc = .ok (.invokevirtual idx, 3)) (kx : ¬ (fX10_needFault r v) = 0 → ∀ (d : Nat → Nat) (ce : Cell) (q9 : Addr) (H1 : Heap) (locs1 : List Loc), Hp G d v x H1 → va_S (gA G) s.heap H1 locs1 → H1[q9]? = some ce → ce.vm = .none → s.vm.findClass (exN (fX10_needFault r v)) = some ce.cls → vx_W p l e R s m args below meth c H1 locs1 (cells + 6) (slots + 6) Q (F0 m pc ls rest) q9) (kk : (fX10_needFault r v) = 0 → ∀ (d : Nat → Nat) (H1 : Heap) (locs1 : List Loc), Hp G d v x H1 → va_S (gA G) s.heap H1 locs1 → W p l e R s m args below meth c H1 locs1 (cells + 6) (slots + 6) Q (F0 m (pc + 3) ls (rest))) : W p l e R s m args below meth c H locs cells slots Q (F0 m pc ls (.ref (ga G r) :: rest)) := c_tv (runxV (kp := 0) X.1 X.2.1 X.2.2.1 X.2.2.2.1 X.2.2.2.2.1 (mX10_needFault l hst G da v x r hk_r) pW_bl hml t_im_X10_needFault t_sel_X10_needFault t_ini_VernierDrawers t_code_X10_needFault ⟨rfl, by decide, by decide, by decide +kernel⟩ rfl rfl hR hcs (recvW X hH (by rw [hk_r]; decide) (by rw [hk_r]; decide) (ce_10 hk_r) rfl) (preW X hS hH) rfl hls rfl hsum hdg) hS (fun h9 d9 ce9 q9 H9 L9 v9 e9 hH9 => kx h9 d9 ce9 q9 H9 L9 (by subst e9; exact hH9)) (fun h9 d9 H9 L9 v9 e9 hH9 => kk h9 d9 H9 L9 (by subst e9; exact hH9))
