/-! 21.face1 -/
def fX10_wouldJudge (r : Nat) (p1 : Int32) (v : vSt) : Nat × Int32 := if (fX10_needTool r p1 v).1 = 0 then (if ((fX0_reasonNotToJudge ((rN (v r 0)) + 2) ((rN (v r 0)) + 1) ((fX10_needTool r p1 v).2) v) : Int32) = 0 then ((0, fX0_outcomeOf ((rN (v r 0)) + 2) (fX0_measuredWith ((rN (v r 0)) + 2) ((rN (v r 0)) + 1) ((fX10_needTool r p1 v).2) v) ((fX10_needTool r p1 v).2) v)) else ((3, 0))) else (((fX10_needTool r p1 v).1, 0))
def oX10_wouldJudge (r : Nat) (p1 : Int32) (v : vSt) : Prop := (oX10_needTool r p1 v) ∧ (((fX10_needTool r p1 v).1 = 0) → ((kd (fX10_needTool r p1 v).2 = 8) ∧ (kd (rN (v r 0)) = 7)))
abbrev rmX10_wouldJudge : Room := { frames := 7, cells := 12, slots := 12, locals := 111 }
theorem dX10_wouldJudge_0 : decode cX10_wouldJudge 0 = .ok (.aload_n 0, 1) := by decide +kernel
theorem dX10_wouldJudge_1 : decode cX10_wouldJudge 1 = .ok (.iload_n 1, 1) := by decide +kernel
theorem dX10_wouldJudge_2 : decode cX10_wouldJudge 2 = .ok (.invokevirtual 181, 3) := by decide +kernel
theorem dX10_wouldJudge_5 : decode cX10_wouldJudge 5 = .ok (.astore_n 2, 1) := by decide +kernel
theorem dX10_wouldJudge_6 : decode cX10_wouldJudge 6 = .ok (.aload_n 0, 1) := by decide +kernel
theorem dX10_wouldJudge_7 : decode cX10_wouldJudge 7 = .ok (.getfield 10, 3) := by decide +kernel
theorem dX10_wouldJudge_10 : decode cX10_wouldJudge 10 = .ok (.getfield 126, 3) := by decide +kernel
theorem dX10_wouldJudge_13 : decode cX10_wouldJudge 13 = .ok (.aload_n 0, 1) := by decide +kernel
theorem dX10_wouldJudge_14 : decode cX10_wouldJudge 14 = .ok (.getfield 10, 3) := by decide +kernel
theorem dX10_wouldJudge_17 : decode cX10_wouldJudge 17 = .ok (.getfield 41, 3) := by decide +kernel
theorem dX10_wouldJudge_20 : decode cX10_wouldJudge 20 = .ok (.aload_n 2, 1) := by decide +kernel
theorem dX10_wouldJudge_21 : decode cX10_wouldJudge 21 = .ok (.invokevirtual 304, 3) := by decide +kernel
theorem dX10_wouldJudge_24 : decode cX10_wouldJudge 24 = .ok (.ifCond .eq 14, 3) := by decide +kernel
theorem dX10_wouldJudge_27 : decode cX10_wouldJudge 27 = .ok (.new 259, 3) := by decide +kernel
theorem dX10_wouldJudge_30 : decode cX10_wouldJudge 30 = .ok (.dup, 1) := by decide +kernel
theorem dX10_wouldJudge_31 : decode cX10_wouldJudge 31 = .ok (.ldc_w 308, 3) := by decide +kernel
theorem dX10_wouldJudge_34 : decode cX10_wouldJudge 34 = .ok (.invokespecial 263, 3) := by decide +kernel
theorem dX10_wouldJudge_37 : decode cX10_wouldJudge 37 = .ok (.athrow, 1) := by decide +kernel
theorem dX10_wouldJudge_38 : decode cX10_wouldJudge 38 = .ok (.aload_n 0, 1) := by decide +kernel
theorem dX10_wouldJudge_39 : decode cX10_wouldJudge 39 = .ok (.getfield 10, 3) := by decide +kernel
theorem dX10_wouldJudge_42 : decode cX10_wouldJudge 42 = .ok (.getfield 126, 3) := by decide +kernel
theorem dX10_wouldJudge_45 : decode cX10_wouldJudge 45 = .ok (.aload_n 0, 1) := by decide +kernel
theorem dX10_wouldJudge_46 : decode cX10_wouldJudge 46 = .ok (.getfield 10, 3) := by decide +kernel
theorem dX10_wouldJudge_49 : decode cX10_wouldJudge 49 = .ok (.getfield 126, 3) := by decide +kernel
theorem dX10_wouldJudge_52 : decode cX10_wouldJudge 52 = .ok (.aload_n 0, 1) := by decide +kernel
theorem dX10_wouldJudge_53 : decode cX10_wouldJudge 53 = .ok (.getfield 10, 3) := by decide +kernel
theorem dX10_wouldJudge_56 : decode cX10_wouldJudge 56 = .ok (.getfield 41, 3) := by decide +kernel
theorem dX10_wouldJudge_59 : decode cX10_wouldJudge 59 = .ok (.aload_n 2, 1) := by decide +kernel
theorem dX10_wouldJudge_60 : decode cX10_wouldJudge 60 = .ok (.invokevirtual 310, 3) := by decide +kernel
theorem dX10_wouldJudge_63 : decode cX10_wouldJudge 63 = .ok (.aload_n 2, 1) := by decide +kernel
theorem dX10_wouldJudge_64 : decode cX10_wouldJudge 64 = .ok (.invokevirtual 313, 3) := by decide +kernel
theorem dX10_wouldJudge_67 : decode cX10_wouldJudge 67 = .ok (.ireturn, 1) := by decide +kernel
set_option maxHeartbeats 8000000 in
set_option maxRecDepth 100000 in
theorem mX10_wouldJudge (l : Launch) (hst : l.stackTraces = false) (G : gG) (da : Nat → Nat) (v : vSt) (x : gX) (r : Nat) (hk_r : kd r = 10) (p1 : Int32) (ho : oX10_wouldJudge r p1 v) : TI l yX10_wouldJudge cX10_wouldJudge 3 (some .int) rmX10_wouldJudge [.ref (ga G r), .int p1] G da v x 12 12 (fX10_wouldJudge r p1 v).1 (fX10_wouldJudge r p1 v).2 v x := by
  refine gofTI hst (by decide) rfl (Nat.le_of_ble_eq_true rfl) ⟨Nat.le_of_ble_eq_true rfl, Nat.le_of_ble_eq_true rfl, Nat.le_refl _, Nat.le_refl _⟩ (fun p e s m args below meth c ls Q X hH hl E EX ES EW => ?_)
  have hx := X.1
  have hb := X.2.1
  have hown := X.2.2.2.1
  have hts := X.2.2.2.2.1
  have hS : va_S (gA G) s.heap s.heap [] := va_S.rf
  unfold oX10_wouldJudge at ho
  have hl : lv_has ls 3 [(0, .ref (ga G r)), (1, .int p1)] := hl
  refine lv_aload_n hx hb dX10_wouldJudge_0 rfl (lv_at hl 0 rfl) ?_
  refine lv_iload_n hx hb dX10_wouldJudge_1 rfl (lv_at hl 1 rfl) ?_
  have hq1 := ho.1
  have ho := ho.2
  refine k_X10_needTool hst X hS hH hk_r hq1 t_ml_VernierDrawers_181 hl.1 (Nat.le_of_ble_eq_true rfl) ⟨Nat.le_of_ble_eq_true rfl, Nat.le_of_ble_eq_true rfl⟩ ⟨(Nat.le_of_ble_eq_true rfl), (Nat.le_of_ble_eq_true rfl)⟩ dX10_wouldJudge_2 (fun c2 da ce9 q9 H locs hH hS g1 g2 g3 => ?_) (fun c2 da H locs hH hS => ?_)
  · skip
    exact EX _ _ _ _ _ _ _ _ _ _ _ _ c2 (pr1 ((fX10_wouldJudge.eq_1 _ _ _).trans ((if_neg c2).trans rfl))) rfl hH hS g1 g2 g3 (Nat.le_of_ble_eq_true rfl) (Nat.le_of_ble_eq_true rfl)
  · have ho := ho c2
    have hq3 := ho.1
    have ho := ho.2
    refine lv_astore_n (lv' := [(2, .ref (ga G ((fX10_needTool r p1 v).2))), (0, .ref (ga G r)), (1, .int p1)]) hx hb dX10_wouldJudge_5 rfl hl (by decide) rfl (fun ls hl => ?_)
    refine lv_aload_n hx hb dX10_wouldJudge_6 rfl (lv_at hl 1 rfl) ?_
    refine g_VernierDrawers_10 X hH hk_r dX10_wouldJudge_7 ?_
    have hq4 := ho
    refine g_VernierDrawers_126 X hH hq4 dX10_wouldJudge_10 ?_
    refine lv_aload_n hx hb dX10_wouldJudge_13 rfl (lv_at hl 1 rfl) ?_
    refine g_VernierDrawers_10 X hH hk_r dX10_wouldJudge_14 ?_
    refine g_VernierDrawers_41 X hH hq4 dX10_wouldJudge_17 ?_
    refine lv_aload_n hx hb dX10_wouldJudge_20 rfl (lv_at hl 0 rfl) ?_
    refine k_X0_reasonNotToJudge X hS hH (kc_7_0 hq4) (kc_7_2 hq4) hq3 t_ml_VernierDrawers_304 hl.1 (Nat.le_of_ble_eq_true rfl) ⟨Nat.le_of_ble_eq_true rfl, Nat.le_of_ble_eq_true rfl⟩ ⟨(Nat.le_of_ble_eq_true rfl), (Nat.le_of_ble_eq_true rfl)⟩ dX10_wouldJudge_21 ?_
    refine lv_if_eq (tgt := 38) hx hb dX10_wouldJudge_24 (by decide) (fun c5 => ?_) (fun c5 => ?_)
    · skip
      refine lv_aload_n hx hb dX10_wouldJudge_38 rfl (lv_at hl 1 rfl) ?_
      refine g_VernierDrawers_10 X hH hk_r dX10_wouldJudge_39 ?_
      refine g_VernierDrawers_126 X hH hq4 dX10_wouldJudge_42 ?_
      refine lv_aload_n hx hb dX10_wouldJudge_45 rfl (lv_at hl 1 rfl) ?_
      refine g_VernierDrawers_10 X hH hk_r dX10_wouldJudge_46 ?_
      refine g_VernierDrawers_126 X hH hq4 dX10_wouldJudge_49 ?_
      refine lv_aload_n hx hb dX10_wouldJudge_52 rfl (lv_at hl 1 rfl) ?_
      refine g_VernierDrawers_10 X hH hk_r dX10_wouldJudge_53 ?_
      refine g_VernierDrawers_41 X hH hq4 dX10_wouldJudge_56 ?_
      refine lv_aload_n hx hb dX10_wouldJudge_59 rfl (lv_at hl 0 rfl) ?_
      refine k_X0_measuredWith X hS hH (kc_7_0 hq4) (kc_7_2 hq4) hq3 t_ml_VernierDrawers_310 hl.1 (Nat.le_of_ble_eq_true rfl) ⟨Nat.le_of_ble_eq_true rfl, Nat.le_of_ble_eq_true rfl⟩ ⟨(Nat.le_of_ble_eq_true rfl), (Nat.le_of_ble_eq_true rfl)⟩ dX10_wouldJudge_60 ?_
      refine lv_aload_n hx hb dX10_wouldJudge_63 rfl (lv_at hl 0 rfl) ?_
      refine k_X0_outcomeOf X hS hH (kc_7_0 hq4) hq3 t_ml_VernierDrawers_313 hl.1 (Nat.le_of_ble_eq_true rfl) ⟨Nat.le_of_ble_eq_true rfl, Nat.le_of_ble_eq_true rfl⟩ ⟨(Nat.le_of_ble_eq_true rfl), (Nat.le_of_ble_eq_true rfl)⟩ dX10_wouldJudge_64 ?_
      exact E _ _ _ _ _ _ _ _ _ dX10_wouldJudge_67 rfl (Eq.symm (pr1 ((fX10_wouldJudge.eq_1 _ _ _).trans ((if_pos c2).trans ((if_pos c5).trans rfl))))) (pr2 ((fX10_wouldJudge.eq_1 _ _ _).trans ((if_pos c2).trans ((if_pos c5).trans rfl)))) rfl hH hS (Nat.le_of_ble_eq_true rfl) (Nat.le_of_ble_eq_true rfl)
    · skip
      exact EW _ _ _ _ _ _ _ _ _ _ _ _ _ _ (th_3 X) (by decide) (pr1 ((fX10_wouldJudge.eq_1 _ _ _).trans ((if_pos c2).trans ((if_neg c5).trans rfl)))) rfl hH hS t_sr_VernierDrawers_308 hl.1 dX10_wouldJudge_27 dX10_wouldJudge_30 dX10_wouldJudge_31 dX10_wouldJudge_34 dX10_wouldJudge_37 (Nat.le_of_ble_eq_true rfl) (Nat.le_of_ble_eq_true rfl) (Nat.le_of_ble_eq_true rfl)
theorem k_X10_wouldJudge {p : Program} {l : Launch} {e : Env} {R : Room} {s : State} {m : MethodId} {args : Array Value} {below : List Frame} {meth : Method} {c : Code} {H : Heap} {locs : List Loc} {cells slots : Nat} {Q : State → Prop} {cc : ByteArray} {pc nL : Nat} {ls : Array Slot} {rest : List Value} {G : gG} {own : String} {da : Nat → Nat} {v : vSt} {x : gX} (hst : l.stackTraces = false) (X : CX G p s m args c cc nL own) (hS : va_S (gA G) s.heap H locs) (hH : Hp G da v x H) {r : Nat} (hk_r : kd r = 10) {p1 : Int32} (ho : oX10_wouldJudge r p1 v) {idx : Nat} (hml : Cond.methodLink own idx yX10_wouldJudge ∈ TT) (hls : ls.size = nL) (hsum : (rest.map fun v => v.category).sum ≤ 8) (hR : rmX10_wouldJudge.frames + 1 ≤ R.frames ∧ 8 + (3 + 11) + rmX10_wouldJudge.locals ≤ R.locals) (hcs : cells + 12 ≤ R.cells ∧ slots + 12 ≤ R.slots) (hdg : decode cc pc = .ok (.invokevirtual idx, 3)) (kx : ¬ (fX10_wouldJudge r p1 v).1 = 0 → ∀ (d : Nat → Nat) (ce : Cell) (q9 : Addr) (H1 : Heap) (locs1 : List Loc), Hp G d v x H1 → va_S (gA G) s.heap H1 locs1 → H1[q9]? = some ce → ce.vm = .none → s.vm.findClass (exN (fX10_wouldJudge r p1 v).1) = some ce.cls → vx_W p l e R s m args below meth c H1 locs1 (cells + 12) (slots + 12) Q (F0 m pc ls rest) q9) (kk : (fX10_wouldJudge r p1 v).1 = 0 → ∀ (d : Nat → Nat) (H1 : Heap) (locs1 : List Loc), Hp G d v x H1 → va_S (gA G) s.heap H1 locs1 → W p l e R s m args below meth c H1 locs1 (cells + 12) (slots + 12) Q (F0 m (pc + 3) ls (.int (fX10_wouldJudge r p1 v).2 :: rest))) : W p l e R s m args below meth c H locs cells slots Q (F0 m pc ls (.int p1 :: .ref (ga G r) :: rest)) := c_ti (runxV (kp := 1) X.1 X.2.1 X.2.2.1 X.2.2.2.1 X.2.2.2.2.1 (mX10_wouldJudge l hst G da v x r hk_r p1 ho) pW_bl hml t_im_X10_wouldJudge t_sel_X10_wouldJudge t_ini_VernierDrawers t_code_X10_wouldJudge ⟨rfl, by decide, by decide, by decide +kernel⟩ rfl rfl hR hcs (recvW X hH (by rw [hk_r]; decide) (by rw [hk_r]; decide) (ce_10 hk_r) rfl) (preW X hS hH) rfl hls rfl hsum hdg) hS (fun h9 d9 ce9 q9 H9 L9 v9 e9 hH9 => kx h9 d9 ce9 q9 H9 L9 (by subst e9; exact hH9)) (fun h9 d9 H9 L9 v9 e9 hH9 => kk h9 d9 H9 L9 (by subst e9; exact hH9))
def fX10_mannerOf (r : Nat) (p1 : Int32) (v : vSt) : Nat × Int32 := if (fX10_needType r p1 v).1 = 0 then ((0, v ((fX10_needType r p1 v).2) 4)) else (((fX10_needType r p1 v).1, 0))
def oX10_mannerOf (r : Nat) (p1 : Int32) (v : vSt) : Prop := (oX10_needType r p1 v) ∧ (((fX10_needType r p1 v).1 = 0) → (kd (fX10_needType r p1 v).2 = 4))
abbrev rmX10_mannerOf : Room := { frames := 7, cells := 6, slots := 6, locals := 111 }
theorem dX10_mannerOf_0 : decode cX10_mannerOf 0 = .ok (.aload_n 0, 1) := by decide +kernel
theorem dX10_mannerOf_1 : decode cX10_mannerOf 1 = .ok (.iload_n 1, 1) := by decide +kernel
theorem dX10_mannerOf_2 : decode cX10_mannerOf 2 = .ok (.invokevirtual 167, 3) := by decide +kernel
theorem dX10_mannerOf_5 : decode cX10_mannerOf 5 = .ok (.getfield 325, 3) := by decide +kernel
theorem dX10_mannerOf_8 : decode cX10_mannerOf 8 = .ok (.ireturn, 1) := by decide +kernel
set_option maxHeartbeats 8000000 in
set_option maxRecDepth 100000 in
theorem mX10_mannerOf (l : Launch) (hst : l.stackTraces = false) (G : gG) (da : Nat → Nat) (v : vSt) (x : gX) (r : Nat) (hk_r : kd r = 10) (p1 : Int32) (ho : oX10_mannerOf r p1 v) : TI l yX10_mannerOf cX10_mannerOf 2 (some .int) rmX10_mannerOf [.ref (ga G r), .int p1] G da v x 6 6 (fX10_mannerOf r p1 v).1 (fX10_mannerOf r p1 v).2 v x := by
  refine gofTI hst (by decide) rfl (Nat.le_of_ble_eq_true rfl) ⟨Nat.le_of_ble_eq_true rfl, Nat.le_of_ble_eq_true rfl, Nat.le_refl _, Nat.le_refl _⟩ (fun p e s m args below meth c ls Q X hH hl E EX ES EW => ?_)
  have hx := X.1
  have hb := X.2.1
  have hown := X.2.2.2.1
  have hts := X.2.2.2.2.1
  have hS : va_S (gA G) s.heap s.heap [] := va_S.rf
  unfold oX10_mannerOf at ho
  have hl : lv_has ls 2 [(0, .ref (ga G r)), (1, .int p1)] := hl
  refine lv_aload_n hx hb dX10_mannerOf_0 rfl (lv_at hl 0 rfl) ?_
  refine lv_iload_n hx hb dX10_mannerOf_1 rfl (lv_at hl 1 rfl) ?_
  have hq1 := ho.1
  have ho := ho.2
  refine k_X10_needType hst X hS hH hk_r hq1 t_ml_VernierDrawers_167 hl.1 (Nat.le_of_ble_eq_true rfl) ⟨Nat.le_of_ble_eq_true rfl, Nat.le_of_ble_eq_true rfl⟩ ⟨(Nat.le_of_ble_eq_true rfl), (Nat.le_of_ble_eq_true rfl)⟩ dX10_mannerOf_2 (fun c2 da ce9 q9 H locs hH hS g1 g2 g3 => ?_) (fun c2 da H locs hH hS => ?_)
  · skip
    exact EX _ _ _ _ _ _ _ _ _ _ _ _ c2 (pr1 ((fX10_mannerOf.eq_1 _ _ _).trans ((if_neg c2).trans rfl))) rfl hH hS g1 g2 g3 (Nat.le_of_ble_eq_true rfl) (Nat.le_of_ble_eq_true rfl)
  · have ho := ho c2
    have hq3 := ho
    refine g_VernierDrawers_325 X hH hq3 dX10_mannerOf_5 ?_
    exact E _ _ _ _ _ _ _ _ _ dX10_mannerOf_8 rfl (Eq.symm (pr1 ((fX10_mannerOf.eq_1 _ _ _).trans ((if_pos c2).trans rfl)))) (pr2 ((fX10_mannerOf.eq_1 _ _ _).trans ((if_pos c2).trans rfl))) rfl hH hS (Nat.le_of_ble_eq_true rfl) (Nat.le_of_ble_eq_true rfl)
theorem k_X10_mannerOf {p : Program} {l : Launch} {e : Env} {R : Room} {s : State} {m : MethodId} {args : Array Value} {below : List Frame} {meth : Method} {c : Code} {H : Heap} {locs : List Loc} {cells slots : Nat} {Q : State → Prop} {cc : ByteArray} {pc nL : Nat} {ls : Array Slot} {rest : List Value} {G : gG} {own : String} {da : Nat → Nat} {v : vSt} {x : gX} (hst : l.stackTraces = false) (X : CX G p s m args c cc nL own) (hS : va_S (gA G) s.heap H locs) (hH : Hp G da v x H) {r : Nat} (hk_r : kd r = 10) {p1 : Int32} (ho : oX10_mannerOf r p1 v) {idx : Nat} (hml : Cond.methodLink own idx yX10_mannerOf ∈ TT) (hls : ls.size = nL) (hsum : (rest.map fun v => v.category).sum ≤ 8) (hR : rmX10_mannerOf.frames + 1 ≤ R.frames ∧ 8 + (2 + 11) + rmX10_mannerOf.locals ≤ R.locals) (hcs : cells + 6 ≤ R.cells ∧ slots + 6 ≤ R.slots) (hdg : decode cc pc = .ok (.invokevirtual idx, 3)) (kx : ¬ (fX10_mannerOf r p1 v).1 = 0 → ∀ (d : Nat → Nat) (ce : Cell) (q9 : Addr) (H1 : Heap) (locs1 : List Loc), Hp G d v x H1 → va_S (gA G) s.heap H1 locs1 → H1[q9]? = some ce → ce.vm = .none → s.vm.findClass (exN (fX10_mannerOf r p1 v).1) = some ce.cls → vx_W p l e R s m args below meth c H1 locs1 (cells + 6) (slots + 6) Q (F0 m pc ls rest) q9) (kk : (fX10_mannerOf r p1 v).1 = 0 → ∀ (d : Nat → Nat) (H1 : Heap) (locs1 : List Loc), Hp G d v x H1 → va_S (gA G) s.heap H1 locs1 → W p l e R s m args below meth c H1 locs1 (cells + 6) (slots + 6) Q (F0 m (pc + 3) ls (.int (fX10_mannerOf r p1 v).2 :: rest))) : W p l e R s m args below meth c H locs cells slots Q (F0 m pc ls (.int p1 :: .ref (ga G r) :: rest)) := c_ti (runxV (kp := 1) X.1 X.2.1 X.2.2.1 X.2.2.2.1 X.2.2.2.2.1 (mX10_mannerOf l hst G da v x r hk_r p1 ho) pW_bl hml t_im_X10_mannerOf t_sel_X10_mannerOf t_ini_VernierDrawers t_code_X10_mannerOf ⟨rfl, by decide, by decide, by decide +kernel⟩ rfl rfl hR hcs (recvW X hH (by rw [hk_r]; decide) (by rw [hk_r]; decide) (ce_10 hk_r) rfl) (preW X hS hH) rfl hls rfl hsum hdg) hS (fun h9 d9 ce9 q9 H9 L9 v9 e9 hH9 => kx h9 d9 ce9 q9 H9 L9 (by subst e9; exact hH9)) (fun h9 d9 H9 L9 v9 e9 hH9 => kk h9 d9 H9 L9 (by subst e9; exact hH9))
def fX10_recordOf (r : Nat) (p1 : Int32) (v : vSt) : Nat × Int32 := if (fX10_needType r p1 v).1 = 0 then ((0, v ((fX10_needType r p1 v).2) 7)) else (((fX10_needType r p1 v).1, 0))
def oX10_recordOf (r : Nat) (p1 : Int32) (v : vSt) : Prop := (oX10_needType r p1 v) ∧ (((fX10_needType r p1 v).1 = 0) → (kd (fX10_needType r p1 v).2 = 4))
abbrev rmX10_recordOf : Room := { frames := 7, cells := 6, slots := 6, locals := 111 }
theorem dX10_recordOf_0 : decode cX10_recordOf 0 = .ok (.aload_n 0, 1) := by decide +kernel
theorem dX10_recordOf_1 : decode cX10_recordOf 1 = .ok (.iload_n 1, 1) := by decide +kernel
theorem dX10_recordOf_2 : decode cX10_recordOf 2 = .ok (.invokevirtual 167, 3) := by decide +kernel
theorem dX10_recordOf_5 : decode cX10_recordOf 5 = .ok (.getfield 328, 3) := by decide +kernel
theorem dX10_recordOf_8 : decode cX10_recordOf 8 = .ok (.ireturn, 1) := by decide +kernel
set_option maxHeartbeats 8000000 in
set_option maxRecDepth 100000 in
theorem mX10_recordOf (l : Launch) (hst : l.stackTraces = false) (G : gG) (da : Nat → Nat) (v : vSt) (x : gX) (r : Nat) (hk_r : kd r = 10) (p1 : Int32) (ho : oX10_recordOf r p1 v) : TI l yX10_recordOf cX10_recordOf 2 (some .int) rmX10_recordOf [.ref (ga G r), .int p1] G da v x 6 6 (fX10_recordOf r p1 v).1 (fX10_recordOf r p1 v).2 v x := by
  refine gofTI hst (by decide) rfl (Nat.le_of_ble_eq_true rfl) ⟨Nat.le_of_ble_eq_true rfl, Nat.le_of_ble_eq_true rfl, Nat.le_refl _, Nat.le_refl _⟩ (fun p e s m args below meth c ls Q X hH hl E EX ES EW => ?_)
  have hx := X.1
  have hb := X.2.1
  have hown := X.2.2.2.1
  have hts := X.2.2.2.2.1
  have hS : va_S (gA G) s.heap s.heap [] := va_S.rf
  unfold oX10_recordOf at ho
  have hl : lv_has ls 2 [(0, .ref (ga G r)), (1, .int p1)] := hl
  refine lv_aload_n hx hb dX10_recordOf_0 rfl (lv_at hl 0 rfl) ?_
  refine lv_iload_n hx hb dX10_recordOf_1 rfl (lv_at hl 1 rfl) ?_
  have hq1 := ho.1
  have ho := ho.2
  refine k_X10_needType hst X hS hH hk_r hq1 t_ml_VernierDrawers_167 hl.1 (Nat.le_of_ble_eq_true rfl) ⟨Nat.le_of_ble_eq_true rfl, Nat.le_of_ble_eq_true rfl⟩ ⟨(Nat.le_of_ble_eq_true rfl), (Nat.le_of_ble_eq_true rfl)⟩ dX10_recordOf_2 (fun c2 da ce9 q9 H locs hH hS g1 g2 g3 => ?_) (fun c2 da H locs hH hS => ?_)
  · skip
    exact EX _ _ _ _ _ _ _ _ _ _ _ _ c2 (pr1 ((fX10_recordOf.eq_1 _ _ _).trans ((if_neg c2).trans rfl))) rfl hH hS g1 g2 g3 (Nat.le_of_ble_eq_true rfl) (Nat.le_of_ble_eq_true rfl)
  · have ho := ho c2
    have hq3 := ho
    refine g_VernierDrawers_328 X hH hq3 dX10_recordOf_5 ?_
    exact E _ _ _ _ _ _ _ _ _ dX10_recordOf_8 rfl (Eq.symm (pr1 ((fX10_recordOf.eq_1 _ _ _).trans ((if_pos c2).trans rfl)))) (pr2 ((fX10_recordOf.eq_1 _ _ _).trans ((if_pos c2).trans rfl))) rfl hH hS (Nat.le_of_ble_eq_true rfl) (Nat.le_of_ble_eq_true rfl)
theorem k_X10_recordOf {p : Program} {l : Launch} {e : Env} {R : Room} {s : State} {m : MethodId} {args : Array Value} {below : List Frame} {meth : Method} {c : Code} {H : Heap} {locs : List Loc} {cells slots : Nat} {Q : State → Prop} {cc : ByteArray} {pc nL : Nat} {ls : Array Slot} {rest : List Value} {G : gG} {own : String} {da : Nat → Nat} {v : vSt} {x : gX} (hst : l.stackTraces = false) (X : CX G p s m args c cc nL own) (hS : va_S (gA G) s.heap H locs) (hH : Hp G da v x H) {r : Nat} (hk_r : kd r = 10) {p1 : Int32} (ho : oX10_recordOf r p1 v) {idx : Nat} (hml : Cond.methodLink own idx yX10_recordOf ∈ TT) (hls : ls.size = nL) (hsum : (rest.map fun v => v.category).sum ≤ 8) (hR : rmX10_recordOf.frames + 1 ≤ R.frames ∧ 8 + (2 + 11) + rmX10_recordOf.locals ≤ R.locals) (hcs : cells + 6 ≤ R.cells ∧ slots + 6 ≤ R.slots) (hdg : decode cc pc = .ok (.invokevirtual idx, 3)) (kx : ¬ (fX10_recordOf r p1 v).1 = 0 → ∀ (d : Nat → Nat) (ce : Cell) (q9 : Addr) (H1 : Heap) (locs1 : List Loc), Hp G d v x H1 → va_S (gA G) s.heap H1 locs1 → H1[q9]? = some ce → ce.vm = .none → s.vm.findClass (exN (fX10_recordOf r p1 v).1) = some ce.cls → vx_W p l e R s m args below meth c H1 locs1 (cells + 6) (slots + 6) Q (F0 m pc ls rest) q9) (kk : (fX10_recordOf r p1 v).1 = 0 → ∀ (d : Nat → Nat) (H1 : Heap) (locs1 : List Loc), Hp G d v x H1 → va_S (gA G) s.heap H1 locs1 → W p l e R s m args below meth c H1 locs1 (cells + 6) (slots + 6) Q (F0 m (pc + 3) ls (.int (fX10_recordOf r p1 v).2 :: rest))) : W p l e R s m args below meth c H locs cells slots Q (F0 m pc ls (.int p1 :: .ref (ga G r) :: rest)) := c_ti (runxV (kp := 1) X.1 X.2.1 X.2.2.1 X.2.2.2.1 X.2.2.2.2.1 (mX10_recordOf l hst G da v x r hk_r p1 ho) pW_bl hml t_im_X10_recordOf t_sel_X10_recordOf t_ini_VernierDrawers t_code_X10_recordOf ⟨rfl, by decide, by decide, by decide +kernel⟩ rfl rfl hR hcs (recvW X hH (by rw [hk_r]; decide) (by rw [hk_r]; decide) (ce_10 hk_r) rfl) (preW X hS hH) rfl hls rfl hsum hdg) hS (fun h9 d9 ce9 q9 H9 L9 v9 e9 hH9 => kx h9 d9 ce9 q9 H9 L9 (by subst e9; exact hH9)) (fun h9 d9 H9 L9 v9 e9 hH9 => kk h9 d9 H9 L9 (by subst e9; exact hH9))
def fX10_badOf (r : Nat) (p1 : Int32) (v : vSt) : Nat × Int32 := if (fX10_needType r p1 v).1 = 0 then ((0, fX4_badOfLatest ((fX10_needType r p1 v).2) 10 v)) else (((fX10_needType r p1 v).1, 0))
def oX10_badOf (r : Nat) (p1 : Int32) (v : vSt) : Prop := (oX10_needType r p1 v) ∧ (((fX10_needType r p1 v).1 = 0) → (kd (fX10_needType r p1 v).2 = 4))
abbrev rmX10_badOf : Room := { frames := 7, cells := 6, slots := 6, locals := 111 }
theorem dX10_badOf_0 : decode cX10_badOf 0 = .ok (.aload_n 0, 1) := by decide +kernel
theorem dX10_badOf_1 : decode cX10_badOf 1 = .ok (.iload_n 1, 1) := by decide +kernel
theorem dX10_badOf_2 : decode cX10_badOf 2 = .ok (.invokevirtual 167, 3) := by decide +kernel
theorem dX10_badOf_5 : decode cX10_badOf 5 = .ok (.bipush 10, 2) := by decide +kernel
theorem dX10_badOf_7 : decode cX10_badOf 7 = .ok (.invokevirtual 331, 3) := by decide +kernel
theorem dX10_badOf_10 : decode cX10_badOf 10 = .ok (.ireturn, 1) := by decide +kernel
set_option maxHeartbeats 8000000 in
set_option maxRecDepth 100000 in
theorem mX10_badOf (l : Launch) (hst : l.stackTraces = false) (G : gG) (da : Nat → Nat) (v : vSt) (x : gX) (r : Nat) (hk_r : kd r = 10) (p1 : Int32) (ho : oX10_badOf r p1 v) : TI l yX10_badOf cX10_badOf 2 (some .int) rmX10_badOf [.ref (ga G r), .int p1] G da v x 6 6 (fX10_badOf r p1 v).1 (fX10_badOf r p1 v).2 v x := by
  refine gofTI hst (by decide) rfl (Nat.le_of_ble_eq_true rfl) ⟨Nat.le_of_ble_eq_true rfl, Nat.le_of_ble_eq_true rfl, Nat.le_refl _, Nat.le_refl _⟩ (fun p e s m args below meth c ls Q X hH hl E EX ES EW => ?_)
  have hx := X.1
  have hb := X.2.1
  have hown := X.2.2.2.1
  have hts := X.2.2.2.2.1
  have hS : va_S (gA G) s.heap s.heap [] := va_S.rf
  unfold oX10_badOf at ho
  have hl : lv_has ls 2 [(0, .ref (ga G r)), (1, .int p1)] := hl
  refine lv_aload_n hx hb dX10_badOf_0 rfl (lv_at hl 0 rfl) ?_
  refine lv_iload_n hx hb dX10_badOf_1 rfl (lv_at hl 1 rfl) ?_
  have hq1 := ho.1
  have ho := ho.2
  refine k_X10_needType hst X hS hH hk_r hq1 t_ml_VernierDrawers_167 hl.1 (Nat.le_of_ble_eq_true rfl) ⟨Nat.le_of_ble_eq_true rfl, Nat.le_of_ble_eq_true rfl⟩ ⟨(Nat.le_of_ble_eq_true rfl), (Nat.le_of_ble_eq_true rfl)⟩ dX10_badOf_2 (fun c2 da ce9 q9 H locs hH hS g1 g2 g3 => ?_) (fun c2 da H locs hH hS => ?_)
  · skip
    exact EX _ _ _ _ _ _ _ _ _ _ _ _ c2 (pr1 ((fX10_badOf.eq_1 _ _ _).trans ((if_neg c2).trans rfl))) rfl hH hS g1 g2 g3 (Nat.le_of_ble_eq_true rfl) (Nat.le_of_ble_eq_true rfl)
  · have ho := ho c2
    have hq3 := ho
    refine lv_bipush (v := 10) hx hb dX10_badOf_5 (by decide) ?_
    refine k_X4_badOfLatest X hS hH hq3 t_ml_VernierDrawers_331 hl.1 (Nat.le_of_ble_eq_true rfl) ⟨Nat.le_of_ble_eq_true rfl, Nat.le_of_ble_eq_true rfl⟩ ⟨(Nat.le_of_ble_eq_true rfl), (Nat.le_of_ble_eq_true rfl)⟩ dX10_badOf_7 ?_
    exact E _ _ _ _ _ _ _ _ _ dX10_badOf_10 rfl (Eq.symm (pr1 ((fX10_badOf.eq_1 _ _ _).trans ((if_pos c2).trans rfl)))) (pr2 ((fX10_badOf.eq_1 _ _ _).trans ((if_pos c2).trans rfl))) rfl hH hS (Nat.le_of_ble_eq_true rfl) (Nat.le_of_ble_eq_true rfl)
theorem k_X10_badOf {p : Program} {l : Launch} {e : Env} {R : Room} {s : State} {m : MethodId} {args : Array Value} {below : List Frame} {meth : Method} {c : Code} {H : Heap} {locs : List Loc} {cells slots : Nat} {Q : State → Prop} {cc : ByteArray} {pc nL : Nat} {ls : Array Slot} {rest : List Value} {G : gG} {own : String} {da : Nat → Nat} {v : vSt} {x : gX} (hst : l.stackTraces = false) (X : CX G p s m args c cc nL own) (hS : va_S (gA G) s.heap H locs) (hH : Hp G da v x H) {r : Nat} (hk_r : kd r = 10) {p1 : Int32} (ho : oX10_badOf r p1 v) {idx : Nat} (hml : Cond.methodLink own idx yX10_badOf ∈ TT) (hls : ls.size = nL) (hsum : (rest.map fun v => v.category).sum ≤ 8) (hR : rmX10_badOf.frames + 1 ≤ R.frames ∧ 8 + (2 + 11) + rmX10_badOf.locals ≤ R.locals) (hcs : cells + 6 ≤ R.cells ∧ slots + 6 ≤ R.slots) (hdg : decode cc pc = .ok (.invokevirtual idx, 3)) (kx : ¬ (fX10_badOf r p1 v).1 = 0 → ∀ (d : Nat → Nat) (ce : Cell) (q9 : Addr) (H1 : Heap) (locs1 : List Loc), Hp G d v x H1 → va_S (gA G) s.heap H1 locs1 → H1[q9]? = some ce → ce.vm = .none → s.vm.findClass (exN (fX10_badOf r p1 v).1) = some ce.cls → vx_W p l e R s m args below meth c H1 locs1 (cells + 6) (slots + 6) Q (F0 m pc ls rest) q9) (kk : (fX10_badOf r p1 v).1 = 0 → ∀ (d : Nat → Nat) (H1 : Heap) (locs1 : List Loc), Hp G d v x H1 → va_S (gA G) s.heap H1 locs1 → W p l e R s m args below meth c H1 locs1 (cells + 6) (slots + 6) Q (F0 m (pc + 3) ls (.int (fX10_badOf r p1 v).2 :: rest))) : W p l e R s m args below meth c H locs cells slots Q (F0 m pc ls (.int p1 :: .ref (ga G r) :: rest)) := c_ti (runxV (kp := 1) X.1 X.2.1 X.2.2.1 X.2.2.2.1 X.2.2.2.2.1 (mX10_badOf l hst G da v x r hk_r p1 ho) pW_bl hml t_im_X10_badOf t_sel_X10_badOf t_ini_VernierDrawers t_code_X10_badOf ⟨rfl, by decide, by decide, by decide +kernel⟩ rfl rfl hR hcs (recvW X hH (by rw [hk_r]; decide) (by rw [hk_r]; decide) (ce_10 hk_r) rfl) (preW X hS hH) rfl hls rfl hsum hdg) hS (fun h9 d9 ce9 q9 H9 L9 v9 e9 hH9 => kx h9 d9 ce9 q9 H9 L9 (by subst e9; exact hH9)) (fun h9 d9 H9 L9 v9 e9 hH9 => kk h9 d9 H9 L9 (by subst e9; exact hH9))
def fX10_goodUntilChange (r : Nat) (p1 : Int32) (v : vSt) : Nat × Int32 := if (fX10_needType r p1 v).1 = 0 then (if ((v ((fX10_needType r p1 v).2) 4) : Int32) = 2 then ((3, 0)) else (let y5 : Int32 := (if ((v ((fX10_needType r p1 v).2) 4) : Int32) = 0 then 10 else 5 : Int32); (0, y5 - (fX4_goodAtEnd ((fX10_needType r p1 v).2) v)))) else (((fX10_needType r p1 v).1, 0))
def oX10_goodUntilChange (r : Nat) (p1 : Int32) (v : vSt) : Prop := (oX10_needType r p1 v) ∧ (((fX10_needType r p1 v).1 = 0) → (kd (fX10_needType r p1 v).2 = 4))
abbrev rmX10_goodUntilChange : Room := { frames := 7, cells := 12, slots := 12, locals := 111 }
theorem dX10_goodUntilChange_0 : decode cX10_goodUntilChange 0 = .ok (.aload_n 0, 1) := by decide +kernel
theorem dX10_goodUntilChange_1 : decode cX10_goodUntilChange 1 = .ok (.iload_n 1, 1) := by decide +kernel
theorem dX10_goodUntilChange_2 : decode cX10_goodUntilChange 2 = .ok (.invokevirtual 167, 3) := by decide +kernel
theorem dX10_goodUntilChange_5 : decode cX10_goodUntilChange 5 = .ok (.astore_n 2, 1) := by decide +kernel
theorem dX10_goodUntilChange_6 : decode cX10_goodUntilChange 6 = .ok (.aload_n 2, 1) := by decide +kernel
theorem dX10_goodUntilChange_7 : decode cX10_goodUntilChange 7 = .ok (.getfield 325, 3) := by decide +kernel
theorem dX10_goodUntilChange_10 : decode cX10_goodUntilChange 10 = .ok (.iconst 2, 1) := by decide +kernel
theorem dX10_goodUntilChange_11 : decode cX10_goodUntilChange 11 = .ok (.if_icmp .ne 14, 3) := by decide +kernel
theorem dX10_goodUntilChange_14 : decode cX10_goodUntilChange 14 = .ok (.new 259, 3) := by decide +kernel
theorem dX10_goodUntilChange_17 : decode cX10_goodUntilChange 17 = .ok (.dup, 1) := by decide +kernel
theorem dX10_goodUntilChange_18 : decode cX10_goodUntilChange 18 = .ok (.ldc_w 334, 3) := by decide +kernel
theorem dX10_goodUntilChange_21 : decode cX10_goodUntilChange 21 = .ok (.invokespecial 263, 3) := by decide +kernel
theorem dX10_goodUntilChange_24 : decode cX10_goodUntilChange 24 = .ok (.athrow, 1) := by decide +kernel
theorem dX10_goodUntilChange_25 : decode cX10_goodUntilChange 25 = .ok (.aload_n 2, 1) := by decide +kernel
theorem dX10_goodUntilChange_26 : decode cX10_goodUntilChange 26 = .ok (.getfield 325, 3) := by decide +kernel
theorem dX10_goodUntilChange_29 : decode cX10_goodUntilChange 29 = .ok (.ifCond .ne 8, 3) := by decide +kernel
theorem dX10_goodUntilChange_32 : decode cX10_goodUntilChange 32 = .ok (.bipush 10, 2) := by decide +kernel
theorem dX10_goodUntilChange_34 : decode cX10_goodUntilChange 34 = .ok (.goto 4, 3) := by decide +kernel
theorem dX10_goodUntilChange_37 : decode cX10_goodUntilChange 37 = .ok (.iconst 5, 1) := by decide +kernel
theorem dX10_goodUntilChange_38 : decode cX10_goodUntilChange 38 = .ok (.istore_n 3, 1) := by decide +kernel
theorem dX10_goodUntilChange_39 : decode cX10_goodUntilChange 39 = .ok (.iload_n 3, 1) := by decide +kernel
theorem dX10_goodUntilChange_40 : decode cX10_goodUntilChange 40 = .ok (.aload_n 2, 1) := by decide +kernel
theorem dX10_goodUntilChange_41 : decode cX10_goodUntilChange 41 = .ok (.invokevirtual 336, 3) := by decide +kernel
theorem dX10_goodUntilChange_44 : decode cX10_goodUntilChange 44 = .ok (.isub, 1) := by decide +kernel
theorem dX10_goodUntilChange_45 : decode cX10_goodUntilChange 45 = .ok (.ireturn, 1) := by decide +kernel
set_option maxHeartbeats 8000000 in
set_option maxRecDepth 100000 in
theorem mX10_goodUntilChange (l : Launch) (hst : l.stackTraces = false) (G : gG) (da : Nat → Nat) (v : vSt) (x : gX) (r : Nat) (hk_r : kd r = 10) (p1 : Int32) (ho : oX10_goodUntilChange r p1 v) : TI l yX10_goodUntilChange cX10_goodUntilChange 4 (some .int) rmX10_goodUntilChange [.ref (ga G r), .int p1] G da v x 12 12 (fX10_goodUntilChange r p1 v).1 (fX10_goodUntilChange r p1 v).2 v x := by
  refine gofTI hst (by decide) rfl (Nat.le_of_ble_eq_true rfl) ⟨Nat.le_of_ble_eq_true rfl, Nat.le_of_ble_eq_true rfl, Nat.le_refl _, Nat.le_refl _⟩ (fun p e s m args below meth c ls Q X hH hl E EX ES EW => ?_)
  have hx := X.1
  have hb := X.2.1
  have hown := X.2.2.2.1
  have hts := X.2.2.2.2.1
  have hS : va_S (gA G) s.heap s.heap [] := va_S.rf
  unfold oX10_goodUntilChange at ho
  have hl : lv_has ls 4 [(0, .ref (ga G r)), (1, .int p1)] := hl
  refine lv_aload_n hx hb dX10_goodUntilChange_0 rfl (lv_at hl 0 rfl) ?_
  refine lv_iload_n hx hb dX10_goodUntilChange_1 rfl (lv_at hl 1 rfl) ?_
  have hq1 := ho.1
  have ho := ho.2
  refine k_X10_needType hst X hS hH hk_r hq1 t_ml_VernierDrawers_167 hl.1 (Nat.le_of_ble_eq_true rfl) ⟨Nat.le_of_ble_eq_true rfl, Nat.le_of_ble_eq_true rfl⟩ ⟨(Nat.le_of_ble_eq_true rfl), (Nat.le_of_ble_eq_true rfl)⟩ dX10_goodUntilChange_2 (fun c2 da ce9 q9 H locs hH hS g1 g2 g3 => ?_) (fun c2 da H locs hH hS => ?_)
  · skip
    exact EX _ _ _ _ _ _ _ _ _ _ _ _ c2 (pr1 ((fX10_goodUntilChange.eq_1 _ _ _).trans ((if_neg c2).trans rfl))) rfl hH hS g1 g2 g3 (Nat.le_of_ble_eq_true rfl) (Nat.le_of_ble_eq_true rfl)
  · have ho := ho c2
    have hq3 := ho
    refine lv_astore_n (lv' := [(2, .ref (ga G ((fX10_needType r p1 v).2))), (0, .ref (ga G r)), (1, .int p1)]) hx hb dX10_goodUntilChange_5 rfl hl (by decide) rfl (fun ls hl => ?_)
    refine lv_aload_n hx hb dX10_goodUntilChange_6 rfl (lv_at hl 0 rfl) ?_
    refine g_VernierDrawers_325 X hH hq3 dX10_goodUntilChange_7 ?_
    refine lv_iconst (v := 2) hx hb dX10_goodUntilChange_10 (by decide) ?_
    refine lv_icmp_ne (tgt := 25) hx hb dX10_goodUntilChange_11 (by decide) (fun c4 => ?_) (fun c4 => ?_)
    · skip
      refine lv_aload_n hx hb dX10_goodUntilChange_25 rfl (lv_at hl 0 rfl) ?_
      refine g_VernierDrawers_325 X hH hq3 dX10_goodUntilChange_26 ?_
      have K6 : ∀ (y5 : Int32) (ls : Array Slot), y5 = (if ((v ((fX10_needType r p1 v).2) 4) : Int32) = 0 then 10 else 5 : Int32) → lv_has ls 4 [(2, .ref (ga G ((fX10_needType r p1 v).2)))] → W p l e rmX10_goodUntilChange s m args below meth c H locs (0 + 6) (0 + 6) Q (F0 m 38 ls [.int y5]) := by
        intro y5 ls ey5 hl
        refine lv_istore_n (lv' := [(3, .int y5), (2, .ref (ga G ((fX10_needType r p1 v).2)))]) hx hb dX10_goodUntilChange_38 rfl hl (by decide) rfl (fun ls hl => ?_)
        refine lv_iload_n hx hb dX10_goodUntilChange_39 rfl (lv_at hl 0 rfl) ?_
        refine lv_aload_n hx hb dX10_goodUntilChange_40 rfl (lv_at hl 1 rfl) ?_
        refine k_X4_goodAtEnd X hS hH hq3 t_ml_VernierDrawers_336 hl.1 (Nat.le_of_ble_eq_true rfl) ⟨Nat.le_of_ble_eq_true rfl, Nat.le_of_ble_eq_true rfl⟩ ⟨(Nat.le_of_ble_eq_true rfl), (Nat.le_of_ble_eq_true rfl)⟩ dX10_goodUntilChange_41 ?_
        refine lv_isub hx hb dX10_goodUntilChange_44 ?_
        replace ey5 := Eq.symm ey5
        subst ey5
        exact E _ _ _ _ _ _ _ _ _ dX10_goodUntilChange_45 rfl (Eq.symm (pr1 ((fX10_goodUntilChange.eq_1 _ _ _).trans ((if_pos c2).trans ((if_neg c4).trans rfl))))) (pr2 ((fX10_goodUntilChange.eq_1 _ _ _).trans ((if_pos c2).trans ((if_neg c4).trans rfl)))) rfl hH hS (Nat.le_of_ble_eq_true rfl) (Nat.le_of_ble_eq_true rfl)
      refine lv_if_ne (tgt := 37) hx hb dX10_goodUntilChange_29 (by decide) (fun c6 => ?_) (fun c6 => ?_)
      · skip
        refine lv_iconst (v := 5) hx hb dX10_goodUntilChange_37 (by decide) ?_
        exact K6 _ _ (Eq.symm ((if_neg c6).trans rfl)) (lv_sub hl [0] rfl)
      · skip
        refine lv_bipush (v := 10) hx hb dX10_goodUntilChange_32 (by decide) ?_
        refine lv_goto (tgt := 38) hx hb dX10_goodUntilChange_34 (by decide) ?_
        exact K6 _ _ (Eq.symm ((if_pos c6).trans rfl)) (lv_sub hl [0] rfl)
    · skip
      exact EW _ _ _ _ _ _ _ _ _ _ _ _ _ _ (th_3 X) (by decide) (pr1 ((fX10_goodUntilChange.eq_1 _ _ _).trans ((if_pos c2).trans ((if_pos c4).trans rfl)))) rfl hH hS t_sr_VernierDrawers_334 hl.1 dX10_goodUntilChange_14 dX10_goodUntilChange_17 dX10_goodUntilChange_18 dX10_goodUntilChange_21 dX10_goodUntilChange_24 (Nat.le_of_ble_eq_true rfl) (Nat.le_of_ble_eq_true rfl) (Nat.le_of_ble_eq_true rfl)
theorem k_X10_goodUntilChange {p : Program} {l : Launch} {e : Env} {R : Room} {s : State} {m : MethodId} {args : Array Value} {below : List Frame} {meth : Method} {c : Code} {H : Heap} {locs : List Loc} {cells slots : Nat} {Q : State → Prop} {cc : ByteArray} {pc nL : Nat} {ls : Array Slot} {rest : List Value} {G : gG} {own : String} {da : Nat → Nat} {v : vSt} {x : gX} (hst : l.stackTraces = false) (X : CX G p s m args c cc nL own) (hS : va_S (gA G) s.heap H locs) (hH : Hp G da v x H) {r : Nat} (hk_r : kd r = 10) {p1 : Int32} (ho : oX10_goodUntilChange r p1 v) {idx : Nat} (hml : Cond.methodLink own idx yX10_goodUntilChange ∈ TT) (hls : ls.size = nL) (hsum : (rest.map fun v => v.category).sum ≤ 8) (hR : rmX10_goodUntilChange.frames + 1 ≤ R.frames ∧ 8 + (4 + 11) + rmX10_goodUntilChange.locals ≤ R.locals) (hcs : cells + 12 ≤ R.cells ∧ slots + 12 ≤ R.slots) (hdg : decode cc pc = .ok (.invokevirtual idx, 3)) (kx : ¬ (fX10_goodUntilChange r p1 v).1 = 0 → ∀ (d : Nat → Nat) (ce : Cell) (q9 : Addr) (H1 : Heap) (locs1 : List Loc), Hp G d v x H1 → va_S (gA G) s.heap H1 locs1 → H1[q9]? = some ce → ce.vm = .none → s.vm.findClass (exN (fX10_goodUntilChange r p1 v).1) = some ce.cls → vx_W p l e R s m args below meth c H1 locs1 (cells + 12) (slots + 12) Q (F0 m pc ls rest) q9) (kk : (fX10_goodUntilChange r p1 v).1 = 0 → ∀ (d : Nat → Nat) (H1 : Heap) (locs1 : List Loc), Hp G d v x H1 → va_S (gA G) s.heap H1 locs1 → W p l e R s m args below meth c H1 locs1 (cells + 12) (slots + 12) Q (F0 m (pc + 3) ls (.int (fX10_goodUntilChange r p1 v).2 :: rest))) : W p l e R s m args below meth c H locs cells slots Q (F0 m pc ls (.int p1 :: .ref (ga G r) :: rest)) := c_ti (runxV (kp := 1) X.1 X.2.1 X.2.2.1 X.2.2.2.1 X.2.2.2.2.1 (mX10_goodUntilChange l hst G da v x r hk_r p1 ho) pW_bl hml t_im_X10_goodUntilChange t_sel_X10_goodUntilChange t_ini_VernierDrawers t_code_X10_goodUntilChange ⟨rfl, by decide, by decide, by decide +kernel⟩ rfl rfl hR hcs (recvW X hH (by rw [hk_r]; decide) (by rw [hk_r]; decide) (ce_10 hk_r) rfl) (preW X hS hH) rfl hls rfl hsum hdg) hS (fun h9 d9 ce9 q9 H9 L9 v9 e9 hH9 => kx h9 d9 ce9 q9 H9 L9 (by subst e9; exact hH9)) (fun h9 d9 H9 L9 v9 e9 hH9 => kk h9 d9 H9 L9 (by subst e9; exact hH9))
def fX10_charted (r : Nat) (p1 : Int32) (v : vSt) : Nat × Int32 := if (fX10_needType r p1 v).1 = 0 then ((0, v ((fX10_needType r p1 v).2) 9)) else (((fX10_needType r p1 v).1, 0))
def oX10_charted (r : Nat) (p1 : Int32) (v : vSt) : Prop := (oX10_needType r p1 v) ∧ (((fX10_needType r p1 v).1 = 0) → (kd (fX10_needType r p1 v).2 = 4))
abbrev rmX10_charted : Room := { frames := 7, cells := 6, slots := 6, locals := 111 }
theorem dX10_charted_0 : decode cX10_charted 0 = .ok (.aload_n 0, 1) := by decide +kernel
theorem dX10_charted_1 : decode cX10_charted 1 = .ok (.iload_n 1, 1) := by decide +kernel
theorem dX10_charted_2 : decode cX10_charted 2 = .ok (.invokevirtual 167, 3) := by decide +kernel
theorem dX10_charted_5 : decode cX10_charted 5 = .ok (.getfield 339, 3) := by decide +kernel
theorem dX10_charted_8 : decode cX10_charted 8 = .ok (.ireturn, 1) := by decide +kernel
set_option maxHeartbeats 8000000 in
set_option maxRecDepth 100000 in
theorem mX10_charted (l : Launch) (hst : l.stackTraces = false) (G : gG) (da : Nat → Nat) (v : vSt) (x : gX) (r : Nat) (hk_r : kd r = 10) (p1 : Int32) (ho : oX10_charted r p1 v) : TI l yX10_charted cX10_charted 2 (some .int) rmX10_charted [.ref (ga G r), .int p1] G da v x 6 6 (fX10_charted r p1 v).1 (fX10_charted r p1 v).2 v x := by
  refine gofTI hst (by decide) rfl (Nat.le_of_ble_eq_true rfl) ⟨Nat.le_of_ble_eq_true rfl, Nat.le_of_ble_eq_true rfl, Nat.le_refl _, Nat.le_refl _⟩ (fun p e s m args below meth c ls Q X hH hl E EX ES EW => ?_)
  have hx := X.1
  have hb := X.2.1
  have hown := X.2.2.2.1
  have hts := X.2.2.2.2.1
  have hS : va_S (gA G) s.heap s.heap [] := va_S.rf
  unfold oX10_charted at ho
  have hl : lv_has ls 2 [(0, .ref (ga G r)), (1, .int p1)] := hl
  refine lv_aload_n hx hb dX10_charted_0 rfl (lv_at hl 0 rfl) ?_
  refine lv_iload_n hx hb dX10_charted_1 rfl (lv_at hl 1 rfl) ?_
  have hq1 := ho.1
  have ho := ho.2
  refine k_X10_needType hst X hS hH hk_r hq1 t_ml_VernierDrawers_167 hl.1 (Nat.le_of_ble_eq_true rfl) ⟨Nat.le_of_ble_eq_true rfl, Nat.le_of_ble_eq_true rfl⟩ ⟨(Nat.le_of_ble_eq_true rfl), (Nat.le_of_ble_eq_true rfl)⟩ dX10_charted_2 (fun c2 da ce9 q9 H locs hH hS g1 g2 g3 => ?_) (fun c2 da H locs hH hS => ?_)
  · skip
    exact EX _ _ _ _ _ _ _ _ _ _ _ _ c2 (pr1 ((fX10_charted.eq_1 _ _ _).trans ((if_neg c2).trans rfl))) rfl hH hS g1 g2 g3 (Nat.le_of_ble_eq_true rfl) (Nat.le_of_ble_eq_true rfl)
  · have ho := ho c2
    have hq3 := ho
    refine g_VernierDrawers_339 X hH hq3 dX10_charted_5 ?_
    exact E _ _ _ _ _ _ _ _ _ dX10_charted_8 rfl (Eq.symm (pr1 ((fX10_charted.eq_1 _ _ _).trans ((if_pos c2).trans rfl)))) (pr2 ((fX10_charted.eq_1 _ _ _).trans ((if_pos c2).trans rfl))) rfl hH hS (Nat.le_of_ble_eq_true rfl) (Nat.le_of_ble_eq_true rfl)
theorem k_X10_charted {p : Program} {l : Launch} {e : Env} {R : Room} {s : State} {m : MethodId} {args : Array Value} {below : List Frame} {meth : Method} {c : Code} {H : Heap} {locs : List Loc} {cells slots : Nat} {Q : State → Prop} {cc : ByteArray} {pc nL : Nat} {ls : Array Slot} {rest : List Value} {G : gG} {own : String} {da : Nat → Nat} {v : vSt} {x : gX} (hst : l.stackTraces = false) (X : CX G p s m args c cc nL own) (hS : va_S (gA G) s.heap H locs) (hH : Hp G da v x H) {r : Nat} (hk_r : kd r = 10) {p1 : Int32} (ho : oX10_charted r p1 v) {idx : Nat} (hml : Cond.methodLink own idx yX10_charted ∈ TT) (hls : ls.size = nL) (hsum : (rest.map fun v => v.category).sum ≤ 8) (hR : rmX10_charted.frames + 1 ≤ R.frames ∧ 8 + (2 + 11) + rmX10_charted.locals ≤ R.locals) (hcs : cells + 6 ≤ R.cells ∧ slots + 6 ≤ R.slots) (hdg : decode cc pc = .ok (.invokevirtual idx, 3)) (kx : ¬ (fX10_charted r p1 v).1 = 0 → ∀ (d : Nat → Nat) (ce : Cell) (q9 : Addr) (H1 : Heap) (locs1 : List Loc), Hp G d v x H1 → va_S (gA G) s.heap H1 locs1 → H1[q9]? = some ce → ce.vm = .none → s.vm.findClass (exN (fX10_charted r p1 v).1) = some ce.cls → vx_W p l e R s m args below meth c H1 locs1 (cells + 6) (slots + 6) Q (F0 m pc ls rest) q9) (kk : (fX10_charted r p1 v).1 = 0 → ∀ (d : Nat → Nat) (H1 : Heap) (locs1 : List Loc), Hp G d v x H1 → va_S (gA G) s.heap H1 locs1 → W p l e R s m args below meth c H1 locs1 (cells + 6) (slots + 6) Q (F0 m (pc + 3) ls (.int (fX10_charted r p1 v).2 :: rest))) : W p l e R s m args below meth c H locs cells slots Q (F0 m pc ls (.int p1 :: .ref (ga G r) :: rest)) := c_ti (runxV (kp := 1) X.1 X.2.1 X.2.2.1 X.2.2.2.1 X.2.2.2.2.1 (mX10_charted l hst G da v x r hk_r p1 ho) pW_bl hml t_im_X10_charted t_sel_X10_charted t_ini_VernierDrawers t_code_X10_charted ⟨rfl, by decide, by decide, by decide +kernel⟩ rfl rfl hR hcs (recvW X hH (by rw [hk_r]; decide) (by rw [hk_r]; decide) (ce_10 hk_r) rfl) (preW X hS hH) rfl hls rfl hsum hdg) hS (fun h9 d9 ce9 q9 H9 L9 v9 e9 hH9 => kx h9 d9 ce9 q9 H9 L9 (by subst e9; exact hH9)) (fun h9 d9 H9 L9 v9 e9 hH9 => kk h9 d9 H9 L9 (by subst e9; exact hH9))
def fX10_chartedAt (r : Nat) (p1 : Int32) (p2 : Int32) (v : vSt) : Nat × Int32 := if (fX10_needType r p1 v).1 = 0 then (if fX10_needPlace p2 (v ((fX10_needType r p1 v).2) 9) v = 0 then ((0, fX10_entry 12 (v (((fX10_needType r p1 v).2) + 10)) p2)) else ((fX10_needPlace p2 (v ((fX10_needType r p1 v).2) 9) v, 0))) else (((fX10_needType r p1 v).1, 0))
def oX10_chartedAt (r : Nat) (p1 : Int32) (p2 : Int32) (v : vSt) : Prop := (oX10_needType r p1 v) ∧ (((fX10_needType r p1 v).1 = 0) → (kd (fX10_needType r p1 v).2 = 4))
abbrev rmX10_chartedAt : Room := { frames := 7, cells := 12, slots := 12, locals := 111 }
theorem dX10_chartedAt_0 : decode cX10_chartedAt 0 = .ok (.aload_n 0, 1) := by decide +kernel
theorem dX10_chartedAt_1 : decode cX10_chartedAt 1 = .ok (.iload_n 1, 1) := by decide +kernel
theorem dX10_chartedAt_2 : decode cX10_chartedAt 2 = .ok (.invokevirtual 167, 3) := by decide +kernel
theorem dX10_chartedAt_5 : decode cX10_chartedAt 5 = .ok (.astore_n 3, 1) := by decide +kernel
theorem dX10_chartedAt_6 : decode cX10_chartedAt 6 = .ok (.iload_n 2, 1) := by decide +kernel
theorem dX10_chartedAt_7 : decode cX10_chartedAt 7 = .ok (.aload_n 3, 1) := by decide +kernel
theorem dX10_chartedAt_8 : decode cX10_chartedAt 8 = .ok (.getfield 339, 3) := by decide +kernel
theorem dX10_chartedAt_11 : decode cX10_chartedAt 11 = .ok (.invokestatic 291, 3) := by decide +kernel
theorem dX10_chartedAt_14 : decode cX10_chartedAt 14 = .ok (.aload_n 3, 1) := by decide +kernel
theorem dX10_chartedAt_15 : decode cX10_chartedAt 15 = .ok (.getfield 342, 3) := by decide +kernel
theorem dX10_chartedAt_18 : decode cX10_chartedAt 18 = .ok (.iload_n 2, 1) := by decide +kernel
theorem dX10_chartedAt_19 : decode cX10_chartedAt 19 = .ok (.invokestatic 345, 3) := by decide +kernel
theorem dX10_chartedAt_22 : decode cX10_chartedAt 22 = .ok (.ireturn, 1) := by decide +kernel
set_option maxHeartbeats 8000000 in
set_option maxRecDepth 100000 in
theorem mX10_chartedAt (l : Launch) (hst : l.stackTraces = false) (G : gG) (da : Nat → Nat) (v : vSt) (x : gX) (r : Nat) (hk_r : kd r = 10) (p1 : Int32) (p2 : Int32) (ho : oX10_chartedAt r p1 p2 v) : TI l yX10_chartedAt cX10_chartedAt 4 (some .int) rmX10_chartedAt [.ref (ga G r), .int p1, .int p2] G da v x 12 12 (fX10_chartedAt r p1 p2 v).1 (fX10_chartedAt r p1 p2 v).2 v x := by
  refine gofTI hst (by decide) rfl (Nat.le_of_ble_eq_true rfl) ⟨Nat.le_of_ble_eq_true rfl, Nat.le_of_ble_eq_true rfl, Nat.le_refl _, Nat.le_refl _⟩ (fun p e s m args below meth c ls Q X hH hl E EX ES EW => ?_)
  have hx := X.1
  have hb := X.2.1
  have hown := X.2.2.2.1
  have hts := X.2.2.2.2.1
  have hS : va_S (gA G) s.heap s.heap [] := va_S.rf
  unfold oX10_chartedAt at ho
  have hl : lv_has ls 4 [(0, .ref (ga G r)), (1, .int p1), (2, .int p2)] := hl
  refine lv_aload_n hx hb dX10_chartedAt_0 rfl (lv_at hl 0 rfl) ?_
  refine lv_iload_n hx hb dX10_chartedAt_1 rfl (lv_at hl 1 rfl) ?_
  have hq1 := ho.1
  have ho := ho.2
  refine k_X10_needType hst X hS hH hk_r hq1 t_ml_VernierDrawers_167 hl.1 (Nat.le_of_ble_eq_true rfl) ⟨Nat.le_of_ble_eq_true rfl, Nat.le_of_ble_eq_true rfl⟩ ⟨(Nat.le_of_ble_eq_true rfl), (Nat.le_of_ble_eq_true rfl)⟩ dX10_chartedAt_2 (fun c2 da ce9 q9 H locs hH hS g1 g2 g3 => ?_) (fun c2 da H locs hH hS => ?_)
  · skip
    exact EX _ _ _ _ _ _ _ _ _ _ _ _ c2 (pr1 ((fX10_chartedAt.eq_1 _ _ _ _).trans ((if_neg c2).trans rfl))) rfl hH hS g1 g2 g3 (Nat.le_of_ble_eq_true rfl) (Nat.le_of_ble_eq_true rfl)
  · have ho := ho c2
    have hq3 := ho
    refine lv_astore_n (lv' := [(3, .ref (ga G ((fX10_needType r p1 v).2))), (0, .ref (ga G r)), (1, .int p1), (2, .int p2)]) hx hb dX10_chartedAt_5 rfl hl (by decide) rfl (fun ls hl => ?_)
    refine lv_iload_n hx hb dX10_chartedAt_6 rfl (lv_at hl 3 rfl) ?_
    refine lv_aload_n hx hb dX10_chartedAt_7 rfl (lv_at hl 0 rfl) ?_
    refine g_VernierDrawers_339 X hH hq3 dX10_chartedAt_8 ?_
    refine k_X10_needPlace hst X hS hH  t_ml_VernierDrawers_291 hl.1 (Nat.le_of_ble_eq_true rfl) ⟨Nat.le_of_ble_eq_true rfl, Nat.le_of_ble_eq_true rfl⟩ ⟨(Nat.le_of_ble_eq_true rfl), (Nat.le_of_ble_eq_true rfl)⟩ dX10_chartedAt_11 (fun c4 da ce9 q9 H locs hH hS g1 g2 g3 => ?_) (fun c4 da H locs hH hS => ?_)
    · skip
      exact EX _ _ _ _ _ _ _ _ _ _ _ _ c4 (pr1 ((fX10_chartedAt.eq_1 _ _ _ _).trans ((if_pos c2).trans ((if_neg c4).trans rfl)))) rfl hH hS g1 g2 g3 (Nat.le_of_ble_eq_true rfl) (Nat.le_of_ble_eq_true rfl)
    · skip
      refine lv_aload_n hx hb dX10_chartedAt_14 rfl (lv_at hl 0 rfl) ?_
      refine g_VernierDrawers_342 X hH hq3 dX10_chartedAt_15 ?_
      refine lv_iload_n hx hb dX10_chartedAt_18 rfl (lv_at hl 3 rfl) ?_
      refine k_X10_entry X hS (ia_25 X hH (kc_4_25 hq3)) t_ml_VernierDrawers_345 hl.1 (Nat.le_of_ble_eq_true rfl) ⟨Nat.le_of_ble_eq_true rfl, Nat.le_of_ble_eq_true rfl⟩ ⟨(Nat.le_of_ble_eq_true rfl), (Nat.le_of_ble_eq_true rfl)⟩ dX10_chartedAt_19 ?_
      exact E _ _ _ _ _ _ _ _ _ dX10_chartedAt_22 rfl (Eq.symm (pr1 ((fX10_chartedAt.eq_1 _ _ _ _).trans ((if_pos c2).trans ((if_pos c4).trans rfl))))) (pr2 ((fX10_chartedAt.eq_1 _ _ _ _).trans ((if_pos c2).trans ((if_pos c4).trans rfl)))) rfl hH hS (Nat.le_of_ble_eq_true rfl) (Nat.le_of_ble_eq_true rfl)
theorem k_X10_chartedAt {p : Program} {l : Launch} {e : Env} {R : Room} {s : State} {m : MethodId} {args : Array Value} {below : List Frame} {meth : Method} {c : Code} {H : Heap} {locs : List Loc} {cells slots : Nat} {Q : State → Prop} {cc : ByteArray} {pc nL : Nat} {ls : Array Slot} {rest : List Value} {G : gG} {own : String} {da : Nat → Nat} {v : vSt} {x : gX} (hst : l.stackTraces = false) (X : CX G p s m args c cc nL own) (hS : va_S (gA G) s.heap H locs) (hH : Hp G da v x H) {r : Nat} (hk_r : kd r = 10) {p1 : Int32} {p2 : Int32} (ho : oX10_chartedAt r p1 p2 v) {idx : Nat} (hml : Cond.methodLink own idx yX10_chartedAt ∈ TT) (hls : ls.size = nL) (hsum : (rest.map fun v => v.category).sum ≤ 8) (hR : rmX10_chartedAt.frames + 1 ≤ R.frames ∧ 8 + (4 + 11) + rmX10_chartedAt.locals ≤ R.locals) (hcs : cells + 12 ≤ R.cells ∧ slots + 12 ≤ R.slots) (hdg : decode cc pc = .ok (.invokevirtual idx, 3)) (kx : ¬ (fX10_chartedAt r p1 p2 v).1 = 0 → ∀ (d : Nat → Nat) (ce : Cell) (q9 : Addr) (H1 : Heap) (locs1 : List Loc), Hp G d v x H1 → va_S (gA G) s.heap H1 locs1 → H1[q9]? = some ce → ce.vm = .none → s.vm.findClass (exN (fX10_chartedAt r p1 p2 v).1) = some ce.cls → vx_W p l e R s m args below meth c H1 locs1 (cells + 12) (slots + 12) Q (F0 m pc ls rest) q9) (kk : (fX10_chartedAt r p1 p2 v).1 = 0 → ∀ (d : Nat → Nat) (H1 : Heap) (locs1 : List Loc), Hp G d v x H1 → va_S (gA G) s.heap H1 locs1 → W p l e R s m args below meth c H1 locs1 (cells + 12) (slots + 12) Q (F0 m (pc + 3) ls (.int (fX10_chartedAt r p1 p2 v).2 :: rest))) : W p l e R s m args below meth c H locs cells slots Q (F0 m pc ls (.int p2 :: .int p1 :: .ref (ga G r) :: rest)) := c_ti (runxV (kp := 2) X.1 X.2.1 X.2.2.1 X.2.2.2.1 X.2.2.2.2.1 (mX10_chartedAt l hst G da v x r hk_r p1 p2 ho) pW_bl hml t_im_X10_chartedAt t_sel_X10_chartedAt t_ini_VernierDrawers t_code_X10_chartedAt ⟨rfl, by decide, by decide, by decide +kernel⟩ rfl rfl hR hcs (recvW X hH (by rw [hk_r]; decide) (by rw [hk_r]; decide) (ce_10 hk_r) rfl) (preW X hS hH) rfl hls rfl hsum hdg) hS (fun h9 d9 ce9 q9 H9 L9 v9 e9 hH9 => kx h9 d9 ce9 q9 H9 L9 (by subst e9; exact hH9)) (fun h9 d9 H9 L9 v9 e9 hH9 => kk h9 d9 H9 L9 (by subst e9; exact hH9))
def fX10_signalsOf (r : Nat) (p1 : Int32) (v : vSt) : Nat × Int32 := if (fX10_needType r p1 v).1 = 0 then ((0, fX4_signals ((fX10_needType r p1 v).2) v)) else (((fX10_needType r p1 v).1, 0))
def oX10_signalsOf (r : Nat) (p1 : Int32) (v : vSt) : Prop := (oX10_needType r p1 v) ∧ (((fX10_needType r p1 v).1 = 0) → (kd (fX10_needType r p1 v).2 = 4))
abbrev rmX10_signalsOf : Room := { frames := 7, cells := 6, slots := 6, locals := 111 }
theorem dX10_signalsOf_0 : decode cX10_signalsOf 0 = .ok (.aload_n 0, 1) := by decide +kernel
theorem dX10_signalsOf_1 : decode cX10_signalsOf 1 = .ok (.iload_n 1, 1) := by decide +kernel
theorem dX10_signalsOf_2 : decode cX10_signalsOf 2 = .ok (.invokevirtual 167, 3) := by decide +kernel
theorem dX10_signalsOf_5 : decode cX10_signalsOf 5 = .ok (.invokevirtual 349, 3) := by decide +kernel
theorem dX10_signalsOf_8 : decode cX10_signalsOf 8 = .ok (.ireturn, 1) := by decide +kernel
set_option maxHeartbeats 8000000 in
set_option maxRecDepth 100000 in
theorem mX10_signalsOf (l : Launch) (hst : l.stackTraces = false) (G : gG) (da : Nat → Nat) (v : vSt) (x : gX) (r : Nat) (hk_r : kd r = 10) (p1 : Int32) (ho : oX10_signalsOf r p1 v) : TI l yX10_signalsOf cX10_signalsOf 2 (some .int) rmX10_signalsOf [.ref (ga G r), .int p1] G da v x 6 6 (fX10_signalsOf r p1 v).1 (fX10_signalsOf r p1 v).2 v x := by
  refine gofTI hst (by decide) rfl (Nat.le_of_ble_eq_true rfl) ⟨Nat.le_of_ble_eq_true rfl, Nat.le_of_ble_eq_true rfl, Nat.le_refl _, Nat.le_refl _⟩ (fun p e s m args below meth c ls Q X hH hl E EX ES EW => ?_)
  have hx := X.1
  have hb := X.2.1
  have hown := X.2.2.2.1
  have hts := X.2.2.2.2.1
  have hS : va_S (gA G) s.heap s.heap [] := va_S.rf
  unfold oX10_signalsOf at ho
  have hl : lv_has ls 2 [(0, .ref (ga G r)), (1, .int p1)] := hl
  refine lv_aload_n hx hb dX10_signalsOf_0 rfl (lv_at hl 0 rfl) ?_
  refine lv_iload_n hx hb dX10_signalsOf_1 rfl (lv_at hl 1 rfl) ?_
  have hq1 := ho.1
  have ho := ho.2
  refine k_X10_needType hst X hS hH hk_r hq1 t_ml_VernierDrawers_167 hl.1 (Nat.le_of_ble_eq_true rfl) ⟨Nat.le_of_ble_eq_true rfl, Nat.le_of_ble_eq_true rfl⟩ ⟨(Nat.le_of_ble_eq_true rfl), (Nat.le_of_ble_eq_true rfl)⟩ dX10_signalsOf_2 (fun c2 da ce9 q9 H locs hH hS g1 g2 g3 => ?_) (fun c2 da H locs hH hS => ?_)
  · skip
    exact EX _ _ _ _ _ _ _ _ _ _ _ _ c2 (pr1 ((fX10_signalsOf.eq_1 _ _ _).trans ((if_neg c2).trans rfl))) rfl hH hS g1 g2 g3 (Nat.le_of_ble_eq_true rfl) (Nat.le_of_ble_eq_true rfl)
  · have ho := ho c2
    have hq3 := ho
    refine k_X4_signals X hS hH hq3 t_ml_VernierDrawers_349 hl.1 (Nat.le_of_ble_eq_true rfl) ⟨Nat.le_of_ble_eq_true rfl, Nat.le_of_ble_eq_true rfl⟩ ⟨(Nat.le_of_ble_eq_true rfl), (Nat.le_of_ble_eq_true rfl)⟩ dX10_signalsOf_5 ?_
    exact E _ _ _ _ _ _ _ _ _ dX10_signalsOf_8 rfl (Eq.symm (pr1 ((fX10_signalsOf.eq_1 _ _ _).trans ((if_pos c2).trans rfl)))) (pr2 ((fX10_signalsOf.eq_1 _ _ _).trans ((if_pos c2).trans rfl))) rfl hH hS (Nat.le_of_ble_eq_true rfl) (Nat.le_of_ble_eq_true rfl)
theorem k_X10_signalsOf {p : Program} {l : Launch} {e : Env} {R : Room} {s : State} {m : MethodId} {args : Array Value} {below : List Frame} {meth : Method} {c : Code} {H : Heap} {locs : List Loc} {cells slots : Nat} {Q : State → Prop} {cc : ByteArray} {pc nL : Nat} {ls : Array Slot} {rest : List Value} {G : gG} {own : String} {da : Nat → Nat} {v : vSt} {x : gX} (hst : l.stackTraces = false) (X : CX G p s m args c cc nL own) (hS : va_S (gA G) s.heap H locs) (hH : Hp G da v x H) {r : Nat} (hk_r : kd r = 10) {p1 : Int32} (ho : oX10_signalsOf r p1 v) {idx : Nat} (hml : Cond.methodLink own idx yX10_signalsOf ∈ TT) (hls : ls.size = nL) (hsum : (rest.map fun v => v.category).sum ≤ 8) (hR : rmX10_signalsOf.frames + 1 ≤ R.frames ∧ 8 + (2 + 11) + rmX10_signalsOf.locals ≤ R.locals) (hcs : cells + 6 ≤ R.cells ∧ slots + 6 ≤ R.slots) (hdg : decode cc pc = .ok (.invokevirtual idx, 3)) (kx : ¬ (fX10_signalsOf r p1 v).1 = 0 → ∀ (d : Nat → Nat) (ce : Cell) (q9 : Addr) (H1 : Heap) (locs1 : List Loc), Hp G d v x H1 → va_S (gA G) s.heap H1 locs1 → H1[q9]? = some ce → ce.vm = .none → s.vm.findClass (exN (fX10_signalsOf r p1 v).1) = some ce.cls → vx_W p l e R s m args below meth c H1 locs1 (cells + 6) (slots + 6) Q (F0 m pc ls rest) q9) (kk : (fX10_signalsOf r p1 v).1 = 0 → ∀ (d : Nat → Nat) (H1 : Heap) (locs1 : List Loc), Hp G d v x H1 → va_S (gA G) s.heap H1 locs1 → W p l e R s m args below meth c H1 locs1 (cells + 6) (slots + 6) Q (F0 m (pc + 3) ls (.int (fX10_signalsOf r p1 v).2 :: rest))) : W p l e R s m args below meth c H locs cells slots Q (F0 m pc ls (.int p1 :: .ref (ga G r) :: rest)) := c_ti (runxV (kp := 1) X.1 X.2.1 X.2.2.1 X.2.2.2.1 X.2.2.2.2.1 (mX10_signalsOf l hst G da v x r hk_r p1 ho) pW_bl hml t_im_X10_signalsOf t_sel_X10_signalsOf t_ini_VernierDrawers t_code_X10_signalsOf ⟨rfl, by decide, by decide, by decide +kernel⟩ rfl rfl hR hcs (recvW X hH (by rw [hk_r]; decide) (by rw [hk_r]; decide) (ce_10 hk_r) rfl) (preW X hS hH) rfl hls rfl hsum hdg) hS (fun h9 d9 ce9 q9 H9 L9 v9 e9 hH9 => kx h9 d9 ce9 q9 H9 L9 (by subst e9; exact hH9)) (fun h9 d9 H9 L9 v9 e9 hH9 => kk h9 d9 H9 L9 (by subst e9; exact hH9))
def fX10_middleOf (r : Nat) (p1 : Int32) (v : vSt) : Nat × Int32 × vSt := if (fX10_needChart r p1 v).1 = 0 then (let v7 : vSt := (fX4_middleInOrder ((fX10_needChart r p1 v).2) v).2; (0, (fX4_middleInOrder ((fX10_needChart r p1 v).2) v).1, v7)) else (((fX10_needChart r p1 v).1, 0, v))

def kkX10_middleOf (r : Nat) (p1 : Int32) (v : vSt) : Nat := pot ((fX10_middleOf r p1 v).2.2) - pot v + 36
def oX10_middleOf (r : Nat) (p1 : Int32) (v : vSt) : Prop := (oX10_needChart r p1 v) ∧ ((0 + 12 ≤ kkX10_middleOf r p1 v) ∧ (((fX10_needChart r p1 v).1 = 0) → ((kd (fX10_needChart r p1 v).2 = 4) ∧ ((oX4_middleInOrder ((fX10_needChart r p1 v).2) v) ∧ ((0 + 12) + 12 ≤ kkX10_middleOf r p1 v)))))
abbrev rmX10_middleOf (r : Nat) (p1 : Int32) (v : vSt) : Room := { frames := 8, cells := kkX10_middleOf r p1 v, slots := kkX10_middleOf r p1 v, locals := 133 }
theorem dX10_middleOf_0 : decode cX10_middleOf 0 = .ok (.aload_n 0, 1) := by decide +kernel
theorem dX10_middleOf_1 : decode cX10_middleOf 1 = .ok (.iload_n 1, 1) := by decide +kernel
theorem dX10_middleOf_2 : decode cX10_middleOf 2 = .ok (.invokevirtual 352, 3) := by decide +kernel
theorem dX10_middleOf_5 : decode cX10_middleOf 5 = .ok (.invokevirtual 355, 3) := by decide +kernel
theorem dX10_middleOf_8 : decode cX10_middleOf 8 = .ok (.ireturn, 1) := by decide +kernel
set_option maxHeartbeats 8000000 in
set_option maxRecDepth 100000 in
theorem mX10_middleOf (l : Launch) (hst : l.stackTraces = false) (G : gG) (da : Nat → Nat) (v : vSt) (x : gX) (r : Nat) (hk_r : kd r = 10) (p1 : Int32) (ho : oX10_middleOf r p1 v) : TI l yX10_middleOf cX10_middleOf 2 (some .int) (rmX10_middleOf r p1 v) [.ref (ga G r), .int p1] G da v x (kkX10_middleOf r p1 v) (kkX10_middleOf r p1 v) (fX10_middleOf r p1 v).1 (fX10_middleOf r p1 v).2.1 (fX10_middleOf r p1 v).2.2 x := by
  refine gofTI hst (by decide) rfl (Nat.le_of_ble_eq_true rfl) ⟨Nat.le_of_ble_eq_true rfl, Nat.le_of_ble_eq_true rfl, Nat.le_refl _, Nat.le_refl _⟩ (fun p e s m args below meth c ls Q X hH hl E EX ES EW => ?_)
  have hx := X.1
  have hb := X.2.1
  have hown := X.2.2.2.1
  have hts := X.2.2.2.2.1
  have hS : va_S (gA G) s.heap s.heap [] := va_S.rf
  unfold oX10_middleOf at ho
  have hl : lv_has ls 2 [(0, .ref (ga G r)), (1, .int p1)] := hl
  refine lv_aload_n hx hb dX10_middleOf_0 rfl (lv_at hl 0 rfl) ?_
  refine lv_iload_n hx hb dX10_middleOf_1 rfl (lv_at hl 1 rfl) ?_
  have hq1 := ho.1
  have ho := ho.2
  have hq2 := ho.1
  have ho := ho.2
  refine k_X10_needChart hst X hS hH hk_r hq1 t_ml_VernierDrawers_352 hl.1 (Nat.le_of_ble_eq_true rfl) ⟨Nat.le_of_ble_eq_true rfl, Nat.le_of_ble_eq_true rfl⟩ ⟨hq2, hq2⟩ dX10_middleOf_2 (fun c3 da ce9 q9 H locs hH hS g1 g2 g3 => ?_) (fun c3 da H locs hH hS => ?_)
  · skip
    exact EX _ _ _ _ _ _ _ _ _ _ _ _ c3 (t31 ((fX10_middleOf.eq_1 _ _ _).trans ((if_neg c3).trans rfl))) (t33 ((fX10_middleOf.eq_1 _ _ _).trans ((if_neg c3).trans rfl))) hH hS g1 g2 g3 hq2 hq2
  · have ho := ho c3
    have hq4 := ho.1
    have ho := ho.2
    have hq5 := ho.1
    have ho := ho.2
    have hq6 := ho
    refine k_X4_middleInOrder X hS hH hq4 hq5 t_ml_VernierDrawers_355 hl.1 (Nat.le_of_ble_eq_true rfl) ⟨Nat.le_of_ble_eq_true rfl, Nat.le_of_ble_eq_true rfl⟩ ⟨hq6, hq6⟩ dX10_middleOf_5 (fun da H locs v7 ev7 hH hS => ?_)
    replace ev7 := Eq.symm ev7
    subst ev7
    exact E _ _ _ _ _ _ _ _ _ dX10_middleOf_8 rfl (Eq.symm (t31 ((fX10_middleOf.eq_1 _ _ _).trans ((if_pos c3).trans rfl)))) (t32 ((fX10_middleOf.eq_1 _ _ _).trans ((if_pos c3).trans rfl))) (t33 ((fX10_middleOf.eq_1 _ _ _).trans ((if_pos c3).trans rfl))) hH hS hq6 hq6
theorem k_X10_middleOf {p : Program} {l : Launch} {e : Env} {R : Room} {s : State} {m : MethodId} {args : Array Value} {below : List Frame} {meth : Method} {c : Code} {H : Heap} {locs : List Loc} {cells slots : Nat} {Q : State → Prop} {cc : ByteArray} {pc nL : Nat} {ls : Array Slot} {rest : List Value} {G : gG} {own : String} {da : Nat → Nat} {v : vSt} {x : gX} (hst : l.stackTraces = false) (X : CX G p s m args c cc nL own) (hS : va_S (gA G) s.heap H locs) (hH : Hp G da v x H) {r : Nat} (hk_r : kd r = 10) {p1 : Int32} (ho : oX10_middleOf r p1 v) {idx : Nat} (hml : Cond.methodLink own idx yX10_middleOf ∈ TT) (hls : ls.size = nL) (hsum : (rest.map fun v => v.category).sum ≤ 8) (hR : (rmX10_middleOf r p1 v).frames + 1 ≤ R.frames ∧ 8 + (2 + 11) + (rmX10_middleOf r p1 v).locals ≤ R.locals) (hcs : cells + (kkX10_middleOf r p1 v) ≤ R.cells ∧ slots + (kkX10_middleOf r p1 v) ≤ R.slots) (hdg : decode cc pc = .ok (.invokevirtual idx, 3)) (kx : ¬ (fX10_middleOf r p1 v).1 = 0 → ∀ (d : Nat → Nat) (ce : Cell) (q9 : Addr) (H1 : Heap) (locs1 : List Loc) (v1 : vSt), v1 = (fX10_middleOf r p1 v).2.2 → Hp G d v1 x H1 → va_S (gA G) s.heap H1 locs1 → H1[q9]? = some ce → ce.vm = .none → s.vm.findClass (exN (fX10_middleOf r p1 v).1) = some ce.cls → vx_W p l e R s m args below meth c H1 locs1 (cells + (kkX10_middleOf r p1 v)) (slots + (kkX10_middleOf r p1 v)) Q (F0 m pc ls rest) q9) (kk : (fX10_middleOf r p1 v).1 = 0 → ∀ (d : Nat → Nat) (H1 : Heap) (locs1 : List Loc) (v1 : vSt), v1 = (fX10_middleOf r p1 v).2.2 → Hp G d v1 x H1 → va_S (gA G) s.heap H1 locs1 → W p l e R s m args below meth c H1 locs1 (cells + (kkX10_middleOf r p1 v)) (slots + (kkX10_middleOf r p1 v)) Q (F0 m (pc + 3) ls (.int (fX10_middleOf r p1 v).2.1 :: rest))) : W p l e R s m args below meth c H locs cells slots Q (F0 m pc ls (.int p1 :: .ref (ga G r) :: rest)) := c_ti (runxV (kp := 1) X.1 X.2.1 X.2.2.1 X.2.2.2.1 X.2.2.2.2.1 (mX10_middleOf l hst G da v x r hk_r p1 ho) pW_bl hml t_im_X10_middleOf t_sel_X10_middleOf t_ini_VernierDrawers t_code_X10_middleOf ⟨rfl, by decide, by decide, by decide +kernel⟩ rfl rfl hR hcs (recvW X hH (by rw [hk_r]; decide) (by rw [hk_r]; decide) (ce_10 hk_r) rfl) (preW X hS hH) rfl hls rfl hsum hdg) hS kx kk
