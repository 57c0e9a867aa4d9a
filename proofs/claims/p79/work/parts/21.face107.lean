/-! 21.face1 -/
def fX10_lineFor (r : Nat) (p1 : Int32) (p2 : Int32) (p3 : Int32) (v : vSt) : Nat × Int32 := if (fX10_needReading r p1 p2 p3 v).1 = 0 then (if (fX10_needTool r p1 v).1 = 0 then ((0, fX8_lineAt ((fX10_needTool r p1 v).2) ((fX10_needReading r p1 p2 p3 v).2) v)) else (((fX10_needTool r p1 v).1, 0))) else (((fX10_needReading r p1 p2 p3 v).1, 0))
def oX10_lineFor (r : Nat) (p1 : Int32) (p2 : Int32) (p3 : Int32) (v : vSt) : Prop := (oX10_needReading r p1 p2 p3 v) ∧ (((fX10_needReading r p1 p2 p3 v).1 = 0) → ((oX10_needTool r p1 v) ∧ (((fX10_needTool r p1 v).1 = 0) → (kd (fX10_needTool r p1 v).2 = 8))))
abbrev rmX10_lineFor : Room := { frames := 8, cells := 12, slots := 12, locals := 135 }
theorem dX10_lineFor_0 : decode cX10_lineFor 0 = .ok (.aload_n 0, 1) := by decide +kernel
theorem dX10_lineFor_1 : decode cX10_lineFor 1 = .ok (.iload_n 1, 1) := by decide +kernel
theorem dX10_lineFor_2 : decode cX10_lineFor 2 = .ok (.iload_n 2, 1) := by decide +kernel
theorem dX10_lineFor_3 : decode cX10_lineFor 3 = .ok (.iload_n 3, 1) := by decide +kernel
theorem dX10_lineFor_4 : decode cX10_lineFor 4 = .ok (.invokevirtual 218, 3) := by decide +kernel
theorem dX10_lineFor_7 : decode cX10_lineFor 7 = .ok (.istore 4, 2) := by decide +kernel
theorem dX10_lineFor_9 : decode cX10_lineFor 9 = .ok (.aload_n 0, 1) := by decide +kernel
theorem dX10_lineFor_10 : decode cX10_lineFor 10 = .ok (.iload_n 1, 1) := by decide +kernel
theorem dX10_lineFor_11 : decode cX10_lineFor 11 = .ok (.invokevirtual 181, 3) := by decide +kernel
theorem dX10_lineFor_14 : decode cX10_lineFor 14 = .ok (.iload 4, 2) := by decide +kernel
theorem dX10_lineFor_16 : decode cX10_lineFor 16 = .ok (.invokevirtual 231, 3) := by decide +kernel
theorem dX10_lineFor_19 : decode cX10_lineFor 19 = .ok (.ireturn, 1) := by decide +kernel
set_option maxHeartbeats 8000000 in
set_option maxRecDepth 100000 in
theorem mX10_lineFor (l : Launch) (hst : l.stackTraces = false) (G : gG) (da : Nat → Nat) (v : vSt) (x : gX) (r : Nat) (hk_r : kd r = 10) (p1 : Int32) (p2 : Int32) (p3 : Int32) (ho : oX10_lineFor r p1 p2 p3 v) : TI l yX10_lineFor cX10_lineFor 5 (some .int) rmX10_lineFor [.ref (ga G r), .int p1, .int p2, .int p3] G da v x 12 12 (fX10_lineFor r p1 p2 p3 v).1 (fX10_lineFor r p1 p2 p3 v).2 v x := by
  refine gofTI hst (by decide) rfl (Nat.le_of_ble_eq_true rfl) ⟨Nat.le_of_ble_eq_true rfl, Nat.le_of_ble_eq_true rfl, Nat.le_refl _, Nat.le_refl _⟩ (fun p e s m args below meth c ls Q X hH hl E EX ES EW => ?_)
  have hx := X.1
  have hb := X.2.1
  have hown := X.2.2.2.1
  have hts := X.2.2.2.2.1
  have hS : va_S (gA G) s.heap s.heap [] := va_S.rf
  unfold oX10_lineFor at ho
  have hl : lv_has ls 5 [(0, .ref (ga G r)), (1, .int p1), (2, .int p2), (3, .int p3)] := hl
  refine lv_aload_n hx hb dX10_lineFor_0 rfl (lv_at hl 0 rfl) ?_
  refine lv_iload_n hx hb dX10_lineFor_1 rfl (lv_at hl 1 rfl) ?_
  refine lv_iload_n hx hb dX10_lineFor_2 rfl (lv_at hl 2 rfl) ?_
  refine lv_iload_n hx hb dX10_lineFor_3 rfl (lv_at hl 3 rfl) ?_
  have hq1 := ho.1
  have ho := ho.2
  refine k_X10_needReading hst X hS hH hk_r hq1 t_ml_VernierDrawers_218 hl.1 (Nat.le_of_ble_eq_true rfl) ⟨Nat.le_of_ble_eq_true rfl, Nat.le_of_ble_eq_true rfl⟩ ⟨(Nat.le_of_ble_eq_true rfl), (Nat.le_of_ble_eq_true rfl)⟩ dX10_lineFor_4 (fun c2 da ce9 q9 H locs hH hS g1 g2 g3 => ?_) (fun c2 da H locs hH hS => ?_)
  · skip
    exact EX _ _ _ _ _ _ _ _ _ _ _ _ c2 (pr1 ((fX10_lineFor.eq_1 _ _ _ _ _).trans ((if_neg c2).trans rfl))) rfl hH hS g1 g2 g3 (Nat.le_of_ble_eq_true rfl) (Nat.le_of_ble_eq_true rfl)
  · have ho := ho c2
    refine lv_istore (lv' := [(4, .int ((fX10_needReading r p1 p2 p3 v).2)), (0, .ref (ga G r)), (1, .int p1), (2, .int p2), (3, .int p3)]) hx hb dX10_lineFor_7 hl (by decide) rfl (fun ls hl => ?_)
    refine lv_aload_n hx hb dX10_lineFor_9 rfl (lv_at hl 1 rfl) ?_
    refine lv_iload_n hx hb dX10_lineFor_10 rfl (lv_at hl 2 rfl) ?_
    have hq3 := ho.1
    have ho := ho.2
    refine k_X10_needTool hst X hS hH hk_r hq3 t_ml_VernierDrawers_181 hl.1 (Nat.le_of_ble_eq_true rfl) ⟨Nat.le_of_ble_eq_true rfl, Nat.le_of_ble_eq_true rfl⟩ ⟨(Nat.le_of_ble_eq_true rfl), (Nat.le_of_ble_eq_true rfl)⟩ dX10_lineFor_11 (fun c4 da ce9 q9 H locs hH hS g1 g2 g3 => ?_) (fun c4 da H locs hH hS => ?_)
    · skip
      exact EX _ _ _ _ _ _ _ _ _ _ _ _ c4 (pr1 ((fX10_lineFor.eq_1 _ _ _ _ _).trans ((if_pos c2).trans ((if_neg c4).trans rfl)))) rfl hH hS g1 g2 g3 (Nat.le_of_ble_eq_true rfl) (Nat.le_of_ble_eq_true rfl)
    · have ho := ho c4
      have hq5 := ho
      refine lv_iload hx hb dX10_lineFor_14 (lv_at hl 0 rfl) ?_
      refine k_X8_lineAt X hS hH hq5 t_ml_VernierDrawers_231 hl.1 (Nat.le_of_ble_eq_true rfl) ⟨Nat.le_of_ble_eq_true rfl, Nat.le_of_ble_eq_true rfl⟩ ⟨(Nat.le_of_ble_eq_true rfl), (Nat.le_of_ble_eq_true rfl)⟩ dX10_lineFor_16 ?_
      exact E _ _ _ _ _ _ _ _ _ dX10_lineFor_19 rfl (Eq.symm (pr1 ((fX10_lineFor.eq_1 _ _ _ _ _).trans ((if_pos c2).trans ((if_pos c4).trans rfl))))) (pr2 ((fX10_lineFor.eq_1 _ _ _ _ _).trans ((if_pos c2).trans ((if_pos c4).trans rfl)))) rfl hH hS (Nat.le_of_ble_eq_true rfl) (Nat.le_of_ble_eq_true rfl)
theorem k_X10_lineFor {p : Program} {l : Launch} {e : Env} {R : Room} {s : State} {m : MethodId} {args : Array Value} {below : List Frame} {meth : Method} {c : Code} {H : Heap} {locs : List Loc} {cells slots : Nat} {Q : State → Prop} {cc : ByteArray} {pc nL : Nat} {ls : Array Slot} {rest : List Value} {G : gG} {own : String} {da : Nat → Nat} {v : vSt} {x : gX} (hst : l.stackTraces = false) (X : CX G p s m args c cc nL own) (hS : va_S (gA G) s.heap H locs) (hH : Hp G da v x H) {r : Nat} (hk_r : kd r = 10) {p1 : Int32} {p2 : Int32} {p3 : Int32} (ho : oX10_lineFor r p1 p2 p3 v) {idx : Nat} (hml : Cond.methodLink own idx yX10_lineFor ∈ TT) (hls : ls.size = nL) (hsum : (rest.map fun v => v.category).sum ≤ 8) (hR : rmX10_lineFor.frames + 1 ≤ R.frames ∧ 8 + (5 + 11) + rmX10_lineFor.locals ≤ R.locals) (hcs : cells + 12 ≤ R.cells ∧ slots + 12 ≤ R.slots) (hdg : decode cc pc = .ok (.invokevirtual idx, 3)) (kx : ¬ (fX10_lineFor r p1 p2 p3 v).1 = 0 → ∀ (d : Nat → Nat) (ce : Cell) (q9 : Addr) (H1 : Heap) (locs1 : List Loc), Hp G d v x H1 → va_S (gA G) s.heap H1 locs1 → H1[q9]? = some ce → ce.vm = .none → s.vm.findClass (exN (fX10_lineFor r p1 p2 p3 v).1) = some ce.cls → vx_W p l e R s m args below meth c H1 locs1 (cells + 12) (slots + 12) Q (F0 m pc ls rest) q9) (kk : (fX10_lineFor r p1 p2 p3 v).1 = 0 → ∀ (d : Nat → Nat) (H1 : Heap) (locs1 : List Loc), Hp G d v x H1 → va_S (gA G) s.heap H1 locs1 → W p l e R s m args below meth c H1 locs1 (cells + 12) (slots + 12) Q (F0 m (pc + 3) ls (.int (fX10_lineFor r p1 p2 p3 v).2 :: rest))) : W p l e R s m args below meth c H locs cells slots Q (F0 m pc ls (.int p3 :: .int p2 :: .int p1 :: .ref (ga G r) :: rest)) := c_ti (runxV (kp := 3) X.1 X.2.1 X.2.2.1 X.2.2.2.1 X.2.2.2.2.1 (mX10_lineFor l hst G da v x r hk_r p1 p2 p3 ho) pW_bl hml t_im_X10_lineFor t_sel_X10_lineFor t_ini_VernierDrawers t_code_X10_lineFor ⟨rfl, by decide, by decide, by decide +kernel⟩ rfl rfl hR hcs (recvW X hH (by rw [hk_r]; decide) (by rw [hk_r]; decide) (ce_10 hk_r) rfl) (preW X hS hH) rfl hls rfl hsum hdg) hS (fun h9 d9 ce9 q9 H9 L9 v9 e9 hH9 => kx h9 d9 ce9 q9 H9 L9 (by subst e9; exact hH9)) (fun h9 d9 H9 L9 v9 e9 hH9 => kk h9 d9 H9 L9 (by subst e9; exact hH9))
def fX10_offBy (r : Nat) (p1 : Int32) (p2 : Int32) (p3 : Int32) (v : vSt) : Nat × Int32 := if (fX10_needReading r p1 p2 p3 v).1 = 0 then (if (fX10_needTool r p1 v).1 = 0 then ((0, (if 0 ≤ (((fX10_needReading r p1 p2 p3 v).2) - (v ((fX10_needTool r p1 v).2) 3)) - p3 then (((fX10_needReading r p1 p2 p3 v).2) - (v ((fX10_needTool r p1 v).2) 3)) - p3 else 0 - ((((fX10_needReading r p1 p2 p3 v).2) - (v ((fX10_needTool r p1 v).2) 3)) - p3) : Int32))) else (((fX10_needTool r p1 v).1, 0))) else (((fX10_needReading r p1 p2 p3 v).1, 0))
def oX10_offBy (r : Nat) (p1 : Int32) (p2 : Int32) (p3 : Int32) (v : vSt) : Prop := (oX10_needReading r p1 p2 p3 v) ∧ (((fX10_needReading r p1 p2 p3 v).1 = 0) → ((oX10_needTool r p1 v) ∧ (((fX10_needTool r p1 v).1 = 0) → (kd (fX10_needTool r p1 v).2 = 8))))
abbrev rmX10_offBy : Room := { frames := 8, cells := 12, slots := 12, locals := 135 }
theorem dX10_offBy_0 : decode cX10_offBy 0 = .ok (.aload_n 0, 1) := by decide +kernel
theorem dX10_offBy_1 : decode cX10_offBy 1 = .ok (.iload_n 1, 1) := by decide +kernel
theorem dX10_offBy_2 : decode cX10_offBy 2 = .ok (.iload_n 2, 1) := by decide +kernel
theorem dX10_offBy_3 : decode cX10_offBy 3 = .ok (.iload_n 3, 1) := by decide +kernel
theorem dX10_offBy_4 : decode cX10_offBy 4 = .ok (.invokevirtual 218, 3) := by decide +kernel
theorem dX10_offBy_7 : decode cX10_offBy 7 = .ok (.istore 4, 2) := by decide +kernel
theorem dX10_offBy_9 : decode cX10_offBy 9 = .ok (.iload 4, 2) := by decide +kernel
theorem dX10_offBy_11 : decode cX10_offBy 11 = .ok (.aload_n 0, 1) := by decide +kernel
theorem dX10_offBy_12 : decode cX10_offBy 12 = .ok (.iload_n 1, 1) := by decide +kernel
theorem dX10_offBy_13 : decode cX10_offBy 13 = .ok (.invokevirtual 181, 3) := by decide +kernel
theorem dX10_offBy_16 : decode cX10_offBy 16 = .ok (.getfield 199, 3) := by decide +kernel
theorem dX10_offBy_19 : decode cX10_offBy 19 = .ok (.isub, 1) := by decide +kernel
theorem dX10_offBy_20 : decode cX10_offBy 20 = .ok (.iload_n 3, 1) := by decide +kernel
theorem dX10_offBy_21 : decode cX10_offBy 21 = .ok (.isub, 1) := by decide +kernel
theorem dX10_offBy_22 : decode cX10_offBy 22 = .ok (.invokestatic 234, 3) := by decide +kernel
theorem dX10_offBy_25 : decode cX10_offBy 25 = .ok (.ireturn, 1) := by decide +kernel
set_option maxHeartbeats 8000000 in
set_option maxRecDepth 100000 in
theorem mX10_offBy (l : Launch) (hst : l.stackTraces = false) (G : gG) (da : Nat → Nat) (v : vSt) (x : gX) (r : Nat) (hk_r : kd r = 10) (p1 : Int32) (p2 : Int32) (p3 : Int32) (ho : oX10_offBy r p1 p2 p3 v) : TI l yX10_offBy cX10_offBy 5 (some .int) rmX10_offBy [.ref (ga G r), .int p1, .int p2, .int p3] G da v x 12 12 (fX10_offBy r p1 p2 p3 v).1 (fX10_offBy r p1 p2 p3 v).2 v x := by
  refine gofTI hst (by decide) rfl (Nat.le_of_ble_eq_true rfl) ⟨Nat.le_of_ble_eq_true rfl, Nat.le_of_ble_eq_true rfl, Nat.le_refl _, Nat.le_refl _⟩ (fun p e s m args below meth c ls Q X hH hl E EX ES EW => ?_)
  have hx := X.1
  have hb := X.2.1
  have hown := X.2.2.2.1
  have hts := X.2.2.2.2.1
  have hS : va_S (gA G) s.heap s.heap [] := va_S.rf
  unfold oX10_offBy at ho
  have hl : lv_has ls 5 [(0, .ref (ga G r)), (1, .int p1), (2, .int p2), (3, .int p3)] := hl
  refine lv_aload_n hx hb dX10_offBy_0 rfl (lv_at hl 0 rfl) ?_
  refine lv_iload_n hx hb dX10_offBy_1 rfl (lv_at hl 1 rfl) ?_
  refine lv_iload_n hx hb dX10_offBy_2 rfl (lv_at hl 2 rfl) ?_
  refine lv_iload_n hx hb dX10_offBy_3 rfl (lv_at hl 3 rfl) ?_
  have hq1 := ho.1
  have ho := ho.2
  refine k_X10_needReading hst X hS hH hk_r hq1 t_ml_VernierDrawers_218 hl.1 (Nat.le_of_ble_eq_true rfl) ⟨Nat.le_of_ble_eq_true rfl, Nat.le_of_ble_eq_true rfl⟩ ⟨(Nat.le_of_ble_eq_true rfl), (Nat.le_of_ble_eq_true rfl)⟩ dX10_offBy_4 (fun c2 da ce9 q9 H locs hH hS g1 g2 g3 => ?_) (fun c2 da H locs hH hS => ?_)
  · skip
    exact EX _ _ _ _ _ _ _ _ _ _ _ _ c2 (pr1 ((fX10_offBy.eq_1 _ _ _ _ _).trans ((if_neg c2).trans rfl))) rfl hH hS g1 g2 g3 (Nat.le_of_ble_eq_true rfl) (Nat.le_of_ble_eq_true rfl)
  · have ho := ho c2
    refine lv_istore (lv' := [(4, .int ((fX10_needReading r p1 p2 p3 v).2)), (0, .ref (ga G r)), (1, .int p1), (2, .int p2), (3, .int p3)]) hx hb dX10_offBy_7 hl (by decide) rfl (fun ls hl => ?_)
    refine lv_iload hx hb dX10_offBy_9 (lv_at hl 0 rfl) ?_
    refine lv_aload_n hx hb dX10_offBy_11 rfl (lv_at hl 1 rfl) ?_
    refine lv_iload_n hx hb dX10_offBy_12 rfl (lv_at hl 2 rfl) ?_
    have hq3 := ho.1
    have ho := ho.2
    refine k_X10_needTool hst X hS hH hk_r hq3 t_ml_VernierDrawers_181 hl.1 (Nat.le_of_ble_eq_true rfl) ⟨Nat.le_of_ble_eq_true rfl, Nat.le_of_ble_eq_true rfl⟩ ⟨(Nat.le_of_ble_eq_true rfl), (Nat.le_of_ble_eq_true rfl)⟩ dX10_offBy_13 (fun c4 da ce9 q9 H locs hH hS g1 g2 g3 => ?_) (fun c4 da H locs hH hS => ?_)
    · skip
      exact EX _ _ _ _ _ _ _ _ _ _ _ _ c4 (pr1 ((fX10_offBy.eq_1 _ _ _ _ _).trans ((if_pos c2).trans ((if_neg c4).trans rfl)))) rfl hH hS g1 g2 g3 (Nat.le_of_ble_eq_true rfl) (Nat.le_of_ble_eq_true rfl)
    · have ho := ho c4
      have hq5 := ho
      refine g_VernierDrawers_199 X hH hq5 dX10_offBy_16 ?_
      refine lv_isub hx hb dX10_offBy_19 ?_
      refine lv_iload_n hx hb dX10_offBy_20 rfl (lv_at hl 4 rfl) ?_
      refine lv_isub hx hb dX10_offBy_21 ?_
      refine k_mabs X t_ml_VernierDrawers_234 hl.1 ⟨Nat.le_of_ble_eq_true rfl, Nat.le_of_ble_eq_true rfl⟩ ⟨(Nat.le_of_ble_eq_true rfl), (Nat.le_of_ble_eq_true rfl)⟩ dX10_offBy_22 ?_
      exact E _ _ _ _ _ _ _ _ _ dX10_offBy_25 rfl (Eq.symm (pr1 ((fX10_offBy.eq_1 _ _ _ _ _).trans ((if_pos c2).trans ((if_pos c4).trans rfl))))) (pr2 ((fX10_offBy.eq_1 _ _ _ _ _).trans ((if_pos c2).trans ((if_pos c4).trans rfl)))) rfl hH hS (Nat.le_of_ble_eq_true rfl) (Nat.le_of_ble_eq_true rfl)
theorem k_X10_offBy {p : Program} {l : Launch} {e : Env} {R : Room} {s : State} {m : MethodId} {args : Array Value} {below : List Frame} {meth : Method} {c : Code} {H : Heap} {locs : List Loc} {cells slots : Nat} {Q : State → Prop} {cc : ByteArray} {pc nL : Nat} {ls : Array Slot} {rest : List Value} {G : gG} {own : String} {da : Nat → Nat} {v : vSt} {x : gX} (hst : l.stackTraces = false) (X : CX G p s m args c cc nL own) (hS : va_S (gA G) s.heap H locs) (hH : Hp G da v x H) {r : Nat} (hk_r : kd r = 10) {p1 : Int32} {p2 : Int32} {p3 : Int32} (ho : oX10_offBy r p1 p2 p3 v) {idx : Nat} (hml : Cond.methodLink own idx yX10_offBy ∈ TT) (hls : ls.size = nL) (hsum : (rest.map fun v => v.category).sum ≤ 8) (hR : rmX10_offBy.frames + 1 ≤ R.frames ∧ 8 + (5 + 11) + rmX10_offBy.locals ≤ R.locals) (hcs : cells + 12 ≤ R.cells ∧ slots + 12 ≤ R.slots) (hdg : decode cc pc = .ok (.invokevirtual idx, 3)) (kx : ¬ (fX10_offBy r p1 p2 p3 v).1 = 0 → ∀ (d : Nat → Nat) (ce : Cell) (q9 : Addr) (H1 : Heap) (locs1 : List Loc), Hp G d v x H1 → va_S (gA G) s.heap H1 locs1 → H1[q9]? = some ce → ce.vm = .none → s.vm.findClass (exN (fX10_offBy r p1 p2 p3 v).1) = some ce.cls → vx_W p l e R s m args below meth c H1 locs1 (cells + 12) (slots + 12) Q (F0 m pc ls rest) q9) (kk : (fX10_offBy r p1 p2 p3 v).1 = 0 → ∀ (d : Nat → Nat) (H1 : Heap) (locs1 : List Loc), Hp G d v x H1 → va_S (gA G) s.heap H1 locs1 → W p l e R s m args below meth c H1 locs1 (cells + 12) (slots + 12) Q (F0 m (pc + 3) ls (.int (fX10_offBy r p1 p2 p3 v).2 :: rest))) : W p l e R s m args below meth c H locs cells slots Q (F0 m pc ls (.int p3 :: .int p2 :: .int p1 :: .ref (ga G r) :: rest)) := c_ti (runxV (kp := 3) X.1 X.2.1 X.2.2.1 X.2.2.2.1 X.2.2.2.2.1 (mX10_offBy l hst G da v x r hk_r p1 p2 p3 ho) pW_bl hml t_im_X10_offBy t_sel_X10_offBy t_ini_VernierDrawers t_code_X10_offBy ⟨rfl, by decide, by decide, by decide +kernel⟩ rfl rfl hR hcs (recvW X hH (by rw [hk_r]; decide) (by rw [hk_r]; decide) (ce_10 hk_r) rfl) (preW X hS hH) rfl hls rfl hsum hdg) hS (fun h9 d9 ce9 q9 H9 L9 v9 e9 hH9 => kx h9 d9 ce9 q9 H9 L9 (by subst e9; exact hH9)) (fun h9 d9 H9 L9 v9 e9 hH9 => kk h9 d9 H9 L9 (by subst e9; exact hH9))
def fX10_blockLength (r : Nat) (p1 : Int32) (v : vSt) : Nat × Int32 := if (fX10_needBlock r p1 v).1 = 0 then ((0, v ((fX10_needBlock r p1 v).2) 0)) else (((fX10_needBlock r p1 v).1, 0))
def oX10_blockLength (r : Nat) (p1 : Int32) (v : vSt) : Prop := (oX10_needBlock r p1 v) ∧ (((fX10_needBlock r p1 v).1 = 0) → (kd (fX10_needBlock r p1 v).2 = 1))
abbrev rmX10_blockLength : Room := { frames := 7, cells := 6, slots := 6, locals := 111 }
theorem dX10_blockLength_0 : decode cX10_blockLength 0 = .ok (.aload_n 0, 1) := by decide +kernel
theorem dX10_blockLength_1 : decode cX10_blockLength 1 = .ok (.iload_n 1, 1) := by decide +kernel
theorem dX10_blockLength_2 : decode cX10_blockLength 2 = .ok (.invokevirtual 237, 3) := by decide +kernel
theorem dX10_blockLength_5 : decode cX10_blockLength 5 = .ok (.getfield 241, 3) := by decide +kernel
theorem dX10_blockLength_8 : decode cX10_blockLength 8 = .ok (.ireturn, 1) := by decide +kernel
set_option maxHeartbeats 8000000 in
set_option maxRecDepth 100000 in
theorem mX10_blockLength (l : Launch) (hst : l.stackTraces = false) (G : gG) (da : Nat → Nat) (v : vSt) (x : gX) (r : Nat) (hk_r : kd r = 10) (p1 : Int32) (ho : oX10_blockLength r p1 v) : TI l yX10_blockLength cX10_blockLength 2 (some .int) rmX10_blockLength [.ref (ga G r), .int p1] G da v x 6 6 (fX10_blockLength r p1 v).1 (fX10_blockLength r p1 v).2 v x := by
  refine gofTI hst (by decide) rfl (Nat.le_of_ble_eq_true rfl) ⟨Nat.le_of_ble_eq_true rfl, Nat.le_of_ble_eq_true rfl, Nat.le_refl _, Nat.le_refl _⟩ (fun p e s m args below meth c ls Q X hH hl E EX ES EW => ?_)
  have hx := X.1
  have hb := X.2.1
  have hown := X.2.2.2.1
  have hts := X.2.2.2.2.1
  have hS : va_S (gA G) s.heap s.heap [] := va_S.rf
  unfold oX10_blockLength at ho
  have hl : lv_has ls 2 [(0, .ref (ga G r)), (1, .int p1)] := hl
  refine lv_aload_n hx hb dX10_blockLength_0 rfl (lv_at hl 0 rfl) ?_
  refine lv_iload_n hx hb dX10_blockLength_1 rfl (lv_at hl 1 rfl) ?_
  have hq1 := ho.1
  have ho := ho.2
  refine k_X10_needBlock hst X hS hH hk_r hq1 t_ml_VernierDrawers_237 hl.1 (Nat.le_of_ble_eq_true rfl) ⟨Nat.le_of_ble_eq_true rfl, Nat.le_of_ble_eq_true rfl⟩ ⟨(Nat.le_of_ble_eq_true rfl), (Nat.le_of_ble_eq_true rfl)⟩ dX10_blockLength_2 (fun c2 da ce9 q9 H locs hH hS g1 g2 g3 => ?_) (fun c2 da H locs hH hS => ?_)
  · skip
    exact EX _ _ _ _ _ _ _ _ _ _ _ _ c2 (pr1 ((fX10_blockLength.eq_1 _ _ _).trans ((if_neg c2).trans rfl))) rfl hH hS g1 g2 g3 (Nat.le_of_ble_eq_true rfl) (Nat.le_of_ble_eq_true rfl)
  · have ho := ho c2
    have hq3 := ho
    refine g_VernierDrawers_241 X hH hq3 dX10_blockLength_5 ?_
    exact E _ _ _ _ _ _ _ _ _ dX10_blockLength_8 rfl (Eq.symm (pr1 ((fX10_blockLength.eq_1 _ _ _).trans ((if_pos c2).trans rfl)))) (pr2 ((fX10_blockLength.eq_1 _ _ _).trans ((if_pos c2).trans rfl))) rfl hH hS (Nat.le_of_ble_eq_true rfl) (Nat.le_of_ble_eq_true rfl)
theorem k_X10_blockLength {p : Program} {l : Launch} {e : Env} {R : Room} {s : State} {m : MethodId} {args : Array Value} {below : List Frame} {meth : Method} {c : Code} {H : Heap} {locs : List Loc} {cells slots : Nat} {Q : State → Prop} {cc : ByteArray} {pc nL : Nat} {ls : Array Slot} {rest : List Value} {G : gG} {own : String} {da : Nat → Nat} {v : vSt} {x : gX} (hst : l.stackTraces = false) (X : CX G p s m args c cc nL own) (hS : va_S (gA G) s.heap H locs) (hH : Hp G da v x H) {r : Nat} (hk_r : kd r = 10) {p1 : Int32} (ho : oX10_blockLength r p1 v) {idx : Nat} (hml : Cond.methodLink own idx yX10_blockLength ∈ TT) (hls : ls.size = nL) (hsum : (rest.map fun v => v.category).sum ≤ 8) (hR : rmX10_blockLength.frames + 1 ≤ R.frames ∧ 8 + (2 + 11) + rmX10_blockLength.locals ≤ R.locals) (hcs : cells + 6 ≤ R.cells ∧ slots + 6 ≤ R.slots) (hdg : decode cc pc = .ok (.invokevirtual idx, 3)) (kx : ¬ (fX10_blockLength r p1 v).1 = 0 → ∀ (d : Nat → Nat) (ce : Cell) (q9 : Addr) (H1 : Heap) (locs1 : List Loc), Hp G d v x H1 → va_S (gA G) s.heap H1 locs1 → H1[q9]? = some ce → ce.vm = .none → s.vm.findClass (exN (fX10_blockLength r p1 v).1) = some ce.cls → vx_W p l e R s m args below meth c H1 locs1 (cells + 6) (slots + 6) Q (F0 m pc ls rest) q9) (kk : (fX10_blockLength r p1 v).1 = 0 → ∀ (d : Nat → Nat) (H1 : Heap) (locs1 : List Loc), Hp G d v x H1 → va_S (gA G) s.heap H1 locs1 → W p l e R s m args below meth c H1 locs1 (cells + 6) (slots + 6) Q (F0 m (pc + 3) ls (.int (fX10_blockLength r p1 v).2 :: rest))) : W p l e R s m args below meth c H locs cells slots Q (F0 m pc ls (.int p1 :: .ref (ga G r) :: rest)) := c_ti (runxV (kp := 1) X.1 X.2.1 X.2.2.1 X.2.2.2.1 X.2.2.2.2.1 (mX10_blockLength l hst G da v x r hk_r p1 ho) pW_bl hml t_im_X10_blockLength t_sel_X10_blockLength t_ini_VernierDrawers t_code_X10_blockLength ⟨rfl, by decide, by decide, by decide +kernel⟩ rfl rfl hR hcs (recvW X hH (by rw [hk_r]; decide) (by rw [hk_r]; decide) (ce_10 hk_r) rfl) (preW X hS hH) rfl hls rfl hsum hdg) hS (fun h9 d9 ce9 q9 H9 L9 v9 e9 hH9 => kx h9 d9 ce9 q9 H9 L9 (by subst e9; exact hH9)) (fun h9 d9 H9 L9 v9 e9 hH9 => kk h9 d9 H9 L9 (by subst e9; exact hH9))
def fX10_blockError (r : Nat) (p1 : Int32) (v : vSt) : Nat × Int32 := if (fX10_needBlock r p1 v).1 = 0 then ((0, v ((fX10_needBlock r p1 v).2) 1)) else (((fX10_needBlock r p1 v).1, 0))
def oX10_blockError (r : Nat) (p1 : Int32) (v : vSt) : Prop := (oX10_needBlock r p1 v) ∧ (((fX10_needBlock r p1 v).1 = 0) → (kd (fX10_needBlock r p1 v).2 = 1))
abbrev rmX10_blockError : Room := { frames := 7, cells := 6, slots := 6, locals := 111 }
theorem dX10_blockError_0 : decode cX10_blockError 0 = .ok (.aload_n 0, 1) := by decide +kernel
theorem dX10_blockError_1 : decode cX10_blockError 1 = .ok (.iload_n 1, 1) := by decide +kernel
theorem dX10_blockError_2 : decode cX10_blockError 2 = .ok (.invokevirtual 237, 3) := by decide +kernel
theorem dX10_blockError_5 : decode cX10_blockError 5 = .ok (.getfield 246, 3) := by decide +kernel
theorem dX10_blockError_8 : decode cX10_blockError 8 = .ok (.ireturn, 1) := by decide +kernel
set_option maxHeartbeats 8000000 in
set_option maxRecDepth 100000 in
theorem mX10_blockError (l : Launch) (hst : l.stackTraces = false) (G : gG) (da : Nat → Nat) (v : vSt) (x : gX) (r : Nat) (hk_r : kd r = 10) (p1 : Int32) (ho : oX10_blockError r p1 v) : TI l yX10_blockError cX10_blockError 2 (some .int) rmX10_blockError [.ref (ga G r), .int p1] G da v x 6 6 (fX10_blockError r p1 v).1 (fX10_blockError r p1 v).2 v x := by
  refine gofTI hst (by decide) rfl (Nat.le_of_ble_eq_true rfl) ⟨Nat.le_of_ble_eq_true rfl, Nat.le_of_ble_eq_true rfl, Nat.le_refl _, Nat.le_refl _⟩ (fun p e s m args below meth c ls Q X hH hl E EX ES EW => ?_)
  have hx := X.1
  have hb := X.2.1
  have hown := X.2.2.2.1
  have hts := X.2.2.2.2.1
  have hS : va_S (gA G) s.heap s.heap [] := va_S.rf
  unfold oX10_blockError at ho
  have hl : lv_has ls 2 [(0, .ref (ga G r)), (1, .int p1)] := hl
  refine lv_aload_n hx hb dX10_blockError_0 rfl (lv_at hl 0 rfl) ?_
  refine lv_iload_n hx hb dX10_blockError_1 rfl (lv_at hl 1 rfl) ?_
  have hq1 := ho.1
  have ho := ho.2
  refine k_X10_needBlock hst X hS hH hk_r hq1 t_ml_VernierDrawers_237 hl.1 (Nat.le_of_ble_eq_true rfl) ⟨Nat.le_of_ble_eq_true rfl, Nat.le_of_ble_eq_true rfl⟩ ⟨(Nat.le_of_ble_eq_true rfl), (Nat.le_of_ble_eq_true rfl)⟩ dX10_blockError_2 (fun c2 da ce9 q9 H locs hH hS g1 g2 g3 => ?_) (fun c2 da H locs hH hS => ?_)
  · skip
    exact EX _ _ _ _ _ _ _ _ _ _ _ _ c2 (pr1 ((fX10_blockError.eq_1 _ _ _).trans ((if_neg c2).trans rfl))) rfl hH hS g1 g2 g3 (Nat.le_of_ble_eq_true rfl) (Nat.le_of_ble_eq_true rfl)
  · have ho := ho c2
    have hq3 := ho
    refine g_VernierDrawers_246 X hH hq3 dX10_blockError_5 ?_
    exact E _ _ _ _ _ _ _ _ _ dX10_blockError_8 rfl (Eq.symm (pr1 ((fX10_blockError.eq_1 _ _ _).trans ((if_pos c2).trans rfl)))) (pr2 ((fX10_blockError.eq_1 _ _ _).trans ((if_pos c2).trans rfl))) rfl hH hS (Nat.le_of_ble_eq_true rfl) (Nat.le_of_ble_eq_true rfl)
theorem k_X10_blockError {p : Program} {l : Launch} {e : Env} {R : Room} {s : State} {m : MethodId} {args : Array Value} {below : List Frame} {meth : Method} {c : Code} {H : Heap} {locs : List Loc} {cells slots : Nat} {Q : State → Prop} {cc : ByteArray} {pc nL : Nat} {ls : Array Slot} {rest : List Value} {G : gG} {own : String} {da : Nat → Nat} {v : vSt} {x : gX} (hst : l.stackTraces = false) (X : CX G p s m args c cc nL own) (hS : va_S (gA G) s.heap H locs) (hH : Hp G da v x H) {r : Nat} (hk_r : kd r = 10) {p1 : Int32} (ho : oX10_blockError r p1 v) {idx : Nat} (hml : Cond.methodLink own idx yX10_blockError ∈ TT) (hls : ls.size = nL) (hsum : (rest.map fun v => v.category).sum ≤ 8) (hR : rmX10_blockError.frames + 1 ≤ R.frames ∧ 8 + (2 + 11) + rmX10_blockError.locals ≤ R.locals) (hcs : cells + 6 ≤ R.cells ∧ slots + 6 ≤ R.slots) (hdg : decode cc pc = .ok (.invokevirtual idx, 3)) (kx : ¬ (fX10_blockError r p1 v).1 = 0 → ∀ (d : Nat → Nat) (ce : Cell) (q9 : Addr) (H1 : Heap) (locs1 : List Loc), Hp G d v x H1 → va_S (gA G) s.heap H1 locs1 → H1[q9]? = some ce → ce.vm = .none → s.vm.findClass (exN (fX10_blockError r p1 v).1) = some ce.cls → vx_W p l e R s m args below meth c H1 locs1 (cells + 6) (slots + 6) Q (F0 m pc ls rest) q9) (kk : (fX10_blockError r p1 v).1 = 0 → ∀ (d : Nat → Nat) (H1 : Heap) (locs1 : List Loc), Hp G d v x H1 → va_S (gA G) s.heap H1 locs1 → W p l e R s m args below meth c H1 locs1 (cells + 6) (slots + 6) Q (F0 m (pc + 3) ls (.int (fX10_blockError r p1 v).2 :: rest))) : W p l e R s m args below meth c H locs cells slots Q (F0 m pc ls (.int p1 :: .ref (ga G r) :: rest)) := c_ti (runxV (kp := 1) X.1 X.2.1 X.2.2.1 X.2.2.2.1 X.2.2.2.2.1 (mX10_blockError l hst G da v x r hk_r p1 ho) pW_bl hml t_im_X10_blockError t_sel_X10_blockError t_ini_VernierDrawers t_code_X10_blockError ⟨rfl, by decide, by decide, by decide +kernel⟩ rfl rfl hR hcs (recvW X hH (by rw [hk_r]; decide) (by rw [hk_r]; decide) (ce_10 hk_r) rfl) (preW X hS hH) rfl hls rfl hsum hdg) hS (fun h9 d9 ce9 q9 H9 L9 v9 e9 hH9 => kx h9 d9 ce9 q9 H9 L9 (by subst e9; exact hH9)) (fun h9 d9 H9 L9 v9 e9 hH9 => kk h9 d9 H9 L9 (by subst e9; exact hH9))
def fX10_fewestByTrying (r : Nat) (p1 : Int32) (v : vSt) : Nat × Int32 := if (fX10_needStack r p1 v).1 = 0 then ((0, fJ6_bitCount_0f7a4 ((fX10_needStack r p1 v).2))) else (((fX10_needStack r p1 v).1, 0))
def oX10_fewestByTrying (r : Nat) (p1 : Int32) (v : vSt) : Prop := oX10_needStack r p1 v
abbrev rmX10_fewestByTrying : Room := { frames := 8, cells := 12, slots := 12, locals := 132 }
theorem dX10_fewestByTrying_0 : decode cX10_fewestByTrying 0 = .ok (.aload_n 0, 1) := by decide +kernel
theorem dX10_fewestByTrying_1 : decode cX10_fewestByTrying 1 = .ok (.iload_n 1, 1) := by decide +kernel
theorem dX10_fewestByTrying_2 : decode cX10_fewestByTrying 2 = .ok (.invokevirtual 264, 3) := by decide +kernel
theorem dX10_fewestByTrying_5 : decode cX10_fewestByTrying 5 = .ok (.invokestatic 267, 3) := by decide +kernel
theorem dX10_fewestByTrying_8 : decode cX10_fewestByTrying 8 = .ok (.ireturn, 1) := by decide +kernel
set_option maxHeartbeats 8000000 in
set_option maxRecDepth 100000 in
theorem mX10_fewestByTrying (l : Launch) (hst : l.stackTraces = false) (G : gG) (da : Nat → Nat) (v : vSt) (x : gX) (r : Nat) (hk_r : kd r = 10) (p1 : Int32) (ho : oX10_fewestByTrying r p1 v) : TI l yX10_fewestByTrying cX10_fewestByTrying 2 (some .int) rmX10_fewestByTrying [.ref (ga G r), .int p1] G da v x 12 12 (fX10_fewestByTrying r p1 v).1 (fX10_fewestByTrying r p1 v).2 v x := by
  refine gofTI hst (by decide) rfl (Nat.le_of_ble_eq_true rfl) ⟨Nat.le_of_ble_eq_true rfl, Nat.le_of_ble_eq_true rfl, Nat.le_refl _, Nat.le_refl _⟩ (fun p e s m args below meth c ls Q X hH hl E EX ES EW => ?_)
  have hx := X.1
  have hb := X.2.1
  have hown := X.2.2.2.1
  have hts := X.2.2.2.2.1
  have hS : va_S (gA G) s.heap s.heap [] := va_S.rf
  unfold oX10_fewestByTrying at ho
  have hl : lv_has ls 2 [(0, .ref (ga G r)), (1, .int p1)] := hl
  refine lv_aload_n hx hb dX10_fewestByTrying_0 rfl (lv_at hl 0 rfl) ?_
  refine lv_iload_n hx hb dX10_fewestByTrying_1 rfl (lv_at hl 1 rfl) ?_
  have hq1 := ho
  refine k_X10_needStack hst X hS hH hk_r hq1 t_ml_VernierDrawers_264 hl.1 (Nat.le_of_ble_eq_true rfl) ⟨Nat.le_of_ble_eq_true rfl, Nat.le_of_ble_eq_true rfl⟩ ⟨(Nat.le_of_ble_eq_true rfl), (Nat.le_of_ble_eq_true rfl)⟩ dX10_fewestByTrying_2 (fun c2 da ce9 q9 H locs hH hS g1 g2 g3 => ?_) (fun c2 da H locs hH hS => ?_)
  · skip
    exact EX _ _ _ _ _ _ _ _ _ _ _ _ c2 (pr1 ((fX10_fewestByTrying.eq_1 _ _ _).trans ((if_neg c2).trans rfl))) rfl hH hS g1 g2 g3 (Nat.le_of_ble_eq_true rfl) (Nat.le_of_ble_eq_true rfl)
  · skip
    refine k_J6_bitCount_0f7a4 X hS  t_ml_VernierDrawers_267 hl.1 (Nat.le_of_ble_eq_true rfl) ⟨Nat.le_of_ble_eq_true rfl, Nat.le_of_ble_eq_true rfl⟩ ⟨(Nat.le_of_ble_eq_true rfl), (Nat.le_of_ble_eq_true rfl)⟩ dX10_fewestByTrying_5 ?_
    exact E _ _ _ _ _ _ _ _ _ dX10_fewestByTrying_8 rfl (Eq.symm (pr1 ((fX10_fewestByTrying.eq_1 _ _ _).trans ((if_pos c2).trans rfl)))) (pr2 ((fX10_fewestByTrying.eq_1 _ _ _).trans ((if_pos c2).trans rfl))) rfl hH hS (Nat.le_of_ble_eq_true rfl) (Nat.le_of_ble_eq_true rfl)
theorem k_X10_fewestByTrying {p : Program} {l : Launch} {e : Env} {R : Room} {s : State} {m : MethodId} {args : Array Value} {below : List Frame} {meth : Method} {c : Code} {H : Heap} {locs : List Loc} {cells slots : Nat} {Q : State → Prop} {cc : ByteArray} {pc nL : Nat} {ls : Array Slot} {rest : List Value} {G : gG} {own : String} {da : Nat → Nat} {v : vSt} {x : gX} (hst : l.stackTraces = false) (X : CX G p s m args c cc nL own) (hS : va_S (gA G) s.heap H locs) (hH : Hp G da v x H) {r : Nat} (hk_r : kd r = 10) {p1 : Int32} (ho : oX10_fewestByTrying r p1 v) {idx : Nat} (hml : Cond.methodLink own idx yX10_fewestByTrying ∈ TT) (hls : ls.size = nL) (hsum : (rest.map fun v => v.category).sum ≤ 8) (hR : rmX10_fewestByTrying.frames + 1 ≤ R.frames ∧ 8 + (2 + 11) + rmX10_fewestByTrying.locals ≤ R.locals) (hcs : cells + 12 ≤ R.cells ∧ slots + 12 ≤ R.slots) (hdg : decode cc pc = .ok (.invokevirtual idx, 3)) (kx : ¬ (fX10_fewestByTrying r p1 v).1 = 0 → ∀ (d : Nat → Nat) (ce : Cell) (q9 : Addr) (H1 : Heap) (locs1 : List Loc), Hp G d v x H1 → va_S (gA G) s.heap H1 locs1 → H1[q9]? = some ce → ce.vm = .none → s.vm.findClass (exN (fX10_fewestByTrying r p1 v).1) = some ce.cls → vx_W p l e R s m args below meth c H1 locs1 (cells + 12) (slots + 12) Q (F0 m pc ls rest) q9) (kk : (fX10_fewestByTrying r p1 v).1 = 0 → ∀ (d : Nat → Nat) (H1 : Heap) (locs1 : List Loc), Hp G d v x H1 → va_S (gA G) s.heap H1 locs1 → W p l e R s m args below meth c H1 locs1 (cells + 12) (slots + 12) Q (F0 m (pc + 3) ls (.int (fX10_fewestByTrying r p1 v).2 :: rest))) : W p l e R s m args below meth c H locs cells slots Q (F0 m pc ls (.int p1 :: .ref (ga G r) :: rest)) := c_ti (runxV (kp := 1) X.1 X.2.1 X.2.2.1 X.2.2.2.1 X.2.2.2.2.1 (mX10_fewestByTrying l hst G da v x r hk_r p1 ho) pW_bl hml t_im_X10_fewestByTrying t_sel_X10_fewestByTrying t_ini_VernierDrawers t_code_X10_fewestByTrying ⟨rfl, by decide, by decide, by decide +kernel⟩ rfl rfl hR hcs (recvW X hH (by rw [hk_r]; decide) (by rw [hk_r]; decide) (ce_10 hk_r) rfl) (preW X hS hH) rfl hls rfl hsum hdg) hS (fun h9 d9 ce9 q9 H9 L9 v9 e9 hH9 => kx h9 d9 ce9 q9 H9 L9 (by subst e9; exact hH9)) (fun h9 d9 H9 L9 v9 e9 hH9 => kk h9 d9 H9 L9 (by subst e9; exact hH9))
def fX10_stackFor (r : Nat) (p1 : Int32) (v : vSt) : Nat × Int32 := if (fX10_needStack r p1 v).1 = 0 then ((0, (fX10_needStack r p1 v).2)) else (((fX10_needStack r p1 v).1, 0))
def oX10_stackFor (r : Nat) (p1 : Int32) (v : vSt) : Prop := oX10_needStack r p1 v
abbrev rmX10_stackFor : Room := { frames := 8, cells := 12, slots := 12, locals := 132 }
theorem dX10_stackFor_0 : decode cX10_stackFor 0 = .ok (.aload_n 0, 1) := by decide +kernel
theorem dX10_stackFor_1 : decode cX10_stackFor 1 = .ok (.iload_n 1, 1) := by decide +kernel
theorem dX10_stackFor_2 : decode cX10_stackFor 2 = .ok (.invokevirtual 264, 3) := by decide +kernel
theorem dX10_stackFor_5 : decode cX10_stackFor 5 = .ok (.ireturn, 1) := by decide +kernel
set_option maxHeartbeats 8000000 in
set_option maxRecDepth 100000 in
theorem mX10_stackFor (l : Launch) (hst : l.stackTraces = false) (G : gG) (da : Nat → Nat) (v : vSt) (x : gX) (r : Nat) (hk_r : kd r = 10) (p1 : Int32) (ho : oX10_stackFor r p1 v) : TI l yX10_stackFor cX10_stackFor 2 (some .int) rmX10_stackFor [.ref (ga G r), .int p1] G da v x 12 12 (fX10_stackFor r p1 v).1 (fX10_stackFor r p1 v).2 v x := by
  refine gofTI hst (by decide) rfl (Nat.le_of_ble_eq_true rfl) ⟨Nat.le_of_ble_eq_true rfl, Nat.le_of_ble_eq_true rfl, Nat.le_refl _, Nat.le_refl _⟩ (fun p e s m args below meth c ls Q X hH hl E EX ES EW => ?_)
  have hx := X.1
  have hb := X.2.1
  have hown := X.2.2.2.1
  have hts := X.2.2.2.2.1
  have hS : va_S (gA G) s.heap s.heap [] := va_S.rf
  unfold oX10_stackFor at ho
  have hl : lv_has ls 2 [(0, .ref (ga G r)), (1, .int p1)] := hl
  refine lv_aload_n hx hb dX10_stackFor_0 rfl (lv_at hl 0 rfl) ?_
  refine lv_iload_n hx hb dX10_stackFor_1 rfl (lv_at hl 1 rfl) ?_
  have hq1 := ho
  refine k_X10_needStack hst X hS hH hk_r hq1 t_ml_VernierDrawers_264 hl.1 (Nat.le_of_ble_eq_true rfl) ⟨Nat.le_of_ble_eq_true rfl, Nat.le_of_ble_eq_true rfl⟩ ⟨(Nat.le_of_ble_eq_true rfl), (Nat.le_of_ble_eq_true rfl)⟩ dX10_stackFor_2 (fun c2 da ce9 q9 H locs hH hS g1 g2 g3 => ?_) (fun c2 da H locs hH hS => ?_)
  · skip
    exact EX _ _ _ _ _ _ _ _ _ _ _ _ c2 (pr1 ((fX10_stackFor.eq_1 _ _ _).trans ((if_neg c2).trans rfl))) rfl hH hS g1 g2 g3 (Nat.le_of_ble_eq_true rfl) (Nat.le_of_ble_eq_true rfl)
  · skip
    exact E _ _ _ _ _ _ _ _ _ dX10_stackFor_5 rfl (Eq.symm (pr1 ((fX10_stackFor.eq_1 _ _ _).trans ((if_pos c2).trans rfl)))) (pr2 ((fX10_stackFor.eq_1 _ _ _).trans ((if_pos c2).trans rfl))) rfl hH hS (Nat.le_of_ble_eq_true rfl) (Nat.le_of_ble_eq_true rfl)
theorem k_X10_stackFor {p : Program} {l : Launch} {e : Env} {R : Room} {s : State} {m : MethodId} {args : Array Value} {below : List Frame} {meth : Method} {c : Code} {H : Heap} {locs : List Loc} {cells slots : Nat} {Q : State → Prop} {cc : ByteArray} {pc nL : Nat} {ls : Array Slot} {rest : List Value} {G : gG} {own : String} {da : Nat → Nat} {v : vSt} {x : gX} (hst : l.stackTraces = false) (X : CX G p s m args c cc nL own) (hS : va_S (gA G) s.heap H locs) (hH : Hp G da v x H) {r : Nat} (hk_r : kd r = 10) {p1 : Int32} (ho : oX10_stackFor r p1 v) {idx : Nat} (hml : Cond.methodLink own idx yX10_stackFor ∈ TT) (hls : ls.size = nL) (hsum : (rest.map fun v => v.category).sum ≤ 8) (hR : rmX10_stackFor.frames + 1 ≤ R.frames ∧ 8 + (2 + 11) + rmX10_stackFor.locals ≤ R.locals) (hcs : cells + 12 ≤ R.cells ∧ slots + 12 ≤ R.slots) (hdg : decode cc pc = .ok (.invokevirtual idx, 3)) (kx : ¬ (fX10_stackFor r p1 v).1 = 0 → ∀ (d : Nat → Nat) (ce : Cell) (q9 : Addr) (H1 : Heap) (locs1 : List Loc), Hp G d v x H1 → va_S (gA G) s.heap H1 locs1 → H1[q9]? = some ce → ce.vm = .none → s.vm.findClass (exN (fX10_stackFor r p1 v).1) = some ce.cls → vx_W p l e R s m args below meth c H1 locs1 (cells + 12) (slots + 12) Q (F0 m pc ls rest) q9) (kk : (fX10_stackFor r p1 v).1 = 0 → ∀ (d : Nat → Nat) (H1 : Heap) (locs1 : List Loc), Hp G d v x H1 → va_S (gA G) s.heap H1 locs1 → W p l e R s m args below meth c H1 locs1 (cells + 12) (slots + 12) Q (F0 m (pc + 3) ls (.int (fX10_stackFor r p1 v).2 :: rest))) : W p l e R s m args below meth c H locs cells slots Q (F0 m pc ls (.int p1 :: .ref (ga G r) :: rest)) := c_ti (runxV (kp := 1) X.1 X.2.1 X.2.2.1 X.2.2.2.1 X.2.2.2.2.1 (mX10_stackFor l hst G da v x r hk_r p1 ho) pW_bl hml t_im_X10_stackFor t_sel_X10_stackFor t_ini_VernierDrawers t_code_X10_stackFor ⟨rfl, by decide, by decide, by decide +kernel⟩ rfl rfl hR hcs (recvW X hH (by rw [hk_r]; decide) (by rw [hk_r]; decide) (ce_10 hk_r) rfl) (preW X hS hH) rfl hls rfl hsum hdg) hS (fun h9 d9 ce9 q9 H9 L9 v9 e9 hH9 => kx h9 d9 ce9 q9 H9 L9 (by subst e9; exact hH9)) (fun h9 d9 H9 L9 v9 e9 hH9 => kk h9 d9 H9 L9 (by subst e9; exact hH9))
def fX10_trueLength (r : Nat) (p1 : Int32) (v : vSt) : Nat × Int32 := if (fX10_needStack r p1 v).1 = 0 then ((0, fX2_trueLengthOf ((rN (v r 0)) + 1) ((fX10_needStack r p1 v).2) v)) else (((fX10_needStack r p1 v).1, 0))
def oX10_trueLength (r : Nat) (p1 : Int32) (v : vSt) : Prop := (kd (rN (v r 0)) = 7) ∧ ((oX10_needStack r p1 v) ∧ (((fX10_needStack r p1 v).1 = 0) → (0 ≤ (v ((rN (v r 0)) + 1) 2).toInt ∧ (v ((rN (v r 0)) + 1) 2).toInt ≤ 6 ∧ 0 ≤ (v ((rN (v r 0)) + 1) 3).toInt ∧ (v ((rN (v r 0)) + 1) 3).toInt ≤ 10)))
abbrev rmX10_trueLength : Room := { frames := 8, cells := 12, slots := 12, locals := 132 }
theorem dX10_trueLength_0 : decode cX10_trueLength 0 = .ok (.aload_n 0, 1) := by decide +kernel
theorem dX10_trueLength_1 : decode cX10_trueLength 1 = .ok (.getfield 10, 3) := by decide +kernel
theorem dX10_trueLength_4 : decode cX10_trueLength 4 = .ok (.getfield 41, 3) := by decide +kernel
theorem dX10_trueLength_7 : decode cX10_trueLength 7 = .ok (.aload_n 0, 1) := by decide +kernel
theorem dX10_trueLength_8 : decode cX10_trueLength 8 = .ok (.iload_n 1, 1) := by decide +kernel
theorem dX10_trueLength_9 : decode cX10_trueLength 9 = .ok (.invokevirtual 264, 3) := by decide +kernel
theorem dX10_trueLength_12 : decode cX10_trueLength 12 = .ok (.invokevirtual 272, 3) := by decide +kernel
theorem dX10_trueLength_15 : decode cX10_trueLength 15 = .ok (.ireturn, 1) := by decide +kernel
set_option maxHeartbeats 8000000 in
set_option maxRecDepth 100000 in
theorem mX10_trueLength (l : Launch) (hst : l.stackTraces = false) (G : gG) (da : Nat → Nat) (v : vSt) (x : gX) (r : Nat) (hk_r : kd r = 10) (p1 : Int32) (ho : oX10_trueLength r p1 v) : TI l yX10_trueLength cX10_trueLength 2 (some .int) rmX10_trueLength [.ref (ga G r), .int p1] G da v x 12 12 (fX10_trueLength r p1 v).1 (fX10_trueLength r p1 v).2 v x := by
  refine gofTI hst (by decide) rfl (Nat.le_of_ble_eq_true rfl) ⟨Nat.le_of_ble_eq_true rfl, Nat.le_of_ble_eq_true rfl, Nat.le_refl _, Nat.le_refl _⟩ (fun p e s m args below meth c ls Q X hH hl E EX ES EW => ?_)
  have hx := X.1
  have hb := X.2.1
  have hown := X.2.2.2.1
  have hts := X.2.2.2.2.1
  have hS : va_S (gA G) s.heap s.heap [] := va_S.rf
  unfold oX10_trueLength at ho
  have hl : lv_has ls 2 [(0, .ref (ga G r)), (1, .int p1)] := hl
  refine lv_aload_n hx hb dX10_trueLength_0 rfl (lv_at hl 0 rfl) ?_
  refine g_VernierDrawers_10 X hH hk_r dX10_trueLength_1 ?_
  have hq1 := ho.1
  have ho := ho.2
  refine g_VernierDrawers_41 X hH hq1 dX10_trueLength_4 ?_
  refine lv_aload_n hx hb dX10_trueLength_7 rfl (lv_at hl 0 rfl) ?_
  refine lv_iload_n hx hb dX10_trueLength_8 rfl (lv_at hl 1 rfl) ?_
  have hq2 := ho.1
  have ho := ho.2
  refine k_X10_needStack hst X hS hH hk_r hq2 t_ml_VernierDrawers_264 hl.1 (Nat.le_of_ble_eq_true rfl) ⟨Nat.le_of_ble_eq_true rfl, Nat.le_of_ble_eq_true rfl⟩ ⟨(Nat.le_of_ble_eq_true rfl), (Nat.le_of_ble_eq_true rfl)⟩ dX10_trueLength_9 (fun c3 da ce9 q9 H locs hH hS g1 g2 g3 => ?_) (fun c3 da H locs hH hS => ?_)
  · skip
    exact EX _ _ _ _ _ _ _ _ _ _ _ _ c3 (pr1 ((fX10_trueLength.eq_1 _ _ _).trans ((if_neg c3).trans rfl))) rfl hH hS g1 g2 g3 (Nat.le_of_ble_eq_true rfl) (Nat.le_of_ble_eq_true rfl)
  · have ho := ho c3
    have hq4 := ho
    refine k_X2_trueLengthOf X hS hH (kc_7_2 hq1) hq4 t_ml_VernierDrawers_272 hl.1 (Nat.le_of_ble_eq_true rfl) ⟨Nat.le_of_ble_eq_true rfl, Nat.le_of_ble_eq_true rfl⟩ ⟨(Nat.le_of_ble_eq_true rfl), (Nat.le_of_ble_eq_true rfl)⟩ dX10_trueLength_12 ?_
    exact E _ _ _ _ _ _ _ _ _ dX10_trueLength_15 rfl (Eq.symm (pr1 ((fX10_trueLength.eq_1 _ _ _).trans ((if_pos c3).trans rfl)))) (pr2 ((fX10_trueLength.eq_1 _ _ _).trans ((if_pos c3).trans rfl))) rfl hH hS (Nat.le_of_ble_eq_true rfl) (Nat.le_of_ble_eq_true rfl)
theorem k_X10_trueLength {p : Program} {l : Launch} {e : Env} {R : Room} {s : State} {m : MethodId} {args : Array Value} {below : List Frame} {meth : Method} {c : Code} {H : Heap} {locs : List Loc} {cells slots : Nat} {Q : State → Prop} {cc : ByteArray} {pc nL : Nat} {ls : Array Slot} {rest : List Value} {G : gG} {own : String} {da : Nat → Nat} {v : vSt} {x : gX} (hst : l.stackTraces = false) (X : CX G p s m args c cc nL own) (hS : va_S (gA G) s.heap H locs) (hH : Hp G da v x H) {r : Nat} (hk_r : kd r = 10) {p1 : Int32} (ho : oX10_trueLength r p1 v) {idx : Nat} (hml : Cond.methodLink own idx yX10_trueLength ∈ TT) (hls : ls.size = nL) (hsum : (rest.map fun v => v.category).sum ≤ 8) (hR : rmX10_trueLength.frames + 1 ≤ R.frames ∧ 8 + (2 + 11) + rmX10_trueLength.locals ≤ R.locals) (hcs : cells + 12 ≤ R.cells ∧ slots + 12 ≤ R.slots) (hdg : decode cc pc = .ok (.invokevirtual idx, 3)) (kx : ¬ (fX10_trueLength r p1 v).1 = 0 → ∀ (d : Nat → Nat) (ce : Cell) (q9 : Addr) (H1 : Heap) (locs1 : List Loc), Hp G d v x H1 → va_S (gA G) s.heap H1 locs1 → H1[q9]? = some ce → ce.vm = .none → s.vm.findClass (exN (fX10_trueLength r p1 v).1) = some ce.cls → vx_W p l e R s m args below meth c H1 locs1 (cells + 12) (slots + 12) Q (F0 m pc ls rest) q9) (kk : (fX10_trueLength r p1 v).1 = 0 → ∀ (d : Nat → Nat) (H1 : Heap) (locs1 : List Loc), Hp G d v x H1 → va_S (gA G) s.heap H1 locs1 → W p l e R s m args below meth c H1 locs1 (cells + 12) (slots + 12) Q (F0 m (pc + 3) ls (.int (fX10_trueLength r p1 v).2 :: rest))) : W p l e R s m args below meth c H locs cells slots Q (F0 m pc ls (.int p1 :: .ref (ga G r) :: rest)) := c_ti (runxV (kp := 1) X.1 X.2.1 X.2.2.1 X.2.2.2.1 X.2.2.2.2.1 (mX10_trueLength l hst G da v x r hk_r p1 ho) pW_bl hml t_im_X10_trueLength t_sel_X10_trueLength t_ini_VernierDrawers t_code_X10_trueLength ⟨rfl, by decide, by decide, by decide +kernel⟩ rfl rfl hR hcs (recvW X hH (by rw [hk_r]; decide) (by rw [hk_r]; decide) (ce_10 hk_r) rfl) (preW X hS hH) rfl hls rfl hsum hdg) hS (fun h9 d9 ce9 q9 H9 L9 v9 e9 hH9 => kx h9 d9 ce9 q9 H9 L9 (by subst e9; exact hH9)) (fun h9 d9 H9 L9 v9 e9 hH9 => kk h9 d9 H9 L9 (by subst e9; exact hH9))
def fX10_lengthOf (r : Nat) (p1 : Int32) (v : vSt) : Nat × Int32 := if (fX10_needType r p1 v).1 = 0 then ((0, v ((fX10_needType r p1 v).2) 0)) else (((fX10_needType r p1 v).1, 0))
def oX10_lengthOf (r : Nat) (p1 : Int32) (v : vSt) : Prop := (oX10_needType r p1 v) ∧ (((fX10_needType r p1 v).1 = 0) → (kd (fX10_needType r p1 v).2 = 4))
abbrev rmX10_lengthOf : Room := { frames := 7, cells := 6, slots := 6, locals := 111 }
theorem dX10_lengthOf_0 : decode cX10_lengthOf 0 = .ok (.aload_n 0, 1) := by decide +kernel
theorem dX10_lengthOf_1 : decode cX10_lengthOf 1 = .ok (.iload_n 1, 1) := by decide +kernel
theorem dX10_lengthOf_2 : decode cX10_lengthOf 2 = .ok (.invokevirtual 167, 3) := by decide +kernel
theorem dX10_lengthOf_5 : decode cX10_lengthOf 5 = .ok (.getfield 278, 3) := by decide +kernel
theorem dX10_lengthOf_8 : decode cX10_lengthOf 8 = .ok (.ireturn, 1) := by decide +kernel
set_option maxHeartbeats 8000000 in
set_option maxRecDepth 100000 in
theorem mX10_lengthOf (l : Launch) (hst : l.stackTraces = false) (G : gG) (da : Nat → Nat) (v : vSt) (x : gX) (r : Nat) (hk_r : kd r = 10) (p1 : Int32) (ho : oX10_lengthOf r p1 v) : TI l yX10_lengthOf cX10_lengthOf 2 (some .int) rmX10_lengthOf [.ref (ga G r), .int p1] G da v x 6 6 (fX10_lengthOf r p1 v).1 (fX10_lengthOf r p1 v).2 v x := by
  refine gofTI hst (by decide) rfl (Nat.le_of_ble_eq_true rfl) ⟨Nat.le_of_ble_eq_true rfl, Nat.le_of_ble_eq_true rfl, Nat.le_refl _, Nat.le_refl _⟩ (fun p e s m args below meth c ls Q X hH hl E EX ES EW => ?_)
  have hx := X.1
  have hb := X.2.1
  have hown := X.2.2.2.1
  have hts := X.2.2.2.2.1
  have hS : va_S (gA G) s.heap s.heap [] := va_S.rf
  unfold oX10_lengthOf at ho
  have hl : lv_has ls 2 [(0, .ref (ga G r)), (1, .int p1)] := hl
  refine lv_aload_n hx hb dX10_lengthOf_0 rfl (lv_at hl 0 rfl) ?_
  refine lv_iload_n hx hb dX10_lengthOf_1 rfl (lv_at hl 1 rfl) ?_
  have hq1 := ho.1
  have ho := ho.2
  refine k_X10_needType hst X hS hH hk_r hq1 t_ml_VernierDrawers_167 hl.1 (Nat.le_of_ble_eq_true rfl) ⟨Nat.le_of_ble_eq_true rfl, Nat.le_of_ble_eq_true rfl⟩ ⟨(Nat.le_of_ble_eq_true rfl), (Nat.le_of_ble_eq_true rfl)⟩ dX10_lengthOf_2 (fun c2 da ce9 q9 H locs hH hS g1 g2 g3 => ?_) (fun c2 da H locs hH hS => ?_)
  · skip
    exact EX _ _ _ _ _ _ _ _ _ _ _ _ c2 (pr1 ((fX10_lengthOf.eq_1 _ _ _).trans ((if_neg c2).trans rfl))) rfl hH hS g1 g2 g3 (Nat.le_of_ble_eq_true rfl) (Nat.le_of_ble_eq_true rfl)
  · have ho := ho c2
    have hq3 := ho
    refine g_VernierDrawers_278 X hH hq3 dX10_lengthOf_5 ?_
    exact E _ _ _ _ _ _ _ _ _ dX10_lengthOf_8 rfl (Eq.symm (pr1 ((fX10_lengthOf.eq_1 _ _ _).trans ((if_pos c2).trans rfl)))) (pr2 ((fX10_lengthOf.eq_1 _ _ _).trans ((if_pos c2).trans rfl))) rfl hH hS (Nat.le_of_ble_eq_true rfl) (Nat.le_of_ble_eq_true rfl)
theorem k_X10_lengthOf {p : Program} {l : Launch} {e : Env} {R : Room} {s : State} {m : MethodId} {args : Array Value} {below : List Frame} {meth : Method} {c : Code} {H : Heap} {locs : List Loc} {cells slots : Nat} {Q : State → Prop} {cc : ByteArray} {pc nL : Nat} {ls : Array Slot} {rest : List Value} {G : gG} {own : String} {da : Nat → Nat} {v : vSt} {x : gX} (hst : l.stackTraces = false) (X : CX G p s m args c cc nL own) (hS : va_S (gA G) s.heap H locs) (hH : Hp G da v x H) {r : Nat} (hk_r : kd r = 10) {p1 : Int32} (ho : oX10_lengthOf r p1 v) {idx : Nat} (hml : Cond.methodLink own idx yX10_lengthOf ∈ TT) (hls : ls.size = nL) (hsum : (rest.map fun v => v.category).sum ≤ 8) (hR : rmX10_lengthOf.frames + 1 ≤ R.frames ∧ 8 + (2 + 11) + rmX10_lengthOf.locals ≤ R.locals) (hcs : cells + 6 ≤ R.cells ∧ slots + 6 ≤ R.slots) (hdg : decode cc pc = .ok (.invokevirtual idx, 3)) (kx : ¬ (fX10_lengthOf r p1 v).1 = 0 → ∀ (d : Nat → Nat) (ce : Cell) (q9 : Addr) (H1 : Heap) (locs1 : List Loc), Hp G d v x H1 → va_S (gA G) s.heap H1 locs1 → H1[q9]? = some ce → ce.vm = .none → s.vm.findClass (exN (fX10_lengthOf r p1 v).1) = some ce.cls → vx_W p l e R s m args below meth c H1 locs1 (cells + 6) (slots + 6) Q (F0 m pc ls rest) q9) (kk : (fX10_lengthOf r p1 v).1 = 0 → ∀ (d : Nat → Nat) (H1 : Heap) (locs1 : List Loc), Hp G d v x H1 → va_S (gA G) s.heap H1 locs1 → W p l e R s m args below meth c H1 locs1 (cells + 6) (slots + 6) Q (F0 m (pc + 3) ls (.int (fX10_lengthOf r p1 v).2 :: rest))) : W p l e R s m args below meth c H locs cells slots Q (F0 m pc ls (.int p1 :: .ref (ga G r) :: rest)) := c_ti (runxV (kp := 1) X.1 X.2.1 X.2.2.1 X.2.2.2.1 X.2.2.2.2.1 (mX10_lengthOf l hst G da v x r hk_r p1 ho) pW_bl hml t_im_X10_lengthOf t_sel_X10_lengthOf t_ini_VernierDrawers t_code_X10_lengthOf ⟨rfl, by decide, by decide, by decide +kernel⟩ rfl rfl hR hcs (recvW X hH (by rw [hk_r]; decide) (by rw [hk_r]; decide) (ce_10 hk_r) rfl) (preW X hS hH) rfl hls rfl hsum hdg) hS (fun h9 d9 ce9 q9 H9 L9 v9 e9 hH9 => kx h9 d9 ce9 q9 H9 L9 (by subst e9; exact hH9)) (fun h9 d9 H9 L9 v9 e9 hH9 => kk h9 d9 H9 L9 (by subst e9; exact hH9))
def fX10_widthOf (r : Nat) (p1 : Int32) (v : vSt) : Nat × Int32 := if (fX10_needType r p1 v).1 = 0 then ((0, fX4_width ((fX10_needType r p1 v).2) v)) else (((fX10_needType r p1 v).1, 0))
def oX10_widthOf (r : Nat) (p1 : Int32) (v : vSt) : Prop := (oX10_needType r p1 v) ∧ (((fX10_needType r p1 v).1 = 0) → (kd (fX10_needType r p1 v).2 = 4))
abbrev rmX10_widthOf : Room := { frames := 7, cells := 6, slots := 6, locals := 111 }
theorem dX10_widthOf_0 : decode cX10_widthOf 0 = .ok (.aload_n 0, 1) := by decide +kernel
theorem dX10_widthOf_1 : decode cX10_widthOf 1 = .ok (.iload_n 1, 1) := by decide +kernel
theorem dX10_widthOf_2 : decode cX10_widthOf 2 = .ok (.invokevirtual 167, 3) := by decide +kernel
theorem dX10_widthOf_5 : decode cX10_widthOf 5 = .ok (.invokevirtual 279, 3) := by decide +kernel
theorem dX10_widthOf_8 : decode cX10_widthOf 8 = .ok (.ireturn, 1) := by decide +kernel
set_option maxHeartbeats 8000000 in
set_option maxRecDepth 100000 in
theorem mX10_widthOf (l : Launch) (hst : l.stackTraces = false) (G : gG) (da : Nat → Nat) (v : vSt) (x : gX) (r : Nat) (hk_r : kd r = 10) (p1 : Int32) (ho : oX10_widthOf r p1 v) : TI l yX10_widthOf cX10_widthOf 2 (some .int) rmX10_widthOf [.ref (ga G r), .int p1] G da v x 6 6 (fX10_widthOf r p1 v).1 (fX10_widthOf r p1 v).2 v x := by
  refine gofTI hst (by decide) rfl (Nat.le_of_ble_eq_true rfl) ⟨Nat.le_of_ble_eq_true rfl, Nat.le_of_ble_eq_true rfl, Nat.le_refl _, Nat.le_refl _⟩ (fun p e s m args below meth c ls Q X hH hl E EX ES EW => ?_)
  have hx := X.1
  have hb := X.2.1
  have hown := X.2.2.2.1
  have hts := X.2.2.2.2.1
  have hS : va_S (gA G) s.heap s.heap [] := va_S.rf
  unfold oX10_widthOf at ho
  have hl : lv_has ls 2 [(0, .ref (ga G r)), (1, .int p1)] := hl
  refine lv_aload_n hx hb dX10_widthOf_0 rfl (lv_at hl 0 rfl) ?_
  refine lv_iload_n hx hb dX10_widthOf_1 rfl (lv_at hl 1 rfl) ?_
  have hq1 := ho.1
  have ho := ho.2
  refine k_X10_needType hst X hS hH hk_r hq1 t_ml_VernierDrawers_167 hl.1 (Nat.le_of_ble_eq_true rfl) ⟨Nat.le_of_ble_eq_true rfl, Nat.le_of_ble_eq_true rfl⟩ ⟨(Nat.le_of_ble_eq_true rfl), (Nat.le_of_ble_eq_true rfl)⟩ dX10_widthOf_2 (fun c2 da ce9 q9 H locs hH hS g1 g2 g3 => ?_) (fun c2 da H locs hH hS => ?_)
  · skip
    exact EX _ _ _ _ _ _ _ _ _ _ _ _ c2 (pr1 ((fX10_widthOf.eq_1 _ _ _).trans ((if_neg c2).trans rfl))) rfl hH hS g1 g2 g3 (Nat.le_of_ble_eq_true rfl) (Nat.le_of_ble_eq_true rfl)
  · have ho := ho c2
    have hq3 := ho
    refine k_X4_width X hS hH hq3 t_ml_VernierDrawers_279 hl.1 (Nat.le_of_ble_eq_true rfl) ⟨Nat.le_of_ble_eq_true rfl, Nat.le_of_ble_eq_true rfl⟩ ⟨(Nat.le_of_ble_eq_true rfl), (Nat.le_of_ble_eq_true rfl)⟩ dX10_widthOf_5 ?_
    exact E _ _ _ _ _ _ _ _ _ dX10_widthOf_8 rfl (Eq.symm (pr1 ((fX10_widthOf.eq_1 _ _ _).trans ((if_pos c2).trans rfl)))) (pr2 ((fX10_widthOf.eq_1 _ _ _).trans ((if_pos c2).trans rfl))) rfl hH hS (Nat.le_of_ble_eq_true rfl) (Nat.le_of_ble_eq_true rfl)
theorem k_X10_widthOf {p : Program} {l : Launch} {e : Env} {R : Room} {s : State} {m : MethodId} {args : Array Value} {below : List Frame} {meth : Method} {c : Code} {H : Heap} {locs : List Loc} {cells slots : Nat} {Q : State → Prop} {cc : ByteArray} {pc nL : Nat} {ls : Array Slot} {rest : List Value} {G : gG} {own : String} {da : Nat → Nat} {v : vSt} {x : gX} (hst : l.stackTraces = false) (X : CX G p s m args c cc nL own) (hS : va_S (gA G) s.heap H locs) (hH : Hp G da v x H) {r : Nat} (hk_r : kd r = 10) {p1 : Int32} (ho : oX10_widthOf r p1 v) {idx : Nat} (hml : Cond.methodLink own idx yX10_widthOf ∈ TT) (hls : ls.size = nL) (hsum : (rest.map fun v => v.category).sum ≤ 8) (hR : rmX10_widthOf.frames + 1 ≤ R.frames ∧ 8 + (2 + 11) + rmX10_widthOf.locals ≤ R.locals) (hcs : cells + 6 ≤ R.cells ∧ slots + 6 ≤ R.slots) (hdg : decode cc pc = .ok (.invokevirtual idx, 3)) (kx : ¬ (fX10_widthOf r p1 v).1 = 0 → ∀ (d : Nat → Nat) (ce : Cell) (q9 : Addr) (H1 : Heap) (locs1 : List Loc), Hp G d v x H1 → va_S (gA G) s.heap H1 locs1 → H1[q9]? = some ce → ce.vm = .none → s.vm.findClass (exN (fX10_widthOf r p1 v).1) = some ce.cls → vx_W p l e R s m args below meth c H1 locs1 (cells + 6) (slots + 6) Q (F0 m pc ls rest) q9) (kk : (fX10_widthOf r p1 v).1 = 0 → ∀ (d : Nat → Nat) (H1 : Heap) (locs1 : List Loc), Hp G d v x H1 → va_S (gA G) s.heap H1 locs1 → W p l e R s m args below meth c H1 locs1 (cells + 6) (slots + 6) Q (F0 m (pc + 3) ls (.int (fX10_widthOf r p1 v).2 :: rest))) : W p l e R s m args below meth c H locs cells slots Q (F0 m pc ls (.int p1 :: .ref (ga G r) :: rest)) := c_ti (runxV (kp := 1) X.1 X.2.1 X.2.2.1 X.2.2.2.1 X.2.2.2.2.1 (mX10_widthOf l hst G da v x r hk_r p1 ho) pW_bl hml t_im_X10_widthOf t_sel_X10_widthOf t_ini_VernierDrawers t_code_X10_widthOf ⟨rfl, by decide, by decide, by decide +kernel⟩ rfl rfl hR hcs (recvW X hH (by rw [hk_r]; decide) (by rw [hk_r]; decide) (ce_10 hk_r) rfl) (preW X hS hH) rfl hls rfl hsum hdg) hS (fun h9 d9 ce9 q9 H9 L9 v9 e9 hH9 => kx h9 d9 ce9 q9 H9 L9 (by subst e9; exact hH9)) (fun h9 d9 H9 L9 v9 e9 hH9 => kk h9 d9 H9 L9 (by subst e9; exact hH9))
def fX10_typeAt (r : Nat) (p1 : Int32) (v : vSt) : Nat × Int32 := if fX10_needPlace p1 (v (((rN (v r 0)) + 2) + 4) 3) v = 0 then ((0, fX5_typeOfPiece (((rN (v r 0)) + 2) + 4) p1 v)) else ((fX10_needPlace p1 (v (((rN (v r 0)) + 2) + 4) 3) v, 0))
def oX10_typeAt (r : Nat) (p1 : Int32) (v : vSt) : Prop := kd (rN (v r 0)) = 7
abbrev rmX10_typeAt : Room := { frames := 7, cells := 6, slots := 6, locals := 111 }
theorem dX10_typeAt_0 : decode cX10_typeAt 0 = .ok (.iload_n 1, 1) := by decide +kernel
theorem dX10_typeAt_1 : decode cX10_typeAt 1 = .ok (.aload_n 0, 1) := by decide +kernel
theorem dX10_typeAt_2 : decode cX10_typeAt 2 = .ok (.getfield 10, 3) := by decide +kernel
theorem dX10_typeAt_5 : decode cX10_typeAt 5 = .ok (.getfield 126, 3) := by decide +kernel
theorem dX10_typeAt_8 : decode cX10_typeAt 8 = .ok (.getfield 282, 3) := by decide +kernel
theorem dX10_typeAt_11 : decode cX10_typeAt 11 = .ok (.getfield 286, 3) := by decide +kernel
theorem dX10_typeAt_14 : decode cX10_typeAt 14 = .ok (.invokestatic 291, 3) := by decide +kernel
theorem dX10_typeAt_17 : decode cX10_typeAt 17 = .ok (.aload_n 0, 1) := by decide +kernel
theorem dX10_typeAt_18 : decode cX10_typeAt 18 = .ok (.getfield 10, 3) := by decide +kernel
theorem dX10_typeAt_21 : decode cX10_typeAt 21 = .ok (.getfield 126, 3) := by decide +kernel
theorem dX10_typeAt_24 : decode cX10_typeAt 24 = .ok (.getfield 282, 3) := by decide +kernel
theorem dX10_typeAt_27 : decode cX10_typeAt 27 = .ok (.iload_n 1, 1) := by decide +kernel
theorem dX10_typeAt_28 : decode cX10_typeAt 28 = .ok (.invokevirtual 295, 3) := by decide +kernel
theorem dX10_typeAt_31 : decode cX10_typeAt 31 = .ok (.ireturn, 1) := by decide +kernel
set_option maxHeartbeats 8000000 in
set_option maxRecDepth 100000 in
theorem mX10_typeAt (l : Launch) (hst : l.stackTraces = false) (G : gG) (da : Nat → Nat) (v : vSt) (x : gX) (r : Nat) (hk_r : kd r = 10) (p1 : Int32) (ho : oX10_typeAt r p1 v) : TI l yX10_typeAt cX10_typeAt 2 (some .int) rmX10_typeAt [.ref (ga G r), .int p1] G da v x 6 6 (fX10_typeAt r p1 v).1 (fX10_typeAt r p1 v).2 v x := by
  refine gofTI hst (by decide) rfl (Nat.le_of_ble_eq_true rfl) ⟨Nat.le_of_ble_eq_true rfl, Nat.le_of_ble_eq_true rfl, Nat.le_refl _, Nat.le_refl _⟩ (fun p e s m args below meth c ls Q X hH hl E EX ES EW => ?_)
  have hx := X.1
  have hb := X.2.1
  have hown := X.2.2.2.1
  have hts := X.2.2.2.2.1
  have hS : va_S (gA G) s.heap s.heap [] := va_S.rf
  unfold oX10_typeAt at ho
  have hl : lv_has ls 2 [(0, .ref (ga G r)), (1, .int p1)] := hl
  refine lv_iload_n hx hb dX10_typeAt_0 rfl (lv_at hl 1 rfl) ?_
  refine lv_aload_n hx hb dX10_typeAt_1 rfl (lv_at hl 0 rfl) ?_
  refine g_VernierDrawers_10 X hH hk_r dX10_typeAt_2 ?_
  have hq1 := ho
  refine g_VernierDrawers_126 X hH hq1 dX10_typeAt_5 ?_
  refine g_VernierDrawers_282 X hH (kc_7_0 hq1) dX10_typeAt_8 ?_
  refine g_VernierDrawers_286 X hH (Or.inl (kc_0_5 (kc_7_0 hq1))) dX10_typeAt_11 ?_
  refine k_X10_needPlace hst X hS hH  t_ml_VernierDrawers_291 hl.1 (Nat.le_of_ble_eq_true rfl) ⟨Nat.le_of_ble_eq_true rfl, Nat.le_of_ble_eq_true rfl⟩ ⟨(Nat.le_of_ble_eq_true rfl), (Nat.le_of_ble_eq_true rfl)⟩ dX10_typeAt_14 (fun c2 da ce9 q9 H locs hH hS g1 g2 g3 => ?_) (fun c2 da H locs hH hS => ?_)
  · skip
    exact EX _ _ _ _ _ _ _ _ _ _ _ _ c2 (pr1 ((fX10_typeAt.eq_1 _ _ _).trans ((if_neg c2).trans rfl))) rfl hH hS g1 g2 g3 (Nat.le_of_ble_eq_true rfl) (Nat.le_of_ble_eq_true rfl)
  · skip
    refine lv_aload_n hx hb dX10_typeAt_17 rfl (lv_at hl 0 rfl) ?_
    refine g_VernierDrawers_10 X hH hk_r dX10_typeAt_18 ?_
    refine g_VernierDrawers_126 X hH hq1 dX10_typeAt_21 ?_
    refine g_VernierDrawers_282 X hH (kc_7_0 hq1) dX10_typeAt_24 ?_
    refine lv_iload_n hx hb dX10_typeAt_27 rfl (lv_at hl 1 rfl) ?_
    refine k_X5_typeOfPiece X hS hH (Or.inl (kc_0_5 (kc_7_0 hq1))) t_ml_VernierDrawers_295 hl.1 (Nat.le_of_ble_eq_true rfl) ⟨Nat.le_of_ble_eq_true rfl, Nat.le_of_ble_eq_true rfl⟩ ⟨(Nat.le_of_ble_eq_true rfl), (Nat.le_of_ble_eq_true rfl)⟩ dX10_typeAt_28 ?_
    exact E _ _ _ _ _ _ _ _ _ dX10_typeAt_31 rfl (Eq.symm (pr1 ((fX10_typeAt.eq_1 _ _ _).trans ((if_pos c2).trans rfl)))) (pr2 ((fX10_typeAt.eq_1 _ _ _).trans ((if_pos c2).trans rfl))) rfl hH hS (Nat.le_of_ble_eq_true rfl) (Nat.le_of_ble_eq_true rfl)
theorem k_X10_typeAt {p : Program} {l : Launch} {e : Env} {R : Room} {s : State} {m : MethodId} {args : Array Value} {below : List Frame} {meth : Method} {c : Code} {H : Heap} {locs : List Loc} {cells slots : Nat} {Q : State → Prop} {cc : ByteArray} {pc nL : Nat} {ls : Array Slot} {rest : List Value} {G : gG} {own : String} {da : Nat → Nat} {v : vSt} {x : gX} (hst : l.stackTraces = false) (X : CX G p s m args c cc nL own) (hS : va_S (gA G) s.heap H locs) (hH : Hp G da v x H) {r : Nat} (hk_r : kd r = 10) {p1 : Int32} (ho : oX10_typeAt r p1 v) {idx : Nat} (hml : Cond.methodLink own idx yX10_typeAt ∈ TT) (hls : ls.size = nL) (hsum : (rest.map fun v => v.category).sum ≤ 8) (hR : rmX10_typeAt.frames + 1 ≤ R.frames ∧ 8 + (2 + 11) + rmX10_typeAt.locals ≤ R.locals) (hcs : cells + 6 ≤ R.cells ∧ slots + 6 ≤ R.slots) (hdg : decode cc pc = .ok (.invokevirtual idx, 3)) (kx : ¬ (fX10_typeAt r p1 v).1 = 0 → ∀ (d : Nat → Nat) (ce : Cell) (q9 : Addr) (H1 : Heap) (locs1 : List Loc), Hp G d v x H1 → va_S (gA G) s.heap H1 locs1 → H1[q9]? = some ce → ce.vm = .none → s.vm.findClass (exN (fX10_typeAt r p1 v).1) = some ce.cls → vx_W p l e R s m args below meth c H1 locs1 (cells + 6) (slots + 6) Q (F0 m pc ls rest) q9) (kk : (fX10_typeAt r p1 v).1 = 0 → ∀ (d : Nat → Nat) (H1 : Heap) (locs1 : List Loc), Hp G d v x H1 → va_S (gA G) s.heap H1 locs1 → W p l e R s m args below meth c H1 locs1 (cells + 6) (slots + 6) Q (F0 m (pc + 3) ls (.int (fX10_typeAt r p1 v).2 :: rest))) : W p l e R s m args below meth c H locs cells slots Q (F0 m pc ls (.int p1 :: .ref (ga G r) :: rest)) := c_ti (runxV (kp := 1) X.1 X.2.1 X.2.2.1 X.2.2.2.1 X.2.2.2.2.1 (mX10_typeAt l hst G da v x r hk_r p1 ho) pW_bl hml t_im_X10_typeAt t_sel_X10_typeAt t_ini_VernierDrawers t_code_X10_typeAt ⟨rfl, by decide, by decide, by decide +kernel⟩ rfl rfl hR hcs (recvW X hH (by rw [hk_r]; decide) (by rw [hk_r]; decide) (ce_10 hk_r) rfl) (preW X hS hH) rfl hls rfl hsum hdg) hS (fun h9 d9 ce9 q9 H9 L9 v9 e9 hH9 => kx h9 d9 ce9 q9 H9 L9 (by subst e9; exact hH9)) (fun h9 d9 H9 L9 v9 e9 hH9 => kk h9 d9 H9 L9 (by subst e9; exact hH9))
def fX10_wasDoubted (r : Nat) (p1 : Int32) (v : vSt) : Nat × Int32 := if fX10_needPlace p1 (v (((rN (v r 0)) + 2) + 4) 3) v = 0 then ((0, fX5_doubtedPiece (((rN (v r 0)) + 2) + 4) p1 v)) else ((fX10_needPlace p1 (v (((rN (v r 0)) + 2) + 4) 3) v, 0))
def oX10_wasDoubted (r : Nat) (p1 : Int32) (v : vSt) : Prop := kd (rN (v r 0)) = 7
abbrev rmX10_wasDoubted : Room := { frames := 7, cells := 6, slots := 6, locals := 111 }
theorem dX10_wasDoubted_0 : decode cX10_wasDoubted 0 = .ok (.iload_n 1, 1) := by decide +kernel
theorem dX10_wasDoubted_1 : decode cX10_wasDoubted 1 = .ok (.aload_n 0, 1) := by decide +kernel
theorem dX10_wasDoubted_2 : decode cX10_wasDoubted 2 = .ok (.getfield 10, 3) := by decide +kernel
theorem dX10_wasDoubted_5 : decode cX10_wasDoubted 5 = .ok (.getfield 126, 3) := by decide +kernel
theorem dX10_wasDoubted_8 : decode cX10_wasDoubted 8 = .ok (.getfield 282, 3) := by decide +kernel
theorem dX10_wasDoubted_11 : decode cX10_wasDoubted 11 = .ok (.getfield 286, 3) := by decide +kernel
theorem dX10_wasDoubted_14 : decode cX10_wasDoubted 14 = .ok (.invokestatic 291, 3) := by decide +kernel
theorem dX10_wasDoubted_17 : decode cX10_wasDoubted 17 = .ok (.aload_n 0, 1) := by decide +kernel
theorem dX10_wasDoubted_18 : decode cX10_wasDoubted 18 = .ok (.getfield 10, 3) := by decide +kernel
theorem dX10_wasDoubted_21 : decode cX10_wasDoubted 21 = .ok (.getfield 126, 3) := by decide +kernel
theorem dX10_wasDoubted_24 : decode cX10_wasDoubted 24 = .ok (.getfield 282, 3) := by decide +kernel
theorem dX10_wasDoubted_27 : decode cX10_wasDoubted 27 = .ok (.iload_n 1, 1) := by decide +kernel
theorem dX10_wasDoubted_28 : decode cX10_wasDoubted 28 = .ok (.invokevirtual 298, 3) := by decide +kernel
theorem dX10_wasDoubted_31 : decode cX10_wasDoubted 31 = .ok (.ireturn, 1) := by decide +kernel
set_option maxHeartbeats 8000000 in
set_option maxRecDepth 100000 in
theorem mX10_wasDoubted (l : Launch) (hst : l.stackTraces = false) (G : gG) (da : Nat → Nat) (v : vSt) (x : gX) (r : Nat) (hk_r : kd r = 10) (p1 : Int32) (ho : oX10_wasDoubted r p1 v) : TI l yX10_wasDoubted cX10_wasDoubted 2 (some .boolean) rmX10_wasDoubted [.ref (ga G r), .int p1] G da v x 6 6 (fX10_wasDoubted r p1 v).1 (fX10_wasDoubted r p1 v).2 v x := by
  refine gofTI hst (by decide) rfl (Nat.le_of_ble_eq_true rfl) ⟨Nat.le_of_ble_eq_true rfl, Nat.le_of_ble_eq_true rfl, Nat.le_refl _, Nat.le_refl _⟩ (fun p e s m args below meth c ls Q X hH hl E EX ES EW => ?_)
  have hx := X.1
  have hb := X.2.1
  have hown := X.2.2.2.1
  have hts := X.2.2.2.2.1
  have hS : va_S (gA G) s.heap s.heap [] := va_S.rf
  unfold oX10_wasDoubted at ho
  have hl : lv_has ls 2 [(0, .ref (ga G r)), (1, .int p1)] := hl
  refine lv_iload_n hx hb dX10_wasDoubted_0 rfl (lv_at hl 1 rfl) ?_
  refine lv_aload_n hx hb dX10_wasDoubted_1 rfl (lv_at hl 0 rfl) ?_
  refine g_VernierDrawers_10 X hH hk_r dX10_wasDoubted_2 ?_
  have hq1 := ho
  refine g_VernierDrawers_126 X hH hq1 dX10_wasDoubted_5 ?_
  refine g_VernierDrawers_282 X hH (kc_7_0 hq1) dX10_wasDoubted_8 ?_
  refine g_VernierDrawers_286 X hH (Or.inl (kc_0_5 (kc_7_0 hq1))) dX10_wasDoubted_11 ?_
  refine k_X10_needPlace hst X hS hH  t_ml_VernierDrawers_291 hl.1 (Nat.le_of_ble_eq_true rfl) ⟨Nat.le_of_ble_eq_true rfl, Nat.le_of_ble_eq_true rfl⟩ ⟨(Nat.le_of_ble_eq_true rfl), (Nat.le_of_ble_eq_true rfl)⟩ dX10_wasDoubted_14 (fun c2 da ce9 q9 H locs hH hS g1 g2 g3 => ?_) (fun c2 da H locs hH hS => ?_)
  · skip
    exact EX _ _ _ _ _ _ _ _ _ _ _ _ c2 (pr1 ((fX10_wasDoubted.eq_1 _ _ _).trans ((if_neg c2).trans rfl))) rfl hH hS g1 g2 g3 (Nat.le_of_ble_eq_true rfl) (Nat.le_of_ble_eq_true rfl)
  · skip
    refine lv_aload_n hx hb dX10_wasDoubted_17 rfl (lv_at hl 0 rfl) ?_
    refine g_VernierDrawers_10 X hH hk_r dX10_wasDoubted_18 ?_
    refine g_VernierDrawers_126 X hH hq1 dX10_wasDoubted_21 ?_
    refine g_VernierDrawers_282 X hH (kc_7_0 hq1) dX10_wasDoubted_24 ?_
    refine lv_iload_n hx hb dX10_wasDoubted_27 rfl (lv_at hl 1 rfl) ?_
    refine k_X5_doubtedPiece X hS hH (Or.inl (kc_0_5 (kc_7_0 hq1))) t_ml_VernierDrawers_298 hl.1 (Nat.le_of_ble_eq_true rfl) ⟨Nat.le_of_ble_eq_true rfl, Nat.le_of_ble_eq_true rfl⟩ ⟨(Nat.le_of_ble_eq_true rfl), (Nat.le_of_ble_eq_true rfl)⟩ dX10_wasDoubted_28 ?_
    exact E _ _ _ _ _ _ _ _ _ dX10_wasDoubted_31 (bn01 b01_X5_doubtedPiece).1 (Eq.symm (pr1 ((fX10_wasDoubted.eq_1 _ _ _).trans ((if_pos c2).trans rfl)))) (pr2 ((fX10_wasDoubted.eq_1 _ _ _).trans ((if_pos c2).trans rfl))) rfl hH hS (Nat.le_of_ble_eq_true rfl) (Nat.le_of_ble_eq_true rfl)
theorem k_X10_wasDoubted {p : Program} {l : Launch} {e : Env} {R : Room} {s : State} {m : MethodId} {args : Array Value} {below : List Frame} {meth : Method} {c : Code} {H : Heap} {locs : List Loc} {cells slots : Nat} {Q : State → Prop} {cc : ByteArray} {pc nL : Nat} {ls : Array Slot} {rest : List Value} {G : gG} {own : String} {da : Nat → Nat} {v : vSt} {x : gX} (hst : l.stackTraces = false) (X : CX G p s m args c cc nL own) (hS : va_S (gA G) s.heap H locs) (hH : Hp G da v x H) {r : Nat} (hk_r : kd r = 10) {p1 : Int32} (ho : oX10_wasDoubted r p1 v) {idx : Nat} (hml : Cond.methodLink own idx yX10_wasDoubted ∈ TT) (hls : ls.size = nL) (hsum : (rest.map fun v => v.category).sum ≤ 8) (hR : rmX10_wasDoubted.frames + 1 ≤ R.frames ∧ 8 + (2 + 11) + rmX10_wasDoubted.locals ≤ R.locals) (hcs : cells + 6 ≤ R.cells ∧ slots + 6 ≤ R.slots) (hdg : decode cc pc = .ok (.invokevirtual idx, 3)) (kx : ¬ (fX10_wasDoubted r p1 v).1 = 0 → ∀ (d : Nat → Nat) (ce : Cell) (q9 : Addr) (H1 : Heap) (locs1 : List Loc), Hp G d v x H1 → va_S (gA G) s.heap H1 locs1 → H1[q9]? = some ce → ce.vm = .none → s.vm.findClass (exN (fX10_wasDoubted r p1 v).1) = some ce.cls → vx_W p l e R s m args below meth c H1 locs1 (cells + 6) (slots + 6) Q (F0 m pc ls rest) q9) (kk : (fX10_wasDoubted r p1 v).1 = 0 → ∀ (d : Nat → Nat) (H1 : Heap) (locs1 : List Loc), Hp G d v x H1 → va_S (gA G) s.heap H1 locs1 → W p l e R s m args below meth c H1 locs1 (cells + 6) (slots + 6) Q (F0 m (pc + 3) ls (.int (fX10_wasDoubted r p1 v).2 :: rest))) : W p l e R s m args below meth c H locs cells slots Q (F0 m pc ls (.int p1 :: .ref (ga G r) :: rest)) := c_ti (runxV (kp := 1) X.1 X.2.1 X.2.2.1 X.2.2.2.1 X.2.2.2.2.1 (mX10_wasDoubted l hst G da v x r hk_r p1 ho) pW_bl hml t_im_X10_wasDoubted t_sel_X10_wasDoubted t_ini_VernierDrawers t_code_X10_wasDoubted ⟨rfl, by decide, by decide, by decide +kernel⟩ rfl rfl hR hcs (recvW X hH (by rw [hk_r]; decide) (by rw [hk_r]; decide) (ce_10 hk_r) rfl) (preW X hS hH) rfl hls rfl hsum hdg) hS (fun h9 d9 ce9 q9 H9 L9 v9 e9 hH9 => kx h9 d9 ce9 q9 H9 L9 (by subst e9; exact hH9)) (fun h9 d9 H9 L9 v9 e9 hH9 => kk h9 d9 H9 L9 (by subst e9; exact hH9))
def fX10_whyNotJudge (r : Nat) (p1 : Int32) (v : vSt) : Nat × Int32 := if (fX10_needTool r p1 v).1 = 0 then ((0, fX0_reasonNotToJudge ((rN (v r 0)) + 2) ((rN (v r 0)) + 1) ((fX10_needTool r p1 v).2) v)) else (((fX10_needTool r p1 v).1, 0))
def oX10_whyNotJudge (r : Nat) (p1 : Int32) (v : vSt) : Prop := (kd (rN (v r 0)) = 7) ∧ ((oX10_needTool r p1 v) ∧ (((fX10_needTool r p1 v).1 = 0) → (kd (fX10_needTool r p1 v).2 = 8)))
abbrev rmX10_whyNotJudge : Room := { frames := 7, cells := 6, slots := 6, locals := 111 }
theorem dX10_whyNotJudge_0 : decode cX10_whyNotJudge 0 = .ok (.aload_n 0, 1) := by decide +kernel
theorem dX10_whyNotJudge_1 : decode cX10_whyNotJudge 1 = .ok (.getfield 10, 3) := by decide +kernel
theorem dX10_whyNotJudge_4 : decode cX10_whyNotJudge 4 = .ok (.getfield 126, 3) := by decide +kernel
theorem dX10_whyNotJudge_7 : decode cX10_whyNotJudge 7 = .ok (.aload_n 0, 1) := by decide +kernel
theorem dX10_whyNotJudge_8 : decode cX10_whyNotJudge 8 = .ok (.getfield 10, 3) := by decide +kernel
theorem dX10_whyNotJudge_11 : decode cX10_whyNotJudge 11 = .ok (.getfield 41, 3) := by decide +kernel
theorem dX10_whyNotJudge_14 : decode cX10_whyNotJudge 14 = .ok (.aload_n 0, 1) := by decide +kernel
theorem dX10_whyNotJudge_15 : decode cX10_whyNotJudge 15 = .ok (.iload_n 1, 1) := by decide +kernel
theorem dX10_whyNotJudge_16 : decode cX10_whyNotJudge 16 = .ok (.invokevirtual 181, 3) := by decide +kernel
theorem dX10_whyNotJudge_19 : decode cX10_whyNotJudge 19 = .ok (.invokevirtual 304, 3) := by decide +kernel
theorem dX10_whyNotJudge_22 : decode cX10_whyNotJudge 22 = .ok (.ireturn, 1) := by decide +kernel
set_option maxHeartbeats 8000000 in
set_option maxRecDepth 100000 in
theorem mX10_whyNotJudge (l : Launch) (hst : l.stackTraces = false) (G : gG) (da : Nat → Nat) (v : vSt) (x : gX) (r : Nat) (hk_r : kd r = 10) (p1 : Int32) (ho : oX10_whyNotJudge r p1 v) : TI l yX10_whyNotJudge cX10_whyNotJudge 2 (some .int) rmX10_whyNotJudge [.ref (ga G r), .int p1] G da v x 6 6 (fX10_whyNotJudge r p1 v).1 (fX10_whyNotJudge r p1 v).2 v x := by
  refine gofTI hst (by decide) rfl (Nat.le_of_ble_eq_true rfl) ⟨Nat.le_of_ble_eq_true rfl, Nat.le_of_ble_eq_true rfl, Nat.le_refl _, Nat.le_refl _⟩ (fun p e s m args below meth c ls Q X hH hl E EX ES EW => ?_)
  have hx := X.1
  have hb := X.2.1
  have hown := X.2.2.2.1
  have hts := X.2.2.2.2.1
  have hS : va_S (gA G) s.heap s.heap [] := va_S.rf
  unfold oX10_whyNotJudge at ho
  have hl : lv_has ls 2 [(0, .ref (ga G r)), (1, .int p1)] := hl
  refine lv_aload_n hx hb dX10_whyNotJudge_0 rfl (lv_at hl 0 rfl) ?_
  refine g_VernierDrawers_10 X hH hk_r dX10_whyNotJudge_1 ?_
  have hq1 := ho.1
  have ho := ho.2
  refine g_VernierDrawers_126 X hH hq1 dX10_whyNotJudge_4 ?_
  refine lv_aload_n hx hb dX10_whyNotJudge_7 rfl (lv_at hl 0 rfl) ?_
  refine g_VernierDrawers_10 X hH hk_r dX10_whyNotJudge_8 ?_
  refine g_VernierDrawers_41 X hH hq1 dX10_whyNotJudge_11 ?_
  refine lv_aload_n hx hb dX10_whyNotJudge_14 rfl (lv_at hl 0 rfl) ?_
  refine lv_iload_n hx hb dX10_whyNotJudge_15 rfl (lv_at hl 1 rfl) ?_
  have hq2 := ho.1
  have ho := ho.2
  refine k_X10_needTool hst X hS hH hk_r hq2 t_ml_VernierDrawers_181 hl.1 (Nat.le_of_ble_eq_true rfl) ⟨Nat.le_of_ble_eq_true rfl, Nat.le_of_ble_eq_true rfl⟩ ⟨(Nat.le_of_ble_eq_true rfl), (Nat.le_of_ble_eq_true rfl)⟩ dX10_whyNotJudge_16 (fun c3 da ce9 q9 H locs hH hS g1 g2 g3 => ?_) (fun c3 da H locs hH hS => ?_)
  · skip
    exact EX _ _ _ _ _ _ _ _ _ _ _ _ c3 (pr1 ((fX10_whyNotJudge.eq_1 _ _ _).trans ((if_neg c3).trans rfl))) rfl hH hS g1 g2 g3 (Nat.le_of_ble_eq_true rfl) (Nat.le_of_ble_eq_true rfl)
  · have ho := ho c3
    have hq4 := ho
    refine k_X0_reasonNotToJudge X hS hH (kc_7_0 hq1) (kc_7_2 hq1) hq4 t_ml_VernierDrawers_304 hl.1 (Nat.le_of_ble_eq_true rfl) ⟨Nat.le_of_ble_eq_true rfl, Nat.le_of_ble_eq_true rfl⟩ ⟨(Nat.le_of_ble_eq_true rfl), (Nat.le_of_ble_eq_true rfl)⟩ dX10_whyNotJudge_19 ?_
    exact E _ _ _ _ _ _ _ _ _ dX10_whyNotJudge_22 rfl (Eq.symm (pr1 ((fX10_whyNotJudge.eq_1 _ _ _).trans ((if_pos c3).trans rfl)))) (pr2 ((fX10_whyNotJudge.eq_1 _ _ _).trans ((if_pos c3).trans rfl))) rfl hH hS (Nat.le_of_ble_eq_true rfl) (Nat.le_of_ble_eq_true rfl)
theorem k_X10_whyNotJudge {p : Program} {l : Launch} {e : Env} {R : Room} {s : State} {m : MethodId} {args : Array Value} {below : List Frame} {meth : Method} {c : Code} {H : Heap} {locs : List Loc} {cells slots : Nat} {Q : State → Prop} {cc : ByteArray} {pc nL : Nat} {ls : Array Slot} {rest : List Value} {G : gG} {own : String} {da : Nat → Nat} {v : vSt} {x : gX} (hst : l.stackTraces = false) (X : CX G p s m args c cc nL own) (hS : va_S (gA G) s.heap H locs) (hH : Hp G da v x H) {r : Nat} (hk_r : kd r = 10) {p1 : Int32} (ho : oX10_whyNotJudge r p1 v) {idx : Nat} (hml : Cond.methodLink own idx yX10_whyNotJudge ∈ TT) (hls : ls.size = nL) (hsum : (rest.map fun v => v.category).sum ≤ 8) (hR : rmX10_whyNotJudge.frames + 1 ≤ R.frames ∧ 8 + (2 + 11) + rmX10_whyNotJudge.locals ≤ R.locals) (hcs : cells + 6 ≤ R.cells ∧ slots + 6 ≤ R.slots) (hdg : decode cc pc = .ok (.invokevirtual idx, 3)) (kx : ¬ (fX10_whyNotJudge r p1 v).1 = 0 → ∀ (d : Nat → Nat) (ce : Cell) (q9 : Addr) (H1 : Heap) (locs1 : List Loc), Hp G d v x H1 → va_S (gA G) s.heap H1 locs1 → H1[q9]? = some ce → ce.vm = .none → s.vm.findClass (exN (fX10_whyNotJudge r p1 v).1) = some ce.cls → vx_W p l e R s m args below meth c H1 locs1 (cells + 6) (slots + 6) Q (F0 m pc ls rest) q9) (kk : (fX10_whyNotJudge r p1 v).1 = 0 → ∀ (d : Nat → Nat) (H1 : Heap) (locs1 : List Loc), Hp G d v x H1 → va_S (gA G) s.heap H1 locs1 → W p l e R s m args below meth c H1 locs1 (cells + 6) (slots + 6) Q (F0 m (pc + 3) ls (.int (fX10_whyNotJudge r p1 v).2 :: rest))) : W p l e R s m args below meth c H locs cells slots Q (F0 m pc ls (.int p1 :: .ref (ga G r) :: rest)) := c_ti (runxV (kp := 1) X.1 X.2.1 X.2.2.1 X.2.2.2.1 X.2.2.2.2.1 (mX10_whyNotJudge l hst G da v x r hk_r p1 ho) pW_bl hml t_im_X10_whyNotJudge t_sel_X10_whyNotJudge t_ini_VernierDrawers t_code_X10_whyNotJudge ⟨rfl, by decide, by decide, by decide +kernel⟩ rfl rfl hR hcs (recvW X hH (by rw [hk_r]; decide) (by rw [hk_r]; decide) (ce_10 hk_r) rfl) (preW X hS hH) rfl hls rfl hsum hdg) hS (fun h9 d9 ce9 q9 H9 L9 v9 e9 hH9 => kx h9 d9 ce9 q9 H9 L9 (by subst e9; exact hH9)) (fun h9 d9 H9 L9 v9 e9 hH9 => kk h9 d9 H9 L9 (by subst e9; exact hH9))
