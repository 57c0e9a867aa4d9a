/-! 21.face1 -/
def fX10_setTolerance (r : Nat) (p1 : Int32) (v : vSt) : Nat × Int32 × vSt := if ((fX10_inRange p1 0 99) : Int32) = 0 then ((1, 0, v)) else (let v4 : vSt := fX10_recordState r v; let v6 : vSt := u2 v4 ((rN (v4 r 0)) + 2) 4 p1; (0, v4 ((rN (v4 r 0)) + 2) 4, v6))

def kkX10_setTolerance (r : Nat) (p1 : Int32) (v : vSt) : Nat := pot ((fX10_setTolerance r p1 v).2.2) - pot v + 36
def oX10_setTolerance (r : Nat) (p1 : Int32) (v : vSt) : Prop := ((((fX10_inRange p1 0 99) : Int32) = 0) → (0 + 6 ≤ kkX10_setTolerance r p1 v)) ∧ (¬ (((fX10_inRange p1 0 99) : Int32) = 0) → ((oX10_recordState r v) ∧ ((0 + kkX10_recordState r v ≤ kkX10_setTolerance r p1 v) ∧ (∀ v4 : vSt, v4 = (fX10_recordState r v) → (kd (rN (v4 r 0)) = 7)))))
abbrev rmX10_setTolerance (r : Nat) (p1 : Int32) (v : vSt) : Room := { frames := 7, cells := kkX10_setTolerance r p1 v, slots := kkX10_setTolerance r p1 v, locals := 196 }
theorem dX10_setTolerance_0 : decode cX10_setTolerance 0 = .ok (.iload_n 1, 1) := by decide +kernel
theorem dX10_setTolerance_1 : decode cX10_setTolerance 1 = .ok (.iconst 0, 1) := by decide +kernel
theorem dX10_setTolerance_2 : decode cX10_setTolerance 2 = .ok (.bipush 99, 2) := by decide +kernel
theorem dX10_setTolerance_4 : decode cX10_setTolerance 4 = .ok (.invokestatic 49, 3) := by decide +kernel
theorem dX10_setTolerance_7 : decode cX10_setTolerance 7 = .ok (.ifCond .ne 13, 3) := by decide +kernel
theorem dX10_setTolerance_10 : decode cX10_setTolerance 10 = .ok (.new 53, 3) := by decide +kernel
theorem dX10_setTolerance_13 : decode cX10_setTolerance 13 = .ok (.dup, 1) := by decide +kernel
theorem dX10_setTolerance_14 : decode cX10_setTolerance 14 = .ok (.ldc 179, 2) := by decide +kernel
theorem dX10_setTolerance_16 : decode cX10_setTolerance 16 = .ok (.invokespecial 57, 3) := by decide +kernel
theorem dX10_setTolerance_19 : decode cX10_setTolerance 19 = .ok (.athrow, 1) := by decide +kernel
theorem dX10_setTolerance_20 : decode cX10_setTolerance 20 = .ok (.aload_n 0, 1) := by decide +kernel
theorem dX10_setTolerance_21 : decode cX10_setTolerance 21 = .ok (.invokevirtual 71, 3) := by decide +kernel
theorem dX10_setTolerance_24 : decode cX10_setTolerance 24 = .ok (.aload_n 0, 1) := by decide +kernel
theorem dX10_setTolerance_25 : decode cX10_setTolerance 25 = .ok (.getfield 10, 3) := by decide +kernel
theorem dX10_setTolerance_28 : decode cX10_setTolerance 28 = .ok (.getfield 126, 3) := by decide +kernel
theorem dX10_setTolerance_31 : decode cX10_setTolerance 31 = .ok (.getfield 171, 3) := by decide +kernel
theorem dX10_setTolerance_34 : decode cX10_setTolerance 34 = .ok (.istore_n 2, 1) := by decide +kernel
theorem dX10_setTolerance_35 : decode cX10_setTolerance 35 = .ok (.aload_n 0, 1) := by decide +kernel
theorem dX10_setTolerance_36 : decode cX10_setTolerance 36 = .ok (.getfield 10, 3) := by decide +kernel
theorem dX10_setTolerance_39 : decode cX10_setTolerance 39 = .ok (.getfield 126, 3) := by decide +kernel
theorem dX10_setTolerance_42 : decode cX10_setTolerance 42 = .ok (.iload_n 1, 1) := by decide +kernel
theorem dX10_setTolerance_43 : decode cX10_setTolerance 43 = .ok (.putfield 171, 3) := by decide +kernel
theorem dX10_setTolerance_46 : decode cX10_setTolerance 46 = .ok (.iload_n 2, 1) := by decide +kernel
theorem dX10_setTolerance_47 : decode cX10_setTolerance 47 = .ok (.ireturn, 1) := by decide +kernel
set_option maxHeartbeats 8000000 in
set_option maxRecDepth 100000 in
theorem mX10_setTolerance (l : Launch) (hst : l.stackTraces = false) (G : gG) (da : Nat → Nat) (v : vSt) (x : gX) (r : Nat) (hk_r : kd r = 10) (p1 : Int32) (ho : oX10_setTolerance r p1 v) : TI l yX10_setTolerance cX10_setTolerance 3 (some .int) (rmX10_setTolerance r p1 v) [.ref (ga G r), .int p1] G da v x (kkX10_setTolerance r p1 v) (kkX10_setTolerance r p1 v) (fX10_setTolerance r p1 v).1 (fX10_setTolerance r p1 v).2.1 (fX10_setTolerance r p1 v).2.2 x := by
  refine gofTI hst (by decide) rfl (Nat.le_of_ble_eq_true rfl) ⟨Nat.le_of_ble_eq_true rfl, Nat.le_of_ble_eq_true rfl, Nat.le_refl _, Nat.le_refl _⟩ (fun p e s m args below meth c ls Q X hH hl E EX ES EW => ?_)
  have hx := X.1
  have hb := X.2.1
  have hown := X.2.2.2.1
  have hts := X.2.2.2.2.1
  have hS : va_S (gA G) s.heap s.heap [] := va_S.rf
  unfold oX10_setTolerance at ho
  have hl : lv_has ls 3 [(0, .ref (ga G r)), (1, .int p1)] := hl
  refine lv_iload_n hx hb dX10_setTolerance_0 rfl (lv_at hl 1 rfl) ?_
  refine lv_iconst (v := 0) hx hb dX10_setTolerance_1 (by decide) ?_
  refine lv_bipush (v := 99) hx hb dX10_setTolerance_2 (by decide) ?_
  refine k_X10_inRange X hS  t_ml_VernierDrawers_49 hl.1 (Nat.le_of_ble_eq_true rfl) ⟨Nat.le_of_ble_eq_true rfl, Nat.le_of_ble_eq_true rfl⟩ ⟨Nat.zero_le _, Nat.zero_le _⟩ dX10_setTolerance_4 ?_
  refine lv_if_ne (tgt := 20) hx hb dX10_setTolerance_7 (by decide) (fun c1 => ?_) (fun c1 => ?_)
  · have ho := ho.2 c1
    refine lv_aload_n hx hb dX10_setTolerance_20 rfl (lv_at hl 0 rfl) ?_
    have hq2 := ho.1
    have ho := ho.2
    have hq3 := ho.1
    have ho := ho.2
    refine k_X10_recordState X hS hH hk_r hq2 t_ml_VernierDrawers_71 hl.1 (Nat.le_of_ble_eq_true rfl) ⟨Nat.le_of_ble_eq_true rfl, Nat.le_of_ble_eq_true rfl⟩ ⟨hq3, hq3⟩ dX10_setTolerance_21 (fun da H locs v4 ev4 hH hS => ?_)
    have ho := ho v4 ev4
    refine lv_aload_n hx hb dX10_setTolerance_24 rfl (lv_at hl 0 rfl) ?_
    refine g_VernierDrawers_10 X hH hk_r dX10_setTolerance_25 ?_
    have hq5 := ho
    refine g_VernierDrawers_126 X hH hq5 dX10_setTolerance_28 ?_
    refine g_VernierDrawers_171 X hH (kc_7_0 hq5) dX10_setTolerance_31 ?_
    refine lv_istore_n (lv' := [(2, .int (v4 ((rN (v4 r 0)) + 2) 4)), (0, .ref (ga G r)), (1, .int p1)]) hx hb dX10_setTolerance_34 rfl hl (by decide) rfl (fun ls hl => ?_)
    refine lv_aload_n hx hb dX10_setTolerance_35 rfl (lv_at hl 1 rfl) ?_
    refine g_VernierDrawers_10 X hH hk_r dX10_setTolerance_36 ?_
    refine g_VernierDrawers_126 X hH hq5 dX10_setTolerance_39 ?_
    refine lv_iload_n hx hb dX10_setTolerance_42 rfl (lv_at hl 2 rfl) ?_
    refine p_VernierDrawers_171 X hH hS (kc_7_0 hq5) dX10_setTolerance_43 (fun H locs v6 ev6 hH hS => ?_)
    refine lv_iload_n hx hb dX10_setTolerance_46 rfl (lv_at hl 0 rfl) ?_
    replace ev4 := Eq.symm ev4
    replace ev6 := Eq.symm ev6
    subst ev4 ev6
    exact E _ _ _ _ _ _ _ _ _ dX10_setTolerance_47 rfl (Eq.symm (t31 ((fX10_setTolerance.eq_1 _ _ _).trans ((if_neg c1).trans rfl)))) (t32 ((fX10_setTolerance.eq_1 _ _ _).trans ((if_neg c1).trans rfl))) (t33 ((fX10_setTolerance.eq_1 _ _ _).trans ((if_neg c1).trans rfl))) hH hS hq3 hq3
  · have ho := ho.1 c1
    have hq7 := ho
    exact ES _ _ _ _ _ _ _ _ _ _ _ _ _ _ (th_1 X) (by decide) (t31 ((fX10_setTolerance.eq_1 _ _ _).trans ((if_pos c1).trans rfl))) (t33 ((fX10_setTolerance.eq_1 _ _ _).trans ((if_pos c1).trans rfl))) hH hS t_sr_VernierDrawers_179 hl.1 dX10_setTolerance_10 dX10_setTolerance_13 dX10_setTolerance_14 dX10_setTolerance_16 dX10_setTolerance_19 (Nat.le_of_ble_eq_true rfl) (c16 hq7) hq7
theorem k_X10_setTolerance {p : Program} {l : Launch} {e : Env} {R : Room} {s : State} {m : MethodId} {args : Array Value} {below : List Frame} {meth : Method} {c : Code} {H : Heap} {locs : List Loc} {cells slots : Nat} {Q : State → Prop} {cc : ByteArray} {pc nL : Nat} {ls : Array Slot} {rest : List Value} {G : gG} {own : String} {da : Nat → Nat} {v : vSt} {x : gX} (hst : l.stackTraces = false) (X : CX G p s m args c cc nL own) (hS : va_S (gA G) s.heap H locs) (hH : Hp G da v x H) {r : Nat} (hk_r : kd r = 10) {p1 : Int32} (ho : oX10_setTolerance r p1 v) {idx : Nat} (hml : Cond.methodLink own idx yX10_setTolerance ∈ TT) (hls : ls.size = nL) (hsum : (rest.map fun v => v.category).sum ≤ 8) (hR : (rmX10_setTolerance r p1 v).frames + 1 ≤ R.frames ∧ 8 + (3 + 11) + (rmX10_setTolerance r p1 v).locals ≤ R.locals) (hcs : cells + (kkX10_setTolerance r p1 v) ≤ R.cells ∧ slots + (kkX10_setTolerance r p1 v) ≤ R.slots) (hdg : decode cc pc = .ok (.invokevirtual idx, 3)) (kx : ¬ (fX10_setTolerance r p1 v).1 = 0 → ∀ (d : Nat → Nat) (ce : Cell) (q9 : Addr) (H1 : Heap) (locs1 : List Loc) (v1 : vSt), v1 = (fX10_setTolerance r p1 v).2.2 → Hp G d v1 x H1 → va_S (gA G) s.heap H1 locs1 → H1[q9]? = some ce → ce.vm = .none → s.vm.findClass (exN (fX10_setTolerance r p1 v).1) = some ce.cls → vx_W p l e R s m args below meth c H1 locs1 (cells + (kkX10_setTolerance r p1 v)) (slots + (kkX10_setTolerance r p1 v)) Q (F0 m pc ls rest) q9) (kk : (fX10_setTolerance r p1 v).1 = 0 → ∀ (d : Nat → Nat) (H1 : Heap) (locs1 : List Loc) (v1 : vSt), v1 = (fX10_setTolerance r p1 v).2.2 → Hp G d v1 x H1 → va_S (gA G) s.heap H1 locs1 → W p l e R s m args below meth c H1 locs1 (cells + (kkX10_setTolerance r p1 v)) (slots + (kkX10_setTolerance r p1 v)) Q (F0 m (pc + 3) ls (.int (fX10_setTolerance r p1 v).2.1 :: rest))) : W p l e R s m args below meth c H locs cells slots Q (F0 m pc ls (.int p1 :: .ref (ga G r) :: rest)) := c_ti (runxV (kp := 1) X.1 X.2.1 X.2.2.1 X.2.2.2.1 X.2.2.2.2.1 (mX10_setTolerance l hst G da v x r hk_r p1 ho) pW_bl hml t_im_X10_setTolerance t_sel_X10_setTolerance t_ini_VernierDrawers t_code_X10_setTolerance ⟨rfl, by decide, by decide, by decide +kernel⟩ rfl rfl hR hcs (recvW X hH (by rw [hk_r]; decide) (by rw [hk_r]; decide) (ce_10 hk_r) rfl) (preW X hS hH) rfl hls rfl hsum hdg) hS kx kk
def fX10_tools (r : Nat) (v : vSt) : Int32 := v ((rN (v r 0)) + 1) 2
def oX10_tools (r : Nat) (v : vSt) : Prop := kd (rN (v r 0)) = 7
abbrev rmX10_tools : Room := { frames := 0, cells := 0, slots := 0, locals := 0 }
theorem dX10_tools_0 : decode cX10_tools 0 = .ok (.aload_n 0, 1) := by decide +kernel
theorem dX10_tools_1 : decode cX10_tools 1 = .ok (.getfield 10, 3) := by decide +kernel
theorem dX10_tools_4 : decode cX10_tools 4 = .ok (.getfield 41, 3) := by decide +kernel
theorem dX10_tools_7 : decode cX10_tools 7 = .ok (.getfield 60, 3) := by decide +kernel
theorem dX10_tools_10 : decode cX10_tools 10 = .ok (.ireturn, 1) := by decide +kernel
set_option maxHeartbeats 8000000 in
set_option maxRecDepth 100000 in
theorem mX10_tools (l : Launch) (G : gG) (da : Nat → Nat) (v : vSt) (x : gX) (r : Nat) (hk_r : kd r = 10) (ho : oX10_tools r v) : QI l yX10_tools cX10_tools 1 (some .int) rmX10_tools [.ref (ga G r)] (pW G da v x) (fX10_tools r v) := by
  refine gofQ (own := RX10) (by decide) rfl (Nat.le_of_ble_eq_true rfl) (fun p e s m args below meth c ls Q X hH hl E => ?_)
  have hx := X.1
  have hb := X.2.1
  have hown := X.2.2.2.1
  have hts := X.2.2.2.2.1
  have hS : va_S (gA G) s.heap s.heap [] := va_S.rf
  unfold oX10_tools at ho
  have hl : lv_has ls 1 [(0, .ref (ga G r))] := hl
  refine lv_aload_n hx hb dX10_tools_0 rfl (lv_at hl 0 rfl) ?_
  refine g_VernierDrawers_10 X hH hk_r dX10_tools_1 ?_
  have hq1 := ho
  refine g_VernierDrawers_41 X hH hq1 dX10_tools_4 ?_
  refine g_VernierDrawers_60 X hH (kc_7_2 hq1) dX10_tools_7 ?_
  exact E _ _ _ dX10_tools_10 rfl (Eq.symm rfl)
theorem k_X10_tools {p : Program} {l : Launch} {e : Env} {R : Room} {s : State} {m : MethodId} {args : Array Value} {below : List Frame} {meth : Method} {c : Code} {H : Heap} {locs : List Loc} {cells slots : Nat} {Q : State → Prop} {cc : ByteArray} {pc nL : Nat} {ls : Array Slot} {rest : List Value} {G : gG} {own : String} {da : Nat → Nat} {v : vSt} {x : gX} (X : CX G p s m args c cc nL own) (hS : va_S (gA G) s.heap H locs) (hH : Hp G da v x H) {r : Nat} (hk_r : kd r = 10) (ho : oX10_tools r v) {idx : Nat} (hml : Cond.methodLink own idx yX10_tools ∈ TT) (hls : ls.size = nL) (hsum : (rest.map fun v => v.category).sum ≤ 8) (hR : rmX10_tools.frames + 1 ≤ R.frames ∧ 8 + (1 + 11) + rmX10_tools.locals ≤ R.locals) (hcs : cells ≤ R.cells ∧ slots ≤ R.slots) (hdg : decode cc pc = .ok (.invokevirtual idx, 3)) (kk : W p l e R s m args below meth c H locs cells slots Q (F0 m (pc + 3) ls (.int (fX10_tools r v) :: rest))) : W p l e R s m args below meth c H locs cells slots Q (F0 m pc ls (.ref (ga G r) :: rest)) := c_qi (runV (k := 0) X.1 X.2.1 X.2.2.1 X.2.2.2.1 X.2.2.2.2.1 (mX10_tools l G da v x r hk_r ho) pW_bl hml t_im_X10_tools t_sel_X10_tools t_ini_VernierDrawers t_code_X10_tools ⟨rfl, by decide, by decide, by decide +kernel⟩ rfl rfl hR hcs (recvW X hH (by rw [hk_r]; decide) (by rw [hk_r]; decide) (ce_10 hk_r) rfl) (preW X hS hH) rfl hls rfl hsum hdg) (fun _ h => h ▸ kk)
def fX10_warmth (r : Nat) (v : vSt) : Int32 := v ((rN (v r 0)) + 1) 4
def oX10_warmth (r : Nat) (v : vSt) : Prop := kd (rN (v r 0)) = 7
abbrev rmX10_warmth : Room := { frames := 0, cells := 0, slots := 0, locals := 0 }
theorem dX10_warmth_0 : decode cX10_warmth 0 = .ok (.aload_n 0, 1) := by decide +kernel
theorem dX10_warmth_1 : decode cX10_warmth 1 = .ok (.getfield 10, 3) := by decide +kernel
theorem dX10_warmth_4 : decode cX10_warmth 4 = .ok (.getfield 41, 3) := by decide +kernel
theorem dX10_warmth_7 : decode cX10_warmth 7 = .ok (.getfield 90, 3) := by decide +kernel
theorem dX10_warmth_10 : decode cX10_warmth 10 = .ok (.ireturn, 1) := by decide +kernel
set_option maxHeartbeats 8000000 in
set_option maxRecDepth 100000 in
theorem mX10_warmth (l : Launch) (G : gG) (da : Nat → Nat) (v : vSt) (x : gX) (r : Nat) (hk_r : kd r = 10) (ho : oX10_warmth r v) : QI l yX10_warmth cX10_warmth 1 (some .int) rmX10_warmth [.ref (ga G r)] (pW G da v x) (fX10_warmth r v) := by
  refine gofQ (own := RX10) (by decide) rfl (Nat.le_of_ble_eq_true rfl) (fun p e s m args below meth c ls Q X hH hl E => ?_)
  have hx := X.1
  have hb := X.2.1
  have hown := X.2.2.2.1
  have hts := X.2.2.2.2.1
  have hS : va_S (gA G) s.heap s.heap [] := va_S.rf
  unfold oX10_warmth at ho
  have hl : lv_has ls 1 [(0, .ref (ga G r))] := hl
  refine lv_aload_n hx hb dX10_warmth_0 rfl (lv_at hl 0 rfl) ?_
  refine g_VernierDrawers_10 X hH hk_r dX10_warmth_1 ?_
  have hq1 := ho
  refine g_VernierDrawers_41 X hH hq1 dX10_warmth_4 ?_
  refine g_VernierDrawers_90 X hH (kc_7_2 hq1) dX10_warmth_7 ?_
  exact E _ _ _ dX10_warmth_10 rfl (Eq.symm rfl)
theorem k_X10_warmth {p : Program} {l : Launch} {e : Env} {R : Room} {s : State} {m : MethodId} {args : Array Value} {below : List Frame} {meth : Method} {c : Code} {H : Heap} {locs : List Loc} {cells slots : Nat} {Q : State → Prop} {cc : ByteArray} {pc nL : Nat} {ls : Array Slot} {rest : List Value} {G : gG} {own : String} {da : Nat → Nat} {v : vSt} {x : gX} (X : CX G p s m args c cc nL own) (hS : va_S (gA G) s.heap H locs) (hH : Hp G da v x H) {r : Nat} (hk_r : kd r = 10) (ho : oX10_warmth r v) {idx : Nat} (hml : Cond.methodLink own idx yX10_warmth ∈ TT) (hls : ls.size = nL) (hsum : (rest.map fun v => v.category).sum ≤ 8) (hR : rmX10_warmth.frames + 1 ≤ R.frames ∧ 8 + (1 + 11) + rmX10_warmth.locals ≤ R.locals) (hcs : cells ≤ R.cells ∧ slots ≤ R.slots) (hdg : decode cc pc = .ok (.invokevirtual idx, 3)) (kk : W p l e R s m args below meth c H locs cells slots Q (F0 m (pc + 3) ls (.int (fX10_warmth r v) :: rest))) : W p l e R s m args below meth c H locs cells slots Q (F0 m pc ls (.ref (ga G r) :: rest)) := c_qi (runV (k := 0) X.1 X.2.1 X.2.2.1 X.2.2.2.1 X.2.2.2.2.1 (mX10_warmth l G da v x r hk_r ho) pW_bl hml t_im_X10_warmth t_sel_X10_warmth t_ini_VernierDrawers t_code_X10_warmth ⟨rfl, by decide, by decide, by decide +kernel⟩ rfl rfl hR hcs (recvW X hH (by rw [hk_r]; decide) (by rw [hk_r]; decide) (ce_10 hk_r) rfl) (preW X hS hH) rfl hls rfl hsum hdg) (fun _ h => h ▸ kk)
def fX10_stretchOf (r : Nat) (p1 : Int32) (p2 : Int32) (v : vSt) : Nat × Int32 := if ((fX10_isMaterial p1) : Int32) = 0 then ((1, 0)) else (if ((fX10_inRange p2 0 15000) : Int32) = 0 then ((1, 0)) else ((0, fX2_stretch ((rN (v r 0)) + 1) p1 p2 v)))
def oX10_stretchOf (r : Nat) (p1 : Int32) (p2 : Int32) (v : vSt) : Prop := ¬ (((fX10_isMaterial p1) : Int32) = 0) → (¬ (((fX10_inRange p2 0 15000) : Int32) = 0) → (kd (rN (v r 0)) = 7))
abbrev rmX10_stretchOf : Room := { frames := 6, cells := 6, slots := 6, locals := 90 }
theorem dX10_stretchOf_0 : decode cX10_stretchOf 0 = .ok (.iload_n 1, 1) := by decide +kernel
theorem dX10_stretchOf_1 : decode cX10_stretchOf 1 = .ok (.invokestatic 120, 3) := by decide +kernel
theorem dX10_stretchOf_4 : decode cX10_stretchOf 4 = .ok (.ifCond .eq 14, 3) := by decide +kernel
theorem dX10_stretchOf_7 : decode cX10_stretchOf 7 = .ok (.iload_n 2, 1) := by decide +kernel
theorem dX10_stretchOf_8 : decode cX10_stretchOf 8 = .ok (.iconst 0, 1) := by decide +kernel
theorem dX10_stretchOf_9 : decode cX10_stretchOf 9 = .ok (.sipush 15000, 3) := by decide +kernel
theorem dX10_stretchOf_12 : decode cX10_stretchOf 12 = .ok (.invokestatic 49, 3) := by decide +kernel
theorem dX10_stretchOf_15 : decode cX10_stretchOf 15 = .ok (.ifCond .ne 13, 3) := by decide +kernel
theorem dX10_stretchOf_18 : decode cX10_stretchOf 18 = .ok (.new 53, 3) := by decide +kernel
theorem dX10_stretchOf_21 : decode cX10_stretchOf 21 = .ok (.dup, 1) := by decide +kernel
theorem dX10_stretchOf_22 : decode cX10_stretchOf 22 = .ok (.ldc 213, 2) := by decide +kernel
theorem dX10_stretchOf_24 : decode cX10_stretchOf 24 = .ok (.invokespecial 57, 3) := by decide +kernel
theorem dX10_stretchOf_27 : decode cX10_stretchOf 27 = .ok (.athrow, 1) := by decide +kernel
theorem dX10_stretchOf_28 : decode cX10_stretchOf 28 = .ok (.aload_n 0, 1) := by decide +kernel
theorem dX10_stretchOf_29 : decode cX10_stretchOf 29 = .ok (.getfield 10, 3) := by decide +kernel
theorem dX10_stretchOf_32 : decode cX10_stretchOf 32 = .ok (.getfield 41, 3) := by decide +kernel
theorem dX10_stretchOf_35 : decode cX10_stretchOf 35 = .ok (.iload_n 1, 1) := by decide +kernel
theorem dX10_stretchOf_36 : decode cX10_stretchOf 36 = .ok (.iload_n 2, 1) := by decide +kernel
theorem dX10_stretchOf_37 : decode cX10_stretchOf 37 = .ok (.invokevirtual 215, 3) := by decide +kernel
theorem dX10_stretchOf_40 : decode cX10_stretchOf 40 = .ok (.ireturn, 1) := by decide +kernel
set_option maxHeartbeats 8000000 in
set_option maxRecDepth 100000 in
theorem mX10_stretchOf (l : Launch) (hst : l.stackTraces = false) (G : gG) (da : Nat → Nat) (v : vSt) (x : gX) (r : Nat) (hk_r : kd r = 10) (p1 : Int32) (p2 : Int32) (ho : oX10_stretchOf r p1 p2 v) : TI l yX10_stretchOf cX10_stretchOf 3 (some .int) rmX10_stretchOf [.ref (ga G r), .int p1, .int p2] G da v x 6 6 (fX10_stretchOf r p1 p2 v).1 (fX10_stretchOf r p1 p2 v).2 v x := by
  refine gofTI hst (by decide) rfl (Nat.le_of_ble_eq_true rfl) ⟨Nat.le_of_ble_eq_true rfl, Nat.le_of_ble_eq_true rfl, Nat.le_refl _, Nat.le_refl _⟩ (fun p e s m args below meth c ls Q X hH hl E EX ES EW => ?_)
  have hx := X.1
  have hb := X.2.1
  have hown := X.2.2.2.1
  have hts := X.2.2.2.2.1
  have hS : va_S (gA G) s.heap s.heap [] := va_S.rf
  unfold oX10_stretchOf at ho
  have hl : lv_has ls 3 [(0, .ref (ga G r)), (1, .int p1), (2, .int p2)] := hl
  refine lv_iload_n hx hb dX10_stretchOf_0 rfl (lv_at hl 1 rfl) ?_
  refine k_X10_isMaterial X hS  t_ml_VernierDrawers_120 hl.1 (Nat.le_of_ble_eq_true rfl) ⟨Nat.le_of_ble_eq_true rfl, Nat.le_of_ble_eq_true rfl⟩ ⟨Nat.zero_le _, Nat.zero_le _⟩ dX10_stretchOf_1 ?_
  refine lv_if_eq (tgt := 18) hx hb dX10_stretchOf_4 (by decide) (fun c1 => ?_) (fun c1 => ?_)
  · skip
    exact ES _ _ _ _ _ _ _ _ _ _ _ _ _ _ (th_1 X) (by decide) (pr1 ((fX10_stretchOf.eq_1 _ _ _ _).trans ((if_pos c1).trans rfl))) rfl hH hS t_sr_VernierDrawers_213 hl.1 dX10_stretchOf_18 dX10_stretchOf_21 dX10_stretchOf_22 dX10_stretchOf_24 dX10_stretchOf_27 (Nat.le_of_ble_eq_true rfl) (Nat.le_of_ble_eq_true rfl) (Nat.le_of_ble_eq_true rfl)
  · have ho := ho c1
    refine lv_iload_n hx hb dX10_stretchOf_7 rfl (lv_at hl 2 rfl) ?_
    refine lv_iconst (v := 0) hx hb dX10_stretchOf_8 (by decide) ?_
    refine lv_sipush (v := 15000) hx hb dX10_stretchOf_9 (by decide) ?_
    refine k_X10_inRange X hS  t_ml_VernierDrawers_49 hl.1 (Nat.le_of_ble_eq_true rfl) ⟨Nat.le_of_ble_eq_true rfl, Nat.le_of_ble_eq_true rfl⟩ ⟨Nat.zero_le _, Nat.zero_le _⟩ dX10_stretchOf_12 ?_
    refine lv_if_ne (tgt := 28) hx hb dX10_stretchOf_15 (by decide) (fun c2 => ?_) (fun c2 => ?_)
    · have ho := ho c2
      refine lv_aload_n hx hb dX10_stretchOf_28 rfl (lv_at hl 0 rfl) ?_
      refine g_VernierDrawers_10 X hH hk_r dX10_stretchOf_29 ?_
      have hq3 := ho
      refine g_VernierDrawers_41 X hH hq3 dX10_stretchOf_32 ?_
      refine lv_iload_n hx hb dX10_stretchOf_35 rfl (lv_at hl 1 rfl) ?_
      refine lv_iload_n hx hb dX10_stretchOf_36 rfl (lv_at hl 2 rfl) ?_
      refine k_X2_stretch X hS hH (kc_7_2 hq3) t_ml_VernierDrawers_215 hl.1 (Nat.le_of_ble_eq_true rfl) ⟨Nat.le_of_ble_eq_true rfl, Nat.le_of_ble_eq_true rfl⟩ ⟨Nat.zero_le _, Nat.zero_le _⟩ dX10_stretchOf_37 ?_
      exact E _ _ _ _ _ _ _ _ _ dX10_stretchOf_40 rfl (Eq.symm (pr1 ((fX10_stretchOf.eq_1 _ _ _ _).trans ((if_neg c1).trans ((if_neg c2).trans rfl))))) (pr2 ((fX10_stretchOf.eq_1 _ _ _ _).trans ((if_neg c1).trans ((if_neg c2).trans rfl)))) rfl hH hS (Nat.zero_le _) (Nat.zero_le _)
    · skip
      exact ES _ _ _ _ _ _ _ _ _ _ _ _ _ _ (th_1 X) (by decide) (pr1 ((fX10_stretchOf.eq_1 _ _ _ _).trans ((if_neg c1).trans ((if_pos c2).trans rfl)))) rfl hH hS t_sr_VernierDrawers_213 hl.1 dX10_stretchOf_18 dX10_stretchOf_21 dX10_stretchOf_22 dX10_stretchOf_24 dX10_stretchOf_27 (Nat.le_of_ble_eq_true rfl) (Nat.le_of_ble_eq_true rfl) (Nat.le_of_ble_eq_true rfl)
theorem k_X10_stretchOf {p : Program} {l : Launch} {e : Env} {R : Room} {s : State} {m : MethodId} {args : Array Value} {below : List Frame} {meth : Method} {c : Code} {H : Heap} {locs : List Loc} {cells slots : Nat} {Q : State → Prop} {cc : ByteArray} {pc nL : Nat} {ls : Array Slot} {rest : List Value} {G : gG} {own : String} {da : Nat → Nat} {v : vSt} {x : gX} (hst : l.stackTraces = false) (X : CX G p s m args c cc nL own) (hS : va_S (gA G) s.heap H locs) (hH : Hp G da v x H) {r : Nat} (hk_r : kd r = 10) {p1 : Int32} {p2 : Int32} (ho : oX10_stretchOf r p1 p2 v) {idx : Nat} (hml : Cond.methodLink own idx yX10_stretchOf ∈ TT) (hls : ls.size = nL) (hsum : (rest.map fun v => v.category).sum ≤ 8) (hR : rmX10_stretchOf.frames + 1 ≤ R.frames ∧ 8 + (3 + 11) + rmX10_stretchOf.locals ≤ R.locals) (hcs : cells + 6 ≤ R.cells ∧ slots + 6 ≤ R.slots) (hdg : decode cc pc = .ok (.invokevirtual idx, 3)) (kx : ¬ (fX10_stretchOf r p1 p2 v).1 = 0 → ∀ (d : Nat → Nat) (ce : Cell) (q9 : Addr) (H1 : Heap) (locs1 : List Loc), Hp G d v x H1 → va_S (gA G) s.heap H1 locs1 → H1[q9]? = some ce → ce.vm = .none → s.vm.findClass (exN (fX10_stretchOf r p1 p2 v).1) = some ce.cls → vx_W p l e R s m args below meth c H1 locs1 (cells + 6) (slots + 6) Q (F0 m pc ls rest) q9) (kk : (fX10_stretchOf r p1 p2 v).1 = 0 → ∀ (d : Nat → Nat) (H1 : Heap) (locs1 : List Loc), Hp G d v x H1 → va_S (gA G) s.heap H1 locs1 → W p l e R s m args below meth c H1 locs1 (cells + 6) (slots + 6) Q (F0 m (pc + 3) ls (.int (fX10_stretchOf r p1 p2 v).2 :: rest))) : W p l e R s m args below meth c H locs cells slots Q (F0 m pc ls (.int p2 :: .int p1 :: .ref (ga G r) :: rest)) := c_ti (runxV (kp := 2) X.1 X.2.1 X.2.2.1 X.2.2.2.1 X.2.2.2.2.1 (mX10_stretchOf l hst G da v x r hk_r p1 p2 ho) pW_bl hml t_im_X10_stretchOf t_sel_X10_stretchOf t_ini_VernierDrawers t_code_X10_stretchOf ⟨rfl, by decide, by decide, by decide +kernel⟩ rfl rfl hR hcs (recvW X hH (by rw [hk_r]; decide) (by rw [hk_r]; decide) (ce_10 hk_r) rfl) (preW X hS hH) rfl hls rfl hsum hdg) hS (fun h9 d9 ce9 q9 H9 L9 v9 e9 hH9 => kx h9 d9 ce9 q9 H9 L9 (by subst e9; exact hH9)) (fun h9 d9 H9 L9 v9 e9 hH9 => kk h9 d9 H9 L9 (by subst e9; exact hH9))
def fX10_blocks (r : Nat) (v : vSt) : Int32 := v ((rN (v r 0)) + 1) 3
def oX10_blocks (r : Nat) (v : vSt) : Prop := kd (rN (v r 0)) = 7
abbrev rmX10_blocks : Room := { frames := 0, cells := 0, slots := 0, locals := 0 }
theorem dX10_blocks_0 : decode cX10_blocks 0 = .ok (.aload_n 0, 1) := by decide +kernel
theorem dX10_blocks_1 : decode cX10_blocks 1 = .ok (.getfield 10, 3) := by decide +kernel
theorem dX10_blocks_4 : decode cX10_blocks 4 = .ok (.getfield 41, 3) := by decide +kernel
theorem dX10_blocks_7 : decode cX10_blocks 7 = .ok (.getfield 80, 3) := by decide +kernel
theorem dX10_blocks_10 : decode cX10_blocks 10 = .ok (.ireturn, 1) := by decide +kernel
set_option maxHeartbeats 8000000 in
set_option maxRecDepth 100000 in
theorem mX10_blocks (l : Launch) (G : gG) (da : Nat → Nat) (v : vSt) (x : gX) (r : Nat) (hk_r : kd r = 10) (ho : oX10_blocks r v) : QI l yX10_blocks cX10_blocks 1 (some .int) rmX10_blocks [.ref (ga G r)] (pW G da v x) (fX10_blocks r v) := by
  refine gofQ (own := RX10) (by decide) rfl (Nat.le_of_ble_eq_true rfl) (fun p e s m args below meth c ls Q X hH hl E => ?_)
  have hx := X.1
  have hb := X.2.1
  have hown := X.2.2.2.1
  have hts := X.2.2.2.2.1
  have hS : va_S (gA G) s.heap s.heap [] := va_S.rf
  unfold oX10_blocks at ho
  have hl : lv_has ls 1 [(0, .ref (ga G r))] := hl
  refine lv_aload_n hx hb dX10_blocks_0 rfl (lv_at hl 0 rfl) ?_
  refine g_VernierDrawers_10 X hH hk_r dX10_blocks_1 ?_
  have hq1 := ho
  refine g_VernierDrawers_41 X hH hq1 dX10_blocks_4 ?_
  refine g_VernierDrawers_80 X hH (kc_7_2 hq1) dX10_blocks_7 ?_
  exact E _ _ _ dX10_blocks_10 rfl (Eq.symm rfl)
theorem k_X10_blocks {p : Program} {l : Launch} {e : Env} {R : Room} {s : State} {m : MethodId} {args : Array Value} {below : List Frame} {meth : Method} {c : Code} {H : Heap} {locs : List Loc} {cells slots : Nat} {Q : State → Prop} {cc : ByteArray} {pc nL : Nat} {ls : Array Slot} {rest : List Value} {G : gG} {own : String} {da : Nat → Nat} {v : vSt} {x : gX} (X : CX G p s m args c cc nL own) (hS : va_S (gA G) s.heap H locs) (hH : Hp G da v x H) {r : Nat} (hk_r : kd r = 10) (ho : oX10_blocks r v) {idx : Nat} (hml : Cond.methodLink own idx yX10_blocks ∈ TT) (hls : ls.size = nL) (hsum : (rest.map fun v => v.category).sum ≤ 8) (hR : rmX10_blocks.frames + 1 ≤ R.frames ∧ 8 + (1 + 11) + rmX10_blocks.locals ≤ R.locals) (hcs : cells ≤ R.cells ∧ slots ≤ R.slots) (hdg : decode cc pc = .ok (.invokevirtual idx, 3)) (kk : W p l e R s m args below meth c H locs cells slots Q (F0 m (pc + 3) ls (.int (fX10_blocks r v) :: rest))) : W p l e R s m args below meth c H locs cells slots Q (F0 m pc ls (.ref (ga G r) :: rest)) := c_qi (runV (k := 0) X.1 X.2.1 X.2.2.1 X.2.2.2.1 X.2.2.2.2.1 (mX10_blocks l G da v x r hk_r ho) pW_bl hml t_im_X10_blocks t_sel_X10_blocks t_ini_VernierDrawers t_code_X10_blocks ⟨rfl, by decide, by decide, by decide +kernel⟩ rfl rfl hR hcs (recvW X hH (by rw [hk_r]; decide) (by rw [hk_r]; decide) (ce_10 hk_r) rfl) (preW X hS hH) rfl hls rfl hsum hdg) (fun _ h => h ▸ kk)
def fX10_types (r : Nat) (v : vSt) : Int32 := v ((rN (v r 0)) + 2) 1
def oX10_types (r : Nat) (v : vSt) : Prop := kd (rN (v r 0)) = 7
abbrev rmX10_types : Room := { frames := 0, cells := 0, slots := 0, locals := 0 }
theorem dX10_types_0 : decode cX10_types 0 = .ok (.aload_n 0, 1) := by decide +kernel
theorem dX10_types_1 : decode cX10_types 1 = .ok (.getfield 10, 3) := by decide +kernel
theorem dX10_types_4 : decode cX10_types 4 = .ok (.getfield 126, 3) := by decide +kernel
theorem dX10_types_7 : decode cX10_types 7 = .ok (.getfield 130, 3) := by decide +kernel
theorem dX10_types_10 : decode cX10_types 10 = .ok (.ireturn, 1) := by decide +kernel
set_option maxHeartbeats 8000000 in
set_option maxRecDepth 100000 in
theorem mX10_types (l : Launch) (G : gG) (da : Nat → Nat) (v : vSt) (x : gX) (r : Nat) (hk_r : kd r = 10) (ho : oX10_types r v) : QI l yX10_types cX10_types 1 (some .int) rmX10_types [.ref (ga G r)] (pW G da v x) (fX10_types r v) := by
  refine gofQ (own := RX10) (by decide) rfl (Nat.le_of_ble_eq_true rfl) (fun p e s m args below meth c ls Q X hH hl E => ?_)
  have hx := X.1
  have hb := X.2.1
  have hown := X.2.2.2.1
  have hts := X.2.2.2.2.1
  have hS : va_S (gA G) s.heap s.heap [] := va_S.rf
  unfold oX10_types at ho
  have hl : lv_has ls 1 [(0, .ref (ga G r))] := hl
  refine lv_aload_n hx hb dX10_types_0 rfl (lv_at hl 0 rfl) ?_
  refine g_VernierDrawers_10 X hH hk_r dX10_types_1 ?_
  have hq1 := ho
  refine g_VernierDrawers_126 X hH hq1 dX10_types_4 ?_
  refine g_VernierDrawers_130 X hH (kc_7_0 hq1) dX10_types_7 ?_
  exact E _ _ _ dX10_types_10 rfl (Eq.symm rfl)
theorem k_X10_types {p : Program} {l : Launch} {e : Env} {R : Room} {s : State} {m : MethodId} {args : Array Value} {below : List Frame} {meth : Method} {c : Code} {H : Heap} {locs : List Loc} {cells slots : Nat} {Q : State → Prop} {cc : ByteArray} {pc nL : Nat} {ls : Array Slot} {rest : List Value} {G : gG} {own : String} {da : Nat → Nat} {v : vSt} {x : gX} (X : CX G p s m args c cc nL own) (hS : va_S (gA G) s.heap H locs) (hH : Hp G da v x H) {r : Nat} (hk_r : kd r = 10) (ho : oX10_types r v) {idx : Nat} (hml : Cond.methodLink own idx yX10_types ∈ TT) (hls : ls.size = nL) (hsum : (rest.map fun v => v.category).sum ≤ 8) (hR : rmX10_types.frames + 1 ≤ R.frames ∧ 8 + (1 + 11) + rmX10_types.locals ≤ R.locals) (hcs : cells ≤ R.cells ∧ slots ≤ R.slots) (hdg : decode cc pc = .ok (.invokevirtual idx, 3)) (kk : W p l e R s m args below meth c H locs cells slots Q (F0 m (pc + 3) ls (.int (fX10_types r v) :: rest))) : W p l e R s m args below meth c H locs cells slots Q (F0 m pc ls (.ref (ga G r) :: rest)) := c_qi (runV (k := 0) X.1 X.2.1 X.2.2.1 X.2.2.2.1 X.2.2.2.2.1 (mX10_types l G da v x r hk_r ho) pW_bl hml t_im_X10_types t_sel_X10_types t_ini_VernierDrawers t_code_X10_types ⟨rfl, by decide, by decide, by decide +kernel⟩ rfl rfl hR hcs (recvW X hH (by rw [hk_r]; decide) (by rw [hk_r]; decide) (ce_10 hk_r) rfl) (preW X hS hH) rfl hls rfl hsum hdg) (fun _ h => h ▸ kk)
def fX10_onBench (r : Nat) (v : vSt) : Int32 := v (((rN (v r 0)) + 2) + 4) 3
def oX10_onBench (r : Nat) (v : vSt) : Prop := kd (rN (v r 0)) = 7
abbrev rmX10_onBench : Room := { frames := 0, cells := 0, slots := 0, locals := 0 }
theorem dX10_onBench_0 : decode cX10_onBench 0 = .ok (.aload_n 0, 1) := by decide +kernel
theorem dX10_onBench_1 : decode cX10_onBench 1 = .ok (.getfield 10, 3) := by decide +kernel
theorem dX10_onBench_4 : decode cX10_onBench 4 = .ok (.getfield 126, 3) := by decide +kernel
theorem dX10_onBench_7 : decode cX10_onBench 7 = .ok (.getfield 282, 3) := by decide +kernel
theorem dX10_onBench_10 : decode cX10_onBench 10 = .ok (.getfield 286, 3) := by decide +kernel
theorem dX10_onBench_13 : decode cX10_onBench 13 = .ok (.ireturn, 1) := by decide +kernel
set_option maxHeartbeats 8000000 in
set_option maxRecDepth 100000 in
theorem mX10_onBench (l : Launch) (G : gG) (da : Nat → Nat) (v : vSt) (x : gX) (r : Nat) (hk_r : kd r = 10) (ho : oX10_onBench r v) : QI l yX10_onBench cX10_onBench 1 (some .int) rmX10_onBench [.ref (ga G r)] (pW G da v x) (fX10_onBench r v) := by
  refine gofQ (own := RX10) (by decide) rfl (Nat.le_of_ble_eq_true rfl) (fun p e s m args below meth c ls Q X hH hl E => ?_)
  have hx := X.1
  have hb := X.2.1
  have hown := X.2.2.2.1
  have hts := X.2.2.2.2.1
  have hS : va_S (gA G) s.heap s.heap [] := va_S.rf
  unfold oX10_onBench at ho
  have hl : lv_has ls 1 [(0, .ref (ga G r))] := hl
  refine lv_aload_n hx hb dX10_onBench_0 rfl (lv_at hl 0 rfl) ?_
  refine g_VernierDrawers_10 X hH hk_r dX10_onBench_1 ?_
  have hq1 := ho
  refine g_VernierDrawers_126 X hH hq1 dX10_onBench_4 ?_
  refine g_VernierDrawers_282 X hH (kc_7_0 hq1) dX10_onBench_7 ?_
  refine g_VernierDrawers_286 X hH (Or.inl (kc_0_5 (kc_7_0 hq1))) dX10_onBench_10 ?_
  exact E _ _ _ dX10_onBench_13 rfl (Eq.symm rfl)
theorem k_X10_onBench {p : Program} {l : Launch} {e : Env} {R : Room} {s : State} {m : MethodId} {args : Array Value} {below : List Frame} {meth : Method} {c : Code} {H : Heap} {locs : List Loc} {cells slots : Nat} {Q : State → Prop} {cc : ByteArray} {pc nL : Nat} {ls : Array Slot} {rest : List Value} {G : gG} {own : String} {da : Nat → Nat} {v : vSt} {x : gX} (X : CX G p s m args c cc nL own) (hS : va_S (gA G) s.heap H locs) (hH : Hp G da v x H) {r : Nat} (hk_r : kd r = 10) (ho : oX10_onBench r v) {idx : Nat} (hml : Cond.methodLink own idx yX10_onBench ∈ TT) (hls : ls.size = nL) (hsum : (rest.map fun v => v.category).sum ≤ 8) (hR : rmX10_onBench.frames + 1 ≤ R.frames ∧ 8 + (1 + 11) + rmX10_onBench.locals ≤ R.locals) (hcs : cells ≤ R.cells ∧ slots ≤ R.slots) (hdg : decode cc pc = .ok (.invokevirtual idx, 3)) (kk : W p l e R s m args below meth c H locs cells slots Q (F0 m (pc + 3) ls (.int (fX10_onBench r v) :: rest))) : W p l e R s m args below meth c H locs cells slots Q (F0 m pc ls (.ref (ga G r) :: rest)) := c_qi (runV (k := 0) X.1 X.2.1 X.2.2.1 X.2.2.2.1 X.2.2.2.2.1 (mX10_onBench l G da v x r hk_r ho) pW_bl hml t_im_X10_onBench t_sel_X10_onBench t_ini_VernierDrawers t_code_X10_onBench ⟨rfl, by decide, by decide, by decide +kernel⟩ rfl rfl hR hcs (recvW X hH (by rw [hk_r]; decide) (by rw [hk_r]; decide) (ce_10 hk_r) rfl) (preW X hS hH) rfl hls rfl hsum hdg) (fun _ h => h ▸ kk)
def fX10_toFile (r : Nat) (v : vSt) : Int32 := v (((rN (v r 0)) + 2) + 5) 3
def oX10_toFile (r : Nat) (v : vSt) : Prop := kd (rN (v r 0)) = 7
abbrev rmX10_toFile : Room := { frames := 0, cells := 0, slots := 0, locals := 0 }
theorem dX10_toFile_0 : decode cX10_toFile 0 = .ok (.aload_n 0, 1) := by decide +kernel
theorem dX10_toFile_1 : decode cX10_toFile 1 = .ok (.getfield 10, 3) := by decide +kernel
theorem dX10_toFile_4 : decode cX10_toFile 4 = .ok (.getfield 126, 3) := by decide +kernel
theorem dX10_toFile_7 : decode cX10_toFile 7 = .ok (.getfield 301, 3) := by decide +kernel
theorem dX10_toFile_10 : decode cX10_toFile 10 = .ok (.getfield 286, 3) := by decide +kernel
theorem dX10_toFile_13 : decode cX10_toFile 13 = .ok (.ireturn, 1) := by decide +kernel
set_option maxHeartbeats 8000000 in
set_option maxRecDepth 100000 in
theorem mX10_toFile (l : Launch) (G : gG) (da : Nat → Nat) (v : vSt) (x : gX) (r : Nat) (hk_r : kd r = 10) (ho : oX10_toFile r v) : QI l yX10_toFile cX10_toFile 1 (some .int) rmX10_toFile [.ref (ga G r)] (pW G da v x) (fX10_toFile r v) := by
  refine gofQ (own := RX10) (by decide) rfl (Nat.le_of_ble_eq_true rfl) (fun p e s m args below meth c ls Q X hH hl E => ?_)
  have hx := X.1
  have hb := X.2.1
  have hown := X.2.2.2.1
  have hts := X.2.2.2.2.1
  have hS : va_S (gA G) s.heap s.heap [] := va_S.rf
  unfold oX10_toFile at ho
  have hl : lv_has ls 1 [(0, .ref (ga G r))] := hl
  refine lv_aload_n hx hb dX10_toFile_0 rfl (lv_at hl 0 rfl) ?_
  refine g_VernierDrawers_10 X hH hk_r dX10_toFile_1 ?_
  have hq1 := ho
  refine g_VernierDrawers_126 X hH hq1 dX10_toFile_4 ?_
  refine g_VernierDrawers_301 X hH (kc_7_0 hq1) dX10_toFile_7 ?_
  refine g_VernierDrawers_286 X hH (Or.inr (kc_0_15 (kc_7_0 hq1))) dX10_toFile_10 ?_
  exact E _ _ _ dX10_toFile_13 rfl (Eq.symm rfl)
theorem k_X10_toFile {p : Program} {l : Launch} {e : Env} {R : Room} {s : State} {m : MethodId} {args : Array Value} {below : List Frame} {meth : Method} {c : Code} {H : Heap} {locs : List Loc} {cells slots : Nat} {Q : State → Prop} {cc : ByteArray} {pc nL : Nat} {ls : Array Slot} {rest : List Value} {G : gG} {own : String} {da : Nat → Nat} {v : vSt} {x : gX} (X : CX G p s m args c cc nL own) (hS : va_S (gA G) s.heap H locs) (hH : Hp G da v x H) {r : Nat} (hk_r : kd r = 10) (ho : oX10_toFile r v) {idx : Nat} (hml : Cond.methodLink own idx yX10_toFile ∈ TT) (hls : ls.size = nL) (hsum : (rest.map fun v => v.category).sum ≤ 8) (hR : rmX10_toFile.frames + 1 ≤ R.frames ∧ 8 + (1 + 11) + rmX10_toFile.locals ≤ R.locals) (hcs : cells ≤ R.cells ∧ slots ≤ R.slots) (hdg : decode cc pc = .ok (.invokevirtual idx, 3)) (kk : W p l e R s m args below meth c H locs cells slots Q (F0 m (pc + 3) ls (.int (fX10_toFile r v) :: rest))) : W p l e R s m args below meth c H locs cells slots Q (F0 m pc ls (.ref (ga G r) :: rest)) := c_qi (runV (k := 0) X.1 X.2.1 X.2.2.1 X.2.2.2.1 X.2.2.2.2.1 (mX10_toFile l G da v x r hk_r ho) pW_bl hml t_im_X10_toFile t_sel_X10_toFile t_ini_VernierDrawers t_code_X10_toFile ⟨rfl, by decide, by decide, by decide +kernel⟩ rfl rfl hR hcs (recvW X hH (by rw [hk_r]; decide) (by rw [hk_r]; decide) (ce_10 hk_r) rfl) (preW X hS hH) rfl hls rfl hsum hdg) (fun _ h => h ▸ kk)
def fX10_bestTool (r : Nat) (v : vSt) : Nat × Int32 := if (0 : Int32) ≤ (fX7_bestToolToJudge (rN (v r 0)) v) then ((0, fX7_bestToolToJudge (rN (v r 0)) v)) else ((3, 0))
def oX10_bestTool (r : Nat) (v : vSt) : Prop := (kd (rN (v r 0)) = 7) ∧ (0 ≤ (v ((rN (v r 0)) + 1) 2).toInt ∧ (v ((rN (v r 0)) + 1) 2).toInt ≤ 6 ∧ 0 ≤ (v ((rN (v r 0)) + 1) 3).toInt ∧ (v ((rN (v r 0)) + 1) 3).toInt ≤ 10)
abbrev rmX10_bestTool : Room := { frames := 6, cells := 6, slots := 6, locals := 118 }
theorem dX10_bestTool_0 : decode cX10_bestTool 0 = .ok (.aload_n 0, 1) := by decide +kernel
theorem dX10_bestTool_1 : decode cX10_bestTool 1 = .ok (.getfield 10, 3) := by decide +kernel
theorem dX10_bestTool_4 : decode cX10_bestTool 4 = .ok (.invokevirtual 317, 3) := by decide +kernel
theorem dX10_bestTool_7 : decode cX10_bestTool 7 = .ok (.istore_n 1, 1) := by decide +kernel
theorem dX10_bestTool_8 : decode cX10_bestTool 8 = .ok (.iload_n 1, 1) := by decide +kernel
theorem dX10_bestTool_9 : decode cX10_bestTool 9 = .ok (.ifCond .ge 14, 3) := by decide +kernel
theorem dX10_bestTool_12 : decode cX10_bestTool 12 = .ok (.new 259, 3) := by decide +kernel
theorem dX10_bestTool_15 : decode cX10_bestTool 15 = .ok (.dup, 1) := by decide +kernel
theorem dX10_bestTool_16 : decode cX10_bestTool 16 = .ok (.ldc_w 320, 3) := by decide +kernel
theorem dX10_bestTool_19 : decode cX10_bestTool 19 = .ok (.invokespecial 263, 3) := by decide +kernel
theorem dX10_bestTool_22 : decode cX10_bestTool 22 = .ok (.athrow, 1) := by decide +kernel
theorem dX10_bestTool_23 : decode cX10_bestTool 23 = .ok (.iload_n 1, 1) := by decide +kernel
theorem dX10_bestTool_24 : decode cX10_bestTool 24 = .ok (.ireturn, 1) := by decide +kernel
set_option maxHeartbeats 8000000 in
set_option maxRecDepth 100000 in
theorem mX10_bestTool (l : Launch) (hst : l.stackTraces = false) (G : gG) (da : Nat → Nat) (v : vSt) (x : gX) (r : Nat) (hk_r : kd r = 10) (ho : oX10_bestTool r v) : TI l yX10_bestTool cX10_bestTool 2 (some .int) rmX10_bestTool [.ref (ga G r)] G da v x 6 6 (fX10_bestTool r v).1 (fX10_bestTool r v).2 v x := by
  refine gofTI hst (by decide) rfl (Nat.le_of_ble_eq_true rfl) ⟨Nat.le_of_ble_eq_true rfl, Nat.le_of_ble_eq_true rfl, Nat.le_refl _, Nat.le_refl _⟩ (fun p e s m args below meth c ls Q X hH hl E EX ES EW => ?_)
  have hx := X.1
  have hb := X.2.1
  have hown := X.2.2.2.1
  have hts := X.2.2.2.2.1
  have hS : va_S (gA G) s.heap s.heap [] := va_S.rf
  unfold oX10_bestTool at ho
  have hl : lv_has ls 2 [(0, .ref (ga G r))] := hl
  refine lv_aload_n hx hb dX10_bestTool_0 rfl (lv_at hl 0 rfl) ?_
  refine g_VernierDrawers_10 X hH hk_r dX10_bestTool_1 ?_
  have hq1 := ho.1
  have ho := ho.2
  have hq2 := ho
  refine k_X7_bestToolToJudge X hS hH hq1 hq2 t_ml_VernierDrawers_317 hl.1 (Nat.le_of_ble_eq_true rfl) ⟨Nat.le_of_ble_eq_true rfl, Nat.le_of_ble_eq_true rfl⟩ ⟨Nat.zero_le _, Nat.zero_le _⟩ dX10_bestTool_4 ?_
  refine lv_istore_n (lv' := [(1, .int (fX7_bestToolToJudge (rN (v r 0)) v)), (0, .ref (ga G r))]) hx hb dX10_bestTool_7 rfl hl (by decide) rfl (fun ls hl => ?_)
  refine lv_iload_n hx hb dX10_bestTool_8 rfl (lv_at hl 0 rfl) ?_
  refine lv_if_ge (tgt := 23) hx hb dX10_bestTool_9 (by decide) (fun c3 => ?_) (fun c3 => ?_)
  · skip
    refine lv_iload_n hx hb dX10_bestTool_23 rfl (lv_at hl 0 rfl) ?_
    exact E _ _ _ _ _ _ _ _ _ dX10_bestTool_24 rfl (Eq.symm (pr1 ((fX10_bestTool.eq_1 _ _).trans ((if_pos c3).trans rfl)))) (pr2 ((fX10_bestTool.eq_1 _ _).trans ((if_pos c3).trans rfl))) rfl hH hS (Nat.zero_le _) (Nat.zero_le _)
  · skip
    exact EW _ _ _ _ _ _ _ _ _ _ _ _ _ _ (th_3 X) (by decide) (pr1 ((fX10_bestTool.eq_1 _ _).trans ((if_neg c3).trans rfl))) rfl hH hS t_sr_VernierDrawers_320 hl.1 dX10_bestTool_12 dX10_bestTool_15 dX10_bestTool_16 dX10_bestTool_19 dX10_bestTool_22 (Nat.le_of_ble_eq_true rfl) (Nat.le_of_ble_eq_true rfl) (Nat.le_of_ble_eq_true rfl)
theorem k_X10_bestTool {p : Program} {l : Launch} {e : Env} {R : Room} {s : State} {m : MethodId} {args : Array Value} {below : List Frame} {meth : Method} {c : Code} {H : Heap} {locs : List Loc} {cells slots : Nat} {Q : State → Prop} {cc : ByteArray} {pc nL : Nat} {ls : Array Slot} {rest : List Value} {G : gG} {own : String} {da : Nat → Nat} {v : vSt} {x : gX} (hst : l.stackTraces = false) (X : CX G p s m args c cc nL own) (hS : va_S (gA G) s.heap H locs) (hH : Hp G da v x H) {r : Nat} (hk_r : kd r = 10) (ho : oX10_bestTool r v) {idx : Nat} (hml : Cond.methodLink own idx yX10_bestTool ∈ TT) (hls : ls.size = nL) (hsum : (rest.map fun v => v.category).sum ≤ 8) (hR : rmX10_bestTool.frames + 1 ≤ R.frames ∧ 8 + (2 + 11) + rmX10_bestTool.locals ≤ R.locals) (hcs : cells + 6 ≤ R.cells ∧ slots + 6 ≤ R.slots) (hdg : decode cc pc = .ok (.invokevirtual idx, 3)) (kx : ¬ (fX10_bestTool r v).1 = 0 → ∀ (d : Nat → Nat) (ce : Cell) (q9 : Addr) (H1 : Heap) (locs1 : List Loc), Hp G d v x H1 → va_S (gA G) s.heap H1 locs1 → H1[q9]? = some ce → ce.vm = .none → s.vm.findClass (exN (fX10_bestTool r v).1) = some ce.cls → vx_W p l e R s m args below meth c H1 locs1 (cells + 6) (slots + 6) Q (F0 m pc ls rest) q9) (kk : (fX10_bestTool r v).1 = 0 → ∀ (d : Nat → Nat) (H1 : Heap) (locs1 : List Loc), Hp G d v x H1 → va_S (gA G) s.heap H1 locs1 → W p l e R s m args below meth c H1 locs1 (cells + 6) (slots + 6) Q (F0 m (pc + 3) ls (.int (fX10_bestTool r v).2 :: rest))) : W p l e R s m args below meth c H locs cells slots Q (F0 m pc ls (.ref (ga G r) :: rest)) := c_ti (runxV (kp := 0) X.1 X.2.1 X.2.2.1 X.2.2.2.1 X.2.2.2.2.1 (mX10_bestTool l hst G da v x r hk_r ho) pW_bl hml t_im_X10_bestTool t_sel_X10_bestTool t_ini_VernierDrawers t_code_X10_bestTool ⟨rfl, by decide, by decide, by decide +kernel⟩ rfl rfl hR hcs (recvW X hH (by rw [hk_r]; decide) (by rw [hk_r]; decide) (ce_10 hk_r) rfl) (preW X hS hH) rfl hls rfl hsum hdg) hS (fun h9 d9 ce9 q9 H9 L9 v9 e9 hH9 => kx h9 d9 ce9 q9 H9 L9 (by subst e9; exact hH9)) (fun h9 d9 H9 L9 v9 e9 hH9 => kk h9 d9 H9 L9 (by subst e9; exact hH9))
def fX10_whyNotPass (r : Nat) (v : vSt) : Int32 := fX0_reasonNotToPass ((rN (v r 0)) + 2) v
def oX10_whyNotPass (r : Nat) (v : vSt) : Prop := kd (rN (v r 0)) = 7
abbrev rmX10_whyNotPass : Room := { frames := 4, cells := 0, slots := 0, locals := 85 }
theorem dX10_whyNotPass_0 : decode cX10_whyNotPass 0 = .ok (.aload_n 0, 1) := by decide +kernel
theorem dX10_whyNotPass_1 : decode cX10_whyNotPass 1 = .ok (.getfield 10, 3) := by decide +kernel
theorem dX10_whyNotPass_4 : decode cX10_whyNotPass 4 = .ok (.getfield 126, 3) := by decide +kernel
theorem dX10_whyNotPass_7 : decode cX10_whyNotPass 7 = .ok (.invokevirtual 322, 3) := by decide +kernel
theorem dX10_whyNotPass_10 : decode cX10_whyNotPass 10 = .ok (.ireturn, 1) := by decide +kernel
set_option maxHeartbeats 8000000 in
set_option maxRecDepth 100000 in
theorem mX10_whyNotPass (l : Launch) (G : gG) (da : Nat → Nat) (v : vSt) (x : gX) (r : Nat) (hk_r : kd r = 10) (ho : oX10_whyNotPass r v) : QI l yX10_whyNotPass cX10_whyNotPass 1 (some .int) rmX10_whyNotPass [.ref (ga G r)] (pW G da v x) (fX10_whyNotPass r v) := by
  refine gofQ (own := RX10) (by decide) rfl (Nat.le_of_ble_eq_true rfl) (fun p e s m args below meth c ls Q X hH hl E => ?_)
  have hx := X.1
  have hb := X.2.1
  have hown := X.2.2.2.1
  have hts := X.2.2.2.2.1
  have hS : va_S (gA G) s.heap s.heap [] := va_S.rf
  unfold oX10_whyNotPass at ho
  have hl : lv_has ls 1 [(0, .ref (ga G r))] := hl
  refine lv_aload_n hx hb dX10_whyNotPass_0 rfl (lv_at hl 0 rfl) ?_
  refine g_VernierDrawers_10 X hH hk_r dX10_whyNotPass_1 ?_
  have hq1 := ho
  refine g_VernierDrawers_126 X hH hq1 dX10_whyNotPass_4 ?_
  refine k_X0_reasonNotToPass X hS hH (kc_7_0 hq1) t_ml_VernierDrawers_322 hl.1 (Nat.le_of_ble_eq_true rfl) ⟨Nat.le_of_ble_eq_true rfl, Nat.le_of_ble_eq_true rfl⟩ ⟨Nat.zero_le _, Nat.zero_le _⟩ dX10_whyNotPass_7 ?_
  exact E _ _ _ dX10_whyNotPass_10 rfl (Eq.symm rfl)
theorem k_X10_whyNotPass {p : Program} {l : Launch} {e : Env} {R : Room} {s : State} {m : MethodId} {args : Array Value} {below : List Frame} {meth : Method} {c : Code} {H : Heap} {locs : List Loc} {cells slots : Nat} {Q : State → Prop} {cc : ByteArray} {pc nL : Nat} {ls : Array Slot} {rest : List Value} {G : gG} {own : String} {da : Nat → Nat} {v : vSt} {x : gX} (X : CX G p s m args c cc nL own) (hS : va_S (gA G) s.heap H locs) (hH : Hp G da v x H) {r : Nat} (hk_r : kd r = 10) (ho : oX10_whyNotPass r v) {idx : Nat} (hml : Cond.methodLink own idx yX10_whyNotPass ∈ TT) (hls : ls.size = nL) (hsum : (rest.map fun v => v.category).sum ≤ 8) (hR : rmX10_whyNotPass.frames + 1 ≤ R.frames ∧ 8 + (1 + 11) + rmX10_whyNotPass.locals ≤ R.locals) (hcs : cells ≤ R.cells ∧ slots ≤ R.slots) (hdg : decode cc pc = .ok (.invokevirtual idx, 3)) (kk : W p l e R s m args below meth c H locs cells slots Q (F0 m (pc + 3) ls (.int (fX10_whyNotPass r v) :: rest))) : W p l e R s m args below meth c H locs cells slots Q (F0 m pc ls (.ref (ga G r) :: rest)) := c_qi (runV (k := 0) X.1 X.2.1 X.2.2.1 X.2.2.2.1 X.2.2.2.2.1 (mX10_whyNotPass l G da v x r hk_r ho) pW_bl hml t_im_X10_whyNotPass t_sel_X10_whyNotPass t_ini_VernierDrawers t_code_X10_whyNotPass ⟨rfl, by decide, by decide, by decide +kernel⟩ rfl rfl hR hcs (recvW X hH (by rw [hk_r]; decide) (by rw [hk_r]; decide) (ce_10 hk_r) rfl) (preW X hS hH) rfl hls rfl hsum hdg) (fun _ h => h ▸ kk)
def fX10_days (r : Nat) (v : vSt) : Int32 := v ((rN (v r 0)) + 1) 5
def oX10_days (r : Nat) (v : vSt) : Prop := kd (rN (v r 0)) = 7
abbrev rmX10_days : Room := { frames := 0, cells := 0, slots := 0, locals := 0 }
theorem dX10_days_0 : decode cX10_days 0 = .ok (.aload_n 0, 1) := by decide +kernel
theorem dX10_days_1 : decode cX10_days 1 = .ok (.getfield 10, 3) := by decide +kernel
theorem dX10_days_4 : decode cX10_days 4 = .ok (.getfield 41, 3) := by decide +kernel
theorem dX10_days_7 : decode cX10_days 7 = .ok (.getfield 114, 3) := by decide +kernel
theorem dX10_days_10 : decode cX10_days 10 = .ok (.ireturn, 1) := by decide +kernel
set_option maxHeartbeats 8000000 in
set_option maxRecDepth 100000 in
theorem mX10_days (l : Launch) (G : gG) (da : Nat → Nat) (v : vSt) (x : gX) (r : Nat) (hk_r : kd r = 10) (ho : oX10_days r v) : QI l yX10_days cX10_days 1 (some .int) rmX10_days [.ref (ga G r)] (pW G da v x) (fX10_days r v) := by
  refine gofQ (own := RX10) (by decide) rfl (Nat.le_of_ble_eq_true rfl) (fun p e s m args below meth c ls Q X hH hl E => ?_)
  have hx := X.1
  have hb := X.2.1
  have hown := X.2.2.2.1
  have hts := X.2.2.2.2.1
  have hS : va_S (gA G) s.heap s.heap [] := va_S.rf
  unfold oX10_days at ho
  have hl : lv_has ls 1 [(0, .ref (ga G r))] := hl
  refine lv_aload_n hx hb dX10_days_0 rfl (lv_at hl 0 rfl) ?_
  refine g_VernierDrawers_10 X hH hk_r dX10_days_1 ?_
  have hq1 := ho
  refine g_VernierDrawers_41 X hH hq1 dX10_days_4 ?_
  refine g_VernierDrawers_114 X hH (kc_7_2 hq1) dX10_days_7 ?_
  exact E _ _ _ dX10_days_10 rfl (Eq.symm rfl)
theorem k_X10_days {p : Program} {l : Launch} {e : Env} {R : Room} {s : State} {m : MethodId} {args : Array Value} {below : List Frame} {meth : Method} {c : Code} {H : Heap} {locs : List Loc} {cells slots : Nat} {Q : State → Prop} {cc : ByteArray} {pc nL : Nat} {ls : Array Slot} {rest : List Value} {G : gG} {own : String} {da : Nat → Nat} {v : vSt} {x : gX} (X : CX G p s m args c cc nL own) (hS : va_S (gA G) s.heap H locs) (hH : Hp G da v x H) {r : Nat} (hk_r : kd r = 10) (ho : oX10_days r v) {idx : Nat} (hml : Cond.methodLink own idx yX10_days ∈ TT) (hls : ls.size = nL) (hsum : (rest.map fun v => v.category).sum ≤ 8) (hR : rmX10_days.frames + 1 ≤ R.frames ∧ 8 + (1 + 11) + rmX10_days.locals ≤ R.locals) (hcs : cells ≤ R.cells ∧ slots ≤ R.slots) (hdg : decode cc pc = .ok (.invokevirtual idx, 3)) (kk : W p l e R s m args below meth c H locs cells slots Q (F0 m (pc + 3) ls (.int (fX10_days r v) :: rest))) : W p l e R s m args below meth c H locs cells slots Q (F0 m pc ls (.ref (ga G r) :: rest)) := c_qi (runV (k := 0) X.1 X.2.1 X.2.2.1 X.2.2.2.1 X.2.2.2.2.1 (mX10_days l G da v x r hk_r ho) pW_bl hml t_im_X10_days t_sel_X10_days t_ini_VernierDrawers t_code_X10_days ⟨rfl, by decide, by decide, by decide +kernel⟩ rfl rfl hR hcs (recvW X hH (by rw [hk_r]; decide) (by rw [hk_r]; decide) (ce_10 hk_r) rfl) (preW X hS hH) rfl hls rfl hsum hdg) (fun _ h => h ▸ kk)
def fX10_brought (r : Nat) (v : vSt) : Int32 := v ((rN (v r 0)) + 2) 5
def oX10_brought (r : Nat) (v : vSt) : Prop := kd (rN (v r 0)) = 7
abbrev rmX10_brought : Room := { frames := 0, cells := 0, slots := 0, locals := 0 }
theorem dX10_brought_0 : decode cX10_brought 0 = .ok (.aload_n 0, 1) := by decide +kernel
theorem dX10_brought_1 : decode cX10_brought 1 = .ok (.getfield 10, 3) := by decide +kernel
theorem dX10_brought_4 : decode cX10_brought 4 = .ok (.getfield 126, 3) := by decide +kernel
theorem dX10_brought_7 : decode cX10_brought 7 = .ok (.getfield 371, 3) := by decide +kernel
theorem dX10_brought_10 : decode cX10_brought 10 = .ok (.ireturn, 1) := by decide +kernel
set_option maxHeartbeats 8000000 in
set_option maxRecDepth 100000 in
theorem mX10_brought (l : Launch) (G : gG) (da : Nat → Nat) (v : vSt) (x : gX) (r : Nat) (hk_r : kd r = 10) (ho : oX10_brought r v) : QI l yX10_brought cX10_brought 1 (some .int) rmX10_brought [.ref (ga G r)] (pW G da v x) (fX10_brought r v) := by
  refine gofQ (own := RX10) (by decide) rfl (Nat.le_of_ble_eq_true rfl) (fun p e s m args below meth c ls Q X hH hl E => ?_)
  have hx := X.1
  have hb := X.2.1
  have hown := X.2.2.2.1
  have hts := X.2.2.2.2.1
  have hS : va_S (gA G) s.heap s.heap [] := va_S.rf
  unfold oX10_brought at ho
  have hl : lv_has ls 1 [(0, .ref (ga G r))] := hl
  refine lv_aload_n hx hb dX10_brought_0 rfl (lv_at hl 0 rfl) ?_
  refine g_VernierDrawers_10 X hH hk_r dX10_brought_1 ?_
  have hq1 := ho
  refine g_VernierDrawers_126 X hH hq1 dX10_brought_4 ?_
  refine g_VernierDrawers_371 X hH (kc_7_0 hq1) dX10_brought_7 ?_
  exact E _ _ _ dX10_brought_10 rfl (Eq.symm rfl)
theorem k_X10_brought {p : Program} {l : Launch} {e : Env} {R : Room} {s : State} {m : MethodId} {args : Array Value} {below : List Frame} {meth : Method} {c : Code} {H : Heap} {locs : List Loc} {cells slots : Nat} {Q : State → Prop} {cc : ByteArray} {pc nL : Nat} {ls : Array Slot} {rest : List Value} {G : gG} {own : String} {da : Nat → Nat} {v : vSt} {x : gX} (X : CX G p s m args c cc nL own) (hS : va_S (gA G) s.heap H locs) (hH : Hp G da v x H) {r : Nat} (hk_r : kd r = 10) (ho : oX10_brought r v) {idx : Nat} (hml : Cond.methodLink own idx yX10_brought ∈ TT) (hls : ls.size = nL) (hsum : (rest.map fun v => v.category).sum ≤ 8) (hR : rmX10_brought.frames + 1 ≤ R.frames ∧ 8 + (1 + 11) + rmX10_brought.locals ≤ R.locals) (hcs : cells ≤ R.cells ∧ slots ≤ R.slots) (hdg : decode cc pc = .ok (.invokevirtual idx, 3)) (kk : W p l e R s m args below meth c H locs cells slots Q (F0 m (pc + 3) ls (.int (fX10_brought r v) :: rest))) : W p l e R s m args below meth c H locs cells slots Q (F0 m pc ls (.ref (ga G r) :: rest)) := c_qi (runV (k := 0) X.1 X.2.1 X.2.2.1 X.2.2.2.1 X.2.2.2.2.1 (mX10_brought l G da v x r hk_r ho) pW_bl hml t_im_X10_brought t_sel_X10_brought t_ini_VernierDrawers t_code_X10_brought ⟨rfl, by decide, by decide, by decide +kernel⟩ rfl rfl hR hcs (recvW X hH (by rw [hk_r]; decide) (by rw [hk_r]; decide) (ce_10 hk_r) rfl) (preW X hS hH) rfl hls rfl hsum hdg) (fun _ h => h ▸ kk)
