/-! VernierDrawers: what asks the trial. -/
def fX10_faultPosition (r : Nat) (v : vSt) : Nat × Int32 × vSt := let v4 : vSt := fX9_run 451 (rN (v r 0)) 450 (v r 6) v; if fX10_needFault r v4 = 0 then ((0, v4 451 3, v4)) else ((fX10_needFault r v4, 0, v4))

def kkX10_faultPosition (r : Nat) (v : vSt) : Nat := pot ((fX10_faultPosition r v).2.2) - pot v + 36
def oX10_faultPosition (r : Nat) (v : vSt) : Prop := (kd (rN (v r 0)) = 7) ∧ ((oX9_run 451 (rN (v r 0)) 450 (v r 6) v) ∧ ((0 + kkX9_run 451 (rN (v r 0)) 450 (v r 6) v ≤ kkX10_faultPosition r v) ∧ (∀ v4 : vSt, v4 = (fX9_run 451 (rN (v r 0)) 450 (v r 6) v) → ((0 + kkX9_run 451 (rN (v r 0)) 450 (v r 6) v) + 6 ≤ kkX10_faultPosition r v))))
abbrev rmX10_faultPosition (r : Nat) (v : vSt) : Room := { frames := 8, cells := kkX10_faultPosition r v, slots := kkX10_faultPosition r v, locals := 231 }
theorem dX10_faultPosition_0 : decode cX10_faultPosition 0 = .ok (.aload_n 0, 1) := by decide +kernel
theorem dX10_faultPosition_1 : decode cX10_faultPosition 1 = .ok (.getfield 30, 3) := by decide +kernel
theorem dX10_faultPosition_4 : decode cX10_faultPosition 4 = .ok (.aload_n 0, 1) := by decide +kernel
theorem dX10_faultPosition_5 : decode cX10_faultPosition 5 = .ok (.getfield 10, 3) := by decide +kernel
theorem dX10_faultPosition_8 : decode cX10_faultPosition 8 = .ok (.aload_n 0, 1) := by decide +kernel
theorem dX10_faultPosition_9 : decode cX10_faultPosition 9 = .ok (.getfield 23, 3) := by decide +kernel
theorem dX10_faultPosition_12 : decode cX10_faultPosition 12 = .ok (.aload_n 0, 1) := by decide +kernel
theorem dX10_faultPosition_13 : decode cX10_faultPosition 13 = .ok (.getfield 408, 3) := by decide +kernel
theorem dX10_faultPosition_16 : decode cX10_faultPosition 16 = .ok (.invokevirtual 413, 3) := by decide +kernel
theorem dX10_faultPosition_19 : decode cX10_faultPosition 19 = .ok (.aload_n 0, 1) := by decide +kernel
theorem dX10_faultPosition_20 : decode cX10_faultPosition 20 = .ok (.invokevirtual 417, 3) := by decide +kernel
theorem dX10_faultPosition_23 : decode cX10_faultPosition 23 = .ok (.aload_n 0, 1) := by decide +kernel
theorem dX10_faultPosition_24 : decode cX10_faultPosition 24 = .ok (.getfield 30, 3) := by decide +kernel
theorem dX10_faultPosition_27 : decode cX10_faultPosition 27 = .ok (.getfield 420, 3) := by decide +kernel
theorem dX10_faultPosition_30 : decode cX10_faultPosition 30 = .ok (.ireturn, 1) := by decide +kernel
set_option maxHeartbeats 8000000 in
set_option maxRecDepth 100000 in
theorem mX10_faultPosition (l : Launch) (hst : l.stackTraces = false) (G : gG) (da : Nat → Nat) (v : vSt) (x : gX) (r : Nat) (hk_r : kd r = 10) (ho : oX10_faultPosition r v) : TI l yX10_faultPosition cX10_faultPosition 1 (some .int) (rmX10_faultPosition r v) [.ref (ga G r)] G da v x (kkX10_faultPosition r v) (kkX10_faultPosition r v) (fX10_faultPosition r v).1 (fX10_faultPosition r v).2.1 (fX10_faultPosition r v).2.2 x := by
  refine gofTI hst (by decide) rfl (Nat.le_of_ble_eq_true rfl) ⟨Nat.le_of_ble_eq_true rfl, Nat.le_of_ble_eq_true rfl, Nat.le_refl _, Nat.le_refl _⟩ (fun p e s m args below meth c ls Q X hH hl E EX ES EW => ?_)
  have hx := X.1
  have hb := X.2.1
  have hown := X.2.2.2.1
  have hts := X.2.2.2.2.1
  have hS : va_S (gA G) s.heap s.heap [] := va_S.rf
  unfold oX10_faultPosition at ho
  have hl : lv_has ls 1 [(0, .ref (ga G r))] := hl
  refine lv_aload_n hx hb dX10_faultPosition_0 rfl (lv_at hl 0 rfl) ?_
  refine g_VernierDrawers_30 X hH hk_r dX10_faultPosition_1 ?_
  refine lv_aload_n hx hb dX10_faultPosition_4 rfl (lv_at hl 0 rfl) ?_
  refine g_VernierDrawers_10 X hH hk_r dX10_faultPosition_5 ?_
  have hq1 := ho.1
  have ho := ho.2
  refine lv_aload_n hx hb dX10_faultPosition_8 rfl (lv_at hl 0 rfl) ?_
  refine g_VernierDrawers_23 X hH hk_r dX10_faultPosition_9 ?_
  refine lv_aload_n hx hb dX10_faultPosition_12 rfl (lv_at hl 0 rfl) ?_
  refine g_VernierDrawers_408 X hH hk_r dX10_faultPosition_13 ?_
  have hq2 := ho.1
  have ho := ho.2
  have hq3 := ho.1
  have ho := ho.2
  refine k_X9_run X hS hH kd_451 hq1 kd_450 hq2 t_ml_VernierDrawers_413 hl.1 (Nat.le_of_ble_eq_true rfl) ⟨Nat.le_of_ble_eq_true rfl, Nat.le_of_ble_eq_true rfl⟩ ⟨hq3, hq3⟩ dX10_faultPosition_16 (fun da H locs v4 ev4 hH hS => ?_)
  have ho := ho v4 ev4
  refine lv_aload_n hx hb dX10_faultPosition_19 rfl (lv_at hl 0 rfl) ?_
  have hq5 := ho
  refine k_X10_needFault hst X hS hH hk_r t_ml_VernierDrawers_417 hl.1 (Nat.le_of_ble_eq_true rfl) ⟨Nat.le_of_ble_eq_true rfl, Nat.le_of_ble_eq_true rfl⟩ ⟨hq5, hq5⟩ dX10_faultPosition_20 (fun c6 da ce9 q9 H locs hH hS g1 g2 g3 => ?_) (fun c6 da H locs hH hS => ?_)
  · skip
    replace ev4 := Eq.symm ev4
    subst ev4
    exact EX _ _ _ _ _ _ _ _ _ _ _ _ c6 (t31 ((fX10_faultPosition.eq_1 _ _).trans ((if_neg c6).trans rfl))) (t33 ((fX10_faultPosition.eq_1 _ _).trans ((if_neg c6).trans rfl))) hH hS g1 g2 g3 hq5 hq5
  · skip
    refine lv_aload_n hx hb dX10_faultPosition_23 rfl (lv_at hl 0 rfl) ?_
    refine g_VernierDrawers_30 X hH hk_r dX10_faultPosition_24 ?_
    refine g_VernierDrawers_420 X hH kd_451 dX10_faultPosition_27 ?_
    replace ev4 := Eq.symm ev4
    subst ev4
    exact E _ _ _ _ _ _ _ _ _ dX10_faultPosition_30 rfl (Eq.symm (t31 ((fX10_faultPosition.eq_1 _ _).trans ((if_pos c6).trans rfl)))) (t32 ((fX10_faultPosition.eq_1 _ _).trans ((if_pos c6).trans rfl))) (t33 ((fX10_faultPosition.eq_1 _ _).trans ((if_pos c6).trans rfl))) hH hS hq5 hq5
theorem k_X10_faultPosition {p : Program} {l : Launch} {e : Env} {R : Room} {s : State} {m : MethodId} {args : Array Value} {below : List Frame} {meth : Method} {c : Code} {H : Heap} {locs : List Loc} {cells slots : Nat} {Q : State → Prop} {cc : ByteArray} {pc nL : Nat} {ls : Array Slot} {rest : List Value} {G : gG} {own : String} {da : Nat → Nat} {v : vSt} {x : gX} (hst : l.stackTraces = false) (X : CX G p s m args c cc nL own) (hS : va_S (gA G) s.heap H locs) (hH : Hp G da v x H) {r : Nat} (hk_r : kd r = 10) (ho : oX10_faultPosition r v) {idx : Nat} (hml : Cond.methodLink own idx yX10_faultPosition ∈ TT) (hls : ls.size = nL) (hsum : (rest.map fun v => v.category).sum ≤ 8) (hR : (rmX10_faultPosition r v).frames + 1 ≤ R.frames ∧ 8 + (1 + 11) + (rmX10_faultPosition r v).locals ≤ R.locals) (hcs : cells + (kkX10_faultPosition r v) ≤ R.cells ∧ slots + (kkX10_faultPosition r v) ≤ R.slots) (hdg : decode cc pc = .ok (.invokevirtual idx, 3)) (kx : ¬ (fX10_faultPosition r v).1 = 0 → ∀ (d : Nat → Nat) (ce : Cell) (q9 : Addr) (H1 : Heap) (locs1 : List Loc) (v1 : vSt), v1 = (fX10_faultPosition r v).2.2 → Hp G d v1 x H1 → va_S (gA G) s.heap H1 locs1 → H1[q9]? = some ce → ce.vm = .none → s.vm.findClass (exN (fX10_faultPosition r v).1) = some ce.cls → vx_W p l e R s m args below meth c H1 locs1 (cells + (kkX10_faultPosition r v)) (slots + (kkX10_faultPosition r v)) Q (F0 m pc ls rest) q9) (kk : (fX10_faultPosition r v).1 = 0 → ∀ (d : Nat → Nat) (H1 : Heap) (locs1 : List Loc) (v1 : vSt), v1 = (fX10_faultPosition r v).2.2 → Hp G d v1 x H1 → va_S (gA G) s.heap H1 locs1 → W p l e R s m args below meth c H1 locs1 (cells + (kkX10_faultPosition r v)) (slots + (kkX10_faultPosition r v)) Q (F0 m (pc + 3) ls (.int (fX10_faultPosition r v).2.1 :: rest))) : W p l e R s m args below meth c H locs cells slots Q (F0 m pc ls (.ref (ga G r) :: rest)) := c_ti (runxV (kp := 0) X.1 X.2.1 X.2.2.1 X.2.2.2.1 X.2.2.2.2.1 (mX10_faultPosition l hst G da v x r hk_r ho) pW_bl hml t_im_X10_faultPosition t_sel_X10_faultPosition t_ini_VernierDrawers t_code_X10_faultPosition ⟨rfl, by decide, by decide, by decide +kernel⟩ rfl rfl hR hcs (recvW X hH (by rw [hk_r]; decide) (by rw [hk_r]; decide) (ce_10 hk_r) rfl) (preW X hS hH) rfl hls rfl hsum hdg) hS kx kk
def fX10_faultReason (r : Nat) (v : vSt) : Nat × Int32 × vSt := let v4 : vSt := fX9_run 451 (rN (v r 0)) 450 (v r 6) v; if fX10_needFault r v4 = 0 then ((0, v4 451 4, v4)) else ((fX10_needFault r v4, 0, v4))

def kkX10_faultReason (r : Nat) (v : vSt) : Nat := pot ((fX10_faultReason r v).2.2) - pot v + 36
def oX10_faultReason (r : Nat) (v : vSt) : Prop := (kd (rN (v r 0)) = 7) ∧ ((oX9_run 451 (rN (v r 0)) 450 (v r 6) v) ∧ ((0 + kkX9_run 451 (rN (v r 0)) 450 (v r 6) v ≤ kkX10_faultReason r v) ∧ (∀ v4 : vSt, v4 = (fX9_run 451 (rN (v r 0)) 450 (v r 6) v) → ((0 + kkX9_run 451 (rN (v r 0)) 450 (v r 6) v) + 6 ≤ kkX10_faultReason r v))))
abbrev rmX10_faultReason (r : Nat) (v : vSt) : Room := { frames := 8, cells := kkX10_faultReason r v, slots := kkX10_faultReason r v, locals := 231 }
theorem dX10_faultReason_0 : decode cX10_faultReason 0 = .ok (.aload_n 0, 1) := by decide +kernel
theorem dX10_faultReason_1 : decode cX10_faultReason 1 = .ok (.getfield 30, 3) := by decide +kernel
theorem dX10_faultReason_4 : decode cX10_faultReason 4 = .ok (.aload_n 0, 1) := by decide +kernel
theorem dX10_faultReason_5 : decode cX10_faultReason 5 = .ok (.getfield 10, 3) := by decide +kernel
theorem dX10_faultReason_8 : decode cX10_faultReason 8 = .ok (.aload_n 0, 1) := by decide +kernel
theorem dX10_faultReason_9 : decode cX10_faultReason 9 = .ok (.getfield 23, 3) := by decide +kernel
theorem dX10_faultReason_12 : decode cX10_faultReason 12 = .ok (.aload_n 0, 1) := by decide +kernel
theorem dX10_faultReason_13 : decode cX10_faultReason 13 = .ok (.getfield 408, 3) := by decide +kernel
theorem dX10_faultReason_16 : decode cX10_faultReason 16 = .ok (.invokevirtual 413, 3) := by decide +kernel
theorem dX10_faultReason_19 : decode cX10_faultReason 19 = .ok (.aload_n 0, 1) := by decide +kernel
theorem dX10_faultReason_20 : decode cX10_faultReason 20 = .ok (.invokevirtual 417, 3) := by decide +kernel
theorem dX10_faultReason_23 : decode cX10_faultReason 23 = .ok (.aload_n 0, 1) := by decide +kernel
theorem dX10_faultReason_24 : decode cX10_faultReason 24 = .ok (.getfield 30, 3) := by decide +kernel
theorem dX10_faultReason_27 : decode cX10_faultReason 27 = .ok (.getfield 423, 3) := by decide +kernel
theorem dX10_faultReason_30 : decode cX10_faultReason 30 = .ok (.ireturn, 1) := by decide +kernel
set_option maxHeartbeats 8000000 in
set_option maxRecDepth 100000 in
theorem mX10_faultReason (l : Launch) (hst : l.stackTraces = false) (G : gG) (da : Nat → Nat) (v : vSt) (x : gX) (r : Nat) (hk_r : kd r = 10) (ho : oX10_faultReason r v) : TI l yX10_faultReason cX10_faultReason 1 (some .int) (rmX10_faultReason r v) [.ref (ga G r)] G da v x (kkX10_faultReason r v) (kkX10_faultReason r v) (fX10_faultReason r v).1 (fX10_faultReason r v).2.1 (fX10_faultReason r v).2.2 x := by
  refine gofTI hst (by decide) rfl (Nat.le_of_ble_eq_true rfl) ⟨Nat.le_of_ble_eq_true rfl, Nat.le_of_ble_eq_true rfl, Nat.le_refl _, Nat.le_refl _⟩ (fun p e s m args below meth c ls Q X hH hl E EX ES EW => ?_)
  have hx := X.1
  have hb := X.2.1
  have hown := X.2.2.2.1
  have hts := X.2.2.2.2.1
  have hS : va_S (gA G) s.heap s.heap [] := va_S.rf
  unfold oX10_faultReason at ho
  have hl : lv_has ls 1 [(0, .ref (ga G r))] := hl
  refine lv_aload_n hx hb dX10_faultReason_0 rfl (lv_at hl 0 rfl) ?_
  refine g_VernierDrawers_30 X hH hk_r dX10_faultReason_1 ?_
  refine lv_aload_n hx hb dX10_faultReason_4 rfl (lv_at hl 0 rfl) ?_
  refine g_VernierDrawers_10 X hH hk_r dX10_faultReason_5 ?_
  have hq1 := ho.1
  have ho := ho.2
  refine lv_aload_n hx hb dX10_faultReason_8 rfl (lv_at hl 0 rfl) ?_
  refine g_VernierDrawers_23 X hH hk_r dX10_faultReason_9 ?_
  refine lv_aload_n hx hb dX10_faultReason_12 rfl (lv_at hl 0 rfl) ?_
  refine g_VernierDrawers_408 X hH hk_r dX10_faultReason_13 ?_
  have hq2 := ho.1
  have ho := ho.2
  have hq3 := ho.1
  have ho := ho.2
  refine k_X9_run X hS hH kd_451 hq1 kd_450 hq2 t_ml_VernierDrawers_413 hl.1 (Nat.le_of_ble_eq_true rfl) ⟨Nat.le_of_ble_eq_true rfl, Nat.le_of_ble_eq_true rfl⟩ ⟨hq3, hq3⟩ dX10_faultReason_16 (fun da H locs v4 ev4 hH hS => ?_)
  have ho := ho v4 ev4
  refine lv_aload_n hx hb dX10_faultReason_19 rfl (lv_at hl 0 rfl) ?_
  have hq5 := ho
  refine k_X10_needFault hst X hS hH hk_r t_ml_VernierDrawers_417 hl.1 (Nat.le_of_ble_eq_true rfl) ⟨Nat.le_of_ble_eq_true rfl, Nat.le_of_ble_eq_true rfl⟩ ⟨hq5, hq5⟩ dX10_faultReason_20 (fun c6 da ce9 q9 H locs hH hS g1 g2 g3 => ?_) (fun c6 da H locs hH hS => ?_)
  · skip
    replace ev4 := Eq.symm ev4
    subst ev4
    exact EX _ _ _ _ _ _ _ _ _ _ _ _ c6 (t31 ((fX10_faultReason.eq_1 _ _).trans ((if_neg c6).trans rfl))) (t33 ((fX10_faultReason.eq_1 _ _).trans ((if_neg c6).trans rfl))) hH hS g1 g2 g3 hq5 hq5
  · skip
    refine lv_aload_n hx hb dX10_faultReason_23 rfl (lv_at hl 0 rfl) ?_
    refine g_VernierDrawers_30 X hH hk_r dX10_faultReason_24 ?_
    refine g_VernierDrawers_423 X hH kd_451 dX10_faultReason_27 ?_
    replace ev4 := Eq.symm ev4
    subst ev4
    exact E _ _ _ _ _ _ _ _ _ dX10_faultReason_30 rfl (Eq.symm (t31 ((fX10_faultReason.eq_1 _ _).trans ((if_pos c6).trans rfl)))) (t32 ((fX10_faultReason.eq_1 _ _).trans ((if_pos c6).trans rfl))) (t33 ((fX10_faultReason.eq_1 _ _).trans ((if_pos c6).trans rfl))) hH hS hq5 hq5
theorem k_X10_faultReason {p : Program} {l : Launch} {e : Env} {R : Room} {s : State} {m : MethodId} {args : Array Value} {below : List Frame} {meth : Method} {c : Code} {H : Heap} {locs : List Loc} {cells slots : Nat} {Q : State → Prop} {cc : ByteArray} {pc nL : Nat} {ls : Array Slot} {rest : List Value} {G : gG} {own : String} {da : Nat → Nat} {v : vSt} {x : gX} (hst : l.stackTraces = false) (X : CX G p s m args c cc nL own) (hS : va_S (gA G) s.heap H locs) (hH : Hp G da v x H) {r : Nat} (hk_r : kd r = 10) (ho : oX10_faultReason r v) {idx : Nat} (hml : Cond.methodLink own idx yX10_faultReason ∈ TT) (hls : ls.size = nL) (hsum : (rest.map fun v => v.category).sum ≤ 8) (hR : (rmX10_faultReason r v).frames + 1 ≤ R.frames ∧ 8 + (1 + 11) + (rmX10_faultReason r v).locals ≤ R.locals) (hcs : cells + (kkX10_faultReason r v) ≤ R.cells ∧ slots + (kkX10_faultReason r v) ≤ R.slots) (hdg : decode cc pc = .ok (.invokevirtual idx, 3)) (kx : ¬ (fX10_faultReason r v).1 = 0 → ∀ (d : Nat → Nat) (ce : Cell) (q9 : Addr) (H1 : Heap) (locs1 : List Loc) (v1 : vSt), v1 = (fX10_faultReason r v).2.2 → Hp G d v1 x H1 → va_S (gA G) s.heap H1 locs1 → H1[q9]? = some ce → ce.vm = .none → s.vm.findClass (exN (fX10_faultReason r v).1) = some ce.cls → vx_W p l e R s m args below meth c H1 locs1 (cells + (kkX10_faultReason r v)) (slots + (kkX10_faultReason r v)) Q (F0 m pc ls rest) q9) (kk : (fX10_faultReason r v).1 = 0 → ∀ (d : Nat → Nat) (H1 : Heap) (locs1 : List Loc) (v1 : vSt), v1 = (fX10_faultReason r v).2.2 → Hp G d v1 x H1 → va_S (gA G) s.heap H1 locs1 → W p l e R s m args below meth c H1 locs1 (cells + (kkX10_faultReason r v)) (slots + (kkX10_faultReason r v)) Q (F0 m (pc + 3) ls (.int (fX10_faultReason r v).2.1 :: rest))) : W p l e R s m args below meth c H locs cells slots Q (F0 m pc ls (.ref (ga G r) :: rest)) := c_ti (runxV (kp := 0) X.1 X.2.1 X.2.2.1 X.2.2.2.1 X.2.2.2.2.1 (mX10_faultReason l hst G da v x r hk_r ho) pW_bl hml t_im_X10_faultReason t_sel_X10_faultReason t_ini_VernierDrawers t_code_X10_faultReason ⟨rfl, by decide, by decide, by decide +kernel⟩ rfl rfl hR hcs (recvW X hH (by rw [hk_r]; decide) (by rw [hk_r]; decide) (ce_10 hk_r) rfl) (preW X hS hH) rfl hls rfl hsum hdg) hS kx kk
def fX10_faultCause (r : Nat) (v : vSt) : Nat × Int32 × vSt := let v4 : vSt := fX9_run 451 (rN (v r 0)) 450 (v r 6) v; if fX10_needFault r v4 = 0 then ((0, v4 451 5, v4)) else ((fX10_needFault r v4, 0, v4))

def kkX10_faultCause (r : Nat) (v : vSt) : Nat := pot ((fX10_faultCause r v).2.2) - pot v + 36
def oX10_faultCause (r : Nat) (v : vSt) : Prop := (kd (rN (v r 0)) = 7) ∧ ((oX9_run 451 (rN (v r 0)) 450 (v r 6) v) ∧ ((0 + kkX9_run 451 (rN (v r 0)) 450 (v r 6) v ≤ kkX10_faultCause r v) ∧ (∀ v4 : vSt, v4 = (fX9_run 451 (rN (v r 0)) 450 (v r 6) v) → ((0 + kkX9_run 451 (rN (v r 0)) 450 (v r 6) v) + 6 ≤ kkX10_faultCause r v))))
abbrev rmX10_faultCause (r : Nat) (v : vSt) : Room := { frames := 8, cells := kkX10_faultCause r v, slots := kkX10_faultCause r v, locals := 231 }
theorem dX10_faultCause_0 : decode cX10_faultCause 0 = .ok (.aload_n 0, 1) := by decide +kernel
theorem dX10_faultCause_1 : decode cX10_faultCause 1 = .ok (.getfield 30, 3) := by decide +kernel
theorem dX10_faultCause_4 : decode cX10_faultCause 4 = .ok (.aload_n 0, 1) := by decide +kernel
theorem dX10_faultCause_5 : decode cX10_faultCause 5 = .ok (.getfield 10, 3) := by decide +kernel
theorem dX10_faultCause_8 : decode cX10_faultCause 8 = .ok (.aload_n 0, 1) := by decide +kernel
theorem dX10_faultCause_9 : decode cX10_faultCause 9 = .ok (.getfield 23, 3) := by decide +kernel
theorem dX10_faultCause_12 : decode cX10_faultCause 12 = .ok (.aload_n 0, 1) := by decide +kernel
theorem dX10_faultCause_13 : decode cX10_faultCause 13 = .ok (.getfield 408, 3) := by decide +kernel
theorem dX10_faultCause_16 : decode cX10_faultCause 16 = .ok (.invokevirtual 413, 3) := by decide +kernel
theorem dX10_faultCause_19 : decode cX10_faultCause 19 = .ok (.aload_n 0, 1) := by decide +kernel
theorem dX10_faultCause_20 : decode cX10_faultCause 20 = .ok (.invokevirtual 417, 3) := by decide +kernel
theorem dX10_faultCause_23 : decode cX10_faultCause 23 = .ok (.aload_n 0, 1) := by decide +kernel
theorem dX10_faultCause_24 : decode cX10_faultCause 24 = .ok (.getfield 30, 3) := by decide +kernel
theorem dX10_faultCause_27 : decode cX10_faultCause 27 = .ok (.getfield 426, 3) := by decide +kernel
theorem dX10_faultCause_30 : decode cX10_faultCause 30 = .ok (.ireturn, 1) := by decide +kernel
set_option maxHeartbeats 8000000 in
set_option maxRecDepth 100000 in
theorem mX10_faultCause (l : Launch) (hst : l.stackTraces = false) (G : gG) (da : Nat → Nat) (v : vSt) (x : gX) (r : Nat) (hk_r : kd r = 10) (ho : oX10_faultCause r v) : TI l yX10_faultCause cX10_faultCause 1 (some .int) (rmX10_faultCause r v) [.ref (ga G r)] G da v x (kkX10_faultCause r v) (kkX10_faultCause r v) (fX10_faultCause r v).1 (fX10_faultCause r v).2.1 (fX10_faultCause r v).2.2 x := by
  refine gofTI hst (by decide) rfl (Nat.le_of_ble_eq_true rfl) ⟨Nat.le_of_ble_eq_true rfl, Nat.le_of_ble_eq_true rfl, Nat.le_refl _, Nat.le_refl _⟩ (fun p e s m args below meth c ls Q X hH hl E EX ES EW => ?_)
  have hx := X.1
  have hb := X.2.1
  have hown := X.2.2.2.1
  have hts := X.2.2.2.2.1
  have hS : va_S (gA G) s.heap s.heap [] := va_S.rf
  unfold oX10_faultCause at ho
  have hl : lv_has ls 1 [(0, .ref (ga G r))] := hl
  refine lv_aload_n hx hb dX10_faultCause_0 rfl (lv_at hl 0 rfl) ?_
  refine g_VernierDrawers_30 X hH hk_r dX10_faultCause_1 ?_
  refine lv_aload_n hx hb dX10_faultCause_4 rfl (lv_at hl 0 rfl) ?_
  refine g_VernierDrawers_10 X hH hk_r dX10_faultCause_5 ?_
  have hq1 := ho.1
  have ho := ho.2
  refine lv_aload_n hx hb dX10_faultCause_8 rfl (lv_at hl 0 rfl) ?_
  refine g_VernierDrawers_23 X hH hk_r dX10_faultCause_9 ?_
  refine lv_aload_n hx hb dX10_faultCause_12 rfl (lv_at hl 0 rfl) ?_
  refine g_VernierDrawers_408 X hH hk_r dX10_faultCause_13 ?_
  have hq2 := ho.1
  have ho := ho.2
  have hq3 := ho.1
  have ho := ho.2
  refine k_X9_run X hS hH kd_451 hq1 kd_450 hq2 t_ml_VernierDrawers_413 hl.1 (Nat.le_of_ble_eq_true rfl) ⟨Nat.le_of_ble_eq_true rfl, Nat.le_of_ble_eq_true rfl⟩ ⟨hq3, hq3⟩ dX10_faultCause_16 (fun da H locs v4 ev4 hH hS => ?_)
  have ho := ho v4 ev4
  refine lv_aload_n hx hb dX10_faultCause_19 rfl (lv_at hl 0 rfl) ?_
  have hq5 := ho
  refine k_X10_needFault hst X hS hH hk_r t_ml_VernierDrawers_417 hl.1 (Nat.le_of_ble_eq_true rfl) ⟨Nat.le_of_ble_eq_true rfl, Nat.le_of_ble_eq_true rfl⟩ ⟨hq5, hq5⟩ dX10_faultCause_20 (fun c6 da ce9 q9 H locs hH hS g1 g2 g3 => ?_) (fun c6 da H locs hH hS => ?_)
  · skip
    replace ev4 := Eq.symm ev4
    subst ev4
    exact EX _ _ _ _ _ _ _ _ _ _ _ _ c6 (t31 ((fX10_faultCause.eq_1 _ _).trans ((if_neg c6).trans rfl))) (t33 ((fX10_faultCause.eq_1 _ _).trans ((if_neg c6).trans rfl))) hH hS g1 g2 g3 hq5 hq5
  · skip
    refine lv_aload_n hx hb dX10_faultCause_23 rfl (lv_at hl 0 rfl) ?_
    refine g_VernierDrawers_30 X hH hk_r dX10_faultCause_24 ?_
    refine g_VernierDrawers_426 X hH kd_451 dX10_faultCause_27 ?_
    replace ev4 := Eq.symm ev4
    subst ev4
    exact E _ _ _ _ _ _ _ _ _ dX10_faultCause_30 rfl (Eq.symm (t31 ((fX10_faultCause.eq_1 _ _).trans ((if_pos c6).trans rfl)))) (t32 ((fX10_faultCause.eq_1 _ _).trans ((if_pos c6).trans rfl))) (t33 ((fX10_faultCause.eq_1 _ _).trans ((if_pos c6).trans rfl))) hH hS hq5 hq5
theorem k_X10_faultCause {p : Program} {l : Launch} {e : Env} {R : Room} {s : State} {m : MethodId} {args : Array Value} {below : List Frame} {meth : Method} {c : Code} {H : Heap} {locs : List Loc} {cells slots : Nat} {Q : State → Prop} {cc : ByteArray} {pc nL : Nat} {ls : Array Slot} {rest : List Value} {G : gG} {own : String} {da : Nat → Nat} {v : vSt} {x : gX} (hst : l.stackTraces = false) (X : CX G p s m args c cc nL own) (hS : va_S (gA G) s.heap H locs) (hH : Hp G da v x H) {r : Nat} (hk_r : kd r = 10) (ho : oX10_faultCause r v) {idx : Nat} (hml : Cond.methodLink own idx yX10_faultCause ∈ TT) (hls : ls.size = nL) (hsum : (rest.map fun v => v.category).sum ≤ 8) (hR : (rmX10_faultCause r v).frames + 1 ≤ R.frames ∧ 8 + (1 + 11) + (rmX10_faultCause r v).locals ≤ R.locals) (hcs : cells + (kkX10_faultCause r v) ≤ R.cells ∧ slots + (kkX10_faultCause r v) ≤ R.slots) (hdg : decode cc pc = .ok (.invokevirtual idx, 3)) (kx : ¬ (fX10_faultCause r v).1 = 0 → ∀ (d : Nat → Nat) (ce : Cell) (q9 : Addr) (H1 : Heap) (locs1 : List Loc) (v1 : vSt), v1 = (fX10_faultCause r v).2.2 → Hp G d v1 x H1 → va_S (gA G) s.heap H1 locs1 → H1[q9]? = some ce → ce.vm = .none → s.vm.findClass (exN (fX10_faultCause r v).1) = some ce.cls → vx_W p l e R s m args below meth c H1 locs1 (cells + (kkX10_faultCause r v)) (slots + (kkX10_faultCause r v)) Q (F0 m pc ls rest) q9) (kk : (fX10_faultCause r v).1 = 0 → ∀ (d : Nat → Nat) (H1 : Heap) (locs1 : List Loc) (v1 : vSt), v1 = (fX10_faultCause r v).2.2 → Hp G d v1 x H1 → va_S (gA G) s.heap H1 locs1 → W p l e R s m args below meth c H1 locs1 (cells + (kkX10_faultCause r v)) (slots + (kkX10_faultCause r v)) Q (F0 m (pc + 3) ls (.int (fX10_faultCause r v).2.1 :: rest))) : W p l e R s m args below meth c H locs cells slots Q (F0 m pc ls (.ref (ga G r) :: rest)) := c_ti (runxV (kp := 0) X.1 X.2.1 X.2.2.1 X.2.2.2.1 X.2.2.2.2.1 (mX10_faultCause l hst G da v x r hk_r ho) pW_bl hml t_im_X10_faultCause t_sel_X10_faultCause t_ini_VernierDrawers t_code_X10_faultCause ⟨rfl, by decide, by decide, by decide +kernel⟩ rfl rfl hR hcs (recvW X hH (by rw [hk_r]; decide) (by rw [hk_r]; decide) (ce_10 hk_r) rfl) (preW X hS hH) rfl hls rfl hsum hdg) hS kx kk
def fX10_play (r : Nat) (v : vSt) : Nat × Int32 × vSt := let v4 : vSt := fX9_run 451 (rN (v r 0)) 450 (v r 6) v; if ((v4 451 4) : Int32) = 0 then (let v8 : vSt := fX10_recordState r v4; let v11 : vSt := u2 v8 r 0 (Int32.ofNat (rN (v8 451 0))); let v12 : vSt := u2 v11 451 0 (Int32.ofNat (rN (v8 r 0))); (0, v12 451 2, v12)) else ((2, 0, v4))

def kkX10_play (r : Nat) (v : vSt) : Nat := pot ((fX10_play r v).2.2) - pot v + 36
def oX10_play (r : Nat) (v : vSt) : Prop := (kd (rN (v r 0)) = 7) ∧ ((oX9_run 451 (rN (v r 0)) 450 (v r 6) v) ∧ ((0 + kkX9_run 451 (rN (v r 0)) 450 (v r 6) v ≤ kkX10_play r v) ∧ (∀ v4 : vSt, v4 = (fX9_run 451 (rN (v r 0)) 450 (v r 6) v) → (((((v4 451 4) : Int32) = 0) → ((oX10_recordState r v4) ∧ (((0 + kkX9_run 451 (rN (v r 0)) 450 (v r 6) v) + kkX10_recordState r v4 ≤ kkX10_play r v) ∧ (∀ v8 : vSt, v8 = (fX10_recordState r v4) → ((kd (rN (v8 r 0)) = 7) ∧ (kd (rN (v8 451 0)) = 7)))))) ∧ (¬ (((v4 451 4) : Int32) = 0) → ((0 + kkX9_run 451 (rN (v r 0)) 450 (v r 6) v) + 6 ≤ kkX10_play r v))))))
abbrev rmX10_play (r : Nat) (v : vSt) : Room := { frames := 8, cells := kkX10_play r v, slots := kkX10_play r v, locals := 231 }
theorem dX10_play_0 : decode cX10_play 0 = .ok (.aload_n 0, 1) := by decide +kernel
theorem dX10_play_1 : decode cX10_play 1 = .ok (.getfield 30, 3) := by decide +kernel
theorem dX10_play_4 : decode cX10_play 4 = .ok (.aload_n 0, 1) := by decide +kernel
theorem dX10_play_5 : decode cX10_play 5 = .ok (.getfield 10, 3) := by decide +kernel
theorem dX10_play_8 : decode cX10_play 8 = .ok (.aload_n 0, 1) := by decide +kernel
theorem dX10_play_9 : decode cX10_play 9 = .ok (.getfield 23, 3) := by decide +kernel
theorem dX10_play_12 : decode cX10_play 12 = .ok (.aload_n 0, 1) := by decide +kernel
theorem dX10_play_13 : decode cX10_play 13 = .ok (.getfield 408, 3) := by decide +kernel
theorem dX10_play_16 : decode cX10_play 16 = .ok (.invokevirtual 413, 3) := by decide +kernel
theorem dX10_play_19 : decode cX10_play 19 = .ok (.aload_n 0, 1) := by decide +kernel
theorem dX10_play_20 : decode cX10_play 20 = .ok (.getfield 30, 3) := by decide +kernel
theorem dX10_play_23 : decode cX10_play 23 = .ok (.getfield 423, 3) := by decide +kernel
theorem dX10_play_26 : decode cX10_play 26 = .ok (.ifCond .eq 14, 3) := by decide +kernel
theorem dX10_play_29 : decode cX10_play 29 = .ok (.new 66, 3) := by decide +kernel
theorem dX10_play_32 : decode cX10_play 32 = .ok (.dup, 1) := by decide +kernel
theorem dX10_play_33 : decode cX10_play 33 = .ok (.ldc_w 429, 3) := by decide +kernel
theorem dX10_play_36 : decode cX10_play 36 = .ok (.invokespecial 70, 3) := by decide +kernel
theorem dX10_play_39 : decode cX10_play 39 = .ok (.athrow, 1) := by decide +kernel
theorem dX10_play_40 : decode cX10_play 40 = .ok (.aload_n 0, 1) := by decide +kernel
theorem dX10_play_41 : decode cX10_play 41 = .ok (.invokevirtual 71, 3) := by decide +kernel
theorem dX10_play_44 : decode cX10_play 44 = .ok (.aload_n 0, 1) := by decide +kernel
theorem dX10_play_45 : decode cX10_play 45 = .ok (.getfield 10, 3) := by decide +kernel
theorem dX10_play_48 : decode cX10_play 48 = .ok (.astore_n 1, 1) := by decide +kernel
theorem dX10_play_49 : decode cX10_play 49 = .ok (.aload_n 0, 1) := by decide +kernel
theorem dX10_play_50 : decode cX10_play 50 = .ok (.aload_n 0, 1) := by decide +kernel
theorem dX10_play_51 : decode cX10_play 51 = .ok (.getfield 30, 3) := by decide +kernel
theorem dX10_play_54 : decode cX10_play 54 = .ok (.getfield 431, 3) := by decide +kernel
theorem dX10_play_57 : decode cX10_play 57 = .ok (.putfield 10, 3) := by decide +kernel
theorem dX10_play_60 : decode cX10_play 60 = .ok (.aload_n 0, 1) := by decide +kernel
theorem dX10_play_61 : decode cX10_play 61 = .ok (.getfield 30, 3) := by decide +kernel
theorem dX10_play_64 : decode cX10_play 64 = .ok (.aload_n 1, 1) := by decide +kernel
theorem dX10_play_65 : decode cX10_play 65 = .ok (.putfield 431, 3) := by decide +kernel
theorem dX10_play_68 : decode cX10_play 68 = .ok (.aload_n 0, 1) := by decide +kernel
theorem dX10_play_69 : decode cX10_play 69 = .ok (.getfield 30, 3) := by decide +kernel
theorem dX10_play_72 : decode cX10_play 72 = .ok (.getfield 434, 3) := by decide +kernel
theorem dX10_play_75 : decode cX10_play 75 = .ok (.ireturn, 1) := by decide +kernel
set_option maxHeartbeats 8000000 in
set_option maxRecDepth 100000 in
theorem mX10_play (l : Launch) (hst : l.stackTraces = false) (G : gG) (da : Nat → Nat) (v : vSt) (x : gX) (r : Nat) (hk_r : kd r = 10) (ho : oX10_play r v) : TI l yX10_play cX10_play 2 (some .int) (rmX10_play r v) [.ref (ga G r)] G da v x (kkX10_play r v) (kkX10_play r v) (fX10_play r v).1 (fX10_play r v).2.1 (fX10_play r v).2.2 x := by
  refine gofTI hst (by decide) rfl (Nat.le_of_ble_eq_true rfl) ⟨Nat.le_of_ble_eq_true rfl, Nat.le_of_ble_eq_true rfl, Nat.le_refl _, Nat.le_refl _⟩ (fun p e s m args below meth c ls Q X hH hl E EX ES EW => ?_)
  have hx := X.1
  have hb := X.2.1
  have hown := X.2.2.2.1
  have hts := X.2.2.2.2.1
  have hS : va_S (gA G) s.heap s.heap [] := va_S.rf
  unfold oX10_play at ho
  have hl : lv_has ls 2 [(0, .ref (ga G r))] := hl
  refine lv_aload_n hx hb dX10_play_0 rfl (lv_at hl 0 rfl) ?_
  refine g_VernierDrawers_30 X hH hk_r dX10_play_1 ?_
  refine lv_aload_n hx hb dX10_play_4 rfl (lv_at hl 0 rfl) ?_
  refine g_VernierDrawers_10 X hH hk_r dX10_play_5 ?_
  have hq1 := ho.1
  have ho := ho.2
  refine lv_aload_n hx hb dX10_play_8 rfl (lv_at hl 0 rfl) ?_
  refine g_VernierDrawers_23 X hH hk_r dX10_play_9 ?_
  refine lv_aload_n hx hb dX10_play_12 rfl (lv_at hl 0 rfl) ?_
  refine g_VernierDrawers_408 X hH hk_r dX10_play_13 ?_
  have hq2 := ho.1
  have ho := ho.2
  have hq3 := ho.1
  have ho := ho.2
  refine k_X9_run X hS hH kd_451 hq1 kd_450 hq2 t_ml_VernierDrawers_413 hl.1 (Nat.le_of_ble_eq_true rfl) ⟨Nat.le_of_ble_eq_true rfl, Nat.le_of_ble_eq_true rfl⟩ ⟨hq3, hq3⟩ dX10_play_16 (fun da H locs v4 ev4 hH hS => ?_)
  have ho := ho v4 ev4
  refine lv_aload_n hx hb dX10_play_19 rfl (lv_at hl 0 rfl) ?_
  refine g_VernierDrawers_30 X hH hk_r dX10_play_20 ?_
  refine g_VernierDrawers_423 X hH kd_451 dX10_play_23 ?_
  refine lv_if_eq (tgt := 40) hx hb dX10_play_26 (by decide) (fun c5 => ?_) (fun c5 => ?_)
  · have ho := ho.1 c5
    refine lv_aload_n hx hb dX10_play_40 rfl (lv_at hl 0 rfl) ?_
    have hq6 := ho.1
    have ho := ho.2
    have hq7 := ho.1
    have ho := ho.2
    refine k_X10_recordState X hS hH hk_r hq6 t_ml_VernierDrawers_71 hl.1 (Nat.le_of_ble_eq_true rfl) ⟨Nat.le_of_ble_eq_true rfl, Nat.le_of_ble_eq_true rfl⟩ ⟨hq7, hq7⟩ dX10_play_41 (fun da H locs v8 ev8 hH hS => ?_)
    have ho := ho v8 ev8
    refine lv_aload_n hx hb dX10_play_44 rfl (lv_at hl 0 rfl) ?_
    refine g_VernierDrawers_10 X hH hk_r dX10_play_45 ?_
    have hq9 := ho.1
    have ho := ho.2
    refine lv_astore_n (lv' := [(1, .ref (ga G (rN (v8 r 0)))), (0, .ref (ga G r))]) hx hb dX10_play_48 rfl hl (by decide) rfl (fun ls hl => ?_)
    refine lv_aload_n hx hb dX10_play_49 rfl (lv_at hl 1 rfl) ?_
    refine lv_aload_n hx hb dX10_play_50 rfl (lv_at hl 1 rfl) ?_
    refine g_VernierDrawers_30 X hH hk_r dX10_play_51 ?_
    refine g_VernierDrawers_431 X hH kd_451 dX10_play_54 ?_
    have hq10 := ho
    refine pq_10 X hH hS hk_r hq10 t_fl_VernierDrawers_10 dX10_play_57 (fun H locs v11 ev11 hH hS => ?_)
    refine lv_aload_n hx hb dX10_play_60 rfl (lv_at hl 1 rfl) ?_
    refine g_VernierDrawers_30 X hH hk_r dX10_play_61 ?_
    refine lv_aload_n hx hb dX10_play_64 rfl (lv_at hl 0 rfl) ?_
    refine pq_9 X hH hS kd_451 hq9 t_fl_VernierDrawers_431 dX10_play_65 (fun H locs v12 ev12 hH hS => ?_)
    refine lv_aload_n hx hb dX10_play_68 rfl (lv_at hl 1 rfl) ?_
    refine g_VernierDrawers_30 X hH hk_r dX10_play_69 ?_
    refine g_VernierDrawers_434 X hH kd_451 dX10_play_72 ?_
    replace ev4 := Eq.symm ev4
    replace ev8 := Eq.symm ev8
    replace ev11 := Eq.symm ev11
    replace ev12 := Eq.symm ev12
    subst ev4 ev8 ev11 ev12
    exact E _ _ _ _ _ _ _ _ _ dX10_play_75 rfl (Eq.symm (t31 ((fX10_play.eq_1 _ _).trans ((if_pos c5).trans rfl)))) (t32 ((fX10_play.eq_1 _ _).trans ((if_pos c5).trans rfl))) (t33 ((fX10_play.eq_1 _ _).trans ((if_pos c5).trans rfl))) hH hS hq7 hq7
  · have ho := ho.2 c5
    have hq13 := ho
    replace ev4 := Eq.symm ev4
    subst ev4
    exact EW _ _ _ _ _ _ _ _ _ _ _ _ _ _ (th_2 X) (by decide) (t31 ((fX10_play.eq_1 _ _).trans ((if_neg c5).trans rfl))) (t33 ((fX10_play.eq_1 _ _).trans ((if_neg c5).trans rfl))) hH hS t_sr_VernierDrawers_429 hl.1 dX10_play_29 dX10_play_32 dX10_play_33 dX10_play_36 dX10_play_39 (Nat.le_of_ble_eq_true rfl) (c16 hq13) hq13
theorem k_X10_play {p : Program} {l : Launch} {e : Env} {R : Room} {s : State} {m : MethodId} {args : Array Value} {below : List Frame} {meth : Method} {c : Code} {H : Heap} {locs : List Loc} {cells slots : Nat} {Q : State → Prop} {cc : ByteArray} {pc nL : Nat} {ls : Array Slot} {rest : List Value} {G : gG} {own : String} {da : Nat → Nat} {v : vSt} {x : gX} (hst : l.stackTraces = false) (X : CX G p s m args c cc nL own) (hS : va_S (gA G) s.heap H locs) (hH : Hp G da v x H) {r : Nat} (hk_r : kd r = 10) (ho : oX10_play r v) {idx : Nat} (hml : Cond.methodLink own idx yX10_play ∈ TT) (hls : ls.size = nL) (hsum : (rest.map fun v => v.category).sum ≤ 8) (hR : (rmX10_play r v).frames + 1 ≤ R.frames ∧ 8 + (2 + 11) + (rmX10_play r v).locals ≤ R.locals) (hcs : cells + (kkX10_play r v) ≤ R.cells ∧ slots + (kkX10_play r v) ≤ R.slots) (hdg : decode cc pc = .ok (.invokevirtual idx, 3)) (kx : ¬ (fX10_play r v).1 = 0 → ∀ (d : Nat → Nat) (ce : Cell) (q9 : Addr) (H1 : Heap) (locs1 : List Loc) (v1 : vSt), v1 = (fX10_play r v).2.2 → Hp G d v1 x H1 → va_S (gA G) s.heap H1 locs1 → H1[q9]? = some ce → ce.vm = .none → s.vm.findClass (exN (fX10_play r v).1) = some ce.cls → vx_W p l e R s m args below meth c H1 locs1 (cells + (kkX10_play r v)) (slots + (kkX10_play r v)) Q (F0 m pc ls rest) q9) (kk : (fX10_play r v).1 = 0 → ∀ (d : Nat → Nat) (H1 : Heap) (locs1 : List Loc) (v1 : vSt), v1 = (fX10_play r v).2.2 → Hp G d v1 x H1 → va_S (gA G) s.heap H1 locs1 → W p l e R s m args below meth c H1 locs1 (cells + (kkX10_play r v)) (slots + (kkX10_play r v)) Q (F0 m (pc + 3) ls (.int (fX10_play r v).2.1 :: rest))) : W p l e R s m args below meth c H locs cells slots Q (F0 m pc ls (.ref (ga G r) :: rest)) := c_ti (runxV (kp := 0) X.1 X.2.1 X.2.2.1 X.2.2.2.1 X.2.2.2.2.1 (mX10_play l hst G da v x r hk_r ho) pW_bl hml t_im_X10_play t_sel_X10_play t_ini_VernierDrawers t_code_X10_play ⟨rfl, by decide, by decide, by decide +kernel⟩ rfl rfl hR hcs (recvW X hH (by rw [hk_r]; decide) (by rw [hk_r]; decide) (ce_10 hk_r) rfl) (preW X hS hH) rfl hls rfl hsum hdg) hS kx kk
