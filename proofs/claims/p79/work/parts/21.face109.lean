/-! 21.face1 -/
def fX10_middleByTaking (r : Nat) (p1 : Int32) (v : vSt) : Nat × Int32 × vSt := if (fX10_needChart r p1 v).1 = 0 then (let v7 : vSt := (fX4_middleLeft ((fX10_needChart r p1 v).2) v).2; (0, (fX4_middleLeft ((fX10_needChart r p1 v).2) v).1, v7)) else (((fX10_needChart r p1 v).1, 0, v))

def kkX10_middleByTaking (r : Nat) (p1 : Int32) (v : vSt) : Nat := pot ((fX10_middleByTaking r p1 v).2.2) - pot v + 36
def oX10_middleByTaking (r : Nat) (p1 : Int32) (v : vSt) : Prop := (oX10_needChart r p1 v) ∧ ((0 + 12 ≤ kkX10_middleByTaking r p1 v) ∧ (((fX10_needChart r p1 v).1 = 0) → ((kd (fX10_needChart r p1 v).2 = 4) ∧ ((oX4_middleLeft ((fX10_needChart r p1 v).2) v) ∧ ((0 + 12) + 12 ≤ kkX10_middleByTaking r p1 v)))))
abbrev rmX10_middleByTaking (r : Nat) (p1 : Int32) (v : vSt) : Room := { frames := 8, cells := kkX10_middleByTaking r p1 v, slots := kkX10_middleByTaking r p1 v, locals := 133 }
theorem dX10_middleByTaking_0 : decode cX10_middleByTaking 0 = .ok (.aload_n 0, 1) := by decide +kernel
theorem dX10_middleByTaking_1 : decode cX10_middleByTaking 1 = .ok (.iload_n 1, 1) := by decide +kernel
theorem dX10_middleByTaking_2 : decode cX10_middleByTaking 2 = .ok (.invokevirtual 352, 3) := by decide +kernel
theorem dX10_middleByTaking_5 : decode cX10_middleByTaking 5 = .ok (.invokevirtual 358, 3) := by decide +kernel
theorem dX10_middleByTaking_8 : decode cX10_middleByTaking 8 = .ok (.ireturn, 1) := by decide +kernel
set_option maxHeartbeats 8000000 in
set_option maxRecDepth 100000 in
theorem mX10_middleByTaking (l : Launch) (hst : l.stackTraces = false) (G : gG) (da : Nat → Nat) (v : vSt) (x : gX) (r : Nat) (hk_r : kd r = 10) (p1 : Int32) (ho : oX10_middleByTaking r p1 v) : TI l yX10_middleByTaking cX10_middleByTaking 2 (some .int) (rmX10_middleByTaking r p1 v) [.ref (ga G r), .int p1] G da v x (kkX10_middleByTaking r p1 v) (kkX10_middleByTaking r p1 v) (fX10_middleByTaking r p1 v).1 (fX10_middleByTaking r p1 v).2.1 (fX10_middleByTaking r p1 v).2.2 x := by
  refine gofTI hst (by decide) rfl (Nat.le_of_ble_eq_true rfl) ⟨Nat.le_of_ble_eq_true rfl, Nat.le_of_ble_eq_true rfl, Nat.le_refl _, Nat.le_refl _⟩ (fun p e s m args below meth c ls Q X hH hl E EX ES EW => ?_)
  have hx := X.1
  have hb := X.2.1
  have hown := X.2.2.2.1
  have hts := X.2.2.2.2.1
  have hS : va_S (gA G) s.heap s.heap [] := va_S.rf
  unfold oX10_middleByTaking at ho
  have hl : lv_has ls 2 [(0, .ref (ga G r)), (1, .int p1)] := hl
  refine lv_aload_n hx hb dX10_middleByTaking_0 rfl (lv_at hl 0 rfl) ?_
  refine lv_iload_n hx hb dX10_middleByTaking_1 rfl (lv_at hl 1 rfl) ?_
  have hq1 := ho.1
  have ho := ho.2
  have hq2 := ho.1
  have ho := ho.2
  refine k_X10_needChart hst X hS hH hk_r hq1 t_ml_VernierDrawers_352 hl.1 (Nat.le_of_ble_eq_true rfl) ⟨Nat.le_of_ble_eq_true rfl, Nat.le_of_ble_eq_true rfl⟩ ⟨hq2, hq2⟩ dX10_middleByTaking_2 (fun c3 da ce9 q9 H locs hH hS g1 g2 g3 => ?_) (fun c3 da H locs hH hS => ?_)
  · skip
    exact EX _ _ _ _ _ _ _ _ _ _ _ _ c3 (t31 ((fX10_middleByTaking.eq_1 _ _ _).trans ((if_neg c3).trans rfl))) (t33 ((fX10_middleByTaking.eq_1 _ _ _).trans ((if_neg c3).trans rfl))) hH hS g1 g2 g3 hq2 hq2
  · have ho := ho c3
    have hq4 := ho.1
    have ho := ho.2
    have hq5 := ho.1
    have ho := ho.2
    have hq6 := ho
    refine k_X4_middleLeft X hS hH hq4 hq5 t_ml_VernierDrawers_358 hl.1 (Nat.le_of_ble_eq_true rfl) ⟨Nat.le_of_ble_eq_true rfl, Nat.le_of_ble_eq_true rfl⟩ ⟨hq6, hq6⟩ dX10_middleByTaking_5 (fun da H locs v7 ev7 hH hS => ?_)
    replace ev7 := Eq.symm ev7
    subst ev7
    exact E _ _ _ _ _ _ _ _ _ dX10_middleByTaking_8 rfl (Eq.symm (t31 ((fX10_middleByTaking.eq_1 _ _ _).trans ((if_pos c3).trans rfl)))) (t32 ((fX10_middleByTaking.eq_1 _ _ _).trans ((if_pos c3).trans rfl))) (t33 ((fX10_middleByTaking.eq_1 _ _ _).trans ((if_pos c3).trans rfl))) hH hS hq6 hq6
theorem k_X10_middleByTaking {p : Program} {l : Launch} {e : Env} {R : Room} {s : State} {m : MethodId} {args : Array Value} {below : List Frame} {meth : Method} {c : Code} {H : Heap} {locs : List Loc} {cells slots : Nat} {Q : State → Prop} {cc : ByteArray} {pc nL : Nat} {ls : Array Slot} {rest : List Value} {G : gG} {own : String} {da : Nat → Nat} {v : vSt} {x : gX} (hst : l.stackTraces = false) (X : CX G p s m args c cc nL own) (hS : va_S (gA G) s.heap H locs) (hH : Hp G da v x H) {r : Nat} (hk_r : kd r = 10) {p1 : Int32} (ho : oX10_middleByTaking r p1 v) {idx : Nat} (hml : Cond.methodLink own idx yX10_middleByTaking ∈ TT) (hls : ls.size = nL) (hsum : (rest.map fun v => v.category).sum ≤ 8) (hR : (rmX10_middleByTaking r p1 v).frames + 1 ≤ R.frames ∧ 8 + (2 + 11) + (rmX10_middleByTaking r p1 v).locals ≤ R.locals) (hcs : cells + (kkX10_middleByTaking r p1 v) ≤ R.cells ∧ slots + (kkX10_middleByTaking r p1 v) ≤ R.slots) (hdg : decode cc pc = .ok (.invokevirtual idx, 3)) (kx : ¬ (fX10_middleByTaking r p1 v).1 = 0 → ∀ (d : Nat → Nat) (ce : Cell) (q9 : Addr) (H1 : Heap) (locs1 : List Loc) (v1 : vSt), v1 = (fX10_middleByTaking r p1 v).2.2 → Hp G d v1 x H1 → va_S (gA G) s.heap H1 locs1 → H1[q9]? = some ce → ce.vm = .none → s.vm.findClass (exN (fX10_middleByTaking r p1 v).1) = some ce.cls → vx_W p l e R s m args below meth c H1 locs1 (cells + (kkX10_middleByTaking r p1 v)) (slots + (kkX10_middleByTaking r p1 v)) Q (F0 m pc ls rest) q9) (kk : (fX10_middleByTaking r p1 v).1 = 0 → ∀ (d : Nat → Nat) (H1 : Heap) (locs1 : List Loc) (v1 : vSt), v1 = (fX10_middleByTaking r p1 v).2.2 → Hp G d v1 x H1 → va_S (gA G) s.heap H1 locs1 → W p l e R s m args below meth c H1 locs1 (cells + (kkX10_middleByTaking r p1 v)) (slots + (kkX10_middleByTaking r p1 v)) Q (F0 m (pc + 3) ls (.int (fX10_middleByTaking r p1 v).2.1 :: rest))) : W p l e R s m args below meth c H locs cells slots Q (F0 m pc ls (.int p1 :: .ref (ga G r) :: rest)) := c_ti (runxV (kp := 1) X.1 X.2.1 X.2.2.1 X.2.2.2.1 X.2.2.2.2.1 (mX10_middleByTaking l hst G da v x r hk_r p1 ho) pW_bl hml t_im_X10_middleByTaking t_sel_X10_middleByTaking t_ini_VernierDrawers t_code_X10_middleByTaking ⟨rfl, by decide, by decide, by decide +kernel⟩ rfl rfl hR hcs (recvW X hH (by rw [hk_r]; decide) (by rw [hk_r]; decide) (ce_10 hk_r) rfl) (preW X hS hH) rfl hls rfl hsum hdg) hS kx kk
def fX10_spreadOf (r : Nat) (p1 : Int32) (v : vSt) : Nat × Int32 := if (fX10_needChart r p1 v).1 = 0 then ((0, fX4_spread ((fX10_needChart r p1 v).2) v)) else (((fX10_needChart r p1 v).1, 0))
def oX10_spreadOf (r : Nat) (p1 : Int32) (v : vSt) : Prop := (oX10_needChart r p1 v) ∧ (((fX10_needChart r p1 v).1 = 0) → ((kd (fX10_needChart r p1 v).2 = 4) ∧ (oX4_spread ((fX10_needChart r p1 v).2) v)))
abbrev rmX10_spreadOf : Room := { frames := 8, cells := 12, slots := 12, locals := 133 }
theorem dX10_spreadOf_0 : decode cX10_spreadOf 0 = .ok (.aload_n 0, 1) := by decide +kernel
theorem dX10_spreadOf_1 : decode cX10_spreadOf 1 = .ok (.iload_n 1, 1) := by decide +kernel
theorem dX10_spreadOf_2 : decode cX10_spreadOf 2 = .ok (.invokevirtual 352, 3) := by decide +kernel
theorem dX10_spreadOf_5 : decode cX10_spreadOf 5 = .ok (.invokevirtual 361, 3) := by decide +kernel
theorem dX10_spreadOf_8 : decode cX10_spreadOf 8 = .ok (.ireturn, 1) := by decide +kernel
set_option maxHeartbeats 8000000 in
set_option maxRecDepth 100000 in
theorem mX10_spreadOf (l : Launch) (hst : l.stackTraces = false) (G : gG) (da : Nat → Nat) (v : vSt) (x : gX) (r : Nat) (hk_r : kd r = 10) (p1 : Int32) (ho : oX10_spreadOf r p1 v) : TI l yX10_spreadOf cX10_spreadOf 2 (some .int) rmX10_spreadOf [.ref (ga G r), .int p1] G da v x 12 12 (fX10_spreadOf r p1 v).1 (fX10_spreadOf r p1 v).2 v x := by
  refine gofTI hst (by decide) rfl (Nat.le_of_ble_eq_true rfl) ⟨Nat.le_of_ble_eq_true rfl, Nat.le_of_ble_eq_true rfl, Nat.le_refl _, Nat.le_refl _⟩ (fun p e s m args below meth c ls Q X hH hl E EX ES EW => ?_)
  have hx := X.1
  have hb := X.2.1
  have hown := X.2.2.2.1
  have hts := X.2.2.2.2.1
  have hS : va_S (gA G) s.heap s.heap [] := va_S.rf
  unfold oX10_spreadOf at ho
  have hl : lv_has ls 2 [(0, .ref (ga G r)), (1, .int p1)] := hl
  refine lv_aload_n hx hb dX10_spreadOf_0 rfl (lv_at hl 0 rfl) ?_
  refine lv_iload_n hx hb dX10_spreadOf_1 rfl (lv_at hl 1 rfl) ?_
  have hq1 := ho.1
  have ho := ho.2
  refine k_X10_needChart hst X hS hH hk_r hq1 t_ml_VernierDrawers_352 hl.1 (Nat.le_of_ble_eq_true rfl) ⟨Nat.le_of_ble_eq_true rfl, Nat.le_of_ble_eq_true rfl⟩ ⟨(Nat.le_of_ble_eq_true rfl), (Nat.le_of_ble_eq_true rfl)⟩ dX10_spreadOf_2 (fun c2 da ce9 q9 H locs hH hS g1 g2 g3 => ?_) (fun c2 da H locs hH hS => ?_)
  · skip
    exact EX _ _ _ _ _ _ _ _ _ _ _ _ c2 (pr1 ((fX10_spreadOf.eq_1 _ _ _).trans ((if_neg c2).trans rfl))) rfl hH hS g1 g2 g3 (Nat.le_of_ble_eq_true rfl) (Nat.le_of_ble_eq_true rfl)
  · have ho := ho c2
    have hq3 := ho.1
    have ho := ho.2
    have hq4 := ho
    refine k_X4_spread X hS hH hq3 hq4 t_ml_VernierDrawers_361 hl.1 (Nat.le_of_ble_eq_true rfl) ⟨Nat.le_of_ble_eq_true rfl, Nat.le_of_ble_eq_true rfl⟩ ⟨(Nat.le_of_ble_eq_true rfl), (Nat.le_of_ble_eq_true rfl)⟩ dX10_spreadOf_5 ?_
    exact E _ _ _ _ _ _ _ _ _ dX10_spreadOf_8 rfl (Eq.symm (pr1 ((fX10_spreadOf.eq_1 _ _ _).trans ((if_pos c2).trans rfl)))) (pr2 ((fX10_spreadOf.eq_1 _ _ _).trans ((if_pos c2).trans rfl))) rfl hH hS (Nat.le_of_ble_eq_true rfl) (Nat.le_of_ble_eq_true rfl)
theorem k_X10_spreadOf {p : Program} {l : Launch} {e : Env} {R : Room} {s : State} {m : MethodId} {args : Array Value} {below : List Frame} {meth : Method} {c : Code} {H : Heap} {locs : List Loc} {cells slots : Nat} {Q : State → Prop} {cc : ByteArray} {pc nL : Nat} {ls : Array Slot} {rest : List Value} {G : gG} {own : String} {da : Nat → Nat} {v : vSt} {x : gX} (hst : l.stackTraces = false) (X : CX G p s m args c cc nL own) (hS : va_S (gA G) s.heap H locs) (hH : Hp G da v x H) {r : Nat} (hk_r : kd r = 10) {p1 : Int32} (ho : oX10_spreadOf r p1 v) {idx : Nat} (hml : Cond.methodLink own idx yX10_spreadOf ∈ TT) (hls : ls.size = nL) (hsum : (rest.map fun v => v.category).sum ≤ 8) (hR : rmX10_spreadOf.frames + 1 ≤ R.frames ∧ 8 + (2 + 11) + rmX10_spreadOf.locals ≤ R.locals) (hcs : cells + 12 ≤ R.cells ∧ slots + 12 ≤ R.slots) (hdg : decode cc pc = .ok (.invokevirtual idx, 3)) (kx : ¬ (fX10_spreadOf r p1 v).1 = 0 → ∀ (d : Nat → Nat) (ce : Cell) (q9 : Addr) (H1 : Heap) (locs1 : List Loc), Hp G d v x H1 → va_S (gA G) s.heap H1 locs1 → H1[q9]? = some ce → ce.vm = .none → s.vm.findClass (exN (fX10_spreadOf r p1 v).1) = some ce.cls → vx_W p l e R s m args below meth c H1 locs1 (cells + 12) (slots + 12) Q (F0 m pc ls rest) q9) (kk : (fX10_spreadOf r p1 v).1 = 0 → ∀ (d : Nat → Nat) (H1 : Heap) (locs1 : List Loc), Hp G d v x H1 → va_S (gA G) s.heap H1 locs1 → W p l e R s m args below meth c H1 locs1 (cells + 12) (slots + 12) Q (F0 m (pc + 3) ls (.int (fX10_spreadOf r p1 v).2 :: rest))) : W p l e R s m args below meth c H locs cells slots Q (F0 m pc ls (.int p1 :: .ref (ga G r) :: rest)) := c_ti (runxV (kp := 1) X.1 X.2.1 X.2.2.1 X.2.2.2.1 X.2.2.2.2.1 (mX10_spreadOf l hst G da v x r hk_r p1 ho) pW_bl hml t_im_X10_spreadOf t_sel_X10_spreadOf t_ini_VernierDrawers t_code_X10_spreadOf ⟨rfl, by decide, by decide, by decide +kernel⟩ rfl rfl hR hcs (recvW X hH (by rw [hk_r]; decide) (by rw [hk_r]; decide) (ce_10 hk_r) rfl) (preW X hS hH) rfl hls rfl hsum hdg) hS (fun h9 d9 ce9 q9 H9 L9 v9 e9 hH9 => kx h9 d9 ce9 q9 H9 L9 (by subst e9; exact hH9)) (fun h9 d9 H9 L9 v9 e9 hH9 => kk h9 d9 H9 L9 (by subst e9; exact hH9))
def fX10_meanOf (r : Nat) (p1 : Int32) (v : vSt) : Nat × UInt32 := if (fX10_needChart r p1 v).1 = 0 then ((0, fX10_share (fX4_chartSum ((fX10_needChart r p1 v).2) v) (v ((fX10_needChart r p1 v).2) 9) v)) else (((fX10_needChart r p1 v).1, FP.fconst0))
def oX10_meanOf (r : Nat) (p1 : Int32) (v : vSt) : Prop := (oX10_needChart r p1 v) ∧ (((fX10_needChart r p1 v).1 = 0) → ((kd (fX10_needChart r p1 v).2 = 4) ∧ (oX10_share (fX4_chartSum ((fX10_needChart r p1 v).2) v) (v ((fX10_needChart r p1 v).2) 9) v)))
abbrev rmX10_meanOf : Room := { frames := 8, cells := 12, slots := 12, locals := 133 }
theorem dX10_meanOf_0 : decode cX10_meanOf 0 = .ok (.aload_n 0, 1) := by decide +kernel
theorem dX10_meanOf_1 : decode cX10_meanOf 1 = .ok (.iload_n 1, 1) := by decide +kernel
theorem dX10_meanOf_2 : decode cX10_meanOf 2 = .ok (.invokevirtual 352, 3) := by decide +kernel
theorem dX10_meanOf_5 : decode cX10_meanOf 5 = .ok (.astore_n 2, 1) := by decide +kernel
theorem dX10_meanOf_6 : decode cX10_meanOf 6 = .ok (.aload_n 2, 1) := by decide +kernel
theorem dX10_meanOf_7 : decode cX10_meanOf 7 = .ok (.invokevirtual 364, 3) := by decide +kernel
theorem dX10_meanOf_10 : decode cX10_meanOf 10 = .ok (.aload_n 2, 1) := by decide +kernel
theorem dX10_meanOf_11 : decode cX10_meanOf 11 = .ok (.getfield 339, 3) := by decide +kernel
theorem dX10_meanOf_14 : decode cX10_meanOf 14 = .ok (.invokestatic 367, 3) := by decide +kernel
theorem dX10_meanOf_17 : decode cX10_meanOf 17 = .ok (.freturn, 1) := by decide +kernel
set_option maxHeartbeats 8000000 in
set_option maxRecDepth 100000 in
theorem mX10_meanOf (l : Launch) (hst : l.stackTraces = false) (G : gG) (da : Nat → Nat) (v : vSt) (x : gX) (r : Nat) (hk_r : kd r = 10) (p1 : Int32) (ho : oX10_meanOf r p1 v) : TF l yX10_meanOf cX10_meanOf 3 (some .float) rmX10_meanOf [.ref (ga G r), .int p1] G da v x 12 12 (fX10_meanOf r p1 v).1 (fX10_meanOf r p1 v).2 v x := by
  refine gofTF hst (by decide) rfl (Nat.le_of_ble_eq_true rfl) ⟨Nat.le_of_ble_eq_true rfl, Nat.le_of_ble_eq_true rfl, Nat.le_refl _, Nat.le_refl _⟩ (fun p e s m args below meth c ls Q X hH hl E EX ES EW => ?_)
  have hx := X.1
  have hb := X.2.1
  have hown := X.2.2.2.1
  have hts := X.2.2.2.2.1
  have hS : va_S (gA G) s.heap s.heap [] := va_S.rf
  unfold oX10_meanOf at ho
  have hl : lv_has ls 3 [(0, .ref (ga G r)), (1, .int p1)] := hl
  refine lv_aload_n hx hb dX10_meanOf_0 rfl (lv_at hl 0 rfl) ?_
  refine lv_iload_n hx hb dX10_meanOf_1 rfl (lv_at hl 1 rfl) ?_
  have hq1 := ho.1
  have ho := ho.2
  refine k_X10_needChart hst X hS hH hk_r hq1 t_ml_VernierDrawers_352 hl.1 (Nat.le_of_ble_eq_true rfl) ⟨Nat.le_of_ble_eq_true rfl, Nat.le_of_ble_eq_true rfl⟩ ⟨(Nat.le_of_ble_eq_true rfl), (Nat.le_of_ble_eq_true rfl)⟩ dX10_meanOf_2 (fun c2 da ce9 q9 H locs hH hS g1 g2 g3 => ?_) (fun c2 da H locs hH hS => ?_)
  · skip
    exact EX _ _ _ _ _ _ _ _ _ _ _ _ c2 (pr1 ((fX10_meanOf.eq_1 _ _ _).trans ((if_neg c2).trans rfl))) rfl hH hS g1 g2 g3 (Nat.le_of_ble_eq_true rfl) (Nat.le_of_ble_eq_true rfl)
  · have ho := ho c2
    have hq3 := ho.1
    have ho := ho.2
    refine lv_astore_n (lv' := [(2, .ref (ga G ((fX10_needChart r p1 v).2))), (0, .ref (ga G r)), (1, .int p1)]) hx hb dX10_meanOf_5 rfl hl (by decide) rfl (fun ls hl => ?_)
    refine lv_aload_n hx hb dX10_meanOf_6 rfl (lv_at hl 0 rfl) ?_
    refine k_X4_chartSum X hS hH hq3 t_ml_VernierDrawers_364 hl.1 (Nat.le_of_ble_eq_true rfl) ⟨Nat.le_of_ble_eq_true rfl, Nat.le_of_ble_eq_true rfl⟩ ⟨(Nat.le_of_ble_eq_true rfl), (Nat.le_of_ble_eq_true rfl)⟩ dX10_meanOf_7 ?_
    refine lv_aload_n hx hb dX10_meanOf_10 rfl (lv_at hl 0 rfl) ?_
    refine g_VernierDrawers_339 X hH hq3 dX10_meanOf_11 ?_
    have hq4 := ho
    refine k_X10_share X hS hH hq4 t_ml_VernierDrawers_367 hl.1 (Nat.le_of_ble_eq_true rfl) ⟨Nat.le_of_ble_eq_true rfl, Nat.le_of_ble_eq_true rfl⟩ ⟨(Nat.le_of_ble_eq_true rfl), (Nat.le_of_ble_eq_true rfl)⟩ dX10_meanOf_14 (fun da H locs hH hS => ?_)
    exact E _ _ _ _ _ _ _ _ _ dX10_meanOf_17 (Eq.symm (pr1 ((fX10_meanOf.eq_1 _ _ _).trans ((if_pos c2).trans rfl)))) (pr2 ((fX10_meanOf.eq_1 _ _ _).trans ((if_pos c2).trans rfl))) rfl hH hS (Nat.le_of_ble_eq_true rfl) (Nat.le_of_ble_eq_true rfl)
theorem k_X10_meanOf {p : Program} {l : Launch} {e : Env} {R : Room} {s : State} {m : MethodId} {args : Array Value} {below : List Frame} {meth : Method} {c : Code} {H : Heap} {locs : List Loc} {cells slots : Nat} {Q : State → Prop} {cc : ByteArray} {pc nL : Nat} {ls : Array Slot} {rest : List Value} {G : gG} {own : String} {da : Nat → Nat} {v : vSt} {x : gX} (hst : l.stackTraces = false) (X : CX G p s m args c cc nL own) (hS : va_S (gA G) s.heap H locs) (hH : Hp G da v x H) {r : Nat} (hk_r : kd r = 10) {p1 : Int32} (ho : oX10_meanOf r p1 v) {idx : Nat} (hml : Cond.methodLink own idx yX10_meanOf ∈ TT) (hls : ls.size = nL) (hsum : (rest.map fun v => v.category).sum ≤ 8) (hR : rmX10_meanOf.frames + 1 ≤ R.frames ∧ 8 + (3 + 11) + rmX10_meanOf.locals ≤ R.locals) (hcs : cells + 12 ≤ R.cells ∧ slots + 12 ≤ R.slots) (hdg : decode cc pc = .ok (.invokevirtual idx, 3)) (kx : ¬ (fX10_meanOf r p1 v).1 = 0 → ∀ (d : Nat → Nat) (ce : Cell) (q9 : Addr) (H1 : Heap) (locs1 : List Loc), Hp G d v x H1 → va_S (gA G) s.heap H1 locs1 → H1[q9]? = some ce → ce.vm = .none → s.vm.findClass (exN (fX10_meanOf r p1 v).1) = some ce.cls → vx_W p l e R s m args below meth c H1 locs1 (cells + 12) (slots + 12) Q (F0 m pc ls rest) q9) (kk : (fX10_meanOf r p1 v).1 = 0 → ∀ (d : Nat → Nat) (H1 : Heap) (locs1 : List Loc), Hp G d v x H1 → va_S (gA G) s.heap H1 locs1 → W p l e R s m args below meth c H1 locs1 (cells + 12) (slots + 12) Q (F0 m (pc + 3) ls (.float (fX10_meanOf r p1 v).2 :: rest))) : W p l e R s m args below meth c H locs cells slots Q (F0 m pc ls (.int p1 :: .ref (ga G r) :: rest)) := c_tf (runxV (kp := 1) X.1 X.2.1 X.2.2.1 X.2.2.2.1 X.2.2.2.2.1 (mX10_meanOf l hst G da v x r hk_r p1 ho) pW_bl hml t_im_X10_meanOf t_sel_X10_meanOf t_ini_VernierDrawers t_code_X10_meanOf ⟨rfl, by decide, by decide, by decide +kernel⟩ rfl rfl hR hcs (recvW X hH (by rw [hk_r]; decide) (by rw [hk_r]; decide) (ce_10 hk_r) rfl) (preW X hS hH) rfl hls rfl hsum hdg) hS (fun h9 d9 ce9 q9 H9 L9 v9 e9 hH9 => kx h9 d9 ce9 q9 H9 L9 (by subst e9; exact hH9)) (fun h9 d9 H9 L9 v9 e9 hH9 => kk h9 d9 H9 L9 (by subst e9; exact hH9))
