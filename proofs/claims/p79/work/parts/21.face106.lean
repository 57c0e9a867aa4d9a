/-! 21.face1 -/
def fX10_passUnseen (r : Nat) (v : vSt) : Nat × Int32 × vSt := if fX10_refuse (fX0_refusalToPass ((rN (v r 0)) + 2) v) v = 0 then (let v6 : vSt := fX10_recordState r v; let v9 : vSt := (fX0_passFirst ((rN (v6 r 0)) + 2) v6).2; (0, (fX0_passFirst ((rN (v6 r 0)) + 2) v6).1, v9)) else ((fX10_refuse (fX0_refusalToPass ((rN (v r 0)) + 2) v) v, 0, v))

def kkX10_passUnseen (r : Nat) (v : vSt) : Nat := pot ((fX10_passUnseen r v).2.2) - pot v + 36
def oX10_passUnseen (r : Nat) (v : vSt) : Prop := (kd (rN (v r 0)) = 7) ∧ ((0 + 6 ≤ kkX10_passUnseen r v) ∧ ((fX10_refuse (fX0_refusalToPass ((rN (v r 0)) + 2) v) v = 0) → ((oX10_recordState r v) ∧ (((0 + 6) + kkX10_recordState r v ≤ kkX10_passUnseen r v) ∧ (∀ v6 : vSt, v6 = (fX10_recordState r v) → ((kd (rN (v6 r 0)) = 7) ∧ (oX0_passFirst ((rN (v6 r 0)) + 2) v6)))))))
abbrev rmX10_passUnseen (r : Nat) (v : vSt) : Room := { frames := 7, cells := kkX10_passUnseen r v, slots := kkX10_passUnseen r v, locals := 196 }
theorem dX10_passUnseen_0 : decode cX10_passUnseen 0 = .ok (.aload_n 0, 1) := by decide +kernel
theorem dX10_passUnseen_1 : decode cX10_passUnseen 1 = .ok (.getfield 10, 3) := by decide +kernel
theorem dX10_passUnseen_4 : decode cX10_passUnseen 4 = .ok (.getfield 126, 3) := by decide +kernel
theorem dX10_passUnseen_7 : decode cX10_passUnseen 7 = .ok (.invokevirtual 161, 3) := by decide +kernel
theorem dX10_passUnseen_10 : decode cX10_passUnseen 10 = .ok (.invokestatic 97, 3) := by decide +kernel
theorem dX10_passUnseen_13 : decode cX10_passUnseen 13 = .ok (.aload_n 0, 1) := by decide +kernel
theorem dX10_passUnseen_14 : decode cX10_passUnseen 14 = .ok (.invokevirtual 71, 3) := by decide +kernel
theorem dX10_passUnseen_17 : decode cX10_passUnseen 17 = .ok (.aload_n 0, 1) := by decide +kernel
theorem dX10_passUnseen_18 : decode cX10_passUnseen 18 = .ok (.getfield 10, 3) := by decide +kernel
theorem dX10_passUnseen_21 : decode cX10_passUnseen 21 = .ok (.getfield 126, 3) := by decide +kernel
theorem dX10_passUnseen_24 : decode cX10_passUnseen 24 = .ok (.invokevirtual 164, 3) := by decide +kernel
theorem dX10_passUnseen_27 : decode cX10_passUnseen 27 = .ok (.ireturn, 1) := by decide +kernel
set_option maxHeartbeats 8000000 in
set_option maxRecDepth 100000 in
theorem mX10_passUnseen (l : Launch) (hst : l.stackTraces = false) (G : gG) (da : Nat → Nat) (v : vSt) (x : gX) (r : Nat) (hk_r : kd r = 10) (ho : oX10_passUnseen r v) : TI l yX10_passUnseen cX10_passUnseen 1 (some .int) (rmX10_passUnseen r v) [.ref (ga G r)] G da v x (kkX10_passUnseen r v) (kkX10_passUnseen r v) (fX10_passUnseen r v).1 (fX10_passUnseen r v).2.1 (fX10_passUnseen r v).2.2 x := by
  refine gofTI hst (by decide) rfl (Nat.le_of_ble_eq_true rfl) ⟨Nat.le_of_ble_eq_true rfl, Nat.le_of_ble_eq_true rfl, Nat.le_refl _, Nat.le_refl _⟩ (fun p e s m args below meth c ls Q X hH hl E EX ES EW => ?_)
  have hx := X.1
  have hb := X.2.1
  have hown := X.2.2.2.1
  have hts := X.2.2.2.2.1
  have hS : va_S (gA G) s.heap s.heap [] := va_S.rf
  unfold oX10_passUnseen at ho
  have hl : lv_has ls 1 [(0, .ref (ga G r))] := hl
  refine lv_aload_n hx hb dX10_passUnseen_0 rfl (lv_at hl 0 rfl) ?_
  refine g_VernierDrawers_10 X hH hk_r dX10_passUnseen_1 ?_
  have hq1 := ho.1
  have ho := ho.2
  refine g_VernierDrawers_126 X hH hq1 dX10_passUnseen_4 ?_
  refine k_X0_refusalToPass X hS hH (kc_7_0 hq1) t_ml_VernierDrawers_161 hl.1 (Nat.le_of_ble_eq_true rfl) ⟨Nat.le_of_ble_eq_true rfl, Nat.le_of_ble_eq_true rfl⟩ ⟨Nat.zero_le _, Nat.zero_le _⟩ dX10_passUnseen_7 ?_
  have hq2 := ho.1
  have ho := ho.2
  refine k_X10_refuse hst X hS hH  t_ml_VernierDrawers_97 hl.1 (Nat.le_of_ble_eq_true rfl) ⟨Nat.le_of_ble_eq_true rfl, Nat.le_of_ble_eq_true rfl⟩ ⟨hq2, hq2⟩ dX10_passUnseen_10 (fun c3 da ce9 q9 H locs hH hS g1 g2 g3 => ?_) (fun c3 da H locs hH hS => ?_)
  · skip
    exact EX _ _ _ _ _ _ _ _ _ _ _ _ c3 (t31 ((fX10_passUnseen.eq_1 _ _).trans ((if_neg c3).trans rfl))) (t33 ((fX10_passUnseen.eq_1 _ _).trans ((if_neg c3).trans rfl))) hH hS g1 g2 g3 hq2 hq2
  · have ho := ho c3
    refine lv_aload_n hx hb dX10_passUnseen_13 rfl (lv_at hl 0 rfl) ?_
    have hq4 := ho.1
    have ho := ho.2
    have hq5 := ho.1
    have ho := ho.2
    refine k_X10_recordState X hS hH hk_r hq4 t_ml_VernierDrawers_71 hl.1 (Nat.le_of_ble_eq_true rfl) ⟨Nat.le_of_ble_eq_true rfl, Nat.le_of_ble_eq_true rfl⟩ ⟨hq5, hq5⟩ dX10_passUnseen_14 (fun da H locs v6 ev6 hH hS => ?_)
    have ho := ho v6 ev6
    refine lv_aload_n hx hb dX10_passUnseen_17 rfl (lv_at hl 0 rfl) ?_
    refine g_VernierDrawers_10 X hH hk_r dX10_passUnseen_18 ?_
    have hq7 := ho.1
    have ho := ho.2
    refine g_VernierDrawers_126 X hH hq7 dX10_passUnseen_21 ?_
    have hq8 := ho
    refine k_X0_passFirst X hS hH (kc_7_0 hq7) hq8 t_ml_VernierDrawers_164 hl.1 (Nat.le_of_ble_eq_true rfl) ⟨Nat.le_of_ble_eq_true rfl, Nat.le_of_ble_eq_true rfl⟩ ⟨hq5, hq5⟩ dX10_passUnseen_24 (fun da H locs v9 ev9 hH hS => ?_)
    replace ev6 := Eq.symm ev6
    replace ev9 := Eq.symm ev9
    subst ev6 ev9
    exact E _ _ _ _ _ _ _ _ _ dX10_passUnseen_27 rfl (Eq.symm (t31 ((fX10_passUnseen.eq_1 _ _).trans ((if_pos c3).trans rfl)))) (t32 ((fX10_passUnseen.eq_1 _ _).trans ((if_pos c3).trans rfl))) (t33 ((fX10_passUnseen.eq_1 _ _).trans ((if_pos c3).trans rfl))) hH hS hq5 hq5
theorem k_X10_passUnseen {p : Program} {l : Launch} {e : Env} {R : Room} {s : State} {m : MethodId} {args : Array Value} {below : List Frame} {meth : Method} {c : Code} {H : Heap} {locs : List Loc} {cells slots : Nat} {Q : State → Prop} {cc : ByteArray} {pc nL : Nat} {ls : Array Slot} {rest : List Value} {G : gG} {own : String} {da : Nat → Nat} {v : vSt} {x : gX} (hst : l.stackTraces = false) (X : CX G p s m args c cc nL own) (hS : va_S (gA G) s.heap H locs) (hH : Hp G da v x H) {r : Nat} (hk_r : kd r = 10) (ho : oX10_passUnseen r v) {idx : Nat} (hml : Cond.methodLink own idx yX10_passUnseen ∈ TT) (hls : ls.size = nL) (hsum : (rest.map fun v => v.category).sum ≤ 8) (hR : (rmX10_passUnseen r v).frames + 1 ≤ R.frames ∧ 8 + (1 + 11) + (rmX10_passUnseen r v).locals ≤ R.locals) (hcs : cells + (kkX10_passUnseen r v) ≤ R.cells ∧ slots + (kkX10_passUnseen r v) ≤ R.slots) (hdg : decode cc pc = .ok (.invokevirtual idx, 3)) (kx : ¬ (fX10_passUnseen r v).1 = 0 → ∀ (d : Nat → Nat) (ce : Cell) (q9 : Addr) (H1 : Heap) (locs1 : List Loc) (v1 : vSt), v1 = (fX10_passUnseen r v).2.2 → Hp G d v1 x H1 → va_S (gA G) s.heap H1 locs1 → H1[q9]? = some ce → ce.vm = .none → s.vm.findClass (exN (fX10_passUnseen r v).1) = some ce.cls → vx_W p l e R s m args below meth c H1 locs1 (cells + (kkX10_passUnseen r v)) (slots + (kkX10_passUnseen r v)) Q (F0 m pc ls rest) q9) (kk : (fX10_passUnseen r v).1 = 0 → ∀ (d : Nat → Nat) (H1 : Heap) (locs1 : List Loc) (v1 : vSt), v1 = (fX10_passUnseen r v).2.2 → Hp G d v1 x H1 → va_S (gA G) s.heap H1 locs1 → W p l e R s m args below meth c H1 locs1 (cells + (kkX10_passUnseen r v)) (slots + (kkX10_passUnseen r v)) Q (F0 m (pc + 3) ls (.int (fX10_passUnseen r v).2.1 :: rest))) : W p l e R s m args below meth c H locs cells slots Q (F0 m pc ls (.ref (ga G r) :: rest)) := c_ti (runxV (kp := 0) X.1 X.2.1 X.2.2.1 X.2.2.2.1 X.2.2.2.2.1 (mX10_passUnseen l hst G da v x r hk_r ho) pW_bl hml t_im_X10_passUnseen t_sel_X10_passUnseen t_ini_VernierDrawers t_code_X10_passUnseen ⟨rfl, by decide, by decide, by decide +kernel⟩ rfl rfl hR hcs (recvW X hH (by rw [hk_r]; decide) (by rw [hk_r]; decide) (ce_10 hk_r) rfl) (preW X hS hH) rfl hls rfl hsum hdg) hS kx kk
def fX10_throwOut (r : Nat) (p1 : Int32) (v : vSt) : Nat × Int32 × vSt := if (fX10_needType r p1 v).1 = 0 then (let v7 : vSt := fX10_recordState r v; let v11 : vSt := (fX4_throwOutOfChart ((fX10_needType r p1 v).2) (v7 ((rN (v7 r 0)) + 2) 4) v7).2; (0, (fX4_throwOutOfChart ((fX10_needType r p1 v).2) (v7 ((rN (v7 r 0)) + 2) 4) v7).1, v11)) else (((fX10_needType r p1 v).1, 0, v))

def kkX10_throwOut (r : Nat) (p1 : Int32) (v : vSt) : Nat := pot ((fX10_throwOut r p1 v).2.2) - pot v + 36
def oX10_throwOut (r : Nat) (p1 : Int32) (v : vSt) : Prop := (oX10_needType r p1 v) ∧ ((0 + 6 ≤ kkX10_throwOut r p1 v) ∧ (((fX10_needType r p1 v).1 = 0) → ((kd (fX10_needType r p1 v).2 = 4) ∧ ((oX10_recordState r v) ∧ (((0 + 6) + kkX10_recordState r v ≤ kkX10_throwOut r p1 v) ∧ (∀ v7 : vSt, v7 = (fX10_recordState r v) → ((kd (rN (v7 r 0)) = 7) ∧ ((oX4_throwOutOfChart ((fX10_needType r p1 v).2) (v7 ((rN (v7 r 0)) + 2) 4) v7) ∧ (((0 + 6) + kkX10_recordState r v) + 12 ≤ kkX10_throwOut r p1 v)))))))))
abbrev rmX10_throwOut (r : Nat) (p1 : Int32) (v : vSt) : Room := { frames := 7, cells := kkX10_throwOut r p1 v, slots := kkX10_throwOut r p1 v, locals := 196 }
theorem dX10_throwOut_0 : decode cX10_throwOut 0 = .ok (.aload_n 0, 1) := by decide +kernel
theorem dX10_throwOut_1 : decode cX10_throwOut 1 = .ok (.iload_n 1, 1) := by decide +kernel
theorem dX10_throwOut_2 : decode cX10_throwOut 2 = .ok (.invokevirtual 167, 3) := by decide +kernel
theorem dX10_throwOut_5 : decode cX10_throwOut 5 = .ok (.astore_n 2, 1) := by decide +kernel
theorem dX10_throwOut_6 : decode cX10_throwOut 6 = .ok (.aload_n 0, 1) := by decide +kernel
theorem dX10_throwOut_7 : decode cX10_throwOut 7 = .ok (.invokevirtual 71, 3) := by decide +kernel
theorem dX10_throwOut_10 : decode cX10_throwOut 10 = .ok (.aload_n 2, 1) := by decide +kernel
theorem dX10_throwOut_11 : decode cX10_throwOut 11 = .ok (.aload_n 0, 1) := by decide +kernel
theorem dX10_throwOut_12 : decode cX10_throwOut 12 = .ok (.getfield 10, 3) := by decide +kernel
theorem dX10_throwOut_15 : decode cX10_throwOut 15 = .ok (.getfield 126, 3) := by decide +kernel
theorem dX10_throwOut_18 : decode cX10_throwOut 18 = .ok (.getfield 171, 3) := by decide +kernel
theorem dX10_throwOut_21 : decode cX10_throwOut 21 = .ok (.invokevirtual 174, 3) := by decide +kernel
theorem dX10_throwOut_24 : decode cX10_throwOut 24 = .ok (.ireturn, 1) := by decide +kernel
set_option maxHeartbeats 8000000 in
set_option maxRecDepth 100000 in
theorem mX10_throwOut (l : Launch) (hst : l.stackTraces = false) (G : gG) (da : Nat → Nat) (v : vSt) (x : gX) (r : Nat) (hk_r : kd r = 10) (p1 : Int32) (ho : oX10_throwOut r p1 v) : TI l yX10_throwOut cX10_throwOut 3 (some .int) (rmX10_throwOut r p1 v) [.ref (ga G r), .int p1] G da v x (kkX10_throwOut r p1 v) (kkX10_throwOut r p1 v) (fX10_throwOut r p1 v).1 (fX10_throwOut r p1 v).2.1 (fX10_throwOut r p1 v).2.2 x := by
  refine gofTI hst (by decide) rfl (Nat.le_of_ble_eq_true rfl) ⟨Nat.le_of_ble_eq_true rfl, Nat.le_of_ble_eq_true rfl, Nat.le_refl _, Nat.le_refl _⟩ (fun p e s m args below meth c ls Q X hH hl E EX ES EW => ?_)
  have hx := X.1
  have hb := X.2.1
  have hown := X.2.2.2.1
  have hts := X.2.2.2.2.1
  have hS : va_S (gA G) s.heap s.heap [] := va_S.rf
  unfold oX10_throwOut at ho
  have hl : lv_has ls 3 [(0, .ref (ga G r)), (1, .int p1)] := hl
  refine lv_aload_n hx hb dX10_throwOut_0 rfl (lv_at hl 0 rfl) ?_
  refine lv_iload_n hx hb dX10_throwOut_1 rfl (lv_at hl 1 rfl) ?_
  have hq1 := ho.1
  have ho := ho.2
  have hq2 := ho.1
  have ho := ho.2
  refine k_X10_needType hst X hS hH hk_r hq1 t_ml_VernierDrawers_167 hl.1 (Nat.le_of_ble_eq_true rfl) ⟨Nat.le_of_ble_eq_true rfl, Nat.le_of_ble_eq_true rfl⟩ ⟨hq2, hq2⟩ dX10_throwOut_2 (fun c3 da ce9 q9 H locs hH hS g1 g2 g3 => ?_) (fun c3 da H locs hH hS => ?_)
  · skip
    exact EX _ _ _ _ _ _ _ _ _ _ _ _ c3 (t31 ((fX10_throwOut.eq_1 _ _ _).trans ((if_neg c3).trans rfl))) (t33 ((fX10_throwOut.eq_1 _ _ _).trans ((if_neg c3).trans rfl))) hH hS g1 g2 g3 hq2 hq2
  · have ho := ho c3
    have hq4 := ho.1
    have ho := ho.2
    refine lv_astore_n (lv' := [(2, .ref (ga G ((fX10_needType r p1 v).2))), (0, .ref (ga G r)), (1, .int p1)]) hx hb dX10_throwOut_5 rfl hl (by decide) rfl (fun ls hl => ?_)
    refine lv_aload_n hx hb dX10_throwOut_6 rfl (lv_at hl 1 rfl) ?_
    have hq5 := ho.1
    have ho := ho.2
    have hq6 := ho.1
    have ho := ho.2
    refine k_X10_recordState X hS hH hk_r hq5 t_ml_VernierDrawers_71 hl.1 (Nat.le_of_ble_eq_true rfl) ⟨Nat.le_of_ble_eq_true rfl, Nat.le_of_ble_eq_true rfl⟩ ⟨hq6, hq6⟩ dX10_throwOut_7 (fun da H locs v7 ev7 hH hS => ?_)
    have ho := ho v7 ev7
    refine lv_aload_n hx hb dX10_throwOut_10 rfl (lv_at hl 0 rfl) ?_
    refine lv_aload_n hx hb dX10_throwOut_11 rfl (lv_at hl 1 rfl) ?_
    refine g_VernierDrawers_10 X hH hk_r dX10_throwOut_12 ?_
    have hq8 := ho.1
    have ho := ho.2
    refine g_VernierDrawers_126 X hH hq8 dX10_throwOut_15 ?_
    refine g_VernierDrawers_171 X hH (kc_7_0 hq8) dX10_throwOut_18 ?_
    have hq9 := ho.1
    have ho := ho.2
    have hq10 := ho
    refine k_X4_throwOutOfChart X hS hH hq4 hq9 t_ml_VernierDrawers_174 hl.1 (Nat.le_of_ble_eq_true rfl) ⟨Nat.le_of_ble_eq_true rfl, Nat.le_of_ble_eq_true rfl⟩ ⟨hq10, hq10⟩ dX10_throwOut_21 (fun da H locs v11 ev11 hH hS => ?_)
    replace ev7 := Eq.symm ev7
    replace ev11 := Eq.symm ev11
    subst ev7 ev11
    exact E _ _ _ _ _ _ _ _ _ dX10_throwOut_24 rfl (Eq.symm (t31 ((fX10_throwOut.eq_1 _ _ _).trans ((if_pos c3).trans rfl)))) (t32 ((fX10_throwOut.eq_1 _ _ _).trans ((if_pos c3).trans rfl))) (t33 ((fX10_throwOut.eq_1 _ _ _).trans ((if_pos c3).trans rfl))) hH hS hq10 hq10
theorem k_X10_throwOut {p : Program} {l : Launch} {e : Env} {R : Room} {s : State} {m : MethodId} {args : Array Value} {below : List Frame} {meth : Method} {c : Code} {H : Heap} {locs : List Loc} {cells slots : Nat} {Q : State → Prop} {cc : ByteArray} {pc nL : Nat} {ls : Array Slot} {rest : List Value} {G : gG} {own : String} {da : Nat → Nat} {v : vSt} {x : gX} (hst : l.stackTraces = false) (X : CX G p s m args c cc nL own) (hS : va_S (gA G) s.heap H locs) (hH : Hp G da v x H) {r : Nat} (hk_r : kd r = 10) {p1 : Int32} (ho : oX10_throwOut r p1 v) {idx : Nat} (hml : Cond.methodLink own idx yX10_throwOut ∈ TT) (hls : ls.size = nL) (hsum : (rest.map fun v => v.category).sum ≤ 8) (hR : (rmX10_throwOut r p1 v).frames + 1 ≤ R.frames ∧ 8 + (3 + 11) + (rmX10_throwOut r p1 v).locals ≤ R.locals) (hcs : cells + (kkX10_throwOut r p1 v) ≤ R.cells ∧ slots + (kkX10_throwOut r p1 v) ≤ R.slots) (hdg : decode cc pc = .ok (.invokevirtual idx, 3)) (kx : ¬ (fX10_throwOut r p1 v).1 = 0 → ∀ (d : Nat → Nat) (ce : Cell) (q9 : Addr) (H1 : Heap) (locs1 : List Loc) (v1 : vSt), v1 = (fX10_throwOut r p1 v).2.2 → Hp G d v1 x H1 → va_S (gA G) s.heap H1 locs1 → H1[q9]? = some ce → ce.vm = .none → s.vm.findClass (exN (fX10_throwOut r p1 v).1) = some ce.cls → vx_W p l e R s m args below meth c H1 locs1 (cells + (kkX10_throwOut r p1 v)) (slots + (kkX10_throwOut r p1 v)) Q (F0 m pc ls rest) q9) (kk : (fX10_throwOut r p1 v).1 = 0 → ∀ (d : Nat → Nat) (H1 : Heap) (locs1 : List Loc) (v1 : vSt), v1 = (fX10_throwOut r p1 v).2.2 → Hp G d v1 x H1 → va_S (gA G) s.heap H1 locs1 → W p l e R s m args below meth c H1 locs1 (cells + (kkX10_throwOut r p1 v)) (slots + (kkX10_throwOut r p1 v)) Q (F0 m (pc + 3) ls (.int (fX10_throwOut r p1 v).2.1 :: rest))) : W p l e R s m args below meth c H locs cells slots Q (F0 m pc ls (.int p1 :: .ref (ga G r) :: rest)) := c_ti (runxV (kp := 1) X.1 X.2.1 X.2.2.1 X.2.2.2.1 X.2.2.2.2.1 (mX10_throwOut l hst G da v x r hk_r p1 ho) pW_bl hml t_im_X10_throwOut t_sel_X10_throwOut t_ini_VernierDrawers t_code_X10_throwOut ⟨rfl, by decide, by decide, by decide +kernel⟩ rfl rfl hR hcs (recvW X hH (by rw [hk_r]; decide) (by rw [hk_r]; decide) (ce_10 hk_r) rfl) (preW X hS hH) rfl hls rfl hsum hdg) hS kx kk
def fX10_kindOf (r : Nat) (p1 : Int32) (v : vSt) : Nat × Int32 := if (fX10_needTool r p1 v).1 = 0 then ((0, v ((fX10_needTool r p1 v).2) 0)) else (((fX10_needTool r p1 v).1, 0))
def oX10_kindOf (r : Nat) (p1 : Int32) (v : vSt) : Prop := (oX10_needTool r p1 v) ∧ (((fX10_needTool r p1 v).1 = 0) → (kd (fX10_needTool r p1 v).2 = 8))
abbrev rmX10_kindOf : Room := { frames := 7, cells := 6, slots := 6, locals := 111 }
theorem dX10_kindOf_0 : decode cX10_kindOf 0 = .ok (.aload_n 0, 1) := by decide +kernel
theorem dX10_kindOf_1 : decode cX10_kindOf 1 = .ok (.iload_n 1, 1) := by decide +kernel
theorem dX10_kindOf_2 : decode cX10_kindOf 2 = .ok (.invokevirtual 181, 3) := by decide +kernel
theorem dX10_kindOf_5 : decode cX10_kindOf 5 = .ok (.getfield 185, 3) := by decide +kernel
theorem dX10_kindOf_8 : decode cX10_kindOf 8 = .ok (.ireturn, 1) := by decide +kernel
set_option maxHeartbeats 8000000 in
set_option maxRecDepth 100000 in
theorem mX10_kindOf (l : Launch) (hst : l.stackTraces = false) (G : gG) (da : Nat → Nat) (v : vSt) (x : gX) (r : Nat) (hk_r : kd r = 10) (p1 : Int32) (ho : oX10_kindOf r p1 v) : TI l yX10_kindOf cX10_kindOf 2 (some .int) rmX10_kindOf [.ref (ga G r), .int p1] G da v x 6 6 (fX10_kindOf r p1 v).1 (fX10_kindOf r p1 v).2 v x := by
  refine gofTI hst (by decide) rfl (Nat.le_of_ble_eq_true rfl) ⟨Nat.le_of_ble_eq_true rfl, Nat.le_of_ble_eq_true rfl, Nat.le_refl _, Nat.le_refl _⟩ (fun p e s m args below meth c ls Q X hH hl E EX ES EW => ?_)
  have hx := X.1
  have hb := X.2.1
  have hown := X.2.2.2.1
  have hts := X.2.2.2.2.1
  have hS : va_S (gA G) s.heap s.heap [] := va_S.rf
  unfold oX10_kindOf at ho
  have hl : lv_has ls 2 [(0, .ref (ga G r)), (1, .int p1)] := hl
  refine lv_aload_n hx hb dX10_kindOf_0 rfl (lv_at hl 0 rfl) ?_
  refine lv_iload_n hx hb dX10_kindOf_1 rfl (lv_at hl 1 rfl) ?_
  have hq1 := ho.1
  have ho := ho.2
  refine k_X10_needTool hst X hS hH hk_r hq1 t_ml_VernierDrawers_181 hl.1 (Nat.le_of_ble_eq_true rfl) ⟨Nat.le_of_ble_eq_true rfl, Nat.le_of_ble_eq_true rfl⟩ ⟨(Nat.le_of_ble_eq_true rfl), (Nat.le_of_ble_eq_true rfl)⟩ dX10_kindOf_2 (fun c2 da ce9 q9 H locs hH hS g1 g2 g3 => ?_) (fun c2 da H locs hH hS => ?_)
  · skip
    exact EX _ _ _ _ _ _ _ _ _ _ _ _ c2 (pr1 ((fX10_kindOf.eq_1 _ _ _).trans ((if_neg c2).trans rfl))) rfl hH hS g1 g2 g3 (Nat.le_of_ble_eq_true rfl) (Nat.le_of_ble_eq_true rfl)
  · have ho := ho c2
    have hq3 := ho
    refine g_VernierDrawers_185 X hH hq3 dX10_kindOf_5 ?_
    exact E _ _ _ _ _ _ _ _ _ dX10_kindOf_8 rfl (Eq.symm (pr1 ((fX10_kindOf.eq_1 _ _ _).trans ((if_pos c2).trans rfl)))) (pr2 ((fX10_kindOf.eq_1 _ _ _).trans ((if_pos c2).trans rfl))) rfl hH hS (Nat.le_of_ble_eq_true rfl) (Nat.le_of_ble_eq_true rfl)
theorem k_X10_kindOf {p : Program} {l : Launch} {e : Env} {R : Room} {s : State} {m : MethodId} {args : Array Value} {below : List Frame} {meth : Method} {c : Code} {H : Heap} {locs : List Loc} {cells slots : Nat} {Q : State → Prop} {cc : ByteArray} {pc nL : Nat} {ls : Array Slot} {rest : List Value} {G : gG} {own : String} {da : Nat → Nat} {v : vSt} {x : gX} (hst : l.stackTraces = false) (X : CX G p s m args c cc nL own) (hS : va_S (gA G) s.heap H locs) (hH : Hp G da v x H) {r : Nat} (hk_r : kd r = 10) {p1 : Int32} (ho : oX10_kindOf r p1 v) {idx : Nat} (hml : Cond.methodLink own idx yX10_kindOf ∈ TT) (hls : ls.size = nL) (hsum : (rest.map fun v => v.category).sum ≤ 8) (hR : rmX10_kindOf.frames + 1 ≤ R.frames ∧ 8 + (2 + 11) + rmX10_kindOf.locals ≤ R.locals) (hcs : cells + 6 ≤ R.cells ∧ slots + 6 ≤ R.slots) (hdg : decode cc pc = .ok (.invokevirtual idx, 3)) (kx : ¬ (fX10_kindOf r p1 v).1 = 0 → ∀ (d : Nat → Nat) (ce : Cell) (q9 : Addr) (H1 : Heap) (locs1 : List Loc), Hp G d v x H1 → va_S (gA G) s.heap H1 locs1 → H1[q9]? = some ce → ce.vm = .none → s.vm.findClass (exN (fX10_kindOf r p1 v).1) = some ce.cls → vx_W p l e R s m args below meth c H1 locs1 (cells + 6) (slots + 6) Q (F0 m pc ls rest) q9) (kk : (fX10_kindOf r p1 v).1 = 0 → ∀ (d : Nat → Nat) (H1 : Heap) (locs1 : List Loc), Hp G d v x H1 → va_S (gA G) s.heap H1 locs1 → W p l e R s m args below meth c H1 locs1 (cells + 6) (slots + 6) Q (F0 m (pc + 3) ls (.int (fX10_kindOf r p1 v).2 :: rest))) : W p l e R s m args below meth c H locs cells slots Q (F0 m pc ls (.int p1 :: .ref (ga G r) :: rest)) := c_ti (runxV (kp := 1) X.1 X.2.1 X.2.2.1 X.2.2.2.1 X.2.2.2.2.1 (mX10_kindOf l hst G da v x r hk_r p1 ho) pW_bl hml t_im_X10_kindOf t_sel_X10_kindOf t_ini_VernierDrawers t_code_X10_kindOf ⟨rfl, by decide, by decide, by decide +kernel⟩ rfl rfl hR hcs (recvW X hH (by rw [hk_r]; decide) (by rw [hk_r]; decide) (ce_10 hk_r) rfl) (preW X hS hH) rfl hls rfl hsum hdg) hS (fun h9 d9 ce9 q9 H9 L9 v9 e9 hH9 => kx h9 d9 ce9 q9 H9 L9 (by subst e9; exact hH9)) (fun h9 d9 H9 L9 v9 e9 hH9 => kk h9 d9 H9 L9 (by subst e9; exact hH9))
def fX10_stepOf (r : Nat) (p1 : Int32) (v : vSt) : Nat × Int32 := if (fX10_needTool r p1 v).1 = 0 then ((0, v ((fX10_needTool r p1 v).2) 1)) else (((fX10_needTool r p1 v).1, 0))
def oX10_stepOf (r : Nat) (p1 : Int32) (v : vSt) : Prop := (oX10_needTool r p1 v) ∧ (((fX10_needTool r p1 v).1 = 0) → (kd (fX10_needTool r p1 v).2 = 8))
abbrev rmX10_stepOf : Room := { frames := 7, cells := 6, slots := 6, locals := 111 }
theorem dX10_stepOf_0 : decode cX10_stepOf 0 = .ok (.aload_n 0, 1) := by decide +kernel
theorem dX10_stepOf_1 : decode cX10_stepOf 1 = .ok (.iload_n 1, 1) := by decide +kernel
theorem dX10_stepOf_2 : decode cX10_stepOf 2 = .ok (.invokevirtual 181, 3) := by decide +kernel
theorem dX10_stepOf_5 : decode cX10_stepOf 5 = .ok (.getfield 190, 3) := by decide +kernel
theorem dX10_stepOf_8 : decode cX10_stepOf 8 = .ok (.ireturn, 1) := by decide +kernel
set_option maxHeartbeats 8000000 in
set_option maxRecDepth 100000 in
theorem mX10_stepOf (l : Launch) (hst : l.stackTraces = false) (G : gG) (da : Nat → Nat) (v : vSt) (x : gX) (r : Nat) (hk_r : kd r = 10) (p1 : Int32) (ho : oX10_stepOf r p1 v) : TI l yX10_stepOf cX10_stepOf 2 (some .int) rmX10_stepOf [.ref (ga G r), .int p1] G da v x 6 6 (fX10_stepOf r p1 v).1 (fX10_stepOf r p1 v).2 v x := by
  refine gofTI hst (by decide) rfl (Nat.le_of_ble_eq_true rfl) ⟨Nat.le_of_ble_eq_true rfl, Nat.le_of_ble_eq_true rfl, Nat.le_refl _, Nat.le_refl _⟩ (fun p e s m args below meth c ls Q X hH hl E EX ES EW => ?_)
  have hx := X.1
  have hb := X.2.1
  have hown := X.2.2.2.1
  have hts := X.2.2.2.2.1
  have hS : va_S (gA G) s.heap s.heap [] := va_S.rf
  unfold oX10_stepOf at ho
  have hl : lv_has ls 2 [(0, .ref (ga G r)), (1, .int p1)] := hl
  refine lv_aload_n hx hb dX10_stepOf_0 rfl (lv_at hl 0 rfl) ?_
  refine lv_iload_n hx hb dX10_stepOf_1 rfl (lv_at hl 1 rfl) ?_
  have hq1 := ho.1
  have ho := ho.2
  refine k_X10_needTool hst X hS hH hk_r hq1 t_ml_VernierDrawers_181 hl.1 (Nat.le_of_ble_eq_true rfl) ⟨Nat.le_of_ble_eq_true rfl, Nat.le_of_ble_eq_true rfl⟩ ⟨(Nat.le_of_ble_eq_true rfl), (Nat.le_of_ble_eq_true rfl)⟩ dX10_stepOf_2 (fun c2 da ce9 q9 H locs hH hS g1 g2 g3 => ?_) (fun c2 da H locs hH hS => ?_)
  · skip
    exact EX _ _ _ _ _ _ _ _ _ _ _ _ c2 (pr1 ((fX10_stepOf.eq_1 _ _ _).trans ((if_neg c2).trans rfl))) rfl hH hS g1 g2 g3 (Nat.le_of_ble_eq_true rfl) (Nat.le_of_ble_eq_true rfl)
  · have ho := ho c2
    have hq3 := ho
    refine g_VernierDrawers_190 X hH hq3 dX10_stepOf_5 ?_
    exact E _ _ _ _ _ _ _ _ _ dX10_stepOf_8 rfl (Eq.symm (pr1 ((fX10_stepOf.eq_1 _ _ _).trans ((if_pos c2).trans rfl)))) (pr2 ((fX10_stepOf.eq_1 _ _ _).trans ((if_pos c2).trans rfl))) rfl hH hS (Nat.le_of_ble_eq_true rfl) (Nat.le_of_ble_eq_true rfl)
theorem k_X10_stepOf {p : Program} {l : Launch} {e : Env} {R : Room} {s : State} {m : MethodId} {args : Array Value} {below : List Frame} {meth : Method} {c : Code} {H : Heap} {locs : List Loc} {cells slots : Nat} {Q : State → Prop} {cc : ByteArray} {pc nL : Nat} {ls : Array Slot} {rest : List Value} {G : gG} {own : String} {da : Nat → Nat} {v : vSt} {x : gX} (hst : l.stackTraces = false) (X : CX G p s m args c cc nL own) (hS : va_S (gA G) s.heap H locs) (hH : Hp G da v x H) {r : Nat} (hk_r : kd r = 10) {p1 : Int32} (ho : oX10_stepOf r p1 v) {idx : Nat} (hml : Cond.methodLink own idx yX10_stepOf ∈ TT) (hls : ls.size = nL) (hsum : (rest.map fun v => v.category).sum ≤ 8) (hR : rmX10_stepOf.frames + 1 ≤ R.frames ∧ 8 + (2 + 11) + rmX10_stepOf.locals ≤ R.locals) (hcs : cells + 6 ≤ R.cells ∧ slots + 6 ≤ R.slots) (hdg : decode cc pc = .ok (.invokevirtual idx, 3)) (kx : ¬ (fX10_stepOf r p1 v).1 = 0 → ∀ (d : Nat → Nat) (ce : Cell) (q9 : Addr) (H1 : Heap) (locs1 : List Loc), Hp G d v x H1 → va_S (gA G) s.heap H1 locs1 → H1[q9]? = some ce → ce.vm = .none → s.vm.findClass (exN (fX10_stepOf r p1 v).1) = some ce.cls → vx_W p l e R s m args below meth c H1 locs1 (cells + 6) (slots + 6) Q (F0 m pc ls rest) q9) (kk : (fX10_stepOf r p1 v).1 = 0 → ∀ (d : Nat → Nat) (H1 : Heap) (locs1 : List Loc), Hp G d v x H1 → va_S (gA G) s.heap H1 locs1 → W p l e R s m args below meth c H1 locs1 (cells + 6) (slots + 6) Q (F0 m (pc + 3) ls (.int (fX10_stepOf r p1 v).2 :: rest))) : W p l e R s m args below meth c H locs cells slots Q (F0 m pc ls (.int p1 :: .ref (ga G r) :: rest)) := c_ti (runxV (kp := 1) X.1 X.2.1 X.2.2.1 X.2.2.2.1 X.2.2.2.2.1 (mX10_stepOf l hst G da v x r hk_r p1 ho) pW_bl hml t_im_X10_stepOf t_sel_X10_stepOf t_ini_VernierDrawers t_code_X10_stepOf ⟨rfl, by decide, by decide, by decide +kernel⟩ rfl rfl hR hcs (recvW X hH (by rw [hk_r]; decide) (by rw [hk_r]; decide) (ce_10 hk_r) rfl) (preW X hS hH) rfl hls rfl hsum hdg) hS (fun h9 d9 ce9 q9 H9 L9 v9 e9 hH9 => kx h9 d9 ce9 q9 H9 L9 (by subst e9; exact hH9)) (fun h9 d9 H9 L9 v9 e9 hH9 => kk h9 d9 H9 L9 (by subst e9; exact hH9))
def fX10_usesOf (r : Nat) (p1 : Int32) (v : vSt) : Nat × Int32 := if (fX10_needTool r p1 v).1 = 0 then ((0, v ((fX10_needTool r p1 v).2) 6)) else (((fX10_needTool r p1 v).1, 0))
def oX10_usesOf (r : Nat) (p1 : Int32) (v : vSt) : Prop := (oX10_needTool r p1 v) ∧ (((fX10_needTool r p1 v).1 = 0) → (kd (fX10_needTool r p1 v).2 = 8))
abbrev rmX10_usesOf : Room := { frames := 7, cells := 6, slots := 6, locals := 111 }
theorem dX10_usesOf_0 : decode cX10_usesOf 0 = .ok (.aload_n 0, 1) := by decide +kernel
theorem dX10_usesOf_1 : decode cX10_usesOf 1 = .ok (.iload_n 1, 1) := by decide +kernel
theorem dX10_usesOf_2 : decode cX10_usesOf 2 = .ok (.invokevirtual 181, 3) := by decide +kernel
theorem dX10_usesOf_5 : decode cX10_usesOf 5 = .ok (.getfield 193, 3) := by decide +kernel
theorem dX10_usesOf_8 : decode cX10_usesOf 8 = .ok (.ireturn, 1) := by decide +kernel
set_option maxHeartbeats 8000000 in
set_option maxRecDepth 100000 in
theorem mX10_usesOf (l : Launch) (hst : l.stackTraces = false) (G : gG) (da : Nat → Nat) (v : vSt) (x : gX) (r : Nat) (hk_r : kd r = 10) (p1 : Int32) (ho : oX10_usesOf r p1 v) : TI l yX10_usesOf cX10_usesOf 2 (some .int) rmX10_usesOf [.ref (ga G r), .int p1] G da v x 6 6 (fX10_usesOf r p1 v).1 (fX10_usesOf r p1 v).2 v x := by
  refine gofTI hst (by decide) rfl (Nat.le_of_ble_eq_true rfl) ⟨Nat.le_of_ble_eq_true rfl, Nat.le_of_ble_eq_true rfl, Nat.le_refl _, Nat.le_refl _⟩ (fun p e s m args below meth c ls Q X hH hl E EX ES EW => ?_)
  have hx := X.1
  have hb := X.2.1
  have hown := X.2.2.2.1
  have hts := X.2.2.2.2.1
  have hS : va_S (gA G) s.heap s.heap [] := va_S.rf
  unfold oX10_usesOf at ho
  have hl : lv_has ls 2 [(0, .ref (ga G r)), (1, .int p1)] := hl
  refine lv_aload_n hx hb dX10_usesOf_0 rfl (lv_at hl 0 rfl) ?_
  refine lv_iload_n hx hb dX10_usesOf_1 rfl (lv_at hl 1 rfl) ?_
  have hq1 := ho.1
  have ho := ho.2
  refine k_X10_needTool hst X hS hH hk_r hq1 t_ml_VernierDrawers_181 hl.1 (Nat.le_of_ble_eq_true rfl) ⟨Nat.le_of_ble_eq_true rfl, Nat.le_of_ble_eq_true rfl⟩ ⟨(Nat.le_of_ble_eq_true rfl), (Nat.le_of_ble_eq_true rfl)⟩ dX10_usesOf_2 (fun c2 da ce9 q9 H locs hH hS g1 g2 g3 => ?_) (fun c2 da H locs hH hS => ?_)
  · skip
    exact EX _ _ _ _ _ _ _ _ _ _ _ _ c2 (pr1 ((fX10_usesOf.eq_1 _ _ _).trans ((if_neg c2).trans rfl))) rfl hH hS g1 g2 g3 (Nat.le_of_ble_eq_true rfl) (Nat.le_of_ble_eq_true rfl)
  · have ho := ho c2
    have hq3 := ho
    refine g_VernierDrawers_193 X hH hq3 dX10_usesOf_5 ?_
    exact E _ _ _ _ _ _ _ _ _ dX10_usesOf_8 rfl (Eq.symm (pr1 ((fX10_usesOf.eq_1 _ _ _).trans ((if_pos c2).trans rfl)))) (pr2 ((fX10_usesOf.eq_1 _ _ _).trans ((if_pos c2).trans rfl))) rfl hH hS (Nat.le_of_ble_eq_true rfl) (Nat.le_of_ble_eq_true rfl)
theorem k_X10_usesOf {p : Program} {l : Launch} {e : Env} {R : Room} {s : State} {m : MethodId} {args : Array Value} {below : List Frame} {meth : Method} {c : Code} {H : Heap} {locs : List Loc} {cells slots : Nat} {Q : State → Prop} {cc : ByteArray} {pc nL : Nat} {ls : Array Slot} {rest : List Value} {G : gG} {own : String} {da : Nat → Nat} {v : vSt} {x : gX} (hst : l.stackTraces = false) (X : CX G p s m args c cc nL own) (hS : va_S (gA G) s.heap H locs) (hH : Hp G da v x H) {r : Nat} (hk_r : kd r = 10) {p1 : Int32} (ho : oX10_usesOf r p1 v) {idx : Nat} (hml : Cond.methodLink own idx yX10_usesOf ∈ TT) (hls : ls.size = nL) (hsum : (rest.map fun v => v.category).sum ≤ 8) (hR : rmX10_usesOf.frames + 1 ≤ R.frames ∧ 8 + (2 + 11) + rmX10_usesOf.locals ≤ R.locals) (hcs : cells + 6 ≤ R.cells ∧ slots + 6 ≤ R.slots) (hdg : decode cc pc = .ok (.invokevirtual idx, 3)) (kx : ¬ (fX10_usesOf r p1 v).1 = 0 → ∀ (d : Nat → Nat) (ce : Cell) (q9 : Addr) (H1 : Heap) (locs1 : List Loc), Hp G d v x H1 → va_S (gA G) s.heap H1 locs1 → H1[q9]? = some ce → ce.vm = .none → s.vm.findClass (exN (fX10_usesOf r p1 v).1) = some ce.cls → vx_W p l e R s m args below meth c H1 locs1 (cells + 6) (slots + 6) Q (F0 m pc ls rest) q9) (kk : (fX10_usesOf r p1 v).1 = 0 → ∀ (d : Nat → Nat) (H1 : Heap) (locs1 : List Loc), Hp G d v x H1 → va_S (gA G) s.heap H1 locs1 → W p l e R s m args below meth c H1 locs1 (cells + 6) (slots + 6) Q (F0 m (pc + 3) ls (.int (fX10_usesOf r p1 v).2 :: rest))) : W p l e R s m args below meth c H locs cells slots Q (F0 m pc ls (.int p1 :: .ref (ga G r) :: rest)) := c_ti (runxV (kp := 1) X.1 X.2.1 X.2.2.1 X.2.2.2.1 X.2.2.2.2.1 (mX10_usesOf l hst G da v x r hk_r p1 ho) pW_bl hml t_im_X10_usesOf t_sel_X10_usesOf t_ini_VernierDrawers t_code_X10_usesOf ⟨rfl, by decide, by decide, by decide +kernel⟩ rfl rfl hR hcs (recvW X hH (by rw [hk_r]; decide) (by rw [hk_r]; decide) (ce_10 hk_r) rfl) (preW X hS hH) rfl hls rfl hsum hdg) hS (fun h9 d9 ce9 q9 H9 L9 v9 e9 hH9 => kx h9 d9 ce9 q9 H9 L9 (by subst e9; exact hH9)) (fun h9 d9 H9 L9 v9 e9 hH9 => kk h9 d9 H9 L9 (by subst e9; exact hH9))
def fX10_wearOf (r : Nat) (p1 : Int32) (v : vSt) : Nat × Int32 := if (fX10_needTool r p1 v).1 = 0 then ((0, v ((fX10_needTool r p1 v).2) 4)) else (((fX10_needTool r p1 v).1, 0))
def oX10_wearOf (r : Nat) (p1 : Int32) (v : vSt) : Prop := (oX10_needTool r p1 v) ∧ (((fX10_needTool r p1 v).1 = 0) → (kd (fX10_needTool r p1 v).2 = 8))
abbrev rmX10_wearOf : Room := { frames := 7, cells := 6, slots := 6, locals := 111 }
theorem dX10_wearOf_0 : decode cX10_wearOf 0 = .ok (.aload_n 0, 1) := by decide +kernel
theorem dX10_wearOf_1 : decode cX10_wearOf 1 = .ok (.iload_n 1, 1) := by decide +kernel
theorem dX10_wearOf_2 : decode cX10_wearOf 2 = .ok (.invokevirtual 181, 3) := by decide +kernel
theorem dX10_wearOf_5 : decode cX10_wearOf 5 = .ok (.getfield 196, 3) := by decide +kernel
theorem dX10_wearOf_8 : decode cX10_wearOf 8 = .ok (.ireturn, 1) := by decide +kernel
set_option maxHeartbeats 8000000 in
set_option maxRecDepth 100000 in
theorem mX10_wearOf (l : Launch) (hst : l.stackTraces = false) (G : gG) (da : Nat → Nat) (v : vSt) (x : gX) (r : Nat) (hk_r : kd r = 10) (p1 : Int32) (ho : oX10_wearOf r p1 v) : TI l yX10_wearOf cX10_wearOf 2 (some .int) rmX10_wearOf [.ref (ga G r), .int p1] G da v x 6 6 (fX10_wearOf r p1 v).1 (fX10_wearOf r p1 v).2 v x := by
  refine gofTI hst (by decide) rfl (Nat.le_of_ble_eq_true rfl) ⟨Nat.le_of_ble_eq_true rfl, Nat.le_of_ble_eq_true rfl, Nat.le_refl _, Nat.le_refl _⟩ (fun p e s m args below meth c ls Q X hH hl E EX ES EW => ?_)
  have hx := X.1
  have hb := X.2.1
  have hown := X.2.2.2.1
  have hts := X.2.2.2.2.1
  have hS : va_S (gA G) s.heap s.heap [] := va_S.rf
  unfold oX10_wearOf at ho
  have hl : lv_has ls 2 [(0, .ref (ga G r)), (1, .int p1)] := hl
  refine lv_aload_n hx hb dX10_wearOf_0 rfl (lv_at hl 0 rfl) ?_
  refine lv_iload_n hx hb dX10_wearOf_1 rfl (lv_at hl 1 rfl) ?_
  have hq1 := ho.1
  have ho := ho.2
  refine k_X10_needTool hst X hS hH hk_r hq1 t_ml_VernierDrawers_181 hl.1 (Nat.le_of_ble_eq_true rfl) ⟨Nat.le_of_ble_eq_true rfl, Nat.le_of_ble_eq_true rfl⟩ ⟨(Nat.le_of_ble_eq_true rfl), (Nat.le_of_ble_eq_true rfl)⟩ dX10_wearOf_2 (fun c2 da ce9 q9 H locs hH hS g1 g2 g3 => ?_) (fun c2 da H locs hH hS => ?_)
  · skip
    exact EX _ _ _ _ _ _ _ _ _ _ _ _ c2 (pr1 ((fX10_wearOf.eq_1 _ _ _).trans ((if_neg c2).trans rfl))) rfl hH hS g1 g2 g3 (Nat.le_of_ble_eq_true rfl) (Nat.le_of_ble_eq_true rfl)
  · have ho := ho c2
    have hq3 := ho
    refine g_VernierDrawers_196 X hH hq3 dX10_wearOf_5 ?_
    exact E _ _ _ _ _ _ _ _ _ dX10_wearOf_8 rfl (Eq.symm (pr1 ((fX10_wearOf.eq_1 _ _ _).trans ((if_pos c2).trans rfl)))) (pr2 ((fX10_wearOf.eq_1 _ _ _).trans ((if_pos c2).trans rfl))) rfl hH hS (Nat.le_of_ble_eq_true rfl) (Nat.le_of_ble_eq_true rfl)
theorem k_X10_wearOf {p : Program} {l : Launch} {e : Env} {R : Room} {s : State} {m : MethodId} {args : Array Value} {below : List Frame} {meth : Method} {c : Code} {H : Heap} {locs : List Loc} {cells slots : Nat} {Q : State → Prop} {cc : ByteArray} {pc nL : Nat} {ls : Array Slot} {rest : List Value} {G : gG} {own : String} {da : Nat → Nat} {v : vSt} {x : gX} (hst : l.stackTraces = false) (X : CX G p s m args c cc nL own) (hS : va_S (gA G) s.heap H locs) (hH : Hp G da v x H) {r : Nat} (hk_r : kd r = 10) {p1 : Int32} (ho : oX10_wearOf r p1 v) {idx : Nat} (hml : Cond.methodLink own idx yX10_wearOf ∈ TT) (hls : ls.size = nL) (hsum : (rest.map fun v => v.category).sum ≤ 8) (hR : rmX10_wearOf.frames + 1 ≤ R.frames ∧ 8 + (2 + 11) + rmX10_wearOf.locals ≤ R.locals) (hcs : cells + 6 ≤ R.cells ∧ slots + 6 ≤ R.slots) (hdg : decode cc pc = .ok (.invokevirtual idx, 3)) (kx : ¬ (fX10_wearOf r p1 v).1 = 0 → ∀ (d : Nat → Nat) (ce : Cell) (q9 : Addr) (H1 : Heap) (locs1 : List Loc), Hp G d v x H1 → va_S (gA G) s.heap H1 locs1 → H1[q9]? = some ce → ce.vm = .none → s.vm.findClass (exN (fX10_wearOf r p1 v).1) = some ce.cls → vx_W p l e R s m args below meth c H1 locs1 (cells + 6) (slots + 6) Q (F0 m pc ls rest) q9) (kk : (fX10_wearOf r p1 v).1 = 0 → ∀ (d : Nat → Nat) (H1 : Heap) (locs1 : List Loc), Hp G d v x H1 → va_S (gA G) s.heap H1 locs1 → W p l e R s m args below meth c H1 locs1 (cells + 6) (slots + 6) Q (F0 m (pc + 3) ls (.int (fX10_wearOf r p1 v).2 :: rest))) : W p l e R s m args below meth c H locs cells slots Q (F0 m pc ls (.int p1 :: .ref (ga G r) :: rest)) := c_ti (runxV (kp := 1) X.1 X.2.1 X.2.2.1 X.2.2.2.1 X.2.2.2.2.1 (mX10_wearOf l hst G da v x r hk_r p1 ho) pW_bl hml t_im_X10_wearOf t_sel_X10_wearOf t_ini_VernierDrawers t_code_X10_wearOf ⟨rfl, by decide, by decide, by decide +kernel⟩ rfl rfl hR hcs (recvW X hH (by rw [hk_r]; decide) (by rw [hk_r]; decide) (ce_10 hk_r) rfl) (preW X hS hH) rfl hls rfl hsum hdg) hS (fun h9 d9 ce9 q9 H9 L9 v9 e9 hH9 => kx h9 d9 ce9 q9 H9 L9 (by subst e9; exact hH9)) (fun h9 d9 H9 L9 v9 e9 hH9 => kk h9 d9 H9 L9 (by subst e9; exact hH9))
def fX10_knownError (r : Nat) (p1 : Int32) (v : vSt) : Nat × Int32 := if (fX10_needTool r p1 v).1 = 0 then ((0, v ((fX10_needTool r p1 v).2) 3)) else (((fX10_needTool r p1 v).1, 0))
def oX10_knownError (r : Nat) (p1 : Int32) (v : vSt) : Prop := (oX10_needTool r p1 v) ∧ (((fX10_needTool r p1 v).1 = 0) → (kd (fX10_needTool r p1 v).2 = 8))
abbrev rmX10_knownError : Room := { frames := 7, cells := 6, slots := 6, locals := 111 }
theorem dX10_knownError_0 : decode cX10_knownError 0 = .ok (.aload_n 0, 1) := by decide +kernel
theorem dX10_knownError_1 : decode cX10_knownError 1 = .ok (.iload_n 1, 1) := by decide +kernel
theorem dX10_knownError_2 : decode cX10_knownError 2 = .ok (.invokevirtual 181, 3) := by decide +kernel
theorem dX10_knownError_5 : decode cX10_knownError 5 = .ok (.getfield 199, 3) := by decide +kernel
theorem dX10_knownError_8 : decode cX10_knownError 8 = .ok (.ireturn, 1) := by decide +kernel
set_option maxHeartbeats 8000000 in
set_option maxRecDepth 100000 in
theorem mX10_knownError (l : Launch) (hst : l.stackTraces = false) (G : gG) (da : Nat → Nat) (v : vSt) (x : gX) (r : Nat) (hk_r : kd r = 10) (p1 : Int32) (ho : oX10_knownError r p1 v) : TI l yX10_knownError cX10_knownError 2 (some .int) rmX10_knownError [.ref (ga G r), .int p1] G da v x 6 6 (fX10_knownError r p1 v).1 (fX10_knownError r p1 v).2 v x := by
  refine gofTI hst (by decide) rfl (Nat.le_of_ble_eq_true rfl) ⟨Nat.le_of_ble_eq_true rfl, Nat.le_of_ble_eq_true rfl, Nat.le_refl _, Nat.le_refl _⟩ (fun p e s m args below meth c ls Q X hH hl E EX ES EW => ?_)
  have hx := X.1
  have hb := X.2.1
  have hown := X.2.2.2.1
  have hts := X.2.2.2.2.1
  have hS : va_S (gA G) s.heap s.heap [] := va_S.rf
  unfold oX10_knownError at ho
  have hl : lv_has ls 2 [(0, .ref (ga G r)), (1, .int p1)] := hl
  refine lv_aload_n hx hb dX10_knownError_0 rfl (lv_at hl 0 rfl) ?_
  refine lv_iload_n hx hb dX10_knownError_1 rfl (lv_at hl 1 rfl) ?_
  have hq1 := ho.1
  have ho := ho.2
  refine k_X10_needTool hst X hS hH hk_r hq1 t_ml_VernierDrawers_181 hl.1 (Nat.le_of_ble_eq_true rfl) ⟨Nat.le_of_ble_eq_true rfl, Nat.le_of_ble_eq_true rfl⟩ ⟨(Nat.le_of_ble_eq_true rfl), (Nat.le_of_ble_eq_true rfl)⟩ dX10_knownError_2 (fun c2 da ce9 q9 H locs hH hS g1 g2 g3 => ?_) (fun c2 da H locs hH hS => ?_)
  · skip
    exact EX _ _ _ _ _ _ _ _ _ _ _ _ c2 (pr1 ((fX10_knownError.eq_1 _ _ _).trans ((if_neg c2).trans rfl))) rfl hH hS g1 g2 g3 (Nat.le_of_ble_eq_true rfl) (Nat.le_of_ble_eq_true rfl)
  · have ho := ho c2
    have hq3 := ho
    refine g_VernierDrawers_199 X hH hq3 dX10_knownError_5 ?_
    exact E _ _ _ _ _ _ _ _ _ dX10_knownError_8 rfl (Eq.symm (pr1 ((fX10_knownError.eq_1 _ _ _).trans ((if_pos c2).trans rfl)))) (pr2 ((fX10_knownError.eq_1 _ _ _).trans ((if_pos c2).trans rfl))) rfl hH hS (Nat.le_of_ble_eq_true rfl) (Nat.le_of_ble_eq_true rfl)
theorem k_X10_knownError {p : Program} {l : Launch} {e : Env} {R : Room} {s : State} {m : MethodId} {args : Array Value} {below : List Frame} {meth : Method} {c : Code} {H : Heap} {locs : List Loc} {cells slots : Nat} {Q : State → Prop} {cc : ByteArray} {pc nL : Nat} {ls : Array Slot} {rest : List Value} {G : gG} {own : String} {da : Nat → Nat} {v : vSt} {x : gX} (hst : l.stackTraces = false) (X : CX G p s m args c cc nL own) (hS : va_S (gA G) s.heap H locs) (hH : Hp G da v x H) {r : Nat} (hk_r : kd r = 10) {p1 : Int32} (ho : oX10_knownError r p1 v) {idx : Nat} (hml : Cond.methodLink own idx yX10_knownError ∈ TT) (hls : ls.size = nL) (hsum : (rest.map fun v => v.category).sum ≤ 8) (hR : rmX10_knownError.frames + 1 ≤ R.frames ∧ 8 + (2 + 11) + rmX10_knownError.locals ≤ R.locals) (hcs : cells + 6 ≤ R.cells ∧ slots + 6 ≤ R.slots) (hdg : decode cc pc = .ok (.invokevirtual idx, 3)) (kx : ¬ (fX10_knownError r p1 v).1 = 0 → ∀ (d : Nat → Nat) (ce : Cell) (q9 : Addr) (H1 : Heap) (locs1 : List Loc), Hp G d v x H1 → va_S (gA G) s.heap H1 locs1 → H1[q9]? = some ce → ce.vm = .none → s.vm.findClass (exN (fX10_knownError r p1 v).1) = some ce.cls → vx_W p l e R s m args below meth c H1 locs1 (cells + 6) (slots + 6) Q (F0 m pc ls rest) q9) (kk : (fX10_knownError r p1 v).1 = 0 → ∀ (d : Nat → Nat) (H1 : Heap) (locs1 : List Loc), Hp G d v x H1 → va_S (gA G) s.heap H1 locs1 → W p l e R s m args below meth c H1 locs1 (cells + 6) (slots + 6) Q (F0 m (pc + 3) ls (.int (fX10_knownError r p1 v).2 :: rest))) : W p l e R s m args below meth c H locs cells slots Q (F0 m pc ls (.int p1 :: .ref (ga G r) :: rest)) := c_ti (runxV (kp := 1) X.1 X.2.1 X.2.2.1 X.2.2.2.1 X.2.2.2.2.1 (mX10_knownError l hst G da v x r hk_r p1 ho) pW_bl hml t_im_X10_knownError t_sel_X10_knownError t_ini_VernierDrawers t_code_X10_knownError ⟨rfl, by decide, by decide, by decide +kernel⟩ rfl rfl hR hcs (recvW X hH (by rw [hk_r]; decide) (by rw [hk_r]; decide) (ce_10 hk_r) rfl) (preW X hS hH) rfl hls rfl hsum hdg) hS (fun h9 d9 ce9 q9 H9 L9 v9 e9 hH9 => kx h9 d9 ce9 q9 H9 L9 (by subst e9; exact hH9)) (fun h9 d9 H9 L9 v9 e9 hH9 => kk h9 d9 H9 L9 (by subst e9; exact hH9))
def fX10_isDue (r : Nat) (p1 : Int32) (v : vSt) : Nat × Int32 := if (fX10_needTool r p1 v).1 = 0 then ((0, fX8_dueOn ((fX10_needTool r p1 v).2) (v ((rN (v r 0)) + 1) 5) v)) else (((fX10_needTool r p1 v).1, 0))
def oX10_isDue (r : Nat) (p1 : Int32) (v : vSt) : Prop := (oX10_needTool r p1 v) ∧ (((fX10_needTool r p1 v).1 = 0) → ((kd (fX10_needTool r p1 v).2 = 8) ∧ (kd (rN (v r 0)) = 7)))
abbrev rmX10_isDue : Room := { frames := 7, cells := 6, slots := 6, locals := 111 }
theorem dX10_isDue_0 : decode cX10_isDue 0 = .ok (.aload_n 0, 1) := by decide +kernel
theorem dX10_isDue_1 : decode cX10_isDue 1 = .ok (.iload_n 1, 1) := by decide +kernel
theorem dX10_isDue_2 : decode cX10_isDue 2 = .ok (.invokevirtual 181, 3) := by decide +kernel
theorem dX10_isDue_5 : decode cX10_isDue 5 = .ok (.aload_n 0, 1) := by decide +kernel
theorem dX10_isDue_6 : decode cX10_isDue 6 = .ok (.getfield 10, 3) := by decide +kernel
theorem dX10_isDue_9 : decode cX10_isDue 9 = .ok (.getfield 41, 3) := by decide +kernel
theorem dX10_isDue_12 : decode cX10_isDue 12 = .ok (.getfield 114, 3) := by decide +kernel
theorem dX10_isDue_15 : decode cX10_isDue 15 = .ok (.invokevirtual 202, 3) := by decide +kernel
theorem dX10_isDue_18 : decode cX10_isDue 18 = .ok (.ireturn, 1) := by decide +kernel
set_option maxHeartbeats 8000000 in
set_option maxRecDepth 100000 in
theorem mX10_isDue (l : Launch) (hst : l.stackTraces = false) (G : gG) (da : Nat → Nat) (v : vSt) (x : gX) (r : Nat) (hk_r : kd r = 10) (p1 : Int32) (ho : oX10_isDue r p1 v) : TI l yX10_isDue cX10_isDue 2 (some .boolean) rmX10_isDue [.ref (ga G r), .int p1] G da v x 6 6 (fX10_isDue r p1 v).1 (fX10_isDue r p1 v).2 v x := by
  refine gofTI hst (by decide) rfl (Nat.le_of_ble_eq_true rfl) ⟨Nat.le_of_ble_eq_true rfl, Nat.le_of_ble_eq_true rfl, Nat.le_refl _, Nat.le_refl _⟩ (fun p e s m args below meth c ls Q X hH hl E EX ES EW => ?_)
  have hx := X.1
  have hb := X.2.1
  have hown := X.2.2.2.1
  have hts := X.2.2.2.2.1
  have hS : va_S (gA G) s.heap s.heap [] := va_S.rf
  unfold oX10_isDue at ho
  have hl : lv_has ls 2 [(0, .ref (ga G r)), (1, .int p1)] := hl
  refine lv_aload_n hx hb dX10_isDue_0 rfl (lv_at hl 0 rfl) ?_
  refine lv_iload_n hx hb dX10_isDue_1 rfl (lv_at hl 1 rfl) ?_
  have hq1 := ho.1
  have ho := ho.2
  refine k_X10_needTool hst X hS hH hk_r hq1 t_ml_VernierDrawers_181 hl.1 (Nat.le_of_ble_eq_true rfl) ⟨Nat.le_of_ble_eq_true rfl, Nat.le_of_ble_eq_true rfl⟩ ⟨(Nat.le_of_ble_eq_true rfl), (Nat.le_of_ble_eq_true rfl)⟩ dX10_isDue_2 (fun c2 da ce9 q9 H locs hH hS g1 g2 g3 => ?_) (fun c2 da H locs hH hS => ?_)
  · skip
    exact EX _ _ _ _ _ _ _ _ _ _ _ _ c2 (pr1 ((fX10_isDue.eq_1 _ _ _).trans ((if_neg c2).trans rfl))) rfl hH hS g1 g2 g3 (Nat.le_of_ble_eq_true rfl) (Nat.le_of_ble_eq_true rfl)
  · have ho := ho c2
    have hq3 := ho.1
    have ho := ho.2
    refine lv_aload_n hx hb dX10_isDue_5 rfl (lv_at hl 0 rfl) ?_
    refine g_VernierDrawers_10 X hH hk_r dX10_isDue_6 ?_
    have hq4 := ho
    refine g_VernierDrawers_41 X hH hq4 dX10_isDue_9 ?_
    refine g_VernierDrawers_114 X hH (kc_7_2 hq4) dX10_isDue_12 ?_
    refine k_X8_dueOn X hS hH hq3 t_ml_VernierDrawers_202 hl.1 (Nat.le_of_ble_eq_true rfl) ⟨Nat.le_of_ble_eq_true rfl, Nat.le_of_ble_eq_true rfl⟩ ⟨(Nat.le_of_ble_eq_true rfl), (Nat.le_of_ble_eq_true rfl)⟩ dX10_isDue_15 ?_
    exact E _ _ _ _ _ _ _ _ _ dX10_isDue_18 (bn01 b01_X8_dueOn).1 (Eq.symm (pr1 ((fX10_isDue.eq_1 _ _ _).trans ((if_pos c2).trans rfl)))) (pr2 ((fX10_isDue.eq_1 _ _ _).trans ((if_pos c2).trans rfl))) rfl hH hS (Nat.le_of_ble_eq_true rfl) (Nat.le_of_ble_eq_true rfl)
theorem k_X10_isDue {p : Program} {l : Launch} {e : Env} {R : Room} {s : State} {m : MethodId} {args : Array Value} {below : List Frame} {meth : Method} {c : Code} {H : Heap} {locs : List Loc} {cells slots : Nat} {Q : State → Prop} {cc : ByteArray} {pc nL : Nat} {ls : Array Slot} {rest : List Value} {G : gG} {own : String} {da : Nat → Nat} {v : vSt} {x : gX} (hst : l.stackTraces = false) (X : CX G p s m args c cc nL own) (hS : va_S (gA G) s.heap H locs) (hH : Hp G da v x H) {r : Nat} (hk_r : kd r = 10) {p1 : Int32} (ho : oX10_isDue r p1 v) {idx : Nat} (hml : Cond.methodLink own idx yX10_isDue ∈ TT) (hls : ls.size = nL) (hsum : (rest.map fun v => v.category).sum ≤ 8) (hR : rmX10_isDue.frames + 1 ≤ R.frames ∧ 8 + (2 + 11) + rmX10_isDue.locals ≤ R.locals) (hcs : cells + 6 ≤ R.cells ∧ slots + 6 ≤ R.slots) (hdg : decode cc pc = .ok (.invokevirtual idx, 3)) (kx : ¬ (fX10_isDue r p1 v).1 = 0 → ∀ (d : Nat → Nat) (ce : Cell) (q9 : Addr) (H1 : Heap) (locs1 : List Loc), Hp G d v x H1 → va_S (gA G) s.heap H1 locs1 → H1[q9]? = some ce → ce.vm = .none → s.vm.findClass (exN (fX10_isDue r p1 v).1) = some ce.cls → vx_W p l e R s m args below meth c H1 locs1 (cells + 6) (slots + 6) Q (F0 m pc ls rest) q9) (kk : (fX10_isDue r p1 v).1 = 0 → ∀ (d : Nat → Nat) (H1 : Heap) (locs1 : List Loc), Hp G d v x H1 → va_S (gA G) s.heap H1 locs1 → W p l e R s m args below meth c H1 locs1 (cells + 6) (slots + 6) Q (F0 m (pc + 3) ls (.int (fX10_isDue r p1 v).2 :: rest))) : W p l e R s m args below meth c H locs cells slots Q (F0 m pc ls (.int p1 :: .ref (ga G r) :: rest)) := c_ti (runxV (kp := 1) X.1 X.2.1 X.2.2.1 X.2.2.2.1 X.2.2.2.2.1 (mX10_isDue l hst G da v x r hk_r p1 ho) pW_bl hml t_im_X10_isDue t_sel_X10_isDue t_ini_VernierDrawers t_code_X10_isDue ⟨rfl, by decide, by decide, by decide +kernel⟩ rfl rfl hR hcs (recvW X hH (by rw [hk_r]; decide) (by rw [hk_r]; decide) (ce_10 hk_r) rfl) (preW X hS hH) rfl hls rfl hsum hdg) hS (fun h9 d9 ce9 q9 H9 L9 v9 e9 hH9 => kx h9 d9 ce9 q9 H9 L9 (by subst e9; exact hH9)) (fun h9 d9 H9 L9 v9 e9 hH9 => kk h9 d9 H9 L9 (by subst e9; exact hH9))
def fX10_usesLeft (r : Nat) (p1 : Int32) (v : vSt) : Nat × Int32 := if (fX10_needTool r p1 v).1 = 0 then ((0, (if 0 < (30 - (v ((fX10_needTool r p1 v).2) 7)) then 30 - (v ((fX10_needTool r p1 v).2) 7) else 0 : Int32))) else (((fX10_needTool r p1 v).1, 0))
def oX10_usesLeft (r : Nat) (p1 : Int32) (v : vSt) : Prop := (oX10_needTool r p1 v) ∧ (((fX10_needTool r p1 v).1 = 0) → (kd (fX10_needTool r p1 v).2 = 8))
abbrev rmX10_usesLeft : Room := { frames := 7, cells := 6, slots := 6, locals := 111 }
theorem dX10_usesLeft_0 : decode cX10_usesLeft 0 = .ok (.iconst 0, 1) := by decide +kernel
theorem dX10_usesLeft_1 : decode cX10_usesLeft 1 = .ok (.bipush 30, 2) := by decide +kernel
theorem dX10_usesLeft_3 : decode cX10_usesLeft 3 = .ok (.aload_n 0, 1) := by decide +kernel
theorem dX10_usesLeft_4 : decode cX10_usesLeft 4 = .ok (.iload_n 1, 1) := by decide +kernel
theorem dX10_usesLeft_5 : decode cX10_usesLeft 5 = .ok (.invokevirtual 181, 3) := by decide +kernel
theorem dX10_usesLeft_8 : decode cX10_usesLeft 8 = .ok (.getfield 205, 3) := by decide +kernel
theorem dX10_usesLeft_11 : decode cX10_usesLeft 11 = .ok (.isub, 1) := by decide +kernel
theorem dX10_usesLeft_12 : decode cX10_usesLeft 12 = .ok (.invokestatic 208, 3) := by decide +kernel
theorem dX10_usesLeft_15 : decode cX10_usesLeft 15 = .ok (.ireturn, 1) := by decide +kernel
set_option maxHeartbeats 8000000 in
set_option maxRecDepth 100000 in
theorem mX10_usesLeft (l : Launch) (hst : l.stackTraces = false) (G : gG) (da : Nat → Nat) (v : vSt) (x : gX) (r : Nat) (hk_r : kd r = 10) (p1 : Int32) (ho : oX10_usesLeft r p1 v) : TI l yX10_usesLeft cX10_usesLeft 2 (some .int) rmX10_usesLeft [.ref (ga G r), .int p1] G da v x 6 6 (fX10_usesLeft r p1 v).1 (fX10_usesLeft r p1 v).2 v x := by
  refine gofTI hst (by decide) rfl (Nat.le_of_ble_eq_true rfl) ⟨Nat.le_of_ble_eq_true rfl, Nat.le_of_ble_eq_true rfl, Nat.le_refl _, Nat.le_refl _⟩ (fun p e s m args below meth c ls Q X hH hl E EX ES EW => ?_)
  have hx := X.1
  have hb := X.2.1
  have hown := X.2.2.2.1
  have hts := X.2.2.2.2.1
  have hS : va_S (gA G) s.heap s.heap [] := va_S.rf
  unfold oX10_usesLeft at ho
  have hl : lv_has ls 2 [(0, .ref (ga G r)), (1, .int p1)] := hl
  refine lv_iconst (v := 0) hx hb dX10_usesLeft_0 (by decide) ?_
  refine lv_bipush (v := 30) hx hb dX10_usesLeft_1 (by decide) ?_
  refine lv_aload_n hx hb dX10_usesLeft_3 rfl (lv_at hl 0 rfl) ?_
  refine lv_iload_n hx hb dX10_usesLeft_4 rfl (lv_at hl 1 rfl) ?_
  have hq1 := ho.1
  have ho := ho.2
  refine k_X10_needTool hst X hS hH hk_r hq1 t_ml_VernierDrawers_181 hl.1 (Nat.le_of_ble_eq_true rfl) ⟨Nat.le_of_ble_eq_true rfl, Nat.le_of_ble_eq_true rfl⟩ ⟨(Nat.le_of_ble_eq_true rfl), (Nat.le_of_ble_eq_true rfl)⟩ dX10_usesLeft_5 (fun c2 da ce9 q9 H locs hH hS g1 g2 g3 => ?_) (fun c2 da H locs hH hS => ?_)
  · skip
    exact EX _ _ _ _ _ _ _ _ _ _ _ _ c2 (pr1 ((fX10_usesLeft.eq_1 _ _ _).trans ((if_neg c2).trans rfl))) rfl hH hS g1 g2 g3 (Nat.le_of_ble_eq_true rfl) (Nat.le_of_ble_eq_true rfl)
  · have ho := ho c2
    have hq3 := ho
    refine g_VernierDrawers_205 X hH hq3 dX10_usesLeft_8 ?_
    refine lv_isub hx hb dX10_usesLeft_11 ?_
    refine k_mmax X t_ml_VernierDrawers_208 hl.1 ⟨Nat.le_of_ble_eq_true rfl, Nat.le_of_ble_eq_true rfl⟩ ⟨(Nat.le_of_ble_eq_true rfl), (Nat.le_of_ble_eq_true rfl)⟩ dX10_usesLeft_12 ?_
    exact E _ _ _ _ _ _ _ _ _ dX10_usesLeft_15 rfl (Eq.symm (pr1 ((fX10_usesLeft.eq_1 _ _ _).trans ((if_pos c2).trans rfl)))) (pr2 ((fX10_usesLeft.eq_1 _ _ _).trans ((if_pos c2).trans rfl))) rfl hH hS (Nat.le_of_ble_eq_true rfl) (Nat.le_of_ble_eq_true rfl)
theorem k_X10_usesLeft {p : Program} {l : Launch} {e : Env} {R : Room} {s : State} {m : MethodId} {args : Array Value} {below : List Frame} {meth : Method} {c : Code} {H : Heap} {locs : List Loc} {cells slots : Nat} {Q : State → Prop} {cc : ByteArray} {pc nL : Nat} {ls : Array Slot} {rest : List Value} {G : gG} {own : String} {da : Nat → Nat} {v : vSt} {x : gX} (hst : l.stackTraces = false) (X : CX G p s m args c cc nL own) (hS : va_S (gA G) s.heap H locs) (hH : Hp G da v x H) {r : Nat} (hk_r : kd r = 10) {p1 : Int32} (ho : oX10_usesLeft r p1 v) {idx : Nat} (hml : Cond.methodLink own idx yX10_usesLeft ∈ TT) (hls : ls.size = nL) (hsum : (rest.map fun v => v.category).sum ≤ 8) (hR : rmX10_usesLeft.frames + 1 ≤ R.frames ∧ 8 + (2 + 11) + rmX10_usesLeft.locals ≤ R.locals) (hcs : cells + 6 ≤ R.cells ∧ slots + 6 ≤ R.slots) (hdg : decode cc pc = .ok (.invokevirtual idx, 3)) (kx : ¬ (fX10_usesLeft r p1 v).1 = 0 → ∀ (d : Nat → Nat) (ce : Cell) (q9 : Addr) (H1 : Heap) (locs1 : List Loc), Hp G d v x H1 → va_S (gA G) s.heap H1 locs1 → H1[q9]? = some ce → ce.vm = .none → s.vm.findClass (exN (fX10_usesLeft r p1 v).1) = some ce.cls → vx_W p l e R s m args below meth c H1 locs1 (cells + 6) (slots + 6) Q (F0 m pc ls rest) q9) (kk : (fX10_usesLeft r p1 v).1 = 0 → ∀ (d : Nat → Nat) (H1 : Heap) (locs1 : List Loc), Hp G d v x H1 → va_S (gA G) s.heap H1 locs1 → W p l e R s m args below meth c H1 locs1 (cells + 6) (slots + 6) Q (F0 m (pc + 3) ls (.int (fX10_usesLeft r p1 v).2 :: rest))) : W p l e R s m args below meth c H locs cells slots Q (F0 m pc ls (.int p1 :: .ref (ga G r) :: rest)) := c_ti (runxV (kp := 1) X.1 X.2.1 X.2.2.1 X.2.2.2.1 X.2.2.2.2.1 (mX10_usesLeft l hst G da v x r hk_r p1 ho) pW_bl hml t_im_X10_usesLeft t_sel_X10_usesLeft t_ini_VernierDrawers t_code_X10_usesLeft ⟨rfl, by decide, by decide, by decide +kernel⟩ rfl rfl hR hcs (recvW X hH (by rw [hk_r]; decide) (by rw [hk_r]; decide) (ce_10 hk_r) rfl) (preW X hS hH) rfl hls rfl hsum hdg) hS (fun h9 d9 ce9 q9 H9 L9 v9 e9 hH9 => kx h9 d9 ce9 q9 H9 L9 (by subst e9; exact hH9)) (fun h9 d9 H9 L9 v9 e9 hH9 => kk h9 d9 H9 L9 (by subst e9; exact hH9))
def fX10_readingFor (r : Nat) (p1 : Int32) (p2 : Int32) (p3 : Int32) (v : vSt) : Nat × Int32 := if (fX10_needReading r p1 p2 p3 v).1 = 0 then ((0, (fX10_needReading r p1 p2 p3 v).2)) else (((fX10_needReading r p1 p2 p3 v).1, 0))
def oX10_readingFor (r : Nat) (p1 : Int32) (p2 : Int32) (p3 : Int32) (v : vSt) : Prop := oX10_needReading r p1 p2 p3 v
abbrev rmX10_readingFor : Room := { frames := 8, cells := 6, slots := 6, locals := 135 }
theorem dX10_readingFor_0 : decode cX10_readingFor 0 = .ok (.aload_n 0, 1) := by decide +kernel
theorem dX10_readingFor_1 : decode cX10_readingFor 1 = .ok (.iload_n 1, 1) := by decide +kernel
theorem dX10_readingFor_2 : decode cX10_readingFor 2 = .ok (.iload_n 2, 1) := by decide +kernel
theorem dX10_readingFor_3 : decode cX10_readingFor 3 = .ok (.iload_n 3, 1) := by decide +kernel
theorem dX10_readingFor_4 : decode cX10_readingFor 4 = .ok (.invokevirtual 218, 3) := by decide +kernel
theorem dX10_readingFor_7 : decode cX10_readingFor 7 = .ok (.ireturn, 1) := by decide +kernel
set_option maxHeartbeats 8000000 in
set_option maxRecDepth 100000 in
theorem mX10_readingFor (l : Launch) (hst : l.stackTraces = false) (G : gG) (da : Nat → Nat) (v : vSt) (x : gX) (r : Nat) (hk_r : kd r = 10) (p1 : Int32) (p2 : Int32) (p3 : Int32) (ho : oX10_readingFor r p1 p2 p3 v) : TI l yX10_readingFor cX10_readingFor 4 (some .int) rmX10_readingFor [.ref (ga G r), .int p1, .int p2, .int p3] G da v x 6 6 (fX10_readingFor r p1 p2 p3 v).1 (fX10_readingFor r p1 p2 p3 v).2 v x := by
  refine gofTI hst (by decide) rfl (Nat.le_of_ble_eq_true rfl) ⟨Nat.le_of_ble_eq_true rfl, Nat.le_of_ble_eq_true rfl, Nat.le_refl _, Nat.le_refl _⟩ (fun p e s m args below meth c ls Q X hH hl E EX ES EW => ?_)
  have hx := X.1
  have hb := X.2.1
  have hown := X.2.2.2.1
  have hts := X.2.2.2.2.1
  have hS : va_S (gA G) s.heap s.heap [] := va_S.rf
  unfold oX10_readingFor at ho
  have hl : lv_has ls 4 [(0, .ref (ga G r)), (1, .int p1), (2, .int p2), (3, .int p3)] := hl
  refine lv_aload_n hx hb dX10_readingFor_0 rfl (lv_at hl 0 rfl) ?_
  refine lv_iload_n hx hb dX10_readingFor_1 rfl (lv_at hl 1 rfl) ?_
  refine lv_iload_n hx hb dX10_readingFor_2 rfl (lv_at hl 2 rfl) ?_
  refine lv_iload_n hx hb dX10_readingFor_3 rfl (lv_at hl 3 rfl) ?_
  have hq1 := ho
  refine k_X10_needReading hst X hS hH hk_r hq1 t_ml_VernierDrawers_218 hl.1 (Nat.le_of_ble_eq_true rfl) ⟨Nat.le_of_ble_eq_true rfl, Nat.le_of_ble_eq_true rfl⟩ ⟨(Nat.le_of_ble_eq_true rfl), (Nat.le_of_ble_eq_true rfl)⟩ dX10_readingFor_4 (fun c2 da ce9 q9 H locs hH hS g1 g2 g3 => ?_) (fun c2 da H locs hH hS => ?_)
  · skip
    exact EX _ _ _ _ _ _ _ _ _ _ _ _ c2 (pr1 ((fX10_readingFor.eq_1 _ _ _ _ _).trans ((if_neg c2).trans rfl))) rfl hH hS g1 g2 g3 (Nat.le_of_ble_eq_true rfl) (Nat.le_of_ble_eq_true rfl)
  · skip
    exact E _ _ _ _ _ _ _ _ _ dX10_readingFor_7 rfl (Eq.symm (pr1 ((fX10_readingFor.eq_1 _ _ _ _ _).trans ((if_pos c2).trans rfl)))) (pr2 ((fX10_readingFor.eq_1 _ _ _ _ _).trans ((if_pos c2).trans rfl))) rfl hH hS (Nat.le_of_ble_eq_true rfl) (Nat.le_of_ble_eq_true rfl)
theorem k_X10_readingFor {p : Program} {l : Launch} {e : Env} {R : Room} {s : State} {m : MethodId} {args : Array Value} {below : List Frame} {meth : Method} {c : Code} {H : Heap} {locs : List Loc} {cells slots : Nat} {Q : State → Prop} {cc : ByteArray} {pc nL : Nat} {ls : Array Slot} {rest : List Value} {G : gG} {own : String} {da : Nat → Nat} {v : vSt} {x : gX} (hst : l.stackTraces = false) (X : CX G p s m args c cc nL own) (hS : va_S (gA G) s.heap H locs) (hH : Hp G da v x H) {r : Nat} (hk_r : kd r = 10) {p1 : Int32} {p2 : Int32} {p3 : Int32} (ho : oX10_readingFor r p1 p2 p3 v) {idx : Nat} (hml : Cond.methodLink own idx yX10_readingFor ∈ TT) (hls : ls.size = nL) (hsum : (rest.map fun v => v.category).sum ≤ 8) (hR : rmX10_readingFor.frames + 1 ≤ R.frames ∧ 8 + (4 + 11) + rmX10_readingFor.locals ≤ R.locals) (hcs : cells + 6 ≤ R.cells ∧ slots + 6 ≤ R.slots) (hdg : decode cc pc = .ok (.invokevirtual idx, 3)) (kx : ¬ (fX10_readingFor r p1 p2 p3 v).1 = 0 → ∀ (d : Nat → Nat) (ce : Cell) (q9 : Addr) (H1 : Heap) (locs1 : List Loc), Hp G d v x H1 → va_S (gA G) s.heap H1 locs1 → H1[q9]? = some ce → ce.vm = .none → s.vm.findClass (exN (fX10_readingFor r p1 p2 p3 v).1) = some ce.cls → vx_W p l e R s m args below meth c H1 locs1 (cells + 6) (slots + 6) Q (F0 m pc ls rest) q9) (kk : (fX10_readingFor r p1 p2 p3 v).1 = 0 → ∀ (d : Nat → Nat) (H1 : Heap) (locs1 : List Loc), Hp G d v x H1 → va_S (gA G) s.heap H1 locs1 → W p l e R s m args below meth c H1 locs1 (cells + 6) (slots + 6) Q (F0 m (pc + 3) ls (.int (fX10_readingFor r p1 p2 p3 v).2 :: rest))) : W p l e R s m args below meth c H locs cells slots Q (F0 m pc ls (.int p3 :: .int p2 :: .int p1 :: .ref (ga G r) :: rest)) := c_ti (runxV (kp := 3) X.1 X.2.1 X.2.2.1 X.2.2.2.1 X.2.2.2.2.1 (mX10_readingFor l hst G da v x r hk_r p1 p2 p3 ho) pW_bl hml t_im_X10_readingFor t_sel_X10_readingFor t_ini_VernierDrawers t_code_X10_readingFor ⟨rfl, by decide, by decide, by decide +kernel⟩ rfl rfl hR hcs (recvW X hH (by rw [hk_r]; decide) (by rw [hk_r]; decide) (ce_10 hk_r) rfl) (preW X hS hH) rfl hls rfl hsum hdg) hS (fun h9 d9 ce9 q9 H9 L9 v9 e9 hH9 => kx h9 d9 ce9 q9 H9 L9 (by subst e9; exact hH9)) (fun h9 d9 H9 L9 v9 e9 hH9 => kk h9 d9 H9 L9 (by subst e9; exact hH9))
def fX10_readingByLooking (r : Nat) (p1 : Int32) (p2 : Int32) (p3 : Int32) (v : vSt) : Nat × Int32 := if (fX10_needReading r p1 p2 p3 v).1 = 0 then (if (fX10_needTool r p1 v).1 = 0 then ((0, fX8_nearestLine ((fX10_needTool r p1 v).2) (fX2_shown ((rN (v r 0)) + 1) ((fX10_needTool r p1 v).2) p2 p3 v) v)) else (((fX10_needTool r p1 v).1, 0))) else (((fX10_needReading r p1 p2 p3 v).1, 0))
def oX10_readingByLooking (r : Nat) (p1 : Int32) (p2 : Int32) (p3 : Int32) (v : vSt) : Prop := (oX10_needReading r p1 p2 p3 v) ∧ (((fX10_needReading r p1 p2 p3 v).1 = 0) → ((oX10_needTool r p1 v) ∧ (((fX10_needTool r p1 v).1 = 0) → ((kd (fX10_needTool r p1 v).2 = 8) ∧ ((kd (rN (v r 0)) = 7) ∧ (oX8_nearestLine ((fX10_needTool r p1 v).2) (fX2_shown ((rN (v r 0)) + 1) ((fX10_needTool r p1 v).2) p2 p3 v) v))))))
abbrev rmX10_readingByLooking : Room := { frames := 8, cells := 12, slots := 12, locals := 135 }
theorem dX10_readingByLooking_0 : decode cX10_readingByLooking 0 = .ok (.aload_n 0, 1) := by decide +kernel
theorem dX10_readingByLooking_1 : decode cX10_readingByLooking 1 = .ok (.iload_n 1, 1) := by decide +kernel
theorem dX10_readingByLooking_2 : decode cX10_readingByLooking 2 = .ok (.iload_n 2, 1) := by decide +kernel
theorem dX10_readingByLooking_3 : decode cX10_readingByLooking 3 = .ok (.iload_n 3, 1) := by decide +kernel
theorem dX10_readingByLooking_4 : decode cX10_readingByLooking 4 = .ok (.invokevirtual 218, 3) := by decide +kernel
theorem dX10_readingByLooking_7 : decode cX10_readingByLooking 7 = .ok (.pop, 1) := by decide +kernel
theorem dX10_readingByLooking_8 : decode cX10_readingByLooking 8 = .ok (.aload_n 0, 1) := by decide +kernel
theorem dX10_readingByLooking_9 : decode cX10_readingByLooking 9 = .ok (.iload_n 1, 1) := by decide +kernel
theorem dX10_readingByLooking_10 : decode cX10_readingByLooking 10 = .ok (.invokevirtual 181, 3) := by decide +kernel
theorem dX10_readingByLooking_13 : decode cX10_readingByLooking 13 = .ok (.astore 4, 2) := by decide +kernel
theorem dX10_readingByLooking_15 : decode cX10_readingByLooking 15 = .ok (.aload 4, 2) := by decide +kernel
theorem dX10_readingByLooking_17 : decode cX10_readingByLooking 17 = .ok (.aload_n 0, 1) := by decide +kernel
theorem dX10_readingByLooking_18 : decode cX10_readingByLooking 18 = .ok (.getfield 10, 3) := by decide +kernel
theorem dX10_readingByLooking_21 : decode cX10_readingByLooking 21 = .ok (.getfield 41, 3) := by decide +kernel
theorem dX10_readingByLooking_24 : decode cX10_readingByLooking 24 = .ok (.aload 4, 2) := by decide +kernel
theorem dX10_readingByLooking_26 : decode cX10_readingByLooking 26 = .ok (.iload_n 2, 1) := by decide +kernel
theorem dX10_readingByLooking_27 : decode cX10_readingByLooking 27 = .ok (.iload_n 3, 1) := by decide +kernel
theorem dX10_readingByLooking_28 : decode cX10_readingByLooking 28 = .ok (.invokevirtual 221, 3) := by decide +kernel
theorem dX10_readingByLooking_31 : decode cX10_readingByLooking 31 = .ok (.invokevirtual 225, 3) := by decide +kernel
theorem dX10_readingByLooking_34 : decode cX10_readingByLooking 34 = .ok (.ireturn, 1) := by decide +kernel
set_option maxHeartbeats 8000000 in
set_option maxRecDepth 100000 in
theorem mX10_readingByLooking (l : Launch) (hst : l.stackTraces = false) (G : gG) (da : Nat → Nat) (v : vSt) (x : gX) (r : Nat) (hk_r : kd r = 10) (p1 : Int32) (p2 : Int32) (p3 : Int32) (ho : oX10_readingByLooking r p1 p2 p3 v) : TI l yX10_readingByLooking cX10_readingByLooking 5 (some .int) rmX10_readingByLooking [.ref (ga G r), .int p1, .int p2, .int p3] G da v x 12 12 (fX10_readingByLooking r p1 p2 p3 v).1 (fX10_readingByLooking r p1 p2 p3 v).2 v x := by
  refine gofTI hst (by decide) rfl (Nat.le_of_ble_eq_true rfl) ⟨Nat.le_of_ble_eq_true rfl, Nat.le_of_ble_eq_true rfl, Nat.le_refl _, Nat.le_refl _⟩ (fun p e s m args below meth c ls Q X hH hl E EX ES EW => ?_)
  have hx := X.1
  have hb := X.2.1
  have hown := X.2.2.2.1
  have hts := X.2.2.2.2.1
  have hS : va_S (gA G) s.heap s.heap [] := va_S.rf
  unfold oX10_readingByLooking at ho
  have hl : lv_has ls 5 [(0, .ref (ga G r)), (1, .int p1), (2, .int p2), (3, .int p3)] := hl
  refine lv_aload_n hx hb dX10_readingByLooking_0 rfl (lv_at hl 0 rfl) ?_
  refine lv_iload_n hx hb dX10_readingByLooking_1 rfl (lv_at hl 1 rfl) ?_
  refine lv_iload_n hx hb dX10_readingByLooking_2 rfl (lv_at hl 2 rfl) ?_
  refine lv_iload_n hx hb dX10_readingByLooking_3 rfl (lv_at hl 3 rfl) ?_
  have hq1 := ho.1
  have ho := ho.2
  refine k_X10_needReading hst X hS hH hk_r hq1 t_ml_VernierDrawers_218 hl.1 (Nat.le_of_ble_eq_true rfl) ⟨Nat.le_of_ble_eq_true rfl, Nat.le_of_ble_eq_true rfl⟩ ⟨(Nat.le_of_ble_eq_true rfl), (Nat.le_of_ble_eq_true rfl)⟩ dX10_readingByLooking_4 (fun c2 da ce9 q9 H locs hH hS g1 g2 g3 => ?_) (fun c2 da H locs hH hS => ?_)
  · skip
    exact EX _ _ _ _ _ _ _ _ _ _ _ _ c2 (pr1 ((fX10_readingByLooking.eq_1 _ _ _ _ _).trans ((if_neg c2).trans rfl))) rfl hH hS g1 g2 g3 (Nat.le_of_ble_eq_true rfl) (Nat.le_of_ble_eq_true rfl)
  · have ho := ho c2
    refine lv_pop hx hb dX10_readingByLooking_7 rfl ?_
    refine lv_aload_n hx hb dX10_readingByLooking_8 rfl (lv_at hl 0 rfl) ?_
    refine lv_iload_n hx hb dX10_readingByLooking_9 rfl (lv_at hl 1 rfl) ?_
    have hq3 := ho.1
    have ho := ho.2
    refine k_X10_needTool hst X hS hH hk_r hq3 t_ml_VernierDrawers_181 hl.1 (Nat.le_of_ble_eq_true rfl) ⟨Nat.le_of_ble_eq_true rfl, Nat.le_of_ble_eq_true rfl⟩ ⟨(Nat.le_of_ble_eq_true rfl), (Nat.le_of_ble_eq_true rfl)⟩ dX10_readingByLooking_10 (fun c4 da ce9 q9 H locs hH hS g1 g2 g3 => ?_) (fun c4 da H locs hH hS => ?_)
    · skip
      exact EX _ _ _ _ _ _ _ _ _ _ _ _ c4 (pr1 ((fX10_readingByLooking.eq_1 _ _ _ _ _).trans ((if_pos c2).trans ((if_neg c4).trans rfl)))) rfl hH hS g1 g2 g3 (Nat.le_of_ble_eq_true rfl) (Nat.le_of_ble_eq_true rfl)
    · have ho := ho c4
      have hq5 := ho.1
      have ho := ho.2
      refine lv_astore (lv' := [(4, .ref (ga G ((fX10_needTool r p1 v).2))), (0, .ref (ga G r)), (1, .int p1), (2, .int p2), (3, .int p3)]) hx hb dX10_readingByLooking_13 hl (by decide) rfl (fun ls hl => ?_)
      refine lv_aload hx hb dX10_readingByLooking_15 (lv_at hl 0 rfl) ?_
      refine lv_aload_n hx hb dX10_readingByLooking_17 rfl (lv_at hl 1 rfl) ?_
      refine g_VernierDrawers_10 X hH hk_r dX10_readingByLooking_18 ?_
      have hq6 := ho.1
      have ho := ho.2
      refine g_VernierDrawers_41 X hH hq6 dX10_readingByLooking_21 ?_
      refine lv_aload hx hb dX10_readingByLooking_24 (lv_at hl 0 rfl) ?_
      refine lv_iload_n hx hb dX10_readingByLooking_26 rfl (lv_at hl 3 rfl) ?_
      refine lv_iload_n hx hb dX10_readingByLooking_27 rfl (lv_at hl 4 rfl) ?_
      refine k_X2_shown X hS hH (kc_7_2 hq6) hq5 t_ml_VernierDrawers_221 hl.1 (Nat.le_of_ble_eq_true rfl) ⟨Nat.le_of_ble_eq_true rfl, Nat.le_of_ble_eq_true rfl⟩ ⟨(Nat.le_of_ble_eq_true rfl), (Nat.le_of_ble_eq_true rfl)⟩ dX10_readingByLooking_28 ?_
      have hq7 := ho
      refine k_X8_nearestLine X hS hH hq5 hq7 t_ml_VernierDrawers_225 hl.1 (Nat.le_of_ble_eq_true rfl) ⟨Nat.le_of_ble_eq_true rfl, Nat.le_of_ble_eq_true rfl⟩ ⟨(Nat.le_of_ble_eq_true rfl), (Nat.le_of_ble_eq_true rfl)⟩ dX10_readingByLooking_31 ?_
      exact E _ _ _ _ _ _ _ _ _ dX10_readingByLooking_34 rfl (Eq.symm (pr1 ((fX10_readingByLooking.eq_1 _ _ _ _ _).trans ((if_pos c2).trans ((if_pos c4).trans rfl))))) (pr2 ((fX10_readingByLooking.eq_1 _ _ _ _ _).trans ((if_pos c2).trans ((if_pos c4).trans rfl)))) rfl hH hS (Nat.le_of_ble_eq_true rfl) (Nat.le_of_ble_eq_true rfl)
theorem k_X10_readingByLooking {p : Program} {l : Launch} {e : Env} {R : Room} {s : State} {m : MethodId} {args : Array Value} {below : List Frame} {meth : Method} {c : Code} {H : Heap} {locs : List Loc} {cells slots : Nat} {Q : State → Prop} {cc : ByteArray} {pc nL : Nat} {ls : Array Slot} {rest : List Value} {G : gG} {own : String} {da : Nat → Nat} {v : vSt} {x : gX} (hst : l.stackTraces = false) (X : CX G p s m args c cc nL own) (hS : va_S (gA G) s.heap H locs) (hH : Hp G da v x H) {r : Nat} (hk_r : kd r = 10) {p1 : Int32} {p2 : Int32} {p3 : Int32} (ho : oX10_readingByLooking r p1 p2 p3 v) {idx : Nat} (hml : Cond.methodLink own idx yX10_readingByLooking ∈ TT) (hls : ls.size = nL) (hsum : (rest.map fun v => v.category).sum ≤ 8) (hR : rmX10_readingByLooking.frames + 1 ≤ R.frames ∧ 8 + (5 + 11) + rmX10_readingByLooking.locals ≤ R.locals) (hcs : cells + 12 ≤ R.cells ∧ slots + 12 ≤ R.slots) (hdg : decode cc pc = .ok (.invokevirtual idx, 3)) (kx : ¬ (fX10_readingByLooking r p1 p2 p3 v).1 = 0 → ∀ (d : Nat → Nat) (ce : Cell) (q9 : Addr) (H1 : Heap) (locs1 : List Loc), Hp G d v x H1 → va_S (gA G) s.heap H1 locs1 → H1[q9]? = some ce → ce.vm = .none → s.vm.findClass (exN (fX10_readingByLooking r p1 p2 p3 v).1) = some ce.cls → vx_W p l e R s m args below meth c H1 locs1 (cells + 12) (slots + 12) Q (F0 m pc ls rest) q9) (kk : (fX10_readingByLooking r p1 p2 p3 v).1 = 0 → ∀ (d : Nat → Nat) (H1 : Heap) (locs1 : List Loc), Hp G d v x H1 → va_S (gA G) s.heap H1 locs1 → W p l e R s m args below meth c H1 locs1 (cells + 12) (slots + 12) Q (F0 m (pc + 3) ls (.int (fX10_readingByLooking r p1 p2 p3 v).2 :: rest))) : W p l e R s m args below meth c H locs cells slots Q (F0 m pc ls (.int p3 :: .int p2 :: .int p1 :: .ref (ga G r) :: rest)) := c_ti (runxV (kp := 3) X.1 X.2.1 X.2.2.1 X.2.2.2.1 X.2.2.2.2.1 (mX10_readingByLooking l hst G da v x r hk_r p1 p2 p3 ho) pW_bl hml t_im_X10_readingByLooking t_sel_X10_readingByLooking t_ini_VernierDrawers t_code_X10_readingByLooking ⟨rfl, by decide, by decide, by decide +kernel⟩ rfl rfl hR hcs (recvW X hH (by rw [hk_r]; decide) (by rw [hk_r]; decide) (ce_10 hk_r) rfl) (preW X hS hH) rfl hls rfl hsum hdg) hS (fun h9 d9 ce9 q9 H9 L9 v9 e9 hH9 => kx h9 d9 ce9 q9 H9 L9 (by subst e9; exact hH9)) (fun h9 d9 H9 L9 v9 e9 hH9 => kk h9 d9 H9 L9 (by subst e9; exact hH9))
def fX10_markFor (r : Nat) (p1 : Int32) (p2 : Int32) (p3 : Int32) (v : vSt) : Nat × Int32 := if (fX10_needReading r p1 p2 p3 v).1 = 0 then (if (fX10_needTool r p1 v).1 = 0 then ((0, fX8_markAt ((fX10_needTool r p1 v).2) ((fX10_needReading r p1 p2 p3 v).2) v)) else (((fX10_needTool r p1 v).1, 0))) else (((fX10_needReading r p1 p2 p3 v).1, 0))
def oX10_markFor (r : Nat) (p1 : Int32) (p2 : Int32) (p3 : Int32) (v : vSt) : Prop := (oX10_needReading r p1 p2 p3 v) ∧ (((fX10_needReading r p1 p2 p3 v).1 = 0) → ((oX10_needTool r p1 v) ∧ (((fX10_needTool r p1 v).1 = 0) → (kd (fX10_needTool r p1 v).2 = 8))))
abbrev rmX10_markFor : Room := { frames := 8, cells := 12, slots := 12, locals := 135 }
theorem dX10_markFor_0 : decode cX10_markFor 0 = .ok (.aload_n 0, 1) := by decide +kernel
theorem dX10_markFor_1 : decode cX10_markFor 1 = .ok (.iload_n 1, 1) := by decide +kernel
theorem dX10_markFor_2 : decode cX10_markFor 2 = .ok (.iload_n 2, 1) := by decide +kernel
theorem dX10_markFor_3 : decode cX10_markFor 3 = .ok (.iload_n 3, 1) := by decide +kernel
theorem dX10_markFor_4 : decode cX10_markFor 4 = .ok (.invokevirtual 218, 3) := by decide +kernel
theorem dX10_markFor_7 : decode cX10_markFor 7 = .ok (.istore 4, 2) := by decide +kernel
theorem dX10_markFor_9 : decode cX10_markFor 9 = .ok (.aload_n 0, 1) := by decide +kernel
theorem dX10_markFor_10 : decode cX10_markFor 10 = .ok (.iload_n 1, 1) := by decide +kernel
theorem dX10_markFor_11 : decode cX10_markFor 11 = .ok (.invokevirtual 181, 3) := by decide +kernel
theorem dX10_markFor_14 : decode cX10_markFor 14 = .ok (.iload 4, 2) := by decide +kernel
theorem dX10_markFor_16 : decode cX10_markFor 16 = .ok (.invokevirtual 228, 3) := by decide +kernel
theorem dX10_markFor_19 : decode cX10_markFor 19 = .ok (.ireturn, 1) := by decide +kernel
set_option maxHeartbeats 8000000 in
set_option maxRecDepth 100000 in
theorem mX10_markFor (l : Launch) (hst : l.stackTraces = false) (G : gG) (da : Nat → Nat) (v : vSt) (x : gX) (r : Nat) (hk_r : kd r = 10) (p1 : Int32) (p2 : Int32) (p3 : Int32) (ho : oX10_markFor r p1 p2 p3 v) : TI l yX10_markFor cX10_markFor 5 (some .int) rmX10_markFor [.ref (ga G r), .int p1, .int p2, .int p3] G da v x 12 12 (fX10_markFor r p1 p2 p3 v).1 (fX10_markFor r p1 p2 p3 v).2 v x := by
  refine gofTI hst (by decide) rfl (Nat.le_of_ble_eq_true rfl) ⟨Nat.le_of_ble_eq_true rfl, Nat.le_of_ble_eq_true rfl, Nat.le_refl _, Nat.le_refl _⟩ (fun p e s m args below meth c ls Q X hH hl E EX ES EW => ?_)
  have hx := X.1
  have hb := X.2.1
  have hown := X.2.2.2.1
  have hts := X.2.2.2.2.1
  have hS : va_S (gA G) s.heap s.heap [] := va_S.rf
  unfold oX10_markFor at ho
  have hl : lv_has ls 5 [(0, .ref (ga G r)), (1, .int p1), (2, .int p2), (3, .int p3)] := hl
  refine lv_aload_n hx hb dX10_markFor_0 rfl (lv_at hl 0 rfl) ?_
  refine lv_iload_n hx hb dX10_markFor_1 rfl (lv_at hl 1 rfl) ?_
  refine lv_iload_n hx hb dX10_markFor_2 rfl (lv_at hl 2 rfl) ?_
  refine lv_iload_n hx hb dX10_markFor_3 rfl (lv_at hl 3 rfl) ?_
  have hq1 := ho.1
  have ho := ho.2
  refine k_X10_needReading hst X hS hH hk_r hq1 t_ml_VernierDrawers_218 hl.1 (Nat.le_of_ble_eq_true rfl) ⟨Nat.le_of_ble_eq_true rfl, Nat.le_of_ble_eq_true rfl⟩ ⟨(Nat.le_of_ble_eq_true rfl), (Nat.le_of_ble_eq_true rfl)⟩ dX10_markFor_4 (fun c2 da ce9 q9 H locs hH hS g1 g2 g3 => ?_) (fun c2 da H locs hH hS => ?_)
  · skip
    exact EX _ _ _ _ _ _ _ _ _ _ _ _ c2 (pr1 ((fX10_markFor.eq_1 _ _ _ _ _).trans ((if_neg c2).trans rfl))) rfl hH hS g1 g2 g3 (Nat.le_of_ble_eq_true rfl) (Nat.le_of_ble_eq_true rfl)
  · have ho := ho c2
    refine lv_istore (lv' := [(4, .int ((fX10_needReading r p1 p2 p3 v).2)), (0, .ref (ga G r)), (1, .int p1), (2, .int p2), (3, .int p3)]) hx hb dX10_markFor_7 hl (by decide) rfl (fun ls hl => ?_)
    refine lv_aload_n hx hb dX10_markFor_9 rfl (lv_at hl 1 rfl) ?_
    refine lv_iload_n hx hb dX10_markFor_10 rfl (lv_at hl 2 rfl) ?_
    have hq3 := ho.1
    have ho := ho.2
    refine k_X10_needTool hst X hS hH hk_r hq3 t_ml_VernierDrawers_181 hl.1 (Nat.le_of_ble_eq_true rfl) ⟨Nat.le_of_ble_eq_true rfl, Nat.le_of_ble_eq_true rfl⟩ ⟨(Nat.le_of_ble_eq_true rfl), (Nat.le_of_ble_eq_true rfl)⟩ dX10_markFor_11 (fun c4 da ce9 q9 H locs hH hS g1 g2 g3 => ?_) (fun c4 da H locs hH hS => ?_)
    · skip
      exact EX _ _ _ _ _ _ _ _ _ _ _ _ c4 (pr1 ((fX10_markFor.eq_1 _ _ _ _ _).trans ((if_pos c2).trans ((if_neg c4).trans rfl)))) rfl hH hS g1 g2 g3 (Nat.le_of_ble_eq_true rfl) (Nat.le_of_ble_eq_true rfl)
    · have ho := ho c4
      have hq5 := ho
      refine lv_iload hx hb dX10_markFor_14 (lv_at hl 0 rfl) ?_
      refine k_X8_markAt X hS hH hq5 t_ml_VernierDrawers_228 hl.1 (Nat.le_of_ble_eq_true rfl) ⟨Nat.le_of_ble_eq_true rfl, Nat.le_of_ble_eq_true rfl⟩ ⟨(Nat.le_of_ble_eq_true rfl), (Nat.le_of_ble_eq_true rfl)⟩ dX10_markFor_16 ?_
      exact E _ _ _ _ _ _ _ _ _ dX10_markFor_19 rfl (Eq.symm (pr1 ((fX10_markFor.eq_1 _ _ _ _ _).trans ((if_pos c2).trans ((if_pos c4).trans rfl))))) (pr2 ((fX10_markFor.eq_1 _ _ _ _ _).trans ((if_pos c2).trans ((if_pos c4).trans rfl)))) rfl hH hS (Nat.le_of_ble_eq_true rfl) (Nat.le_of_ble_eq_true rfl)
theorem k_X10_markFor {p : Program} {l : Launch} {e : Env} {R : Room} {s : State} {m : MethodId} {args : Array Value} {below : List Frame} {meth : Method} {c : Code} {H : Heap} {locs : List Loc} {cells slots : Nat} {Q : State → Prop} {cc : ByteArray} {pc nL : Nat} {ls : Array Slot} {rest : List Value} {G : gG} {own : String} {da : Nat → Nat} {v : vSt} {x : gX} (hst : l.stackTraces = false) (X : CX G p s m args c cc nL own) (hS : va_S (gA G) s.heap H locs) (hH : Hp G da v x H) {r : Nat} (hk_r : kd r = 10) {p1 : Int32} {p2 : Int32} {p3 : Int32} (ho : oX10_markFor r p1 p2 p3 v) {idx : Nat} (hml : Cond.methodLink own idx yX10_markFor ∈ TT) (hls : ls.size = nL) (hsum : (rest.map fun v => v.category).sum ≤ 8) (hR : rmX10_markFor.frames + 1 ≤ R.frames ∧ 8 + (5 + 11) + rmX10_markFor.locals ≤ R.locals) (hcs : cells + 12 ≤ R.cells ∧ slots + 12 ≤ R.slots) (hdg : decode cc pc = .ok (.invokevirtual idx, 3)) (kx : ¬ (fX10_markFor r p1 p2 p3 v).1 = 0 → ∀ (d : Nat → Nat) (ce : Cell) (q9 : Addr) (H1 : Heap) (locs1 : List Loc), Hp G d v x H1 → va_S (gA G) s.heap H1 locs1 → H1[q9]? = some ce → ce.vm = .none → s.vm.findClass (exN (fX10_markFor r p1 p2 p3 v).1) = some ce.cls → vx_W p l e R s m args below meth c H1 locs1 (cells + 12) (slots + 12) Q (F0 m pc ls rest) q9) (kk : (fX10_markFor r p1 p2 p3 v).1 = 0 → ∀ (d : Nat → Nat) (H1 : Heap) (locs1 : List Loc), Hp G d v x H1 → va_S (gA G) s.heap H1 locs1 → W p l e R s m args below meth c H1 locs1 (cells + 12) (slots + 12) Q (F0 m (pc + 3) ls (.int (fX10_markFor r p1 p2 p3 v).2 :: rest))) : W p l e R s m args below meth c H locs cells slots Q (F0 m pc ls (.int p3 :: .int p2 :: .int p1 :: .ref (ga G r) :: rest)) := c_ti (runxV (kp := 3) X.1 X.2.1 X.2.2.1 X.2.2.2.1 X.2.2.2.2.1 (mX10_markFor l hst G da v x r hk_r p1 p2 p3 ho) pW_bl hml t_im_X10_markFor t_sel_X10_markFor t_ini_VernierDrawers t_code_X10_markFor ⟨rfl, by decide, by decide, by decide +kernel⟩ rfl rfl hR hcs (recvW X hH (by rw [hk_r]; decide) (by rw [hk_r]; decide) (ce_10 hk_r) rfl) (preW X hS hH) rfl hls rfl hsum hdg) hS (fun h9 d9 ce9 q9 H9 L9 v9 e9 hH9 => kx h9 d9 ce9 q9 H9 L9 (by subst e9; exact hH9)) (fun h9 d9 H9 L9 v9 e9 hH9 => kk h9 d9 H9 L9 (by subst e9; exact hH9))
