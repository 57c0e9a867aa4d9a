/-! 21.face1 -/
def fX10_addTool (r : Nat) (p1 : Int32) (p2 : Int32) (v : vSt) : Nat × Int32 × vSt := if ((fX10_inRange p1 0 (5 - 1)) : Int32) = 0 then ((1, 0, v)) else (if ((fX10_inRange p2 (-30) 30) : Int32) = 0 then ((1, 0, v)) else (if ((v ((rN (v r 0)) + 1) 2) : Int32) < 6 then (let v8 : vSt := fX10_recordState r v; let v10 : vSt := (fX2_putTool ((rN (v r 0)) + 1) p1 p2 v8).2; (0, (fX2_putTool ((rN (v r 0)) + 1) p1 p2 v8).1, v10)) else ((2, 0, v))))

def kkX10_addTool (r : Nat) (p1 : Int32) (p2 : Int32) (v : vSt) : Nat := pot ((fX10_addTool r p1 p2 v).2.2) - pot v + 36
def oX10_addTool (r : Nat) (p1 : Int32) (p2 : Int32) (v : vSt) : Prop := (kd (rN (v r 0)) = 7) ∧ (((((fX10_inRange p1 0 (5 - 1)) : Int32) = 0) → (0 + 6 ≤ kkX10_addTool r p1 p2 v)) ∧ (¬ (((fX10_inRange p1 0 (5 - 1)) : Int32) = 0) → (((((fX10_inRange p2 (-30) 30) : Int32) = 0) → (0 + 6 ≤ kkX10_addTool r p1 p2 v)) ∧ (¬ (((fX10_inRange p2 (-30) 30) : Int32) = 0) → (((((v ((rN (v r 0)) + 1) 2) : Int32) < 6) → ((oX10_recordState r v) ∧ ((0 + kkX10_recordState r v ≤ kkX10_addTool r p1 p2 v) ∧ (∀ v8 : vSt, v8 = (fX10_recordState r v) → (0 ≤ (v8 ((rN (v r 0)) + 1) 2).toInt ∧ (v8 ((rN (v r 0)) + 1) 2).toInt ≤ 6 ∧ 0 ≤ (v8 ((rN (v r 0)) + 1) 3).toInt ∧ (v8 ((rN (v r 0)) + 1) 3).toInt ≤ 10))))) ∧ (¬ (((v ((rN (v r 0)) + 1) 2) : Int32) < 6) → (0 + 6 ≤ kkX10_addTool r p1 p2 v)))))))
abbrev rmX10_addTool (r : Nat) (p1 : Int32) (p2 : Int32) (v : vSt) : Room := { frames := 7, cells := kkX10_addTool r p1 p2 v, slots := kkX10_addTool r p1 p2 v, locals := 196 }
theorem dX10_addTool_0 : decode cX10_addTool 0 = .ok (.aload_n 0, 1) := by decide +kernel
theorem dX10_addTool_1 : decode cX10_addTool 1 = .ok (.getfield 10, 3) := by decide +kernel
theorem dX10_addTool_4 : decode cX10_addTool 4 = .ok (.getfield 41, 3) := by decide +kernel
theorem dX10_addTool_7 : decode cX10_addTool 7 = .ok (.astore_n 3, 1) := by decide +kernel
theorem dX10_addTool_8 : decode cX10_addTool 8 = .ok (.iload_n 1, 1) := by decide +kernel
theorem dX10_addTool_9 : decode cX10_addTool 9 = .ok (.iconst 0, 1) := by decide +kernel
theorem dX10_addTool_10 : decode cX10_addTool 10 = .ok (.getstatic 45, 3) := by decide +kernel
theorem dX10_addTool_13 : decode cX10_addTool 13 = .ok (.arraylength, 1) := by decide +kernel
theorem dX10_addTool_14 : decode cX10_addTool 14 = .ok (.iconst 1, 1) := by decide +kernel
theorem dX10_addTool_15 : decode cX10_addTool 15 = .ok (.isub, 1) := by decide +kernel
theorem dX10_addTool_16 : decode cX10_addTool 16 = .ok (.invokestatic 49, 3) := by decide +kernel
theorem dX10_addTool_19 : decode cX10_addTool 19 = .ok (.ifCond .eq 14, 3) := by decide +kernel
theorem dX10_addTool_22 : decode cX10_addTool 22 = .ok (.iload_n 2, 1) := by decide +kernel
theorem dX10_addTool_23 : decode cX10_addTool 23 = .ok (.bipush (-30), 2) := by decide +kernel
theorem dX10_addTool_25 : decode cX10_addTool 25 = .ok (.bipush 30, 2) := by decide +kernel
theorem dX10_addTool_27 : decode cX10_addTool 27 = .ok (.invokestatic 49, 3) := by decide +kernel
theorem dX10_addTool_30 : decode cX10_addTool 30 = .ok (.ifCond .ne 13, 3) := by decide +kernel
theorem dX10_addTool_33 : decode cX10_addTool 33 = .ok (.new 53, 3) := by decide +kernel
theorem dX10_addTool_36 : decode cX10_addTool 36 = .ok (.dup, 1) := by decide +kernel
theorem dX10_addTool_37 : decode cX10_addTool 37 = .ok (.ldc 55, 2) := by decide +kernel
theorem dX10_addTool_39 : decode cX10_addTool 39 = .ok (.invokespecial 57, 3) := by decide +kernel
theorem dX10_addTool_42 : decode cX10_addTool 42 = .ok (.athrow, 1) := by decide +kernel
theorem dX10_addTool_43 : decode cX10_addTool 43 = .ok (.aload_n 3, 1) := by decide +kernel
theorem dX10_addTool_44 : decode cX10_addTool 44 = .ok (.getfield 60, 3) := by decide +kernel
theorem dX10_addTool_47 : decode cX10_addTool 47 = .ok (.bipush 6, 2) := by decide +kernel
theorem dX10_addTool_49 : decode cX10_addTool 49 = .ok (.if_icmp .lt 13, 3) := by decide +kernel
theorem dX10_addTool_52 : decode cX10_addTool 52 = .ok (.new 66, 3) := by decide +kernel
theorem dX10_addTool_55 : decode cX10_addTool 55 = .ok (.dup, 1) := by decide +kernel
theorem dX10_addTool_56 : decode cX10_addTool 56 = .ok (.ldc 68, 2) := by decide +kernel
theorem dX10_addTool_58 : decode cX10_addTool 58 = .ok (.invokespecial 70, 3) := by decide +kernel
theorem dX10_addTool_61 : decode cX10_addTool 61 = .ok (.athrow, 1) := by decide +kernel
theorem dX10_addTool_62 : decode cX10_addTool 62 = .ok (.aload_n 0, 1) := by decide +kernel
theorem dX10_addTool_63 : decode cX10_addTool 63 = .ok (.invokevirtual 71, 3) := by decide +kernel
theorem dX10_addTool_66 : decode cX10_addTool 66 = .ok (.aload_n 3, 1) := by decide +kernel
theorem dX10_addTool_67 : decode cX10_addTool 67 = .ok (.iload_n 1, 1) := by decide +kernel
theorem dX10_addTool_68 : decode cX10_addTool 68 = .ok (.iload_n 2, 1) := by decide +kernel
theorem dX10_addTool_69 : decode cX10_addTool 69 = .ok (.invokevirtual 74, 3) := by decide +kernel
theorem dX10_addTool_72 : decode cX10_addTool 72 = .ok (.ireturn, 1) := by decide +kernel
set_option maxHeartbeats 8000000 in
set_option maxRecDepth 100000 in
theorem mX10_addTool (l : Launch) (hst : l.stackTraces = false) (G : gG) (da : Nat → Nat) (v : vSt) (x : gX) (r : Nat) (hk_r : kd r = 10) (p1 : Int32) (p2 : Int32) (ho : oX10_addTool r p1 p2 v) : TI l yX10_addTool cX10_addTool 4 (some .int) (rmX10_addTool r p1 p2 v) [.ref (ga G r), .int p1, .int p2] G da v x (kkX10_addTool r p1 p2 v) (kkX10_addTool r p1 p2 v) (fX10_addTool r p1 p2 v).1 (fX10_addTool r p1 p2 v).2.1 (fX10_addTool r p1 p2 v).2.2 x := by
  refine gofTI hst (by decide) rfl (Nat.le_of_ble_eq_true rfl) ⟨Nat.le_of_ble_eq_true rfl, Nat.le_of_ble_eq_true rfl, Nat.le_refl _, Nat.le_refl _⟩ (fun p e s m args below meth c ls Q X hH hl E EX ES EW => ?_)
  have hx := X.1
  have hb := X.2.1
  have hown := X.2.2.2.1
  have hts := X.2.2.2.2.1
  have hS : va_S (gA G) s.heap s.heap [] := va_S.rf
  unfold oX10_addTool at ho
  have hl : lv_has ls 4 [(0, .ref (ga G r)), (1, .int p1), (2, .int p2)] := hl
  refine lv_aload_n hx hb dX10_addTool_0 rfl (lv_at hl 0 rfl) ?_
  refine g_VernierDrawers_10 X hH hk_r dX10_addTool_1 ?_
  have hq1 := ho.1
  have ho := ho.2
  refine g_VernierDrawers_41 X hH hq1 dX10_addTool_4 ?_
  refine lv_astore_n (lv' := [(3, .ref (ga G ((rN (v r 0)) + 1))), (0, .ref (ga G r)), (1, .int p1), (2, .int p2)]) hx hb dX10_addTool_7 rfl hl (by decide) rfl (fun ls hl => ?_)
  refine lv_iload_n hx hb dX10_addTool_8 rfl (lv_at hl 2 rfl) ?_
  refine lv_iconst (v := 0) hx hb dX10_addTool_9 (by decide) ?_
  refine gs_VernierDrawers_45 X hS dX10_addTool_10 ?_
  refine IA.lenV hx hb (ia_s0 X hS) (y := 5) rfl dX10_addTool_13 ?_
  refine lv_iconst (v := 1) hx hb dX10_addTool_14 (by decide) ?_
  refine lv_isub hx hb dX10_addTool_15 ?_
  refine k_X10_inRange X hS  t_ml_VernierDrawers_49 hl.1 (Nat.le_of_ble_eq_true rfl) ⟨Nat.le_of_ble_eq_true rfl, Nat.le_of_ble_eq_true rfl⟩ ⟨Nat.zero_le _, Nat.zero_le _⟩ dX10_addTool_16 ?_
  refine lv_if_eq (tgt := 33) hx hb dX10_addTool_19 (by decide) (fun c2 => ?_) (fun c2 => ?_)
  · have ho := ho.1 c2
    have hq3 := ho
    exact ES _ _ _ _ _ _ _ _ _ _ _ _ _ _ (th_1 X) (by decide) (t31 ((fX10_addTool.eq_1 _ _ _ _).trans ((if_pos c2).trans rfl))) (t33 ((fX10_addTool.eq_1 _ _ _ _).trans ((if_pos c2).trans rfl))) hH hS t_sr_VernierDrawers_55 hl.1 dX10_addTool_33 dX10_addTool_36 dX10_addTool_37 dX10_addTool_39 dX10_addTool_42 (Nat.le_of_ble_eq_true rfl) (c16 hq3) hq3
  · have ho := ho.2 c2
    refine lv_iload_n hx hb dX10_addTool_22 rfl (lv_at hl 3 rfl) ?_
    refine lv_bipush (v := (-30)) hx hb dX10_addTool_23 (by decide) ?_
    refine lv_bipush (v := 30) hx hb dX10_addTool_25 (by decide) ?_
    refine k_X10_inRange X hS  t_ml_VernierDrawers_49 hl.1 (Nat.le_of_ble_eq_true rfl) ⟨Nat.le_of_ble_eq_true rfl, Nat.le_of_ble_eq_true rfl⟩ ⟨Nat.zero_le _, Nat.zero_le _⟩ dX10_addTool_27 ?_
    refine lv_if_ne (tgt := 43) hx hb dX10_addTool_30 (by decide) (fun c4 => ?_) (fun c4 => ?_)
    · have ho := ho.2 c4
      refine lv_aload_n hx hb dX10_addTool_43 rfl (lv_at hl 0 rfl) ?_
      refine g_VernierDrawers_60 X hH (kc_7_2 hq1) dX10_addTool_44 ?_
      refine lv_bipush (v := 6) hx hb dX10_addTool_47 (by decide) ?_
      refine lv_icmp_lt (tgt := 62) hx hb dX10_addTool_49 (by decide) (fun c5 => ?_) (fun c5 => ?_)
      · have ho := ho.1 c5
        refine lv_aload_n hx hb dX10_addTool_62 rfl (lv_at hl 1 rfl) ?_
        have hq6 := ho.1
        have ho := ho.2
        have hq7 := ho.1
        have ho := ho.2
        refine k_X10_recordState X hS hH hk_r hq6 t_ml_VernierDrawers_71 hl.1 (Nat.le_of_ble_eq_true rfl) ⟨Nat.le_of_ble_eq_true rfl, Nat.le_of_ble_eq_true rfl⟩ ⟨hq7, hq7⟩ dX10_addTool_63 (fun da H locs v8 ev8 hH hS => ?_)
        have ho := ho v8 ev8
        refine lv_aload_n hx hb dX10_addTool_66 rfl (lv_at hl 0 rfl) ?_
        refine lv_iload_n hx hb dX10_addTool_67 rfl (lv_at hl 2 rfl) ?_
        refine lv_iload_n hx hb dX10_addTool_68 rfl (lv_at hl 3 rfl) ?_
        have hq9 := ho
        refine k_X2_putTool X hS hH (kc_7_2 hq1) hq9 t_ml_VernierDrawers_74 hl.1 (Nat.le_of_ble_eq_true rfl) ⟨Nat.le_of_ble_eq_true rfl, Nat.le_of_ble_eq_true rfl⟩ ⟨hq7, hq7⟩ dX10_addTool_69 (fun da H locs v10 ev10 hH hS => ?_)
        replace ev8 := Eq.symm ev8
        replace ev10 := Eq.symm ev10
        subst ev8 ev10
        exact E _ _ _ _ _ _ _ _ _ dX10_addTool_72 rfl (Eq.symm (t31 ((fX10_addTool.eq_1 _ _ _ _).trans ((if_neg c2).trans ((if_neg c4).trans ((if_pos c5).trans rfl)))))) (t32 ((fX10_addTool.eq_1 _ _ _ _).trans ((if_neg c2).trans ((if_neg c4).trans ((if_pos c5).trans rfl))))) (t33 ((fX10_addTool.eq_1 _ _ _ _).trans ((if_neg c2).trans ((if_neg c4).trans ((if_pos c5).trans rfl))))) hH hS hq7 hq7
      · have ho := ho.2 c5
        have hq11 := ho
        exact ES _ _ _ _ _ _ _ _ _ _ _ _ _ _ (th_2 X) (by decide) (t31 ((fX10_addTool.eq_1 _ _ _ _).trans ((if_neg c2).trans ((if_neg c4).trans ((if_neg c5).trans rfl))))) (t33 ((fX10_addTool.eq_1 _ _ _ _).trans ((if_neg c2).trans ((if_neg c4).trans ((if_neg c5).trans rfl))))) hH hS t_sr_VernierDrawers_68 hl.1 dX10_addTool_52 dX10_addTool_55 dX10_addTool_56 dX10_addTool_58 dX10_addTool_61 (Nat.le_of_ble_eq_true rfl) (c16 hq11) hq11
    · have ho := ho.1 c4
      have hq12 := ho
      exact ES _ _ _ _ _ _ _ _ _ _ _ _ _ _ (th_1 X) (by decide) (t31 ((fX10_addTool.eq_1 _ _ _ _).trans ((if_neg c2).trans ((if_pos c4).trans rfl)))) (t33 ((fX10_addTool.eq_1 _ _ _ _).trans ((if_neg c2).trans ((if_pos c4).trans rfl)))) hH hS t_sr_VernierDrawers_55 hl.1 dX10_addTool_33 dX10_addTool_36 dX10_addTool_37 dX10_addTool_39 dX10_addTool_42 (Nat.le_of_ble_eq_true rfl) (c16 hq12) hq12
theorem k_X10_addTool {p : Program} {l : Launch} {e : Env} {R : Room} {s : State} {m : MethodId} {args : Array Value} {below : List Frame} {meth : Method} {c : Code} {H : Heap} {locs : List Loc} {cells slots : Nat} {Q : State → Prop} {cc : ByteArray} {pc nL : Nat} {ls : Array Slot} {rest : List Value} {G : gG} {own : String} {da : Nat → Nat} {v : vSt} {x : gX} (hst : l.stackTraces = false) (X : CX G p s m args c cc nL own) (hS : va_S (gA G) s.heap H locs) (hH : Hp G da v x H) {r : Nat} (hk_r : kd r = 10) {p1 : Int32} {p2 : Int32} (ho : oX10_addTool r p1 p2 v) {idx : Nat} (hml : Cond.methodLink own idx yX10_addTool ∈ TT) (hls : ls.size = nL) (hsum : (rest.map fun v => v.category).sum ≤ 8) (hR : (rmX10_addTool r p1 p2 v).frames + 1 ≤ R.frames ∧ 8 + (4 + 11) + (rmX10_addTool r p1 p2 v).locals ≤ R.locals) (hcs : cells + (kkX10_addTool r p1 p2 v) ≤ R.cells ∧ slots + (kkX10_addTool r p1 p2 v) ≤ R.slots) (hdg : decode cc pc = .ok (.invokevirtual idx, 3)) (kx : ¬ (fX10_addTool r p1 p2 v).1 = 0 → ∀ (d : Nat → Nat) (ce : Cell) (q9 : Addr) (H1 : Heap) (locs1 : List Loc) (v1 : vSt), v1 = (fX10_addTool r p1 p2 v).2.2 → Hp G d v1 x H1 → va_S (gA G) s.heap H1 locs1 → H1[q9]? = some ce → ce.vm = .none → s.vm.findClass (exN (fX10_addTool r p1 p2 v).1) = some ce.cls → vx_W p l e R s m args below meth c H1 locs1 (cells + (kkX10_addTool r p1 p2 v)) (slots + (kkX10_addTool r p1 p2 v)) Q (F0 m pc ls rest) q9) (kk : (fX10_addTool r p1 p2 v).1 = 0 → ∀ (d : Nat → Nat) (H1 : Heap) (locs1 : List Loc) (v1 : vSt), v1 = (fX10_addTool r p1 p2 v).2.2 → Hp G d v1 x H1 → va_S (gA G) s.heap H1 locs1 → W p l e R s m args below meth c H1 locs1 (cells + (kkX10_addTool r p1 p2 v)) (slots + (kkX10_addTool r p1 p2 v)) Q (F0 m (pc + 3) ls (.int (fX10_addTool r p1 p2 v).2.1 :: rest))) : W p l e R s m args below meth c H locs cells slots Q (F0 m pc ls (.int p2 :: .int p1 :: .ref (ga G r) :: rest)) := c_ti (runxV (kp := 2) X.1 X.2.1 X.2.2.1 X.2.2.2.1 X.2.2.2.2.1 (mX10_addTool l hst G da v x r hk_r p1 p2 ho) pW_bl hml t_im_X10_addTool t_sel_X10_addTool t_ini_VernierDrawers t_code_X10_addTool ⟨rfl, by decide, by decide, by decide +kernel⟩ rfl rfl hR hcs (recvW X hH (by rw [hk_r]; decide) (by rw [hk_r]; decide) (ce_10 hk_r) rfl) (preW X hS hH) rfl hls rfl hsum hdg) hS kx kk
def fX10_addBlock (r : Nat) (p1 : Int32) (p2 : Int32) (v : vSt) : Nat × Int32 × vSt := if ((fX10_inRange p1 1 5000) : Int32) = 0 then ((1, 0, v)) else (if ((fX10_inRange p2 (-3) 3) : Int32) = 0 then ((1, 0, v)) else (if ((v ((rN (v r 0)) + 1) 3) : Int32) < 10 then (let v8 : vSt := fX10_recordState r v; let v10 : vSt := (fX2_putBlock ((rN (v r 0)) + 1) p1 p2 v8).2; (0, (fX2_putBlock ((rN (v r 0)) + 1) p1 p2 v8).1, v10)) else ((2, 0, v))))

def kkX10_addBlock (r : Nat) (p1 : Int32) (p2 : Int32) (v : vSt) : Nat := pot ((fX10_addBlock r p1 p2 v).2.2) - pot v + 36
def oX10_addBlock (r : Nat) (p1 : Int32) (p2 : Int32) (v : vSt) : Prop := (kd (rN (v r 0)) = 7) ∧ (((((fX10_inRange p1 1 5000) : Int32) = 0) → (0 + 6 ≤ kkX10_addBlock r p1 p2 v)) ∧ (¬ (((fX10_inRange p1 1 5000) : Int32) = 0) → (((((fX10_inRange p2 (-3) 3) : Int32) = 0) → (0 + 6 ≤ kkX10_addBlock r p1 p2 v)) ∧ (¬ (((fX10_inRange p2 (-3) 3) : Int32) = 0) → (((((v ((rN (v r 0)) + 1) 3) : Int32) < 10) → ((oX10_recordState r v) ∧ ((0 + kkX10_recordState r v ≤ kkX10_addBlock r p1 p2 v) ∧ (∀ v8 : vSt, v8 = (fX10_recordState r v) → (0 ≤ (v8 ((rN (v r 0)) + 1) 2).toInt ∧ (v8 ((rN (v r 0)) + 1) 2).toInt ≤ 6 ∧ 0 ≤ (v8 ((rN (v r 0)) + 1) 3).toInt ∧ (v8 ((rN (v r 0)) + 1) 3).toInt ≤ 10))))) ∧ (¬ (((v ((rN (v r 0)) + 1) 3) : Int32) < 10) → (0 + 6 ≤ kkX10_addBlock r p1 p2 v)))))))
abbrev rmX10_addBlock (r : Nat) (p1 : Int32) (p2 : Int32) (v : vSt) : Room := { frames := 7, cells := kkX10_addBlock r p1 p2 v, slots := kkX10_addBlock r p1 p2 v, locals := 196 }
theorem dX10_addBlock_0 : decode cX10_addBlock 0 = .ok (.aload_n 0, 1) := by decide +kernel
theorem dX10_addBlock_1 : decode cX10_addBlock 1 = .ok (.getfield 10, 3) := by decide +kernel
theorem dX10_addBlock_4 : decode cX10_addBlock 4 = .ok (.getfield 41, 3) := by decide +kernel
theorem dX10_addBlock_7 : decode cX10_addBlock 7 = .ok (.astore_n 3, 1) := by decide +kernel
theorem dX10_addBlock_8 : decode cX10_addBlock 8 = .ok (.iload_n 1, 1) := by decide +kernel
theorem dX10_addBlock_9 : decode cX10_addBlock 9 = .ok (.iconst 1, 1) := by decide +kernel
theorem dX10_addBlock_10 : decode cX10_addBlock 10 = .ok (.sipush 5000, 3) := by decide +kernel
theorem dX10_addBlock_13 : decode cX10_addBlock 13 = .ok (.invokestatic 49, 3) := by decide +kernel
theorem dX10_addBlock_16 : decode cX10_addBlock 16 = .ok (.ifCond .eq 13, 3) := by decide +kernel
theorem dX10_addBlock_19 : decode cX10_addBlock 19 = .ok (.iload_n 2, 1) := by decide +kernel
theorem dX10_addBlock_20 : decode cX10_addBlock 20 = .ok (.bipush (-3), 2) := by decide +kernel
theorem dX10_addBlock_22 : decode cX10_addBlock 22 = .ok (.iconst 3, 1) := by decide +kernel
theorem dX10_addBlock_23 : decode cX10_addBlock 23 = .ok (.invokestatic 49, 3) := by decide +kernel
theorem dX10_addBlock_26 : decode cX10_addBlock 26 = .ok (.ifCond .ne 13, 3) := by decide +kernel
theorem dX10_addBlock_29 : decode cX10_addBlock 29 = .ok (.new 53, 3) := by decide +kernel
theorem dX10_addBlock_32 : decode cX10_addBlock 32 = .ok (.dup, 1) := by decide +kernel
theorem dX10_addBlock_33 : decode cX10_addBlock 33 = .ok (.ldc 78, 2) := by decide +kernel
theorem dX10_addBlock_35 : decode cX10_addBlock 35 = .ok (.invokespecial 57, 3) := by decide +kernel
theorem dX10_addBlock_38 : decode cX10_addBlock 38 = .ok (.athrow, 1) := by decide +kernel
theorem dX10_addBlock_39 : decode cX10_addBlock 39 = .ok (.aload_n 3, 1) := by decide +kernel
theorem dX10_addBlock_40 : decode cX10_addBlock 40 = .ok (.getfield 80, 3) := by decide +kernel
theorem dX10_addBlock_43 : decode cX10_addBlock 43 = .ok (.bipush 10, 2) := by decide +kernel
theorem dX10_addBlock_45 : decode cX10_addBlock 45 = .ok (.if_icmp .lt 13, 3) := by decide +kernel
theorem dX10_addBlock_48 : decode cX10_addBlock 48 = .ok (.new 66, 3) := by decide +kernel
theorem dX10_addBlock_51 : decode cX10_addBlock 51 = .ok (.dup, 1) := by decide +kernel
theorem dX10_addBlock_52 : decode cX10_addBlock 52 = .ok (.ldc 83, 2) := by decide +kernel
theorem dX10_addBlock_54 : decode cX10_addBlock 54 = .ok (.invokespecial 70, 3) := by decide +kernel
theorem dX10_addBlock_57 : decode cX10_addBlock 57 = .ok (.athrow, 1) := by decide +kernel
theorem dX10_addBlock_58 : decode cX10_addBlock 58 = .ok (.aload_n 0, 1) := by decide +kernel
theorem dX10_addBlock_59 : decode cX10_addBlock 59 = .ok (.invokevirtual 71, 3) := by decide +kernel
theorem dX10_addBlock_62 : decode cX10_addBlock 62 = .ok (.aload_n 3, 1) := by decide +kernel
theorem dX10_addBlock_63 : decode cX10_addBlock 63 = .ok (.iload_n 1, 1) := by decide +kernel
theorem dX10_addBlock_64 : decode cX10_addBlock 64 = .ok (.iload_n 2, 1) := by decide +kernel
theorem dX10_addBlock_65 : decode cX10_addBlock 65 = .ok (.invokevirtual 85, 3) := by decide +kernel
theorem dX10_addBlock_68 : decode cX10_addBlock 68 = .ok (.ireturn, 1) := by decide +kernel
set_option maxHeartbeats 8000000 in
set_option maxRecDepth 100000 in
theorem mX10_addBlock (l : Launch) (hst : l.stackTraces = false) (G : gG) (da : Nat → Nat) (v : vSt) (x : gX) (r : Nat) (hk_r : kd r = 10) (p1 : Int32) (p2 : Int32) (ho : oX10_addBlock r p1 p2 v) : TI l yX10_addBlock cX10_addBlock 4 (some .int) (rmX10_addBlock r p1 p2 v) [.ref (ga G r), .int p1, .int p2] G da v x (kkX10_addBlock r p1 p2 v) (kkX10_addBlock r p1 p2 v) (fX10_addBlock r p1 p2 v).1 (fX10_addBlock r p1 p2 v).2.1 (fX10_addBlock r p1 p2 v).2.2 x := by
  refine gofTI hst (by decide) rfl (Nat.le_of_ble_eq_true rfl) ⟨Nat.le_of_ble_eq_true rfl, Nat.le_of_ble_eq_true rfl, Nat.le_refl _, Nat.le_refl _⟩ (fun p e s m args below meth c ls Q X hH hl E EX ES EW => ?_)
  have hx := X.1
  have hb := X.2.1
  have hown := X.2.2.2.1
  have hts := X.2.2.2.2.1
  have hS : va_S (gA G) s.heap s.heap [] := va_S.rf
  unfold oX10_addBlock at ho
  have hl : lv_has ls 4 [(0, .ref (ga G r)), (1, .int p1), (2, .int p2)] := hl
  refine lv_aload_n hx hb dX10_addBlock_0 rfl (lv_at hl 0 rfl) ?_
  refine g_VernierDrawers_10 X hH hk_r dX10_addBlock_1 ?_
  have hq1 := ho.1
  have ho := ho.2
  refine g_VernierDrawers_41 X hH hq1 dX10_addBlock_4 ?_
  refine lv_astore_n (lv' := [(3, .ref (ga G ((rN (v r 0)) + 1))), (0, .ref (ga G r)), (1, .int p1), (2, .int p2)]) hx hb dX10_addBlock_7 rfl hl (by decide) rfl (fun ls hl => ?_)
  refine lv_iload_n hx hb dX10_addBlock_8 rfl (lv_at hl 2 rfl) ?_
  refine lv_iconst (v := 1) hx hb dX10_addBlock_9 (by decide) ?_
  refine lv_sipush (v := 5000) hx hb dX10_addBlock_10 (by decide) ?_
  refine k_X10_inRange X hS  t_ml_VernierDrawers_49 hl.1 (Nat.le_of_ble_eq_true rfl) ⟨Nat.le_of_ble_eq_true rfl, Nat.le_of_ble_eq_true rfl⟩ ⟨Nat.zero_le _, Nat.zero_le _⟩ dX10_addBlock_13 ?_
  refine lv_if_eq (tgt := 29) hx hb dX10_addBlock_16 (by decide) (fun c2 => ?_) (fun c2 => ?_)
  · have ho := ho.1 c2
    have hq3 := ho
    exact ES _ _ _ _ _ _ _ _ _ _ _ _ _ _ (th_1 X) (by decide) (t31 ((fX10_addBlock.eq_1 _ _ _ _).trans ((if_pos c2).trans rfl))) (t33 ((fX10_addBlock.eq_1 _ _ _ _).trans ((if_pos c2).trans rfl))) hH hS t_sr_VernierDrawers_78 hl.1 dX10_addBlock_29 dX10_addBlock_32 dX10_addBlock_33 dX10_addBlock_35 dX10_addBlock_38 (Nat.le_of_ble_eq_true rfl) (c16 hq3) hq3
  · have ho := ho.2 c2
    refine lv_iload_n hx hb dX10_addBlock_19 rfl (lv_at hl 3 rfl) ?_
    refine lv_bipush (v := (-3)) hx hb dX10_addBlock_20 (by decide) ?_
    refine lv_iconst (v := 3) hx hb dX10_addBlock_22 (by decide) ?_
    refine k_X10_inRange X hS  t_ml_VernierDrawers_49 hl.1 (Nat.le_of_ble_eq_true rfl) ⟨Nat.le_of_ble_eq_true rfl, Nat.le_of_ble_eq_true rfl⟩ ⟨Nat.zero_le _, Nat.zero_le _⟩ dX10_addBlock_23 ?_
    refine lv_if_ne (tgt := 39) hx hb dX10_addBlock_26 (by decide) (fun c4 => ?_) (fun c4 => ?_)
    · have ho := ho.2 c4
      refine lv_aload_n hx hb dX10_addBlock_39 rfl (lv_at hl 0 rfl) ?_
      refine g_VernierDrawers_80 X hH (kc_7_2 hq1) dX10_addBlock_40 ?_
      refine lv_bipush (v := 10) hx hb dX10_addBlock_43 (by decide) ?_
      refine lv_icmp_lt (tgt := 58) hx hb dX10_addBlock_45 (by decide) (fun c5 => ?_) (fun c5 => ?_)
      · have ho := ho.1 c5
        refine lv_aload_n hx hb dX10_addBlock_58 rfl (lv_at hl 1 rfl) ?_
        have hq6 := ho.1
        have ho := ho.2
        have hq7 := ho.1
        have ho := ho.2
        refine k_X10_recordState X hS hH hk_r hq6 t_ml_VernierDrawers_71 hl.1 (Nat.le_of_ble_eq_true rfl) ⟨Nat.le_of_ble_eq_true rfl, Nat.le_of_ble_eq_true rfl⟩ ⟨hq7, hq7⟩ dX10_addBlock_59 (fun da H locs v8 ev8 hH hS => ?_)
        have ho := ho v8 ev8
        refine lv_aload_n hx hb dX10_addBlock_62 rfl (lv_at hl 0 rfl) ?_
        refine lv_iload_n hx hb dX10_addBlock_63 rfl (lv_at hl 2 rfl) ?_
        refine lv_iload_n hx hb dX10_addBlock_64 rfl (lv_at hl 3 rfl) ?_
        have hq9 := ho
        refine k_X2_putBlock X hS hH (kc_7_2 hq1) hq9 t_ml_VernierDrawers_85 hl.1 (Nat.le_of_ble_eq_true rfl) ⟨Nat.le_of_ble_eq_true rfl, Nat.le_of_ble_eq_true rfl⟩ ⟨hq7, hq7⟩ dX10_addBlock_65 (fun da H locs v10 ev10 hH hS => ?_)
        replace ev8 := Eq.symm ev8
        replace ev10 := Eq.symm ev10
        subst ev8 ev10
        exact E _ _ _ _ _ _ _ _ _ dX10_addBlock_68 rfl (Eq.symm (t31 ((fX10_addBlock.eq_1 _ _ _ _).trans ((if_neg c2).trans ((if_neg c4).trans ((if_pos c5).trans rfl)))))) (t32 ((fX10_addBlock.eq_1 _ _ _ _).trans ((if_neg c2).trans ((if_neg c4).trans ((if_pos c5).trans rfl))))) (t33 ((fX10_addBlock.eq_1 _ _ _ _).trans ((if_neg c2).trans ((if_neg c4).trans ((if_pos c5).trans rfl))))) hH hS hq7 hq7
      · have ho := ho.2 c5
        have hq11 := ho
        exact ES _ _ _ _ _ _ _ _ _ _ _ _ _ _ (th_2 X) (by decide) (t31 ((fX10_addBlock.eq_1 _ _ _ _).trans ((if_neg c2).trans ((if_neg c4).trans ((if_neg c5).trans rfl))))) (t33 ((fX10_addBlock.eq_1 _ _ _ _).trans ((if_neg c2).trans ((if_neg c4).trans ((if_neg c5).trans rfl))))) hH hS t_sr_VernierDrawers_83 hl.1 dX10_addBlock_48 dX10_addBlock_51 dX10_addBlock_52 dX10_addBlock_54 dX10_addBlock_57 (Nat.le_of_ble_eq_true rfl) (c16 hq11) hq11
    · have ho := ho.1 c4
      have hq12 := ho
      exact ES _ _ _ _ _ _ _ _ _ _ _ _ _ _ (th_1 X) (by decide) (t31 ((fX10_addBlock.eq_1 _ _ _ _).trans ((if_neg c2).trans ((if_pos c4).trans rfl)))) (t33 ((fX10_addBlock.eq_1 _ _ _ _).trans ((if_neg c2).trans ((if_pos c4).trans rfl)))) hH hS t_sr_VernierDrawers_78 hl.1 dX10_addBlock_29 dX10_addBlock_32 dX10_addBlock_33 dX10_addBlock_35 dX10_addBlock_38 (Nat.le_of_ble_eq_true rfl) (c16 hq12) hq12
theorem k_X10_addBlock {p : Program} {l : Launch} {e : Env} {R : Room} {s : State} {m : MethodId} {args : Array Value} {below : List Frame} {meth : Method} {c : Code} {H : Heap} {locs : List Loc} {cells slots : Nat} {Q : State → Prop} {cc : ByteArray} {pc nL : Nat} {ls : Array Slot} {rest : List Value} {G : gG} {own : String} {da : Nat → Nat} {v : vSt} {x : gX} (hst : l.stackTraces = false) (X : CX G p s m args c cc nL own) (hS : va_S (gA G) s.heap H locs) (hH : Hp G da v x H) {r : Nat} (hk_r : kd r = 10) {p1 : Int32} {p2 : Int32} (ho : oX10_addBlock r p1 p2 v) {idx : Nat} (hml : Cond.methodLink own idx yX10_addBlock ∈ TT) (hls : ls.size = nL) (hsum : (rest.map fun v => v.category).sum ≤ 8) (hR : (rmX10_addBlock r p1 p2 v).frames + 1 ≤ R.frames ∧ 8 + (4 + 11) + (rmX10_addBlock r p1 p2 v).locals ≤ R.locals) (hcs : cells + (kkX10_addBlock r p1 p2 v) ≤ R.cells ∧ slots + (kkX10_addBlock r p1 p2 v) ≤ R.slots) (hdg : decode cc pc = .ok (.invokevirtual idx, 3)) (kx : ¬ (fX10_addBlock r p1 p2 v).1 = 0 → ∀ (d : Nat → Nat) (ce : Cell) (q9 : Addr) (H1 : Heap) (locs1 : List Loc) (v1 : vSt), v1 = (fX10_addBlock r p1 p2 v).2.2 → Hp G d v1 x H1 → va_S (gA G) s.heap H1 locs1 → H1[q9]? = some ce → ce.vm = .none → s.vm.findClass (exN (fX10_addBlock r p1 p2 v).1) = some ce.cls → vx_W p l e R s m args below meth c H1 locs1 (cells + (kkX10_addBlock r p1 p2 v)) (slots + (kkX10_addBlock r p1 p2 v)) Q (F0 m pc ls rest) q9) (kk : (fX10_addBlock r p1 p2 v).1 = 0 → ∀ (d : Nat → Nat) (H1 : Heap) (locs1 : List Loc) (v1 : vSt), v1 = (fX10_addBlock r p1 p2 v).2.2 → Hp G d v1 x H1 → va_S (gA G) s.heap H1 locs1 → W p l e R s m args below meth c H1 locs1 (cells + (kkX10_addBlock r p1 p2 v)) (slots + (kkX10_addBlock r p1 p2 v)) Q (F0 m (pc + 3) ls (.int (fX10_addBlock r p1 p2 v).2.1 :: rest))) : W p l e R s m args below meth c H locs cells slots Q (F0 m pc ls (.int p2 :: .int p1 :: .ref (ga G r) :: rest)) := c_ti (runxV (kp := 2) X.1 X.2.1 X.2.2.1 X.2.2.2.1 X.2.2.2.2.1 (mX10_addBlock l hst G da v x r hk_r p1 p2 ho) pW_bl hml t_im_X10_addBlock t_sel_X10_addBlock t_ini_VernierDrawers t_code_X10_addBlock ⟨rfl, by decide, by decide, by decide +kernel⟩ rfl rfl hR hcs (recvW X hH (by rw [hk_r]; decide) (by rw [hk_r]; decide) (ce_10 hk_r) rfl) (preW X hS hH) rfl hls rfl hsum hdg) hS kx kk
def fX10_setWarmth (r : Nat) (p1 : Int32) (v : vSt) : Nat × Int32 × vSt := if ((fX10_inRange p1 (-10) 50) : Int32) = 0 then ((1, 0, v)) else (let v4 : vSt := fX10_recordState r v; let v6 : vSt := u2 v4 ((rN (v4 r 0)) + 1) 4 p1; (0, v4 ((rN (v4 r 0)) + 1) 4, v6))

def kkX10_setWarmth (r : Nat) (p1 : Int32) (v : vSt) : Nat := pot ((fX10_setWarmth r p1 v).2.2) - pot v + 36
def oX10_setWarmth (r : Nat) (p1 : Int32) (v : vSt) : Prop := ((((fX10_inRange p1 (-10) 50) : Int32) = 0) → (0 + 6 ≤ kkX10_setWarmth r p1 v)) ∧ (¬ (((fX10_inRange p1 (-10) 50) : Int32) = 0) → ((oX10_recordState r v) ∧ ((0 + kkX10_recordState r v ≤ kkX10_setWarmth r p1 v) ∧ (∀ v4 : vSt, v4 = (fX10_recordState r v) → (kd (rN (v4 r 0)) = 7)))))
abbrev rmX10_setWarmth (r : Nat) (p1 : Int32) (v : vSt) : Room := { frames := 7, cells := kkX10_setWarmth r p1 v, slots := kkX10_setWarmth r p1 v, locals := 196 }
theorem dX10_setWarmth_0 : decode cX10_setWarmth 0 = .ok (.iload_n 1, 1) := by decide +kernel
theorem dX10_setWarmth_1 : decode cX10_setWarmth 1 = .ok (.bipush (-10), 2) := by decide +kernel
theorem dX10_setWarmth_3 : decode cX10_setWarmth 3 = .ok (.bipush 50, 2) := by decide +kernel
theorem dX10_setWarmth_5 : decode cX10_setWarmth 5 = .ok (.invokestatic 49, 3) := by decide +kernel
theorem dX10_setWarmth_8 : decode cX10_setWarmth 8 = .ok (.ifCond .ne 13, 3) := by decide +kernel
theorem dX10_setWarmth_11 : decode cX10_setWarmth 11 = .ok (.new 53, 3) := by decide +kernel
theorem dX10_setWarmth_14 : decode cX10_setWarmth 14 = .ok (.dup, 1) := by decide +kernel
theorem dX10_setWarmth_15 : decode cX10_setWarmth 15 = .ok (.ldc 88, 2) := by decide +kernel
theorem dX10_setWarmth_17 : decode cX10_setWarmth 17 = .ok (.invokespecial 57, 3) := by decide +kernel
theorem dX10_setWarmth_20 : decode cX10_setWarmth 20 = .ok (.athrow, 1) := by decide +kernel
theorem dX10_setWarmth_21 : decode cX10_setWarmth 21 = .ok (.aload_n 0, 1) := by decide +kernel
theorem dX10_setWarmth_22 : decode cX10_setWarmth 22 = .ok (.invokevirtual 71, 3) := by decide +kernel
theorem dX10_setWarmth_25 : decode cX10_setWarmth 25 = .ok (.aload_n 0, 1) := by decide +kernel
theorem dX10_setWarmth_26 : decode cX10_setWarmth 26 = .ok (.getfield 10, 3) := by decide +kernel
theorem dX10_setWarmth_29 : decode cX10_setWarmth 29 = .ok (.getfield 41, 3) := by decide +kernel
theorem dX10_setWarmth_32 : decode cX10_setWarmth 32 = .ok (.getfield 90, 3) := by decide +kernel
theorem dX10_setWarmth_35 : decode cX10_setWarmth 35 = .ok (.istore_n 2, 1) := by decide +kernel
theorem dX10_setWarmth_36 : decode cX10_setWarmth 36 = .ok (.aload_n 0, 1) := by decide +kernel
theorem dX10_setWarmth_37 : decode cX10_setWarmth 37 = .ok (.getfield 10, 3) := by decide +kernel
theorem dX10_setWarmth_40 : decode cX10_setWarmth 40 = .ok (.getfield 41, 3) := by decide +kernel
theorem dX10_setWarmth_43 : decode cX10_setWarmth 43 = .ok (.iload_n 1, 1) := by decide +kernel
theorem dX10_setWarmth_44 : decode cX10_setWarmth 44 = .ok (.putfield 90, 3) := by decide +kernel
theorem dX10_setWarmth_47 : decode cX10_setWarmth 47 = .ok (.iload_n 2, 1) := by decide +kernel
theorem dX10_setWarmth_48 : decode cX10_setWarmth 48 = .ok (.ireturn, 1) := by decide +kernel
set_option maxHeartbeats 8000000 in
set_option maxRecDepth 100000 in
theorem mX10_setWarmth (l : Launch) (hst : l.stackTraces = false) (G : gG) (da : Nat → Nat) (v : vSt) (x : gX) (r : Nat) (hk_r : kd r = 10) (p1 : Int32) (ho : oX10_setWarmth r p1 v) : TI l yX10_setWarmth cX10_setWarmth 3 (some .int) (rmX10_setWarmth r p1 v) [.ref (ga G r), .int p1] G da v x (kkX10_setWarmth r p1 v) (kkX10_setWarmth r p1 v) (fX10_setWarmth r p1 v).1 (fX10_setWarmth r p1 v).2.1 (fX10_setWarmth r p1 v).2.2 x := by
  refine gofTI hst (by decide) rfl (Nat.le_of_ble_eq_true rfl) ⟨Nat.le_of_ble_eq_true rfl, Nat.le_of_ble_eq_true rfl, Nat.le_refl _, Nat.le_refl _⟩ (fun p e s m args below meth c ls Q X hH hl E EX ES EW => ?_)
  have hx := X.1
  have hb := X.2.1
  have hown := X.2.2.2.1
  have hts := X.2.2.2.2.1
  have hS : va_S (gA G) s.heap s.heap [] := va_S.rf
  unfold oX10_setWarmth at ho
  have hl : lv_has ls 3 [(0, .ref (ga G r)), (1, .int p1)] := hl
  refine lv_iload_n hx hb dX10_setWarmth_0 rfl (lv_at hl 1 rfl) ?_
  refine lv_bipush (v := (-10)) hx hb dX10_setWarmth_1 (by decide) ?_
  refine lv_bipush (v := 50) hx hb dX10_setWarmth_3 (by decide) ?_
  refine k_X10_inRange X hS  t_ml_VernierDrawers_49 hl.1 (Nat.le_of_ble_eq_true rfl) ⟨Nat.le_of_ble_eq_true rfl, Nat.le_of_ble_eq_true rfl⟩ ⟨Nat.zero_le _, Nat.zero_le _⟩ dX10_setWarmth_5 ?_
  refine lv_if_ne (tgt := 21) hx hb dX10_setWarmth_8 (by decide) (fun c1 => ?_) (fun c1 => ?_)
  · have ho := ho.2 c1
    refine lv_aload_n hx hb dX10_setWarmth_21 rfl (lv_at hl 0 rfl) ?_
    have hq2 := ho.1
    have ho := ho.2
    have hq3 := ho.1
    have ho := ho.2
    refine k_X10_recordState X hS hH hk_r hq2 t_ml_VernierDrawers_71 hl.1 (Nat.le_of_ble_eq_true rfl) ⟨Nat.le_of_ble_eq_true rfl, Nat.le_of_ble_eq_true rfl⟩ ⟨hq3, hq3⟩ dX10_setWarmth_22 (fun da H locs v4 ev4 hH hS => ?_)
    have ho := ho v4 ev4
    refine lv_aload_n hx hb dX10_setWarmth_25 rfl (lv_at hl 0 rfl) ?_
    refine g_VernierDrawers_10 X hH hk_r dX10_setWarmth_26 ?_
    have hq5 := ho
    refine g_VernierDrawers_41 X hH hq5 dX10_setWarmth_29 ?_
    refine g_VernierDrawers_90 X hH (kc_7_2 hq5) dX10_setWarmth_32 ?_
    refine lv_istore_n (lv' := [(2, .int (v4 ((rN (v4 r 0)) + 1) 4)), (0, .ref (ga G r)), (1, .int p1)]) hx hb dX10_setWarmth_35 rfl hl (by decide) rfl (fun ls hl => ?_)
    refine lv_aload_n hx hb dX10_setWarmth_36 rfl (lv_at hl 1 rfl) ?_
    refine g_VernierDrawers_10 X hH hk_r dX10_setWarmth_37 ?_
    refine g_VernierDrawers_41 X hH hq5 dX10_setWarmth_40 ?_
    refine lv_iload_n hx hb dX10_setWarmth_43 rfl (lv_at hl 2 rfl) ?_
    refine p_VernierDrawers_90 X hH hS (kc_7_2 hq5) dX10_setWarmth_44 (fun H locs v6 ev6 hH hS => ?_)
    refine lv_iload_n hx hb dX10_setWarmth_47 rfl (lv_at hl 0 rfl) ?_
    replace ev4 := Eq.symm ev4
    replace ev6 := Eq.symm ev6
    subst ev4 ev6
    exact E _ _ _ _ _ _ _ _ _ dX10_setWarmth_48 rfl (Eq.symm (t31 ((fX10_setWarmth.eq_1 _ _ _).trans ((if_neg c1).trans rfl)))) (t32 ((fX10_setWarmth.eq_1 _ _ _).trans ((if_neg c1).trans rfl))) (t33 ((fX10_setWarmth.eq_1 _ _ _).trans ((if_neg c1).trans rfl))) hH hS hq3 hq3
  · have ho := ho.1 c1
    have hq7 := ho
    exact ES _ _ _ _ _ _ _ _ _ _ _ _ _ _ (th_1 X) (by decide) (t31 ((fX10_setWarmth.eq_1 _ _ _).trans ((if_pos c1).trans rfl))) (t33 ((fX10_setWarmth.eq_1 _ _ _).trans ((if_pos c1).trans rfl))) hH hS t_sr_VernierDrawers_88 hl.1 dX10_setWarmth_11 dX10_setWarmth_14 dX10_setWarmth_15 dX10_setWarmth_17 dX10_setWarmth_20 (Nat.le_of_ble_eq_true rfl) (c16 hq7) hq7
theorem k_X10_setWarmth {p : Program} {l : Launch} {e : Env} {R : Room} {s : State} {m : MethodId} {args : Array Value} {below : List Frame} {meth : Method} {c : Code} {H : Heap} {locs : List Loc} {cells slots : Nat} {Q : State → Prop} {cc : ByteArray} {pc nL : Nat} {ls : Array Slot} {rest : List Value} {G : gG} {own : String} {da : Nat → Nat} {v : vSt} {x : gX} (hst : l.stackTraces = false) (X : CX G p s m args c cc nL own) (hS : va_S (gA G) s.heap H locs) (hH : Hp G da v x H) {r : Nat} (hk_r : kd r = 10) {p1 : Int32} (ho : oX10_setWarmth r p1 v) {idx : Nat} (hml : Cond.methodLink own idx yX10_setWarmth ∈ TT) (hls : ls.size = nL) (hsum : (rest.map fun v => v.category).sum ≤ 8) (hR : (rmX10_setWarmth r p1 v).frames + 1 ≤ R.frames ∧ 8 + (3 + 11) + (rmX10_setWarmth r p1 v).locals ≤ R.locals) (hcs : cells + (kkX10_setWarmth r p1 v) ≤ R.cells ∧ slots + (kkX10_setWarmth r p1 v) ≤ R.slots) (hdg : decode cc pc = .ok (.invokevirtual idx, 3)) (kx : ¬ (fX10_setWarmth r p1 v).1 = 0 → ∀ (d : Nat → Nat) (ce : Cell) (q9 : Addr) (H1 : Heap) (locs1 : List Loc) (v1 : vSt), v1 = (fX10_setWarmth r p1 v).2.2 → Hp G d v1 x H1 → va_S (gA G) s.heap H1 locs1 → H1[q9]? = some ce → ce.vm = .none → s.vm.findClass (exN (fX10_setWarmth r p1 v).1) = some ce.cls → vx_W p l e R s m args below meth c H1 locs1 (cells + (kkX10_setWarmth r p1 v)) (slots + (kkX10_setWarmth r p1 v)) Q (F0 m pc ls rest) q9) (kk : (fX10_setWarmth r p1 v).1 = 0 → ∀ (d : Nat → Nat) (H1 : Heap) (locs1 : List Loc) (v1 : vSt), v1 = (fX10_setWarmth r p1 v).2.2 → Hp G d v1 x H1 → va_S (gA G) s.heap H1 locs1 → W p l e R s m args below meth c H1 locs1 (cells + (kkX10_setWarmth r p1 v)) (slots + (kkX10_setWarmth r p1 v)) Q (F0 m (pc + 3) ls (.int (fX10_setWarmth r p1 v).2.1 :: rest))) : W p l e R s m args below meth c H locs cells slots Q (F0 m pc ls (.int p1 :: .ref (ga G r) :: rest)) := c_ti (runxV (kp := 1) X.1 X.2.1 X.2.2.1 X.2.2.2.1 X.2.2.2.2.1 (mX10_setWarmth l hst G da v x r hk_r p1 ho) pW_bl hml t_im_X10_setWarmth t_sel_X10_setWarmth t_ini_VernierDrawers t_code_X10_setWarmth ⟨rfl, by decide, by decide, by decide +kernel⟩ rfl rfl hR hcs (recvW X hH (by rw [hk_r]; decide) (by rw [hk_r]; decide) (ce_10 hk_r) rfl) (preW X hS hH) rfl hls rfl hsum hdg) hS kx kk
def fX10_addType (r : Nat) (p1 : Int32) (p2 : Int32) (p3 : Int32) (p4 : Int32) (v : vSt) : Nat × Int32 × vSt := if ((fX10_inRange p1 100 14000) : Int32) = 0 then ((1, 0, v)) else (if ((fX10_inRange p2 (-99) 0) : Int32) = 0 then ((1, 0, v)) else (if ((fX10_inRange p3 0 99) : Int32) = 0 then ((1, 0, v)) else (if ((fX10_isMaterial p4) : Int32) = 0 then ((1, 0, v)) else (if ((v ((rN (v r 0)) + 2) 1) : Int32) < 5 then (let v12 : vSt := fX10_recordState r v; let v15 : vSt := (fX0_putType ((rN (v12 r 0)) + 2) p1 p2 p3 p4 v12).2; (0, (fX0_putType ((rN (v12 r 0)) + 2) p1 p2 p3 p4 v12).1, v15)) else ((2, 0, v))))))

def kkX10_addType (r : Nat) (p1 : Int32) (p2 : Int32) (p3 : Int32) (p4 : Int32) (v : vSt) : Nat := pot ((fX10_addType r p1 p2 p3 p4 v).2.2) - pot v + 36
def oX10_addType (r : Nat) (p1 : Int32) (p2 : Int32) (p3 : Int32) (p4 : Int32) (v : vSt) : Prop := ((((fX10_inRange p1 100 14000) : Int32) = 0) → (0 + 6 ≤ kkX10_addType r p1 p2 p3 p4 v)) ∧ (¬ (((fX10_inRange p1 100 14000) : Int32) = 0) → (((((fX10_inRange p2 (-99) 0) : Int32) = 0) → (0 + 6 ≤ kkX10_addType r p1 p2 p3 p4 v)) ∧ (¬ (((fX10_inRange p2 (-99) 0) : Int32) = 0) → (((((fX10_inRange p3 0 99) : Int32) = 0) → (0 + 6 ≤ kkX10_addType r p1 p2 p3 p4 v)) ∧ (¬ (((fX10_inRange p3 0 99) : Int32) = 0) → (((((fX10_isMaterial p4) : Int32) = 0) → (0 + 6 ≤ kkX10_addType r p1 p2 p3 p4 v)) ∧ (¬ (((fX10_isMaterial p4) : Int32) = 0) → ((kd (rN (v r 0)) = 7) ∧ (((((v ((rN (v r 0)) + 2) 1) : Int32) < 5) → ((oX10_recordState r v) ∧ ((0 + kkX10_recordState r v ≤ kkX10_addType r p1 p2 p3 p4 v) ∧ (∀ v12 : vSt, v12 = (fX10_recordState r v) → ((kd (rN (v12 r 0)) = 7) ∧ (oX0_putType ((rN (v12 r 0)) + 2) p1 p2 p3 p4 v12)))))) ∧ (¬ (((v ((rN (v r 0)) + 2) 1) : Int32) < 5) → (0 + 6 ≤ kkX10_addType r p1 p2 p3 p4 v)))))))))))
abbrev rmX10_addType (r : Nat) (p1 : Int32) (p2 : Int32) (p3 : Int32) (p4 : Int32) (v : vSt) : Room := { frames := 7, cells := kkX10_addType r p1 p2 p3 p4 v, slots := kkX10_addType r p1 p2 p3 p4 v, locals := 196 }
theorem dX10_addType_0 : decode cX10_addType 0 = .ok (.iload_n 1, 1) := by decide +kernel
theorem dX10_addType_1 : decode cX10_addType 1 = .ok (.bipush 100, 2) := by decide +kernel
theorem dX10_addType_3 : decode cX10_addType 3 = .ok (.sipush 14000, 3) := by decide +kernel
theorem dX10_addType_6 : decode cX10_addType 6 = .ok (.invokestatic 49, 3) := by decide +kernel
theorem dX10_addType_9 : decode cX10_addType 9 = .ok (.ifCond .eq 31, 3) := by decide +kernel
theorem dX10_addType_12 : decode cX10_addType 12 = .ok (.iload_n 2, 1) := by decide +kernel
theorem dX10_addType_13 : decode cX10_addType 13 = .ok (.bipush (-99), 2) := by decide +kernel
theorem dX10_addType_15 : decode cX10_addType 15 = .ok (.iconst 0, 1) := by decide +kernel
theorem dX10_addType_16 : decode cX10_addType 16 = .ok (.invokestatic 49, 3) := by decide +kernel
theorem dX10_addType_19 : decode cX10_addType 19 = .ok (.ifCond .eq 21, 3) := by decide +kernel
theorem dX10_addType_22 : decode cX10_addType 22 = .ok (.iload_n 3, 1) := by decide +kernel
theorem dX10_addType_23 : decode cX10_addType 23 = .ok (.iconst 0, 1) := by decide +kernel
theorem dX10_addType_24 : decode cX10_addType 24 = .ok (.bipush 99, 2) := by decide +kernel
theorem dX10_addType_26 : decode cX10_addType 26 = .ok (.invokestatic 49, 3) := by decide +kernel
theorem dX10_addType_29 : decode cX10_addType 29 = .ok (.ifCond .eq 11, 3) := by decide +kernel
theorem dX10_addType_32 : decode cX10_addType 32 = .ok (.iload 4, 2) := by decide +kernel
theorem dX10_addType_34 : decode cX10_addType 34 = .ok (.invokestatic 120, 3) := by decide +kernel
theorem dX10_addType_37 : decode cX10_addType 37 = .ok (.ifCond .ne 13, 3) := by decide +kernel
theorem dX10_addType_40 : decode cX10_addType 40 = .ok (.new 53, 3) := by decide +kernel
theorem dX10_addType_43 : decode cX10_addType 43 = .ok (.dup, 1) := by decide +kernel
theorem dX10_addType_44 : decode cX10_addType 44 = .ok (.ldc 124, 2) := by decide +kernel
theorem dX10_addType_46 : decode cX10_addType 46 = .ok (.invokespecial 57, 3) := by decide +kernel
theorem dX10_addType_49 : decode cX10_addType 49 = .ok (.athrow, 1) := by decide +kernel
theorem dX10_addType_50 : decode cX10_addType 50 = .ok (.aload_n 0, 1) := by decide +kernel
theorem dX10_addType_51 : decode cX10_addType 51 = .ok (.getfield 10, 3) := by decide +kernel
theorem dX10_addType_54 : decode cX10_addType 54 = .ok (.getfield 126, 3) := by decide +kernel
theorem dX10_addType_57 : decode cX10_addType 57 = .ok (.getfield 130, 3) := by decide +kernel
theorem dX10_addType_60 : decode cX10_addType 60 = .ok (.iconst 5, 1) := by decide +kernel
theorem dX10_addType_61 : decode cX10_addType 61 = .ok (.if_icmp .lt 13, 3) := by decide +kernel
theorem dX10_addType_64 : decode cX10_addType 64 = .ok (.new 66, 3) := by decide +kernel
theorem dX10_addType_67 : decode cX10_addType 67 = .ok (.dup, 1) := by decide +kernel
theorem dX10_addType_68 : decode cX10_addType 68 = .ok (.ldc 135, 2) := by decide +kernel
theorem dX10_addType_70 : decode cX10_addType 70 = .ok (.invokespecial 70, 3) := by decide +kernel
theorem dX10_addType_73 : decode cX10_addType 73 = .ok (.athrow, 1) := by decide +kernel
theorem dX10_addType_74 : decode cX10_addType 74 = .ok (.aload_n 0, 1) := by decide +kernel
theorem dX10_addType_75 : decode cX10_addType 75 = .ok (.invokevirtual 71, 3) := by decide +kernel
theorem dX10_addType_78 : decode cX10_addType 78 = .ok (.aload_n 0, 1) := by decide +kernel
theorem dX10_addType_79 : decode cX10_addType 79 = .ok (.getfield 10, 3) := by decide +kernel
theorem dX10_addType_82 : decode cX10_addType 82 = .ok (.getfield 126, 3) := by decide +kernel
theorem dX10_addType_85 : decode cX10_addType 85 = .ok (.iload_n 1, 1) := by decide +kernel
theorem dX10_addType_86 : decode cX10_addType 86 = .ok (.iload_n 2, 1) := by decide +kernel
theorem dX10_addType_87 : decode cX10_addType 87 = .ok (.iload_n 3, 1) := by decide +kernel
theorem dX10_addType_88 : decode cX10_addType 88 = .ok (.iload 4, 2) := by decide +kernel
theorem dX10_addType_90 : decode cX10_addType 90 = .ok (.invokevirtual 137, 3) := by decide +kernel
theorem dX10_addType_93 : decode cX10_addType 93 = .ok (.ireturn, 1) := by decide +kernel
set_option maxHeartbeats 8000000 in
set_option maxRecDepth 100000 in
theorem mX10_addType (l : Launch) (hst : l.stackTraces = false) (G : gG) (da : Nat → Nat) (v : vSt) (x : gX) (r : Nat) (hk_r : kd r = 10) (p1 : Int32) (p2 : Int32) (p3 : Int32) (p4 : Int32) (ho : oX10_addType r p1 p2 p3 p4 v) : TI l yX10_addType cX10_addType 5 (some .int) (rmX10_addType r p1 p2 p3 p4 v) [.ref (ga G r), .int p1, .int p2, .int p3, .int p4] G da v x (kkX10_addType r p1 p2 p3 p4 v) (kkX10_addType r p1 p2 p3 p4 v) (fX10_addType r p1 p2 p3 p4 v).1 (fX10_addType r p1 p2 p3 p4 v).2.1 (fX10_addType r p1 p2 p3 p4 v).2.2 x := by
  refine gofTI hst (by decide) rfl (Nat.le_of_ble_eq_true rfl) ⟨Nat.le_of_ble_eq_true rfl, Nat.le_of_ble_eq_true rfl, Nat.le_refl _, Nat.le_refl _⟩ (fun p e s m args below meth c ls Q X hH hl E EX ES EW => ?_)
  have hx := X.1
  have hb := X.2.1
  have hown := X.2.2.2.1
  have hts := X.2.2.2.2.1
  have hS : va_S (gA G) s.heap s.heap [] := va_S.rf
  unfold oX10_addType at ho
  have hl : lv_has ls 5 [(0, .ref (ga G r)), (1, .int p1), (2, .int p2), (3, .int p3), (4, .int p4)] := hl
  refine lv_iload_n hx hb dX10_addType_0 rfl (lv_at hl 1 rfl) ?_
  refine lv_bipush (v := 100) hx hb dX10_addType_1 (by decide) ?_
  refine lv_sipush (v := 14000) hx hb dX10_addType_3 (by decide) ?_
  refine k_X10_inRange X hS  t_ml_VernierDrawers_49 hl.1 (Nat.le_of_ble_eq_true rfl) ⟨Nat.le_of_ble_eq_true rfl, Nat.le_of_ble_eq_true rfl⟩ ⟨Nat.zero_le _, Nat.zero_le _⟩ dX10_addType_6 ?_
  refine lv_if_eq (tgt := 40) hx hb dX10_addType_9 (by decide) (fun c1 => ?_) (fun c1 => ?_)
  · have ho := ho.1 c1
    have hq2 := ho
    exact ES _ _ _ _ _ _ _ _ _ _ _ _ _ _ (th_1 X) (by decide) (t31 ((fX10_addType.eq_1 _ _ _ _ _ _).trans ((if_pos c1).trans rfl))) (t33 ((fX10_addType.eq_1 _ _ _ _ _ _).trans ((if_pos c1).trans rfl))) hH hS t_sr_VernierDrawers_124 hl.1 dX10_addType_40 dX10_addType_43 dX10_addType_44 dX10_addType_46 dX10_addType_49 (Nat.le_of_ble_eq_true rfl) (c16 hq2) hq2
  · have ho := ho.2 c1
    refine lv_iload_n hx hb dX10_addType_12 rfl (lv_at hl 2 rfl) ?_
    refine lv_bipush (v := (-99)) hx hb dX10_addType_13 (by decide) ?_
    refine lv_iconst (v := 0) hx hb dX10_addType_15 (by decide) ?_
    refine k_X10_inRange X hS  t_ml_VernierDrawers_49 hl.1 (Nat.le_of_ble_eq_true rfl) ⟨Nat.le_of_ble_eq_true rfl, Nat.le_of_ble_eq_true rfl⟩ ⟨Nat.zero_le _, Nat.zero_le _⟩ dX10_addType_16 ?_
    refine lv_if_eq (tgt := 40) hx hb dX10_addType_19 (by decide) (fun c3 => ?_) (fun c3 => ?_)
    · have ho := ho.1 c3
      have hq4 := ho
      exact ES _ _ _ _ _ _ _ _ _ _ _ _ _ _ (th_1 X) (by decide) (t31 ((fX10_addType.eq_1 _ _ _ _ _ _).trans ((if_neg c1).trans ((if_pos c3).trans rfl)))) (t33 ((fX10_addType.eq_1 _ _ _ _ _ _).trans ((if_neg c1).trans ((if_pos c3).trans rfl)))) hH hS t_sr_VernierDrawers_124 hl.1 dX10_addType_40 dX10_addType_43 dX10_addType_44 dX10_addType_46 dX10_addType_49 (Nat.le_of_ble_eq_true rfl) (c16 hq4) hq4
    · have ho := ho.2 c3
      refine lv_iload_n hx hb dX10_addType_22 rfl (lv_at hl 3 rfl) ?_
      refine lv_iconst (v := 0) hx hb dX10_addType_23 (by decide) ?_
      refine lv_bipush (v := 99) hx hb dX10_addType_24 (by decide) ?_
      refine k_X10_inRange X hS  t_ml_VernierDrawers_49 hl.1 (Nat.le_of_ble_eq_true rfl) ⟨Nat.le_of_ble_eq_true rfl, Nat.le_of_ble_eq_true rfl⟩ ⟨Nat.zero_le _, Nat.zero_le _⟩ dX10_addType_26 ?_
      refine lv_if_eq (tgt := 40) hx hb dX10_addType_29 (by decide) (fun c5 => ?_) (fun c5 => ?_)
      · have ho := ho.1 c5
        have hq6 := ho
        exact ES _ _ _ _ _ _ _ _ _ _ _ _ _ _ (th_1 X) (by decide) (t31 ((fX10_addType.eq_1 _ _ _ _ _ _).trans ((if_neg c1).trans ((if_neg c3).trans ((if_pos c5).trans rfl))))) (t33 ((fX10_addType.eq_1 _ _ _ _ _ _).trans ((if_neg c1).trans ((if_neg c3).trans ((if_pos c5).trans rfl))))) hH hS t_sr_VernierDrawers_124 hl.1 dX10_addType_40 dX10_addType_43 dX10_addType_44 dX10_addType_46 dX10_addType_49 (Nat.le_of_ble_eq_true rfl) (c16 hq6) hq6
      · have ho := ho.2 c5
        refine lv_iload hx hb dX10_addType_32 (lv_at hl 4 rfl) ?_
        refine k_X10_isMaterial X hS  t_ml_VernierDrawers_120 hl.1 (Nat.le_of_ble_eq_true rfl) ⟨Nat.le_of_ble_eq_true rfl, Nat.le_of_ble_eq_true rfl⟩ ⟨Nat.zero_le _, Nat.zero_le _⟩ dX10_addType_34 ?_
        refine lv_if_ne (tgt := 50) hx hb dX10_addType_37 (by decide) (fun c7 => ?_) (fun c7 => ?_)
        · have ho := ho.2 c7
          refine lv_aload_n hx hb dX10_addType_50 rfl (lv_at hl 0 rfl) ?_
          refine g_VernierDrawers_10 X hH hk_r dX10_addType_51 ?_
          have hq8 := ho.1
          have ho := ho.2
          refine g_VernierDrawers_126 X hH hq8 dX10_addType_54 ?_
          refine g_VernierDrawers_130 X hH (kc_7_0 hq8) dX10_addType_57 ?_
          refine lv_iconst (v := 5) hx hb dX10_addType_60 (by decide) ?_
          refine lv_icmp_lt (tgt := 74) hx hb dX10_addType_61 (by decide) (fun c9 => ?_) (fun c9 => ?_)
          · have ho := ho.1 c9
            refine lv_aload_n hx hb dX10_addType_74 rfl (lv_at hl 0 rfl) ?_
            have hq10 := ho.1
            have ho := ho.2
            have hq11 := ho.1
            have ho := ho.2
            refine k_X10_recordState X hS hH hk_r hq10 t_ml_VernierDrawers_71 hl.1 (Nat.le_of_ble_eq_true rfl) ⟨Nat.le_of_ble_eq_true rfl, Nat.le_of_ble_eq_true rfl⟩ ⟨hq11, hq11⟩ dX10_addType_75 (fun da H locs v12 ev12 hH hS => ?_)
            have ho := ho v12 ev12
            refine lv_aload_n hx hb dX10_addType_78 rfl (lv_at hl 0 rfl) ?_
            refine g_VernierDrawers_10 X hH hk_r dX10_addType_79 ?_
            have hq13 := ho.1
            have ho := ho.2
            refine g_VernierDrawers_126 X hH hq13 dX10_addType_82 ?_
            refine lv_iload_n hx hb dX10_addType_85 rfl (lv_at hl 1 rfl) ?_
            refine lv_iload_n hx hb dX10_addType_86 rfl (lv_at hl 2 rfl) ?_
            refine lv_iload_n hx hb dX10_addType_87 rfl (lv_at hl 3 rfl) ?_
            refine lv_iload hx hb dX10_addType_88 (lv_at hl 4 rfl) ?_
            have hq14 := ho
            refine k_X0_putType X hS hH (kc_7_0 hq13) hq14 t_ml_VernierDrawers_137 hl.1 (Nat.le_of_ble_eq_true rfl) ⟨Nat.le_of_ble_eq_true rfl, Nat.le_of_ble_eq_true rfl⟩ ⟨hq11, hq11⟩ dX10_addType_90 (fun da H locs v15 ev15 hH hS => ?_)
            replace ev12 := Eq.symm ev12
            replace ev15 := Eq.symm ev15
            subst ev12 ev15
            exact E _ _ _ _ _ _ _ _ _ dX10_addType_93 rfl (Eq.symm (t31 ((fX10_addType.eq_1 _ _ _ _ _ _).trans ((if_neg c1).trans ((if_neg c3).trans ((if_neg c5).trans ((if_neg c7).trans ((if_pos c9).trans rfl)))))))) (t32 ((fX10_addType.eq_1 _ _ _ _ _ _).trans ((if_neg c1).trans ((if_neg c3).trans ((if_neg c5).trans ((if_neg c7).trans ((if_pos c9).trans rfl))))))) (t33 ((fX10_addType.eq_1 _ _ _ _ _ _).trans ((if_neg c1).trans ((if_neg c3).trans ((if_neg c5).trans ((if_neg c7).trans ((if_pos c9).trans rfl))))))) hH hS hq11 hq11
          · have ho := ho.2 c9
            have hq16 := ho
            exact ES _ _ _ _ _ _ _ _ _ _ _ _ _ _ (th_2 X) (by decide) (t31 ((fX10_addType.eq_1 _ _ _ _ _ _).trans ((if_neg c1).trans ((if_neg c3).trans ((if_neg c5).trans ((if_neg c7).trans ((if_neg c9).trans rfl))))))) (t33 ((fX10_addType.eq_1 _ _ _ _ _ _).trans ((if_neg c1).trans ((if_neg c3).trans ((if_neg c5).trans ((if_neg c7).trans ((if_neg c9).trans rfl))))))) hH hS t_sr_VernierDrawers_135 hl.1 dX10_addType_64 dX10_addType_67 dX10_addType_68 dX10_addType_70 dX10_addType_73 (Nat.le_of_ble_eq_true rfl) (c16 hq16) hq16
        · have ho := ho.1 c7
          have hq17 := ho
          exact ES _ _ _ _ _ _ _ _ _ _ _ _ _ _ (th_1 X) (by decide) (t31 ((fX10_addType.eq_1 _ _ _ _ _ _).trans ((if_neg c1).trans ((if_neg c3).trans ((if_neg c5).trans ((if_pos c7).trans rfl)))))) (t33 ((fX10_addType.eq_1 _ _ _ _ _ _).trans ((if_neg c1).trans ((if_neg c3).trans ((if_neg c5).trans ((if_pos c7).trans rfl)))))) hH hS t_sr_VernierDrawers_124 hl.1 dX10_addType_40 dX10_addType_43 dX10_addType_44 dX10_addType_46 dX10_addType_49 (Nat.le_of_ble_eq_true rfl) (c16 hq17) hq17
theorem k_X10_addType {p : Program} {l : Launch} {e : Env} {R : Room} {s : State} {m : MethodId} {args : Array Value} {below : List Frame} {meth : Method} {c : Code} {H : Heap} {locs : List Loc} {cells slots : Nat} {Q : State → Prop} {cc : ByteArray} {pc nL : Nat} {ls : Array Slot} {rest : List Value} {G : gG} {own : String} {da : Nat → Nat} {v : vSt} {x : gX} (hst : l.stackTraces = false) (X : CX G p s m args c cc nL own) (hS : va_S (gA G) s.heap H locs) (hH : Hp G da v x H) {r : Nat} (hk_r : kd r = 10) {p1 : Int32} {p2 : Int32} {p3 : Int32} {p4 : Int32} (ho : oX10_addType r p1 p2 p3 p4 v) {idx : Nat} (hml : Cond.methodLink own idx yX10_addType ∈ TT) (hls : ls.size = nL) (hsum : (rest.map fun v => v.category).sum ≤ 8) (hR : (rmX10_addType r p1 p2 p3 p4 v).frames + 1 ≤ R.frames ∧ 8 + (5 + 11) + (rmX10_addType r p1 p2 p3 p4 v).locals ≤ R.locals) (hcs : cells + (kkX10_addType r p1 p2 p3 p4 v) ≤ R.cells ∧ slots + (kkX10_addType r p1 p2 p3 p4 v) ≤ R.slots) (hdg : decode cc pc = .ok (.invokevirtual idx, 3)) (kx : ¬ (fX10_addType r p1 p2 p3 p4 v).1 = 0 → ∀ (d : Nat → Nat) (ce : Cell) (q9 : Addr) (H1 : Heap) (locs1 : List Loc) (v1 : vSt), v1 = (fX10_addType r p1 p2 p3 p4 v).2.2 → Hp G d v1 x H1 → va_S (gA G) s.heap H1 locs1 → H1[q9]? = some ce → ce.vm = .none → s.vm.findClass (exN (fX10_addType r p1 p2 p3 p4 v).1) = some ce.cls → vx_W p l e R s m args below meth c H1 locs1 (cells + (kkX10_addType r p1 p2 p3 p4 v)) (slots + (kkX10_addType r p1 p2 p3 p4 v)) Q (F0 m pc ls rest) q9) (kk : (fX10_addType r p1 p2 p3 p4 v).1 = 0 → ∀ (d : Nat → Nat) (H1 : Heap) (locs1 : List Loc) (v1 : vSt), v1 = (fX10_addType r p1 p2 p3 p4 v).2.2 → Hp G d v1 x H1 → va_S (gA G) s.heap H1 locs1 → W p l e R s m args below meth c H1 locs1 (cells + (kkX10_addType r p1 p2 p3 p4 v)) (slots + (kkX10_addType r p1 p2 p3 p4 v)) Q (F0 m (pc + 3) ls (.int (fX10_addType r p1 p2 p3 p4 v).2.1 :: rest))) : W p l e R s m args below meth c H locs cells slots Q (F0 m pc ls (.int p4 :: .int p3 :: .int p2 :: .int p1 :: .ref (ga G r) :: rest)) := c_ti (runxV (kp := 4) X.1 X.2.1 X.2.2.1 X.2.2.2.1 X.2.2.2.2.1 (mX10_addType l hst G da v x r hk_r p1 p2 p3 p4 ho) pW_bl hml t_im_X10_addType t_sel_X10_addType t_ini_VernierDrawers t_code_X10_addType ⟨rfl, by decide, by decide, by decide +kernel⟩ rfl rfl hR hcs (recvW X hH (by rw [hk_r]; decide) (by rw [hk_r]; decide) (ce_10 hk_r) rfl) (preW X hS hH) rfl hls rfl hsum hdg) hS kx kk
