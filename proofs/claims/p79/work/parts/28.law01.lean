/-! the law's methods: what catches -/
def fL_setTolerance (o1 : Nat) (p1 : Int32) (v : vSt) : Int32 × vSt := if (fX10_setTolerance o1 p1 v).1 = 0 then (let v4 : vSt := (fX10_setTolerance o1 p1 v).2.2; ((fX10_setTolerance o1 p1 v).2.1, gM v4 (fX11_setTolerance 461 p1 v4).2)) else (let v4 : vSt := (fX10_setTolerance o1 p1 v).2.2; ((-100102), gM v4 (fX11_setTolerance 461 p1 v4).2))
def kkL_setTolerance (o1 : Nat) (p1 : Int32) (v : vSt) : Nat := pot ((fL_setTolerance o1 p1 v).2) - pot v + 36
def oL_setTolerance (o1 : Nat) (p1 : Int32) (v : vSt) : Prop := (oX10_setTolerance o1 p1 v) ∧ ((0 + kkX10_setTolerance o1 p1 v ≤ kkL_setTolerance o1 p1 v) ∧ (¬ ((fX10_setTolerance o1 p1 v).1 = 0) → (∀ v4 : vSt, v4 = ((fX10_setTolerance o1 p1 v).2.2) → ((fX10_setTolerance o1 p1 v).1 = 1))))
abbrev rmL_setTolerance (o1 : Nat) (p1 : Int32) (v : vSt) : Room := { frames := 8, cells := kkL_setTolerance o1 p1 v, slots := kkL_setTolerance o1 p1 v, locals := 218 }
theorem dL_setTolerance_0 : decode cL_setTolerance 0 = .ok (.aload_n 0, 1) := by decide +kernel
theorem dL_setTolerance_1 : decode cL_setTolerance 1 = .ok (.iload_n 1, 1) := by decide +kernel
theorem dL_setTolerance_2 : decode cL_setTolerance 2 = .ok (.invokevirtual 58, 3) := by decide +kernel
theorem dL_setTolerance_5 : decode cL_setTolerance 5 = .ok (.ireturn, 1) := by decide +kernel
theorem dL_setTolerance_6 : decode cL_setTolerance 6 = .ok (.astore_n 2, 1) := by decide +kernel
theorem dL_setTolerance_7 : decode cL_setTolerance 7 = .ok (.ldc 17, 2) := by decide +kernel
theorem dL_setTolerance_9 : decode cL_setTolerance 9 = .ok (.ireturn, 1) := by decide +kernel
set_option maxHeartbeats 8000000 in
set_option maxRecDepth 100000 in
theorem mL_setTolerance (l : Launch) (hst : l.stackTraces = false) (G : gG) (da : Nat → Nat) (v : vSt) (x : gX) (o1 : Nat) (hk_o1 : kd o1 = 10) (p1 : Int32) (ho : oL_setTolerance o1 p1 v) : LI l yL_setTolerance cL_setTolerance 3 [((0 : Nat), (5 : Nat), (6 : Nat), (15 : Nat))] (rmL_setTolerance o1 p1 v) [.ref (ga G o1), .int p1] G da v x (kkL_setTolerance o1 p1 v) (kkL_setTolerance o1 p1 v) (fL_setTolerance o1 p1 v).1 (fL_setTolerance o1 p1 v).2 x := by
  refine gofL (by decide) rfl (Nat.le_of_ble_eq_true rfl) (fun p e s m args below meth c ls Q X hN htab hH hl E => ?_)
  have hx := X.1
  have hb := X.2.1
  have hown := X.2.2.2.1
  have hts := X.2.2.2.2.1
  have hS : va_S (gA G) s.heap s.heap [] := va_S.rf
  unfold oL_setTolerance at ho
  have hl : lv_has ls 3 [(0, .ref (ga G o1)), (1, .int p1)] := hl
  refine lv_aload_n hx hb dL_setTolerance_0 rfl (lv_at hl 0 rfl) ?_
  refine lv_iload_n hx hb dL_setTolerance_1 rfl (lv_at hl 1 rfl) ?_
  have hq1 := ho.1
  have ho := ho.2
  have hq2 := ho.1
  have ho := ho.2
  refine k_X10_setTolerance hst X hS hH hk_o1 hq1 t_ml_VernierDrawersLaw_58 hl.1 (Nat.le_of_ble_eq_true rfl) ⟨Nat.le_of_ble_eq_true rfl, Nat.le_of_ble_eq_true rfl⟩ ⟨hq2, hq2⟩ dL_setTolerance_2 (fun c3 da ce9 q9 H locs v4 ev4 hH hS g1 g2 g3 => ?_) (fun c3 da H locs v4 ev4 hH hS => ?_)
  · have ho := ho c3
    have ho := ho v4 ev4
    have hq5 := ho
    refine t_c1 (k := 1) X htab rfl g1 g2 (hq5 ▸ g3) ?_
    refine lv_astore_n (lv' := [(2, .ref q9), (0, .ref (ga G o1)), (1, .int p1)]) hx hb dL_setTolerance_6 rfl hl (by decide) rfl (fun ls hl => ?_)
    refine lv_ldc (v := (-100102)) hx hb hown (hts _ t_con_VernierDrawersLaw_17) dL_setTolerance_7 ?_
    have hHz := hH
    have hSz := hS
    replace ev4 := Eq.symm ev4
    subst ev4
    exact E _ _ _ _ _ _ _ _ _ _ dL_setTolerance_9 (pr1 ((fL_setTolerance.eq_1 _ _ _).trans ((if_neg c3).trans rfl))) (pr2 ((fL_setTolerance.eq_1 _ _ _).trans ((if_neg c3).trans rfl))) rfl (hHz.gh (fun r hr => gM_lo hr)) hSz hq2 hq2
  · skip
    have hHz := hH
    have hSz := hS
    replace ev4 := Eq.symm ev4
    subst ev4
    exact E _ _ _ _ _ _ _ _ _ _ dL_setTolerance_5 (pr1 ((fL_setTolerance.eq_1 _ _ _).trans ((if_pos c3).trans rfl))) (pr2 ((fL_setTolerance.eq_1 _ _ _).trans ((if_pos c3).trans rfl))) rfl (hHz.gh (fun r hr => gM_lo hr)) hSz hq2 hq2
theorem k_L_setTolerance {p : Program} {l : Launch} {e : Env} {R : Room} {s : State} {m : MethodId} {args : Array Value} {below : List Frame} {meth : Method} {c : Code} {H : Heap} {locs : List Loc} {cells slots : Nat} {Q : State → Prop} {cc : ByteArray} {pc nL : Nat} {ls : Array Slot} {rest : List Value} {G : gG} {own : String} {da : Nat → Nat} {v : vSt} {x : gX} (hst : l.stackTraces = false) (X : CX G p s m args c cc nL own) (hS : va_S (gA G) s.heap H locs) (hN : NC s) (hH : Hp G da v x H) {o1 : Nat} (hk_o1 : kd o1 = 10) {p1 : Int32} (ho : oL_setTolerance o1 p1 v) {idx : Nat} (hml : Cond.methodLink own idx yL_setTolerance ∈ TT) (hls : ls.size = nL) (hsum : (rest.map fun v => v.category).sum ≤ 8) (hR : (rmL_setTolerance o1 p1 v).frames + 1 ≤ R.frames ∧ 8 + (3 + 11) + (rmL_setTolerance o1 p1 v).locals ≤ R.locals) (hcs : cells + (kkL_setTolerance o1 p1 v) ≤ R.cells ∧ slots + (kkL_setTolerance o1 p1 v) ≤ R.slots) (hdg : decode cc pc = .ok (.invokestatic idx, 3)) (kk : ∀ (d : Nat → Nat) (H1 : Heap) (locs1 : List Loc) (v1 : vSt), v1 = (fL_setTolerance o1 p1 v).2 → Hp G d v1 x H1 → va_S (gA G) s.heap H1 locs1 → W p l e R s m args below meth c H1 locs1 (cells + (kkL_setTolerance o1 p1 v)) (slots + (kkL_setTolerance o1 p1 v)) Q (F0 m (pc + 3) ls (.int (fL_setTolerance o1 p1 v).1 :: rest))) : W p l e R s m args below meth c H locs cells slots Q (F0 m pc ls (.int p1 :: .ref (ga G o1) :: rest)) := c_li (runLS (kp := 2) X.1 X.2.1 X.2.2.1 X.2.2.2.1 X.2.2.2.2.1 (mL_setTolerance l hst G da v x o1 hk_o1 p1 ho) pN_bl hml t_st_L_setTolerance t_ini_VernierDrawersLaw t_code_L_setTolerance ⟨by decide, by decide, by decide +kernel⟩ rfl rfl hR hcs (preN X hN hS hH) rfl hls rfl hsum hdg) hS (fun d9 H9 L9 hH9 => kk d9 H9 L9 _ rfl hH9)
def fL_isDue (o1 : Nat) (p1 : Int32) (v : vSt) : Int32 := if (fX10_isDue o1 p1 v).1 = 0 then (if (((fX10_isDue o1 p1 v).2) : Int32) = 0 then 0 else 1) else ((-100102))
def oL_isDue (o1 : Nat) (p1 : Int32) (v : vSt) : Prop := (oX10_isDue o1 p1 v) ∧ (¬ ((fX10_isDue o1 p1 v).1 = 0) → ((fX10_isDue o1 p1 v).1 = 1))
abbrev rmL_isDue : Room := { frames := 8, cells := 6, slots := 6, locals := 132 }
theorem dL_isDue_0 : decode cL_isDue 0 = .ok (.iconst 0, 1) := by decide +kernel
theorem dL_isDue_1 : decode cL_isDue 1 = .ok (.istore_n 2, 1) := by decide +kernel
theorem dL_isDue_2 : decode cL_isDue 2 = .ok (.aload_n 0, 1) := by decide +kernel
theorem dL_isDue_3 : decode cL_isDue 3 = .ok (.iload_n 1, 1) := by decide +kernel
theorem dL_isDue_4 : decode cL_isDue 4 = .ok (.invokevirtual 61, 3) := by decide +kernel
theorem dL_isDue_7 : decode cL_isDue 7 = .ok (.istore_n 2, 1) := by decide +kernel
theorem dL_isDue_8 : decode cL_isDue 8 = .ok (.goto 7, 3) := by decide +kernel
theorem dL_isDue_11 : decode cL_isDue 11 = .ok (.astore_n 3, 1) := by decide +kernel
theorem dL_isDue_12 : decode cL_isDue 12 = .ok (.ldc 17, 2) := by decide +kernel
theorem dL_isDue_14 : decode cL_isDue 14 = .ok (.ireturn, 1) := by decide +kernel
theorem dL_isDue_15 : decode cL_isDue 15 = .ok (.iload_n 2, 1) := by decide +kernel
theorem dL_isDue_16 : decode cL_isDue 16 = .ok (.ifCond .eq 7, 3) := by decide +kernel
theorem dL_isDue_19 : decode cL_isDue 19 = .ok (.iconst 1, 1) := by decide +kernel
theorem dL_isDue_20 : decode cL_isDue 20 = .ok (.goto 4, 3) := by decide +kernel
theorem dL_isDue_23 : decode cL_isDue 23 = .ok (.iconst 0, 1) := by decide +kernel
theorem dL_isDue_24 : decode cL_isDue 24 = .ok (.ireturn, 1) := by decide +kernel
set_option maxHeartbeats 8000000 in
set_option maxRecDepth 100000 in
theorem mL_isDue (l : Launch) (hst : l.stackTraces = false) (G : gG) (da : Nat → Nat) (v : vSt) (x : gX) (o1 : Nat) (hk_o1 : kd o1 = 10) (p1 : Int32) (ho : oL_isDue o1 p1 v) : LI l yL_isDue cL_isDue 4 [((2 : Nat), (8 : Nat), (11 : Nat), (15 : Nat))] rmL_isDue [.ref (ga G o1), .int p1] G da v x 6 6 (fL_isDue o1 p1 v) v x := by
  refine gofL (by decide) rfl (Nat.le_of_ble_eq_true rfl) (fun p e s m args below meth c ls Q X hN htab hH hl E => ?_)
  have hx := X.1
  have hb := X.2.1
  have hown := X.2.2.2.1
  have hts := X.2.2.2.2.1
  have hS : va_S (gA G) s.heap s.heap [] := va_S.rf
  unfold oL_isDue at ho
  have hl : lv_has ls 4 [(0, .ref (ga G o1)), (1, .int p1)] := hl
  refine lv_iconst (v := 0) hx hb dL_isDue_0 (by decide) ?_
  refine lv_istore_n (lv' := [(2, .int 0), (0, .ref (ga G o1)), (1, .int p1)]) hx hb dL_isDue_1 rfl hl (by decide) rfl (fun ls hl => ?_)
  refine lv_aload_n hx hb dL_isDue_2 rfl (lv_at hl 1 rfl) ?_
  refine lv_iload_n hx hb dL_isDue_3 rfl (lv_at hl 2 rfl) ?_
  have hq1 := ho.1
  have ho := ho.2
  refine k_X10_isDue hst X hS hH hk_o1 hq1 t_ml_VernierDrawersLaw_61 hl.1 (Nat.le_of_ble_eq_true rfl) ⟨Nat.le_of_ble_eq_true rfl, Nat.le_of_ble_eq_true rfl⟩ ⟨(Nat.le_of_ble_eq_true rfl), (Nat.le_of_ble_eq_true rfl)⟩ dL_isDue_4 (fun c2 da ce9 q9 H locs hH hS g1 g2 g3 => ?_) (fun c2 da H locs hH hS => ?_)
  · have ho := ho c2
    have hq3 := ho
    refine t_c1 (k := 1) X htab rfl g1 g2 (hq3 ▸ g3) ?_
    refine lv_astore_n (lv' := [(3, .ref q9), (2, .int 0), (0, .ref (ga G o1)), (1, .int p1)]) hx hb dL_isDue_11 rfl hl (by decide) rfl (fun ls hl => ?_)
    refine lv_ldc (v := (-100102)) hx hb hown (hts _ t_con_VernierDrawersLaw_17) dL_isDue_12 ?_
    exact E _ _ _ _ _ _ _ _ _ _ dL_isDue_14 (Eq.symm ((fL_isDue.eq_1 _ _ _).trans ((if_neg c2).trans rfl))) rfl rfl hH hS (Nat.le_of_ble_eq_true rfl) (Nat.le_of_ble_eq_true rfl)
  · skip
    refine lv_istore_n (lv' := [(2, .int ((fX10_isDue o1 p1 v).2)), (0, .ref (ga G o1)), (1, .int p1)]) hx hb dL_isDue_7 rfl hl (by decide) rfl (fun ls hl => ?_)
    refine lv_goto (tgt := 15) hx hb dL_isDue_8 (by decide) ?_
    refine lv_iload_n hx hb dL_isDue_15 rfl (lv_at hl 0 rfl) ?_
    refine lv_if_eq (tgt := 23) hx hb dL_isDue_16 (by decide) (fun c4 => ?_) (fun c4 => ?_)
    · skip
      refine lv_iconst (v := 0) hx hb dL_isDue_23 (by decide) ?_
      exact E _ _ _ _ _ _ _ _ _ _ dL_isDue_24 (Eq.symm ((fL_isDue.eq_1 _ _ _).trans ((if_pos c2).trans ((if_pos c4).trans rfl)))) rfl rfl hH hS (Nat.le_of_ble_eq_true rfl) (Nat.le_of_ble_eq_true rfl)
    · skip
      refine lv_iconst (v := 1) hx hb dL_isDue_19 (by decide) ?_
      refine lv_goto (tgt := 24) hx hb dL_isDue_20 (by decide) ?_
      exact E _ _ _ _ _ _ _ _ _ _ dL_isDue_24 (Eq.symm ((fL_isDue.eq_1 _ _ _).trans ((if_pos c2).trans ((if_neg c4).trans rfl)))) rfl rfl hH hS (Nat.le_of_ble_eq_true rfl) (Nat.le_of_ble_eq_true rfl)
theorem k_L_isDue {p : Program} {l : Launch} {e : Env} {R : Room} {s : State} {m : MethodId} {args : Array Value} {below : List Frame} {meth : Method} {c : Code} {H : Heap} {locs : List Loc} {cells slots : Nat} {Q : State → Prop} {cc : ByteArray} {pc nL : Nat} {ls : Array Slot} {rest : List Value} {G : gG} {own : String} {da : Nat → Nat} {v : vSt} {x : gX} (hst : l.stackTraces = false) (X : CX G p s m args c cc nL own) (hS : va_S (gA G) s.heap H locs) (hN : NC s) (hH : Hp G da v x H) {o1 : Nat} (hk_o1 : kd o1 = 10) {p1 : Int32} (ho : oL_isDue o1 p1 v) {idx : Nat} (hml : Cond.methodLink own idx yL_isDue ∈ TT) (hls : ls.size = nL) (hsum : (rest.map fun v => v.category).sum ≤ 8) (hR : rmL_isDue.frames + 1 ≤ R.frames ∧ 8 + (4 + 11) + rmL_isDue.locals ≤ R.locals) (hcs : cells + 6 ≤ R.cells ∧ slots + 6 ≤ R.slots) (hdg : decode cc pc = .ok (.invokestatic idx, 3)) (kk : ∀ (d : Nat → Nat) (H1 : Heap) (locs1 : List Loc), Hp G d v x H1 → va_S (gA G) s.heap H1 locs1 → W p l e R s m args below meth c H1 locs1 (cells + 6) (slots + 6) Q (F0 m (pc + 3) ls (.int (fL_isDue o1 p1 v) :: rest))) : W p l e R s m args below meth c H locs cells slots Q (F0 m pc ls (.int p1 :: .ref (ga G o1) :: rest)) := c_li (runLS (kp := 2) X.1 X.2.1 X.2.2.1 X.2.2.2.1 X.2.2.2.2.1 (mL_isDue l hst G da v x o1 hk_o1 p1 ho) pN_bl hml t_st_L_isDue t_ini_VernierDrawersLaw t_code_L_isDue ⟨by decide, by decide, by decide +kernel⟩ rfl rfl hR hcs (preN X hN hS hH) rfl hls rfl hsum hdg) hS kk
def fL_stretchOf (o1 : Nat) (p1 : Int32) (p2 : Int32) (v : vSt) : Int32 := if (fX10_stretchOf o1 p1 p2 v).1 = 0 then ((fX10_stretchOf o1 p1 p2 v).2) else ((-100102))
def oL_stretchOf (o1 : Nat) (p1 : Int32) (p2 : Int32) (v : vSt) : Prop := (oX10_stretchOf o1 p1 p2 v) ∧ (¬ ((fX10_stretchOf o1 p1 p2 v).1 = 0) → ((fX10_stretchOf o1 p1 p2 v).1 = 1))
abbrev rmL_stretchOf : Room := { frames := 7, cells := 6, slots := 6, locals := 112 }
theorem dL_stretchOf_0 : decode cL_stretchOf 0 = .ok (.aload_n 0, 1) := by decide +kernel
theorem dL_stretchOf_1 : decode cL_stretchOf 1 = .ok (.iload_n 1, 1) := by decide +kernel
theorem dL_stretchOf_2 : decode cL_stretchOf 2 = .ok (.iload_n 2, 1) := by decide +kernel
theorem dL_stretchOf_3 : decode cL_stretchOf 3 = .ok (.invokevirtual 65, 3) := by decide +kernel
theorem dL_stretchOf_6 : decode cL_stretchOf 6 = .ok (.ireturn, 1) := by decide +kernel
theorem dL_stretchOf_7 : decode cL_stretchOf 7 = .ok (.astore_n 3, 1) := by decide +kernel
theorem dL_stretchOf_8 : decode cL_stretchOf 8 = .ok (.ldc 17, 2) := by decide +kernel
theorem dL_stretchOf_10 : decode cL_stretchOf 10 = .ok (.ireturn, 1) := by decide +kernel
set_option maxHeartbeats 8000000 in
set_option maxRecDepth 100000 in
theorem mL_stretchOf (l : Launch) (hst : l.stackTraces = false) (G : gG) (da : Nat → Nat) (v : vSt) (x : gX) (o1 : Nat) (hk_o1 : kd o1 = 10) (p1 : Int32) (p2 : Int32) (ho : oL_stretchOf o1 p1 p2 v) : LI l yL_stretchOf cL_stretchOf 4 [((0 : Nat), (6 : Nat), (7 : Nat), (15 : Nat))] rmL_stretchOf [.ref (ga G o1), .int p1, .int p2] G da v x 6 6 (fL_stretchOf o1 p1 p2 v) v x := by
  refine gofL (by decide) rfl (Nat.le_of_ble_eq_true rfl) (fun p e s m args below meth c ls Q X hN htab hH hl E => ?_)
  have hx := X.1
  have hb := X.2.1
  have hown := X.2.2.2.1
  have hts := X.2.2.2.2.1
  have hS : va_S (gA G) s.heap s.heap [] := va_S.rf
  unfold oL_stretchOf at ho
  have hl : lv_has ls 4 [(0, .ref (ga G o1)), (1, .int p1), (2, .int p2)] := hl
  refine lv_aload_n hx hb dL_stretchOf_0 rfl (lv_at hl 0 rfl) ?_
  refine lv_iload_n hx hb dL_stretchOf_1 rfl (lv_at hl 1 rfl) ?_
  refine lv_iload_n hx hb dL_stretchOf_2 rfl (lv_at hl 2 rfl) ?_
  have hq1 := ho.1
  have ho := ho.2
  refine k_X10_stretchOf hst X hS hH hk_o1 hq1 t_ml_VernierDrawersLaw_65 hl.1 (Nat.le_of_ble_eq_true rfl) ⟨Nat.le_of_ble_eq_true rfl, Nat.le_of_ble_eq_true rfl⟩ ⟨(Nat.le_of_ble_eq_true rfl), (Nat.le_of_ble_eq_true rfl)⟩ dL_stretchOf_3 (fun c2 da ce9 q9 H locs hH hS g1 g2 g3 => ?_) (fun c2 da H locs hH hS => ?_)
  · have ho := ho c2
    have hq3 := ho
    refine t_c1 (k := 1) X htab rfl g1 g2 (hq3 ▸ g3) ?_
    refine lv_astore_n (lv' := [(3, .ref q9), (0, .ref (ga G o1)), (1, .int p1), (2, .int p2)]) hx hb dL_stretchOf_7 rfl hl (by decide) rfl (fun ls hl => ?_)
    refine lv_ldc (v := (-100102)) hx hb hown (hts _ t_con_VernierDrawersLaw_17) dL_stretchOf_8 ?_
    exact E _ _ _ _ _ _ _ _ _ _ dL_stretchOf_10 (Eq.symm ((fL_stretchOf.eq_1 _ _ _ _).trans ((if_neg c2).trans rfl))) rfl rfl hH hS (Nat.le_of_ble_eq_true rfl) (Nat.le_of_ble_eq_true rfl)
  · skip
    exact E _ _ _ _ _ _ _ _ _ _ dL_stretchOf_6 (Eq.symm ((fL_stretchOf.eq_1 _ _ _ _).trans ((if_pos c2).trans rfl))) rfl rfl hH hS (Nat.le_of_ble_eq_true rfl) (Nat.le_of_ble_eq_true rfl)
theorem k_L_stretchOf {p : Program} {l : Launch} {e : Env} {R : Room} {s : State} {m : MethodId} {args : Array Value} {below : List Frame} {meth : Method} {c : Code} {H : Heap} {locs : List Loc} {cells slots : Nat} {Q : State → Prop} {cc : ByteArray} {pc nL : Nat} {ls : Array Slot} {rest : List Value} {G : gG} {own : String} {da : Nat → Nat} {v : vSt} {x : gX} (hst : l.stackTraces = false) (X : CX G p s m args c cc nL own) (hS : va_S (gA G) s.heap H locs) (hN : NC s) (hH : Hp G da v x H) {o1 : Nat} (hk_o1 : kd o1 = 10) {p1 : Int32} {p2 : Int32} (ho : oL_stretchOf o1 p1 p2 v) {idx : Nat} (hml : Cond.methodLink own idx yL_stretchOf ∈ TT) (hls : ls.size = nL) (hsum : (rest.map fun v => v.category).sum ≤ 8) (hR : rmL_stretchOf.frames + 1 ≤ R.frames ∧ 8 + (4 + 11) + rmL_stretchOf.locals ≤ R.locals) (hcs : cells + 6 ≤ R.cells ∧ slots + 6 ≤ R.slots) (hdg : decode cc pc = .ok (.invokestatic idx, 3)) (kk : ∀ (d : Nat → Nat) (H1 : Heap) (locs1 : List Loc), Hp G d v x H1 → va_S (gA G) s.heap H1 locs1 → W p l e R s m args below meth c H1 locs1 (cells + 6) (slots + 6) Q (F0 m (pc + 3) ls (.int (fL_stretchOf o1 p1 p2 v) :: rest))) : W p l e R s m args below meth c H locs cells slots Q (F0 m pc ls (.int p2 :: .int p1 :: .ref (ga G o1) :: rest)) := c_li (runLS (kp := 3) X.1 X.2.1 X.2.2.1 X.2.2.2.1 X.2.2.2.2.1 (mL_stretchOf l hst G da v x o1 hk_o1 p1 p2 ho) pN_bl hml t_st_L_stretchOf t_ini_VernierDrawersLaw t_code_L_stretchOf ⟨by decide, by decide, by decide +kernel⟩ rfl rfl hR hcs (preN X hN hS hH) rfl hls rfl hsum hdg) hS kk
def fL_typeAt (o1 : Nat) (p1 : Int32) (v : vSt) : Int32 := if (fX10_typeAt o1 p1 v).1 = 0 then ((fX10_typeAt o1 p1 v).2) else (if (fX10_typeAt o1 p1 v).1 = 1 then ((-100102)) else ((-100104)))
def oL_typeAt (o1 : Nat) (p1 : Int32) (v : vSt) : Prop := (oX10_typeAt o1 p1 v) ∧ (¬ ((fX10_typeAt o1 p1 v).1 = 0) → (¬ ((fX10_typeAt o1 p1 v).1 = 1) → ((fX10_typeAt o1 p1 v).1 = 3)))
abbrev rmL_typeAt : Room := { frames := 8, cells := 6, slots := 6, locals := 132 }
theorem dL_typeAt_0 : decode cL_typeAt 0 = .ok (.aload_n 0, 1) := by decide +kernel
theorem dL_typeAt_1 : decode cL_typeAt 1 = .ok (.iload_n 1, 1) := by decide +kernel
theorem dL_typeAt_2 : decode cL_typeAt 2 = .ok (.invokevirtual 68, 3) := by decide +kernel
theorem dL_typeAt_5 : decode cL_typeAt 5 = .ok (.ireturn, 1) := by decide +kernel
theorem dL_typeAt_6 : decode cL_typeAt 6 = .ok (.astore_n 2, 1) := by decide +kernel
theorem dL_typeAt_7 : decode cL_typeAt 7 = .ok (.ldc 17, 2) := by decide +kernel
theorem dL_typeAt_9 : decode cL_typeAt 9 = .ok (.ireturn, 1) := by decide +kernel
theorem dL_typeAt_10 : decode cL_typeAt 10 = .ok (.astore_n 2, 1) := by decide +kernel
theorem dL_typeAt_11 : decode cL_typeAt 11 = .ok (.ldc 73, 2) := by decide +kernel
theorem dL_typeAt_13 : decode cL_typeAt 13 = .ok (.ireturn, 1) := by decide +kernel
set_option maxHeartbeats 8000000 in
set_option maxRecDepth 100000 in
theorem mL_typeAt (l : Launch) (hst : l.stackTraces = false) (G : gG) (da : Nat → Nat) (v : vSt) (x : gX) (o1 : Nat) (hk_o1 : kd o1 = 10) (p1 : Int32) (ho : oL_typeAt o1 p1 v) : LI l yL_typeAt cL_typeAt 3 [((0 : Nat), (5 : Nat), (6 : Nat), (15 : Nat)), ((0 : Nat), (5 : Nat), (10 : Nat), (71 : Nat))] rmL_typeAt [.ref (ga G o1), .int p1] G da v x 6 6 (fL_typeAt o1 p1 v) v x := by
  refine gofL (by decide) rfl (Nat.le_of_ble_eq_true rfl) (fun p e s m args below meth c ls Q X hN htab hH hl E => ?_)
  have hx := X.1
  have hb := X.2.1
  have hown := X.2.2.2.1
  have hts := X.2.2.2.2.1
  have hS : va_S (gA G) s.heap s.heap [] := va_S.rf
  unfold oL_typeAt at ho
  have hl : lv_has ls 3 [(0, .ref (ga G o1)), (1, .int p1)] := hl
  refine lv_aload_n hx hb dL_typeAt_0 rfl (lv_at hl 0 rfl) ?_
  refine lv_iload_n hx hb dL_typeAt_1 rfl (lv_at hl 1 rfl) ?_
  have hq1 := ho.1
  have ho := ho.2
  refine k_X10_typeAt hst X hS hH hk_o1 hq1 t_ml_VernierDrawersLaw_68 hl.1 (Nat.le_of_ble_eq_true rfl) ⟨Nat.le_of_ble_eq_true rfl, Nat.le_of_ble_eq_true rfl⟩ ⟨(Nat.le_of_ble_eq_true rfl), (Nat.le_of_ble_eq_true rfl)⟩ dL_typeAt_2 (fun c2 da ce9 q9 H locs hH hS g1 g2 g3 => ?_) (fun c2 da H locs hH hS => ?_)
  · have ho := ho c2
    refine (Decidable.em ((fX10_typeAt o1 p1 v).1 = 1)).elim (fun c3 => ?_) (fun c3 => ?_)
    · skip
      refine t_c1 (k := 1) X htab rfl g1 g2 (c3 ▸ g3) ?_
      refine lv_astore_n (lv' := [(2, .ref q9), (0, .ref (ga G o1)), (1, .int p1)]) hx hb dL_typeAt_6 rfl hl (by decide) rfl (fun ls hl => ?_)
      refine lv_ldc (v := (-100102)) hx hb hown (hts _ t_con_VernierDrawersLaw_17) dL_typeAt_7 ?_
      exact E _ _ _ _ _ _ _ _ _ _ dL_typeAt_9 (Eq.symm ((fL_typeAt.eq_1 _ _ _).trans ((if_neg c2).trans ((if_pos c3).trans rfl)))) rfl rfl hH hS (Nat.le_of_ble_eq_true rfl) (Nat.le_of_ble_eq_true rfl)
    · have ho := ho c3
      have hq4 := ho
      refine t_c2 (k := 3) X hN htab (by decide) rfl g1 g2 (hq4 ▸ g3) ?_
      refine lv_astore_n (lv' := [(2, .ref q9), (0, .ref (ga G o1)), (1, .int p1)]) hx hb dL_typeAt_10 rfl hl (by decide) rfl (fun ls hl => ?_)
      refine lv_ldc (v := (-100104)) hx hb hown (hts _ t_con_VernierDrawersLaw_73) dL_typeAt_11 ?_
      exact E _ _ _ _ _ _ _ _ _ _ dL_typeAt_13 (Eq.symm ((fL_typeAt.eq_1 _ _ _).trans ((if_neg c2).trans ((if_neg c3).trans rfl)))) rfl rfl hH hS (Nat.le_of_ble_eq_true rfl) (Nat.le_of_ble_eq_true rfl)
  · skip
    exact E _ _ _ _ _ _ _ _ _ _ dL_typeAt_5 (Eq.symm ((fL_typeAt.eq_1 _ _ _).trans ((if_pos c2).trans rfl))) rfl rfl hH hS (Nat.le_of_ble_eq_true rfl) (Nat.le_of_ble_eq_true rfl)
theorem k_L_typeAt {p : Program} {l : Launch} {e : Env} {R : Room} {s : State} {m : MethodId} {args : Array Value} {below : List Frame} {meth : Method} {c : Code} {H : Heap} {locs : List Loc} {cells slots : Nat} {Q : State → Prop} {cc : ByteArray} {pc nL : Nat} {ls : Array Slot} {rest : List Value} {G : gG} {own : String} {da : Nat → Nat} {v : vSt} {x : gX} (hst : l.stackTraces = false) (X : CX G p s m args c cc nL own) (hS : va_S (gA G) s.heap H locs) (hN : NC s) (hH : Hp G da v x H) {o1 : Nat} (hk_o1 : kd o1 = 10) {p1 : Int32} (ho : oL_typeAt o1 p1 v) {idx : Nat} (hml : Cond.methodLink own idx yL_typeAt ∈ TT) (hls : ls.size = nL) (hsum : (rest.map fun v => v.category).sum ≤ 8) (hR : rmL_typeAt.frames + 1 ≤ R.frames ∧ 8 + (3 + 11) + rmL_typeAt.locals ≤ R.locals) (hcs : cells + 6 ≤ R.cells ∧ slots + 6 ≤ R.slots) (hdg : decode cc pc = .ok (.invokestatic idx, 3)) (kk : ∀ (d : Nat → Nat) (H1 : Heap) (locs1 : List Loc), Hp G d v x H1 → va_S (gA G) s.heap H1 locs1 → W p l e R s m args below meth c H1 locs1 (cells + 6) (slots + 6) Q (F0 m (pc + 3) ls (.int (fL_typeAt o1 p1 v) :: rest))) : W p l e R s m args below meth c H locs cells slots Q (F0 m pc ls (.int p1 :: .ref (ga G o1) :: rest)) := c_li (runLS (kp := 2) X.1 X.2.1 X.2.2.1 X.2.2.2.1 X.2.2.2.2.1 (mL_typeAt l hst G da v x o1 hk_o1 p1 ho) pN_bl hml t_st_L_typeAt t_ini_VernierDrawersLaw t_code_L_typeAt ⟨by decide, by decide, by decide +kernel⟩ rfl rfl hR hcs (preN X hN hS hH) rfl hls rfl hsum hdg) hS kk
def fL_wasDoubted (o1 : Nat) (p1 : Int32) (v : vSt) : Int32 := if (fX10_wasDoubted o1 p1 v).1 = 0 then (if (((fX10_wasDoubted o1 p1 v).2) : Int32) = 0 then 0 else 1) else (if (fX10_wasDoubted o1 p1 v).1 = 1 then ((-100102)) else ((-100104)))
def oL_wasDoubted (o1 : Nat) (p1 : Int32) (v : vSt) : Prop := (oX10_wasDoubted o1 p1 v) ∧ (¬ ((fX10_wasDoubted o1 p1 v).1 = 0) → (¬ ((fX10_wasDoubted o1 p1 v).1 = 1) → ((fX10_wasDoubted o1 p1 v).1 = 3)))
abbrev rmL_wasDoubted : Room := { frames := 8, cells := 6, slots := 6, locals := 132 }
theorem dL_wasDoubted_0 : decode cL_wasDoubted 0 = .ok (.iconst 0, 1) := by decide +kernel
theorem dL_wasDoubted_1 : decode cL_wasDoubted 1 = .ok (.istore_n 2, 1) := by decide +kernel
theorem dL_wasDoubted_2 : decode cL_wasDoubted 2 = .ok (.aload_n 0, 1) := by decide +kernel
theorem dL_wasDoubted_3 : decode cL_wasDoubted 3 = .ok (.iload_n 1, 1) := by decide +kernel
theorem dL_wasDoubted_4 : decode cL_wasDoubted 4 = .ok (.invokevirtual 74, 3) := by decide +kernel
theorem dL_wasDoubted_7 : decode cL_wasDoubted 7 = .ok (.istore_n 2, 1) := by decide +kernel
theorem dL_wasDoubted_8 : decode cL_wasDoubted 8 = .ok (.goto 11, 3) := by decide +kernel
theorem dL_wasDoubted_11 : decode cL_wasDoubted 11 = .ok (.astore_n 3, 1) := by decide +kernel
theorem dL_wasDoubted_12 : decode cL_wasDoubted 12 = .ok (.ldc 17, 2) := by decide +kernel
theorem dL_wasDoubted_14 : decode cL_wasDoubted 14 = .ok (.ireturn, 1) := by decide +kernel
theorem dL_wasDoubted_15 : decode cL_wasDoubted 15 = .ok (.astore_n 3, 1) := by decide +kernel
theorem dL_wasDoubted_16 : decode cL_wasDoubted 16 = .ok (.ldc 73, 2) := by decide +kernel
theorem dL_wasDoubted_18 : decode cL_wasDoubted 18 = .ok (.ireturn, 1) := by decide +kernel
theorem dL_wasDoubted_19 : decode cL_wasDoubted 19 = .ok (.iload_n 2, 1) := by decide +kernel
theorem dL_wasDoubted_20 : decode cL_wasDoubted 20 = .ok (.ifCond .eq 7, 3) := by decide +kernel
theorem dL_wasDoubted_23 : decode cL_wasDoubted 23 = .ok (.iconst 1, 1) := by decide +kernel
theorem dL_wasDoubted_24 : decode cL_wasDoubted 24 = .ok (.goto 4, 3) := by decide +kernel
theorem dL_wasDoubted_27 : decode cL_wasDoubted 27 = .ok (.iconst 0, 1) := by decide +kernel
theorem dL_wasDoubted_28 : decode cL_wasDoubted 28 = .ok (.ireturn, 1) := by decide +kernel
set_option maxHeartbeats 8000000 in
set_option maxRecDepth 100000 in
theorem mL_wasDoubted (l : Launch) (hst : l.stackTraces = false) (G : gG) (da : Nat → Nat) (v : vSt) (x : gX) (o1 : Nat) (hk_o1 : kd o1 = 10) (p1 : Int32) (ho : oL_wasDoubted o1 p1 v) : LI l yL_wasDoubted cL_wasDoubted 4 [((2 : Nat), (8 : Nat), (11 : Nat), (15 : Nat)), ((2 : Nat), (8 : Nat), (15 : Nat), (71 : Nat))] rmL_wasDoubted [.ref (ga G o1), .int p1] G da v x 6 6 (fL_wasDoubted o1 p1 v) v x := by
  refine gofL (by decide) rfl (Nat.le_of_ble_eq_true rfl) (fun p e s m args below meth c ls Q X hN htab hH hl E => ?_)
  have hx := X.1
  have hb := X.2.1
  have hown := X.2.2.2.1
  have hts := X.2.2.2.2.1
  have hS : va_S (gA G) s.heap s.heap [] := va_S.rf
  unfold oL_wasDoubted at ho
  have hl : lv_has ls 4 [(0, .ref (ga G o1)), (1, .int p1)] := hl
  refine lv_iconst (v := 0) hx hb dL_wasDoubted_0 (by decide) ?_
  refine lv_istore_n (lv' := [(2, .int 0), (0, .ref (ga G o1)), (1, .int p1)]) hx hb dL_wasDoubted_1 rfl hl (by decide) rfl (fun ls hl => ?_)
  refine lv_aload_n hx hb dL_wasDoubted_2 rfl (lv_at hl 1 rfl) ?_
  refine lv_iload_n hx hb dL_wasDoubted_3 rfl (lv_at hl 2 rfl) ?_
  have hq1 := ho.1
  have ho := ho.2
  refine k_X10_wasDoubted hst X hS hH hk_o1 hq1 t_ml_VernierDrawersLaw_74 hl.1 (Nat.le_of_ble_eq_true rfl) ⟨Nat.le_of_ble_eq_true rfl, Nat.le_of_ble_eq_true rfl⟩ ⟨(Nat.le_of_ble_eq_true rfl), (Nat.le_of_ble_eq_true rfl)⟩ dL_wasDoubted_4 (fun c2 da ce9 q9 H locs hH hS g1 g2 g3 => ?_) (fun c2 da H locs hH hS => ?_)
  · have ho := ho c2
    refine (Decidable.em ((fX10_wasDoubted o1 p1 v).1 = 1)).elim (fun c3 => ?_) (fun c3 => ?_)
    · skip
      refine t_c1 (k := 1) X htab rfl g1 g2 (c3 ▸ g3) ?_
      refine lv_astore_n (lv' := [(3, .ref q9), (2, .int 0), (0, .ref (ga G o1)), (1, .int p1)]) hx hb dL_wasDoubted_11 rfl hl (by decide) rfl (fun ls hl => ?_)
      refine lv_ldc (v := (-100102)) hx hb hown (hts _ t_con_VernierDrawersLaw_17) dL_wasDoubted_12 ?_
      exact E _ _ _ _ _ _ _ _ _ _ dL_wasDoubted_14 (Eq.symm ((fL_wasDoubted.eq_1 _ _ _).trans ((if_neg c2).trans ((if_pos c3).trans rfl)))) rfl rfl hH hS (Nat.le_of_ble_eq_true rfl) (Nat.le_of_ble_eq_true rfl)
    · have ho := ho c3
      have hq4 := ho
      refine t_c2 (k := 3) X hN htab (by decide) rfl g1 g2 (hq4 ▸ g3) ?_
      refine lv_astore_n (lv' := [(3, .ref q9), (2, .int 0), (0, .ref (ga G o1)), (1, .int p1)]) hx hb dL_wasDoubted_15 rfl hl (by decide) rfl (fun ls hl => ?_)
      refine lv_ldc (v := (-100104)) hx hb hown (hts _ t_con_VernierDrawersLaw_73) dL_wasDoubted_16 ?_
      exact E _ _ _ _ _ _ _ _ _ _ dL_wasDoubted_18 (Eq.symm ((fL_wasDoubted.eq_1 _ _ _).trans ((if_neg c2).trans ((if_neg c3).trans rfl)))) rfl rfl hH hS (Nat.le_of_ble_eq_true rfl) (Nat.le_of_ble_eq_true rfl)
  · skip
    refine lv_istore_n (lv' := [(2, .int ((fX10_wasDoubted o1 p1 v).2)), (0, .ref (ga G o1)), (1, .int p1)]) hx hb dL_wasDoubted_7 rfl hl (by decide) rfl (fun ls hl => ?_)
    refine lv_goto (tgt := 19) hx hb dL_wasDoubted_8 (by decide) ?_
    refine lv_iload_n hx hb dL_wasDoubted_19 rfl (lv_at hl 0 rfl) ?_
    refine lv_if_eq (tgt := 27) hx hb dL_wasDoubted_20 (by decide) (fun c5 => ?_) (fun c5 => ?_)
    · skip
      refine lv_iconst (v := 0) hx hb dL_wasDoubted_27 (by decide) ?_
      exact E _ _ _ _ _ _ _ _ _ _ dL_wasDoubted_28 (Eq.symm ((fL_wasDoubted.eq_1 _ _ _).trans ((if_pos c2).trans ((if_pos c5).trans rfl)))) rfl rfl hH hS (Nat.le_of_ble_eq_true rfl) (Nat.le_of_ble_eq_true rfl)
    · skip
      refine lv_iconst (v := 1) hx hb dL_wasDoubted_23 (by decide) ?_
      refine lv_goto (tgt := 28) hx hb dL_wasDoubted_24 (by decide) ?_
      exact E _ _ _ _ _ _ _ _ _ _ dL_wasDoubted_28 (Eq.symm ((fL_wasDoubted.eq_1 _ _ _).trans ((if_pos c2).trans ((if_neg c5).trans rfl)))) rfl rfl hH hS (Nat.le_of_ble_eq_true rfl) (Nat.le_of_ble_eq_true rfl)
theorem k_L_wasDoubted {p : Program} {l : Launch} {e : Env} {R : Room} {s : State} {m : MethodId} {args : Array Value} {below : List Frame} {meth : Method} {c : Code} {H : Heap} {locs : List Loc} {cells slots : Nat} {Q : State → Prop} {cc : ByteArray} {pc nL : Nat} {ls : Array Slot} {rest : List Value} {G : gG} {own : String} {da : Nat → Nat} {v : vSt} {x : gX} (hst : l.stackTraces = false) (X : CX G p s m args c cc nL own) (hS : va_S (gA G) s.heap H locs) (hN : NC s) (hH : Hp G da v x H) {o1 : Nat} (hk_o1 : kd o1 = 10) {p1 : Int32} (ho : oL_wasDoubted o1 p1 v) {idx : Nat} (hml : Cond.methodLink own idx yL_wasDoubted ∈ TT) (hls : ls.size = nL) (hsum : (rest.map fun v => v.category).sum ≤ 8) (hR : rmL_wasDoubted.frames + 1 ≤ R.frames ∧ 8 + (4 + 11) + rmL_wasDoubted.locals ≤ R.locals) (hcs : cells + 6 ≤ R.cells ∧ slots + 6 ≤ R.slots) (hdg : decode cc pc = .ok (.invokestatic idx, 3)) (kk : ∀ (d : Nat → Nat) (H1 : Heap) (locs1 : List Loc), Hp G d v x H1 → va_S (gA G) s.heap H1 locs1 → W p l e R s m args below meth c H1 locs1 (cells + 6) (slots + 6) Q (F0 m (pc + 3) ls (.int (fL_wasDoubted o1 p1 v) :: rest))) : W p l e R s m args below meth c H locs cells slots Q (F0 m pc ls (.int p1 :: .ref (ga G o1) :: rest)) := c_li (runLS (kp := 2) X.1 X.2.1 X.2.2.1 X.2.2.2.1 X.2.2.2.2.1 (mL_wasDoubted l hst G da v x o1 hk_o1 p1 ho) pN_bl hml t_st_L_wasDoubted t_ini_VernierDrawersLaw t_code_L_wasDoubted ⟨by decide, by decide, by decide +kernel⟩ rfl rfl hR hcs (preN X hN hS hH) rfl hls rfl hsum hdg) hS kk
def fL_whyNotJudge (o1 : Nat) (p1 : Int32) (v : vSt) : Int32 := if (fX10_whyNotJudge o1 p1 v).1 = 0 then ((fX10_whyNotJudge o1 p1 v).2) else ((-100102))
def oL_whyNotJudge (o1 : Nat) (p1 : Int32) (v : vSt) : Prop := (oX10_whyNotJudge o1 p1 v) ∧ (¬ ((fX10_whyNotJudge o1 p1 v).1 = 0) → ((fX10_whyNotJudge o1 p1 v).1 = 1))
abbrev rmL_whyNotJudge : Room := { frames := 8, cells := 6, slots := 6, locals := 132 }
theorem dL_whyNotJudge_0 : decode cL_whyNotJudge 0 = .ok (.aload_n 0, 1) := by decide +kernel
theorem dL_whyNotJudge_1 : decode cL_whyNotJudge 1 = .ok (.iload_n 1, 1) := by decide +kernel
theorem dL_whyNotJudge_2 : decode cL_whyNotJudge 2 = .ok (.invokevirtual 77, 3) := by decide +kernel
theorem dL_whyNotJudge_5 : decode cL_whyNotJudge 5 = .ok (.ireturn, 1) := by decide +kernel
theorem dL_whyNotJudge_6 : decode cL_whyNotJudge 6 = .ok (.astore_n 2, 1) := by decide +kernel
theorem dL_whyNotJudge_7 : decode cL_whyNotJudge 7 = .ok (.ldc 17, 2) := by decide +kernel
theorem dL_whyNotJudge_9 : decode cL_whyNotJudge 9 = .ok (.ireturn, 1) := by decide +kernel
set_option maxHeartbeats 8000000 in
set_option maxRecDepth 100000 in
theorem mL_whyNotJudge (l : Launch) (hst : l.stackTraces = false) (G : gG) (da : Nat → Nat) (v : vSt) (x : gX) (o1 : Nat) (hk_o1 : kd o1 = 10) (p1 : Int32) (ho : oL_whyNotJudge o1 p1 v) : LI l yL_whyNotJudge cL_whyNotJudge 3 [((0 : Nat), (5 : Nat), (6 : Nat), (15 : Nat))] rmL_whyNotJudge [.ref (ga G o1), .int p1] G da v x 6 6 (fL_whyNotJudge o1 p1 v) v x := by
  refine gofL (by decide) rfl (Nat.le_of_ble_eq_true rfl) (fun p e s m args below meth c ls Q X hN htab hH hl E => ?_)
  have hx := X.1
  have hb := X.2.1
  have hown := X.2.2.2.1
  have hts := X.2.2.2.2.1
  have hS : va_S (gA G) s.heap s.heap [] := va_S.rf
  unfold oL_whyNotJudge at ho
  have hl : lv_has ls 3 [(0, .ref (ga G o1)), (1, .int p1)] := hl
  refine lv_aload_n hx hb dL_whyNotJudge_0 rfl (lv_at hl 0 rfl) ?_
  refine lv_iload_n hx hb dL_whyNotJudge_1 rfl (lv_at hl 1 rfl) ?_
  have hq1 := ho.1
  have ho := ho.2
  refine k_X10_whyNotJudge hst X hS hH hk_o1 hq1 t_ml_VernierDrawersLaw_77 hl.1 (Nat.le_of_ble_eq_true rfl) ⟨Nat.le_of_ble_eq_true rfl, Nat.le_of_ble_eq_true rfl⟩ ⟨(Nat.le_of_ble_eq_true rfl), (Nat.le_of_ble_eq_true rfl)⟩ dL_whyNotJudge_2 (fun c2 da ce9 q9 H locs hH hS g1 g2 g3 => ?_) (fun c2 da H locs hH hS => ?_)
  · have ho := ho c2
    have hq3 := ho
    refine t_c1 (k := 1) X htab rfl g1 g2 (hq3 ▸ g3) ?_
    refine lv_astore_n (lv' := [(2, .ref q9), (0, .ref (ga G o1)), (1, .int p1)]) hx hb dL_whyNotJudge_6 rfl hl (by decide) rfl (fun ls hl => ?_)
    refine lv_ldc (v := (-100102)) hx hb hown (hts _ t_con_VernierDrawersLaw_17) dL_whyNotJudge_7 ?_
    exact E _ _ _ _ _ _ _ _ _ _ dL_whyNotJudge_9 (Eq.symm ((fL_whyNotJudge.eq_1 _ _ _).trans ((if_neg c2).trans rfl))) rfl rfl hH hS (Nat.le_of_ble_eq_true rfl) (Nat.le_of_ble_eq_true rfl)
  · skip
    exact E _ _ _ _ _ _ _ _ _ _ dL_whyNotJudge_5 (Eq.symm ((fL_whyNotJudge.eq_1 _ _ _).trans ((if_pos c2).trans rfl))) rfl rfl hH hS (Nat.le_of_ble_eq_true rfl) (Nat.le_of_ble_eq_true rfl)
theorem k_L_whyNotJudge {p : Program} {l : Launch} {e : Env} {R : Room} {s : State} {m : MethodId} {args : Array Value} {below : List Frame} {meth : Method} {c : Code} {H : Heap} {locs : List Loc} {cells slots : Nat} {Q : State → Prop} {cc : ByteArray} {pc nL : Nat} {ls : Array Slot} {rest : List Value} {G : gG} {own : String} {da : Nat → Nat} {v : vSt} {x : gX} (hst : l.stackTraces = false) (X : CX G p s m args c cc nL own) (hS : va_S (gA G) s.heap H locs) (hN : NC s) (hH : Hp G da v x H) {o1 : Nat} (hk_o1 : kd o1 = 10) {p1 : Int32} (ho : oL_whyNotJudge o1 p1 v) {idx : Nat} (hml : Cond.methodLink own idx yL_whyNotJudge ∈ TT) (hls : ls.size = nL) (hsum : (rest.map fun v => v.category).sum ≤ 8) (hR : rmL_whyNotJudge.frames + 1 ≤ R.frames ∧ 8 + (3 + 11) + rmL_whyNotJudge.locals ≤ R.locals) (hcs : cells + 6 ≤ R.cells ∧ slots + 6 ≤ R.slots) (hdg : decode cc pc = .ok (.invokestatic idx, 3)) (kk : ∀ (d : Nat → Nat) (H1 : Heap) (locs1 : List Loc), Hp G d v x H1 → va_S (gA G) s.heap H1 locs1 → W p l e R s m args below meth c H1 locs1 (cells + 6) (slots + 6) Q (F0 m (pc + 3) ls (.int (fL_whyNotJudge o1 p1 v) :: rest))) : W p l e R s m args below meth c H locs cells slots Q (F0 m pc ls (.int p1 :: .ref (ga G o1) :: rest)) := c_li (runLS (kp := 2) X.1 X.2.1 X.2.2.1 X.2.2.2.1 X.2.2.2.2.1 (mL_whyNotJudge l hst G da v x o1 hk_o1 p1 ho) pN_bl hml t_st_L_whyNotJudge t_ini_VernierDrawersLaw t_code_L_whyNotJudge ⟨by decide, by decide, by decide +kernel⟩ rfl rfl hR hcs (preN X hN hS hH) rfl hls rfl hsum hdg) hS kk
def fL_wouldJudge (o1 : Nat) (p1 : Int32) (v : vSt) : Int32 := if (fX10_wouldJudge o1 p1 v).1 = 0 then ((fX10_wouldJudge o1 p1 v).2) else (if (fX10_wouldJudge o1 p1 v).1 = 1 then ((-100102)) else ((-100104)))
def oL_wouldJudge (o1 : Nat) (p1 : Int32) (v : vSt) : Prop := (oX10_wouldJudge o1 p1 v) ∧ (¬ ((fX10_wouldJudge o1 p1 v).1 = 0) → (¬ ((fX10_wouldJudge o1 p1 v).1 = 1) → ((fX10_wouldJudge o1 p1 v).1 = 3)))
abbrev rmL_wouldJudge : Room := { frames := 8, cells := 12, slots := 12, locals := 133 }
theorem dL_wouldJudge_0 : decode cL_wouldJudge 0 = .ok (.aload_n 0, 1) := by decide +kernel
theorem dL_wouldJudge_1 : decode cL_wouldJudge 1 = .ok (.iload_n 1, 1) := by decide +kernel
theorem dL_wouldJudge_2 : decode cL_wouldJudge 2 = .ok (.invokevirtual 80, 3) := by decide +kernel
theorem dL_wouldJudge_5 : decode cL_wouldJudge 5 = .ok (.ireturn, 1) := by decide +kernel
theorem dL_wouldJudge_6 : decode cL_wouldJudge 6 = .ok (.astore_n 2, 1) := by decide +kernel
theorem dL_wouldJudge_7 : decode cL_wouldJudge 7 = .ok (.ldc 17, 2) := by decide +kernel
theorem dL_wouldJudge_9 : decode cL_wouldJudge 9 = .ok (.ireturn, 1) := by decide +kernel
theorem dL_wouldJudge_10 : decode cL_wouldJudge 10 = .ok (.astore_n 2, 1) := by decide +kernel
theorem dL_wouldJudge_11 : decode cL_wouldJudge 11 = .ok (.ldc 73, 2) := by decide +kernel
theorem dL_wouldJudge_13 : decode cL_wouldJudge 13 = .ok (.ireturn, 1) := by decide +kernel
set_option maxHeartbeats 8000000 in
set_option maxRecDepth 100000 in
theorem mL_wouldJudge (l : Launch) (hst : l.stackTraces = false) (G : gG) (da : Nat → Nat) (v : vSt) (x : gX) (o1 : Nat) (hk_o1 : kd o1 = 10) (p1 : Int32) (ho : oL_wouldJudge o1 p1 v) : LI l yL_wouldJudge cL_wouldJudge 3 [((0 : Nat), (5 : Nat), (6 : Nat), (15 : Nat)), ((0 : Nat), (5 : Nat), (10 : Nat), (71 : Nat))] rmL_wouldJudge [.ref (ga G o1), .int p1] G da v x 12 12 (fL_wouldJudge o1 p1 v) v x := by
  refine gofL (by decide) rfl (Nat.le_of_ble_eq_true rfl) (fun p e s m args below meth c ls Q X hN htab hH hl E => ?_)
  have hx := X.1
  have hb := X.2.1
  have hown := X.2.2.2.1
  have hts := X.2.2.2.2.1
  have hS : va_S (gA G) s.heap s.heap [] := va_S.rf
  unfold oL_wouldJudge at ho
  have hl : lv_has ls 3 [(0, .ref (ga G o1)), (1, .int p1)] := hl
  refine lv_aload_n hx hb dL_wouldJudge_0 rfl (lv_at hl 0 rfl) ?_
  refine lv_iload_n hx hb dL_wouldJudge_1 rfl (lv_at hl 1 rfl) ?_
  have hq1 := ho.1
  have ho := ho.2
  refine k_X10_wouldJudge hst X hS hH hk_o1 hq1 t_ml_VernierDrawersLaw_80 hl.1 (Nat.le_of_ble_eq_true rfl) ⟨Nat.le_of_ble_eq_true rfl, Nat.le_of_ble_eq_true rfl⟩ ⟨(Nat.le_of_ble_eq_true rfl), (Nat.le_of_ble_eq_true rfl)⟩ dL_wouldJudge_2 (fun c2 da ce9 q9 H locs hH hS g1 g2 g3 => ?_) (fun c2 da H locs hH hS => ?_)
  · have ho := ho c2
    refine (Decidable.em ((fX10_wouldJudge o1 p1 v).1 = 1)).elim (fun c3 => ?_) (fun c3 => ?_)
    · skip
      refine t_c1 (k := 1) X htab rfl g1 g2 (c3 ▸ g3) ?_
      refine lv_astore_n (lv' := [(2, .ref q9), (0, .ref (ga G o1)), (1, .int p1)]) hx hb dL_wouldJudge_6 rfl hl (by decide) rfl (fun ls hl => ?_)
      refine lv_ldc (v := (-100102)) hx hb hown (hts _ t_con_VernierDrawersLaw_17) dL_wouldJudge_7 ?_
      exact E _ _ _ _ _ _ _ _ _ _ dL_wouldJudge_9 (Eq.symm ((fL_wouldJudge.eq_1 _ _ _).trans ((if_neg c2).trans ((if_pos c3).trans rfl)))) rfl rfl hH hS (Nat.le_of_ble_eq_true rfl) (Nat.le_of_ble_eq_true rfl)
    · have ho := ho c3
      have hq4 := ho
      refine t_c2 (k := 3) X hN htab (by decide) rfl g1 g2 (hq4 ▸ g3) ?_
      refine lv_astore_n (lv' := [(2, .ref q9), (0, .ref (ga G o1)), (1, .int p1)]) hx hb dL_wouldJudge_10 rfl hl (by decide) rfl (fun ls hl => ?_)
      refine lv_ldc (v := (-100104)) hx hb hown (hts _ t_con_VernierDrawersLaw_73) dL_wouldJudge_11 ?_
      exact E _ _ _ _ _ _ _ _ _ _ dL_wouldJudge_13 (Eq.symm ((fL_wouldJudge.eq_1 _ _ _).trans ((if_neg c2).trans ((if_neg c3).trans rfl)))) rfl rfl hH hS (Nat.le_of_ble_eq_true rfl) (Nat.le_of_ble_eq_true rfl)
  · skip
    exact E _ _ _ _ _ _ _ _ _ _ dL_wouldJudge_5 (Eq.symm ((fL_wouldJudge.eq_1 _ _ _).trans ((if_pos c2).trans rfl))) rfl rfl hH hS (Nat.le_of_ble_eq_true rfl) (Nat.le_of_ble_eq_true rfl)
theorem k_L_wouldJudge {p : Program} {l : Launch} {e : Env} {R : Room} {s : State} {m : MethodId} {args : Array Value} {below : List Frame} {meth : Method} {c : Code} {H : Heap} {locs : List Loc} {cells slots : Nat} {Q : State → Prop} {cc : ByteArray} {pc nL : Nat} {ls : Array Slot} {rest : List Value} {G : gG} {own : String} {da : Nat → Nat} {v : vSt} {x : gX} (hst : l.stackTraces = false) (X : CX G p s m args c cc nL own) (hS : va_S (gA G) s.heap H locs) (hN : NC s) (hH : Hp G da v x H) {o1 : Nat} (hk_o1 : kd o1 = 10) {p1 : Int32} (ho : oL_wouldJudge o1 p1 v) {idx : Nat} (hml : Cond.methodLink own idx yL_wouldJudge ∈ TT) (hls : ls.size = nL) (hsum : (rest.map fun v => v.category).sum ≤ 8) (hR : rmL_wouldJudge.frames + 1 ≤ R.frames ∧ 8 + (3 + 11) + rmL_wouldJudge.locals ≤ R.locals) (hcs : cells + 12 ≤ R.cells ∧ slots + 12 ≤ R.slots) (hdg : decode cc pc = .ok (.invokestatic idx, 3)) (kk : ∀ (d : Nat → Nat) (H1 : Heap) (locs1 : List Loc), Hp G d v x H1 → va_S (gA G) s.heap H1 locs1 → W p l e R s m args below meth c H1 locs1 (cells + 12) (slots + 12) Q (F0 m (pc + 3) ls (.int (fL_wouldJudge o1 p1 v) :: rest))) : W p l e R s m args below meth c H locs cells slots Q (F0 m pc ls (.int p1 :: .ref (ga G o1) :: rest)) := c_li (runLS (kp := 2) X.1 X.2.1 X.2.2.1 X.2.2.2.1 X.2.2.2.2.1 (mL_wouldJudge l hst G da v x o1 hk_o1 p1 ho) pN_bl hml t_st_L_wouldJudge t_ini_VernierDrawersLaw t_code_L_wouldJudge ⟨by decide, by decide, by decide +kernel⟩ rfl rfl hR hcs (preN X hN hS hH) rfl hls rfl hsum hdg) hS kk
def fL_bestTool (o1 : Nat) (v : vSt) : Int32 := if (fX10_bestTool o1 v).1 = 0 then ((fX10_bestTool o1 v).2) else ((-100104))
def oL_bestTool (o1 : Nat) (v : vSt) : Prop := (oX10_bestTool o1 v) ∧ (¬ ((fX10_bestTool o1 v).1 = 0) → ((fX10_bestTool o1 v).1 = 3))
abbrev rmL_bestTool : Room := { frames := 7, cells := 6, slots := 6, locals := 139 }
theorem dL_bestTool_0 : decode cL_bestTool 0 = .ok (.aload_n 0, 1) := by decide +kernel
theorem dL_bestTool_1 : decode cL_bestTool 1 = .ok (.invokevirtual 83, 3) := by decide +kernel
theorem dL_bestTool_4 : decode cL_bestTool 4 = .ok (.ireturn, 1) := by decide +kernel
theorem dL_bestTool_5 : decode cL_bestTool 5 = .ok (.astore_n 1, 1) := by decide +kernel
theorem dL_bestTool_6 : decode cL_bestTool 6 = .ok (.ldc 73, 2) := by decide +kernel
theorem dL_bestTool_8 : decode cL_bestTool 8 = .ok (.ireturn, 1) := by decide +kernel
set_option maxHeartbeats 8000000 in
set_option maxRecDepth 100000 in
theorem mL_bestTool (l : Launch) (hst : l.stackTraces = false) (G : gG) (da : Nat → Nat) (v : vSt) (x : gX) (o1 : Nat) (hk_o1 : kd o1 = 10) (ho : oL_bestTool o1 v) : LI l yL_bestTool cL_bestTool 2 [((0 : Nat), (4 : Nat), (5 : Nat), (71 : Nat))] rmL_bestTool [.ref (ga G o1)] G da v x 6 6 (fL_bestTool o1 v) v x := by
  refine gofL (by decide) rfl (Nat.le_of_ble_eq_true rfl) (fun p e s m args below meth c ls Q X hN htab hH hl E => ?_)
  have hx := X.1
  have hb := X.2.1
  have hown := X.2.2.2.1
  have hts := X.2.2.2.2.1
  have hS : va_S (gA G) s.heap s.heap [] := va_S.rf
  unfold oL_bestTool at ho
  have hl : lv_has ls 2 [(0, .ref (ga G o1))] := hl
  refine lv_aload_n hx hb dL_bestTool_0 rfl (lv_at hl 0 rfl) ?_
  have hq1 := ho.1
  have ho := ho.2
  refine k_X10_bestTool hst X hS hH hk_o1 hq1 t_ml_VernierDrawersLaw_83 hl.1 (Nat.le_of_ble_eq_true rfl) ⟨Nat.le_of_ble_eq_true rfl, Nat.le_of_ble_eq_true rfl⟩ ⟨(Nat.le_of_ble_eq_true rfl), (Nat.le_of_ble_eq_true rfl)⟩ dL_bestTool_1 (fun c2 da ce9 q9 H locs hH hS g1 g2 g3 => ?_) (fun c2 da H locs hH hS => ?_)
  · have ho := ho c2
    have hq3 := ho
    refine t_c1 (k := 3) X htab rfl g1 g2 (hq3 ▸ g3) ?_
    refine lv_astore_n (lv' := [(1, .ref q9), (0, .ref (ga G o1))]) hx hb dL_bestTool_5 rfl hl (by decide) rfl (fun ls hl => ?_)
    refine lv_ldc (v := (-100104)) hx hb hown (hts _ t_con_VernierDrawersLaw_73) dL_bestTool_6 ?_
    exact E _ _ _ _ _ _ _ _ _ _ dL_bestTool_8 (Eq.symm ((fL_bestTool.eq_1 _ _).trans ((if_neg c2).trans rfl))) rfl rfl hH hS (Nat.le_of_ble_eq_true rfl) (Nat.le_of_ble_eq_true rfl)
  · skip
    exact E _ _ _ _ _ _ _ _ _ _ dL_bestTool_4 (Eq.symm ((fL_bestTool.eq_1 _ _).trans ((if_pos c2).trans rfl))) rfl rfl hH hS (Nat.le_of_ble_eq_true rfl) (Nat.le_of_ble_eq_true rfl)
theorem k_L_bestTool {p : Program} {l : Launch} {e : Env} {R : Room} {s : State} {m : MethodId} {args : Array Value} {below : List Frame} {meth : Method} {c : Code} {H : Heap} {locs : List Loc} {cells slots : Nat} {Q : State → Prop} {cc : ByteArray} {pc nL : Nat} {ls : Array Slot} {rest : List Value} {G : gG} {own : String} {da : Nat → Nat} {v : vSt} {x : gX} (hst : l.stackTraces = false) (X : CX G p s m args c cc nL own) (hS : va_S (gA G) s.heap H locs) (hN : NC s) (hH : Hp G da v x H) {o1 : Nat} (hk_o1 : kd o1 = 10) (ho : oL_bestTool o1 v) {idx : Nat} (hml : Cond.methodLink own idx yL_bestTool ∈ TT) (hls : ls.size = nL) (hsum : (rest.map fun v => v.category).sum ≤ 8) (hR : rmL_bestTool.frames + 1 ≤ R.frames ∧ 8 + (2 + 11) + rmL_bestTool.locals ≤ R.locals) (hcs : cells + 6 ≤ R.cells ∧ slots + 6 ≤ R.slots) (hdg : decode cc pc = .ok (.invokestatic idx, 3)) (kk : ∀ (d : Nat → Nat) (H1 : Heap) (locs1 : List Loc), Hp G d v x H1 → va_S (gA G) s.heap H1 locs1 → W p l e R s m args below meth c H1 locs1 (cells + 6) (slots + 6) Q (F0 m (pc + 3) ls (.int (fL_bestTool o1 v) :: rest))) : W p l e R s m args below meth c H locs cells slots Q (F0 m pc ls (.ref (ga G o1) :: rest)) := c_li (runLS (kp := 1) X.1 X.2.1 X.2.2.1 X.2.2.2.1 X.2.2.2.2.1 (mL_bestTool l hst G da v x o1 hk_o1 ho) pN_bl hml t_st_L_bestTool t_ini_VernierDrawersLaw t_code_L_bestTool ⟨by decide, by decide, by decide +kernel⟩ rfl rfl hR hcs (preN X hN hS hH) rfl hls rfl hsum hdg) hS kk
def fL_goodUntilChange (o1 : Nat) (p1 : Int32) (v : vSt) : Int32 := if (fX10_goodUntilChange o1 p1 v).1 = 0 then ((fX10_goodUntilChange o1 p1 v).2) else (if (fX10_goodUntilChange o1 p1 v).1 = 1 then ((-100102)) else ((-100104)))
def oL_goodUntilChange (o1 : Nat) (p1 : Int32) (v : vSt) : Prop := (oX10_goodUntilChange o1 p1 v) ∧ (¬ ((fX10_goodUntilChange o1 p1 v).1 = 0) → (¬ ((fX10_goodUntilChange o1 p1 v).1 = 1) → ((fX10_goodUntilChange o1 p1 v).1 = 3)))
abbrev rmL_goodUntilChange : Room := { frames := 8, cells := 12, slots := 12, locals := 134 }
theorem dL_goodUntilChange_0 : decode cL_goodUntilChange 0 = .ok (.aload_n 0, 1) := by decide +kernel
theorem dL_goodUntilChange_1 : decode cL_goodUntilChange 1 = .ok (.iload_n 1, 1) := by decide +kernel
theorem dL_goodUntilChange_2 : decode cL_goodUntilChange 2 = .ok (.invokevirtual 86, 3) := by decide +kernel
theorem dL_goodUntilChange_5 : decode cL_goodUntilChange 5 = .ok (.ireturn, 1) := by decide +kernel
theorem dL_goodUntilChange_6 : decode cL_goodUntilChange 6 = .ok (.astore_n 2, 1) := by decide +kernel
theorem dL_goodUntilChange_7 : decode cL_goodUntilChange 7 = .ok (.ldc 17, 2) := by decide +kernel
theorem dL_goodUntilChange_9 : decode cL_goodUntilChange 9 = .ok (.ireturn, 1) := by decide +kernel
theorem dL_goodUntilChange_10 : decode cL_goodUntilChange 10 = .ok (.astore_n 2, 1) := by decide +kernel
theorem dL_goodUntilChange_11 : decode cL_goodUntilChange 11 = .ok (.ldc 73, 2) := by decide +kernel
theorem dL_goodUntilChange_13 : decode cL_goodUntilChange 13 = .ok (.ireturn, 1) := by decide +kernel
set_option maxHeartbeats 8000000 in
set_option maxRecDepth 100000 in
theorem mL_goodUntilChange (l : Launch) (hst : l.stackTraces = false) (G : gG) (da : Nat → Nat) (v : vSt) (x : gX) (o1 : Nat) (hk_o1 : kd o1 = 10) (p1 : Int32) (ho : oL_goodUntilChange o1 p1 v) : LI l yL_goodUntilChange cL_goodUntilChange 3 [((0 : Nat), (5 : Nat), (6 : Nat), (15 : Nat)), ((0 : Nat), (5 : Nat), (10 : Nat), (71 : Nat))] rmL_goodUntilChange [.ref (ga G o1), .int p1] G da v x 12 12 (fL_goodUntilChange o1 p1 v) v x := by
  refine gofL (by decide) rfl (Nat.le_of_ble_eq_true rfl) (fun p e s m args below meth c ls Q X hN htab hH hl E => ?_)
  have hx := X.1
  have hb := X.2.1
  have hown := X.2.2.2.1
  have hts := X.2.2.2.2.1
  have hS : va_S (gA G) s.heap s.heap [] := va_S.rf
  unfold oL_goodUntilChange at ho
  have hl : lv_has ls 3 [(0, .ref (ga G o1)), (1, .int p1)] := hl
  refine lv_aload_n hx hb dL_goodUntilChange_0 rfl (lv_at hl 0 rfl) ?_
  refine lv_iload_n hx hb dL_goodUntilChange_1 rfl (lv_at hl 1 rfl) ?_
  have hq1 := ho.1
  have ho := ho.2
  refine k_X10_goodUntilChange hst X hS hH hk_o1 hq1 t_ml_VernierDrawersLaw_86 hl.1 (Nat.le_of_ble_eq_true rfl) ⟨Nat.le_of_ble_eq_true rfl, Nat.le_of_ble_eq_true rfl⟩ ⟨(Nat.le_of_ble_eq_true rfl), (Nat.le_of_ble_eq_true rfl)⟩ dL_goodUntilChange_2 (fun c2 da ce9 q9 H locs hH hS g1 g2 g3 => ?_) (fun c2 da H locs hH hS => ?_)
  · have ho := ho c2
    refine (Decidable.em ((fX10_goodUntilChange o1 p1 v).1 = 1)).elim (fun c3 => ?_) (fun c3 => ?_)
    · skip
      refine t_c1 (k := 1) X htab rfl g1 g2 (c3 ▸ g3) ?_
      refine lv_astore_n (lv' := [(2, .ref q9), (0, .ref (ga G o1)), (1, .int p1)]) hx hb dL_goodUntilChange_6 rfl hl (by decide) rfl (fun ls hl => ?_)
      refine lv_ldc (v := (-100102)) hx hb hown (hts _ t_con_VernierDrawersLaw_17) dL_goodUntilChange_7 ?_
      exact E _ _ _ _ _ _ _ _ _ _ dL_goodUntilChange_9 (Eq.symm ((fL_goodUntilChange.eq_1 _ _ _).trans ((if_neg c2).trans ((if_pos c3).trans rfl)))) rfl rfl hH hS (Nat.le_of_ble_eq_true rfl) (Nat.le_of_ble_eq_true rfl)
    · have ho := ho c3
      have hq4 := ho
      refine t_c2 (k := 3) X hN htab (by decide) rfl g1 g2 (hq4 ▸ g3) ?_
      refine lv_astore_n (lv' := [(2, .ref q9), (0, .ref (ga G o1)), (1, .int p1)]) hx hb dL_goodUntilChange_10 rfl hl (by decide) rfl (fun ls hl => ?_)
      refine lv_ldc (v := (-100104)) hx hb hown (hts _ t_con_VernierDrawersLaw_73) dL_goodUntilChange_11 ?_
      exact E _ _ _ _ _ _ _ _ _ _ dL_goodUntilChange_13 (Eq.symm ((fL_goodUntilChange.eq_1 _ _ _).trans ((if_neg c2).trans ((if_neg c3).trans rfl)))) rfl rfl hH hS (Nat.le_of_ble_eq_true rfl) (Nat.le_of_ble_eq_true rfl)
  · skip
    exact E _ _ _ _ _ _ _ _ _ _ dL_goodUntilChange_5 (Eq.symm ((fL_goodUntilChange.eq_1 _ _ _).trans ((if_pos c2).trans rfl))) rfl rfl hH hS (Nat.le_of_ble_eq_true rfl) (Nat.le_of_ble_eq_true rfl)
theorem k_L_goodUntilChange {p : Program} {l : Launch} {e : Env} {R : Room} {s : State} {m : MethodId} {args : Array Value} {below : List Frame} {meth : Method} {c : Code} {H : Heap} {locs : List Loc} {cells slots : Nat} {Q : State → Prop} {cc : ByteArray} {pc nL : Nat} {ls : Array Slot} {rest : List Value} {G : gG} {own : String} {da : Nat → Nat} {v : vSt} {x : gX} (hst : l.stackTraces = false) (X : CX G p s m args c cc nL own) (hS : va_S (gA G) s.heap H locs) (hN : NC s) (hH : Hp G da v x H) {o1 : Nat} (hk_o1 : kd o1 = 10) {p1 : Int32} (ho : oL_goodUntilChange o1 p1 v) {idx : Nat} (hml : Cond.methodLink own idx yL_goodUntilChange ∈ TT) (hls : ls.size = nL) (hsum : (rest.map fun v => v.category).sum ≤ 8) (hR : rmL_goodUntilChange.frames + 1 ≤ R.frames ∧ 8 + (3 + 11) + rmL_goodUntilChange.locals ≤ R.locals) (hcs : cells + 12 ≤ R.cells ∧ slots + 12 ≤ R.slots) (hdg : decode cc pc = .ok (.invokestatic idx, 3)) (kk : ∀ (d : Nat → Nat) (H1 : Heap) (locs1 : List Loc), Hp G d v x H1 → va_S (gA G) s.heap H1 locs1 → W p l e R s m args below meth c H1 locs1 (cells + 12) (slots + 12) Q (F0 m (pc + 3) ls (.int (fL_goodUntilChange o1 p1 v) :: rest))) : W p l e R s m args below meth c H locs cells slots Q (F0 m pc ls (.int p1 :: .ref (ga G o1) :: rest)) := c_li (runLS (kp := 2) X.1 X.2.1 X.2.2.1 X.2.2.2.1 X.2.2.2.2.1 (mL_goodUntilChange l hst G da v x o1 hk_o1 p1 ho) pN_bl hml t_st_L_goodUntilChange t_ini_VernierDrawersLaw t_code_L_goodUntilChange ⟨by decide, by decide, by decide +kernel⟩ rfl rfl hR hcs (preN X hN hS hH) rfl hls rfl hsum hdg) hS kk
def fL_chartedAt (o1 : Nat) (p1 : Int32) (p2 : Int32) (v : vSt) : Int32 := if (fX10_chartedAt o1 p1 p2 v).1 = 0 then ((fX10_chartedAt o1 p1 p2 v).2) else (if (fX10_chartedAt o1 p1 p2 v).1 = 1 then ((-100102)) else ((-100104)))
def oL_chartedAt (o1 : Nat) (p1 : Int32) (p2 : Int32) (v : vSt) : Prop := (oX10_chartedAt o1 p1 p2 v) ∧ (¬ ((fX10_chartedAt o1 p1 p2 v).1 = 0) → (¬ ((fX10_chartedAt o1 p1 p2 v).1 = 1) → ((fX10_chartedAt o1 p1 p2 v).1 = 3)))
abbrev rmL_chartedAt : Room := { frames := 8, cells := 12, slots := 12, locals := 134 }
theorem dL_chartedAt_0 : decode cL_chartedAt 0 = .ok (.aload_n 0, 1) := by decide +kernel
theorem dL_chartedAt_1 : decode cL_chartedAt 1 = .ok (.iload_n 1, 1) := by decide +kernel
theorem dL_chartedAt_2 : decode cL_chartedAt 2 = .ok (.iload_n 2, 1) := by decide +kernel
theorem dL_chartedAt_3 : decode cL_chartedAt 3 = .ok (.invokevirtual 89, 3) := by decide +kernel
theorem dL_chartedAt_6 : decode cL_chartedAt 6 = .ok (.ireturn, 1) := by decide +kernel
theorem dL_chartedAt_7 : decode cL_chartedAt 7 = .ok (.astore_n 3, 1) := by decide +kernel
theorem dL_chartedAt_8 : decode cL_chartedAt 8 = .ok (.ldc 17, 2) := by decide +kernel
theorem dL_chartedAt_10 : decode cL_chartedAt 10 = .ok (.ireturn, 1) := by decide +kernel
theorem dL_chartedAt_11 : decode cL_chartedAt 11 = .ok (.astore_n 3, 1) := by decide +kernel
theorem dL_chartedAt_12 : decode cL_chartedAt 12 = .ok (.ldc 73, 2) := by decide +kernel
theorem dL_chartedAt_14 : decode cL_chartedAt 14 = .ok (.ireturn, 1) := by decide +kernel
set_option maxHeartbeats 8000000 in
set_option maxRecDepth 100000 in
theorem mL_chartedAt (l : Launch) (hst : l.stackTraces = false) (G : gG) (da : Nat → Nat) (v : vSt) (x : gX) (o1 : Nat) (hk_o1 : kd o1 = 10) (p1 : Int32) (p2 : Int32) (ho : oL_chartedAt o1 p1 p2 v) : LI l yL_chartedAt cL_chartedAt 4 [((0 : Nat), (6 : Nat), (7 : Nat), (15 : Nat)), ((0 : Nat), (6 : Nat), (11 : Nat), (71 : Nat))] rmL_chartedAt [.ref (ga G o1), .int p1, .int p2] G da v x 12 12 (fL_chartedAt o1 p1 p2 v) v x := by
  refine gofL (by decide) rfl (Nat.le_of_ble_eq_true rfl) (fun p e s m args below meth c ls Q X hN htab hH hl E => ?_)
  have hx := X.1
  have hb := X.2.1
  have hown := X.2.2.2.1
  have hts := X.2.2.2.2.1
  have hS : va_S (gA G) s.heap s.heap [] := va_S.rf
  unfold oL_chartedAt at ho
  have hl : lv_has ls 4 [(0, .ref (ga G o1)), (1, .int p1), (2, .int p2)] := hl
  refine lv_aload_n hx hb dL_chartedAt_0 rfl (lv_at hl 0 rfl) ?_
  refine lv_iload_n hx hb dL_chartedAt_1 rfl (lv_at hl 1 rfl) ?_
  refine lv_iload_n hx hb dL_chartedAt_2 rfl (lv_at hl 2 rfl) ?_
  have hq1 := ho.1
  have ho := ho.2
  refine k_X10_chartedAt hst X hS hH hk_o1 hq1 t_ml_VernierDrawersLaw_89 hl.1 (Nat.le_of_ble_eq_true rfl) ⟨Nat.le_of_ble_eq_true rfl, Nat.le_of_ble_eq_true rfl⟩ ⟨(Nat.le_of_ble_eq_true rfl), (Nat.le_of_ble_eq_true rfl)⟩ dL_chartedAt_3 (fun c2 da ce9 q9 H locs hH hS g1 g2 g3 => ?_) (fun c2 da H locs hH hS => ?_)
  · have ho := ho c2
    refine (Decidable.em ((fX10_chartedAt o1 p1 p2 v).1 = 1)).elim (fun c3 => ?_) (fun c3 => ?_)
    · skip
      refine t_c1 (k := 1) X htab rfl g1 g2 (c3 ▸ g3) ?_
      refine lv_astore_n (lv' := [(3, .ref q9), (0, .ref (ga G o1)), (1, .int p1), (2, .int p2)]) hx hb dL_chartedAt_7 rfl hl (by decide) rfl (fun ls hl => ?_)
      refine lv_ldc (v := (-100102)) hx hb hown (hts _ t_con_VernierDrawersLaw_17) dL_chartedAt_8 ?_
      exact E _ _ _ _ _ _ _ _ _ _ dL_chartedAt_10 (Eq.symm ((fL_chartedAt.eq_1 _ _ _ _).trans ((if_neg c2).trans ((if_pos c3).trans rfl)))) rfl rfl hH hS (Nat.le_of_ble_eq_true rfl) (Nat.le_of_ble_eq_true rfl)
    · have ho := ho c3
      have hq4 := ho
      refine t_c2 (k := 3) X hN htab (by decide) rfl g1 g2 (hq4 ▸ g3) ?_
      refine lv_astore_n (lv' := [(3, .ref q9), (0, .ref (ga G o1)), (1, .int p1), (2, .int p2)]) hx hb dL_chartedAt_11 rfl hl (by decide) rfl (fun ls hl => ?_)
      refine lv_ldc (v := (-100104)) hx hb hown (hts _ t_con_VernierDrawersLaw_73) dL_chartedAt_12 ?_
      exact E _ _ _ _ _ _ _ _ _ _ dL_chartedAt_14 (Eq.symm ((fL_chartedAt.eq_1 _ _ _ _).trans ((if_neg c2).trans ((if_neg c3).trans rfl)))) rfl rfl hH hS (Nat.le_of_ble_eq_true rfl) (Nat.le_of_ble_eq_true rfl)
  · skip
    exact E _ _ _ _ _ _ _ _ _ _ dL_chartedAt_6 (Eq.symm ((fL_chartedAt.eq_1 _ _ _ _).trans ((if_pos c2).trans rfl))) rfl rfl hH hS (Nat.le_of_ble_eq_true rfl) (Nat.le_of_ble_eq_true rfl)
theorem k_L_chartedAt {p : Program} {l : Launch} {e : Env} {R : Room} {s : State} {m : MethodId} {args : Array Value} {below : List Frame} {meth : Method} {c : Code} {H : Heap} {locs : List Loc} {cells slots : Nat} {Q : State → Prop} {cc : ByteArray} {pc nL : Nat} {ls : Array Slot} {rest : List Value} {G : gG} {own : String} {da : Nat → Nat} {v : vSt} {x : gX} (hst : l.stackTraces = false) (X : CX G p s m args c cc nL own) (hS : va_S (gA G) s.heap H locs) (hN : NC s) (hH : Hp G da v x H) {o1 : Nat} (hk_o1 : kd o1 = 10) {p1 : Int32} {p2 : Int32} (ho : oL_chartedAt o1 p1 p2 v) {idx : Nat} (hml : Cond.methodLink own idx yL_chartedAt ∈ TT) (hls : ls.size = nL) (hsum : (rest.map fun v => v.category).sum ≤ 8) (hR : rmL_chartedAt.frames + 1 ≤ R.frames ∧ 8 + (4 + 11) + rmL_chartedAt.locals ≤ R.locals) (hcs : cells + 12 ≤ R.cells ∧ slots + 12 ≤ R.slots) (hdg : decode cc pc = .ok (.invokestatic idx, 3)) (kk : ∀ (d : Nat → Nat) (H1 : Heap) (locs1 : List Loc), Hp G d v x H1 → va_S (gA G) s.heap H1 locs1 → W p l e R s m args below meth c H1 locs1 (cells + 12) (slots + 12) Q (F0 m (pc + 3) ls (.int (fL_chartedAt o1 p1 p2 v) :: rest))) : W p l e R s m args below meth c H locs cells slots Q (F0 m pc ls (.int p2 :: .int p1 :: .ref (ga G o1) :: rest)) := c_li (runLS (kp := 3) X.1 X.2.1 X.2.2.1 X.2.2.2.1 X.2.2.2.2.1 (mL_chartedAt l hst G da v x o1 hk_o1 p1 p2 ho) pN_bl hml t_st_L_chartedAt t_ini_VernierDrawersLaw t_code_L_chartedAt ⟨by decide, by decide, by decide +kernel⟩ rfl rfl hR hcs (preN X hN hS hH) rfl hls rfl hsum hdg) hS kk
def fL_middleOf (o1 : Nat) (p1 : Int32) (v : vSt) : Int32 := if (fX10_middleOf o1 p1 v).1 = 0 then ((fX10_middleOf o1 p1 v).2.1) else (if (fX10_middleOf o1 p1 v).1 = 1 then ((-100102)) else ((-100104)))
def oL_middleOf (o1 : Nat) (p1 : Int32) (v : vSt) : Prop := (oX10_middleOf o1 p1 v) ∧ (¬ ((fX10_middleOf o1 p1 v).1 = 0) → (¬ ((fX10_middleOf o1 p1 v).1 = 1) → ((fX10_middleOf o1 p1 v).1 = 3)))
abbrev rmL_middleOf : Room := { frames := 9, cells := 36, slots := 36, locals := 154 }
theorem dL_middleOf_0 : decode cL_middleOf 0 = .ok (.aload_n 0, 1) := by decide +kernel
theorem dL_middleOf_1 : decode cL_middleOf 1 = .ok (.iload_n 1, 1) := by decide +kernel
theorem dL_middleOf_2 : decode cL_middleOf 2 = .ok (.invokevirtual 92, 3) := by decide +kernel
theorem dL_middleOf_5 : decode cL_middleOf 5 = .ok (.ireturn, 1) := by decide +kernel
theorem dL_middleOf_6 : decode cL_middleOf 6 = .ok (.astore_n 2, 1) := by decide +kernel
theorem dL_middleOf_7 : decode cL_middleOf 7 = .ok (.ldc 17, 2) := by decide +kernel
theorem dL_middleOf_9 : decode cL_middleOf 9 = .ok (.ireturn, 1) := by decide +kernel
theorem dL_middleOf_10 : decode cL_middleOf 10 = .ok (.astore_n 2, 1) := by decide +kernel
theorem dL_middleOf_11 : decode cL_middleOf 11 = .ok (.ldc 73, 2) := by decide +kernel
theorem dL_middleOf_13 : decode cL_middleOf 13 = .ok (.ireturn, 1) := by decide +kernel
set_option maxHeartbeats 8000000 in
set_option maxRecDepth 100000 in
theorem mL_middleOf (l : Launch) (hst : l.stackTraces = false) (G : gG) (da : Nat → Nat) (v : vSt) (x : gX) (o1 : Nat) (hk_o1 : kd o1 = 10) (p1 : Int32) (ho : oL_middleOf o1 p1 v) : LI l yL_middleOf cL_middleOf 3 [((0 : Nat), (5 : Nat), (6 : Nat), (15 : Nat)), ((0 : Nat), (5 : Nat), (10 : Nat), (71 : Nat))] rmL_middleOf [.ref (ga G o1), .int p1] G da v x 36 36 (fL_middleOf o1 p1 v) v x := by
  refine gofL (by decide) rfl (Nat.le_of_ble_eq_true rfl) (fun p e s m args below meth c ls Q X hN htab hH hl E => ?_)
  have hx := X.1
  have hb := X.2.1
  have hown := X.2.2.2.1
  have hts := X.2.2.2.2.1
  have hS : va_S (gA G) s.heap s.heap [] := va_S.rf
  unfold oL_middleOf at ho
  have hl : lv_has ls 3 [(0, .ref (ga G o1)), (1, .int p1)] := hl
  refine lv_aload_n hx hb dL_middleOf_0 rfl (lv_at hl 0 rfl) ?_
  refine lv_iload_n hx hb dL_middleOf_1 rfl (lv_at hl 1 rfl) ?_
  have hq1 := ho.1
  have ho := ho.2
  refine kU_X10_middleOf hst X hS hH hk_o1 hq1 t_ml_VernierDrawersLaw_92 hl.1 (Nat.le_of_ble_eq_true rfl) ⟨Nat.le_of_ble_eq_true rfl, Nat.le_of_ble_eq_true rfl⟩ ⟨(Nat.le_of_ble_eq_true rfl), (Nat.le_of_ble_eq_true rfl)⟩ dL_middleOf_2 (fun c2 da ce9 q9 H locs hH hS g1 g2 g3 => ?_) (fun c2 da H locs hH hS => ?_)
  · have ho := ho c2
    refine (Decidable.em ((fX10_middleOf o1 p1 v).1 = 1)).elim (fun c3 => ?_) (fun c3 => ?_)
    · skip
      refine t_c1 (k := 1) X htab rfl g1 g2 (c3 ▸ g3) ?_
      refine lv_astore_n (lv' := [(2, .ref q9), (0, .ref (ga G o1)), (1, .int p1)]) hx hb dL_middleOf_6 rfl hl (by decide) rfl (fun ls hl => ?_)
      refine lv_ldc (v := (-100102)) hx hb hown (hts _ t_con_VernierDrawersLaw_17) dL_middleOf_7 ?_
      exact E _ _ _ _ _ _ _ _ _ _ dL_middleOf_9 (Eq.symm ((fL_middleOf.eq_1 _ _ _).trans ((if_neg c2).trans ((if_pos c3).trans rfl)))) rfl rfl hH hS (Nat.le_of_ble_eq_true rfl) (Nat.le_of_ble_eq_true rfl)
    · have ho := ho c3
      have hq4 := ho
      refine t_c2 (k := 3) X hN htab (by decide) rfl g1 g2 (hq4 ▸ g3) ?_
      refine lv_astore_n (lv' := [(2, .ref q9), (0, .ref (ga G o1)), (1, .int p1)]) hx hb dL_middleOf_10 rfl hl (by decide) rfl (fun ls hl => ?_)
      refine lv_ldc (v := (-100104)) hx hb hown (hts _ t_con_VernierDrawersLaw_73) dL_middleOf_11 ?_
      exact E _ _ _ _ _ _ _ _ _ _ dL_middleOf_13 (Eq.symm ((fL_middleOf.eq_1 _ _ _).trans ((if_neg c2).trans ((if_neg c3).trans rfl)))) rfl rfl hH hS (Nat.le_of_ble_eq_true rfl) (Nat.le_of_ble_eq_true rfl)
  · skip
    exact E _ _ _ _ _ _ _ _ _ _ dL_middleOf_5 (Eq.symm ((fL_middleOf.eq_1 _ _ _).trans ((if_pos c2).trans rfl))) rfl rfl hH hS (Nat.le_of_ble_eq_true rfl) (Nat.le_of_ble_eq_true rfl)
theorem k_L_middleOf {p : Program} {l : Launch} {e : Env} {R : Room} {s : State} {m : MethodId} {args : Array Value} {below : List Frame} {meth : Method} {c : Code} {H : Heap} {locs : List Loc} {cells slots : Nat} {Q : State → Prop} {cc : ByteArray} {pc nL : Nat} {ls : Array Slot} {rest : List Value} {G : gG} {own : String} {da : Nat → Nat} {v : vSt} {x : gX} (hst : l.stackTraces = false) (X : CX G p s m args c cc nL own) (hS : va_S (gA G) s.heap H locs) (hN : NC s) (hH : Hp G da v x H) {o1 : Nat} (hk_o1 : kd o1 = 10) {p1 : Int32} (ho : oL_middleOf o1 p1 v) {idx : Nat} (hml : Cond.methodLink own idx yL_middleOf ∈ TT) (hls : ls.size = nL) (hsum : (rest.map fun v => v.category).sum ≤ 8) (hR : rmL_middleOf.frames + 1 ≤ R.frames ∧ 8 + (3 + 11) + rmL_middleOf.locals ≤ R.locals) (hcs : cells + 36 ≤ R.cells ∧ slots + 36 ≤ R.slots) (hdg : decode cc pc = .ok (.invokestatic idx, 3)) (kk : ∀ (d : Nat → Nat) (H1 : Heap) (locs1 : List Loc), Hp G d v x H1 → va_S (gA G) s.heap H1 locs1 → W p l e R s m args below meth c H1 locs1 (cells + 36) (slots + 36) Q (F0 m (pc + 3) ls (.int (fL_middleOf o1 p1 v) :: rest))) : W p l e R s m args below meth c H locs cells slots Q (F0 m pc ls (.int p1 :: .ref (ga G o1) :: rest)) := c_li (runLS (kp := 2) X.1 X.2.1 X.2.2.1 X.2.2.2.1 X.2.2.2.2.1 (mL_middleOf l hst G da v x o1 hk_o1 p1 ho) pN_bl hml t_st_L_middleOf t_ini_VernierDrawersLaw t_code_L_middleOf ⟨by decide, by decide, by decide +kernel⟩ rfl rfl hR hcs (preN X hN hS hH) rfl hls rfl hsum hdg) hS kk
