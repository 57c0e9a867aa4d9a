/-! the law's methods: low, what catches -/
def fL_low (p1 : Int32) (p2 : Int32) : Int32 := (p1 &&& 2147483647) - (p1 &&& 2147483647) / p2 * p2
def oL_low (p1 : Int32) (p2 : Int32) : Prop := ¬ (p2 : Int32) = 0
abbrev rmL_low : Room := { frames := 0, cells := 0, slots := 0, locals := 0 }
theorem dL_low_0 : decode cL_low 0 = .ok (.iload_n 0, 1) := by decide +kernel
theorem dL_low_1 : decode cL_low 1 = .ok (.ldc 8, 2) := by decide +kernel
theorem dL_low_3 : decode cL_low 3 = .ok (.iand, 1) := by decide +kernel
theorem dL_low_4 : decode cL_low 4 = .ok (.iload_n 1, 1) := by decide +kernel
theorem dL_low_5 : decode cL_low 5 = .ok (.irem, 1) := by decide +kernel
theorem dL_low_6 : decode cL_low 6 = .ok (.ireturn, 1) := by decide +kernel
set_option maxHeartbeats 8000000 in
set_option maxRecDepth 100000 in
theorem mL_low (l : Launch) (G : gG) (p1 : Int32) (p2 : Int32) (ho : oL_low p1 p2) : PI l yL_low cL_low 2 (some .int) rmL_low [.int p1, .int p2] G (fun _ => True) (fL_low p1 p2) := by
  refine gofP (own := RL) (by decide) rfl (Nat.le_of_ble_eq_true rfl) (fun p e s m args below meth c ls Q X _ hl E => ?_)
  have hx := X.1
  have hb := X.2.1
  have hown := X.2.2.2.1
  have hts := X.2.2.2.2.1
  have hS : va_S (gA G) s.heap s.heap [] := va_S.rf
  unfold oL_low at ho
  have hl : lv_has ls 2 [(0, .int p1), (1, .int p2)] := hl
  refine lv_iload_n hx hb dL_low_0 rfl (lv_at hl 0 rfl) ?_
  refine lv_ldc (v := 2147483647) hx hb hown (hts _ t_con_VernierDrawersLaw_8) dL_low_1 ?_
  refine lv_iand hx hb dL_low_3 ?_
  refine lv_iload_n hx hb dL_low_4 rfl (lv_at hl 1 rfl) ?_
  have hq1 := ho
  refine lv_irem hx hb dL_low_5 hq1 ?_
  exact E _ _ _ dL_low_6 rfl (Eq.symm rfl)
theorem k_L_low {p : Program} {l : Launch} {e : Env} {R : Room} {s : State} {m : MethodId} {args : Array Value} {below : List Frame} {meth : Method} {c : Code} {H : Heap} {locs : List Loc} {cells slots : Nat} {Q : State → Prop} {cc : ByteArray} {pc nL : Nat} {ls : Array Slot} {rest : List Value} {G : gG} {own : String} (X : CX G p s m args c cc nL own) (hS : va_S (gA G) s.heap H locs) {p1 : Int32} {p2 : Int32} (ho : oL_low p1 p2) {idx : Nat} (hml : Cond.methodLink own idx yL_low ∈ TT) (hls : ls.size = nL) (hsum : (rest.map fun v => v.category).sum ≤ 8) (hR : rmL_low.frames + 1 ≤ R.frames ∧ 8 + (2 + 11) + rmL_low.locals ≤ R.locals) (hcs : cells ≤ R.cells ∧ slots ≤ R.slots) (hdg : decode cc pc = .ok (.invokestatic idx, 3)) (kk : W p l e R s m args below meth c H locs cells slots Q (F0 m (pc + 3) ls (.int (fL_low p1 p2) :: rest))) : W p l e R s m args below meth c H locs cells slots Q (F0 m pc ls (.int p2 :: .int p1 :: rest)) := c_qi (runS (k := 2) X.1 X.2.1 X.2.2.1 X.2.2.2.1 X.2.2.2.2.1 (mL_low l G p1 p2 ho) (pT_bl (fun _ _ _ _ h => h)) hml t_st_L_low t_ini_VernierDrawersLaw t_code_L_low ⟨by decide, by decide, by decide +kernel⟩ rfl rfl hR hcs (fun U hU hW => ⟨preT X hS U hU hW, trivial⟩) rfl hls rfl hsum hdg) (fun _ h => h ▸ kk)
def fL_addTool (o1 : Nat) (p1 : Int32) (p2 : Int32) (v : vSt) : Int32 × vSt := if (fX10_addTool o1 p1 p2 v).1 = 0 then (let v4 : vSt := (fX10_addTool o1 p1 p2 v).2.2; ((fX10_addTool o1 p1 p2 v).2.1, gM v4 (fX11_addTool 461 p1 p2 v4).2)) else (let v4 : vSt := (fX10_addTool o1 p1 p2 v).2.2; if (fX10_addTool o1 p1 p2 v).1 = 1 then (((-100102), gM v4 (fX11_addTool 461 p1 p2 v4).2)) else (((-100103), gM v4 (fX11_addTool 461 p1 p2 v4).2)))
def kkL_addTool (o1 : Nat) (p1 : Int32) (p2 : Int32) (v : vSt) : Nat := pot ((fL_addTool o1 p1 p2 v).2) - pot v + 36
def oL_addTool (o1 : Nat) (p1 : Int32) (p2 : Int32) (v : vSt) : Prop := (oX10_addTool o1 p1 p2 v) ∧ ((0 + kkX10_addTool o1 p1 p2 v ≤ kkL_addTool o1 p1 p2 v) ∧ (¬ ((fX10_addTool o1 p1 p2 v).1 = 0) → (∀ v4 : vSt, v4 = ((fX10_addTool o1 p1 p2 v).2.2) → (¬ ((fX10_addTool o1 p1 p2 v).1 = 1) → ((fX10_addTool o1 p1 p2 v).1 = 2)))))
abbrev rmL_addTool (o1 : Nat) (p1 : Int32) (p2 : Int32) (v : vSt) : Room := { frames := 8, cells := kkL_addTool o1 p1 p2 v, slots := kkL_addTool o1 p1 p2 v, locals := 219 }
theorem dL_addTool_0 : decode cL_addTool 0 = .ok (.aload_n 0, 1) := by decide +kernel
theorem dL_addTool_1 : decode cL_addTool 1 = .ok (.iload_n 1, 1) := by decide +kernel
theorem dL_addTool_2 : decode cL_addTool 2 = .ok (.iload_n 2, 1) := by decide +kernel
theorem dL_addTool_3 : decode cL_addTool 3 = .ok (.invokevirtual 9, 3) := by decide +kernel
theorem dL_addTool_6 : decode cL_addTool 6 = .ok (.ireturn, 1) := by decide +kernel
theorem dL_addTool_7 : decode cL_addTool 7 = .ok (.astore_n 3, 1) := by decide +kernel
theorem dL_addTool_8 : decode cL_addTool 8 = .ok (.ldc 17, 2) := by decide +kernel
theorem dL_addTool_10 : decode cL_addTool 10 = .ok (.ireturn, 1) := by decide +kernel
theorem dL_addTool_11 : decode cL_addTool 11 = .ok (.astore_n 3, 1) := by decide +kernel
theorem dL_addTool_12 : decode cL_addTool 12 = .ok (.ldc 20, 2) := by decide +kernel
theorem dL_addTool_14 : decode cL_addTool 14 = .ok (.ireturn, 1) := by decide +kernel
set_option maxHeartbeats 8000000 in
set_option maxRecDepth 100000 in
theorem mL_addTool (l : Launch) (hst : l.stackTraces = false) (G : gG) (da : Nat → Nat) (v : vSt) (x : gX) (o1 : Nat) (hk_o1 : kd o1 = 10) (p1 : Int32) (p2 : Int32) (ho : oL_addTool o1 p1 p2 v) : LI l yL_addTool cL_addTool 4 [((0 : Nat), (6 : Nat), (7 : Nat), (15 : Nat)), ((0 : Nat), (6 : Nat), (11 : Nat), (18 : Nat))] (rmL_addTool o1 p1 p2 v) [.ref (ga G o1), .int p1, .int p2] G da v x (kkL_addTool o1 p1 p2 v) (kkL_addTool o1 p1 p2 v) (fL_addTool o1 p1 p2 v).1 (fL_addTool o1 p1 p2 v).2 x := by
  refine gofL (by decide) rfl (Nat.le_of_ble_eq_true rfl) (fun p e s m args below meth c ls Q X hN htab hH hl E => ?_)
  have hx := X.1
  have hb := X.2.1
  have hown := X.2.2.2.1
  have hts := X.2.2.2.2.1
  have hS : va_S (gA G) s.heap s.heap [] := va_S.rf
  unfold oL_addTool at ho
  have hl : lv_has ls 4 [(0, .ref (ga G o1)), (1, .int p1), (2, .int p2)] := hl
  refine lv_aload_n hx hb dL_addTool_0 rfl (lv_at hl 0 rfl) ?_
  refine lv_iload_n hx hb dL_addTool_1 rfl (lv_at hl 1 rfl) ?_
  refine lv_iload_n hx hb dL_addTool_2 rfl (lv_at hl 2 rfl) ?_
  have hq1 := ho.1
  have ho := ho.2
  have hq2 := ho.1
  have ho := ho.2
  refine k_X10_addTool hst X hS hH hk_o1 hq1 t_ml_VernierDrawersLaw_9 hl.1 (Nat.le_of_ble_eq_true rfl) ⟨Nat.le_of_ble_eq_true rfl, Nat.le_of_ble_eq_true rfl⟩ ⟨hq2, hq2⟩ dL_addTool_3 (fun c3 da ce9 q9 H locs v4 ev4 hH hS g1 g2 g3 => ?_) (fun c3 da H locs v4 ev4 hH hS => ?_)
  · have ho := ho c3
    have ho := ho v4 ev4
    refine (Decidable.em ((fX10_addTool o1 p1 p2 v).1 = 1)).elim (fun c5 => ?_) (fun c5 => ?_)
    · skip
      refine t_c1 (k := 1) X htab rfl g1 g2 (c5 ▸ g3) ?_
      refine lv_astore_n (lv' := [(3, .ref q9), (0, .ref (ga G o1)), (1, .int p1), (2, .int p2)]) hx hb dL_addTool_7 rfl hl (by decide) rfl (fun ls hl => ?_)
      refine lv_ldc (v := (-100102)) hx hb hown (hts _ t_con_VernierDrawersLaw_17) dL_addTool_8 ?_
      have hHz := hH
      have hSz := hS
      replace ev4 := Eq.symm ev4
      subst ev4
      exact E _ _ _ _ _ _ _ _ _ _ dL_addTool_10 (pr1 ((fL_addTool.eq_1 _ _ _ _).trans ((if_neg c3).trans ((if_pos c5).trans rfl)))) (pr2 ((fL_addTool.eq_1 _ _ _ _).trans ((if_neg c3).trans ((if_pos c5).trans rfl)))) rfl (hHz.gh (fun r hr => gM_lo hr)) hSz hq2 hq2
    · have ho := ho c5
      have hq6 := ho
      refine t_c2 (k := 2) X hN htab (by decide) rfl g1 g2 (hq6 ▸ g3) ?_
      refine lv_astore_n (lv' := [(3, .ref q9), (0, .ref (ga G o1)), (1, .int p1), (2, .int p2)]) hx hb dL_addTool_11 rfl hl (by decide) rfl (fun ls hl => ?_)
      refine lv_ldc (v := (-100103)) hx hb hown (hts _ t_con_VernierDrawersLaw_20) dL_addTool_12 ?_
      have hHz := hH
      have hSz := hS
      replace ev4 := Eq.symm ev4
      subst ev4
      exact E _ _ _ _ _ _ _ _ _ _ dL_addTool_14 (pr1 ((fL_addTool.eq_1 _ _ _ _).trans ((if_neg c3).trans ((if_neg c5).trans rfl)))) (pr2 ((fL_addTool.eq_1 _ _ _ _).trans ((if_neg c3).trans ((if_neg c5).trans rfl)))) rfl (hHz.gh (fun r hr => gM_lo hr)) hSz hq2 hq2
  · skip
    have hHz := hH
    have hSz := hS
    replace ev4 := Eq.symm ev4
    subst ev4
    exact E _ _ _ _ _ _ _ _ _ _ dL_addTool_6 (pr1 ((fL_addTool.eq_1 _ _ _ _).trans ((if_pos c3).trans rfl))) (pr2 ((fL_addTool.eq_1 _ _ _ _).trans ((if_pos c3).trans rfl))) rfl (hHz.gh (fun r hr => gM_lo hr)) hSz hq2 hq2
theorem k_L_addTool {p : Program} {l : Launch} {e : Env} {R : Room} {s : State} {m : MethodId} {args : Array Value} {below : List Frame} {meth : Method} {c : Code} {H : Heap} {locs : List Loc} {cells slots : Nat} {Q : State → Prop} {cc : ByteArray} {pc nL : Nat} {ls : Array Slot} {rest : List Value} {G : gG} {own : String} {da : Nat → Nat} {v : vSt} {x : gX} (hst : l.stackTraces = false) (X : CX G p s m args c cc nL own) (hS : va_S (gA G) s.heap H locs) (hN : NC s) (hH : Hp G da v x H) {o1 : Nat} (hk_o1 : kd o1 = 10) {p1 : Int32} {p2 : Int32} (ho : oL_addTool o1 p1 p2 v) {idx : Nat} (hml : Cond.methodLink own idx yL_addTool ∈ TT) (hls : ls.size = nL) (hsum : (rest.map fun v => v.category).sum ≤ 8) (hR : (rmL_addTool o1 p1 p2 v).frames + 1 ≤ R.frames ∧ 8 + (4 + 11) + (rmL_addTool o1 p1 p2 v).locals ≤ R.locals) (hcs : cells + (kkL_addTool o1 p1 p2 v) ≤ R.cells ∧ slots + (kkL_addTool o1 p1 p2 v) ≤ R.slots) (hdg : decode cc pc = .ok (.invokestatic idx, 3)) (kk : ∀ (d : Nat → Nat) (H1 : Heap) (locs1 : List Loc) (v1 : vSt), v1 = (fL_addTool o1 p1 p2 v).2 → Hp G d v1 x H1 → va_S (gA G) s.heap H1 locs1 → W p l e R s m args below meth c H1 locs1 (cells + (kkL_addTool o1 p1 p2 v)) (slots + (kkL_addTool o1 p1 p2 v)) Q (F0 m (pc + 3) ls (.int (fL_addTool o1 p1 p2 v).1 :: rest))) : W p l e R s m args below meth c H locs cells slots Q (F0 m pc ls (.int p2 :: .int p1 :: .ref (ga G o1) :: rest)) := c_li (runLS (kp := 3) X.1 X.2.1 X.2.2.1 X.2.2.2.1 X.2.2.2.2.1 (mL_addTool l hst G da v x o1 hk_o1 p1 p2 ho) pN_bl hml t_st_L_addTool t_ini_VernierDrawersLaw t_code_L_addTool ⟨by decide, by decide, by decide +kernel⟩ rfl rfl hR hcs (preN X hN hS hH) rfl hls rfl hsum hdg) hS (fun d9 H9 L9 hH9 => kk d9 H9 L9 _ rfl hH9)
def fL_addBlock (o1 : Nat) (p1 : Int32) (p2 : Int32) (v : vSt) : Int32 × vSt := if (fX10_addBlock o1 p1 p2 v).1 = 0 then (let v4 : vSt := (fX10_addBlock o1 p1 p2 v).2.2; ((fX10_addBlock o1 p1 p2 v).2.1, gM v4 (fX11_addBlock 461 p1 p2 v4).2)) else (let v4 : vSt := (fX10_addBlock o1 p1 p2 v).2.2; if (fX10_addBlock o1 p1 p2 v).1 = 1 then (((-100102), gM v4 (fX11_addBlock 461 p1 p2 v4).2)) else (((-100103), gM v4 (fX11_addBlock 461 p1 p2 v4).2)))
def kkL_addBlock (o1 : Nat) (p1 : Int32) (p2 : Int32) (v : vSt) : Nat := pot ((fL_addBlock o1 p1 p2 v).2) - pot v + 36
def oL_addBlock (o1 : Nat) (p1 : Int32) (p2 : Int32) (v : vSt) : Prop := (oX10_addBlock o1 p1 p2 v) ∧ ((0 + kkX10_addBlock o1 p1 p2 v ≤ kkL_addBlock o1 p1 p2 v) ∧ (¬ ((fX10_addBlock o1 p1 p2 v).1 = 0) → (∀ v4 : vSt, v4 = ((fX10_addBlock o1 p1 p2 v).2.2) → (¬ ((fX10_addBlock o1 p1 p2 v).1 = 1) → ((fX10_addBlock o1 p1 p2 v).1 = 2)))))
abbrev rmL_addBlock (o1 : Nat) (p1 : Int32) (p2 : Int32) (v : vSt) : Room := { frames := 8, cells := kkL_addBlock o1 p1 p2 v, slots := kkL_addBlock o1 p1 p2 v, locals := 219 }
theorem dL_addBlock_0 : decode cL_addBlock 0 = .ok (.aload_n 0, 1) := by decide +kernel
theorem dL_addBlock_1 : decode cL_addBlock 1 = .ok (.iload_n 1, 1) := by decide +kernel
theorem dL_addBlock_2 : decode cL_addBlock 2 = .ok (.iload_n 2, 1) := by decide +kernel
theorem dL_addBlock_3 : decode cL_addBlock 3 = .ok (.invokevirtual 21, 3) := by decide +kernel
theorem dL_addBlock_6 : decode cL_addBlock 6 = .ok (.ireturn, 1) := by decide +kernel
theorem dL_addBlock_7 : decode cL_addBlock 7 = .ok (.astore_n 3, 1) := by decide +kernel
theorem dL_addBlock_8 : decode cL_addBlock 8 = .ok (.ldc 17, 2) := by decide +kernel
theorem dL_addBlock_10 : decode cL_addBlock 10 = .ok (.ireturn, 1) := by decide +kernel
theorem dL_addBlock_11 : decode cL_addBlock 11 = .ok (.astore_n 3, 1) := by decide +kernel
theorem dL_addBlock_12 : decode cL_addBlock 12 = .ok (.ldc 20, 2) := by decide +kernel
theorem dL_addBlock_14 : decode cL_addBlock 14 = .ok (.ireturn, 1) := by decide +kernel
set_option maxHeartbeats 8000000 in
set_option maxRecDepth 100000 in
theorem mL_addBlock (l : Launch) (hst : l.stackTraces = false) (G : gG) (da : Nat → Nat) (v : vSt) (x : gX) (o1 : Nat) (hk_o1 : kd o1 = 10) (p1 : Int32) (p2 : Int32) (ho : oL_addBlock o1 p1 p2 v) : LI l yL_addBlock cL_addBlock 4 [((0 : Nat), (6 : Nat), (7 : Nat), (15 : Nat)), ((0 : Nat), (6 : Nat), (11 : Nat), (18 : Nat))] (rmL_addBlock o1 p1 p2 v) [.ref (ga G o1), .int p1, .int p2] G da v x (kkL_addBlock o1 p1 p2 v) (kkL_addBlock o1 p1 p2 v) (fL_addBlock o1 p1 p2 v).1 (fL_addBlock o1 p1 p2 v).2 x := by
  refine gofL (by decide) rfl (Nat.le_of_ble_eq_true rfl) (fun p e s m args below meth c ls Q X hN htab hH hl E => ?_)
  have hx := X.1
  have hb := X.2.1
  have hown := X.2.2.2.1
  have hts := X.2.2.2.2.1
  have hS : va_S (gA G) s.heap s.heap [] := va_S.rf
  unfold oL_addBlock at ho
  have hl : lv_has ls 4 [(0, .ref (ga G o1)), (1, .int p1), (2, .int p2)] := hl
  refine lv_aload_n hx hb dL_addBlock_0 rfl (lv_at hl 0 rfl) ?_
  refine lv_iload_n hx hb dL_addBlock_1 rfl (lv_at hl 1 rfl) ?_
  refine lv_iload_n hx hb dL_addBlock_2 rfl (lv_at hl 2 rfl) ?_
  have hq1 := ho.1
  have ho := ho.2
  have hq2 := ho.1
  have ho := ho.2
  refine k_X10_addBlock hst X hS hH hk_o1 hq1 t_ml_VernierDrawersLaw_21 hl.1 (Nat.le_of_ble_eq_true rfl) ⟨Nat.le_of_ble_eq_true rfl, Nat.le_of_ble_eq_true rfl⟩ ⟨hq2, hq2⟩ dL_addBlock_3 (fun c3 da ce9 q9 H locs v4 ev4 hH hS g1 g2 g3 => ?_) (fun c3 da H locs v4 ev4 hH hS => ?_)
  · have ho := ho c3
    have ho := ho v4 ev4
    refine (Decidable.em ((fX10_addBlock o1 p1 p2 v).1 = 1)).elim (fun c5 => ?_) (fun c5 => ?_)
    · skip
      refine t_c1 (k := 1) X htab rfl g1 g2 (c5 ▸ g3) ?_
      refine lv_astore_n (lv' := [(3, .ref q9), (0, .ref (ga G o1)), (1, .int p1), (2, .int p2)]) hx hb dL_addBlock_7 rfl hl (by decide) rfl (fun ls hl => ?_)
      refine lv_ldc (v := (-100102)) hx hb hown (hts _ t_con_VernierDrawersLaw_17) dL_addBlock_8 ?_
      have hHz := hH
      have hSz := hS
      replace ev4 := Eq.symm ev4
      subst ev4
      exact E _ _ _ _ _ _ _ _ _ _ dL_addBlock_10 (pr1 ((fL_addBlock.eq_1 _ _ _ _).trans ((if_neg c3).trans ((if_pos c5).trans rfl)))) (pr2 ((fL_addBlock.eq_1 _ _ _ _).trans ((if_neg c3).trans ((if_pos c5).trans rfl)))) rfl (hHz.gh (fun r hr => gM_lo hr)) hSz hq2 hq2
    · have ho := ho c5
      have hq6 := ho
      refine t_c2 (k := 2) X hN htab (by decide) rfl g1 g2 (hq6 ▸ g3) ?_
      refine lv_astore_n (lv' := [(3, .ref q9), (0, .ref (ga G o1)), (1, .int p1), (2, .int p2)]) hx hb dL_addBlock_11 rfl hl (by decide) rfl (fun ls hl => ?_)
      refine lv_ldc (v := (-100103)) hx hb hown (hts _ t_con_VernierDrawersLaw_20) dL_addBlock_12 ?_
      have hHz := hH
      have hSz := hS
      replace ev4 := Eq.symm ev4
      subst ev4
      exact E _ _ _ _ _ _ _ _ _ _ dL_addBlock_14 (pr1 ((fL_addBlock.eq_1 _ _ _ _).trans ((if_neg c3).trans ((if_neg c5).trans rfl)))) (pr2 ((fL_addBlock.eq_1 _ _ _ _).trans ((if_neg c3).trans ((if_neg c5).trans rfl)))) rfl (hHz.gh (fun r hr => gM_lo hr)) hSz hq2 hq2
  · skip
    have hHz := hH
    have hSz := hS
    replace ev4 := Eq.symm ev4
    subst ev4
    exact E _ _ _ _ _ _ _ _ _ _ dL_addBlock_6 (pr1 ((fL_addBlock.eq_1 _ _ _ _).trans ((if_pos c3).trans rfl))) (pr2 ((fL_addBlock.eq_1 _ _ _ _).trans ((if_pos c3).trans rfl))) rfl (hHz.gh (fun r hr => gM_lo hr)) hSz hq2 hq2
theorem k_L_addBlock {p : Program} {l : Launch} {e : Env} {R : Room} {s : State} {m : MethodId} {args : Array Value} {below : List Frame} {meth : Method} {c : Code} {H : Heap} {locs : List Loc} {cells slots : Nat} {Q : State → Prop} {cc : ByteArray} {pc nL : Nat} {ls : Array Slot} {rest : List Value} {G : gG} {own : String} {da : Nat → Nat} {v : vSt} {x : gX} (hst : l.stackTraces = false) (X : CX G p s m args c cc nL own) (hS : va_S (gA G) s.heap H locs) (hN : NC s) (hH : Hp G da v x H) {o1 : Nat} (hk_o1 : kd o1 = 10) {p1 : Int32} {p2 : Int32} (ho : oL_addBlock o1 p1 p2 v) {idx : Nat} (hml : Cond.methodLink own idx yL_addBlock ∈ TT) (hls : ls.size = nL) (hsum : (rest.map fun v => v.category).sum ≤ 8) (hR : (rmL_addBlock o1 p1 p2 v).frames + 1 ≤ R.frames ∧ 8 + (4 + 11) + (rmL_addBlock o1 p1 p2 v).locals ≤ R.locals) (hcs : cells + (kkL_addBlock o1 p1 p2 v) ≤ R.cells ∧ slots + (kkL_addBlock o1 p1 p2 v) ≤ R.slots) (hdg : decode cc pc = .ok (.invokestatic idx, 3)) (kk : ∀ (d : Nat → Nat) (H1 : Heap) (locs1 : List Loc) (v1 : vSt), v1 = (fL_addBlock o1 p1 p2 v).2 → Hp G d v1 x H1 → va_S (gA G) s.heap H1 locs1 → W p l e R s m args below meth c H1 locs1 (cells + (kkL_addBlock o1 p1 p2 v)) (slots + (kkL_addBlock o1 p1 p2 v)) Q (F0 m (pc + 3) ls (.int (fL_addBlock o1 p1 p2 v).1 :: rest))) : W p l e R s m args below meth c H locs cells slots Q (F0 m pc ls (.int p2 :: .int p1 :: .ref (ga G o1) :: rest)) := c_li (runLS (kp := 3) X.1 X.2.1 X.2.2.1 X.2.2.2.1 X.2.2.2.2.1 (mL_addBlock l hst G da v x o1 hk_o1 p1 p2 ho) pN_bl hml t_st_L_addBlock t_ini_VernierDrawersLaw t_code_L_addBlock ⟨by decide, by decide, by decide +kernel⟩ rfl rfl hR hcs (preN X hN hS hH) rfl hls rfl hsum hdg) hS (fun d9 H9 L9 hH9 => kk d9 H9 L9 _ rfl hH9)
def fL_setWarmth (o1 : Nat) (p1 : Int32) (v : vSt) : Int32 × vSt := if (fX10_setWarmth o1 p1 v).1 = 0 then (let v4 : vSt := (fX10_setWarmth o1 p1 v).2.2; ((fX10_setWarmth o1 p1 v).2.1, gM v4 (fX11_setWarmth 461 p1 v4).2)) else (let v4 : vSt := (fX10_setWarmth o1 p1 v).2.2; ((-100102), gM v4 (fX11_setWarmth 461 p1 v4).2))
def kkL_setWarmth (o1 : Nat) (p1 : Int32) (v : vSt) : Nat := pot ((fL_setWarmth o1 p1 v).2) - pot v + 36
def oL_setWarmth (o1 : Nat) (p1 : Int32) (v : vSt) : Prop := (oX10_setWarmth o1 p1 v) ∧ ((0 + kkX10_setWarmth o1 p1 v ≤ kkL_setWarmth o1 p1 v) ∧ (¬ ((fX10_setWarmth o1 p1 v).1 = 0) → (∀ v4 : vSt, v4 = ((fX10_setWarmth o1 p1 v).2.2) → ((fX10_setWarmth o1 p1 v).1 = 1))))
abbrev rmL_setWarmth (o1 : Nat) (p1 : Int32) (v : vSt) : Room := { frames := 8, cells := kkL_setWarmth o1 p1 v, slots := kkL_setWarmth o1 p1 v, locals := 218 }
theorem dL_setWarmth_0 : decode cL_setWarmth 0 = .ok (.aload_n 0, 1) := by decide +kernel
theorem dL_setWarmth_1 : decode cL_setWarmth 1 = .ok (.iload_n 1, 1) := by decide +kernel
theorem dL_setWarmth_2 : decode cL_setWarmth 2 = .ok (.invokevirtual 24, 3) := by decide +kernel
theorem dL_setWarmth_5 : decode cL_setWarmth 5 = .ok (.ireturn, 1) := by decide +kernel
theorem dL_setWarmth_6 : decode cL_setWarmth 6 = .ok (.astore_n 2, 1) := by decide +kernel
theorem dL_setWarmth_7 : decode cL_setWarmth 7 = .ok (.ldc 17, 2) := by decide +kernel
theorem dL_setWarmth_9 : decode cL_setWarmth 9 = .ok (.ireturn, 1) := by decide +kernel
set_option maxHeartbeats 8000000 in
set_option maxRecDepth 100000 in
theorem mL_setWarmth (l : Launch) (hst : l.stackTraces = false) (G : gG) (da : Nat → Nat) (v : vSt) (x : gX) (o1 : Nat) (hk_o1 : kd o1 = 10) (p1 : Int32) (ho : oL_setWarmth o1 p1 v) : LI l yL_setWarmth cL_setWarmth 3 [((0 : Nat), (5 : Nat), (6 : Nat), (15 : Nat))] (rmL_setWarmth o1 p1 v) [.ref (ga G o1), .int p1] G da v x (kkL_setWarmth o1 p1 v) (kkL_setWarmth o1 p1 v) (fL_setWarmth o1 p1 v).1 (fL_setWarmth o1 p1 v).2 x := by
  refine gofL (by decide) rfl (Nat.le_of_ble_eq_true rfl) (fun p e s m args below meth c ls Q X hN htab hH hl E => ?_)
  have hx := X.1
  have hb := X.2.1
  have hown := X.2.2.2.1
  have hts := X.2.2.2.2.1
  have hS : va_S (gA G) s.heap s.heap [] := va_S.rf
  unfold oL_setWarmth at ho
  have hl : lv_has ls 3 [(0, .ref (ga G o1)), (1, .int p1)] := hl
  refine lv_aload_n hx hb dL_setWarmth_0 rfl (lv_at hl 0 rfl) ?_
  refine lv_iload_n hx hb dL_setWarmth_1 rfl (lv_at hl 1 rfl) ?_
  have hq1 := ho.1
  have ho := ho.2
  have hq2 := ho.1
  have ho := ho.2
  refine k_X10_setWarmth hst X hS hH hk_o1 hq1 t_ml_VernierDrawersLaw_24 hl.1 (Nat.le_of_ble_eq_true rfl) ⟨Nat.le_of_ble_eq_true rfl, Nat.le_of_ble_eq_true rfl⟩ ⟨hq2, hq2⟩ dL_setWarmth_2 (fun c3 da ce9 q9 H locs v4 ev4 hH hS g1 g2 g3 => ?_) (fun c3 da H locs v4 ev4 hH hS => ?_)
  · have ho := ho c3
    have ho := ho v4 ev4
    have hq5 := ho
    refine t_c1 (k := 1) X htab rfl g1 g2 (hq5 ▸ g3) ?_
    refine lv_astore_n (lv' := [(2, .ref q9), (0, .ref (ga G o1)), (1, .int p1)]) hx hb dL_setWarmth_6 rfl hl (by decide) rfl (fun ls hl => ?_)
    refine lv_ldc (v := (-100102)) hx hb hown (hts _ t_con_VernierDrawersLaw_17) dL_setWarmth_7 ?_
    have hHz := hH
    have hSz := hS
    replace ev4 := Eq.symm ev4
    subst ev4
    exact E _ _ _ _ _ _ _ _ _ _ dL_setWarmth_9 (pr1 ((fL_setWarmth.eq_1 _ _ _).trans ((if_neg c3).trans rfl))) (pr2 ((fL_setWarmth.eq_1 _ _ _).trans ((if_neg c3).trans rfl))) rfl (hHz.gh (fun r hr => gM_lo hr)) hSz hq2 hq2
  · skip
    have hHz := hH
    have hSz := hS
    replace ev4 := Eq.symm ev4
    subst ev4
    exact E _ _ _ _ _ _ _ _ _ _ dL_setWarmth_5 (pr1 ((fL_setWarmth.eq_1 _ _ _).trans ((if_pos c3).trans rfl))) (pr2 ((fL_setWarmth.eq_1 _ _ _).trans ((if_pos c3).trans rfl))) rfl (hHz.gh (fun r hr => gM_lo hr)) hSz hq2 hq2
theorem k_L_setWarmth {p : Program} {l : Launch} {e : Env} {R : Room} {s : State} {m : MethodId} {args : Array Value} {below : List Frame} {meth : Method} {c : Code} {H : Heap} {locs : List Loc} {cells slots : Nat} {Q : State → Prop} {cc : ByteArray} {pc nL : Nat} {ls : Array Slot} {rest : List Value} {G : gG} {own : String} {da : Nat → Nat} {v : vSt} {x : gX} (hst : l.stackTraces = false) (X : CX G p s m args c cc nL own) (hS : va_S (gA G) s.heap H locs) (hN : NC s) (hH : Hp G da v x H) {o1 : Nat} (hk_o1 : kd o1 = 10) {p1 : Int32} (ho : oL_setWarmth o1 p1 v) {idx : Nat} (hml : Cond.methodLink own idx yL_setWarmth ∈ TT) (hls : ls.size = nL) (hsum : (rest.map fun v => v.category).sum ≤ 8) (hR : (rmL_setWarmth o1 p1 v).frames + 1 ≤ R.frames ∧ 8 + (3 + 11) + (rmL_setWarmth o1 p1 v).locals ≤ R.locals) (hcs : cells + (kkL_setWarmth o1 p1 v) ≤ R.cells ∧ slots + (kkL_setWarmth o1 p1 v) ≤ R.slots) (hdg : decode cc pc = .ok (.invokestatic idx, 3)) (kk : ∀ (d : Nat → Nat) (H1 : Heap) (locs1 : List Loc) (v1 : vSt), v1 = (fL_setWarmth o1 p1 v).2 → Hp G d v1 x H1 → va_S (gA G) s.heap H1 locs1 → W p l e R s m args below meth c H1 locs1 (cells + (kkL_setWarmth o1 p1 v)) (slots + (kkL_setWarmth o1 p1 v)) Q (F0 m (pc + 3) ls (.int (fL_setWarmth o1 p1 v).1 :: rest))) : W p l e R s m args below meth c H locs cells slots Q (F0 m pc ls (.int p1 :: .ref (ga G o1) :: rest)) := c_li (runLS (kp := 2) X.1 X.2.1 X.2.2.1 X.2.2.2.1 X.2.2.2.2.1 (mL_setWarmth l hst G da v x o1 hk_o1 p1 ho) pN_bl hml t_st_L_setWarmth t_ini_VernierDrawersLaw t_code_L_setWarmth ⟨by decide, by decide, by decide +kernel⟩ rfl rfl hR hcs (preN X hN hS hH) rfl hls rfl hsum hdg) hS (fun d9 H9 L9 hH9 => kk d9 H9 L9 _ rfl hH9)
def fL_measure (o1 : Nat) (p1 : Int32) (p2 : Int32) (p3 : Int32) (v : vSt) : Int32 × vSt := if (fX10_measure o1 p1 p2 p3 v).1 = 0 then (let v4 : vSt := (fX10_measure o1 p1 p2 p3 v).2.2; ((fX10_measure o1 p1 p2 p3 v).2.1, gM v4 (fX11_measure 461 p1 p2 p3 v4).2)) else (let v4 : vSt := (fX10_measure o1 p1 p2 p3 v).2.2; if (fX10_measure o1 p1 p2 p3 v).1 = 1 then (((-100102), gM v4 (fX11_measure 461 p1 p2 p3 v4).2)) else (((-100103), gM v4 (fX11_measure 461 p1 p2 p3 v4).2)))
def kkL_measure (o1 : Nat) (p1 : Int32) (p2 : Int32) (p3 : Int32) (v : vSt) : Nat := pot ((fL_measure o1 p1 p2 p3 v).2) - pot v + 36
def oL_measure (o1 : Nat) (p1 : Int32) (p2 : Int32) (p3 : Int32) (v : vSt) : Prop := (oX10_measure o1 p1 p2 p3 v) ∧ ((0 + kkX10_measure o1 p1 p2 p3 v ≤ kkL_measure o1 p1 p2 p3 v) ∧ (¬ ((fX10_measure o1 p1 p2 p3 v).1 = 0) → (∀ v4 : vSt, v4 = ((fX10_measure o1 p1 p2 p3 v).2.2) → (¬ ((fX10_measure o1 p1 p2 p3 v).1 = 1) → ((fX10_measure o1 p1 p2 p3 v).1 = 2)))))
abbrev rmL_measure (o1 : Nat) (p1 : Int32) (p2 : Int32) (p3 : Int32) (v : vSt) : Room := { frames := 8, cells := kkL_measure o1 p1 p2 p3 v, slots := kkL_measure o1 p1 p2 p3 v, locals := 219 }
theorem dL_measure_0 : decode cL_measure 0 = .ok (.aload_n 0, 1) := by decide +kernel
theorem dL_measure_1 : decode cL_measure 1 = .ok (.iload_n 1, 1) := by decide +kernel
theorem dL_measure_2 : decode cL_measure 2 = .ok (.iload_n 2, 1) := by decide +kernel
theorem dL_measure_3 : decode cL_measure 3 = .ok (.iload_n 3, 1) := by decide +kernel
theorem dL_measure_4 : decode cL_measure 4 = .ok (.invokevirtual 28, 3) := by decide +kernel
theorem dL_measure_7 : decode cL_measure 7 = .ok (.ireturn, 1) := by decide +kernel
theorem dL_measure_8 : decode cL_measure 8 = .ok (.astore 4, 2) := by decide +kernel
theorem dL_measure_10 : decode cL_measure 10 = .ok (.ldc 17, 2) := by decide +kernel
theorem dL_measure_12 : decode cL_measure 12 = .ok (.ireturn, 1) := by decide +kernel
theorem dL_measure_13 : decode cL_measure 13 = .ok (.astore 4, 2) := by decide +kernel
theorem dL_measure_15 : decode cL_measure 15 = .ok (.ldc 20, 2) := by decide +kernel
theorem dL_measure_17 : decode cL_measure 17 = .ok (.ireturn, 1) := by decide +kernel
set_option maxHeartbeats 8000000 in
set_option maxRecDepth 100000 in
theorem mL_measure (l : Launch) (hst : l.stackTraces = false) (G : gG) (da : Nat → Nat) (v : vSt) (x : gX) (o1 : Nat) (hk_o1 : kd o1 = 10) (p1 : Int32) (p2 : Int32) (p3 : Int32) (ho : oL_measure o1 p1 p2 p3 v) : LI l yL_measure cL_measure 5 [((0 : Nat), (7 : Nat), (8 : Nat), (15 : Nat)), ((0 : Nat), (7 : Nat), (13 : Nat), (18 : Nat))] (rmL_measure o1 p1 p2 p3 v) [.ref (ga G o1), .int p1, .int p2, .int p3] G da v x (kkL_measure o1 p1 p2 p3 v) (kkL_measure o1 p1 p2 p3 v) (fL_measure o1 p1 p2 p3 v).1 (fL_measure o1 p1 p2 p3 v).2 x := by
  refine gofL (by decide) rfl (Nat.le_of_ble_eq_true rfl) (fun p e s m args below meth c ls Q X hN htab hH hl E => ?_)
  have hx := X.1
  have hb := X.2.1
  have hown := X.2.2.2.1
  have hts := X.2.2.2.2.1
  have hS : va_S (gA G) s.heap s.heap [] := va_S.rf
  unfold oL_measure at ho
  have hl : lv_has ls 5 [(0, .ref (ga G o1)), (1, .int p1), (2, .int p2), (3, .int p3)] := hl
  refine lv_aload_n hx hb dL_measure_0 rfl (lv_at hl 0 rfl) ?_
  refine lv_iload_n hx hb dL_measure_1 rfl (lv_at hl 1 rfl) ?_
  refine lv_iload_n hx hb dL_measure_2 rfl (lv_at hl 2 rfl) ?_
  refine lv_iload_n hx hb dL_measure_3 rfl (lv_at hl 3 rfl) ?_
  have hq1 := ho.1
  have ho := ho.2
  have hq2 := ho.1
  have ho := ho.2
  refine k_X10_measure hst X hS hH hk_o1 hq1 t_ml_VernierDrawersLaw_28 hl.1 (Nat.le_of_ble_eq_true rfl) ⟨Nat.le_of_ble_eq_true rfl, Nat.le_of_ble_eq_true rfl⟩ ⟨hq2, hq2⟩ dL_measure_4 (fun c3 da ce9 q9 H locs v4 ev4 hH hS g1 g2 g3 => ?_) (fun c3 da H locs v4 ev4 hH hS => ?_)
  · have ho := ho c3
    have ho := ho v4 ev4
    refine (Decidable.em ((fX10_measure o1 p1 p2 p3 v).1 = 1)).elim (fun c5 => ?_) (fun c5 => ?_)
    · skip
      refine t_c1 (k := 1) X htab rfl g1 g2 (c5 ▸ g3) ?_
      refine lv_astore (lv' := [(4, .ref q9), (0, .ref (ga G o1)), (1, .int p1), (2, .int p2), (3, .int p3)]) hx hb dL_measure_8 hl (by decide) rfl (fun ls hl => ?_)
      refine lv_ldc (v := (-100102)) hx hb hown (hts _ t_con_VernierDrawersLaw_17) dL_measure_10 ?_
      have hHz := hH
      have hSz := hS
      replace ev4 := Eq.symm ev4
      subst ev4
      exact E _ _ _ _ _ _ _ _ _ _ dL_measure_12 (pr1 ((fL_measure.eq_1 _ _ _ _ _).trans ((if_neg c3).trans ((if_pos c5).trans rfl)))) (pr2 ((fL_measure.eq_1 _ _ _ _ _).trans ((if_neg c3).trans ((if_pos c5).trans rfl)))) rfl (hHz.gh (fun r hr => gM_lo hr)) hSz hq2 hq2
    · have ho := ho c5
      have hq6 := ho
      refine t_c2 (k := 2) X hN htab (by decide) rfl g1 g2 (hq6 ▸ g3) ?_
      refine lv_astore (lv' := [(4, .ref q9), (0, .ref (ga G o1)), (1, .int p1), (2, .int p2), (3, .int p3)]) hx hb dL_measure_13 hl (by decide) rfl (fun ls hl => ?_)
      refine lv_ldc (v := (-100103)) hx hb hown (hts _ t_con_VernierDrawersLaw_20) dL_measure_15 ?_
      have hHz := hH
      have hSz := hS
      replace ev4 := Eq.symm ev4
      subst ev4
      exact E _ _ _ _ _ _ _ _ _ _ dL_measure_17 (pr1 ((fL_measure.eq_1 _ _ _ _ _).trans ((if_neg c3).trans ((if_neg c5).trans rfl)))) (pr2 ((fL_measure.eq_1 _ _ _ _ _).trans ((if_neg c3).trans ((if_neg c5).trans rfl)))) rfl (hHz.gh (fun r hr => gM_lo hr)) hSz hq2 hq2
  · skip
    have hHz := hH
    have hSz := hS
    replace ev4 := Eq.symm ev4
    subst ev4
    exact E _ _ _ _ _ _ _ _ _ _ dL_measure_7 (pr1 ((fL_measure.eq_1 _ _ _ _ _).trans ((if_pos c3).trans rfl))) (pr2 ((fL_measure.eq_1 _ _ _ _ _).trans ((if_pos c3).trans rfl))) rfl (hHz.gh (fun r hr => gM_lo hr)) hSz hq2 hq2
theorem k_L_measure {p : Program} {l : Launch} {e : Env} {R : Room} {s : State} {m : MethodId} {args : Array Value} {below : List Frame} {meth : Method} {c : Code} {H : Heap} {locs : List Loc} {cells slots : Nat} {Q : State → Prop} {cc : ByteArray} {pc nL : Nat} {ls : Array Slot} {rest : List Value} {G : gG} {own : String} {da : Nat → Nat} {v : vSt} {x : gX} (hst : l.stackTraces = false) (X : CX G p s m args c cc nL own) (hS : va_S (gA G) s.heap H locs) (hN : NC s) (hH : Hp G da v x H) {o1 : Nat} (hk_o1 : kd o1 = 10) {p1 : Int32} {p2 : Int32} {p3 : Int32} (ho : oL_measure o1 p1 p2 p3 v) {idx : Nat} (hml : Cond.methodLink own idx yL_measure ∈ TT) (hls : ls.size = nL) (hsum : (rest.map fun v => v.category).sum ≤ 8) (hR : (rmL_measure o1 p1 p2 p3 v).frames + 1 ≤ R.frames ∧ 8 + (5 + 11) + (rmL_measure o1 p1 p2 p3 v).locals ≤ R.locals) (hcs : cells + (kkL_measure o1 p1 p2 p3 v) ≤ R.cells ∧ slots + (kkL_measure o1 p1 p2 p3 v) ≤ R.slots) (hdg : decode cc pc = .ok (.invokestatic idx, 3)) (kk : ∀ (d : Nat → Nat) (H1 : Heap) (locs1 : List Loc) (v1 : vSt), v1 = (fL_measure o1 p1 p2 p3 v).2 → Hp G d v1 x H1 → va_S (gA G) s.heap H1 locs1 → W p l e R s m args below meth c H1 locs1 (cells + (kkL_measure o1 p1 p2 p3 v)) (slots + (kkL_measure o1 p1 p2 p3 v)) Q (F0 m (pc + 3) ls (.int (fL_measure o1 p1 p2 p3 v).1 :: rest))) : W p l e R s m args below meth c H locs cells slots Q (F0 m pc ls (.int p3 :: .int p2 :: .int p1 :: .ref (ga G o1) :: rest)) := c_li (runLS (kp := 4) X.1 X.2.1 X.2.2.1 X.2.2.2.1 X.2.2.2.2.1 (mL_measure l hst G da v x o1 hk_o1 p1 p2 p3 ho) pN_bl hml t_st_L_measure t_ini_VernierDrawersLaw t_code_L_measure ⟨by decide, by decide, by decide +kernel⟩ rfl rfl hR hcs (preN X hN hS hH) rfl hls rfl hsum hdg) hS (fun d9 H9 L9 hH9 => kk d9 H9 L9 _ rfl hH9)
def fL_calibrate (o1 : Nat) (p1 : Int32) (p2 : Int32) (v : vSt) : Int32 × vSt := if (fX10_calibrate o1 p1 p2 v).1 = 0 then (let v4 : vSt := (fX10_calibrate o1 p1 p2 v).2.2; ((fX10_calibrate o1 p1 p2 v).2.1, gM v4 (fX11_calibrate 461 p1 p2 v4).2)) else (let v4 : vSt := (fX10_calibrate o1 p1 p2 v).2.2; if (fX10_calibrate o1 p1 p2 v).1 = 1 then (((-100102), gM v4 (fX11_calibrate 461 p1 p2 v4).2)) else (((-100103), gM v4 (fX11_calibrate 461 p1 p2 v4).2)))
def kkL_calibrate (o1 : Nat) (p1 : Int32) (p2 : Int32) (v : vSt) : Nat := pot ((fL_calibrate o1 p1 p2 v).2) - pot v + 36
def oL_calibrate (o1 : Nat) (p1 : Int32) (p2 : Int32) (v : vSt) : Prop := (oX10_calibrate o1 p1 p2 v) ∧ ((0 + kkX10_calibrate o1 p1 p2 v ≤ kkL_calibrate o1 p1 p2 v) ∧ (¬ ((fX10_calibrate o1 p1 p2 v).1 = 0) → (∀ v4 : vSt, v4 = ((fX10_calibrate o1 p1 p2 v).2.2) → (¬ ((fX10_calibrate o1 p1 p2 v).1 = 1) → ((fX10_calibrate o1 p1 p2 v).1 = 2)))))
abbrev rmL_calibrate (o1 : Nat) (p1 : Int32) (p2 : Int32) (v : vSt) : Room := { frames := 8, cells := kkL_calibrate o1 p1 p2 v, slots := kkL_calibrate o1 p1 p2 v, locals := 218 }
theorem dL_calibrate_0 : decode cL_calibrate 0 = .ok (.aload_n 0, 1) := by decide +kernel
theorem dL_calibrate_1 : decode cL_calibrate 1 = .ok (.iload_n 1, 1) := by decide +kernel
theorem dL_calibrate_2 : decode cL_calibrate 2 = .ok (.iload_n 2, 1) := by decide +kernel
theorem dL_calibrate_3 : decode cL_calibrate 3 = .ok (.invokevirtual 32, 3) := by decide +kernel
theorem dL_calibrate_6 : decode cL_calibrate 6 = .ok (.ireturn, 1) := by decide +kernel
theorem dL_calibrate_7 : decode cL_calibrate 7 = .ok (.astore_n 3, 1) := by decide +kernel
theorem dL_calibrate_8 : decode cL_calibrate 8 = .ok (.ldc 17, 2) := by decide +kernel
theorem dL_calibrate_10 : decode cL_calibrate 10 = .ok (.ireturn, 1) := by decide +kernel
theorem dL_calibrate_11 : decode cL_calibrate 11 = .ok (.astore_n 3, 1) := by decide +kernel
theorem dL_calibrate_12 : decode cL_calibrate 12 = .ok (.ldc 20, 2) := by decide +kernel
theorem dL_calibrate_14 : decode cL_calibrate 14 = .ok (.ireturn, 1) := by decide +kernel
set_option maxHeartbeats 8000000 in
set_option maxRecDepth 100000 in
theorem mL_calibrate (l : Launch) (hst : l.stackTraces = false) (G : gG) (da : Nat → Nat) (v : vSt) (x : gX) (o1 : Nat) (hk_o1 : kd o1 = 10) (p1 : Int32) (p2 : Int32) (ho : oL_calibrate o1 p1 p2 v) : LI l yL_calibrate cL_calibrate 4 [((0 : Nat), (6 : Nat), (7 : Nat), (15 : Nat)), ((0 : Nat), (6 : Nat), (11 : Nat), (18 : Nat))] (rmL_calibrate o1 p1 p2 v) [.ref (ga G o1), .int p1, .int p2] G da v x (kkL_calibrate o1 p1 p2 v) (kkL_calibrate o1 p1 p2 v) (fL_calibrate o1 p1 p2 v).1 (fL_calibrate o1 p1 p2 v).2 x := by
  refine gofL (by decide) rfl (Nat.le_of_ble_eq_true rfl) (fun p e s m args below meth c ls Q X hN htab hH hl E => ?_)
  have hx := X.1
  have hb := X.2.1
  have hown := X.2.2.2.1
  have hts := X.2.2.2.2.1
  have hS : va_S (gA G) s.heap s.heap [] := va_S.rf
  unfold oL_calibrate at ho
  have hl : lv_has ls 4 [(0, .ref (ga G o1)), (1, .int p1), (2, .int p2)] := hl
  refine lv_aload_n hx hb dL_calibrate_0 rfl (lv_at hl 0 rfl) ?_
  refine lv_iload_n hx hb dL_calibrate_1 rfl (lv_at hl 1 rfl) ?_
  refine lv_iload_n hx hb dL_calibrate_2 rfl (lv_at hl 2 rfl) ?_
  have hq1 := ho.1
  have ho := ho.2
  have hq2 := ho.1
  have ho := ho.2
  refine k_X10_calibrate hst X hS hH hk_o1 hq1 t_ml_VernierDrawersLaw_32 hl.1 (Nat.le_of_ble_eq_true rfl) ⟨Nat.le_of_ble_eq_true rfl, Nat.le_of_ble_eq_true rfl⟩ ⟨hq2, hq2⟩ dL_calibrate_3 (fun c3 da ce9 q9 H locs v4 ev4 hH hS g1 g2 g3 => ?_) (fun c3 da H locs v4 ev4 hH hS => ?_)
  · have ho := ho c3
    have ho := ho v4 ev4
    refine (Decidable.em ((fX10_calibrate o1 p1 p2 v).1 = 1)).elim (fun c5 => ?_) (fun c5 => ?_)
    · skip
      refine t_c1 (k := 1) X htab rfl g1 g2 (c5 ▸ g3) ?_
      refine lv_astore_n (lv' := [(3, .ref q9), (0, .ref (ga G o1)), (1, .int p1), (2, .int p2)]) hx hb dL_calibrate_7 rfl hl (by decide) rfl (fun ls hl => ?_)
      refine lv_ldc (v := (-100102)) hx hb hown (hts _ t_con_VernierDrawersLaw_17) dL_calibrate_8 ?_
      have hHz := hH
      have hSz := hS
      replace ev4 := Eq.symm ev4
      subst ev4
      exact E _ _ _ _ _ _ _ _ _ _ dL_calibrate_10 (pr1 ((fL_calibrate.eq_1 _ _ _ _).trans ((if_neg c3).trans ((if_pos c5).trans rfl)))) (pr2 ((fL_calibrate.eq_1 _ _ _ _).trans ((if_neg c3).trans ((if_pos c5).trans rfl)))) rfl (hHz.gh (fun r hr => gM_lo hr)) hSz hq2 hq2
    · have ho := ho c5
      have hq6 := ho
      refine t_c2 (k := 2) X hN htab (by decide) rfl g1 g2 (hq6 ▸ g3) ?_
      refine lv_astore_n (lv' := [(3, .ref q9), (0, .ref (ga G o1)), (1, .int p1), (2, .int p2)]) hx hb dL_calibrate_11 rfl hl (by decide) rfl (fun ls hl => ?_)
      refine lv_ldc (v := (-100103)) hx hb hown (hts _ t_con_VernierDrawersLaw_20) dL_calibrate_12 ?_
      have hHz := hH
      have hSz := hS
      replace ev4 := Eq.symm ev4
      subst ev4
      exact E _ _ _ _ _ _ _ _ _ _ dL_calibrate_14 (pr1 ((fL_calibrate.eq_1 _ _ _ _).trans ((if_neg c3).trans ((if_neg c5).trans rfl)))) (pr2 ((fL_calibrate.eq_1 _ _ _ _).trans ((if_neg c3).trans ((if_neg c5).trans rfl)))) rfl (hHz.gh (fun r hr => gM_lo hr)) hSz hq2 hq2
  · skip
    have hHz := hH
    have hSz := hS
    replace ev4 := Eq.symm ev4
    subst ev4
    exact E _ _ _ _ _ _ _ _ _ _ dL_calibrate_6 (pr1 ((fL_calibrate.eq_1 _ _ _ _).trans ((if_pos c3).trans rfl))) (pr2 ((fL_calibrate.eq_1 _ _ _ _).trans ((if_pos c3).trans rfl))) rfl (hHz.gh (fun r hr => gM_lo hr)) hSz hq2 hq2
theorem k_L_calibrate {p : Program} {l : Launch} {e : Env} {R : Room} {s : State} {m : MethodId} {args : Array Value} {below : List Frame} {meth : Method} {c : Code} {H : Heap} {locs : List Loc} {cells slots : Nat} {Q : State → Prop} {cc : ByteArray} {pc nL : Nat} {ls : Array Slot} {rest : List Value} {G : gG} {own : String} {da : Nat → Nat} {v : vSt} {x : gX} (hst : l.stackTraces = false) (X : CX G p s m args c cc nL own) (hS : va_S (gA G) s.heap H locs) (hN : NC s) (hH : Hp G da v x H) {o1 : Nat} (hk_o1 : kd o1 = 10) {p1 : Int32} {p2 : Int32} (ho : oL_calibrate o1 p1 p2 v) {idx : Nat} (hml : Cond.methodLink own idx yL_calibrate ∈ TT) (hls : ls.size = nL) (hsum : (rest.map fun v => v.category).sum ≤ 8) (hR : (rmL_calibrate o1 p1 p2 v).frames + 1 ≤ R.frames ∧ 8 + (4 + 11) + (rmL_calibrate o1 p1 p2 v).locals ≤ R.locals) (hcs : cells + (kkL_calibrate o1 p1 p2 v) ≤ R.cells ∧ slots + (kkL_calibrate o1 p1 p2 v) ≤ R.slots) (hdg : decode cc pc = .ok (.invokestatic idx, 3)) (kk : ∀ (d : Nat → Nat) (H1 : Heap) (locs1 : List Loc) (v1 : vSt), v1 = (fL_calibrate o1 p1 p2 v).2 → Hp G d v1 x H1 → va_S (gA G) s.heap H1 locs1 → W p l e R s m args below meth c H1 locs1 (cells + (kkL_calibrate o1 p1 p2 v)) (slots + (kkL_calibrate o1 p1 p2 v)) Q (F0 m (pc + 3) ls (.int (fL_calibrate o1 p1 p2 v).1 :: rest))) : W p l e R s m args below meth c H locs cells slots Q (F0 m pc ls (.int p2 :: .int p1 :: .ref (ga G o1) :: rest)) := c_li (runLS (kp := 3) X.1 X.2.1 X.2.2.1 X.2.2.2.1 X.2.2.2.2.1 (mL_calibrate l hst G da v x o1 hk_o1 p1 p2 ho) pN_bl hml t_st_L_calibrate t_ini_VernierDrawersLaw t_code_L_calibrate ⟨by decide, by decide, by decide +kernel⟩ rfl rfl hR hcs (preN X hN hS hH) rfl hls rfl hsum hdg) hS (fun d9 H9 L9 hH9 => kk d9 H9 L9 _ rfl hH9)
def fL_endDay (o1 : Nat) (v : vSt) : Int32 × vSt := if (fX10_endDay o1 v).1 = 0 then (let v4 : vSt := (fX10_endDay o1 v).2.2; ((fX10_endDay o1 v).2.1, gM v4 (fX11_endDay 461 v4).2)) else (let v4 : vSt := (fX10_endDay o1 v).2.2; ((-100103), gM v4 (fX11_endDay 461 v4).2))
def kkL_endDay (o1 : Nat) (v : vSt) : Nat := pot ((fL_endDay o1 v).2) - pot v + 36
def oL_endDay (o1 : Nat) (v : vSt) : Prop := (oX10_endDay o1 v) ∧ ((0 + kkX10_endDay o1 v ≤ kkL_endDay o1 v) ∧ (¬ ((fX10_endDay o1 v).1 = 0) → (∀ v4 : vSt, v4 = ((fX10_endDay o1 v).2.2) → ((fX10_endDay o1 v).1 = 2))))
abbrev rmL_endDay (o1 : Nat) (v : vSt) : Room := { frames := 8, cells := kkL_endDay o1 v, slots := kkL_endDay o1 v, locals := 216 }
theorem dL_endDay_0 : decode cL_endDay 0 = .ok (.aload_n 0, 1) := by decide +kernel
theorem dL_endDay_1 : decode cL_endDay 1 = .ok (.invokevirtual 35, 3) := by decide +kernel
theorem dL_endDay_4 : decode cL_endDay 4 = .ok (.ireturn, 1) := by decide +kernel
theorem dL_endDay_5 : decode cL_endDay 5 = .ok (.astore_n 1, 1) := by decide +kernel
theorem dL_endDay_6 : decode cL_endDay 6 = .ok (.ldc 20, 2) := by decide +kernel
theorem dL_endDay_8 : decode cL_endDay 8 = .ok (.ireturn, 1) := by decide +kernel
set_option maxHeartbeats 8000000 in
set_option maxRecDepth 100000 in
theorem mL_endDay (l : Launch) (hst : l.stackTraces = false) (G : gG) (da : Nat → Nat) (v : vSt) (x : gX) (o1 : Nat) (hk_o1 : kd o1 = 10) (ho : oL_endDay o1 v) : LI l yL_endDay cL_endDay 2 [((0 : Nat), (4 : Nat), (5 : Nat), (18 : Nat))] (rmL_endDay o1 v) [.ref (ga G o1)] G da v x (kkL_endDay o1 v) (kkL_endDay o1 v) (fL_endDay o1 v).1 (fL_endDay o1 v).2 x := by
  refine gofL (by decide) rfl (Nat.le_of_ble_eq_true rfl) (fun p e s m args below meth c ls Q X hN htab hH hl E => ?_)
  have hx := X.1
  have hb := X.2.1
  have hown := X.2.2.2.1
  have hts := X.2.2.2.2.1
  have hS : va_S (gA G) s.heap s.heap [] := va_S.rf
  unfold oL_endDay at ho
  have hl : lv_has ls 2 [(0, .ref (ga G o1))] := hl
  refine lv_aload_n hx hb dL_endDay_0 rfl (lv_at hl 0 rfl) ?_
  have hq1 := ho.1
  have ho := ho.2
  have hq2 := ho.1
  have ho := ho.2
  refine k_X10_endDay hst X hS hH hk_o1 hq1 t_ml_VernierDrawersLaw_35 hl.1 (Nat.le_of_ble_eq_true rfl) ⟨Nat.le_of_ble_eq_true rfl, Nat.le_of_ble_eq_true rfl⟩ ⟨hq2, hq2⟩ dL_endDay_1 (fun c3 da ce9 q9 H locs v4 ev4 hH hS g1 g2 g3 => ?_) (fun c3 da H locs v4 ev4 hH hS => ?_)
  · have ho := ho c3
    have ho := ho v4 ev4
    have hq5 := ho
    refine t_c1 (k := 2) X htab rfl g1 g2 (hq5 ▸ g3) ?_
    refine lv_astore_n (lv' := [(1, .ref q9), (0, .ref (ga G o1))]) hx hb dL_endDay_5 rfl hl (by decide) rfl (fun ls hl => ?_)
    refine lv_ldc (v := (-100103)) hx hb hown (hts _ t_con_VernierDrawersLaw_20) dL_endDay_6 ?_
    have hHz := hH
    have hSz := hS
    replace ev4 := Eq.symm ev4
    subst ev4
    exact E _ _ _ _ _ _ _ _ _ _ dL_endDay_8 (pr1 ((fL_endDay.eq_1 _ _).trans ((if_neg c3).trans rfl))) (pr2 ((fL_endDay.eq_1 _ _).trans ((if_neg c3).trans rfl))) rfl (hHz.gh (fun r hr => gM_lo hr)) hSz hq2 hq2
  · skip
    have hHz := hH
    have hSz := hS
    replace ev4 := Eq.symm ev4
    subst ev4
    exact E _ _ _ _ _ _ _ _ _ _ dL_endDay_4 (pr1 ((fL_endDay.eq_1 _ _).trans ((if_pos c3).trans rfl))) (pr2 ((fL_endDay.eq_1 _ _).trans ((if_pos c3).trans rfl))) rfl (hHz.gh (fun r hr => gM_lo hr)) hSz hq2 hq2
theorem k_L_endDay {p : Program} {l : Launch} {e : Env} {R : Room} {s : State} {m : MethodId} {args : Array Value} {below : List Frame} {meth : Method} {c : Code} {H : Heap} {locs : List Loc} {cells slots : Nat} {Q : State → Prop} {cc : ByteArray} {pc nL : Nat} {ls : Array Slot} {rest : List Value} {G : gG} {own : String} {da : Nat → Nat} {v : vSt} {x : gX} (hst : l.stackTraces = false) (X : CX G p s m args c cc nL own) (hS : va_S (gA G) s.heap H locs) (hN : NC s) (hH : Hp G da v x H) {o1 : Nat} (hk_o1 : kd o1 = 10) (ho : oL_endDay o1 v) {idx : Nat} (hml : Cond.methodLink own idx yL_endDay ∈ TT) (hls : ls.size = nL) (hsum : (rest.map fun v => v.category).sum ≤ 8) (hR : (rmL_endDay o1 v).frames + 1 ≤ R.frames ∧ 8 + (2 + 11) + (rmL_endDay o1 v).locals ≤ R.locals) (hcs : cells + (kkL_endDay o1 v) ≤ R.cells ∧ slots + (kkL_endDay o1 v) ≤ R.slots) (hdg : decode cc pc = .ok (.invokestatic idx, 3)) (kk : ∀ (d : Nat → Nat) (H1 : Heap) (locs1 : List Loc) (v1 : vSt), v1 = (fL_endDay o1 v).2 → Hp G d v1 x H1 → va_S (gA G) s.heap H1 locs1 → W p l e R s m args below meth c H1 locs1 (cells + (kkL_endDay o1 v)) (slots + (kkL_endDay o1 v)) Q (F0 m (pc + 3) ls (.int (fL_endDay o1 v).1 :: rest))) : W p l e R s m args below meth c H locs cells slots Q (F0 m pc ls (.ref (ga G o1) :: rest)) := c_li (runLS (kp := 1) X.1 X.2.1 X.2.2.1 X.2.2.2.1 X.2.2.2.2.1 (mL_endDay l hst G da v x o1 hk_o1 ho) pN_bl hml t_st_L_endDay t_ini_VernierDrawersLaw t_code_L_endDay ⟨by decide, by decide, by decide +kernel⟩ rfl rfl hR hcs (preN X hN hS hH) rfl hls rfl hsum hdg) hS (fun d9 H9 L9 hH9 => kk d9 H9 L9 _ rfl hH9)
def fL_addType (o1 : Nat) (p1 : Int32) (p2 : Int32) (p3 : Int32) (p4 : Int32) (v : vSt) : Int32 × vSt := if (fX10_addType o1 p1 p2 p3 p4 v).1 = 0 then (let v4 : vSt := (fX10_addType o1 p1 p2 p3 p4 v).2.2; ((fX10_addType o1 p1 p2 p3 p4 v).2.1, gM v4 (fX11_addType 461 p1 p2 p3 p4 v4).2)) else (let v4 : vSt := (fX10_addType o1 p1 p2 p3 p4 v).2.2; if (fX10_addType o1 p1 p2 p3 p4 v).1 = 1 then (((-100102), gM v4 (fX11_addType 461 p1 p2 p3 p4 v4).2)) else (((-100103), gM v4 (fX11_addType 461 p1 p2 p3 p4 v4).2)))
def kkL_addType (o1 : Nat) (p1 : Int32) (p2 : Int32) (p3 : Int32) (p4 : Int32) (v : vSt) : Nat := pot ((fL_addType o1 p1 p2 p3 p4 v).2) - pot v + 36
def oL_addType (o1 : Nat) (p1 : Int32) (p2 : Int32) (p3 : Int32) (p4 : Int32) (v : vSt) : Prop := (oX10_addType o1 p1 p2 p3 p4 v) ∧ ((0 + kkX10_addType o1 p1 p2 p3 p4 v ≤ kkL_addType o1 p1 p2 p3 p4 v) ∧ (¬ ((fX10_addType o1 p1 p2 p3 p4 v).1 = 0) → (∀ v4 : vSt, v4 = ((fX10_addType o1 p1 p2 p3 p4 v).2.2) → (¬ ((fX10_addType o1 p1 p2 p3 p4 v).1 = 1) → ((fX10_addType o1 p1 p2 p3 p4 v).1 = 2)))))
abbrev rmL_addType (o1 : Nat) (p1 : Int32) (p2 : Int32) (p3 : Int32) (p4 : Int32) (v : vSt) : Room := { frames := 8, cells := kkL_addType o1 p1 p2 p3 p4 v, slots := kkL_addType o1 p1 p2 p3 p4 v, locals := 220 }
theorem dL_addType_0 : decode cL_addType 0 = .ok (.aload_n 0, 1) := by decide +kernel
theorem dL_addType_1 : decode cL_addType 1 = .ok (.iload_n 1, 1) := by decide +kernel
theorem dL_addType_2 : decode cL_addType 2 = .ok (.iload_n 2, 1) := by decide +kernel
theorem dL_addType_3 : decode cL_addType 3 = .ok (.iload_n 3, 1) := by decide +kernel
theorem dL_addType_4 : decode cL_addType 4 = .ok (.iload 4, 2) := by decide +kernel
theorem dL_addType_6 : decode cL_addType 6 = .ok (.invokevirtual 39, 3) := by decide +kernel
theorem dL_addType_9 : decode cL_addType 9 = .ok (.ireturn, 1) := by decide +kernel
theorem dL_addType_10 : decode cL_addType 10 = .ok (.astore 5, 2) := by decide +kernel
theorem dL_addType_12 : decode cL_addType 12 = .ok (.ldc 17, 2) := by decide +kernel
theorem dL_addType_14 : decode cL_addType 14 = .ok (.ireturn, 1) := by decide +kernel
theorem dL_addType_15 : decode cL_addType 15 = .ok (.astore 5, 2) := by decide +kernel
theorem dL_addType_17 : decode cL_addType 17 = .ok (.ldc 20, 2) := by decide +kernel
theorem dL_addType_19 : decode cL_addType 19 = .ok (.ireturn, 1) := by decide +kernel
set_option maxHeartbeats 8000000 in
set_option maxRecDepth 100000 in
theorem mL_addType (l : Launch) (hst : l.stackTraces = false) (G : gG) (da : Nat → Nat) (v : vSt) (x : gX) (o1 : Nat) (hk_o1 : kd o1 = 10) (p1 : Int32) (p2 : Int32) (p3 : Int32) (p4 : Int32) (ho : oL_addType o1 p1 p2 p3 p4 v) : LI l yL_addType cL_addType 6 [((0 : Nat), (9 : Nat), (10 : Nat), (15 : Nat)), ((0 : Nat), (9 : Nat), (15 : Nat), (18 : Nat))] (rmL_addType o1 p1 p2 p3 p4 v) [.ref (ga G o1), .int p1, .int p2, .int p3, .int p4] G da v x (kkL_addType o1 p1 p2 p3 p4 v) (kkL_addType o1 p1 p2 p3 p4 v) (fL_addType o1 p1 p2 p3 p4 v).1 (fL_addType o1 p1 p2 p3 p4 v).2 x := by
  refine gofL (by decide) rfl (Nat.le_of_ble_eq_true rfl) (fun p e s m args below meth c ls Q X hN htab hH hl E => ?_)
  have hx := X.1
  have hb := X.2.1
  have hown := X.2.2.2.1
  have hts := X.2.2.2.2.1
  have hS : va_S (gA G) s.heap s.heap [] := va_S.rf
  unfold oL_addType at ho
  have hl : lv_has ls 6 [(0, .ref (ga G o1)), (1, .int p1), (2, .int p2), (3, .int p3), (4, .int p4)] := hl
  refine lv_aload_n hx hb dL_addType_0 rfl (lv_at hl 0 rfl) ?_
  refine lv_iload_n hx hb dL_addType_1 rfl (lv_at hl 1 rfl) ?_
  refine lv_iload_n hx hb dL_addType_2 rfl (lv_at hl 2 rfl) ?_
  refine lv_iload_n hx hb dL_addType_3 rfl (lv_at hl 3 rfl) ?_
  refine lv_iload hx hb dL_addType_4 (lv_at hl 4 rfl) ?_
  have hq1 := ho.1
  have ho := ho.2
  have hq2 := ho.1
  have ho := ho.2
  refine k_X10_addType hst X hS hH hk_o1 hq1 t_ml_VernierDrawersLaw_39 hl.1 (Nat.le_of_ble_eq_true rfl) ⟨Nat.le_of_ble_eq_true rfl, Nat.le_of_ble_eq_true rfl⟩ ⟨hq2, hq2⟩ dL_addType_6 (fun c3 da ce9 q9 H locs v4 ev4 hH hS g1 g2 g3 => ?_) (fun c3 da H locs v4 ev4 hH hS => ?_)
  · have ho := ho c3
    have ho := ho v4 ev4
    refine (Decidable.em ((fX10_addType o1 p1 p2 p3 p4 v).1 = 1)).elim (fun c5 => ?_) (fun c5 => ?_)
    · skip
      refine t_c1 (k := 1) X htab rfl g1 g2 (c5 ▸ g3) ?_
      refine lv_astore (lv' := [(5, .ref q9), (0, .ref (ga G o1)), (1, .int p1), (2, .int p2), (3, .int p3), (4, .int p4)]) hx hb dL_addType_10 hl (by decide) rfl (fun ls hl => ?_)
      refine lv_ldc (v := (-100102)) hx hb hown (hts _ t_con_VernierDrawersLaw_17) dL_addType_12 ?_
      have hHz := hH
      have hSz := hS
      replace ev4 := Eq.symm ev4
      subst ev4
      exact E _ _ _ _ _ _ _ _ _ _ dL_addType_14 (pr1 ((fL_addType.eq_1 _ _ _ _ _ _).trans ((if_neg c3).trans ((if_pos c5).trans rfl)))) (pr2 ((fL_addType.eq_1 _ _ _ _ _ _).trans ((if_neg c3).trans ((if_pos c5).trans rfl)))) rfl (hHz.gh (fun r hr => gM_lo hr)) hSz hq2 hq2
    · have ho := ho c5
      have hq6 := ho
      refine t_c2 (k := 2) X hN htab (by decide) rfl g1 g2 (hq6 ▸ g3) ?_
      refine lv_astore (lv' := [(5, .ref q9), (0, .ref (ga G o1)), (1, .int p1), (2, .int p2), (3, .int p3), (4, .int p4)]) hx hb dL_addType_15 hl (by decide) rfl (fun ls hl => ?_)
      refine lv_ldc (v := (-100103)) hx hb hown (hts _ t_con_VernierDrawersLaw_20) dL_addType_17 ?_
      have hHz := hH
      have hSz := hS
      replace ev4 := Eq.symm ev4
      subst ev4
      exact E _ _ _ _ _ _ _ _ _ _ dL_addType_19 (pr1 ((fL_addType.eq_1 _ _ _ _ _ _).trans ((if_neg c3).trans ((if_neg c5).trans rfl)))) (pr2 ((fL_addType.eq_1 _ _ _ _ _ _).trans ((if_neg c3).trans ((if_neg c5).trans rfl)))) rfl (hHz.gh (fun r hr => gM_lo hr)) hSz hq2 hq2
  · skip
    have hHz := hH
    have hSz := hS
    replace ev4 := Eq.symm ev4
    subst ev4
    exact E _ _ _ _ _ _ _ _ _ _ dL_addType_9 (pr1 ((fL_addType.eq_1 _ _ _ _ _ _).trans ((if_pos c3).trans rfl))) (pr2 ((fL_addType.eq_1 _ _ _ _ _ _).trans ((if_pos c3).trans rfl))) rfl (hHz.gh (fun r hr => gM_lo hr)) hSz hq2 hq2
theorem k_L_addType {p : Program} {l : Launch} {e : Env} {R : Room} {s : State} {m : MethodId} {args : Array Value} {below : List Frame} {meth : Method} {c : Code} {H : Heap} {locs : List Loc} {cells slots : Nat} {Q : State → Prop} {cc : ByteArray} {pc nL : Nat} {ls : Array Slot} {rest : List Value} {G : gG} {own : String} {da : Nat → Nat} {v : vSt} {x : gX} (hst : l.stackTraces = false) (X : CX G p s m args c cc nL own) (hS : va_S (gA G) s.heap H locs) (hN : NC s) (hH : Hp G da v x H) {o1 : Nat} (hk_o1 : kd o1 = 10) {p1 : Int32} {p2 : Int32} {p3 : Int32} {p4 : Int32} (ho : oL_addType o1 p1 p2 p3 p4 v) {idx : Nat} (hml : Cond.methodLink own idx yL_addType ∈ TT) (hls : ls.size = nL) (hsum : (rest.map fun v => v.category).sum ≤ 8) (hR : (rmL_addType o1 p1 p2 p3 p4 v).frames + 1 ≤ R.frames ∧ 8 + (6 + 11) + (rmL_addType o1 p1 p2 p3 p4 v).locals ≤ R.locals) (hcs : cells + (kkL_addType o1 p1 p2 p3 p4 v) ≤ R.cells ∧ slots + (kkL_addType o1 p1 p2 p3 p4 v) ≤ R.slots) (hdg : decode cc pc = .ok (.invokestatic idx, 3)) (kk : ∀ (d : Nat → Nat) (H1 : Heap) (locs1 : List Loc) (v1 : vSt), v1 = (fL_addType o1 p1 p2 p3 p4 v).2 → Hp G d v1 x H1 → va_S (gA G) s.heap H1 locs1 → W p l e R s m args below meth c H1 locs1 (cells + (kkL_addType o1 p1 p2 p3 p4 v)) (slots + (kkL_addType o1 p1 p2 p3 p4 v)) Q (F0 m (pc + 3) ls (.int (fL_addType o1 p1 p2 p3 p4 v).1 :: rest))) : W p l e R s m args below meth c H locs cells slots Q (F0 m pc ls (.int p4 :: .int p3 :: .int p2 :: .int p1 :: .ref (ga G o1) :: rest)) := c_li (runLS (kp := 5) X.1 X.2.1 X.2.2.1 X.2.2.2.1 X.2.2.2.2.1 (mL_addType l hst G da v x o1 hk_o1 p1 p2 p3 p4 ho) pN_bl hml t_st_L_addType t_ini_VernierDrawersLaw t_code_L_addType ⟨by decide, by decide, by decide +kernel⟩ rfl rfl hR hcs (preN X hN hS hH) rfl hls rfl hsum hdg) hS (fun d9 H9 L9 hH9 => kk d9 H9 L9 _ rfl hH9)
def fL_bring (o1 : Nat) (p1 : Int32) (p2 : Int32) (v : vSt) : Int32 × vSt := if (fX10_bring o1 p1 p2 v).1 = 0 then (let v4 : vSt := (fX10_bring o1 p1 p2 v).2.2; ((fX10_bring o1 p1 p2 v).2.1, gM v4 (fX11_bring 461 p1 p2 v4).2)) else (let v4 : vSt := (fX10_bring o1 p1 p2 v).2.2; if (fX10_bring o1 p1 p2 v).1 = 1 then (((-100102), gM v4 (fX11_bring 461 p1 p2 v4).2)) else (((-100103), gM v4 (fX11_bring 461 p1 p2 v4).2)))
def kkL_bring (o1 : Nat) (p1 : Int32) (p2 : Int32) (v : vSt) : Nat := pot ((fL_bring o1 p1 p2 v).2) - pot v + 36
def oL_bring (o1 : Nat) (p1 : Int32) (p2 : Int32) (v : vSt) : Prop := (oX10_bring o1 p1 p2 v) ∧ ((0 + kkX10_bring o1 p1 p2 v ≤ kkL_bring o1 p1 p2 v) ∧ (¬ ((fX10_bring o1 p1 p2 v).1 = 0) → (∀ v4 : vSt, v4 = ((fX10_bring o1 p1 p2 v).2.2) → (¬ ((fX10_bring o1 p1 p2 v).1 = 1) → ((fX10_bring o1 p1 p2 v).1 = 2)))))
abbrev rmL_bring (o1 : Nat) (p1 : Int32) (p2 : Int32) (v : vSt) : Room := { frames := 8, cells := kkL_bring o1 p1 p2 v, slots := kkL_bring o1 p1 p2 v, locals := 218 }
theorem dL_bring_0 : decode cL_bring 0 = .ok (.aload_n 0, 1) := by decide +kernel
theorem dL_bring_1 : decode cL_bring 1 = .ok (.iload_n 1, 1) := by decide +kernel
theorem dL_bring_2 : decode cL_bring 2 = .ok (.iload_n 2, 1) := by decide +kernel
theorem dL_bring_3 : decode cL_bring 3 = .ok (.invokevirtual 43, 3) := by decide +kernel
theorem dL_bring_6 : decode cL_bring 6 = .ok (.ireturn, 1) := by decide +kernel
theorem dL_bring_7 : decode cL_bring 7 = .ok (.astore_n 3, 1) := by decide +kernel
theorem dL_bring_8 : decode cL_bring 8 = .ok (.ldc 17, 2) := by decide +kernel
theorem dL_bring_10 : decode cL_bring 10 = .ok (.ireturn, 1) := by decide +kernel
theorem dL_bring_11 : decode cL_bring 11 = .ok (.astore_n 3, 1) := by decide +kernel
theorem dL_bring_12 : decode cL_bring 12 = .ok (.ldc 20, 2) := by decide +kernel
theorem dL_bring_14 : decode cL_bring 14 = .ok (.ireturn, 1) := by decide +kernel
set_option maxHeartbeats 8000000 in
set_option maxRecDepth 100000 in
theorem mL_bring (l : Launch) (hst : l.stackTraces = false) (G : gG) (da : Nat → Nat) (v : vSt) (x : gX) (o1 : Nat) (hk_o1 : kd o1 = 10) (p1 : Int32) (p2 : Int32) (ho : oL_bring o1 p1 p2 v) : LI l yL_bring cL_bring 4 [((0 : Nat), (6 : Nat), (7 : Nat), (15 : Nat)), ((0 : Nat), (6 : Nat), (11 : Nat), (18 : Nat))] (rmL_bring o1 p1 p2 v) [.ref (ga G o1), .int p1, .int p2] G da v x (kkL_bring o1 p1 p2 v) (kkL_bring o1 p1 p2 v) (fL_bring o1 p1 p2 v).1 (fL_bring o1 p1 p2 v).2 x := by
  refine gofL (by decide) rfl (Nat.le_of_ble_eq_true rfl) (fun p e s m args below meth c ls Q X hN htab hH hl E => ?_)
  have hx := X.1
  have hb := X.2.1
  have hown := X.2.2.2.1
  have hts := X.2.2.2.2.1
  have hS : va_S (gA G) s.heap s.heap [] := va_S.rf
  unfold oL_bring at ho
  have hl : lv_has ls 4 [(0, .ref (ga G o1)), (1, .int p1), (2, .int p2)] := hl
  refine lv_aload_n hx hb dL_bring_0 rfl (lv_at hl 0 rfl) ?_
  refine lv_iload_n hx hb dL_bring_1 rfl (lv_at hl 1 rfl) ?_
  refine lv_iload_n hx hb dL_bring_2 rfl (lv_at hl 2 rfl) ?_
  have hq1 := ho.1
  have ho := ho.2
  have hq2 := ho.1
  have ho := ho.2
  refine k_X10_bring hst X hS hH hk_o1 hq1 t_ml_VernierDrawersLaw_43 hl.1 (Nat.le_of_ble_eq_true rfl) ⟨Nat.le_of_ble_eq_true rfl, Nat.le_of_ble_eq_true rfl⟩ ⟨hq2, hq2⟩ dL_bring_3 (fun c3 da ce9 q9 H locs v4 ev4 hH hS g1 g2 g3 => ?_) (fun c3 da H locs v4 ev4 hH hS => ?_)
  · have ho := ho c3
    have ho := ho v4 ev4
    refine (Decidable.em ((fX10_bring o1 p1 p2 v).1 = 1)).elim (fun c5 => ?_) (fun c5 => ?_)
    · skip
      refine t_c1 (k := 1) X htab rfl g1 g2 (c5 ▸ g3) ?_
      refine lv_astore_n (lv' := [(3, .ref q9), (0, .ref (ga G o1)), (1, .int p1), (2, .int p2)]) hx hb dL_bring_7 rfl hl (by decide) rfl (fun ls hl => ?_)
      refine lv_ldc (v := (-100102)) hx hb hown (hts _ t_con_VernierDrawersLaw_17) dL_bring_8 ?_
      have hHz := hH
      have hSz := hS
      replace ev4 := Eq.symm ev4
      subst ev4
      exact E _ _ _ _ _ _ _ _ _ _ dL_bring_10 (pr1 ((fL_bring.eq_1 _ _ _ _).trans ((if_neg c3).trans ((if_pos c5).trans rfl)))) (pr2 ((fL_bring.eq_1 _ _ _ _).trans ((if_neg c3).trans ((if_pos c5).trans rfl)))) rfl (hHz.gh (fun r hr => gM_lo hr)) hSz hq2 hq2
    · have ho := ho c5
      have hq6 := ho
      refine t_c2 (k := 2) X hN htab (by decide) rfl g1 g2 (hq6 ▸ g3) ?_
      refine lv_astore_n (lv' := [(3, .ref q9), (0, .ref (ga G o1)), (1, .int p1), (2, .int p2)]) hx hb dL_bring_11 rfl hl (by decide) rfl (fun ls hl => ?_)
      refine lv_ldc (v := (-100103)) hx hb hown (hts _ t_con_VernierDrawersLaw_20) dL_bring_12 ?_
      have hHz := hH
      have hSz := hS
      replace ev4 := Eq.symm ev4
      subst ev4
      exact E _ _ _ _ _ _ _ _ _ _ dL_bring_14 (pr1 ((fL_bring.eq_1 _ _ _ _).trans ((if_neg c3).trans ((if_neg c5).trans rfl)))) (pr2 ((fL_bring.eq_1 _ _ _ _).trans ((if_neg c3).trans ((if_neg c5).trans rfl)))) rfl (hHz.gh (fun r hr => gM_lo hr)) hSz hq2 hq2
  · skip
    have hHz := hH
    have hSz := hS
    replace ev4 := Eq.symm ev4
    subst ev4
    exact E _ _ _ _ _ _ _ _ _ _ dL_bring_6 (pr1 ((fL_bring.eq_1 _ _ _ _).trans ((if_pos c3).trans rfl))) (pr2 ((fL_bring.eq_1 _ _ _ _).trans ((if_pos c3).trans rfl))) rfl (hHz.gh (fun r hr => gM_lo hr)) hSz hq2 hq2
theorem k_L_bring {p : Program} {l : Launch} {e : Env} {R : Room} {s : State} {m : MethodId} {args : Array Value} {below : List Frame} {meth : Method} {c : Code} {H : Heap} {locs : List Loc} {cells slots : Nat} {Q : State → Prop} {cc : ByteArray} {pc nL : Nat} {ls : Array Slot} {rest : List Value} {G : gG} {own : String} {da : Nat → Nat} {v : vSt} {x : gX} (hst : l.stackTraces = false) (X : CX G p s m args c cc nL own) (hS : va_S (gA G) s.heap H locs) (hN : NC s) (hH : Hp G da v x H) {o1 : Nat} (hk_o1 : kd o1 = 10) {p1 : Int32} {p2 : Int32} (ho : oL_bring o1 p1 p2 v) {idx : Nat} (hml : Cond.methodLink own idx yL_bring ∈ TT) (hls : ls.size = nL) (hsum : (rest.map fun v => v.category).sum ≤ 8) (hR : (rmL_bring o1 p1 p2 v).frames + 1 ≤ R.frames ∧ 8 + (4 + 11) + (rmL_bring o1 p1 p2 v).locals ≤ R.locals) (hcs : cells + (kkL_bring o1 p1 p2 v) ≤ R.cells ∧ slots + (kkL_bring o1 p1 p2 v) ≤ R.slots) (hdg : decode cc pc = .ok (.invokestatic idx, 3)) (kk : ∀ (d : Nat → Nat) (H1 : Heap) (locs1 : List Loc) (v1 : vSt), v1 = (fL_bring o1 p1 p2 v).2 → Hp G d v1 x H1 → va_S (gA G) s.heap H1 locs1 → W p l e R s m args below meth c H1 locs1 (cells + (kkL_bring o1 p1 p2 v)) (slots + (kkL_bring o1 p1 p2 v)) Q (F0 m (pc + 3) ls (.int (fL_bring o1 p1 p2 v).1 :: rest))) : W p l e R s m args below meth c H locs cells slots Q (F0 m pc ls (.int p2 :: .int p1 :: .ref (ga G o1) :: rest)) := c_li (runLS (kp := 3) X.1 X.2.1 X.2.2.1 X.2.2.2.1 X.2.2.2.2.1 (mL_bring l hst G da v x o1 hk_o1 p1 p2 ho) pN_bl hml t_st_L_bring t_ini_VernierDrawersLaw t_code_L_bring ⟨by decide, by decide, by decide +kernel⟩ rfl rfl hR hcs (preN X hN hS hH) rfl hls rfl hsum hdg) hS (fun d9 H9 L9 hH9 => kk d9 H9 L9 _ rfl hH9)
def fL_judge (o1 : Nat) (p1 : Int32) (v : vSt) : Int32 × vSt := if (fX10_judge o1 p1 v).1 = 0 then (let v4 : vSt := (fX10_judge o1 p1 v).2.2; ((fX10_judge o1 p1 v).2.1, gM v4 (fX11_judge 461 p1 v4).2)) else (let v4 : vSt := (fX10_judge o1 p1 v).2.2; if (fX10_judge o1 p1 v).1 = 1 then (((-100102), gM v4 (fX11_judge 461 p1 v4).2)) else (((-100103), gM v4 (fX11_judge 461 p1 v4).2)))
def kkL_judge (o1 : Nat) (p1 : Int32) (v : vSt) : Nat := pot ((fL_judge o1 p1 v).2) - pot v + 36
def oL_judge (o1 : Nat) (p1 : Int32) (v : vSt) : Prop := (oX10_judge o1 p1 v) ∧ ((0 + kkX10_judge o1 p1 v ≤ kkL_judge o1 p1 v) ∧ (¬ ((fX10_judge o1 p1 v).1 = 0) → (∀ v4 : vSt, v4 = ((fX10_judge o1 p1 v).2.2) → (¬ ((fX10_judge o1 p1 v).1 = 1) → ((fX10_judge o1 p1 v).1 = 2)))))
abbrev rmL_judge (o1 : Nat) (p1 : Int32) (v : vSt) : Room := { frames := 8, cells := kkL_judge o1 p1 v, slots := kkL_judge o1 p1 v, locals := 217 }
theorem dL_judge_0 : decode cL_judge 0 = .ok (.aload_n 0, 1) := by decide +kernel
theorem dL_judge_1 : decode cL_judge 1 = .ok (.iload_n 1, 1) := by decide +kernel
theorem dL_judge_2 : decode cL_judge 2 = .ok (.invokevirtual 46, 3) := by decide +kernel
theorem dL_judge_5 : decode cL_judge 5 = .ok (.ireturn, 1) := by decide +kernel
theorem dL_judge_6 : decode cL_judge 6 = .ok (.astore_n 2, 1) := by decide +kernel
theorem dL_judge_7 : decode cL_judge 7 = .ok (.ldc 17, 2) := by decide +kernel
theorem dL_judge_9 : decode cL_judge 9 = .ok (.ireturn, 1) := by decide +kernel
theorem dL_judge_10 : decode cL_judge 10 = .ok (.astore_n 2, 1) := by decide +kernel
theorem dL_judge_11 : decode cL_judge 11 = .ok (.ldc 20, 2) := by decide +kernel
theorem dL_judge_13 : decode cL_judge 13 = .ok (.ireturn, 1) := by decide +kernel
set_option maxHeartbeats 8000000 in
set_option maxRecDepth 100000 in
theorem mL_judge (l : Launch) (hst : l.stackTraces = false) (G : gG) (da : Nat → Nat) (v : vSt) (x : gX) (o1 : Nat) (hk_o1 : kd o1 = 10) (p1 : Int32) (ho : oL_judge o1 p1 v) : LI l yL_judge cL_judge 3 [((0 : Nat), (5 : Nat), (6 : Nat), (15 : Nat)), ((0 : Nat), (5 : Nat), (10 : Nat), (18 : Nat))] (rmL_judge o1 p1 v) [.ref (ga G o1), .int p1] G da v x (kkL_judge o1 p1 v) (kkL_judge o1 p1 v) (fL_judge o1 p1 v).1 (fL_judge o1 p1 v).2 x := by
  refine gofL (by decide) rfl (Nat.le_of_ble_eq_true rfl) (fun p e s m args below meth c ls Q X hN htab hH hl E => ?_)
  have hx := X.1
  have hb := X.2.1
  have hown := X.2.2.2.1
  have hts := X.2.2.2.2.1
  have hS : va_S (gA G) s.heap s.heap [] := va_S.rf
  unfold oL_judge at ho
  have hl : lv_has ls 3 [(0, .ref (ga G o1)), (1, .int p1)] := hl
  refine lv_aload_n hx hb dL_judge_0 rfl (lv_at hl 0 rfl) ?_
  refine lv_iload_n hx hb dL_judge_1 rfl (lv_at hl 1 rfl) ?_
  have hq1 := ho.1
  have ho := ho.2
  have hq2 := ho.1
  have ho := ho.2
  refine k_X10_judge hst X hS hH hk_o1 hq1 t_ml_VernierDrawersLaw_46 hl.1 (Nat.le_of_ble_eq_true rfl) ⟨Nat.le_of_ble_eq_true rfl, Nat.le_of_ble_eq_true rfl⟩ ⟨hq2, hq2⟩ dL_judge_2 (fun c3 da ce9 q9 H locs v4 ev4 hH hS g1 g2 g3 => ?_) (fun c3 da H locs v4 ev4 hH hS => ?_)
  · have ho := ho c3
    have ho := ho v4 ev4
    refine (Decidable.em ((fX10_judge o1 p1 v).1 = 1)).elim (fun c5 => ?_) (fun c5 => ?_)
    · skip
      refine t_c1 (k := 1) X htab rfl g1 g2 (c5 ▸ g3) ?_
      refine lv_astore_n (lv' := [(2, .ref q9), (0, .ref (ga G o1)), (1, .int p1)]) hx hb dL_judge_6 rfl hl (by decide) rfl (fun ls hl => ?_)
      refine lv_ldc (v := (-100102)) hx hb hown (hts _ t_con_VernierDrawersLaw_17) dL_judge_7 ?_
      have hHz := hH
      have hSz := hS
      replace ev4 := Eq.symm ev4
      subst ev4
      exact E _ _ _ _ _ _ _ _ _ _ dL_judge_9 (pr1 ((fL_judge.eq_1 _ _ _).trans ((if_neg c3).trans ((if_pos c5).trans rfl)))) (pr2 ((fL_judge.eq_1 _ _ _).trans ((if_neg c3).trans ((if_pos c5).trans rfl)))) rfl (hHz.gh (fun r hr => gM_lo hr)) hSz hq2 hq2
    · have ho := ho c5
      have hq6 := ho
      refine t_c2 (k := 2) X hN htab (by decide) rfl g1 g2 (hq6 ▸ g3) ?_
      refine lv_astore_n (lv' := [(2, .ref q9), (0, .ref (ga G o1)), (1, .int p1)]) hx hb dL_judge_10 rfl hl (by decide) rfl (fun ls hl => ?_)
      refine lv_ldc (v := (-100103)) hx hb hown (hts _ t_con_VernierDrawersLaw_20) dL_judge_11 ?_
      have hHz := hH
      have hSz := hS
      replace ev4 := Eq.symm ev4
      subst ev4
      exact E _ _ _ _ _ _ _ _ _ _ dL_judge_13 (pr1 ((fL_judge.eq_1 _ _ _).trans ((if_neg c3).trans ((if_neg c5).trans rfl)))) (pr2 ((fL_judge.eq_1 _ _ _).trans ((if_neg c3).trans ((if_neg c5).trans rfl)))) rfl (hHz.gh (fun r hr => gM_lo hr)) hSz hq2 hq2
  · skip
    have hHz := hH
    have hSz := hS
    replace ev4 := Eq.symm ev4
    subst ev4
    exact E _ _ _ _ _ _ _ _ _ _ dL_judge_5 (pr1 ((fL_judge.eq_1 _ _ _).trans ((if_pos c3).trans rfl))) (pr2 ((fL_judge.eq_1 _ _ _).trans ((if_pos c3).trans rfl))) rfl (hHz.gh (fun r hr => gM_lo hr)) hSz hq2 hq2
theorem k_L_judge {p : Program} {l : Launch} {e : Env} {R : Room} {s : State} {m : MethodId} {args : Array Value} {below : List Frame} {meth : Method} {c : Code} {H : Heap} {locs : List Loc} {cells slots : Nat} {Q : State → Prop} {cc : ByteArray} {pc nL : Nat} {ls : Array Slot} {rest : List Value} {G : gG} {own : String} {da : Nat → Nat} {v : vSt} {x : gX} (hst : l.stackTraces = false) (X : CX G p s m args c cc nL own) (hS : va_S (gA G) s.heap H locs) (hN : NC s) (hH : Hp G da v x H) {o1 : Nat} (hk_o1 : kd o1 = 10) {p1 : Int32} (ho : oL_judge o1 p1 v) {idx : Nat} (hml : Cond.methodLink own idx yL_judge ∈ TT) (hls : ls.size = nL) (hsum : (rest.map fun v => v.category).sum ≤ 8) (hR : (rmL_judge o1 p1 v).frames + 1 ≤ R.frames ∧ 8 + (3 + 11) + (rmL_judge o1 p1 v).locals ≤ R.locals) (hcs : cells + (kkL_judge o1 p1 v) ≤ R.cells ∧ slots + (kkL_judge o1 p1 v) ≤ R.slots) (hdg : decode cc pc = .ok (.invokestatic idx, 3)) (kk : ∀ (d : Nat → Nat) (H1 : Heap) (locs1 : List Loc) (v1 : vSt), v1 = (fL_judge o1 p1 v).2 → Hp G d v1 x H1 → va_S (gA G) s.heap H1 locs1 → W p l e R s m args below meth c H1 locs1 (cells + (kkL_judge o1 p1 v)) (slots + (kkL_judge o1 p1 v)) Q (F0 m (pc + 3) ls (.int (fL_judge o1 p1 v).1 :: rest))) : W p l e R s m args below meth c H locs cells slots Q (F0 m pc ls (.int p1 :: .ref (ga G o1) :: rest)) := c_li (runLS (kp := 2) X.1 X.2.1 X.2.2.1 X.2.2.2.1 X.2.2.2.2.1 (mL_judge l hst G da v x o1 hk_o1 p1 ho) pN_bl hml t_st_L_judge t_ini_VernierDrawersLaw t_code_L_judge ⟨by decide, by decide, by decide +kernel⟩ rfl rfl hR hcs (preN X hN hS hH) rfl hls rfl hsum hdg) hS (fun d9 H9 L9 hH9 => kk d9 H9 L9 _ rfl hH9)
def fL_file (o1 : Nat) (p1 : Int32) (v : vSt) : Int32 × vSt := if (fX10_file o1 p1 v).1 = 0 then (let v4 : vSt := (fX10_file o1 p1 v).2.2; ((fX10_file o1 p1 v).2.1, gM v4 (fX11_file 461 p1 v4).2)) else (let v4 : vSt := (fX10_file o1 p1 v).2.2; if (fX10_file o1 p1 v).1 = 1 then (((-100102), gM v4 (fX11_file 461 p1 v4).2)) else (((-100103), gM v4 (fX11_file 461 p1 v4).2)))
def kkL_file (o1 : Nat) (p1 : Int32) (v : vSt) : Nat := pot ((fL_file o1 p1 v).2) - pot v + 36
def oL_file (o1 : Nat) (p1 : Int32) (v : vSt) : Prop := (oX10_file o1 p1 v) ∧ ((0 + kkX10_file o1 p1 v ≤ kkL_file o1 p1 v) ∧ (¬ ((fX10_file o1 p1 v).1 = 0) → (∀ v4 : vSt, v4 = ((fX10_file o1 p1 v).2.2) → (¬ ((fX10_file o1 p1 v).1 = 1) → ((fX10_file o1 p1 v).1 = 2)))))
abbrev rmL_file (o1 : Nat) (p1 : Int32) (v : vSt) : Room := { frames := 8, cells := kkL_file o1 p1 v, slots := kkL_file o1 p1 v, locals := 217 }
theorem dL_file_0 : decode cL_file 0 = .ok (.aload_n 0, 1) := by decide +kernel
theorem dL_file_1 : decode cL_file 1 = .ok (.iload_n 1, 1) := by decide +kernel
theorem dL_file_2 : decode cL_file 2 = .ok (.invokevirtual 49, 3) := by decide +kernel
theorem dL_file_5 : decode cL_file 5 = .ok (.ireturn, 1) := by decide +kernel
theorem dL_file_6 : decode cL_file 6 = .ok (.astore_n 2, 1) := by decide +kernel
theorem dL_file_7 : decode cL_file 7 = .ok (.ldc 17, 2) := by decide +kernel
theorem dL_file_9 : decode cL_file 9 = .ok (.ireturn, 1) := by decide +kernel
theorem dL_file_10 : decode cL_file 10 = .ok (.astore_n 2, 1) := by decide +kernel
theorem dL_file_11 : decode cL_file 11 = .ok (.ldc 20, 2) := by decide +kernel
theorem dL_file_13 : decode cL_file 13 = .ok (.ireturn, 1) := by decide +kernel
set_option maxHeartbeats 8000000 in
set_option maxRecDepth 100000 in
theorem mL_file (l : Launch) (hst : l.stackTraces = false) (G : gG) (da : Nat → Nat) (v : vSt) (x : gX) (o1 : Nat) (hk_o1 : kd o1 = 10) (p1 : Int32) (ho : oL_file o1 p1 v) : LI l yL_file cL_file 3 [((0 : Nat), (5 : Nat), (6 : Nat), (15 : Nat)), ((0 : Nat), (5 : Nat), (10 : Nat), (18 : Nat))] (rmL_file o1 p1 v) [.ref (ga G o1), .int p1] G da v x (kkL_file o1 p1 v) (kkL_file o1 p1 v) (fL_file o1 p1 v).1 (fL_file o1 p1 v).2 x := by
  refine gofL (by decide) rfl (Nat.le_of_ble_eq_true rfl) (fun p e s m args below meth c ls Q X hN htab hH hl E => ?_)
  have hx := X.1
  have hb := X.2.1
  have hown := X.2.2.2.1
  have hts := X.2.2.2.2.1
  have hS : va_S (gA G) s.heap s.heap [] := va_S.rf
  unfold oL_file at ho
  have hl : lv_has ls 3 [(0, .ref (ga G o1)), (1, .int p1)] := hl
  refine lv_aload_n hx hb dL_file_0 rfl (lv_at hl 0 rfl) ?_
  refine lv_iload_n hx hb dL_file_1 rfl (lv_at hl 1 rfl) ?_
  have hq1 := ho.1
  have ho := ho.2
  have hq2 := ho.1
  have ho := ho.2
  refine k_X10_file hst X hS hH hk_o1 hq1 t_ml_VernierDrawersLaw_49 hl.1 (Nat.le_of_ble_eq_true rfl) ⟨Nat.le_of_ble_eq_true rfl, Nat.le_of_ble_eq_true rfl⟩ ⟨hq2, hq2⟩ dL_file_2 (fun c3 da ce9 q9 H locs v4 ev4 hH hS g1 g2 g3 => ?_) (fun c3 da H locs v4 ev4 hH hS => ?_)
  · have ho := ho c3
    have ho := ho v4 ev4
    refine (Decidable.em ((fX10_file o1 p1 v).1 = 1)).elim (fun c5 => ?_) (fun c5 => ?_)
    · skip
      refine t_c1 (k := 1) X htab rfl g1 g2 (c5 ▸ g3) ?_
      refine lv_astore_n (lv' := [(2, .ref q9), (0, .ref (ga G o1)), (1, .int p1)]) hx hb dL_file_6 rfl hl (by decide) rfl (fun ls hl => ?_)
      refine lv_ldc (v := (-100102)) hx hb hown (hts _ t_con_VernierDrawersLaw_17) dL_file_7 ?_
      have hHz := hH
      have hSz := hS
      replace ev4 := Eq.symm ev4
      subst ev4
      exact E _ _ _ _ _ _ _ _ _ _ dL_file_9 (pr1 ((fL_file.eq_1 _ _ _).trans ((if_neg c3).trans ((if_pos c5).trans rfl)))) (pr2 ((fL_file.eq_1 _ _ _).trans ((if_neg c3).trans ((if_pos c5).trans rfl)))) rfl (hHz.gh (fun r hr => gM_lo hr)) hSz hq2 hq2
    · have ho := ho c5
      have hq6 := ho
      refine t_c2 (k := 2) X hN htab (by decide) rfl g1 g2 (hq6 ▸ g3) ?_
      refine lv_astore_n (lv' := [(2, .ref q9), (0, .ref (ga G o1)), (1, .int p1)]) hx hb dL_file_10 rfl hl (by decide) rfl (fun ls hl => ?_)
      refine lv_ldc (v := (-100103)) hx hb hown (hts _ t_con_VernierDrawersLaw_20) dL_file_11 ?_
      have hHz := hH
      have hSz := hS
      replace ev4 := Eq.symm ev4
      subst ev4
      exact E _ _ _ _ _ _ _ _ _ _ dL_file_13 (pr1 ((fL_file.eq_1 _ _ _).trans ((if_neg c3).trans ((if_neg c5).trans rfl)))) (pr2 ((fL_file.eq_1 _ _ _).trans ((if_neg c3).trans ((if_neg c5).trans rfl)))) rfl (hHz.gh (fun r hr => gM_lo hr)) hSz hq2 hq2
  · skip
    have hHz := hH
    have hSz := hS
    replace ev4 := Eq.symm ev4
    subst ev4
    exact E _ _ _ _ _ _ _ _ _ _ dL_file_5 (pr1 ((fL_file.eq_1 _ _ _).trans ((if_pos c3).trans rfl))) (pr2 ((fL_file.eq_1 _ _ _).trans ((if_pos c3).trans rfl))) rfl (hHz.gh (fun r hr => gM_lo hr)) hSz hq2 hq2
theorem k_L_file {p : Program} {l : Launch} {e : Env} {R : Room} {s : State} {m : MethodId} {args : Array Value} {below : List Frame} {meth : Method} {c : Code} {H : Heap} {locs : List Loc} {cells slots : Nat} {Q : State → Prop} {cc : ByteArray} {pc nL : Nat} {ls : Array Slot} {rest : List Value} {G : gG} {own : String} {da : Nat → Nat} {v : vSt} {x : gX} (hst : l.stackTraces = false) (X : CX G p s m args c cc nL own) (hS : va_S (gA G) s.heap H locs) (hN : NC s) (hH : Hp G da v x H) {o1 : Nat} (hk_o1 : kd o1 = 10) {p1 : Int32} (ho : oL_file o1 p1 v) {idx : Nat} (hml : Cond.methodLink own idx yL_file ∈ TT) (hls : ls.size = nL) (hsum : (rest.map fun v => v.category).sum ≤ 8) (hR : (rmL_file o1 p1 v).frames + 1 ≤ R.frames ∧ 8 + (3 + 11) + (rmL_file o1 p1 v).locals ≤ R.locals) (hcs : cells + (kkL_file o1 p1 v) ≤ R.cells ∧ slots + (kkL_file o1 p1 v) ≤ R.slots) (hdg : decode cc pc = .ok (.invokestatic idx, 3)) (kk : ∀ (d : Nat → Nat) (H1 : Heap) (locs1 : List Loc) (v1 : vSt), v1 = (fL_file o1 p1 v).2 → Hp G d v1 x H1 → va_S (gA G) s.heap H1 locs1 → W p l e R s m args below meth c H1 locs1 (cells + (kkL_file o1 p1 v)) (slots + (kkL_file o1 p1 v)) Q (F0 m (pc + 3) ls (.int (fL_file o1 p1 v).1 :: rest))) : W p l e R s m args below meth c H locs cells slots Q (F0 m pc ls (.int p1 :: .ref (ga G o1) :: rest)) := c_li (runLS (kp := 2) X.1 X.2.1 X.2.2.1 X.2.2.2.1 X.2.2.2.2.1 (mL_file l hst G da v x o1 hk_o1 p1 ho) pN_bl hml t_st_L_file t_ini_VernierDrawersLaw t_code_L_file ⟨by decide, by decide, by decide +kernel⟩ rfl rfl hR hcs (preN X hN hS hH) rfl hls rfl hsum hdg) hS (fun d9 H9 L9 hH9 => kk d9 H9 L9 _ rfl hH9)
def fL_passUnseen (o1 : Nat) (v : vSt) : Int32 × vSt := if (fX10_passUnseen o1 v).1 = 0 then (let v4 : vSt := (fX10_passUnseen o1 v).2.2; ((fX10_passUnseen o1 v).2.1, gM v4 (fX11_passUnseen 461 v4).2)) else (let v4 : vSt := (fX10_passUnseen o1 v).2.2; ((-100103), gM v4 (fX11_passUnseen 461 v4).2))
def kkL_passUnseen (o1 : Nat) (v : vSt) : Nat := pot ((fL_passUnseen o1 v).2) - pot v + 36
def oL_passUnseen (o1 : Nat) (v : vSt) : Prop := (oX10_passUnseen o1 v) ∧ ((0 + kkX10_passUnseen o1 v ≤ kkL_passUnseen o1 v) ∧ (¬ ((fX10_passUnseen o1 v).1 = 0) → (∀ v4 : vSt, v4 = ((fX10_passUnseen o1 v).2.2) → ((fX10_passUnseen o1 v).1 = 2))))
abbrev rmL_passUnseen (o1 : Nat) (v : vSt) : Room := { frames := 8, cells := kkL_passUnseen o1 v, slots := kkL_passUnseen o1 v, locals := 216 }
theorem dL_passUnseen_0 : decode cL_passUnseen 0 = .ok (.aload_n 0, 1) := by decide +kernel
theorem dL_passUnseen_1 : decode cL_passUnseen 1 = .ok (.invokevirtual 52, 3) := by decide +kernel
theorem dL_passUnseen_4 : decode cL_passUnseen 4 = .ok (.ireturn, 1) := by decide +kernel
theorem dL_passUnseen_5 : decode cL_passUnseen 5 = .ok (.astore_n 1, 1) := by decide +kernel
theorem dL_passUnseen_6 : decode cL_passUnseen 6 = .ok (.ldc 20, 2) := by decide +kernel
theorem dL_passUnseen_8 : decode cL_passUnseen 8 = .ok (.ireturn, 1) := by decide +kernel
set_option maxHeartbeats 8000000 in
set_option maxRecDepth 100000 in
theorem mL_passUnseen (l : Launch) (hst : l.stackTraces = false) (G : gG) (da : Nat → Nat) (v : vSt) (x : gX) (o1 : Nat) (hk_o1 : kd o1 = 10) (ho : oL_passUnseen o1 v) : LI l yL_passUnseen cL_passUnseen 2 [((0 : Nat), (4 : Nat), (5 : Nat), (18 : Nat))] (rmL_passUnseen o1 v) [.ref (ga G o1)] G da v x (kkL_passUnseen o1 v) (kkL_passUnseen o1 v) (fL_passUnseen o1 v).1 (fL_passUnseen o1 v).2 x := by
  refine gofL (by decide) rfl (Nat.le_of_ble_eq_true rfl) (fun p e s m args below meth c ls Q X hN htab hH hl E => ?_)
  have hx := X.1
  have hb := X.2.1
  have hown := X.2.2.2.1
  have hts := X.2.2.2.2.1
  have hS : va_S (gA G) s.heap s.heap [] := va_S.rf
  unfold oL_passUnseen at ho
  have hl : lv_has ls 2 [(0, .ref (ga G o1))] := hl
  refine lv_aload_n hx hb dL_passUnseen_0 rfl (lv_at hl 0 rfl) ?_
  have hq1 := ho.1
  have ho := ho.2
  have hq2 := ho.1
  have ho := ho.2
  refine k_X10_passUnseen hst X hS hH hk_o1 hq1 t_ml_VernierDrawersLaw_52 hl.1 (Nat.le_of_ble_eq_true rfl) ⟨Nat.le_of_ble_eq_true rfl, Nat.le_of_ble_eq_true rfl⟩ ⟨hq2, hq2⟩ dL_passUnseen_1 (fun c3 da ce9 q9 H locs v4 ev4 hH hS g1 g2 g3 => ?_) (fun c3 da H locs v4 ev4 hH hS => ?_)
  · have ho := ho c3
    have ho := ho v4 ev4
    have hq5 := ho
    refine t_c1 (k := 2) X htab rfl g1 g2 (hq5 ▸ g3) ?_
    refine lv_astore_n (lv' := [(1, .ref q9), (0, .ref (ga G o1))]) hx hb dL_passUnseen_5 rfl hl (by decide) rfl (fun ls hl => ?_)
    refine lv_ldc (v := (-100103)) hx hb hown (hts _ t_con_VernierDrawersLaw_20) dL_passUnseen_6 ?_
    have hHz := hH
    have hSz := hS
    replace ev4 := Eq.symm ev4
    subst ev4
    exact E _ _ _ _ _ _ _ _ _ _ dL_passUnseen_8 (pr1 ((fL_passUnseen.eq_1 _ _).trans ((if_neg c3).trans rfl))) (pr2 ((fL_passUnseen.eq_1 _ _).trans ((if_neg c3).trans rfl))) rfl (hHz.gh (fun r hr => gM_lo hr)) hSz hq2 hq2
  · skip
    have hHz := hH
    have hSz := hS
    replace ev4 := Eq.symm ev4
    subst ev4
    exact E _ _ _ _ _ _ _ _ _ _ dL_passUnseen_4 (pr1 ((fL_passUnseen.eq_1 _ _).trans ((if_pos c3).trans rfl))) (pr2 ((fL_passUnseen.eq_1 _ _).trans ((if_pos c3).trans rfl))) rfl (hHz.gh (fun r hr => gM_lo hr)) hSz hq2 hq2
theorem k_L_passUnseen {p : Program} {l : Launch} {e : Env} {R : Room} {s : State} {m : MethodId} {args : Array Value} {below : List Frame} {meth : Method} {c : Code} {H : Heap} {locs : List Loc} {cells slots : Nat} {Q : State → Prop} {cc : ByteArray} {pc nL : Nat} {ls : Array Slot} {rest : List Value} {G : gG} {own : String} {da : Nat → Nat} {v : vSt} {x : gX} (hst : l.stackTraces = false) (X : CX G p s m args c cc nL own) (hS : va_S (gA G) s.heap H locs) (hN : NC s) (hH : Hp G da v x H) {o1 : Nat} (hk_o1 : kd o1 = 10) (ho : oL_passUnseen o1 v) {idx : Nat} (hml : Cond.methodLink own idx yL_passUnseen ∈ TT) (hls : ls.size = nL) (hsum : (rest.map fun v => v.category).sum ≤ 8) (hR : (rmL_passUnseen o1 v).frames + 1 ≤ R.frames ∧ 8 + (2 + 11) + (rmL_passUnseen o1 v).locals ≤ R.locals) (hcs : cells + (kkL_passUnseen o1 v) ≤ R.cells ∧ slots + (kkL_passUnseen o1 v) ≤ R.slots) (hdg : decode cc pc = .ok (.invokestatic idx, 3)) (kk : ∀ (d : Nat → Nat) (H1 : Heap) (locs1 : List Loc) (v1 : vSt), v1 = (fL_passUnseen o1 v).2 → Hp G d v1 x H1 → va_S (gA G) s.heap H1 locs1 → W p l e R s m args below meth c H1 locs1 (cells + (kkL_passUnseen o1 v)) (slots + (kkL_passUnseen o1 v)) Q (F0 m (pc + 3) ls (.int (fL_passUnseen o1 v).1 :: rest))) : W p l e R s m args below meth c H locs cells slots Q (F0 m pc ls (.ref (ga G o1) :: rest)) := c_li (runLS (kp := 1) X.1 X.2.1 X.2.2.1 X.2.2.2.1 X.2.2.2.2.1 (mL_passUnseen l hst G da v x o1 hk_o1 ho) pN_bl hml t_st_L_passUnseen t_ini_VernierDrawersLaw t_code_L_passUnseen ⟨by decide, by decide, by decide +kernel⟩ rfl rfl hR hcs (preN X hN hS hH) rfl hls rfl hsum hdg) hS (fun d9 H9 L9 hH9 => kk d9 H9 L9 _ rfl hH9)
def fL_throwOut (o1 : Nat) (p1 : Int32) (v : vSt) : Int32 × vSt := if (fX10_throwOut o1 p1 v).1 = 0 then (let v4 : vSt := (fX10_throwOut o1 p1 v).2.2; ((fX10_throwOut o1 p1 v).2.1, gM v4 (fX11_throwOut 461 p1 v4).2)) else (let v4 : vSt := (fX10_throwOut o1 p1 v).2.2; ((-100102), gM v4 (fX11_throwOut 461 p1 v4).2))
def kkL_throwOut (o1 : Nat) (p1 : Int32) (v : vSt) : Nat := pot ((fL_throwOut o1 p1 v).2) - pot v + 36
def oL_throwOut (o1 : Nat) (p1 : Int32) (v : vSt) : Prop := (oX10_throwOut o1 p1 v) ∧ ((0 + kkX10_throwOut o1 p1 v ≤ kkL_throwOut o1 p1 v) ∧ (¬ ((fX10_throwOut o1 p1 v).1 = 0) → (∀ v4 : vSt, v4 = ((fX10_throwOut o1 p1 v).2.2) → ((fX10_throwOut o1 p1 v).1 = 1))))
abbrev rmL_throwOut (o1 : Nat) (p1 : Int32) (v : vSt) : Room := { frames := 8, cells := kkL_throwOut o1 p1 v, slots := kkL_throwOut o1 p1 v, locals := 218 }
theorem dL_throwOut_0 : decode cL_throwOut 0 = .ok (.aload_n 0, 1) := by decide +kernel
theorem dL_throwOut_1 : decode cL_throwOut 1 = .ok (.iload_n 1, 1) := by decide +kernel
theorem dL_throwOut_2 : decode cL_throwOut 2 = .ok (.invokevirtual 55, 3) := by decide +kernel
theorem dL_throwOut_5 : decode cL_throwOut 5 = .ok (.ireturn, 1) := by decide +kernel
theorem dL_throwOut_6 : decode cL_throwOut 6 = .ok (.astore_n 2, 1) := by decide +kernel
theorem dL_throwOut_7 : decode cL_throwOut 7 = .ok (.ldc 17, 2) := by decide +kernel
theorem dL_throwOut_9 : decode cL_throwOut 9 = .ok (.ireturn, 1) := by decide +kernel
set_option maxHeartbeats 8000000 in
set_option maxRecDepth 100000 in
theorem mL_throwOut (l : Launch) (hst : l.stackTraces = false) (G : gG) (da : Nat → Nat) (v : vSt) (x : gX) (o1 : Nat) (hk_o1 : kd o1 = 10) (p1 : Int32) (ho : oL_throwOut o1 p1 v) : LI l yL_throwOut cL_throwOut 3 [((0 : Nat), (5 : Nat), (6 : Nat), (15 : Nat))] (rmL_throwOut o1 p1 v) [.ref (ga G o1), .int p1] G da v x (kkL_throwOut o1 p1 v) (kkL_throwOut o1 p1 v) (fL_throwOut o1 p1 v).1 (fL_throwOut o1 p1 v).2 x := by
  refine gofL (by decide) rfl (Nat.le_of_ble_eq_true rfl) (fun p e s m args below meth c ls Q X hN htab hH hl E => ?_)
  have hx := X.1
  have hb := X.2.1
  have hown := X.2.2.2.1
  have hts := X.2.2.2.2.1
  have hS : va_S (gA G) s.heap s.heap [] := va_S.rf
  unfold oL_throwOut at ho
  have hl : lv_has ls 3 [(0, .ref (ga G o1)), (1, .int p1)] := hl
  refine lv_aload_n hx hb dL_throwOut_0 rfl (lv_at hl 0 rfl) ?_
  refine lv_iload_n hx hb dL_throwOut_1 rfl (lv_at hl 1 rfl) ?_
  have hq1 := ho.1
  have ho := ho.2
  have hq2 := ho.1
  have ho := ho.2
  refine k_X10_throwOut hst X hS hH hk_o1 hq1 t_ml_VernierDrawersLaw_55 hl.1 (Nat.le_of_ble_eq_true rfl) ⟨Nat.le_of_ble_eq_true rfl, Nat.le_of_ble_eq_true rfl⟩ ⟨hq2, hq2⟩ dL_throwOut_2 (fun c3 da ce9 q9 H locs v4 ev4 hH hS g1 g2 g3 => ?_) (fun c3 da H locs v4 ev4 hH hS => ?_)
  · have ho := ho c3
    have ho := ho v4 ev4
    have hq5 := ho
    refine t_c1 (k := 1) X htab rfl g1 g2 (hq5 ▸ g3) ?_
    refine lv_astore_n (lv' := [(2, .ref q9), (0, .ref (ga G o1)), (1, .int p1)]) hx hb dL_throwOut_6 rfl hl (by decide) rfl (fun ls hl => ?_)
    refine lv_ldc (v := (-100102)) hx hb hown (hts _ t_con_VernierDrawersLaw_17) dL_throwOut_7 ?_
    have hHz := hH
    have hSz := hS
    replace ev4 := Eq.symm ev4
    subst ev4
    exact E _ _ _ _ _ _ _ _ _ _ dL_throwOut_9 (pr1 ((fL_throwOut.eq_1 _ _ _).trans ((if_neg c3).trans rfl))) (pr2 ((fL_throwOut.eq_1 _ _ _).trans ((if_neg c3).trans rfl))) rfl (hHz.gh (fun r hr => gM_lo hr)) hSz hq2 hq2
  · skip
    have hHz := hH
    have hSz := hS
    replace ev4 := Eq.symm ev4
    subst ev4
    exact E _ _ _ _ _ _ _ _ _ _ dL_throwOut_5 (pr1 ((fL_throwOut.eq_1 _ _ _).trans ((if_pos c3).trans rfl))) (pr2 ((fL_throwOut.eq_1 _ _ _).trans ((if_pos c3).trans rfl))) rfl (hHz.gh (fun r hr => gM_lo hr)) hSz hq2 hq2
theorem k_L_throwOut {p : Program} {l : Launch} {e : Env} {R : Room} {s : State} {m : MethodId} {args : Array Value} {below : List Frame} {meth : Method} {c : Code} {H : Heap} {locs : List Loc} {cells slots : Nat} {Q : State → Prop} {cc : ByteArray} {pc nL : Nat} {ls : Array Slot} {rest : List Value} {G : gG} {own : String} {da : Nat → Nat} {v : vSt} {x : gX} (hst : l.stackTraces = false) (X : CX G p s m args c cc nL own) (hS : va_S (gA G) s.heap H locs) (hN : NC s) (hH : Hp G da v x H) {o1 : Nat} (hk_o1 : kd o1 = 10) {p1 : Int32} (ho : oL_throwOut o1 p1 v) {idx : Nat} (hml : Cond.methodLink own idx yL_throwOut ∈ TT) (hls : ls.size = nL) (hsum : (rest.map fun v => v.category).sum ≤ 8) (hR : (rmL_throwOut o1 p1 v).frames + 1 ≤ R.frames ∧ 8 + (3 + 11) + (rmL_throwOut o1 p1 v).locals ≤ R.locals) (hcs : cells + (kkL_throwOut o1 p1 v) ≤ R.cells ∧ slots + (kkL_throwOut o1 p1 v) ≤ R.slots) (hdg : decode cc pc = .ok (.invokestatic idx, 3)) (kk : ∀ (d : Nat → Nat) (H1 : Heap) (locs1 : List Loc) (v1 : vSt), v1 = (fL_throwOut o1 p1 v).2 → Hp G d v1 x H1 → va_S (gA G) s.heap H1 locs1 → W p l e R s m args below meth c H1 locs1 (cells + (kkL_throwOut o1 p1 v)) (slots + (kkL_throwOut o1 p1 v)) Q (F0 m (pc + 3) ls (.int (fL_throwOut o1 p1 v).1 :: rest))) : W p l e R s m args below meth c H locs cells slots Q (F0 m pc ls (.int p1 :: .ref (ga G o1) :: rest)) := c_li (runLS (kp := 2) X.1 X.2.1 X.2.2.1 X.2.2.2.1 X.2.2.2.2.1 (mL_throwOut l hst G da v x o1 hk_o1 p1 ho) pN_bl hml t_st_L_throwOut t_ini_VernierDrawersLaw t_code_L_throwOut ⟨by decide, by decide, by decide +kernel⟩ rfl rfl hR hcs (preN X hN hS hH) rfl hls rfl hsum hdg) hS (fun d9 H9 L9 hH9 => kk d9 H9 L9 _ rfl hH9)
