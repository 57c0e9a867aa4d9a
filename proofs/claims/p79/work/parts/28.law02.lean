/-! the law's methods: what catches -/
def fL_middleByTaking (o1 : Nat) (p1 : Int32) (v : vSt) : Int32 := if (fX10_middleByTaking o1 p1 v).1 = 0 then ((fX10_middleByTaking o1 p1 v).2.1) else (if (fX10_middleByTaking o1 p1 v).1 = 1 then ((-100102)) else ((-100104)))
def oL_middleByTaking (o1 : Nat) (p1 : Int32) (v : vSt) : Prop := (oX10_middleByTaking o1 p1 v) ∧ (¬ ((fX10_middleByTaking o1 p1 v).1 = 0) → (¬ ((fX10_middleByTaking o1 p1 v).1 = 1) → ((fX10_middleByTaking o1 p1 v).1 = 3)))
abbrev rmL_middleByTaking : Room := { frames := 9, cells := 36, slots := 36, locals := 154 }
theorem dL_middleByTaking_0 : decode cL_middleByTaking 0 = .ok (.aload_n 0, 1) := by decide +kernel
theorem dL_middleByTaking_1 : decode cL_middleByTaking 1 = .ok (.iload_n 1, 1) := by decide +kernel
theorem dL_middleByTaking_2 : decode cL_middleByTaking 2 = .ok (.invokevirtual 95, 3) := by decide +kernel
theorem dL_middleByTaking_5 : decode cL_middleByTaking 5 = .ok (.ireturn, 1) := by decide +kernel
theorem dL_middleByTaking_6 : decode cL_middleByTaking 6 = .ok (.astore_n 2, 1) := by decide +kernel
theorem dL_middleByTaking_7 : decode cL_middleByTaking 7 = .ok (.ldc 17, 2) := by decide +kernel
theorem dL_middleByTaking_9 : decode cL_middleByTaking 9 = .ok (.ireturn, 1) := by decide +kernel
theorem dL_middleByTaking_10 : decode cL_middleByTaking 10 = .ok (.astore_n 2, 1) := by decide +kernel
theorem dL_middleByTaking_11 : decode cL_middleByTaking 11 = .ok (.ldc 73, 2) := by decide +kernel
theorem dL_middleByTaking_13 : decode cL_middleByTaking 13 = .ok (.ireturn, 1) := by decide +kernel
set_option maxHeartbeats 8000000 in
set_option maxRecDepth 100000 in
theorem mL_middleByTaking (l : Launch) (hst : l.stackTraces = false) (G : gG) (da : Nat → Nat) (v : vSt) (x : gX) (o1 : Nat) (hk_o1 : kd o1 = 10) (p1 : Int32) (ho : oL_middleByTaking o1 p1 v) : LI l yL_middleByTaking cL_middleByTaking 3 [((0 : Nat), (5 : Nat), (6 : Nat), (15 : Nat)), ((0 : Nat), (5 : Nat), (10 : Nat), (71 : Nat))] rmL_middleByTaking [.ref (ga G o1), .int p1] G da v x 36 36 (fL_middleByTaking o1 p1 v) v x := by
  refine gofL (by decide) rfl (Nat.le_of_ble_eq_true rfl) (fun p e s m args below meth c ls Q X hN htab hH hl E => ?_)
  have hx := X.1
  have hb := X.2.1
  have hown := X.2.2.2.1
  have hts := X.2.2.2.2.1
  have hS : va_S (gA G) s.heap s.heap [] := va_S.rf
  unfold oL_middleByTaking at ho
  have hl : lv_has ls 3 [(0, .ref (ga G o1)), (1, .int p1)] := hl
  refine lv_aload_n hx hb dL_middleByTaking_0 rfl (lv_at hl 0 rfl) ?_
  refine lv_iload_n hx hb dL_middleByTaking_1 rfl (lv_at hl 1 rfl) ?_
  have hq1 := ho.1
  have ho := ho.2
  refine kU_X10_middleByTaking hst X hS hH hk_o1 hq1 t_ml_VernierDrawersLaw_95 hl.1 (Nat.le_of_ble_eq_true rfl) ⟨Nat.le_of_ble_eq_true rfl, Nat.le_of_ble_eq_true rfl⟩ ⟨(Nat.le_of_ble_eq_true rfl), (Nat.le_of_ble_eq_true rfl)⟩ dL_middleByTaking_2 (fun c2 da ce9 q9 H locs hH hS g1 g2 g3 => ?_) (fun c2 da H locs hH hS => ?_)
  · have ho := ho c2
    refine (Decidable.em ((fX10_middleByTaking o1 p1 v).1 = 1)).elim (fun c3 => ?_) (fun c3 => ?_)
    · skip
      refine t_c1 (k := 1) X htab rfl g1 g2 (c3 ▸ g3) ?_
      refine lv_astore_n (lv' := [(2, .ref q9), (0, .ref (ga G o1)), (1, .int p1)]) hx hb dL_middleByTaking_6 rfl hl (by decide) rfl (fun ls hl => ?_)
      refine lv_ldc (v := (-100102)) hx hb hown (hts _ t_con_VernierDrawersLaw_17) dL_middleByTaking_7 ?_
      exact E _ _ _ _ _ _ _ _ _ _ dL_middleByTaking_9 (Eq.symm ((fL_middleByTaking.eq_1 _ _ _).trans ((if_neg c2).trans ((if_pos c3).trans rfl)))) rfl rfl hH hS (Nat.le_of_ble_eq_true rfl) (Nat.le_of_ble_eq_true rfl)
    · have ho := ho c3
      have hq4 := ho
      refine t_c2 (k := 3) X hN htab (by decide) rfl g1 g2 (hq4 ▸ g3) ?_
      refine lv_astore_n (lv' := [(2, .ref q9), (0, .ref (ga G o1)), (1, .int p1)]) hx hb dL_middleByTaking_10 rfl hl (by decide) rfl (fun ls hl => ?_)
      refine lv_ldc (v := (-100104)) hx hb hown (hts _ t_con_VernierDrawersLaw_73) dL_middleByTaking_11 ?_
      exact E _ _ _ _ _ _ _ _ _ _ dL_middleByTaking_13 (Eq.symm ((fL_middleByTaking.eq_1 _ _ _).trans ((if_neg c2).trans ((if_neg c3).trans rfl)))) rfl rfl hH hS (Nat.le_of_ble_eq_true rfl) (Nat.le_of_ble_eq_true rfl)
  · skip
    exact E _ _ _ _ _ _ _ _ _ _ dL_middleByTaking_5 (Eq.symm ((fL_middleByTaking.eq_1 _ _ _).trans ((if_pos c2).trans rfl))) rfl rfl hH hS (Nat.le_of_ble_eq_true rfl) (Nat.le_of_ble_eq_true rfl)
theorem k_L_middleByTaking {p : Program} {l : Launch} {e : Env} {R : Room} {s : State} {m : MethodId} {args : Array Value} {below : List Frame} {meth : Method} {c : Code} {H : Heap} {locs : List Loc} {cells slots : Nat} {Q : State → Prop} {cc : ByteArray} {pc nL : Nat} {ls : Array Slot} {rest : List Value} {G : gG} {own : String} {da : Nat → Nat} {v : vSt} {x : gX} (hst : l.stackTraces = false) (X : CX G p s m args c cc nL own) (hS : va_S (gA G) s.heap H locs) (hN : NC s) (hH : Hp G da v x H) {o1 : Nat} (hk_o1 : kd o1 = 10) {p1 : Int32} (ho : oL_middleByTaking o1 p1 v) {idx : Nat} (hml : Cond.methodLink own idx yL_middleByTaking ∈ TT) (hls : ls.size = nL) (hsum : (rest.map fun v => v.category).sum ≤ 8) (hR : rmL_middleByTaking.frames + 1 ≤ R.frames ∧ 8 + (3 + 11) + rmL_middleByTaking.locals ≤ R.locals) (hcs : cells + 36 ≤ R.cells ∧ slots + 36 ≤ R.slots) (hdg : decode cc pc = .ok (.invokestatic idx, 3)) (kk : ∀ (d : Nat → Nat) (H1 : Heap) (locs1 : List Loc), Hp G d v x H1 → va_S (gA G) s.heap H1 locs1 → W p l e R s m args below meth c H1 locs1 (cells + 36) (slots + 36) Q (F0 m (pc + 3) ls (.int (fL_middleByTaking o1 p1 v) :: rest))) : W p l e R s m args below meth c H locs cells slots Q (F0 m pc ls (.int p1 :: .ref (ga G o1) :: rest)) := c_li (runLS (kp := 2) X.1 X.2.1 X.2.2.1 X.2.2.2.1 X.2.2.2.2.1 (mL_middleByTaking l hst G da v x o1 hk_o1 p1 ho) pN_bl hml t_st_L_middleByTaking t_ini_VernierDrawersLaw t_code_L_middleByTaking ⟨by decide, by decide, by decide +kernel⟩ rfl rfl hR hcs (preN X hN hS hH) rfl hls rfl hsum hdg) hS kk
def fL_spreadOf (o1 : Nat) (p1 : Int32) (v : vSt) : Int32 := if (fX10_spreadOf o1 p1 v).1 = 0 then ((fX10_spreadOf o1 p1 v).2) else (if (fX10_spreadOf o1 p1 v).1 = 1 then ((-100102)) else ((-100104)))
def oL_spreadOf (o1 : Nat) (p1 : Int32) (v : vSt) : Prop := (oX10_spreadOf o1 p1 v) ∧ (¬ ((fX10_spreadOf o1 p1 v).1 = 0) → (¬ ((fX10_spreadOf o1 p1 v).1 = 1) → ((fX10_spreadOf o1 p1 v).1 = 3)))
abbrev rmL_spreadOf : Room := { frames := 9, cells := 12, slots := 12, locals := 154 }
theorem dL_spreadOf_0 : decode cL_spreadOf 0 = .ok (.aload_n 0, 1) := by decide +kernel
theorem dL_spreadOf_1 : decode cL_spreadOf 1 = .ok (.iload_n 1, 1) := by decide +kernel
theorem dL_spreadOf_2 : decode cL_spreadOf 2 = .ok (.invokevirtual 98, 3) := by decide +kernel
theorem dL_spreadOf_5 : decode cL_spreadOf 5 = .ok (.ireturn, 1) := by decide +kernel
theorem dL_spreadOf_6 : decode cL_spreadOf 6 = .ok (.astore_n 2, 1) := by decide +kernel
theorem dL_spreadOf_7 : decode cL_spreadOf 7 = .ok (.ldc 17, 2) := by decide +kernel
theorem dL_spreadOf_9 : decode cL_spreadOf 9 = .ok (.ireturn, 1) := by decide +kernel
theorem dL_spreadOf_10 : decode cL_spreadOf 10 = .ok (.astore_n 2, 1) := by decide +kernel
theorem dL_spreadOf_11 : decode cL_spreadOf 11 = .ok (.ldc 73, 2) := by decide +kernel
theorem dL_spreadOf_13 : decode cL_spreadOf 13 = .ok (.ireturn, 1) := by decide +kernel
set_option maxHeartbeats 8000000 in
set_option maxRecDepth 100000 in
theorem mL_spreadOf (l : Launch) (hst : l.stackTraces = false) (G : gG) (da : Nat → Nat) (v : vSt) (x : gX) (o1 : Nat) (hk_o1 : kd o1 = 10) (p1 : Int32) (ho : oL_spreadOf o1 p1 v) : LI l yL_spreadOf cL_spreadOf 3 [((0 : Nat), (5 : Nat), (6 : Nat), (15 : Nat)), ((0 : Nat), (5 : Nat), (10 : Nat), (71 : Nat))] rmL_spreadOf [.ref (ga G o1), .int p1] G da v x 12 12 (fL_spreadOf o1 p1 v) v x := by
  refine gofL (by decide) rfl (Nat.le_of_ble_eq_true rfl) (fun p e s m args below meth c ls Q X hN htab hH hl E => ?_)
  have hx := X.1
  have hb := X.2.1
  have hown := X.2.2.2.1
  have hts := X.2.2.2.2.1
  have hS : va_S (gA G) s.heap s.heap [] := va_S.rf
  unfold oL_spreadOf at ho
  have hl : lv_has ls 3 [(0, .ref (ga G o1)), (1, .int p1)] := hl
  refine lv_aload_n hx hb dL_spreadOf_0 rfl (lv_at hl 0 rfl) ?_
  refine lv_iload_n hx hb dL_spreadOf_1 rfl (lv_at hl 1 rfl) ?_
  have hq1 := ho.1
  have ho := ho.2
  refine k_X10_spreadOf hst X hS hH hk_o1 hq1 t_ml_VernierDrawersLaw_98 hl.1 (Nat.le_of_ble_eq_true rfl) ⟨Nat.le_of_ble_eq_true rfl, Nat.le_of_ble_eq_true rfl⟩ ⟨(Nat.le_of_ble_eq_true rfl), (Nat.le_of_ble_eq_true rfl)⟩ dL_spreadOf_2 (fun c2 da ce9 q9 H locs hH hS g1 g2 g3 => ?_) (fun c2 da H locs hH hS => ?_)
  · have ho := ho c2
    refine (Decidable.em ((fX10_spreadOf o1 p1 v).1 = 1)).elim (fun c3 => ?_) (fun c3 => ?_)
    · skip
      refine t_c1 (k := 1) X htab rfl g1 g2 (c3 ▸ g3) ?_
      refine lv_astore_n (lv' := [(2, .ref q9), (0, .ref (ga G o1)), (1, .int p1)]) hx hb dL_spreadOf_6 rfl hl (by decide) rfl (fun ls hl => ?_)
      refine lv_ldc (v := (-100102)) hx hb hown (hts _ t_con_VernierDrawersLaw_17) dL_spreadOf_7 ?_
      exact E _ _ _ _ _ _ _ _ _ _ dL_spreadOf_9 (Eq.symm ((fL_spreadOf.eq_1 _ _ _).trans ((if_neg c2).trans ((if_pos c3).trans rfl)))) rfl rfl hH hS (Nat.le_of_ble_eq_true rfl) (Nat.le_of_ble_eq_true rfl)
    · have ho := ho c3
      have hq4 := ho
      refine t_c2 (k := 3) X hN htab (by decide) rfl g1 g2 (hq4 ▸ g3) ?_
      refine lv_astore_n (lv' := [(2, .ref q9), (0, .ref (ga G o1)), (1, .int p1)]) hx hb dL_spreadOf_10 rfl hl (by decide) rfl (fun ls hl => ?_)
      refine lv_ldc (v := (-100104)) hx hb hown (hts _ t_con_VernierDrawersLaw_73) dL_spreadOf_11 ?_
      exact E _ _ _ _ _ _ _ _ _ _ dL_spreadOf_13 (Eq.symm ((fL_spreadOf.eq_1 _ _ _).trans ((if_neg c2).trans ((if_neg c3).trans rfl)))) rfl rfl hH hS (Nat.le_of_ble_eq_true rfl) (Nat.le_of_ble_eq_true rfl)
  · skip
    exact E _ _ _ _ _ _ _ _ _ _ dL_spreadOf_5 (Eq.symm ((fL_spreadOf.eq_1 _ _ _).trans ((if_pos c2).trans rfl))) rfl rfl hH hS (Nat.le_of_ble_eq_true rfl) (Nat.le_of_ble_eq_true rfl)
theorem k_L_spreadOf {p : Program} {l : Launch} {e : Env} {R : Room} {s : State} {m : MethodId} {args : Array Value} {below : List Frame} {meth : Method} {c : Code} {H : Heap} {locs : List Loc} {cells slots : Nat} {Q : State → Prop} {cc : ByteArray} {pc nL : Nat} {ls : Array Slot} {rest : List Value} {G : gG} {own : String} {da : Nat → Nat} {v : vSt} {x : gX} (hst : l.stackTraces = false) (X : CX G p s m args c cc nL own) (hS : va_S (gA G) s.heap H locs) (hN : NC s) (hH : Hp G da v x H) {o1 : Nat} (hk_o1 : kd o1 = 10) {p1 : Int32} (ho : oL_spreadOf o1 p1 v) {idx : Nat} (hml : Cond.methodLink own idx yL_spreadOf ∈ TT) (hls : ls.size = nL) (hsum : (rest.map fun v => v.category).sum ≤ 8) (hR : rmL_spreadOf.frames + 1 ≤ R.frames ∧ 8 + (3 + 11) + rmL_spreadOf.locals ≤ R.locals) (hcs : cells + 12 ≤ R.cells ∧ slots + 12 ≤ R.slots) (hdg : decode cc pc = .ok (.invokestatic idx, 3)) (kk : ∀ (d : Nat → Nat) (H1 : Heap) (locs1 : List Loc), Hp G d v x H1 → va_S (gA G) s.heap H1 locs1 → W p l e R s m args below meth c H1 locs1 (cells + 12) (slots + 12) Q (F0 m (pc + 3) ls (.int (fL_spreadOf o1 p1 v) :: rest))) : W p l e R s m args below meth c H locs cells slots Q (F0 m pc ls (.int p1 :: .ref (ga G o1) :: rest)) := c_li (runLS (kp := 2) X.1 X.2.1 X.2.2.1 X.2.2.2.1 X.2.2.2.2.1 (mL_spreadOf l hst G da v x o1 hk_o1 p1 ho) pN_bl hml t_st_L_spreadOf t_ini_VernierDrawersLaw t_code_L_spreadOf ⟨by decide, by decide, by decide +kernel⟩ rfl rfl hR hcs (preN X hN hS hH) rfl hls rfl hsum hdg) hS kk
def fL_goBack (o1 : Nat) (v : vSt) : Int32 × vSt := if (fX10_goBack o1 v).1 = 0 then (let v4 : vSt := (fX10_goBack o1 v).2.2; ((fX10_goBack o1 v).2.1, gM v4 (fX11_goBack 461 v4).2)) else (let v4 : vSt := (fX10_goBack o1 v).2.2; ((-100103), gM v4 (fX11_goBack 461 v4).2))
def kkL_goBack (o1 : Nat) (v : vSt) : Nat := pot ((fL_goBack o1 v).2) - pot v + 36
def oL_goBack (o1 : Nat) (v : vSt) : Prop := (oX10_goBack o1 v) ∧ ((0 + kkX10_goBack o1 v ≤ kkL_goBack o1 v) ∧ (¬ ((fX10_goBack o1 v).1 = 0) → (∀ v4 : vSt, v4 = ((fX10_goBack o1 v).2.2) → ((fX10_goBack o1 v).1 = 2))))
abbrev rmL_goBack (o1 : Nat) (v : vSt) : Room := { frames := 8, cells := kkL_goBack o1 v, slots := kkL_goBack o1 v, locals := 216 }
theorem dL_goBack_0 : decode cL_goBack 0 = .ok (.aload_n 0, 1) := by decide +kernel
theorem dL_goBack_1 : decode cL_goBack 1 = .ok (.invokevirtual 101, 3) := by decide +kernel
theorem dL_goBack_4 : decode cL_goBack 4 = .ok (.ireturn, 1) := by decide +kernel
theorem dL_goBack_5 : decode cL_goBack 5 = .ok (.astore_n 1, 1) := by decide +kernel
theorem dL_goBack_6 : decode cL_goBack 6 = .ok (.ldc 20, 2) := by decide +kernel
theorem dL_goBack_8 : decode cL_goBack 8 = .ok (.ireturn, 1) := by decide +kernel
set_option maxHeartbeats 8000000 in
set_option maxRecDepth 100000 in
theorem mL_goBack (l : Launch) (hst : l.stackTraces = false) (G : gG) (da : Nat → Nat) (v : vSt) (x : gX) (o1 : Nat) (hk_o1 : kd o1 = 10) (ho : oL_goBack o1 v) : LI l yL_goBack cL_goBack 2 [((0 : Nat), (4 : Nat), (5 : Nat), (18 : Nat))] (rmL_goBack o1 v) [.ref (ga G o1)] G da v x (kkL_goBack o1 v) (kkL_goBack o1 v) (fL_goBack o1 v).1 (fL_goBack o1 v).2 x := by
  refine gofL (by decide) rfl (Nat.le_of_ble_eq_true rfl) (fun p e s m args below meth c ls Q X hN htab hH hl E => ?_)
  have hx := X.1
  have hb := X.2.1
  have hown := X.2.2.2.1
  have hts := X.2.2.2.2.1
  have hS : va_S (gA G) s.heap s.heap [] := va_S.rf
  unfold oL_goBack at ho
  have hl : lv_has ls 2 [(0, .ref (ga G o1))] := hl
  refine lv_aload_n hx hb dL_goBack_0 rfl (lv_at hl 0 rfl) ?_
  have hq1 := ho.1
  have ho := ho.2
  have hq2 := ho.1
  have ho := ho.2
  refine k_X10_goBack hst X hS hH hk_o1 hq1 t_ml_VernierDrawersLaw_101 hl.1 (Nat.le_of_ble_eq_true rfl) ⟨Nat.le_of_ble_eq_true rfl, Nat.le_of_ble_eq_true rfl⟩ ⟨hq2, hq2⟩ dL_goBack_1 (fun c3 da ce9 q9 H locs v4 ev4 hH hS g1 g2 g3 => ?_) (fun c3 da H locs v4 ev4 hH hS => ?_)
  · have ho := ho c3
    have ho := ho v4 ev4
    have hq5 := ho
    refine t_c1 (k := 2) X htab rfl g1 g2 (hq5 ▸ g3) ?_
    refine lv_astore_n (lv' := [(1, .ref q9), (0, .ref (ga G o1))]) hx hb dL_goBack_5 rfl hl (by decide) rfl (fun ls hl => ?_)
    refine lv_ldc (v := (-100103)) hx hb hown (hts _ t_con_VernierDrawersLaw_20) dL_goBack_6 ?_
    have hHz := hH
    have hSz := hS
    replace ev4 := Eq.symm ev4
    subst ev4
    exact E _ _ _ _ _ _ _ _ _ _ dL_goBack_8 (pr1 ((fL_goBack.eq_1 _ _).trans ((if_neg c3).trans rfl))) (pr2 ((fL_goBack.eq_1 _ _).trans ((if_neg c3).trans rfl))) rfl (hHz.gh (fun r hr => gM_lo hr)) hSz hq2 hq2
  · skip
    have hHz := hH
    have hSz := hS
    replace ev4 := Eq.symm ev4
    subst ev4
    exact E _ _ _ _ _ _ _ _ _ _ dL_goBack_4 (pr1 ((fL_goBack.eq_1 _ _).trans ((if_pos c3).trans rfl))) (pr2 ((fL_goBack.eq_1 _ _).trans ((if_pos c3).trans rfl))) rfl (hHz.gh (fun r hr => gM_lo hr)) hSz hq2 hq2
theorem k_L_goBack {p : Program} {l : Launch} {e : Env} {R : Room} {s : State} {m : MethodId} {args : Array Value} {below : List Frame} {meth : Method} {c : Code} {H : Heap} {locs : List Loc} {cells slots : Nat} {Q : State → Prop} {cc : ByteArray} {pc nL : Nat} {ls : Array Slot} {rest : List Value} {G : gG} {own : String} {da : Nat → Nat} {v : vSt} {x : gX} (hst : l.stackTraces = false) (X : CX G p s m args c cc nL own) (hS : va_S (gA G) s.heap H locs) (hN : NC s) (hH : Hp G da v x H) {o1 : Nat} (hk_o1 : kd o1 = 10) (ho : oL_goBack o1 v) {idx : Nat} (hml : Cond.methodLink own idx yL_goBack ∈ TT) (hls : ls.size = nL) (hsum : (rest.map fun v => v.category).sum ≤ 8) (hR : (rmL_goBack o1 v).frames + 1 ≤ R.frames ∧ 8 + (2 + 11) + (rmL_goBack o1 v).locals ≤ R.locals) (hcs : cells + (kkL_goBack o1 v) ≤ R.cells ∧ slots + (kkL_goBack o1 v) ≤ R.slots) (hdg : decode cc pc = .ok (.invokestatic idx, 3)) (kk : ∀ (d : Nat → Nat) (H1 : Heap) (locs1 : List Loc) (v1 : vSt), v1 = (fL_goBack o1 v).2 → Hp G d v1 x H1 → va_S (gA G) s.heap H1 locs1 → W p l e R s m args below meth c H1 locs1 (cells + (kkL_goBack o1 v)) (slots + (kkL_goBack o1 v)) Q (F0 m (pc + 3) ls (.int (fL_goBack o1 v).1 :: rest))) : W p l e R s m args below meth c H locs cells slots Q (F0 m pc ls (.ref (ga G o1) :: rest)) := c_li (runLS (kp := 1) X.1 X.2.1 X.2.2.1 X.2.2.2.1 X.2.2.2.2.1 (mL_goBack l hst G da v x o1 hk_o1 ho) pN_bl hml t_st_L_goBack t_ini_VernierDrawersLaw t_code_L_goBack ⟨by decide, by decide, by decide +kernel⟩ rfl rfl hR hcs (preN X hN hS hH) rfl hls rfl hsum hdg) hS (fun d9 H9 L9 hH9 => kk d9 H9 L9 _ rfl hH9)
def fL_undo (o1 : Nat) (v : vSt) : Int32 × vSt := if (fX10_undo o1 v).1 = 0 then (let v4 : vSt := (fX10_undo o1 v).2.2; ((fX10_undo o1 v).2.1, gM v4 (fX11_undo 461 v4).2)) else (let v4 : vSt := (fX10_undo o1 v).2.2; ((-100103), gM v4 (fX11_undo 461 v4).2))
def kkL_undo (o1 : Nat) (v : vSt) : Nat := pot ((fL_undo o1 v).2) - pot v + 36
def oL_undo (o1 : Nat) (v : vSt) : Prop := (oX10_undo o1 v) ∧ ((0 + kkX10_undo o1 v ≤ kkL_undo o1 v) ∧ (¬ ((fX10_undo o1 v).1 = 0) → (∀ v4 : vSt, v4 = ((fX10_undo o1 v).2.2) → ((fX10_undo o1 v).1 = 2))))
abbrev rmL_undo (o1 : Nat) (v : vSt) : Room := { frames := 7, cells := kkL_undo o1 v, slots := kkL_undo o1 v, locals := 111 }
theorem dL_undo_0 : decode cL_undo 0 = .ok (.aload_n 0, 1) := by decide +kernel
theorem dL_undo_1 : decode cL_undo 1 = .ok (.invokevirtual 104, 3) := by decide +kernel
theorem dL_undo_4 : decode cL_undo 4 = .ok (.ireturn, 1) := by decide +kernel
theorem dL_undo_5 : decode cL_undo 5 = .ok (.astore_n 1, 1) := by decide +kernel
theorem dL_undo_6 : decode cL_undo 6 = .ok (.ldc 20, 2) := by decide +kernel
theorem dL_undo_8 : decode cL_undo 8 = .ok (.ireturn, 1) := by decide +kernel
set_option maxHeartbeats 8000000 in
set_option maxRecDepth 100000 in
theorem mL_undo (l : Launch) (hst : l.stackTraces = false) (G : gG) (da : Nat → Nat) (v : vSt) (x : gX) (o1 : Nat) (hk_o1 : kd o1 = 10) (ho : oL_undo o1 v) : LI l yL_undo cL_undo 2 [((0 : Nat), (4 : Nat), (5 : Nat), (18 : Nat))] (rmL_undo o1 v) [.ref (ga G o1)] G da v x (kkL_undo o1 v) (kkL_undo o1 v) (fL_undo o1 v).1 (fL_undo o1 v).2 x := by
  refine gofL (by decide) rfl (Nat.le_of_ble_eq_true rfl) (fun p e s m args below meth c ls Q X hN htab hH hl E => ?_)
  have hx := X.1
  have hb := X.2.1
  have hown := X.2.2.2.1
  have hts := X.2.2.2.2.1
  have hS : va_S (gA G) s.heap s.heap [] := va_S.rf
  unfold oL_undo at ho
  have hl : lv_has ls 2 [(0, .ref (ga G o1))] := hl
  refine lv_aload_n hx hb dL_undo_0 rfl (lv_at hl 0 rfl) ?_
  have hq1 := ho.1
  have ho := ho.2
  have hq2 := ho.1
  have ho := ho.2
  refine k_X10_undo hst X hS hH hk_o1 hq1 t_ml_VernierDrawersLaw_104 hl.1 (Nat.le_of_ble_eq_true rfl) ⟨Nat.le_of_ble_eq_true rfl, Nat.le_of_ble_eq_true rfl⟩ ⟨hq2, hq2⟩ dL_undo_1 (fun c3 da ce9 q9 H locs v4 ev4 hH hS g1 g2 g3 => ?_) (fun c3 da H locs v4 ev4 hH hS => ?_)
  · have ho := ho c3
    have ho := ho v4 ev4
    have hq5 := ho
    refine t_c1 (k := 2) X htab rfl g1 g2 (hq5 ▸ g3) ?_
    refine lv_astore_n (lv' := [(1, .ref q9), (0, .ref (ga G o1))]) hx hb dL_undo_5 rfl hl (by decide) rfl (fun ls hl => ?_)
    refine lv_ldc (v := (-100103)) hx hb hown (hts _ t_con_VernierDrawersLaw_20) dL_undo_6 ?_
    have hHz := hH
    have hSz := hS
    replace ev4 := Eq.symm ev4
    subst ev4
    exact E _ _ _ _ _ _ _ _ _ _ dL_undo_8 (pr1 ((fL_undo.eq_1 _ _).trans ((if_neg c3).trans rfl))) (pr2 ((fL_undo.eq_1 _ _).trans ((if_neg c3).trans rfl))) rfl (hHz.gh (fun r hr => gM_lo hr)) hSz hq2 hq2
  · skip
    have hHz := hH
    have hSz := hS
    replace ev4 := Eq.symm ev4
    subst ev4
    exact E _ _ _ _ _ _ _ _ _ _ dL_undo_4 (pr1 ((fL_undo.eq_1 _ _).trans ((if_pos c3).trans rfl))) (pr2 ((fL_undo.eq_1 _ _).trans ((if_pos c3).trans rfl))) rfl (hHz.gh (fun r hr => gM_lo hr)) hSz hq2 hq2
theorem k_L_undo {p : Program} {l : Launch} {e : Env} {R : Room} {s : State} {m : MethodId} {args : Array Value} {below : List Frame} {meth : Method} {c : Code} {H : Heap} {locs : List Loc} {cells slots : Nat} {Q : State → Prop} {cc : ByteArray} {pc nL : Nat} {ls : Array Slot} {rest : List Value} {G : gG} {own : String} {da : Nat → Nat} {v : vSt} {x : gX} (hst : l.stackTraces = false) (X : CX G p s m args c cc nL own) (hS : va_S (gA G) s.heap H locs) (hN : NC s) (hH : Hp G da v x H) {o1 : Nat} (hk_o1 : kd o1 = 10) (ho : oL_undo o1 v) {idx : Nat} (hml : Cond.methodLink own idx yL_undo ∈ TT) (hls : ls.size = nL) (hsum : (rest.map fun v => v.category).sum ≤ 8) (hR : (rmL_undo o1 v).frames + 1 ≤ R.frames ∧ 8 + (2 + 11) + (rmL_undo o1 v).locals ≤ R.locals) (hcs : cells + (kkL_undo o1 v) ≤ R.cells ∧ slots + (kkL_undo o1 v) ≤ R.slots) (hdg : decode cc pc = .ok (.invokestatic idx, 3)) (kk : ∀ (d : Nat → Nat) (H1 : Heap) (locs1 : List Loc) (v1 : vSt), v1 = (fL_undo o1 v).2 → Hp G d v1 x H1 → va_S (gA G) s.heap H1 locs1 → W p l e R s m args below meth c H1 locs1 (cells + (kkL_undo o1 v)) (slots + (kkL_undo o1 v)) Q (F0 m (pc + 3) ls (.int (fL_undo o1 v).1 :: rest))) : W p l e R s m args below meth c H locs cells slots Q (F0 m pc ls (.ref (ga G o1) :: rest)) := c_li (runLS (kp := 1) X.1 X.2.1 X.2.2.1 X.2.2.2.1 X.2.2.2.2.1 (mL_undo l hst G da v x o1 hk_o1 ho) pN_bl hml t_st_L_undo t_ini_VernierDrawersLaw t_code_L_undo ⟨by decide, by decide, by decide +kernel⟩ rfl rfl hR hcs (preN X hN hS hH) rfl hls rfl hsum hdg) hS (fun d9 H9 L9 hH9 => kk d9 H9 L9 _ rfl hH9)
def fL_faultPosition (o1 : Nat) (v : vSt) : Int32 × vSt := if (fX10_faultPosition o1 v).1 = 0 then (let v4 : vSt := (fX10_faultPosition o1 v).2.2; ((fX10_faultPosition o1 v).2.1, gM v4 (fX11_faultPosition 461 v4).2)) else (let v4 : vSt := (fX10_faultPosition o1 v).2.2; ((-100104), gM v4 (fX11_faultPosition 461 v4).2))
def kkL_faultPosition (o1 : Nat) (v : vSt) : Nat := pot ((fL_faultPosition o1 v).2) - pot v + 36
def oL_faultPosition (o1 : Nat) (v : vSt) : Prop := (oX10_faultPosition o1 v) ∧ ((0 + kkX10_faultPosition o1 v ≤ kkL_faultPosition o1 v) ∧ (¬ ((fX10_faultPosition o1 v).1 = 0) → (∀ v4 : vSt, v4 = ((fX10_faultPosition o1 v).2.2) → ((fX10_faultPosition o1 v).1 = 3))))
abbrev rmL_faultPosition (o1 : Nat) (v : vSt) : Room := { frames := 9, cells := kkL_faultPosition o1 v, slots := kkL_faultPosition o1 v, locals := 251 }
theorem dL_faultPosition_0 : decode cL_faultPosition 0 = .ok (.aload_n 0, 1) := by decide +kernel
theorem dL_faultPosition_1 : decode cL_faultPosition 1 = .ok (.invokevirtual 110, 3) := by decide +kernel
theorem dL_faultPosition_4 : decode cL_faultPosition 4 = .ok (.ireturn, 1) := by decide +kernel
theorem dL_faultPosition_5 : decode cL_faultPosition 5 = .ok (.astore_n 1, 1) := by decide +kernel
theorem dL_faultPosition_6 : decode cL_faultPosition 6 = .ok (.ldc 73, 2) := by decide +kernel
theorem dL_faultPosition_8 : decode cL_faultPosition 8 = .ok (.ireturn, 1) := by decide +kernel
set_option maxHeartbeats 8000000 in
set_option maxRecDepth 100000 in
theorem mL_faultPosition (l : Launch) (hst : l.stackTraces = false) (G : gG) (da : Nat → Nat) (v : vSt) (x : gX) (o1 : Nat) (hk_o1 : kd o1 = 10) (ho : oL_faultPosition o1 v) : LI l yL_faultPosition cL_faultPosition 2 [((0 : Nat), (4 : Nat), (5 : Nat), (71 : Nat))] (rmL_faultPosition o1 v) [.ref (ga G o1)] G da v x (kkL_faultPosition o1 v) (kkL_faultPosition o1 v) (fL_faultPosition o1 v).1 (fL_faultPosition o1 v).2 x := by
  refine gofL (by decide) rfl (Nat.le_of_ble_eq_true rfl) (fun p e s m args below meth c ls Q X hN htab hH hl E => ?_)
  have hx := X.1
  have hb := X.2.1
  have hown := X.2.2.2.1
  have hts := X.2.2.2.2.1
  have hS : va_S (gA G) s.heap s.heap [] := va_S.rf
  unfold oL_faultPosition at ho
  have hl : lv_has ls 2 [(0, .ref (ga G o1))] := hl
  refine lv_aload_n hx hb dL_faultPosition_0 rfl (lv_at hl 0 rfl) ?_
  have hq1 := ho.1
  have ho := ho.2
  have hq2 := ho.1
  have ho := ho.2
  refine k_X10_faultPosition hst X hS hH hk_o1 hq1 t_ml_VernierDrawersLaw_110 hl.1 (Nat.le_of_ble_eq_true rfl) ⟨Nat.le_of_ble_eq_true rfl, Nat.le_of_ble_eq_true rfl⟩ ⟨hq2, hq2⟩ dL_faultPosition_1 (fun c3 da ce9 q9 H locs v4 ev4 hH hS g1 g2 g3 => ?_) (fun c3 da H locs v4 ev4 hH hS => ?_)
  · have ho := ho c3
    have ho := ho v4 ev4
    have hq5 := ho
    refine t_c1 (k := 3) X htab rfl g1 g2 (hq5 ▸ g3) ?_
    refine lv_astore_n (lv' := [(1, .ref q9), (0, .ref (ga G o1))]) hx hb dL_faultPosition_5 rfl hl (by decide) rfl (fun ls hl => ?_)
    refine lv_ldc (v := (-100104)) hx hb hown (hts _ t_con_VernierDrawersLaw_73) dL_faultPosition_6 ?_
    have hHz := hH
    have hSz := hS
    replace ev4 := Eq.symm ev4
    subst ev4
    exact E _ _ _ _ _ _ _ _ _ _ dL_faultPosition_8 (pr1 ((fL_faultPosition.eq_1 _ _).trans ((if_neg c3).trans rfl))) (pr2 ((fL_faultPosition.eq_1 _ _).trans ((if_neg c3).trans rfl))) rfl (hHz.gh (fun r hr => gM_lo hr)) hSz hq2 hq2
  · skip
    have hHz := hH
    have hSz := hS
    replace ev4 := Eq.symm ev4
    subst ev4
    exact E _ _ _ _ _ _ _ _ _ _ dL_faultPosition_4 (pr1 ((fL_faultPosition.eq_1 _ _).trans ((if_pos c3).trans rfl))) (pr2 ((fL_faultPosition.eq_1 _ _).trans ((if_pos c3).trans rfl))) rfl (hHz.gh (fun r hr => gM_lo hr)) hSz hq2 hq2
theorem k_L_faultPosition {p : Program} {l : Launch} {e : Env} {R : Room} {s : State} {m : MethodId} {args : Array Value} {below : List Frame} {meth : Method} {c : Code} {H : Heap} {locs : List Loc} {cells slots : Nat} {Q : State → Prop} {cc : ByteArray} {pc nL : Nat} {ls : Array Slot} {rest : List Value} {G : gG} {own : String} {da : Nat → Nat} {v : vSt} {x : gX} (hst : l.stackTraces = false) (X : CX G p s m args c cc nL own) (hS : va_S (gA G) s.heap H locs) (hN : NC s) (hH : Hp G da v x H) {o1 : Nat} (hk_o1 : kd o1 = 10) (ho : oL_faultPosition o1 v) {idx : Nat} (hml : Cond.methodLink own idx yL_faultPosition ∈ TT) (hls : ls.size = nL) (hsum : (rest.map fun v => v.category).sum ≤ 8) (hR : (rmL_faultPosition o1 v).frames + 1 ≤ R.frames ∧ 8 + (2 + 11) + (rmL_faultPosition o1 v).locals ≤ R.locals) (hcs : cells + (kkL_faultPosition o1 v) ≤ R.cells ∧ slots + (kkL_faultPosition o1 v) ≤ R.slots) (hdg : decode cc pc = .ok (.invokestatic idx, 3)) (kk : ∀ (d : Nat → Nat) (H1 : Heap) (locs1 : List Loc) (v1 : vSt), v1 = (fL_faultPosition o1 v).2 → Hp G d v1 x H1 → va_S (gA G) s.heap H1 locs1 → W p l e R s m args below meth c H1 locs1 (cells + (kkL_faultPosition o1 v)) (slots + (kkL_faultPosition o1 v)) Q (F0 m (pc + 3) ls (.int (fL_faultPosition o1 v).1 :: rest))) : W p l e R s m args below meth c H locs cells slots Q (F0 m pc ls (.ref (ga G o1) :: rest)) := c_li (runLS (kp := 1) X.1 X.2.1 X.2.2.1 X.2.2.2.1 X.2.2.2.2.1 (mL_faultPosition l hst G da v x o1 hk_o1 ho) pN_bl hml t_st_L_faultPosition t_ini_VernierDrawersLaw t_code_L_faultPosition ⟨by decide, by decide, by decide +kernel⟩ rfl rfl hR hcs (preN X hN hS hH) rfl hls rfl hsum hdg) hS (fun d9 H9 L9 hH9 => kk d9 H9 L9 _ rfl hH9)
def fL_faultReason (o1 : Nat) (v : vSt) : Int32 × vSt := if (fX10_faultReason o1 v).1 = 0 then (let v4 : vSt := (fX10_faultReason o1 v).2.2; ((fX10_faultReason o1 v).2.1, gM v4 (fX11_faultReason 461 v4).2)) else (let v4 : vSt := (fX10_faultReason o1 v).2.2; ((-100104), gM v4 (fX11_faultReason 461 v4).2))
def kkL_faultReason (o1 : Nat) (v : vSt) : Nat := pot ((fL_faultReason o1 v).2) - pot v + 36
def oL_faultReason (o1 : Nat) (v : vSt) : Prop := (oX10_faultReason o1 v) ∧ ((0 + kkX10_faultReason o1 v ≤ kkL_faultReason o1 v) ∧ (¬ ((fX10_faultReason o1 v).1 = 0) → (∀ v4 : vSt, v4 = ((fX10_faultReason o1 v).2.2) → ((fX10_faultReason o1 v).1 = 3))))
abbrev rmL_faultReason (o1 : Nat) (v : vSt) : Room := { frames := 9, cells := kkL_faultReason o1 v, slots := kkL_faultReason o1 v, locals := 251 }
theorem dL_faultReason_0 : decode cL_faultReason 0 = .ok (.aload_n 0, 1) := by decide +kernel
theorem dL_faultReason_1 : decode cL_faultReason 1 = .ok (.invokevirtual 113, 3) := by decide +kernel
theorem dL_faultReason_4 : decode cL_faultReason 4 = .ok (.ireturn, 1) := by decide +kernel
theorem dL_faultReason_5 : decode cL_faultReason 5 = .ok (.astore_n 1, 1) := by decide +kernel
theorem dL_faultReason_6 : decode cL_faultReason 6 = .ok (.ldc 73, 2) := by decide +kernel
theorem dL_faultReason_8 : decode cL_faultReason 8 = .ok (.ireturn, 1) := by decide +kernel
set_option maxHeartbeats 8000000 in
set_option maxRecDepth 100000 in
theorem mL_faultReason (l : Launch) (hst : l.stackTraces = false) (G : gG) (da : Nat → Nat) (v : vSt) (x : gX) (o1 : Nat) (hk_o1 : kd o1 = 10) (ho : oL_faultReason o1 v) : LI l yL_faultReason cL_faultReason 2 [((0 : Nat), (4 : Nat), (5 : Nat), (71 : Nat))] (rmL_faultReason o1 v) [.ref (ga G o1)] G da v x (kkL_faultReason o1 v) (kkL_faultReason o1 v) (fL_faultReason o1 v).1 (fL_faultReason o1 v).2 x := by
  refine gofL (by decide) rfl (Nat.le_of_ble_eq_true rfl) (fun p e s m args below meth c ls Q X hN htab hH hl E => ?_)
  have hx := X.1
  have hb := X.2.1
  have hown := X.2.2.2.1
  have hts := X.2.2.2.2.1
  have hS : va_S (gA G) s.heap s.heap [] := va_S.rf
  unfold oL_faultReason at ho
  have hl : lv_has ls 2 [(0, .ref (ga G o1))] := hl
  refine lv_aload_n hx hb dL_faultReason_0 rfl (lv_at hl 0 rfl) ?_
  have hq1 := ho.1
  have ho := ho.2
  have hq2 := ho.1
  have ho := ho.2
  refine k_X10_faultReason hst X hS hH hk_o1 hq1 t_ml_VernierDrawersLaw_113 hl.1 (Nat.le_of_ble_eq_true rfl) ⟨Nat.le_of_ble_eq_true rfl, Nat.le_of_ble_eq_true rfl⟩ ⟨hq2, hq2⟩ dL_faultReason_1 (fun c3 da ce9 q9 H locs v4 ev4 hH hS g1 g2 g3 => ?_) (fun c3 da H locs v4 ev4 hH hS => ?_)
  · have ho := ho c3
    have ho := ho v4 ev4
    have hq5 := ho
    refine t_c1 (k := 3) X htab rfl g1 g2 (hq5 ▸ g3) ?_
    refine lv_astore_n (lv' := [(1, .ref q9), (0, .ref (ga G o1))]) hx hb dL_faultReason_5 rfl hl (by decide) rfl (fun ls hl => ?_)
    refine lv_ldc (v := (-100104)) hx hb hown (hts _ t_con_VernierDrawersLaw_73) dL_faultReason_6 ?_
    have hHz := hH
    have hSz := hS
    replace ev4 := Eq.symm ev4
    subst ev4
    exact E _ _ _ _ _ _ _ _ _ _ dL_faultReason_8 (pr1 ((fL_faultReason.eq_1 _ _).trans ((if_neg c3).trans rfl))) (pr2 ((fL_faultReason.eq_1 _ _).trans ((if_neg c3).trans rfl))) rfl (hHz.gh (fun r hr => gM_lo hr)) hSz hq2 hq2
  · skip
    have hHz := hH
    have hSz := hS
    replace ev4 := Eq.symm ev4
    subst ev4
    exact E _ _ _ _ _ _ _ _ _ _ dL_faultReason_4 (pr1 ((fL_faultReason.eq_1 _ _).trans ((if_pos c3).trans rfl))) (pr2 ((fL_faultReason.eq_1 _ _).trans ((if_pos c3).trans rfl))) rfl (hHz.gh (fun r hr => gM_lo hr)) hSz hq2 hq2
theorem k_L_faultReason {p : Program} {l : Launch} {e : Env} {R : Room} {s : State} {m : MethodId} {args : Array Value} {below : List Frame} {meth : Method} {c : Code} {H : Heap} {locs : List Loc} {cells slots : Nat} {Q : State → Prop} {cc : ByteArray} {pc nL : Nat} {ls : Array Slot} {rest : List Value} {G : gG} {own : String} {da : Nat → Nat} {v : vSt} {x : gX} (hst : l.stackTraces = false) (X : CX G p s m args c cc nL own) (hS : va_S (gA G) s.heap H locs) (hN : NC s) (hH : Hp G da v x H) {o1 : Nat} (hk_o1 : kd o1 = 10) (ho : oL_faultReason o1 v) {idx : Nat} (hml : Cond.methodLink own idx yL_faultReason ∈ TT) (hls : ls.size = nL) (hsum : (rest.map fun v => v.category).sum ≤ 8) (hR : (rmL_faultReason o1 v).frames + 1 ≤ R.frames ∧ 8 + (2 + 11) + (rmL_faultReason o1 v).locals ≤ R.locals) (hcs : cells + (kkL_faultReason o1 v) ≤ R.cells ∧ slots + (kkL_faultReason o1 v) ≤ R.slots) (hdg : decode cc pc = .ok (.invokestatic idx, 3)) (kk : ∀ (d : Nat → Nat) (H1 : Heap) (locs1 : List Loc) (v1 : vSt), v1 = (fL_faultReason o1 v).2 → Hp G d v1 x H1 → va_S (gA G) s.heap H1 locs1 → W p l e R s m args below meth c H1 locs1 (cells + (kkL_faultReason o1 v)) (slots + (kkL_faultReason o1 v)) Q (F0 m (pc + 3) ls (.int (fL_faultReason o1 v).1 :: rest))) : W p l e R s m args below meth c H locs cells slots Q (F0 m pc ls (.ref (ga G o1) :: rest)) := c_li (runLS (kp := 1) X.1 X.2.1 X.2.2.1 X.2.2.2.1 X.2.2.2.2.1 (mL_faultReason l hst G da v x o1 hk_o1 ho) pN_bl hml t_st_L_faultReason t_ini_VernierDrawersLaw t_code_L_faultReason ⟨by decide, by decide, by decide +kernel⟩ rfl rfl hR hcs (preN X hN hS hH) rfl hls rfl hsum hdg) hS (fun d9 H9 L9 hH9 => kk d9 H9 L9 _ rfl hH9)
def fL_faultCause (o1 : Nat) (v : vSt) : Int32 × vSt := if (fX10_faultCause o1 v).1 = 0 then (let v4 : vSt := (fX10_faultCause o1 v).2.2; ((fX10_faultCause o1 v).2.1, gM v4 (fX11_faultCause 461 v4).2)) else (let v4 : vSt := (fX10_faultCause o1 v).2.2; ((-100104), gM v4 (fX11_faultCause 461 v4).2))
def kkL_faultCause (o1 : Nat) (v : vSt) : Nat := pot ((fL_faultCause o1 v).2) - pot v + 36
def oL_faultCause (o1 : Nat) (v : vSt) : Prop := (oX10_faultCause o1 v) ∧ ((0 + kkX10_faultCause o1 v ≤ kkL_faultCause o1 v) ∧ (¬ ((fX10_faultCause o1 v).1 = 0) → (∀ v4 : vSt, v4 = ((fX10_faultCause o1 v).2.2) → ((fX10_faultCause o1 v).1 = 3))))
abbrev rmL_faultCause (o1 : Nat) (v : vSt) : Room := { frames := 9, cells := kkL_faultCause o1 v, slots := kkL_faultCause o1 v, locals := 251 }
theorem dL_faultCause_0 : decode cL_faultCause 0 = .ok (.aload_n 0, 1) := by decide +kernel
theorem dL_faultCause_1 : decode cL_faultCause 1 = .ok (.invokevirtual 116, 3) := by decide +kernel
theorem dL_faultCause_4 : decode cL_faultCause 4 = .ok (.ireturn, 1) := by decide +kernel
theorem dL_faultCause_5 : decode cL_faultCause 5 = .ok (.astore_n 1, 1) := by decide +kernel
theorem dL_faultCause_6 : decode cL_faultCause 6 = .ok (.ldc 73, 2) := by decide +kernel
theorem dL_faultCause_8 : decode cL_faultCause 8 = .ok (.ireturn, 1) := by decide +kernel
set_option maxHeartbeats 8000000 in
set_option maxRecDepth 100000 in
theorem mL_faultCause (l : Launch) (hst : l.stackTraces = false) (G : gG) (da : Nat → Nat) (v : vSt) (x : gX) (o1 : Nat) (hk_o1 : kd o1 = 10) (ho : oL_faultCause o1 v) : LI l yL_faultCause cL_faultCause 2 [((0 : Nat), (4 : Nat), (5 : Nat), (71 : Nat))] (rmL_faultCause o1 v) [.ref (ga G o1)] G da v x (kkL_faultCause o1 v) (kkL_faultCause o1 v) (fL_faultCause o1 v).1 (fL_faultCause o1 v).2 x := by
  refine gofL (by decide) rfl (Nat.le_of_ble_eq_true rfl) (fun p e s m args below meth c ls Q X hN htab hH hl E => ?_)
  have hx := X.1
  have hb := X.2.1
  have hown := X.2.2.2.1
  have hts := X.2.2.2.2.1
  have hS : va_S (gA G) s.heap s.heap [] := va_S.rf
  unfold oL_faultCause at ho
  have hl : lv_has ls 2 [(0, .ref (ga G o1))] := hl
  refine lv_aload_n hx hb dL_faultCause_0 rfl (lv_at hl 0 rfl) ?_
  have hq1 := ho.1
  have ho := ho.2
  have hq2 := ho.1
  have ho := ho.2
  refine k_X10_faultCause hst X hS hH hk_o1 hq1 t_ml_VernierDrawersLaw_116 hl.1 (Nat.le_of_ble_eq_true rfl) ⟨Nat.le_of_ble_eq_true rfl, Nat.le_of_ble_eq_true rfl⟩ ⟨hq2, hq2⟩ dL_faultCause_1 (fun c3 da ce9 q9 H locs v4 ev4 hH hS g1 g2 g3 => ?_) (fun c3 da H locs v4 ev4 hH hS => ?_)
  · have ho := ho c3
    have ho := ho v4 ev4
    have hq5 := ho
    refine t_c1 (k := 3) X htab rfl g1 g2 (hq5 ▸ g3) ?_
    refine lv_astore_n (lv' := [(1, .ref q9), (0, .ref (ga G o1))]) hx hb dL_faultCause_5 rfl hl (by decide) rfl (fun ls hl => ?_)
    refine lv_ldc (v := (-100104)) hx hb hown (hts _ t_con_VernierDrawersLaw_73) dL_faultCause_6 ?_
    have hHz := hH
    have hSz := hS
    replace ev4 := Eq.symm ev4
    subst ev4
    exact E _ _ _ _ _ _ _ _ _ _ dL_faultCause_8 (pr1 ((fL_faultCause.eq_1 _ _).trans ((if_neg c3).trans rfl))) (pr2 ((fL_faultCause.eq_1 _ _).trans ((if_neg c3).trans rfl))) rfl (hHz.gh (fun r hr => gM_lo hr)) hSz hq2 hq2
  · skip
    have hHz := hH
    have hSz := hS
    replace ev4 := Eq.symm ev4
    subst ev4
    exact E _ _ _ _ _ _ _ _ _ _ dL_faultCause_4 (pr1 ((fL_faultCause.eq_1 _ _).trans ((if_pos c3).trans rfl))) (pr2 ((fL_faultCause.eq_1 _ _).trans ((if_pos c3).trans rfl))) rfl (hHz.gh (fun r hr => gM_lo hr)) hSz hq2 hq2
theorem k_L_faultCause {p : Program} {l : Launch} {e : Env} {R : Room} {s : State} {m : MethodId} {args : Array Value} {below : List Frame} {meth : Method} {c : Code} {H : Heap} {locs : List Loc} {cells slots : Nat} {Q : State → Prop} {cc : ByteArray} {pc nL : Nat} {ls : Array Slot} {rest : List Value} {G : gG} {own : String} {da : Nat → Nat} {v : vSt} {x : gX} (hst : l.stackTraces = false) (X : CX G p s m args c cc nL own) (hS : va_S (gA G) s.heap H locs) (hN : NC s) (hH : Hp G da v x H) {o1 : Nat} (hk_o1 : kd o1 = 10) (ho : oL_faultCause o1 v) {idx : Nat} (hml : Cond.methodLink own idx yL_faultCause ∈ TT) (hls : ls.size = nL) (hsum : (rest.map fun v => v.category).sum ≤ 8) (hR : (rmL_faultCause o1 v).frames + 1 ≤ R.frames ∧ 8 + (2 + 11) + (rmL_faultCause o1 v).locals ≤ R.locals) (hcs : cells + (kkL_faultCause o1 v) ≤ R.cells ∧ slots + (kkL_faultCause o1 v) ≤ R.slots) (hdg : decode cc pc = .ok (.invokestatic idx, 3)) (kk : ∀ (d : Nat → Nat) (H1 : Heap) (locs1 : List Loc) (v1 : vSt), v1 = (fL_faultCause o1 v).2 → Hp G d v1 x H1 → va_S (gA G) s.heap H1 locs1 → W p l e R s m args below meth c H1 locs1 (cells + (kkL_faultCause o1 v)) (slots + (kkL_faultCause o1 v)) Q (F0 m (pc + 3) ls (.int (fL_faultCause o1 v).1 :: rest))) : W p l e R s m args below meth c H locs cells slots Q (F0 m pc ls (.ref (ga G o1) :: rest)) := c_li (runLS (kp := 1) X.1 X.2.1 X.2.2.1 X.2.2.2.1 X.2.2.2.2.1 (mL_faultCause l hst G da v x o1 hk_o1 ho) pN_bl hml t_st_L_faultCause t_ini_VernierDrawersLaw t_code_L_faultCause ⟨by decide, by decide, by decide +kernel⟩ rfl rfl hR hcs (preN X hN hS hH) rfl hls rfl hsum hdg) hS (fun d9 H9 L9 hH9 => kk d9 H9 L9 _ rfl hH9)
def fL_play (o1 : Nat) (v : vSt) : Int32 × vSt := if (fX10_play o1 v).1 = 0 then (let v4 : vSt := (fX10_play o1 v).2.2; ((fX10_play o1 v).2.1, gM v4 (fX11_play 461 v4).2)) else (let v4 : vSt := (fX10_play o1 v).2.2; ((-100103), gM v4 (fX11_play 461 v4).2))
def kkL_play (o1 : Nat) (v : vSt) : Nat := pot ((fL_play o1 v).2) - pot v + 36
def oL_play (o1 : Nat) (v : vSt) : Prop := (oX10_play o1 v) ∧ ((0 + kkX10_play o1 v ≤ kkL_play o1 v) ∧ (¬ ((fX10_play o1 v).1 = 0) → (∀ v4 : vSt, v4 = ((fX10_play o1 v).2.2) → ((fX10_play o1 v).1 = 2))))
abbrev rmL_play (o1 : Nat) (v : vSt) : Room := { frames := 9, cells := kkL_play o1 v, slots := kkL_play o1 v, locals := 252 }
theorem dL_play_0 : decode cL_play 0 = .ok (.aload_n 0, 1) := by decide +kernel
theorem dL_play_1 : decode cL_play 1 = .ok (.invokevirtual 119, 3) := by decide +kernel
theorem dL_play_4 : decode cL_play 4 = .ok (.ireturn, 1) := by decide +kernel
theorem dL_play_5 : decode cL_play 5 = .ok (.astore_n 1, 1) := by decide +kernel
theorem dL_play_6 : decode cL_play 6 = .ok (.ldc 20, 2) := by decide +kernel
theorem dL_play_8 : decode cL_play 8 = .ok (.ireturn, 1) := by decide +kernel
set_option maxHeartbeats 8000000 in
set_option maxRecDepth 100000 in
theorem mL_play (l : Launch) (hst : l.stackTraces = false) (G : gG) (da : Nat → Nat) (v : vSt) (x : gX) (o1 : Nat) (hk_o1 : kd o1 = 10) (ho : oL_play o1 v) : LI l yL_play cL_play 2 [((0 : Nat), (4 : Nat), (5 : Nat), (18 : Nat))] (rmL_play o1 v) [.ref (ga G o1)] G da v x (kkL_play o1 v) (kkL_play o1 v) (fL_play o1 v).1 (fL_play o1 v).2 x := by
  refine gofL (by decide) rfl (Nat.le_of_ble_eq_true rfl) (fun p e s m args below meth c ls Q X hN htab hH hl E => ?_)
  have hx := X.1
  have hb := X.2.1
  have hown := X.2.2.2.1
  have hts := X.2.2.2.2.1
  have hS : va_S (gA G) s.heap s.heap [] := va_S.rf
  unfold oL_play at ho
  have hl : lv_has ls 2 [(0, .ref (ga G o1))] := hl
  refine lv_aload_n hx hb dL_play_0 rfl (lv_at hl 0 rfl) ?_
  have hq1 := ho.1
  have ho := ho.2
  have hq2 := ho.1
  have ho := ho.2
  refine k_X10_play hst X hS hH hk_o1 hq1 t_ml_VernierDrawersLaw_119 hl.1 (Nat.le_of_ble_eq_true rfl) ⟨Nat.le_of_ble_eq_true rfl, Nat.le_of_ble_eq_true rfl⟩ ⟨hq2, hq2⟩ dL_play_1 (fun c3 da ce9 q9 H locs v4 ev4 hH hS g1 g2 g3 => ?_) (fun c3 da H locs v4 ev4 hH hS => ?_)
  · have ho := ho c3
    have ho := ho v4 ev4
    have hq5 := ho
    refine t_c1 (k := 2) X htab rfl g1 g2 (hq5 ▸ g3) ?_
    refine lv_astore_n (lv' := [(1, .ref q9), (0, .ref (ga G o1))]) hx hb dL_play_5 rfl hl (by decide) rfl (fun ls hl => ?_)
    refine lv_ldc (v := (-100103)) hx hb hown (hts _ t_con_VernierDrawersLaw_20) dL_play_6 ?_
    have hHz := hH
    have hSz := hS
    replace ev4 := Eq.symm ev4
    subst ev4
    exact E _ _ _ _ _ _ _ _ _ _ dL_play_8 (pr1 ((fL_play.eq_1 _ _).trans ((if_neg c3).trans rfl))) (pr2 ((fL_play.eq_1 _ _).trans ((if_neg c3).trans rfl))) rfl (hHz.gh (fun r hr => gM_lo hr)) hSz hq2 hq2
  · skip
    have hHz := hH
    have hSz := hS
    replace ev4 := Eq.symm ev4
    subst ev4
    exact E _ _ _ _ _ _ _ _ _ _ dL_play_4 (pr1 ((fL_play.eq_1 _ _).trans ((if_pos c3).trans rfl))) (pr2 ((fL_play.eq_1 _ _).trans ((if_pos c3).trans rfl))) rfl (hHz.gh (fun r hr => gM_lo hr)) hSz hq2 hq2
theorem k_L_play {p : Program} {l : Launch} {e : Env} {R : Room} {s : State} {m : MethodId} {args : Array Value} {below : List Frame} {meth : Method} {c : Code} {H : Heap} {locs : List Loc} {cells slots : Nat} {Q : State → Prop} {cc : ByteArray} {pc nL : Nat} {ls : Array Slot} {rest : List Value} {G : gG} {own : String} {da : Nat → Nat} {v : vSt} {x : gX} (hst : l.stackTraces = false) (X : CX G p s m args c cc nL own) (hS : va_S (gA G) s.heap H locs) (hN : NC s) (hH : Hp G da v x H) {o1 : Nat} (hk_o1 : kd o1 = 10) (ho : oL_play o1 v) {idx : Nat} (hml : Cond.methodLink own idx yL_play ∈ TT) (hls : ls.size = nL) (hsum : (rest.map fun v => v.category).sum ≤ 8) (hR : (rmL_play o1 v).frames + 1 ≤ R.frames ∧ 8 + (2 + 11) + (rmL_play o1 v).locals ≤ R.locals) (hcs : cells + (kkL_play o1 v) ≤ R.cells ∧ slots + (kkL_play o1 v) ≤ R.slots) (hdg : decode cc pc = .ok (.invokestatic idx, 3)) (kk : ∀ (d : Nat → Nat) (H1 : Heap) (locs1 : List Loc) (v1 : vSt), v1 = (fL_play o1 v).2 → Hp G d v1 x H1 → va_S (gA G) s.heap H1 locs1 → W p l e R s m args below meth c H1 locs1 (cells + (kkL_play o1 v)) (slots + (kkL_play o1 v)) Q (F0 m (pc + 3) ls (.int (fL_play o1 v).1 :: rest))) : W p l e R s m args below meth c H locs cells slots Q (F0 m pc ls (.ref (ga G o1) :: rest)) := c_li (runLS (kp := 1) X.1 X.2.1 X.2.2.1 X.2.2.2.1 X.2.2.2.2.1 (mL_play l hst G da v x o1 hk_o1 ho) pN_bl hml t_st_L_play t_ini_VernierDrawersLaw t_code_L_play ⟨by decide, by decide, by decide +kernel⟩ rfl rfl hR hcs (preN X hN hS hH) rfl hls rfl hsum hdg) hS (fun d9 H9 L9 hH9 => kk d9 H9 L9 _ rfl hH9)
def fL_kindOf (o1 : Nat) (p1 : Int32) (v : vSt) : Int32 := if (fX10_kindOf o1 p1 v).1 = 0 then ((fX10_kindOf o1 p1 v).2) else ((-100102))
def oL_kindOf (o1 : Nat) (p1 : Int32) (v : vSt) : Prop := (oX10_kindOf o1 p1 v) ∧ (¬ ((fX10_kindOf o1 p1 v).1 = 0) → ((fX10_kindOf o1 p1 v).1 = 1))
abbrev rmL_kindOf : Room := { frames := 8, cells := 6, slots := 6, locals := 132 }
theorem dL_kindOf_0 : decode cL_kindOf 0 = .ok (.aload_n 0, 1) := by decide +kernel
theorem dL_kindOf_1 : decode cL_kindOf 1 = .ok (.iload_n 1, 1) := by decide +kernel
theorem dL_kindOf_2 : decode cL_kindOf 2 = .ok (.invokevirtual 122, 3) := by decide +kernel
theorem dL_kindOf_5 : decode cL_kindOf 5 = .ok (.ireturn, 1) := by decide +kernel
theorem dL_kindOf_6 : decode cL_kindOf 6 = .ok (.astore_n 2, 1) := by decide +kernel
theorem dL_kindOf_7 : decode cL_kindOf 7 = .ok (.ldc 17, 2) := by decide +kernel
theorem dL_kindOf_9 : decode cL_kindOf 9 = .ok (.ireturn, 1) := by decide +kernel
set_option maxHeartbeats 8000000 in
set_option maxRecDepth 100000 in
theorem mL_kindOf (l : Launch) (hst : l.stackTraces = false) (G : gG) (da : Nat → Nat) (v : vSt) (x : gX) (o1 : Nat) (hk_o1 : kd o1 = 10) (p1 : Int32) (ho : oL_kindOf o1 p1 v) : LI l yL_kindOf cL_kindOf 3 [((0 : Nat), (5 : Nat), (6 : Nat), (15 : Nat))] rmL_kindOf [.ref (ga G o1), .int p1] G da v x 6 6 (fL_kindOf o1 p1 v) v x := by
  refine gofL (by decide) rfl (Nat.le_of_ble_eq_true rfl) (fun p e s m args below meth c ls Q X hN htab hH hl E => ?_)
  have hx := X.1
  have hb := X.2.1
  have hown := X.2.2.2.1
  have hts := X.2.2.2.2.1
  have hS : va_S (gA G) s.heap s.heap [] := va_S.rf
  unfold oL_kindOf at ho
  have hl : lv_has ls 3 [(0, .ref (ga G o1)), (1, .int p1)] := hl
  refine lv_aload_n hx hb dL_kindOf_0 rfl (lv_at hl 0 rfl) ?_
  refine lv_iload_n hx hb dL_kindOf_1 rfl (lv_at hl 1 rfl) ?_
  have hq1 := ho.1
  have ho := ho.2
  refine k_X10_kindOf hst X hS hH hk_o1 hq1 t_ml_VernierDrawersLaw_122 hl.1 (Nat.le_of_ble_eq_true rfl) ⟨Nat.le_of_ble_eq_true rfl, Nat.le_of_ble_eq_true rfl⟩ ⟨(Nat.le_of_ble_eq_true rfl), (Nat.le_of_ble_eq_true rfl)⟩ dL_kindOf_2 (fun c2 da ce9 q9 H locs hH hS g1 g2 g3 => ?_) (fun c2 da H locs hH hS => ?_)
  · have ho := ho c2
    have hq3 := ho
    refine t_c1 (k := 1) X htab rfl g1 g2 (hq3 ▸ g3) ?_
    refine lv_astore_n (lv' := [(2, .ref q9), (0, .ref (ga G o1)), (1, .int p1)]) hx hb dL_kindOf_6 rfl hl (by decide) rfl (fun ls hl => ?_)
    refine lv_ldc (v := (-100102)) hx hb hown (hts _ t_con_VernierDrawersLaw_17) dL_kindOf_7 ?_
    exact E _ _ _ _ _ _ _ _ _ _ dL_kindOf_9 (Eq.symm ((fL_kindOf.eq_1 _ _ _).trans ((if_neg c2).trans rfl))) rfl rfl hH hS (Nat.le_of_ble_eq_true rfl) (Nat.le_of_ble_eq_true rfl)
  · skip
    exact E _ _ _ _ _ _ _ _ _ _ dL_kindOf_5 (Eq.symm ((fL_kindOf.eq_1 _ _ _).trans ((if_pos c2).trans rfl))) rfl rfl hH hS (Nat.le_of_ble_eq_true rfl) (Nat.le_of_ble_eq_true rfl)
theorem k_L_kindOf {p : Program} {l : Launch} {e : Env} {R : Room} {s : State} {m : MethodId} {args : Array Value} {below : List Frame} {meth : Method} {c : Code} {H : Heap} {locs : List Loc} {cells slots : Nat} {Q : State → Prop} {cc : ByteArray} {pc nL : Nat} {ls : Array Slot} {rest : List Value} {G : gG} {own : String} {da : Nat → Nat} {v : vSt} {x : gX} (hst : l.stackTraces = false) (X : CX G p s m args c cc nL own) (hS : va_S (gA G) s.heap H locs) (hN : NC s) (hH : Hp G da v x H) {o1 : Nat} (hk_o1 : kd o1 = 10) {p1 : Int32} (ho : oL_kindOf o1 p1 v) {idx : Nat} (hml : Cond.methodLink own idx yL_kindOf ∈ TT) (hls : ls.size = nL) (hsum : (rest.map fun v => v.category).sum ≤ 8) (hR : rmL_kindOf.frames + 1 ≤ R.frames ∧ 8 + (3 + 11) + rmL_kindOf.locals ≤ R.locals) (hcs : cells + 6 ≤ R.cells ∧ slots + 6 ≤ R.slots) (hdg : decode cc pc = .ok (.invokestatic idx, 3)) (kk : ∀ (d : Nat → Nat) (H1 : Heap) (locs1 : List Loc), Hp G d v x H1 → va_S (gA G) s.heap H1 locs1 → W p l e R s m args below meth c H1 locs1 (cells + 6) (slots + 6) Q (F0 m (pc + 3) ls (.int (fL_kindOf o1 p1 v) :: rest))) : W p l e R s m args below meth c H locs cells slots Q (F0 m pc ls (.int p1 :: .ref (ga G o1) :: rest)) := c_li (runLS (kp := 2) X.1 X.2.1 X.2.2.1 X.2.2.2.1 X.2.2.2.2.1 (mL_kindOf l hst G da v x o1 hk_o1 p1 ho) pN_bl hml t_st_L_kindOf t_ini_VernierDrawersLaw t_code_L_kindOf ⟨by decide, by decide, by decide +kernel⟩ rfl rfl hR hcs (preN X hN hS hH) rfl hls rfl hsum hdg) hS kk
def fL_readingFor (o1 : Nat) (p1 : Int32) (p2 : Int32) (p3 : Int32) (v : vSt) : Int32 := if (fX10_readingFor o1 p1 p2 p3 v).1 = 0 then ((fX10_readingFor o1 p1 p2 p3 v).2) else (if (fX10_readingFor o1 p1 p2 p3 v).1 = 1 then ((-100102)) else ((-100104)))
def oL_readingFor (o1 : Nat) (p1 : Int32) (p2 : Int32) (p3 : Int32) (v : vSt) : Prop := (oX10_readingFor o1 p1 p2 p3 v) ∧ (¬ ((fX10_readingFor o1 p1 p2 p3 v).1 = 0) → (¬ ((fX10_readingFor o1 p1 p2 p3 v).1 = 1) → ((fX10_readingFor o1 p1 p2 p3 v).1 = 3)))
abbrev rmL_readingFor : Room := { frames := 9, cells := 6, slots := 6, locals := 158 }
theorem dL_readingFor_0 : decode cL_readingFor 0 = .ok (.aload_n 0, 1) := by decide +kernel
theorem dL_readingFor_1 : decode cL_readingFor 1 = .ok (.iload_n 1, 1) := by decide +kernel
theorem dL_readingFor_2 : decode cL_readingFor 2 = .ok (.iload_n 2, 1) := by decide +kernel
theorem dL_readingFor_3 : decode cL_readingFor 3 = .ok (.iload_n 3, 1) := by decide +kernel
theorem dL_readingFor_4 : decode cL_readingFor 4 = .ok (.invokevirtual 140, 3) := by decide +kernel
theorem dL_readingFor_7 : decode cL_readingFor 7 = .ok (.ireturn, 1) := by decide +kernel
theorem dL_readingFor_8 : decode cL_readingFor 8 = .ok (.astore 4, 2) := by decide +kernel
theorem dL_readingFor_10 : decode cL_readingFor 10 = .ok (.ldc 17, 2) := by decide +kernel
theorem dL_readingFor_12 : decode cL_readingFor 12 = .ok (.ireturn, 1) := by decide +kernel
theorem dL_readingFor_13 : decode cL_readingFor 13 = .ok (.astore 4, 2) := by decide +kernel
theorem dL_readingFor_15 : decode cL_readingFor 15 = .ok (.ldc 73, 2) := by decide +kernel
theorem dL_readingFor_17 : decode cL_readingFor 17 = .ok (.ireturn, 1) := by decide +kernel
set_option maxHeartbeats 8000000 in
set_option maxRecDepth 100000 in
theorem mL_readingFor (l : Launch) (hst : l.stackTraces = false) (G : gG) (da : Nat → Nat) (v : vSt) (x : gX) (o1 : Nat) (hk_o1 : kd o1 = 10) (p1 : Int32) (p2 : Int32) (p3 : Int32) (ho : oL_readingFor o1 p1 p2 p3 v) : LI l yL_readingFor cL_readingFor 5 [((0 : Nat), (7 : Nat), (8 : Nat), (15 : Nat)), ((0 : Nat), (7 : Nat), (13 : Nat), (71 : Nat))] rmL_readingFor [.ref (ga G o1), .int p1, .int p2, .int p3] G da v x 6 6 (fL_readingFor o1 p1 p2 p3 v) v x := by
  refine gofL (by decide) rfl (Nat.le_of_ble_eq_true rfl) (fun p e s m args below meth c ls Q X hN htab hH hl E => ?_)
  have hx := X.1
  have hb := X.2.1
  have hown := X.2.2.2.1
  have hts := X.2.2.2.2.1
  have hS : va_S (gA G) s.heap s.heap [] := va_S.rf
  unfold oL_readingFor at ho
  have hl : lv_has ls 5 [(0, .ref (ga G o1)), (1, .int p1), (2, .int p2), (3, .int p3)] := hl
  refine lv_aload_n hx hb dL_readingFor_0 rfl (lv_at hl 0 rfl) ?_
  refine lv_iload_n hx hb dL_readingFor_1 rfl (lv_at hl 1 rfl) ?_
  refine lv_iload_n hx hb dL_readingFor_2 rfl (lv_at hl 2 rfl) ?_
  refine lv_iload_n hx hb dL_readingFor_3 rfl (lv_at hl 3 rfl) ?_
  have hq1 := ho.1
  have ho := ho.2
  refine k_X10_readingFor hst X hS hH hk_o1 hq1 t_ml_VernierDrawersLaw_140 hl.1 (Nat.le_of_ble_eq_true rfl) ⟨Nat.le_of_ble_eq_true rfl, Nat.le_of_ble_eq_true rfl⟩ ⟨(Nat.le_of_ble_eq_true rfl), (Nat.le_of_ble_eq_true rfl)⟩ dL_readingFor_4 (fun c2 da ce9 q9 H locs hH hS g1 g2 g3 => ?_) (fun c2 da H locs hH hS => ?_)
  · have ho := ho c2
    refine (Decidable.em ((fX10_readingFor o1 p1 p2 p3 v).1 = 1)).elim (fun c3 => ?_) (fun c3 => ?_)
    · skip
      refine t_c1 (k := 1) X htab rfl g1 g2 (c3 ▸ g3) ?_
      refine lv_astore (lv' := [(4, .ref q9), (0, .ref (ga G o1)), (1, .int p1), (2, .int p2), (3, .int p3)]) hx hb dL_readingFor_8 hl (by decide) rfl (fun ls hl => ?_)
      refine lv_ldc (v := (-100102)) hx hb hown (hts _ t_con_VernierDrawersLaw_17) dL_readingFor_10 ?_
      exact E _ _ _ _ _ _ _ _ _ _ dL_readingFor_12 (Eq.symm ((fL_readingFor.eq_1 _ _ _ _ _).trans ((if_neg c2).trans ((if_pos c3).trans rfl)))) rfl rfl hH hS (Nat.le_of_ble_eq_true rfl) (Nat.le_of_ble_eq_true rfl)
    · have ho := ho c3
      have hq4 := ho
      refine t_c2 (k := 3) X hN htab (by decide) rfl g1 g2 (hq4 ▸ g3) ?_
      refine lv_astore (lv' := [(4, .ref q9), (0, .ref (ga G o1)), (1, .int p1), (2, .int p2), (3, .int p3)]) hx hb dL_readingFor_13 hl (by decide) rfl (fun ls hl => ?_)
      refine lv_ldc (v := (-100104)) hx hb hown (hts _ t_con_VernierDrawersLaw_73) dL_readingFor_15 ?_
      exact E _ _ _ _ _ _ _ _ _ _ dL_readingFor_17 (Eq.symm ((fL_readingFor.eq_1 _ _ _ _ _).trans ((if_neg c2).trans ((if_neg c3).trans rfl)))) rfl rfl hH hS (Nat.le_of_ble_eq_true rfl) (Nat.le_of_ble_eq_true rfl)
  · skip
    exact E _ _ _ _ _ _ _ _ _ _ dL_readingFor_7 (Eq.symm ((fL_readingFor.eq_1 _ _ _ _ _).trans ((if_pos c2).trans rfl))) rfl rfl hH hS (Nat.le_of_ble_eq_true rfl) (Nat.le_of_ble_eq_true rfl)
theorem k_L_readingFor {p : Program} {l : Launch} {e : Env} {R : Room} {s : State} {m : MethodId} {args : Array Value} {below : List Frame} {meth : Method} {c : Code} {H : Heap} {locs : List Loc} {cells slots : Nat} {Q : State → Prop} {cc : ByteArray} {pc nL : Nat} {ls : Array Slot} {rest : List Value} {G : gG} {own : String} {da : Nat → Nat} {v : vSt} {x : gX} (hst : l.stackTraces = false) (X : CX G p s m args c cc nL own) (hS : va_S (gA G) s.heap H locs) (hN : NC s) (hH : Hp G da v x H) {o1 : Nat} (hk_o1 : kd o1 = 10) {p1 : Int32} {p2 : Int32} {p3 : Int32} (ho : oL_readingFor o1 p1 p2 p3 v) {idx : Nat} (hml : Cond.methodLink own idx yL_readingFor ∈ TT) (hls : ls.size = nL) (hsum : (rest.map fun v => v.category).sum ≤ 8) (hR : rmL_readingFor.frames + 1 ≤ R.frames ∧ 8 + (5 + 11) + rmL_readingFor.locals ≤ R.locals) (hcs : cells + 6 ≤ R.cells ∧ slots + 6 ≤ R.slots) (hdg : decode cc pc = .ok (.invokestatic idx, 3)) (kk : ∀ (d : Nat → Nat) (H1 : Heap) (locs1 : List Loc), Hp G d v x H1 → va_S (gA G) s.heap H1 locs1 → W p l e R s m args below meth c H1 locs1 (cells + 6) (slots + 6) Q (F0 m (pc + 3) ls (.int (fL_readingFor o1 p1 p2 p3 v) :: rest))) : W p l e R s m args below meth c H locs cells slots Q (F0 m pc ls (.int p3 :: .int p2 :: .int p1 :: .ref (ga G o1) :: rest)) := c_li (runLS (kp := 4) X.1 X.2.1 X.2.2.1 X.2.2.2.1 X.2.2.2.2.1 (mL_readingFor l hst G da v x o1 hk_o1 p1 p2 p3 ho) pN_bl hml t_st_L_readingFor t_ini_VernierDrawersLaw t_code_L_readingFor ⟨by decide, by decide, by decide +kernel⟩ rfl rfl hR hcs (preN X hN hS hH) rfl hls rfl hsum hdg) hS kk
def fL_readingByLooking (o1 : Nat) (p1 : Int32) (p2 : Int32) (p3 : Int32) (v : vSt) : Int32 := if (fX10_readingByLooking o1 p1 p2 p3 v).1 = 0 then ((fX10_readingByLooking o1 p1 p2 p3 v).2) else (if (fX10_readingByLooking o1 p1 p2 p3 v).1 = 1 then ((-100102)) else ((-100104)))
def oL_readingByLooking (o1 : Nat) (p1 : Int32) (p2 : Int32) (p3 : Int32) (v : vSt) : Prop := (oX10_readingByLooking o1 p1 p2 p3 v) ∧ (¬ ((fX10_readingByLooking o1 p1 p2 p3 v).1 = 0) → (¬ ((fX10_readingByLooking o1 p1 p2 p3 v).1 = 1) → ((fX10_readingByLooking o1 p1 p2 p3 v).1 = 3)))
abbrev rmL_readingByLooking : Room := { frames := 9, cells := 12, slots := 12, locals := 159 }
theorem dL_readingByLooking_0 : decode cL_readingByLooking 0 = .ok (.aload_n 0, 1) := by decide +kernel
theorem dL_readingByLooking_1 : decode cL_readingByLooking 1 = .ok (.iload_n 1, 1) := by decide +kernel
theorem dL_readingByLooking_2 : decode cL_readingByLooking 2 = .ok (.iload_n 2, 1) := by decide +kernel
theorem dL_readingByLooking_3 : decode cL_readingByLooking 3 = .ok (.iload_n 3, 1) := by decide +kernel
theorem dL_readingByLooking_4 : decode cL_readingByLooking 4 = .ok (.invokevirtual 143, 3) := by decide +kernel
theorem dL_readingByLooking_7 : decode cL_readingByLooking 7 = .ok (.ireturn, 1) := by decide +kernel
theorem dL_readingByLooking_8 : decode cL_readingByLooking 8 = .ok (.astore 4, 2) := by decide +kernel
theorem dL_readingByLooking_10 : decode cL_readingByLooking 10 = .ok (.ldc 17, 2) := by decide +kernel
theorem dL_readingByLooking_12 : decode cL_readingByLooking 12 = .ok (.ireturn, 1) := by decide +kernel
theorem dL_readingByLooking_13 : decode cL_readingByLooking 13 = .ok (.astore 4, 2) := by decide +kernel
theorem dL_readingByLooking_15 : decode cL_readingByLooking 15 = .ok (.ldc 73, 2) := by decide +kernel
theorem dL_readingByLooking_17 : decode cL_readingByLooking 17 = .ok (.ireturn, 1) := by decide +kernel
set_option maxHeartbeats 8000000 in
set_option maxRecDepth 100000 in
theorem mL_readingByLooking (l : Launch) (hst : l.stackTraces = false) (G : gG) (da : Nat → Nat) (v : vSt) (x : gX) (o1 : Nat) (hk_o1 : kd o1 = 10) (p1 : Int32) (p2 : Int32) (p3 : Int32) (ho : oL_readingByLooking o1 p1 p2 p3 v) : LI l yL_readingByLooking cL_readingByLooking 5 [((0 : Nat), (7 : Nat), (8 : Nat), (15 : Nat)), ((0 : Nat), (7 : Nat), (13 : Nat), (71 : Nat))] rmL_readingByLooking [.ref (ga G o1), .int p1, .int p2, .int p3] G da v x 12 12 (fL_readingByLooking o1 p1 p2 p3 v) v x := by
  refine gofL (by decide) rfl (Nat.le_of_ble_eq_true rfl) (fun p e s m args below meth c ls Q X hN htab hH hl E => ?_)
  have hx := X.1
  have hb := X.2.1
  have hown := X.2.2.2.1
  have hts := X.2.2.2.2.1
  have hS : va_S (gA G) s.heap s.heap [] := va_S.rf
  unfold oL_readingByLooking at ho
  have hl : lv_has ls 5 [(0, .ref (ga G o1)), (1, .int p1), (2, .int p2), (3, .int p3)] := hl
  refine lv_aload_n hx hb dL_readingByLooking_0 rfl (lv_at hl 0 rfl) ?_
  refine lv_iload_n hx hb dL_readingByLooking_1 rfl (lv_at hl 1 rfl) ?_
  refine lv_iload_n hx hb dL_readingByLooking_2 rfl (lv_at hl 2 rfl) ?_
  refine lv_iload_n hx hb dL_readingByLooking_3 rfl (lv_at hl 3 rfl) ?_
  have hq1 := ho.1
  have ho := ho.2
  refine k_X10_readingByLooking hst X hS hH hk_o1 hq1 t_ml_VernierDrawersLaw_143 hl.1 (Nat.le_of_ble_eq_true rfl) ⟨Nat.le_of_ble_eq_true rfl, Nat.le_of_ble_eq_true rfl⟩ ⟨(Nat.le_of_ble_eq_true rfl), (Nat.le_of_ble_eq_true rfl)⟩ dL_readingByLooking_4 (fun c2 da ce9 q9 H locs hH hS g1 g2 g3 => ?_) (fun c2 da H locs hH hS => ?_)
  · have ho := ho c2
    refine (Decidable.em ((fX10_readingByLooking o1 p1 p2 p3 v).1 = 1)).elim (fun c3 => ?_) (fun c3 => ?_)
    · skip
      refine t_c1 (k := 1) X htab rfl g1 g2 (c3 ▸ g3) ?_
      refine lv_astore (lv' := [(4, .ref q9), (0, .ref (ga G o1)), (1, .int p1), (2, .int p2), (3, .int p3)]) hx hb dL_readingByLooking_8 hl (by decide) rfl (fun ls hl => ?_)
      refine lv_ldc (v := (-100102)) hx hb hown (hts _ t_con_VernierDrawersLaw_17) dL_readingByLooking_10 ?_
      exact E _ _ _ _ _ _ _ _ _ _ dL_readingByLooking_12 (Eq.symm ((fL_readingByLooking.eq_1 _ _ _ _ _).trans ((if_neg c2).trans ((if_pos c3).trans rfl)))) rfl rfl hH hS (Nat.le_of_ble_eq_true rfl) (Nat.le_of_ble_eq_true rfl)
    · have ho := ho c3
      have hq4 := ho
      refine t_c2 (k := 3) X hN htab (by decide) rfl g1 g2 (hq4 ▸ g3) ?_
      refine lv_astore (lv' := [(4, .ref q9), (0, .ref (ga G o1)), (1, .int p1), (2, .int p2), (3, .int p3)]) hx hb dL_readingByLooking_13 hl (by decide) rfl (fun ls hl => ?_)
      refine lv_ldc (v := (-100104)) hx hb hown (hts _ t_con_VernierDrawersLaw_73) dL_readingByLooking_15 ?_
      exact E _ _ _ _ _ _ _ _ _ _ dL_readingByLooking_17 (Eq.symm ((fL_readingByLooking.eq_1 _ _ _ _ _).trans ((if_neg c2).trans ((if_neg c3).trans rfl)))) rfl rfl hH hS (Nat.le_of_ble_eq_true rfl) (Nat.le_of_ble_eq_true rfl)
  · skip
    exact E _ _ _ _ _ _ _ _ _ _ dL_readingByLooking_7 (Eq.symm ((fL_readingByLooking.eq_1 _ _ _ _ _).trans ((if_pos c2).trans rfl))) rfl rfl hH hS (Nat.le_of_ble_eq_true rfl) (Nat.le_of_ble_eq_true rfl)
theorem k_L_readingByLooking {p : Program} {l : Launch} {e : Env} {R : Room} {s : State} {m : MethodId} {args : Array Value} {below : List Frame} {meth : Method} {c : Code} {H : Heap} {locs : List Loc} {cells slots : Nat} {Q : State → Prop} {cc : ByteArray} {pc nL : Nat} {ls : Array Slot} {rest : List Value} {G : gG} {own : String} {da : Nat → Nat} {v : vSt} {x : gX} (hst : l.stackTraces = false) (X : CX G p s m args c cc nL own) (hS : va_S (gA G) s.heap H locs) (hN : NC s) (hH : Hp G da v x H) {o1 : Nat} (hk_o1 : kd o1 = 10) {p1 : Int32} {p2 : Int32} {p3 : Int32} (ho : oL_readingByLooking o1 p1 p2 p3 v) {idx : Nat} (hml : Cond.methodLink own idx yL_readingByLooking ∈ TT) (hls : ls.size = nL) (hsum : (rest.map fun v => v.category).sum ≤ 8) (hR : rmL_readingByLooking.frames + 1 ≤ R.frames ∧ 8 + (5 + 11) + rmL_readingByLooking.locals ≤ R.locals) (hcs : cells + 12 ≤ R.cells ∧ slots + 12 ≤ R.slots) (hdg : decode cc pc = .ok (.invokestatic idx, 3)) (kk : ∀ (d : Nat → Nat) (H1 : Heap) (locs1 : List Loc), Hp G d v x H1 → va_S (gA G) s.heap H1 locs1 → W p l e R s m args below meth c H1 locs1 (cells + 12) (slots + 12) Q (F0 m (pc + 3) ls (.int (fL_readingByLooking o1 p1 p2 p3 v) :: rest))) : W p l e R s m args below meth c H locs cells slots Q (F0 m pc ls (.int p3 :: .int p2 :: .int p1 :: .ref (ga G o1) :: rest)) := c_li (runLS (kp := 4) X.1 X.2.1 X.2.2.1 X.2.2.2.1 X.2.2.2.2.1 (mL_readingByLooking l hst G da v x o1 hk_o1 p1 p2 p3 ho) pN_bl hml t_st_L_readingByLooking t_ini_VernierDrawersLaw t_code_L_readingByLooking ⟨by decide, by decide, by decide +kernel⟩ rfl rfl hR hcs (preN X hN hS hH) rfl hls rfl hsum hdg) hS kk
def fL_markFor (o1 : Nat) (p1 : Int32) (p2 : Int32) (p3 : Int32) (v : vSt) : Int32 := if (fX10_markFor o1 p1 p2 p3 v).1 = 0 then ((fX10_markFor o1 p1 p2 p3 v).2) else (if (fX10_markFor o1 p1 p2 p3 v).1 = 1 then ((-100102)) else ((-100104)))
def oL_markFor (o1 : Nat) (p1 : Int32) (p2 : Int32) (p3 : Int32) (v : vSt) : Prop := (oX10_markFor o1 p1 p2 p3 v) ∧ (¬ ((fX10_markFor o1 p1 p2 p3 v).1 = 0) → (¬ ((fX10_markFor o1 p1 p2 p3 v).1 = 1) → ((fX10_markFor o1 p1 p2 p3 v).1 = 3)))
abbrev rmL_markFor : Room := { frames := 9, cells := 12, slots := 12, locals := 159 }
theorem dL_markFor_0 : decode cL_markFor 0 = .ok (.aload_n 0, 1) := by decide +kernel
theorem dL_markFor_1 : decode cL_markFor 1 = .ok (.iload_n 1, 1) := by decide +kernel
theorem dL_markFor_2 : decode cL_markFor 2 = .ok (.iload_n 2, 1) := by decide +kernel
theorem dL_markFor_3 : decode cL_markFor 3 = .ok (.iload_n 3, 1) := by decide +kernel
theorem dL_markFor_4 : decode cL_markFor 4 = .ok (.invokevirtual 146, 3) := by decide +kernel
theorem dL_markFor_7 : decode cL_markFor 7 = .ok (.ireturn, 1) := by decide +kernel
theorem dL_markFor_8 : decode cL_markFor 8 = .ok (.astore 4, 2) := by decide +kernel
theorem dL_markFor_10 : decode cL_markFor 10 = .ok (.ldc 17, 2) := by decide +kernel
theorem dL_markFor_12 : decode cL_markFor 12 = .ok (.ireturn, 1) := by decide +kernel
theorem dL_markFor_13 : decode cL_markFor 13 = .ok (.astore 4, 2) := by decide +kernel
theorem dL_markFor_15 : decode cL_markFor 15 = .ok (.ldc 73, 2) := by decide +kernel
theorem dL_markFor_17 : decode cL_markFor 17 = .ok (.ireturn, 1) := by decide +kernel
set_option maxHeartbeats 8000000 in
set_option maxRecDepth 100000 in
theorem mL_markFor (l : Launch) (hst : l.stackTraces = false) (G : gG) (da : Nat → Nat) (v : vSt) (x : gX) (o1 : Nat) (hk_o1 : kd o1 = 10) (p1 : Int32) (p2 : Int32) (p3 : Int32) (ho : oL_markFor o1 p1 p2 p3 v) : LI l yL_markFor cL_markFor 5 [((0 : Nat), (7 : Nat), (8 : Nat), (15 : Nat)), ((0 : Nat), (7 : Nat), (13 : Nat), (71 : Nat))] rmL_markFor [.ref (ga G o1), .int p1, .int p2, .int p3] G da v x 12 12 (fL_markFor o1 p1 p2 p3 v) v x := by
  refine gofL (by decide) rfl (Nat.le_of_ble_eq_true rfl) (fun p e s m args below meth c ls Q X hN htab hH hl E => ?_)
  have hx := X.1
  have hb := X.2.1
  have hown := X.2.2.2.1
  have hts := X.2.2.2.2.1
  have hS : va_S (gA G) s.heap s.heap [] := va_S.rf
  unfold oL_markFor at ho
  have hl : lv_has ls 5 [(0, .ref (ga G o1)), (1, .int p1), (2, .int p2), (3, .int p3)] := hl
  refine lv_aload_n hx hb dL_markFor_0 rfl (lv_at hl 0 rfl) ?_
  refine lv_iload_n hx hb dL_markFor_1 rfl (lv_at hl 1 rfl) ?_
  refine lv_iload_n hx hb dL_markFor_2 rfl (lv_at hl 2 rfl) ?_
  refine lv_iload_n hx hb dL_markFor_3 rfl (lv_at hl 3 rfl) ?_
  have hq1 := ho.1
  have ho := ho.2
  refine k_X10_markFor hst X hS hH hk_o1 hq1 t_ml_VernierDrawersLaw_146 hl.1 (Nat.le_of_ble_eq_true rfl) ⟨Nat.le_of_ble_eq_true rfl, Nat.le_of_ble_eq_true rfl⟩ ⟨(Nat.le_of_ble_eq_true rfl), (Nat.le_of_ble_eq_true rfl)⟩ dL_markFor_4 (fun c2 da ce9 q9 H locs hH hS g1 g2 g3 => ?_) (fun c2 da H locs hH hS => ?_)
  · have ho := ho c2
    refine (Decidable.em ((fX10_markFor o1 p1 p2 p3 v).1 = 1)).elim (fun c3 => ?_) (fun c3 => ?_)
    · skip
      refine t_c1 (k := 1) X htab rfl g1 g2 (c3 ▸ g3) ?_
      refine lv_astore (lv' := [(4, .ref q9), (0, .ref (ga G o1)), (1, .int p1), (2, .int p2), (3, .int p3)]) hx hb dL_markFor_8 hl (by decide) rfl (fun ls hl => ?_)
      refine lv_ldc (v := (-100102)) hx hb hown (hts _ t_con_VernierDrawersLaw_17) dL_markFor_10 ?_
      exact E _ _ _ _ _ _ _ _ _ _ dL_markFor_12 (Eq.symm ((fL_markFor.eq_1 _ _ _ _ _).trans ((if_neg c2).trans ((if_pos c3).trans rfl)))) rfl rfl hH hS (Nat.le_of_ble_eq_true rfl) (Nat.le_of_ble_eq_true rfl)
    · have ho := ho c3
      have hq4 := ho
      refine t_c2 (k := 3) X hN htab (by decide) rfl g1 g2 (hq4 ▸ g3) ?_
      refine lv_astore (lv' := [(4, .ref q9), (0, .ref (ga G o1)), (1, .int p1), (2, .int p2), (3, .int p3)]) hx hb dL_markFor_13 hl (by decide) rfl (fun ls hl => ?_)
      refine lv_ldc (v := (-100104)) hx hb hown (hts _ t_con_VernierDrawersLaw_73) dL_markFor_15 ?_
      exact E _ _ _ _ _ _ _ _ _ _ dL_markFor_17 (Eq.symm ((fL_markFor.eq_1 _ _ _ _ _).trans ((if_neg c2).trans ((if_neg c3).trans rfl)))) rfl rfl hH hS (Nat.le_of_ble_eq_true rfl) (Nat.le_of_ble_eq_true rfl)
  · skip
    exact E _ _ _ _ _ _ _ _ _ _ dL_markFor_7 (Eq.symm ((fL_markFor.eq_1 _ _ _ _ _).trans ((if_pos c2).trans rfl))) rfl rfl hH hS (Nat.le_of_ble_eq_true rfl) (Nat.le_of_ble_eq_true rfl)
theorem k_L_markFor {p : Program} {l : Launch} {e : Env} {R : Room} {s : State} {m : MethodId} {args : Array Value} {below : List Frame} {meth : Method} {c : Code} {H : Heap} {locs : List Loc} {cells slots : Nat} {Q : State → Prop} {cc : ByteArray} {pc nL : Nat} {ls : Array Slot} {rest : List Value} {G : gG} {own : String} {da : Nat → Nat} {v : vSt} {x : gX} (hst : l.stackTraces = false) (X : CX G p s m args c cc nL own) (hS : va_S (gA G) s.heap H locs) (hN : NC s) (hH : Hp G da v x H) {o1 : Nat} (hk_o1 : kd o1 = 10) {p1 : Int32} {p2 : Int32} {p3 : Int32} (ho : oL_markFor o1 p1 p2 p3 v) {idx : Nat} (hml : Cond.methodLink own idx yL_markFor ∈ TT) (hls : ls.size = nL) (hsum : (rest.map fun v => v.category).sum ≤ 8) (hR : rmL_markFor.frames + 1 ≤ R.frames ∧ 8 + (5 + 11) + rmL_markFor.locals ≤ R.locals) (hcs : cells + 12 ≤ R.cells ∧ slots + 12 ≤ R.slots) (hdg : decode cc pc = .ok (.invokestatic idx, 3)) (kk : ∀ (d : Nat → Nat) (H1 : Heap) (locs1 : List Loc), Hp G d v x H1 → va_S (gA G) s.heap H1 locs1 → W p l e R s m args below meth c H1 locs1 (cells + 12) (slots + 12) Q (F0 m (pc + 3) ls (.int (fL_markFor o1 p1 p2 p3 v) :: rest))) : W p l e R s m args below meth c H locs cells slots Q (F0 m pc ls (.int p3 :: .int p2 :: .int p1 :: .ref (ga G o1) :: rest)) := c_li (runLS (kp := 4) X.1 X.2.1 X.2.2.1 X.2.2.2.1 X.2.2.2.2.1 (mL_markFor l hst G da v x o1 hk_o1 p1 p2 p3 ho) pN_bl hml t_st_L_markFor t_ini_VernierDrawersLaw t_code_L_markFor ⟨by decide, by decide, by decide +kernel⟩ rfl rfl hR hcs (preN X hN hS hH) rfl hls rfl hsum hdg) hS kk
def fL_lineFor (o1 : Nat) (p1 : Int32) (p2 : Int32) (p3 : Int32) (v : vSt) : Int32 := if (fX10_lineFor o1 p1 p2 p3 v).1 = 0 then ((fX10_lineFor o1 p1 p2 p3 v).2) else (if (fX10_lineFor o1 p1 p2 p3 v).1 = 1 then ((-100102)) else ((-100104)))
def oL_lineFor (o1 : Nat) (p1 : Int32) (p2 : Int32) (p3 : Int32) (v : vSt) : Prop := (oX10_lineFor o1 p1 p2 p3 v) ∧ (¬ ((fX10_lineFor o1 p1 p2 p3 v).1 = 0) → (¬ ((fX10_lineFor o1 p1 p2 p3 v).1 = 1) → ((fX10_lineFor o1 p1 p2 p3 v).1 = 3)))
abbrev rmL_lineFor : Room := { frames := 9, cells := 12, slots := 12, locals := 159 }
theorem dL_lineFor_0 : decode cL_lineFor 0 = .ok (.aload_n 0, 1) := by decide +kernel
theorem dL_lineFor_1 : decode cL_lineFor 1 = .ok (.iload_n 1, 1) := by decide +kernel
theorem dL_lineFor_2 : decode cL_lineFor 2 = .ok (.iload_n 2, 1) := by decide +kernel
theorem dL_lineFor_3 : decode cL_lineFor 3 = .ok (.iload_n 3, 1) := by decide +kernel
theorem dL_lineFor_4 : decode cL_lineFor 4 = .ok (.invokevirtual 149, 3) := by decide +kernel
theorem dL_lineFor_7 : decode cL_lineFor 7 = .ok (.ireturn, 1) := by decide +kernel
theorem dL_lineFor_8 : decode cL_lineFor 8 = .ok (.astore 4, 2) := by decide +kernel
theorem dL_lineFor_10 : decode cL_lineFor 10 = .ok (.ldc 17, 2) := by decide +kernel
theorem dL_lineFor_12 : decode cL_lineFor 12 = .ok (.ireturn, 1) := by decide +kernel
theorem dL_lineFor_13 : decode cL_lineFor 13 = .ok (.astore 4, 2) := by decide +kernel
theorem dL_lineFor_15 : decode cL_lineFor 15 = .ok (.ldc 73, 2) := by decide +kernel
theorem dL_lineFor_17 : decode cL_lineFor 17 = .ok (.ireturn, 1) := by decide +kernel
set_option maxHeartbeats 8000000 in
set_option maxRecDepth 100000 in
theorem mL_lineFor (l : Launch) (hst : l.stackTraces = false) (G : gG) (da : Nat → Nat) (v : vSt) (x : gX) (o1 : Nat) (hk_o1 : kd o1 = 10) (p1 : Int32) (p2 : Int32) (p3 : Int32) (ho : oL_lineFor o1 p1 p2 p3 v) : LI l yL_lineFor cL_lineFor 5 [((0 : Nat), (7 : Nat), (8 : Nat), (15 : Nat)), ((0 : Nat), (7 : Nat), (13 : Nat), (71 : Nat))] rmL_lineFor [.ref (ga G o1), .int p1, .int p2, .int p3] G da v x 12 12 (fL_lineFor o1 p1 p2 p3 v) v x := by
  refine gofL (by decide) rfl (Nat.le_of_ble_eq_true rfl) (fun p e s m args below meth c ls Q X hN htab hH hl E => ?_)
  have hx := X.1
  have hb := X.2.1
  have hown := X.2.2.2.1
  have hts := X.2.2.2.2.1
  have hS : va_S (gA G) s.heap s.heap [] := va_S.rf
  unfold oL_lineFor at ho
  have hl : lv_has ls 5 [(0, .ref (ga G o1)), (1, .int p1), (2, .int p2), (3, .int p3)] := hl
  refine lv_aload_n hx hb dL_lineFor_0 rfl (lv_at hl 0 rfl) ?_
  refine lv_iload_n hx hb dL_lineFor_1 rfl (lv_at hl 1 rfl) ?_
  refine lv_iload_n hx hb dL_lineFor_2 rfl (lv_at hl 2 rfl) ?_
  refine lv_iload_n hx hb dL_lineFor_3 rfl (lv_at hl 3 rfl) ?_
  have hq1 := ho.1
  have ho := ho.2
  refine k_X10_lineFor hst X hS hH hk_o1 hq1 t_ml_VernierDrawersLaw_149 hl.1 (Nat.le_of_ble_eq_true rfl) ⟨Nat.le_of_ble_eq_true rfl, Nat.le_of_ble_eq_true rfl⟩ ⟨(Nat.le_of_ble_eq_true rfl), (Nat.le_of_ble_eq_true rfl)⟩ dL_lineFor_4 (fun c2 da ce9 q9 H locs hH hS g1 g2 g3 => ?_) (fun c2 da H locs hH hS => ?_)
  · have ho := ho c2
    refine (Decidable.em ((fX10_lineFor o1 p1 p2 p3 v).1 = 1)).elim (fun c3 => ?_) (fun c3 => ?_)
    · skip
      refine t_c1 (k := 1) X htab rfl g1 g2 (c3 ▸ g3) ?_
      refine lv_astore (lv' := [(4, .ref q9), (0, .ref (ga G o1)), (1, .int p1), (2, .int p2), (3, .int p3)]) hx hb dL_lineFor_8 hl (by decide) rfl (fun ls hl => ?_)
      refine lv_ldc (v := (-100102)) hx hb hown (hts _ t_con_VernierDrawersLaw_17) dL_lineFor_10 ?_
      exact E _ _ _ _ _ _ _ _ _ _ dL_lineFor_12 (Eq.symm ((fL_lineFor.eq_1 _ _ _ _ _).trans ((if_neg c2).trans ((if_pos c3).trans rfl)))) rfl rfl hH hS (Nat.le_of_ble_eq_true rfl) (Nat.le_of_ble_eq_true rfl)
    · have ho := ho c3
      have hq4 := ho
      refine t_c2 (k := 3) X hN htab (by decide) rfl g1 g2 (hq4 ▸ g3) ?_
      refine lv_astore (lv' := [(4, .ref q9), (0, .ref (ga G o1)), (1, .int p1), (2, .int p2), (3, .int p3)]) hx hb dL_lineFor_13 hl (by decide) rfl (fun ls hl => ?_)
      refine lv_ldc (v := (-100104)) hx hb hown (hts _ t_con_VernierDrawersLaw_73) dL_lineFor_15 ?_
      exact E _ _ _ _ _ _ _ _ _ _ dL_lineFor_17 (Eq.symm ((fL_lineFor.eq_1 _ _ _ _ _).trans ((if_neg c2).trans ((if_neg c3).trans rfl)))) rfl rfl hH hS (Nat.le_of_ble_eq_true rfl) (Nat.le_of_ble_eq_true rfl)
  · skip
    exact E _ _ _ _ _ _ _ _ _ _ dL_lineFor_7 (Eq.symm ((fL_lineFor.eq_1 _ _ _ _ _).trans ((if_pos c2).trans rfl))) rfl rfl hH hS (Nat.le_of_ble_eq_true rfl) (Nat.le_of_ble_eq_true rfl)
theorem k_L_lineFor {p : Program} {l : Launch} {e : Env} {R : Room} {s : State} {m : MethodId} {args : Array Value} {below : List Frame} {meth : Method} {c : Code} {H : Heap} {locs : List Loc} {cells slots : Nat} {Q : State → Prop} {cc : ByteArray} {pc nL : Nat} {ls : Array Slot} {rest : List Value} {G : gG} {own : String} {da : Nat → Nat} {v : vSt} {x : gX} (hst : l.stackTraces = false) (X : CX G p s m args c cc nL own) (hS : va_S (gA G) s.heap H locs) (hN : NC s) (hH : Hp G da v x H) {o1 : Nat} (hk_o1 : kd o1 = 10) {p1 : Int32} {p2 : Int32} {p3 : Int32} (ho : oL_lineFor o1 p1 p2 p3 v) {idx : Nat} (hml : Cond.methodLink own idx yL_lineFor ∈ TT) (hls : ls.size = nL) (hsum : (rest.map fun v => v.category).sum ≤ 8) (hR : rmL_lineFor.frames + 1 ≤ R.frames ∧ 8 + (5 + 11) + rmL_lineFor.locals ≤ R.locals) (hcs : cells + 12 ≤ R.cells ∧ slots + 12 ≤ R.slots) (hdg : decode cc pc = .ok (.invokestatic idx, 3)) (kk : ∀ (d : Nat → Nat) (H1 : Heap) (locs1 : List Loc), Hp G d v x H1 → va_S (gA G) s.heap H1 locs1 → W p l e R s m args below meth c H1 locs1 (cells + 12) (slots + 12) Q (F0 m (pc + 3) ls (.int (fL_lineFor o1 p1 p2 p3 v) :: rest))) : W p l e R s m args below meth c H locs cells slots Q (F0 m pc ls (.int p3 :: .int p2 :: .int p1 :: .ref (ga G o1) :: rest)) := c_li (runLS (kp := 4) X.1 X.2.1 X.2.2.1 X.2.2.2.1 X.2.2.2.2.1 (mL_lineFor l hst G da v x o1 hk_o1 p1 p2 p3 ho) pN_bl hml t_st_L_lineFor t_ini_VernierDrawersLaw t_code_L_lineFor ⟨by decide, by decide, by decide +kernel⟩ rfl rfl hR hcs (preN X hN hS hH) rfl hls rfl hsum hdg) hS kk
