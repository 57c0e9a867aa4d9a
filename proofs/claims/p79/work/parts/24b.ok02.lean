/-! the methods where they throw nothing -/
abbrev rmZ_X10_blockLength : Room := { frames := 2, cells := 0, slots := 0, locals := 42 }
set_option maxHeartbeats 8000000 in
set_option maxRecDepth 100000 in
theorem mZ_X10_blockLength (l : Launch) (G : gG) (da : Nat → Nat) (v : vSt) (x : gX) (r : Nat) (hk_r : kd r = 10) (p1 : Int32) (ho : oX10_blockLength r p1 v) (hok : (fX10_blockLength r p1 v).1 = 0) : QI l yX10_blockLength cX10_blockLength 2 (some .int) rmZ_X10_blockLength [.ref (ga G r), .int p1] (pW G da v x) ((fX10_blockLength r p1 v).2) := by
  refine gofQ (own := RX10) (by decide) rfl (Nat.le_of_ble_eq_true rfl) (fun p e s m args below meth c ls Q X hH hl E => ?_)
  have hx := X.1
  have hb := X.2.1
  have hown := X.2.2.2.1
  have hts := X.2.2.2.2.1
  have hS : va_S (gA G) s.heap s.heap [] := va_S.rf
  unfold oX10_blockLength at ho
  have hl : lv_has ls 2 [(0, .ref (ga G r)), (1, .int p1)] := hl
  refine lv_aload_n hx hb dX10_blockLength_0 rfl (lv_at hl 0 rfl) ?_
  refine lv_iload_n hx hb dX10_blockLength_1 rfl (lv_at hl 1 rfl) ?_
  have hq1 := ho.1
  have ho := ho.2
  have c2 : (fX10_needBlock r p1 v).1 = 0 := Decidable.byContradiction (fun c2 => c2 ((pr1 ((fX10_blockLength.eq_1 _ _ _).trans ((if_neg c2).trans rfl))).trans hok))
  refine kZ_X10_needBlock X hS hH hk_r hq1 c2 t_ml_VernierDrawers_237 hl.1 (Nat.le_of_ble_eq_true rfl) ⟨Nat.le_of_ble_eq_true rfl, Nat.le_of_ble_eq_true rfl⟩ ⟨Nat.zero_le _, Nat.zero_le _⟩ dX10_blockLength_2 ?_
  have ho := ho c2
  have hq3 := ho
  refine g_VernierDrawers_241 X hH hq3 dX10_blockLength_5 ?_
  exact E _ _ _ dX10_blockLength_8 rfl (pr2 ((fX10_blockLength.eq_1 _ _ _).trans ((if_pos c2).trans rfl)))
theorem kZ_X10_blockLength {p : Program} {l : Launch} {e : Env} {R : Room} {s : State} {m : MethodId} {args : Array Value} {below : List Frame} {meth : Method} {c : Code} {H : Heap} {locs : List Loc} {cells slots : Nat} {Q : State → Prop} {cc : ByteArray} {pc nL : Nat} {ls : Array Slot} {rest : List Value} {G : gG} {own : String} {da : Nat → Nat} {v : vSt} {x : gX} (X : CX G p s m args c cc nL own) (hS : va_S (gA G) s.heap H locs) (hH : Hp G da v x H) {r : Nat} (hk_r : kd r = 10) {p1 : Int32} (ho : oX10_blockLength r p1 v) (hok : (fX10_blockLength r p1 v).1 = 0) {idx : Nat} (hml : Cond.methodLink own idx yX10_blockLength ∈ TT) (hls : ls.size = nL) (hsum : (rest.map fun v => v.category).sum ≤ 8) (hR : rmZ_X10_blockLength.frames + 1 ≤ R.frames ∧ 8 + (2 + 11) + rmZ_X10_blockLength.locals ≤ R.locals) (hcs : cells ≤ R.cells ∧ slots ≤ R.slots) (hdg : decode cc pc = .ok (.invokevirtual idx, 3)) (kk : W p l e R s m args below meth c H locs cells slots Q (F0 m (pc + 3) ls (.int ((fX10_blockLength r p1 v).2) :: rest))) : W p l e R s m args below meth c H locs cells slots Q (F0 m pc ls (.int p1 :: .ref (ga G r) :: rest)) := c_qi (runV (k := 1) X.1 X.2.1 X.2.2.1 X.2.2.2.1 X.2.2.2.2.1 (mZ_X10_blockLength l G da v x r hk_r p1 ho hok) pW_bl hml t_im_X10_blockLength t_sel_X10_blockLength t_ini_VernierDrawers t_code_X10_blockLength ⟨rfl, by decide, by decide, by decide +kernel⟩ rfl rfl hR hcs (recvW X hH (by rw [hk_r]; decide) (by rw [hk_r]; decide) (ce_10 hk_r) rfl) (preW X hS hH) rfl hls rfl hsum hdg) (fun _ h => h ▸ kk)
abbrev rmZ_X10_goodUntilChange : Room := { frames := 2, cells := 0, slots := 0, locals := 42 }
set_option maxHeartbeats 8000000 in
set_option maxRecDepth 100000 in
theorem mZ_X10_goodUntilChange (l : Launch) (G : gG) (da : Nat → Nat) (v : vSt) (x : gX) (r : Nat) (hk_r : kd r = 10) (p1 : Int32) (ho : oX10_goodUntilChange r p1 v) (hok : (fX10_goodUntilChange r p1 v).1 = 0) : QI l yX10_goodUntilChange cX10_goodUntilChange 4 (some .int) rmZ_X10_goodUntilChange [.ref (ga G r), .int p1] (pW G da v x) ((fX10_goodUntilChange r p1 v).2) := by
  refine gofQ (own := RX10) (by decide) rfl (Nat.le_of_ble_eq_true rfl) (fun p e s m args below meth c ls Q X hH hl E => ?_)
  have hx := X.1
  have hb := X.2.1
  have hown := X.2.2.2.1
  have hts := X.2.2.2.2.1
  have hS : va_S (gA G) s.heap s.heap [] := va_S.rf
  unfold oX10_goodUntilChange at ho
  have hl : lv_has ls 4 [(0, .ref (ga G r)), (1, .int p1)] := hl
  refine lv_aload_n hx hb dX10_goodUntilChange_0 rfl (lv_at hl 0 rfl) ?_
  refine lv_iload_n hx hb dX10_goodUntilChange_1 rfl (lv_at hl 1 rfl) ?_
  have hq1 := ho.1
  have ho := ho.2
  have c2 : (fX10_needType r p1 v).1 = 0 := Decidable.byContradiction (fun c2 => c2 ((pr1 ((fX10_goodUntilChange.eq_1 _ _ _).trans ((if_neg c2).trans rfl))).trans hok))
  refine kZ_X10_needType X hS hH hk_r hq1 c2 t_ml_VernierDrawers_167 hl.1 (Nat.le_of_ble_eq_true rfl) ⟨Nat.le_of_ble_eq_true rfl, Nat.le_of_ble_eq_true rfl⟩ ⟨Nat.zero_le _, Nat.zero_le _⟩ dX10_goodUntilChange_2 ?_
  have ho := ho c2
  have hq3 := ho
  refine lv_astore_n (lv' := [(2, .ref (ga G ((fX10_needType r p1 v).2))), (0, .ref (ga G r)), (1, .int p1)]) hx hb dX10_goodUntilChange_5 rfl hl (by decide) rfl (fun ls hl => ?_)
  refine lv_aload_n hx hb dX10_goodUntilChange_6 rfl (lv_at hl 0 rfl) ?_
  refine g_VernierDrawers_325 X hH hq3 dX10_goodUntilChange_7 ?_
  refine lv_iconst (v := 2) hx hb dX10_goodUntilChange_10 (by decide) ?_
  refine lv_icmp_ne (tgt := 25) hx hb dX10_goodUntilChange_11 (by decide) (fun c4 => ?_) (fun c4 => ?_)
  · skip
    refine lv_aload_n hx hb dX10_goodUntilChange_25 rfl (lv_at hl 0 rfl) ?_
    refine g_VernierDrawers_325 X hH hq3 dX10_goodUntilChange_26 ?_
    have K6 : ∀ (y5 : Int32) (ls : Array Slot), y5 = (if ((v ((fX10_needType r p1 v).2) 4) : Int32) = 0 then 10 else 5 : Int32) → lv_has ls 4 [(2, .ref (ga G ((fX10_needType r p1 v).2)))] → W p l e rmZ_X10_goodUntilChange s m args below meth c s.heap [] 0 0 Q (F0 m 38 ls [.int y5]) := by
      intro y5 ls ey5 hl
      refine lv_istore_n (lv' := [(3, .int y5), (2, .ref (ga G ((fX10_needType r p1 v).2)))]) hx hb dX10_goodUntilChange_38 rfl hl (by decide) rfl (fun ls hl => ?_)
      refine lv_iload_n hx hb dX10_goodUntilChange_39 rfl (lv_at hl 0 rfl) ?_
      refine lv_aload_n hx hb dX10_goodUntilChange_40 rfl (lv_at hl 1 rfl) ?_
      refine k_X4_goodAtEnd X hS hH hq3 t_ml_VernierDrawers_336 hl.1 (Nat.le_of_ble_eq_true rfl) ⟨Nat.le_of_ble_eq_true rfl, Nat.le_of_ble_eq_true rfl⟩ ⟨Nat.zero_le _, Nat.zero_le _⟩ dX10_goodUntilChange_41 ?_
      refine lv_isub hx hb dX10_goodUntilChange_44 ?_
      replace ey5 := Eq.symm ey5
      subst ey5
      exact E _ _ _ dX10_goodUntilChange_45 rfl (pr2 ((fX10_goodUntilChange.eq_1 _ _ _).trans ((if_pos c2).trans ((if_neg c4).trans rfl))))
    refine lv_if_ne (tgt := 37) hx hb dX10_goodUntilChange_29 (by decide) (fun c6 => ?_) (fun c6 => ?_)
    · skip
      refine lv_iconst (v := 5) hx hb dX10_goodUntilChange_37 (by decide) ?_
      exact K6 _ _ (Eq.symm ((if_neg c6).trans rfl)) (lv_sub hl [0] rfl)
    · skip
      refine lv_bipush (v := 10) hx hb dX10_goodUntilChange_32 (by decide) ?_
      refine lv_goto (tgt := 38) hx hb dX10_goodUntilChange_34 (by decide) ?_
      exact K6 _ _ (Eq.symm ((if_pos c6).trans rfl)) (lv_sub hl [0] rfl)
  · skip
    exact absurd ((pr1 ((fX10_goodUntilChange.eq_1 _ _ _).trans ((if_pos c2).trans ((if_pos c4).trans rfl)))).trans hok) (by decide)
theorem kZ_X10_goodUntilChange {p : Program} {l : Launch} {e : Env} {R : Room} {s : State} {m : MethodId} {args : Array Value} {below : List Frame} {meth : Method} {c : Code} {H : Heap} {locs : List Loc} {cells slots : Nat} {Q : State → Prop} {cc : ByteArray} {pc nL : Nat} {ls : Array Slot} {rest : List Value} {G : gG} {own : String} {da : Nat → Nat} {v : vSt} {x : gX} (X : CX G p s m args c cc nL own) (hS : va_S (gA G) s.heap H locs) (hH : Hp G da v x H) {r : Nat} (hk_r : kd r = 10) {p1 : Int32} (ho : oX10_goodUntilChange r p1 v) (hok : (fX10_goodUntilChange r p1 v).1 = 0) {idx : Nat} (hml : Cond.methodLink own idx yX10_goodUntilChange ∈ TT) (hls : ls.size = nL) (hsum : (rest.map fun v => v.category).sum ≤ 8) (hR : rmZ_X10_goodUntilChange.frames + 1 ≤ R.frames ∧ 8 + (4 + 11) + rmZ_X10_goodUntilChange.locals ≤ R.locals) (hcs : cells ≤ R.cells ∧ slots ≤ R.slots) (hdg : decode cc pc = .ok (.invokevirtual idx, 3)) (kk : W p l e R s m args below meth c H locs cells slots Q (F0 m (pc + 3) ls (.int ((fX10_goodUntilChange r p1 v).2) :: rest))) : W p l e R s m args below meth c H locs cells slots Q (F0 m pc ls (.int p1 :: .ref (ga G r) :: rest)) := c_qi (runV (k := 1) X.1 X.2.1 X.2.2.1 X.2.2.2.1 X.2.2.2.2.1 (mZ_X10_goodUntilChange l G da v x r hk_r p1 ho hok) pW_bl hml t_im_X10_goodUntilChange t_sel_X10_goodUntilChange t_ini_VernierDrawers t_code_X10_goodUntilChange ⟨rfl, by decide, by decide, by decide +kernel⟩ rfl rfl hR hcs (recvW X hH (by rw [hk_r]; decide) (by rw [hk_r]; decide) (ce_10 hk_r) rfl) (preW X hS hH) rfl hls rfl hsum hdg) (fun _ h => h ▸ kk)
abbrev rmZ_X10_chartedAt : Room := { frames := 2, cells := 0, slots := 0, locals := 42 }
set_option maxHeartbeats 8000000 in
set_option maxRecDepth 100000 in
theorem mZ_X10_chartedAt (l : Launch) (G : gG) (da : Nat → Nat) (v : vSt) (x : gX) (r : Nat) (hk_r : kd r = 10) (p1 : Int32) (p2 : Int32) (ho : oX10_chartedAt r p1 p2 v) (hok : (fX10_chartedAt r p1 p2 v).1 = 0) : QI l yX10_chartedAt cX10_chartedAt 4 (some .int) rmZ_X10_chartedAt [.ref (ga G r), .int p1, .int p2] (pW G da v x) ((fX10_chartedAt r p1 p2 v).2) := by
  refine gofQ (own := RX10) (by decide) rfl (Nat.le_of_ble_eq_true rfl) (fun p e s m args below meth c ls Q X hH hl E => ?_)
  have hx := X.1
  have hb := X.2.1
  have hown := X.2.2.2.1
  have hts := X.2.2.2.2.1
  have hS : va_S (gA G) s.heap s.heap [] := va_S.rf
  unfold oX10_chartedAt at ho
  have hl : lv_has ls 4 [(0, .ref (ga G r)), (1, .int p1), (2, .int p2)] := hl
  refine lv_aload_n hx hb dX10_chartedAt_0 rfl (lv_at hl 0 rfl) ?_
  refine lv_iload_n hx hb dX10_chartedAt_1 rfl (lv_at hl 1 rfl) ?_
  have hq1 := ho.1
  have ho := ho.2
  have c2 : (fX10_needType r p1 v).1 = 0 := Decidable.byContradiction (fun c2 => c2 ((pr1 ((fX10_chartedAt.eq_1 _ _ _ _).trans ((if_neg c2).trans rfl))).trans hok))
  refine kZ_X10_needType X hS hH hk_r hq1 c2 t_ml_VernierDrawers_167 hl.1 (Nat.le_of_ble_eq_true rfl) ⟨Nat.le_of_ble_eq_true rfl, Nat.le_of_ble_eq_true rfl⟩ ⟨Nat.zero_le _, Nat.zero_le _⟩ dX10_chartedAt_2 ?_
  have ho := ho c2
  have hq3 := ho
  refine lv_astore_n (lv' := [(3, .ref (ga G ((fX10_needType r p1 v).2))), (0, .ref (ga G r)), (1, .int p1), (2, .int p2)]) hx hb dX10_chartedAt_5 rfl hl (by decide) rfl (fun ls hl => ?_)
  refine lv_iload_n hx hb dX10_chartedAt_6 rfl (lv_at hl 3 rfl) ?_
  refine lv_aload_n hx hb dX10_chartedAt_7 rfl (lv_at hl 0 rfl) ?_
  refine g_VernierDrawers_339 X hH hq3 dX10_chartedAt_8 ?_
  have c4 : fX10_needPlace p2 (v ((fX10_needType r p1 v).2) 9) v = 0 := Decidable.byContradiction (fun c4 => c4 ((pr1 ((fX10_chartedAt.eq_1 _ _ _ _).trans ((if_pos c2).trans ((if_neg c4).trans rfl)))).trans hok))
  refine kZ_X10_needPlace X hS hH c4 t_ml_VernierDrawers_291 hl.1 (Nat.le_of_ble_eq_true rfl) ⟨Nat.le_of_ble_eq_true rfl, Nat.le_of_ble_eq_true rfl⟩ ⟨Nat.zero_le _, Nat.zero_le _⟩ dX10_chartedAt_11 ?_
  refine lv_aload_n hx hb dX10_chartedAt_14 rfl (lv_at hl 0 rfl) ?_
  refine g_VernierDrawers_342 X hH hq3 dX10_chartedAt_15 ?_
  refine lv_iload_n hx hb dX10_chartedAt_18 rfl (lv_at hl 3 rfl) ?_
  refine k_X10_entry X hS (ia_25 X hH (kc_4_25 hq3)) t_ml_VernierDrawers_345 hl.1 (Nat.le_of_ble_eq_true rfl) ⟨Nat.le_of_ble_eq_true rfl, Nat.le_of_ble_eq_true rfl⟩ ⟨Nat.zero_le _, Nat.zero_le _⟩ dX10_chartedAt_19 ?_
  exact E _ _ _ dX10_chartedAt_22 rfl (pr2 ((fX10_chartedAt.eq_1 _ _ _ _).trans ((if_pos c2).trans ((if_pos c4).trans rfl))))
theorem kZ_X10_chartedAt {p : Program} {l : Launch} {e : Env} {R : Room} {s : State} {m : MethodId} {args : Array Value} {below : List Frame} {meth : Method} {c : Code} {H : Heap} {locs : List Loc} {cells slots : Nat} {Q : State → Prop} {cc : ByteArray} {pc nL : Nat} {ls : Array Slot} {rest : List Value} {G : gG} {own : String} {da : Nat → Nat} {v : vSt} {x : gX} (X : CX G p s m args c cc nL own) (hS : va_S (gA G) s.heap H locs) (hH : Hp G da v x H) {r : Nat} (hk_r : kd r = 10) {p1 : Int32} {p2 : Int32} (ho : oX10_chartedAt r p1 p2 v) (hok : (fX10_chartedAt r p1 p2 v).1 = 0) {idx : Nat} (hml : Cond.methodLink own idx yX10_chartedAt ∈ TT) (hls : ls.size = nL) (hsum : (rest.map fun v => v.category).sum ≤ 8) (hR : rmZ_X10_chartedAt.frames + 1 ≤ R.frames ∧ 8 + (4 + 11) + rmZ_X10_chartedAt.locals ≤ R.locals) (hcs : cells ≤ R.cells ∧ slots ≤ R.slots) (hdg : decode cc pc = .ok (.invokevirtual idx, 3)) (kk : W p l e R s m args below meth c H locs cells slots Q (F0 m (pc + 3) ls (.int ((fX10_chartedAt r p1 p2 v).2) :: rest))) : W p l e R s m args below meth c H locs cells slots Q (F0 m pc ls (.int p2 :: .int p1 :: .ref (ga G r) :: rest)) := c_qi (runV (k := 2) X.1 X.2.1 X.2.2.1 X.2.2.2.1 X.2.2.2.2.1 (mZ_X10_chartedAt l G da v x r hk_r p1 p2 ho hok) pW_bl hml t_im_X10_chartedAt t_sel_X10_chartedAt t_ini_VernierDrawers t_code_X10_chartedAt ⟨rfl, by decide, by decide, by decide +kernel⟩ rfl rfl hR hcs (recvW X hH (by rw [hk_r]; decide) (by rw [hk_r]; decide) (ce_10 hk_r) rfl) (preW X hS hH) rfl hls rfl hsum hdg) (fun _ h => h ▸ kk)
abbrev rmZ_X10_wasDoubted : Room := { frames := 2, cells := 0, slots := 0, locals := 42 }
set_option maxHeartbeats 8000000 in
set_option maxRecDepth 100000 in
theorem mZ_X10_wasDoubted (l : Launch) (G : gG) (da : Nat → Nat) (v : vSt) (x : gX) (r : Nat) (hk_r : kd r = 10) (p1 : Int32) (ho : oX10_wasDoubted r p1 v) (hok : (fX10_wasDoubted r p1 v).1 = 0) : QI l yX10_wasDoubted cX10_wasDoubted 2 (some .boolean) rmZ_X10_wasDoubted [.ref (ga G r), .int p1] (pW G da v x) ((fX10_wasDoubted r p1 v).2) := by
  refine gofQ (own := RX10) (by decide) rfl (Nat.le_of_ble_eq_true rfl) (fun p e s m args below meth c ls Q X hH hl E => ?_)
  have hx := X.1
  have hb := X.2.1
  have hown := X.2.2.2.1
  have hts := X.2.2.2.2.1
  have hS : va_S (gA G) s.heap s.heap [] := va_S.rf
  unfold oX10_wasDoubted at ho
  have hl : lv_has ls 2 [(0, .ref (ga G r)), (1, .int p1)] := hl
  refine lv_iload_n hx hb dX10_wasDoubted_0 rfl (lv_at hl 1 rfl) ?_
  refine lv_aload_n hx hb dX10_wasDoubted_1 rfl (lv_at hl 0 rfl) ?_
  refine g_VernierDrawers_10 X hH hk_r dX10_wasDoubted_2 ?_
  have hq1 := ho
  refine g_VernierDrawers_126 X hH hq1 dX10_wasDoubted_5 ?_
  refine g_VernierDrawers_282 X hH (kc_7_0 hq1) dX10_wasDoubted_8 ?_
  refine g_VernierDrawers_286 X hH (Or.inl (kc_0_5 (kc_7_0 hq1))) dX10_wasDoubted_11 ?_
  have c2 : fX10_needPlace p1 (v (((rN (v r 0)) + 2) + 4) 3) v = 0 := Decidable.byContradiction (fun c2 => c2 ((pr1 ((fX10_wasDoubted.eq_1 _ _ _).trans ((if_neg c2).trans rfl))).trans hok))
  refine kZ_X10_needPlace X hS hH c2 t_ml_VernierDrawers_291 hl.1 (Nat.le_of_ble_eq_true rfl) ⟨Nat.le_of_ble_eq_true rfl, Nat.le_of_ble_eq_true rfl⟩ ⟨Nat.zero_le _, Nat.zero_le _⟩ dX10_wasDoubted_14 ?_
  refine lv_aload_n hx hb dX10_wasDoubted_17 rfl (lv_at hl 0 rfl) ?_
  refine g_VernierDrawers_10 X hH hk_r dX10_wasDoubted_18 ?_
  refine g_VernierDrawers_126 X hH hq1 dX10_wasDoubted_21 ?_
  refine g_VernierDrawers_282 X hH (kc_7_0 hq1) dX10_wasDoubted_24 ?_
  refine lv_iload_n hx hb dX10_wasDoubted_27 rfl (lv_at hl 1 rfl) ?_
  refine k_X5_doubtedPiece X hS hH (Or.inl (kc_0_5 (kc_7_0 hq1))) t_ml_VernierDrawers_298 hl.1 (Nat.le_of_ble_eq_true rfl) ⟨Nat.le_of_ble_eq_true rfl, Nat.le_of_ble_eq_true rfl⟩ ⟨Nat.zero_le _, Nat.zero_le _⟩ dX10_wasDoubted_28 ?_
  exact E _ _ _ dX10_wasDoubted_31 (bn01 b01_X5_doubtedPiece).1 (pr2 ((fX10_wasDoubted.eq_1 _ _ _).trans ((if_pos c2).trans rfl)))
theorem kZ_X10_wasDoubted {p : Program} {l : Launch} {e : Env} {R : Room} {s : State} {m : MethodId} {args : Array Value} {below : List Frame} {meth : Method} {c : Code} {H : Heap} {locs : List Loc} {cells slots : Nat} {Q : State → Prop} {cc : ByteArray} {pc nL : Nat} {ls : Array Slot} {rest : List Value} {G : gG} {own : String} {da : Nat → Nat} {v : vSt} {x : gX} (X : CX G p s m args c cc nL own) (hS : va_S (gA G) s.heap H locs) (hH : Hp G da v x H) {r : Nat} (hk_r : kd r = 10) {p1 : Int32} (ho : oX10_wasDoubted r p1 v) (hok : (fX10_wasDoubted r p1 v).1 = 0) {idx : Nat} (hml : Cond.methodLink own idx yX10_wasDoubted ∈ TT) (hls : ls.size = nL) (hsum : (rest.map fun v => v.category).sum ≤ 8) (hR : rmZ_X10_wasDoubted.frames + 1 ≤ R.frames ∧ 8 + (2 + 11) + rmZ_X10_wasDoubted.locals ≤ R.locals) (hcs : cells ≤ R.cells ∧ slots ≤ R.slots) (hdg : decode cc pc = .ok (.invokevirtual idx, 3)) (kk : W p l e R s m args below meth c H locs cells slots Q (F0 m (pc + 3) ls (.int ((fX10_wasDoubted r p1 v).2) :: rest))) : W p l e R s m args below meth c H locs cells slots Q (F0 m pc ls (.int p1 :: .ref (ga G r) :: rest)) := c_qi (runV (k := 1) X.1 X.2.1 X.2.2.1 X.2.2.2.1 X.2.2.2.2.1 (mZ_X10_wasDoubted l G da v x r hk_r p1 ho hok) pW_bl hml t_im_X10_wasDoubted t_sel_X10_wasDoubted t_ini_VernierDrawers t_code_X10_wasDoubted ⟨rfl, by decide, by decide, by decide +kernel⟩ rfl rfl hR hcs (recvW X hH (by rw [hk_r]; decide) (by rw [hk_r]; decide) (ce_10 hk_r) rfl) (preW X hS hH) rfl hls rfl hsum hdg) (fun _ h => h ▸ kk)
abbrev rmZ_X10_lengthOf : Room := { frames := 2, cells := 0, slots := 0, locals := 42 }
set_option maxHeartbeats 8000000 in
set_option maxRecDepth 100000 in
theorem mZ_X10_lengthOf (l : Launch) (G : gG) (da : Nat → Nat) (v : vSt) (x : gX) (r : Nat) (hk_r : kd r = 10) (p1 : Int32) (ho : oX10_lengthOf r p1 v) (hok : (fX10_lengthOf r p1 v).1 = 0) : QI l yX10_lengthOf cX10_lengthOf 2 (some .int) rmZ_X10_lengthOf [.ref (ga G r), .int p1] (pW G da v x) ((fX10_lengthOf r p1 v).2) := by
  refine gofQ (own := RX10) (by decide) rfl (Nat.le_of_ble_eq_true rfl) (fun p e s m args below meth c ls Q X hH hl E => ?_)
  have hx := X.1
  have hb := X.2.1
  have hown := X.2.2.2.1
  have hts := X.2.2.2.2.1
  have hS : va_S (gA G) s.heap s.heap [] := va_S.rf
  unfold oX10_lengthOf at ho
  have hl : lv_has ls 2 [(0, .ref (ga G r)), (1, .int p1)] := hl
  refine lv_aload_n hx hb dX10_lengthOf_0 rfl (lv_at hl 0 rfl) ?_
  refine lv_iload_n hx hb dX10_lengthOf_1 rfl (lv_at hl 1 rfl) ?_
  have hq1 := ho.1
  have ho := ho.2
  have c2 : (fX10_needType r p1 v).1 = 0 := Decidable.byContradiction (fun c2 => c2 ((pr1 ((fX10_lengthOf.eq_1 _ _ _).trans ((if_neg c2).trans rfl))).trans hok))
  refine kZ_X10_needType X hS hH hk_r hq1 c2 t_ml_VernierDrawers_167 hl.1 (Nat.le_of_ble_eq_true rfl) ⟨Nat.le_of_ble_eq_true rfl, Nat.le_of_ble_eq_true rfl⟩ ⟨Nat.zero_le _, Nat.zero_le _⟩ dX10_lengthOf_2 ?_
  have ho := ho c2
  have hq3 := ho
  refine g_VernierDrawers_278 X hH hq3 dX10_lengthOf_5 ?_
  exact E _ _ _ dX10_lengthOf_8 rfl (pr2 ((fX10_lengthOf.eq_1 _ _ _).trans ((if_pos c2).trans rfl)))
theorem kZ_X10_lengthOf {p : Program} {l : Launch} {e : Env} {R : Room} {s : State} {m : MethodId} {args : Array Value} {below : List Frame} {meth : Method} {c : Code} {H : Heap} {locs : List Loc} {cells slots : Nat} {Q : State → Prop} {cc : ByteArray} {pc nL : Nat} {ls : Array Slot} {rest : List Value} {G : gG} {own : String} {da : Nat → Nat} {v : vSt} {x : gX} (X : CX G p s m args c cc nL own) (hS : va_S (gA G) s.heap H locs) (hH : Hp G da v x H) {r : Nat} (hk_r : kd r = 10) {p1 : Int32} (ho : oX10_lengthOf r p1 v) (hok : (fX10_lengthOf r p1 v).1 = 0) {idx : Nat} (hml : Cond.methodLink own idx yX10_lengthOf ∈ TT) (hls : ls.size = nL) (hsum : (rest.map fun v => v.category).sum ≤ 8) (hR : rmZ_X10_lengthOf.frames + 1 ≤ R.frames ∧ 8 + (2 + 11) + rmZ_X10_lengthOf.locals ≤ R.locals) (hcs : cells ≤ R.cells ∧ slots ≤ R.slots) (hdg : decode cc pc = .ok (.invokevirtual idx, 3)) (kk : W p l e R s m args below meth c H locs cells slots Q (F0 m (pc + 3) ls (.int ((fX10_lengthOf r p1 v).2) :: rest))) : W p l e R s m args below meth c H locs cells slots Q (F0 m pc ls (.int p1 :: .ref (ga G r) :: rest)) := c_qi (runV (k := 1) X.1 X.2.1 X.2.2.1 X.2.2.2.1 X.2.2.2.2.1 (mZ_X10_lengthOf l G da v x r hk_r p1 ho hok) pW_bl hml t_im_X10_lengthOf t_sel_X10_lengthOf t_ini_VernierDrawers t_code_X10_lengthOf ⟨rfl, by decide, by decide, by decide +kernel⟩ rfl rfl hR hcs (recvW X hH (by rw [hk_r]; decide) (by rw [hk_r]; decide) (ce_10 hk_r) rfl) (preW X hS hH) rfl hls rfl hsum hdg) (fun _ h => h ▸ kk)
abbrev rmZ_X10_widthOf : Room := { frames := 2, cells := 0, slots := 0, locals := 42 }
set_option maxHeartbeats 8000000 in
set_option maxRecDepth 100000 in
theorem mZ_X10_widthOf (l : Launch) (G : gG) (da : Nat → Nat) (v : vSt) (x : gX) (r : Nat) (hk_r : kd r = 10) (p1 : Int32) (ho : oX10_widthOf r p1 v) (hok : (fX10_widthOf r p1 v).1 = 0) : QI l yX10_widthOf cX10_widthOf 2 (some .int) rmZ_X10_widthOf [.ref (ga G r), .int p1] (pW G da v x) ((fX10_widthOf r p1 v).2) := by
  refine gofQ (own := RX10) (by decide) rfl (Nat.le_of_ble_eq_true rfl) (fun p e s m args below meth c ls Q X hH hl E => ?_)
  have hx := X.1
  have hb := X.2.1
  have hown := X.2.2.2.1
  have hts := X.2.2.2.2.1
  have hS : va_S (gA G) s.heap s.heap [] := va_S.rf
  unfold oX10_widthOf at ho
  have hl : lv_has ls 2 [(0, .ref (ga G r)), (1, .int p1)] := hl
  refine lv_aload_n hx hb dX10_widthOf_0 rfl (lv_at hl 0 rfl) ?_
  refine lv_iload_n hx hb dX10_widthOf_1 rfl (lv_at hl 1 rfl) ?_
  have hq1 := ho.1
  have ho := ho.2
  have c2 : (fX10_needType r p1 v).1 = 0 := Decidable.byContradiction (fun c2 => c2 ((pr1 ((fX10_widthOf.eq_1 _ _ _).trans ((if_neg c2).trans rfl))).trans hok))
  refine kZ_X10_needType X hS hH hk_r hq1 c2 t_ml_VernierDrawers_167 hl.1 (Nat.le_of_ble_eq_true rfl) ⟨Nat.le_of_ble_eq_true rfl, Nat.le_of_ble_eq_true rfl⟩ ⟨Nat.zero_le _, Nat.zero_le _⟩ dX10_widthOf_2 ?_
  have ho := ho c2
  have hq3 := ho
  refine k_X4_width X hS hH hq3 t_ml_VernierDrawers_279 hl.1 (Nat.le_of_ble_eq_true rfl) ⟨Nat.le_of_ble_eq_true rfl, Nat.le_of_ble_eq_true rfl⟩ ⟨Nat.zero_le _, Nat.zero_le _⟩ dX10_widthOf_5 ?_
  exact E _ _ _ dX10_widthOf_8 rfl (pr2 ((fX10_widthOf.eq_1 _ _ _).trans ((if_pos c2).trans rfl)))
theorem kZ_X10_widthOf {p : Program} {l : Launch} {e : Env} {R : Room} {s : State} {m : MethodId} {args : Array Value} {below : List Frame} {meth : Method} {c : Code} {H : Heap} {locs : List Loc} {cells slots : Nat} {Q : State → Prop} {cc : ByteArray} {pc nL : Nat} {ls : Array Slot} {rest : List Value} {G : gG} {own : String} {da : Nat → Nat} {v : vSt} {x : gX} (X : CX G p s m args c cc nL own) (hS : va_S (gA G) s.heap H locs) (hH : Hp G da v x H) {r : Nat} (hk_r : kd r = 10) {p1 : Int32} (ho : oX10_widthOf r p1 v) (hok : (fX10_widthOf r p1 v).1 = 0) {idx : Nat} (hml : Cond.methodLink own idx yX10_widthOf ∈ TT) (hls : ls.size = nL) (hsum : (rest.map fun v => v.category).sum ≤ 8) (hR : rmZ_X10_widthOf.frames + 1 ≤ R.frames ∧ 8 + (2 + 11) + rmZ_X10_widthOf.locals ≤ R.locals) (hcs : cells ≤ R.cells ∧ slots ≤ R.slots) (hdg : decode cc pc = .ok (.invokevirtual idx, 3)) (kk : W p l e R s m args below meth c H locs cells slots Q (F0 m (pc + 3) ls (.int ((fX10_widthOf r p1 v).2) :: rest))) : W p l e R s m args below meth c H locs cells slots Q (F0 m pc ls (.int p1 :: .ref (ga G r) :: rest)) := c_qi (runV (k := 1) X.1 X.2.1 X.2.2.1 X.2.2.2.1 X.2.2.2.2.1 (mZ_X10_widthOf l G da v x r hk_r p1 ho hok) pW_bl hml t_im_X10_widthOf t_sel_X10_widthOf t_ini_VernierDrawers t_code_X10_widthOf ⟨rfl, by decide, by decide, by decide +kernel⟩ rfl rfl hR hcs (recvW X hH (by rw [hk_r]; decide) (by rw [hk_r]; decide) (ce_10 hk_r) rfl) (preW X hS hH) rfl hls rfl hsum hdg) (fun _ h => h ▸ kk)
abbrev rmZ_X10_stretchOf : Room := { frames := 2, cells := 0, slots := 0, locals := 42 }
set_option maxHeartbeats 8000000 in
set_option maxRecDepth 100000 in
theorem mZ_X10_stretchOf (l : Launch) (G : gG) (da : Nat → Nat) (v : vSt) (x : gX) (r : Nat) (hk_r : kd r = 10) (p1 : Int32) (p2 : Int32) (ho : oX10_stretchOf r p1 p2 v) (hok : (fX10_stretchOf r p1 p2 v).1 = 0) : QI l yX10_stretchOf cX10_stretchOf 3 (some .int) rmZ_X10_stretchOf [.ref (ga G r), .int p1, .int p2] (pW G da v x) ((fX10_stretchOf r p1 p2 v).2) := by
  refine gofQ (own := RX10) (by decide) rfl (Nat.le_of_ble_eq_true rfl) (fun p e s m args below meth c ls Q X hH hl E => ?_)
  have hx := X.1
  have hb := X.2.1
  have hown := X.2.2.2.1
  have hts := X.2.2.2.2.1
  have hS : va_S (gA G) s.heap s.heap [] := va_S.rf
  unfold oX10_stretchOf at ho
  have hl : lv_has ls 3 [(0, .ref (ga G r)), (1, .int p1), (2, .int p2)] := hl
  refine lv_iload_n hx hb dX10_stretchOf_0 rfl (lv_at hl 1 rfl) ?_
  refine k_X10_isMaterial X hS  t_ml_VernierDrawers_120 hl.1 (Nat.le_of_ble_eq_true rfl) ⟨Nat.le_of_ble_eq_true rfl, Nat.le_of_ble_eq_true rfl⟩ ⟨Nat.zero_le _, Nat.zero_le _⟩ dX10_stretchOf_1 ?_
  refine lv_if_eq (tgt := 18) hx hb dX10_stretchOf_4 (by decide) (fun c1 => ?_) (fun c1 => ?_)
  · skip
    exact absurd ((pr1 ((fX10_stretchOf.eq_1 _ _ _ _).trans ((if_pos c1).trans rfl))).trans hok) (by decide)
  · have ho := ho c1
    refine lv_iload_n hx hb dX10_stretchOf_7 rfl (lv_at hl 2 rfl) ?_
    refine lv_iconst (v := 0) hx hb dX10_stretchOf_8 (by decide) ?_
    refine lv_sipush (v := 15000) hx hb dX10_stretchOf_9 (by decide) ?_
    refine k_X10_inRange X hS  t_ml_VernierDrawers_49 hl.1 (Nat.le_of_ble_eq_true rfl) ⟨Nat.le_of_ble_eq_true rfl, Nat.le_of_ble_eq_true rfl⟩ ⟨Nat.zero_le _, Nat.zero_le _⟩ dX10_stretchOf_12 ?_
    refine lv_if_ne (tgt := 28) hx hb dX10_stretchOf_15 (by decide) (fun c2 => ?_) (fun c2 => ?_)
    · have ho := ho c2
      refine lv_aload_n hx hb dX10_stretchOf_28 rfl (lv_at hl 0 rfl) ?_
      refine g_VernierDrawers_10 X hH hk_r dX10_stretchOf_29 ?_
      have hq3 := ho
      refine g_VernierDrawers_41 X hH hq3 dX10_stretchOf_32 ?_
      refine lv_iload_n hx hb dX10_stretchOf_35 rfl (lv_at hl 1 rfl) ?_
      refine lv_iload_n hx hb dX10_stretchOf_36 rfl (lv_at hl 2 rfl) ?_
      refine k_X2_stretch X hS hH (kc_7_2 hq3) t_ml_VernierDrawers_215 hl.1 (Nat.le_of_ble_eq_true rfl) ⟨Nat.le_of_ble_eq_true rfl, Nat.le_of_ble_eq_true rfl⟩ ⟨Nat.zero_le _, Nat.zero_le _⟩ dX10_stretchOf_37 ?_
      exact E _ _ _ dX10_stretchOf_40 rfl (pr2 ((fX10_stretchOf.eq_1 _ _ _ _).trans ((if_neg c1).trans ((if_neg c2).trans rfl))))
    · skip
      exact absurd ((pr1 ((fX10_stretchOf.eq_1 _ _ _ _).trans ((if_neg c1).trans ((if_pos c2).trans rfl)))).trans hok) (by decide)
theorem kZ_X10_stretchOf {p : Program} {l : Launch} {e : Env} {R : Room} {s : State} {m : MethodId} {args : Array Value} {below : List Frame} {meth : Method} {c : Code} {H : Heap} {locs : List Loc} {cells slots : Nat} {Q : State → Prop} {cc : ByteArray} {pc nL : Nat} {ls : Array Slot} {rest : List Value} {G : gG} {own : String} {da : Nat → Nat} {v : vSt} {x : gX} (X : CX G p s m args c cc nL own) (hS : va_S (gA G) s.heap H locs) (hH : Hp G da v x H) {r : Nat} (hk_r : kd r = 10) {p1 : Int32} {p2 : Int32} (ho : oX10_stretchOf r p1 p2 v) (hok : (fX10_stretchOf r p1 p2 v).1 = 0) {idx : Nat} (hml : Cond.methodLink own idx yX10_stretchOf ∈ TT) (hls : ls.size = nL) (hsum : (rest.map fun v => v.category).sum ≤ 8) (hR : rmZ_X10_stretchOf.frames + 1 ≤ R.frames ∧ 8 + (3 + 11) + rmZ_X10_stretchOf.locals ≤ R.locals) (hcs : cells ≤ R.cells ∧ slots ≤ R.slots) (hdg : decode cc pc = .ok (.invokevirtual idx, 3)) (kk : W p l e R s m args below meth c H locs cells slots Q (F0 m (pc + 3) ls (.int ((fX10_stretchOf r p1 p2 v).2) :: rest))) : W p l e R s m args below meth c H locs cells slots Q (F0 m pc ls (.int p2 :: .int p1 :: .ref (ga G r) :: rest)) := c_qi (runV (k := 2) X.1 X.2.1 X.2.2.1 X.2.2.2.1 X.2.2.2.2.1 (mZ_X10_stretchOf l G da v x r hk_r p1 p2 ho hok) pW_bl hml t_im_X10_stretchOf t_sel_X10_stretchOf t_ini_VernierDrawers t_code_X10_stretchOf ⟨rfl, by decide, by decide, by decide +kernel⟩ rfl rfl hR hcs (recvW X hH (by rw [hk_r]; decide) (by rw [hk_r]; decide) (ce_10 hk_r) rfl) (preW X hS hH) rfl hls rfl hsum hdg) (fun _ h => h ▸ kk)
abbrev rmZ_X10_kindOf : Room := { frames := 2, cells := 0, slots := 0, locals := 42 }
set_option maxHeartbeats 8000000 in
set_option maxRecDepth 100000 in
theorem mZ_X10_kindOf (l : Launch) (G : gG) (da : Nat → Nat) (v : vSt) (x : gX) (r : Nat) (hk_r : kd r = 10) (p1 : Int32) (ho : oX10_kindOf r p1 v) (hok : (fX10_kindOf r p1 v).1 = 0) : QI l yX10_kindOf cX10_kindOf 2 (some .int) rmZ_X10_kindOf [.ref (ga G r), .int p1] (pW G da v x) ((fX10_kindOf r p1 v).2) := by
  refine gofQ (own := RX10) (by decide) rfl (Nat.le_of_ble_eq_true rfl) (fun p e s m args below meth c ls Q X hH hl E => ?_)
  have hx := X.1
  have hb := X.2.1
  have hown := X.2.2.2.1
  have hts := X.2.2.2.2.1
  have hS : va_S (gA G) s.heap s.heap [] := va_S.rf
  unfold oX10_kindOf at ho
  have hl : lv_has ls 2 [(0, .ref (ga G r)), (1, .int p1)] := hl
  refine lv_aload_n hx hb dX10_kindOf_0 rfl (lv_at hl 0 rfl) ?_
  refine lv_iload_n hx hb dX10_kindOf_1 rfl (lv_at hl 1 rfl) ?_
  have hq1 := ho.1
  have ho := ho.2
  have c2 : (fX10_needTool r p1 v).1 = 0 := Decidable.byContradiction (fun c2 => c2 ((pr1 ((fX10_kindOf.eq_1 _ _ _).trans ((if_neg c2).trans rfl))).trans hok))
  refine kZ_X10_needTool X hS hH hk_r hq1 c2 t_ml_VernierDrawers_181 hl.1 (Nat.le_of_ble_eq_true rfl) ⟨Nat.le_of_ble_eq_true rfl, Nat.le_of_ble_eq_true rfl⟩ ⟨Nat.zero_le _, Nat.zero_le _⟩ dX10_kindOf_2 ?_
  have ho := ho c2
  have hq3 := ho
  refine g_VernierDrawers_185 X hH hq3 dX10_kindOf_5 ?_
  exact E _ _ _ dX10_kindOf_8 rfl (pr2 ((fX10_kindOf.eq_1 _ _ _).trans ((if_pos c2).trans rfl)))
theorem kZ_X10_kindOf {p : Program} {l : Launch} {e : Env} {R : Room} {s : State} {m : MethodId} {args : Array Value} {below : List Frame} {meth : Method} {c : Code} {H : Heap} {locs : List Loc} {cells slots : Nat} {Q : State → Prop} {cc : ByteArray} {pc nL : Nat} {ls : Array Slot} {rest : List Value} {G : gG} {own : String} {da : Nat → Nat} {v : vSt} {x : gX} (X : CX G p s m args c cc nL own) (hS : va_S (gA G) s.heap H locs) (hH : Hp G da v x H) {r : Nat} (hk_r : kd r = 10) {p1 : Int32} (ho : oX10_kindOf r p1 v) (hok : (fX10_kindOf r p1 v).1 = 0) {idx : Nat} (hml : Cond.methodLink own idx yX10_kindOf ∈ TT) (hls : ls.size = nL) (hsum : (rest.map fun v => v.category).sum ≤ 8) (hR : rmZ_X10_kindOf.frames + 1 ≤ R.frames ∧ 8 + (2 + 11) + rmZ_X10_kindOf.locals ≤ R.locals) (hcs : cells ≤ R.cells ∧ slots ≤ R.slots) (hdg : decode cc pc = .ok (.invokevirtual idx, 3)) (kk : W p l e R s m args below meth c H locs cells slots Q (F0 m (pc + 3) ls (.int ((fX10_kindOf r p1 v).2) :: rest))) : W p l e R s m args below meth c H locs cells slots Q (F0 m pc ls (.int p1 :: .ref (ga G r) :: rest)) := c_qi (runV (k := 1) X.1 X.2.1 X.2.2.1 X.2.2.2.1 X.2.2.2.2.1 (mZ_X10_kindOf l G da v x r hk_r p1 ho hok) pW_bl hml t_im_X10_kindOf t_sel_X10_kindOf t_ini_VernierDrawers t_code_X10_kindOf ⟨rfl, by decide, by decide, by decide +kernel⟩ rfl rfl hR hcs (recvW X hH (by rw [hk_r]; decide) (by rw [hk_r]; decide) (ce_10 hk_r) rfl) (preW X hS hH) rfl hls rfl hsum hdg) (fun _ h => h ▸ kk)
