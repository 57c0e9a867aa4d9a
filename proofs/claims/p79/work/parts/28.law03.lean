/-! the law's methods: what catches -/
def fL_offBy (o1 : Nat) (p1 : Int32) (p2 : Int32) (p3 : Int32) (v : vSt) : Int32 := if (fX10_offBy o1 p1 p2 p3 v).1 = 0 then ((fX10_offBy o1 p1 p2 p3 v).2) else (if (fX10_offBy o1 p1 p2 p3 v).1 = 1 then ((-100102)) else ((-100104)))
def oL_offBy (o1 : Nat) (p1 : Int32) (p2 : Int32) (p3 : Int32) (v : vSt) : Prop := (oX10_offBy o1 p1 p2 p3 v) ∧ (¬ ((fX10_offBy o1 p1 p2 p3 v).1 = 0) → (¬ ((fX10_offBy o1 p1 p2 p3 v).1 = 1) → ((fX10_offBy o1 p1 p2 p3 v).1 = 3)))
abbrev rmL_offBy : Room := { frames := 9, cells := 12, slots := 12, locals := 159 }
theorem dL_offBy_0 : decode cL_offBy 0 = .ok (.aload_n 0, 1) := by decide +kernel
theorem dL_offBy_1 : decode cL_offBy 1 = .ok (.iload_n 1, 1) := by decide +kernel
theorem dL_offBy_2 : decode cL_offBy 2 = .ok (.iload_n 2, 1) := by decide +kernel
theorem dL_offBy_3 : decode cL_offBy 3 = .ok (.iload_n 3, 1) := by decide +kernel
theorem dL_offBy_4 : decode cL_offBy 4 = .ok (.invokevirtual 152, 3) := by decide +kernel
theorem dL_offBy_7 : decode cL_offBy 7 = .ok (.ireturn, 1) := by decide +kernel
theorem dL_offBy_8 : decode cL_offBy 8 = .ok (.astore 4, 2) := by decide +kernel
theorem dL_offBy_10 : decode cL_offBy 10 = .ok (.ldc 17, 2) := by decide +kernel
theorem dL_offBy_12 : decode cL_offBy 12 = .ok (.ireturn, 1) := by decide +kernel
theorem dL_offBy_13 : decode cL_offBy 13 = .ok (.astore 4, 2) := by decide +kernel
theorem dL_offBy_15 : decode cL_offBy 15 = .ok (.ldc 73, 2) := by decide +kernel
theorem dL_offBy_17 : decode cL_offBy 17 = .ok (.ireturn, 1) := by decide +kernel
set_option maxHeartbeats 8000000 in
set_option maxRecDepth 100000 in
theorem mL_offBy (l : Launch) (hst : l.stackTraces = false) (G : gG) (da : Nat → Nat) (v : vSt) (x : gX) (o1 : Nat) (hk_o1 : kd o1 = 10) (p1 : Int32) (p2 : Int32) (p3 : Int32) (ho : oL_offBy o1 p1 p2 p3 v) : LI l yL_offBy cL_offBy 5 [((0 : Nat), (7 : Nat), (8 : Nat), (15 : Nat)), ((0 : Nat), (7 : Nat), (13 : Nat), (71 : Nat))] rmL_offBy [.ref (ga G o1), .int p1, .int p2, .int p3] G da v x 12 12 (fL_offBy o1 p1 p2 p3 v) v x := by
  refine gofL (by decide) rfl (Nat.le_of_ble_eq_true rfl) (fun p e s m args below meth c ls Q X hN htab hH hl E => ?_)
  have hx := X.1
  have hb := X.2.1
  have hown := X.2.2.2.1
  have hts := X.2.2.2.2.1
  have hS : va_S (gA G) s.heap s.heap [] := va_S.rf
  unfold oL_offBy at ho
  have hl : lv_has ls 5 [(0, .ref (ga G o1)), (1, .int p1), (2, .int p2), (3, .int p3)] := hl
  refine lv_aload_n hx hb dL_offBy_0 rfl (lv_at hl 0 rfl) ?_
  refine lv_iload_n hx hb dL_offBy_1 rfl (lv_at hl 1 rfl) ?_
  refine lv_iload_n hx hb dL_offBy_2 rfl (lv_at hl 2 rfl) ?_
  refine lv_iload_n hx hb dL_offBy_3 rfl (lv_at hl 3 rfl) ?_
  have hq1 := ho.1
  have ho := ho.2
  refine k_X10_offBy hst X hS hH hk_o1 hq1 t_ml_VernierDrawersLaw_152 hl.1 (Nat.le_of_ble_eq_true rfl) ⟨Nat.le_of_ble_eq_true rfl, Nat.le_of_ble_eq_true rfl⟩ ⟨(Nat.le_of_ble_eq_true rfl), (Nat.le_of_ble_eq_true rfl)⟩ dL_offBy_4 (fun c2 da ce9 q9 H locs hH hS g1 g2 g3 => ?_) (fun c2 da H locs hH hS => ?_)
  · have ho := ho c2
    refine (Decidable.em ((fX10_offBy o1 p1 p2 p3 v).1 = 1)).elim (fun c3 => ?_) (fun c3 => ?_)
    · skip
      refine t_c1 (k := 1) X htab rfl g1 g2 (c3 ▸ g3) ?_
      refine lv_astore (lv' := [(4, .ref q9), (0, .ref (ga G o1)), (1, .int p1), (2, .int p2), (3, .int p3)]) hx hb dL_offBy_8 hl (by decide) rfl (fun ls hl => ?_)
      refine lv_ldc (v := (-100102)) hx hb hown (hts _ t_con_VernierDrawersLaw_17) dL_offBy_10 ?_
      exact E _ _ _ _ _ _ _ _ _ _ dL_offBy_12 (Eq.symm ((fL_offBy.eq_1 _ _ _ _ _).trans ((if_neg c2).trans ((if_pos c3).trans rfl)))) rfl rfl hH hS (Nat.le_of_ble_eq_true rfl) (Nat.le_of_ble_eq_true rfl)
    · have ho := ho c3
      have hq4 := ho
      refine t_c2 (k := 3) X hN htab (by decide) rfl g1 g2 (hq4 ▸ g3) ?_
      refine lv_astore (lv' := [(4, .ref q9), (0, .ref (ga G o1)), (1, .int p1), (2, .int p2), (3, .int p3)]) hx hb dL_offBy_13 hl (by decide) rfl (fun ls hl => ?_)
      refine lv_ldc (v := (-100104)) hx hb hown (hts _ t_con_VernierDrawersLaw_73) dL_offBy_15 ?_
      exact E _ _ _ _ _ _ _ _ _ _ dL_offBy_17 (Eq.symm ((fL_offBy.eq_1 _ _ _ _ _).trans ((if_neg c2).trans ((if_neg c3).trans rfl)))) rfl rfl hH hS (Nat.le_of_ble_eq_true rfl) (Nat.le_of_ble_eq_true rfl)
  · skip
    exact E _ _ _ _ _ _ _ _ _ _ dL_offBy_7 (Eq.symm ((fL_offBy.eq_1 _ _ _ _ _).trans ((if_pos c2).trans rfl))) rfl rfl hH hS (Nat.le_of_ble_eq_true rfl) (Nat.le_of_ble_eq_true rfl)
theorem k_L_offBy {p : Program} {l : Launch} {e : Env} {R : Room} {s : State} {m : MethodId} {args : Array Value} {below : List Frame} {meth : Method} {c : Code} {H : Heap} {locs : List Loc} {cells slots : Nat} {Q : State → Prop} {cc : ByteArray} {pc nL : Nat} {ls : Array Slot} {rest : List Value} {G : gG} {own : String} {da : Nat → Nat} {v : vSt} {x : gX} (hst : l.stackTraces = false) (X : CX G p s m args c cc nL own) (hS : va_S (gA G) s.heap H locs) (hN : NC s) (hH : Hp G da v x H) {o1 : Nat} (hk_o1 : kd o1 = 10) {p1 : Int32} {p2 : Int32} {p3 : Int32} (ho : oL_offBy o1 p1 p2 p3 v) {idx : Nat} (hml : Cond.methodLink own idx yL_offBy ∈ TT) (hls : ls.size = nL) (hsum : (rest.map fun v => v.category).sum ≤ 8) (hR : rmL_offBy.frames + 1 ≤ R.frames ∧ 8 + (5 + 11) + rmL_offBy.locals ≤ R.locals) (hcs : cells + 12 ≤ R.cells ∧ slots + 12 ≤ R.slots) (hdg : decode cc pc = .ok (.invokestatic idx, 3)) (kk : ∀ (d : Nat → Nat) (H1 : Heap) (locs1 : List Loc), Hp G d v x H1 → va_S (gA G) s.heap H1 locs1 → W p l e R s m args below meth c H1 locs1 (cells + 12) (slots + 12) Q (F0 m (pc + 3) ls (.int (fL_offBy o1 p1 p2 p3 v) :: rest))) : W p l e R s m args below meth c H locs cells slots Q (F0 m pc ls (.int p3 :: .int p2 :: .int p1 :: .ref (ga G o1) :: rest)) := c_li (runLS (kp := 4) X.1 X.2.1 X.2.2.1 X.2.2.2.1 X.2.2.2.2.1 (mL_offBy l hst G da v x o1 hk_o1 p1 p2 p3 ho) pN_bl hml t_st_L_offBy t_ini_VernierDrawersLaw t_code_L_offBy ⟨by decide, by decide, by decide +kernel⟩ rfl rfl hR hcs (preN X hN hS hH) rfl hls rfl hsum hdg) hS kk
def fL_blockError (o1 : Nat) (p1 : Int32) (v : vSt) : Int32 := if (fX10_blockError o1 p1 v).1 = 0 then ((fX10_blockError o1 p1 v).2) else ((-100102))
def oL_blockError (o1 : Nat) (p1 : Int32) (v : vSt) : Prop := (oX10_blockError o1 p1 v) ∧ (¬ ((fX10_blockError o1 p1 v).1 = 0) → ((fX10_blockError o1 p1 v).1 = 1))
abbrev rmL_blockError : Room := { frames := 8, cells := 6, slots := 6, locals := 132 }
theorem dL_blockError_0 : decode cL_blockError 0 = .ok (.aload_n 0, 1) := by decide +kernel
theorem dL_blockError_1 : decode cL_blockError 1 = .ok (.iload_n 1, 1) := by decide +kernel
theorem dL_blockError_2 : decode cL_blockError 2 = .ok (.invokevirtual 158, 3) := by decide +kernel
theorem dL_blockError_5 : decode cL_blockError 5 = .ok (.ireturn, 1) := by decide +kernel
theorem dL_blockError_6 : decode cL_blockError 6 = .ok (.astore_n 2, 1) := by decide +kernel
theorem dL_blockError_7 : decode cL_blockError 7 = .ok (.ldc 17, 2) := by decide +kernel
theorem dL_blockError_9 : decode cL_blockError 9 = .ok (.ireturn, 1) := by decide +kernel
set_option maxHeartbeats 8000000 in
set_option maxRecDepth 100000 in
theorem mL_blockError (l : Launch) (hst : l.stackTraces = false) (G : gG) (da : Nat → Nat) (v : vSt) (x : gX) (o1 : Nat) (hk_o1 : kd o1 = 10) (p1 : Int32) (ho : oL_blockError o1 p1 v) : LI l yL_blockError cL_blockError 3 [((0 : Nat), (5 : Nat), (6 : Nat), (15 : Nat))] rmL_blockError [.ref (ga G o1), .int p1] G da v x 6 6 (fL_blockError o1 p1 v) v x := by
  refine gofL (by decide) rfl (Nat.le_of_ble_eq_true rfl) (fun p e s m args below meth c ls Q X hN htab hH hl E => ?_)
  have hx := X.1
  have hb := X.2.1
  have hown := X.2.2.2.1
  have hts := X.2.2.2.2.1
  have hS : va_S (gA G) s.heap s.heap [] := va_S.rf
  unfold oL_blockError at ho
  have hl : lv_has ls 3 [(0, .ref (ga G o1)), (1, .int p1)] := hl
  refine lv_aload_n hx hb dL_blockError_0 rfl (lv_at hl 0 rfl) ?_
  refine lv_iload_n hx hb dL_blockError_1 rfl (lv_at hl 1 rfl) ?_
  have hq1 := ho.1
  have ho := ho.2
  refine k_X10_blockError hst X hS hH hk_o1 hq1 t_ml_VernierDrawersLaw_158 hl.1 (Nat.le_of_ble_eq_true rfl) ⟨Nat.le_of_ble_eq_true rfl, Nat.le_of_ble_eq_true rfl⟩ ⟨(Nat.le_of_ble_eq_true rfl), (Nat.le_of_ble_eq_true rfl)⟩ dL_blockError_2 (fun c2 da ce9 q9 H locs hH hS g1 g2 g3 => ?_) (fun c2 da H locs hH hS => ?_)
  · have ho := ho c2
    have hq3 := ho
    refine t_c1 (k := 1) X htab rfl g1 g2 (hq3 ▸ g3) ?_
    refine lv_astore_n (lv' := [(2, .ref q9), (0, .ref (ga G o1)), (1, .int p1)]) hx hb dL_blockError_6 rfl hl (by decide) rfl (fun ls hl => ?_)
    refine lv_ldc (v := (-100102)) hx hb hown (hts _ t_con_VernierDrawersLaw_17) dL_blockError_7 ?_
    exact E _ _ _ _ _ _ _ _ _ _ dL_blockError_9 (Eq.symm ((fL_blockError.eq_1 _ _ _).trans ((if_neg c2).trans rfl))) rfl rfl hH hS (Nat.le_of_ble_eq_true rfl) (Nat.le_of_ble_eq_true rfl)
  · skip
    exact E _ _ _ _ _ _ _ _ _ _ dL_blockError_5 (Eq.symm ((fL_blockError.eq_1 _ _ _).trans ((if_pos c2).trans rfl))) rfl rfl hH hS (Nat.le_of_ble_eq_true rfl) (Nat.le_of_ble_eq_true rfl)
theorem k_L_blockError {p : Program} {l : Launch} {e : Env} {R : Room} {s : State} {m : MethodId} {args : Array Value} {below : List Frame} {meth : Method} {c : Code} {H : Heap} {locs : List Loc} {cells slots : Nat} {Q : State → Prop} {cc : ByteArray} {pc nL : Nat} {ls : Array Slot} {rest : List Value} {G : gG} {own : String} {da : Nat → Nat} {v : vSt} {x : gX} (hst : l.stackTraces = false) (X : CX G p s m args c cc nL own) (hS : va_S (gA G) s.heap H locs) (hN : NC s) (hH : Hp G da v x H) {o1 : Nat} (hk_o1 : kd o1 = 10) {p1 : Int32} (ho : oL_blockError o1 p1 v) {idx : Nat} (hml : Cond.methodLink own idx yL_blockError ∈ TT) (hls : ls.size = nL) (hsum : (rest.map fun v => v.category).sum ≤ 8) (hR : rmL_blockError.frames + 1 ≤ R.frames ∧ 8 + (3 + 11) + rmL_blockError.locals ≤ R.locals) (hcs : cells + 6 ≤ R.cells ∧ slots + 6 ≤ R.slots) (hdg : decode cc pc = .ok (.invokestatic idx, 3)) (kk : ∀ (d : Nat → Nat) (H1 : Heap) (locs1 : List Loc), Hp G d v x H1 → va_S (gA G) s.heap H1 locs1 → W p l e R s m args below meth c H1 locs1 (cells + 6) (slots + 6) Q (F0 m (pc + 3) ls (.int (fL_blockError o1 p1 v) :: rest))) : W p l e R s m args below meth c H locs cells slots Q (F0 m pc ls (.int p1 :: .ref (ga G o1) :: rest)) := c_li (runLS (kp := 2) X.1 X.2.1 X.2.2.1 X.2.2.2.1 X.2.2.2.2.1 (mL_blockError l hst G da v x o1 hk_o1 p1 ho) pN_bl hml t_st_L_blockError t_ini_VernierDrawersLaw t_code_L_blockError ⟨by decide, by decide, by decide +kernel⟩ rfl rfl hR hcs (preN X hN hS hH) rfl hls rfl hsum hdg) hS kk
def fL_fewestByTrying (o1 : Nat) (p1 : Int32) (v : vSt) : Int32 := if (fX10_fewestByTrying o1 p1 v).1 = 0 then ((fX10_fewestByTrying o1 p1 v).2) else (if (fX10_fewestByTrying o1 p1 v).1 = 1 then ((-100102)) else ((-100104)))
def oL_fewestByTrying (o1 : Nat) (p1 : Int32) (v : vSt) : Prop := (oX10_fewestByTrying o1 p1 v) ∧ (¬ ((fX10_fewestByTrying o1 p1 v).1 = 0) → (¬ ((fX10_fewestByTrying o1 p1 v).1 = 1) → ((fX10_fewestByTrying o1 p1 v).1 = 3)))
abbrev rmL_fewestByTrying : Room := { frames := 9, cells := 12, slots := 12, locals := 153 }
theorem dL_fewestByTrying_0 : decode cL_fewestByTrying 0 = .ok (.aload_n 0, 1) := by decide +kernel
theorem dL_fewestByTrying_1 : decode cL_fewestByTrying 1 = .ok (.iload_n 1, 1) := by decide +kernel
theorem dL_fewestByTrying_2 : decode cL_fewestByTrying 2 = .ok (.invokevirtual 164, 3) := by decide +kernel
theorem dL_fewestByTrying_5 : decode cL_fewestByTrying 5 = .ok (.ireturn, 1) := by decide +kernel
theorem dL_fewestByTrying_6 : decode cL_fewestByTrying 6 = .ok (.astore_n 2, 1) := by decide +kernel
theorem dL_fewestByTrying_7 : decode cL_fewestByTrying 7 = .ok (.ldc 17, 2) := by decide +kernel
theorem dL_fewestByTrying_9 : decode cL_fewestByTrying 9 = .ok (.ireturn, 1) := by decide +kernel
theorem dL_fewestByTrying_10 : decode cL_fewestByTrying 10 = .ok (.astore_n 2, 1) := by decide +kernel
theorem dL_fewestByTrying_11 : decode cL_fewestByTrying 11 = .ok (.ldc 73, 2) := by decide +kernel
theorem dL_fewestByTrying_13 : decode cL_fewestByTrying 13 = .ok (.ireturn, 1) := by decide +kernel
set_option maxHeartbeats 8000000 in
set_option maxRecDepth 100000 in
theorem mL_fewestByTrying (l : Launch) (hst : l.stackTraces = false) (G : gG) (da : Nat → Nat) (v : vSt) (x : gX) (o1 : Nat) (hk_o1 : kd o1 = 10) (p1 : Int32) (ho : oL_fewestByTrying o1 p1 v) : LI l yL_fewestByTrying cL_fewestByTrying 3 [((0 : Nat), (5 : Nat), (6 : Nat), (15 : Nat)), ((0 : Nat), (5 : Nat), (10 : Nat), (71 : Nat))] rmL_fewestByTrying [.ref (ga G o1), .int p1] G da v x 12 12 (fL_fewestByTrying o1 p1 v) v x := by
  refine gofL (by decide) rfl (Nat.le_of_ble_eq_true rfl) (fun p e s m args below meth c ls Q X hN htab hH hl E => ?_)
  have hx := X.1
  have hb := X.2.1
  have hown := X.2.2.2.1
  have hts := X.2.2.2.2.1
  have hS : va_S (gA G) s.heap s.heap [] := va_S.rf
  unfold oL_fewestByTrying at ho
  have hl : lv_has ls 3 [(0, .ref (ga G o1)), (1, .int p1)] := hl
  refine lv_aload_n hx hb dL_fewestByTrying_0 rfl (lv_at hl 0 rfl) ?_
  refine lv_iload_n hx hb dL_fewestByTrying_1 rfl (lv_at hl 1 rfl) ?_
  have hq1 := ho.1
  have ho := ho.2
  refine k_X10_fewestByTrying hst X hS hH hk_o1 hq1 t_ml_VernierDrawersLaw_164 hl.1 (Nat.le_of_ble_eq_true rfl) ⟨Nat.le_of_ble_eq_true rfl, Nat.le_of_ble_eq_true rfl⟩ ⟨(Nat.le_of_ble_eq_true rfl), (Nat.le_of_ble_eq_true rfl)⟩ dL_fewestByTrying_2 (fun c2 da ce9 q9 H locs hH hS g1 g2 g3 => ?_) (fun c2 da H locs hH hS => ?_)
  · have ho := ho c2
    refine (Decidable.em ((fX10_fewestByTrying o1 p1 v).1 = 1)).elim (fun c3 => ?_) (fun c3 => ?_)
    · skip
      refine t_c1 (k := 1) X htab rfl g1 g2 (c3 ▸ g3) ?_
      refine lv_astore_n (lv' := [(2, .ref q9), (0, .ref (ga G o1)), (1, .int p1)]) hx hb dL_fewestByTrying_6 rfl hl (by decide) rfl (fun ls hl => ?_)
      refine lv_ldc (v := (-100102)) hx hb hown (hts _ t_con_VernierDrawersLaw_17) dL_fewestByTrying_7 ?_
      exact E _ _ _ _ _ _ _ _ _ _ dL_fewestByTrying_9 (Eq.symm ((fL_fewestByTrying.eq_1 _ _ _).trans ((if_neg c2).trans ((if_pos c3).trans rfl)))) rfl rfl hH hS (Nat.le_of_ble_eq_true rfl) (Nat.le_of_ble_eq_true rfl)
    · have ho := ho c3
      have hq4 := ho
      refine t_c2 (k := 3) X hN htab (by decide) rfl g1 g2 (hq4 ▸ g3) ?_
      refine lv_astore_n (lv' := [(2, .ref q9), (0, .ref (ga G o1)), (1, .int p1)]) hx hb dL_fewestByTrying_10 rfl hl (by decide) rfl (fun ls hl => ?_)
      refine lv_ldc (v := (-100104)) hx hb hown (hts _ t_con_VernierDrawersLaw_73) dL_fewestByTrying_11 ?_
      exact E _ _ _ _ _ _ _ _ _ _ dL_fewestByTrying_13 (Eq.symm ((fL_fewestByTrying.eq_1 _ _ _).trans ((if_neg c2).trans ((if_neg c3).trans rfl)))) rfl rfl hH hS (Nat.le_of_ble_eq_true rfl) (Nat.le_of_ble_eq_true rfl)
  · skip
    exact E _ _ _ _ _ _ _ _ _ _ dL_fewestByTrying_5 (Eq.symm ((fL_fewestByTrying.eq_1 _ _ _).trans ((if_pos c2).trans rfl))) rfl rfl hH hS (Nat.le_of_ble_eq_true rfl) (Nat.le_of_ble_eq_true rfl)
theorem k_L_fewestByTrying {p : Program} {l : Launch} {e : Env} {R : Room} {s : State} {m : MethodId} {args : Array Value} {below : List Frame} {meth : Method} {c : Code} {H : Heap} {locs : List Loc} {cells slots : Nat} {Q : State → Prop} {cc : ByteArray} {pc nL : Nat} {ls : Array Slot} {rest : List Value} {G : gG} {own : String} {da : Nat → Nat} {v : vSt} {x : gX} (hst : l.stackTraces = false) (X : CX G p s m args c cc nL own) (hS : va_S (gA G) s.heap H locs) (hN : NC s) (hH : Hp G da v x H) {o1 : Nat} (hk_o1 : kd o1 = 10) {p1 : Int32} (ho : oL_fewestByTrying o1 p1 v) {idx : Nat} (hml : Cond.methodLink own idx yL_fewestByTrying ∈ TT) (hls : ls.size = nL) (hsum : (rest.map fun v => v.category).sum ≤ 8) (hR : rmL_fewestByTrying.frames + 1 ≤ R.frames ∧ 8 + (3 + 11) + rmL_fewestByTrying.locals ≤ R.locals) (hcs : cells + 12 ≤ R.cells ∧ slots + 12 ≤ R.slots) (hdg : decode cc pc = .ok (.invokestatic idx, 3)) (kk : ∀ (d : Nat → Nat) (H1 : Heap) (locs1 : List Loc), Hp G d v x H1 → va_S (gA G) s.heap H1 locs1 → W p l e R s m args below meth c H1 locs1 (cells + 12) (slots + 12) Q (F0 m (pc + 3) ls (.int (fL_fewestByTrying o1 p1 v) :: rest))) : W p l e R s m args below meth c H locs cells slots Q (F0 m pc ls (.int p1 :: .ref (ga G o1) :: rest)) := c_li (runLS (kp := 2) X.1 X.2.1 X.2.2.1 X.2.2.2.1 X.2.2.2.2.1 (mL_fewestByTrying l hst G da v x o1 hk_o1 p1 ho) pN_bl hml t_st_L_fewestByTrying t_ini_VernierDrawersLaw t_code_L_fewestByTrying ⟨by decide, by decide, by decide +kernel⟩ rfl rfl hR hcs (preN X hN hS hH) rfl hls rfl hsum hdg) hS kk
def fL_stackFor (o1 : Nat) (p1 : Int32) (v : vSt) : Int32 := if (fX10_stackFor o1 p1 v).1 = 0 then ((fX10_stackFor o1 p1 v).2) else (if (fX10_stackFor o1 p1 v).1 = 1 then ((-100102)) else ((-100104)))
def oL_stackFor (o1 : Nat) (p1 : Int32) (v : vSt) : Prop := (oX10_stackFor o1 p1 v) ∧ (¬ ((fX10_stackFor o1 p1 v).1 = 0) → (¬ ((fX10_stackFor o1 p1 v).1 = 1) → ((fX10_stackFor o1 p1 v).1 = 3)))
abbrev rmL_stackFor : Room := { frames := 9, cells := 12, slots := 12, locals := 153 }
theorem dL_stackFor_0 : decode cL_stackFor 0 = .ok (.aload_n 0, 1) := by decide +kernel
theorem dL_stackFor_1 : decode cL_stackFor 1 = .ok (.iload_n 1, 1) := by decide +kernel
theorem dL_stackFor_2 : decode cL_stackFor 2 = .ok (.invokevirtual 167, 3) := by decide +kernel
theorem dL_stackFor_5 : decode cL_stackFor 5 = .ok (.ireturn, 1) := by decide +kernel
theorem dL_stackFor_6 : decode cL_stackFor 6 = .ok (.astore_n 2, 1) := by decide +kernel
theorem dL_stackFor_7 : decode cL_stackFor 7 = .ok (.ldc 17, 2) := by decide +kernel
theorem dL_stackFor_9 : decode cL_stackFor 9 = .ok (.ireturn, 1) := by decide +kernel
theorem dL_stackFor_10 : decode cL_stackFor 10 = .ok (.astore_n 2, 1) := by decide +kernel
theorem dL_stackFor_11 : decode cL_stackFor 11 = .ok (.ldc 73, 2) := by decide +kernel
theorem dL_stackFor_13 : decode cL_stackFor 13 = .ok (.ireturn, 1) := by decide +kernel
set_option maxHeartbeats 8000000 in
set_option maxRecDepth 100000 in
theorem mL_stackFor (l : Launch) (hst : l.stackTraces = false) (G : gG) (da : Nat → Nat) (v : vSt) (x : gX) (o1 : Nat) (hk_o1 : kd o1 = 10) (p1 : Int32) (ho : oL_stackFor o1 p1 v) : LI l yL_stackFor cL_stackFor 3 [((0 : Nat), (5 : Nat), (6 : Nat), (15 : Nat)), ((0 : Nat), (5 : Nat), (10 : Nat), (71 : Nat))] rmL_stackFor [.ref (ga G o1), .int p1] G da v x 12 12 (fL_stackFor o1 p1 v) v x := by
  refine gofL (by decide) rfl (Nat.le_of_ble_eq_true rfl) (fun p e s m args below meth c ls Q X hN htab hH hl E => ?_)
  have hx := X.1
  have hb := X.2.1
  have hown := X.2.2.2.1
  have hts := X.2.2.2.2.1
  have hS : va_S (gA G) s.heap s.heap [] := va_S.rf
  unfold oL_stackFor at ho
  have hl : lv_has ls 3 [(0, .ref (ga G o1)), (1, .int p1)] := hl
  refine lv_aload_n hx hb dL_stackFor_0 rfl (lv_at hl 0 rfl) ?_
  refine lv_iload_n hx hb dL_stackFor_1 rfl (lv_at hl 1 rfl) ?_
  have hq1 := ho.1
  have ho := ho.2
  refine k_X10_stackFor hst X hS hH hk_o1 hq1 t_ml_VernierDrawersLaw_167 hl.1 (Nat.le_of_ble_eq_true rfl) ⟨Nat.le_of_ble_eq_true rfl, Nat.le_of_ble_eq_true rfl⟩ ⟨(Nat.le_of_ble_eq_true rfl), (Nat.le_of_ble_eq_true rfl)⟩ dL_stackFor_2 (fun c2 da ce9 q9 H locs hH hS g1 g2 g3 => ?_) (fun c2 da H locs hH hS => ?_)
  · have ho := ho c2
    refine (Decidable.em ((fX10_stackFor o1 p1 v).1 = 1)).elim (fun c3 => ?_) (fun c3 => ?_)
    · skip
      refine t_c1 (k := 1) X htab rfl g1 g2 (c3 ▸ g3) ?_
      refine lv_astore_n (lv' := [(2, .ref q9), (0, .ref (ga G o1)), (1, .int p1)]) hx hb dL_stackFor_6 rfl hl (by decide) rfl (fun ls hl => ?_)
      refine lv_ldc (v := (-100102)) hx hb hown (hts _ t_con_VernierDrawersLaw_17) dL_stackFor_7 ?_
      exact E _ _ _ _ _ _ _ _ _ _ dL_stackFor_9 (Eq.symm ((fL_stackFor.eq_1 _ _ _).trans ((if_neg c2).trans ((if_pos c3).trans rfl)))) rfl rfl hH hS (Nat.le_of_ble_eq_true rfl) (Nat.le_of_ble_eq_true rfl)
    · have ho := ho c3
      have hq4 := ho
      refine t_c2 (k := 3) X hN htab (by decide) rfl g1 g2 (hq4 ▸ g3) ?_
      refine lv_astore_n (lv' := [(2, .ref q9), (0, .ref (ga G o1)), (1, .int p1)]) hx hb dL_stackFor_10 rfl hl (by decide) rfl (fun ls hl => ?_)
      refine lv_ldc (v := (-100104)) hx hb hown (hts _ t_con_VernierDrawersLaw_73) dL_stackFor_11 ?_
      exact E _ _ _ _ _ _ _ _ _ _ dL_stackFor_13 (Eq.symm ((fL_stackFor.eq_1 _ _ _).trans ((if_neg c2).trans ((if_neg c3).trans rfl)))) rfl rfl hH hS (Nat.le_of_ble_eq_true rfl) (Nat.le_of_ble_eq_true rfl)
  · skip
    exact E _ _ _ _ _ _ _ _ _ _ dL_stackFor_5 (Eq.symm ((fL_stackFor.eq_1 _ _ _).trans ((if_pos c2).trans rfl))) rfl rfl hH hS (Nat.le_of_ble_eq_true rfl) (Nat.le_of_ble_eq_true rfl)
theorem k_L_stackFor {p : Program} {l : Launch} {e : Env} {R : Room} {s : State} {m : MethodId} {args : Array Value} {below : List Frame} {meth : Method} {c : Code} {H : Heap} {locs : List Loc} {cells slots : Nat} {Q : State → Prop} {cc : ByteArray} {pc nL : Nat} {ls : Array Slot} {rest : List Value} {G : gG} {own : String} {da : Nat → Nat} {v : vSt} {x : gX} (hst : l.stackTraces = false) (X : CX G p s m args c cc nL own) (hS : va_S (gA G) s.heap H locs) (hN : NC s) (hH : Hp G da v x H) {o1 : Nat} (hk_o1 : kd o1 = 10) {p1 : Int32} (ho : oL_stackFor o1 p1 v) {idx : Nat} (hml : Cond.methodLink own idx yL_stackFor ∈ TT) (hls : ls.size = nL) (hsum : (rest.map fun v => v.category).sum ≤ 8) (hR : rmL_stackFor.frames + 1 ≤ R.frames ∧ 8 + (3 + 11) + rmL_stackFor.locals ≤ R.locals) (hcs : cells + 12 ≤ R.cells ∧ slots + 12 ≤ R.slots) (hdg : decode cc pc = .ok (.invokestatic idx, 3)) (kk : ∀ (d : Nat → Nat) (H1 : Heap) (locs1 : List Loc), Hp G d v x H1 → va_S (gA G) s.heap H1 locs1 → W p l e R s m args below meth c H1 locs1 (cells + 12) (slots + 12) Q (F0 m (pc + 3) ls (.int (fL_stackFor o1 p1 v) :: rest))) : W p l e R s m args below meth c H locs cells slots Q (F0 m pc ls (.int p1 :: .ref (ga G o1) :: rest)) := c_li (runLS (kp := 2) X.1 X.2.1 X.2.2.1 X.2.2.2.1 X.2.2.2.2.1 (mL_stackFor l hst G da v x o1 hk_o1 p1 ho) pN_bl hml t_st_L_stackFor t_ini_VernierDrawersLaw t_code_L_stackFor ⟨by decide, by decide, by decide +kernel⟩ rfl rfl hR hcs (preN X hN hS hH) rfl hls rfl hsum hdg) hS kk
def fL_trueLength (o1 : Nat) (p1 : Int32) (v : vSt) : Int32 := if (fX10_trueLength o1 p1 v).1 = 0 then ((fX10_trueLength o1 p1 v).2) else (if (fX10_trueLength o1 p1 v).1 = 1 then ((-100102)) else ((-100104)))
def oL_trueLength (o1 : Nat) (p1 : Int32) (v : vSt) : Prop := (oX10_trueLength o1 p1 v) ∧ (¬ ((fX10_trueLength o1 p1 v).1 = 0) → (¬ ((fX10_trueLength o1 p1 v).1 = 1) → ((fX10_trueLength o1 p1 v).1 = 3)))
abbrev rmL_trueLength : Room := { frames := 9, cells := 12, slots := 12, locals := 153 }
theorem dL_trueLength_0 : decode cL_trueLength 0 = .ok (.aload_n 0, 1) := by decide +kernel
theorem dL_trueLength_1 : decode cL_trueLength 1 = .ok (.iload_n 1, 1) := by decide +kernel
theorem dL_trueLength_2 : decode cL_trueLength 2 = .ok (.invokevirtual 170, 3) := by decide +kernel
theorem dL_trueLength_5 : decode cL_trueLength 5 = .ok (.ireturn, 1) := by decide +kernel
theorem dL_trueLength_6 : decode cL_trueLength 6 = .ok (.astore_n 2, 1) := by decide +kernel
theorem dL_trueLength_7 : decode cL_trueLength 7 = .ok (.ldc 17, 2) := by decide +kernel
theorem dL_trueLength_9 : decode cL_trueLength 9 = .ok (.ireturn, 1) := by decide +kernel
theorem dL_trueLength_10 : decode cL_trueLength 10 = .ok (.astore_n 2, 1) := by decide +kernel
theorem dL_trueLength_11 : decode cL_trueLength 11 = .ok (.ldc 73, 2) := by decide +kernel
theorem dL_trueLength_13 : decode cL_trueLength 13 = .ok (.ireturn, 1) := by decide +kernel
set_option maxHeartbeats 8000000 in
set_option maxRecDepth 100000 in
theorem mL_trueLength (l : Launch) (hst : l.stackTraces = false) (G : gG) (da : Nat → Nat) (v : vSt) (x : gX) (o1 : Nat) (hk_o1 : kd o1 = 10) (p1 : Int32) (ho : oL_trueLength o1 p1 v) : LI l yL_trueLength cL_trueLength 3 [((0 : Nat), (5 : Nat), (6 : Nat), (15 : Nat)), ((0 : Nat), (5 : Nat), (10 : Nat), (71 : Nat))] rmL_trueLength [.ref (ga G o1), .int p1] G da v x 12 12 (fL_trueLength o1 p1 v) v x := by
  refine gofL (by decide) rfl (Nat.le_of_ble_eq_true rfl) (fun p e s m args below meth c ls Q X hN htab hH hl E => ?_)
  have hx := X.1
  have hb := X.2.1
  have hown := X.2.2.2.1
  have hts := X.2.2.2.2.1
  have hS : va_S (gA G) s.heap s.heap [] := va_S.rf
  unfold oL_trueLength at ho
  have hl : lv_has ls 3 [(0, .ref (ga G o1)), (1, .int p1)] := hl
  refine lv_aload_n hx hb dL_trueLength_0 rfl (lv_at hl 0 rfl) ?_
  refine lv_iload_n hx hb dL_trueLength_1 rfl (lv_at hl 1 rfl) ?_
  have hq1 := ho.1
  have ho := ho.2
  refine k_X10_trueLength hst X hS hH hk_o1 hq1 t_ml_VernierDrawersLaw_170 hl.1 (Nat.le_of_ble_eq_true rfl) ⟨Nat.le_of_ble_eq_true rfl, Nat.le_of_ble_eq_true rfl⟩ ⟨(Nat.le_of_ble_eq_true rfl), (Nat.le_of_ble_eq_true rfl)⟩ dL_trueLength_2 (fun c2 da ce9 q9 H locs hH hS g1 g2 g3 => ?_) (fun c2 da H locs hH hS => ?_)
  · have ho := ho c2
    refine (Decidable.em ((fX10_trueLength o1 p1 v).1 = 1)).elim (fun c3 => ?_) (fun c3 => ?_)
    · skip
      refine t_c1 (k := 1) X htab rfl g1 g2 (c3 ▸ g3) ?_
      refine lv_astore_n (lv' := [(2, .ref q9), (0, .ref (ga G o1)), (1, .int p1)]) hx hb dL_trueLength_6 rfl hl (by decide) rfl (fun ls hl => ?_)
      refine lv_ldc (v := (-100102)) hx hb hown (hts _ t_con_VernierDrawersLaw_17) dL_trueLength_7 ?_
      exact E _ _ _ _ _ _ _ _ _ _ dL_trueLength_9 (Eq.symm ((fL_trueLength.eq_1 _ _ _).trans ((if_neg c2).trans ((if_pos c3).trans rfl)))) rfl rfl hH hS (Nat.le_of_ble_eq_true rfl) (Nat.le_of_ble_eq_true rfl)
    · have ho := ho c3
      have hq4 := ho
      refine t_c2 (k := 3) X hN htab (by decide) rfl g1 g2 (hq4 ▸ g3) ?_
      refine lv_astore_n (lv' := [(2, .ref q9), (0, .ref (ga G o1)), (1, .int p1)]) hx hb dL_trueLength_10 rfl hl (by decide) rfl (fun ls hl => ?_)
      refine lv_ldc (v := (-100104)) hx hb hown (hts _ t_con_VernierDrawersLaw_73) dL_trueLength_11 ?_
      exact E _ _ _ _ _ _ _ _ _ _ dL_trueLength_13 (Eq.symm ((fL_trueLength.eq_1 _ _ _).trans ((if_neg c2).trans ((if_neg c3).trans rfl)))) rfl rfl hH hS (Nat.le_of_ble_eq_true rfl) (Nat.le_of_ble_eq_true rfl)
  · skip
    exact E _ _ _ _ _ _ _ _ _ _ dL_trueLength_5 (Eq.symm ((fL_trueLength.eq_1 _ _ _).trans ((if_pos c2).trans rfl))) rfl rfl hH hS (Nat.le_of_ble_eq_true rfl) (Nat.le_of_ble_eq_true rfl)
theorem k_L_trueLength {p : Program} {l : Launch} {e : Env} {R : Room} {s : State} {m : MethodId} {args : Array Value} {below : List Frame} {meth : Method} {c : Code} {H : Heap} {locs : List Loc} {cells slots : Nat} {Q : State → Prop} {cc : ByteArray} {pc nL : Nat} {ls : Array Slot} {rest : List Value} {G : gG} {own : String} {da : Nat → Nat} {v : vSt} {x : gX} (hst : l.stackTraces = false) (X : CX G p s m args c cc nL own) (hS : va_S (gA G) s.heap H locs) (hN : NC s) (hH : Hp G da v x H) {o1 : Nat} (hk_o1 : kd o1 = 10) {p1 : Int32} (ho : oL_trueLength o1 p1 v) {idx : Nat} (hml : Cond.methodLink own idx yL_trueLength ∈ TT) (hls : ls.size = nL) (hsum : (rest.map fun v => v.category).sum ≤ 8) (hR : rmL_trueLength.frames + 1 ≤ R.frames ∧ 8 + (3 + 11) + rmL_trueLength.locals ≤ R.locals) (hcs : cells + 12 ≤ R.cells ∧ slots + 12 ≤ R.slots) (hdg : decode cc pc = .ok (.invokestatic idx, 3)) (kk : ∀ (d : Nat → Nat) (H1 : Heap) (locs1 : List Loc), Hp G d v x H1 → va_S (gA G) s.heap H1 locs1 → W p l e R s m args below meth c H1 locs1 (cells + 12) (slots + 12) Q (F0 m (pc + 3) ls (.int (fL_trueLength o1 p1 v) :: rest))) : W p l e R s m args below meth c H locs cells slots Q (F0 m pc ls (.int p1 :: .ref (ga G o1) :: rest)) := c_li (runLS (kp := 2) X.1 X.2.1 X.2.2.1 X.2.2.2.1 X.2.2.2.2.1 (mL_trueLength l hst G da v x o1 hk_o1 p1 ho) pN_bl hml t_st_L_trueLength t_ini_VernierDrawersLaw t_code_L_trueLength ⟨by decide, by decide, by decide +kernel⟩ rfl rfl hR hcs (preN X hN hS hH) rfl hls rfl hsum hdg) hS kk
def fL_lengthOf (o1 : Nat) (p1 : Int32) (v : vSt) : Int32 := if (fX10_lengthOf o1 p1 v).1 = 0 then ((fX10_lengthOf o1 p1 v).2) else ((-100102))
def oL_lengthOf (o1 : Nat) (p1 : Int32) (v : vSt) : Prop := (oX10_lengthOf o1 p1 v) ∧ (¬ ((fX10_lengthOf o1 p1 v).1 = 0) → ((fX10_lengthOf o1 p1 v).1 = 1))
abbrev rmL_lengthOf : Room := { frames := 8, cells := 6, slots := 6, locals := 132 }
theorem dL_lengthOf_0 : decode cL_lengthOf 0 = .ok (.aload_n 0, 1) := by decide +kernel
theorem dL_lengthOf_1 : decode cL_lengthOf 1 = .ok (.iload_n 1, 1) := by decide +kernel
theorem dL_lengthOf_2 : decode cL_lengthOf 2 = .ok (.invokevirtual 173, 3) := by decide +kernel
theorem dL_lengthOf_5 : decode cL_lengthOf 5 = .ok (.ireturn, 1) := by decide +kernel
theorem dL_lengthOf_6 : decode cL_lengthOf 6 = .ok (.astore_n 2, 1) := by decide +kernel
theorem dL_lengthOf_7 : decode cL_lengthOf 7 = .ok (.ldc 17, 2) := by decide +kernel
theorem dL_lengthOf_9 : decode cL_lengthOf 9 = .ok (.ireturn, 1) := by decide +kernel
set_option maxHeartbeats 8000000 in
set_option maxRecDepth 100000 in
theorem mL_lengthOf (l : Launch) (hst : l.stackTraces = false) (G : gG) (da : Nat → Nat) (v : vSt) (x : gX) (o1 : Nat) (hk_o1 : kd o1 = 10) (p1 : Int32) (ho : oL_lengthOf o1 p1 v) : LI l yL_lengthOf cL_lengthOf 3 [((0 : Nat), (5 : Nat), (6 : Nat), (15 : Nat))] rmL_lengthOf [.ref (ga G o1), .int p1] G da v x 6 6 (fL_lengthOf o1 p1 v) v x := by
  refine gofL (by decide) rfl (Nat.le_of_ble_eq_true rfl) (fun p e s m args below meth c ls Q X hN htab hH hl E => ?_)
  have hx := X.1
  have hb := X.2.1
  have hown := X.2.2.2.1
  have hts := X.2.2.2.2.1
  have hS : va_S (gA G) s.heap s.heap [] := va_S.rf
  unfold oL_lengthOf at ho
  have hl : lv_has ls 3 [(0, .ref (ga G o1)), (1, .int p1)] := hl
  refine lv_aload_n hx hb dL_lengthOf_0 rfl (lv_at hl 0 rfl) ?_
  refine lv_iload_n hx hb dL_lengthOf_1 rfl (lv_at hl 1 rfl) ?_
  have hq1 := ho.1
  have ho := ho.2
  refine k_X10_lengthOf hst X hS hH hk_o1 hq1 t_ml_VernierDrawersLaw_173 hl.1 (Nat.le_of_ble_eq_true rfl) ⟨Nat.le_of_ble_eq_true rfl, Nat.le_of_ble_eq_true rfl⟩ ⟨(Nat.le_of_ble_eq_true rfl), (Nat.le_of_ble_eq_true rfl)⟩ dL_lengthOf_2 (fun c2 da ce9 q9 H locs hH hS g1 g2 g3 => ?_) (fun c2 da H locs hH hS => ?_)
  · have ho := ho c2
    have hq3 := ho
    refine t_c1 (k := 1) X htab rfl g1 g2 (hq3 ▸ g3) ?_
    refine lv_astore_n (lv' := [(2, .ref q9), (0, .ref (ga G o1)), (1, .int p1)]) hx hb dL_lengthOf_6 rfl hl (by decide) rfl (fun ls hl => ?_)
    refine lv_ldc (v := (-100102)) hx hb hown (hts _ t_con_VernierDrawersLaw_17) dL_lengthOf_7 ?_
    exact E _ _ _ _ _ _ _ _ _ _ dL_lengthOf_9 (Eq.symm ((fL_lengthOf.eq_1 _ _ _).trans ((if_neg c2).trans rfl))) rfl rfl hH hS (Nat.le_of_ble_eq_true rfl) (Nat.le_of_ble_eq_true rfl)
  · skip
    exact E _ _ _ _ _ _ _ _ _ _ dL_lengthOf_5 (Eq.symm ((fL_lengthOf.eq_1 _ _ _).trans ((if_pos c2).trans rfl))) rfl rfl hH hS (Nat.le_of_ble_eq_true rfl) (Nat.le_of_ble_eq_true rfl)
theorem k_L_lengthOf {p : Program} {l : Launch} {e : Env} {R : Room} {s : State} {m : MethodId} {args : Array Value} {below : List Frame} {meth : Method} {c : Code} {H : Heap} {locs : List Loc} {cells slots : Nat} {Q : State → Prop} {cc : ByteArray} {pc nL : Nat} {ls : Array Slot} {rest : List Value} {G : gG} {own : String} {da : Nat → Nat} {v : vSt} {x : gX} (hst : l.stackTraces = false) (X : CX G p s m args c cc nL own) (hS : va_S (gA G) s.heap H locs) (hN : NC s) (hH : Hp G da v x H) {o1 : Nat} (hk_o1 : kd o1 = 10) {p1 : Int32} (ho : oL_lengthOf o1 p1 v) {idx : Nat} (hml : Cond.methodLink own idx yL_lengthOf ∈ TT) (hls : ls.size = nL) (hsum : (rest.map fun v => v.category).sum ≤ 8) (hR : rmL_lengthOf.frames + 1 ≤ R.frames ∧ 8 + (3 + 11) + rmL_lengthOf.locals ≤ R.locals) (hcs : cells + 6 ≤ R.cells ∧ slots + 6 ≤ R.slots) (hdg : decode cc pc = .ok (.invokestatic idx, 3)) (kk : ∀ (d : Nat → Nat) (H1 : Heap) (locs1 : List Loc), Hp G d v x H1 → va_S (gA G) s.heap H1 locs1 → W p l e R s m args below meth c H1 locs1 (cells + 6) (slots + 6) Q (F0 m (pc + 3) ls (.int (fL_lengthOf o1 p1 v) :: rest))) : W p l e R s m args below meth c H locs cells slots Q (F0 m pc ls (.int p1 :: .ref (ga G o1) :: rest)) := c_li (runLS (kp := 2) X.1 X.2.1 X.2.2.1 X.2.2.2.1 X.2.2.2.2.1 (mL_lengthOf l hst G da v x o1 hk_o1 p1 ho) pN_bl hml t_st_L_lengthOf t_ini_VernierDrawersLaw t_code_L_lengthOf ⟨by decide, by decide, by decide +kernel⟩ rfl rfl hR hcs (preN X hN hS hH) rfl hls rfl hsum hdg) hS kk
def fL_meanOf (o1 : Nat) (p1 : Int32) (v : vSt) : UInt32 := if (fX10_meanOf o1 p1 v).1 = 0 then ((fX10_meanOf o1 p1 v).2) else (if (fX10_meanOf o1 p1 v).1 = 1 then ((3351479040 : UInt32)) else ((3351479296 : UInt32)))
def oL_meanOf (o1 : Nat) (p1 : Int32) (v : vSt) : Prop := (oX10_meanOf o1 p1 v) ∧ (¬ ((fX10_meanOf o1 p1 v).1 = 0) → (¬ ((fX10_meanOf o1 p1 v).1 = 1) → ((fX10_meanOf o1 p1 v).1 = 3)))
abbrev rmL_meanOf : Room := { frames := 9, cells := 12, slots := 12, locals := 155 }
theorem dL_meanOf_0 : decode cL_meanOf 0 = .ok (.aload_n 0, 1) := by decide +kernel
theorem dL_meanOf_1 : decode cL_meanOf 1 = .ok (.iload_n 1, 1) := by decide +kernel
theorem dL_meanOf_2 : decode cL_meanOf 2 = .ok (.invokevirtual 194, 3) := by decide +kernel
theorem dL_meanOf_5 : decode cL_meanOf 5 = .ok (.freturn, 1) := by decide +kernel
theorem dL_meanOf_6 : decode cL_meanOf 6 = .ok (.astore_n 2, 1) := by decide +kernel
theorem dL_meanOf_7 : decode cL_meanOf 7 = .ok (.ldc 198, 2) := by decide +kernel
theorem dL_meanOf_9 : decode cL_meanOf 9 = .ok (.freturn, 1) := by decide +kernel
theorem dL_meanOf_10 : decode cL_meanOf 10 = .ok (.astore_n 2, 1) := by decide +kernel
theorem dL_meanOf_11 : decode cL_meanOf 11 = .ok (.ldc 199, 2) := by decide +kernel
theorem dL_meanOf_13 : decode cL_meanOf 13 = .ok (.freturn, 1) := by decide +kernel
set_option maxHeartbeats 8000000 in
set_option maxRecDepth 100000 in
theorem mL_meanOf (l : Launch) (hst : l.stackTraces = false) (G : gG) (da : Nat → Nat) (v : vSt) (x : gX) (o1 : Nat) (hk_o1 : kd o1 = 10) (p1 : Int32) (ho : oL_meanOf o1 p1 v) : LF l yL_meanOf cL_meanOf 3 [((0 : Nat), (5 : Nat), (6 : Nat), (15 : Nat)), ((0 : Nat), (5 : Nat), (10 : Nat), (71 : Nat))] rmL_meanOf [.ref (ga G o1), .int p1] G da v x 12 12 (fL_meanOf o1 p1 v) := by
  refine gofLF (by decide) rfl (Nat.le_of_ble_eq_true rfl) (fun p e s m args below meth c ls Q X hN htab hH hl E => ?_)
  have hx := X.1
  have hb := X.2.1
  have hown := X.2.2.2.1
  have hts := X.2.2.2.2.1
  have hS : va_S (gA G) s.heap s.heap [] := va_S.rf
  unfold oL_meanOf at ho
  have hl : lv_has ls 3 [(0, .ref (ga G o1)), (1, .int p1)] := hl
  refine lv_aload_n hx hb dL_meanOf_0 rfl (lv_at hl 0 rfl) ?_
  refine lv_iload_n hx hb dL_meanOf_1 rfl (lv_at hl 1 rfl) ?_
  have hq1 := ho.1
  have ho := ho.2
  refine k_X10_meanOf hst X hS hH hk_o1 hq1 t_ml_VernierDrawersLaw_194 hl.1 (Nat.le_of_ble_eq_true rfl) ⟨Nat.le_of_ble_eq_true rfl, Nat.le_of_ble_eq_true rfl⟩ ⟨(Nat.le_of_ble_eq_true rfl), (Nat.le_of_ble_eq_true rfl)⟩ dL_meanOf_2 (fun c2 da ce9 q9 H locs hH hS g1 g2 g3 => ?_) (fun c2 da H locs hH hS => ?_)
  · have ho := ho c2
    refine (Decidable.em ((fX10_meanOf o1 p1 v).1 = 1)).elim (fun c3 => ?_) (fun c3 => ?_)
    · skip
      refine t_c1 (k := 1) X htab rfl g1 g2 (c3 ▸ g3) ?_
      refine lv_astore_n (lv' := [(2, .ref q9), (0, .ref (ga G o1)), (1, .int p1)]) hx hb dL_meanOf_6 rfl hl (by decide) rfl (fun ls hl => ?_)
      refine lv_ldcf (v := 3351479040) hx hb hown (hts _ t_con_VernierDrawersLaw_198) dL_meanOf_7 ?_
      exact E _ _ _ _ _ _ _ _ dL_meanOf_9 (Eq.symm ((fL_meanOf.eq_1 _ _ _).trans ((if_neg c2).trans ((if_pos c3).trans rfl)))) hH hS (Nat.le_of_ble_eq_true rfl) (Nat.le_of_ble_eq_true rfl)
    · have ho := ho c3
      have hq4 := ho
      refine t_c2 (k := 3) X hN htab (by decide) rfl g1 g2 (hq4 ▸ g3) ?_
      refine lv_astore_n (lv' := [(2, .ref q9), (0, .ref (ga G o1)), (1, .int p1)]) hx hb dL_meanOf_10 rfl hl (by decide) rfl (fun ls hl => ?_)
      refine lv_ldcf (v := 3351479296) hx hb hown (hts _ t_con_VernierDrawersLaw_199) dL_meanOf_11 ?_
      exact E _ _ _ _ _ _ _ _ dL_meanOf_13 (Eq.symm ((fL_meanOf.eq_1 _ _ _).trans ((if_neg c2).trans ((if_neg c3).trans rfl)))) hH hS (Nat.le_of_ble_eq_true rfl) (Nat.le_of_ble_eq_true rfl)
  · skip
    exact E _ _ _ _ _ _ _ _ dL_meanOf_5 (Eq.symm ((fL_meanOf.eq_1 _ _ _).trans ((if_pos c2).trans rfl))) hH hS (Nat.le_of_ble_eq_true rfl) (Nat.le_of_ble_eq_true rfl)
theorem k_L_meanOf {p : Program} {l : Launch} {e : Env} {R : Room} {s : State} {m : MethodId} {args : Array Value} {below : List Frame} {meth : Method} {c : Code} {H : Heap} {locs : List Loc} {cells slots : Nat} {Q : State → Prop} {cc : ByteArray} {pc nL : Nat} {ls : Array Slot} {rest : List Value} {G : gG} {own : String} {da : Nat → Nat} {v : vSt} {x : gX} (hst : l.stackTraces = false) (X : CX G p s m args c cc nL own) (hS : va_S (gA G) s.heap H locs) (hN : NC s) (hH : Hp G da v x H) {o1 : Nat} (hk_o1 : kd o1 = 10) {p1 : Int32} (ho : oL_meanOf o1 p1 v) {idx : Nat} (hml : Cond.methodLink own idx yL_meanOf ∈ TT) (hls : ls.size = nL) (hsum : (rest.map fun v => v.category).sum ≤ 8) (hR : rmL_meanOf.frames + 1 ≤ R.frames ∧ 8 + (3 + 11) + rmL_meanOf.locals ≤ R.locals) (hcs : cells + 12 ≤ R.cells ∧ slots + 12 ≤ R.slots) (hdg : decode cc pc = .ok (.invokestatic idx, 3)) (kk : ∀ (d : Nat → Nat) (H1 : Heap) (locs1 : List Loc), Hp G d v x H1 → va_S (gA G) s.heap H1 locs1 → W p l e R s m args below meth c H1 locs1 (cells + 12) (slots + 12) Q (F0 m (pc + 3) ls (.float (fL_meanOf o1 p1 v) :: rest))) : W p l e R s m args below meth c H locs cells slots Q (F0 m pc ls (.int p1 :: .ref (ga G o1) :: rest)) := c_lf (runLF (kp := 2) X.1 X.2.1 X.2.2.1 X.2.2.2.1 X.2.2.2.2.1 (mL_meanOf l hst G da v x o1 hk_o1 p1 ho) pN_bl hml t_st_L_meanOf t_ini_VernierDrawersLaw t_code_L_meanOf ⟨by decide, by decide, by decide +kernel⟩ rfl rfl hR hcs (preN X hN hS hH) rfl hls rfl hsum hdg) hS kk
