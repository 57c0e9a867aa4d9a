/-! VernierDrawers: the methods where they throw nothing. -/
def vp_Sn : Array Value → State → Outcome → State → Prop := fun _ st o t => o = .returned none ∧ t.heap = st.heap
abbrev QV (l : Launch) (y : MethodName) (b : ByteArray) (n : Nat) (ret : Option FieldType) (rm : Room) (avs : List Value) (Pre : State → Prop) : Prop := Met l y (wc y b n ret) rm (va_Pc avs Pre) vp_Sn 0 0 (fun _ => False)
theorem gofQV {l : Launch} {y : MethodName} {cc : ByteArray} {nL : Nat} {rm : Room} {avs : List Value} {own : String} {G : gG} {da : Nat → Nat} {v : vSt} {x : gX} (hy : plainName y.cls = true) (hown : y.cls = own) (hlen : (lg_sl avs).length ≤ nL)
    (body : ∀ (p : Program) (e : Env) (s : State) (m : MethodId) (args : Array Value) (below : List Frame) (meth : Method) (c : Code) (ls : Array Slot) (Q : State → Prop), CX G p s m args c cc nL own → Hp G da v x s.heap → lv_has ls nL (lv_args 0 avs) →
      (∀ (pc : Nat) (ls : Array Slot), decode cc pc = .ok (.return_, 1) → W p l e rm s m args below meth c s.heap [] 0 0 Q (F0 m pc ls [])) →
      W p l e rm s m args below meth c s.heap [] 0 0 Q (F0 m 0 ls [])) : QV l y cc nL none rm avs (pW G da v x) :=
  gofW hy hown hlen (fun p e s m below meth c ls X h6 h7 hH hl => body p e s m _ below meth c ls _ X hH hl (fun _ _ hd => W.vret X.1 X.2.1 h6 (fun _ ht _ => ⟨rfl, ht⟩) (fun _ h => absurd h List.not_mem_nil) hd h7))
theorem c_qv {p : Program} {l : Launch} {e : Env} {R : Room} {s : State} {m : MethodId} {args : Array Value} {below : List Frame} {meth : Method} {c : Code} {H : Heap} {locs : List Loc} {cells slots : Nat} {Q : State → Prop} {pc : Nat} {ls : Array Slot} {rest st0 : List Value} {a : Array Value} (hr : va_Run p l e R s m args below meth c H locs cells slots 0 0 (F0 m pc ls st0) rest (vp_Sn a) (fun _ => False))
    (kk : W p l e R s m args below meth c H locs cells slots Q (F0 m (pc + 3) ls rest)) : W p l e R s m args below meth c H locs cells slots Q (F0 m pc ls st0) := by
  intro T hT X
  obtain ⟨v, st₀, t, T', L, h0, X', hL, e1, e2, ⟨hv, hb⟩, st⟩ := hr T hT X
  cases hv
  have hl : L = [] := List.eq_nil_iff_forall_not_mem.mpr (fun q hq => hL q hq)
  subst hl
  rw [List.append_nil] at X'
  obtain ⟨t2, a1, b1⟩ := kk T' (e1.trans (hb.trans h0)) X'
  exact ⟨t2, st t2 a1, b1⟩
abbrev rmZ_X10_needTool : Room := { frames := 1, cells := 0, slots := 0, locals := 21 }
set_option maxHeartbeats 8000000 in
set_option maxRecDepth 100000 in
theorem mZ_X10_needTool (l : Launch) (G : gG) (da : Nat → Nat) (v : vSt) (x : gX) (r : Nat) (hk_r : kd r = 10) (p1 : Int32) (ho : oX10_needTool r p1 v) (hok : (fX10_needTool r p1 v).1 = 0) : QR l yX10_needTool cX10_needTool 2 (some (.object "VernierDrawers$Tool")) rmZ_X10_needTool [.ref (ga G r), .int p1] (pW G da v x) (ga G ((fX10_needTool r p1 v).2)) := by
  refine gofQR (own := RX10) (by decide) rfl (Nat.le_of_ble_eq_true rfl) (fun p e s m args below meth c ls Q X hH hl E => ?_)
  have hx := X.1
  have hb := X.2.1
  have hown := X.2.2.2.1
  have hts := X.2.2.2.2.1
  have hS : va_S (gA G) s.heap s.heap [] := va_S.rf
  unfold oX10_needTool at ho
  have hl : lv_has ls 2 [(0, .ref (ga G r)), (1, .int p1)] := hl
  refine lv_aload_n hx hb dX10_needTool_0 rfl (lv_at hl 0 rfl) ?_
  refine g_VernierDrawers_10 X hH hk_r dX10_needTool_1 ?_
  have hq1 := ho.1
  have ho := ho.2
  refine g_VernierDrawers_41 X hH hq1 dX10_needTool_4 ?_
  refine lv_iload_n hx hb dX10_needTool_7 rfl (lv_at hl 1 rfl) ?_
  refine k_X2_hasTool X hS hH (kc_7_2 hq1) t_ml_VernierDrawers_444 hl.1 (Nat.le_of_ble_eq_true rfl) ⟨Nat.le_of_ble_eq_true rfl, Nat.le_of_ble_eq_true rfl⟩ ⟨Nat.zero_le _, Nat.zero_le _⟩ dX10_needTool_8 ?_
  refine lv_if_ne (tgt := 25) hx hb dX10_needTool_11 (by decide) (fun c2 => ?_) (fun c2 => ?_)
  · have ho := ho c2
    refine lv_aload_n hx hb dX10_needTool_25 rfl (lv_at hl 0 rfl) ?_
    refine g_VernierDrawers_10 X hH hk_r dX10_needTool_26 ?_
    refine g_VernierDrawers_41 X hH hq1 dX10_needTool_29 ?_
    refine g_VernierDrawers_449 X hH (kc_7_2 hq1) dX10_needTool_32 ?_
    refine lv_iload_n hx hb dX10_needTool_35 rfl (lv_at hl 1 rfl) ?_
    have hq3 := ho
    refine qld_20 X hH (kc_2_20 (kc_7_2 hq1)) hq3 dX10_needTool_36 ?_
    exact E _ _ _ dX10_needTool_37 (congrArg (ga G) (pr2 ((fX10_needTool.eq_1 _ _ _).trans ((if_neg c2).trans rfl))))
  · skip
    exact absurd ((pr1 ((fX10_needTool.eq_1 _ _ _).trans ((if_pos c2).trans rfl))).trans hok) (by decide)
theorem kZ_X10_needTool {p : Program} {l : Launch} {e : Env} {R : Room} {s : State} {m : MethodId} {args : Array Value} {below : List Frame} {meth : Method} {c : Code} {H : Heap} {locs : List Loc} {cells slots : Nat} {Q : State → Prop} {cc : ByteArray} {pc nL : Nat} {ls : Array Slot} {rest : List Value} {G : gG} {own : String} {da : Nat → Nat} {v : vSt} {x : gX} (X : CX G p s m args c cc nL own) (hS : va_S (gA G) s.heap H locs) (hH : Hp G da v x H) {r : Nat} (hk_r : kd r = 10) {p1 : Int32} (ho : oX10_needTool r p1 v) (hok : (fX10_needTool r p1 v).1 = 0) {idx : Nat} (hml : Cond.methodLink own idx yX10_needTool ∈ TT) (hls : ls.size = nL) (hsum : (rest.map fun v => v.category).sum ≤ 8) (hR : rmZ_X10_needTool.frames + 1 ≤ R.frames ∧ 8 + (2 + 11) + rmZ_X10_needTool.locals ≤ R.locals) (hcs : cells ≤ R.cells ∧ slots ≤ R.slots) (hdg : decode cc pc = .ok (.invokevirtual idx, 3)) (kk : W p l e R s m args below meth c H locs cells slots Q (F0 m (pc + 3) ls (.ref (ga G ((fX10_needTool r p1 v).2)) :: rest))) : W p l e R s m args below meth c H locs cells slots Q (F0 m pc ls (.int p1 :: .ref (ga G r) :: rest)) := c_qr (runV (k := 1) X.1 X.2.1 X.2.2.1 X.2.2.2.1 X.2.2.2.2.1 (mZ_X10_needTool l G da v x r hk_r p1 ho hok) pW_bl hml t_im_X10_needTool t_sel_X10_needTool t_ini_VernierDrawers t_code_X10_needTool ⟨rfl, by decide, by decide, by decide +kernel⟩ rfl rfl hR hcs (recvW X hH (by rw [hk_r]; decide) (by rw [hk_r]; decide) (ce_10 hk_r) rfl) (preW X hS hH) rfl hls rfl hsum hdg) (fun _ h => h ▸ kk)
abbrev rmZ_X10_needType : Room := { frames := 1, cells := 0, slots := 0, locals := 21 }
set_option maxHeartbeats 8000000 in
set_option maxRecDepth 100000 in
theorem mZ_X10_needType (l : Launch) (G : gG) (da : Nat → Nat) (v : vSt) (x : gX) (r : Nat) (hk_r : kd r = 10) (p1 : Int32) (ho : oX10_needType r p1 v) (hok : (fX10_needType r p1 v).1 = 0) : QR l yX10_needType cX10_needType 2 (some (.object "VernierDrawers$PieceType")) rmZ_X10_needType [.ref (ga G r), .int p1] (pW G da v x) (ga G ((fX10_needType r p1 v).2)) := by
  refine gofQR (own := RX10) (by decide) rfl (Nat.le_of_ble_eq_true rfl) (fun p e s m args below meth c ls Q X hH hl E => ?_)
  have hx := X.1
  have hb := X.2.1
  have hown := X.2.2.2.1
  have hts := X.2.2.2.2.1
  have hS : va_S (gA G) s.heap s.heap [] := va_S.rf
  unfold oX10_needType at ho
  have hl : lv_has ls 2 [(0, .ref (ga G r)), (1, .int p1)] := hl
  refine lv_aload_n hx hb dX10_needType_0 rfl (lv_at hl 0 rfl) ?_
  refine g_VernierDrawers_10 X hH hk_r dX10_needType_1 ?_
  have hq1 := ho.1
  have ho := ho.2
  refine g_VernierDrawers_126 X hH hq1 dX10_needType_4 ?_
  refine lv_iload_n hx hb dX10_needType_7 rfl (lv_at hl 1 rfl) ?_
  refine k_X0_hasType X hS hH (kc_7_0 hq1) t_ml_VernierDrawers_462 hl.1 (Nat.le_of_ble_eq_true rfl) ⟨Nat.le_of_ble_eq_true rfl, Nat.le_of_ble_eq_true rfl⟩ ⟨Nat.zero_le _, Nat.zero_le _⟩ dX10_needType_8 ?_
  refine lv_if_ne (tgt := 25) hx hb dX10_needType_11 (by decide) (fun c2 => ?_) (fun c2 => ?_)
  · have ho := ho c2
    refine lv_aload_n hx hb dX10_needType_25 rfl (lv_at hl 0 rfl) ?_
    refine g_VernierDrawers_10 X hH hk_r dX10_needType_26 ?_
    refine g_VernierDrawers_126 X hH hq1 dX10_needType_29 ?_
    refine g_VernierDrawers_467 X hH (kc_7_0 hq1) dX10_needType_32 ?_
    refine lv_iload_n hx hb dX10_needType_35 rfl (lv_at hl 1 rfl) ?_
    have hq3 := ho
    refine qld_22 X hH (kc_0_22 (kc_7_0 hq1)) hq3 dX10_needType_36 ?_
    exact E _ _ _ dX10_needType_37 (congrArg (ga G) (pr2 ((fX10_needType.eq_1 _ _ _).trans ((if_neg c2).trans rfl))))
  · skip
    exact absurd ((pr1 ((fX10_needType.eq_1 _ _ _).trans ((if_pos c2).trans rfl))).trans hok) (by decide)
theorem kZ_X10_needType {p : Program} {l : Launch} {e : Env} {R : Room} {s : State} {m : MethodId} {args : Array Value} {below : List Frame} {meth : Method} {c : Code} {H : Heap} {locs : List Loc} {cells slots : Nat} {Q : State → Prop} {cc : ByteArray} {pc nL : Nat} {ls : Array Slot} {rest : List Value} {G : gG} {own : String} {da : Nat → Nat} {v : vSt} {x : gX} (X : CX G p s m args c cc nL own) (hS : va_S (gA G) s.heap H locs) (hH : Hp G da v x H) {r : Nat} (hk_r : kd r = 10) {p1 : Int32} (ho : oX10_needType r p1 v) (hok : (fX10_needType r p1 v).1 = 0) {idx : Nat} (hml : Cond.methodLink own idx yX10_needType ∈ TT) (hls : ls.size = nL) (hsum : (rest.map fun v => v.category).sum ≤ 8) (hR : rmZ_X10_needType.frames + 1 ≤ R.frames ∧ 8 + (2 + 11) + rmZ_X10_needType.locals ≤ R.locals) (hcs : cells ≤ R.cells ∧ slots ≤ R.slots) (hdg : decode cc pc = .ok (.invokevirtual idx, 3)) (kk : W p l e R s m args below meth c H locs cells slots Q (F0 m (pc + 3) ls (.ref (ga G ((fX10_needType r p1 v).2)) :: rest))) : W p l e R s m args below meth c H locs cells slots Q (F0 m pc ls (.int p1 :: .ref (ga G r) :: rest)) := c_qr (runV (k := 1) X.1 X.2.1 X.2.2.1 X.2.2.2.1 X.2.2.2.2.1 (mZ_X10_needType l G da v x r hk_r p1 ho hok) pW_bl hml t_im_X10_needType t_sel_X10_needType t_ini_VernierDrawers t_code_X10_needType ⟨rfl, by decide, by decide, by decide +kernel⟩ rfl rfl hR hcs (recvW X hH (by rw [hk_r]; decide) (by rw [hk_r]; decide) (ce_10 hk_r) rfl) (preW X hS hH) rfl hls rfl hsum hdg) (fun _ h => h ▸ kk)
abbrev rmZ_X10_needBlock : Room := { frames := 1, cells := 0, slots := 0, locals := 21 }
set_option maxHeartbeats 8000000 in
set_option maxRecDepth 100000 in
theorem mZ_X10_needBlock (l : Launch) (G : gG) (da : Nat → Nat) (v : vSt) (x : gX) (r : Nat) (hk_r : kd r = 10) (p1 : Int32) (ho : oX10_needBlock r p1 v) (hok : (fX10_needBlock r p1 v).1 = 0) : QR l yX10_needBlock cX10_needBlock 2 (some (.object "VernierDrawers$Block")) rmZ_X10_needBlock [.ref (ga G r), .int p1] (pW G da v x) (ga G ((fX10_needBlock r p1 v).2)) := by
  refine gofQR (own := RX10) (by decide) rfl (Nat.le_of_ble_eq_true rfl) (fun p e s m args below meth c ls Q X hH hl E => ?_)
  have hx := X.1
  have hb := X.2.1
  have hown := X.2.2.2.1
  have hts := X.2.2.2.2.1
  have hS : va_S (gA G) s.heap s.heap [] := va_S.rf
  unfold oX10_needBlock at ho
  have hl : lv_has ls 2 [(0, .ref (ga G r)), (1, .int p1)] := hl
  refine lv_aload_n hx hb dX10_needBlock_0 rfl (lv_at hl 0 rfl) ?_
  refine g_VernierDrawers_10 X hH hk_r dX10_needBlock_1 ?_
  have hq1 := ho.1
  have ho := ho.2
  refine g_VernierDrawers_41 X hH hq1 dX10_needBlock_4 ?_
  refine lv_iload_n hx hb dX10_needBlock_7 rfl (lv_at hl 1 rfl) ?_
  refine k_X2_hasBlock X hS hH (kc_7_2 hq1) t_ml_VernierDrawers_453 hl.1 (Nat.le_of_ble_eq_true rfl) ⟨Nat.le_of_ble_eq_true rfl, Nat.le_of_ble_eq_true rfl⟩ ⟨Nat.zero_le _, Nat.zero_le _⟩ dX10_needBlock_8 ?_
  refine lv_if_ne (tgt := 25) hx hb dX10_needBlock_11 (by decide) (fun c2 => ?_) (fun c2 => ?_)
  · have ho := ho c2
    refine lv_aload_n hx hb dX10_needBlock_25 rfl (lv_at hl 0 rfl) ?_
    refine g_VernierDrawers_10 X hH hk_r dX10_needBlock_26 ?_
    refine g_VernierDrawers_41 X hH hq1 dX10_needBlock_29 ?_
    refine g_VernierDrawers_458 X hH (kc_7_2 hq1) dX10_needBlock_32 ?_
    refine lv_iload_n hx hb dX10_needBlock_35 rfl (lv_at hl 1 rfl) ?_
    have hq3 := ho
    refine qld_21 X hH (kc_2_21 (kc_7_2 hq1)) hq3 dX10_needBlock_36 ?_
    exact E _ _ _ dX10_needBlock_37 (congrArg (ga G) (pr2 ((fX10_needBlock.eq_1 _ _ _).trans ((if_neg c2).trans rfl))))
  · skip
    exact absurd ((pr1 ((fX10_needBlock.eq_1 _ _ _).trans ((if_pos c2).trans rfl))).trans hok) (by decide)
theorem kZ_X10_needBlock {p : Program} {l : Launch} {e : Env} {R : Room} {s : State} {m : MethodId} {args : Array Value} {below : List Frame} {meth : Method} {c : Code} {H : Heap} {locs : List Loc} {cells slots : Nat} {Q : State → Prop} {cc : ByteArray} {pc nL : Nat} {ls : Array Slot} {rest : List Value} {G : gG} {own : String} {da : Nat → Nat} {v : vSt} {x : gX} (X : CX G p s m args c cc nL own) (hS : va_S (gA G) s.heap H locs) (hH : Hp G da v x H) {r : Nat} (hk_r : kd r = 10) {p1 : Int32} (ho : oX10_needBlock r p1 v) (hok : (fX10_needBlock r p1 v).1 = 0) {idx : Nat} (hml : Cond.methodLink own idx yX10_needBlock ∈ TT) (hls : ls.size = nL) (hsum : (rest.map fun v => v.category).sum ≤ 8) (hR : rmZ_X10_needBlock.frames + 1 ≤ R.frames ∧ 8 + (2 + 11) + rmZ_X10_needBlock.locals ≤ R.locals) (hcs : cells ≤ R.cells ∧ slots ≤ R.slots) (hdg : decode cc pc = .ok (.invokevirtual idx, 3)) (kk : W p l e R s m args below meth c H locs cells slots Q (F0 m (pc + 3) ls (.ref (ga G ((fX10_needBlock r p1 v).2)) :: rest))) : W p l e R s m args below meth c H locs cells slots Q (F0 m pc ls (.int p1 :: .ref (ga G r) :: rest)) := c_qr (runV (k := 1) X.1 X.2.1 X.2.2.1 X.2.2.2.1 X.2.2.2.2.1 (mZ_X10_needBlock l G da v x r hk_r p1 ho hok) pW_bl hml t_im_X10_needBlock t_sel_X10_needBlock t_ini_VernierDrawers t_code_X10_needBlock ⟨rfl, by decide, by decide, by decide +kernel⟩ rfl rfl hR hcs (recvW X hH (by rw [hk_r]; decide) (by rw [hk_r]; decide) (ce_10 hk_r) rfl) (preW X hS hH) rfl hls rfl hsum hdg) (fun _ h => h ▸ kk)
abbrev rmZ_X10_needPlace : Room := { frames := 0, cells := 0, slots := 0, locals := 0 }
set_option maxHeartbeats 8000000 in
set_option maxRecDepth 100000 in
theorem mZ_X10_needPlace (l : Launch) (G : gG) (da : Nat → Nat) (v : vSt) (x : gX) (p1 : Int32) (p2 : Int32) (hok : (fX10_needPlace p1 p2 v) = 0) : QV l yX10_needPlace cX10_needPlace 2 none rmZ_X10_needPlace [.int p1, .int p2] (pW G da v x) := by
  refine gofQV (own := RX10) (by decide) rfl (Nat.le_of_ble_eq_true rfl) (fun p e s m args below meth c ls Q X hH hl E => ?_)
  have hx := X.1
  have hb := X.2.1
  have hown := X.2.2.2.1
  have hts := X.2.2.2.2.1
  have hS : va_S (gA G) s.heap s.heap [] := va_S.rf
  have ho : True := trivial
  have hl : lv_has ls 2 [(0, .int p1), (1, .int p2)] := hl
  refine lv_iload_n hx hb dX10_needPlace_0 rfl (lv_at hl 0 rfl) ?_
  refine lv_if_ge (tgt := 15) hx hb dX10_needPlace_1 (by decide) (fun c1 => ?_) (fun c1 => ?_)
  · skip
    refine lv_iload_n hx hb dX10_needPlace_15 rfl (lv_at hl 0 rfl) ?_
    refine lv_iload_n hx hb dX10_needPlace_16 rfl (lv_at hl 1 rfl) ?_
    refine lv_icmp_lt (tgt := 31) hx hb dX10_needPlace_17 (by decide) (fun c2 => ?_) (fun c2 => ?_)
    · skip
      exact E _ _ dX10_needPlace_31
    · skip
      exact absurd ((Eq.symm ((fX10_needPlace.eq_1 _ _ _).trans ((if_pos c1).trans ((if_neg c2).trans rfl)))).trans hok) (by decide)
  · skip
    exact absurd ((Eq.symm ((fX10_needPlace.eq_1 _ _ _).trans ((if_neg c1).trans rfl))).trans hok) (by decide)
theorem kZ_X10_needPlace {p : Program} {l : Launch} {e : Env} {R : Room} {s : State} {m : MethodId} {args : Array Value} {below : List Frame} {meth : Method} {c : Code} {H : Heap} {locs : List Loc} {cells slots : Nat} {Q : State → Prop} {cc : ByteArray} {pc nL : Nat} {ls : Array Slot} {rest : List Value} {G : gG} {own : String} {da : Nat → Nat} {v : vSt} {x : gX} (X : CX G p s m args c cc nL own) (hS : va_S (gA G) s.heap H locs) (hH : Hp G da v x H) {p1 : Int32} {p2 : Int32} (hok : (fX10_needPlace p1 p2 v) = 0) {idx : Nat} (hml : Cond.methodLink own idx yX10_needPlace ∈ TT) (hls : ls.size = nL) (hsum : (rest.map fun v => v.category).sum ≤ 8) (hR : rmZ_X10_needPlace.frames + 1 ≤ R.frames ∧ 8 + (2 + 11) + rmZ_X10_needPlace.locals ≤ R.locals) (hcs : cells ≤ R.cells ∧ slots ≤ R.slots) (hdg : decode cc pc = .ok (.invokestatic idx, 3)) (kk : W p l e R s m args below meth c H locs cells slots Q (F0 m (pc + 3) ls rest)) : W p l e R s m args below meth c H locs cells slots Q (F0 m pc ls (.int p2 :: .int p1 :: rest)) := c_qv (runS (k := 2) X.1 X.2.1 X.2.2.1 X.2.2.2.1 X.2.2.2.2.1 (mZ_X10_needPlace l G da v x p1 p2 hok) pW_bl hml t_st_X10_needPlace t_ini_VernierDrawers t_code_X10_needPlace ⟨by decide, by decide, by decide +kernel⟩ rfl rfl hR hcs (preW X hS hH) rfl hls rfl hsum hdg) kk
abbrev rmZ_X10_needStackLength : Room := { frames := 1, cells := 0, slots := 0, locals := 22 }
set_option maxHeartbeats 8000000 in
set_option maxRecDepth 100000 in
theorem mZ_X10_needStackLength (l : Launch) (G : gG) (da : Nat → Nat) (v : vSt) (x : gX) (p1 : Int32) (hok : (fX10_needStackLength p1 v) = 0) : QV l yX10_needStackLength cX10_needStackLength 1 none rmZ_X10_needStackLength [.int p1] (pW G da v x) := by
  refine gofQV (own := RX10) (by decide) rfl (Nat.le_of_ble_eq_true rfl) (fun p e s m args below meth c ls Q X hH hl E => ?_)
  have hx := X.1
  have hb := X.2.1
  have hown := X.2.2.2.1
  have hts := X.2.2.2.2.1
  have hS : va_S (gA G) s.heap s.heap [] := va_S.rf
  have ho : True := trivial
  have hl : lv_has ls 1 [(0, .int p1)] := hl
  refine lv_iload_n hx hb dX10_needStackLength_0 rfl (lv_at hl 0 rfl) ?_
  refine lv_iconst (v := 1) hx hb dX10_needStackLength_1 (by decide) ?_
  refine lv_sipush (v := 15000) hx hb dX10_needStackLength_2 (by decide) ?_
  refine k_X10_inRange X hS  t_ml_VernierDrawers_49 hl.1 (Nat.le_of_ble_eq_true rfl) ⟨Nat.le_of_ble_eq_true rfl, Nat.le_of_ble_eq_true rfl⟩ ⟨Nat.zero_le _, Nat.zero_le _⟩ dX10_needStackLength_5 ?_
  refine lv_if_ne (tgt := 21) hx hb dX10_needStackLength_8 (by decide) (fun c1 => ?_) (fun c1 => ?_)
  · skip
    exact E _ _ dX10_needStackLength_21
  · skip
    exact absurd ((Eq.symm ((fX10_needStackLength.eq_1 _ _).trans ((if_pos c1).trans rfl))).trans hok) (by decide)
theorem kZ_X10_needStackLength {p : Program} {l : Launch} {e : Env} {R : Room} {s : State} {m : MethodId} {args : Array Value} {below : List Frame} {meth : Method} {c : Code} {H : Heap} {locs : List Loc} {cells slots : Nat} {Q : State → Prop} {cc : ByteArray} {pc nL : Nat} {ls : Array Slot} {rest : List Value} {G : gG} {own : String} {da : Nat → Nat} {v : vSt} {x : gX} (X : CX G p s m args c cc nL own) (hS : va_S (gA G) s.heap H locs) (hH : Hp G da v x H) {p1 : Int32} (hok : (fX10_needStackLength p1 v) = 0) {idx : Nat} (hml : Cond.methodLink own idx yX10_needStackLength ∈ TT) (hls : ls.size = nL) (hsum : (rest.map fun v => v.category).sum ≤ 8) (hR : rmZ_X10_needStackLength.frames + 1 ≤ R.frames ∧ 8 + (1 + 11) + rmZ_X10_needStackLength.locals ≤ R.locals) (hcs : cells ≤ R.cells ∧ slots ≤ R.slots) (hdg : decode cc pc = .ok (.invokestatic idx, 3)) (kk : W p l e R s m args below meth c H locs cells slots Q (F0 m (pc + 3) ls rest)) : W p l e R s m args below meth c H locs cells slots Q (F0 m pc ls (.int p1 :: rest)) := c_qv (runS (k := 1) X.1 X.2.1 X.2.2.1 X.2.2.2.1 X.2.2.2.2.1 (mZ_X10_needStackLength l G da v x p1 hok) pW_bl hml t_st_X10_needStackLength t_ini_VernierDrawers t_code_X10_needStackLength ⟨by decide, by decide, by decide +kernel⟩ rfl rfl hR hcs (preW X hS hH) rfl hls rfl hsum hdg) kk
abbrev rmZ_X10_needReading : Room := { frames := 4, cells := 0, slots := 0, locals := 92 }
set_option maxHeartbeats 8000000 in
set_option maxRecDepth 100000 in
theorem mZ_X10_needReading (l : Launch) (G : gG) (da : Nat → Nat) (v : vSt) (x : gX) (r : Nat) (hk_r : kd r = 10) (p1 : Int32) (p2 : Int32) (p3 : Int32) (ho : oX10_needReading r p1 p2 p3 v) (hok : (fX10_needReading r p1 p2 p3 v).1 = 0) : QI l yX10_needReading cX10_needReading 5 (some .int) rmZ_X10_needReading [.ref (ga G r), .int p1, .int p2, .int p3] (pW G da v x) ((fX10_needReading r p1 p2 p3 v).2) := by
  refine gofQ (own := RX10) (by decide) rfl (Nat.le_of_ble_eq_true rfl) (fun p e s m args below meth c ls Q X hH hl E => ?_)
  have hx := X.1
  have hb := X.2.1
  have hown := X.2.2.2.1
  have hts := X.2.2.2.2.1
  have hS : va_S (gA G) s.heap s.heap [] := va_S.rf
  unfold oX10_needReading at ho
  have hl : lv_has ls 5 [(0, .ref (ga G r)), (1, .int p1), (2, .int p2), (3, .int p3)] := hl
  refine lv_aload_n hx hb dX10_needReading_0 rfl (lv_at hl 0 rfl) ?_
  refine g_VernierDrawers_10 X hH hk_r dX10_needReading_1 ?_
  have hq1 := ho.1
  have ho := ho.2
  refine g_VernierDrawers_41 X hH hq1 dX10_needReading_4 ?_
  refine lv_iload_n hx hb dX10_needReading_7 rfl (lv_at hl 1 rfl) ?_
  refine lv_iload_n hx hb dX10_needReading_8 rfl (lv_at hl 2 rfl) ?_
  refine lv_iload_n hx hb dX10_needReading_9 rfl (lv_at hl 3 rfl) ?_
  refine k_X2_refusalToMeasure X hS hH (kc_7_2 hq1) t_ml_VernierDrawers_93 hl.1 (Nat.le_of_ble_eq_true rfl) ⟨Nat.le_of_ble_eq_true rfl, Nat.le_of_ble_eq_true rfl⟩ ⟨Nat.zero_le _, Nat.zero_le _⟩ dX10_needReading_10 ?_
  refine lv_istore (lv' := [(4, .int (fX2_refusalToMeasure ((rN (v r 0)) + 1) p1 p2 p3 v)), (0, .ref (ga G r)), (1, .int p1), (2, .int p2), (3, .int p3)]) hx hb dX10_needReading_13 hl (by decide) rfl (fun ls hl => ?_)
  refine lv_iload hx hb dX10_needReading_15 (lv_at hl 0 rfl) ?_
  refine lv_iconst (v := 1) hx hb dX10_needReading_17 (by decide) ?_
  refine lv_icmp_ne (tgt := 32) hx hb dX10_needReading_18 (by decide) (fun c2 => ?_) (fun c2 => ?_)
  · have ho := ho c2
    refine lv_iload hx hb dX10_needReading_32 (lv_at hl 0 rfl) ?_
    refine lv_iconst (v := 2) hx hb dX10_needReading_34 (by decide) ?_
    refine lv_icmp_ne (tgt := 49) hx hb dX10_needReading_35 (by decide) (fun c3 => ?_) (fun c3 => ?_)
    · have ho := ho c3
      refine lv_aload_n hx hb dX10_needReading_49 rfl (lv_at hl 1 rfl) ?_
      refine g_VernierDrawers_10 X hH hk_r dX10_needReading_50 ?_
      refine g_VernierDrawers_41 X hH hq1 dX10_needReading_53 ?_
      refine lv_aload_n hx hb dX10_needReading_56 rfl (lv_at hl 1 rfl) ?_
      refine lv_iload_n hx hb dX10_needReading_57 rfl (lv_at hl 2 rfl) ?_
      have hq4 := ho.1
      have ho := ho.2
      have c5 : (fX10_needTool r p1 v).1 = 0 := Decidable.byContradiction (fun c5 => c5 ((pr1 ((fX10_needReading.eq_1 _ _ _ _ _).trans ((if_neg c2).trans ((if_neg c3).trans ((if_neg c5).trans rfl))))).trans hok))
      refine kZ_X10_needTool X hS hH hk_r hq4 c5 t_ml_VernierDrawers_181 hl.1 (Nat.le_of_ble_eq_true rfl) ⟨Nat.le_of_ble_eq_true rfl, Nat.le_of_ble_eq_true rfl⟩ ⟨Nat.zero_le _, Nat.zero_le _⟩ dX10_needReading_58 ?_
      have ho := ho c5
      have hq6 := ho
      refine lv_iload_n hx hb dX10_needReading_61 rfl (lv_at hl 3 rfl) ?_
      refine lv_iload_n hx hb dX10_needReading_62 rfl (lv_at hl 4 rfl) ?_
      refine k_X2_reading X hS hH (kc_7_2 hq1) hq6 t_ml_VernierDrawers_481 hl.1 (Nat.le_of_ble_eq_true rfl) ⟨Nat.le_of_ble_eq_true rfl, Nat.le_of_ble_eq_true rfl⟩ ⟨Nat.zero_le _, Nat.zero_le _⟩ dX10_needReading_63 ?_
      exact E _ _ _ dX10_needReading_66 rfl (pr2 ((fX10_needReading.eq_1 _ _ _ _ _).trans ((if_neg c2).trans ((if_neg c3).trans ((if_pos c5).trans rfl)))))
    · skip
      exact absurd ((pr1 ((fX10_needReading.eq_1 _ _ _ _ _).trans ((if_neg c2).trans ((if_pos c3).trans rfl)))).trans hok) (by decide)
  · skip
    exact absurd ((pr1 ((fX10_needReading.eq_1 _ _ _ _ _).trans ((if_pos c2).trans rfl))).trans hok) (by decide)
theorem kZ_X10_needReading {p : Program} {l : Launch} {e : Env} {R : Room} {s : State} {m : MethodId} {args : Array Value} {below : List Frame} {meth : Method} {c : Code} {H : Heap} {locs : List Loc} {cells slots : Nat} {Q : State → Prop} {cc : ByteArray} {pc nL : Nat} {ls : Array Slot} {rest : List Value} {G : gG} {own : String} {da : Nat → Nat} {v : vSt} {x : gX} (X : CX G p s m args c cc nL own) (hS : va_S (gA G) s.heap H locs) (hH : Hp G da v x H) {r : Nat} (hk_r : kd r = 10) {p1 : Int32} {p2 : Int32} {p3 : Int32} (ho : oX10_needReading r p1 p2 p3 v) (hok : (fX10_needReading r p1 p2 p3 v).1 = 0) {idx : Nat} (hml : Cond.methodLink own idx yX10_needReading ∈ TT) (hls : ls.size = nL) (hsum : (rest.map fun v => v.category).sum ≤ 8) (hR : rmZ_X10_needReading.frames + 1 ≤ R.frames ∧ 8 + (5 + 11) + rmZ_X10_needReading.locals ≤ R.locals) (hcs : cells ≤ R.cells ∧ slots ≤ R.slots) (hdg : decode cc pc = .ok (.invokevirtual idx, 3)) (kk : W p l e R s m args below meth c H locs cells slots Q (F0 m (pc + 3) ls (.int ((fX10_needReading r p1 p2 p3 v).2) :: rest))) : W p l e R s m args below meth c H locs cells slots Q (F0 m pc ls (.int p3 :: .int p2 :: .int p1 :: .ref (ga G r) :: rest)) := c_qi (runV (k := 3) X.1 X.2.1 X.2.2.1 X.2.2.2.1 X.2.2.2.2.1 (mZ_X10_needReading l G da v x r hk_r p1 p2 p3 ho hok) pW_bl hml t_im_X10_needReading t_sel_X10_needReading t_ini_VernierDrawers t_code_X10_needReading ⟨rfl, by decide, by decide, by decide +kernel⟩ rfl rfl hR hcs (recvW X hH (by rw [hk_r]; decide) (by rw [hk_r]; decide) (ce_10 hk_r) rfl) (preW X hS hH) rfl hls rfl hsum hdg) (fun _ h => h ▸ kk)
