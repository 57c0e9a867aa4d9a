/-! 17.model -/
def fX11_toldOfBlock (r : Nat) (p1 : Int32) (p2 : Int32) (v : vSt) : Int32 × vSt := let v3 : vSt := (fX11_asks r (fX11_in p1 0 ((v 462 (204 : Int32).toNatClampNeg) - 1)) v).2; if (((fX11_asks r (fX11_in p1 0 ((v 462 (204 : Int32).toNatClampNeg) - 1)) v).1) : Int32) = 0 then ((0, v3)) else ((fX11_block r p1 p2 v3, v3))
def oX11_toldOfBlock (r : Nat) (p1 : Int32) (p2 : Int32) (v : vSt) : Prop := (vp_in (204) (mlen 462)) ∧ ((oX11_asks r (fX11_in p1 0 ((v 462 (204 : Int32).toNatClampNeg) - 1)) v) ∧ (∀ v3 : vSt, v3 = ((fX11_asks r (fX11_in p1 0 ((v 462 (204 : Int32).toNatClampNeg) - 1)) v).2) → (¬ ((((fX11_asks r (fX11_in p1 0 ((v 462 (204 : Int32).toNatClampNeg) - 1)) v).1) : Int32) = 0) → (oX11_block r p1 p2 v3))))
abbrev rmX11_toldOfBlock : Room := { frames := 1, cells := 0, slots := 0, locals := 22 }
theorem dX11_toldOfBlock_0 : decode cX11_toldOfBlock 0 = .ok (.aload_n 0, 1) := by decide +kernel
theorem dX11_toldOfBlock_1 : decode cX11_toldOfBlock 1 = .ok (.iload_n 1, 1) := by decide +kernel
theorem dX11_toldOfBlock_2 : decode cX11_toldOfBlock 2 = .ok (.iconst 0, 1) := by decide +kernel
theorem dX11_toldOfBlock_3 : decode cX11_toldOfBlock 3 = .ok (.aload_n 0, 1) := by decide +kernel
theorem dX11_toldOfBlock_4 : decode cX11_toldOfBlock 4 = .ok (.getfield 7, 3) := by decide +kernel
theorem dX11_toldOfBlock_7 : decode cX11_toldOfBlock 7 = .ok (.sipush 204, 3) := by decide +kernel
theorem dX11_toldOfBlock_10 : decode cX11_toldOfBlock 10 = .ok (.iaload, 1) := by decide +kernel
theorem dX11_toldOfBlock_11 : decode cX11_toldOfBlock 11 = .ok (.iconst 1, 1) := by decide +kernel
theorem dX11_toldOfBlock_12 : decode cX11_toldOfBlock 12 = .ok (.isub, 1) := by decide +kernel
theorem dX11_toldOfBlock_13 : decode cX11_toldOfBlock 13 = .ok (.invokestatic 49, 3) := by decide +kernel
theorem dX11_toldOfBlock_16 : decode cX11_toldOfBlock 16 = .ok (.invokevirtual 214, 3) := by decide +kernel
theorem dX11_toldOfBlock_19 : decode cX11_toldOfBlock 19 = .ok (.ifCond .eq 12, 3) := by decide +kernel
theorem dX11_toldOfBlock_22 : decode cX11_toldOfBlock 22 = .ok (.aload_n 0, 1) := by decide +kernel
theorem dX11_toldOfBlock_23 : decode cX11_toldOfBlock 23 = .ok (.iload_n 1, 1) := by decide +kernel
theorem dX11_toldOfBlock_24 : decode cX11_toldOfBlock 24 = .ok (.iload_n 2, 1) := by decide +kernel
theorem dX11_toldOfBlock_25 : decode cX11_toldOfBlock 25 = .ok (.invokevirtual 71, 3) := by decide +kernel
theorem dX11_toldOfBlock_28 : decode cX11_toldOfBlock 28 = .ok (.goto 4, 3) := by decide +kernel
theorem dX11_toldOfBlock_31 : decode cX11_toldOfBlock 31 = .ok (.iconst 0, 1) := by decide +kernel
theorem dX11_toldOfBlock_32 : decode cX11_toldOfBlock 32 = .ok (.ireturn, 1) := by decide +kernel
set_option maxHeartbeats 8000000 in
set_option maxRecDepth 100000 in
theorem mX11_toldOfBlock (l : Launch) (G : gG) (da : Nat → Nat) (v : vSt) (x : gX) (r : Nat) (hk_r : kd r = 11) (p1 : Int32) (p2 : Int32) (ho : oX11_toldOfBlock r p1 p2 v) : MI l yX11_toldOfBlock cX11_toldOfBlock 3 (some .int) rmX11_toldOfBlock [.ref (ga G r), .int p1, .int p2] G da v x 0 0 (fX11_toldOfBlock r p1 p2 v).1 (fX11_toldOfBlock r p1 p2 v).2 x := by
  refine gofMI (own := RX11) (by decide) rfl (Nat.le_of_ble_eq_true rfl) (fun p e s m args below meth c ls Q X hH hl E => ?_)
  have hx := X.1
  have hb := X.2.1
  have hown := X.2.2.2.1
  have hts := X.2.2.2.2.1
  have hS : va_S (gA G) s.heap s.heap [] := va_S.rf
  unfold oX11_toldOfBlock at ho
  have hl : lv_has ls 3 [(0, .ref (ga G r)), (1, .int p1), (2, .int p2)] := hl
  refine lv_aload_n hx hb dX11_toldOfBlock_0 rfl (lv_at hl 0 rfl) ?_
  refine lv_iload_n hx hb dX11_toldOfBlock_1 rfl (lv_at hl 1 rfl) ?_
  refine lv_iconst (v := 0) hx hb dX11_toldOfBlock_2 (by decide) ?_
  refine lv_aload_n hx hb dX11_toldOfBlock_3 rfl (lv_at hl 0 rfl) ?_
  refine g_VernierDrawersModel_7 X hH hk_r dX11_toldOfBlock_4 ?_
  refine lv_sipush (v := 204) hx hb dX11_toldOfBlock_7 (by decide) ?_
  have hq1 := ho.1
  have ho := ho.2
  refine ald_M X hH (Or.inl kd_462) hq1 dX11_toldOfBlock_10 ?_
  refine lv_iconst (v := 1) hx hb dX11_toldOfBlock_11 (by decide) ?_
  refine lv_isub hx hb dX11_toldOfBlock_12 ?_
  refine k_X11_in X hS  t_ml_VernierDrawersModel_49 hl.1 (Nat.le_of_ble_eq_true rfl) ⟨Nat.le_of_ble_eq_true rfl, Nat.le_of_ble_eq_true rfl⟩ ⟨Nat.zero_le _, Nat.zero_le _⟩ dX11_toldOfBlock_13 ?_
  have hq2 := ho.1
  have ho := ho.2
  refine k_X11_asks X hS hH hk_r hq2 t_ml_VernierDrawersModel_214 hl.1 (Nat.le_of_ble_eq_true rfl) ⟨Nat.le_of_ble_eq_true rfl, Nat.le_of_ble_eq_true rfl⟩ ⟨Nat.zero_le _, Nat.zero_le _⟩ dX11_toldOfBlock_16 (fun da H locs v3 ev3 hH hS => ?_)
  have ho := ho v3 ev3
  refine lv_if_eq (tgt := 31) hx hb dX11_toldOfBlock_19 (by decide) (fun c4 => ?_) (fun c4 => ?_)
  · skip
    refine lv_iconst (v := 0) hx hb dX11_toldOfBlock_31 (by decide) ?_
    replace ev3 := Eq.symm ev3
    subst ev3
    exact E _ _ _ _ _ _ _ _ _ dX11_toldOfBlock_32 rfl (pr1 ((fX11_toldOfBlock.eq_1 _ _ _ _).trans ((if_pos c4).trans rfl))) (pr2 ((fX11_toldOfBlock.eq_1 _ _ _ _).trans ((if_pos c4).trans rfl))) hH hS (Nat.zero_le _) (Nat.zero_le _)
  · have ho := ho c4
    refine lv_aload_n hx hb dX11_toldOfBlock_22 rfl (lv_at hl 0 rfl) ?_
    refine lv_iload_n hx hb dX11_toldOfBlock_23 rfl (lv_at hl 1 rfl) ?_
    refine lv_iload_n hx hb dX11_toldOfBlock_24 rfl (lv_at hl 2 rfl) ?_
    have hq5 := ho
    refine k_X11_block X hS hH hk_r hq5 t_ml_VernierDrawersModel_71 hl.1 (Nat.le_of_ble_eq_true rfl) ⟨Nat.le_of_ble_eq_true rfl, Nat.le_of_ble_eq_true rfl⟩ ⟨Nat.zero_le _, Nat.zero_le _⟩ dX11_toldOfBlock_25 ?_
    refine lv_goto (tgt := 32) hx hb dX11_toldOfBlock_28 (by decide) ?_
    replace ev3 := Eq.symm ev3
    subst ev3
    exact E _ _ _ _ _ _ _ _ _ dX11_toldOfBlock_32 rfl (pr1 ((fX11_toldOfBlock.eq_1 _ _ _ _).trans ((if_neg c4).trans rfl))) (pr2 ((fX11_toldOfBlock.eq_1 _ _ _ _).trans ((if_neg c4).trans rfl))) hH hS (Nat.zero_le _) (Nat.zero_le _)
theorem k_X11_toldOfBlock {p : Program} {l : Launch} {e : Env} {R : Room} {s : State} {m : MethodId} {args : Array Value} {below : List Frame} {meth : Method} {c : Code} {H : Heap} {locs : List Loc} {cells slots : Nat} {Q : State → Prop} {cc : ByteArray} {pc nL : Nat} {ls : Array Slot} {rest : List Value} {G : gG} {own : String} {da : Nat → Nat} {v : vSt} {x : gX} (X : CX G p s m args c cc nL own) (hS : va_S (gA G) s.heap H locs) (hH : Hp G da v x H) {r : Nat} (hk_r : kd r = 11) {p1 : Int32} {p2 : Int32} (ho : oX11_toldOfBlock r p1 p2 v) {idx : Nat} (hml : Cond.methodLink own idx yX11_toldOfBlock ∈ TT) (hls : ls.size = nL) (hsum : (rest.map fun v => v.category).sum ≤ 8) (hR : rmX11_toldOfBlock.frames + 1 ≤ R.frames ∧ 8 + (3 + 11) + rmX11_toldOfBlock.locals ≤ R.locals) (hcs : cells ≤ R.cells ∧ slots ≤ R.slots) (hdg : decode cc pc = .ok (.invokevirtual idx, 3)) (kk : ∀ (d : Nat → Nat) (H1 : Heap) (locs1 : List Loc) (v1 : vSt), v1 = (fX11_toldOfBlock r p1 p2 v).2 → Hp G d v1 x H1 → va_S (gA G) s.heap H1 locs1 → W p l e R s m args below meth c H1 locs1 cells slots Q (F0 m (pc + 3) ls (.int (fX11_toldOfBlock r p1 p2 v).1 :: rest))) : W p l e R s m args below meth c H locs cells slots Q (F0 m pc ls (.int p2 :: .int p1 :: .ref (ga G r) :: rest)) := c_mi X.2.2.2.2.2.2 (runV (k := 2) X.1 X.2.1 X.2.2.1 X.2.2.2.1 X.2.2.2.2.1 (mX11_toldOfBlock l G da v x r hk_r p1 p2 ho) pW_bl hml t_im_X11_toldOfBlock t_sel_X11_toldOfBlock t_ini_VernierDrawersModel t_code_X11_toldOfBlock ⟨rfl, by decide, by decide, by decide +kernel⟩ rfl rfl hR hcs (recvW X hH (by rw [hk_r]; decide) (by rw [hk_r]; decide) (ce_11 hk_r) rfl) (preW X hS hH) rfl hls rfl hsum hdg) hS kk
def fX11_blocks (r : Nat) (v : vSt) : Int32 × vSt := let v2 : vSt := (fX11_account r 204 v).2; ((fX11_account r 204 v).1, v2)
def oX11_blocks (r : Nat) (v : vSt) : Prop := oX11_account r 204 v
abbrev rmX11_blocks : Room := { frames := 1, cells := 0, slots := 0, locals := 21 }
theorem dX11_blocks_0 : decode cX11_blocks 0 = .ok (.aload_n 0, 1) := by decide +kernel
theorem dX11_blocks_1 : decode cX11_blocks 1 = .ok (.sipush 204, 3) := by decide +kernel
theorem dX11_blocks_4 : decode cX11_blocks 4 = .ok (.invokevirtual 218, 3) := by decide +kernel
theorem dX11_blocks_7 : decode cX11_blocks 7 = .ok (.ireturn, 1) := by decide +kernel
set_option maxHeartbeats 8000000 in
set_option maxRecDepth 100000 in
theorem mX11_blocks (l : Launch) (G : gG) (da : Nat → Nat) (v : vSt) (x : gX) (r : Nat) (hk_r : kd r = 11) (ho : oX11_blocks r v) : MI l yX11_blocks cX11_blocks 1 (some .int) rmX11_blocks [.ref (ga G r)] G da v x 0 0 (fX11_blocks r v).1 (fX11_blocks r v).2 x := by
  refine gofMI (own := RX11) (by decide) rfl (Nat.le_of_ble_eq_true rfl) (fun p e s m args below meth c ls Q X hH hl E => ?_)
  have hx := X.1
  have hb := X.2.1
  have hown := X.2.2.2.1
  have hts := X.2.2.2.2.1
  have hS : va_S (gA G) s.heap s.heap [] := va_S.rf
  unfold oX11_blocks at ho
  have hl : lv_has ls 1 [(0, .ref (ga G r))] := hl
  refine lv_aload_n hx hb dX11_blocks_0 rfl (lv_at hl 0 rfl) ?_
  refine lv_sipush (v := 204) hx hb dX11_blocks_1 (by decide) ?_
  have hq1 := ho
  refine k_X11_account X hS hH hk_r hq1 t_ml_VernierDrawersModel_218 hl.1 (Nat.le_of_ble_eq_true rfl) ⟨Nat.le_of_ble_eq_true rfl, Nat.le_of_ble_eq_true rfl⟩ ⟨Nat.zero_le _, Nat.zero_le _⟩ dX11_blocks_4 (fun da H locs v2 ev2 hH hS => ?_)
  replace ev2 := Eq.symm ev2
  subst ev2
  exact E _ _ _ _ _ _ _ _ _ dX11_blocks_7 rfl (pr1 rfl) (pr2 rfl) hH hS (Nat.zero_le _) (Nat.zero_le _)
theorem k_X11_blocks {p : Program} {l : Launch} {e : Env} {R : Room} {s : State} {m : MethodId} {args : Array Value} {below : List Frame} {meth : Method} {c : Code} {H : Heap} {locs : List Loc} {cells slots : Nat} {Q : State → Prop} {cc : ByteArray} {pc nL : Nat} {ls : Array Slot} {rest : List Value} {G : gG} {own : String} {da : Nat → Nat} {v : vSt} {x : gX} (X : CX G p s m args c cc nL own) (hS : va_S (gA G) s.heap H locs) (hH : Hp G da v x H) {r : Nat} (hk_r : kd r = 11) (ho : oX11_blocks r v) {idx : Nat} (hml : Cond.methodLink own idx yX11_blocks ∈ TT) (hls : ls.size = nL) (hsum : (rest.map fun v => v.category).sum ≤ 8) (hR : rmX11_blocks.frames + 1 ≤ R.frames ∧ 8 + (1 + 11) + rmX11_blocks.locals ≤ R.locals) (hcs : cells ≤ R.cells ∧ slots ≤ R.slots) (hdg : decode cc pc = .ok (.invokevirtual idx, 3)) (kk : ∀ (d : Nat → Nat) (H1 : Heap) (locs1 : List Loc) (v1 : vSt), v1 = (fX11_blocks r v).2 → Hp G d v1 x H1 → va_S (gA G) s.heap H1 locs1 → W p l e R s m args below meth c H1 locs1 cells slots Q (F0 m (pc + 3) ls (.int (fX11_blocks r v).1 :: rest))) : W p l e R s m args below meth c H locs cells slots Q (F0 m pc ls (.ref (ga G r) :: rest)) := c_mi X.2.2.2.2.2.2 (runV (k := 0) X.1 X.2.1 X.2.2.1 X.2.2.2.1 X.2.2.2.2.1 (mX11_blocks l G da v x r hk_r ho) pW_bl hml t_im_X11_blocks t_sel_X11_blocks t_ini_VernierDrawersModel t_code_X11_blocks ⟨rfl, by decide, by decide, by decide +kernel⟩ rfl rfl hR hcs (recvW X hH (by rw [hk_r]; decide) (by rw [hk_r]; decide) (ce_11 hk_r) rfl) (preW X hS hH) rfl hls rfl hsum hdg) hS kk
def fX11_blockLength (r : Nat) (p1 : Int32) (v : vSt) : Int32 × vSt := let v2 : vSt := (fX11_toldOfBlock r p1 0 v).2; ((fX11_toldOfBlock r p1 0 v).1, v2)
def oX11_blockLength (r : Nat) (p1 : Int32) (v : vSt) : Prop := oX11_toldOfBlock r p1 0 v
abbrev rmX11_blockLength : Room := { frames := 2, cells := 0, slots := 0, locals := 44 }
theorem dX11_blockLength_0 : decode cX11_blockLength 0 = .ok (.aload_n 0, 1) := by decide +kernel
theorem dX11_blockLength_1 : decode cX11_blockLength 1 = .ok (.iload_n 1, 1) := by decide +kernel
theorem dX11_blockLength_2 : decode cX11_blockLength 2 = .ok (.iconst 0, 1) := by decide +kernel
theorem dX11_blockLength_3 : decode cX11_blockLength 3 = .ok (.invokevirtual 230, 3) := by decide +kernel
theorem dX11_blockLength_6 : decode cX11_blockLength 6 = .ok (.ireturn, 1) := by decide +kernel
set_option maxHeartbeats 8000000 in
set_option maxRecDepth 100000 in
theorem mX11_blockLength (l : Launch) (G : gG) (da : Nat → Nat) (v : vSt) (x : gX) (r : Nat) (hk_r : kd r = 11) (p1 : Int32) (ho : oX11_blockLength r p1 v) : MI l yX11_blockLength cX11_blockLength 2 (some .int) rmX11_blockLength [.ref (ga G r), .int p1] G da v x 0 0 (fX11_blockLength r p1 v).1 (fX11_blockLength r p1 v).2 x := by
  refine gofMI (own := RX11) (by decide) rfl (Nat.le_of_ble_eq_true rfl) (fun p e s m args below meth c ls Q X hH hl E => ?_)
  have hx := X.1
  have hb := X.2.1
  have hown := X.2.2.2.1
  have hts := X.2.2.2.2.1
  have hS : va_S (gA G) s.heap s.heap [] := va_S.rf
  unfold oX11_blockLength at ho
  have hl : lv_has ls 2 [(0, .ref (ga G r)), (1, .int p1)] := hl
  refine lv_aload_n hx hb dX11_blockLength_0 rfl (lv_at hl 0 rfl) ?_
  refine lv_iload_n hx hb dX11_blockLength_1 rfl (lv_at hl 1 rfl) ?_
  refine lv_iconst (v := 0) hx hb dX11_blockLength_2 (by decide) ?_
  have hq1 := ho
  refine k_X11_toldOfBlock X hS hH hk_r hq1 t_ml_VernierDrawersModel_230 hl.1 (Nat.le_of_ble_eq_true rfl) ⟨Nat.le_of_ble_eq_true rfl, Nat.le_of_ble_eq_true rfl⟩ ⟨Nat.zero_le _, Nat.zero_le _⟩ dX11_blockLength_3 (fun da H locs v2 ev2 hH hS => ?_)
  replace ev2 := Eq.symm ev2
  subst ev2
  exact E _ _ _ _ _ _ _ _ _ dX11_blockLength_6 rfl (pr1 rfl) (pr2 rfl) hH hS (Nat.zero_le _) (Nat.zero_le _)
theorem k_X11_blockLength {p : Program} {l : Launch} {e : Env} {R : Room} {s : State} {m : MethodId} {args : Array Value} {below : List Frame} {meth : Method} {c : Code} {H : Heap} {locs : List Loc} {cells slots : Nat} {Q : State → Prop} {cc : ByteArray} {pc nL : Nat} {ls : Array Slot} {rest : List Value} {G : gG} {own : String} {da : Nat → Nat} {v : vSt} {x : gX} (X : CX G p s m args c cc nL own) (hS : va_S (gA G) s.heap H locs) (hH : Hp G da v x H) {r : Nat} (hk_r : kd r = 11) {p1 : Int32} (ho : oX11_blockLength r p1 v) {idx : Nat} (hml : Cond.methodLink own idx yX11_blockLength ∈ TT) (hls : ls.size = nL) (hsum : (rest.map fun v => v.category).sum ≤ 8) (hR : rmX11_blockLength.frames + 1 ≤ R.frames ∧ 8 + (2 + 11) + rmX11_blockLength.locals ≤ R.locals) (hcs : cells ≤ R.cells ∧ slots ≤ R.slots) (hdg : decode cc pc = .ok (.invokevirtual idx, 3)) (kk : ∀ (d : Nat → Nat) (H1 : Heap) (locs1 : List Loc) (v1 : vSt), v1 = (fX11_blockLength r p1 v).2 → Hp G d v1 x H1 → va_S (gA G) s.heap H1 locs1 → W p l e R s m args below meth c H1 locs1 cells slots Q (F0 m (pc + 3) ls (.int (fX11_blockLength r p1 v).1 :: rest))) : W p l e R s m args below meth c H locs cells slots Q (F0 m pc ls (.int p1 :: .ref (ga G r) :: rest)) := c_mi X.2.2.2.2.2.2 (runV (k := 1) X.1 X.2.1 X.2.2.1 X.2.2.2.1 X.2.2.2.2.1 (mX11_blockLength l G da v x r hk_r p1 ho) pW_bl hml t_im_X11_blockLength t_sel_X11_blockLength t_ini_VernierDrawersModel t_code_X11_blockLength ⟨rfl, by decide, by decide, by decide +kernel⟩ rfl rfl hR hcs (recvW X hH (by rw [hk_r]; decide) (by rw [hk_r]; decide) (ce_11 hk_r) rfl) (preW X hS hH) rfl hls rfl hsum hdg) hS kk
def fX11_blockError (r : Nat) (p1 : Int32) (v : vSt) : Int32 × vSt := let v2 : vSt := (fX11_toldOfBlock r p1 1 v).2; ((fX11_toldOfBlock r p1 1 v).1, v2)
def oX11_blockError (r : Nat) (p1 : Int32) (v : vSt) : Prop := oX11_toldOfBlock r p1 1 v
abbrev rmX11_blockError : Room := { frames := 2, cells := 0, slots := 0, locals := 44 }
theorem dX11_blockError_0 : decode cX11_blockError 0 = .ok (.aload_n 0, 1) := by decide +kernel
theorem dX11_blockError_1 : decode cX11_blockError 1 = .ok (.iload_n 1, 1) := by decide +kernel
theorem dX11_blockError_2 : decode cX11_blockError 2 = .ok (.iconst 1, 1) := by decide +kernel
theorem dX11_blockError_3 : decode cX11_blockError 3 = .ok (.invokevirtual 230, 3) := by decide +kernel
theorem dX11_blockError_6 : decode cX11_blockError 6 = .ok (.ireturn, 1) := by decide +kernel
set_option maxHeartbeats 8000000 in
set_option maxRecDepth 100000 in
theorem mX11_blockError (l : Launch) (G : gG) (da : Nat → Nat) (v : vSt) (x : gX) (r : Nat) (hk_r : kd r = 11) (p1 : Int32) (ho : oX11_blockError r p1 v) : MI l yX11_blockError cX11_blockError 2 (some .int) rmX11_blockError [.ref (ga G r), .int p1] G da v x 0 0 (fX11_blockError r p1 v).1 (fX11_blockError r p1 v).2 x := by
  refine gofMI (own := RX11) (by decide) rfl (Nat.le_of_ble_eq_true rfl) (fun p e s m args below meth c ls Q X hH hl E => ?_)
  have hx := X.1
  have hb := X.2.1
  have hown := X.2.2.2.1
  have hts := X.2.2.2.2.1
  have hS : va_S (gA G) s.heap s.heap [] := va_S.rf
  unfold oX11_blockError at ho
  have hl : lv_has ls 2 [(0, .ref (ga G r)), (1, .int p1)] := hl
  refine lv_aload_n hx hb dX11_blockError_0 rfl (lv_at hl 0 rfl) ?_
  refine lv_iload_n hx hb dX11_blockError_1 rfl (lv_at hl 1 rfl) ?_
  refine lv_iconst (v := 1) hx hb dX11_blockError_2 (by decide) ?_
  have hq1 := ho
  refine k_X11_toldOfBlock X hS hH hk_r hq1 t_ml_VernierDrawersModel_230 hl.1 (Nat.le_of_ble_eq_true rfl) ⟨Nat.le_of_ble_eq_true rfl, Nat.le_of_ble_eq_true rfl⟩ ⟨Nat.zero_le _, Nat.zero_le _⟩ dX11_blockError_3 (fun da H locs v2 ev2 hH hS => ?_)
  replace ev2 := Eq.symm ev2
  subst ev2
  exact E _ _ _ _ _ _ _ _ _ dX11_blockError_6 rfl (pr1 rfl) (pr2 rfl) hH hS (Nat.zero_le _) (Nat.zero_le _)
theorem k_X11_blockError {p : Program} {l : Launch} {e : Env} {R : Room} {s : State} {m : MethodId} {args : Array Value} {below : List Frame} {meth : Method} {c : Code} {H : Heap} {locs : List Loc} {cells slots : Nat} {Q : State → Prop} {cc : ByteArray} {pc nL : Nat} {ls : Array Slot} {rest : List Value} {G : gG} {own : String} {da : Nat → Nat} {v : vSt} {x : gX} (X : CX G p s m args c cc nL own) (hS : va_S (gA G) s.heap H locs) (hH : Hp G da v x H) {r : Nat} (hk_r : kd r = 11) {p1 : Int32} (ho : oX11_blockError r p1 v) {idx : Nat} (hml : Cond.methodLink own idx yX11_blockError ∈ TT) (hls : ls.size = nL) (hsum : (rest.map fun v => v.category).sum ≤ 8) (hR : rmX11_blockError.frames + 1 ≤ R.frames ∧ 8 + (2 + 11) + rmX11_blockError.locals ≤ R.locals) (hcs : cells ≤ R.cells ∧ slots ≤ R.slots) (hdg : decode cc pc = .ok (.invokevirtual idx, 3)) (kk : ∀ (d : Nat → Nat) (H1 : Heap) (locs1 : List Loc) (v1 : vSt), v1 = (fX11_blockError r p1 v).2 → Hp G d v1 x H1 → va_S (gA G) s.heap H1 locs1 → W p l e R s m args below meth c H1 locs1 cells slots Q (F0 m (pc + 3) ls (.int (fX11_blockError r p1 v).1 :: rest))) : W p l e R s m args below meth c H locs cells slots Q (F0 m pc ls (.int p1 :: .ref (ga G r) :: rest)) := c_mi X.2.2.2.2.2.2 (runV (k := 1) X.1 X.2.1 X.2.2.1 X.2.2.2.1 X.2.2.2.2.1 (mX11_blockError l G da v x r hk_r p1 ho) pW_bl hml t_im_X11_blockError t_sel_X11_blockError t_ini_VernierDrawersModel t_code_X11_blockError ⟨rfl, by decide, by decide, by decide +kernel⟩ rfl rfl hR hcs (recvW X hH (by rw [hk_r]; decide) (by rw [hk_r]; decide) (ce_11 hk_r) rfl) (preW X hS hH) rfl hls rfl hsum hdg) hS kk
def fX11_toldStack (r : Nat) (p1 : Int32) (v : vSt) : Int32 × vSt := let v2 : vSt := (fX11_asks r (fX11_in p1 1 15000) v).2; if (((fX11_asks r (fX11_in p1 1 15000) v).1) : Int32) = 0 then ((0, v2)) else (if ((fX11_stack r p1 v2) : Int32) = 0 then (let v6 : vSt := (fX11_fails r 2 v2).2; ((fX11_fails r 2 v2).1, v6)) else ((fX11_stack r p1 v2, v2)))
def oX11_toldStack (r : Nat) (p1 : Int32) (v : vSt) : Prop := (oX11_asks r (fX11_in p1 1 15000) v) ∧ (∀ v2 : vSt, v2 = ((fX11_asks r (fX11_in p1 1 15000) v).2) → (¬ ((((fX11_asks r (fX11_in p1 1 15000) v).1) : Int32) = 0) → (oX11_stack r p1 v2)))
abbrev rmX11_toldStack : Room := { frames := 3, cells := 0, slots := 0, locals := 72 }
theorem dX11_toldStack_0 : decode cX11_toldStack 0 = .ok (.aload_n 0, 1) := by decide +kernel
theorem dX11_toldStack_1 : decode cX11_toldStack 1 = .ok (.iload_n 1, 1) := by decide +kernel
theorem dX11_toldStack_2 : decode cX11_toldStack 2 = .ok (.iconst 1, 1) := by decide +kernel
theorem dX11_toldStack_3 : decode cX11_toldStack 3 = .ok (.sipush 15000, 3) := by decide +kernel
theorem dX11_toldStack_6 : decode cX11_toldStack 6 = .ok (.invokestatic 49, 3) := by decide +kernel
theorem dX11_toldStack_9 : decode cX11_toldStack 9 = .ok (.invokevirtual 214, 3) := by decide +kernel
theorem dX11_toldStack_12 : decode cX11_toldStack 12 = .ok (.ifCond .ne 5, 3) := by decide +kernel
theorem dX11_toldStack_15 : decode cX11_toldStack 15 = .ok (.iconst 0, 1) := by decide +kernel
theorem dX11_toldStack_16 : decode cX11_toldStack 16 = .ok (.ireturn, 1) := by decide +kernel
theorem dX11_toldStack_17 : decode cX11_toldStack 17 = .ok (.aload_n 0, 1) := by decide +kernel
theorem dX11_toldStack_18 : decode cX11_toldStack 18 = .ok (.iload_n 1, 1) := by decide +kernel
theorem dX11_toldStack_19 : decode cX11_toldStack 19 = .ok (.invokevirtual 142, 3) := by decide +kernel
theorem dX11_toldStack_22 : decode cX11_toldStack 22 = .ok (.istore_n 2, 1) := by decide +kernel
theorem dX11_toldStack_23 : decode cX11_toldStack 23 = .ok (.iload_n 2, 1) := by decide +kernel
theorem dX11_toldStack_24 : decode cX11_toldStack 24 = .ok (.ifCond .ne 11, 3) := by decide +kernel
theorem dX11_toldStack_27 : decode cX11_toldStack 27 = .ok (.aload_n 0, 1) := by decide +kernel
theorem dX11_toldStack_28 : decode cX11_toldStack 28 = .ok (.iconst 2, 1) := by decide +kernel
theorem dX11_toldStack_29 : decode cX11_toldStack 29 = .ok (.invokevirtual 42, 3) := by decide +kernel
theorem dX11_toldStack_32 : decode cX11_toldStack 32 = .ok (.goto 4, 3) := by decide +kernel
theorem dX11_toldStack_35 : decode cX11_toldStack 35 = .ok (.iload_n 2, 1) := by decide +kernel
theorem dX11_toldStack_36 : decode cX11_toldStack 36 = .ok (.ireturn, 1) := by decide +kernel
set_option maxHeartbeats 8000000 in
set_option maxRecDepth 100000 in
theorem mX11_toldStack (l : Launch) (G : gG) (da : Nat → Nat) (v : vSt) (x : gX) (r : Nat) (hk_r : kd r = 11) (p1 : Int32) (ho : oX11_toldStack r p1 v) : MI l yX11_toldStack cX11_toldStack 3 (some .int) rmX11_toldStack [.ref (ga G r), .int p1] G da v x 0 0 (fX11_toldStack r p1 v).1 (fX11_toldStack r p1 v).2 x := by
  refine gofMI (own := RX11) (by decide) rfl (Nat.le_of_ble_eq_true rfl) (fun p e s m args below meth c ls Q X hH hl E => ?_)
  have hx := X.1
  have hb := X.2.1
  have hown := X.2.2.2.1
  have hts := X.2.2.2.2.1
  have hS : va_S (gA G) s.heap s.heap [] := va_S.rf
  unfold oX11_toldStack at ho
  have hl : lv_has ls 3 [(0, .ref (ga G r)), (1, .int p1)] := hl
  refine lv_aload_n hx hb dX11_toldStack_0 rfl (lv_at hl 0 rfl) ?_
  refine lv_iload_n hx hb dX11_toldStack_1 rfl (lv_at hl 1 rfl) ?_
  refine lv_iconst (v := 1) hx hb dX11_toldStack_2 (by decide) ?_
  refine lv_sipush (v := 15000) hx hb dX11_toldStack_3 (by decide) ?_
  refine k_X11_in X hS  t_ml_VernierDrawersModel_49 hl.1 (Nat.le_of_ble_eq_true rfl) ⟨Nat.le_of_ble_eq_true rfl, Nat.le_of_ble_eq_true rfl⟩ ⟨Nat.zero_le _, Nat.zero_le _⟩ dX11_toldStack_6 ?_
  have hq1 := ho.1
  have ho := ho.2
  refine k_X11_asks X hS hH hk_r hq1 t_ml_VernierDrawersModel_214 hl.1 (Nat.le_of_ble_eq_true rfl) ⟨Nat.le_of_ble_eq_true rfl, Nat.le_of_ble_eq_true rfl⟩ ⟨Nat.zero_le _, Nat.zero_le _⟩ dX11_toldStack_9 (fun da H locs v2 ev2 hH hS => ?_)
  have ho := ho v2 ev2
  refine lv_if_ne (tgt := 17) hx hb dX11_toldStack_12 (by decide) (fun c3 => ?_) (fun c3 => ?_)
  · have ho := ho c3
    refine lv_aload_n hx hb dX11_toldStack_17 rfl (lv_at hl 0 rfl) ?_
    refine lv_iload_n hx hb dX11_toldStack_18 rfl (lv_at hl 1 rfl) ?_
    have hq4 := ho
    refine k_X11_stack X hS hH hk_r hq4 t_ml_VernierDrawersModel_142 hl.1 (Nat.le_of_ble_eq_true rfl) ⟨Nat.le_of_ble_eq_true rfl, Nat.le_of_ble_eq_true rfl⟩ ⟨Nat.zero_le _, Nat.zero_le _⟩ dX11_toldStack_19 ?_
    refine lv_istore_n (lv' := [(2, .int (fX11_stack r p1 v2)), (0, .ref (ga G r)), (1, .int p1)]) hx hb dX11_toldStack_22 rfl hl (by decide) rfl (fun ls hl => ?_)
    refine lv_iload_n hx hb dX11_toldStack_23 rfl (lv_at hl 0 rfl) ?_
    refine lv_if_ne (tgt := 35) hx hb dX11_toldStack_24 (by decide) (fun c5 => ?_) (fun c5 => ?_)
    · skip
      refine lv_iload_n hx hb dX11_toldStack_35 rfl (lv_at hl 0 rfl) ?_
      replace ev2 := Eq.symm ev2
      subst ev2
      exact E _ _ _ _ _ _ _ _ _ dX11_toldStack_36 rfl (pr1 ((fX11_toldStack.eq_1 _ _ _).trans ((if_neg c3).trans ((if_neg c5).trans rfl)))) (pr2 ((fX11_toldStack.eq_1 _ _ _).trans ((if_neg c3).trans ((if_neg c5).trans rfl)))) hH hS (Nat.zero_le _) (Nat.zero_le _)
    · skip
      refine lv_aload_n hx hb dX11_toldStack_27 rfl (lv_at hl 1 rfl) ?_
      refine lv_iconst (v := 2) hx hb dX11_toldStack_28 (by decide) ?_
      refine k_X11_fails X hS hH hk_r t_ml_VernierDrawersModel_42 hl.1 (Nat.le_of_ble_eq_true rfl) ⟨Nat.le_of_ble_eq_true rfl, Nat.le_of_ble_eq_true rfl⟩ ⟨Nat.zero_le _, Nat.zero_le _⟩ dX11_toldStack_29 (fun da H locs v6 ev6 hH hS => ?_)
      refine lv_goto (tgt := 36) hx hb dX11_toldStack_32 (by decide) ?_
      replace ev2 := Eq.symm ev2
      replace ev6 := Eq.symm ev6
      subst ev2 ev6
      exact E _ _ _ _ _ _ _ _ _ dX11_toldStack_36 rfl (pr1 ((fX11_toldStack.eq_1 _ _ _).trans ((if_neg c3).trans ((if_pos c5).trans rfl)))) (pr2 ((fX11_toldStack.eq_1 _ _ _).trans ((if_neg c3).trans ((if_pos c5).trans rfl)))) hH hS (Nat.zero_le _) (Nat.zero_le _)
  · skip
    refine lv_iconst (v := 0) hx hb dX11_toldStack_15 (by decide) ?_
    replace ev2 := Eq.symm ev2
    subst ev2
    exact E _ _ _ _ _ _ _ _ _ dX11_toldStack_16 rfl (pr1 ((fX11_toldStack.eq_1 _ _ _).trans ((if_pos c3).trans rfl))) (pr2 ((fX11_toldStack.eq_1 _ _ _).trans ((if_pos c3).trans rfl))) hH hS (Nat.zero_le _) (Nat.zero_le _)
theorem k_X11_toldStack {p : Program} {l : Launch} {e : Env} {R : Room} {s : State} {m : MethodId} {args : Array Value} {below : List Frame} {meth : Method} {c : Code} {H : Heap} {locs : List Loc} {cells slots : Nat} {Q : State → Prop} {cc : ByteArray} {pc nL : Nat} {ls : Array Slot} {rest : List Value} {G : gG} {own : String} {da : Nat → Nat} {v : vSt} {x : gX} (X : CX G p s m args c cc nL own) (hS : va_S (gA G) s.heap H locs) (hH : Hp G da v x H) {r : Nat} (hk_r : kd r = 11) {p1 : Int32} (ho : oX11_toldStack r p1 v) {idx : Nat} (hml : Cond.methodLink own idx yX11_toldStack ∈ TT) (hls : ls.size = nL) (hsum : (rest.map fun v => v.category).sum ≤ 8) (hR : rmX11_toldStack.frames + 1 ≤ R.frames ∧ 8 + (3 + 11) + rmX11_toldStack.locals ≤ R.locals) (hcs : cells ≤ R.cells ∧ slots ≤ R.slots) (hdg : decode cc pc = .ok (.invokevirtual idx, 3)) (kk : ∀ (d : Nat → Nat) (H1 : Heap) (locs1 : List Loc) (v1 : vSt), v1 = (fX11_toldStack r p1 v).2 → Hp G d v1 x H1 → va_S (gA G) s.heap H1 locs1 → W p l e R s m args below meth c H1 locs1 cells slots Q (F0 m (pc + 3) ls (.int (fX11_toldStack r p1 v).1 :: rest))) : W p l e R s m args below meth c H locs cells slots Q (F0 m pc ls (.int p1 :: .ref (ga G r) :: rest)) := c_mi X.2.2.2.2.2.2 (runV (k := 1) X.1 X.2.1 X.2.2.1 X.2.2.2.1 X.2.2.2.2.1 (mX11_toldStack l G da v x r hk_r p1 ho) pW_bl hml t_im_X11_toldStack t_sel_X11_toldStack t_ini_VernierDrawersModel t_code_X11_toldStack ⟨rfl, by decide, by decide, by decide +kernel⟩ rfl rfl hR hcs (recvW X hH (by rw [hk_r]; decide) (by rw [hk_r]; decide) (ce_11 hk_r) rfl) (preW X hS hH) rfl hls rfl hsum hdg) hS kk
def fX11_fewestBlocks (r : Nat) (p1 : Int32) (v : vSt) : Int32 × vSt := let v2 : vSt := (fX11_toldStack r p1 v).2; (fX11_ones ((fX11_toldStack r p1 v).1), v2)
def oX11_fewestBlocks (r : Nat) (p1 : Int32) (v : vSt) : Prop := (oX11_toldStack r p1 v) ∧ (∀ v2 : vSt, v2 = ((fX11_toldStack r p1 v).2) → (oX11_ones ((fX11_toldStack r p1 v).1)))
abbrev rmX11_fewestBlocks : Room := { frames := 4, cells := 0, slots := 0, locals := 94 }
theorem dX11_fewestBlocks_0 : decode cX11_fewestBlocks 0 = .ok (.aload_n 0, 1) := by decide +kernel
theorem dX11_fewestBlocks_1 : decode cX11_fewestBlocks 1 = .ok (.iload_n 1, 1) := by decide +kernel
theorem dX11_fewestBlocks_2 : decode cX11_fewestBlocks 2 = .ok (.invokevirtual 233, 3) := by decide +kernel
theorem dX11_fewestBlocks_5 : decode cX11_fewestBlocks 5 = .ok (.invokestatic 74, 3) := by decide +kernel
theorem dX11_fewestBlocks_8 : decode cX11_fewestBlocks 8 = .ok (.ireturn, 1) := by decide +kernel
set_option maxHeartbeats 8000000 in
set_option maxRecDepth 100000 in
theorem mX11_fewestBlocks (l : Launch) (G : gG) (da : Nat → Nat) (v : vSt) (x : gX) (r : Nat) (hk_r : kd r = 11) (p1 : Int32) (ho : oX11_fewestBlocks r p1 v) : MI l yX11_fewestBlocks cX11_fewestBlocks 2 (some .int) rmX11_fewestBlocks [.ref (ga G r), .int p1] G da v x 0 0 (fX11_fewestBlocks r p1 v).1 (fX11_fewestBlocks r p1 v).2 x := by
  refine gofMI (own := RX11) (by decide) rfl (Nat.le_of_ble_eq_true rfl) (fun p e s m args below meth c ls Q X hH hl E => ?_)
  have hx := X.1
  have hb := X.2.1
  have hown := X.2.2.2.1
  have hts := X.2.2.2.2.1
  have hS : va_S (gA G) s.heap s.heap [] := va_S.rf
  unfold oX11_fewestBlocks at ho
  have hl : lv_has ls 2 [(0, .ref (ga G r)), (1, .int p1)] := hl
  refine lv_aload_n hx hb dX11_fewestBlocks_0 rfl (lv_at hl 0 rfl) ?_
  refine lv_iload_n hx hb dX11_fewestBlocks_1 rfl (lv_at hl 1 rfl) ?_
  have hq1 := ho.1
  have ho := ho.2
  refine k_X11_toldStack X hS hH hk_r hq1 t_ml_VernierDrawersModel_233 hl.1 (Nat.le_of_ble_eq_true rfl) ⟨Nat.le_of_ble_eq_true rfl, Nat.le_of_ble_eq_true rfl⟩ ⟨Nat.zero_le _, Nat.zero_le _⟩ dX11_fewestBlocks_2 (fun da H locs v2 ev2 hH hS => ?_)
  have ho := ho v2 ev2
  have hq3 := ho
  refine k_X11_ones X hS hq3 t_ml_VernierDrawersModel_74 hl.1 (Nat.le_of_ble_eq_true rfl) ⟨Nat.le_of_ble_eq_true rfl, Nat.le_of_ble_eq_true rfl⟩ ⟨Nat.zero_le _, Nat.zero_le _⟩ dX11_fewestBlocks_5 ?_
  replace ev2 := Eq.symm ev2
  subst ev2
  exact E _ _ _ _ _ _ _ _ _ dX11_fewestBlocks_8 rfl (pr1 rfl) (pr2 rfl) hH hS (Nat.zero_le _) (Nat.zero_le _)
theorem k_X11_fewestBlocks {p : Program} {l : Launch} {e : Env} {R : Room} {s : State} {m : MethodId} {args : Array Value} {below : List Frame} {meth : Method} {c : Code} {H : Heap} {locs : List Loc} {cells slots : Nat} {Q : State → Prop} {cc : ByteArray} {pc nL : Nat} {ls : Array Slot} {rest : List Value} {G : gG} {own : String} {da : Nat → Nat} {v : vSt} {x : gX} (X : CX G p s m args c cc nL own) (hS : va_S (gA G) s.heap H locs) (hH : Hp G da v x H) {r : Nat} (hk_r : kd r = 11) {p1 : Int32} (ho : oX11_fewestBlocks r p1 v) {idx : Nat} (hml : Cond.methodLink own idx yX11_fewestBlocks ∈ TT) (hls : ls.size = nL) (hsum : (rest.map fun v => v.category).sum ≤ 8) (hR : rmX11_fewestBlocks.frames + 1 ≤ R.frames ∧ 8 + (2 + 11) + rmX11_fewestBlocks.locals ≤ R.locals) (hcs : cells ≤ R.cells ∧ slots ≤ R.slots) (hdg : decode cc pc = .ok (.invokevirtual idx, 3)) (kk : ∀ (d : Nat → Nat) (H1 : Heap) (locs1 : List Loc) (v1 : vSt), v1 = (fX11_fewestBlocks r p1 v).2 → Hp G d v1 x H1 → va_S (gA G) s.heap H1 locs1 → W p l e R s m args below meth c H1 locs1 cells slots Q (F0 m (pc + 3) ls (.int (fX11_fewestBlocks r p1 v).1 :: rest))) : W p l e R s m args below meth c H locs cells slots Q (F0 m pc ls (.int p1 :: .ref (ga G r) :: rest)) := c_mi X.2.2.2.2.2.2 (runV (k := 1) X.1 X.2.1 X.2.2.1 X.2.2.2.1 X.2.2.2.2.1 (mX11_fewestBlocks l G da v x r hk_r p1 ho) pW_bl hml t_im_X11_fewestBlocks t_sel_X11_fewestBlocks t_ini_VernierDrawersModel t_code_X11_fewestBlocks ⟨rfl, by decide, by decide, by decide +kernel⟩ rfl rfl hR hcs (recvW X hH (by rw [hk_r]; decide) (by rw [hk_r]; decide) (ce_11 hk_r) rfl) (preW X hS hH) rfl hls rfl hsum hdg) hS kk
def fX11_fewestByTrying (r : Nat) (p1 : Int32) (v : vSt) : Int32 × vSt := let v2 : vSt := (fX11_toldStack r p1 v).2; (fX11_ones ((fX11_toldStack r p1 v).1), v2)
def oX11_fewestByTrying (r : Nat) (p1 : Int32) (v : vSt) : Prop := (oX11_toldStack r p1 v) ∧ (∀ v2 : vSt, v2 = ((fX11_toldStack r p1 v).2) → (oX11_ones ((fX11_toldStack r p1 v).1)))
abbrev rmX11_fewestByTrying : Room := { frames := 4, cells := 0, slots := 0, locals := 94 }
theorem dX11_fewestByTrying_0 : decode cX11_fewestByTrying 0 = .ok (.aload_n 0, 1) := by decide +kernel
theorem dX11_fewestByTrying_1 : decode cX11_fewestByTrying 1 = .ok (.iload_n 1, 1) := by decide +kernel
theorem dX11_fewestByTrying_2 : decode cX11_fewestByTrying 2 = .ok (.invokevirtual 233, 3) := by decide +kernel
theorem dX11_fewestByTrying_5 : decode cX11_fewestByTrying 5 = .ok (.invokestatic 74, 3) := by decide +kernel
theorem dX11_fewestByTrying_8 : decode cX11_fewestByTrying 8 = .ok (.ireturn, 1) := by decide +kernel
set_option maxHeartbeats 8000000 in
set_option maxRecDepth 100000 in
theorem mX11_fewestByTrying (l : Launch) (G : gG) (da : Nat → Nat) (v : vSt) (x : gX) (r : Nat) (hk_r : kd r = 11) (p1 : Int32) (ho : oX11_fewestByTrying r p1 v) : MI l yX11_fewestByTrying cX11_fewestByTrying 2 (some .int) rmX11_fewestByTrying [.ref (ga G r), .int p1] G da v x 0 0 (fX11_fewestByTrying r p1 v).1 (fX11_fewestByTrying r p1 v).2 x := by
  refine gofMI (own := RX11) (by decide) rfl (Nat.le_of_ble_eq_true rfl) (fun p e s m args below meth c ls Q X hH hl E => ?_)
  have hx := X.1
  have hb := X.2.1
  have hown := X.2.2.2.1
  have hts := X.2.2.2.2.1
  have hS : va_S (gA G) s.heap s.heap [] := va_S.rf
  unfold oX11_fewestByTrying at ho
  have hl : lv_has ls 2 [(0, .ref (ga G r)), (1, .int p1)] := hl
  refine lv_aload_n hx hb dX11_fewestByTrying_0 rfl (lv_at hl 0 rfl) ?_
  refine lv_iload_n hx hb dX11_fewestByTrying_1 rfl (lv_at hl 1 rfl) ?_
  have hq1 := ho.1
  have ho := ho.2
  refine k_X11_toldStack X hS hH hk_r hq1 t_ml_VernierDrawersModel_233 hl.1 (Nat.le_of_ble_eq_true rfl) ⟨Nat.le_of_ble_eq_true rfl, Nat.le_of_ble_eq_true rfl⟩ ⟨Nat.zero_le _, Nat.zero_le _⟩ dX11_fewestByTrying_2 (fun da H locs v2 ev2 hH hS => ?_)
  have ho := ho v2 ev2
  have hq3 := ho
  refine k_X11_ones X hS hq3 t_ml_VernierDrawersModel_74 hl.1 (Nat.le_of_ble_eq_true rfl) ⟨Nat.le_of_ble_eq_true rfl, Nat.le_of_ble_eq_true rfl⟩ ⟨Nat.zero_le _, Nat.zero_le _⟩ dX11_fewestByTrying_5 ?_
  replace ev2 := Eq.symm ev2
  subst ev2
  exact E _ _ _ _ _ _ _ _ _ dX11_fewestByTrying_8 rfl (pr1 rfl) (pr2 rfl) hH hS (Nat.zero_le _) (Nat.zero_le _)
theorem k_X11_fewestByTrying {p : Program} {l : Launch} {e : Env} {R : Room} {s : State} {m : MethodId} {args : Array Value} {below : List Frame} {meth : Method} {c : Code} {H : Heap} {locs : List Loc} {cells slots : Nat} {Q : State → Prop} {cc : ByteArray} {pc nL : Nat} {ls : Array Slot} {rest : List Value} {G : gG} {own : String} {da : Nat → Nat} {v : vSt} {x : gX} (X : CX G p s m args c cc nL own) (hS : va_S (gA G) s.heap H locs) (hH : Hp G da v x H) {r : Nat} (hk_r : kd r = 11) {p1 : Int32} (ho : oX11_fewestByTrying r p1 v) {idx : Nat} (hml : Cond.methodLink own idx yX11_fewestByTrying ∈ TT) (hls : ls.size = nL) (hsum : (rest.map fun v => v.category).sum ≤ 8) (hR : rmX11_fewestByTrying.frames + 1 ≤ R.frames ∧ 8 + (2 + 11) + rmX11_fewestByTrying.locals ≤ R.locals) (hcs : cells ≤ R.cells ∧ slots ≤ R.slots) (hdg : decode cc pc = .ok (.invokevirtual idx, 3)) (kk : ∀ (d : Nat → Nat) (H1 : Heap) (locs1 : List Loc) (v1 : vSt), v1 = (fX11_fewestByTrying r p1 v).2 → Hp G d v1 x H1 → va_S (gA G) s.heap H1 locs1 → W p l e R s m args below meth c H1 locs1 cells slots Q (F0 m (pc + 3) ls (.int (fX11_fewestByTrying r p1 v).1 :: rest))) : W p l e R s m args below meth c H locs cells slots Q (F0 m pc ls (.int p1 :: .ref (ga G r) :: rest)) := c_mi X.2.2.2.2.2.2 (runV (k := 1) X.1 X.2.1 X.2.2.1 X.2.2.2.1 X.2.2.2.2.1 (mX11_fewestByTrying l G da v x r hk_r p1 ho) pW_bl hml t_im_X11_fewestByTrying t_sel_X11_fewestByTrying t_ini_VernierDrawersModel t_code_X11_fewestByTrying ⟨rfl, by decide, by decide, by decide +kernel⟩ rfl rfl hR hcs (recvW X hH (by rw [hk_r]; decide) (by rw [hk_r]; decide) (ce_11 hk_r) rfl) (preW X hS hH) rfl hls rfl hsum hdg) hS kk
def fX11_stackFor (r : Nat) (p1 : Int32) (v : vSt) : Int32 × vSt := let v2 : vSt := (fX11_toldStack r p1 v).2; ((fX11_toldStack r p1 v).1, v2)
def oX11_stackFor (r : Nat) (p1 : Int32) (v : vSt) : Prop := oX11_toldStack r p1 v
abbrev rmX11_stackFor : Room := { frames := 4, cells := 0, slots := 0, locals := 94 }
theorem dX11_stackFor_0 : decode cX11_stackFor 0 = .ok (.aload_n 0, 1) := by decide +kernel
theorem dX11_stackFor_1 : decode cX11_stackFor 1 = .ok (.iload_n 1, 1) := by decide +kernel
theorem dX11_stackFor_2 : decode cX11_stackFor 2 = .ok (.invokevirtual 233, 3) := by decide +kernel
theorem dX11_stackFor_5 : decode cX11_stackFor 5 = .ok (.ireturn, 1) := by decide +kernel
set_option maxHeartbeats 8000000 in
set_option maxRecDepth 100000 in
theorem mX11_stackFor (l : Launch) (G : gG) (da : Nat → Nat) (v : vSt) (x : gX) (r : Nat) (hk_r : kd r = 11) (p1 : Int32) (ho : oX11_stackFor r p1 v) : MI l yX11_stackFor cX11_stackFor 2 (some .int) rmX11_stackFor [.ref (ga G r), .int p1] G da v x 0 0 (fX11_stackFor r p1 v).1 (fX11_stackFor r p1 v).2 x := by
  refine gofMI (own := RX11) (by decide) rfl (Nat.le_of_ble_eq_true rfl) (fun p e s m args below meth c ls Q X hH hl E => ?_)
  have hx := X.1
  have hb := X.2.1
  have hown := X.2.2.2.1
  have hts := X.2.2.2.2.1
  have hS : va_S (gA G) s.heap s.heap [] := va_S.rf
  unfold oX11_stackFor at ho
  have hl : lv_has ls 2 [(0, .ref (ga G r)), (1, .int p1)] := hl
  refine lv_aload_n hx hb dX11_stackFor_0 rfl (lv_at hl 0 rfl) ?_
  refine lv_iload_n hx hb dX11_stackFor_1 rfl (lv_at hl 1 rfl) ?_
  have hq1 := ho
  refine k_X11_toldStack X hS hH hk_r hq1 t_ml_VernierDrawersModel_233 hl.1 (Nat.le_of_ble_eq_true rfl) ⟨Nat.le_of_ble_eq_true rfl, Nat.le_of_ble_eq_true rfl⟩ ⟨Nat.zero_le _, Nat.zero_le _⟩ dX11_stackFor_2 (fun da H locs v2 ev2 hH hS => ?_)
  replace ev2 := Eq.symm ev2
  subst ev2
  exact E _ _ _ _ _ _ _ _ _ dX11_stackFor_5 rfl (pr1 rfl) (pr2 rfl) hH hS (Nat.zero_le _) (Nat.zero_le _)
theorem k_X11_stackFor {p : Program} {l : Launch} {e : Env} {R : Room} {s : State} {m : MethodId} {args : Array Value} {below : List Frame} {meth : Method} {c : Code} {H : Heap} {locs : List Loc} {cells slots : Nat} {Q : State → Prop} {cc : ByteArray} {pc nL : Nat} {ls : Array Slot} {rest : List Value} {G : gG} {own : String} {da : Nat → Nat} {v : vSt} {x : gX} (X : CX G p s m args c cc nL own) (hS : va_S (gA G) s.heap H locs) (hH : Hp G da v x H) {r : Nat} (hk_r : kd r = 11) {p1 : Int32} (ho : oX11_stackFor r p1 v) {idx : Nat} (hml : Cond.methodLink own idx yX11_stackFor ∈ TT) (hls : ls.size = nL) (hsum : (rest.map fun v => v.category).sum ≤ 8) (hR : rmX11_stackFor.frames + 1 ≤ R.frames ∧ 8 + (2 + 11) + rmX11_stackFor.locals ≤ R.locals) (hcs : cells ≤ R.cells ∧ slots ≤ R.slots) (hdg : decode cc pc = .ok (.invokevirtual idx, 3)) (kk : ∀ (d : Nat → Nat) (H1 : Heap) (locs1 : List Loc) (v1 : vSt), v1 = (fX11_stackFor r p1 v).2 → Hp G d v1 x H1 → va_S (gA G) s.heap H1 locs1 → W p l e R s m args below meth c H1 locs1 cells slots Q (F0 m (pc + 3) ls (.int (fX11_stackFor r p1 v).1 :: rest))) : W p l e R s m args below meth c H locs cells slots Q (F0 m pc ls (.int p1 :: .ref (ga G r) :: rest)) := c_mi X.2.2.2.2.2.2 (runV (k := 1) X.1 X.2.1 X.2.2.1 X.2.2.2.1 X.2.2.2.2.1 (mX11_stackFor l G da v x r hk_r p1 ho) pW_bl hml t_im_X11_stackFor t_sel_X11_stackFor t_ini_VernierDrawersModel t_code_X11_stackFor ⟨rfl, by decide, by decide, by decide +kernel⟩ rfl rfl hR hcs (recvW X hH (by rw [hk_r]; decide) (by rw [hk_r]; decide) (ce_11 hk_r) rfl) (preW X hS hH) rfl hls rfl hsum hdg) hS kk
def fX11_trueLength (r : Nat) (p1 : Int32) (v : vSt) : Int32 × vSt := let v2 : vSt := (fX11_toldStack r p1 v).2; if ((v2 r 8) : Int32) ≤ 0 then ((fX11_truly r ((fX11_toldStack r p1 v).1) v2, v2)) else ((0, v2))
def oX11_trueLength (r : Nat) (p1 : Int32) (v : vSt) : Prop := (oX11_toldStack r p1 v) ∧ (∀ v2 : vSt, v2 = ((fX11_toldStack r p1 v).2) → ((((v2 r 8) : Int32) ≤ 0) → (oX11_truly r ((fX11_toldStack r p1 v).1) v2)))
abbrev rmX11_trueLength : Room := { frames := 4, cells := 0, slots := 0, locals := 94 }
theorem dX11_trueLength_0 : decode cX11_trueLength 0 = .ok (.aload_n 0, 1) := by decide +kernel
theorem dX11_trueLength_1 : decode cX11_trueLength 1 = .ok (.iload_n 1, 1) := by decide +kernel
theorem dX11_trueLength_2 : decode cX11_trueLength 2 = .ok (.invokevirtual 233, 3) := by decide +kernel
theorem dX11_trueLength_5 : decode cX11_trueLength 5 = .ok (.istore_n 2, 1) := by decide +kernel
theorem dX11_trueLength_6 : decode cX11_trueLength 6 = .ok (.aload_n 0, 1) := by decide +kernel
theorem dX11_trueLength_7 : decode cX11_trueLength 7 = .ok (.getfield 29, 3) := by decide +kernel
theorem dX11_trueLength_10 : decode cX11_trueLength 10 = .ok (.ifCond .le 7, 3) := by decide +kernel
theorem dX11_trueLength_13 : decode cX11_trueLength 13 = .ok (.iconst 0, 1) := by decide +kernel
theorem dX11_trueLength_14 : decode cX11_trueLength 14 = .ok (.goto 8, 3) := by decide +kernel
theorem dX11_trueLength_17 : decode cX11_trueLength 17 = .ok (.aload_n 0, 1) := by decide +kernel
theorem dX11_trueLength_18 : decode cX11_trueLength 18 = .ok (.iload_n 2, 1) := by decide +kernel
theorem dX11_trueLength_19 : decode cX11_trueLength 19 = .ok (.invokevirtual 145, 3) := by decide +kernel
theorem dX11_trueLength_22 : decode cX11_trueLength 22 = .ok (.ireturn, 1) := by decide +kernel
set_option maxHeartbeats 8000000 in
set_option maxRecDepth 100000 in
theorem mX11_trueLength (l : Launch) (G : gG) (da : Nat → Nat) (v : vSt) (x : gX) (r : Nat) (hk_r : kd r = 11) (p1 : Int32) (ho : oX11_trueLength r p1 v) : MI l yX11_trueLength cX11_trueLength 3 (some .int) rmX11_trueLength [.ref (ga G r), .int p1] G da v x 0 0 (fX11_trueLength r p1 v).1 (fX11_trueLength r p1 v).2 x := by
  refine gofMI (own := RX11) (by decide) rfl (Nat.le_of_ble_eq_true rfl) (fun p e s m args below meth c ls Q X hH hl E => ?_)
  have hx := X.1
  have hb := X.2.1
  have hown := X.2.2.2.1
  have hts := X.2.2.2.2.1
  have hS : va_S (gA G) s.heap s.heap [] := va_S.rf
  unfold oX11_trueLength at ho
  have hl : lv_has ls 3 [(0, .ref (ga G r)), (1, .int p1)] := hl
  refine lv_aload_n hx hb dX11_trueLength_0 rfl (lv_at hl 0 rfl) ?_
  refine lv_iload_n hx hb dX11_trueLength_1 rfl (lv_at hl 1 rfl) ?_
  have hq1 := ho.1
  have ho := ho.2
  refine k_X11_toldStack X hS hH hk_r hq1 t_ml_VernierDrawersModel_233 hl.1 (Nat.le_of_ble_eq_true rfl) ⟨Nat.le_of_ble_eq_true rfl, Nat.le_of_ble_eq_true rfl⟩ ⟨Nat.zero_le _, Nat.zero_le _⟩ dX11_trueLength_2 (fun da H locs v2 ev2 hH hS => ?_)
  have ho := ho v2 ev2
  refine lv_istore_n (lv' := [(2, .int ((fX11_toldStack r p1 v).1)), (0, .ref (ga G r)), (1, .int p1)]) hx hb dX11_trueLength_5 rfl hl (by decide) rfl (fun ls hl => ?_)
  refine lv_aload_n hx hb dX11_trueLength_6 rfl (lv_at hl 1 rfl) ?_
  refine g_VernierDrawersModel_29 X hH hk_r dX11_trueLength_7 ?_
  refine lv_if_le (tgt := 17) hx hb dX11_trueLength_10 (by decide) (fun c3 => ?_) (fun c3 => ?_)
  · have ho := ho c3
    refine lv_aload_n hx hb dX11_trueLength_17 rfl (lv_at hl 1 rfl) ?_
    refine lv_iload_n hx hb dX11_trueLength_18 rfl (lv_at hl 0 rfl) ?_
    have hq4 := ho
    refine k_X11_truly X hS hH hk_r hq4 t_ml_VernierDrawersModel_145 hl.1 (Nat.le_of_ble_eq_true rfl) ⟨Nat.le_of_ble_eq_true rfl, Nat.le_of_ble_eq_true rfl⟩ ⟨Nat.zero_le _, Nat.zero_le _⟩ dX11_trueLength_19 ?_
    replace ev2 := Eq.symm ev2
    subst ev2
    exact E _ _ _ _ _ _ _ _ _ dX11_trueLength_22 rfl (pr1 ((fX11_trueLength.eq_1 _ _ _).trans ((if_pos c3).trans rfl))) (pr2 ((fX11_trueLength.eq_1 _ _ _).trans ((if_pos c3).trans rfl))) hH hS (Nat.zero_le _) (Nat.zero_le _)
  · skip
    refine lv_iconst (v := 0) hx hb dX11_trueLength_13 (by decide) ?_
    refine lv_goto (tgt := 22) hx hb dX11_trueLength_14 (by decide) ?_
    replace ev2 := Eq.symm ev2
    subst ev2
    exact E _ _ _ _ _ _ _ _ _ dX11_trueLength_22 rfl (pr1 ((fX11_trueLength.eq_1 _ _ _).trans ((if_neg c3).trans rfl))) (pr2 ((fX11_trueLength.eq_1 _ _ _).trans ((if_neg c3).trans rfl))) hH hS (Nat.zero_le _) (Nat.zero_le _)
theorem k_X11_trueLength {p : Program} {l : Launch} {e : Env} {R : Room} {s : State} {m : MethodId} {args : Array Value} {below : List Frame} {meth : Method} {c : Code} {H : Heap} {locs : List Loc} {cells slots : Nat} {Q : State → Prop} {cc : ByteArray} {pc nL : Nat} {ls : Array Slot} {rest : List Value} {G : gG} {own : String} {da : Nat → Nat} {v : vSt} {x : gX} (X : CX G p s m args c cc nL own) (hS : va_S (gA G) s.heap H locs) (hH : Hp G da v x H) {r : Nat} (hk_r : kd r = 11) {p1 : Int32} (ho : oX11_trueLength r p1 v) {idx : Nat} (hml : Cond.methodLink own idx yX11_trueLength ∈ TT) (hls : ls.size = nL) (hsum : (rest.map fun v => v.category).sum ≤ 8) (hR : rmX11_trueLength.frames + 1 ≤ R.frames ∧ 8 + (3 + 11) + rmX11_trueLength.locals ≤ R.locals) (hcs : cells ≤ R.cells ∧ slots ≤ R.slots) (hdg : decode cc pc = .ok (.invokevirtual idx, 3)) (kk : ∀ (d : Nat → Nat) (H1 : Heap) (locs1 : List Loc) (v1 : vSt), v1 = (fX11_trueLength r p1 v).2 → Hp G d v1 x H1 → va_S (gA G) s.heap H1 locs1 → W p l e R s m args below meth c H1 locs1 cells slots Q (F0 m (pc + 3) ls (.int (fX11_trueLength r p1 v).1 :: rest))) : W p l e R s m args below meth c H locs cells slots Q (F0 m pc ls (.int p1 :: .ref (ga G r) :: rest)) := c_mi X.2.2.2.2.2.2 (runV (k := 1) X.1 X.2.1 X.2.2.1 X.2.2.2.1 X.2.2.2.2.1 (mX11_trueLength l G da v x r hk_r p1 ho) pW_bl hml t_im_X11_trueLength t_sel_X11_trueLength t_ini_VernierDrawersModel t_code_X11_trueLength ⟨rfl, by decide, by decide, by decide +kernel⟩ rfl rfl hR hcs (recvW X hH (by rw [hk_r]; decide) (by rw [hk_r]; decide) (ce_11 hk_r) rfl) (preW X hS hH) rfl hls rfl hsum hdg) hS kk
def lX11_stackable_7 : Nat → Int32 → vSt → vSt
  | 0, i2, v3 => v3
  | n + 1, i2, v3 => if (15000 : Int32) < i2 then v3 else (let v6 : vSt := u2 v3 467 (i2 : Int32).toNatClampNeg 0; lX11_stackable_7 n (i2 + 1) v6)
def olX11_stackable_7 : Nat → Int32 → vSt → Prop
  | 0, _, _ => False
  | n + 1, i2, v3 => ¬ ((15000 : Int32) < i2) → ((vp_in (i2) 15001) ∧ (∀ v6 : vSt, v6 = (u2 v3 467 (i2 : Int32).toNatClampNeg 0) → (olX11_stackable_7 n (i2 + 1) v6)))
def lX11_stackable_31 (r : Nat) : Nat → Int32 → Int32 → vSt → Int32 × vSt
  | 0, i7, i8, v9 => (i8, v9)
  | n + 1, i7, i8, v9 => if ((1 <<< ((v9 462 (204 : Int32).toNatClampNeg) &&& 31)) : Int32) ≤ i7 then ((i8, v9)) else (let y14 : Int32 := (if (5 : Int32) < (fX11_ones i7) then 0 else (if (15000 : Int32) < (fX11_sum r i7 0 v9) then 0 else 1) : Int32); let qy16 : Int32 × vSt := (if (y14 : Int32) = 0 then ((i8, v9)) else (if ((v9 467 (fX11_sum r i7 0 v9 : Int32).toNatClampNeg) : Int32) = 0 then (let v21 : vSt := u2 v9 467 (fX11_sum r i7 0 v9 : Int32).toNatClampNeg 1; (i8 + 1, v21)) else ((i8, v9))) : Int32 × vSt); let y16 := qy16.1; let v17 := qy16.2; lX11_stackable_31 r n (i7 + 1) y16 v17)
def olX11_stackable_31 (r : Nat) : Nat → Int32 → Int32 → vSt → Prop
  | 0, _, _, _ => False
  | n + 1, i7, i8, v9 => (vp_in (204) (mlen 462)) ∧ (¬ (((1 <<< ((v9 462 (204 : Int32).toNatClampNeg) &&& 31)) : Int32) ≤ i7) → ((oX11_sum r i7 0 v9) ∧ ((oX11_ones i7) ∧ ((∀ (y14 : Int32), y14 = ((if (5 : Int32) < (fX11_ones i7) then 0 else (if (15000 : Int32) < (fX11_sum r i7 0 v9) then 0 else 1) : Int32) : Int32) → ((¬ ((y14 : Int32) = 0) → (vp_in (fX11_sum r i7 0 v9) 15001)) ∧ (∀ (y16 : Int32) (v17 : vSt), y16 = ((if (y14 : Int32) = 0 then ((i8, v9)) else (if ((v9 467 (fX11_sum r i7 0 v9 : Int32).toNatClampNeg) : Int32) = 0 then (let v21 : vSt := u2 v9 467 (fX11_sum r i7 0 v9 : Int32).toNatClampNeg 1; (i8 + 1, v21)) else ((i8, v9))) : Int32 × vSt) : Int32 × vSt).1 → v17 = ((if (y14 : Int32) = 0 then ((i8, v9)) else (if ((v9 467 (fX11_sum r i7 0 v9 : Int32).toNatClampNeg) : Int32) = 0 then (let v21 : vSt := u2 v9 467 (fX11_sum r i7 0 v9 : Int32).toNatClampNeg 1; (i8 + 1, v21)) else ((i8, v9))) : Int32 × vSt) : Int32 × vSt).2 → (olX11_stackable_31 r n (i7 + 1) y16 v17))))))))
def fX11_stackable (r : Nat) (v : vSt) : Int32 × vSt := let v1 : vSt := u2 v r 8 0; let v4 : vSt := (lX11_stackable_7 (15002) 0 v1); let qy10 : Int32 × vSt := (lX11_stackable_31 r ((Int32.toInt ((1 <<< ((v4 462 (204 : Int32).toNatClampNeg) &&& 31))) - Int32.toInt 1).toNat + 1) 1 0 v4); let y10 := qy10.1; let v11 := qy10.2; (y10, v11)
def oX11_stackable (r : Nat) (v : vSt) : Prop := ∀ v1 : vSt, v1 = (u2 v r 8 0) → (olX11_stackable_7 (15002) 0 v1 ∧ (∀ (v4 : vSt), v4 = ((lX11_stackable_7 (15002) 0 v1) : vSt) → (olX11_stackable_31 r ((Int32.toInt ((1 <<< ((v4 462 (204 : Int32).toNatClampNeg) &&& 31))) - Int32.toInt 1).toNat + 1) 1 0 v4)))
abbrev rmX11_stackable : Room := { frames := 2, cells := 0, slots := 0, locals := 46 }
theorem dX11_stackable_0 : decode cX11_stackable 0 = .ok (.aload_n 0, 1) := by decide +kernel
theorem dX11_stackable_1 : decode cX11_stackable 1 = .ok (.iconst 0, 1) := by decide +kernel
theorem dX11_stackable_2 : decode cX11_stackable 2 = .ok (.putfield 29, 3) := by decide +kernel
theorem dX11_stackable_5 : decode cX11_stackable 5 = .ok (.iconst 0, 1) := by decide +kernel
theorem dX11_stackable_6 : decode cX11_stackable 6 = .ok (.istore_n 1, 1) := by decide +kernel
theorem dX11_stackable_7 : decode cX11_stackable 7 = .ok (.iload_n 1, 1) := by decide +kernel
theorem dX11_stackable_8 : decode cX11_stackable 8 = .ok (.sipush 15000, 3) := by decide +kernel
theorem dX11_stackable_11 : decode cX11_stackable 11 = .ok (.if_icmp .gt 16, 3) := by decide +kernel
theorem dX11_stackable_14 : decode cX11_stackable 14 = .ok (.aload_n 0, 1) := by decide +kernel
theorem dX11_stackable_15 : decode cX11_stackable 15 = .ok (.getfield 25, 3) := by decide +kernel
theorem dX11_stackable_18 : decode cX11_stackable 18 = .ok (.iload_n 1, 1) := by decide +kernel
theorem dX11_stackable_19 : decode cX11_stackable 19 = .ok (.iconst 0, 1) := by decide +kernel
theorem dX11_stackable_20 : decode cX11_stackable 20 = .ok (.bastore, 1) := by decide +kernel
theorem dX11_stackable_21 : decode cX11_stackable 21 = .ok (.iinc 1 1, 3) := by decide +kernel
theorem dX11_stackable_24 : decode cX11_stackable 24 = .ok (.goto (-17), 3) := by decide +kernel
theorem dX11_stackable_27 : decode cX11_stackable 27 = .ok (.iconst 0, 1) := by decide +kernel
theorem dX11_stackable_28 : decode cX11_stackable 28 = .ok (.istore_n 1, 1) := by decide +kernel
theorem dX11_stackable_29 : decode cX11_stackable 29 = .ok (.iconst 1, 1) := by decide +kernel
theorem dX11_stackable_30 : decode cX11_stackable 30 = .ok (.istore_n 2, 1) := by decide +kernel
theorem dX11_stackable_31 : decode cX11_stackable 31 = .ok (.iload_n 2, 1) := by decide +kernel
theorem dX11_stackable_32 : decode cX11_stackable 32 = .ok (.iconst 1, 1) := by decide +kernel
theorem dX11_stackable_33 : decode cX11_stackable 33 = .ok (.aload_n 0, 1) := by decide +kernel
theorem dX11_stackable_34 : decode cX11_stackable 34 = .ok (.getfield 7, 3) := by decide +kernel
theorem dX11_stackable_37 : decode cX11_stackable 37 = .ok (.sipush 204, 3) := by decide +kernel
theorem dX11_stackable_40 : decode cX11_stackable 40 = .ok (.iaload, 1) := by decide +kernel
theorem dX11_stackable_41 : decode cX11_stackable 41 = .ok (.ishl, 1) := by decide +kernel
theorem dX11_stackable_42 : decode cX11_stackable 42 = .ok (.if_icmp .ge 62, 3) := by decide +kernel
theorem dX11_stackable_45 : decode cX11_stackable 45 = .ok (.aload_n 0, 1) := by decide +kernel
theorem dX11_stackable_46 : decode cX11_stackable 46 = .ok (.iload_n 2, 1) := by decide +kernel
theorem dX11_stackable_47 : decode cX11_stackable 47 = .ok (.iconst 0, 1) := by decide +kernel
theorem dX11_stackable_48 : decode cX11_stackable 48 = .ok (.invokevirtual 77, 3) := by decide +kernel
theorem dX11_stackable_51 : decode cX11_stackable 51 = .ok (.istore_n 3, 1) := by decide +kernel
theorem dX11_stackable_52 : decode cX11_stackable 52 = .ok (.iload_n 2, 1) := by decide +kernel
theorem dX11_stackable_53 : decode cX11_stackable 53 = .ok (.invokestatic 74, 3) := by decide +kernel
theorem dX11_stackable_56 : decode cX11_stackable 56 = .ok (.iconst 5, 1) := by decide +kernel
theorem dX11_stackable_57 : decode cX11_stackable 57 = .ok (.if_icmp .gt 14, 3) := by decide +kernel
theorem dX11_stackable_60 : decode cX11_stackable 60 = .ok (.iload_n 3, 1) := by decide +kernel
theorem dX11_stackable_61 : decode cX11_stackable 61 = .ok (.sipush 15000, 3) := by decide +kernel
theorem dX11_stackable_64 : decode cX11_stackable 64 = .ok (.if_icmp .gt 7, 3) := by decide +kernel
theorem dX11_stackable_67 : decode cX11_stackable 67 = .ok (.iconst 1, 1) := by decide +kernel
theorem dX11_stackable_68 : decode cX11_stackable 68 = .ok (.goto 4, 3) := by decide +kernel
theorem dX11_stackable_71 : decode cX11_stackable 71 = .ok (.iconst 0, 1) := by decide +kernel
theorem dX11_stackable_72 : decode cX11_stackable 72 = .ok (.istore 4, 2) := by decide +kernel
theorem dX11_stackable_74 : decode cX11_stackable 74 = .ok (.iload 4, 2) := by decide +kernel
theorem dX11_stackable_76 : decode cX11_stackable 76 = .ok (.ifCond .eq 22, 3) := by decide +kernel
theorem dX11_stackable_79 : decode cX11_stackable 79 = .ok (.aload_n 0, 1) := by decide +kernel
theorem dX11_stackable_80 : decode cX11_stackable 80 = .ok (.getfield 25, 3) := by decide +kernel
theorem dX11_stackable_83 : decode cX11_stackable 83 = .ok (.iload_n 3, 1) := by decide +kernel
theorem dX11_stackable_84 : decode cX11_stackable 84 = .ok (.baload, 1) := by decide +kernel
theorem dX11_stackable_85 : decode cX11_stackable 85 = .ok (.ifCond .ne 13, 3) := by decide +kernel
theorem dX11_stackable_88 : decode cX11_stackable 88 = .ok (.aload_n 0, 1) := by decide +kernel
theorem dX11_stackable_89 : decode cX11_stackable 89 = .ok (.getfield 25, 3) := by decide +kernel
theorem dX11_stackable_92 : decode cX11_stackable 92 = .ok (.iload_n 3, 1) := by decide +kernel
theorem dX11_stackable_93 : decode cX11_stackable 93 = .ok (.iconst 1, 1) := by decide +kernel
theorem dX11_stackable_94 : decode cX11_stackable 94 = .ok (.bastore, 1) := by decide +kernel
theorem dX11_stackable_95 : decode cX11_stackable 95 = .ok (.iinc 1 1, 3) := by decide +kernel
theorem dX11_stackable_98 : decode cX11_stackable 98 = .ok (.iinc 2 1, 3) := by decide +kernel
theorem dX11_stackable_101 : decode cX11_stackable 101 = .ok (.goto (-70), 3) := by decide +kernel
theorem dX11_stackable_104 : decode cX11_stackable 104 = .ok (.iload_n 1, 1) := by decide +kernel
theorem dX11_stackable_105 : decode cX11_stackable 105 = .ok (.ireturn, 1) := by decide +kernel
set_option maxHeartbeats 8000000 in
set_option maxRecDepth 100000 in
theorem mX11_stackable (l : Launch) (G : gG) (da : Nat → Nat) (v : vSt) (x : gX) (r : Nat) (hk_r : kd r = 11) (ho : oX11_stackable r v) : MI l yX11_stackable cX11_stackable 5 (some .int) rmX11_stackable [.ref (ga G r)] G da v x 0 0 (fX11_stackable r v).1 (fX11_stackable r v).2 x := by
  refine gofMI (own := RX11) (by decide) rfl (Nat.le_of_ble_eq_true rfl) (fun p e s m args below meth c ls Q X hH hl E => ?_)
  have hx := X.1
  have hb := X.2.1
  have hown := X.2.2.2.1
  have hts := X.2.2.2.2.1
  have hS : va_S (gA G) s.heap s.heap [] := va_S.rf
  unfold oX11_stackable at ho
  have hl : lv_has ls 5 [(0, .ref (ga G r))] := hl
  refine lv_aload_n hx hb dX11_stackable_0 rfl (lv_at hl 0 rfl) ?_
  refine lv_iconst (v := 0) hx hb dX11_stackable_1 (by decide) ?_
  refine p_VernierDrawersModel_29 X hH hS hk_r dX11_stackable_2 (fun H locs v1 ev1 hH hS => ?_)
  have ho := ho v1 ev1
  refine lv_iconst (v := 0) hx hb dX11_stackable_5 (by decide) ?_
  refine lv_istore_n (lv' := [(1, .int 0), (0, .ref (ga G r))]) hx hb dX11_stackable_6 rfl hl (by decide) rfl (fun ls hl => ?_)
  have L5 : ∀ (n : Nat) (i2 : Int32) (v3 : vSt) (da : Nat → Nat) (H : Heap) (locs : List Loc) (ls : Array Slot), olX11_stackable_7 n i2 v3 → Hp G da v3 x H → va_S (gA G) s.heap H locs → lv_has ls 5 [(1, .int i2), (0, .ref (ga G r))] → (∀ (v4 : vSt) (da : Nat → Nat) (H : Heap) (locs : List Loc) (ls : Array Slot), v4 = (lX11_stackable_7 n i2 v3 : vSt) → Hp G da v4 x H → va_S (gA G) s.heap H locs → lv_has ls 5 [(0, .ref (ga G r))] → W p l e rmX11_stackable s m args below meth c H locs 0 0 Q (F0 m 27 ls [])) → W p l e rmX11_stackable s m args below meth c H locs 0 0 Q (F0 m 7 ls []) := by
    clear ho
    intro n
    induction n with
    | zero =>
      intro i2 v3 da H locs ls ho
      exact ho.elim
    | succ n ih =>
      intro i2 v3 da H locs ls ho hH hS hl K6
      refine lv_iload_n hx hb dX11_stackable_7 rfl (lv_at hl 0 rfl) ?_
      refine lv_sipush (v := 15000) hx hb dX11_stackable_8 (by decide) ?_
      refine lv_icmp_gt (tgt := 27) hx hb dX11_stackable_11 (by decide) (fun c4 => ?_) (fun c4 => ?_)
      · skip
        exact K6 _ _ _ _ _ (Eq.symm (((lX11_stackable_7.eq_2 _ _ _)).trans ((if_pos c4).trans rfl))) hH hS (lv_sub hl [1] rfl)
      · have ho := ho c4
        refine lv_aload_n hx hb dX11_stackable_14 rfl (lv_at hl 1 rfl) ?_
        refine g_VernierDrawersModel_25 X hH hk_r dX11_stackable_15 ?_
        refine lv_iload_n hx hb dX11_stackable_18 rfl (lv_at hl 0 rfl) ?_
        refine lv_iconst (v := 0) hx hb dX11_stackable_19 (by decide) ?_
        have hq5 := ho.1
        have ho := ho.2
        refine bast_33 X hH hS kd_467 hq5 rfl rfl dX11_stackable_20 (fun H locs v6 ev6 hH hS => ?_)
        have ho := ho v6 ev6
        refine lv_iinc (v := i2 + 1) (lv' := [(1, .int (i2 + 1)), (0, .ref (ga G r))]) hx hb dX11_stackable_21 hl (k := 0) rfl rfl (by decide) rfl (fun ls hl => ?_)
        refine lv_goto (tgt := 7) hx hb dX11_stackable_24 (by decide) ?_
        replace ev6 := Eq.symm ev6
        subst ev6
        exact ih _ _ _ _ _ _ ho hH hS (lv_sub hl [0, 1] rfl) (fun v4 da H locs ls q0 hH hS hl => K6 v4 da H locs ls (q0.trans (congrArg (fun z : vSt => z) (Eq.symm (((lX11_stackable_7.eq_2 _ _ _)).trans ((if_neg c4).trans rfl))))) hH hS hl)
  have hol := ho.1
  refine L5 (15002) 0 v1 _ _ _ _ hol hH hS (lv_sub hl [0, 1] rfl) (fun v4 da H locs ls ev4 hH hS hl => ?_)
  have ho := ho.2 v4 ev4
  refine lv_iconst (v := 0) hx hb dX11_stackable_27 (by decide) ?_
  refine lv_istore_n (lv' := [(1, .int 0), (0, .ref (ga G r))]) hx hb dX11_stackable_28 rfl hl (by decide) rfl (fun ls hl => ?_)
  refine lv_iconst (v := 1) hx hb dX11_stackable_29 (by decide) ?_
  refine lv_istore_n (lv' := [(2, .int 1), (1, .int 0), (0, .ref (ga G r))]) hx hb dX11_stackable_30 rfl hl (by decide) rfl (fun ls hl => ?_)
  have L12 : ∀ (n : Nat) (i7 : Int32) (i8 : Int32) (v9 : vSt) (da : Nat → Nat) (H : Heap) (locs : List Loc) (ls : Array Slot), olX11_stackable_31 r n i7 i8 v9 → Hp G da v9 x H → va_S (gA G) s.heap H locs → lv_has ls 5 [(2, .int i7), (1, .int i8), (0, .ref (ga G r))] → (∀ (y10 : Int32) (v11 : vSt) (da : Nat → Nat) (H : Heap) (locs : List Loc) (ls : Array Slot), y10 = (lX11_stackable_31 r n i7 i8 v9 : Int32 × vSt).1 → v11 = (lX11_stackable_31 r n i7 i8 v9 : Int32 × vSt).2 → Hp G da v11 x H → va_S (gA G) s.heap H locs → lv_has ls 5 [(1, .int y10)] → W p l e rmX11_stackable s m args below meth c H locs 0 0 Q (F0 m 104 ls [])) → W p l e rmX11_stackable s m args below meth c H locs 0 0 Q (F0 m 31 ls []) := by
    clear ho
    intro n
    induction n with
    | zero =>
      intro i7 i8 v9 da H locs ls ho
      exact ho.elim
    | succ n ih =>
      intro i7 i8 v9 da H locs ls ho hH hS hl K13
      refine lv_iload_n hx hb dX11_stackable_31 rfl (lv_at hl 0 rfl) ?_
      refine lv_iconst (v := 1) hx hb dX11_stackable_32 (by decide) ?_
      refine lv_aload_n hx hb dX11_stackable_33 rfl (lv_at hl 2 rfl) ?_
      refine g_VernierDrawersModel_7 X hH hk_r dX11_stackable_34 ?_
      refine lv_sipush (v := 204) hx hb dX11_stackable_37 (by decide) ?_
      have hq10 := ho.1
      have ho := ho.2
      refine ald_M X hH (Or.inl kd_462) hq10 dX11_stackable_40 ?_
      refine lv_ishl hx hb dX11_stackable_41 ?_
      refine lv_icmp_ge (tgt := 104) hx hb dX11_stackable_42 (by decide) (fun c11 => ?_) (fun c11 => ?_)
      · skip
        exact K13 _ _ _ _ _ _ (pr1 (((lX11_stackable_31.eq_2 _ _ _ _ _)).trans ((if_pos c11).trans rfl))) (pr2 (((lX11_stackable_31.eq_2 _ _ _ _ _)).trans ((if_pos c11).trans rfl))) hH hS (lv_sub hl [1] rfl)
      · have ho := ho c11
        refine lv_aload_n hx hb dX11_stackable_45 rfl (lv_at hl 2 rfl) ?_
        refine lv_iload_n hx hb dX11_stackable_46 rfl (lv_at hl 0 rfl) ?_
        refine lv_iconst (v := 0) hx hb dX11_stackable_47 (by decide) ?_
        have hq12 := ho.1
        have ho := ho.2
        refine k_X11_sum X hS hH hk_r hq12 t_ml_VernierDrawersModel_77 hl.1 (Nat.le_of_ble_eq_true rfl) ⟨Nat.le_of_ble_eq_true rfl, Nat.le_of_ble_eq_true rfl⟩ ⟨Nat.zero_le _, Nat.zero_le _⟩ dX11_stackable_48 ?_
        refine lv_istore_n (lv' := [(3, .int (fX11_sum r i7 0 v9)), (2, .int i7), (1, .int i8), (0, .ref (ga G r))]) hx hb dX11_stackable_51 rfl hl (by decide) rfl (fun ls hl => ?_)
        refine lv_iload_n hx hb dX11_stackable_52 rfl (lv_at hl 1 rfl) ?_
        have hq13 := ho.1
        have ho := ho.2
        refine k_X11_ones X hS hq13 t_ml_VernierDrawersModel_74 hl.1 (Nat.le_of_ble_eq_true rfl) ⟨Nat.le_of_ble_eq_true rfl, Nat.le_of_ble_eq_true rfl⟩ ⟨Nat.zero_le _, Nat.zero_le _⟩ dX11_stackable_53 ?_
        refine lv_iconst (v := 5) hx hb dX11_stackable_56 (by decide) ?_
        have K15 : ∀ (y14 : Int32) (ls : Array Slot), y14 = (if (5 : Int32) < (fX11_ones i7) then 0 else (if (15000 : Int32) < (fX11_sum r i7 0 v9) then 0 else 1) : Int32) → lv_has ls 5 [(3, .int (fX11_sum r i7 0 v9)), (2, .int i7), (1, .int i8), (0, .ref (ga G r))] → W p l e rmX11_stackable s m args below meth c H locs 0 0 Q (F0 m 72 ls [.int y14]) := by
          intro y14 ls ey14 hl
          have ho := ho y14 ey14
          refine lv_istore (lv' := [(4, .int y14), (3, .int (fX11_sum r i7 0 v9)), (2, .int i7), (1, .int i8), (0, .ref (ga G r))]) hx hb dX11_stackable_72 hl (by decide) rfl (fun ls hl => ?_)
          refine lv_iload hx hb dX11_stackable_74 (lv_at hl 0 rfl) ?_
          have K18 : ∀ (y16 : Int32) (v17 : vSt) (da : Nat → Nat) (H : Heap) (locs : List Loc) (ls : Array Slot), y16 = (if (y14 : Int32) = 0 then ((i8, v9)) else (if ((v9 467 (fX11_sum r i7 0 v9 : Int32).toNatClampNeg) : Int32) = 0 then (let v21 : vSt := u2 v9 467 (fX11_sum r i7 0 v9 : Int32).toNatClampNeg 1; (i8 + 1, v21)) else ((i8, v9))) : Int32 × vSt).1 → v17 = (if (y14 : Int32) = 0 then ((i8, v9)) else (if ((v9 467 (fX11_sum r i7 0 v9 : Int32).toNatClampNeg) : Int32) = 0 then (let v21 : vSt := u2 v9 467 (fX11_sum r i7 0 v9 : Int32).toNatClampNeg 1; (i8 + 1, v21)) else ((i8, v9))) : Int32 × vSt).2 → Hp G da v17 x H → va_S (gA G) s.heap H locs → lv_has ls 5 [(2, .int i7), (1, .int y16), (0, .ref (ga G r))] → W p l e rmX11_stackable s m args below meth c H locs 0 0 Q (F0 m 98 ls []) := by
            intro y16 v17 da H locs ls ey16 ev17 hH hS hl
            have ho := ho.2 y16 v17 ey16 ev17
            refine lv_iinc (v := i7 + 1) (lv' := [(2, .int (i7 + 1)), (1, .int y16), (0, .ref (ga G r))]) hx hb dX11_stackable_98 hl (k := 0) rfl rfl (by decide) rfl (fun ls hl => ?_)
            refine lv_goto (tgt := 31) hx hb dX11_stackable_101 (by decide) ?_
            replace ey14 := Eq.symm ey14
            replace ey16 := Eq.symm ey16
            replace ev17 := Eq.symm ev17
            subst ey14 ey16 ev17
            exact ih _ _ _ _ _ _ _ ho hH hS (lv_sub hl [0, 1, 2] rfl) (fun y10 v11 da H locs ls q0 q1 hH hS hl => K13 y10 v11 da H locs ls (q0.trans (congrArg (fun z : Int32 × vSt => z.1) (Eq.symm (((lX11_stackable_31.eq_2 _ _ _ _ _)).trans ((if_neg c11).trans rfl))))) (q1.trans (congrArg (fun z : Int32 × vSt => z.2) (Eq.symm (((lX11_stackable_31.eq_2 _ _ _ _ _)).trans ((if_neg c11).trans rfl))))) hH hS hl)
          have ho := ho.1
          refine lv_if_eq (tgt := 98) hx hb dX11_stackable_76 (by decide) (fun c18 => ?_) (fun c18 => ?_)
          · skip
            exact K18 _ _ _ _ _ _ (pr1 ((if_pos c18).trans rfl)) (pr2 ((if_pos c18).trans rfl)) hH hS (lv_sub hl [2, 3, 4] rfl)
          · have ho := ho c18
            refine lv_aload_n hx hb dX11_stackable_79 rfl (lv_at hl 4 rfl) ?_
            refine g_VernierDrawersModel_25 X hH hk_r dX11_stackable_80 ?_
            refine lv_iload_n hx hb dX11_stackable_83 rfl (lv_at hl 1 rfl) ?_
            have hq19 := ho
            refine bald_33 X hH kd_467 hq19 dX11_stackable_84 ?_
            refine lv_if_ne (tgt := 98) hx hb dX11_stackable_85 (by decide) (fun c20 => ?_) (fun c20 => ?_)
            · skip
              exact K18 _ _ _ _ _ _ (pr1 ((if_neg c18).trans ((if_neg c20).trans rfl))) (pr2 ((if_neg c18).trans ((if_neg c20).trans rfl))) hH hS (lv_sub hl [2, 3, 4] rfl)
            · skip
              refine lv_aload_n hx hb dX11_stackable_88 rfl (lv_at hl 4 rfl) ?_
              refine g_VernierDrawersModel_25 X hH hk_r dX11_stackable_89 ?_
              refine lv_iload_n hx hb dX11_stackable_92 rfl (lv_at hl 1 rfl) ?_
              refine lv_iconst (v := 1) hx hb dX11_stackable_93 (by decide) ?_
              refine bast_33 X hH hS kd_467 hq19 rfl rfl dX11_stackable_94 (fun H locs v21 ev21 hH hS => ?_)
              refine lv_iinc (v := i8 + 1) (lv' := [(1, .int (i8 + 1)), (4, .int y14), (3, .int (fX11_sum r i7 0 v9)), (2, .int i7), (0, .ref (ga G r))]) hx hb dX11_stackable_95 hl (k := 3) rfl rfl (by decide) rfl (fun ls hl => ?_)
              replace ev21 := Eq.symm ev21
              subst ev21
              exact K18 _ _ _ _ _ _ (pr1 ((if_neg c18).trans ((if_pos c20).trans rfl))) (pr2 ((if_neg c18).trans ((if_pos c20).trans rfl))) hH hS (lv_sub hl [3, 0, 4] rfl)
        refine lv_icmp_gt (tgt := 71) hx hb dX11_stackable_57 (by decide) (fun c15 => ?_) (fun c15 => ?_)
        · skip
          refine lv_iconst (v := 0) hx hb dX11_stackable_71 (by decide) ?_
          exact K15 _ _ (Eq.symm ((if_pos c15).trans rfl)) (lv_sub hl [0, 1, 2, 3] rfl)
        · skip
          refine lv_iload_n hx hb dX11_stackable_60 rfl (lv_at hl 0 rfl) ?_
          refine lv_sipush (v := 15000) hx hb dX11_stackable_61 (by decide) ?_
          refine lv_icmp_gt (tgt := 71) hx hb dX11_stackable_64 (by decide) (fun c16 => ?_) (fun c16 => ?_)
          · skip
            refine lv_iconst (v := 0) hx hb dX11_stackable_71 (by decide) ?_
            exact K15 _ _ (Eq.symm ((if_neg c15).trans ((if_pos c16).trans rfl))) (lv_sub hl [0, 1, 2, 3] rfl)
          · skip
            refine lv_iconst (v := 1) hx hb dX11_stackable_67 (by decide) ?_
            refine lv_goto (tgt := 72) hx hb dX11_stackable_68 (by decide) ?_
            exact K15 _ _ (Eq.symm ((if_neg c15).trans ((if_neg c16).trans rfl))) (lv_sub hl [0, 1, 2, 3] rfl)
  have hol := ho
  refine L12 ((Int32.toInt ((1 <<< ((v4 462 (204 : Int32).toNatClampNeg) &&& 31))) - Int32.toInt 1).toNat + 1) 1 0 v4 _ _ _ _ hol hH hS (lv_sub hl [0, 1, 2] rfl) (fun y10 v11 da H locs ls ey10 ev11 hH hS hl => ?_)
  refine lv_iload_n hx hb dX11_stackable_104 rfl (lv_at hl 0 rfl) ?_
  replace ev1 := Eq.symm ev1
  replace ev4 := Eq.symm ev4
  replace ey10 := Eq.symm ey10
  replace ev11 := Eq.symm ev11
  subst ev1 ev4 ey10 ev11
  exact E _ _ _ _ _ _ _ _ _ dX11_stackable_105 rfl (pr1 rfl) (pr2 rfl) hH hS (Nat.zero_le _) (Nat.zero_le _)
theorem k_X11_stackable {p : Program} {l : Launch} {e : Env} {R : Room} {s : State} {m : MethodId} {args : Array Value} {below : List Frame} {meth : Method} {c : Code} {H : Heap} {locs : List Loc} {cells slots : Nat} {Q : State → Prop} {cc : ByteArray} {pc nL : Nat} {ls : Array Slot} {rest : List Value} {G : gG} {own : String} {da : Nat → Nat} {v : vSt} {x : gX} (X : CX G p s m args c cc nL own) (hS : va_S (gA G) s.heap H locs) (hH : Hp G da v x H) {r : Nat} (hk_r : kd r = 11) (ho : oX11_stackable r v) {idx : Nat} (hml : Cond.methodLink own idx yX11_stackable ∈ TT) (hls : ls.size = nL) (hsum : (rest.map fun v => v.category).sum ≤ 8) (hR : rmX11_stackable.frames + 1 ≤ R.frames ∧ 8 + (5 + 11) + rmX11_stackable.locals ≤ R.locals) (hcs : cells ≤ R.cells ∧ slots ≤ R.slots) (hdg : decode cc pc = .ok (.invokevirtual idx, 3)) (kk : ∀ (d : Nat → Nat) (H1 : Heap) (locs1 : List Loc) (v1 : vSt), v1 = (fX11_stackable r v).2 → Hp G d v1 x H1 → va_S (gA G) s.heap H1 locs1 → W p l e R s m args below meth c H1 locs1 cells slots Q (F0 m (pc + 3) ls (.int (fX11_stackable r v).1 :: rest))) : W p l e R s m args below meth c H locs cells slots Q (F0 m pc ls (.ref (ga G r) :: rest)) := c_mi X.2.2.2.2.2.2 (runV (k := 0) X.1 X.2.1 X.2.2.1 X.2.2.2.1 X.2.2.2.2.1 (mX11_stackable l G da v x r hk_r ho) pW_bl hml t_im_X11_stackable t_sel_X11_stackable t_ini_VernierDrawersModel t_code_X11_stackable ⟨rfl, by decide, by decide, by decide +kernel⟩ rfl rfl hR hcs (recvW X hH (by rw [hk_r]; decide) (by rw [hk_r]; decide) (ce_11 hk_r) rfl) (preW X hS hH) rfl hls rfl hsum hdg) hS kk
