/-! VernierDrawers$PieceType: what needs no array of its own; Pieces, Bench: what is read. -/
def fJ6_compare_7cf53 (p1 : Int32) (p2 : Int32) : Int32 := if (p2 : Int32) ≤ p1 then (if (p1 : Int32) = p2 then 0 else 1) else ((-1))
abbrev rmJ6_compare_7cf53 : Room := { frames := 0, cells := 0, slots := 0, locals := 0 }
theorem dJ6_compare_7cf53_0 : decode cJ6_compare_7cf53 0 = .ok (.iload_n 0, 1) := by decide +kernel
theorem dJ6_compare_7cf53_1 : decode cJ6_compare_7cf53 1 = .ok (.iload_n 1, 1) := by decide +kernel
theorem dJ6_compare_7cf53_2 : decode cJ6_compare_7cf53 2 = .ok (.if_icmp .ge 7, 3) := by decide +kernel
theorem dJ6_compare_7cf53_5 : decode cJ6_compare_7cf53 5 = .ok (.iconst (-1), 1) := by decide +kernel
theorem dJ6_compare_7cf53_6 : decode cJ6_compare_7cf53 6 = .ok (.goto 13, 3) := by decide +kernel
theorem dJ6_compare_7cf53_9 : decode cJ6_compare_7cf53 9 = .ok (.iload_n 0, 1) := by decide +kernel
theorem dJ6_compare_7cf53_10 : decode cJ6_compare_7cf53 10 = .ok (.iload_n 1, 1) := by decide +kernel
theorem dJ6_compare_7cf53_11 : decode cJ6_compare_7cf53 11 = .ok (.if_icmp .ne 7, 3) := by decide +kernel
theorem dJ6_compare_7cf53_14 : decode cJ6_compare_7cf53 14 = .ok (.iconst 0, 1) := by decide +kernel
theorem dJ6_compare_7cf53_15 : decode cJ6_compare_7cf53 15 = .ok (.goto 4, 3) := by decide +kernel
theorem dJ6_compare_7cf53_18 : decode cJ6_compare_7cf53 18 = .ok (.iconst 1, 1) := by decide +kernel
theorem dJ6_compare_7cf53_19 : decode cJ6_compare_7cf53 19 = .ok (.ireturn, 1) := by decide +kernel
set_option maxHeartbeats 4000000 in
set_option maxRecDepth 100000 in
theorem mJ6_compare_7cf53 (l : Launch) (G : gG) (p1 : Int32) (p2 : Int32) : PI l yJ6_compare_7cf53 cJ6_compare_7cf53 2 (some .int) rmJ6_compare_7cf53 [.int p1, .int p2] G (fun _ => True) (fJ6_compare_7cf53 p1 p2) := by
  refine gofP (own := RJ6) (by decide) rfl (Nat.le_of_ble_eq_true rfl) (fun p e s m args below meth c ls Q X _ hl E => ?_)
  have hx := X.1
  have hb := X.2.1
  have hown := X.2.2.2.1
  have hts := X.2.2.2.2.1
  have hS : va_S (gA G) s.heap s.heap [] := va_S.rf
  have hl : lv_has ls 2 [(0, .int p1), (1, .int p2)] := hl
  refine lv_iload_n hx hb dJ6_compare_7cf53_0 rfl (lv_at hl 0 rfl) ?_
  refine lv_iload_n hx hb dJ6_compare_7cf53_1 rfl (lv_at hl 1 rfl) ?_
  refine lv_icmp_ge (tgt := 9) hx hb dJ6_compare_7cf53_2 (by decide) (fun c1 => ?_) (fun c1 => ?_)
  · refine lv_iload_n hx hb dJ6_compare_7cf53_9 rfl (lv_at hl 0 rfl) ?_
    refine lv_iload_n hx hb dJ6_compare_7cf53_10 rfl (lv_at hl 1 rfl) ?_
    refine lv_icmp_ne (tgt := 18) hx hb dJ6_compare_7cf53_11 (by decide) (fun c2 => ?_) (fun c2 => ?_)
    · refine lv_iconst (v := 1) hx hb dJ6_compare_7cf53_18 (by decide) ?_
      exact E _ _ _ dJ6_compare_7cf53_19 rfl (Eq.symm ((if_pos c1).trans ((if_neg c2).trans rfl)))
    · refine lv_iconst (v := 0) hx hb dJ6_compare_7cf53_14 (by decide) ?_
      refine lv_goto (tgt := 19) hx hb dJ6_compare_7cf53_15 (by decide) ?_
      exact E _ _ _ dJ6_compare_7cf53_19 rfl (Eq.symm ((if_pos c1).trans ((if_pos c2).trans rfl)))
  · refine lv_iconst (v := (-1)) hx hb dJ6_compare_7cf53_5 (by decide) ?_
    refine lv_goto (tgt := 19) hx hb dJ6_compare_7cf53_6 (by decide) ?_
    exact E _ _ _ dJ6_compare_7cf53_19 rfl (Eq.symm ((if_neg c1).trans rfl))
theorem k_J6_compare_7cf53 {p : Program} {l : Launch} {e : Env} {R : Room} {s : State} {m : MethodId} {args : Array Value} {below : List Frame} {meth : Method} {c : Code} {H : Heap} {locs : List Loc} {cells slots : Nat} {Q : State → Prop} {cc : ByteArray} {pc nL : Nat} {ls : Array Slot} {rest : List Value} {G : gG} {own : String} (X : CX G p s m args c cc nL own) (hS : va_S (gA G) s.heap H locs) {p1 : Int32} {p2 : Int32} {idx : Nat} (hml : Cond.methodLink own idx yJ6_compare_7cf53 ∈ TT) (hls : ls.size = nL) (hsum : (rest.map fun v => v.category).sum ≤ 8) (hR : rmJ6_compare_7cf53.frames + 1 ≤ R.frames ∧ 8 + (2 + 11) + rmJ6_compare_7cf53.locals ≤ R.locals) (hcs : cells ≤ R.cells ∧ slots ≤ R.slots) (hdg : decode cc pc = .ok (.invokestatic idx, 3)) (kk : W p l e R s m args below meth c H locs cells slots Q (F0 m (pc + 3) ls (.int (fJ6_compare_7cf53 p1 p2) :: rest))) : W p l e R s m args below meth c H locs cells slots Q (F0 m pc ls (.int p2 :: .int p1 :: rest)) := c_qi (runS (k := 2) X.1 X.2.1 X.2.2.1 X.2.2.2.1 X.2.2.2.2.1 (mJ6_compare_7cf53 l G p1 p2) (pT_bl (fun _ _ _ _ h => h)) hml t_st_J6_compare_7cf53 t_ini_jl_Integer t_code_J6_compare_7cf53 ⟨by decide, by decide, by decide +kernel⟩ rfl rfl hR hcs (fun U hU hW => ⟨preT X hS U hU hW, trivial⟩) rfl hls rfl hsum hdg) (fun _ h => h ▸ kk)
def fX4_begin (r : Nat) (p1 : Int32) (p2 : Int32) (p3 : Int32) (p4 : Int32) (v : vSt) : vSt := let v1 := u2 v r 0 p1; let v2 := u2 v1 r 1 p2; let v3 := u2 v2 r 2 p3; let v4 := u2 v3 r 3 p4; let v5 := u2 v4 r 4 0; let v6 := u2 v5 r 5 0; let v7 := u2 v6 r 7 0; let v8 := u2 v7 r 9 0; v8
abbrev rmX4_begin : Room := { frames := 0, cells := 0, slots := 0, locals := 0 }
theorem dX4_begin_0 : decode cX4_begin 0 = .ok (.aload_n 0, 1) := by decide +kernel
theorem dX4_begin_1 : decode cX4_begin 1 = .ok (.iload_n 1, 1) := by decide +kernel
theorem dX4_begin_2 : decode cX4_begin 2 = .ok (.putfield 18, 3) := by decide +kernel
theorem dX4_begin_5 : decode cX4_begin 5 = .ok (.aload_n 0, 1) := by decide +kernel
theorem dX4_begin_6 : decode cX4_begin 6 = .ok (.iload_n 2, 1) := by decide +kernel
theorem dX4_begin_7 : decode cX4_begin 7 = .ok (.putfield 22, 3) := by decide +kernel
theorem dX4_begin_10 : decode cX4_begin 10 = .ok (.aload_n 0, 1) := by decide +kernel
theorem dX4_begin_11 : decode cX4_begin 11 = .ok (.iload_n 3, 1) := by decide +kernel
theorem dX4_begin_12 : decode cX4_begin 12 = .ok (.putfield 25, 3) := by decide +kernel
theorem dX4_begin_15 : decode cX4_begin 15 = .ok (.aload_n 0, 1) := by decide +kernel
theorem dX4_begin_16 : decode cX4_begin 16 = .ok (.iload 4, 2) := by decide +kernel
theorem dX4_begin_18 : decode cX4_begin 18 = .ok (.putfield 28, 3) := by decide +kernel
theorem dX4_begin_21 : decode cX4_begin 21 = .ok (.aload_n 0, 1) := by decide +kernel
theorem dX4_begin_22 : decode cX4_begin 22 = .ok (.iconst 0, 1) := by decide +kernel
theorem dX4_begin_23 : decode cX4_begin 23 = .ok (.putfield 31, 3) := by decide +kernel
theorem dX4_begin_26 : decode cX4_begin 26 = .ok (.aload_n 0, 1) := by decide +kernel
theorem dX4_begin_27 : decode cX4_begin 27 = .ok (.iconst 0, 1) := by decide +kernel
theorem dX4_begin_28 : decode cX4_begin 28 = .ok (.putfield 34, 3) := by decide +kernel
theorem dX4_begin_31 : decode cX4_begin 31 = .ok (.aload_n 0, 1) := by decide +kernel
theorem dX4_begin_32 : decode cX4_begin 32 = .ok (.iconst 0, 1) := by decide +kernel
theorem dX4_begin_33 : decode cX4_begin 33 = .ok (.putfield 38, 3) := by decide +kernel
theorem dX4_begin_36 : decode cX4_begin 36 = .ok (.aload_n 0, 1) := by decide +kernel
theorem dX4_begin_37 : decode cX4_begin 37 = .ok (.iconst 0, 1) := by decide +kernel
theorem dX4_begin_38 : decode cX4_begin 38 = .ok (.putfield 41, 3) := by decide +kernel
theorem dX4_begin_41 : decode cX4_begin 41 = .ok (.return_, 1) := by decide +kernel
set_option maxHeartbeats 4000000 in
set_option maxRecDepth 100000 in
theorem mX4_begin (l : Launch) (G : gG) (da : Nat → Nat) (v : vSt) (x : gX) (r : Nat) (hk_r : kd r = 4) (p1 : Int32) (p2 : Int32) (p3 : Int32) (p4 : Int32) : MV l yX4_begin cX4_begin 5 none rmX4_begin [.ref (ga G r), .int p1, .int p2, .int p3, .int p4] G da v x 0 0 (fX4_begin r p1 p2 p3 p4 v) x := by
  refine gofMV (own := RX4) (by decide) rfl (Nat.le_of_ble_eq_true rfl) (fun p e s m args below meth c ls Q X hH hl E => ?_)
  have hx := X.1
  have hb := X.2.1
  have hown := X.2.2.2.1
  have hts := X.2.2.2.2.1
  have hS : va_S (gA G) s.heap s.heap [] := va_S.rf
  have hl : lv_has ls 5 [(0, .ref (ga G r)), (1, .int p1), (2, .int p2), (3, .int p3), (4, .int p4)] := hl
  refine lv_aload_n hx hb dX4_begin_0 rfl (lv_at hl 0 rfl) ?_
  refine lv_iload_n hx hb dX4_begin_1 rfl (lv_at hl 1 rfl) ?_
  refine p_PieceType_18 X hH hS hk_r dX4_begin_2 (fun H locs v1 ev1 hH hS => ?_)
  refine lv_aload_n hx hb dX4_begin_5 rfl (lv_at hl 0 rfl) ?_
  refine lv_iload_n hx hb dX4_begin_6 rfl (lv_at hl 2 rfl) ?_
  refine p_PieceType_22 X hH hS hk_r dX4_begin_7 (fun H locs v2 ev2 hH hS => ?_)
  refine lv_aload_n hx hb dX4_begin_10 rfl (lv_at hl 0 rfl) ?_
  refine lv_iload_n hx hb dX4_begin_11 rfl (lv_at hl 3 rfl) ?_
  refine p_PieceType_25 X hH hS hk_r dX4_begin_12 (fun H locs v3 ev3 hH hS => ?_)
  refine lv_aload_n hx hb dX4_begin_15 rfl (lv_at hl 0 rfl) ?_
  refine lv_iload hx hb dX4_begin_16 (lv_at hl 4 rfl) ?_
  refine p_PieceType_28 X hH hS hk_r dX4_begin_18 (fun H locs v4 ev4 hH hS => ?_)
  refine lv_aload_n hx hb dX4_begin_21 rfl (lv_at hl 0 rfl) ?_
  refine lv_iconst (v := 0) hx hb dX4_begin_22 (by decide) ?_
  refine p_PieceType_31 X hH hS hk_r dX4_begin_23 (fun H locs v5 ev5 hH hS => ?_)
  refine lv_aload_n hx hb dX4_begin_26 rfl (lv_at hl 0 rfl) ?_
  refine lv_iconst (v := 0) hx hb dX4_begin_27 (by decide) ?_
  refine p_PieceType_34 X hH hS hk_r rfl rfl dX4_begin_28 (fun H locs v6 ev6 hH hS => ?_)
  refine lv_aload_n hx hb dX4_begin_31 rfl (lv_at hl 0 rfl) ?_
  refine lv_iconst (v := 0) hx hb dX4_begin_32 (by decide) ?_
  refine p_PieceType_38 X hH hS hk_r dX4_begin_33 (fun H locs v7 ev7 hH hS => ?_)
  refine lv_aload_n hx hb dX4_begin_36 rfl (lv_at hl 0 rfl) ?_
  refine lv_iconst (v := 0) hx hb dX4_begin_37 (by decide) ?_
  refine p_PieceType_41 X hH hS hk_r dX4_begin_38 (fun H locs v8 ev8 hH hS => ?_)
  subst ev1 ev2 ev3 ev4 ev5 ev6 ev7 ev8
  exact E _ _ _ _ _ _ _ _ dX4_begin_41 (Eq.symm rfl) hH hS (Nat.zero_le _) (Nat.zero_le _)
theorem k_X4_begin {p : Program} {l : Launch} {e : Env} {R : Room} {s : State} {m : MethodId} {args : Array Value} {below : List Frame} {meth : Method} {c : Code} {H : Heap} {locs : List Loc} {cells slots : Nat} {Q : State → Prop} {cc : ByteArray} {pc nL : Nat} {ls : Array Slot} {rest : List Value} {G : gG} {own : String} {da : Nat → Nat} {v : vSt} {x : gX} (X : CX G p s m args c cc nL own) (hS : va_S (gA G) s.heap H locs) (hH : Hp G da v x H) {r : Nat} (hk_r : kd r = 4) {p1 : Int32} {p2 : Int32} {p3 : Int32} {p4 : Int32} {idx : Nat} (hml : Cond.methodLink own idx yX4_begin ∈ TT) (hls : ls.size = nL) (hsum : (rest.map fun v => v.category).sum ≤ 8) (hR : rmX4_begin.frames + 1 ≤ R.frames ∧ 8 + (5 + 11) + rmX4_begin.locals ≤ R.locals) (hcs : cells ≤ R.cells ∧ slots ≤ R.slots) (hdg : decode cc pc = .ok (.invokevirtual idx, 3)) (kk : ∀ (d : Nat → Nat) (H1 : Heap) (locs1 : List Loc) (v1 : vSt), v1 = fX4_begin r p1 p2 p3 p4 v → Hp G d v1 x H1 → va_S (gA G) s.heap H1 locs1 → W p l e R s m args below meth c H1 locs1 cells slots Q (F0 m (pc + 3) ls rest)) : W p l e R s m args below meth c H locs cells slots Q (F0 m pc ls (.int p4 :: .int p3 :: .int p2 :: .int p1 :: .ref (ga G r) :: rest)) := c_mv X.2.2.2.2.2.2 (runV (k := 4) X.1 X.2.1 X.2.2.1 X.2.2.2.1 X.2.2.2.2.1 (mX4_begin l G da v x r hk_r p1 p2 p3 p4) pW_bl hml t_im_X4_begin t_sel_X4_begin t_ini_PieceType t_code_X4_begin ⟨rfl, by decide, by decide, by decide +kernel⟩ rfl rfl hR hcs (recvW X hH (by rw [hk_r]; decide) (by rw [hk_r]; decide) (ce_4 hk_r) rfl) (preW X hS hH) rfl hls rfl hsum hdg) hS kk
def fX4_width (r : Nat) (v : vSt) : Int32 := (v r 2) - (v r 1)
abbrev rmX4_width : Room := { frames := 0, cells := 0, slots := 0, locals := 0 }
theorem dX4_width_0 : decode cX4_width 0 = .ok (.aload_n 0, 1) := by decide +kernel
theorem dX4_width_1 : decode cX4_width 1 = .ok (.getfield 25, 3) := by decide +kernel
theorem dX4_width_4 : decode cX4_width 4 = .ok (.aload_n 0, 1) := by decide +kernel
theorem dX4_width_5 : decode cX4_width 5 = .ok (.getfield 22, 3) := by decide +kernel
theorem dX4_width_8 : decode cX4_width 8 = .ok (.isub, 1) := by decide +kernel
theorem dX4_width_9 : decode cX4_width 9 = .ok (.ireturn, 1) := by decide +kernel
set_option maxHeartbeats 4000000 in
set_option maxRecDepth 100000 in
theorem mX4_width (l : Launch) (G : gG) (da : Nat → Nat) (v : vSt) (x : gX) (r : Nat) (hk_r : kd r = 4) : QI l yX4_width cX4_width 1 (some .int) rmX4_width [.ref (ga G r)] (pW G da v x) (fX4_width r v) := by
  refine gofQ (own := RX4) (by decide) rfl (Nat.le_of_ble_eq_true rfl) (fun p e s m args below meth c ls Q X hH hl E => ?_)
  have hx := X.1
  have hb := X.2.1
  have hown := X.2.2.2.1
  have hts := X.2.2.2.2.1
  have hS : va_S (gA G) s.heap s.heap [] := va_S.rf
  have hl : lv_has ls 1 [(0, .ref (ga G r))] := hl
  refine lv_aload_n hx hb dX4_width_0 rfl (lv_at hl 0 rfl) ?_
  refine g_PieceType_25 X hH hk_r dX4_width_1 ?_
  refine lv_aload_n hx hb dX4_width_4 rfl (lv_at hl 0 rfl) ?_
  refine g_PieceType_22 X hH hk_r dX4_width_5 ?_
  refine lv_isub hx hb dX4_width_8 ?_
  exact E _ _ _ dX4_width_9 rfl (Eq.symm rfl)
theorem k_X4_width {p : Program} {l : Launch} {e : Env} {R : Room} {s : State} {m : MethodId} {args : Array Value} {below : List Frame} {meth : Method} {c : Code} {H : Heap} {locs : List Loc} {cells slots : Nat} {Q : State → Prop} {cc : ByteArray} {pc nL : Nat} {ls : Array Slot} {rest : List Value} {G : gG} {own : String} {da : Nat → Nat} {v : vSt} {x : gX} (X : CX G p s m args c cc nL own) (hS : va_S (gA G) s.heap H locs) (hH : Hp G da v x H) {r : Nat} (hk_r : kd r = 4) {idx : Nat} (hml : Cond.methodLink own idx yX4_width ∈ TT) (hls : ls.size = nL) (hsum : (rest.map fun v => v.category).sum ≤ 8) (hR : rmX4_width.frames + 1 ≤ R.frames ∧ 8 + (1 + 11) + rmX4_width.locals ≤ R.locals) (hcs : cells ≤ R.cells ∧ slots ≤ R.slots) (hdg : decode cc pc = .ok (.invokevirtual idx, 3)) (kk : W p l e R s m args below meth c H locs cells slots Q (F0 m (pc + 3) ls (.int (fX4_width r v) :: rest))) : W p l e R s m args below meth c H locs cells slots Q (F0 m pc ls (.ref (ga G r) :: rest)) := c_qi (runV (k := 0) X.1 X.2.1 X.2.2.1 X.2.2.2.1 X.2.2.2.2.1 (mX4_width l G da v x r hk_r) pW_bl hml t_im_X4_width t_sel_X4_width t_ini_PieceType t_code_X4_width ⟨rfl, by decide, by decide, by decide +kernel⟩ rfl rfl hR hcs (recvW X hH (by rw [hk_r]; decide) (by rw [hk_r]; decide) (ce_4 hk_r) rfl) (preW X hS hH) rfl hls rfl hsum hdg) (fun _ h => h ▸ kk)
def fX4_resultOf (r : Nat) (p1 : Int32) (v : vSt) : Int32 := if (p1 : Int32) ≤ (v r 2) then (if ((v r 1) : Int32) ≤ p1 then 0 else 2) else 1
abbrev rmX4_resultOf : Room := { frames := 0, cells := 0, slots := 0, locals := 0 }
theorem dX4_resultOf_0 : decode cX4_resultOf 0 = .ok (.iload_n 1, 1) := by decide +kernel
theorem dX4_resultOf_1 : decode cX4_resultOf 1 = .ok (.aload_n 0, 1) := by decide +kernel
theorem dX4_resultOf_2 : decode cX4_resultOf 2 = .ok (.getfield 25, 3) := by decide +kernel
theorem dX4_resultOf_5 : decode cX4_resultOf 5 = .ok (.if_icmp .le 5, 3) := by decide +kernel
theorem dX4_resultOf_8 : decode cX4_resultOf 8 = .ok (.iconst 1, 1) := by decide +kernel
theorem dX4_resultOf_9 : decode cX4_resultOf 9 = .ok (.ireturn, 1) := by decide +kernel
theorem dX4_resultOf_10 : decode cX4_resultOf 10 = .ok (.iload_n 1, 1) := by decide +kernel
theorem dX4_resultOf_11 : decode cX4_resultOf 11 = .ok (.aload_n 0, 1) := by decide +kernel
theorem dX4_resultOf_12 : decode cX4_resultOf 12 = .ok (.getfield 22, 3) := by decide +kernel
theorem dX4_resultOf_15 : decode cX4_resultOf 15 = .ok (.if_icmp .ge 7, 3) := by decide +kernel
theorem dX4_resultOf_18 : decode cX4_resultOf 18 = .ok (.iconst 2, 1) := by decide +kernel
theorem dX4_resultOf_19 : decode cX4_resultOf 19 = .ok (.goto 4, 3) := by decide +kernel
theorem dX4_resultOf_22 : decode cX4_resultOf 22 = .ok (.iconst 0, 1) := by decide +kernel
theorem dX4_resultOf_23 : decode cX4_resultOf 23 = .ok (.ireturn, 1) := by decide +kernel
set_option maxHeartbeats 4000000 in
set_option maxRecDepth 100000 in
theorem mX4_resultOf (l : Launch) (G : gG) (da : Nat → Nat) (v : vSt) (x : gX) (r : Nat) (hk_r : kd r = 4) (p1 : Int32) : QI l yX4_resultOf cX4_resultOf 2 (some .int) rmX4_resultOf [.ref (ga G r), .int p1] (pW G da v x) (fX4_resultOf r p1 v) := by
  refine gofQ (own := RX4) (by decide) rfl (Nat.le_of_ble_eq_true rfl) (fun p e s m args below meth c ls Q X hH hl E => ?_)
  have hx := X.1
  have hb := X.2.1
  have hown := X.2.2.2.1
  have hts := X.2.2.2.2.1
  have hS : va_S (gA G) s.heap s.heap [] := va_S.rf
  have hl : lv_has ls 2 [(0, .ref (ga G r)), (1, .int p1)] := hl
  refine lv_iload_n hx hb dX4_resultOf_0 rfl (lv_at hl 1 rfl) ?_
  refine lv_aload_n hx hb dX4_resultOf_1 rfl (lv_at hl 0 rfl) ?_
  refine g_PieceType_25 X hH hk_r dX4_resultOf_2 ?_
  refine lv_icmp_le (tgt := 10) hx hb dX4_resultOf_5 (by decide) (fun c1 => ?_) (fun c1 => ?_)
  · refine lv_iload_n hx hb dX4_resultOf_10 rfl (lv_at hl 1 rfl) ?_
    refine lv_aload_n hx hb dX4_resultOf_11 rfl (lv_at hl 0 rfl) ?_
    refine g_PieceType_22 X hH hk_r dX4_resultOf_12 ?_
    refine lv_icmp_ge (tgt := 22) hx hb dX4_resultOf_15 (by decide) (fun c2 => ?_) (fun c2 => ?_)
    · refine lv_iconst (v := 0) hx hb dX4_resultOf_22 (by decide) ?_
      exact E _ _ _ dX4_resultOf_23 rfl (Eq.symm ((if_pos c1).trans ((if_pos c2).trans rfl)))
    · refine lv_iconst (v := 2) hx hb dX4_resultOf_18 (by decide) ?_
      refine lv_goto (tgt := 23) hx hb dX4_resultOf_19 (by decide) ?_
      exact E _ _ _ dX4_resultOf_23 rfl (Eq.symm ((if_pos c1).trans ((if_neg c2).trans rfl)))
  · refine lv_iconst (v := 1) hx hb dX4_resultOf_8 (by decide) ?_
    exact E _ _ _ dX4_resultOf_9 rfl (Eq.symm ((if_neg c1).trans rfl))
theorem k_X4_resultOf {p : Program} {l : Launch} {e : Env} {R : Room} {s : State} {m : MethodId} {args : Array Value} {below : List Frame} {meth : Method} {c : Code} {H : Heap} {locs : List Loc} {cells slots : Nat} {Q : State → Prop} {cc : ByteArray} {pc nL : Nat} {ls : Array Slot} {rest : List Value} {G : gG} {own : String} {da : Nat → Nat} {v : vSt} {x : gX} (X : CX G p s m args c cc nL own) (hS : va_S (gA G) s.heap H locs) (hH : Hp G da v x H) {r : Nat} (hk_r : kd r = 4) {p1 : Int32} {idx : Nat} (hml : Cond.methodLink own idx yX4_resultOf ∈ TT) (hls : ls.size = nL) (hsum : (rest.map fun v => v.category).sum ≤ 8) (hR : rmX4_resultOf.frames + 1 ≤ R.frames ∧ 8 + (2 + 11) + rmX4_resultOf.locals ≤ R.locals) (hcs : cells ≤ R.cells ∧ slots ≤ R.slots) (hdg : decode cc pc = .ok (.invokevirtual idx, 3)) (kk : W p l e R s m args below meth c H locs cells slots Q (F0 m (pc + 3) ls (.int (fX4_resultOf r p1 v) :: rest))) : W p l e R s m args below meth c H locs cells slots Q (F0 m pc ls (.int p1 :: .ref (ga G r) :: rest)) := c_qi (runV (k := 1) X.1 X.2.1 X.2.2.1 X.2.2.2.1 X.2.2.2.2.1 (mX4_resultOf l G da v x r hk_r p1) pW_bl hml t_im_X4_resultOf t_sel_X4_resultOf t_ini_PieceType t_code_X4_resultOf ⟨rfl, by decide, by decide, by decide +kernel⟩ rfl rfl hR hcs (recvW X hH (by rw [hk_r]; decide) (by rw [hk_r]; decide) (ce_4 hk_r) rfl) (preW X hS hH) rfl hls rfl hsum hdg) (fun _ h => h ▸ kk)
def fX4_isNearLimit (r : Nat) (p1 : Int32) (p2 : Int32) (v : vSt) : Int32 := if ((if 0 ≤ p1 - (v r 1) then p1 - (v r 1) else 0 - (p1 - (v r 1)) : Int32) : Int32) < p2 then 1 else (if (p2 : Int32) ≤ (if 0 ≤ p1 - (v r 2) then p1 - (v r 2) else 0 - (p1 - (v r 2)) : Int32) then 0 else 1)
abbrev rmX4_isNearLimit : Room := { frames := 1, cells := 0, slots := 0, locals := 21 }
theorem dX4_isNearLimit_0 : decode cX4_isNearLimit 0 = .ok (.iload_n 1, 1) := by decide +kernel
theorem dX4_isNearLimit_1 : decode cX4_isNearLimit 1 = .ok (.aload_n 0, 1) := by decide +kernel
theorem dX4_isNearLimit_2 : decode cX4_isNearLimit 2 = .ok (.getfield 22, 3) := by decide +kernel
theorem dX4_isNearLimit_5 : decode cX4_isNearLimit 5 = .ok (.isub, 1) := by decide +kernel
theorem dX4_isNearLimit_6 : decode cX4_isNearLimit 6 = .ok (.invokestatic 50, 3) := by decide +kernel
theorem dX4_isNearLimit_9 : decode cX4_isNearLimit 9 = .ok (.iload_n 2, 1) := by decide +kernel
theorem dX4_isNearLimit_10 : decode cX4_isNearLimit 10 = .ok (.if_icmp .lt 16, 3) := by decide +kernel
theorem dX4_isNearLimit_13 : decode cX4_isNearLimit 13 = .ok (.iload_n 1, 1) := by decide +kernel
theorem dX4_isNearLimit_14 : decode cX4_isNearLimit 14 = .ok (.aload_n 0, 1) := by decide +kernel
theorem dX4_isNearLimit_15 : decode cX4_isNearLimit 15 = .ok (.getfield 25, 3) := by decide +kernel
theorem dX4_isNearLimit_18 : decode cX4_isNearLimit 18 = .ok (.isub, 1) := by decide +kernel
theorem dX4_isNearLimit_19 : decode cX4_isNearLimit 19 = .ok (.invokestatic 50, 3) := by decide +kernel
theorem dX4_isNearLimit_22 : decode cX4_isNearLimit 22 = .ok (.iload_n 2, 1) := by decide +kernel
theorem dX4_isNearLimit_23 : decode cX4_isNearLimit 23 = .ok (.if_icmp .ge 7, 3) := by decide +kernel
theorem dX4_isNearLimit_26 : decode cX4_isNearLimit 26 = .ok (.iconst 1, 1) := by decide +kernel
theorem dX4_isNearLimit_27 : decode cX4_isNearLimit 27 = .ok (.goto 4, 3) := by decide +kernel
theorem dX4_isNearLimit_30 : decode cX4_isNearLimit 30 = .ok (.iconst 0, 1) := by decide +kernel
theorem dX4_isNearLimit_31 : decode cX4_isNearLimit 31 = .ok (.ireturn, 1) := by decide +kernel
set_option maxHeartbeats 4000000 in
set_option maxRecDepth 100000 in
theorem mX4_isNearLimit (l : Launch) (G : gG) (da : Nat → Nat) (v : vSt) (x : gX) (r : Nat) (hk_r : kd r = 4) (p1 : Int32) (p2 : Int32) : QI l yX4_isNearLimit cX4_isNearLimit 3 (some .boolean) rmX4_isNearLimit [.ref (ga G r), .int p1, .int p2] (pW G da v x) (fX4_isNearLimit r p1 p2 v) := by
  refine gofQ (own := RX4) (by decide) rfl (Nat.le_of_ble_eq_true rfl) (fun p e s m args below meth c ls Q X hH hl E => ?_)
  have hx := X.1
  have hb := X.2.1
  have hown := X.2.2.2.1
  have hts := X.2.2.2.2.1
  have hS : va_S (gA G) s.heap s.heap [] := va_S.rf
  have hl : lv_has ls 3 [(0, .ref (ga G r)), (1, .int p1), (2, .int p2)] := hl
  refine lv_iload_n hx hb dX4_isNearLimit_0 rfl (lv_at hl 1 rfl) ?_
  refine lv_aload_n hx hb dX4_isNearLimit_1 rfl (lv_at hl 0 rfl) ?_
  refine g_PieceType_22 X hH hk_r dX4_isNearLimit_2 ?_
  refine lv_isub hx hb dX4_isNearLimit_5 ?_
  refine k_mabs X t_ml_PieceType_50 hl.1 ⟨Nat.le_of_ble_eq_true rfl, Nat.le_of_ble_eq_true rfl⟩ ⟨Nat.zero_le _, Nat.zero_le _⟩ dX4_isNearLimit_6 ?_
  refine lv_iload_n hx hb dX4_isNearLimit_9 rfl (lv_at hl 2 rfl) ?_
  refine lv_icmp_lt (tgt := 26) hx hb dX4_isNearLimit_10 (by decide) (fun c1 => ?_) (fun c1 => ?_)
  · refine lv_iconst (v := 1) hx hb dX4_isNearLimit_26 (by decide) ?_
    refine lv_goto (tgt := 31) hx hb dX4_isNearLimit_27 (by decide) ?_
    exact E _ _ _ dX4_isNearLimit_31 rfl (Eq.symm ((if_pos c1).trans rfl))
  · refine lv_iload_n hx hb dX4_isNearLimit_13 rfl (lv_at hl 1 rfl) ?_
    refine lv_aload_n hx hb dX4_isNearLimit_14 rfl (lv_at hl 0 rfl) ?_
    refine g_PieceType_25 X hH hk_r dX4_isNearLimit_15 ?_
    refine lv_isub hx hb dX4_isNearLimit_18 ?_
    refine k_mabs X t_ml_PieceType_50 hl.1 ⟨Nat.le_of_ble_eq_true rfl, Nat.le_of_ble_eq_true rfl⟩ ⟨Nat.zero_le _, Nat.zero_le _⟩ dX4_isNearLimit_19 ?_
    refine lv_iload_n hx hb dX4_isNearLimit_22 rfl (lv_at hl 2 rfl) ?_
    refine lv_icmp_ge (tgt := 30) hx hb dX4_isNearLimit_23 (by decide) (fun c2 => ?_) (fun c2 => ?_)
    · refine lv_iconst (v := 0) hx hb dX4_isNearLimit_30 (by decide) ?_
      exact E _ _ _ dX4_isNearLimit_31 rfl (Eq.symm ((if_neg c1).trans ((if_pos c2).trans rfl)))
    · refine lv_iconst (v := 1) hx hb dX4_isNearLimit_26 (by decide) ?_
      refine lv_goto (tgt := 31) hx hb dX4_isNearLimit_27 (by decide) ?_
      exact E _ _ _ dX4_isNearLimit_31 rfl (Eq.symm ((if_neg c1).trans ((if_neg c2).trans rfl)))
theorem k_X4_isNearLimit {p : Program} {l : Launch} {e : Env} {R : Room} {s : State} {m : MethodId} {args : Array Value} {below : List Frame} {meth : Method} {c : Code} {H : Heap} {locs : List Loc} {cells slots : Nat} {Q : State → Prop} {cc : ByteArray} {pc nL : Nat} {ls : Array Slot} {rest : List Value} {G : gG} {own : String} {da : Nat → Nat} {v : vSt} {x : gX} (X : CX G p s m args c cc nL own) (hS : va_S (gA G) s.heap H locs) (hH : Hp G da v x H) {r : Nat} (hk_r : kd r = 4) {p1 : Int32} {p2 : Int32} {idx : Nat} (hml : Cond.methodLink own idx yX4_isNearLimit ∈ TT) (hls : ls.size = nL) (hsum : (rest.map fun v => v.category).sum ≤ 8) (hR : rmX4_isNearLimit.frames + 1 ≤ R.frames ∧ 8 + (3 + 11) + rmX4_isNearLimit.locals ≤ R.locals) (hcs : cells ≤ R.cells ∧ slots ≤ R.slots) (hdg : decode cc pc = .ok (.invokevirtual idx, 3)) (kk : W p l e R s m args below meth c H locs cells slots Q (F0 m (pc + 3) ls (.int (fX4_isNearLimit r p1 p2 v) :: rest))) : W p l e R s m args below meth c H locs cells slots Q (F0 m pc ls (.int p2 :: .int p1 :: .ref (ga G r) :: rest)) := c_qi (runV (k := 2) X.1 X.2.1 X.2.2.1 X.2.2.2.1 X.2.2.2.2.1 (mX4_isNearLimit l G da v x r hk_r p1 p2) pW_bl hml t_im_X4_isNearLimit t_sel_X4_isNearLimit t_ini_PieceType t_code_X4_isNearLimit ⟨rfl, by decide, by decide, by decide +kernel⟩ rfl rfl hR hcs (recvW X hH (by rw [hk_r]; decide) (by rw [hk_r]; decide) (ce_4 hk_r) rfl) (preW X hS hH) rfl hls rfl hsum hdg) (fun _ h => h ▸ kk)
theorem b01_X4_isNearLimit {r : Nat} {p1 : Int32} {p2 : Int32} {v : vSt} : fX4_isNearLimit r p1 p2 v = 0 ∨ fX4_isNearLimit r p1 p2 v = 1 := by
  unfold fX4_isNearLimit
  (try dsimp only); (repeat' split) <;> simp
def lX4_badOfLatest_13 (v : vSt) (r : Nat) : Nat → Int32 → Int32 → Int32
  | 0, i1, i2 => i2
  | n + 1, i1, i2 => if ((v r 7) : Int32) ≤ i1 then i2 else (lX4_badOfLatest_13 v r n (i1 + 1) (i2 + (fX10_entry 10 (v (r + 5)) i1)))
def fX4_badOfLatest (r : Nat) (p1 : Int32) (v : vSt) : Int32 := let y3 : Int32 := (lX4_badOfLatest_13 v r ((Int32.toInt ((v r 7)) - Int32.toInt (if 0 < ((v r 7) - p1) then (v r 7) - p1 else 0 : Int32)).toNat + 1) (if 0 < ((v r 7) - p1) then (v r 7) - p1 else 0 : Int32) 0); y3
abbrev rmX4_badOfLatest : Room := { frames := 1, cells := 0, slots := 0, locals := 21 }
theorem dX4_badOfLatest_0 : decode cX4_badOfLatest 0 = .ok (.iconst 0, 1) := by decide +kernel
theorem dX4_badOfLatest_1 : decode cX4_badOfLatest 1 = .ok (.istore_n 2, 1) := by decide +kernel
theorem dX4_badOfLatest_2 : decode cX4_badOfLatest 2 = .ok (.iconst 0, 1) := by decide +kernel
theorem dX4_badOfLatest_3 : decode cX4_badOfLatest 3 = .ok (.aload_n 0, 1) := by decide +kernel
theorem dX4_badOfLatest_4 : decode cX4_badOfLatest 4 = .ok (.getfield 38, 3) := by decide +kernel
theorem dX4_badOfLatest_7 : decode cX4_badOfLatest 7 = .ok (.iload_n 1, 1) := by decide +kernel
theorem dX4_badOfLatest_8 : decode cX4_badOfLatest 8 = .ok (.isub, 1) := by decide +kernel
theorem dX4_badOfLatest_9 : decode cX4_badOfLatest 9 = .ok (.invokestatic 71, 3) := by decide +kernel
theorem dX4_badOfLatest_12 : decode cX4_badOfLatest 12 = .ok (.istore_n 3, 1) := by decide +kernel
theorem dX4_badOfLatest_13 : decode cX4_badOfLatest 13 = .ok (.iload_n 3, 1) := by decide +kernel
theorem dX4_badOfLatest_14 : decode cX4_badOfLatest 14 = .ok (.aload_n 0, 1) := by decide +kernel
theorem dX4_badOfLatest_15 : decode cX4_badOfLatest 15 = .ok (.getfield 38, 3) := by decide +kernel
theorem dX4_badOfLatest_18 : decode cX4_badOfLatest 18 = .ok (.if_icmp .ge 20, 3) := by decide +kernel
theorem dX4_badOfLatest_21 : decode cX4_badOfLatest 21 = .ok (.iload_n 2, 1) := by decide +kernel
theorem dX4_badOfLatest_22 : decode cX4_badOfLatest 22 = .ok (.aload_n 0, 1) := by decide +kernel
theorem dX4_badOfLatest_23 : decode cX4_badOfLatest 23 = .ok (.getfield 9, 3) := by decide +kernel
theorem dX4_badOfLatest_26 : decode cX4_badOfLatest 26 = .ok (.iload_n 3, 1) := by decide +kernel
theorem dX4_badOfLatest_27 : decode cX4_badOfLatest 27 = .ok (.invokestatic 75, 3) := by decide +kernel
theorem dX4_badOfLatest_30 : decode cX4_badOfLatest 30 = .ok (.iadd, 1) := by decide +kernel
theorem dX4_badOfLatest_31 : decode cX4_badOfLatest 31 = .ok (.istore_n 2, 1) := by decide +kernel
theorem dX4_badOfLatest_32 : decode cX4_badOfLatest 32 = .ok (.iinc 3 1, 3) := by decide +kernel
theorem dX4_badOfLatest_35 : decode cX4_badOfLatest 35 = .ok (.goto (-22), 3) := by decide +kernel
theorem dX4_badOfLatest_38 : decode cX4_badOfLatest 38 = .ok (.iload_n 2, 1) := by decide +kernel
theorem dX4_badOfLatest_39 : decode cX4_badOfLatest 39 = .ok (.ireturn, 1) := by decide +kernel
set_option maxHeartbeats 4000000 in
set_option maxRecDepth 100000 in
theorem mX4_badOfLatest (l : Launch) (G : gG) (da : Nat → Nat) (v : vSt) (x : gX) (r : Nat) (hk_r : kd r = 4) (p1 : Int32) : QI l yX4_badOfLatest cX4_badOfLatest 4 (some .int) rmX4_badOfLatest [.ref (ga G r), .int p1] (pW G da v x) (fX4_badOfLatest r p1 v) := by
  refine gofQ (own := RX4) (by decide) rfl (Nat.le_of_ble_eq_true rfl) (fun p e s m args below meth c ls Q X hH hl E => ?_)
  have hx := X.1
  have hb := X.2.1
  have hown := X.2.2.2.1
  have hts := X.2.2.2.2.1
  have hS : va_S (gA G) s.heap s.heap [] := va_S.rf
  have hl : lv_has ls 4 [(0, .ref (ga G r)), (1, .int p1)] := hl
  refine lv_iconst (v := 0) hx hb dX4_badOfLatest_0 (by decide) ?_
  refine lv_istore_n (lv' := [(2, .int 0), (0, .ref (ga G r)), (1, .int p1)]) hx hb dX4_badOfLatest_1 rfl hl (by decide) rfl (fun ls hl => ?_)
  refine lv_iconst (v := 0) hx hb dX4_badOfLatest_2 (by decide) ?_
  refine lv_aload_n hx hb dX4_badOfLatest_3 rfl (lv_at hl 1 rfl) ?_
  refine g_PieceType_38 X hH hk_r dX4_badOfLatest_4 ?_
  refine lv_iload_n hx hb dX4_badOfLatest_7 rfl (lv_at hl 2 rfl) ?_
  refine lv_isub hx hb dX4_badOfLatest_8 ?_
  refine k_mmax X t_ml_PieceType_71 hl.1 ⟨Nat.le_of_ble_eq_true rfl, Nat.le_of_ble_eq_true rfl⟩ ⟨Nat.zero_le _, Nat.zero_le _⟩ dX4_badOfLatest_9 ?_
  refine lv_istore_n (lv' := [(3, .int (if 0 < ((v r 7) - p1) then (v r 7) - p1 else 0 : Int32)), (2, .int 0), (0, .ref (ga G r)), (1, .int p1)]) hx hb dX4_badOfLatest_12 rfl hl (by decide) rfl (fun ls hl => ?_)
  have L4 : ∀ (n : Nat) (i1 : Int32) (i2 : Int32) (ls : Array Slot), (Int32.toInt ((v r 7)) - Int32.toInt i1).toNat < n → lv_has ls 4 [(3, .int i1), (2, .int i2), (0, .ref (ga G r))] → (∀ (y3 : Int32) (ls : Array Slot), y3 = (lX4_badOfLatest_13 v r n i1 i2 : Int32) → lv_has ls 4 [(2, .int y3)] → W p l e rmX4_badOfLatest s m args below meth c s.heap [] 0 0 Q (F0 m 38 ls [])) → W p l e rmX4_badOfLatest s m args below meth c s.heap [] 0 0 Q (F0 m 13 ls []) := by
    intro n
    induction n with
    | zero =>
      intro i1 i2 ls hm
      exact absurd hm (Nat.not_lt_zero _)
    | succ n ih =>
      intro i1 i2 ls hm  hl K5
      refine lv_iload_n hx hb dX4_badOfLatest_13 rfl (lv_at hl 0 rfl) ?_
      refine lv_aload_n hx hb dX4_badOfLatest_14 rfl (lv_at hl 2 rfl) ?_
      refine g_PieceType_38 X hH hk_r dX4_badOfLatest_15 ?_
      refine lv_icmp_ge (tgt := 38) hx hb dX4_badOfLatest_18 (by decide) (fun c3 => ?_) (fun c3 => ?_)
      · exact K5 _ _ (Eq.symm ((if_pos c3).trans rfl)) (lv_sub hl [1] rfl)
      · refine lv_iload_n hx hb dX4_badOfLatest_21 rfl (lv_at hl 1 rfl) ?_
        refine lv_aload_n hx hb dX4_badOfLatest_22 rfl (lv_at hl 2 rfl) ?_
        refine g_PieceType_9 X hH hk_r dX4_badOfLatest_23 ?_
        refine lv_iload_n hx hb dX4_badOfLatest_26 rfl (lv_at hl 0 rfl) ?_
        refine kn_X10_entry X hS (ia_24 X hH (kc_4_24 hk_r)) t_mn_PieceType_75 hl.1 (Nat.le_of_ble_eq_true rfl) ⟨Nat.le_of_ble_eq_true rfl, Nat.le_of_ble_eq_true rfl⟩ ⟨Nat.zero_le _, Nat.zero_le _⟩ dX4_badOfLatest_27 ?_
        refine lv_iadd hx hb dX4_badOfLatest_30 ?_
        refine lv_istore_n (lv' := [(2, .int (i2 + (fX10_entry 10 (v (r + 5)) i1))), (3, .int i1), (0, .ref (ga G r))]) hx hb dX4_badOfLatest_31 rfl hl (by decide) rfl (fun ls hl => ?_)
        refine lv_iinc (v := i1 + 1) (lv' := [(3, .int (i1 + 1)), (2, .int (i2 + (fX10_entry 10 (v (r + 5)) i1))), (0, .ref (ga G r))]) hx hb dX4_badOfLatest_32 hl (k := 1) rfl rfl (by decide) rfl (fun ls hl => ?_)
        refine lv_goto (tgt := 13) hx hb dX4_badOfLatest_35 (by decide) ?_
        have hm2 : (Int32.toInt ((v r 7)) - Int32.toInt (i1 + 1)).toNat < n := i_step c3 hm
        exact ih _ _ _ hm2 (lv_sub hl [0, 1, 2] rfl) (fun y3 ls q0 hl => K5 y3 ls (q0.trans (congrArg (fun z : Int32 => z) (Eq.symm ((if_neg c3).trans rfl)))) hl)
  refine L4 ((Int32.toInt ((v r 7)) - Int32.toInt (if 0 < ((v r 7) - p1) then (v r 7) - p1 else 0 : Int32)).toNat + 1) (if 0 < ((v r 7) - p1) then (v r 7) - p1 else 0 : Int32) 0 _ (Nat.lt_succ_self _) (lv_sub hl [0, 1, 2] rfl) (fun y3 ls ey3 hl => ?_)
  refine lv_iload_n hx hb dX4_badOfLatest_38 rfl (lv_at hl 0 rfl) ?_
  subst ey3
  exact E _ _ _ dX4_badOfLatest_39 rfl (Eq.symm rfl)
theorem k_X4_badOfLatest {p : Program} {l : Launch} {e : Env} {R : Room} {s : State} {m : MethodId} {args : Array Value} {below : List Frame} {meth : Method} {c : Code} {H : Heap} {locs : List Loc} {cells slots : Nat} {Q : State → Prop} {cc : ByteArray} {pc nL : Nat} {ls : Array Slot} {rest : List Value} {G : gG} {own : String} {da : Nat → Nat} {v : vSt} {x : gX} (X : CX G p s m args c cc nL own) (hS : va_S (gA G) s.heap H locs) (hH : Hp G da v x H) {r : Nat} (hk_r : kd r = 4) {p1 : Int32} {idx : Nat} (hml : Cond.methodLink own idx yX4_badOfLatest ∈ TT) (hls : ls.size = nL) (hsum : (rest.map fun v => v.category).sum ≤ 8) (hR : rmX4_badOfLatest.frames + 1 ≤ R.frames ∧ 8 + (4 + 11) + rmX4_badOfLatest.locals ≤ R.locals) (hcs : cells ≤ R.cells ∧ slots ≤ R.slots) (hdg : decode cc pc = .ok (.invokevirtual idx, 3)) (kk : W p l e R s m args below meth c H locs cells slots Q (F0 m (pc + 3) ls (.int (fX4_badOfLatest r p1 v) :: rest))) : W p l e R s m args below meth c H locs cells slots Q (F0 m pc ls (.int p1 :: .ref (ga G r) :: rest)) := c_qi (runV (k := 1) X.1 X.2.1 X.2.2.1 X.2.2.2.1 X.2.2.2.2.1 (mX4_badOfLatest l G da v x r hk_r p1) pW_bl hml t_im_X4_badOfLatest t_sel_X4_badOfLatest t_ini_PieceType t_code_X4_badOfLatest ⟨rfl, by decide, by decide, by decide +kernel⟩ rfl rfl hR hcs (recvW X hH (by rw [hk_r]; decide) (by rw [hk_r]; decide) (ce_4 hk_r) rfl) (preW X hS hH) rfl hls rfl hsum hdg) (fun _ h => h ▸ kk)
def lX4_goodAtEnd_2 (v : vSt) (r : Nat) : Nat → Int32 → Int32
  | 0, i1 => i1
  | n + 1, i1 => if ((v r 7) : Int32) ≤ i1 then i1 else (if ((fX10_entry 10 (v (r + 5)) (((v r 7) - 1) - i1)) : Int32) = 0 then (lX4_goodAtEnd_2 v r n (i1 + 1)) else i1)
def fX4_goodAtEnd (r : Nat) (v : vSt) : Int32 := let y2 : Int32 := (lX4_goodAtEnd_2 v r ((Int32.toInt ((v r 7)) - Int32.toInt 0).toNat + 1) 0); y2
abbrev rmX4_goodAtEnd : Room := { frames := 1, cells := 0, slots := 0, locals := 21 }
theorem dX4_goodAtEnd_0 : decode cX4_goodAtEnd 0 = .ok (.iconst 0, 1) := by decide +kernel
theorem dX4_goodAtEnd_1 : decode cX4_goodAtEnd 1 = .ok (.istore_n 1, 1) := by decide +kernel
theorem dX4_goodAtEnd_2 : decode cX4_goodAtEnd 2 = .ok (.iload_n 1, 1) := by decide +kernel
theorem dX4_goodAtEnd_3 : decode cX4_goodAtEnd 3 = .ok (.aload_n 0, 1) := by decide +kernel
theorem dX4_goodAtEnd_4 : decode cX4_goodAtEnd 4 = .ok (.getfield 38, 3) := by decide +kernel
theorem dX4_goodAtEnd_7 : decode cX4_goodAtEnd 7 = .ok (.if_icmp .ge 27, 3) := by decide +kernel
theorem dX4_goodAtEnd_10 : decode cX4_goodAtEnd 10 = .ok (.aload_n 0, 1) := by decide +kernel
theorem dX4_goodAtEnd_11 : decode cX4_goodAtEnd 11 = .ok (.getfield 9, 3) := by decide +kernel
theorem dX4_goodAtEnd_14 : decode cX4_goodAtEnd 14 = .ok (.aload_n 0, 1) := by decide +kernel
theorem dX4_goodAtEnd_15 : decode cX4_goodAtEnd 15 = .ok (.getfield 38, 3) := by decide +kernel
theorem dX4_goodAtEnd_18 : decode cX4_goodAtEnd 18 = .ok (.iconst 1, 1) := by decide +kernel
theorem dX4_goodAtEnd_19 : decode cX4_goodAtEnd 19 = .ok (.isub, 1) := by decide +kernel
theorem dX4_goodAtEnd_20 : decode cX4_goodAtEnd 20 = .ok (.iload_n 1, 1) := by decide +kernel
theorem dX4_goodAtEnd_21 : decode cX4_goodAtEnd 21 = .ok (.isub, 1) := by decide +kernel
theorem dX4_goodAtEnd_22 : decode cX4_goodAtEnd 22 = .ok (.invokestatic 75, 3) := by decide +kernel
theorem dX4_goodAtEnd_25 : decode cX4_goodAtEnd 25 = .ok (.ifCond .ne 9, 3) := by decide +kernel
theorem dX4_goodAtEnd_28 : decode cX4_goodAtEnd 28 = .ok (.iinc 1 1, 3) := by decide +kernel
theorem dX4_goodAtEnd_31 : decode cX4_goodAtEnd 31 = .ok (.goto (-29), 3) := by decide +kernel
theorem dX4_goodAtEnd_34 : decode cX4_goodAtEnd 34 = .ok (.iload_n 1, 1) := by decide +kernel
theorem dX4_goodAtEnd_35 : decode cX4_goodAtEnd 35 = .ok (.ireturn, 1) := by decide +kernel
set_option maxHeartbeats 4000000 in
set_option maxRecDepth 100000 in
theorem mX4_goodAtEnd (l : Launch) (G : gG) (da : Nat → Nat) (v : vSt) (x : gX) (r : Nat) (hk_r : kd r = 4) : QI l yX4_goodAtEnd cX4_goodAtEnd 2 (some .int) rmX4_goodAtEnd [.ref (ga G r)] (pW G da v x) (fX4_goodAtEnd r v) := by
  refine gofQ (own := RX4) (by decide) rfl (Nat.le_of_ble_eq_true rfl) (fun p e s m args below meth c ls Q X hH hl E => ?_)
  have hx := X.1
  have hb := X.2.1
  have hown := X.2.2.2.1
  have hts := X.2.2.2.2.1
  have hS : va_S (gA G) s.heap s.heap [] := va_S.rf
  have hl : lv_has ls 2 [(0, .ref (ga G r))] := hl
  refine lv_iconst (v := 0) hx hb dX4_goodAtEnd_0 (by decide) ?_
  refine lv_istore_n (lv' := [(1, .int 0), (0, .ref (ga G r))]) hx hb dX4_goodAtEnd_1 rfl hl (by decide) rfl (fun ls hl => ?_)
  have L3 : ∀ (n : Nat) (i1 : Int32) (ls : Array Slot), (Int32.toInt ((v r 7)) - Int32.toInt i1).toNat < n → lv_has ls 2 [(1, .int i1), (0, .ref (ga G r))] → (∀ (y2 : Int32) (ls : Array Slot), y2 = (lX4_goodAtEnd_2 v r n i1 : Int32) → lv_has ls 2 [(1, .int y2)] → W p l e rmX4_goodAtEnd s m args below meth c s.heap [] 0 0 Q (F0 m 34 ls [])) → W p l e rmX4_goodAtEnd s m args below meth c s.heap [] 0 0 Q (F0 m 2 ls []) := by
    intro n
    induction n with
    | zero =>
      intro i1 ls hm
      exact absurd hm (Nat.not_lt_zero _)
    | succ n ih =>
      intro i1 ls hm  hl K4
      refine lv_iload_n hx hb dX4_goodAtEnd_2 rfl (lv_at hl 0 rfl) ?_
      refine lv_aload_n hx hb dX4_goodAtEnd_3 rfl (lv_at hl 1 rfl) ?_
      refine g_PieceType_38 X hH hk_r dX4_goodAtEnd_4 ?_
      refine lv_icmp_ge (tgt := 34) hx hb dX4_goodAtEnd_7 (by decide) (fun c2 => ?_) (fun c2 => ?_)
      · exact K4 _ _ (Eq.symm ((if_pos c2).trans rfl)) (lv_sub hl [0] rfl)
      · refine lv_aload_n hx hb dX4_goodAtEnd_10 rfl (lv_at hl 1 rfl) ?_
        refine g_PieceType_9 X hH hk_r dX4_goodAtEnd_11 ?_
        refine lv_aload_n hx hb dX4_goodAtEnd_14 rfl (lv_at hl 1 rfl) ?_
        refine g_PieceType_38 X hH hk_r dX4_goodAtEnd_15 ?_
        refine lv_iconst (v := 1) hx hb dX4_goodAtEnd_18 (by decide) ?_
        refine lv_isub hx hb dX4_goodAtEnd_19 ?_
        refine lv_iload_n hx hb dX4_goodAtEnd_20 rfl (lv_at hl 0 rfl) ?_
        refine lv_isub hx hb dX4_goodAtEnd_21 ?_
        refine kn_X10_entry X hS (ia_24 X hH (kc_4_24 hk_r)) t_mn_PieceType_75 hl.1 (Nat.le_of_ble_eq_true rfl) ⟨Nat.le_of_ble_eq_true rfl, Nat.le_of_ble_eq_true rfl⟩ ⟨Nat.zero_le _, Nat.zero_le _⟩ dX4_goodAtEnd_22 ?_
        refine lv_if_ne (tgt := 34) hx hb dX4_goodAtEnd_25 (by decide) (fun c3 => ?_) (fun c3 => ?_)
        · exact K4 _ _ (Eq.symm ((if_neg c2).trans ((if_neg c3).trans rfl))) (lv_sub hl [0] rfl)
        · refine lv_iinc (v := i1 + 1) (lv' := [(1, .int (i1 + 1)), (0, .ref (ga G r))]) hx hb dX4_goodAtEnd_28 hl (k := 0) rfl rfl (by decide) rfl (fun ls hl => ?_)
          refine lv_goto (tgt := 2) hx hb dX4_goodAtEnd_31 (by decide) ?_
          have hm2 : (Int32.toInt ((v r 7)) - Int32.toInt (i1 + 1)).toNat < n := i_step c2 hm
          exact ih _ _ hm2 (lv_sub hl [0, 1] rfl) (fun y2 ls q0 hl => K4 y2 ls (q0.trans (congrArg (fun z : Int32 => z) (Eq.symm ((if_neg c2).trans ((if_pos c3).trans rfl))))) hl)
  refine L3 ((Int32.toInt ((v r 7)) - Int32.toInt 0).toNat + 1) 0 _ (Nat.lt_succ_self _) (lv_sub hl [0, 1] rfl) (fun y2 ls ey2 hl => ?_)
  refine lv_iload_n hx hb dX4_goodAtEnd_34 rfl (lv_at hl 0 rfl) ?_
  subst ey2
  exact E _ _ _ dX4_goodAtEnd_35 rfl (Eq.symm rfl)
theorem k_X4_goodAtEnd {p : Program} {l : Launch} {e : Env} {R : Room} {s : State} {m : MethodId} {args : Array Value} {below : List Frame} {meth : Method} {c : Code} {H : Heap} {locs : List Loc} {cells slots : Nat} {Q : State → Prop} {cc : ByteArray} {pc nL : Nat} {ls : Array Slot} {rest : List Value} {G : gG} {own : String} {da : Nat → Nat} {v : vSt} {x : gX} (X : CX G p s m args c cc nL own) (hS : va_S (gA G) s.heap H locs) (hH : Hp G da v x H) {r : Nat} (hk_r : kd r = 4) {idx : Nat} (hml : Cond.methodLink own idx yX4_goodAtEnd ∈ TT) (hls : ls.size = nL) (hsum : (rest.map fun v => v.category).sum ≤ 8) (hR : rmX4_goodAtEnd.frames + 1 ≤ R.frames ∧ 8 + (2 + 11) + rmX4_goodAtEnd.locals ≤ R.locals) (hcs : cells ≤ R.cells ∧ slots ≤ R.slots) (hdg : decode cc pc = .ok (.invokevirtual idx, 3)) (kk : W p l e R s m args below meth c H locs cells slots Q (F0 m (pc + 3) ls (.int (fX4_goodAtEnd r v) :: rest))) : W p l e R s m args below meth c H locs cells slots Q (F0 m pc ls (.ref (ga G r) :: rest)) := c_qi (runV (k := 0) X.1 X.2.1 X.2.2.1 X.2.2.2.1 X.2.2.2.2.1 (mX4_goodAtEnd l G da v x r hk_r) pW_bl hml t_im_X4_goodAtEnd t_sel_X4_goodAtEnd t_ini_PieceType t_code_X4_goodAtEnd ⟨rfl, by decide, by decide, by decide +kernel⟩ rfl rfl hR hcs (recvW X hH (by rw [hk_r]; decide) (by rw [hk_r]; decide) (ce_4 hk_r) rfl) (preW X hS hH) rfl hls rfl hsum hdg) (fun _ h => h ▸ kk)
def fX4_mannerAfter (r : Nat) (p1 : Int32) (v : vSt) : Int32 := if ((v r 4) : Int32) = 0 then (if ((fX4_badOfLatest r 5 v) : Int32) < 2 then (if ((fX4_goodAtEnd r v) : Int32) < 10 then 0 else 2) else 1) else (if ((v r 4) : Int32) = 1 then (if ((fX4_goodAtEnd r v) : Int32) < 5 then 1 else 0) else (if (p1 : Int32) = 0 then 2 else 0))
abbrev rmX4_mannerAfter : Room := { frames := 2, cells := 0, slots := 0, locals := 44 }
theorem dX4_mannerAfter_0 : decode cX4_mannerAfter 0 = .ok (.aload_n 0, 1) := by decide +kernel
theorem dX4_mannerAfter_1 : decode cX4_mannerAfter 1 = .ok (.getfield 31, 3) := by decide +kernel
theorem dX4_mannerAfter_4 : decode cX4_mannerAfter 4 = .ok (.ifCond .ne 29, 3) := by decide +kernel
theorem dX4_mannerAfter_7 : decode cX4_mannerAfter 7 = .ok (.aload_n 0, 1) := by decide +kernel
theorem dX4_mannerAfter_8 : decode cX4_mannerAfter 8 = .ok (.iconst 5, 1) := by decide +kernel
theorem dX4_mannerAfter_9 : decode cX4_mannerAfter 9 = .ok (.invokevirtual 64, 3) := by decide +kernel
theorem dX4_mannerAfter_12 : decode cX4_mannerAfter 12 = .ok (.iconst 2, 1) := by decide +kernel
theorem dX4_mannerAfter_13 : decode cX4_mannerAfter 13 = .ok (.if_icmp .lt 5, 3) := by decide +kernel
theorem dX4_mannerAfter_16 : decode cX4_mannerAfter 16 = .ok (.iconst 1, 1) := by decide +kernel
theorem dX4_mannerAfter_17 : decode cX4_mannerAfter 17 = .ok (.ireturn, 1) := by decide +kernel
theorem dX4_mannerAfter_18 : decode cX4_mannerAfter 18 = .ok (.aload_n 0, 1) := by decide +kernel
theorem dX4_mannerAfter_19 : decode cX4_mannerAfter 19 = .ok (.invokevirtual 67, 3) := by decide +kernel
theorem dX4_mannerAfter_22 : decode cX4_mannerAfter 22 = .ok (.bipush 10, 2) := by decide +kernel
theorem dX4_mannerAfter_24 : decode cX4_mannerAfter 24 = .ok (.if_icmp .lt 7, 3) := by decide +kernel
theorem dX4_mannerAfter_27 : decode cX4_mannerAfter 27 = .ok (.iconst 2, 1) := by decide +kernel
theorem dX4_mannerAfter_28 : decode cX4_mannerAfter 28 = .ok (.goto 4, 3) := by decide +kernel
theorem dX4_mannerAfter_31 : decode cX4_mannerAfter 31 = .ok (.iconst 0, 1) := by decide +kernel
theorem dX4_mannerAfter_32 : decode cX4_mannerAfter 32 = .ok (.ireturn, 1) := by decide +kernel
theorem dX4_mannerAfter_33 : decode cX4_mannerAfter 33 = .ok (.aload_n 0, 1) := by decide +kernel
theorem dX4_mannerAfter_34 : decode cX4_mannerAfter 34 = .ok (.getfield 31, 3) := by decide +kernel
theorem dX4_mannerAfter_37 : decode cX4_mannerAfter 37 = .ok (.iconst 1, 1) := by decide +kernel
theorem dX4_mannerAfter_38 : decode cX4_mannerAfter 38 = .ok (.if_icmp .ne 17, 3) := by decide +kernel
theorem dX4_mannerAfter_41 : decode cX4_mannerAfter 41 = .ok (.aload_n 0, 1) := by decide +kernel
theorem dX4_mannerAfter_42 : decode cX4_mannerAfter 42 = .ok (.invokevirtual 67, 3) := by decide +kernel
theorem dX4_mannerAfter_45 : decode cX4_mannerAfter 45 = .ok (.iconst 5, 1) := by decide +kernel
theorem dX4_mannerAfter_46 : decode cX4_mannerAfter 46 = .ok (.if_icmp .lt 7, 3) := by decide +kernel
theorem dX4_mannerAfter_49 : decode cX4_mannerAfter 49 = .ok (.iconst 0, 1) := by decide +kernel
theorem dX4_mannerAfter_50 : decode cX4_mannerAfter 50 = .ok (.goto 4, 3) := by decide +kernel
theorem dX4_mannerAfter_53 : decode cX4_mannerAfter 53 = .ok (.iconst 1, 1) := by decide +kernel
theorem dX4_mannerAfter_54 : decode cX4_mannerAfter 54 = .ok (.ireturn, 1) := by decide +kernel
theorem dX4_mannerAfter_55 : decode cX4_mannerAfter 55 = .ok (.iload_n 1, 1) := by decide +kernel
theorem dX4_mannerAfter_56 : decode cX4_mannerAfter 56 = .ok (.ifCond .eq 7, 3) := by decide +kernel
theorem dX4_mannerAfter_59 : decode cX4_mannerAfter 59 = .ok (.iconst 0, 1) := by decide +kernel
theorem dX4_mannerAfter_60 : decode cX4_mannerAfter 60 = .ok (.goto 4, 3) := by decide +kernel
theorem dX4_mannerAfter_63 : decode cX4_mannerAfter 63 = .ok (.iconst 2, 1) := by decide +kernel
theorem dX4_mannerAfter_64 : decode cX4_mannerAfter 64 = .ok (.ireturn, 1) := by decide +kernel
set_option maxHeartbeats 4000000 in
set_option maxRecDepth 100000 in
theorem mX4_mannerAfter (l : Launch) (G : gG) (da : Nat → Nat) (v : vSt) (x : gX) (r : Nat) (hk_r : kd r = 4) (p1 : Int32) : QI l yX4_mannerAfter cX4_mannerAfter 2 (some .int) rmX4_mannerAfter [.ref (ga G r), .int p1] (pW G da v x) (fX4_mannerAfter r p1 v) := by
  refine gofQ (own := RX4) (by decide) rfl (Nat.le_of_ble_eq_true rfl) (fun p e s m args below meth c ls Q X hH hl E => ?_)
  have hx := X.1
  have hb := X.2.1
  have hown := X.2.2.2.1
  have hts := X.2.2.2.2.1
  have hS : va_S (gA G) s.heap s.heap [] := va_S.rf
  have hl : lv_has ls 2 [(0, .ref (ga G r)), (1, .int p1)] := hl
  refine lv_aload_n hx hb dX4_mannerAfter_0 rfl (lv_at hl 0 rfl) ?_
  refine g_PieceType_31 X hH hk_r dX4_mannerAfter_1 ?_
  refine lv_if_ne (tgt := 33) hx hb dX4_mannerAfter_4 (by decide) (fun c1 => ?_) (fun c1 => ?_)
  · refine lv_aload_n hx hb dX4_mannerAfter_33 rfl (lv_at hl 0 rfl) ?_
    refine g_PieceType_31 X hH hk_r dX4_mannerAfter_34 ?_
    refine lv_iconst (v := 1) hx hb dX4_mannerAfter_37 (by decide) ?_
    refine lv_icmp_ne (tgt := 55) hx hb dX4_mannerAfter_38 (by decide) (fun c2 => ?_) (fun c2 => ?_)
    · refine lv_iload_n hx hb dX4_mannerAfter_55 rfl (lv_at hl 1 rfl) ?_
      refine lv_if_eq (tgt := 63) hx hb dX4_mannerAfter_56 (by decide) (fun c3 => ?_) (fun c3 => ?_)
      · refine lv_iconst (v := 2) hx hb dX4_mannerAfter_63 (by decide) ?_
        exact E _ _ _ dX4_mannerAfter_64 rfl (Eq.symm ((if_neg c1).trans ((if_neg c2).trans ((if_pos c3).trans rfl))))
      · refine lv_iconst (v := 0) hx hb dX4_mannerAfter_59 (by decide) ?_
        refine lv_goto (tgt := 64) hx hb dX4_mannerAfter_60 (by decide) ?_
        exact E _ _ _ dX4_mannerAfter_64 rfl (Eq.symm ((if_neg c1).trans ((if_neg c2).trans ((if_neg c3).trans rfl))))
    · refine lv_aload_n hx hb dX4_mannerAfter_41 rfl (lv_at hl 0 rfl) ?_
      refine k_X4_goodAtEnd X hS hH hk_r t_ml_PieceType_67 hl.1 (Nat.le_of_ble_eq_true rfl) ⟨Nat.le_of_ble_eq_true rfl, Nat.le_of_ble_eq_true rfl⟩ ⟨Nat.zero_le _, Nat.zero_le _⟩ dX4_mannerAfter_42 ?_
      refine lv_iconst (v := 5) hx hb dX4_mannerAfter_45 (by decide) ?_
      refine lv_icmp_lt (tgt := 53) hx hb dX4_mannerAfter_46 (by decide) (fun c4 => ?_) (fun c4 => ?_)
      · refine lv_iconst (v := 1) hx hb dX4_mannerAfter_53 (by decide) ?_
        exact E _ _ _ dX4_mannerAfter_54 rfl (Eq.symm ((if_neg c1).trans ((if_pos c2).trans ((if_pos c4).trans rfl))))
      · refine lv_iconst (v := 0) hx hb dX4_mannerAfter_49 (by decide) ?_
        refine lv_goto (tgt := 54) hx hb dX4_mannerAfter_50 (by decide) ?_
        exact E _ _ _ dX4_mannerAfter_54 rfl (Eq.symm ((if_neg c1).trans ((if_pos c2).trans ((if_neg c4).trans rfl))))
  · refine lv_aload_n hx hb dX4_mannerAfter_7 rfl (lv_at hl 0 rfl) ?_
    refine lv_iconst (v := 5) hx hb dX4_mannerAfter_8 (by decide) ?_
    refine k_X4_badOfLatest X hS hH hk_r t_ml_PieceType_64 hl.1 (Nat.le_of_ble_eq_true rfl) ⟨Nat.le_of_ble_eq_true rfl, Nat.le_of_ble_eq_true rfl⟩ ⟨Nat.zero_le _, Nat.zero_le _⟩ dX4_mannerAfter_9 ?_
    refine lv_iconst (v := 2) hx hb dX4_mannerAfter_12 (by decide) ?_
    refine lv_icmp_lt (tgt := 18) hx hb dX4_mannerAfter_13 (by decide) (fun c5 => ?_) (fun c5 => ?_)
    · refine lv_aload_n hx hb dX4_mannerAfter_18 rfl (lv_at hl 0 rfl) ?_
      refine k_X4_goodAtEnd X hS hH hk_r t_ml_PieceType_67 hl.1 (Nat.le_of_ble_eq_true rfl) ⟨Nat.le_of_ble_eq_true rfl, Nat.le_of_ble_eq_true rfl⟩ ⟨Nat.zero_le _, Nat.zero_le _⟩ dX4_mannerAfter_19 ?_
      refine lv_bipush (v := 10) hx hb dX4_mannerAfter_22 (by decide) ?_
      refine lv_icmp_lt (tgt := 31) hx hb dX4_mannerAfter_24 (by decide) (fun c6 => ?_) (fun c6 => ?_)
      · refine lv_iconst (v := 0) hx hb dX4_mannerAfter_31 (by decide) ?_
        exact E _ _ _ dX4_mannerAfter_32 rfl (Eq.symm ((if_pos c1).trans ((if_pos c5).trans ((if_pos c6).trans rfl))))
      · refine lv_iconst (v := 2) hx hb dX4_mannerAfter_27 (by decide) ?_
        refine lv_goto (tgt := 32) hx hb dX4_mannerAfter_28 (by decide) ?_
        exact E _ _ _ dX4_mannerAfter_32 rfl (Eq.symm ((if_pos c1).trans ((if_pos c5).trans ((if_neg c6).trans rfl))))
    · refine lv_iconst (v := 1) hx hb dX4_mannerAfter_16 (by decide) ?_
      exact E _ _ _ dX4_mannerAfter_17 rfl (Eq.symm ((if_pos c1).trans ((if_neg c5).trans rfl)))
theorem k_X4_mannerAfter {p : Program} {l : Launch} {e : Env} {R : Room} {s : State} {m : MethodId} {args : Array Value} {below : List Frame} {meth : Method} {c : Code} {H : Heap} {locs : List Loc} {cells slots : Nat} {Q : State → Prop} {cc : ByteArray} {pc nL : Nat} {ls : Array Slot} {rest : List Value} {G : gG} {own : String} {da : Nat → Nat} {v : vSt} {x : gX} (X : CX G p s m args c cc nL own) (hS : va_S (gA G) s.heap H locs) (hH : Hp G da v x H) {r : Nat} (hk_r : kd r = 4) {p1 : Int32} {idx : Nat} (hml : Cond.methodLink own idx yX4_mannerAfter ∈ TT) (hls : ls.size = nL) (hsum : (rest.map fun v => v.category).sum ≤ 8) (hR : rmX4_mannerAfter.frames + 1 ≤ R.frames ∧ 8 + (2 + 11) + rmX4_mannerAfter.locals ≤ R.locals) (hcs : cells ≤ R.cells ∧ slots ≤ R.slots) (hdg : decode cc pc = .ok (.invokevirtual idx, 3)) (kk : W p l e R s m args below meth c H locs cells slots Q (F0 m (pc + 3) ls (.int (fX4_mannerAfter r p1 v) :: rest))) : W p l e R s m args below meth c H locs cells slots Q (F0 m pc ls (.int p1 :: .ref (ga G r) :: rest)) := c_qi (runV (k := 1) X.1 X.2.1 X.2.2.1 X.2.2.2.1 X.2.2.2.2.1 (mX4_mannerAfter l G da v x r hk_r p1) pW_bl hml t_im_X4_mannerAfter t_sel_X4_mannerAfter t_ini_PieceType t_code_X4_mannerAfter ⟨rfl, by decide, by decide, by decide +kernel⟩ rfl rfl hR hcs (recvW X hH (by rw [hk_r]; decide) (by rw [hk_r]; decide) (ce_4 hk_r) rfl) (preW X hS hH) rfl hls rfl hsum hdg) (fun _ h => h ▸ kk)
def fX4_fromEnd (r : Nat) (p1 : Int32) (v : vSt) : Int32 := fX10_entry 12 (v (r + 10)) (((v r 9) - 1) - p1)
abbrev rmX4_fromEnd : Room := { frames := 1, cells := 0, slots := 0, locals := 21 }
theorem dX4_fromEnd_0 : decode cX4_fromEnd 0 = .ok (.aload_n 0, 1) := by decide +kernel
theorem dX4_fromEnd_1 : decode cX4_fromEnd 1 = .ok (.getfield 15, 3) := by decide +kernel
theorem dX4_fromEnd_4 : decode cX4_fromEnd 4 = .ok (.aload_n 0, 1) := by decide +kernel
theorem dX4_fromEnd_5 : decode cX4_fromEnd 5 = .ok (.getfield 41, 3) := by decide +kernel
theorem dX4_fromEnd_8 : decode cX4_fromEnd 8 = .ok (.iconst 1, 1) := by decide +kernel
theorem dX4_fromEnd_9 : decode cX4_fromEnd 9 = .ok (.isub, 1) := by decide +kernel
theorem dX4_fromEnd_10 : decode cX4_fromEnd 10 = .ok (.iload_n 1, 1) := by decide +kernel
theorem dX4_fromEnd_11 : decode cX4_fromEnd 11 = .ok (.isub, 1) := by decide +kernel
theorem dX4_fromEnd_12 : decode cX4_fromEnd 12 = .ok (.invokestatic 75, 3) := by decide +kernel
theorem dX4_fromEnd_15 : decode cX4_fromEnd 15 = .ok (.ireturn, 1) := by decide +kernel
set_option maxHeartbeats 4000000 in
set_option maxRecDepth 100000 in
theorem mX4_fromEnd (l : Launch) (G : gG) (da : Nat → Nat) (v : vSt) (x : gX) (r : Nat) (hk_r : kd r = 4) (p1 : Int32) : QI l yX4_fromEnd cX4_fromEnd 2 (some .int) rmX4_fromEnd [.ref (ga G r), .int p1] (pW G da v x) (fX4_fromEnd r p1 v) := by
  refine gofQ (own := RX4) (by decide) rfl (Nat.le_of_ble_eq_true rfl) (fun p e s m args below meth c ls Q X hH hl E => ?_)
  have hx := X.1
  have hb := X.2.1
  have hown := X.2.2.2.1
  have hts := X.2.2.2.2.1
  have hS : va_S (gA G) s.heap s.heap [] := va_S.rf
  have hl : lv_has ls 2 [(0, .ref (ga G r)), (1, .int p1)] := hl
  refine lv_aload_n hx hb dX4_fromEnd_0 rfl (lv_at hl 0 rfl) ?_
  refine g_PieceType_15 X hH hk_r dX4_fromEnd_1 ?_
  refine lv_aload_n hx hb dX4_fromEnd_4 rfl (lv_at hl 0 rfl) ?_
  refine g_PieceType_41 X hH hk_r dX4_fromEnd_5 ?_
  refine lv_iconst (v := 1) hx hb dX4_fromEnd_8 (by decide) ?_
  refine lv_isub hx hb dX4_fromEnd_9 ?_
  refine lv_iload_n hx hb dX4_fromEnd_10 rfl (lv_at hl 1 rfl) ?_
  refine lv_isub hx hb dX4_fromEnd_11 ?_
  refine kn_X10_entry X hS (ia_25 X hH (kc_4_25 hk_r)) t_mn_PieceType_75 hl.1 (Nat.le_of_ble_eq_true rfl) ⟨Nat.le_of_ble_eq_true rfl, Nat.le_of_ble_eq_true rfl⟩ ⟨Nat.zero_le _, Nat.zero_le _⟩ dX4_fromEnd_12 ?_
  exact E _ _ _ dX4_fromEnd_15 rfl (Eq.symm rfl)
theorem k_X4_fromEnd {p : Program} {l : Launch} {e : Env} {R : Room} {s : State} {m : MethodId} {args : Array Value} {below : List Frame} {meth : Method} {c : Code} {H : Heap} {locs : List Loc} {cells slots : Nat} {Q : State → Prop} {cc : ByteArray} {pc nL : Nat} {ls : Array Slot} {rest : List Value} {G : gG} {own : String} {da : Nat → Nat} {v : vSt} {x : gX} (X : CX G p s m args c cc nL own) (hS : va_S (gA G) s.heap H locs) (hH : Hp G da v x H) {r : Nat} (hk_r : kd r = 4) {p1 : Int32} {idx : Nat} (hml : Cond.methodLink own idx yX4_fromEnd ∈ TT) (hls : ls.size = nL) (hsum : (rest.map fun v => v.category).sum ≤ 8) (hR : rmX4_fromEnd.frames + 1 ≤ R.frames ∧ 8 + (2 + 11) + rmX4_fromEnd.locals ≤ R.locals) (hcs : cells ≤ R.cells ∧ slots ≤ R.slots) (hdg : decode cc pc = .ok (.invokevirtual idx, 3)) (kk : W p l e R s m args below meth c H locs cells slots Q (F0 m (pc + 3) ls (.int (fX4_fromEnd r p1 v) :: rest))) : W p l e R s m args below meth c H locs cells slots Q (F0 m pc ls (.int p1 :: .ref (ga G r) :: rest)) := c_qi (runV (k := 1) X.1 X.2.1 X.2.2.1 X.2.2.2.1 X.2.2.2.2.1 (mX4_fromEnd l G da v x r hk_r p1) pW_bl hml t_im_X4_fromEnd t_sel_X4_fromEnd t_ini_PieceType t_code_X4_fromEnd ⟨rfl, by decide, by decide, by decide +kernel⟩ rfl rfl hR hcs (recvW X hH (by rw [hk_r]; decide) (by rw [hk_r]; decide) (ce_4 hk_r) rfl) (preW X hS hH) rfl hls rfl hsum hdg) (fun _ h => h ▸ kk)
def lX4_goesOneWay_7 (v : vSt) (r : Nat) (p1 : Int32) : Nat → Int32 → Int32 → Int32 → Int32 × Int32
  | 0, i1, i2, i3 => (i2, i3)
  | n + 1, i1, i2, i3 => if ((p1 - 1) : Int32) ≤ i1 then ((i2, i3)) else (let y5 : Int32 := if ((fJ6_compare_7cf53 (fX4_fromEnd r i1 v) (fX4_fromEnd r (i1 + 1) v)) : Int32) ≤ 0 then 0 else 1; let y7 : Int32 := if (0 : Int32) ≤ (fJ6_compare_7cf53 (fX4_fromEnd r i1 v) (fX4_fromEnd r (i1 + 1) v)) then 0 else 1; lX4_goesOneWay_7 v r p1 n (i1 + 1) (i2 + y7) (i3 + y5))
def fX4_goesOneWay (r : Nat) (p1 : Int32) (v : vSt) : Int32 := let qy4 : Int32 × Int32 := (lX4_goesOneWay_7 v r p1 ((Int32.toInt ((p1 - 1)) - Int32.toInt 0).toNat + 1) 0 0 0); let y4 := qy4.1; let y5 := qy4.2; if (y5 : Int32) = (p1 - 1) then 1 else (if (y4 : Int32) = (p1 - 1) then 1 else 0)
abbrev rmX4_goesOneWay : Room := { frames := 2, cells := 0, slots := 0, locals := 42 }
theorem dX4_goesOneWay_0 : decode cX4_goesOneWay 0 = .ok (.iconst 0, 1) := by decide +kernel
theorem dX4_goesOneWay_1 : decode cX4_goesOneWay 1 = .ok (.istore_n 2, 1) := by decide +kernel
theorem dX4_goesOneWay_2 : decode cX4_goesOneWay 2 = .ok (.iconst 0, 1) := by decide +kernel
theorem dX4_goesOneWay_3 : decode cX4_goesOneWay 3 = .ok (.istore_n 3, 1) := by decide +kernel
theorem dX4_goesOneWay_4 : decode cX4_goesOneWay 4 = .ok (.iconst 0, 1) := by decide +kernel
theorem dX4_goesOneWay_5 : decode cX4_goesOneWay 5 = .ok (.istore 4, 2) := by decide +kernel
theorem dX4_goesOneWay_7 : decode cX4_goesOneWay 7 = .ok (.iload 4, 2) := by decide +kernel
theorem dX4_goesOneWay_9 : decode cX4_goesOneWay 9 = .ok (.iload_n 1, 1) := by decide +kernel
theorem dX4_goesOneWay_10 : decode cX4_goesOneWay 10 = .ok (.iconst 1, 1) := by decide +kernel
theorem dX4_goesOneWay_11 : decode cX4_goesOneWay 11 = .ok (.isub, 1) := by decide +kernel
theorem dX4_goesOneWay_12 : decode cX4_goesOneWay 12 = .ok (.if_icmp .ge 54, 3) := by decide +kernel
theorem dX4_goesOneWay_15 : decode cX4_goesOneWay 15 = .ok (.aload_n 0, 1) := by decide +kernel
theorem dX4_goesOneWay_16 : decode cX4_goesOneWay 16 = .ok (.iload 4, 2) := by decide +kernel
theorem dX4_goesOneWay_18 : decode cX4_goesOneWay 18 = .ok (.invokevirtual 79, 3) := by decide +kernel
theorem dX4_goesOneWay_21 : decode cX4_goesOneWay 21 = .ok (.aload_n 0, 1) := by decide +kernel
theorem dX4_goesOneWay_22 : decode cX4_goesOneWay 22 = .ok (.iload 4, 2) := by decide +kernel
theorem dX4_goesOneWay_24 : decode cX4_goesOneWay 24 = .ok (.iconst 1, 1) := by decide +kernel
theorem dX4_goesOneWay_25 : decode cX4_goesOneWay 25 = .ok (.iadd, 1) := by decide +kernel
theorem dX4_goesOneWay_26 : decode cX4_goesOneWay 26 = .ok (.invokevirtual 79, 3) := by decide +kernel
theorem dX4_goesOneWay_29 : decode cX4_goesOneWay 29 = .ok (.invokestatic 92, 3) := by decide +kernel
theorem dX4_goesOneWay_32 : decode cX4_goesOneWay 32 = .ok (.istore 5, 2) := by decide +kernel
theorem dX4_goesOneWay_34 : decode cX4_goesOneWay 34 = .ok (.iload_n 2, 1) := by decide +kernel
theorem dX4_goesOneWay_35 : decode cX4_goesOneWay 35 = .ok (.iload 5, 2) := by decide +kernel
theorem dX4_goesOneWay_37 : decode cX4_goesOneWay 37 = .ok (.ifCond .le 7, 3) := by decide +kernel
theorem dX4_goesOneWay_40 : decode cX4_goesOneWay 40 = .ok (.iconst 1, 1) := by decide +kernel
theorem dX4_goesOneWay_41 : decode cX4_goesOneWay 41 = .ok (.goto 4, 3) := by decide +kernel
theorem dX4_goesOneWay_44 : decode cX4_goesOneWay 44 = .ok (.iconst 0, 1) := by decide +kernel
theorem dX4_goesOneWay_45 : decode cX4_goesOneWay 45 = .ok (.iadd, 1) := by decide +kernel
theorem dX4_goesOneWay_46 : decode cX4_goesOneWay 46 = .ok (.istore_n 2, 1) := by decide +kernel
theorem dX4_goesOneWay_47 : decode cX4_goesOneWay 47 = .ok (.iload_n 3, 1) := by decide +kernel
theorem dX4_goesOneWay_48 : decode cX4_goesOneWay 48 = .ok (.iload 5, 2) := by decide +kernel
theorem dX4_goesOneWay_50 : decode cX4_goesOneWay 50 = .ok (.ifCond .ge 7, 3) := by decide +kernel
theorem dX4_goesOneWay_53 : decode cX4_goesOneWay 53 = .ok (.iconst 1, 1) := by decide +kernel
theorem dX4_goesOneWay_54 : decode cX4_goesOneWay 54 = .ok (.goto 4, 3) := by decide +kernel
theorem dX4_goesOneWay_57 : decode cX4_goesOneWay 57 = .ok (.iconst 0, 1) := by decide +kernel
theorem dX4_goesOneWay_58 : decode cX4_goesOneWay 58 = .ok (.iadd, 1) := by decide +kernel
theorem dX4_goesOneWay_59 : decode cX4_goesOneWay 59 = .ok (.istore_n 3, 1) := by decide +kernel
theorem dX4_goesOneWay_60 : decode cX4_goesOneWay 60 = .ok (.iinc 4 1, 3) := by decide +kernel
theorem dX4_goesOneWay_63 : decode cX4_goesOneWay 63 = .ok (.goto (-56), 3) := by decide +kernel
theorem dX4_goesOneWay_66 : decode cX4_goesOneWay 66 = .ok (.iload_n 2, 1) := by decide +kernel
theorem dX4_goesOneWay_67 : decode cX4_goesOneWay 67 = .ok (.iload_n 1, 1) := by decide +kernel
theorem dX4_goesOneWay_68 : decode cX4_goesOneWay 68 = .ok (.iconst 1, 1) := by decide +kernel
theorem dX4_goesOneWay_69 : decode cX4_goesOneWay 69 = .ok (.isub, 1) := by decide +kernel
theorem dX4_goesOneWay_70 : decode cX4_goesOneWay 70 = .ok (.if_icmp .eq 10, 3) := by decide +kernel
theorem dX4_goesOneWay_73 : decode cX4_goesOneWay 73 = .ok (.iload_n 3, 1) := by decide +kernel
theorem dX4_goesOneWay_74 : decode cX4_goesOneWay 74 = .ok (.iload_n 1, 1) := by decide +kernel
theorem dX4_goesOneWay_75 : decode cX4_goesOneWay 75 = .ok (.iconst 1, 1) := by decide +kernel
theorem dX4_goesOneWay_76 : decode cX4_goesOneWay 76 = .ok (.isub, 1) := by decide +kernel
theorem dX4_goesOneWay_77 : decode cX4_goesOneWay 77 = .ok (.if_icmp .ne 7, 3) := by decide +kernel
theorem dX4_goesOneWay_80 : decode cX4_goesOneWay 80 = .ok (.iconst 1, 1) := by decide +kernel
theorem dX4_goesOneWay_81 : decode cX4_goesOneWay 81 = .ok (.goto 4, 3) := by decide +kernel
theorem dX4_goesOneWay_84 : decode cX4_goesOneWay 84 = .ok (.iconst 0, 1) := by decide +kernel
theorem dX4_goesOneWay_85 : decode cX4_goesOneWay 85 = .ok (.ireturn, 1) := by decide +kernel
set_option maxHeartbeats 4000000 in
set_option maxRecDepth 100000 in
theorem mX4_goesOneWay (l : Launch) (G : gG) (da : Nat → Nat) (v : vSt) (x : gX) (r : Nat) (hk_r : kd r = 4) (p1 : Int32) : QI l yX4_goesOneWay cX4_goesOneWay 6 (some .boolean) rmX4_goesOneWay [.ref (ga G r), .int p1] (pW G da v x) (fX4_goesOneWay r p1 v) := by
  refine gofQ (own := RX4) (by decide) rfl (Nat.le_of_ble_eq_true rfl) (fun p e s m args below meth c ls Q X hH hl E => ?_)
  have hx := X.1
  have hb := X.2.1
  have hown := X.2.2.2.1
  have hts := X.2.2.2.2.1
  have hS : va_S (gA G) s.heap s.heap [] := va_S.rf
  have hl : lv_has ls 6 [(0, .ref (ga G r)), (1, .int p1)] := hl
  refine lv_iconst (v := 0) hx hb dX4_goesOneWay_0 (by decide) ?_
  refine lv_istore_n (lv' := [(2, .int 0), (0, .ref (ga G r)), (1, .int p1)]) hx hb dX4_goesOneWay_1 rfl hl (by decide) rfl (fun ls hl => ?_)
  refine lv_iconst (v := 0) hx hb dX4_goesOneWay_2 (by decide) ?_
  refine lv_istore_n (lv' := [(3, .int 0), (2, .int 0), (0, .ref (ga G r)), (1, .int p1)]) hx hb dX4_goesOneWay_3 rfl hl (by decide) rfl (fun ls hl => ?_)
  refine lv_iconst (v := 0) hx hb dX4_goesOneWay_4 (by decide) ?_
  refine lv_istore (lv' := [(4, .int 0), (3, .int 0), (2, .int 0), (0, .ref (ga G r)), (1, .int p1)]) hx hb dX4_goesOneWay_5 hl (by decide) rfl (fun ls hl => ?_)
  have L6 : ∀ (n : Nat) (i1 : Int32) (i2 : Int32) (i3 : Int32) (ls : Array Slot), (Int32.toInt ((p1 - 1)) - Int32.toInt i1).toNat < n → lv_has ls 6 [(4, .int i1), (3, .int i2), (2, .int i3), (0, .ref (ga G r)), (1, .int p1)] → (∀ (y4 : Int32) (y5 : Int32) (ls : Array Slot), y4 = (lX4_goesOneWay_7 v r p1 n i1 i2 i3 : Int32 × Int32).1 → y5 = (lX4_goesOneWay_7 v r p1 n i1 i2 i3 : Int32 × Int32).2 → lv_has ls 6 [(3, .int y4), (2, .int y5), (1, .int p1)] → W p l e rmX4_goesOneWay s m args below meth c s.heap [] 0 0 Q (F0 m 66 ls [])) → W p l e rmX4_goesOneWay s m args below meth c s.heap [] 0 0 Q (F0 m 7 ls []) := by
    intro n
    induction n with
    | zero =>
      intro i1 i2 i3 ls hm
      exact absurd hm (Nat.not_lt_zero _)
    | succ n ih =>
      intro i1 i2 i3 ls hm  hl K7
      refine lv_iload hx hb dX4_goesOneWay_7 (lv_at hl 0 rfl) ?_
      refine lv_iload_n hx hb dX4_goesOneWay_9 rfl (lv_at hl 4 rfl) ?_
      refine lv_iconst (v := 1) hx hb dX4_goesOneWay_10 (by decide) ?_
      refine lv_isub hx hb dX4_goesOneWay_11 ?_
      refine lv_icmp_ge (tgt := 66) hx hb dX4_goesOneWay_12 (by decide) (fun c4 => ?_) (fun c4 => ?_)
      · exact K7 _ _ _ (pr1 ((if_pos c4).trans rfl)) (pr2 ((if_pos c4).trans rfl)) (lv_sub hl [1, 2, 4] rfl)
      · refine lv_aload_n hx hb dX4_goesOneWay_15 rfl (lv_at hl 3 rfl) ?_
        refine lv_iload hx hb dX4_goesOneWay_16 (lv_at hl 0 rfl) ?_
        refine k_X4_fromEnd X hS hH hk_r t_ml_PieceType_79 hl.1 (Nat.le_of_ble_eq_true rfl) ⟨Nat.le_of_ble_eq_true rfl, Nat.le_of_ble_eq_true rfl⟩ ⟨Nat.zero_le _, Nat.zero_le _⟩ dX4_goesOneWay_18 ?_
        refine lv_aload_n hx hb dX4_goesOneWay_21 rfl (lv_at hl 3 rfl) ?_
        refine lv_iload hx hb dX4_goesOneWay_22 (lv_at hl 0 rfl) ?_
        refine lv_iconst (v := 1) hx hb dX4_goesOneWay_24 (by decide) ?_
        refine lv_iadd hx hb dX4_goesOneWay_25 ?_
        refine k_X4_fromEnd X hS hH hk_r t_ml_PieceType_79 hl.1 (Nat.le_of_ble_eq_true rfl) ⟨Nat.le_of_ble_eq_true rfl, Nat.le_of_ble_eq_true rfl⟩ ⟨Nat.zero_le _, Nat.zero_le _⟩ dX4_goesOneWay_26 ?_
        refine k_J6_compare_7cf53 X hS  t_ml_PieceType_92 hl.1 (Nat.le_of_ble_eq_true rfl) ⟨Nat.le_of_ble_eq_true rfl, Nat.le_of_ble_eq_true rfl⟩ ⟨Nat.zero_le _, Nat.zero_le _⟩ dX4_goesOneWay_29 ?_
        refine lv_istore (lv' := [(5, .int (fJ6_compare_7cf53 (fX4_fromEnd r i1 v) (fX4_fromEnd r (i1 + 1) v))), (4, .int i1), (3, .int i2), (2, .int i3), (0, .ref (ga G r)), (1, .int p1)]) hx hb dX4_goesOneWay_32 hl (by decide) rfl (fun ls hl => ?_)
        refine lv_iload_n hx hb dX4_goesOneWay_34 rfl (lv_at hl 3 rfl) ?_
        refine lv_iload hx hb dX4_goesOneWay_35 (lv_at hl 0 rfl) ?_
        have K6 : ∀ (y5 : Int32) (ls : Array Slot), y5 = (if ((fJ6_compare_7cf53 (fX4_fromEnd r i1 v) (fX4_fromEnd r (i1 + 1) v)) : Int32) ≤ 0 then 0 else 1 : Int32) → lv_has ls 6 [(5, .int (fJ6_compare_7cf53 (fX4_fromEnd r i1 v) (fX4_fromEnd r (i1 + 1) v))), (4, .int i1), (3, .int i2), (0, .ref (ga G r)), (1, .int p1)] → W p l e rmX4_goesOneWay s m args below meth c s.heap [] 0 0 Q (F0 m 45 ls [.int y5, .int i3]) := by
          intro y5 ls ey5 hl
          refine lv_iadd hx hb dX4_goesOneWay_45 ?_
          refine lv_istore_n (lv' := [(2, .int (i3 + y5)), (5, .int (fJ6_compare_7cf53 (fX4_fromEnd r i1 v) (fX4_fromEnd r (i1 + 1) v))), (4, .int i1), (3, .int i2), (0, .ref (ga G r)), (1, .int p1)]) hx hb dX4_goesOneWay_46 rfl hl (by decide) rfl (fun ls hl => ?_)
          refine lv_iload_n hx hb dX4_goesOneWay_47 rfl (lv_at hl 3 rfl) ?_
          refine lv_iload hx hb dX4_goesOneWay_48 (lv_at hl 1 rfl) ?_
          have K8 : ∀ (y7 : Int32) (ls : Array Slot), y7 = (if (0 : Int32) ≤ (fJ6_compare_7cf53 (fX4_fromEnd r i1 v) (fX4_fromEnd r (i1 + 1) v)) then 0 else 1 : Int32) → lv_has ls 6 [(2, .int (i3 + y5)), (4, .int i1), (0, .ref (ga G r)), (1, .int p1)] → W p l e rmX4_goesOneWay s m args below meth c s.heap [] 0 0 Q (F0 m 58 ls [.int y7, .int i2]) := by
            intro y7 ls ey7 hl
            refine lv_iadd hx hb dX4_goesOneWay_58 ?_
            refine lv_istore_n (lv' := [(3, .int (i2 + y7)), (2, .int (i3 + y5)), (4, .int i1), (0, .ref (ga G r)), (1, .int p1)]) hx hb dX4_goesOneWay_59 rfl hl (by decide) rfl (fun ls hl => ?_)
            refine lv_iinc (v := i1 + 1) (lv' := [(4, .int (i1 + 1)), (3, .int (i2 + y7)), (2, .int (i3 + y5)), (0, .ref (ga G r)), (1, .int p1)]) hx hb dX4_goesOneWay_60 hl (k := 2) rfl rfl (by decide) rfl (fun ls hl => ?_)
            refine lv_goto (tgt := 7) hx hb dX4_goesOneWay_63 (by decide) ?_
            have hm2 : (Int32.toInt ((p1 - 1)) - Int32.toInt (i1 + 1)).toNat < n := i_step c4 hm
            subst ey5 ey7
            exact ih _ _ _ _ hm2 (lv_sub hl [0, 1, 2, 3, 4] rfl) (fun y4 y5 ls q0 q1 hl => K7 y4 y5 ls (q0.trans (congrArg (fun z : Int32 × Int32 => z.1) (Eq.symm ((if_neg c4).trans rfl)))) (q1.trans (congrArg (fun z : Int32 × Int32 => z.2) (Eq.symm ((if_neg c4).trans rfl)))) hl)
          refine lv_if_ge (tgt := 57) hx hb dX4_goesOneWay_50 (by decide) (fun c8 => ?_) (fun c8 => ?_)
          · refine lv_iconst (v := 0) hx hb dX4_goesOneWay_57 (by decide) ?_
            exact K8 _ _ (Eq.symm ((if_pos c8).trans rfl)) (lv_sub hl [0, 2, 4, 5] rfl)
          · refine lv_iconst (v := 1) hx hb dX4_goesOneWay_53 (by decide) ?_
            refine lv_goto (tgt := 58) hx hb dX4_goesOneWay_54 (by decide) ?_
            exact K8 _ _ (Eq.symm ((if_neg c8).trans rfl)) (lv_sub hl [0, 2, 4, 5] rfl)
        refine lv_if_le (tgt := 44) hx hb dX4_goesOneWay_37 (by decide) (fun c6 => ?_) (fun c6 => ?_)
        · refine lv_iconst (v := 0) hx hb dX4_goesOneWay_44 (by decide) ?_
          exact K6 _ _ (Eq.symm ((if_pos c6).trans rfl)) (lv_sub hl [0, 1, 2, 4, 5] rfl)
        · refine lv_iconst (v := 1) hx hb dX4_goesOneWay_40 (by decide) ?_
          refine lv_goto (tgt := 45) hx hb dX4_goesOneWay_41 (by decide) ?_
          exact K6 _ _ (Eq.symm ((if_neg c6).trans rfl)) (lv_sub hl [0, 1, 2, 4, 5] rfl)
  refine L6 ((Int32.toInt ((p1 - 1)) - Int32.toInt 0).toNat + 1) 0 0 0 _ (Nat.lt_succ_self _) (lv_sub hl [0, 1, 2, 3, 4] rfl) (fun y4 y5 ls ey4 ey5 hl => ?_)
  refine lv_iload_n hx hb dX4_goesOneWay_66 rfl (lv_at hl 1 rfl) ?_
  refine lv_iload_n hx hb dX4_goesOneWay_67 rfl (lv_at hl 2 rfl) ?_
  refine lv_iconst (v := 1) hx hb dX4_goesOneWay_68 (by decide) ?_
  refine lv_isub hx hb dX4_goesOneWay_69 ?_
  refine lv_icmp_eq (tgt := 80) hx hb dX4_goesOneWay_70 (by decide) (fun c9 => ?_) (fun c9 => ?_)
  · refine lv_iconst (v := 1) hx hb dX4_goesOneWay_80 (by decide) ?_
    refine lv_goto (tgt := 85) hx hb dX4_goesOneWay_81 (by decide) ?_
    subst ey4 ey5
    exact E _ _ _ dX4_goesOneWay_85 rfl (Eq.symm ((if_pos c9).trans rfl))
  · refine lv_iload_n hx hb dX4_goesOneWay_73 rfl (lv_at hl 0 rfl) ?_
    refine lv_iload_n hx hb dX4_goesOneWay_74 rfl (lv_at hl 2 rfl) ?_
    refine lv_iconst (v := 1) hx hb dX4_goesOneWay_75 (by decide) ?_
    refine lv_isub hx hb dX4_goesOneWay_76 ?_
    refine lv_icmp_ne (tgt := 84) hx hb dX4_goesOneWay_77 (by decide) (fun c10 => ?_) (fun c10 => ?_)
    · refine lv_iconst (v := 0) hx hb dX4_goesOneWay_84 (by decide) ?_
      subst ey4 ey5
      exact E _ _ _ dX4_goesOneWay_85 rfl (Eq.symm ((if_neg c9).trans ((if_neg c10).trans rfl)))
    · refine lv_iconst (v := 1) hx hb dX4_goesOneWay_80 (by decide) ?_
      refine lv_goto (tgt := 85) hx hb dX4_goesOneWay_81 (by decide) ?_
      subst ey4 ey5
      exact E _ _ _ dX4_goesOneWay_85 rfl (Eq.symm ((if_neg c9).trans ((if_pos c10).trans rfl)))
theorem k_X4_goesOneWay {p : Program} {l : Launch} {e : Env} {R : Room} {s : State} {m : MethodId} {args : Array Value} {below : List Frame} {meth : Method} {c : Code} {H : Heap} {locs : List Loc} {cells slots : Nat} {Q : State → Prop} {cc : ByteArray} {pc nL : Nat} {ls : Array Slot} {rest : List Value} {G : gG} {own : String} {da : Nat → Nat} {v : vSt} {x : gX} (X : CX G p s m args c cc nL own) (hS : va_S (gA G) s.heap H locs) (hH : Hp G da v x H) {r : Nat} (hk_r : kd r = 4) {p1 : Int32} {idx : Nat} (hml : Cond.methodLink own idx yX4_goesOneWay ∈ TT) (hls : ls.size = nL) (hsum : (rest.map fun v => v.category).sum ≤ 8) (hR : rmX4_goesOneWay.frames + 1 ≤ R.frames ∧ 8 + (6 + 11) + rmX4_goesOneWay.locals ≤ R.locals) (hcs : cells ≤ R.cells ∧ slots ≤ R.slots) (hdg : decode cc pc = .ok (.invokevirtual idx, 3)) (kk : W p l e R s m args below meth c H locs cells slots Q (F0 m (pc + 3) ls (.int (fX4_goesOneWay r p1 v) :: rest))) : W p l e R s m args below meth c H locs cells slots Q (F0 m pc ls (.int p1 :: .ref (ga G r) :: rest)) := c_qi (runV (k := 1) X.1 X.2.1 X.2.2.1 X.2.2.2.1 X.2.2.2.2.1 (mX4_goesOneWay l G da v x r hk_r p1) pW_bl hml t_im_X4_goesOneWay t_sel_X4_goesOneWay t_ini_PieceType t_code_X4_goesOneWay ⟨rfl, by decide, by decide, by decide +kernel⟩ rfl rfl hR hcs (recvW X hH (by rw [hk_r]; decide) (by rw [hk_r]; decide) (ce_4 hk_r) rfl) (preW X hS hH) rfl hls rfl hsum hdg) (fun _ h => h ▸ kk)
theorem b01_X4_goesOneWay {r : Nat} {p1 : Int32} {v : vSt} : fX4_goesOneWay r p1 v = 0 ∨ fX4_goesOneWay r p1 v = 1 := by
  unfold fX4_goesOneWay
  (try dsimp only); (repeat' split) <;> simp
def lX4_isOnOneSide_7 (v : vSt) (r : Nat) (p1 : Int32) : Nat → Int32 → Int32 → Int32 → Int32 × Int32
  | 0, i1, i2, i3 => (i2, i3)
  | n + 1, i1, i2, i3 => if (p1 : Int32) ≤ i1 then ((i2, i3)) else (let y5 : Int32 := if ((fX4_fromEnd r i1 v) : Int32) ≤ 0 then 0 else 1; let y7 : Int32 := if (0 : Int32) ≤ (fX4_fromEnd r i1 v) then 0 else 1; lX4_isOnOneSide_7 v r p1 n (i1 + 1) (i2 + y7) (i3 + y5))
def fX4_isOnOneSide (r : Nat) (p1 : Int32) (v : vSt) : Int32 := let qy4 : Int32 × Int32 := (lX4_isOnOneSide_7 v r p1 ((Int32.toInt (p1) - Int32.toInt 0).toNat + 1) 0 0 0); let y4 := qy4.1; let y5 := qy4.2; if (y5 : Int32) = p1 then 1 else (if (y4 : Int32) = p1 then 1 else 0)
abbrev rmX4_isOnOneSide : Room := { frames := 2, cells := 0, slots := 0, locals := 42 }
theorem dX4_isOnOneSide_0 : decode cX4_isOnOneSide 0 = .ok (.iconst 0, 1) := by decide +kernel
theorem dX4_isOnOneSide_1 : decode cX4_isOnOneSide 1 = .ok (.istore_n 2, 1) := by decide +kernel
theorem dX4_isOnOneSide_2 : decode cX4_isOnOneSide 2 = .ok (.iconst 0, 1) := by decide +kernel
theorem dX4_isOnOneSide_3 : decode cX4_isOnOneSide 3 = .ok (.istore_n 3, 1) := by decide +kernel
theorem dX4_isOnOneSide_4 : decode cX4_isOnOneSide 4 = .ok (.iconst 0, 1) := by decide +kernel
theorem dX4_isOnOneSide_5 : decode cX4_isOnOneSide 5 = .ok (.istore 4, 2) := by decide +kernel
theorem dX4_isOnOneSide_7 : decode cX4_isOnOneSide 7 = .ok (.iload 4, 2) := by decide +kernel
theorem dX4_isOnOneSide_9 : decode cX4_isOnOneSide 9 = .ok (.iload_n 1, 1) := by decide +kernel
theorem dX4_isOnOneSide_10 : decode cX4_isOnOneSide 10 = .ok (.if_icmp .ge 43, 3) := by decide +kernel
theorem dX4_isOnOneSide_13 : decode cX4_isOnOneSide 13 = .ok (.iload_n 2, 1) := by decide +kernel
theorem dX4_isOnOneSide_14 : decode cX4_isOnOneSide 14 = .ok (.aload_n 0, 1) := by decide +kernel
theorem dX4_isOnOneSide_15 : decode cX4_isOnOneSide 15 = .ok (.iload 4, 2) := by decide +kernel
theorem dX4_isOnOneSide_17 : decode cX4_isOnOneSide 17 = .ok (.invokevirtual 79, 3) := by decide +kernel
theorem dX4_isOnOneSide_20 : decode cX4_isOnOneSide 20 = .ok (.ifCond .le 7, 3) := by decide +kernel
theorem dX4_isOnOneSide_23 : decode cX4_isOnOneSide 23 = .ok (.iconst 1, 1) := by decide +kernel
theorem dX4_isOnOneSide_24 : decode cX4_isOnOneSide 24 = .ok (.goto 4, 3) := by decide +kernel
theorem dX4_isOnOneSide_27 : decode cX4_isOnOneSide 27 = .ok (.iconst 0, 1) := by decide +kernel
theorem dX4_isOnOneSide_28 : decode cX4_isOnOneSide 28 = .ok (.iadd, 1) := by decide +kernel
theorem dX4_isOnOneSide_29 : decode cX4_isOnOneSide 29 = .ok (.istore_n 2, 1) := by decide +kernel
theorem dX4_isOnOneSide_30 : decode cX4_isOnOneSide 30 = .ok (.iload_n 3, 1) := by decide +kernel
theorem dX4_isOnOneSide_31 : decode cX4_isOnOneSide 31 = .ok (.aload_n 0, 1) := by decide +kernel
theorem dX4_isOnOneSide_32 : decode cX4_isOnOneSide 32 = .ok (.iload 4, 2) := by decide +kernel
theorem dX4_isOnOneSide_34 : decode cX4_isOnOneSide 34 = .ok (.invokevirtual 79, 3) := by decide +kernel
theorem dX4_isOnOneSide_37 : decode cX4_isOnOneSide 37 = .ok (.ifCond .ge 7, 3) := by decide +kernel
theorem dX4_isOnOneSide_40 : decode cX4_isOnOneSide 40 = .ok (.iconst 1, 1) := by decide +kernel
theorem dX4_isOnOneSide_41 : decode cX4_isOnOneSide 41 = .ok (.goto 4, 3) := by decide +kernel
theorem dX4_isOnOneSide_44 : decode cX4_isOnOneSide 44 = .ok (.iconst 0, 1) := by decide +kernel
theorem dX4_isOnOneSide_45 : decode cX4_isOnOneSide 45 = .ok (.iadd, 1) := by decide +kernel
theorem dX4_isOnOneSide_46 : decode cX4_isOnOneSide 46 = .ok (.istore_n 3, 1) := by decide +kernel
theorem dX4_isOnOneSide_47 : decode cX4_isOnOneSide 47 = .ok (.iinc 4 1, 3) := by decide +kernel
theorem dX4_isOnOneSide_50 : decode cX4_isOnOneSide 50 = .ok (.goto (-43), 3) := by decide +kernel
theorem dX4_isOnOneSide_53 : decode cX4_isOnOneSide 53 = .ok (.iload_n 2, 1) := by decide +kernel
theorem dX4_isOnOneSide_54 : decode cX4_isOnOneSide 54 = .ok (.iload_n 1, 1) := by decide +kernel
theorem dX4_isOnOneSide_55 : decode cX4_isOnOneSide 55 = .ok (.if_icmp .eq 8, 3) := by decide +kernel
theorem dX4_isOnOneSide_58 : decode cX4_isOnOneSide 58 = .ok (.iload_n 3, 1) := by decide +kernel
theorem dX4_isOnOneSide_59 : decode cX4_isOnOneSide 59 = .ok (.iload_n 1, 1) := by decide +kernel
theorem dX4_isOnOneSide_60 : decode cX4_isOnOneSide 60 = .ok (.if_icmp .ne 7, 3) := by decide +kernel
theorem dX4_isOnOneSide_63 : decode cX4_isOnOneSide 63 = .ok (.iconst 1, 1) := by decide +kernel
theorem dX4_isOnOneSide_64 : decode cX4_isOnOneSide 64 = .ok (.goto 4, 3) := by decide +kernel
theorem dX4_isOnOneSide_67 : decode cX4_isOnOneSide 67 = .ok (.iconst 0, 1) := by decide +kernel
theorem dX4_isOnOneSide_68 : decode cX4_isOnOneSide 68 = .ok (.ireturn, 1) := by decide +kernel
set_option maxHeartbeats 4000000 in
set_option maxRecDepth 100000 in
theorem mX4_isOnOneSide (l : Launch) (G : gG) (da : Nat → Nat) (v : vSt) (x : gX) (r : Nat) (hk_r : kd r = 4) (p1 : Int32) : QI l yX4_isOnOneSide cX4_isOnOneSide 5 (some .boolean) rmX4_isOnOneSide [.ref (ga G r), .int p1] (pW G da v x) (fX4_isOnOneSide r p1 v) := by
  refine gofQ (own := RX4) (by decide) rfl (Nat.le_of_ble_eq_true rfl) (fun p e s m args below meth c ls Q X hH hl E => ?_)
  have hx := X.1
  have hb := X.2.1
  have hown := X.2.2.2.1
  have hts := X.2.2.2.2.1
  have hS : va_S (gA G) s.heap s.heap [] := va_S.rf
  have hl : lv_has ls 5 [(0, .ref (ga G r)), (1, .int p1)] := hl
  refine lv_iconst (v := 0) hx hb dX4_isOnOneSide_0 (by decide) ?_
  refine lv_istore_n (lv' := [(2, .int 0), (0, .ref (ga G r)), (1, .int p1)]) hx hb dX4_isOnOneSide_1 rfl hl (by decide) rfl (fun ls hl => ?_)
  refine lv_iconst (v := 0) hx hb dX4_isOnOneSide_2 (by decide) ?_
  refine lv_istore_n (lv' := [(3, .int 0), (2, .int 0), (0, .ref (ga G r)), (1, .int p1)]) hx hb dX4_isOnOneSide_3 rfl hl (by decide) rfl (fun ls hl => ?_)
  refine lv_iconst (v := 0) hx hb dX4_isOnOneSide_4 (by decide) ?_
  refine lv_istore (lv' := [(4, .int 0), (3, .int 0), (2, .int 0), (0, .ref (ga G r)), (1, .int p1)]) hx hb dX4_isOnOneSide_5 hl (by decide) rfl (fun ls hl => ?_)
  have L6 : ∀ (n : Nat) (i1 : Int32) (i2 : Int32) (i3 : Int32) (ls : Array Slot), (Int32.toInt (p1) - Int32.toInt i1).toNat < n → lv_has ls 5 [(4, .int i1), (3, .int i2), (2, .int i3), (0, .ref (ga G r)), (1, .int p1)] → (∀ (y4 : Int32) (y5 : Int32) (ls : Array Slot), y4 = (lX4_isOnOneSide_7 v r p1 n i1 i2 i3 : Int32 × Int32).1 → y5 = (lX4_isOnOneSide_7 v r p1 n i1 i2 i3 : Int32 × Int32).2 → lv_has ls 5 [(3, .int y4), (2, .int y5), (1, .int p1)] → W p l e rmX4_isOnOneSide s m args below meth c s.heap [] 0 0 Q (F0 m 53 ls [])) → W p l e rmX4_isOnOneSide s m args below meth c s.heap [] 0 0 Q (F0 m 7 ls []) := by
    intro n
    induction n with
    | zero =>
      intro i1 i2 i3 ls hm
      exact absurd hm (Nat.not_lt_zero _)
    | succ n ih =>
      intro i1 i2 i3 ls hm  hl K7
      refine lv_iload hx hb dX4_isOnOneSide_7 (lv_at hl 0 rfl) ?_
      refine lv_iload_n hx hb dX4_isOnOneSide_9 rfl (lv_at hl 4 rfl) ?_
      refine lv_icmp_ge (tgt := 53) hx hb dX4_isOnOneSide_10 (by decide) (fun c4 => ?_) (fun c4 => ?_)
      · exact K7 _ _ _ (pr1 ((if_pos c4).trans rfl)) (pr2 ((if_pos c4).trans rfl)) (lv_sub hl [1, 2, 4] rfl)
      · refine lv_iload_n hx hb dX4_isOnOneSide_13 rfl (lv_at hl 2 rfl) ?_
        refine lv_aload_n hx hb dX4_isOnOneSide_14 rfl (lv_at hl 3 rfl) ?_
        refine lv_iload hx hb dX4_isOnOneSide_15 (lv_at hl 0 rfl) ?_
        refine k_X4_fromEnd X hS hH hk_r t_ml_PieceType_79 hl.1 (Nat.le_of_ble_eq_true rfl) ⟨Nat.le_of_ble_eq_true rfl, Nat.le_of_ble_eq_true rfl⟩ ⟨Nat.zero_le _, Nat.zero_le _⟩ dX4_isOnOneSide_17 ?_
        have K6 : ∀ (y5 : Int32) (ls : Array Slot), y5 = (if ((fX4_fromEnd r i1 v) : Int32) ≤ 0 then 0 else 1 : Int32) → lv_has ls 5 [(4, .int i1), (3, .int i2), (0, .ref (ga G r)), (1, .int p1)] → W p l e rmX4_isOnOneSide s m args below meth c s.heap [] 0 0 Q (F0 m 28 ls [.int y5, .int i3]) := by
          intro y5 ls ey5 hl
          refine lv_iadd hx hb dX4_isOnOneSide_28 ?_
          refine lv_istore_n (lv' := [(2, .int (i3 + y5)), (4, .int i1), (3, .int i2), (0, .ref (ga G r)), (1, .int p1)]) hx hb dX4_isOnOneSide_29 rfl hl (by decide) rfl (fun ls hl => ?_)
          refine lv_iload_n hx hb dX4_isOnOneSide_30 rfl (lv_at hl 2 rfl) ?_
          refine lv_aload_n hx hb dX4_isOnOneSide_31 rfl (lv_at hl 3 rfl) ?_
          refine lv_iload hx hb dX4_isOnOneSide_32 (lv_at hl 1 rfl) ?_
          refine k_X4_fromEnd X hS hH hk_r t_ml_PieceType_79 hl.1 (Nat.le_of_ble_eq_true rfl) ⟨Nat.le_of_ble_eq_true rfl, Nat.le_of_ble_eq_true rfl⟩ ⟨Nat.zero_le _, Nat.zero_le _⟩ dX4_isOnOneSide_34 ?_
          have K8 : ∀ (y7 : Int32) (ls : Array Slot), y7 = (if (0 : Int32) ≤ (fX4_fromEnd r i1 v) then 0 else 1 : Int32) → lv_has ls 5 [(2, .int (i3 + y5)), (4, .int i1), (0, .ref (ga G r)), (1, .int p1)] → W p l e rmX4_isOnOneSide s m args below meth c s.heap [] 0 0 Q (F0 m 45 ls [.int y7, .int i2]) := by
            intro y7 ls ey7 hl
            refine lv_iadd hx hb dX4_isOnOneSide_45 ?_
            refine lv_istore_n (lv' := [(3, .int (i2 + y7)), (2, .int (i3 + y5)), (4, .int i1), (0, .ref (ga G r)), (1, .int p1)]) hx hb dX4_isOnOneSide_46 rfl hl (by decide) rfl (fun ls hl => ?_)
            refine lv_iinc (v := i1 + 1) (lv' := [(4, .int (i1 + 1)), (3, .int (i2 + y7)), (2, .int (i3 + y5)), (0, .ref (ga G r)), (1, .int p1)]) hx hb dX4_isOnOneSide_47 hl (k := 2) rfl rfl (by decide) rfl (fun ls hl => ?_)
            refine lv_goto (tgt := 7) hx hb dX4_isOnOneSide_50 (by decide) ?_
            have hm2 : (Int32.toInt (p1) - Int32.toInt (i1 + 1)).toNat < n := i_step c4 hm
            subst ey5 ey7
            exact ih _ _ _ _ hm2 (lv_sub hl [0, 1, 2, 3, 4] rfl) (fun y4 y5 ls q0 q1 hl => K7 y4 y5 ls (q0.trans (congrArg (fun z : Int32 × Int32 => z.1) (Eq.symm ((if_neg c4).trans rfl)))) (q1.trans (congrArg (fun z : Int32 × Int32 => z.2) (Eq.symm ((if_neg c4).trans rfl)))) hl)
          refine lv_if_ge (tgt := 44) hx hb dX4_isOnOneSide_37 (by decide) (fun c8 => ?_) (fun c8 => ?_)
          · refine lv_iconst (v := 0) hx hb dX4_isOnOneSide_44 (by decide) ?_
            exact K8 _ _ (Eq.symm ((if_pos c8).trans rfl)) (lv_sub hl [0, 1, 3, 4] rfl)
          · refine lv_iconst (v := 1) hx hb dX4_isOnOneSide_40 (by decide) ?_
            refine lv_goto (tgt := 45) hx hb dX4_isOnOneSide_41 (by decide) ?_
            exact K8 _ _ (Eq.symm ((if_neg c8).trans rfl)) (lv_sub hl [0, 1, 3, 4] rfl)
        refine lv_if_le (tgt := 27) hx hb dX4_isOnOneSide_20 (by decide) (fun c6 => ?_) (fun c6 => ?_)
        · refine lv_iconst (v := 0) hx hb dX4_isOnOneSide_27 (by decide) ?_
          exact K6 _ _ (Eq.symm ((if_pos c6).trans rfl)) (lv_sub hl [0, 1, 3, 4] rfl)
        · refine lv_iconst (v := 1) hx hb dX4_isOnOneSide_23 (by decide) ?_
          refine lv_goto (tgt := 28) hx hb dX4_isOnOneSide_24 (by decide) ?_
          exact K6 _ _ (Eq.symm ((if_neg c6).trans rfl)) (lv_sub hl [0, 1, 3, 4] rfl)
  refine L6 ((Int32.toInt (p1) - Int32.toInt 0).toNat + 1) 0 0 0 _ (Nat.lt_succ_self _) (lv_sub hl [0, 1, 2, 3, 4] rfl) (fun y4 y5 ls ey4 ey5 hl => ?_)
  refine lv_iload_n hx hb dX4_isOnOneSide_53 rfl (lv_at hl 1 rfl) ?_
  refine lv_iload_n hx hb dX4_isOnOneSide_54 rfl (lv_at hl 2 rfl) ?_
  refine lv_icmp_eq (tgt := 63) hx hb dX4_isOnOneSide_55 (by decide) (fun c9 => ?_) (fun c9 => ?_)
  · refine lv_iconst (v := 1) hx hb dX4_isOnOneSide_63 (by decide) ?_
    refine lv_goto (tgt := 68) hx hb dX4_isOnOneSide_64 (by decide) ?_
    subst ey4 ey5
    exact E _ _ _ dX4_isOnOneSide_68 rfl (Eq.symm ((if_pos c9).trans rfl))
  · refine lv_iload_n hx hb dX4_isOnOneSide_58 rfl (lv_at hl 0 rfl) ?_
    refine lv_iload_n hx hb dX4_isOnOneSide_59 rfl (lv_at hl 2 rfl) ?_
    refine lv_icmp_ne (tgt := 67) hx hb dX4_isOnOneSide_60 (by decide) (fun c10 => ?_) (fun c10 => ?_)
    · refine lv_iconst (v := 0) hx hb dX4_isOnOneSide_67 (by decide) ?_
      subst ey4 ey5
      exact E _ _ _ dX4_isOnOneSide_68 rfl (Eq.symm ((if_neg c9).trans ((if_neg c10).trans rfl)))
    · refine lv_iconst (v := 1) hx hb dX4_isOnOneSide_63 (by decide) ?_
      refine lv_goto (tgt := 68) hx hb dX4_isOnOneSide_64 (by decide) ?_
      subst ey4 ey5
      exact E _ _ _ dX4_isOnOneSide_68 rfl (Eq.symm ((if_neg c9).trans ((if_pos c10).trans rfl)))
theorem k_X4_isOnOneSide {p : Program} {l : Launch} {e : Env} {R : Room} {s : State} {m : MethodId} {args : Array Value} {below : List Frame} {meth : Method} {c : Code} {H : Heap} {locs : List Loc} {cells slots : Nat} {Q : State → Prop} {cc : ByteArray} {pc nL : Nat} {ls : Array Slot} {rest : List Value} {G : gG} {own : String} {da : Nat → Nat} {v : vSt} {x : gX} (X : CX G p s m args c cc nL own) (hS : va_S (gA G) s.heap H locs) (hH : Hp G da v x H) {r : Nat} (hk_r : kd r = 4) {p1 : Int32} {idx : Nat} (hml : Cond.methodLink own idx yX4_isOnOneSide ∈ TT) (hls : ls.size = nL) (hsum : (rest.map fun v => v.category).sum ≤ 8) (hR : rmX4_isOnOneSide.frames + 1 ≤ R.frames ∧ 8 + (5 + 11) + rmX4_isOnOneSide.locals ≤ R.locals) (hcs : cells ≤ R.cells ∧ slots ≤ R.slots) (hdg : decode cc pc = .ok (.invokevirtual idx, 3)) (kk : W p l e R s m args below meth c H locs cells slots Q (F0 m (pc + 3) ls (.int (fX4_isOnOneSide r p1 v) :: rest))) : W p l e R s m args below meth c H locs cells slots Q (F0 m pc ls (.int p1 :: .ref (ga G r) :: rest)) := c_qi (runV (k := 1) X.1 X.2.1 X.2.2.1 X.2.2.2.1 X.2.2.2.2.1 (mX4_isOnOneSide l G da v x r hk_r p1) pW_bl hml t_im_X4_isOnOneSide t_sel_X4_isOnOneSide t_ini_PieceType t_code_X4_isOnOneSide ⟨rfl, by decide, by decide, by decide +kernel⟩ rfl rfl hR hcs (recvW X hH (by rw [hk_r]; decide) (by rw [hk_r]; decide) (ce_4 hk_r) rfl) (preW X hS hH) rfl hls rfl hsum hdg) (fun _ h => h ▸ kk)
theorem b01_X4_isOnOneSide {r : Nat} {p1 : Int32} {v : vSt} : fX4_isOnOneSide r p1 v = 0 ∨ fX4_isOnOneSide r p1 v = 1 := by
  unfold fX4_isOnOneSide
  (try dsimp only); (repeat' split) <;> simp
def lX4_isFarOut_7 (v : vSt) (r : Nat) (p1 : Int32) : Nat → Int32 → Int32 → Int32 → Int32 × Int32
  | 0, i1, i2, i3 => (i2, i3)
  | n + 1, i1, i2, i3 => if (p1 : Int32) ≤ i1 then ((i2, i3)) else (let y5 : Int32 := if (((fX4_fromEnd r i1 v) * 3) : Int32) ≤ ((v r 2) * 2) then 0 else 1; let y7 : Int32 := if (((v r 1) * 2) : Int32) ≤ ((fX4_fromEnd r i1 v) * 3) then 0 else 1; lX4_isFarOut_7 v r p1 n (i1 + 1) (i2 + y7) (i3 + y5))
def fX4_isFarOut (r : Nat) (p1 : Int32) (v : vSt) : Int32 := let qy4 : Int32 × Int32 := (lX4_isFarOut_7 v r p1 ((Int32.toInt (p1) - Int32.toInt 0).toNat + 1) 0 0 0); let y4 := qy4.1; let y5 := qy4.2; if (2 : Int32) ≤ y5 then 1 else (if (y4 : Int32) < 2 then 0 else 1)
abbrev rmX4_isFarOut : Room := { frames := 2, cells := 0, slots := 0, locals := 42 }
theorem dX4_isFarOut_0 : decode cX4_isFarOut 0 = .ok (.iconst 0, 1) := by decide +kernel
theorem dX4_isFarOut_1 : decode cX4_isFarOut 1 = .ok (.istore_n 2, 1) := by decide +kernel
theorem dX4_isFarOut_2 : decode cX4_isFarOut 2 = .ok (.iconst 0, 1) := by decide +kernel
theorem dX4_isFarOut_3 : decode cX4_isFarOut 3 = .ok (.istore_n 3, 1) := by decide +kernel
theorem dX4_isFarOut_4 : decode cX4_isFarOut 4 = .ok (.iconst 0, 1) := by decide +kernel
theorem dX4_isFarOut_5 : decode cX4_isFarOut 5 = .ok (.istore 4, 2) := by decide +kernel
theorem dX4_isFarOut_7 : decode cX4_isFarOut 7 = .ok (.iload 4, 2) := by decide +kernel
theorem dX4_isFarOut_9 : decode cX4_isFarOut 9 = .ok (.iload_n 1, 1) := by decide +kernel
theorem dX4_isFarOut_10 : decode cX4_isFarOut 10 = .ok (.if_icmp .ge 59, 3) := by decide +kernel
theorem dX4_isFarOut_13 : decode cX4_isFarOut 13 = .ok (.iload_n 2, 1) := by decide +kernel
theorem dX4_isFarOut_14 : decode cX4_isFarOut 14 = .ok (.aload_n 0, 1) := by decide +kernel
theorem dX4_isFarOut_15 : decode cX4_isFarOut 15 = .ok (.iload 4, 2) := by decide +kernel
theorem dX4_isFarOut_17 : decode cX4_isFarOut 17 = .ok (.invokevirtual 79, 3) := by decide +kernel
theorem dX4_isFarOut_20 : decode cX4_isFarOut 20 = .ok (.iconst 3, 1) := by decide +kernel
theorem dX4_isFarOut_21 : decode cX4_isFarOut 21 = .ok (.imul, 1) := by decide +kernel
theorem dX4_isFarOut_22 : decode cX4_isFarOut 22 = .ok (.aload_n 0, 1) := by decide +kernel
theorem dX4_isFarOut_23 : decode cX4_isFarOut 23 = .ok (.getfield 25, 3) := by decide +kernel
theorem dX4_isFarOut_26 : decode cX4_isFarOut 26 = .ok (.iconst 2, 1) := by decide +kernel
theorem dX4_isFarOut_27 : decode cX4_isFarOut 27 = .ok (.imul, 1) := by decide +kernel
theorem dX4_isFarOut_28 : decode cX4_isFarOut 28 = .ok (.if_icmp .le 7, 3) := by decide +kernel
theorem dX4_isFarOut_31 : decode cX4_isFarOut 31 = .ok (.iconst 1, 1) := by decide +kernel
theorem dX4_isFarOut_32 : decode cX4_isFarOut 32 = .ok (.goto 4, 3) := by decide +kernel
theorem dX4_isFarOut_35 : decode cX4_isFarOut 35 = .ok (.iconst 0, 1) := by decide +kernel
theorem dX4_isFarOut_36 : decode cX4_isFarOut 36 = .ok (.iadd, 1) := by decide +kernel
theorem dX4_isFarOut_37 : decode cX4_isFarOut 37 = .ok (.istore_n 2, 1) := by decide +kernel
theorem dX4_isFarOut_38 : decode cX4_isFarOut 38 = .ok (.iload_n 3, 1) := by decide +kernel
theorem dX4_isFarOut_39 : decode cX4_isFarOut 39 = .ok (.aload_n 0, 1) := by decide +kernel
theorem dX4_isFarOut_40 : decode cX4_isFarOut 40 = .ok (.iload 4, 2) := by decide +kernel
theorem dX4_isFarOut_42 : decode cX4_isFarOut 42 = .ok (.invokevirtual 79, 3) := by decide +kernel
theorem dX4_isFarOut_45 : decode cX4_isFarOut 45 = .ok (.iconst 3, 1) := by decide +kernel
theorem dX4_isFarOut_46 : decode cX4_isFarOut 46 = .ok (.imul, 1) := by decide +kernel
theorem dX4_isFarOut_47 : decode cX4_isFarOut 47 = .ok (.aload_n 0, 1) := by decide +kernel
theorem dX4_isFarOut_48 : decode cX4_isFarOut 48 = .ok (.getfield 22, 3) := by decide +kernel
theorem dX4_isFarOut_51 : decode cX4_isFarOut 51 = .ok (.iconst 2, 1) := by decide +kernel
theorem dX4_isFarOut_52 : decode cX4_isFarOut 52 = .ok (.imul, 1) := by decide +kernel
theorem dX4_isFarOut_53 : decode cX4_isFarOut 53 = .ok (.if_icmp .ge 7, 3) := by decide +kernel
theorem dX4_isFarOut_56 : decode cX4_isFarOut 56 = .ok (.iconst 1, 1) := by decide +kernel
theorem dX4_isFarOut_57 : decode cX4_isFarOut 57 = .ok (.goto 4, 3) := by decide +kernel
theorem dX4_isFarOut_60 : decode cX4_isFarOut 60 = .ok (.iconst 0, 1) := by decide +kernel
theorem dX4_isFarOut_61 : decode cX4_isFarOut 61 = .ok (.iadd, 1) := by decide +kernel
theorem dX4_isFarOut_62 : decode cX4_isFarOut 62 = .ok (.istore_n 3, 1) := by decide +kernel
theorem dX4_isFarOut_63 : decode cX4_isFarOut 63 = .ok (.iinc 4 1, 3) := by decide +kernel
theorem dX4_isFarOut_66 : decode cX4_isFarOut 66 = .ok (.goto (-59), 3) := by decide +kernel
theorem dX4_isFarOut_69 : decode cX4_isFarOut 69 = .ok (.iload_n 2, 1) := by decide +kernel
theorem dX4_isFarOut_70 : decode cX4_isFarOut 70 = .ok (.iconst 2, 1) := by decide +kernel
theorem dX4_isFarOut_71 : decode cX4_isFarOut 71 = .ok (.if_icmp .ge 8, 3) := by decide +kernel
theorem dX4_isFarOut_74 : decode cX4_isFarOut 74 = .ok (.iload_n 3, 1) := by decide +kernel
theorem dX4_isFarOut_75 : decode cX4_isFarOut 75 = .ok (.iconst 2, 1) := by decide +kernel
theorem dX4_isFarOut_76 : decode cX4_isFarOut 76 = .ok (.if_icmp .lt 7, 3) := by decide +kernel
theorem dX4_isFarOut_79 : decode cX4_isFarOut 79 = .ok (.iconst 1, 1) := by decide +kernel
theorem dX4_isFarOut_80 : decode cX4_isFarOut 80 = .ok (.goto 4, 3) := by decide +kernel
theorem dX4_isFarOut_83 : decode cX4_isFarOut 83 = .ok (.iconst 0, 1) := by decide +kernel
theorem dX4_isFarOut_84 : decode cX4_isFarOut 84 = .ok (.ireturn, 1) := by decide +kernel
set_option maxHeartbeats 4000000 in
set_option maxRecDepth 100000 in
theorem mX4_isFarOut (l : Launch) (G : gG) (da : Nat → Nat) (v : vSt) (x : gX) (r : Nat) (hk_r : kd r = 4) (p1 : Int32) : QI l yX4_isFarOut cX4_isFarOut 5 (some .boolean) rmX4_isFarOut [.ref (ga G r), .int p1] (pW G da v x) (fX4_isFarOut r p1 v) := by
  refine gofQ (own := RX4) (by decide) rfl (Nat.le_of_ble_eq_true rfl) (fun p e s m args below meth c ls Q X hH hl E => ?_)
  have hx := X.1
  have hb := X.2.1
  have hown := X.2.2.2.1
  have hts := X.2.2.2.2.1
  have hS : va_S (gA G) s.heap s.heap [] := va_S.rf
  have hl : lv_has ls 5 [(0, .ref (ga G r)), (1, .int p1)] := hl
  refine lv_iconst (v := 0) hx hb dX4_isFarOut_0 (by decide) ?_
  refine lv_istore_n (lv' := [(2, .int 0), (0, .ref (ga G r)), (1, .int p1)]) hx hb dX4_isFarOut_1 rfl hl (by decide) rfl (fun ls hl => ?_)
  refine lv_iconst (v := 0) hx hb dX4_isFarOut_2 (by decide) ?_
  refine lv_istore_n (lv' := [(3, .int 0), (2, .int 0), (0, .ref (ga G r)), (1, .int p1)]) hx hb dX4_isFarOut_3 rfl hl (by decide) rfl (fun ls hl => ?_)
  refine lv_iconst (v := 0) hx hb dX4_isFarOut_4 (by decide) ?_
  refine lv_istore (lv' := [(4, .int 0), (3, .int 0), (2, .int 0), (0, .ref (ga G r)), (1, .int p1)]) hx hb dX4_isFarOut_5 hl (by decide) rfl (fun ls hl => ?_)
  have L6 : ∀ (n : Nat) (i1 : Int32) (i2 : Int32) (i3 : Int32) (ls : Array Slot), (Int32.toInt (p1) - Int32.toInt i1).toNat < n → lv_has ls 5 [(4, .int i1), (3, .int i2), (2, .int i3), (0, .ref (ga G r)), (1, .int p1)] → (∀ (y4 : Int32) (y5 : Int32) (ls : Array Slot), y4 = (lX4_isFarOut_7 v r p1 n i1 i2 i3 : Int32 × Int32).1 → y5 = (lX4_isFarOut_7 v r p1 n i1 i2 i3 : Int32 × Int32).2 → lv_has ls 5 [(3, .int y4), (2, .int y5)] → W p l e rmX4_isFarOut s m args below meth c s.heap [] 0 0 Q (F0 m 69 ls [])) → W p l e rmX4_isFarOut s m args below meth c s.heap [] 0 0 Q (F0 m 7 ls []) := by
    intro n
    induction n with
    | zero =>
      intro i1 i2 i3 ls hm
      exact absurd hm (Nat.not_lt_zero _)
    | succ n ih =>
      intro i1 i2 i3 ls hm  hl K7
      refine lv_iload hx hb dX4_isFarOut_7 (lv_at hl 0 rfl) ?_
      refine lv_iload_n hx hb dX4_isFarOut_9 rfl (lv_at hl 4 rfl) ?_
      refine lv_icmp_ge (tgt := 69) hx hb dX4_isFarOut_10 (by decide) (fun c4 => ?_) (fun c4 => ?_)
      · exact K7 _ _ _ (pr1 ((if_pos c4).trans rfl)) (pr2 ((if_pos c4).trans rfl)) (lv_sub hl [1, 2] rfl)
      · refine lv_iload_n hx hb dX4_isFarOut_13 rfl (lv_at hl 2 rfl) ?_
        refine lv_aload_n hx hb dX4_isFarOut_14 rfl (lv_at hl 3 rfl) ?_
        refine lv_iload hx hb dX4_isFarOut_15 (lv_at hl 0 rfl) ?_
        refine k_X4_fromEnd X hS hH hk_r t_ml_PieceType_79 hl.1 (Nat.le_of_ble_eq_true rfl) ⟨Nat.le_of_ble_eq_true rfl, Nat.le_of_ble_eq_true rfl⟩ ⟨Nat.zero_le _, Nat.zero_le _⟩ dX4_isFarOut_17 ?_
        refine lv_iconst (v := 3) hx hb dX4_isFarOut_20 (by decide) ?_
        refine lv_imul hx hb dX4_isFarOut_21 ?_
        refine lv_aload_n hx hb dX4_isFarOut_22 rfl (lv_at hl 3 rfl) ?_
        refine g_PieceType_25 X hH hk_r dX4_isFarOut_23 ?_
        refine lv_iconst (v := 2) hx hb dX4_isFarOut_26 (by decide) ?_
        refine lv_imul hx hb dX4_isFarOut_27 ?_
        have K6 : ∀ (y5 : Int32) (ls : Array Slot), y5 = (if (((fX4_fromEnd r i1 v) * 3) : Int32) ≤ ((v r 2) * 2) then 0 else 1 : Int32) → lv_has ls 5 [(4, .int i1), (3, .int i2), (0, .ref (ga G r)), (1, .int p1)] → W p l e rmX4_isFarOut s m args below meth c s.heap [] 0 0 Q (F0 m 36 ls [.int y5, .int i3]) := by
          intro y5 ls ey5 hl
          refine lv_iadd hx hb dX4_isFarOut_36 ?_
          refine lv_istore_n (lv' := [(2, .int (i3 + y5)), (4, .int i1), (3, .int i2), (0, .ref (ga G r)), (1, .int p1)]) hx hb dX4_isFarOut_37 rfl hl (by decide) rfl (fun ls hl => ?_)
          refine lv_iload_n hx hb dX4_isFarOut_38 rfl (lv_at hl 2 rfl) ?_
          refine lv_aload_n hx hb dX4_isFarOut_39 rfl (lv_at hl 3 rfl) ?_
          refine lv_iload hx hb dX4_isFarOut_40 (lv_at hl 1 rfl) ?_
          refine k_X4_fromEnd X hS hH hk_r t_ml_PieceType_79 hl.1 (Nat.le_of_ble_eq_true rfl) ⟨Nat.le_of_ble_eq_true rfl, Nat.le_of_ble_eq_true rfl⟩ ⟨Nat.zero_le _, Nat.zero_le _⟩ dX4_isFarOut_42 ?_
          refine lv_iconst (v := 3) hx hb dX4_isFarOut_45 (by decide) ?_
          refine lv_imul hx hb dX4_isFarOut_46 ?_
          refine lv_aload_n hx hb dX4_isFarOut_47 rfl (lv_at hl 3 rfl) ?_
          refine g_PieceType_22 X hH hk_r dX4_isFarOut_48 ?_
          refine lv_iconst (v := 2) hx hb dX4_isFarOut_51 (by decide) ?_
          refine lv_imul hx hb dX4_isFarOut_52 ?_
          have K8 : ∀ (y7 : Int32) (ls : Array Slot), y7 = (if (((v r 1) * 2) : Int32) ≤ ((fX4_fromEnd r i1 v) * 3) then 0 else 1 : Int32) → lv_has ls 5 [(2, .int (i3 + y5)), (4, .int i1), (0, .ref (ga G r)), (1, .int p1)] → W p l e rmX4_isFarOut s m args below meth c s.heap [] 0 0 Q (F0 m 61 ls [.int y7, .int i2]) := by
            intro y7 ls ey7 hl
            refine lv_iadd hx hb dX4_isFarOut_61 ?_
            refine lv_istore_n (lv' := [(3, .int (i2 + y7)), (2, .int (i3 + y5)), (4, .int i1), (0, .ref (ga G r)), (1, .int p1)]) hx hb dX4_isFarOut_62 rfl hl (by decide) rfl (fun ls hl => ?_)
            refine lv_iinc (v := i1 + 1) (lv' := [(4, .int (i1 + 1)), (3, .int (i2 + y7)), (2, .int (i3 + y5)), (0, .ref (ga G r)), (1, .int p1)]) hx hb dX4_isFarOut_63 hl (k := 2) rfl rfl (by decide) rfl (fun ls hl => ?_)
            refine lv_goto (tgt := 7) hx hb dX4_isFarOut_66 (by decide) ?_
            have hm2 : (Int32.toInt (p1) - Int32.toInt (i1 + 1)).toNat < n := i_step c4 hm
            subst ey5 ey7
            exact ih _ _ _ _ hm2 (lv_sub hl [0, 1, 2, 3, 4] rfl) (fun y4 y5 ls q0 q1 hl => K7 y4 y5 ls (q0.trans (congrArg (fun z : Int32 × Int32 => z.1) (Eq.symm ((if_neg c4).trans rfl)))) (q1.trans (congrArg (fun z : Int32 × Int32 => z.2) (Eq.symm ((if_neg c4).trans rfl)))) hl)
          refine lv_icmp_ge (tgt := 60) hx hb dX4_isFarOut_53 (by decide) (fun c8 => ?_) (fun c8 => ?_)
          · refine lv_iconst (v := 0) hx hb dX4_isFarOut_60 (by decide) ?_
            exact K8 _ _ (Eq.symm ((if_pos c8).trans rfl)) (lv_sub hl [0, 1, 3, 4] rfl)
          · refine lv_iconst (v := 1) hx hb dX4_isFarOut_56 (by decide) ?_
            refine lv_goto (tgt := 61) hx hb dX4_isFarOut_57 (by decide) ?_
            exact K8 _ _ (Eq.symm ((if_neg c8).trans rfl)) (lv_sub hl [0, 1, 3, 4] rfl)
        refine lv_icmp_le (tgt := 35) hx hb dX4_isFarOut_28 (by decide) (fun c6 => ?_) (fun c6 => ?_)
        · refine lv_iconst (v := 0) hx hb dX4_isFarOut_35 (by decide) ?_
          exact K6 _ _ (Eq.symm ((if_pos c6).trans rfl)) (lv_sub hl [0, 1, 3, 4] rfl)
        · refine lv_iconst (v := 1) hx hb dX4_isFarOut_31 (by decide) ?_
          refine lv_goto (tgt := 36) hx hb dX4_isFarOut_32 (by decide) ?_
          exact K6 _ _ (Eq.symm ((if_neg c6).trans rfl)) (lv_sub hl [0, 1, 3, 4] rfl)
  refine L6 ((Int32.toInt (p1) - Int32.toInt 0).toNat + 1) 0 0 0 _ (Nat.lt_succ_self _) (lv_sub hl [0, 1, 2, 3, 4] rfl) (fun y4 y5 ls ey4 ey5 hl => ?_)
  refine lv_iload_n hx hb dX4_isFarOut_69 rfl (lv_at hl 1 rfl) ?_
  refine lv_iconst (v := 2) hx hb dX4_isFarOut_70 (by decide) ?_
  refine lv_icmp_ge (tgt := 79) hx hb dX4_isFarOut_71 (by decide) (fun c9 => ?_) (fun c9 => ?_)
  · refine lv_iconst (v := 1) hx hb dX4_isFarOut_79 (by decide) ?_
    refine lv_goto (tgt := 84) hx hb dX4_isFarOut_80 (by decide) ?_
    subst ey4 ey5
    exact E _ _ _ dX4_isFarOut_84 rfl (Eq.symm ((if_pos c9).trans rfl))
  · refine lv_iload_n hx hb dX4_isFarOut_74 rfl (lv_at hl 0 rfl) ?_
    refine lv_iconst (v := 2) hx hb dX4_isFarOut_75 (by decide) ?_
    refine lv_icmp_lt (tgt := 83) hx hb dX4_isFarOut_76 (by decide) (fun c10 => ?_) (fun c10 => ?_)
    · refine lv_iconst (v := 0) hx hb dX4_isFarOut_83 (by decide) ?_
      subst ey4 ey5
      exact E _ _ _ dX4_isFarOut_84 rfl (Eq.symm ((if_neg c9).trans ((if_pos c10).trans rfl)))
    · refine lv_iconst (v := 1) hx hb dX4_isFarOut_79 (by decide) ?_
      refine lv_goto (tgt := 84) hx hb dX4_isFarOut_80 (by decide) ?_
      subst ey4 ey5
      exact E _ _ _ dX4_isFarOut_84 rfl (Eq.symm ((if_neg c9).trans ((if_neg c10).trans rfl)))
theorem k_X4_isFarOut {p : Program} {l : Launch} {e : Env} {R : Room} {s : State} {m : MethodId} {args : Array Value} {below : List Frame} {meth : Method} {c : Code} {H : Heap} {locs : List Loc} {cells slots : Nat} {Q : State → Prop} {cc : ByteArray} {pc nL : Nat} {ls : Array Slot} {rest : List Value} {G : gG} {own : String} {da : Nat → Nat} {v : vSt} {x : gX} (X : CX G p s m args c cc nL own) (hS : va_S (gA G) s.heap H locs) (hH : Hp G da v x H) {r : Nat} (hk_r : kd r = 4) {p1 : Int32} {idx : Nat} (hml : Cond.methodLink own idx yX4_isFarOut ∈ TT) (hls : ls.size = nL) (hsum : (rest.map fun v => v.category).sum ≤ 8) (hR : rmX4_isFarOut.frames + 1 ≤ R.frames ∧ 8 + (5 + 11) + rmX4_isFarOut.locals ≤ R.locals) (hcs : cells ≤ R.cells ∧ slots ≤ R.slots) (hdg : decode cc pc = .ok (.invokevirtual idx, 3)) (kk : W p l e R s m args below meth c H locs cells slots Q (F0 m (pc + 3) ls (.int (fX4_isFarOut r p1 v) :: rest))) : W p l e R s m args below meth c H locs cells slots Q (F0 m pc ls (.int p1 :: .ref (ga G r) :: rest)) := c_qi (runV (k := 1) X.1 X.2.1 X.2.2.1 X.2.2.2.1 X.2.2.2.2.1 (mX4_isFarOut l G da v x r hk_r p1) pW_bl hml t_im_X4_isFarOut t_sel_X4_isFarOut t_ini_PieceType t_code_X4_isFarOut ⟨rfl, by decide, by decide, by decide +kernel⟩ rfl rfl hR hcs (recvW X hH (by rw [hk_r]; decide) (by rw [hk_r]; decide) (ce_4 hk_r) rfl) (preW X hS hH) rfl hls rfl hsum hdg) (fun _ h => h ▸ kk)
theorem b01_X4_isFarOut {r : Nat} {p1 : Int32} {v : vSt} : fX4_isFarOut r p1 v = 0 ∨ fX4_isFarOut r p1 v = 1 := by
  unfold fX4_isFarOut
  (try dsimp only); (repeat' split) <;> simp
def fX4_signals (r : Nat) (v : vSt) : Int32 := if (0 : Int32) < (v r 9) then (let y2 : Int32 := if ((v r 2) : Int32) < (fX4_fromEnd r 0 v) then (0 + 1) else (if ((v r 1) : Int32) ≤ (fX4_fromEnd r 0 v) then 0 else (0 + 1)); let y4 : Int32 := if ((v r 9) : Int32) < 6 then y2 else (if ((fX4_goesOneWay r 6 v) : Int32) = 0 then y2 else (y2 + 2)); let y6 : Int32 := if ((v r 9) : Int32) < 7 then y4 else (if ((fX4_isOnOneSide r 7 v) : Int32) = 0 then y4 else (y4 + 4)); if ((v r 9) : Int32) < 3 then y6 else (if ((fX4_isFarOut r 3 v) : Int32) = 0 then y6 else (y6 + 8))) else 0
abbrev rmX4_signals : Room := { frames := 3, cells := 0, slots := 0, locals := 67 }
theorem dX4_signals_0 : decode cX4_signals 0 = .ok (.aload_n 0, 1) := by decide +kernel
theorem dX4_signals_1 : decode cX4_signals 1 = .ok (.getfield 41, 3) := by decide +kernel
theorem dX4_signals_4 : decode cX4_signals 4 = .ok (.ifCond .gt 5, 3) := by decide +kernel
theorem dX4_signals_7 : decode cX4_signals 7 = .ok (.iconst 0, 1) := by decide +kernel
theorem dX4_signals_8 : decode cX4_signals 8 = .ok (.ireturn, 1) := by decide +kernel
theorem dX4_signals_9 : decode cX4_signals 9 = .ok (.iconst 0, 1) := by decide +kernel
theorem dX4_signals_10 : decode cX4_signals 10 = .ok (.istore_n 1, 1) := by decide +kernel
theorem dX4_signals_11 : decode cX4_signals 11 = .ok (.aload_n 0, 1) := by decide +kernel
theorem dX4_signals_12 : decode cX4_signals 12 = .ok (.iconst 0, 1) := by decide +kernel
theorem dX4_signals_13 : decode cX4_signals 13 = .ok (.invokevirtual 79, 3) := by decide +kernel
theorem dX4_signals_16 : decode cX4_signals 16 = .ok (.aload_n 0, 1) := by decide +kernel
theorem dX4_signals_17 : decode cX4_signals 17 = .ok (.getfield 25, 3) := by decide +kernel
theorem dX4_signals_20 : decode cX4_signals 20 = .ok (.if_icmp .gt 15, 3) := by decide +kernel
theorem dX4_signals_23 : decode cX4_signals 23 = .ok (.aload_n 0, 1) := by decide +kernel
theorem dX4_signals_24 : decode cX4_signals 24 = .ok (.iconst 0, 1) := by decide +kernel
theorem dX4_signals_25 : decode cX4_signals 25 = .ok (.invokevirtual 79, 3) := by decide +kernel
theorem dX4_signals_28 : decode cX4_signals 28 = .ok (.aload_n 0, 1) := by decide +kernel
theorem dX4_signals_29 : decode cX4_signals 29 = .ok (.getfield 22, 3) := by decide +kernel
theorem dX4_signals_32 : decode cX4_signals 32 = .ok (.if_icmp .ge 6, 3) := by decide +kernel
theorem dX4_signals_35 : decode cX4_signals 35 = .ok (.iinc 1 1, 3) := by decide +kernel
theorem dX4_signals_38 : decode cX4_signals 38 = .ok (.aload_n 0, 1) := by decide +kernel
theorem dX4_signals_39 : decode cX4_signals 39 = .ok (.getfield 41, 3) := by decide +kernel
theorem dX4_signals_42 : decode cX4_signals 42 = .ok (.bipush 6, 2) := by decide +kernel
theorem dX4_signals_44 : decode cX4_signals 44 = .ok (.if_icmp .lt 15, 3) := by decide +kernel
theorem dX4_signals_47 : decode cX4_signals 47 = .ok (.aload_n 0, 1) := by decide +kernel
theorem dX4_signals_48 : decode cX4_signals 48 = .ok (.bipush 6, 2) := by decide +kernel
theorem dX4_signals_50 : decode cX4_signals 50 = .ok (.invokevirtual 82, 3) := by decide +kernel
theorem dX4_signals_53 : decode cX4_signals 53 = .ok (.ifCond .eq 6, 3) := by decide +kernel
theorem dX4_signals_56 : decode cX4_signals 56 = .ok (.iinc 1 2, 3) := by decide +kernel
theorem dX4_signals_59 : decode cX4_signals 59 = .ok (.aload_n 0, 1) := by decide +kernel
theorem dX4_signals_60 : decode cX4_signals 60 = .ok (.getfield 41, 3) := by decide +kernel
theorem dX4_signals_63 : decode cX4_signals 63 = .ok (.bipush 7, 2) := by decide +kernel
theorem dX4_signals_65 : decode cX4_signals 65 = .ok (.if_icmp .lt 15, 3) := by decide +kernel
theorem dX4_signals_68 : decode cX4_signals 68 = .ok (.aload_n 0, 1) := by decide +kernel
theorem dX4_signals_69 : decode cX4_signals 69 = .ok (.bipush 7, 2) := by decide +kernel
theorem dX4_signals_71 : decode cX4_signals 71 = .ok (.invokevirtual 86, 3) := by decide +kernel
theorem dX4_signals_74 : decode cX4_signals 74 = .ok (.ifCond .eq 6, 3) := by decide +kernel
theorem dX4_signals_77 : decode cX4_signals 77 = .ok (.iinc 1 4, 3) := by decide +kernel
theorem dX4_signals_80 : decode cX4_signals 80 = .ok (.aload_n 0, 1) := by decide +kernel
theorem dX4_signals_81 : decode cX4_signals 81 = .ok (.getfield 41, 3) := by decide +kernel
theorem dX4_signals_84 : decode cX4_signals 84 = .ok (.iconst 3, 1) := by decide +kernel
theorem dX4_signals_85 : decode cX4_signals 85 = .ok (.if_icmp .lt 14, 3) := by decide +kernel
theorem dX4_signals_88 : decode cX4_signals 88 = .ok (.aload_n 0, 1) := by decide +kernel
theorem dX4_signals_89 : decode cX4_signals 89 = .ok (.iconst 3, 1) := by decide +kernel
theorem dX4_signals_90 : decode cX4_signals 90 = .ok (.invokevirtual 89, 3) := by decide +kernel
theorem dX4_signals_93 : decode cX4_signals 93 = .ok (.ifCond .eq 6, 3) := by decide +kernel
theorem dX4_signals_96 : decode cX4_signals 96 = .ok (.iinc 1 8, 3) := by decide +kernel
theorem dX4_signals_99 : decode cX4_signals 99 = .ok (.iload_n 1, 1) := by decide +kernel
theorem dX4_signals_100 : decode cX4_signals 100 = .ok (.ireturn, 1) := by decide +kernel
set_option maxHeartbeats 4000000 in
set_option maxRecDepth 100000 in
theorem mX4_signals (l : Launch) (G : gG) (da : Nat → Nat) (v : vSt) (x : gX) (r : Nat) (hk_r : kd r = 4) : QI l yX4_signals cX4_signals 2 (some .int) rmX4_signals [.ref (ga G r)] (pW G da v x) (fX4_signals r v) := by
  refine gofQ (own := RX4) (by decide) rfl (Nat.le_of_ble_eq_true rfl) (fun p e s m args below meth c ls Q X hH hl E => ?_)
  have hx := X.1
  have hb := X.2.1
  have hown := X.2.2.2.1
  have hts := X.2.2.2.2.1
  have hS : va_S (gA G) s.heap s.heap [] := va_S.rf
  have hl : lv_has ls 2 [(0, .ref (ga G r))] := hl
  refine lv_aload_n hx hb dX4_signals_0 rfl (lv_at hl 0 rfl) ?_
  refine g_PieceType_41 X hH hk_r dX4_signals_1 ?_
  refine lv_if_gt (tgt := 9) hx hb dX4_signals_4 (by decide) (fun c1 => ?_) (fun c1 => ?_)
  · refine lv_iconst (v := 0) hx hb dX4_signals_9 (by decide) ?_
    refine lv_istore_n (lv' := [(1, .int 0), (0, .ref (ga G r))]) hx hb dX4_signals_10 rfl hl (by decide) rfl (fun ls hl => ?_)
    refine lv_aload_n hx hb dX4_signals_11 rfl (lv_at hl 1 rfl) ?_
    refine lv_iconst (v := 0) hx hb dX4_signals_12 (by decide) ?_
    refine k_X4_fromEnd X hS hH hk_r t_ml_PieceType_79 hl.1 (Nat.le_of_ble_eq_true rfl) ⟨Nat.le_of_ble_eq_true rfl, Nat.le_of_ble_eq_true rfl⟩ ⟨Nat.zero_le _, Nat.zero_le _⟩ dX4_signals_13 ?_
    refine lv_aload_n hx hb dX4_signals_16 rfl (lv_at hl 1 rfl) ?_
    refine g_PieceType_25 X hH hk_r dX4_signals_17 ?_
    have K3 : ∀ (y2 : Int32) (ls : Array Slot), y2 = (if ((v r 2) : Int32) < (fX4_fromEnd r 0 v) then (0 + 1) else (if ((v r 1) : Int32) ≤ (fX4_fromEnd r 0 v) then 0 else (0 + 1)) : Int32) → lv_has ls 2 [(1, .int y2), (0, .ref (ga G r))] → W p l e rmX4_signals s m args below meth c s.heap [] 0 0 Q (F0 m 38 ls []) := by
      intro y2 ls ey2 hl
      refine lv_aload_n hx hb dX4_signals_38 rfl (lv_at hl 1 rfl) ?_
      refine g_PieceType_41 X hH hk_r dX4_signals_39 ?_
      refine lv_bipush (v := 6) hx hb dX4_signals_42 (by decide) ?_
      have K5 : ∀ (y4 : Int32) (ls : Array Slot), y4 = (if ((v r 9) : Int32) < 6 then y2 else (if ((fX4_goesOneWay r 6 v) : Int32) = 0 then y2 else (y2 + 2)) : Int32) → lv_has ls 2 [(1, .int y4), (0, .ref (ga G r))] → W p l e rmX4_signals s m args below meth c s.heap [] 0 0 Q (F0 m 59 ls []) := by
        intro y4 ls ey4 hl
        refine lv_aload_n hx hb dX4_signals_59 rfl (lv_at hl 1 rfl) ?_
        refine g_PieceType_41 X hH hk_r dX4_signals_60 ?_
        refine lv_bipush (v := 7) hx hb dX4_signals_63 (by decide) ?_
        have K7 : ∀ (y6 : Int32) (ls : Array Slot), y6 = (if ((v r 9) : Int32) < 7 then y4 else (if ((fX4_isOnOneSide r 7 v) : Int32) = 0 then y4 else (y4 + 4)) : Int32) → lv_has ls 2 [(1, .int y6), (0, .ref (ga G r))] → W p l e rmX4_signals s m args below meth c s.heap [] 0 0 Q (F0 m 80 ls []) := by
          intro y6 ls ey6 hl
          refine lv_aload_n hx hb dX4_signals_80 rfl (lv_at hl 1 rfl) ?_
          refine g_PieceType_41 X hH hk_r dX4_signals_81 ?_
          refine lv_iconst (v := 3) hx hb dX4_signals_84 (by decide) ?_
          refine lv_icmp_lt (tgt := 99) hx hb dX4_signals_85 (by decide) (fun c8 => ?_) (fun c8 => ?_)
          · refine lv_iload_n hx hb dX4_signals_99 rfl (lv_at hl 0 rfl) ?_
            subst ey2 ey4 ey6
            exact E _ _ _ dX4_signals_100 rfl (Eq.symm ((if_pos c1).trans ((if_pos c8).trans rfl)))
          · refine lv_aload_n hx hb dX4_signals_88 rfl (lv_at hl 1 rfl) ?_
            refine lv_iconst (v := 3) hx hb dX4_signals_89 (by decide) ?_
            refine k_X4_isFarOut X hS hH hk_r t_ml_PieceType_89 hl.1 (Nat.le_of_ble_eq_true rfl) ⟨Nat.le_of_ble_eq_true rfl, Nat.le_of_ble_eq_true rfl⟩ ⟨Nat.zero_le _, Nat.zero_le _⟩ dX4_signals_90 ?_
            refine lv_if_eq (tgt := 99) hx hb dX4_signals_93 (by decide) (fun c9 => ?_) (fun c9 => ?_)
            · refine lv_iload_n hx hb dX4_signals_99 rfl (lv_at hl 0 rfl) ?_
              subst ey2 ey4 ey6
              exact E _ _ _ dX4_signals_100 rfl (Eq.symm ((if_pos c1).trans ((if_neg c8).trans ((if_pos c9).trans rfl))))
            · refine lv_iinc (v := y6 + 8) (lv' := [(1, .int (y6 + 8)), (0, .ref (ga G r))]) hx hb dX4_signals_96 hl (k := 0) rfl rfl (by decide) rfl (fun ls hl => ?_)
              refine lv_iload_n hx hb dX4_signals_99 rfl (lv_at hl 0 rfl) ?_
              subst ey2 ey4 ey6
              exact E _ _ _ dX4_signals_100 rfl (Eq.symm ((if_pos c1).trans ((if_neg c8).trans ((if_neg c9).trans rfl))))
        refine lv_icmp_lt (tgt := 80) hx hb dX4_signals_65 (by decide) (fun c7 => ?_) (fun c7 => ?_)
        · exact K7 _ _ (Eq.symm ((if_pos c7).trans rfl)) (lv_sub hl [0, 1] rfl)
        · refine lv_aload_n hx hb dX4_signals_68 rfl (lv_at hl 1 rfl) ?_
          refine lv_bipush (v := 7) hx hb dX4_signals_69 (by decide) ?_
          refine k_X4_isOnOneSide X hS hH hk_r t_ml_PieceType_86 hl.1 (Nat.le_of_ble_eq_true rfl) ⟨Nat.le_of_ble_eq_true rfl, Nat.le_of_ble_eq_true rfl⟩ ⟨Nat.zero_le _, Nat.zero_le _⟩ dX4_signals_71 ?_
          refine lv_if_eq (tgt := 80) hx hb dX4_signals_74 (by decide) (fun c8 => ?_) (fun c8 => ?_)
          · exact K7 _ _ (Eq.symm ((if_neg c7).trans ((if_pos c8).trans rfl))) (lv_sub hl [0, 1] rfl)
          · refine lv_iinc (v := y4 + 4) (lv' := [(1, .int (y4 + 4)), (0, .ref (ga G r))]) hx hb dX4_signals_77 hl (k := 0) rfl rfl (by decide) rfl (fun ls hl => ?_)
            exact K7 _ _ (Eq.symm ((if_neg c7).trans ((if_neg c8).trans rfl))) (lv_sub hl [0, 1] rfl)
      refine lv_icmp_lt (tgt := 59) hx hb dX4_signals_44 (by decide) (fun c5 => ?_) (fun c5 => ?_)
      · exact K5 _ _ (Eq.symm ((if_pos c5).trans rfl)) (lv_sub hl [0, 1] rfl)
      · refine lv_aload_n hx hb dX4_signals_47 rfl (lv_at hl 1 rfl) ?_
        refine lv_bipush (v := 6) hx hb dX4_signals_48 (by decide) ?_
        refine k_X4_goesOneWay X hS hH hk_r t_ml_PieceType_82 hl.1 (Nat.le_of_ble_eq_true rfl) ⟨Nat.le_of_ble_eq_true rfl, Nat.le_of_ble_eq_true rfl⟩ ⟨Nat.zero_le _, Nat.zero_le _⟩ dX4_signals_50 ?_
        refine lv_if_eq (tgt := 59) hx hb dX4_signals_53 (by decide) (fun c6 => ?_) (fun c6 => ?_)
        · exact K5 _ _ (Eq.symm ((if_neg c5).trans ((if_pos c6).trans rfl))) (lv_sub hl [0, 1] rfl)
        · refine lv_iinc (v := y2 + 2) (lv' := [(1, .int (y2 + 2)), (0, .ref (ga G r))]) hx hb dX4_signals_56 hl (k := 0) rfl rfl (by decide) rfl (fun ls hl => ?_)
          exact K5 _ _ (Eq.symm ((if_neg c5).trans ((if_neg c6).trans rfl))) (lv_sub hl [0, 1] rfl)
    refine lv_icmp_gt (tgt := 35) hx hb dX4_signals_20 (by decide) (fun c3 => ?_) (fun c3 => ?_)
    · refine lv_iinc (v := 0 + 1) (lv' := [(1, .int (0 + 1)), (0, .ref (ga G r))]) hx hb dX4_signals_35 hl (k := 0) rfl rfl (by decide) rfl (fun ls hl => ?_)
      exact K3 _ _ (Eq.symm ((if_pos c3).trans rfl)) (lv_sub hl [0, 1] rfl)
    · refine lv_aload_n hx hb dX4_signals_23 rfl (lv_at hl 1 rfl) ?_
      refine lv_iconst (v := 0) hx hb dX4_signals_24 (by decide) ?_
      refine k_X4_fromEnd X hS hH hk_r t_ml_PieceType_79 hl.1 (Nat.le_of_ble_eq_true rfl) ⟨Nat.le_of_ble_eq_true rfl, Nat.le_of_ble_eq_true rfl⟩ ⟨Nat.zero_le _, Nat.zero_le _⟩ dX4_signals_25 ?_
      refine lv_aload_n hx hb dX4_signals_28 rfl (lv_at hl 1 rfl) ?_
      refine g_PieceType_22 X hH hk_r dX4_signals_29 ?_
      refine lv_icmp_ge (tgt := 38) hx hb dX4_signals_32 (by decide) (fun c4 => ?_) (fun c4 => ?_)
      · exact K3 _ _ (Eq.symm ((if_neg c3).trans ((if_pos c4).trans rfl))) (lv_sub hl [0, 1] rfl)
      · refine lv_iinc (v := 0 + 1) (lv' := [(1, .int (0 + 1)), (0, .ref (ga G r))]) hx hb dX4_signals_35 hl (k := 0) rfl rfl (by decide) rfl (fun ls hl => ?_)
        exact K3 _ _ (Eq.symm ((if_neg c3).trans ((if_neg c4).trans rfl))) (lv_sub hl [0, 1] rfl)
  · refine lv_iconst (v := 0) hx hb dX4_signals_7 (by decide) ?_
    exact E _ _ _ dX4_signals_8 rfl (Eq.symm ((if_neg c1).trans rfl))
theorem k_X4_signals {p : Program} {l : Launch} {e : Env} {R : Room} {s : State} {m : MethodId} {args : Array Value} {below : List Frame} {meth : Method} {c : Code} {H : Heap} {locs : List Loc} {cells slots : Nat} {Q : State → Prop} {cc : ByteArray} {pc nL : Nat} {ls : Array Slot} {rest : List Value} {G : gG} {own : String} {da : Nat → Nat} {v : vSt} {x : gX} (X : CX G p s m args c cc nL own) (hS : va_S (gA G) s.heap H locs) (hH : Hp G da v x H) {r : Nat} (hk_r : kd r = 4) {idx : Nat} (hml : Cond.methodLink own idx yX4_signals ∈ TT) (hls : ls.size = nL) (hsum : (rest.map fun v => v.category).sum ≤ 8) (hR : rmX4_signals.frames + 1 ≤ R.frames ∧ 8 + (2 + 11) + rmX4_signals.locals ≤ R.locals) (hcs : cells ≤ R.cells ∧ slots ≤ R.slots) (hdg : decode cc pc = .ok (.invokevirtual idx, 3)) (kk : W p l e R s m args below meth c H locs cells slots Q (F0 m (pc + 3) ls (.int (fX4_signals r v) :: rest))) : W p l e R s m args below meth c H locs cells slots Q (F0 m pc ls (.ref (ga G r) :: rest)) := c_qi (runV (k := 0) X.1 X.2.1 X.2.2.1 X.2.2.2.1 X.2.2.2.2.1 (mX4_signals l G da v x r hk_r) pW_bl hml t_im_X4_signals t_sel_X4_signals t_ini_PieceType t_code_X4_signals ⟨rfl, by decide, by decide, by decide +kernel⟩ rfl rfl hR hcs (recvW X hH (by rw [hk_r]; decide) (by rw [hk_r]; decide) (ce_4 hk_r) rfl) (preW X hS hH) rfl hls rfl hsum hdg) (fun _ h => h ▸ kk)
def lX4_chartSum_4 (v : vSt) (r : Nat) : Nat → Int32 → Int32 → Int32
  | 0, i1, i2 => i2
  | n + 1, i1, i2 => if ((v r 9) : Int32) ≤ i1 then i2 else (lX4_chartSum_4 v r n (i1 + 1) (i2 + (fX10_entry 12 (v (r + 10)) i1)))
def fX4_chartSum (r : Nat) (v : vSt) : Int32 := let y3 : Int32 := (lX4_chartSum_4 v r ((Int32.toInt ((v r 9)) - Int32.toInt 0).toNat + 1) 0 0); y3
abbrev rmX4_chartSum : Room := { frames := 1, cells := 0, slots := 0, locals := 21 }
theorem dX4_chartSum_0 : decode cX4_chartSum 0 = .ok (.iconst 0, 1) := by decide +kernel
theorem dX4_chartSum_1 : decode cX4_chartSum 1 = .ok (.istore_n 1, 1) := by decide +kernel
theorem dX4_chartSum_2 : decode cX4_chartSum 2 = .ok (.iconst 0, 1) := by decide +kernel
theorem dX4_chartSum_3 : decode cX4_chartSum 3 = .ok (.istore_n 2, 1) := by decide +kernel
theorem dX4_chartSum_4 : decode cX4_chartSum 4 = .ok (.iload_n 2, 1) := by decide +kernel
theorem dX4_chartSum_5 : decode cX4_chartSum 5 = .ok (.aload_n 0, 1) := by decide +kernel
theorem dX4_chartSum_6 : decode cX4_chartSum 6 = .ok (.getfield 41, 3) := by decide +kernel
theorem dX4_chartSum_9 : decode cX4_chartSum 9 = .ok (.if_icmp .ge 20, 3) := by decide +kernel
theorem dX4_chartSum_12 : decode cX4_chartSum 12 = .ok (.iload_n 1, 1) := by decide +kernel
theorem dX4_chartSum_13 : decode cX4_chartSum 13 = .ok (.aload_n 0, 1) := by decide +kernel
theorem dX4_chartSum_14 : decode cX4_chartSum 14 = .ok (.getfield 15, 3) := by decide +kernel
theorem dX4_chartSum_17 : decode cX4_chartSum 17 = .ok (.iload_n 2, 1) := by decide +kernel
theorem dX4_chartSum_18 : decode cX4_chartSum 18 = .ok (.invokestatic 75, 3) := by decide +kernel
theorem dX4_chartSum_21 : decode cX4_chartSum 21 = .ok (.iadd, 1) := by decide +kernel
theorem dX4_chartSum_22 : decode cX4_chartSum 22 = .ok (.istore_n 1, 1) := by decide +kernel
theorem dX4_chartSum_23 : decode cX4_chartSum 23 = .ok (.iinc 2 1, 3) := by decide +kernel
theorem dX4_chartSum_26 : decode cX4_chartSum 26 = .ok (.goto (-22), 3) := by decide +kernel
theorem dX4_chartSum_29 : decode cX4_chartSum 29 = .ok (.iload_n 1, 1) := by decide +kernel
theorem dX4_chartSum_30 : decode cX4_chartSum 30 = .ok (.ireturn, 1) := by decide +kernel
set_option maxHeartbeats 4000000 in
set_option maxRecDepth 100000 in
theorem mX4_chartSum (l : Launch) (G : gG) (da : Nat → Nat) (v : vSt) (x : gX) (r : Nat) (hk_r : kd r = 4) : QI l yX4_chartSum cX4_chartSum 3 (some .int) rmX4_chartSum [.ref (ga G r)] (pW G da v x) (fX4_chartSum r v) := by
  refine gofQ (own := RX4) (by decide) rfl (Nat.le_of_ble_eq_true rfl) (fun p e s m args below meth c ls Q X hH hl E => ?_)
  have hx := X.1
  have hb := X.2.1
  have hown := X.2.2.2.1
  have hts := X.2.2.2.2.1
  have hS : va_S (gA G) s.heap s.heap [] := va_S.rf
  have hl : lv_has ls 3 [(0, .ref (ga G r))] := hl
  refine lv_iconst (v := 0) hx hb dX4_chartSum_0 (by decide) ?_
  refine lv_istore_n (lv' := [(1, .int 0), (0, .ref (ga G r))]) hx hb dX4_chartSum_1 rfl hl (by decide) rfl (fun ls hl => ?_)
  refine lv_iconst (v := 0) hx hb dX4_chartSum_2 (by decide) ?_
  refine lv_istore_n (lv' := [(2, .int 0), (1, .int 0), (0, .ref (ga G r))]) hx hb dX4_chartSum_3 rfl hl (by decide) rfl (fun ls hl => ?_)
  have L4 : ∀ (n : Nat) (i1 : Int32) (i2 : Int32) (ls : Array Slot), (Int32.toInt ((v r 9)) - Int32.toInt i1).toNat < n → lv_has ls 3 [(2, .int i1), (1, .int i2), (0, .ref (ga G r))] → (∀ (y3 : Int32) (ls : Array Slot), y3 = (lX4_chartSum_4 v r n i1 i2 : Int32) → lv_has ls 3 [(1, .int y3)] → W p l e rmX4_chartSum s m args below meth c s.heap [] 0 0 Q (F0 m 29 ls [])) → W p l e rmX4_chartSum s m args below meth c s.heap [] 0 0 Q (F0 m 4 ls []) := by
    intro n
    induction n with
    | zero =>
      intro i1 i2 ls hm
      exact absurd hm (Nat.not_lt_zero _)
    | succ n ih =>
      intro i1 i2 ls hm  hl K5
      refine lv_iload_n hx hb dX4_chartSum_4 rfl (lv_at hl 0 rfl) ?_
      refine lv_aload_n hx hb dX4_chartSum_5 rfl (lv_at hl 2 rfl) ?_
      refine g_PieceType_41 X hH hk_r dX4_chartSum_6 ?_
      refine lv_icmp_ge (tgt := 29) hx hb dX4_chartSum_9 (by decide) (fun c3 => ?_) (fun c3 => ?_)
      · exact K5 _ _ (Eq.symm ((if_pos c3).trans rfl)) (lv_sub hl [1] rfl)
      · refine lv_iload_n hx hb dX4_chartSum_12 rfl (lv_at hl 1 rfl) ?_
        refine lv_aload_n hx hb dX4_chartSum_13 rfl (lv_at hl 2 rfl) ?_
        refine g_PieceType_15 X hH hk_r dX4_chartSum_14 ?_
        refine lv_iload_n hx hb dX4_chartSum_17 rfl (lv_at hl 0 rfl) ?_
        refine kn_X10_entry X hS (ia_25 X hH (kc_4_25 hk_r)) t_mn_PieceType_75 hl.1 (Nat.le_of_ble_eq_true rfl) ⟨Nat.le_of_ble_eq_true rfl, Nat.le_of_ble_eq_true rfl⟩ ⟨Nat.zero_le _, Nat.zero_le _⟩ dX4_chartSum_18 ?_
        refine lv_iadd hx hb dX4_chartSum_21 ?_
        refine lv_istore_n (lv' := [(1, .int (i2 + (fX10_entry 12 (v (r + 10)) i1))), (2, .int i1), (0, .ref (ga G r))]) hx hb dX4_chartSum_22 rfl hl (by decide) rfl (fun ls hl => ?_)
        refine lv_iinc (v := i1 + 1) (lv' := [(2, .int (i1 + 1)), (1, .int (i2 + (fX10_entry 12 (v (r + 10)) i1))), (0, .ref (ga G r))]) hx hb dX4_chartSum_23 hl (k := 1) rfl rfl (by decide) rfl (fun ls hl => ?_)
        refine lv_goto (tgt := 4) hx hb dX4_chartSum_26 (by decide) ?_
        have hm2 : (Int32.toInt ((v r 9)) - Int32.toInt (i1 + 1)).toNat < n := i_step c3 hm
        exact ih _ _ _ hm2 (lv_sub hl [0, 1, 2] rfl) (fun y3 ls q0 hl => K5 y3 ls (q0.trans (congrArg (fun z : Int32 => z) (Eq.symm ((if_neg c3).trans rfl)))) hl)
  refine L4 ((Int32.toInt ((v r 9)) - Int32.toInt 0).toNat + 1) 0 0 _ (Nat.lt_succ_self _) (lv_sub hl [0, 1, 2] rfl) (fun y3 ls ey3 hl => ?_)
  refine lv_iload_n hx hb dX4_chartSum_29 rfl (lv_at hl 0 rfl) ?_
  subst ey3
  exact E _ _ _ dX4_chartSum_30 rfl (Eq.symm rfl)
theorem k_X4_chartSum {p : Program} {l : Launch} {e : Env} {R : Room} {s : State} {m : MethodId} {args : Array Value} {below : List Frame} {meth : Method} {c : Code} {H : Heap} {locs : List Loc} {cells slots : Nat} {Q : State → Prop} {cc : ByteArray} {pc nL : Nat} {ls : Array Slot} {rest : List Value} {G : gG} {own : String} {da : Nat → Nat} {v : vSt} {x : gX} (X : CX G p s m args c cc nL own) (hS : va_S (gA G) s.heap H locs) (hH : Hp G da v x H) {r : Nat} (hk_r : kd r = 4) {idx : Nat} (hml : Cond.methodLink own idx yX4_chartSum ∈ TT) (hls : ls.size = nL) (hsum : (rest.map fun v => v.category).sum ≤ 8) (hR : rmX4_chartSum.frames + 1 ≤ R.frames ∧ 8 + (3 + 11) + rmX4_chartSum.locals ≤ R.locals) (hcs : cells ≤ R.cells ∧ slots ≤ R.slots) (hdg : decode cc pc = .ok (.invokevirtual idx, 3)) (kk : W p l e R s m args below meth c H locs cells slots Q (F0 m (pc + 3) ls (.int (fX4_chartSum r v) :: rest))) : W p l e R s m args below meth c H locs cells slots Q (F0 m pc ls (.ref (ga G r) :: rest)) := c_qi (runV (k := 0) X.1 X.2.1 X.2.2.1 X.2.2.2.1 X.2.2.2.2.1 (mX4_chartSum l G da v x r hk_r) pW_bl hml t_im_X4_chartSum t_sel_X4_chartSum t_ini_PieceType t_code_X4_chartSum ⟨rfl, by decide, by decide, by decide +kernel⟩ rfl rfl hR hcs (recvW X hH (by rw [hk_r]; decide) (by rw [hk_r]; decide) (ce_4 hk_r) rfl) (preW X hS hH) rfl hls rfl hsum hdg) (fun _ h => h ▸ kk)
def fX5_typeOfPiece (r : Nat) (p1 : Int32) (v : vSt) : Int32 := fX10_entry (rN (v r 4)) (v (chP r)) p1
abbrev rmX5_typeOfPiece : Room := { frames := 1, cells := 0, slots := 0, locals := 21 }
theorem dX5_typeOfPiece_0 : decode cX5_typeOfPiece 0 = .ok (.aload_n 0, 1) := by decide +kernel
theorem dX5_typeOfPiece_1 : decode cX5_typeOfPiece 1 = .ok (.getfield 9, 3) := by decide +kernel
theorem dX5_typeOfPiece_4 : decode cX5_typeOfPiece 4 = .ok (.iload_n 1, 1) := by decide +kernel
theorem dX5_typeOfPiece_5 : decode cX5_typeOfPiece 5 = .ok (.invokestatic 50, 3) := by decide +kernel
theorem dX5_typeOfPiece_8 : decode cX5_typeOfPiece 8 = .ok (.ireturn, 1) := by decide +kernel
set_option maxHeartbeats 4000000 in
set_option maxRecDepth 100000 in
theorem mX5_typeOfPiece (l : Launch) (G : gG) (da : Nat → Nat) (v : vSt) (x : gX) (r : Nat) (hk_r : kd r = 5 ∨ kd r = 15) (p1 : Int32) : QI l yX5_typeOfPiece cX5_typeOfPiece 2 (some .int) rmX5_typeOfPiece [.ref (ga G r), .int p1] (pW G da v x) (fX5_typeOfPiece r p1 v) := by
  refine gofQ (own := RX5) (by decide) rfl (Nat.le_of_ble_eq_true rfl) (fun p e s m args below meth c ls Q X hH hl E => ?_)
  have hx := X.1
  have hb := X.2.1
  have hown := X.2.2.2.1
  have hts := X.2.2.2.2.1
  have hS : va_S (gA G) s.heap s.heap [] := va_S.rf
  have hl : lv_has ls 2 [(0, .ref (ga G r)), (1, .int p1)] := hl
  refine lv_aload_n hx hb dX5_typeOfPiece_0 rfl (lv_at hl 0 rfl) ?_
  refine g_Pieces_9 X hH hk_r dX5_typeOfPiece_1 ?_
  refine lv_iload_n hx hb dX5_typeOfPiece_4 rfl (lv_at hl 1 rfl) ?_
  refine kn_X10_entry X hS (ia_d0 X hH hk_r) t_mn_Pieces_50 hl.1 (Nat.le_of_ble_eq_true rfl) ⟨Nat.le_of_ble_eq_true rfl, Nat.le_of_ble_eq_true rfl⟩ ⟨Nat.zero_le _, Nat.zero_le _⟩ dX5_typeOfPiece_5 ?_
  exact E _ _ _ dX5_typeOfPiece_8 rfl (Eq.symm rfl)
theorem k_X5_typeOfPiece {p : Program} {l : Launch} {e : Env} {R : Room} {s : State} {m : MethodId} {args : Array Value} {below : List Frame} {meth : Method} {c : Code} {H : Heap} {locs : List Loc} {cells slots : Nat} {Q : State → Prop} {cc : ByteArray} {pc nL : Nat} {ls : Array Slot} {rest : List Value} {G : gG} {own : String} {da : Nat → Nat} {v : vSt} {x : gX} (X : CX G p s m args c cc nL own) (hS : va_S (gA G) s.heap H locs) (hH : Hp G da v x H) {r : Nat} (hk_r : kd r = 5 ∨ kd r = 15) {p1 : Int32} {idx : Nat} (hml : Cond.methodLink own idx yX5_typeOfPiece ∈ TT) (hls : ls.size = nL) (hsum : (rest.map fun v => v.category).sum ≤ 8) (hR : rmX5_typeOfPiece.frames + 1 ≤ R.frames ∧ 8 + (2 + 11) + rmX5_typeOfPiece.locals ≤ R.locals) (hcs : cells ≤ R.cells ∧ slots ≤ R.slots) (hdg : decode cc pc = .ok (.invokevirtual idx, 3)) (kk : W p l e R s m args below meth c H locs cells slots Q (F0 m (pc + 3) ls (.int (fX5_typeOfPiece r p1 v) :: rest))) : W p l e R s m args below meth c H locs cells slots Q (F0 m pc ls (.int p1 :: .ref (ga G r) :: rest)) := c_qi (runV (k := 1) X.1 X.2.1 X.2.2.1 X.2.2.2.1 X.2.2.2.2.1 (mX5_typeOfPiece l G da v x r hk_r p1) pW_bl hml t_im_X5_typeOfPiece t_sel_X5_typeOfPiece t_ini_Pieces t_code_X5_typeOfPiece ⟨rfl, by decide, by decide, by decide +kernel⟩ rfl rfl hR hcs (recvW X hH (kd_P hk_r).1 (kd_P hk_r).2 (ce_P hk_r) rfl) (preW X hS hH) rfl hls rfl hsum hdg) (fun _ h => h ▸ kk)
def fX5_firstDeviation (r : Nat) (v : vSt) : Int32 := fX10_entry (rN (v r 5)) (v (chP r + 1)) 0
abbrev rmX5_firstDeviation : Room := { frames := 1, cells := 0, slots := 0, locals := 21 }
theorem dX5_firstDeviation_0 : decode cX5_firstDeviation 0 = .ok (.aload_n 0, 1) := by decide +kernel
theorem dX5_firstDeviation_1 : decode cX5_firstDeviation 1 = .ok (.getfield 15, 3) := by decide +kernel
theorem dX5_firstDeviation_4 : decode cX5_firstDeviation 4 = .ok (.iconst 0, 1) := by decide +kernel
theorem dX5_firstDeviation_5 : decode cX5_firstDeviation 5 = .ok (.invokestatic 50, 3) := by decide +kernel
theorem dX5_firstDeviation_8 : decode cX5_firstDeviation 8 = .ok (.ireturn, 1) := by decide +kernel
set_option maxHeartbeats 4000000 in
set_option maxRecDepth 100000 in
theorem mX5_firstDeviation (l : Launch) (G : gG) (da : Nat → Nat) (v : vSt) (x : gX) (r : Nat) (hk_r : kd r = 5 ∨ kd r = 15) : QI l yX5_firstDeviation cX5_firstDeviation 1 (some .int) rmX5_firstDeviation [.ref (ga G r)] (pW G da v x) (fX5_firstDeviation r v) := by
  refine gofQ (own := RX5) (by decide) rfl (Nat.le_of_ble_eq_true rfl) (fun p e s m args below meth c ls Q X hH hl E => ?_)
  have hx := X.1
  have hb := X.2.1
  have hown := X.2.2.2.1
  have hts := X.2.2.2.2.1
  have hS : va_S (gA G) s.heap s.heap [] := va_S.rf
  have hl : lv_has ls 1 [(0, .ref (ga G r))] := hl
  refine lv_aload_n hx hb dX5_firstDeviation_0 rfl (lv_at hl 0 rfl) ?_
  refine g_Pieces_15 X hH hk_r dX5_firstDeviation_1 ?_
  refine lv_iconst (v := 0) hx hb dX5_firstDeviation_4 (by decide) ?_
  refine kn_X10_entry X hS (ia_d1 X hH hk_r) t_mn_Pieces_50 hl.1 (Nat.le_of_ble_eq_true rfl) ⟨Nat.le_of_ble_eq_true rfl, Nat.le_of_ble_eq_true rfl⟩ ⟨Nat.zero_le _, Nat.zero_le _⟩ dX5_firstDeviation_5 ?_
  exact E _ _ _ dX5_firstDeviation_8 rfl (Eq.symm rfl)
theorem k_X5_firstDeviation {p : Program} {l : Launch} {e : Env} {R : Room} {s : State} {m : MethodId} {args : Array Value} {below : List Frame} {meth : Method} {c : Code} {H : Heap} {locs : List Loc} {cells slots : Nat} {Q : State → Prop} {cc : ByteArray} {pc nL : Nat} {ls : Array Slot} {rest : List Value} {G : gG} {own : String} {da : Nat → Nat} {v : vSt} {x : gX} (X : CX G p s m args c cc nL own) (hS : va_S (gA G) s.heap H locs) (hH : Hp G da v x H) {r : Nat} (hk_r : kd r = 5 ∨ kd r = 15) {idx : Nat} (hml : Cond.methodLink own idx yX5_firstDeviation ∈ TT) (hls : ls.size = nL) (hsum : (rest.map fun v => v.category).sum ≤ 8) (hR : rmX5_firstDeviation.frames + 1 ≤ R.frames ∧ 8 + (1 + 11) + rmX5_firstDeviation.locals ≤ R.locals) (hcs : cells ≤ R.cells ∧ slots ≤ R.slots) (hdg : decode cc pc = .ok (.invokevirtual idx, 3)) (kk : W p l e R s m args below meth c H locs cells slots Q (F0 m (pc + 3) ls (.int (fX5_firstDeviation r v) :: rest))) : W p l e R s m args below meth c H locs cells slots Q (F0 m pc ls (.ref (ga G r) :: rest)) := c_qi (runV (k := 0) X.1 X.2.1 X.2.2.1 X.2.2.2.1 X.2.2.2.2.1 (mX5_firstDeviation l G da v x r hk_r) pW_bl hml t_im_X5_firstDeviation t_sel_X5_firstDeviation t_ini_Pieces t_code_X5_firstDeviation ⟨rfl, by decide, by decide, by decide +kernel⟩ rfl rfl hR hcs (recvW X hH (kd_P hk_r).1 (kd_P hk_r).2 (ce_P hk_r) rfl) (preW X hS hH) rfl hls rfl hsum hdg) (fun _ h => h ▸ kk)
def fX5_doubtedPiece (r : Nat) (p1 : Int32) (v : vSt) : Int32 := if ((fX10_entry (rN (v r 6)) (v (chP r + 2)) p1) : Int32) = 1 then 1 else 0
abbrev rmX5_doubtedPiece : Room := { frames := 1, cells := 0, slots := 0, locals := 21 }
theorem dX5_doubtedPiece_0 : decode cX5_doubtedPiece 0 = .ok (.aload_n 0, 1) := by decide +kernel
theorem dX5_doubtedPiece_1 : decode cX5_doubtedPiece 1 = .ok (.getfield 18, 3) := by decide +kernel
theorem dX5_doubtedPiece_4 : decode cX5_doubtedPiece 4 = .ok (.iload_n 1, 1) := by decide +kernel
theorem dX5_doubtedPiece_5 : decode cX5_doubtedPiece 5 = .ok (.invokestatic 50, 3) := by decide +kernel
theorem dX5_doubtedPiece_8 : decode cX5_doubtedPiece 8 = .ok (.iconst 1, 1) := by decide +kernel
theorem dX5_doubtedPiece_9 : decode cX5_doubtedPiece 9 = .ok (.if_icmp .ne 7, 3) := by decide +kernel
theorem dX5_doubtedPiece_12 : decode cX5_doubtedPiece 12 = .ok (.iconst 1, 1) := by decide +kernel
theorem dX5_doubtedPiece_13 : decode cX5_doubtedPiece 13 = .ok (.goto 4, 3) := by decide +kernel
theorem dX5_doubtedPiece_16 : decode cX5_doubtedPiece 16 = .ok (.iconst 0, 1) := by decide +kernel
theorem dX5_doubtedPiece_17 : decode cX5_doubtedPiece 17 = .ok (.ireturn, 1) := by decide +kernel
set_option maxHeartbeats 4000000 in
set_option maxRecDepth 100000 in
theorem mX5_doubtedPiece (l : Launch) (G : gG) (da : Nat → Nat) (v : vSt) (x : gX) (r : Nat) (hk_r : kd r = 5 ∨ kd r = 15) (p1 : Int32) : QI l yX5_doubtedPiece cX5_doubtedPiece 2 (some .boolean) rmX5_doubtedPiece [.ref (ga G r), .int p1] (pW G da v x) (fX5_doubtedPiece r p1 v) := by
  refine gofQ (own := RX5) (by decide) rfl (Nat.le_of_ble_eq_true rfl) (fun p e s m args below meth c ls Q X hH hl E => ?_)
  have hx := X.1
  have hb := X.2.1
  have hown := X.2.2.2.1
  have hts := X.2.2.2.2.1
  have hS : va_S (gA G) s.heap s.heap [] := va_S.rf
  have hl : lv_has ls 2 [(0, .ref (ga G r)), (1, .int p1)] := hl
  refine lv_aload_n hx hb dX5_doubtedPiece_0 rfl (lv_at hl 0 rfl) ?_
  refine g_Pieces_18 X hH hk_r dX5_doubtedPiece_1 ?_
  refine lv_iload_n hx hb dX5_doubtedPiece_4 rfl (lv_at hl 1 rfl) ?_
  refine kn_X10_entry X hS (ia_d2 X hH hk_r) t_mn_Pieces_50 hl.1 (Nat.le_of_ble_eq_true rfl) ⟨Nat.le_of_ble_eq_true rfl, Nat.le_of_ble_eq_true rfl⟩ ⟨Nat.zero_le _, Nat.zero_le _⟩ dX5_doubtedPiece_5 ?_
  refine lv_iconst (v := 1) hx hb dX5_doubtedPiece_8 (by decide) ?_
  refine lv_icmp_ne (tgt := 16) hx hb dX5_doubtedPiece_9 (by decide) (fun c1 => ?_) (fun c1 => ?_)
  · refine lv_iconst (v := 0) hx hb dX5_doubtedPiece_16 (by decide) ?_
    exact E _ _ _ dX5_doubtedPiece_17 rfl (Eq.symm ((if_neg c1).trans rfl))
  · refine lv_iconst (v := 1) hx hb dX5_doubtedPiece_12 (by decide) ?_
    refine lv_goto (tgt := 17) hx hb dX5_doubtedPiece_13 (by decide) ?_
    exact E _ _ _ dX5_doubtedPiece_17 rfl (Eq.symm ((if_pos c1).trans rfl))
theorem k_X5_doubtedPiece {p : Program} {l : Launch} {e : Env} {R : Room} {s : State} {m : MethodId} {args : Array Value} {below : List Frame} {meth : Method} {c : Code} {H : Heap} {locs : List Loc} {cells slots : Nat} {Q : State → Prop} {cc : ByteArray} {pc nL : Nat} {ls : Array Slot} {rest : List Value} {G : gG} {own : String} {da : Nat → Nat} {v : vSt} {x : gX} (X : CX G p s m args c cc nL own) (hS : va_S (gA G) s.heap H locs) (hH : Hp G da v x H) {r : Nat} (hk_r : kd r = 5 ∨ kd r = 15) {p1 : Int32} {idx : Nat} (hml : Cond.methodLink own idx yX5_doubtedPiece ∈ TT) (hls : ls.size = nL) (hsum : (rest.map fun v => v.category).sum ≤ 8) (hR : rmX5_doubtedPiece.frames + 1 ≤ R.frames ∧ 8 + (2 + 11) + rmX5_doubtedPiece.locals ≤ R.locals) (hcs : cells ≤ R.cells ∧ slots ≤ R.slots) (hdg : decode cc pc = .ok (.invokevirtual idx, 3)) (kk : W p l e R s m args below meth c H locs cells slots Q (F0 m (pc + 3) ls (.int (fX5_doubtedPiece r p1 v) :: rest))) : W p l e R s m args below meth c H locs cells slots Q (F0 m pc ls (.int p1 :: .ref (ga G r) :: rest)) := c_qi (runV (k := 1) X.1 X.2.1 X.2.2.1 X.2.2.2.1 X.2.2.2.2.1 (mX5_doubtedPiece l G da v x r hk_r p1) pW_bl hml t_im_X5_doubtedPiece t_sel_X5_doubtedPiece t_ini_Pieces t_code_X5_doubtedPiece ⟨rfl, by decide, by decide, by decide +kernel⟩ rfl rfl hR hcs (recvW X hH (kd_P hk_r).1 (kd_P hk_r).2 (ce_P hk_r) rfl) (preW X hS hH) rfl hls rfl hsum hdg) (fun _ h => h ▸ kk)
theorem b01_X5_doubtedPiece {r : Nat} {p1 : Int32} {v : vSt} : fX5_doubtedPiece r p1 v = 0 ∨ fX5_doubtedPiece r p1 v = 1 := by
  unfold fX5_doubtedPiece
  (try dsimp only); (repeat' split) <;> simp
def fX0_hasType (r : Nat) (p1 : Int32) (v : vSt) : Int32 := if (p1 : Int32) < 0 then 0 else (if ((v r 1) : Int32) ≤ p1 then 0 else (if (5 : Int32) ≤ p1 then 0 else 1))
abbrev rmX0_hasType : Room := { frames := 0, cells := 0, slots := 0, locals := 0 }
theorem dX0_hasType_0 : decode cX0_hasType 0 = .ok (.iload_n 1, 1) := by decide +kernel
theorem dX0_hasType_1 : decode cX0_hasType 1 = .ok (.ifCond .lt 24, 3) := by decide +kernel
theorem dX0_hasType_4 : decode cX0_hasType 4 = .ok (.iload_n 1, 1) := by decide +kernel
theorem dX0_hasType_5 : decode cX0_hasType 5 = .ok (.aload_n 0, 1) := by decide +kernel
theorem dX0_hasType_6 : decode cX0_hasType 6 = .ok (.getfield 32, 3) := by decide +kernel
theorem dX0_hasType_9 : decode cX0_hasType 9 = .ok (.if_icmp .ge 16, 3) := by decide +kernel
theorem dX0_hasType_12 : decode cX0_hasType 12 = .ok (.iload_n 1, 1) := by decide +kernel
theorem dX0_hasType_13 : decode cX0_hasType 13 = .ok (.aload_n 0, 1) := by decide +kernel
theorem dX0_hasType_14 : decode cX0_hasType 14 = .ok (.getfield 11, 3) := by decide +kernel
theorem dX0_hasType_17 : decode cX0_hasType 17 = .ok (.arraylength, 1) := by decide +kernel
theorem dX0_hasType_18 : decode cX0_hasType 18 = .ok (.if_icmp .ge 7, 3) := by decide +kernel
theorem dX0_hasType_21 : decode cX0_hasType 21 = .ok (.iconst 1, 1) := by decide +kernel
theorem dX0_hasType_22 : decode cX0_hasType 22 = .ok (.goto 4, 3) := by decide +kernel
theorem dX0_hasType_25 : decode cX0_hasType 25 = .ok (.iconst 0, 1) := by decide +kernel
theorem dX0_hasType_26 : decode cX0_hasType 26 = .ok (.ireturn, 1) := by decide +kernel
set_option maxHeartbeats 4000000 in
set_option maxRecDepth 100000 in
theorem mX0_hasType (l : Launch) (G : gG) (da : Nat → Nat) (v : vSt) (x : gX) (r : Nat) (hk_r : kd r = 0) (p1 : Int32) : QI l yX0_hasType cX0_hasType 2 (some .boolean) rmX0_hasType [.ref (ga G r), .int p1] (pW G da v x) (fX0_hasType r p1 v) := by
  refine gofQ (own := RX0) (by decide) rfl (Nat.le_of_ble_eq_true rfl) (fun p e s m args below meth c ls Q X hH hl E => ?_)
  have hx := X.1
  have hb := X.2.1
  have hown := X.2.2.2.1
  have hts := X.2.2.2.2.1
  have hS : va_S (gA G) s.heap s.heap [] := va_S.rf
  have hl : lv_has ls 2 [(0, .ref (ga G r)), (1, .int p1)] := hl
  refine lv_iload_n hx hb dX0_hasType_0 rfl (lv_at hl 1 rfl) ?_
  refine lv_if_lt (tgt := 25) hx hb dX0_hasType_1 (by decide) (fun c1 => ?_) (fun c1 => ?_)
  · refine lv_iconst (v := 0) hx hb dX0_hasType_25 (by decide) ?_
    exact E _ _ _ dX0_hasType_26 rfl (Eq.symm ((if_pos c1).trans rfl))
  · refine lv_iload_n hx hb dX0_hasType_4 rfl (lv_at hl 1 rfl) ?_
    refine lv_aload_n hx hb dX0_hasType_5 rfl (lv_at hl 0 rfl) ?_
    refine g_Bench_32 X hH hk_r dX0_hasType_6 ?_
    refine lv_icmp_ge (tgt := 25) hx hb dX0_hasType_9 (by decide) (fun c2 => ?_) (fun c2 => ?_)
    · refine lv_iconst (v := 0) hx hb dX0_hasType_25 (by decide) ?_
      exact E _ _ _ dX0_hasType_26 rfl (Eq.symm ((if_neg c1).trans ((if_pos c2).trans rfl)))
    · refine lv_iload_n hx hb dX0_hasType_12 rfl (lv_at hl 1 rfl) ?_
      refine lv_aload_n hx hb dX0_hasType_13 rfl (lv_at hl 0 rfl) ?_
      refine g_Bench_11 X hH hk_r dX0_hasType_14 ?_
      refine len_22 X hH (kc_0_22 hk_r) dX0_hasType_17 ?_
      refine lv_icmp_ge (tgt := 25) hx hb dX0_hasType_18 (by decide) (fun c3 => ?_) (fun c3 => ?_)
      · refine lv_iconst (v := 0) hx hb dX0_hasType_25 (by decide) ?_
        exact E _ _ _ dX0_hasType_26 rfl (Eq.symm ((if_neg c1).trans ((if_neg c2).trans ((if_pos c3).trans rfl))))
      · refine lv_iconst (v := 1) hx hb dX0_hasType_21 (by decide) ?_
        refine lv_goto (tgt := 26) hx hb dX0_hasType_22 (by decide) ?_
        exact E _ _ _ dX0_hasType_26 rfl (Eq.symm ((if_neg c1).trans ((if_neg c2).trans ((if_neg c3).trans rfl))))
theorem k_X0_hasType {p : Program} {l : Launch} {e : Env} {R : Room} {s : State} {m : MethodId} {args : Array Value} {below : List Frame} {meth : Method} {c : Code} {H : Heap} {locs : List Loc} {cells slots : Nat} {Q : State → Prop} {cc : ByteArray} {pc nL : Nat} {ls : Array Slot} {rest : List Value} {G : gG} {own : String} {da : Nat → Nat} {v : vSt} {x : gX} (X : CX G p s m args c cc nL own) (hS : va_S (gA G) s.heap H locs) (hH : Hp G da v x H) {r : Nat} (hk_r : kd r = 0) {p1 : Int32} {idx : Nat} (hml : Cond.methodLink own idx yX0_hasType ∈ TT) (hls : ls.size = nL) (hsum : (rest.map fun v => v.category).sum ≤ 8) (hR : rmX0_hasType.frames + 1 ≤ R.frames ∧ 8 + (2 + 11) + rmX0_hasType.locals ≤ R.locals) (hcs : cells ≤ R.cells ∧ slots ≤ R.slots) (hdg : decode cc pc = .ok (.invokevirtual idx, 3)) (kk : W p l e R s m args below meth c H locs cells slots Q (F0 m (pc + 3) ls (.int (fX0_hasType r p1 v) :: rest))) : W p l e R s m args below meth c H locs cells slots Q (F0 m pc ls (.int p1 :: .ref (ga G r) :: rest)) := c_qi (runV (k := 1) X.1 X.2.1 X.2.2.1 X.2.2.2.1 X.2.2.2.2.1 (mX0_hasType l G da v x r hk_r p1) pW_bl hml t_im_X0_hasType t_sel_X0_hasType t_ini_Bench t_code_X0_hasType ⟨rfl, by decide, by decide, by decide +kernel⟩ rfl rfl hR hcs (recvW X hH (by rw [hk_r]; decide) (by rw [hk_r]; decide) (ce_0 hk_r) rfl) (preW X hS hH) rfl hls rfl hsum hdg) (fun _ h => h ▸ kk)
theorem b01_X0_hasType {r : Nat} {p1 : Int32} {v : vSt} : fX0_hasType r p1 v = 0 ∨ fX0_hasType r p1 v = 1 := by
  unfold fX0_hasType
  (try dsimp only); (repeat' split) <;> simp
theorem hasType_b {r : Nat} {p1 : Int32} {v : vSt} (h : ¬ fX0_hasType r p1 v = 0) : 0 ≤ p1.toInt ∧ p1.toInt < (v r 1).toInt ∧ p1.toInt < 5 := by
  unfold fX0_hasType at h
  split at h
  · exact absurd rfl h
  · split at h
    · exact absurd rfl h
    · split at h
      · exact absurd rfl h
      · rename_i h1 h2 h3
        have := i_nlt h1
        have := i_nle h2
        have := i_nle h3
        have : (0 : Int32).toInt = 0 := rfl
        have : (5 : Int32).toInt = 5 := rfl
        omega
def fX0_refusalToBring (r : Nat) (p1 : Int32) (p2 : Int32) (v : vSt) : Int32 := if ((fX0_hasType r p1 v) : Int32) = 0 then 1 else (if ((fX10_inRange p2 (-200) 200) : Int32) = 0 then 1 else (if (1 : Int32) ≤ ((v ((r + 3) + 31 + (p1 : Int32).toNatClampNeg) 0) + p2) then (if ((v (r + 4) 3) : Int32) < 20 then 0 else 2) else 1))
abbrev rmX0_refusalToBring : Room := { frames := 1, cells := 0, slots := 0, locals := 22 }
theorem dX0_refusalToBring_0 : decode cX0_refusalToBring 0 = .ok (.aload_n 0, 1) := by decide +kernel
theorem dX0_refusalToBring_1 : decode cX0_refusalToBring 1 = .ok (.iload_n 1, 1) := by decide +kernel
theorem dX0_refusalToBring_2 : decode cX0_refusalToBring 2 = .ok (.invokevirtual 68, 3) := by decide +kernel
theorem dX0_refusalToBring_5 : decode cX0_refusalToBring 5 = .ok (.ifCond .eq 31, 3) := by decide +kernel
theorem dX0_refusalToBring_8 : decode cX0_refusalToBring 8 = .ok (.iload_n 2, 1) := by decide +kernel
theorem dX0_refusalToBring_9 : decode cX0_refusalToBring 9 = .ok (.sipush (-200), 3) := by decide +kernel
theorem dX0_refusalToBring_12 : decode cX0_refusalToBring 12 = .ok (.sipush 200, 3) := by decide +kernel
theorem dX0_refusalToBring_15 : decode cX0_refusalToBring 15 = .ok (.invokestatic 72, 3) := by decide +kernel
theorem dX0_refusalToBring_18 : decode cX0_refusalToBring 18 = .ok (.ifCond .eq 18, 3) := by decide +kernel
theorem dX0_refusalToBring_21 : decode cX0_refusalToBring 21 = .ok (.aload_n 0, 1) := by decide +kernel
theorem dX0_refusalToBring_22 : decode cX0_refusalToBring 22 = .ok (.getfield 11, 3) := by decide +kernel
theorem dX0_refusalToBring_25 : decode cX0_refusalToBring 25 = .ok (.iload_n 1, 1) := by decide +kernel
theorem dX0_refusalToBring_26 : decode cX0_refusalToBring 26 = .ok (.aaload, 1) := by decide +kernel
theorem dX0_refusalToBring_27 : decode cX0_refusalToBring 27 = .ok (.getfield 76, 3) := by decide +kernel
theorem dX0_refusalToBring_30 : decode cX0_refusalToBring 30 = .ok (.iload_n 2, 1) := by decide +kernel
theorem dX0_refusalToBring_31 : decode cX0_refusalToBring 31 = .ok (.iadd, 1) := by decide +kernel
theorem dX0_refusalToBring_32 : decode cX0_refusalToBring 32 = .ok (.iconst 1, 1) := by decide +kernel
theorem dX0_refusalToBring_33 : decode cX0_refusalToBring 33 = .ok (.if_icmp .ge 5, 3) := by decide +kernel
theorem dX0_refusalToBring_36 : decode cX0_refusalToBring 36 = .ok (.iconst 1, 1) := by decide +kernel
theorem dX0_refusalToBring_37 : decode cX0_refusalToBring 37 = .ok (.ireturn, 1) := by decide +kernel
theorem dX0_refusalToBring_38 : decode cX0_refusalToBring 38 = .ok (.aload_n 0, 1) := by decide +kernel
theorem dX0_refusalToBring_39 : decode cX0_refusalToBring 39 = .ok (.getfield 20, 3) := by decide +kernel
theorem dX0_refusalToBring_42 : decode cX0_refusalToBring 42 = .ok (.getfield 79, 3) := by decide +kernel
theorem dX0_refusalToBring_45 : decode cX0_refusalToBring 45 = .ok (.bipush 20, 2) := by decide +kernel
theorem dX0_refusalToBring_47 : decode cX0_refusalToBring 47 = .ok (.if_icmp .lt 7, 3) := by decide +kernel
theorem dX0_refusalToBring_50 : decode cX0_refusalToBring 50 = .ok (.iconst 2, 1) := by decide +kernel
theorem dX0_refusalToBring_51 : decode cX0_refusalToBring 51 = .ok (.goto 4, 3) := by decide +kernel
theorem dX0_refusalToBring_54 : decode cX0_refusalToBring 54 = .ok (.iconst 0, 1) := by decide +kernel
theorem dX0_refusalToBring_55 : decode cX0_refusalToBring 55 = .ok (.ireturn, 1) := by decide +kernel
set_option maxHeartbeats 4000000 in
set_option maxRecDepth 100000 in
theorem mX0_refusalToBring (l : Launch) (G : gG) (da : Nat → Nat) (v : vSt) (x : gX) (r : Nat) (hk_r : kd r = 0) (p1 : Int32) (p2 : Int32) : QI l yX0_refusalToBring cX0_refusalToBring 3 (some .int) rmX0_refusalToBring [.ref (ga G r), .int p1, .int p2] (pW G da v x) (fX0_refusalToBring r p1 p2 v) := by
  refine gofQ (own := RX0) (by decide) rfl (Nat.le_of_ble_eq_true rfl) (fun p e s m args below meth c ls Q X hH hl E => ?_)
  have hx := X.1
  have hb := X.2.1
  have hown := X.2.2.2.1
  have hts := X.2.2.2.2.1
  have hS : va_S (gA G) s.heap s.heap [] := va_S.rf
  have hl : lv_has ls 3 [(0, .ref (ga G r)), (1, .int p1), (2, .int p2)] := hl
  refine lv_aload_n hx hb dX0_refusalToBring_0 rfl (lv_at hl 0 rfl) ?_
  refine lv_iload_n hx hb dX0_refusalToBring_1 rfl (lv_at hl 1 rfl) ?_
  refine k_X0_hasType X hS hH hk_r t_ml_Bench_68 hl.1 (Nat.le_of_ble_eq_true rfl) ⟨Nat.le_of_ble_eq_true rfl, Nat.le_of_ble_eq_true rfl⟩ ⟨Nat.zero_le _, Nat.zero_le _⟩ dX0_refusalToBring_2 ?_
  refine lv_if_eq (tgt := 36) hx hb dX0_refusalToBring_5 (by decide) (fun c1 => ?_) (fun c1 => ?_)
  · refine lv_iconst (v := 1) hx hb dX0_refusalToBring_36 (by decide) ?_
    exact E _ _ _ dX0_refusalToBring_37 rfl (Eq.symm ((if_pos c1).trans rfl))
  · refine lv_iload_n hx hb dX0_refusalToBring_8 rfl (lv_at hl 2 rfl) ?_
    refine lv_sipush (v := (-200)) hx hb dX0_refusalToBring_9 (by decide) ?_
    refine lv_sipush (v := 200) hx hb dX0_refusalToBring_12 (by decide) ?_
    refine kn_X10_inRange X hS  t_mn_Bench_72 hl.1 (Nat.le_of_ble_eq_true rfl) ⟨Nat.le_of_ble_eq_true rfl, Nat.le_of_ble_eq_true rfl⟩ ⟨Nat.zero_le _, Nat.zero_le _⟩ dX0_refusalToBring_15 ?_
    refine lv_if_eq (tgt := 36) hx hb dX0_refusalToBring_18 (by decide) (fun c2 => ?_) (fun c2 => ?_)
    · refine lv_iconst (v := 1) hx hb dX0_refusalToBring_36 (by decide) ?_
      exact E _ _ _ dX0_refusalToBring_37 rfl (Eq.symm ((if_neg c1).trans ((if_pos c2).trans rfl)))
    · refine lv_aload_n hx hb dX0_refusalToBring_21 rfl (lv_at hl 0 rfl) ?_
      refine g_Bench_11 X hH hk_r dX0_refusalToBring_22 ?_
      refine lv_iload_n hx hb dX0_refusalToBring_25 rfl (lv_at hl 1 rfl) ?_
      have hi3 : vp_in p1 5 := (i_in (by have := hasType_b c1; omega) (by have := hasType_b c1; omega))
      refine qld_22 X hH (kc_0_22 hk_r) hi3 dX0_refusalToBring_26 ?_
      refine g_Bench_76 X hH (ki_22 (kc_0_22 hk_r) (vp_lt hi3)) dX0_refusalToBring_27 ?_
      refine lv_iload_n hx hb dX0_refusalToBring_30 rfl (lv_at hl 2 rfl) ?_
      refine lv_iadd hx hb dX0_refusalToBring_31 ?_
      refine lv_iconst (v := 1) hx hb dX0_refusalToBring_32 (by decide) ?_
      refine lv_icmp_ge (tgt := 38) hx hb dX0_refusalToBring_33 (by decide) (fun c4 => ?_) (fun c4 => ?_)
      · refine lv_aload_n hx hb dX0_refusalToBring_38 rfl (lv_at hl 0 rfl) ?_
        refine g_Bench_20 X hH hk_r dX0_refusalToBring_39 ?_
        refine g_Bench_79 X hH (Or.inl (kc_0_5 hk_r)) dX0_refusalToBring_42 ?_
        refine lv_bipush (v := 20) hx hb dX0_refusalToBring_45 (by decide) ?_
        refine lv_icmp_lt (tgt := 54) hx hb dX0_refusalToBring_47 (by decide) (fun c5 => ?_) (fun c5 => ?_)
        · refine lv_iconst (v := 0) hx hb dX0_refusalToBring_54 (by decide) ?_
          exact E _ _ _ dX0_refusalToBring_55 rfl (Eq.symm ((if_neg c1).trans ((if_neg c2).trans ((if_pos c4).trans ((if_pos c5).trans rfl)))))
        · refine lv_iconst (v := 2) hx hb dX0_refusalToBring_50 (by decide) ?_
          refine lv_goto (tgt := 55) hx hb dX0_refusalToBring_51 (by decide) ?_
          exact E _ _ _ dX0_refusalToBring_55 rfl (Eq.symm ((if_neg c1).trans ((if_neg c2).trans ((if_pos c4).trans ((if_neg c5).trans rfl)))))
      · refine lv_iconst (v := 1) hx hb dX0_refusalToBring_36 (by decide) ?_
        exact E _ _ _ dX0_refusalToBring_37 rfl (Eq.symm ((if_neg c1).trans ((if_neg c2).trans ((if_neg c4).trans rfl))))
theorem k_X0_refusalToBring {p : Program} {l : Launch} {e : Env} {R : Room} {s : State} {m : MethodId} {args : Array Value} {below : List Frame} {meth : Method} {c : Code} {H : Heap} {locs : List Loc} {cells slots : Nat} {Q : State → Prop} {cc : ByteArray} {pc nL : Nat} {ls : Array Slot} {rest : List Value} {G : gG} {own : String} {da : Nat → Nat} {v : vSt} {x : gX} (X : CX G p s m args c cc nL own) (hS : va_S (gA G) s.heap H locs) (hH : Hp G da v x H) {r : Nat} (hk_r : kd r = 0) {p1 : Int32} {p2 : Int32} {idx : Nat} (hml : Cond.methodLink own idx yX0_refusalToBring ∈ TT) (hls : ls.size = nL) (hsum : (rest.map fun v => v.category).sum ≤ 8) (hR : rmX0_refusalToBring.frames + 1 ≤ R.frames ∧ 8 + (3 + 11) + rmX0_refusalToBring.locals ≤ R.locals) (hcs : cells ≤ R.cells ∧ slots ≤ R.slots) (hdg : decode cc pc = .ok (.invokevirtual idx, 3)) (kk : W p l e R s m args below meth c H locs cells slots Q (F0 m (pc + 3) ls (.int (fX0_refusalToBring r p1 p2 v) :: rest))) : W p l e R s m args below meth c H locs cells slots Q (F0 m pc ls (.int p2 :: .int p1 :: .ref (ga G r) :: rest)) := c_qi (runV (k := 2) X.1 X.2.1 X.2.2.1 X.2.2.2.1 X.2.2.2.2.1 (mX0_refusalToBring l G da v x r hk_r p1 p2) pW_bl hml t_im_X0_refusalToBring t_sel_X0_refusalToBring t_ini_Bench t_code_X0_refusalToBring ⟨rfl, by decide, by decide, by decide +kernel⟩ rfl rfl hR hcs (recvW X hH (by rw [hk_r]; decide) (by rw [hk_r]; decide) (ce_0 hk_r) rfl) (preW X hS hH) rfl hls rfl hsum hdg) (fun _ h => h ▸ kk)
def fX0_typeOfFirst (r : Nat) (o1 : Nat) (v : vSt) : Nat := if ((fX0_hasType r (fX5_typeOfPiece o1 0 v) v) : Int32) = 0 then ((r + 3) + 31 + (0 : Int32).toNatClampNeg) else ((r + 3) + 31 + (fX5_typeOfPiece o1 0 v : Int32).toNatClampNeg)
abbrev rmX0_typeOfFirst : Room := { frames := 2, cells := 0, slots := 0, locals := 42 }
theorem dX0_typeOfFirst_0 : decode cX0_typeOfFirst 0 = .ok (.aload_n 1, 1) := by decide +kernel
theorem dX0_typeOfFirst_1 : decode cX0_typeOfFirst 1 = .ok (.iconst 0, 1) := by decide +kernel
theorem dX0_typeOfFirst_2 : decode cX0_typeOfFirst 2 = .ok (.invokevirtual 64, 3) := by decide +kernel
theorem dX0_typeOfFirst_5 : decode cX0_typeOfFirst 5 = .ok (.istore_n 2, 1) := by decide +kernel
theorem dX0_typeOfFirst_6 : decode cX0_typeOfFirst 6 = .ok (.aload_n 0, 1) := by decide +kernel
theorem dX0_typeOfFirst_7 : decode cX0_typeOfFirst 7 = .ok (.getfield 11, 3) := by decide +kernel
theorem dX0_typeOfFirst_10 : decode cX0_typeOfFirst 10 = .ok (.aload_n 0, 1) := by decide +kernel
theorem dX0_typeOfFirst_11 : decode cX0_typeOfFirst 11 = .ok (.iload_n 2, 1) := by decide +kernel
theorem dX0_typeOfFirst_12 : decode cX0_typeOfFirst 12 = .ok (.invokevirtual 68, 3) := by decide +kernel
theorem dX0_typeOfFirst_15 : decode cX0_typeOfFirst 15 = .ok (.ifCond .eq 7, 3) := by decide +kernel
theorem dX0_typeOfFirst_18 : decode cX0_typeOfFirst 18 = .ok (.iload_n 2, 1) := by decide +kernel
theorem dX0_typeOfFirst_19 : decode cX0_typeOfFirst 19 = .ok (.goto 4, 3) := by decide +kernel
theorem dX0_typeOfFirst_22 : decode cX0_typeOfFirst 22 = .ok (.iconst 0, 1) := by decide +kernel
theorem dX0_typeOfFirst_23 : decode cX0_typeOfFirst 23 = .ok (.aaload, 1) := by decide +kernel
theorem dX0_typeOfFirst_24 : decode cX0_typeOfFirst 24 = .ok (.areturn, 1) := by decide +kernel
set_option maxHeartbeats 4000000 in
set_option maxRecDepth 100000 in
theorem mX0_typeOfFirst (l : Launch) (G : gG) (da : Nat → Nat) (v : vSt) (x : gX) (r : Nat) (hk_r : kd r = 0) (o1 : Nat) (hk_o1 : kd o1 = 5 ∨ kd o1 = 15) : QR l yX0_typeOfFirst cX0_typeOfFirst 3 (some (.object "VernierDrawers$PieceType")) rmX0_typeOfFirst [.ref (ga G r), .ref (ga G o1)] (pW G da v x) (ga G (fX0_typeOfFirst r o1 v)) := by
  refine gofQR (own := RX0) (by decide) rfl (Nat.le_of_ble_eq_true rfl) (fun p e s m args below meth c ls Q X hH hl E => ?_)
  have hx := X.1
  have hb := X.2.1
  have hown := X.2.2.2.1
  have hts := X.2.2.2.2.1
  have hS : va_S (gA G) s.heap s.heap [] := va_S.rf
  have hl : lv_has ls 3 [(0, .ref (ga G r)), (1, .ref (ga G o1))] := hl
  refine lv_aload_n hx hb dX0_typeOfFirst_0 rfl (lv_at hl 1 rfl) ?_
  refine lv_iconst (v := 0) hx hb dX0_typeOfFirst_1 (by decide) ?_
  refine k_X5_typeOfPiece X hS hH hk_o1 t_ml_Bench_64 hl.1 (Nat.le_of_ble_eq_true rfl) ⟨Nat.le_of_ble_eq_true rfl, Nat.le_of_ble_eq_true rfl⟩ ⟨Nat.zero_le _, Nat.zero_le _⟩ dX0_typeOfFirst_2 ?_
  refine lv_istore_n (lv' := [(2, .int (fX5_typeOfPiece o1 0 v)), (0, .ref (ga G r)), (1, .ref (ga G o1))]) hx hb dX0_typeOfFirst_5 rfl hl (by decide) rfl (fun ls hl => ?_)
  refine lv_aload_n hx hb dX0_typeOfFirst_6 rfl (lv_at hl 1 rfl) ?_
  refine g_Bench_11 X hH hk_r dX0_typeOfFirst_7 ?_
  refine lv_aload_n hx hb dX0_typeOfFirst_10 rfl (lv_at hl 1 rfl) ?_
  refine lv_iload_n hx hb dX0_typeOfFirst_11 rfl (lv_at hl 0 rfl) ?_
  refine k_X0_hasType X hS hH hk_r t_ml_Bench_68 hl.1 (Nat.le_of_ble_eq_true rfl) ⟨Nat.le_of_ble_eq_true rfl, Nat.le_of_ble_eq_true rfl⟩ ⟨Nat.zero_le _, Nat.zero_le _⟩ dX0_typeOfFirst_12 ?_
  refine lv_if_eq (tgt := 22) hx hb dX0_typeOfFirst_15 (by decide) (fun c1 => ?_) (fun c1 => ?_)
  · refine lv_iconst (v := 0) hx hb dX0_typeOfFirst_22 (by decide) ?_
    have hi2 : vp_in 0 5 := (i_in (by decide) (by decide))
    refine qld_22 X hH (kc_0_22 hk_r) hi2 dX0_typeOfFirst_23 ?_
    exact E _ _ _ dX0_typeOfFirst_24 (congrArg (ga G) (Eq.symm ((if_pos c1).trans rfl)))
  · refine lv_iload_n hx hb dX0_typeOfFirst_18 rfl (lv_at hl 0 rfl) ?_
    refine lv_goto (tgt := 23) hx hb dX0_typeOfFirst_19 (by decide) ?_
    have hi3 : vp_in (fX5_typeOfPiece o1 0 v) 5 := (i_in (by have := hasType_b c1; have : (0 : Int32).toInt = 0 := rfl; omega) (by have := hasType_b c1; have : (0 : Int32).toInt = 0 := rfl; omega))
    refine qld_22 X hH (kc_0_22 hk_r) hi3 dX0_typeOfFirst_23 ?_
    exact E _ _ _ dX0_typeOfFirst_24 (congrArg (ga G) (Eq.symm ((if_neg c1).trans rfl)))
theorem k_X0_typeOfFirst {p : Program} {l : Launch} {e : Env} {R : Room} {s : State} {m : MethodId} {args : Array Value} {below : List Frame} {meth : Method} {c : Code} {H : Heap} {locs : List Loc} {cells slots : Nat} {Q : State → Prop} {cc : ByteArray} {pc nL : Nat} {ls : Array Slot} {rest : List Value} {G : gG} {own : String} {da : Nat → Nat} {v : vSt} {x : gX} (X : CX G p s m args c cc nL own) (hS : va_S (gA G) s.heap H locs) (hH : Hp G da v x H) {r : Nat} (hk_r : kd r = 0) {o1 : Nat} (hk_o1 : kd o1 = 5 ∨ kd o1 = 15) {idx : Nat} (hml : Cond.methodLink own idx yX0_typeOfFirst ∈ TT) (hls : ls.size = nL) (hsum : (rest.map fun v => v.category).sum ≤ 8) (hR : rmX0_typeOfFirst.frames + 1 ≤ R.frames ∧ 8 + (3 + 11) + rmX0_typeOfFirst.locals ≤ R.locals) (hcs : cells ≤ R.cells ∧ slots ≤ R.slots) (hdg : decode cc pc = .ok (.invokevirtual idx, 3)) (kk : W p l e R s m args below meth c H locs cells slots Q (F0 m (pc + 3) ls (.ref (ga G (fX0_typeOfFirst r o1 v)) :: rest))) : W p l e R s m args below meth c H locs cells slots Q (F0 m pc ls (.ref (ga G o1) :: .ref (ga G r) :: rest)) := c_qr (runV (k := 1) X.1 X.2.1 X.2.2.1 X.2.2.2.1 X.2.2.2.2.1 (mX0_typeOfFirst l G da v x r hk_r o1 hk_o1) pW_bl hml t_im_X0_typeOfFirst t_sel_X0_typeOfFirst t_ini_Bench t_code_X0_typeOfFirst ⟨rfl, by decide, by decide, by decide +kernel⟩ rfl rfl hR hcs (recvW X hH (by rw [hk_r]; decide) (by rw [hk_r]; decide) (ce_0 hk_r) rfl) (preW X hS hH) rfl hls rfl hsum hdg) (fun _ h => h ▸ kk)
theorem kd_typeOfFirst {r o1 : Nat} {v : vSt} (hk : kd r = 0) : kd (fX0_typeOfFirst r o1 v) = 4 := by
  unfold fX0_typeOfFirst
  split
  · exact ki_22 (kc_0_22 hk) (by decide)
  · rename_i h
    have := hasType_b h
    exact ki_22 (kc_0_22 hk) (vp_lt (i_in (by omega) (by omega)))
