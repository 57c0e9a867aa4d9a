/-! Bench, State: what changes. -/
def fX0_putType (r : Nat) (p1 : Int32) (p2 : Int32) (p3 : Int32) (p4 : Int32) (v : vSt) : Int32 × vSt := if (5 : Int32) ≤ (v r 1) then ((v r 1, v)) else (let v3 : vSt := fX4_begin ((r + 3) + 31 + (v r 1 : Int32).toNatClampNeg) p1 p2 p3 p4 v; let v4 : vSt := u2 v3 r 1 ((v3 r 1) + 1); (v r 1, v4))
def oX0_putType (r : Nat) (p1 : Int32) (p2 : Int32) (p3 : Int32) (p4 : Int32) (v : vSt) : Prop := ¬ ((5 : Int32) ≤ (v r 1)) → (vp_in (v r 1) 5)
abbrev rmX0_putType : Room := { frames := 1, cells := 0, slots := 0, locals := 24 }
theorem dX0_putType_0 : decode cX0_putType 0 = .ok (.aload_n 0, 1) := by decide +kernel
theorem dX0_putType_1 : decode cX0_putType 1 = .ok (.getfield 32, 3) := by decide +kernel
theorem dX0_putType_4 : decode cX0_putType 4 = .ok (.istore 5, 2) := by decide +kernel
theorem dX0_putType_6 : decode cX0_putType 6 = .ok (.iload 5, 2) := by decide +kernel
theorem dX0_putType_8 : decode cX0_putType 8 = .ok (.aload_n 0, 1) := by decide +kernel
theorem dX0_putType_9 : decode cX0_putType 9 = .ok (.getfield 11, 3) := by decide +kernel
theorem dX0_putType_12 : decode cX0_putType 12 = .ok (.arraylength, 1) := by decide +kernel
theorem dX0_putType_13 : decode cX0_putType 13 = .ok (.if_icmp .ge 28, 3) := by decide +kernel
theorem dX0_putType_16 : decode cX0_putType 16 = .ok (.aload_n 0, 1) := by decide +kernel
theorem dX0_putType_17 : decode cX0_putType 17 = .ok (.getfield 11, 3) := by decide +kernel
theorem dX0_putType_20 : decode cX0_putType 20 = .ok (.iload 5, 2) := by decide +kernel
theorem dX0_putType_22 : decode cX0_putType 22 = .ok (.aaload, 1) := by decide +kernel
theorem dX0_putType_23 : decode cX0_putType 23 = .ok (.iload_n 1, 1) := by decide +kernel
theorem dX0_putType_24 : decode cX0_putType 24 = .ok (.iload_n 2, 1) := by decide +kernel
theorem dX0_putType_25 : decode cX0_putType 25 = .ok (.iload_n 3, 1) := by decide +kernel
theorem dX0_putType_26 : decode cX0_putType 26 = .ok (.iload 4, 2) := by decide +kernel
theorem dX0_putType_28 : decode cX0_putType 28 = .ok (.invokevirtual 60, 3) := by decide +kernel
theorem dX0_putType_31 : decode cX0_putType 31 = .ok (.aload_n 0, 1) := by decide +kernel
theorem dX0_putType_32 : decode cX0_putType 32 = .ok (.dup, 1) := by decide +kernel
theorem dX0_putType_33 : decode cX0_putType 33 = .ok (.getfield 32, 3) := by decide +kernel
theorem dX0_putType_36 : decode cX0_putType 36 = .ok (.iconst 1, 1) := by decide +kernel
theorem dX0_putType_37 : decode cX0_putType 37 = .ok (.iadd, 1) := by decide +kernel
theorem dX0_putType_38 : decode cX0_putType 38 = .ok (.putfield 32, 3) := by decide +kernel
theorem dX0_putType_41 : decode cX0_putType 41 = .ok (.iload 5, 2) := by decide +kernel
theorem dX0_putType_43 : decode cX0_putType 43 = .ok (.ireturn, 1) := by decide +kernel
set_option maxHeartbeats 8000000 in
set_option maxRecDepth 100000 in
theorem mX0_putType (l : Launch) (G : gG) (da : Nat → Nat) (v : vSt) (x : gX) (r : Nat) (hk_r : kd r = 0) (p1 : Int32) (p2 : Int32) (p3 : Int32) (p4 : Int32) (ho : oX0_putType r p1 p2 p3 p4 v) : MI l yX0_putType cX0_putType 6 (some .int) rmX0_putType [.ref (ga G r), .int p1, .int p2, .int p3, .int p4] G da v x 0 0 (fX0_putType r p1 p2 p3 p4 v).1 (fX0_putType r p1 p2 p3 p4 v).2 x := by
  refine gofMI (own := RX0) (by decide) rfl (Nat.le_of_ble_eq_true rfl) (fun p e s m args below meth c ls Q X hH hl E => ?_)
  have hx := X.1
  have hb := X.2.1
  have hown := X.2.2.2.1
  have hts := X.2.2.2.2.1
  have hS : va_S (gA G) s.heap s.heap [] := va_S.rf
  unfold oX0_putType at ho
  have hl : lv_has ls 6 [(0, .ref (ga G r)), (1, .int p1), (2, .int p2), (3, .int p3), (4, .int p4)] := hl
  refine lv_aload_n hx hb dX0_putType_0 rfl (lv_at hl 0 rfl) ?_
  refine g_Bench_32 X hH hk_r dX0_putType_1 ?_
  refine lv_istore (lv' := [(5, .int (v r 1)), (0, .ref (ga G r)), (1, .int p1), (2, .int p2), (3, .int p3), (4, .int p4)]) hx hb dX0_putType_4 hl (by decide) rfl (fun ls hl => ?_)
  refine lv_iload hx hb dX0_putType_6 (lv_at hl 0 rfl) ?_
  refine lv_aload_n hx hb dX0_putType_8 rfl (lv_at hl 1 rfl) ?_
  refine g_Bench_11 X hH hk_r dX0_putType_9 ?_
  refine len_22 X hH (kc_0_22 hk_r) dX0_putType_12 ?_
  refine lv_icmp_ge (tgt := 41) hx hb dX0_putType_13 (by decide) (fun c1 => ?_) (fun c1 => ?_)
  · skip
    refine lv_iload hx hb dX0_putType_41 (lv_at hl 0 rfl) ?_
    exact E _ _ _ _ _ _ _ _ _ dX0_putType_43 rfl (pr1 ((fX0_putType.eq_1 _ _ _ _ _ _).trans ((if_pos c1).trans rfl))) (pr2 ((fX0_putType.eq_1 _ _ _ _ _ _).trans ((if_pos c1).trans rfl))) hH hS (Nat.zero_le _) (Nat.zero_le _)
  · have ho := ho c1
    refine lv_aload_n hx hb dX0_putType_16 rfl (lv_at hl 1 rfl) ?_
    refine g_Bench_11 X hH hk_r dX0_putType_17 ?_
    refine lv_iload hx hb dX0_putType_20 (lv_at hl 0 rfl) ?_
    have hq2 := ho
    refine qld_22 X hH (kc_0_22 hk_r) hq2 dX0_putType_22 ?_
    refine lv_iload_n hx hb dX0_putType_23 rfl (lv_at hl 2 rfl) ?_
    refine lv_iload_n hx hb dX0_putType_24 rfl (lv_at hl 3 rfl) ?_
    refine lv_iload_n hx hb dX0_putType_25 rfl (lv_at hl 4 rfl) ?_
    refine lv_iload hx hb dX0_putType_26 (lv_at hl 5 rfl) ?_
    refine k_X4_begin X hS hH (ki_22 (kc_0_22 hk_r) (vp_lt hq2)) t_ml_Bench_60 hl.1 (Nat.le_of_ble_eq_true rfl) ⟨Nat.le_of_ble_eq_true rfl, Nat.le_of_ble_eq_true rfl⟩ ⟨Nat.zero_le _, Nat.zero_le _⟩ dX0_putType_28 (fun da H locs v3 ev3 hH hS => ?_)
    refine lv_aload_n hx hb dX0_putType_31 rfl (lv_at hl 1 rfl) ?_
    refine lv_dup hx hb dX0_putType_32 rfl ?_
    refine g_Bench_32 X hH hk_r dX0_putType_33 ?_
    refine lv_iconst (v := 1) hx hb dX0_putType_36 (by decide) ?_
    refine lv_iadd hx hb dX0_putType_37 ?_
    refine p_Bench_32 X hH hS hk_r dX0_putType_38 (fun H locs v4 ev4 hH hS => ?_)
    refine lv_iload hx hb dX0_putType_41 (lv_at hl 0 rfl) ?_
    replace ev3 := Eq.symm ev3
    replace ev4 := Eq.symm ev4
    subst ev3 ev4
    exact E _ _ _ _ _ _ _ _ _ dX0_putType_43 rfl (pr1 ((fX0_putType.eq_1 _ _ _ _ _ _).trans ((if_neg c1).trans rfl))) (pr2 ((fX0_putType.eq_1 _ _ _ _ _ _).trans ((if_neg c1).trans rfl))) hH hS (Nat.zero_le _) (Nat.zero_le _)
theorem k_X0_putType {p : Program} {l : Launch} {e : Env} {R : Room} {s : State} {m : MethodId} {args : Array Value} {below : List Frame} {meth : Method} {c : Code} {H : Heap} {locs : List Loc} {cells slots : Nat} {Q : State → Prop} {cc : ByteArray} {pc nL : Nat} {ls : Array Slot} {rest : List Value} {G : gG} {own : String} {da : Nat → Nat} {v : vSt} {x : gX} (X : CX G p s m args c cc nL own) (hS : va_S (gA G) s.heap H locs) (hH : Hp G da v x H) {r : Nat} (hk_r : kd r = 0) {p1 : Int32} {p2 : Int32} {p3 : Int32} {p4 : Int32} (ho : oX0_putType r p1 p2 p3 p4 v) {idx : Nat} (hml : Cond.methodLink own idx yX0_putType ∈ TT) (hls : ls.size = nL) (hsum : (rest.map fun v => v.category).sum ≤ 8) (hR : rmX0_putType.frames + 1 ≤ R.frames ∧ 8 + (6 + 11) + rmX0_putType.locals ≤ R.locals) (hcs : cells ≤ R.cells ∧ slots ≤ R.slots) (hdg : decode cc pc = .ok (.invokevirtual idx, 3)) (kk : ∀ (d : Nat → Nat) (H1 : Heap) (locs1 : List Loc) (v1 : vSt), v1 = (fX0_putType r p1 p2 p3 p4 v).2 → Hp G d v1 x H1 → va_S (gA G) s.heap H1 locs1 → W p l e R s m args below meth c H1 locs1 cells slots Q (F0 m (pc + 3) ls (.int (fX0_putType r p1 p2 p3 p4 v).1 :: rest))) : W p l e R s m args below meth c H locs cells slots Q (F0 m pc ls (.int p4 :: .int p3 :: .int p2 :: .int p1 :: .ref (ga G r) :: rest)) := c_mi X.2.2.2.2.2.2 (runV (k := 4) X.1 X.2.1 X.2.2.1 X.2.2.2.1 X.2.2.2.2.1 (mX0_putType l G da v x r hk_r p1 p2 p3 p4 ho) pW_bl hml t_im_X0_putType t_sel_X0_putType t_ini_Bench t_code_X0_putType ⟨rfl, by decide, by decide, by decide +kernel⟩ rfl rfl hR hcs (recvW X hH (by rw [hk_r]; decide) (by rw [hk_r]; decide) (ce_0 hk_r) rfl) (preW X hS hH) rfl hls rfl hsum hdg) hS kk
def fX0_bringPiece (r : Nat) (p1 : Int32) (p2 : Int32) (v : vSt) : Int32 × vSt := let v3 : vSt := fX5_putLast (r + 4) p1 p2 0 v; let v4 : vSt := u2 v3 r 5 ((v3 r 5) + 1); (v4 (r + 4) 3, v4)

def kkX0_bringPiece (r : Nat) (p1 : Int32) (p2 : Int32) (v : vSt) : Nat := pot ((fX0_bringPiece r p1 p2 v).2) - pot v
def oX0_bringPiece (r : Nat) (p1 : Int32) (p2 : Int32) (v : vSt) : Prop := (oX5_putLast (r + 4) p1 p2 0 v) ∧ (0 + kkX5_putLast (r + 4) p1 p2 0 v ≤ kkX0_bringPiece r p1 p2 v)
abbrev rmX0_bringPiece (r : Nat) (p1 : Int32) (p2 : Int32) (v : vSt) : Room := { frames := 4, cells := kkX0_bringPiece r p1 p2 v, slots := kkX0_bringPiece r p1 p2 v, locals := 135 }
theorem dX0_bringPiece_0 : decode cX0_bringPiece 0 = .ok (.aload_n 0, 1) := by decide +kernel
theorem dX0_bringPiece_1 : decode cX0_bringPiece 1 = .ok (.getfield 20, 3) := by decide +kernel
theorem dX0_bringPiece_4 : decode cX0_bringPiece 4 = .ok (.iload_n 1, 1) := by decide +kernel
theorem dX0_bringPiece_5 : decode cX0_bringPiece 5 = .ok (.iload_n 2, 1) := by decide +kernel
theorem dX0_bringPiece_6 : decode cX0_bringPiece 6 = .ok (.iconst 0, 1) := by decide +kernel
theorem dX0_bringPiece_7 : decode cX0_bringPiece 7 = .ok (.invokevirtual 82, 3) := by decide +kernel
theorem dX0_bringPiece_10 : decode cX0_bringPiece 10 = .ok (.aload_n 0, 1) := by decide +kernel
theorem dX0_bringPiece_11 : decode cX0_bringPiece 11 = .ok (.dup, 1) := by decide +kernel
theorem dX0_bringPiece_12 : decode cX0_bringPiece 12 = .ok (.getfield 42, 3) := by decide +kernel
theorem dX0_bringPiece_15 : decode cX0_bringPiece 15 = .ok (.iconst 1, 1) := by decide +kernel
theorem dX0_bringPiece_16 : decode cX0_bringPiece 16 = .ok (.iadd, 1) := by decide +kernel
theorem dX0_bringPiece_17 : decode cX0_bringPiece 17 = .ok (.putfield 42, 3) := by decide +kernel
theorem dX0_bringPiece_20 : decode cX0_bringPiece 20 = .ok (.aload_n 0, 1) := by decide +kernel
theorem dX0_bringPiece_21 : decode cX0_bringPiece 21 = .ok (.getfield 20, 3) := by decide +kernel
theorem dX0_bringPiece_24 : decode cX0_bringPiece 24 = .ok (.getfield 79, 3) := by decide +kernel
theorem dX0_bringPiece_27 : decode cX0_bringPiece 27 = .ok (.ireturn, 1) := by decide +kernel
set_option maxHeartbeats 8000000 in
set_option maxRecDepth 100000 in
theorem mX0_bringPiece (l : Launch) (G : gG) (da : Nat → Nat) (v : vSt) (x : gX) (r : Nat) (hk_r : kd r = 0) (p1 : Int32) (p2 : Int32) (ho : oX0_bringPiece r p1 p2 v) : MI l yX0_bringPiece cX0_bringPiece 3 (some .int) (rmX0_bringPiece r p1 p2 v) [.ref (ga G r), .int p1, .int p2] G da v x (kkX0_bringPiece r p1 p2 v) (kkX0_bringPiece r p1 p2 v) (fX0_bringPiece r p1 p2 v).1 (fX0_bringPiece r p1 p2 v).2 x := by
  refine gofMI (own := RX0) (by decide) rfl (Nat.le_of_ble_eq_true rfl) (fun p e s m args below meth c ls Q X hH hl E => ?_)
  have hx := X.1
  have hb := X.2.1
  have hown := X.2.2.2.1
  have hts := X.2.2.2.2.1
  have hS : va_S (gA G) s.heap s.heap [] := va_S.rf
  unfold oX0_bringPiece at ho
  have hl : lv_has ls 3 [(0, .ref (ga G r)), (1, .int p1), (2, .int p2)] := hl
  refine lv_aload_n hx hb dX0_bringPiece_0 rfl (lv_at hl 0 rfl) ?_
  refine g_Bench_20 X hH hk_r dX0_bringPiece_1 ?_
  refine lv_iload_n hx hb dX0_bringPiece_4 rfl (lv_at hl 1 rfl) ?_
  refine lv_iload_n hx hb dX0_bringPiece_5 rfl (lv_at hl 2 rfl) ?_
  refine lv_iconst (v := 0) hx hb dX0_bringPiece_6 (by decide) ?_
  have hq1 := ho.1
  have ho := ho.2
  have hq2 := ho
  refine k_X5_putLast X hS hH (Or.inl (kc_0_5 hk_r)) hq1 t_ml_Bench_82 hl.1 (Nat.le_of_ble_eq_true rfl) ⟨Nat.le_of_ble_eq_true rfl, Nat.le_of_ble_eq_true rfl⟩ ⟨hq2, hq2⟩ dX0_bringPiece_7 (fun da H locs v3 ev3 hH hS => ?_)
  refine lv_aload_n hx hb dX0_bringPiece_10 rfl (lv_at hl 0 rfl) ?_
  refine lv_dup hx hb dX0_bringPiece_11 rfl ?_
  refine g_Bench_42 X hH hk_r dX0_bringPiece_12 ?_
  refine lv_iconst (v := 1) hx hb dX0_bringPiece_15 (by decide) ?_
  refine lv_iadd hx hb dX0_bringPiece_16 ?_
  refine p_Bench_42 X hH hS hk_r dX0_bringPiece_17 (fun H locs v4 ev4 hH hS => ?_)
  refine lv_aload_n hx hb dX0_bringPiece_20 rfl (lv_at hl 0 rfl) ?_
  refine g_Bench_20 X hH hk_r dX0_bringPiece_21 ?_
  refine g_Bench_79 X hH (Or.inl (kc_0_5 hk_r)) dX0_bringPiece_24 ?_
  replace ev3 := Eq.symm ev3
  replace ev4 := Eq.symm ev4
  subst ev3 ev4
  exact E _ _ _ _ _ _ _ _ _ dX0_bringPiece_27 rfl (pr1 rfl) (pr2 rfl) hH hS hq2 hq2
theorem k_X0_bringPiece {p : Program} {l : Launch} {e : Env} {R : Room} {s : State} {m : MethodId} {args : Array Value} {below : List Frame} {meth : Method} {c : Code} {H : Heap} {locs : List Loc} {cells slots : Nat} {Q : State → Prop} {cc : ByteArray} {pc nL : Nat} {ls : Array Slot} {rest : List Value} {G : gG} {own : String} {da : Nat → Nat} {v : vSt} {x : gX} (X : CX G p s m args c cc nL own) (hS : va_S (gA G) s.heap H locs) (hH : Hp G da v x H) {r : Nat} (hk_r : kd r = 0) {p1 : Int32} {p2 : Int32} (ho : oX0_bringPiece r p1 p2 v) {idx : Nat} (hml : Cond.methodLink own idx yX0_bringPiece ∈ TT) (hls : ls.size = nL) (hsum : (rest.map fun v => v.category).sum ≤ 8) (hR : (rmX0_bringPiece r p1 p2 v).frames + 1 ≤ R.frames ∧ 8 + (3 + 11) + (rmX0_bringPiece r p1 p2 v).locals ≤ R.locals) (hcs : cells + (kkX0_bringPiece r p1 p2 v) ≤ R.cells ∧ slots + (kkX0_bringPiece r p1 p2 v) ≤ R.slots) (hdg : decode cc pc = .ok (.invokevirtual idx, 3)) (kk : ∀ (d : Nat → Nat) (H1 : Heap) (locs1 : List Loc) (v1 : vSt), v1 = (fX0_bringPiece r p1 p2 v).2 → Hp G d v1 x H1 → va_S (gA G) s.heap H1 locs1 → W p l e R s m args below meth c H1 locs1 (cells + (kkX0_bringPiece r p1 p2 v)) (slots + (kkX0_bringPiece r p1 p2 v)) Q (F0 m (pc + 3) ls (.int (fX0_bringPiece r p1 p2 v).1 :: rest))) : W p l e R s m args below meth c H locs cells slots Q (F0 m pc ls (.int p2 :: .int p1 :: .ref (ga G r) :: rest)) := c_mi X.2.2.2.2.2.2 (runV (k := 2) X.1 X.2.1 X.2.2.1 X.2.2.2.1 X.2.2.2.2.1 (mX0_bringPiece l G da v x r hk_r p1 p2 ho) pW_bl hml t_im_X0_bringPiece t_sel_X0_bringPiece t_ini_Bench t_code_X0_bringPiece ⟨rfl, by decide, by decide, by decide +kernel⟩ rfl rfl hR hcs (recvW X hH (by rw [hk_r]; decide) (by rw [hk_r]; decide) (ce_0 hk_r) rfl) (preW X hS hH) rfl hls rfl hsum hdg) hS kk
def fX0_moveFirst (r : Nat) (p1 : Int32) (v : vSt) : vSt := let v2 : vSt := fX5_dropFirst (r + 4) v; if (p1 : Int32) = 0 then (let v14 : vSt := u2 v2 r 6 ((v2 r 6) + 1); v14) else (if (p1 : Int32) = 1 then (let v13 : vSt := fX5_putLast (r + 5) (fX5_typeOfPiece (r + 4) 0 v) (fX5_firstDeviation (r + 4) v) 0 v2; v13) else (if (p1 : Int32) = 2 then (let v10 : vSt := u2 v2 r 7 ((v2 r 7) + 1); v10) else (let v8 : vSt := fX5_putLast (r + 4) (fX5_typeOfPiece (r + 4) 0 v) (fX5_firstDeviation (r + 4) v) 1 v2; let v9 : vSt := u2 v8 r 9 ((v8 r 9) + 1); v9)))

def kkX0_moveFirst (r : Nat) (p1 : Int32) (v : vSt) : Nat := pot (fX0_moveFirst r p1 v) - pot v
def oX0_moveFirst (r : Nat) (p1 : Int32) (v : vSt) : Prop := (oX5_dropFirst (r + 4) v) ∧ (∀ v2 : vSt, v2 = (fX5_dropFirst (r + 4) v) → (¬ ((p1 : Int32) = 0) → ((((p1 : Int32) = 1) → ((oX5_putLast (r + 5) (fX5_typeOfPiece (r + 4) 0 v) (fX5_firstDeviation (r + 4) v) 0 v2) ∧ (0 + kkX5_putLast (r + 5) (fX5_typeOfPiece (r + 4) 0 v) (fX5_firstDeviation (r + 4) v) 0 v2 ≤ kkX0_moveFirst r p1 v))) ∧ (¬ ((p1 : Int32) = 1) → (¬ ((p1 : Int32) = 2) → ((oX5_putLast (r + 4) (fX5_typeOfPiece (r + 4) 0 v) (fX5_firstDeviation (r + 4) v) 1 v2) ∧ (0 + kkX5_putLast (r + 4) (fX5_typeOfPiece (r + 4) 0 v) (fX5_firstDeviation (r + 4) v) 1 v2 ≤ kkX0_moveFirst r p1 v)))))))
abbrev rmX0_moveFirst (r : Nat) (p1 : Int32) (v : vSt) : Room := { frames := 4, cells := kkX0_moveFirst r p1 v, slots := kkX0_moveFirst r p1 v, locals := 135 }
theorem dX0_moveFirst_0 : decode cX0_moveFirst 0 = .ok (.aload_n 0, 1) := by decide +kernel
theorem dX0_moveFirst_1 : decode cX0_moveFirst 1 = .ok (.getfield 20, 3) := by decide +kernel
theorem dX0_moveFirst_4 : decode cX0_moveFirst 4 = .ok (.iconst 0, 1) := by decide +kernel
theorem dX0_moveFirst_5 : decode cX0_moveFirst 5 = .ok (.invokevirtual 64, 3) := by decide +kernel
theorem dX0_moveFirst_8 : decode cX0_moveFirst 8 = .ok (.istore_n 2, 1) := by decide +kernel
theorem dX0_moveFirst_9 : decode cX0_moveFirst 9 = .ok (.aload_n 0, 1) := by decide +kernel
theorem dX0_moveFirst_10 : decode cX0_moveFirst 10 = .ok (.getfield 20, 3) := by decide +kernel
theorem dX0_moveFirst_13 : decode cX0_moveFirst 13 = .ok (.invokevirtual 107, 3) := by decide +kernel
theorem dX0_moveFirst_16 : decode cX0_moveFirst 16 = .ok (.istore_n 3, 1) := by decide +kernel
theorem dX0_moveFirst_17 : decode cX0_moveFirst 17 = .ok (.aload_n 0, 1) := by decide +kernel
theorem dX0_moveFirst_18 : decode cX0_moveFirst 18 = .ok (.getfield 20, 3) := by decide +kernel
theorem dX0_moveFirst_21 : decode cX0_moveFirst 21 = .ok (.invokevirtual 159, 3) := by decide +kernel
theorem dX0_moveFirst_24 : decode cX0_moveFirst 24 = .ok (.iload_n 1, 1) := by decide +kernel
theorem dX0_moveFirst_25 : decode cX0_moveFirst 25 = .ok (.ifCond .ne 16, 3) := by decide +kernel
theorem dX0_moveFirst_28 : decode cX0_moveFirst 28 = .ok (.aload_n 0, 1) := by decide +kernel
theorem dX0_moveFirst_29 : decode cX0_moveFirst 29 = .ok (.dup, 1) := by decide +kernel
theorem dX0_moveFirst_30 : decode cX0_moveFirst 30 = .ok (.getfield 45, 3) := by decide +kernel
theorem dX0_moveFirst_33 : decode cX0_moveFirst 33 = .ok (.iconst 1, 1) := by decide +kernel
theorem dX0_moveFirst_34 : decode cX0_moveFirst 34 = .ok (.iadd, 1) := by decide +kernel
theorem dX0_moveFirst_35 : decode cX0_moveFirst 35 = .ok (.putfield 45, 3) := by decide +kernel
theorem dX0_moveFirst_38 : decode cX0_moveFirst 38 = .ok (.goto 59, 3) := by decide +kernel
theorem dX0_moveFirst_41 : decode cX0_moveFirst 41 = .ok (.iload_n 1, 1) := by decide +kernel
theorem dX0_moveFirst_42 : decode cX0_moveFirst 42 = .ok (.iconst 1, 1) := by decide +kernel
theorem dX0_moveFirst_43 : decode cX0_moveFirst 43 = .ok (.if_icmp .ne 16, 3) := by decide +kernel
theorem dX0_moveFirst_46 : decode cX0_moveFirst 46 = .ok (.aload_n 0, 1) := by decide +kernel
theorem dX0_moveFirst_47 : decode cX0_moveFirst 47 = .ok (.getfield 24, 3) := by decide +kernel
theorem dX0_moveFirst_50 : decode cX0_moveFirst 50 = .ok (.iload_n 2, 1) := by decide +kernel
theorem dX0_moveFirst_51 : decode cX0_moveFirst 51 = .ok (.iload_n 3, 1) := by decide +kernel
theorem dX0_moveFirst_52 : decode cX0_moveFirst 52 = .ok (.iconst 0, 1) := by decide +kernel
theorem dX0_moveFirst_53 : decode cX0_moveFirst 53 = .ok (.invokevirtual 82, 3) := by decide +kernel
theorem dX0_moveFirst_56 : decode cX0_moveFirst 56 = .ok (.goto 41, 3) := by decide +kernel
theorem dX0_moveFirst_59 : decode cX0_moveFirst 59 = .ok (.iload_n 1, 1) := by decide +kernel
theorem dX0_moveFirst_60 : decode cX0_moveFirst 60 = .ok (.iconst 2, 1) := by decide +kernel
theorem dX0_moveFirst_61 : decode cX0_moveFirst 61 = .ok (.if_icmp .ne 16, 3) := by decide +kernel
theorem dX0_moveFirst_64 : decode cX0_moveFirst 64 = .ok (.aload_n 0, 1) := by decide +kernel
theorem dX0_moveFirst_65 : decode cX0_moveFirst 65 = .ok (.dup, 1) := by decide +kernel
theorem dX0_moveFirst_66 : decode cX0_moveFirst 66 = .ok (.getfield 48, 3) := by decide +kernel
theorem dX0_moveFirst_69 : decode cX0_moveFirst 69 = .ok (.iconst 1, 1) := by decide +kernel
theorem dX0_moveFirst_70 : decode cX0_moveFirst 70 = .ok (.iadd, 1) := by decide +kernel
theorem dX0_moveFirst_71 : decode cX0_moveFirst 71 = .ok (.putfield 48, 3) := by decide +kernel
theorem dX0_moveFirst_74 : decode cX0_moveFirst 74 = .ok (.goto 23, 3) := by decide +kernel
theorem dX0_moveFirst_77 : decode cX0_moveFirst 77 = .ok (.aload_n 0, 1) := by decide +kernel
theorem dX0_moveFirst_78 : decode cX0_moveFirst 78 = .ok (.getfield 20, 3) := by decide +kernel
theorem dX0_moveFirst_81 : decode cX0_moveFirst 81 = .ok (.iload_n 2, 1) := by decide +kernel
theorem dX0_moveFirst_82 : decode cX0_moveFirst 82 = .ok (.iload_n 3, 1) := by decide +kernel
theorem dX0_moveFirst_83 : decode cX0_moveFirst 83 = .ok (.iconst 1, 1) := by decide +kernel
theorem dX0_moveFirst_84 : decode cX0_moveFirst 84 = .ok (.invokevirtual 82, 3) := by decide +kernel
theorem dX0_moveFirst_87 : decode cX0_moveFirst 87 = .ok (.aload_n 0, 1) := by decide +kernel
theorem dX0_moveFirst_88 : decode cX0_moveFirst 88 = .ok (.dup, 1) := by decide +kernel
theorem dX0_moveFirst_89 : decode cX0_moveFirst 89 = .ok (.getfield 54, 3) := by decide +kernel
theorem dX0_moveFirst_92 : decode cX0_moveFirst 92 = .ok (.iconst 1, 1) := by decide +kernel
theorem dX0_moveFirst_93 : decode cX0_moveFirst 93 = .ok (.iadd, 1) := by decide +kernel
theorem dX0_moveFirst_94 : decode cX0_moveFirst 94 = .ok (.putfield 54, 3) := by decide +kernel
theorem dX0_moveFirst_97 : decode cX0_moveFirst 97 = .ok (.return_, 1) := by decide +kernel
set_option maxHeartbeats 8000000 in
set_option maxRecDepth 100000 in
theorem mX0_moveFirst (l : Launch) (G : gG) (da : Nat → Nat) (v : vSt) (x : gX) (r : Nat) (hk_r : kd r = 0) (p1 : Int32) (ho : oX0_moveFirst r p1 v) : MV l yX0_moveFirst cX0_moveFirst 4 none (rmX0_moveFirst r p1 v) [.ref (ga G r), .int p1] G da v x (kkX0_moveFirst r p1 v) (kkX0_moveFirst r p1 v) (fX0_moveFirst r p1 v) x := by
  refine gofMV (own := RX0) (by decide) rfl (Nat.le_of_ble_eq_true rfl) (fun p e s m args below meth c ls Q X hH hl E => ?_)
  have hx := X.1
  have hb := X.2.1
  have hown := X.2.2.2.1
  have hts := X.2.2.2.2.1
  have hS : va_S (gA G) s.heap s.heap [] := va_S.rf
  unfold oX0_moveFirst at ho
  have hl : lv_has ls 4 [(0, .ref (ga G r)), (1, .int p1)] := hl
  refine lv_aload_n hx hb dX0_moveFirst_0 rfl (lv_at hl 0 rfl) ?_
  refine g_Bench_20 X hH hk_r dX0_moveFirst_1 ?_
  refine lv_iconst (v := 0) hx hb dX0_moveFirst_4 (by decide) ?_
  refine k_X5_typeOfPiece X hS hH (Or.inl (kc_0_5 hk_r)) t_ml_Bench_64 hl.1 (Nat.le_of_ble_eq_true rfl) ⟨Nat.le_of_ble_eq_true rfl, Nat.le_of_ble_eq_true rfl⟩ ⟨Nat.zero_le _, Nat.zero_le _⟩ dX0_moveFirst_5 ?_
  refine lv_istore_n (lv' := [(2, .int (fX5_typeOfPiece (r + 4) 0 v)), (0, .ref (ga G r)), (1, .int p1)]) hx hb dX0_moveFirst_8 rfl hl (by decide) rfl (fun ls hl => ?_)
  refine lv_aload_n hx hb dX0_moveFirst_9 rfl (lv_at hl 1 rfl) ?_
  refine g_Bench_20 X hH hk_r dX0_moveFirst_10 ?_
  refine k_X5_firstDeviation X hS hH (Or.inl (kc_0_5 hk_r)) t_ml_Bench_107 hl.1 (Nat.le_of_ble_eq_true rfl) ⟨Nat.le_of_ble_eq_true rfl, Nat.le_of_ble_eq_true rfl⟩ ⟨Nat.zero_le _, Nat.zero_le _⟩ dX0_moveFirst_13 ?_
  refine lv_istore_n (lv' := [(3, .int (fX5_firstDeviation (r + 4) v)), (2, .int (fX5_typeOfPiece (r + 4) 0 v)), (0, .ref (ga G r)), (1, .int p1)]) hx hb dX0_moveFirst_16 rfl hl (by decide) rfl (fun ls hl => ?_)
  refine lv_aload_n hx hb dX0_moveFirst_17 rfl (lv_at hl 2 rfl) ?_
  refine g_Bench_20 X hH hk_r dX0_moveFirst_18 ?_
  have hq1 := ho.1
  have ho := ho.2
  refine k_X5_dropFirst X hS hH (Or.inl (kc_0_5 hk_r)) hq1 t_ml_Bench_159 hl.1 (Nat.le_of_ble_eq_true rfl) ⟨Nat.le_of_ble_eq_true rfl, Nat.le_of_ble_eq_true rfl⟩ ⟨Nat.zero_le _, Nat.zero_le _⟩ dX0_moveFirst_21 (fun da H locs v2 ev2 hH hS => ?_)
  have ho := ho v2 ev2
  refine lv_iload_n hx hb dX0_moveFirst_24 rfl (lv_at hl 3 rfl) ?_
  refine lv_if_ne (tgt := 41) hx hb dX0_moveFirst_25 (by decide) (fun c3 => ?_) (fun c3 => ?_)
  · have ho := ho c3
    refine lv_iload_n hx hb dX0_moveFirst_41 rfl (lv_at hl 3 rfl) ?_
    refine lv_iconst (v := 1) hx hb dX0_moveFirst_42 (by decide) ?_
    refine lv_icmp_ne (tgt := 59) hx hb dX0_moveFirst_43 (by decide) (fun c4 => ?_) (fun c4 => ?_)
    · have ho := ho.2 c4
      refine lv_iload_n hx hb dX0_moveFirst_59 rfl (lv_at hl 3 rfl) ?_
      refine lv_iconst (v := 2) hx hb dX0_moveFirst_60 (by decide) ?_
      refine lv_icmp_ne (tgt := 77) hx hb dX0_moveFirst_61 (by decide) (fun c5 => ?_) (fun c5 => ?_)
      · have ho := ho c5
        refine lv_aload_n hx hb dX0_moveFirst_77 rfl (lv_at hl 2 rfl) ?_
        refine g_Bench_20 X hH hk_r dX0_moveFirst_78 ?_
        refine lv_iload_n hx hb dX0_moveFirst_81 rfl (lv_at hl 1 rfl) ?_
        refine lv_iload_n hx hb dX0_moveFirst_82 rfl (lv_at hl 0 rfl) ?_
        refine lv_iconst (v := 1) hx hb dX0_moveFirst_83 (by decide) ?_
        have hq6 := ho.1
        have ho := ho.2
        have hq7 := ho
        refine k_X5_putLast X hS hH (Or.inl (kc_0_5 hk_r)) hq6 t_ml_Bench_82 hl.1 (Nat.le_of_ble_eq_true rfl) ⟨Nat.le_of_ble_eq_true rfl, Nat.le_of_ble_eq_true rfl⟩ ⟨hq7, hq7⟩ dX0_moveFirst_84 (fun da H locs v8 ev8 hH hS => ?_)
        refine lv_aload_n hx hb dX0_moveFirst_87 rfl (lv_at hl 2 rfl) ?_
        refine lv_dup hx hb dX0_moveFirst_88 rfl ?_
        refine g_Bench_54 X hH hk_r dX0_moveFirst_89 ?_
        refine lv_iconst (v := 1) hx hb dX0_moveFirst_92 (by decide) ?_
        refine lv_iadd hx hb dX0_moveFirst_93 ?_
        refine p_Bench_54 X hH hS hk_r dX0_moveFirst_94 (fun H locs v9 ev9 hH hS => ?_)
        replace ev2 := Eq.symm ev2
        replace ev8 := Eq.symm ev8
        replace ev9 := Eq.symm ev9
        subst ev2 ev8 ev9
        exact E _ _ _ _ _ _ _ _ dX0_moveFirst_97 (Eq.symm ((fX0_moveFirst.eq_1 _ _ _).trans ((if_neg c3).trans ((if_neg c4).trans ((if_neg c5).trans rfl))))) hH hS hq7 hq7
      · skip
        refine lv_aload_n hx hb dX0_moveFirst_64 rfl (lv_at hl 2 rfl) ?_
        refine lv_dup hx hb dX0_moveFirst_65 rfl ?_
        refine g_Bench_48 X hH hk_r dX0_moveFirst_66 ?_
        refine lv_iconst (v := 1) hx hb dX0_moveFirst_69 (by decide) ?_
        refine lv_iadd hx hb dX0_moveFirst_70 ?_
        refine p_Bench_48 X hH hS hk_r dX0_moveFirst_71 (fun H locs v10 ev10 hH hS => ?_)
        refine lv_goto (tgt := 97) hx hb dX0_moveFirst_74 (by decide) ?_
        replace ev2 := Eq.symm ev2
        replace ev10 := Eq.symm ev10
        subst ev2 ev10
        exact E _ _ _ _ _ _ _ _ dX0_moveFirst_97 (Eq.symm ((fX0_moveFirst.eq_1 _ _ _).trans ((if_neg c3).trans ((if_neg c4).trans ((if_pos c5).trans rfl))))) hH hS (Nat.zero_le _) (Nat.zero_le _)
    · have ho := ho.1 c4
      refine lv_aload_n hx hb dX0_moveFirst_46 rfl (lv_at hl 2 rfl) ?_
      refine g_Bench_24 X hH hk_r dX0_moveFirst_47 ?_
      refine lv_iload_n hx hb dX0_moveFirst_50 rfl (lv_at hl 1 rfl) ?_
      refine lv_iload_n hx hb dX0_moveFirst_51 rfl (lv_at hl 0 rfl) ?_
      refine lv_iconst (v := 0) hx hb dX0_moveFirst_52 (by decide) ?_
      have hq11 := ho.1
      have ho := ho.2
      have hq12 := ho
      refine k_X5_putLast X hS hH (Or.inr (kc_0_15 hk_r)) hq11 t_ml_Bench_82 hl.1 (Nat.le_of_ble_eq_true rfl) ⟨Nat.le_of_ble_eq_true rfl, Nat.le_of_ble_eq_true rfl⟩ ⟨hq12, hq12⟩ dX0_moveFirst_53 (fun da H locs v13 ev13 hH hS => ?_)
      refine lv_goto (tgt := 97) hx hb dX0_moveFirst_56 (by decide) ?_
      replace ev2 := Eq.symm ev2
      replace ev13 := Eq.symm ev13
      subst ev2 ev13
      exact E _ _ _ _ _ _ _ _ dX0_moveFirst_97 (Eq.symm ((fX0_moveFirst.eq_1 _ _ _).trans ((if_neg c3).trans ((if_pos c4).trans rfl)))) hH hS hq12 hq12
  · skip
    refine lv_aload_n hx hb dX0_moveFirst_28 rfl (lv_at hl 2 rfl) ?_
    refine lv_dup hx hb dX0_moveFirst_29 rfl ?_
    refine g_Bench_45 X hH hk_r dX0_moveFirst_30 ?_
    refine lv_iconst (v := 1) hx hb dX0_moveFirst_33 (by decide) ?_
    refine lv_iadd hx hb dX0_moveFirst_34 ?_
    refine p_Bench_45 X hH hS hk_r dX0_moveFirst_35 (fun H locs v14 ev14 hH hS => ?_)
    refine lv_goto (tgt := 97) hx hb dX0_moveFirst_38 (by decide) ?_
    replace ev2 := Eq.symm ev2
    replace ev14 := Eq.symm ev14
    subst ev2 ev14
    exact E _ _ _ _ _ _ _ _ dX0_moveFirst_97 (Eq.symm ((fX0_moveFirst.eq_1 _ _ _).trans ((if_pos c3).trans rfl))) hH hS (Nat.zero_le _) (Nat.zero_le _)
theorem k_X0_moveFirst {p : Program} {l : Launch} {e : Env} {R : Room} {s : State} {m : MethodId} {args : Array Value} {below : List Frame} {meth : Method} {c : Code} {H : Heap} {locs : List Loc} {cells slots : Nat} {Q : State → Prop} {cc : ByteArray} {pc nL : Nat} {ls : Array Slot} {rest : List Value} {G : gG} {own : String} {da : Nat → Nat} {v : vSt} {x : gX} (X : CX G p s m args c cc nL own) (hS : va_S (gA G) s.heap H locs) (hH : Hp G da v x H) {r : Nat} (hk_r : kd r = 0) {p1 : Int32} (ho : oX0_moveFirst r p1 v) {idx : Nat} (hml : Cond.methodLink own idx yX0_moveFirst ∈ TT) (hls : ls.size = nL) (hsum : (rest.map fun v => v.category).sum ≤ 8) (hR : (rmX0_moveFirst r p1 v).frames + 1 ≤ R.frames ∧ 8 + (4 + 11) + (rmX0_moveFirst r p1 v).locals ≤ R.locals) (hcs : cells + (kkX0_moveFirst r p1 v) ≤ R.cells ∧ slots + (kkX0_moveFirst r p1 v) ≤ R.slots) (hdg : decode cc pc = .ok (.invokevirtual idx, 3)) (kk : ∀ (d : Nat → Nat) (H1 : Heap) (locs1 : List Loc) (v1 : vSt), v1 = fX0_moveFirst r p1 v → Hp G d v1 x H1 → va_S (gA G) s.heap H1 locs1 → W p l e R s m args below meth c H1 locs1 (cells + (kkX0_moveFirst r p1 v)) (slots + (kkX0_moveFirst r p1 v)) Q (F0 m (pc + 3) ls rest)) : W p l e R s m args below meth c H locs cells slots Q (F0 m pc ls (.int p1 :: .ref (ga G r) :: rest)) := c_mv X.2.2.2.2.2.2 (runV (k := 1) X.1 X.2.1 X.2.2.1 X.2.2.2.1 X.2.2.2.2.1 (mX0_moveFirst l G da v x r hk_r p1 ho) pW_bl hml t_im_X0_moveFirst t_sel_X0_moveFirst t_ini_Bench t_code_X0_moveFirst ⟨rfl, by decide, by decide, by decide +kernel⟩ rfl rfl hR hcs (recvW X hH (by rw [hk_r]; decide) (by rw [hk_r]; decide) (ce_0 hk_r) rfl) (preW X hS hH) rfl hls rfl hsum hdg) hS kk
def fX0_judgeFirst (r : Nat) (o1 : Nat) (p1 : Int32) (v : vSt) : Int32 × vSt := if ((fX2_hasTool o1 p1 v) : Int32) = 0 then ((3, v)) else (let y3 : Int32 := fX0_outcomeOf r (fX0_measuredWith r o1 ((o1 + 2) + 13 + (p1 : Int32).toNatClampNeg) v) ((o1 + 2) + 13 + (p1 : Int32).toNatClampNeg) v; let v4 : vSt := fX8_useOn ((o1 + 2) + 13 + (p1 : Int32).toNatClampNeg) (v (fX0_typeOfFirst r (r + 4) v) 3) v; let v7 : vSt := fX0_moveFirst r y3 v4; if (y3 : Int32) = 3 then ((y3, v7)) else (let v9 : vSt := u2 v7 r 10 ((v7 r 10) + 1); let y10 : Int32 := (if (y3 : Int32) = 0 then 0 else 1 : Int32); let v13 : vSt := fX4_takeResult (fX0_typeOfFirst r (r + 4) v) (fX0_measuredWith r o1 ((o1 + 2) + 13 + (p1 : Int32).toNatClampNeg) v) y10 v9; (y3, v13)))

def kkX0_judgeFirst (r : Nat) (o1 : Nat) (p1 : Int32) (v : vSt) : Nat := pot ((fX0_judgeFirst r o1 p1 v).2) - pot v
def oX0_judgeFirst (r : Nat) (o1 : Nat) (p1 : Int32) (v : vSt) : Prop := ¬ (((fX2_hasTool o1 p1 v) : Int32) = 0) → ((vp_in (p1) 6) ∧ (∀ y3 : Int32, y3 = (fX0_outcomeOf r (fX0_measuredWith r o1 ((o1 + 2) + 13 + (p1 : Int32).toNatClampNeg) v) ((o1 + 2) + 13 + (p1 : Int32).toNatClampNeg) v) → (∀ v4 : vSt, v4 = (fX8_useOn ((o1 + 2) + 13 + (p1 : Int32).toNatClampNeg) (v (fX0_typeOfFirst r (r + 4) v) 3) v) → ((oX0_moveFirst r y3 v4) ∧ ((0 + kkX0_moveFirst r y3 v4 ≤ kkX0_judgeFirst r o1 p1 v) ∧ (∀ v7 : vSt, v7 = (fX0_moveFirst r y3 v4) → (¬ ((y3 : Int32) = 3) → (∀ v9 : vSt, v9 = (u2 v7 r 10 ((v7 r 10) + 1)) → ((∀ (y10 : Int32), y10 = ((if (y3 : Int32) = 0 then 0 else 1 : Int32) : Int32) → (oX4_takeResult (fX0_typeOfFirst r (r + 4) v) (fX0_measuredWith r o1 ((o1 + 2) + 13 + (p1 : Int32).toNatClampNeg) v) y10 v9)))))))))))
abbrev rmX0_judgeFirst (r : Nat) (o1 : Nat) (p1 : Int32) (v : vSt) : Room := { frames := 5, cells := kkX0_judgeFirst r o1 p1 v, slots := kkX0_judgeFirst r o1 p1 v, locals := 158 }
theorem dX0_judgeFirst_0 : decode cX0_judgeFirst 0 = .ok (.aload_n 1, 1) := by decide +kernel
theorem dX0_judgeFirst_1 : decode cX0_judgeFirst 1 = .ok (.iload_n 2, 1) := by decide +kernel
theorem dX0_judgeFirst_2 : decode cX0_judgeFirst 2 = .ok (.invokevirtual 117, 3) := by decide +kernel
theorem dX0_judgeFirst_5 : decode cX0_judgeFirst 5 = .ok (.ifCond .ne 5, 3) := by decide +kernel
theorem dX0_judgeFirst_8 : decode cX0_judgeFirst 8 = .ok (.iconst 3, 1) := by decide +kernel
theorem dX0_judgeFirst_9 : decode cX0_judgeFirst 9 = .ok (.ireturn, 1) := by decide +kernel
theorem dX0_judgeFirst_10 : decode cX0_judgeFirst 10 = .ok (.aload_n 1, 1) := by decide +kernel
theorem dX0_judgeFirst_11 : decode cX0_judgeFirst 11 = .ok (.getfield 120, 3) := by decide +kernel
theorem dX0_judgeFirst_14 : decode cX0_judgeFirst 14 = .ok (.iload_n 2, 1) := by decide +kernel
theorem dX0_judgeFirst_15 : decode cX0_judgeFirst 15 = .ok (.aaload, 1) := by decide +kernel
theorem dX0_judgeFirst_16 : decode cX0_judgeFirst 16 = .ok (.astore_n 3, 1) := by decide +kernel
theorem dX0_judgeFirst_17 : decode cX0_judgeFirst 17 = .ok (.aload_n 0, 1) := by decide +kernel
theorem dX0_judgeFirst_18 : decode cX0_judgeFirst 18 = .ok (.aload_n 1, 1) := by decide +kernel
theorem dX0_judgeFirst_19 : decode cX0_judgeFirst 19 = .ok (.aload_n 3, 1) := by decide +kernel
theorem dX0_judgeFirst_20 : decode cX0_judgeFirst 20 = .ok (.invokevirtual 141, 3) := by decide +kernel
theorem dX0_judgeFirst_23 : decode cX0_judgeFirst 23 = .ok (.istore 4, 2) := by decide +kernel
theorem dX0_judgeFirst_25 : decode cX0_judgeFirst 25 = .ok (.aload_n 0, 1) := by decide +kernel
theorem dX0_judgeFirst_26 : decode cX0_judgeFirst 26 = .ok (.iload 4, 2) := by decide +kernel
theorem dX0_judgeFirst_28 : decode cX0_judgeFirst 28 = .ok (.aload_n 3, 1) := by decide +kernel
theorem dX0_judgeFirst_29 : decode cX0_judgeFirst 29 = .ok (.invokevirtual 144, 3) := by decide +kernel
theorem dX0_judgeFirst_32 : decode cX0_judgeFirst 32 = .ok (.istore 5, 2) := by decide +kernel
theorem dX0_judgeFirst_34 : decode cX0_judgeFirst 34 = .ok (.aload_n 0, 1) := by decide +kernel
theorem dX0_judgeFirst_35 : decode cX0_judgeFirst 35 = .ok (.aload_n 0, 1) := by decide +kernel
theorem dX0_judgeFirst_36 : decode cX0_judgeFirst 36 = .ok (.getfield 20, 3) := by decide +kernel
theorem dX0_judgeFirst_39 : decode cX0_judgeFirst 39 = .ok (.invokevirtual 96, 3) := by decide +kernel
theorem dX0_judgeFirst_42 : decode cX0_judgeFirst 42 = .ok (.astore 6, 2) := by decide +kernel
theorem dX0_judgeFirst_44 : decode cX0_judgeFirst 44 = .ok (.aload_n 3, 1) := by decide +kernel
theorem dX0_judgeFirst_45 : decode cX0_judgeFirst 45 = .ok (.aload 6, 2) := by decide +kernel
theorem dX0_judgeFirst_47 : decode cX0_judgeFirst 47 = .ok (.getfield 110, 3) := by decide +kernel
theorem dX0_judgeFirst_50 : decode cX0_judgeFirst 50 = .ok (.invokevirtual 148, 3) := by decide +kernel
theorem dX0_judgeFirst_53 : decode cX0_judgeFirst 53 = .ok (.aload_n 0, 1) := by decide +kernel
theorem dX0_judgeFirst_54 : decode cX0_judgeFirst 54 = .ok (.iload 5, 2) := by decide +kernel
theorem dX0_judgeFirst_56 : decode cX0_judgeFirst 56 = .ok (.invokevirtual 152, 3) := by decide +kernel
theorem dX0_judgeFirst_59 : decode cX0_judgeFirst 59 = .ok (.iload 5, 2) := by decide +kernel
theorem dX0_judgeFirst_61 : decode cX0_judgeFirst 61 = .ok (.iconst 3, 1) := by decide +kernel
theorem dX0_judgeFirst_62 : decode cX0_judgeFirst 62 = .ok (.if_icmp .eq 30, 3) := by decide +kernel
theorem dX0_judgeFirst_65 : decode cX0_judgeFirst 65 = .ok (.aload_n 0, 1) := by decide +kernel
theorem dX0_judgeFirst_66 : decode cX0_judgeFirst 66 = .ok (.dup, 1) := by decide +kernel
theorem dX0_judgeFirst_67 : decode cX0_judgeFirst 67 = .ok (.getfield 57, 3) := by decide +kernel
theorem dX0_judgeFirst_70 : decode cX0_judgeFirst 70 = .ok (.iconst 1, 1) := by decide +kernel
theorem dX0_judgeFirst_71 : decode cX0_judgeFirst 71 = .ok (.iadd, 1) := by decide +kernel
theorem dX0_judgeFirst_72 : decode cX0_judgeFirst 72 = .ok (.putfield 57, 3) := by decide +kernel
theorem dX0_judgeFirst_75 : decode cX0_judgeFirst 75 = .ok (.aload 6, 2) := by decide +kernel
theorem dX0_judgeFirst_77 : decode cX0_judgeFirst 77 = .ok (.iload 4, 2) := by decide +kernel
theorem dX0_judgeFirst_79 : decode cX0_judgeFirst 79 = .ok (.iload 5, 2) := by decide +kernel
theorem dX0_judgeFirst_81 : decode cX0_judgeFirst 81 = .ok (.ifCond .eq 7, 3) := by decide +kernel
theorem dX0_judgeFirst_84 : decode cX0_judgeFirst 84 = .ok (.iconst 1, 1) := by decide +kernel
theorem dX0_judgeFirst_85 : decode cX0_judgeFirst 85 = .ok (.goto 4, 3) := by decide +kernel
theorem dX0_judgeFirst_88 : decode cX0_judgeFirst 88 = .ok (.iconst 0, 1) := by decide +kernel
theorem dX0_judgeFirst_89 : decode cX0_judgeFirst 89 = .ok (.invokevirtual 155, 3) := by decide +kernel
theorem dX0_judgeFirst_92 : decode cX0_judgeFirst 92 = .ok (.iload 5, 2) := by decide +kernel
theorem dX0_judgeFirst_94 : decode cX0_judgeFirst 94 = .ok (.ireturn, 1) := by decide +kernel
set_option maxHeartbeats 8000000 in
set_option maxRecDepth 100000 in
theorem mX0_judgeFirst (l : Launch) (G : gG) (da : Nat → Nat) (v : vSt) (x : gX) (r : Nat) (hk_r : kd r = 0) (o1 : Nat) (hk_o1 : kd o1 = 2) (p1 : Int32) (ho : oX0_judgeFirst r o1 p1 v) : MI l yX0_judgeFirst cX0_judgeFirst 7 (some .int) (rmX0_judgeFirst r o1 p1 v) [.ref (ga G r), .ref (ga G o1), .int p1] G da v x (kkX0_judgeFirst r o1 p1 v) (kkX0_judgeFirst r o1 p1 v) (fX0_judgeFirst r o1 p1 v).1 (fX0_judgeFirst r o1 p1 v).2 x := by
  refine gofMI (own := RX0) (by decide) rfl (Nat.le_of_ble_eq_true rfl) (fun p e s m args below meth c ls Q X hH hl E => ?_)
  have hx := X.1
  have hb := X.2.1
  have hown := X.2.2.2.1
  have hts := X.2.2.2.2.1
  have hS : va_S (gA G) s.heap s.heap [] := va_S.rf
  unfold oX0_judgeFirst at ho
  have hl : lv_has ls 7 [(0, .ref (ga G r)), (1, .ref (ga G o1)), (2, .int p1)] := hl
  refine lv_aload_n hx hb dX0_judgeFirst_0 rfl (lv_at hl 1 rfl) ?_
  refine lv_iload_n hx hb dX0_judgeFirst_1 rfl (lv_at hl 2 rfl) ?_
  refine k_X2_hasTool X hS hH hk_o1 t_ml_Bench_117 hl.1 (Nat.le_of_ble_eq_true rfl) ⟨Nat.le_of_ble_eq_true rfl, Nat.le_of_ble_eq_true rfl⟩ ⟨Nat.zero_le _, Nat.zero_le _⟩ dX0_judgeFirst_2 ?_
  refine lv_if_ne (tgt := 10) hx hb dX0_judgeFirst_5 (by decide) (fun c1 => ?_) (fun c1 => ?_)
  · have ho := ho c1
    refine lv_aload_n hx hb dX0_judgeFirst_10 rfl (lv_at hl 1 rfl) ?_
    refine g_Bench_120 X hH hk_o1 dX0_judgeFirst_11 ?_
    refine lv_iload_n hx hb dX0_judgeFirst_14 rfl (lv_at hl 2 rfl) ?_
    have hq2 := ho.1
    have ho := ho.2
    refine qld_20 X hH (kc_2_20 hk_o1) hq2 dX0_judgeFirst_15 ?_
    refine lv_astore_n (lv' := [(3, .ref (ga G ((o1 + 2) + 13 + (p1 : Int32).toNatClampNeg))), (0, .ref (ga G r)), (1, .ref (ga G o1)), (2, .int p1)]) hx hb dX0_judgeFirst_16 rfl hl (by decide) rfl (fun ls hl => ?_)
    refine lv_aload_n hx hb dX0_judgeFirst_17 rfl (lv_at hl 1 rfl) ?_
    refine lv_aload_n hx hb dX0_judgeFirst_18 rfl (lv_at hl 2 rfl) ?_
    refine lv_aload_n hx hb dX0_judgeFirst_19 rfl (lv_at hl 0 rfl) ?_
    refine k_X0_measuredWith X hS hH hk_r hk_o1 (ki_20 (kc_2_20 hk_o1) (vp_lt hq2)) t_ml_Bench_141 hl.1 (Nat.le_of_ble_eq_true rfl) ⟨Nat.le_of_ble_eq_true rfl, Nat.le_of_ble_eq_true rfl⟩ ⟨Nat.zero_le _, Nat.zero_le _⟩ dX0_judgeFirst_20 ?_
    refine lv_istore (lv' := [(4, .int (fX0_measuredWith r o1 ((o1 + 2) + 13 + (p1 : Int32).toNatClampNeg) v)), (3, .ref (ga G ((o1 + 2) + 13 + (p1 : Int32).toNatClampNeg))), (0, .ref (ga G r)), (1, .ref (ga G o1)), (2, .int p1)]) hx hb dX0_judgeFirst_23 hl (by decide) rfl (fun ls hl => ?_)
    refine lv_aload_n hx hb dX0_judgeFirst_25 rfl (lv_at hl 2 rfl) ?_
    refine lv_iload hx hb dX0_judgeFirst_26 (lv_at hl 0 rfl) ?_
    refine lv_aload_n hx hb dX0_judgeFirst_28 rfl (lv_at hl 1 rfl) ?_
    refine k_X0_outcomeOf X hS hH hk_r (ki_20 (kc_2_20 hk_o1) (vp_lt hq2)) t_ml_Bench_144 hl.1 (Nat.le_of_ble_eq_true rfl) ⟨Nat.le_of_ble_eq_true rfl, Nat.le_of_ble_eq_true rfl⟩ ⟨Nat.zero_le _, Nat.zero_le _⟩ dX0_judgeFirst_29 ?_
    obtain ⟨y3, ey3⟩ : ∃ z : Int32, z = fX0_outcomeOf r (fX0_measuredWith r o1 ((o1 + 2) + 13 + (p1 : Int32).toNatClampNeg) v) ((o1 + 2) + 13 + (p1 : Int32).toNatClampNeg) v := ⟨_, rfl⟩
    rw [← ey3]
    have ho := ho y3 ey3
    refine lv_istore (lv' := [(5, .int y3), (4, .int (fX0_measuredWith r o1 ((o1 + 2) + 13 + (p1 : Int32).toNatClampNeg) v)), (3, .ref (ga G ((o1 + 2) + 13 + (p1 : Int32).toNatClampNeg))), (0, .ref (ga G r)), (1, .ref (ga G o1)), (2, .int p1)]) hx hb dX0_judgeFirst_32 hl (by decide) rfl (fun ls hl => ?_)
    refine lv_aload_n hx hb dX0_judgeFirst_34 rfl (lv_at hl 3 rfl) ?_
    refine lv_aload_n hx hb dX0_judgeFirst_35 rfl (lv_at hl 3 rfl) ?_
    refine g_Bench_20 X hH hk_r dX0_judgeFirst_36 ?_
    refine k_X0_typeOfFirst X hS hH hk_r (Or.inl (kc_0_5 hk_r)) t_ml_Bench_96 hl.1 (Nat.le_of_ble_eq_true rfl) ⟨Nat.le_of_ble_eq_true rfl, Nat.le_of_ble_eq_true rfl⟩ ⟨Nat.zero_le _, Nat.zero_le _⟩ dX0_judgeFirst_39 ?_
    refine lv_astore (lv' := [(6, .ref (ga G (fX0_typeOfFirst r (r + 4) v))), (5, .int y3), (4, .int (fX0_measuredWith r o1 ((o1 + 2) + 13 + (p1 : Int32).toNatClampNeg) v)), (3, .ref (ga G ((o1 + 2) + 13 + (p1 : Int32).toNatClampNeg))), (0, .ref (ga G r)), (1, .ref (ga G o1)), (2, .int p1)]) hx hb dX0_judgeFirst_42 hl (by decide) rfl (fun ls hl => ?_)
    refine lv_aload_n hx hb dX0_judgeFirst_44 rfl (lv_at hl 3 rfl) ?_
    refine lv_aload hx hb dX0_judgeFirst_45 (lv_at hl 0 rfl) ?_
    refine g_Bench_110 X hH (kd_typeOfFirst hk_r) dX0_judgeFirst_47 ?_
    refine k_X8_useOn X hS hH (ki_20 (kc_2_20 hk_o1) (vp_lt hq2)) t_ml_Bench_148 hl.1 (Nat.le_of_ble_eq_true rfl) ⟨Nat.le_of_ble_eq_true rfl, Nat.le_of_ble_eq_true rfl⟩ ⟨Nat.zero_le _, Nat.zero_le _⟩ dX0_judgeFirst_50 (fun da H locs v4 ev4 hH hS => ?_)
    have ho := ho v4 ev4
    refine lv_aload_n hx hb dX0_judgeFirst_53 rfl (lv_at hl 4 rfl) ?_
    refine lv_iload hx hb dX0_judgeFirst_54 (lv_at hl 1 rfl) ?_
    have hq5 := ho.1
    have ho := ho.2
    have hq6 := ho.1
    have ho := ho.2
    refine k_X0_moveFirst X hS hH hk_r hq5 t_ml_Bench_152 hl.1 (Nat.le_of_ble_eq_true rfl) ⟨Nat.le_of_ble_eq_true rfl, Nat.le_of_ble_eq_true rfl⟩ ⟨hq6, hq6⟩ dX0_judgeFirst_56 (fun da H locs v7 ev7 hH hS => ?_)
    have ho := ho v7 ev7
    refine lv_iload hx hb dX0_judgeFirst_59 (lv_at hl 1 rfl) ?_
    refine lv_iconst (v := 3) hx hb dX0_judgeFirst_61 (by decide) ?_
    refine lv_icmp_eq (tgt := 92) hx hb dX0_judgeFirst_62 (by decide) (fun c8 => ?_) (fun c8 => ?_)
    · skip
      refine lv_iload hx hb dX0_judgeFirst_92 (lv_at hl 1 rfl) ?_
      replace ey3 := Eq.symm ey3
      replace ev4 := Eq.symm ev4
      replace ev7 := Eq.symm ev7
      subst ey3 ev4 ev7
      exact E _ _ _ _ _ _ _ _ _ dX0_judgeFirst_94 rfl (pr1 ((fX0_judgeFirst.eq_1 _ _ _ _).trans ((if_neg c1).trans ((if_pos c8).trans rfl)))) (pr2 ((fX0_judgeFirst.eq_1 _ _ _ _).trans ((if_neg c1).trans ((if_pos c8).trans rfl)))) hH hS hq6 hq6
    · have ho := ho c8
      refine lv_aload_n hx hb dX0_judgeFirst_65 rfl (lv_at hl 4 rfl) ?_
      refine lv_dup hx hb dX0_judgeFirst_66 rfl ?_
      refine g_Bench_57 X hH hk_r dX0_judgeFirst_67 ?_
      refine lv_iconst (v := 1) hx hb dX0_judgeFirst_70 (by decide) ?_
      refine lv_iadd hx hb dX0_judgeFirst_71 ?_
      refine p_Bench_57 X hH hS hk_r dX0_judgeFirst_72 (fun H locs v9 ev9 hH hS => ?_)
      have ho := ho v9 ev9
      refine lv_aload hx hb dX0_judgeFirst_75 (lv_at hl 0 rfl) ?_
      refine lv_iload hx hb dX0_judgeFirst_77 (lv_at hl 2 rfl) ?_
      refine lv_iload hx hb dX0_judgeFirst_79 (lv_at hl 1 rfl) ?_
      have K11 : ∀ (y10 : Int32) (ls : Array Slot), y10 = (if (y3 : Int32) = 0 then 0 else 1 : Int32) → lv_has ls 7 [(5, .int y3)] → W p l e (rmX0_judgeFirst r o1 p1 v) s m args below meth c H locs (0 + kkX0_moveFirst r y3 v4) (0 + kkX0_moveFirst r y3 v4) Q (F0 m 89 ls [.int y10, .int (fX0_measuredWith r o1 ((o1 + 2) + 13 + (p1 : Int32).toNatClampNeg) v), .ref (ga G (fX0_typeOfFirst r (r + 4) v))]) := by
        intro y10 ls ey10 hl
        have ho := ho y10 ey10
        have hq12 := ho
        refine k_X4_takeResult X hS hH (kd_typeOfFirst hk_r) hq12 t_ml_Bench_155 hl.1 (Nat.le_of_ble_eq_true rfl) ⟨Nat.le_of_ble_eq_true rfl, Nat.le_of_ble_eq_true rfl⟩ ⟨hq6, hq6⟩ dX0_judgeFirst_89 (fun da H locs v13 ev13 hH hS => ?_)
        refine lv_iload hx hb dX0_judgeFirst_92 (lv_at hl 0 rfl) ?_
        replace ey3 := Eq.symm ey3
        replace ev4 := Eq.symm ev4
        replace ev7 := Eq.symm ev7
        replace ev9 := Eq.symm ev9
        replace ey10 := Eq.symm ey10
        replace ev13 := Eq.symm ev13
        subst ey3 ev4 ev7 ev9 ey10 ev13
        exact E _ _ _ _ _ _ _ _ _ dX0_judgeFirst_94 rfl (pr1 ((fX0_judgeFirst.eq_1 _ _ _ _).trans ((if_neg c1).trans ((if_neg c8).trans rfl)))) (pr2 ((fX0_judgeFirst.eq_1 _ _ _ _).trans ((if_neg c1).trans ((if_neg c8).trans rfl)))) hH hS hq6 hq6
      refine lv_if_eq (tgt := 88) hx hb dX0_judgeFirst_81 (by decide) (fun c11 => ?_) (fun c11 => ?_)
      · skip
        refine lv_iconst (v := 0) hx hb dX0_judgeFirst_88 (by decide) ?_
        exact K11 _ _ (Eq.symm ((if_pos c11).trans rfl)) (lv_sub hl [1] rfl)
      · skip
        refine lv_iconst (v := 1) hx hb dX0_judgeFirst_84 (by decide) ?_
        refine lv_goto (tgt := 89) hx hb dX0_judgeFirst_85 (by decide) ?_
        exact K11 _ _ (Eq.symm ((if_neg c11).trans rfl)) (lv_sub hl [1] rfl)
  · skip
    refine lv_iconst (v := 3) hx hb dX0_judgeFirst_8 (by decide) ?_
    exact E _ _ _ _ _ _ _ _ _ dX0_judgeFirst_9 rfl (pr1 ((fX0_judgeFirst.eq_1 _ _ _ _).trans ((if_pos c1).trans rfl))) (pr2 ((fX0_judgeFirst.eq_1 _ _ _ _).trans ((if_pos c1).trans rfl))) hH hS (Nat.zero_le _) (Nat.zero_le _)
theorem k_X0_judgeFirst {p : Program} {l : Launch} {e : Env} {R : Room} {s : State} {m : MethodId} {args : Array Value} {below : List Frame} {meth : Method} {c : Code} {H : Heap} {locs : List Loc} {cells slots : Nat} {Q : State → Prop} {cc : ByteArray} {pc nL : Nat} {ls : Array Slot} {rest : List Value} {G : gG} {own : String} {da : Nat → Nat} {v : vSt} {x : gX} (X : CX G p s m args c cc nL own) (hS : va_S (gA G) s.heap H locs) (hH : Hp G da v x H) {r : Nat} (hk_r : kd r = 0) {o1 : Nat} (hk_o1 : kd o1 = 2) {p1 : Int32} (ho : oX0_judgeFirst r o1 p1 v) {idx : Nat} (hml : Cond.methodLink own idx yX0_judgeFirst ∈ TT) (hls : ls.size = nL) (hsum : (rest.map fun v => v.category).sum ≤ 8) (hR : (rmX0_judgeFirst r o1 p1 v).frames + 1 ≤ R.frames ∧ 8 + (7 + 11) + (rmX0_judgeFirst r o1 p1 v).locals ≤ R.locals) (hcs : cells + (kkX0_judgeFirst r o1 p1 v) ≤ R.cells ∧ slots + (kkX0_judgeFirst r o1 p1 v) ≤ R.slots) (hdg : decode cc pc = .ok (.invokevirtual idx, 3)) (kk : ∀ (d : Nat → Nat) (H1 : Heap) (locs1 : List Loc) (v1 : vSt), v1 = (fX0_judgeFirst r o1 p1 v).2 → Hp G d v1 x H1 → va_S (gA G) s.heap H1 locs1 → W p l e R s m args below meth c H1 locs1 (cells + (kkX0_judgeFirst r o1 p1 v)) (slots + (kkX0_judgeFirst r o1 p1 v)) Q (F0 m (pc + 3) ls (.int (fX0_judgeFirst r o1 p1 v).1 :: rest))) : W p l e R s m args below meth c H locs cells slots Q (F0 m pc ls (.int p1 :: .ref (ga G o1) :: .ref (ga G r) :: rest)) := c_mi X.2.2.2.2.2.2 (runV (k := 2) X.1 X.2.1 X.2.2.1 X.2.2.2.1 X.2.2.2.2.1 (mX0_judgeFirst l G da v x r hk_r o1 hk_o1 p1 ho) pW_bl hml t_im_X0_judgeFirst t_sel_X0_judgeFirst t_ini_Bench t_code_X0_judgeFirst ⟨rfl, by decide, by decide, by decide +kernel⟩ rfl rfl hR hcs (recvW X hH (by rw [hk_r]; decide) (by rw [hk_r]; decide) (ce_0 hk_r) rfl) (preW X hS hH) rfl hls rfl hsum hdg) hS kk
def fX0_fileFirst (r : Nat) (p1 : Int32) (v : vSt) : Int32 × vSt := let v3 : vSt := fX5_putLast (r + 4) (fX5_typeOfPiece (r + 5) 0 v) ((fX5_firstDeviation (r + 5) v) - p1) 0 v; let v5 : vSt := fX5_dropFirst (r + 5) v3; ((fX5_firstDeviation (r + 5) v) - p1, v5)

def kkX0_fileFirst (r : Nat) (p1 : Int32) (v : vSt) : Nat := pot ((fX0_fileFirst r p1 v).2) - pot v
def oX0_fileFirst (r : Nat) (p1 : Int32) (v : vSt) : Prop := (oX5_putLast (r + 4) (fX5_typeOfPiece (r + 5) 0 v) ((fX5_firstDeviation (r + 5) v) - p1) 0 v) ∧ ((0 + kkX5_putLast (r + 4) (fX5_typeOfPiece (r + 5) 0 v) ((fX5_firstDeviation (r + 5) v) - p1) 0 v ≤ kkX0_fileFirst r p1 v) ∧ (∀ v3 : vSt, v3 = (fX5_putLast (r + 4) (fX5_typeOfPiece (r + 5) 0 v) ((fX5_firstDeviation (r + 5) v) - p1) 0 v) → (oX5_dropFirst (r + 5) v3)))
abbrev rmX0_fileFirst (r : Nat) (p1 : Int32) (v : vSt) : Room := { frames := 4, cells := kkX0_fileFirst r p1 v, slots := kkX0_fileFirst r p1 v, locals := 135 }
theorem dX0_fileFirst_0 : decode cX0_fileFirst 0 = .ok (.aload_n 0, 1) := by decide +kernel
theorem dX0_fileFirst_1 : decode cX0_fileFirst 1 = .ok (.getfield 24, 3) := by decide +kernel
theorem dX0_fileFirst_4 : decode cX0_fileFirst 4 = .ok (.invokevirtual 107, 3) := by decide +kernel
theorem dX0_fileFirst_7 : decode cX0_fileFirst 7 = .ok (.iload_n 1, 1) := by decide +kernel
theorem dX0_fileFirst_8 : decode cX0_fileFirst 8 = .ok (.isub, 1) := by decide +kernel
theorem dX0_fileFirst_9 : decode cX0_fileFirst 9 = .ok (.istore_n 2, 1) := by decide +kernel
theorem dX0_fileFirst_10 : decode cX0_fileFirst 10 = .ok (.aload_n 0, 1) := by decide +kernel
theorem dX0_fileFirst_11 : decode cX0_fileFirst 11 = .ok (.getfield 20, 3) := by decide +kernel
theorem dX0_fileFirst_14 : decode cX0_fileFirst 14 = .ok (.aload_n 0, 1) := by decide +kernel
theorem dX0_fileFirst_15 : decode cX0_fileFirst 15 = .ok (.getfield 24, 3) := by decide +kernel
theorem dX0_fileFirst_18 : decode cX0_fileFirst 18 = .ok (.iconst 0, 1) := by decide +kernel
theorem dX0_fileFirst_19 : decode cX0_fileFirst 19 = .ok (.invokevirtual 64, 3) := by decide +kernel
theorem dX0_fileFirst_22 : decode cX0_fileFirst 22 = .ok (.iload_n 2, 1) := by decide +kernel
theorem dX0_fileFirst_23 : decode cX0_fileFirst 23 = .ok (.iconst 0, 1) := by decide +kernel
theorem dX0_fileFirst_24 : decode cX0_fileFirst 24 = .ok (.invokevirtual 82, 3) := by decide +kernel
theorem dX0_fileFirst_27 : decode cX0_fileFirst 27 = .ok (.aload_n 0, 1) := by decide +kernel
theorem dX0_fileFirst_28 : decode cX0_fileFirst 28 = .ok (.getfield 24, 3) := by decide +kernel
theorem dX0_fileFirst_31 : decode cX0_fileFirst 31 = .ok (.invokevirtual 159, 3) := by decide +kernel
theorem dX0_fileFirst_34 : decode cX0_fileFirst 34 = .ok (.iload_n 2, 1) := by decide +kernel
theorem dX0_fileFirst_35 : decode cX0_fileFirst 35 = .ok (.ireturn, 1) := by decide +kernel
set_option maxHeartbeats 8000000 in
set_option maxRecDepth 100000 in
theorem mX0_fileFirst (l : Launch) (G : gG) (da : Nat → Nat) (v : vSt) (x : gX) (r : Nat) (hk_r : kd r = 0) (p1 : Int32) (ho : oX0_fileFirst r p1 v) : MI l yX0_fileFirst cX0_fileFirst 3 (some .int) (rmX0_fileFirst r p1 v) [.ref (ga G r), .int p1] G da v x (kkX0_fileFirst r p1 v) (kkX0_fileFirst r p1 v) (fX0_fileFirst r p1 v).1 (fX0_fileFirst r p1 v).2 x := by
  refine gofMI (own := RX0) (by decide) rfl (Nat.le_of_ble_eq_true rfl) (fun p e s m args below meth c ls Q X hH hl E => ?_)
  have hx := X.1
  have hb := X.2.1
  have hown := X.2.2.2.1
  have hts := X.2.2.2.2.1
  have hS : va_S (gA G) s.heap s.heap [] := va_S.rf
  unfold oX0_fileFirst at ho
  have hl : lv_has ls 3 [(0, .ref (ga G r)), (1, .int p1)] := hl
  refine lv_aload_n hx hb dX0_fileFirst_0 rfl (lv_at hl 0 rfl) ?_
  refine g_Bench_24 X hH hk_r dX0_fileFirst_1 ?_
  refine k_X5_firstDeviation X hS hH (Or.inr (kc_0_15 hk_r)) t_ml_Bench_107 hl.1 (Nat.le_of_ble_eq_true rfl) ⟨Nat.le_of_ble_eq_true rfl, Nat.le_of_ble_eq_true rfl⟩ ⟨Nat.zero_le _, Nat.zero_le _⟩ dX0_fileFirst_4 ?_
  refine lv_iload_n hx hb dX0_fileFirst_7 rfl (lv_at hl 1 rfl) ?_
  refine lv_isub hx hb dX0_fileFirst_8 ?_
  refine lv_istore_n (lv' := [(2, .int ((fX5_firstDeviation (r + 5) v) - p1)), (0, .ref (ga G r)), (1, .int p1)]) hx hb dX0_fileFirst_9 rfl hl (by decide) rfl (fun ls hl => ?_)
  refine lv_aload_n hx hb dX0_fileFirst_10 rfl (lv_at hl 1 rfl) ?_
  refine g_Bench_20 X hH hk_r dX0_fileFirst_11 ?_
  refine lv_aload_n hx hb dX0_fileFirst_14 rfl (lv_at hl 1 rfl) ?_
  refine g_Bench_24 X hH hk_r dX0_fileFirst_15 ?_
  refine lv_iconst (v := 0) hx hb dX0_fileFirst_18 (by decide) ?_
  refine k_X5_typeOfPiece X hS hH (Or.inr (kc_0_15 hk_r)) t_ml_Bench_64 hl.1 (Nat.le_of_ble_eq_true rfl) ⟨Nat.le_of_ble_eq_true rfl, Nat.le_of_ble_eq_true rfl⟩ ⟨Nat.zero_le _, Nat.zero_le _⟩ dX0_fileFirst_19 ?_
  refine lv_iload_n hx hb dX0_fileFirst_22 rfl (lv_at hl 0 rfl) ?_
  refine lv_iconst (v := 0) hx hb dX0_fileFirst_23 (by decide) ?_
  have hq1 := ho.1
  have ho := ho.2
  have hq2 := ho.1
  have ho := ho.2
  refine k_X5_putLast X hS hH (Or.inl (kc_0_5 hk_r)) hq1 t_ml_Bench_82 hl.1 (Nat.le_of_ble_eq_true rfl) ⟨Nat.le_of_ble_eq_true rfl, Nat.le_of_ble_eq_true rfl⟩ ⟨hq2, hq2⟩ dX0_fileFirst_24 (fun da H locs v3 ev3 hH hS => ?_)
  have ho := ho v3 ev3
  refine lv_aload_n hx hb dX0_fileFirst_27 rfl (lv_at hl 1 rfl) ?_
  refine g_Bench_24 X hH hk_r dX0_fileFirst_28 ?_
  have hq4 := ho
  refine k_X5_dropFirst X hS hH (Or.inr (kc_0_15 hk_r)) hq4 t_ml_Bench_159 hl.1 (Nat.le_of_ble_eq_true rfl) ⟨Nat.le_of_ble_eq_true rfl, Nat.le_of_ble_eq_true rfl⟩ ⟨hq2, hq2⟩ dX0_fileFirst_31 (fun da H locs v5 ev5 hH hS => ?_)
  refine lv_iload_n hx hb dX0_fileFirst_34 rfl (lv_at hl 0 rfl) ?_
  replace ev3 := Eq.symm ev3
  replace ev5 := Eq.symm ev5
  subst ev3 ev5
  exact E _ _ _ _ _ _ _ _ _ dX0_fileFirst_35 rfl (pr1 rfl) (pr2 rfl) hH hS hq2 hq2
theorem k_X0_fileFirst {p : Program} {l : Launch} {e : Env} {R : Room} {s : State} {m : MethodId} {args : Array Value} {below : List Frame} {meth : Method} {c : Code} {H : Heap} {locs : List Loc} {cells slots : Nat} {Q : State → Prop} {cc : ByteArray} {pc nL : Nat} {ls : Array Slot} {rest : List Value} {G : gG} {own : String} {da : Nat → Nat} {v : vSt} {x : gX} (X : CX G p s m args c cc nL own) (hS : va_S (gA G) s.heap H locs) (hH : Hp G da v x H) {r : Nat} (hk_r : kd r = 0) {p1 : Int32} (ho : oX0_fileFirst r p1 v) {idx : Nat} (hml : Cond.methodLink own idx yX0_fileFirst ∈ TT) (hls : ls.size = nL) (hsum : (rest.map fun v => v.category).sum ≤ 8) (hR : (rmX0_fileFirst r p1 v).frames + 1 ≤ R.frames ∧ 8 + (3 + 11) + (rmX0_fileFirst r p1 v).locals ≤ R.locals) (hcs : cells + (kkX0_fileFirst r p1 v) ≤ R.cells ∧ slots + (kkX0_fileFirst r p1 v) ≤ R.slots) (hdg : decode cc pc = .ok (.invokevirtual idx, 3)) (kk : ∀ (d : Nat → Nat) (H1 : Heap) (locs1 : List Loc) (v1 : vSt), v1 = (fX0_fileFirst r p1 v).2 → Hp G d v1 x H1 → va_S (gA G) s.heap H1 locs1 → W p l e R s m args below meth c H1 locs1 (cells + (kkX0_fileFirst r p1 v)) (slots + (kkX0_fileFirst r p1 v)) Q (F0 m (pc + 3) ls (.int (fX0_fileFirst r p1 v).1 :: rest))) : W p l e R s m args below meth c H locs cells slots Q (F0 m pc ls (.int p1 :: .ref (ga G r) :: rest)) := c_mi X.2.2.2.2.2.2 (runV (k := 1) X.1 X.2.1 X.2.2.1 X.2.2.2.1 X.2.2.2.2.1 (mX0_fileFirst l G da v x r hk_r p1 ho) pW_bl hml t_im_X0_fileFirst t_sel_X0_fileFirst t_ini_Bench t_code_X0_fileFirst ⟨rfl, by decide, by decide, by decide +kernel⟩ rfl rfl hR hcs (recvW X hH (by rw [hk_r]; decide) (by rw [hk_r]; decide) (ce_0 hk_r) rfl) (preW X hS hH) rfl hls rfl hsum hdg) hS kk
def fX0_passFirst (r : Nat) (v : vSt) : Int32 × vSt := let v1 : vSt := u2 v (fX0_typeOfFirst r (r + 4) v) 5 1; let v3 : vSt := fX5_dropFirst (r + 4) v1; let v4 : vSt := u2 v3 r 8 ((v3 r 8) + 1); (fX5_typeOfPiece (r + 4) 0 v, v4)
def oX0_passFirst (r : Nat) (v : vSt) : Prop := ∀ v1 : vSt, v1 = (u2 v (fX0_typeOfFirst r (r + 4) v) 5 1) → (oX5_dropFirst (r + 4) v1)
abbrev rmX0_passFirst : Room := { frames := 3, cells := 0, slots := 0, locals := 64 }
theorem dX0_passFirst_0 : decode cX0_passFirst 0 = .ok (.aload_n 0, 1) := by decide +kernel
theorem dX0_passFirst_1 : decode cX0_passFirst 1 = .ok (.getfield 20, 3) := by decide +kernel
theorem dX0_passFirst_4 : decode cX0_passFirst 4 = .ok (.iconst 0, 1) := by decide +kernel
theorem dX0_passFirst_5 : decode cX0_passFirst 5 = .ok (.invokevirtual 64, 3) := by decide +kernel
theorem dX0_passFirst_8 : decode cX0_passFirst 8 = .ok (.istore_n 1, 1) := by decide +kernel
theorem dX0_passFirst_9 : decode cX0_passFirst 9 = .ok (.aload_n 0, 1) := by decide +kernel
theorem dX0_passFirst_10 : decode cX0_passFirst 10 = .ok (.aload_n 0, 1) := by decide +kernel
theorem dX0_passFirst_11 : decode cX0_passFirst 11 = .ok (.getfield 20, 3) := by decide +kernel
theorem dX0_passFirst_14 : decode cX0_passFirst 14 = .ok (.invokevirtual 96, 3) := by decide +kernel
theorem dX0_passFirst_17 : decode cX0_passFirst 17 = .ok (.iconst 1, 1) := by decide +kernel
theorem dX0_passFirst_18 : decode cX0_passFirst 18 = .ok (.putfield 165, 3) := by decide +kernel
theorem dX0_passFirst_21 : decode cX0_passFirst 21 = .ok (.aload_n 0, 1) := by decide +kernel
theorem dX0_passFirst_22 : decode cX0_passFirst 22 = .ok (.getfield 20, 3) := by decide +kernel
theorem dX0_passFirst_25 : decode cX0_passFirst 25 = .ok (.invokevirtual 159, 3) := by decide +kernel
theorem dX0_passFirst_28 : decode cX0_passFirst 28 = .ok (.aload_n 0, 1) := by decide +kernel
theorem dX0_passFirst_29 : decode cX0_passFirst 29 = .ok (.dup, 1) := by decide +kernel
theorem dX0_passFirst_30 : decode cX0_passFirst 30 = .ok (.getfield 51, 3) := by decide +kernel
theorem dX0_passFirst_33 : decode cX0_passFirst 33 = .ok (.iconst 1, 1) := by decide +kernel
theorem dX0_passFirst_34 : decode cX0_passFirst 34 = .ok (.iadd, 1) := by decide +kernel
theorem dX0_passFirst_35 : decode cX0_passFirst 35 = .ok (.putfield 51, 3) := by decide +kernel
theorem dX0_passFirst_38 : decode cX0_passFirst 38 = .ok (.iload_n 1, 1) := by decide +kernel
theorem dX0_passFirst_39 : decode cX0_passFirst 39 = .ok (.ireturn, 1) := by decide +kernel
set_option maxHeartbeats 8000000 in
set_option maxRecDepth 100000 in
theorem mX0_passFirst (l : Launch) (G : gG) (da : Nat → Nat) (v : vSt) (x : gX) (r : Nat) (hk_r : kd r = 0) (ho : oX0_passFirst r v) : MI l yX0_passFirst cX0_passFirst 2 (some .int) rmX0_passFirst [.ref (ga G r)] G da v x 0 0 (fX0_passFirst r v).1 (fX0_passFirst r v).2 x := by
  refine gofMI (own := RX0) (by decide) rfl (Nat.le_of_ble_eq_true rfl) (fun p e s m args below meth c ls Q X hH hl E => ?_)
  have hx := X.1
  have hb := X.2.1
  have hown := X.2.2.2.1
  have hts := X.2.2.2.2.1
  have hS : va_S (gA G) s.heap s.heap [] := va_S.rf
  unfold oX0_passFirst at ho
  have hl : lv_has ls 2 [(0, .ref (ga G r))] := hl
  refine lv_aload_n hx hb dX0_passFirst_0 rfl (lv_at hl 0 rfl) ?_
  refine g_Bench_20 X hH hk_r dX0_passFirst_1 ?_
  refine lv_iconst (v := 0) hx hb dX0_passFirst_4 (by decide) ?_
  refine k_X5_typeOfPiece X hS hH (Or.inl (kc_0_5 hk_r)) t_ml_Bench_64 hl.1 (Nat.le_of_ble_eq_true rfl) ⟨Nat.le_of_ble_eq_true rfl, Nat.le_of_ble_eq_true rfl⟩ ⟨Nat.zero_le _, Nat.zero_le _⟩ dX0_passFirst_5 ?_
  refine lv_istore_n (lv' := [(1, .int (fX5_typeOfPiece (r + 4) 0 v)), (0, .ref (ga G r))]) hx hb dX0_passFirst_8 rfl hl (by decide) rfl (fun ls hl => ?_)
  refine lv_aload_n hx hb dX0_passFirst_9 rfl (lv_at hl 1 rfl) ?_
  refine lv_aload_n hx hb dX0_passFirst_10 rfl (lv_at hl 1 rfl) ?_
  refine g_Bench_20 X hH hk_r dX0_passFirst_11 ?_
  refine k_X0_typeOfFirst X hS hH hk_r (Or.inl (kc_0_5 hk_r)) t_ml_Bench_96 hl.1 (Nat.le_of_ble_eq_true rfl) ⟨Nat.le_of_ble_eq_true rfl, Nat.le_of_ble_eq_true rfl⟩ ⟨Nat.zero_le _, Nat.zero_le _⟩ dX0_passFirst_14 ?_
  refine lv_iconst (v := 1) hx hb dX0_passFirst_17 (by decide) ?_
  refine p_Bench_165 X hH hS (kd_typeOfFirst hk_r) rfl rfl dX0_passFirst_18 (fun H locs v1 ev1 hH hS => ?_)
  have ho := ho v1 ev1
  refine lv_aload_n hx hb dX0_passFirst_21 rfl (lv_at hl 1 rfl) ?_
  refine g_Bench_20 X hH hk_r dX0_passFirst_22 ?_
  have hq2 := ho
  refine k_X5_dropFirst X hS hH (Or.inl (kc_0_5 hk_r)) hq2 t_ml_Bench_159 hl.1 (Nat.le_of_ble_eq_true rfl) ⟨Nat.le_of_ble_eq_true rfl, Nat.le_of_ble_eq_true rfl⟩ ⟨Nat.zero_le _, Nat.zero_le _⟩ dX0_passFirst_25 (fun da H locs v3 ev3 hH hS => ?_)
  refine lv_aload_n hx hb dX0_passFirst_28 rfl (lv_at hl 1 rfl) ?_
  refine lv_dup hx hb dX0_passFirst_29 rfl ?_
  refine g_Bench_51 X hH hk_r dX0_passFirst_30 ?_
  refine lv_iconst (v := 1) hx hb dX0_passFirst_33 (by decide) ?_
  refine lv_iadd hx hb dX0_passFirst_34 ?_
  refine p_Bench_51 X hH hS hk_r dX0_passFirst_35 (fun H locs v4 ev4 hH hS => ?_)
  refine lv_iload_n hx hb dX0_passFirst_38 rfl (lv_at hl 0 rfl) ?_
  replace ev1 := Eq.symm ev1
  replace ev3 := Eq.symm ev3
  replace ev4 := Eq.symm ev4
  subst ev1 ev3 ev4
  exact E _ _ _ _ _ _ _ _ _ dX0_passFirst_39 rfl (pr1 rfl) (pr2 rfl) hH hS (Nat.zero_le _) (Nat.zero_le _)
theorem k_X0_passFirst {p : Program} {l : Launch} {e : Env} {R : Room} {s : State} {m : MethodId} {args : Array Value} {below : List Frame} {meth : Method} {c : Code} {H : Heap} {locs : List Loc} {cells slots : Nat} {Q : State → Prop} {cc : ByteArray} {pc nL : Nat} {ls : Array Slot} {rest : List Value} {G : gG} {own : String} {da : Nat → Nat} {v : vSt} {x : gX} (X : CX G p s m args c cc nL own) (hS : va_S (gA G) s.heap H locs) (hH : Hp G da v x H) {r : Nat} (hk_r : kd r = 0) (ho : oX0_passFirst r v) {idx : Nat} (hml : Cond.methodLink own idx yX0_passFirst ∈ TT) (hls : ls.size = nL) (hsum : (rest.map fun v => v.category).sum ≤ 8) (hR : rmX0_passFirst.frames + 1 ≤ R.frames ∧ 8 + (2 + 11) + rmX0_passFirst.locals ≤ R.locals) (hcs : cells ≤ R.cells ∧ slots ≤ R.slots) (hdg : decode cc pc = .ok (.invokevirtual idx, 3)) (kk : ∀ (d : Nat → Nat) (H1 : Heap) (locs1 : List Loc) (v1 : vSt), v1 = (fX0_passFirst r v).2 → Hp G d v1 x H1 → va_S (gA G) s.heap H1 locs1 → W p l e R s m args below meth c H1 locs1 cells slots Q (F0 m (pc + 3) ls (.int (fX0_passFirst r v).1 :: rest))) : W p l e R s m args below meth c H locs cells slots Q (F0 m pc ls (.ref (ga G r) :: rest)) := c_mi X.2.2.2.2.2.2 (runV (k := 0) X.1 X.2.1 X.2.2.1 X.2.2.2.1 X.2.2.2.2.1 (mX0_passFirst l G da v x r hk_r ho) pW_bl hml t_im_X0_passFirst t_sel_X0_passFirst t_ini_Bench t_code_X0_passFirst ⟨rfl, by decide, by decide, by decide +kernel⟩ rfl rfl hR hcs (recvW X hH (by rw [hk_r]; decide) (by rw [hk_r]; decide) (ce_0 hk_r) rfl) (preW X hS hH) rfl hls rfl hsum hdg) hS kk
def lX0_copyFrom_18 (r : Nat) (o1 : Nat) : Nat → Int32 → vSt → vSt
  | 0, i2, v3 => v3
  | n + 1, i2, v3 => if ((v3 r 1) : Int32) ≤ i2 then v3 else (if (5 : Int32) ≤ i2 then v3 else (let v8 : vSt := fX4_copyFrom ((r + 3) + 31 + (i2 : Int32).toNatClampNeg) ((o1 + 3) + 31 + (i2 : Int32).toNatClampNeg) v3; lX0_copyFrom_18 r o1 n (i2 + 1) v8))
def fX0_copyFrom (r : Nat) (o1 : Nat) (v : vSt) : vSt := let v1 : vSt := u2 v r 1 (v o1 1); let v4 : vSt := (lX0_copyFrom_18 r o1 ((Int32.toInt ((v1 r 1)) - Int32.toInt 0).toNat + 1) 0 v1); let v11 : vSt := fX5_copyFrom (r + 4) (o1 + 4) v4; let v14 : vSt := fX5_copyFrom (r + 5) (o1 + 5) v11; let v15 : vSt := u2 v14 r 4 (v14 o1 4); let v16 : vSt := u2 v15 r 5 (v15 o1 5); let v17 : vSt := u2 v16 r 6 (v16 o1 6); let v18 : vSt := u2 v17 r 7 (v17 o1 7); let v19 : vSt := u2 v18 r 8 (v18 o1 8); let v20 : vSt := u2 v19 r 9 (v19 o1 9); let v21 : vSt := u2 v20 r 10 (v20 o1 10); v21

def kkX0_copyFrom (r : Nat) (o1 : Nat) (v : vSt) : Nat := pot (fX0_copyFrom r o1 v) - pot v
def olX0_copyFrom_18 (r : Nat) (o1 : Nat) : Nat → Int32 → vSt → Prop
  | 0, _, _ => False
  | n + 1, i2, v3 => ¬ (((v3 r 1) : Int32) ≤ i2) → (¬ ((5 : Int32) ≤ i2) → ((vp_in (i2) 5) ∧ ((oX4_copyFrom ((r + 3) + 31 + (i2 : Int32).toNatClampNeg) ((o1 + 3) + 31 + (i2 : Int32).toNatClampNeg) v3) ∧ (∀ v8 : vSt, v8 = (fX4_copyFrom ((r + 3) + 31 + (i2 : Int32).toNatClampNeg) ((o1 + 3) + 31 + (i2 : Int32).toNatClampNeg) v3) → (olX0_copyFrom_18 r o1 n (i2 + 1) v8)))))
def oX0_copyFrom (r : Nat) (o1 : Nat) (v : vSt) : Prop := ∀ v1 : vSt, v1 = (u2 v r 1 (v o1 1)) → (olX0_copyFrom_18 r o1 ((Int32.toInt ((v1 r 1)) - Int32.toInt 0).toNat + 1) 0 v1 ∧ (∀ (v4 : vSt), v4 = ((lX0_copyFrom_18 r o1 ((Int32.toInt ((v1 r 1)) - Int32.toInt 0).toNat + 1) 0 v1) : vSt) → ((oX5_copyFrom (r + 4) (o1 + 4) v4) ∧ ((0 + kkX5_copyFrom (r + 4) (o1 + 4) v4 ≤ kkX0_copyFrom r o1 v) ∧ (∀ v11 : vSt, v11 = (fX5_copyFrom (r + 4) (o1 + 4) v4) → ((oX5_copyFrom (r + 5) (o1 + 5) v11) ∧ ((0 + kkX5_copyFrom (r + 4) (o1 + 4) v4) + kkX5_copyFrom (r + 5) (o1 + 5) v11 ≤ kkX0_copyFrom r o1 v)))))))
abbrev rmX0_copyFrom (r : Nat) (o1 : Nat) (v : vSt) : Room := { frames := 4, cells := kkX0_copyFrom r o1 v, slots := kkX0_copyFrom r o1 v, locals := 133 }
theorem dX0_copyFrom_0 : decode cX0_copyFrom 0 = .ok (.aload_n 0, 1) := by decide +kernel
theorem dX0_copyFrom_1 : decode cX0_copyFrom 1 = .ok (.aload_n 1, 1) := by decide +kernel
theorem dX0_copyFrom_2 : decode cX0_copyFrom 2 = .ok (.getfield 32, 3) := by decide +kernel
theorem dX0_copyFrom_5 : decode cX0_copyFrom 5 = .ok (.putfield 32, 3) := by decide +kernel
theorem dX0_copyFrom_8 : decode cX0_copyFrom 8 = .ok (.iconst 0, 1) := by decide +kernel
theorem dX0_copyFrom_9 : decode cX0_copyFrom 9 = .ok (.istore_n 2, 1) := by decide +kernel
theorem dX0_copyFrom_10 : decode cX0_copyFrom 10 = .ok (.iload_n 2, 1) := by decide +kernel
theorem dX0_copyFrom_11 : decode cX0_copyFrom 11 = .ok (.aload_n 0, 1) := by decide +kernel
theorem dX0_copyFrom_12 : decode cX0_copyFrom 12 = .ok (.getfield 32, 3) := by decide +kernel
theorem dX0_copyFrom_15 : decode cX0_copyFrom 15 = .ok (.if_icmp .ge 33, 3) := by decide +kernel
theorem dX0_copyFrom_18 : decode cX0_copyFrom 18 = .ok (.iload_n 2, 1) := by decide +kernel
theorem dX0_copyFrom_19 : decode cX0_copyFrom 19 = .ok (.aload_n 0, 1) := by decide +kernel
theorem dX0_copyFrom_20 : decode cX0_copyFrom 20 = .ok (.getfield 11, 3) := by decide +kernel
theorem dX0_copyFrom_23 : decode cX0_copyFrom 23 = .ok (.arraylength, 1) := by decide +kernel
theorem dX0_copyFrom_24 : decode cX0_copyFrom 24 = .ok (.if_icmp .ge 24, 3) := by decide +kernel
theorem dX0_copyFrom_27 : decode cX0_copyFrom 27 = .ok (.aload_n 0, 1) := by decide +kernel
theorem dX0_copyFrom_28 : decode cX0_copyFrom 28 = .ok (.getfield 11, 3) := by decide +kernel
theorem dX0_copyFrom_31 : decode cX0_copyFrom 31 = .ok (.iload_n 2, 1) := by decide +kernel
theorem dX0_copyFrom_32 : decode cX0_copyFrom 32 = .ok (.aaload, 1) := by decide +kernel
theorem dX0_copyFrom_33 : decode cX0_copyFrom 33 = .ok (.aload_n 1, 1) := by decide +kernel
theorem dX0_copyFrom_34 : decode cX0_copyFrom 34 = .ok (.getfield 11, 3) := by decide +kernel
theorem dX0_copyFrom_37 : decode cX0_copyFrom 37 = .ok (.iload_n 2, 1) := by decide +kernel
theorem dX0_copyFrom_38 : decode cX0_copyFrom 38 = .ok (.aaload, 1) := by decide +kernel
theorem dX0_copyFrom_39 : decode cX0_copyFrom 39 = .ok (.invokevirtual 35, 3) := by decide +kernel
theorem dX0_copyFrom_42 : decode cX0_copyFrom 42 = .ok (.iinc 2 1, 3) := by decide +kernel
theorem dX0_copyFrom_45 : decode cX0_copyFrom 45 = .ok (.goto (-35), 3) := by decide +kernel
theorem dX0_copyFrom_48 : decode cX0_copyFrom 48 = .ok (.aload_n 0, 1) := by decide +kernel
theorem dX0_copyFrom_49 : decode cX0_copyFrom 49 = .ok (.getfield 20, 3) := by decide +kernel
theorem dX0_copyFrom_52 : decode cX0_copyFrom 52 = .ok (.aload_n 1, 1) := by decide +kernel
theorem dX0_copyFrom_53 : decode cX0_copyFrom 53 = .ok (.getfield 20, 3) := by decide +kernel
theorem dX0_copyFrom_56 : decode cX0_copyFrom 56 = .ok (.invokevirtual 39, 3) := by decide +kernel
theorem dX0_copyFrom_59 : decode cX0_copyFrom 59 = .ok (.aload_n 0, 1) := by decide +kernel
theorem dX0_copyFrom_60 : decode cX0_copyFrom 60 = .ok (.getfield 24, 3) := by decide +kernel
theorem dX0_copyFrom_63 : decode cX0_copyFrom 63 = .ok (.aload_n 1, 1) := by decide +kernel
theorem dX0_copyFrom_64 : decode cX0_copyFrom 64 = .ok (.getfield 24, 3) := by decide +kernel
theorem dX0_copyFrom_67 : decode cX0_copyFrom 67 = .ok (.invokevirtual 39, 3) := by decide +kernel
theorem dX0_copyFrom_70 : decode cX0_copyFrom 70 = .ok (.aload_n 0, 1) := by decide +kernel
theorem dX0_copyFrom_71 : decode cX0_copyFrom 71 = .ok (.aload_n 1, 1) := by decide +kernel
theorem dX0_copyFrom_72 : decode cX0_copyFrom 72 = .ok (.getfield 27, 3) := by decide +kernel
theorem dX0_copyFrom_75 : decode cX0_copyFrom 75 = .ok (.putfield 27, 3) := by decide +kernel
theorem dX0_copyFrom_78 : decode cX0_copyFrom 78 = .ok (.aload_n 0, 1) := by decide +kernel
theorem dX0_copyFrom_79 : decode cX0_copyFrom 79 = .ok (.aload_n 1, 1) := by decide +kernel
theorem dX0_copyFrom_80 : decode cX0_copyFrom 80 = .ok (.getfield 42, 3) := by decide +kernel
theorem dX0_copyFrom_83 : decode cX0_copyFrom 83 = .ok (.putfield 42, 3) := by decide +kernel
theorem dX0_copyFrom_86 : decode cX0_copyFrom 86 = .ok (.aload_n 0, 1) := by decide +kernel
theorem dX0_copyFrom_87 : decode cX0_copyFrom 87 = .ok (.aload_n 1, 1) := by decide +kernel
theorem dX0_copyFrom_88 : decode cX0_copyFrom 88 = .ok (.getfield 45, 3) := by decide +kernel
theorem dX0_copyFrom_91 : decode cX0_copyFrom 91 = .ok (.putfield 45, 3) := by decide +kernel
theorem dX0_copyFrom_94 : decode cX0_copyFrom 94 = .ok (.aload_n 0, 1) := by decide +kernel
theorem dX0_copyFrom_95 : decode cX0_copyFrom 95 = .ok (.aload_n 1, 1) := by decide +kernel
theorem dX0_copyFrom_96 : decode cX0_copyFrom 96 = .ok (.getfield 48, 3) := by decide +kernel
theorem dX0_copyFrom_99 : decode cX0_copyFrom 99 = .ok (.putfield 48, 3) := by decide +kernel
theorem dX0_copyFrom_102 : decode cX0_copyFrom 102 = .ok (.aload_n 0, 1) := by decide +kernel
theorem dX0_copyFrom_103 : decode cX0_copyFrom 103 = .ok (.aload_n 1, 1) := by decide +kernel
theorem dX0_copyFrom_104 : decode cX0_copyFrom 104 = .ok (.getfield 51, 3) := by decide +kernel
theorem dX0_copyFrom_107 : decode cX0_copyFrom 107 = .ok (.putfield 51, 3) := by decide +kernel
theorem dX0_copyFrom_110 : decode cX0_copyFrom 110 = .ok (.aload_n 0, 1) := by decide +kernel
theorem dX0_copyFrom_111 : decode cX0_copyFrom 111 = .ok (.aload_n 1, 1) := by decide +kernel
theorem dX0_copyFrom_112 : decode cX0_copyFrom 112 = .ok (.getfield 54, 3) := by decide +kernel
theorem dX0_copyFrom_115 : decode cX0_copyFrom 115 = .ok (.putfield 54, 3) := by decide +kernel
theorem dX0_copyFrom_118 : decode cX0_copyFrom 118 = .ok (.aload_n 0, 1) := by decide +kernel
theorem dX0_copyFrom_119 : decode cX0_copyFrom 119 = .ok (.aload_n 1, 1) := by decide +kernel
theorem dX0_copyFrom_120 : decode cX0_copyFrom 120 = .ok (.getfield 57, 3) := by decide +kernel
theorem dX0_copyFrom_123 : decode cX0_copyFrom 123 = .ok (.putfield 57, 3) := by decide +kernel
theorem dX0_copyFrom_126 : decode cX0_copyFrom 126 = .ok (.return_, 1) := by decide +kernel
set_option maxHeartbeats 8000000 in
set_option maxRecDepth 100000 in
theorem mX0_copyFrom (l : Launch) (G : gG) (da : Nat → Nat) (v : vSt) (x : gX) (r : Nat) (hk_r : kd r = 0) (o1 : Nat) (hk_o1 : kd o1 = 0) (ho : oX0_copyFrom r o1 v) : MV l yX0_copyFrom cX0_copyFrom 3 none (rmX0_copyFrom r o1 v) [.ref (ga G r), .ref (ga G o1)] G da v x (kkX0_copyFrom r o1 v) (kkX0_copyFrom r o1 v) (fX0_copyFrom r o1 v) x := by
  refine gofMV (own := RX0) (by decide) rfl (Nat.le_of_ble_eq_true rfl) (fun p e s m args below meth c ls Q X hH hl E => ?_)
  have hx := X.1
  have hb := X.2.1
  have hown := X.2.2.2.1
  have hts := X.2.2.2.2.1
  have hS : va_S (gA G) s.heap s.heap [] := va_S.rf
  unfold oX0_copyFrom at ho
  have hl : lv_has ls 3 [(0, .ref (ga G r)), (1, .ref (ga G o1))] := hl
  refine lv_aload_n hx hb dX0_copyFrom_0 rfl (lv_at hl 0 rfl) ?_
  refine lv_aload_n hx hb dX0_copyFrom_1 rfl (lv_at hl 1 rfl) ?_
  refine g_Bench_32 X hH hk_o1 dX0_copyFrom_2 ?_
  refine p_Bench_32 X hH hS hk_r dX0_copyFrom_5 (fun H locs v1 ev1 hH hS => ?_)
  have ho := ho v1 ev1
  refine lv_iconst (v := 0) hx hb dX0_copyFrom_8 (by decide) ?_
  refine lv_istore_n (lv' := [(2, .int 0), (0, .ref (ga G r)), (1, .ref (ga G o1))]) hx hb dX0_copyFrom_9 rfl hl (by decide) rfl (fun ls hl => ?_)
  have L5 : ∀ (n : Nat) (i2 : Int32) (v3 : vSt) (da : Nat → Nat) (H : Heap) (locs : List Loc) (ls : Array Slot), olX0_copyFrom_18 r o1 n i2 v3 → Hp G da v3 x H → va_S (gA G) s.heap H locs → lv_has ls 3 [(2, .int i2), (0, .ref (ga G r)), (1, .ref (ga G o1))] → (∀ (v4 : vSt) (da : Nat → Nat) (H : Heap) (locs : List Loc) (ls : Array Slot), v4 = (lX0_copyFrom_18 r o1 n i2 v3 : vSt) → Hp G da v4 x H → va_S (gA G) s.heap H locs → lv_has ls 3 [(0, .ref (ga G r)), (1, .ref (ga G o1))] → W p l e (rmX0_copyFrom r o1 v) s m args below meth c H locs 0 0 Q (F0 m 48 ls [])) → W p l e (rmX0_copyFrom r o1 v) s m args below meth c H locs 0 0 Q (F0 m 10 ls []) := by
    clear ho
    intro n
    induction n with
    | zero =>
      intro i2 v3 da H locs ls ho
      exact ho.elim
    | succ n ih =>
      intro i2 v3 da H locs ls ho hH hS hl K6
      refine lv_iload_n hx hb dX0_copyFrom_10 rfl (lv_at hl 0 rfl) ?_
      refine lv_aload_n hx hb dX0_copyFrom_11 rfl (lv_at hl 1 rfl) ?_
      refine g_Bench_32 X hH hk_r dX0_copyFrom_12 ?_
      refine lv_icmp_ge (tgt := 48) hx hb dX0_copyFrom_15 (by decide) (fun c4 => ?_) (fun c4 => ?_)
      · skip
        exact K6 _ _ _ _ _ (Eq.symm (((lX0_copyFrom_18.eq_2 _ _ _ _ _)).trans ((if_pos c4).trans rfl))) hH hS (lv_sub hl [1, 2] rfl)
      · have ho := ho c4
        refine lv_iload_n hx hb dX0_copyFrom_18 rfl (lv_at hl 0 rfl) ?_
        refine lv_aload_n hx hb dX0_copyFrom_19 rfl (lv_at hl 1 rfl) ?_
        refine g_Bench_11 X hH hk_r dX0_copyFrom_20 ?_
        refine len_22 X hH (kc_0_22 hk_r) dX0_copyFrom_23 ?_
        refine lv_icmp_ge (tgt := 48) hx hb dX0_copyFrom_24 (by decide) (fun c5 => ?_) (fun c5 => ?_)
        · skip
          exact K6 _ _ _ _ _ (Eq.symm (((lX0_copyFrom_18.eq_2 _ _ _ _ _)).trans ((if_neg c4).trans ((if_pos c5).trans rfl)))) hH hS (lv_sub hl [1, 2] rfl)
        · have ho := ho c5
          refine lv_aload_n hx hb dX0_copyFrom_27 rfl (lv_at hl 1 rfl) ?_
          refine g_Bench_11 X hH hk_r dX0_copyFrom_28 ?_
          refine lv_iload_n hx hb dX0_copyFrom_31 rfl (lv_at hl 0 rfl) ?_
          have hq6 := ho.1
          have ho := ho.2
          refine qld_22 X hH (kc_0_22 hk_r) hq6 dX0_copyFrom_32 ?_
          refine lv_aload_n hx hb dX0_copyFrom_33 rfl (lv_at hl 2 rfl) ?_
          refine g_Bench_11 X hH hk_o1 dX0_copyFrom_34 ?_
          refine lv_iload_n hx hb dX0_copyFrom_37 rfl (lv_at hl 0 rfl) ?_
          refine qld_22 X hH (kc_0_22 hk_o1) hq6 dX0_copyFrom_38 ?_
          have hq7 := ho.1
          have ho := ho.2
          refine k_X4_copyFrom X hS hH (ki_22 (kc_0_22 hk_r) (vp_lt hq6)) (ki_22 (kc_0_22 hk_o1) (vp_lt hq6)) hq7 t_ml_Bench_35 hl.1 (Nat.le_of_ble_eq_true rfl) ⟨Nat.le_of_ble_eq_true rfl, Nat.le_of_ble_eq_true rfl⟩ ⟨Nat.zero_le _, Nat.zero_le _⟩ dX0_copyFrom_39 (fun da H locs v8 ev8 hH hS => ?_)
          have ho := ho v8 ev8
          refine lv_iinc (v := i2 + 1) (lv' := [(2, .int (i2 + 1)), (0, .ref (ga G r)), (1, .ref (ga G o1))]) hx hb dX0_copyFrom_42 hl (k := 0) rfl rfl (by decide) rfl (fun ls hl => ?_)
          refine lv_goto (tgt := 10) hx hb dX0_copyFrom_45 (by decide) ?_
          replace ev8 := Eq.symm ev8
          subst ev8
          exact ih _ _ _ _ _ _ ho hH hS (lv_sub hl [0, 1, 2] rfl) (fun v4 da H locs ls q0 hH hS hl => K6 v4 da H locs ls (q0.trans (congrArg (fun z : vSt => z) (Eq.symm (((lX0_copyFrom_18.eq_2 _ _ _ _ _)).trans ((if_neg c4).trans ((if_neg c5).trans rfl)))))) hH hS hl)
  have hol := ho.1
  refine L5 ((Int32.toInt ((v1 r 1)) - Int32.toInt 0).toNat + 1) 0 v1 _ _ _ _ hol hH hS (lv_sub hl [0, 1, 2] rfl) (fun v4 da H locs ls ev4 hH hS hl => ?_)
  have ho := ho.2 v4 ev4
  refine lv_aload_n hx hb dX0_copyFrom_48 rfl (lv_at hl 0 rfl) ?_
  refine g_Bench_20 X hH hk_r dX0_copyFrom_49 ?_
  refine lv_aload_n hx hb dX0_copyFrom_52 rfl (lv_at hl 1 rfl) ?_
  refine g_Bench_20 X hH hk_o1 dX0_copyFrom_53 ?_
  have hq9 := ho.1
  have ho := ho.2
  have hq10 := ho.1
  have ho := ho.2
  refine k_X5_copyFrom X hS hH (Or.inl (kc_0_5 hk_r)) (Or.inl (kc_0_5 hk_o1)) hq9 t_ml_Bench_39 hl.1 (Nat.le_of_ble_eq_true rfl) ⟨Nat.le_of_ble_eq_true rfl, Nat.le_of_ble_eq_true rfl⟩ ⟨hq10, hq10⟩ dX0_copyFrom_56 (fun da H locs v11 ev11 hH hS => ?_)
  have ho := ho v11 ev11
  refine lv_aload_n hx hb dX0_copyFrom_59 rfl (lv_at hl 0 rfl) ?_
  refine g_Bench_24 X hH hk_r dX0_copyFrom_60 ?_
  refine lv_aload_n hx hb dX0_copyFrom_63 rfl (lv_at hl 1 rfl) ?_
  refine g_Bench_24 X hH hk_o1 dX0_copyFrom_64 ?_
  have hq12 := ho.1
  have ho := ho.2
  have hq13 := ho
  refine k_X5_copyFrom X hS hH (Or.inr (kc_0_15 hk_r)) (Or.inr (kc_0_15 hk_o1)) hq12 t_ml_Bench_39 hl.1 (Nat.le_of_ble_eq_true rfl) ⟨Nat.le_of_ble_eq_true rfl, Nat.le_of_ble_eq_true rfl⟩ ⟨hq13, hq13⟩ dX0_copyFrom_67 (fun da H locs v14 ev14 hH hS => ?_)
  refine lv_aload_n hx hb dX0_copyFrom_70 rfl (lv_at hl 0 rfl) ?_
  refine lv_aload_n hx hb dX0_copyFrom_71 rfl (lv_at hl 1 rfl) ?_
  refine g_Bench_27 X hH hk_o1 dX0_copyFrom_72 ?_
  refine p_Bench_27 X hH hS hk_r dX0_copyFrom_75 (fun H locs v15 ev15 hH hS => ?_)
  refine lv_aload_n hx hb dX0_copyFrom_78 rfl (lv_at hl 0 rfl) ?_
  refine lv_aload_n hx hb dX0_copyFrom_79 rfl (lv_at hl 1 rfl) ?_
  refine g_Bench_42 X hH hk_o1 dX0_copyFrom_80 ?_
  refine p_Bench_42 X hH hS hk_r dX0_copyFrom_83 (fun H locs v16 ev16 hH hS => ?_)
  refine lv_aload_n hx hb dX0_copyFrom_86 rfl (lv_at hl 0 rfl) ?_
  refine lv_aload_n hx hb dX0_copyFrom_87 rfl (lv_at hl 1 rfl) ?_
  refine g_Bench_45 X hH hk_o1 dX0_copyFrom_88 ?_
  refine p_Bench_45 X hH hS hk_r dX0_copyFrom_91 (fun H locs v17 ev17 hH hS => ?_)
  refine lv_aload_n hx hb dX0_copyFrom_94 rfl (lv_at hl 0 rfl) ?_
  refine lv_aload_n hx hb dX0_copyFrom_95 rfl (lv_at hl 1 rfl) ?_
  refine g_Bench_48 X hH hk_o1 dX0_copyFrom_96 ?_
  refine p_Bench_48 X hH hS hk_r dX0_copyFrom_99 (fun H locs v18 ev18 hH hS => ?_)
  refine lv_aload_n hx hb dX0_copyFrom_102 rfl (lv_at hl 0 rfl) ?_
  refine lv_aload_n hx hb dX0_copyFrom_103 rfl (lv_at hl 1 rfl) ?_
  refine g_Bench_51 X hH hk_o1 dX0_copyFrom_104 ?_
  refine p_Bench_51 X hH hS hk_r dX0_copyFrom_107 (fun H locs v19 ev19 hH hS => ?_)
  refine lv_aload_n hx hb dX0_copyFrom_110 rfl (lv_at hl 0 rfl) ?_
  refine lv_aload_n hx hb dX0_copyFrom_111 rfl (lv_at hl 1 rfl) ?_
  refine g_Bench_54 X hH hk_o1 dX0_copyFrom_112 ?_
  refine p_Bench_54 X hH hS hk_r dX0_copyFrom_115 (fun H locs v20 ev20 hH hS => ?_)
  refine lv_aload_n hx hb dX0_copyFrom_118 rfl (lv_at hl 0 rfl) ?_
  refine lv_aload_n hx hb dX0_copyFrom_119 rfl (lv_at hl 1 rfl) ?_
  refine g_Bench_57 X hH hk_o1 dX0_copyFrom_120 ?_
  refine p_Bench_57 X hH hS hk_r dX0_copyFrom_123 (fun H locs v21 ev21 hH hS => ?_)
  replace ev1 := Eq.symm ev1
  replace ev4 := Eq.symm ev4
  replace ev11 := Eq.symm ev11
  replace ev14 := Eq.symm ev14
  replace ev15 := Eq.symm ev15
  replace ev16 := Eq.symm ev16
  replace ev17 := Eq.symm ev17
  replace ev18 := Eq.symm ev18
  replace ev19 := Eq.symm ev19
  replace ev20 := Eq.symm ev20
  replace ev21 := Eq.symm ev21
  subst ev1 ev4 ev11 ev14 ev15 ev16 ev17 ev18 ev19 ev20 ev21
  exact E _ _ _ _ _ _ _ _ dX0_copyFrom_126 (Eq.symm rfl) hH hS hq13 hq13
theorem k_X0_copyFrom {p : Program} {l : Launch} {e : Env} {R : Room} {s : State} {m : MethodId} {args : Array Value} {below : List Frame} {meth : Method} {c : Code} {H : Heap} {locs : List Loc} {cells slots : Nat} {Q : State → Prop} {cc : ByteArray} {pc nL : Nat} {ls : Array Slot} {rest : List Value} {G : gG} {own : String} {da : Nat → Nat} {v : vSt} {x : gX} (X : CX G p s m args c cc nL own) (hS : va_S (gA G) s.heap H locs) (hH : Hp G da v x H) {r : Nat} (hk_r : kd r = 0) {o1 : Nat} (hk_o1 : kd o1 = 0) (ho : oX0_copyFrom r o1 v) {idx : Nat} (hml : Cond.methodLink own idx yX0_copyFrom ∈ TT) (hls : ls.size = nL) (hsum : (rest.map fun v => v.category).sum ≤ 8) (hR : (rmX0_copyFrom r o1 v).frames + 1 ≤ R.frames ∧ 8 + (3 + 11) + (rmX0_copyFrom r o1 v).locals ≤ R.locals) (hcs : cells + (kkX0_copyFrom r o1 v) ≤ R.cells ∧ slots + (kkX0_copyFrom r o1 v) ≤ R.slots) (hdg : decode cc pc = .ok (.invokevirtual idx, 3)) (kk : ∀ (d : Nat → Nat) (H1 : Heap) (locs1 : List Loc) (v1 : vSt), v1 = fX0_copyFrom r o1 v → Hp G d v1 x H1 → va_S (gA G) s.heap H1 locs1 → W p l e R s m args below meth c H1 locs1 (cells + (kkX0_copyFrom r o1 v)) (slots + (kkX0_copyFrom r o1 v)) Q (F0 m (pc + 3) ls rest)) : W p l e R s m args below meth c H locs cells slots Q (F0 m pc ls (.ref (ga G o1) :: .ref (ga G r) :: rest)) := c_mv X.2.2.2.2.2.2 (runV (k := 1) X.1 X.2.1 X.2.2.1 X.2.2.2.1 X.2.2.2.2.1 (mX0_copyFrom l G da v x r hk_r o1 hk_o1 ho) pW_bl hml t_im_X0_copyFrom t_sel_X0_copyFrom t_ini_Bench t_code_X0_copyFrom ⟨rfl, by decide, by decide, by decide +kernel⟩ rfl rfl hR hcs (recvW X hH (by rw [hk_r]; decide) (by rw [hk_r]; decide) (ce_0 hk_r) rfl) (preW X hS hH) rfl hls rfl hsum hdg) hS kk
def fX7_copyFrom (r : Nat) (o1 : Nat) (v : vSt) : vSt := let v2 : vSt := fX2_copyFrom (r + 1) (o1 + 1) v; let v5 : vSt := fX0_copyFrom (r + 2) (o1 + 2) v2; v5

def kkX7_copyFrom (r : Nat) (o1 : Nat) (v : vSt) : Nat := pot (fX7_copyFrom r o1 v) - pot v
def oX7_copyFrom (r : Nat) (o1 : Nat) (v : vSt) : Prop := (oX2_copyFrom (r + 1) (o1 + 1) v) ∧ (∀ v2 : vSt, v2 = (fX2_copyFrom (r + 1) (o1 + 1) v) → ((oX0_copyFrom (r + 2) (o1 + 2) v2) ∧ (0 + kkX0_copyFrom (r + 2) (o1 + 2) v2 ≤ kkX7_copyFrom r o1 v)))
abbrev rmX7_copyFrom (r : Nat) (o1 : Nat) (v : vSt) : Room := { frames := 5, cells := kkX7_copyFrom r o1 v, slots := kkX7_copyFrom r o1 v, locals := 155 }
theorem dX7_copyFrom_0 : decode cX7_copyFrom 0 = .ok (.aload_n 0, 1) := by decide +kernel
theorem dX7_copyFrom_1 : decode cX7_copyFrom 1 = .ok (.getfield 12, 3) := by decide +kernel
theorem dX7_copyFrom_4 : decode cX7_copyFrom 4 = .ok (.aload_n 1, 1) := by decide +kernel
theorem dX7_copyFrom_5 : decode cX7_copyFrom 5 = .ok (.getfield 12, 3) := by decide +kernel
theorem dX7_copyFrom_8 : decode cX7_copyFrom 8 = .ok (.invokevirtual 25, 3) := by decide +kernel
theorem dX7_copyFrom_11 : decode cX7_copyFrom 11 = .ok (.aload_n 0, 1) := by decide +kernel
theorem dX7_copyFrom_12 : decode cX7_copyFrom 12 = .ok (.getfield 21, 3) := by decide +kernel
theorem dX7_copyFrom_15 : decode cX7_copyFrom 15 = .ok (.aload_n 1, 1) := by decide +kernel
theorem dX7_copyFrom_16 : decode cX7_copyFrom 16 = .ok (.getfield 21, 3) := by decide +kernel
theorem dX7_copyFrom_19 : decode cX7_copyFrom 19 = .ok (.invokevirtual 29, 3) := by decide +kernel
theorem dX7_copyFrom_22 : decode cX7_copyFrom 22 = .ok (.return_, 1) := by decide +kernel
set_option maxHeartbeats 8000000 in
set_option maxRecDepth 100000 in
theorem mX7_copyFrom (l : Launch) (G : gG) (da : Nat → Nat) (v : vSt) (x : gX) (r : Nat) (hk_r : kd r = 7) (o1 : Nat) (hk_o1 : kd o1 = 7) (ho : oX7_copyFrom r o1 v) : MV l yX7_copyFrom cX7_copyFrom 2 none (rmX7_copyFrom r o1 v) [.ref (ga G r), .ref (ga G o1)] G da v x (kkX7_copyFrom r o1 v) (kkX7_copyFrom r o1 v) (fX7_copyFrom r o1 v) x := by
  refine gofMV (own := RX7) (by decide) rfl (Nat.le_of_ble_eq_true rfl) (fun p e s m args below meth c ls Q X hH hl E => ?_)
  have hx := X.1
  have hb := X.2.1
  have hown := X.2.2.2.1
  have hts := X.2.2.2.2.1
  have hS : va_S (gA G) s.heap s.heap [] := va_S.rf
  unfold oX7_copyFrom at ho
  have hl : lv_has ls 2 [(0, .ref (ga G r)), (1, .ref (ga G o1))] := hl
  refine lv_aload_n hx hb dX7_copyFrom_0 rfl (lv_at hl 0 rfl) ?_
  refine g_State_12 X hH hk_r dX7_copyFrom_1 ?_
  refine lv_aload_n hx hb dX7_copyFrom_4 rfl (lv_at hl 1 rfl) ?_
  refine g_State_12 X hH hk_o1 dX7_copyFrom_5 ?_
  have hq1 := ho.1
  have ho := ho.2
  refine k_X2_copyFrom X hS hH (kc_7_2 hk_r) (kc_7_2 hk_o1) hq1 t_ml_State_25 hl.1 (Nat.le_of_ble_eq_true rfl) ⟨Nat.le_of_ble_eq_true rfl, Nat.le_of_ble_eq_true rfl⟩ ⟨Nat.zero_le _, Nat.zero_le _⟩ dX7_copyFrom_8 (fun da H locs v2 ev2 hH hS => ?_)
  have ho := ho v2 ev2
  refine lv_aload_n hx hb dX7_copyFrom_11 rfl (lv_at hl 0 rfl) ?_
  refine g_State_21 X hH hk_r dX7_copyFrom_12 ?_
  refine lv_aload_n hx hb dX7_copyFrom_15 rfl (lv_at hl 1 rfl) ?_
  refine g_State_21 X hH hk_o1 dX7_copyFrom_16 ?_
  have hq3 := ho.1
  have ho := ho.2
  have hq4 := ho
  refine k_X0_copyFrom X hS hH (kc_7_0 hk_r) (kc_7_0 hk_o1) hq3 t_ml_State_29 hl.1 (Nat.le_of_ble_eq_true rfl) ⟨Nat.le_of_ble_eq_true rfl, Nat.le_of_ble_eq_true rfl⟩ ⟨hq4, hq4⟩ dX7_copyFrom_19 (fun da H locs v5 ev5 hH hS => ?_)
  replace ev2 := Eq.symm ev2
  replace ev5 := Eq.symm ev5
  subst ev2 ev5
  exact E _ _ _ _ _ _ _ _ dX7_copyFrom_22 (Eq.symm rfl) hH hS hq4 hq4
theorem k_X7_copyFrom {p : Program} {l : Launch} {e : Env} {R : Room} {s : State} {m : MethodId} {args : Array Value} {below : List Frame} {meth : Method} {c : Code} {H : Heap} {locs : List Loc} {cells slots : Nat} {Q : State → Prop} {cc : ByteArray} {pc nL : Nat} {ls : Array Slot} {rest : List Value} {G : gG} {own : String} {da : Nat → Nat} {v : vSt} {x : gX} (X : CX G p s m args c cc nL own) (hS : va_S (gA G) s.heap H locs) (hH : Hp G da v x H) {r : Nat} (hk_r : kd r = 7) {o1 : Nat} (hk_o1 : kd o1 = 7) (ho : oX7_copyFrom r o1 v) {idx : Nat} (hml : Cond.methodLink own idx yX7_copyFrom ∈ TT) (hls : ls.size = nL) (hsum : (rest.map fun v => v.category).sum ≤ 8) (hR : (rmX7_copyFrom r o1 v).frames + 1 ≤ R.frames ∧ 8 + (2 + 11) + (rmX7_copyFrom r o1 v).locals ≤ R.locals) (hcs : cells + (kkX7_copyFrom r o1 v) ≤ R.cells ∧ slots + (kkX7_copyFrom r o1 v) ≤ R.slots) (hdg : decode cc pc = .ok (.invokevirtual idx, 3)) (kk : ∀ (d : Nat → Nat) (H1 : Heap) (locs1 : List Loc) (v1 : vSt), v1 = fX7_copyFrom r o1 v → Hp G d v1 x H1 → va_S (gA G) s.heap H1 locs1 → W p l e R s m args below meth c H1 locs1 (cells + (kkX7_copyFrom r o1 v)) (slots + (kkX7_copyFrom r o1 v)) Q (F0 m (pc + 3) ls rest)) : W p l e R s m args below meth c H locs cells slots Q (F0 m pc ls (.ref (ga G o1) :: .ref (ga G r) :: rest)) := c_mv X.2.2.2.2.2.2 (runV (k := 1) X.1 X.2.1 X.2.2.1 X.2.2.2.1 X.2.2.2.2.1 (mX7_copyFrom l G da v x r hk_r o1 hk_o1 ho) pW_bl hml t_im_X7_copyFrom t_sel_X7_copyFrom t_ini_State t_code_X7_copyFrom ⟨rfl, by decide, by decide, by decide +kernel⟩ rfl rfl hR hcs (recvW X hH (by rw [hk_r]; decide) (by rw [hk_r]; decide) (ce_7 hk_r) rfl) (preW X hS hH) rfl hls rfl hsum hdg) hS kk
def fX7_perform (r : Nat) (o1 : Nat) (v : vSt) : vSt := if ((v o1 0) : Int32) = 0 then (let v2 : vSt := (fX2_measureLength (r + 1) (v o1 1) 0 (v o1 2) v).2; v2) else (if ((v o1 0) : Int32) = 1 then (let v5 : vSt := (fX2_calibrateTool (r + 1) (v o1 1) (v o1 2) v).2; v5) else (if ((v o1 0) : Int32) = 2 then (let v9 : vSt := (fX0_bringPiece (r + 2) (v o1 1) (v o1 2) v).2; v9) else (if ((v o1 0) : Int32) = 3 then (let v13 : vSt := (fX0_judgeFirst (r + 2) (r + 1) (v o1 1) v).2; v13) else (if ((v o1 0) : Int32) = 4 then (let v17 : vSt := (fX0_fileFirst (r + 2) (v o1 1) v).2; v17) else (if ((v o1 0) : Int32) = 5 then (let v20 : vSt := (fX0_passFirst (r + 2) v).2; v20) else (if ((v o1 0) : Int32) = 6 then (let v22 : vSt := u2 v (r + 1) 5 ((v (r + 1) 5) + 1); v22) else v))))))

def kkX7_perform (r : Nat) (o1 : Nat) (v : vSt) : Nat := pot (fX7_perform r o1 v) - pot v
def oX7_perform (r : Nat) (o1 : Nat) (v : vSt) : Prop := ¬ (((v o1 0) : Int32) = 0) → (((((v o1 0) : Int32) = 1) → (oX2_calibrateTool (r + 1) (v o1 1) (v o1 2) v)) ∧ (¬ (((v o1 0) : Int32) = 1) → (((((v o1 0) : Int32) = 2) → ((oX0_bringPiece (r + 2) (v o1 1) (v o1 2) v) ∧ (0 + kkX0_bringPiece (r + 2) (v o1 1) (v o1 2) v ≤ kkX7_perform r o1 v))) ∧ (¬ (((v o1 0) : Int32) = 2) → (((((v o1 0) : Int32) = 3) → ((oX0_judgeFirst (r + 2) (r + 1) (v o1 1) v) ∧ (0 + kkX0_judgeFirst (r + 2) (r + 1) (v o1 1) v ≤ kkX7_perform r o1 v))) ∧ (¬ (((v o1 0) : Int32) = 3) → (((((v o1 0) : Int32) = 4) → ((oX0_fileFirst (r + 2) (v o1 1) v) ∧ (0 + kkX0_fileFirst (r + 2) (v o1 1) v ≤ kkX7_perform r o1 v))) ∧ (¬ (((v o1 0) : Int32) = 4) → ((((v o1 0) : Int32) = 5) → (oX0_passFirst (r + 2) v))))))))))
abbrev rmX7_perform (r : Nat) (o1 : Nat) (v : vSt) : Room := { frames := 6, cells := kkX7_perform r o1 v, slots := kkX7_perform r o1 v, locals := 184 }
theorem dX7_perform_0 : decode cX7_perform 0 = .ok (.aload_n 1, 1) := by decide +kernel
theorem dX7_perform_1 : decode cX7_perform 1 = .ok (.getfield 49, 3) := by decide +kernel
theorem dX7_perform_4 : decode cX7_perform 4 = .ok (.tableswitch 163 0 6 #[44, 64, 83, 102, 121, 136, 147], 44) := by decide +kernel
theorem dX7_perform_48 : decode cX7_perform 48 = .ok (.aload_n 0, 1) := by decide +kernel
theorem dX7_perform_49 : decode cX7_perform 49 = .ok (.getfield 12, 3) := by decide +kernel
theorem dX7_perform_52 : decode cX7_perform 52 = .ok (.aload_n 1, 1) := by decide +kernel
theorem dX7_perform_53 : decode cX7_perform 53 = .ok (.getfield 54, 3) := by decide +kernel
theorem dX7_perform_56 : decode cX7_perform 56 = .ok (.iconst 0, 1) := by decide +kernel
theorem dX7_perform_57 : decode cX7_perform 57 = .ok (.aload_n 1, 1) := by decide +kernel
theorem dX7_perform_58 : decode cX7_perform 58 = .ok (.getfield 57, 3) := by decide +kernel
theorem dX7_perform_61 : decode cX7_perform 61 = .ok (.invokevirtual 86, 3) := by decide +kernel
theorem dX7_perform_64 : decode cX7_perform 64 = .ok (.pop, 1) := by decide +kernel
theorem dX7_perform_65 : decode cX7_perform 65 = .ok (.goto 102, 3) := by decide +kernel
theorem dX7_perform_68 : decode cX7_perform 68 = .ok (.aload_n 0, 1) := by decide +kernel
theorem dX7_perform_69 : decode cX7_perform 69 = .ok (.getfield 12, 3) := by decide +kernel
theorem dX7_perform_72 : decode cX7_perform 72 = .ok (.aload_n 1, 1) := by decide +kernel
theorem dX7_perform_73 : decode cX7_perform 73 = .ok (.getfield 54, 3) := by decide +kernel
theorem dX7_perform_76 : decode cX7_perform 76 = .ok (.aload_n 1, 1) := by decide +kernel
theorem dX7_perform_77 : decode cX7_perform 77 = .ok (.getfield 57, 3) := by decide +kernel
theorem dX7_perform_80 : decode cX7_perform 80 = .ok (.invokevirtual 89, 3) := by decide +kernel
theorem dX7_perform_83 : decode cX7_perform 83 = .ok (.pop, 1) := by decide +kernel
theorem dX7_perform_84 : decode cX7_perform 84 = .ok (.goto 83, 3) := by decide +kernel
theorem dX7_perform_87 : decode cX7_perform 87 = .ok (.aload_n 0, 1) := by decide +kernel
theorem dX7_perform_88 : decode cX7_perform 88 = .ok (.getfield 21, 3) := by decide +kernel
theorem dX7_perform_91 : decode cX7_perform 91 = .ok (.aload_n 1, 1) := by decide +kernel
theorem dX7_perform_92 : decode cX7_perform 92 = .ok (.getfield 54, 3) := by decide +kernel
theorem dX7_perform_95 : decode cX7_perform 95 = .ok (.aload_n 1, 1) := by decide +kernel
theorem dX7_perform_96 : decode cX7_perform 96 = .ok (.getfield 57, 3) := by decide +kernel
theorem dX7_perform_99 : decode cX7_perform 99 = .ok (.invokevirtual 92, 3) := by decide +kernel
theorem dX7_perform_102 : decode cX7_perform 102 = .ok (.pop, 1) := by decide +kernel
theorem dX7_perform_103 : decode cX7_perform 103 = .ok (.goto 64, 3) := by decide +kernel
theorem dX7_perform_106 : decode cX7_perform 106 = .ok (.aload_n 0, 1) := by decide +kernel
theorem dX7_perform_107 : decode cX7_perform 107 = .ok (.getfield 21, 3) := by decide +kernel
theorem dX7_perform_110 : decode cX7_perform 110 = .ok (.aload_n 0, 1) := by decide +kernel
theorem dX7_perform_111 : decode cX7_perform 111 = .ok (.getfield 12, 3) := by decide +kernel
theorem dX7_perform_114 : decode cX7_perform 114 = .ok (.aload_n 1, 1) := by decide +kernel
theorem dX7_perform_115 : decode cX7_perform 115 = .ok (.getfield 54, 3) := by decide +kernel
theorem dX7_perform_118 : decode cX7_perform 118 = .ok (.invokevirtual 95, 3) := by decide +kernel
theorem dX7_perform_121 : decode cX7_perform 121 = .ok (.pop, 1) := by decide +kernel
theorem dX7_perform_122 : decode cX7_perform 122 = .ok (.goto 45, 3) := by decide +kernel
theorem dX7_perform_125 : decode cX7_perform 125 = .ok (.aload_n 0, 1) := by decide +kernel
theorem dX7_perform_126 : decode cX7_perform 126 = .ok (.getfield 21, 3) := by decide +kernel
theorem dX7_perform_129 : decode cX7_perform 129 = .ok (.aload_n 1, 1) := by decide +kernel
theorem dX7_perform_130 : decode cX7_perform 130 = .ok (.getfield 54, 3) := by decide +kernel
theorem dX7_perform_133 : decode cX7_perform 133 = .ok (.invokevirtual 98, 3) := by decide +kernel
theorem dX7_perform_136 : decode cX7_perform 136 = .ok (.pop, 1) := by decide +kernel
theorem dX7_perform_137 : decode cX7_perform 137 = .ok (.goto 30, 3) := by decide +kernel
theorem dX7_perform_140 : decode cX7_perform 140 = .ok (.aload_n 0, 1) := by decide +kernel
theorem dX7_perform_141 : decode cX7_perform 141 = .ok (.getfield 21, 3) := by decide +kernel
theorem dX7_perform_144 : decode cX7_perform 144 = .ok (.invokevirtual 101, 3) := by decide +kernel
theorem dX7_perform_147 : decode cX7_perform 147 = .ok (.pop, 1) := by decide +kernel
theorem dX7_perform_148 : decode cX7_perform 148 = .ok (.goto 19, 3) := by decide +kernel
theorem dX7_perform_151 : decode cX7_perform 151 = .ok (.aload_n 0, 1) := by decide +kernel
theorem dX7_perform_152 : decode cX7_perform 152 = .ok (.getfield 12, 3) := by decide +kernel
theorem dX7_perform_155 : decode cX7_perform 155 = .ok (.dup, 1) := by decide +kernel
theorem dX7_perform_156 : decode cX7_perform 156 = .ok (.getfield 104, 3) := by decide +kernel
theorem dX7_perform_159 : decode cX7_perform 159 = .ok (.iconst 1, 1) := by decide +kernel
theorem dX7_perform_160 : decode cX7_perform 160 = .ok (.iadd, 1) := by decide +kernel
theorem dX7_perform_161 : decode cX7_perform 161 = .ok (.putfield 104, 3) := by decide +kernel
theorem dX7_perform_164 : decode cX7_perform 164 = .ok (.goto 3, 3) := by decide +kernel
theorem dX7_perform_167 : decode cX7_perform 167 = .ok (.return_, 1) := by decide +kernel
set_option maxHeartbeats 8000000 in
set_option maxRecDepth 100000 in
theorem mX7_perform (l : Launch) (G : gG) (da : Nat → Nat) (v : vSt) (x : gX) (r : Nat) (hk_r : kd r = 7) (o1 : Nat) (hk_o1 : kd o1 = 3) (ho : oX7_perform r o1 v) : MV l yX7_perform cX7_perform 2 none (rmX7_perform r o1 v) [.ref (ga G r), .ref (ga G o1)] G da v x (kkX7_perform r o1 v) (kkX7_perform r o1 v) (fX7_perform r o1 v) x := by
  refine gofMV (own := RX7) (by decide) rfl (Nat.le_of_ble_eq_true rfl) (fun p e s m args below meth c ls Q X hH hl E => ?_)
  have hx := X.1
  have hb := X.2.1
  have hown := X.2.2.2.1
  have hts := X.2.2.2.2.1
  have hS : va_S (gA G) s.heap s.heap [] := va_S.rf
  unfold oX7_perform at ho
  have hl : lv_has ls 2 [(0, .ref (ga G r)), (1, .ref (ga G o1))] := hl
  refine lv_aload_n hx hb dX7_perform_0 rfl (lv_at hl 1 rfl) ?_
  refine g_State_49 X hH hk_o1 dX7_perform_1 ?_
  refine (Decidable.em (((v o1 0) : Int32) = 0)).elim (fun c1 => ?_) (fun c1 => ?_)
  · skip
    refine lv_tableIn (tgt := 48) hx hb dX7_perform_4 (by rw [c1]; decide) (by rw [c1]; decide) (by rw [c1]; rfl) (by decide) ?_
    refine lv_aload_n hx hb dX7_perform_48 rfl (lv_at hl 0 rfl) ?_
    refine g_State_12 X hH hk_r dX7_perform_49 ?_
    refine lv_aload_n hx hb dX7_perform_52 rfl (lv_at hl 1 rfl) ?_
    refine g_State_54 X hH hk_o1 dX7_perform_53 ?_
    refine lv_iconst (v := 0) hx hb dX7_perform_56 (by decide) ?_
    refine lv_aload_n hx hb dX7_perform_57 rfl (lv_at hl 1 rfl) ?_
    refine g_State_57 X hH hk_o1 dX7_perform_58 ?_
    refine k_X2_measureLength X hS hH (kc_7_2 hk_r) t_ml_State_86 hl.1 (Nat.le_of_ble_eq_true rfl) ⟨Nat.le_of_ble_eq_true rfl, Nat.le_of_ble_eq_true rfl⟩ ⟨Nat.zero_le _, Nat.zero_le _⟩ dX7_perform_61 (fun da H locs v2 ev2 hH hS => ?_)
    refine lv_pop hx hb dX7_perform_64 rfl ?_
    refine lv_goto (tgt := 167) hx hb dX7_perform_65 (by decide) ?_
    replace ev2 := Eq.symm ev2
    subst ev2
    exact E _ _ _ _ _ _ _ _ dX7_perform_167 (Eq.symm ((fX7_perform.eq_1 _ _ _).trans ((if_pos c1).trans rfl))) hH hS (Nat.zero_le _) (Nat.zero_le _)
  · have ho := ho c1
    refine (Decidable.em (((v o1 0) : Int32) = 1)).elim (fun c3 => ?_) (fun c3 => ?_)
    · have ho := ho.1 c3
      refine lv_tableIn (tgt := 68) hx hb dX7_perform_4 (by rw [c3]; decide) (by rw [c3]; decide) (by rw [c3]; rfl) (by decide) ?_
      refine lv_aload_n hx hb dX7_perform_68 rfl (lv_at hl 0 rfl) ?_
      refine g_State_12 X hH hk_r dX7_perform_69 ?_
      refine lv_aload_n hx hb dX7_perform_72 rfl (lv_at hl 1 rfl) ?_
      refine g_State_54 X hH hk_o1 dX7_perform_73 ?_
      refine lv_aload_n hx hb dX7_perform_76 rfl (lv_at hl 1 rfl) ?_
      refine g_State_57 X hH hk_o1 dX7_perform_77 ?_
      have hq4 := ho
      refine k_X2_calibrateTool X hS hH (kc_7_2 hk_r) hq4 t_ml_State_89 hl.1 (Nat.le_of_ble_eq_true rfl) ⟨Nat.le_of_ble_eq_true rfl, Nat.le_of_ble_eq_true rfl⟩ ⟨Nat.zero_le _, Nat.zero_le _⟩ dX7_perform_80 (fun da H locs v5 ev5 hH hS => ?_)
      refine lv_pop hx hb dX7_perform_83 rfl ?_
      refine lv_goto (tgt := 167) hx hb dX7_perform_84 (by decide) ?_
      replace ev5 := Eq.symm ev5
      subst ev5
      exact E _ _ _ _ _ _ _ _ dX7_perform_167 (Eq.symm ((fX7_perform.eq_1 _ _ _).trans ((if_neg c1).trans ((if_pos c3).trans rfl)))) hH hS (Nat.zero_le _) (Nat.zero_le _)
    · have ho := ho.2 c3
      refine (Decidable.em (((v o1 0) : Int32) = 2)).elim (fun c6 => ?_) (fun c6 => ?_)
      · have ho := ho.1 c6
        refine lv_tableIn (tgt := 87) hx hb dX7_perform_4 (by rw [c6]; decide) (by rw [c6]; decide) (by rw [c6]; rfl) (by decide) ?_
        refine lv_aload_n hx hb dX7_perform_87 rfl (lv_at hl 0 rfl) ?_
        refine g_State_21 X hH hk_r dX7_perform_88 ?_
        refine lv_aload_n hx hb dX7_perform_91 rfl (lv_at hl 1 rfl) ?_
        refine g_State_54 X hH hk_o1 dX7_perform_92 ?_
        refine lv_aload_n hx hb dX7_perform_95 rfl (lv_at hl 1 rfl) ?_
        refine g_State_57 X hH hk_o1 dX7_perform_96 ?_
        have hq7 := ho.1
        have ho := ho.2
        have hq8 := ho
        refine k_X0_bringPiece X hS hH (kc_7_0 hk_r) hq7 t_ml_State_92 hl.1 (Nat.le_of_ble_eq_true rfl) ⟨Nat.le_of_ble_eq_true rfl, Nat.le_of_ble_eq_true rfl⟩ ⟨hq8, hq8⟩ dX7_perform_99 (fun da H locs v9 ev9 hH hS => ?_)
        refine lv_pop hx hb dX7_perform_102 rfl ?_
        refine lv_goto (tgt := 167) hx hb dX7_perform_103 (by decide) ?_
        replace ev9 := Eq.symm ev9
        subst ev9
        exact E _ _ _ _ _ _ _ _ dX7_perform_167 (Eq.symm ((fX7_perform.eq_1 _ _ _).trans ((if_neg c1).trans ((if_neg c3).trans ((if_pos c6).trans rfl))))) hH hS hq8 hq8
      · have ho := ho.2 c6
        refine (Decidable.em (((v o1 0) : Int32) = 3)).elim (fun c10 => ?_) (fun c10 => ?_)
        · have ho := ho.1 c10
          refine lv_tableIn (tgt := 106) hx hb dX7_perform_4 (by rw [c10]; decide) (by rw [c10]; decide) (by rw [c10]; rfl) (by decide) ?_
          refine lv_aload_n hx hb dX7_perform_106 rfl (lv_at hl 0 rfl) ?_
          refine g_State_21 X hH hk_r dX7_perform_107 ?_
          refine lv_aload_n hx hb dX7_perform_110 rfl (lv_at hl 0 rfl) ?_
          refine g_State_12 X hH hk_r dX7_perform_111 ?_
          refine lv_aload_n hx hb dX7_perform_114 rfl (lv_at hl 1 rfl) ?_
          refine g_State_54 X hH hk_o1 dX7_perform_115 ?_
          have hq11 := ho.1
          have ho := ho.2
          have hq12 := ho
          refine k_X0_judgeFirst X hS hH (kc_7_0 hk_r) (kc_7_2 hk_r) hq11 t_ml_State_95 hl.1 (Nat.le_of_ble_eq_true rfl) ⟨Nat.le_of_ble_eq_true rfl, Nat.le_of_ble_eq_true rfl⟩ ⟨hq12, hq12⟩ dX7_perform_118 (fun da H locs v13 ev13 hH hS => ?_)
          refine lv_pop hx hb dX7_perform_121 rfl ?_
          refine lv_goto (tgt := 167) hx hb dX7_perform_122 (by decide) ?_
          replace ev13 := Eq.symm ev13
          subst ev13
          exact E _ _ _ _ _ _ _ _ dX7_perform_167 (Eq.symm ((fX7_perform.eq_1 _ _ _).trans ((if_neg c1).trans ((if_neg c3).trans ((if_neg c6).trans ((if_pos c10).trans rfl)))))) hH hS hq12 hq12
        · have ho := ho.2 c10
          refine (Decidable.em (((v o1 0) : Int32) = 4)).elim (fun c14 => ?_) (fun c14 => ?_)
          · have ho := ho.1 c14
            refine lv_tableIn (tgt := 125) hx hb dX7_perform_4 (by rw [c14]; decide) (by rw [c14]; decide) (by rw [c14]; rfl) (by decide) ?_
            refine lv_aload_n hx hb dX7_perform_125 rfl (lv_at hl 0 rfl) ?_
            refine g_State_21 X hH hk_r dX7_perform_126 ?_
            refine lv_aload_n hx hb dX7_perform_129 rfl (lv_at hl 1 rfl) ?_
            refine g_State_54 X hH hk_o1 dX7_perform_130 ?_
            have hq15 := ho.1
            have ho := ho.2
            have hq16 := ho
            refine k_X0_fileFirst X hS hH (kc_7_0 hk_r) hq15 t_ml_State_98 hl.1 (Nat.le_of_ble_eq_true rfl) ⟨Nat.le_of_ble_eq_true rfl, Nat.le_of_ble_eq_true rfl⟩ ⟨hq16, hq16⟩ dX7_perform_133 (fun da H locs v17 ev17 hH hS => ?_)
            refine lv_pop hx hb dX7_perform_136 rfl ?_
            refine lv_goto (tgt := 167) hx hb dX7_perform_137 (by decide) ?_
            replace ev17 := Eq.symm ev17
            subst ev17
            exact E _ _ _ _ _ _ _ _ dX7_perform_167 (Eq.symm ((fX7_perform.eq_1 _ _ _).trans ((if_neg c1).trans ((if_neg c3).trans ((if_neg c6).trans ((if_neg c10).trans ((if_pos c14).trans rfl))))))) hH hS hq16 hq16
          · have ho := ho.2 c14
            refine (Decidable.em (((v o1 0) : Int32) = 5)).elim (fun c18 => ?_) (fun c18 => ?_)
            · have ho := ho c18
              refine lv_tableIn (tgt := 140) hx hb dX7_perform_4 (by rw [c18]; decide) (by rw [c18]; decide) (by rw [c18]; rfl) (by decide) ?_
              refine lv_aload_n hx hb dX7_perform_140 rfl (lv_at hl 0 rfl) ?_
              refine g_State_21 X hH hk_r dX7_perform_141 ?_
              have hq19 := ho
              refine k_X0_passFirst X hS hH (kc_7_0 hk_r) hq19 t_ml_State_101 hl.1 (Nat.le_of_ble_eq_true rfl) ⟨Nat.le_of_ble_eq_true rfl, Nat.le_of_ble_eq_true rfl⟩ ⟨Nat.zero_le _, Nat.zero_le _⟩ dX7_perform_144 (fun da H locs v20 ev20 hH hS => ?_)
              refine lv_pop hx hb dX7_perform_147 rfl ?_
              refine lv_goto (tgt := 167) hx hb dX7_perform_148 (by decide) ?_
              replace ev20 := Eq.symm ev20
              subst ev20
              exact E _ _ _ _ _ _ _ _ dX7_perform_167 (Eq.symm ((fX7_perform.eq_1 _ _ _).trans ((if_neg c1).trans ((if_neg c3).trans ((if_neg c6).trans ((if_neg c10).trans ((if_neg c14).trans ((if_pos c18).trans rfl)))))))) hH hS (Nat.zero_le _) (Nat.zero_le _)
            · skip
              refine (Decidable.em (((v o1 0) : Int32) = 6)).elim (fun c21 => ?_) (fun c21 => ?_)
              · skip
                refine lv_tableIn (tgt := 151) hx hb dX7_perform_4 (by rw [c21]; decide) (by rw [c21]; decide) (by rw [c21]; rfl) (by decide) ?_
                refine lv_aload_n hx hb dX7_perform_151 rfl (lv_at hl 0 rfl) ?_
                refine g_State_12 X hH hk_r dX7_perform_152 ?_
                refine lv_dup hx hb dX7_perform_155 rfl ?_
                refine g_State_104 X hH (kc_7_2 hk_r) dX7_perform_156 ?_
                refine lv_iconst (v := 1) hx hb dX7_perform_159 (by decide) ?_
                refine lv_iadd hx hb dX7_perform_160 ?_
                refine p_State_104 X hH hS (kc_7_2 hk_r) dX7_perform_161 (fun H locs v22 ev22 hH hS => ?_)
                refine lv_goto (tgt := 167) hx hb dX7_perform_164 (by decide) ?_
                replace ev22 := Eq.symm ev22
                subst ev22
                exact E _ _ _ _ _ _ _ _ dX7_perform_167 (Eq.symm ((fX7_perform.eq_1 _ _ _).trans ((if_neg c1).trans ((if_neg c3).trans ((if_neg c6).trans ((if_neg c10).trans ((if_neg c14).trans ((if_neg c18).trans ((if_pos c21).trans rfl))))))))) hH hS (Nat.zero_le _) (Nat.zero_le _)
              · skip
                refine lv_tableOut (tgt := 167) hx hb dX7_perform_4 (by have := i_rng (v o1 0); have := i_ne c1; have := i_ne c3; have := i_ne c6; have := i_ne c10; have := i_ne c14; have := i_ne c18; have := i_ne c21; have : (0 : Int32).toInt = 0 := rfl; have : (1 : Int32).toInt = 1 := rfl; have : (2 : Int32).toInt = 2 := rfl; have : (3 : Int32).toInt = 3 := rfl; have : (4 : Int32).toInt = 4 := rfl; have : (5 : Int32).toInt = 5 := rfl; have : (6 : Int32).toInt = 6 := rfl; omega) (by decide) ?_
                exact E _ _ _ _ _ _ _ _ dX7_perform_167 (Eq.symm ((fX7_perform.eq_1 _ _ _).trans ((if_neg c1).trans ((if_neg c3).trans ((if_neg c6).trans ((if_neg c10).trans ((if_neg c14).trans ((if_neg c18).trans ((if_neg c21).trans rfl))))))))) hH hS (Nat.zero_le _) (Nat.zero_le _)
theorem k_X7_perform {p : Program} {l : Launch} {e : Env} {R : Room} {s : State} {m : MethodId} {args : Array Value} {below : List Frame} {meth : Method} {c : Code} {H : Heap} {locs : List Loc} {cells slots : Nat} {Q : State → Prop} {cc : ByteArray} {pc nL : Nat} {ls : Array Slot} {rest : List Value} {G : gG} {own : String} {da : Nat → Nat} {v : vSt} {x : gX} (X : CX G p s m args c cc nL own) (hS : va_S (gA G) s.heap H locs) (hH : Hp G da v x H) {r : Nat} (hk_r : kd r = 7) {o1 : Nat} (hk_o1 : kd o1 = 3) (ho : oX7_perform r o1 v) {idx : Nat} (hml : Cond.methodLink own idx yX7_perform ∈ TT) (hls : ls.size = nL) (hsum : (rest.map fun v => v.category).sum ≤ 8) (hR : (rmX7_perform r o1 v).frames + 1 ≤ R.frames ∧ 8 + (2 + 11) + (rmX7_perform r o1 v).locals ≤ R.locals) (hcs : cells + (kkX7_perform r o1 v) ≤ R.cells ∧ slots + (kkX7_perform r o1 v) ≤ R.slots) (hdg : decode cc pc = .ok (.invokevirtual idx, 3)) (kk : ∀ (d : Nat → Nat) (H1 : Heap) (locs1 : List Loc) (v1 : vSt), v1 = fX7_perform r o1 v → Hp G d v1 x H1 → va_S (gA G) s.heap H1 locs1 → W p l e R s m args below meth c H1 locs1 (cells + (kkX7_perform r o1 v)) (slots + (kkX7_perform r o1 v)) Q (F0 m (pc + 3) ls rest)) : W p l e R s m args below meth c H locs cells slots Q (F0 m pc ls (.ref (ga G o1) :: .ref (ga G r) :: rest)) := c_mv X.2.2.2.2.2.2 (runV (k := 1) X.1 X.2.1 X.2.2.1 X.2.2.2.1 X.2.2.2.2.1 (mX7_perform l G da v x r hk_r o1 hk_o1 ho) pW_bl hml t_im_X7_perform t_sel_X7_perform t_ini_State t_code_X7_perform ⟨rfl, by decide, by decide, by decide +kernel⟩ rfl rfl hR hcs (recvW X hH (by rw [hk_r]; decide) (by rw [hk_r]; decide) (ce_7 hk_r) rfl) (preW X hS hH) rfl hls rfl hsum hdg) hS kk
