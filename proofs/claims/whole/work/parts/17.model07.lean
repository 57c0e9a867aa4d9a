/-! 17.model -/
def lX11_leavesBench_14 : Nat → Int32 → vSt → vSt
  | 0, i3, v4 => v4
  | n + 1, i3, v4 => if ((v4 462 (206 : Int32).toNatClampNeg) : Int32) ≤ i3 then v4 else (let v8 : vSt := u2 v4 462 (183 + i3 : Int32).toNatClampNeg (v4 462 ((183 + i3) + 1 : Int32).toNatClampNeg); lX11_leavesBench_14 n (i3 + 1) v8)
def olX11_leavesBench_14 : Nat → Int32 → vSt → Prop
  | 0, _, _ => False
  | n + 1, i3, v4 => ¬ (((v4 462 (206 : Int32).toNatClampNeg) : Int32) ≤ i3) → ((vp_in ((183 + i3) + 1) (mlen 462)) ∧ ((vp_in (183 + i3) (mlen 462)) ∧ (∀ v8 : vSt, v8 = (u2 v4 462 (183 + i3 : Int32).toNatClampNeg (v4 462 ((183 + i3) + 1 : Int32).toNatClampNeg)) → (olX11_leavesBench_14 n (i3 + 1) v8))))
def fX11_leavesBench (r : Nat) (v : vSt) : vSt := let v2 : vSt := u2 v 462 (206 : Int32).toNatClampNeg ((v 462 (206 : Int32).toNatClampNeg) - 1); let v5 : vSt := (lX11_leavesBench_14 ((Int32.toInt ((v2 462 (206 : Int32).toNatClampNeg)) - Int32.toInt 0).toNat + 1) 0 v2); let v10 : vSt := u2 v5 462 (183 + (v5 462 (206 : Int32).toNatClampNeg) : Int32).toNatClampNeg 0; v10
def oX11_leavesBench (r : Nat) (v : vSt) : Prop := (vp_in (206) (mlen 462)) ∧ (∀ v2 : vSt, v2 = (u2 v 462 (206 : Int32).toNatClampNeg ((v 462 (206 : Int32).toNatClampNeg) - 1)) → (olX11_leavesBench_14 ((Int32.toInt ((v2 462 (206 : Int32).toNatClampNeg)) - Int32.toInt 0).toNat + 1) 0 v2 ∧ (∀ (v5 : vSt), v5 = ((lX11_leavesBench_14 ((Int32.toInt ((v2 462 (206 : Int32).toNatClampNeg)) - Int32.toInt 0).toNat + 1) 0 v2) : vSt) → (vp_in (183 + (v5 462 (206 : Int32).toNatClampNeg)) (mlen 462)))))
abbrev rmX11_leavesBench : Room := { frames := 0, cells := 0, slots := 0, locals := 0 }
theorem dX11_leavesBench_0 : decode cX11_leavesBench 0 = .ok (.aload_n 0, 1) := by decide +kernel
theorem dX11_leavesBench_1 : decode cX11_leavesBench 1 = .ok (.getfield 7, 3) := by decide +kernel
theorem dX11_leavesBench_4 : decode cX11_leavesBench 4 = .ok (.sipush 206, 3) := by decide +kernel
theorem dX11_leavesBench_7 : decode cX11_leavesBench 7 = .ok (.dup2, 1) := by decide +kernel
theorem dX11_leavesBench_8 : decode cX11_leavesBench 8 = .ok (.iaload, 1) := by decide +kernel
theorem dX11_leavesBench_9 : decode cX11_leavesBench 9 = .ok (.iconst 1, 1) := by decide +kernel
theorem dX11_leavesBench_10 : decode cX11_leavesBench 10 = .ok (.isub, 1) := by decide +kernel
theorem dX11_leavesBench_11 : decode cX11_leavesBench 11 = .ok (.iastore, 1) := by decide +kernel
theorem dX11_leavesBench_12 : decode cX11_leavesBench 12 = .ok (.iconst 0, 1) := by decide +kernel
theorem dX11_leavesBench_13 : decode cX11_leavesBench 13 = .ok (.istore_n 1, 1) := by decide +kernel
theorem dX11_leavesBench_14 : decode cX11_leavesBench 14 = .ok (.iload_n 1, 1) := by decide +kernel
theorem dX11_leavesBench_15 : decode cX11_leavesBench 15 = .ok (.aload_n 0, 1) := by decide +kernel
theorem dX11_leavesBench_16 : decode cX11_leavesBench 16 = .ok (.getfield 7, 3) := by decide +kernel
theorem dX11_leavesBench_19 : decode cX11_leavesBench 19 = .ok (.sipush 206, 3) := by decide +kernel
theorem dX11_leavesBench_22 : decode cX11_leavesBench 22 = .ok (.iaload, 1) := by decide +kernel
theorem dX11_leavesBench_23 : decode cX11_leavesBench 23 = .ok (.if_icmp .ge 31, 3) := by decide +kernel
theorem dX11_leavesBench_26 : decode cX11_leavesBench 26 = .ok (.aload_n 0, 1) := by decide +kernel
theorem dX11_leavesBench_27 : decode cX11_leavesBench 27 = .ok (.getfield 7, 3) := by decide +kernel
theorem dX11_leavesBench_30 : decode cX11_leavesBench 30 = .ok (.sipush 183, 3) := by decide +kernel
theorem dX11_leavesBench_33 : decode cX11_leavesBench 33 = .ok (.iload_n 1, 1) := by decide +kernel
theorem dX11_leavesBench_34 : decode cX11_leavesBench 34 = .ok (.iadd, 1) := by decide +kernel
theorem dX11_leavesBench_35 : decode cX11_leavesBench 35 = .ok (.aload_n 0, 1) := by decide +kernel
theorem dX11_leavesBench_36 : decode cX11_leavesBench 36 = .ok (.getfield 7, 3) := by decide +kernel
theorem dX11_leavesBench_39 : decode cX11_leavesBench 39 = .ok (.sipush 183, 3) := by decide +kernel
theorem dX11_leavesBench_42 : decode cX11_leavesBench 42 = .ok (.iload_n 1, 1) := by decide +kernel
theorem dX11_leavesBench_43 : decode cX11_leavesBench 43 = .ok (.iadd, 1) := by decide +kernel
theorem dX11_leavesBench_44 : decode cX11_leavesBench 44 = .ok (.iconst 1, 1) := by decide +kernel
theorem dX11_leavesBench_45 : decode cX11_leavesBench 45 = .ok (.iadd, 1) := by decide +kernel
theorem dX11_leavesBench_46 : decode cX11_leavesBench 46 = .ok (.iaload, 1) := by decide +kernel
theorem dX11_leavesBench_47 : decode cX11_leavesBench 47 = .ok (.iastore, 1) := by decide +kernel
theorem dX11_leavesBench_48 : decode cX11_leavesBench 48 = .ok (.iinc 1 1, 3) := by decide +kernel
theorem dX11_leavesBench_51 : decode cX11_leavesBench 51 = .ok (.goto (-37), 3) := by decide +kernel
theorem dX11_leavesBench_54 : decode cX11_leavesBench 54 = .ok (.aload_n 0, 1) := by decide +kernel
theorem dX11_leavesBench_55 : decode cX11_leavesBench 55 = .ok (.getfield 7, 3) := by decide +kernel
theorem dX11_leavesBench_58 : decode cX11_leavesBench 58 = .ok (.sipush 183, 3) := by decide +kernel
theorem dX11_leavesBench_61 : decode cX11_leavesBench 61 = .ok (.aload_n 0, 1) := by decide +kernel
theorem dX11_leavesBench_62 : decode cX11_leavesBench 62 = .ok (.getfield 7, 3) := by decide +kernel
theorem dX11_leavesBench_65 : decode cX11_leavesBench 65 = .ok (.sipush 206, 3) := by decide +kernel
theorem dX11_leavesBench_68 : decode cX11_leavesBench 68 = .ok (.iaload, 1) := by decide +kernel
theorem dX11_leavesBench_69 : decode cX11_leavesBench 69 = .ok (.iadd, 1) := by decide +kernel
theorem dX11_leavesBench_70 : decode cX11_leavesBench 70 = .ok (.iconst 0, 1) := by decide +kernel
theorem dX11_leavesBench_71 : decode cX11_leavesBench 71 = .ok (.iastore, 1) := by decide +kernel
theorem dX11_leavesBench_72 : decode cX11_leavesBench 72 = .ok (.return_, 1) := by decide +kernel
set_option maxHeartbeats 8000000 in
set_option maxRecDepth 100000 in
theorem mX11_leavesBench (l : Launch) (G : gG) (da : Nat → Nat) (v : vSt) (x : gX) (r : Nat) (hk_r : kd r = 11) (ho : oX11_leavesBench r v) : MV l yX11_leavesBench cX11_leavesBench 2 none rmX11_leavesBench [.ref (ga G r)] G da v x 0 0 (fX11_leavesBench r v) x := by
  refine gofMV (own := RX11) (by decide) rfl (Nat.le_of_ble_eq_true rfl) (fun p e s m args below meth c ls Q X hH hl E => ?_)
  have hx := X.1
  have hb := X.2.1
  have hown := X.2.2.2.1
  have hts := X.2.2.2.2.1
  have hS : va_S (gA G) s.heap s.heap [] := va_S.rf
  unfold oX11_leavesBench at ho
  have hl : lv_has ls 2 [(0, .ref (ga G r))] := hl
  refine lv_aload_n hx hb dX11_leavesBench_0 rfl (lv_at hl 0 rfl) ?_
  refine g_VernierDrawersModel_7 X hH hk_r dX11_leavesBench_1 ?_
  refine lv_sipush (v := 206) hx hb dX11_leavesBench_4 (by decide) ?_
  refine lv_dup2_11 hx hb dX11_leavesBench_7 rfl rfl ?_
  have hq1 := ho.1
  have ho := ho.2
  refine ald_M X hH (Or.inl kd_462) hq1 dX11_leavesBench_8 ?_
  refine lv_iconst (v := 1) hx hb dX11_leavesBench_9 (by decide) ?_
  refine lv_isub hx hb dX11_leavesBench_10 ?_
  refine ast_M X hH hS (Or.inl kd_462) hq1 dX11_leavesBench_11 (fun H locs v2 ev2 hH hS => ?_)
  have ho := ho v2 ev2
  refine lv_iconst (v := 0) hx hb dX11_leavesBench_12 (by decide) ?_
  refine lv_istore_n (lv' := [(1, .int 0), (0, .ref (ga G r))]) hx hb dX11_leavesBench_13 rfl hl (by decide) rfl (fun ls hl => ?_)
  have L6 : ∀ (n : Nat) (i3 : Int32) (v4 : vSt) (da : Nat → Nat) (H : Heap) (locs : List Loc) (ls : Array Slot), olX11_leavesBench_14 n i3 v4 → Hp G da v4 x H → va_S (gA G) s.heap H locs → lv_has ls 2 [(1, .int i3), (0, .ref (ga G r))] → (∀ (v5 : vSt) (da : Nat → Nat) (H : Heap) (locs : List Loc) (ls : Array Slot), v5 = (lX11_leavesBench_14 n i3 v4 : vSt) → Hp G da v5 x H → va_S (gA G) s.heap H locs → lv_has ls 2 [(0, .ref (ga G r))] → W p l e rmX11_leavesBench s m args below meth c H locs 0 0 Q (F0 m 54 ls [])) → W p l e rmX11_leavesBench s m args below meth c H locs 0 0 Q (F0 m 14 ls []) := by
    clear ho
    intro n
    induction n with
    | zero =>
      intro i3 v4 da H locs ls ho
      exact ho.elim
    | succ n ih =>
      intro i3 v4 da H locs ls ho hH hS hl K7
      refine lv_iload_n hx hb dX11_leavesBench_14 rfl (lv_at hl 0 rfl) ?_
      refine lv_aload_n hx hb dX11_leavesBench_15 rfl (lv_at hl 1 rfl) ?_
      refine g_VernierDrawersModel_7 X hH hk_r dX11_leavesBench_16 ?_
      refine lv_sipush (v := 206) hx hb dX11_leavesBench_19 (by decide) ?_
      refine ald_M X hH (Or.inl kd_462) hq1 dX11_leavesBench_22 ?_
      refine lv_icmp_ge (tgt := 54) hx hb dX11_leavesBench_23 (by decide) (fun c5 => ?_) (fun c5 => ?_)
      · skip
        exact K7 _ _ _ _ _ (Eq.symm (((lX11_leavesBench_14.eq_2 _ _ _)).trans ((if_pos c5).trans rfl))) hH hS (lv_sub hl [1] rfl)
      · have ho := ho c5
        refine lv_aload_n hx hb dX11_leavesBench_26 rfl (lv_at hl 1 rfl) ?_
        refine g_VernierDrawersModel_7 X hH hk_r dX11_leavesBench_27 ?_
        refine lv_sipush (v := 183) hx hb dX11_leavesBench_30 (by decide) ?_
        refine lv_iload_n hx hb dX11_leavesBench_33 rfl (lv_at hl 0 rfl) ?_
        refine lv_iadd hx hb dX11_leavesBench_34 ?_
        refine lv_aload_n hx hb dX11_leavesBench_35 rfl (lv_at hl 1 rfl) ?_
        refine g_VernierDrawersModel_7 X hH hk_r dX11_leavesBench_36 ?_
        refine lv_sipush (v := 183) hx hb dX11_leavesBench_39 (by decide) ?_
        refine lv_iload_n hx hb dX11_leavesBench_42 rfl (lv_at hl 0 rfl) ?_
        refine lv_iadd hx hb dX11_leavesBench_43 ?_
        refine lv_iconst (v := 1) hx hb dX11_leavesBench_44 (by decide) ?_
        refine lv_iadd hx hb dX11_leavesBench_45 ?_
        have hq6 := ho.1
        have ho := ho.2
        refine ald_M X hH (Or.inl kd_462) hq6 dX11_leavesBench_46 ?_
        have hq7 := ho.1
        have ho := ho.2
        refine ast_M X hH hS (Or.inl kd_462) hq7 dX11_leavesBench_47 (fun H locs v8 ev8 hH hS => ?_)
        have ho := ho v8 ev8
        refine lv_iinc (v := i3 + 1) (lv' := [(1, .int (i3 + 1)), (0, .ref (ga G r))]) hx hb dX11_leavesBench_48 hl (k := 0) rfl rfl (by decide) rfl (fun ls hl => ?_)
        refine lv_goto (tgt := 14) hx hb dX11_leavesBench_51 (by decide) ?_
        replace ev8 := Eq.symm ev8
        subst ev8
        exact ih _ _ _ _ _ _ ho hH hS (lv_sub hl [0, 1] rfl) (fun v5 da H locs ls q0 hH hS hl => K7 v5 da H locs ls (q0.trans (congrArg (fun z : vSt => z) (Eq.symm (((lX11_leavesBench_14.eq_2 _ _ _)).trans ((if_neg c5).trans rfl))))) hH hS hl)
  have hol := ho.1
  refine L6 ((Int32.toInt ((v2 462 (206 : Int32).toNatClampNeg)) - Int32.toInt 0).toNat + 1) 0 v2 _ _ _ _ hol hH hS (lv_sub hl [0, 1] rfl) (fun v5 da H locs ls ev5 hH hS hl => ?_)
  have ho := ho.2 v5 ev5
  refine lv_aload_n hx hb dX11_leavesBench_54 rfl (lv_at hl 0 rfl) ?_
  refine g_VernierDrawersModel_7 X hH hk_r dX11_leavesBench_55 ?_
  refine lv_sipush (v := 183) hx hb dX11_leavesBench_58 (by decide) ?_
  refine lv_aload_n hx hb dX11_leavesBench_61 rfl (lv_at hl 0 rfl) ?_
  refine g_VernierDrawersModel_7 X hH hk_r dX11_leavesBench_62 ?_
  refine lv_sipush (v := 206) hx hb dX11_leavesBench_65 (by decide) ?_
  refine ald_M X hH (Or.inl kd_462) hq1 dX11_leavesBench_68 ?_
  refine lv_iadd hx hb dX11_leavesBench_69 ?_
  refine lv_iconst (v := 0) hx hb dX11_leavesBench_70 (by decide) ?_
  have hq9 := ho
  refine ast_M X hH hS (Or.inl kd_462) hq9 dX11_leavesBench_71 (fun H locs v10 ev10 hH hS => ?_)
  replace ev2 := Eq.symm ev2
  replace ev5 := Eq.symm ev5
  replace ev10 := Eq.symm ev10
  subst ev2 ev5 ev10
  exact E _ _ _ _ _ _ _ _ dX11_leavesBench_72 (Eq.symm rfl) hH hS (Nat.zero_le _) (Nat.zero_le _)
theorem k_X11_leavesBench {p : Program} {l : Launch} {e : Env} {R : Room} {s : State} {m : MethodId} {args : Array Value} {below : List Frame} {meth : Method} {c : Code} {H : Heap} {locs : List Loc} {cells slots : Nat} {Q : State → Prop} {cc : ByteArray} {pc nL : Nat} {ls : Array Slot} {rest : List Value} {G : gG} {own : String} {da : Nat → Nat} {v : vSt} {x : gX} (X : CX G p s m args c cc nL own) (hS : va_S (gA G) s.heap H locs) (hH : Hp G da v x H) {r : Nat} (hk_r : kd r = 11) (ho : oX11_leavesBench r v) {idx : Nat} (hml : Cond.methodLink own idx yX11_leavesBench ∈ TT) (hls : ls.size = nL) (hsum : (rest.map fun v => v.category).sum ≤ 8) (hR : rmX11_leavesBench.frames + 1 ≤ R.frames ∧ 8 + (2 + 11) + rmX11_leavesBench.locals ≤ R.locals) (hcs : cells ≤ R.cells ∧ slots ≤ R.slots) (hdg : decode cc pc = .ok (.invokevirtual idx, 3)) (kk : ∀ (d : Nat → Nat) (H1 : Heap) (locs1 : List Loc) (v1 : vSt), v1 = fX11_leavesBench r v → Hp G d v1 x H1 → va_S (gA G) s.heap H1 locs1 → W p l e R s m args below meth c H1 locs1 cells slots Q (F0 m (pc + 3) ls rest)) : W p l e R s m args below meth c H locs cells slots Q (F0 m pc ls (.ref (ga G r) :: rest)) := c_mv X.2.2.2.2.2.2 (runV (k := 0) X.1 X.2.1 X.2.2.1 X.2.2.2.1 X.2.2.2.2.1 (mX11_leavesBench l G da v x r hk_r ho) pW_bl hml t_im_X11_leavesBench t_sel_X11_leavesBench t_ini_VernierDrawersModel t_code_X11_leavesBench ⟨rfl, by decide, by decide, by decide +kernel⟩ rfl rfl hR hcs (recvW X hH (by rw [hk_r]; decide) (by rw [hk_r]; decide) (ce_11 hk_r) rfl) (preW X hS hH) rfl hls rfl hsum hdg) hS kk
def fX11_toBench (r : Nat) (p1 : Int32) (v : vSt) : vSt := let v3 : vSt := u2 v 462 (183 + (v 462 (206 : Int32).toNatClampNeg) : Int32).toNatClampNeg p1; let v4 : vSt := u2 v3 462 (206 : Int32).toNatClampNeg ((v3 462 (206 : Int32).toNatClampNeg) + 1); v4
def oX11_toBench (r : Nat) (p1 : Int32) (v : vSt) : Prop := (vp_in (206) (mlen 462)) ∧ (vp_in (183 + (v 462 (206 : Int32).toNatClampNeg)) (mlen 462))
abbrev rmX11_toBench : Room := { frames := 0, cells := 0, slots := 0, locals := 0 }
theorem dX11_toBench_0 : decode cX11_toBench 0 = .ok (.aload_n 0, 1) := by decide +kernel
theorem dX11_toBench_1 : decode cX11_toBench 1 = .ok (.getfield 7, 3) := by decide +kernel
theorem dX11_toBench_4 : decode cX11_toBench 4 = .ok (.sipush 183, 3) := by decide +kernel
theorem dX11_toBench_7 : decode cX11_toBench 7 = .ok (.aload_n 0, 1) := by decide +kernel
theorem dX11_toBench_8 : decode cX11_toBench 8 = .ok (.getfield 7, 3) := by decide +kernel
theorem dX11_toBench_11 : decode cX11_toBench 11 = .ok (.sipush 206, 3) := by decide +kernel
theorem dX11_toBench_14 : decode cX11_toBench 14 = .ok (.iaload, 1) := by decide +kernel
theorem dX11_toBench_15 : decode cX11_toBench 15 = .ok (.iadd, 1) := by decide +kernel
theorem dX11_toBench_16 : decode cX11_toBench 16 = .ok (.iload_n 1, 1) := by decide +kernel
theorem dX11_toBench_17 : decode cX11_toBench 17 = .ok (.iastore, 1) := by decide +kernel
theorem dX11_toBench_18 : decode cX11_toBench 18 = .ok (.aload_n 0, 1) := by decide +kernel
theorem dX11_toBench_19 : decode cX11_toBench 19 = .ok (.getfield 7, 3) := by decide +kernel
theorem dX11_toBench_22 : decode cX11_toBench 22 = .ok (.sipush 206, 3) := by decide +kernel
theorem dX11_toBench_25 : decode cX11_toBench 25 = .ok (.dup2, 1) := by decide +kernel
theorem dX11_toBench_26 : decode cX11_toBench 26 = .ok (.iaload, 1) := by decide +kernel
theorem dX11_toBench_27 : decode cX11_toBench 27 = .ok (.iconst 1, 1) := by decide +kernel
theorem dX11_toBench_28 : decode cX11_toBench 28 = .ok (.iadd, 1) := by decide +kernel
theorem dX11_toBench_29 : decode cX11_toBench 29 = .ok (.iastore, 1) := by decide +kernel
theorem dX11_toBench_30 : decode cX11_toBench 30 = .ok (.return_, 1) := by decide +kernel
set_option maxHeartbeats 8000000 in
set_option maxRecDepth 100000 in
theorem mX11_toBench (l : Launch) (G : gG) (da : Nat → Nat) (v : vSt) (x : gX) (r : Nat) (hk_r : kd r = 11) (p1 : Int32) (ho : oX11_toBench r p1 v) : MV l yX11_toBench cX11_toBench 2 none rmX11_toBench [.ref (ga G r), .int p1] G da v x 0 0 (fX11_toBench r p1 v) x := by
  refine gofMV (own := RX11) (by decide) rfl (Nat.le_of_ble_eq_true rfl) (fun p e s m args below meth c ls Q X hH hl E => ?_)
  have hx := X.1
  have hb := X.2.1
  have hown := X.2.2.2.1
  have hts := X.2.2.2.2.1
  have hS : va_S (gA G) s.heap s.heap [] := va_S.rf
  unfold oX11_toBench at ho
  have hl : lv_has ls 2 [(0, .ref (ga G r)), (1, .int p1)] := hl
  refine lv_aload_n hx hb dX11_toBench_0 rfl (lv_at hl 0 rfl) ?_
  refine g_VernierDrawersModel_7 X hH hk_r dX11_toBench_1 ?_
  refine lv_sipush (v := 183) hx hb dX11_toBench_4 (by decide) ?_
  refine lv_aload_n hx hb dX11_toBench_7 rfl (lv_at hl 0 rfl) ?_
  refine g_VernierDrawersModel_7 X hH hk_r dX11_toBench_8 ?_
  refine lv_sipush (v := 206) hx hb dX11_toBench_11 (by decide) ?_
  have hq1 := ho.1
  have ho := ho.2
  refine ald_M X hH (Or.inl kd_462) hq1 dX11_toBench_14 ?_
  refine lv_iadd hx hb dX11_toBench_15 ?_
  refine lv_iload_n hx hb dX11_toBench_16 rfl (lv_at hl 1 rfl) ?_
  have hq2 := ho
  refine ast_M X hH hS (Or.inl kd_462) hq2 dX11_toBench_17 (fun H locs v3 ev3 hH hS => ?_)
  refine lv_aload_n hx hb dX11_toBench_18 rfl (lv_at hl 0 rfl) ?_
  refine g_VernierDrawersModel_7 X hH hk_r dX11_toBench_19 ?_
  refine lv_sipush (v := 206) hx hb dX11_toBench_22 (by decide) ?_
  refine lv_dup2_11 hx hb dX11_toBench_25 rfl rfl ?_
  refine ald_M X hH (Or.inl kd_462) hq1 dX11_toBench_26 ?_
  refine lv_iconst (v := 1) hx hb dX11_toBench_27 (by decide) ?_
  refine lv_iadd hx hb dX11_toBench_28 ?_
  refine ast_M X hH hS (Or.inl kd_462) hq1 dX11_toBench_29 (fun H locs v4 ev4 hH hS => ?_)
  replace ev3 := Eq.symm ev3
  replace ev4 := Eq.symm ev4
  subst ev3 ev4
  exact E _ _ _ _ _ _ _ _ dX11_toBench_30 (Eq.symm rfl) hH hS (Nat.zero_le _) (Nat.zero_le _)
theorem k_X11_toBench {p : Program} {l : Launch} {e : Env} {R : Room} {s : State} {m : MethodId} {args : Array Value} {below : List Frame} {meth : Method} {c : Code} {H : Heap} {locs : List Loc} {cells slots : Nat} {Q : State → Prop} {cc : ByteArray} {pc nL : Nat} {ls : Array Slot} {rest : List Value} {G : gG} {own : String} {da : Nat → Nat} {v : vSt} {x : gX} (X : CX G p s m args c cc nL own) (hS : va_S (gA G) s.heap H locs) (hH : Hp G da v x H) {r : Nat} (hk_r : kd r = 11) {p1 : Int32} (ho : oX11_toBench r p1 v) {idx : Nat} (hml : Cond.methodLink own idx yX11_toBench ∈ TT) (hls : ls.size = nL) (hsum : (rest.map fun v => v.category).sum ≤ 8) (hR : rmX11_toBench.frames + 1 ≤ R.frames ∧ 8 + (2 + 11) + rmX11_toBench.locals ≤ R.locals) (hcs : cells ≤ R.cells ∧ slots ≤ R.slots) (hdg : decode cc pc = .ok (.invokevirtual idx, 3)) (kk : ∀ (d : Nat → Nat) (H1 : Heap) (locs1 : List Loc) (v1 : vSt), v1 = fX11_toBench r p1 v → Hp G d v1 x H1 → va_S (gA G) s.heap H1 locs1 → W p l e R s m args below meth c H1 locs1 cells slots Q (F0 m (pc + 3) ls rest)) : W p l e R s m args below meth c H locs cells slots Q (F0 m pc ls (.int p1 :: .ref (ga G r) :: rest)) := c_mv X.2.2.2.2.2.2 (runV (k := 1) X.1 X.2.1 X.2.2.1 X.2.2.2.1 X.2.2.2.2.1 (mX11_toBench l G da v x r hk_r p1 ho) pW_bl hml t_im_X11_toBench t_sel_X11_toBench t_ini_VernierDrawersModel t_code_X11_toBench ⟨rfl, by decide, by decide, by decide +kernel⟩ rfl rfl hR hcs (recvW X hH (by rw [hk_r]; decide) (by rw [hk_r]; decide) (ce_11 hk_r) rfl) (preW X hS hH) rfl hls rfl hsum hdg) hS kk
def fX11_mannerThen (r : Nat) (p1 : Int32) (p2 : Int32) (v : vSt) : Int32 := if ((fX11_of r p1 4 v) : Int32) = 0 then (let y10 : Int32 := (if ((fX11_of r p1 5 v) : Int32) = 10 then (if ((fX11_of r p1 6 v) : Int32) = 0 then 1 else 0) else 0 : Int32); if ((fX11_ones ((fX11_of r p1 6 v) &&& 31)) : Int32) < 2 then (if (y10 : Int32) = 0 then 0 else 2) else 1) else (let y4 : Int32 := (if ((fX11_of r p1 4 v) : Int32) = 1 then (if ((fX11_of r p1 5 v) : Int32) < 5 then 0 else (if (((fX11_of r p1 6 v) &&& 31) : Int32) = 0 then 1 else 0)) else p2 : Int32); if (y4 : Int32) = 0 then (fX11_of r p1 4 v) else 0)
def oX11_mannerThen (r : Nat) (p1 : Int32) (p2 : Int32) (v : vSt) : Prop := (oX11_of r p1 6 v) ∧ ((oX11_of r p1 4 v) ∧ (((((fX11_of r p1 4 v) : Int32) = 0) → ((oX11_of r p1 5 v) ∧ ((∀ (y10 : Int32), y10 = ((if ((fX11_of r p1 5 v) : Int32) = 10 then (if ((fX11_of r p1 6 v) : Int32) = 0 then 1 else 0) else 0 : Int32) : Int32) → (oX11_ones ((fX11_of r p1 6 v) &&& 31)))))) ∧ (¬ (((fX11_of r p1 4 v) : Int32) = 0) → (((((fX11_of r p1 4 v) : Int32) = 1) → (oX11_of r p1 5 v))))))
abbrev rmX11_mannerThen : Room := { frames := 1, cells := 0, slots := 0, locals := 22 }
theorem dX11_mannerThen_0 : decode cX11_mannerThen 0 = .ok (.aload_n 0, 1) := by decide +kernel
theorem dX11_mannerThen_1 : decode cX11_mannerThen 1 = .ok (.iload_n 1, 1) := by decide +kernel
theorem dX11_mannerThen_2 : decode cX11_mannerThen 2 = .ok (.bipush 6, 2) := by decide +kernel
theorem dX11_mannerThen_4 : decode cX11_mannerThen 4 = .ok (.invokevirtual 90, 3) := by decide +kernel
theorem dX11_mannerThen_7 : decode cX11_mannerThen 7 = .ok (.bipush 31, 2) := by decide +kernel
theorem dX11_mannerThen_9 : decode cX11_mannerThen 9 = .ok (.iand, 1) := by decide +kernel
theorem dX11_mannerThen_10 : decode cX11_mannerThen 10 = .ok (.istore_n 3, 1) := by decide +kernel
theorem dX11_mannerThen_11 : decode cX11_mannerThen 11 = .ok (.aload_n 0, 1) := by decide +kernel
theorem dX11_mannerThen_12 : decode cX11_mannerThen 12 = .ok (.iload_n 1, 1) := by decide +kernel
theorem dX11_mannerThen_13 : decode cX11_mannerThen 13 = .ok (.iconst 4, 1) := by decide +kernel
theorem dX11_mannerThen_14 : decode cX11_mannerThen 14 = .ok (.invokevirtual 90, 3) := by decide +kernel
theorem dX11_mannerThen_17 : decode cX11_mannerThen 17 = .ok (.ifCond .ne 54, 3) := by decide +kernel
theorem dX11_mannerThen_20 : decode cX11_mannerThen 20 = .ok (.aload_n 0, 1) := by decide +kernel
theorem dX11_mannerThen_21 : decode cX11_mannerThen 21 = .ok (.iload_n 1, 1) := by decide +kernel
theorem dX11_mannerThen_22 : decode cX11_mannerThen 22 = .ok (.iconst 5, 1) := by decide +kernel
theorem dX11_mannerThen_23 : decode cX11_mannerThen 23 = .ok (.invokevirtual 90, 3) := by decide +kernel
theorem dX11_mannerThen_26 : decode cX11_mannerThen 26 = .ok (.bipush 10, 2) := by decide +kernel
theorem dX11_mannerThen_28 : decode cX11_mannerThen 28 = .ok (.if_icmp .ne 17, 3) := by decide +kernel
theorem dX11_mannerThen_31 : decode cX11_mannerThen 31 = .ok (.aload_n 0, 1) := by decide +kernel
theorem dX11_mannerThen_32 : decode cX11_mannerThen 32 = .ok (.iload_n 1, 1) := by decide +kernel
theorem dX11_mannerThen_33 : decode cX11_mannerThen 33 = .ok (.bipush 6, 2) := by decide +kernel
theorem dX11_mannerThen_35 : decode cX11_mannerThen 35 = .ok (.invokevirtual 90, 3) := by decide +kernel
theorem dX11_mannerThen_38 : decode cX11_mannerThen 38 = .ok (.ifCond .ne 7, 3) := by decide +kernel
theorem dX11_mannerThen_41 : decode cX11_mannerThen 41 = .ok (.iconst 1, 1) := by decide +kernel
theorem dX11_mannerThen_42 : decode cX11_mannerThen 42 = .ok (.goto 4, 3) := by decide +kernel
theorem dX11_mannerThen_45 : decode cX11_mannerThen 45 = .ok (.iconst 0, 1) := by decide +kernel
theorem dX11_mannerThen_46 : decode cX11_mannerThen 46 = .ok (.istore 4, 2) := by decide +kernel
theorem dX11_mannerThen_48 : decode cX11_mannerThen 48 = .ok (.iload_n 3, 1) := by decide +kernel
theorem dX11_mannerThen_49 : decode cX11_mannerThen 49 = .ok (.invokestatic 74, 3) := by decide +kernel
theorem dX11_mannerThen_52 : decode cX11_mannerThen 52 = .ok (.iconst 2, 1) := by decide +kernel
theorem dX11_mannerThen_53 : decode cX11_mannerThen 53 = .ok (.if_icmp .lt 7, 3) := by decide +kernel
theorem dX11_mannerThen_56 : decode cX11_mannerThen 56 = .ok (.iconst 1, 1) := by decide +kernel
theorem dX11_mannerThen_57 : decode cX11_mannerThen 57 = .ok (.goto 13, 3) := by decide +kernel
theorem dX11_mannerThen_60 : decode cX11_mannerThen 60 = .ok (.iload 4, 2) := by decide +kernel
theorem dX11_mannerThen_62 : decode cX11_mannerThen 62 = .ok (.ifCond .eq 7, 3) := by decide +kernel
theorem dX11_mannerThen_65 : decode cX11_mannerThen 65 = .ok (.iconst 2, 1) := by decide +kernel
theorem dX11_mannerThen_66 : decode cX11_mannerThen 66 = .ok (.goto 4, 3) := by decide +kernel
theorem dX11_mannerThen_69 : decode cX11_mannerThen 69 = .ok (.iconst 0, 1) := by decide +kernel
theorem dX11_mannerThen_70 : decode cX11_mannerThen 70 = .ok (.ireturn, 1) := by decide +kernel
theorem dX11_mannerThen_71 : decode cX11_mannerThen 71 = .ok (.aload_n 0, 1) := by decide +kernel
theorem dX11_mannerThen_72 : decode cX11_mannerThen 72 = .ok (.iload_n 1, 1) := by decide +kernel
theorem dX11_mannerThen_73 : decode cX11_mannerThen 73 = .ok (.iconst 4, 1) := by decide +kernel
theorem dX11_mannerThen_74 : decode cX11_mannerThen 74 = .ok (.invokevirtual 90, 3) := by decide +kernel
theorem dX11_mannerThen_77 : decode cX11_mannerThen 77 = .ok (.iconst 1, 1) := by decide +kernel
theorem dX11_mannerThen_78 : decode cX11_mannerThen 78 = .ok (.if_icmp .ne 25, 3) := by decide +kernel
theorem dX11_mannerThen_81 : decode cX11_mannerThen 81 = .ok (.aload_n 0, 1) := by decide +kernel
theorem dX11_mannerThen_82 : decode cX11_mannerThen 82 = .ok (.iload_n 1, 1) := by decide +kernel
theorem dX11_mannerThen_83 : decode cX11_mannerThen 83 = .ok (.iconst 5, 1) := by decide +kernel
theorem dX11_mannerThen_84 : decode cX11_mannerThen 84 = .ok (.invokevirtual 90, 3) := by decide +kernel
theorem dX11_mannerThen_87 : decode cX11_mannerThen 87 = .ok (.iconst 5, 1) := by decide +kernel
theorem dX11_mannerThen_88 : decode cX11_mannerThen 88 = .ok (.if_icmp .lt 11, 3) := by decide +kernel
theorem dX11_mannerThen_91 : decode cX11_mannerThen 91 = .ok (.iload_n 3, 1) := by decide +kernel
theorem dX11_mannerThen_92 : decode cX11_mannerThen 92 = .ok (.ifCond .ne 7, 3) := by decide +kernel
theorem dX11_mannerThen_95 : decode cX11_mannerThen 95 = .ok (.iconst 1, 1) := by decide +kernel
theorem dX11_mannerThen_96 : decode cX11_mannerThen 96 = .ok (.goto 8, 3) := by decide +kernel
theorem dX11_mannerThen_99 : decode cX11_mannerThen 99 = .ok (.iconst 0, 1) := by decide +kernel
theorem dX11_mannerThen_100 : decode cX11_mannerThen 100 = .ok (.goto 4, 3) := by decide +kernel
theorem dX11_mannerThen_103 : decode cX11_mannerThen 103 = .ok (.iload_n 2, 1) := by decide +kernel
theorem dX11_mannerThen_104 : decode cX11_mannerThen 104 = .ok (.istore 4, 2) := by decide +kernel
theorem dX11_mannerThen_106 : decode cX11_mannerThen 106 = .ok (.iload 4, 2) := by decide +kernel
theorem dX11_mannerThen_108 : decode cX11_mannerThen 108 = .ok (.ifCond .eq 7, 3) := by decide +kernel
theorem dX11_mannerThen_111 : decode cX11_mannerThen 111 = .ok (.iconst 0, 1) := by decide +kernel
theorem dX11_mannerThen_112 : decode cX11_mannerThen 112 = .ok (.goto 9, 3) := by decide +kernel
theorem dX11_mannerThen_115 : decode cX11_mannerThen 115 = .ok (.aload_n 0, 1) := by decide +kernel
theorem dX11_mannerThen_116 : decode cX11_mannerThen 116 = .ok (.iload_n 1, 1) := by decide +kernel
theorem dX11_mannerThen_117 : decode cX11_mannerThen 117 = .ok (.iconst 4, 1) := by decide +kernel
theorem dX11_mannerThen_118 : decode cX11_mannerThen 118 = .ok (.invokevirtual 90, 3) := by decide +kernel
theorem dX11_mannerThen_121 : decode cX11_mannerThen 121 = .ok (.ireturn, 1) := by decide +kernel
set_option maxHeartbeats 8000000 in
set_option maxRecDepth 100000 in
theorem mX11_mannerThen (l : Launch) (G : gG) (da : Nat → Nat) (v : vSt) (x : gX) (r : Nat) (hk_r : kd r = 11) (p1 : Int32) (p2 : Int32) (ho : oX11_mannerThen r p1 p2 v) : QI l yX11_mannerThen cX11_mannerThen 5 (some .int) rmX11_mannerThen [.ref (ga G r), .int p1, .int p2] (pW G da v x) (fX11_mannerThen r p1 p2 v) := by
  refine gofQ (own := RX11) (by decide) rfl (Nat.le_of_ble_eq_true rfl) (fun p e s m args below meth c ls Q X hH hl E => ?_)
  have hx := X.1
  have hb := X.2.1
  have hown := X.2.2.2.1
  have hts := X.2.2.2.2.1
  have hS : va_S (gA G) s.heap s.heap [] := va_S.rf
  unfold oX11_mannerThen at ho
  have hl : lv_has ls 5 [(0, .ref (ga G r)), (1, .int p1), (2, .int p2)] := hl
  refine lv_aload_n hx hb dX11_mannerThen_0 rfl (lv_at hl 0 rfl) ?_
  refine lv_iload_n hx hb dX11_mannerThen_1 rfl (lv_at hl 1 rfl) ?_
  refine lv_bipush (v := 6) hx hb dX11_mannerThen_2 (by decide) ?_
  have hq1 := ho.1
  have ho := ho.2
  refine k_X11_of X hS hH hk_r hq1 t_ml_VernierDrawersModel_90 hl.1 (Nat.le_of_ble_eq_true rfl) ⟨Nat.le_of_ble_eq_true rfl, Nat.le_of_ble_eq_true rfl⟩ ⟨Nat.zero_le _, Nat.zero_le _⟩ dX11_mannerThen_4 ?_
  refine lv_bipush (v := 31) hx hb dX11_mannerThen_7 (by decide) ?_
  refine lv_iand hx hb dX11_mannerThen_9 ?_
  refine lv_istore_n (lv' := [(3, .int ((fX11_of r p1 6 v) &&& 31)), (0, .ref (ga G r)), (1, .int p1), (2, .int p2)]) hx hb dX11_mannerThen_10 rfl hl (by decide) rfl (fun ls hl => ?_)
  refine lv_aload_n hx hb dX11_mannerThen_11 rfl (lv_at hl 1 rfl) ?_
  refine lv_iload_n hx hb dX11_mannerThen_12 rfl (lv_at hl 2 rfl) ?_
  refine lv_iconst (v := 4) hx hb dX11_mannerThen_13 (by decide) ?_
  have hq2 := ho.1
  have ho := ho.2
  refine k_X11_of X hS hH hk_r hq2 t_ml_VernierDrawersModel_90 hl.1 (Nat.le_of_ble_eq_true rfl) ⟨Nat.le_of_ble_eq_true rfl, Nat.le_of_ble_eq_true rfl⟩ ⟨Nat.zero_le _, Nat.zero_le _⟩ dX11_mannerThen_14 ?_
  refine lv_if_ne (tgt := 71) hx hb dX11_mannerThen_17 (by decide) (fun c3 => ?_) (fun c3 => ?_)
  · have ho := ho.2 c3
    refine lv_aload_n hx hb dX11_mannerThen_71 rfl (lv_at hl 1 rfl) ?_
    refine lv_iload_n hx hb dX11_mannerThen_72 rfl (lv_at hl 2 rfl) ?_
    refine lv_iconst (v := 4) hx hb dX11_mannerThen_73 (by decide) ?_
    refine k_X11_of X hS hH hk_r hq2 t_ml_VernierDrawersModel_90 hl.1 (Nat.le_of_ble_eq_true rfl) ⟨Nat.le_of_ble_eq_true rfl, Nat.le_of_ble_eq_true rfl⟩ ⟨Nat.zero_le _, Nat.zero_le _⟩ dX11_mannerThen_74 ?_
    refine lv_iconst (v := 1) hx hb dX11_mannerThen_77 (by decide) ?_
    have K5 : ∀ (y4 : Int32) (ls : Array Slot), y4 = (if ((fX11_of r p1 4 v) : Int32) = 1 then (if ((fX11_of r p1 5 v) : Int32) < 5 then 0 else (if (((fX11_of r p1 6 v) &&& 31) : Int32) = 0 then 1 else 0)) else p2 : Int32) → lv_has ls 5 [(0, .ref (ga G r)), (1, .int p1)] → W p l e rmX11_mannerThen s m args below meth c s.heap [] 0 0 Q (F0 m 104 ls [.int y4]) := by
      intro y4 ls ey4 hl
      refine lv_istore (lv' := [(4, .int y4), (0, .ref (ga G r)), (1, .int p1)]) hx hb dX11_mannerThen_104 hl (by decide) rfl (fun ls hl => ?_)
      refine lv_iload hx hb dX11_mannerThen_106 (lv_at hl 0 rfl) ?_
      refine lv_if_eq (tgt := 115) hx hb dX11_mannerThen_108 (by decide) (fun c6 => ?_) (fun c6 => ?_)
      · skip
        refine lv_aload_n hx hb dX11_mannerThen_115 rfl (lv_at hl 1 rfl) ?_
        refine lv_iload_n hx hb dX11_mannerThen_116 rfl (lv_at hl 2 rfl) ?_
        refine lv_iconst (v := 4) hx hb dX11_mannerThen_117 (by decide) ?_
        refine k_X11_of X hS hH hk_r hq2 t_ml_VernierDrawersModel_90 hl.1 (Nat.le_of_ble_eq_true rfl) ⟨Nat.le_of_ble_eq_true rfl, Nat.le_of_ble_eq_true rfl⟩ ⟨Nat.zero_le _, Nat.zero_le _⟩ dX11_mannerThen_118 ?_
        replace ey4 := Eq.symm ey4
        subst ey4
        exact E _ _ _ dX11_mannerThen_121 rfl (Eq.symm ((fX11_mannerThen.eq_1 _ _ _ _).trans ((if_neg c3).trans ((if_pos c6).trans rfl))))
      · skip
        refine lv_iconst (v := 0) hx hb dX11_mannerThen_111 (by decide) ?_
        refine lv_goto (tgt := 121) hx hb dX11_mannerThen_112 (by decide) ?_
        replace ey4 := Eq.symm ey4
        subst ey4
        exact E _ _ _ dX11_mannerThen_121 rfl (Eq.symm ((fX11_mannerThen.eq_1 _ _ _ _).trans ((if_neg c3).trans ((if_neg c6).trans rfl))))
    refine lv_icmp_ne (tgt := 103) hx hb dX11_mannerThen_78 (by decide) (fun c5 => ?_) (fun c5 => ?_)
    · skip
      refine lv_iload_n hx hb dX11_mannerThen_103 rfl (lv_at hl 3 rfl) ?_
      exact K5 _ _ (Eq.symm ((if_neg c5).trans rfl)) (lv_sub hl [1, 2] rfl)
    · have ho := ho c5
      refine lv_aload_n hx hb dX11_mannerThen_81 rfl (lv_at hl 1 rfl) ?_
      refine lv_iload_n hx hb dX11_mannerThen_82 rfl (lv_at hl 2 rfl) ?_
      refine lv_iconst (v := 5) hx hb dX11_mannerThen_83 (by decide) ?_
      have hq6 := ho
      refine k_X11_of X hS hH hk_r hq6 t_ml_VernierDrawersModel_90 hl.1 (Nat.le_of_ble_eq_true rfl) ⟨Nat.le_of_ble_eq_true rfl, Nat.le_of_ble_eq_true rfl⟩ ⟨Nat.zero_le _, Nat.zero_le _⟩ dX11_mannerThen_84 ?_
      refine lv_iconst (v := 5) hx hb dX11_mannerThen_87 (by decide) ?_
      refine lv_icmp_lt (tgt := 99) hx hb dX11_mannerThen_88 (by decide) (fun c7 => ?_) (fun c7 => ?_)
      · skip
        refine lv_iconst (v := 0) hx hb dX11_mannerThen_99 (by decide) ?_
        refine lv_goto (tgt := 104) hx hb dX11_mannerThen_100 (by decide) ?_
        exact K5 _ _ (Eq.symm ((if_pos c5).trans ((if_pos c7).trans rfl))) (lv_sub hl [1, 2] rfl)
      · skip
        refine lv_iload_n hx hb dX11_mannerThen_91 rfl (lv_at hl 0 rfl) ?_
        refine lv_if_ne (tgt := 99) hx hb dX11_mannerThen_92 (by decide) (fun c8 => ?_) (fun c8 => ?_)
        · skip
          refine lv_iconst (v := 0) hx hb dX11_mannerThen_99 (by decide) ?_
          refine lv_goto (tgt := 104) hx hb dX11_mannerThen_100 (by decide) ?_
          exact K5 _ _ (Eq.symm ((if_pos c5).trans ((if_neg c7).trans ((if_neg c8).trans rfl)))) (lv_sub hl [1, 2] rfl)
        · skip
          refine lv_iconst (v := 1) hx hb dX11_mannerThen_95 (by decide) ?_
          refine lv_goto (tgt := 104) hx hb dX11_mannerThen_96 (by decide) ?_
          exact K5 _ _ (Eq.symm ((if_pos c5).trans ((if_neg c7).trans ((if_pos c8).trans rfl)))) (lv_sub hl [1, 2] rfl)
  · have ho := ho.1 c3
    refine lv_aload_n hx hb dX11_mannerThen_20 rfl (lv_at hl 1 rfl) ?_
    refine lv_iload_n hx hb dX11_mannerThen_21 rfl (lv_at hl 2 rfl) ?_
    refine lv_iconst (v := 5) hx hb dX11_mannerThen_22 (by decide) ?_
    have hq9 := ho.1
    have ho := ho.2
    refine k_X11_of X hS hH hk_r hq9 t_ml_VernierDrawersModel_90 hl.1 (Nat.le_of_ble_eq_true rfl) ⟨Nat.le_of_ble_eq_true rfl, Nat.le_of_ble_eq_true rfl⟩ ⟨Nat.zero_le _, Nat.zero_le _⟩ dX11_mannerThen_23 ?_
    refine lv_bipush (v := 10) hx hb dX11_mannerThen_26 (by decide) ?_
    have K11 : ∀ (y10 : Int32) (ls : Array Slot), y10 = (if ((fX11_of r p1 5 v) : Int32) = 10 then (if ((fX11_of r p1 6 v) : Int32) = 0 then 1 else 0) else 0 : Int32) → lv_has ls 5 [(3, .int ((fX11_of r p1 6 v) &&& 31))] → W p l e rmX11_mannerThen s m args below meth c s.heap [] 0 0 Q (F0 m 46 ls [.int y10]) := by
      intro y10 ls ey10 hl
      have ho := ho y10 ey10
      refine lv_istore (lv' := [(4, .int y10), (3, .int ((fX11_of r p1 6 v) &&& 31))]) hx hb dX11_mannerThen_46 hl (by decide) rfl (fun ls hl => ?_)
      refine lv_iload_n hx hb dX11_mannerThen_48 rfl (lv_at hl 1 rfl) ?_
      have hq12 := ho
      refine k_X11_ones X hS hq12 t_ml_VernierDrawersModel_74 hl.1 (Nat.le_of_ble_eq_true rfl) ⟨Nat.le_of_ble_eq_true rfl, Nat.le_of_ble_eq_true rfl⟩ ⟨Nat.zero_le _, Nat.zero_le _⟩ dX11_mannerThen_49 ?_
      refine lv_iconst (v := 2) hx hb dX11_mannerThen_52 (by decide) ?_
      refine lv_icmp_lt (tgt := 60) hx hb dX11_mannerThen_53 (by decide) (fun c13 => ?_) (fun c13 => ?_)
      · skip
        refine lv_iload hx hb dX11_mannerThen_60 (lv_at hl 0 rfl) ?_
        refine lv_if_eq (tgt := 69) hx hb dX11_mannerThen_62 (by decide) (fun c14 => ?_) (fun c14 => ?_)
        · skip
          refine lv_iconst (v := 0) hx hb dX11_mannerThen_69 (by decide) ?_
          replace ey10 := Eq.symm ey10
          subst ey10
          exact E _ _ _ dX11_mannerThen_70 rfl (Eq.symm ((fX11_mannerThen.eq_1 _ _ _ _).trans ((if_pos c3).trans ((if_pos c13).trans ((if_pos c14).trans rfl)))))
        · skip
          refine lv_iconst (v := 2) hx hb dX11_mannerThen_65 (by decide) ?_
          refine lv_goto (tgt := 70) hx hb dX11_mannerThen_66 (by decide) ?_
          replace ey10 := Eq.symm ey10
          subst ey10
          exact E _ _ _ dX11_mannerThen_70 rfl (Eq.symm ((fX11_mannerThen.eq_1 _ _ _ _).trans ((if_pos c3).trans ((if_pos c13).trans ((if_neg c14).trans rfl)))))
      · skip
        refine lv_iconst (v := 1) hx hb dX11_mannerThen_56 (by decide) ?_
        refine lv_goto (tgt := 70) hx hb dX11_mannerThen_57 (by decide) ?_
        replace ey10 := Eq.symm ey10
        subst ey10
        exact E _ _ _ dX11_mannerThen_70 rfl (Eq.symm ((fX11_mannerThen.eq_1 _ _ _ _).trans ((if_pos c3).trans ((if_neg c13).trans rfl))))
    refine lv_icmp_ne (tgt := 45) hx hb dX11_mannerThen_28 (by decide) (fun c11 => ?_) (fun c11 => ?_)
    · skip
      refine lv_iconst (v := 0) hx hb dX11_mannerThen_45 (by decide) ?_
      exact K11 _ _ (Eq.symm ((if_neg c11).trans rfl)) (lv_sub hl [0] rfl)
    · skip
      refine lv_aload_n hx hb dX11_mannerThen_31 rfl (lv_at hl 1 rfl) ?_
      refine lv_iload_n hx hb dX11_mannerThen_32 rfl (lv_at hl 2 rfl) ?_
      refine lv_bipush (v := 6) hx hb dX11_mannerThen_33 (by decide) ?_
      refine k_X11_of X hS hH hk_r hq1 t_ml_VernierDrawersModel_90 hl.1 (Nat.le_of_ble_eq_true rfl) ⟨Nat.le_of_ble_eq_true rfl, Nat.le_of_ble_eq_true rfl⟩ ⟨Nat.zero_le _, Nat.zero_le _⟩ dX11_mannerThen_35 ?_
      refine lv_if_ne (tgt := 45) hx hb dX11_mannerThen_38 (by decide) (fun c12 => ?_) (fun c12 => ?_)
      · skip
        refine lv_iconst (v := 0) hx hb dX11_mannerThen_45 (by decide) ?_
        exact K11 _ _ (Eq.symm ((if_pos c11).trans ((if_neg c12).trans rfl))) (lv_sub hl [0] rfl)
      · skip
        refine lv_iconst (v := 1) hx hb dX11_mannerThen_41 (by decide) ?_
        refine lv_goto (tgt := 46) hx hb dX11_mannerThen_42 (by decide) ?_
        exact K11 _ _ (Eq.symm ((if_pos c11).trans ((if_pos c12).trans rfl))) (lv_sub hl [0] rfl)
theorem k_X11_mannerThen {p : Program} {l : Launch} {e : Env} {R : Room} {s : State} {m : MethodId} {args : Array Value} {below : List Frame} {meth : Method} {c : Code} {H : Heap} {locs : List Loc} {cells slots : Nat} {Q : State → Prop} {cc : ByteArray} {pc nL : Nat} {ls : Array Slot} {rest : List Value} {G : gG} {own : String} {da : Nat → Nat} {v : vSt} {x : gX} (X : CX G p s m args c cc nL own) (hS : va_S (gA G) s.heap H locs) (hH : Hp G da v x H) {r : Nat} (hk_r : kd r = 11) {p1 : Int32} {p2 : Int32} (ho : oX11_mannerThen r p1 p2 v) {idx : Nat} (hml : Cond.methodLink own idx yX11_mannerThen ∈ TT) (hls : ls.size = nL) (hsum : (rest.map fun v => v.category).sum ≤ 8) (hR : rmX11_mannerThen.frames + 1 ≤ R.frames ∧ 8 + (5 + 11) + rmX11_mannerThen.locals ≤ R.locals) (hcs : cells ≤ R.cells ∧ slots ≤ R.slots) (hdg : decode cc pc = .ok (.invokevirtual idx, 3)) (kk : W p l e R s m args below meth c H locs cells slots Q (F0 m (pc + 3) ls (.int (fX11_mannerThen r p1 p2 v) :: rest))) : W p l e R s m args below meth c H locs cells slots Q (F0 m pc ls (.int p2 :: .int p1 :: .ref (ga G r) :: rest)) := c_qi (runV (k := 2) X.1 X.2.1 X.2.2.1 X.2.2.2.1 X.2.2.2.2.1 (mX11_mannerThen l G da v x r hk_r p1 p2 ho) pW_bl hml t_im_X11_mannerThen t_sel_X11_mannerThen t_ini_VernierDrawersModel t_code_X11_mannerThen ⟨rfl, by decide, by decide, by decide +kernel⟩ rfl rfl hR hcs (recvW X hH (by rw [hk_r]; decide) (by rw [hk_r]; decide) (ce_11 hk_r) rfl) (preW X hS hH) rfl hls rfl hsum hdg) (fun _ h => h ▸ kk)
