/-! floats: share, the model. -/
def fX10_share (p1 : Int32) (p2 : Int32) (v : vSt) : UInt32 := if (p2 : Int32) = 0 then FP.fconst0 else (FP.fdiv (FP.i2f p1) (FP.i2f p2))
def oX10_share (p1 : Int32) (p2 : Int32) (v : vSt) : Prop := ¬ ((p2 : Int32) = 0) → (vf_n32 (FP.fdiv (FP.i2f p1) (FP.i2f p2)))
abbrev rmX10_share : Room := { frames := 0, cells := 0, slots := 0, locals := 0 }
theorem dX10_share_0 : decode cX10_share 0 = .ok (.iload_n 1, 1) := by decide +kernel
theorem dX10_share_1 : decode cX10_share 1 = .ok (.ifCond .ne 7, 3) := by decide +kernel
theorem dX10_share_4 : decode cX10_share 4 = .ok (.fconst 0, 1) := by decide +kernel
theorem dX10_share_5 : decode cX10_share 5 = .ok (.goto 8, 3) := by decide +kernel
theorem dX10_share_8 : decode cX10_share 8 = .ok (.iload_n 0, 1) := by decide +kernel
theorem dX10_share_9 : decode cX10_share 9 = .ok (.i2f, 1) := by decide +kernel
theorem dX10_share_10 : decode cX10_share 10 = .ok (.iload_n 1, 1) := by decide +kernel
theorem dX10_share_11 : decode cX10_share 11 = .ok (.i2f, 1) := by decide +kernel
theorem dX10_share_12 : decode cX10_share 12 = .ok (.fdiv, 1) := by decide +kernel
theorem dX10_share_13 : decode cX10_share 13 = .ok (.freturn, 1) := by decide +kernel
set_option maxHeartbeats 8000000 in
set_option maxRecDepth 100000 in
theorem mX10_share (l : Launch) (G : gG) (da : Nat → Nat) (v : vSt) (x : gX) (p1 : Int32) (p2 : Int32) (ho : oX10_share p1 p2 v) : MF l yX10_share cX10_share 2 (some .float) rmX10_share [.int p1, .int p2] G da v x 0 0 (fX10_share p1 p2 v) v x := by
  refine gofMF (own := RX10) (by decide) rfl (Nat.le_of_ble_eq_true rfl) (fun p e s m args below meth c ls Q X hH hl E => ?_)
  have hx := X.1
  have hb := X.2.1
  have hown := X.2.2.2.1
  have hts := X.2.2.2.2.1
  have hS : va_S (gA G) s.heap s.heap [] := va_S.rf
  unfold oX10_share at ho
  have hl : lv_has ls 2 [(0, .int p1), (1, .int p2)] := hl
  refine lv_iload_n hx hb dX10_share_0 rfl (lv_at hl 1 rfl) ?_
  refine lv_if_ne (tgt := 8) hx hb dX10_share_1 (by decide) (fun c1 => ?_) (fun c1 => ?_)
  · have ho := ho c1
    refine lv_iload_n hx hb dX10_share_8 rfl (lv_at hl 0 rfl) ?_
    refine lv_i2f hx hb dX10_share_9 ?_
    refine lv_iload_n hx hb dX10_share_10 rfl (lv_at hl 1 rfl) ?_
    refine lv_i2f hx hb dX10_share_11 ?_
    have hq2 := ho
    refine lv_fdiv hx hb dX10_share_12 hq2 ?_
    exact E _ _ _ _ _ _ _ _ _ dX10_share_13 (Eq.symm ((fX10_share.eq_1 _ _ _).trans ((if_neg c1).trans rfl))) rfl hH hS (Nat.zero_le _) (Nat.zero_le _)
  · skip
    refine lv_fconst0 hx hb dX10_share_4 ?_
    refine lv_goto (tgt := 13) hx hb dX10_share_5 (by decide) ?_
    exact E _ _ _ _ _ _ _ _ _ dX10_share_13 (Eq.symm ((fX10_share.eq_1 _ _ _).trans ((if_pos c1).trans rfl))) rfl hH hS (Nat.zero_le _) (Nat.zero_le _)
theorem k_X10_share {p : Program} {l : Launch} {e : Env} {R : Room} {s : State} {m : MethodId} {args : Array Value} {below : List Frame} {meth : Method} {c : Code} {H : Heap} {locs : List Loc} {cells slots : Nat} {Q : State → Prop} {cc : ByteArray} {pc nL : Nat} {ls : Array Slot} {rest : List Value} {G : gG} {own : String} {da : Nat → Nat} {v : vSt} {x : gX} (X : CX G p s m args c cc nL own) (hS : va_S (gA G) s.heap H locs) (hH : Hp G da v x H) {p1 : Int32} {p2 : Int32} (ho : oX10_share p1 p2 v) {idx : Nat} (hml : Cond.methodLink own idx yX10_share ∈ TT) (hls : ls.size = nL) (hsum : (rest.map fun v => v.category).sum ≤ 8) (hR : rmX10_share.frames + 1 ≤ R.frames ∧ 8 + (2 + 11) + rmX10_share.locals ≤ R.locals) (hcs : cells ≤ R.cells ∧ slots ≤ R.slots) (hdg : decode cc pc = .ok (.invokestatic idx, 3)) (kk : ∀ (d : Nat → Nat) (H1 : Heap) (locs1 : List Loc), Hp G d v x H1 → va_S (gA G) s.heap H1 locs1 → W p l e R s m args below meth c H1 locs1 cells slots Q (F0 m (pc + 3) ls (.float (fX10_share p1 p2 v) :: rest))) : W p l e R s m args below meth c H locs cells slots Q (F0 m pc ls (.int p2 :: .int p1 :: rest)) := c_mf X.2.2.2.2.2.2 (runS (k := 2) X.1 X.2.1 X.2.2.1 X.2.2.2.1 X.2.2.2.2.1 (mX10_share l G da v x p1 p2 ho) pW_bl hml t_st_X10_share t_ini_VernierDrawers t_code_X10_share ⟨by decide, by decide, by decide +kernel⟩ rfl rfl hR hcs (preW X hS hH) rfl hls rfl hsum hdg) hS (fun d9 H9 L9 v9 e9 hH9 => kk d9 H9 L9 (by subst e9; exact hH9))
def lX11_meanOf_15 (r : Nat) (p1 : Int32) (v2 : vSt) : Nat → Int32 → Int32 → Int32
  | 0, i4, i5 => i5
  | n + 1, i4, i5 => if ((fX11_of r p1 8 v2) : Int32) ≤ i4 then i5 else (lX11_meanOf_15 r p1 v2 n (i4 + 1) (i5 + (fX11_onChart r p1 i4 v2)))
def olX11_meanOf_15 (r : Nat) (p1 : Int32) (v2 : vSt) : Nat → Int32 → Int32 → Prop
  | 0, _, _ => False
  | n + 1, i4, i5 => (oX11_of r p1 8 v2) ∧ (¬ (((fX11_of r p1 8 v2) : Int32) ≤ i4) → ((oX11_onChart r p1 i4 v2) ∧ (olX11_meanOf_15 r p1 v2 n (i4 + 1) (i5 + (fX11_onChart r p1 i4 v2)))))
def fX11_meanOf (r : Nat) (p1 : Int32) (v : vSt) : UInt32 × vSt := let v2 : vSt := (fX11_asksChart r p1 0 v).2; if (((fX11_asksChart r p1 0 v).1) : Int32) = 0 then ((FP.fconst0, v2)) else (let y6 : Int32 := (lX11_meanOf_15 r p1 v2 ((Int32.toInt ((fX11_of r p1 8 v2)) - Int32.toInt 0).toNat + 1) 0 0); (FP.fdiv (FP.i2f y6) (FP.i2f (fX11_of r p1 8 v2)), v2))
def oX11_meanOf (r : Nat) (p1 : Int32) (v : vSt) : Prop := (oX11_asksChart r p1 0 v) ∧ (∀ v2 : vSt, v2 = ((fX11_asksChart r p1 0 v).2) → (¬ ((((fX11_asksChart r p1 0 v).1) : Int32) = 0) → (olX11_meanOf_15 r p1 v2 ((Int32.toInt ((fX11_of r p1 8 v2)) - Int32.toInt 0).toNat + 1) 0 0 ∧ (∀ (y6 : Int32), y6 = ((lX11_meanOf_15 r p1 v2 ((Int32.toInt ((fX11_of r p1 8 v2)) - Int32.toInt 0).toNat + 1) 0 0) : Int32) → ((oX11_of r p1 8 v2) ∧ (vf_n32 (FP.fdiv (FP.i2f y6) (FP.i2f (fX11_of r p1 8 v2)))))))))
abbrev rmX11_meanOf : Room := { frames := 3, cells := 0, slots := 0, locals := 65 }
theorem dX11_meanOf_0 : decode cX11_meanOf 0 = .ok (.aload_n 0, 1) := by decide +kernel
theorem dX11_meanOf_1 : decode cX11_meanOf 1 = .ok (.iload_n 1, 1) := by decide +kernel
theorem dX11_meanOf_2 : decode cX11_meanOf 2 = .ok (.iconst 0, 1) := by decide +kernel
theorem dX11_meanOf_3 : decode cX11_meanOf 3 = .ok (.invokevirtual 242, 3) := by decide +kernel
theorem dX11_meanOf_6 : decode cX11_meanOf 6 = .ok (.ifCond .ne 5, 3) := by decide +kernel
theorem dX11_meanOf_9 : decode cX11_meanOf 9 = .ok (.fconst 0, 1) := by decide +kernel
theorem dX11_meanOf_10 : decode cX11_meanOf 10 = .ok (.freturn, 1) := by decide +kernel
theorem dX11_meanOf_11 : decode cX11_meanOf 11 = .ok (.iconst 0, 1) := by decide +kernel
theorem dX11_meanOf_12 : decode cX11_meanOf 12 = .ok (.istore_n 2, 1) := by decide +kernel
theorem dX11_meanOf_13 : decode cX11_meanOf 13 = .ok (.iconst 0, 1) := by decide +kernel
theorem dX11_meanOf_14 : decode cX11_meanOf 14 = .ok (.istore_n 3, 1) := by decide +kernel
theorem dX11_meanOf_15 : decode cX11_meanOf 15 = .ok (.iload_n 3, 1) := by decide +kernel
theorem dX11_meanOf_16 : decode cX11_meanOf 16 = .ok (.aload_n 0, 1) := by decide +kernel
theorem dX11_meanOf_17 : decode cX11_meanOf 17 = .ok (.iload_n 1, 1) := by decide +kernel
theorem dX11_meanOf_18 : decode cX11_meanOf 18 = .ok (.bipush 8, 2) := by decide +kernel
theorem dX11_meanOf_20 : decode cX11_meanOf 20 = .ok (.invokevirtual 90, 3) := by decide +kernel
theorem dX11_meanOf_23 : decode cX11_meanOf 23 = .ok (.if_icmp .ge 18, 3) := by decide +kernel
theorem dX11_meanOf_26 : decode cX11_meanOf 26 = .ok (.iload_n 2, 1) := by decide +kernel
theorem dX11_meanOf_27 : decode cX11_meanOf 27 = .ok (.aload_n 0, 1) := by decide +kernel
theorem dX11_meanOf_28 : decode cX11_meanOf 28 = .ok (.iload_n 1, 1) := by decide +kernel
theorem dX11_meanOf_29 : decode cX11_meanOf 29 = .ok (.iload_n 3, 1) := by decide +kernel
theorem dX11_meanOf_30 : decode cX11_meanOf 30 = .ok (.invokevirtual 123, 3) := by decide +kernel
theorem dX11_meanOf_33 : decode cX11_meanOf 33 = .ok (.iadd, 1) := by decide +kernel
theorem dX11_meanOf_34 : decode cX11_meanOf 34 = .ok (.istore_n 2, 1) := by decide +kernel
theorem dX11_meanOf_35 : decode cX11_meanOf 35 = .ok (.iinc 3 1, 3) := by decide +kernel
theorem dX11_meanOf_38 : decode cX11_meanOf 38 = .ok (.goto (-23), 3) := by decide +kernel
theorem dX11_meanOf_41 : decode cX11_meanOf 41 = .ok (.iload_n 2, 1) := by decide +kernel
theorem dX11_meanOf_42 : decode cX11_meanOf 42 = .ok (.i2f, 1) := by decide +kernel
theorem dX11_meanOf_43 : decode cX11_meanOf 43 = .ok (.aload_n 0, 1) := by decide +kernel
theorem dX11_meanOf_44 : decode cX11_meanOf 44 = .ok (.iload_n 1, 1) := by decide +kernel
theorem dX11_meanOf_45 : decode cX11_meanOf 45 = .ok (.bipush 8, 2) := by decide +kernel
theorem dX11_meanOf_47 : decode cX11_meanOf 47 = .ok (.invokevirtual 90, 3) := by decide +kernel
theorem dX11_meanOf_50 : decode cX11_meanOf 50 = .ok (.i2f, 1) := by decide +kernel
theorem dX11_meanOf_51 : decode cX11_meanOf 51 = .ok (.fdiv, 1) := by decide +kernel
theorem dX11_meanOf_52 : decode cX11_meanOf 52 = .ok (.freturn, 1) := by decide +kernel
set_option maxHeartbeats 8000000 in
set_option maxRecDepth 100000 in
theorem mX11_meanOf (l : Launch) (G : gG) (da : Nat → Nat) (v : vSt) (x : gX) (r : Nat) (hk_r : kd r = 11) (p1 : Int32) (ho : oX11_meanOf r p1 v) : MF l yX11_meanOf cX11_meanOf 4 (some .float) rmX11_meanOf [.ref (ga G r), .int p1] G da v x 0 0 (fX11_meanOf r p1 v).1 (fX11_meanOf r p1 v).2 x := by
  refine gofMF (own := RX11) (by decide) rfl (Nat.le_of_ble_eq_true rfl) (fun p e s m args below meth c ls Q X hH hl E => ?_)
  have hx := X.1
  have hb := X.2.1
  have hown := X.2.2.2.1
  have hts := X.2.2.2.2.1
  have hS : va_S (gA G) s.heap s.heap [] := va_S.rf
  unfold oX11_meanOf at ho
  have hl : lv_has ls 4 [(0, .ref (ga G r)), (1, .int p1)] := hl
  refine lv_aload_n hx hb dX11_meanOf_0 rfl (lv_at hl 0 rfl) ?_
  refine lv_iload_n hx hb dX11_meanOf_1 rfl (lv_at hl 1 rfl) ?_
  refine lv_iconst (v := 0) hx hb dX11_meanOf_2 (by decide) ?_
  have hq1 := ho.1
  have ho := ho.2
  refine k_X11_asksChart X hS hH hk_r hq1 t_ml_VernierDrawersModel_242 hl.1 (Nat.le_of_ble_eq_true rfl) ⟨Nat.le_of_ble_eq_true rfl, Nat.le_of_ble_eq_true rfl⟩ ⟨Nat.zero_le _, Nat.zero_le _⟩ dX11_meanOf_3 (fun da H locs v2 ev2 hH hS => ?_)
  have ho := ho v2 ev2
  refine lv_if_ne (tgt := 11) hx hb dX11_meanOf_6 (by decide) (fun c3 => ?_) (fun c3 => ?_)
  · have ho := ho c3
    refine lv_iconst (v := 0) hx hb dX11_meanOf_11 (by decide) ?_
    refine lv_istore_n (lv' := [(2, .int 0), (0, .ref (ga G r)), (1, .int p1)]) hx hb dX11_meanOf_12 rfl hl (by decide) rfl (fun ls hl => ?_)
    refine lv_iconst (v := 0) hx hb dX11_meanOf_13 (by decide) ?_
    refine lv_istore_n (lv' := [(3, .int 0), (2, .int 0), (0, .ref (ga G r)), (1, .int p1)]) hx hb dX11_meanOf_14 rfl hl (by decide) rfl (fun ls hl => ?_)
    have L7 : ∀ (n : Nat) (i4 : Int32) (i5 : Int32) (ls : Array Slot), olX11_meanOf_15 r p1 v2 n i4 i5 → lv_has ls 4 [(3, .int i4), (2, .int i5), (0, .ref (ga G r)), (1, .int p1)] → (∀ (y6 : Int32) (ls : Array Slot), y6 = (lX11_meanOf_15 r p1 v2 n i4 i5 : Int32) → lv_has ls 4 [(2, .int y6), (0, .ref (ga G r)), (1, .int p1)] → W p l e rmX11_meanOf s m args below meth c H locs 0 0 Q (F0 m 41 ls [])) → W p l e rmX11_meanOf s m args below meth c H locs 0 0 Q (F0 m 15 ls []) := by
      clear ho
      intro n
      induction n with
      | zero =>
        intro i4 i5 ls ho
        exact ho.elim
      | succ n ih =>
        intro i4 i5 ls ho hl K8
        refine lv_iload_n hx hb dX11_meanOf_15 rfl (lv_at hl 0 rfl) ?_
        refine lv_aload_n hx hb dX11_meanOf_16 rfl (lv_at hl 2 rfl) ?_
        refine lv_iload_n hx hb dX11_meanOf_17 rfl (lv_at hl 3 rfl) ?_
        refine lv_bipush (v := 8) hx hb dX11_meanOf_18 (by decide) ?_
        have hq6 := ho.1
        have ho := ho.2
        refine k_X11_of X hS hH hk_r hq6 t_ml_VernierDrawersModel_90 hl.1 (Nat.le_of_ble_eq_true rfl) ⟨Nat.le_of_ble_eq_true rfl, Nat.le_of_ble_eq_true rfl⟩ ⟨Nat.zero_le _, Nat.zero_le _⟩ dX11_meanOf_20 ?_
        refine lv_icmp_ge (tgt := 41) hx hb dX11_meanOf_23 (by decide) (fun c7 => ?_) (fun c7 => ?_)
        · skip
          exact K8 _ _ (Eq.symm (((lX11_meanOf_15.eq_2 _ _ _ _ _ _)).trans ((if_pos c7).trans rfl))) (lv_sub hl [1, 2, 3] rfl)
        · have ho := ho c7
          refine lv_iload_n hx hb dX11_meanOf_26 rfl (lv_at hl 1 rfl) ?_
          refine lv_aload_n hx hb dX11_meanOf_27 rfl (lv_at hl 2 rfl) ?_
          refine lv_iload_n hx hb dX11_meanOf_28 rfl (lv_at hl 3 rfl) ?_
          refine lv_iload_n hx hb dX11_meanOf_29 rfl (lv_at hl 0 rfl) ?_
          have hq8 := ho.1
          have ho := ho.2
          refine k_X11_onChart X hS hH hk_r hq8 t_ml_VernierDrawersModel_123 hl.1 (Nat.le_of_ble_eq_true rfl) ⟨Nat.le_of_ble_eq_true rfl, Nat.le_of_ble_eq_true rfl⟩ ⟨Nat.zero_le _, Nat.zero_le _⟩ dX11_meanOf_30 ?_
          refine lv_iadd hx hb dX11_meanOf_33 ?_
          refine lv_istore_n (lv' := [(2, .int (i5 + (fX11_onChart r p1 i4 v2))), (3, .int i4), (0, .ref (ga G r)), (1, .int p1)]) hx hb dX11_meanOf_34 rfl hl (by decide) rfl (fun ls hl => ?_)
          refine lv_iinc (v := i4 + 1) (lv' := [(3, .int (i4 + 1)), (2, .int (i5 + (fX11_onChart r p1 i4 v2))), (0, .ref (ga G r)), (1, .int p1)]) hx hb dX11_meanOf_35 hl (k := 1) rfl rfl (by decide) rfl (fun ls hl => ?_)
          refine lv_goto (tgt := 15) hx hb dX11_meanOf_38 (by decide) ?_
          exact ih _ _ _ ho (lv_sub hl [0, 1, 2, 3] rfl) (fun y6 ls q0 hl => K8 y6 ls (q0.trans (congrArg (fun z : Int32 => z) (Eq.symm (((lX11_meanOf_15.eq_2 _ _ _ _ _ _)).trans ((if_neg c7).trans rfl))))) hl)
    have hol := ho.1
    refine L7 ((Int32.toInt ((fX11_of r p1 8 v2)) - Int32.toInt 0).toNat + 1) 0 0 _ hol (lv_sub hl [0, 1, 2, 3] rfl) (fun y6 ls ey6 hl => ?_)
    have ho := ho.2 y6 ey6
    refine lv_iload_n hx hb dX11_meanOf_41 rfl (lv_at hl 0 rfl) ?_
    refine lv_i2f hx hb dX11_meanOf_42 ?_
    refine lv_aload_n hx hb dX11_meanOf_43 rfl (lv_at hl 1 rfl) ?_
    refine lv_iload_n hx hb dX11_meanOf_44 rfl (lv_at hl 2 rfl) ?_
    refine lv_bipush (v := 8) hx hb dX11_meanOf_45 (by decide) ?_
    have hq9 := ho.1
    have ho := ho.2
    refine k_X11_of X hS hH hk_r hq9 t_ml_VernierDrawersModel_90 hl.1 (Nat.le_of_ble_eq_true rfl) ⟨Nat.le_of_ble_eq_true rfl, Nat.le_of_ble_eq_true rfl⟩ ⟨Nat.zero_le _, Nat.zero_le _⟩ dX11_meanOf_47 ?_
    refine lv_i2f hx hb dX11_meanOf_50 ?_
    have hq10 := ho
    refine lv_fdiv hx hb dX11_meanOf_51 hq10 ?_
    replace ev2 := Eq.symm ev2
    replace ey6 := Eq.symm ey6
    subst ev2 ey6
    exact E _ _ _ _ _ _ _ _ _ dX11_meanOf_52 (pr1 ((fX11_meanOf.eq_1 _ _ _).trans ((if_neg c3).trans rfl))) (pr2 ((fX11_meanOf.eq_1 _ _ _).trans ((if_neg c3).trans rfl))) hH hS (Nat.zero_le _) (Nat.zero_le _)
  · skip
    refine lv_fconst0 hx hb dX11_meanOf_9 ?_
    replace ev2 := Eq.symm ev2
    subst ev2
    exact E _ _ _ _ _ _ _ _ _ dX11_meanOf_10 (pr1 ((fX11_meanOf.eq_1 _ _ _).trans ((if_pos c3).trans rfl))) (pr2 ((fX11_meanOf.eq_1 _ _ _).trans ((if_pos c3).trans rfl))) hH hS (Nat.zero_le _) (Nat.zero_le _)
theorem k_X11_meanOf {p : Program} {l : Launch} {e : Env} {R : Room} {s : State} {m : MethodId} {args : Array Value} {below : List Frame} {meth : Method} {c : Code} {H : Heap} {locs : List Loc} {cells slots : Nat} {Q : State → Prop} {cc : ByteArray} {pc nL : Nat} {ls : Array Slot} {rest : List Value} {G : gG} {own : String} {da : Nat → Nat} {v : vSt} {x : gX} (X : CX G p s m args c cc nL own) (hS : va_S (gA G) s.heap H locs) (hH : Hp G da v x H) {r : Nat} (hk_r : kd r = 11) {p1 : Int32} (ho : oX11_meanOf r p1 v) {idx : Nat} (hml : Cond.methodLink own idx yX11_meanOf ∈ TT) (hls : ls.size = nL) (hsum : (rest.map fun v => v.category).sum ≤ 8) (hR : rmX11_meanOf.frames + 1 ≤ R.frames ∧ 8 + (4 + 11) + rmX11_meanOf.locals ≤ R.locals) (hcs : cells ≤ R.cells ∧ slots ≤ R.slots) (hdg : decode cc pc = .ok (.invokevirtual idx, 3)) (kk : ∀ (d : Nat → Nat) (H1 : Heap) (locs1 : List Loc) (v1 : vSt), v1 = (fX11_meanOf r p1 v).2 → Hp G d v1 x H1 → va_S (gA G) s.heap H1 locs1 → W p l e R s m args below meth c H1 locs1 cells slots Q (F0 m (pc + 3) ls (.float (fX11_meanOf r p1 v).1 :: rest))) : W p l e R s m args below meth c H locs cells slots Q (F0 m pc ls (.int p1 :: .ref (ga G r) :: rest)) := c_mf X.2.2.2.2.2.2 (runV (k := 1) X.1 X.2.1 X.2.2.1 X.2.2.2.1 X.2.2.2.2.1 (mX11_meanOf l G da v x r hk_r p1 ho) pW_bl hml t_im_X11_meanOf t_sel_X11_meanOf t_ini_VernierDrawersModel t_code_X11_meanOf ⟨rfl, by decide, by decide, by decide +kernel⟩ rfl rfl hR hcs (recvW X hH (by rw [hk_r]; decide) (by rw [hk_r]; decide) (ce_11 hk_r) rfl) (preW X hS hH) rfl hls rfl hsum hdg) hS kk
def fX11_goodShare (r : Nat) (v : vSt) : UInt32 × vSt := let y2 : Int32 := (if ((v 462 (216 : Int32).toNatClampNeg) : Int32) ≤ 0 then 0 else 1 : Int32); let v5 : vSt := (fX11_asks r y2 v).2; if (((fX11_asks r y2 v).1) : Int32) = 0 then ((FP.fconst0, v5)) else ((FP.fdiv (FP.i2f (v5 462 (212 : Int32).toNatClampNeg)) (FP.i2f (v5 462 (216 : Int32).toNatClampNeg)), v5))
def oX11_goodShare (r : Nat) (v : vSt) : Prop := (vp_in (216) (mlen 462)) ∧ ((∀ (y2 : Int32), y2 = ((if ((v 462 (216 : Int32).toNatClampNeg) : Int32) ≤ 0 then 0 else 1 : Int32) : Int32) → ((oX11_asks r y2 v) ∧ (∀ v5 : vSt, v5 = ((fX11_asks r y2 v).2) → (¬ ((((fX11_asks r y2 v).1) : Int32) = 0) → ((vp_in (212) (mlen 462)) ∧ (vf_n32 (FP.fdiv (FP.i2f (v5 462 (212 : Int32).toNatClampNeg)) (FP.i2f (v5 462 (216 : Int32).toNatClampNeg))))))))))
abbrev rmX11_goodShare : Room := { frames := 1, cells := 0, slots := 0, locals := 21 }
theorem dX11_goodShare_0 : decode cX11_goodShare 0 = .ok (.aload_n 0, 1) := by decide +kernel
theorem dX11_goodShare_1 : decode cX11_goodShare 1 = .ok (.aload_n 0, 1) := by decide +kernel
theorem dX11_goodShare_2 : decode cX11_goodShare 2 = .ok (.getfield 7, 3) := by decide +kernel
theorem dX11_goodShare_5 : decode cX11_goodShare 5 = .ok (.sipush 216, 3) := by decide +kernel
theorem dX11_goodShare_8 : decode cX11_goodShare 8 = .ok (.iaload, 1) := by decide +kernel
theorem dX11_goodShare_9 : decode cX11_goodShare 9 = .ok (.ifCond .le 7, 3) := by decide +kernel
theorem dX11_goodShare_12 : decode cX11_goodShare 12 = .ok (.iconst 1, 1) := by decide +kernel
theorem dX11_goodShare_13 : decode cX11_goodShare 13 = .ok (.goto 4, 3) := by decide +kernel
theorem dX11_goodShare_16 : decode cX11_goodShare 16 = .ok (.iconst 0, 1) := by decide +kernel
theorem dX11_goodShare_17 : decode cX11_goodShare 17 = .ok (.invokevirtual 214, 3) := by decide +kernel
theorem dX11_goodShare_20 : decode cX11_goodShare 20 = .ok (.ifCond .eq 25, 3) := by decide +kernel
theorem dX11_goodShare_23 : decode cX11_goodShare 23 = .ok (.aload_n 0, 1) := by decide +kernel
theorem dX11_goodShare_24 : decode cX11_goodShare 24 = .ok (.getfield 7, 3) := by decide +kernel
theorem dX11_goodShare_27 : decode cX11_goodShare 27 = .ok (.sipush 212, 3) := by decide +kernel
theorem dX11_goodShare_30 : decode cX11_goodShare 30 = .ok (.iaload, 1) := by decide +kernel
theorem dX11_goodShare_31 : decode cX11_goodShare 31 = .ok (.i2f, 1) := by decide +kernel
theorem dX11_goodShare_32 : decode cX11_goodShare 32 = .ok (.aload_n 0, 1) := by decide +kernel
theorem dX11_goodShare_33 : decode cX11_goodShare 33 = .ok (.getfield 7, 3) := by decide +kernel
theorem dX11_goodShare_36 : decode cX11_goodShare 36 = .ok (.sipush 216, 3) := by decide +kernel
theorem dX11_goodShare_39 : decode cX11_goodShare 39 = .ok (.iaload, 1) := by decide +kernel
theorem dX11_goodShare_40 : decode cX11_goodShare 40 = .ok (.i2f, 1) := by decide +kernel
theorem dX11_goodShare_41 : decode cX11_goodShare 41 = .ok (.fdiv, 1) := by decide +kernel
theorem dX11_goodShare_42 : decode cX11_goodShare 42 = .ok (.goto 4, 3) := by decide +kernel
theorem dX11_goodShare_45 : decode cX11_goodShare 45 = .ok (.fconst 0, 1) := by decide +kernel
theorem dX11_goodShare_46 : decode cX11_goodShare 46 = .ok (.freturn, 1) := by decide +kernel
set_option maxHeartbeats 8000000 in
set_option maxRecDepth 100000 in
theorem mX11_goodShare (l : Launch) (G : gG) (da : Nat → Nat) (v : vSt) (x : gX) (r : Nat) (hk_r : kd r = 11) (ho : oX11_goodShare r v) : MF l yX11_goodShare cX11_goodShare 1 (some .float) rmX11_goodShare [.ref (ga G r)] G da v x 0 0 (fX11_goodShare r v).1 (fX11_goodShare r v).2 x := by
  refine gofMF (own := RX11) (by decide) rfl (Nat.le_of_ble_eq_true rfl) (fun p e s m args below meth c ls Q X hH hl E => ?_)
  have hx := X.1
  have hb := X.2.1
  have hown := X.2.2.2.1
  have hts := X.2.2.2.2.1
  have hS : va_S (gA G) s.heap s.heap [] := va_S.rf
  unfold oX11_goodShare at ho
  have hl : lv_has ls 1 [(0, .ref (ga G r))] := hl
  refine lv_aload_n hx hb dX11_goodShare_0 rfl (lv_at hl 0 rfl) ?_
  refine lv_aload_n hx hb dX11_goodShare_1 rfl (lv_at hl 0 rfl) ?_
  refine g_VernierDrawersModel_7 X hH hk_r dX11_goodShare_2 ?_
  refine lv_sipush (v := 216) hx hb dX11_goodShare_5 (by decide) ?_
  have hq1 := ho.1
  have ho := ho.2
  refine ald_M X hH (Or.inl kd_462) hq1 dX11_goodShare_8 ?_
  have K3 : ∀ (y2 : Int32) (ls : Array Slot), y2 = (if ((v 462 (216 : Int32).toNatClampNeg) : Int32) ≤ 0 then 0 else 1 : Int32) → lv_has ls 1 [(0, .ref (ga G r))] → W p l e rmX11_goodShare s m args below meth c s.heap [] 0 0 Q (F0 m 17 ls [.int y2, .ref (ga G r)]) := by
    intro y2 ls ey2 hl
    have ho := ho y2 ey2
    have hq4 := ho.1
    have ho := ho.2
    refine k_X11_asks X hS hH hk_r hq4 t_ml_VernierDrawersModel_214 hl.1 (Nat.le_of_ble_eq_true rfl) ⟨Nat.le_of_ble_eq_true rfl, Nat.le_of_ble_eq_true rfl⟩ ⟨Nat.zero_le _, Nat.zero_le _⟩ dX11_goodShare_17 (fun da H locs v5 ev5 hH hS => ?_)
    have ho := ho v5 ev5
    refine lv_if_eq (tgt := 45) hx hb dX11_goodShare_20 (by decide) (fun c6 => ?_) (fun c6 => ?_)
    · skip
      refine lv_fconst0 hx hb dX11_goodShare_45 ?_
      replace ey2 := Eq.symm ey2
      replace ev5 := Eq.symm ev5
      subst ey2 ev5
      exact E _ _ _ _ _ _ _ _ _ dX11_goodShare_46 (pr1 ((fX11_goodShare.eq_1 _ _).trans ((if_pos c6).trans rfl))) (pr2 ((fX11_goodShare.eq_1 _ _).trans ((if_pos c6).trans rfl))) hH hS (Nat.zero_le _) (Nat.zero_le _)
    · have ho := ho c6
      refine lv_aload_n hx hb dX11_goodShare_23 rfl (lv_at hl 0 rfl) ?_
      refine g_VernierDrawersModel_7 X hH hk_r dX11_goodShare_24 ?_
      refine lv_sipush (v := 212) hx hb dX11_goodShare_27 (by decide) ?_
      have hq7 := ho.1
      have ho := ho.2
      refine ald_M X hH (Or.inl kd_462) hq7 dX11_goodShare_30 ?_
      refine lv_i2f hx hb dX11_goodShare_31 ?_
      refine lv_aload_n hx hb dX11_goodShare_32 rfl (lv_at hl 0 rfl) ?_
      refine g_VernierDrawersModel_7 X hH hk_r dX11_goodShare_33 ?_
      refine lv_sipush (v := 216) hx hb dX11_goodShare_36 (by decide) ?_
      refine ald_M X hH (Or.inl kd_462) hq1 dX11_goodShare_39 ?_
      refine lv_i2f hx hb dX11_goodShare_40 ?_
      have hq8 := ho
      refine lv_fdiv hx hb dX11_goodShare_41 hq8 ?_
      refine lv_goto (tgt := 46) hx hb dX11_goodShare_42 (by decide) ?_
      replace ey2 := Eq.symm ey2
      replace ev5 := Eq.symm ev5
      subst ey2 ev5
      exact E _ _ _ _ _ _ _ _ _ dX11_goodShare_46 (pr1 ((fX11_goodShare.eq_1 _ _).trans ((if_neg c6).trans rfl))) (pr2 ((fX11_goodShare.eq_1 _ _).trans ((if_neg c6).trans rfl))) hH hS (Nat.zero_le _) (Nat.zero_le _)
  refine lv_if_le (tgt := 16) hx hb dX11_goodShare_9 (by decide) (fun c3 => ?_) (fun c3 => ?_)
  · skip
    refine lv_iconst (v := 0) hx hb dX11_goodShare_16 (by decide) ?_
    exact K3 _ _ (Eq.symm ((if_pos c3).trans rfl)) (lv_sub hl [0] rfl)
  · skip
    refine lv_iconst (v := 1) hx hb dX11_goodShare_12 (by decide) ?_
    refine lv_goto (tgt := 17) hx hb dX11_goodShare_13 (by decide) ?_
    exact K3 _ _ (Eq.symm ((if_neg c3).trans rfl)) (lv_sub hl [0] rfl)
theorem k_X11_goodShare {p : Program} {l : Launch} {e : Env} {R : Room} {s : State} {m : MethodId} {args : Array Value} {below : List Frame} {meth : Method} {c : Code} {H : Heap} {locs : List Loc} {cells slots : Nat} {Q : State → Prop} {cc : ByteArray} {pc nL : Nat} {ls : Array Slot} {rest : List Value} {G : gG} {own : String} {da : Nat → Nat} {v : vSt} {x : gX} (X : CX G p s m args c cc nL own) (hS : va_S (gA G) s.heap H locs) (hH : Hp G da v x H) {r : Nat} (hk_r : kd r = 11) (ho : oX11_goodShare r v) {idx : Nat} (hml : Cond.methodLink own idx yX11_goodShare ∈ TT) (hls : ls.size = nL) (hsum : (rest.map fun v => v.category).sum ≤ 8) (hR : rmX11_goodShare.frames + 1 ≤ R.frames ∧ 8 + (1 + 11) + rmX11_goodShare.locals ≤ R.locals) (hcs : cells ≤ R.cells ∧ slots ≤ R.slots) (hdg : decode cc pc = .ok (.invokevirtual idx, 3)) (kk : ∀ (d : Nat → Nat) (H1 : Heap) (locs1 : List Loc) (v1 : vSt), v1 = (fX11_goodShare r v).2 → Hp G d v1 x H1 → va_S (gA G) s.heap H1 locs1 → W p l e R s m args below meth c H1 locs1 cells slots Q (F0 m (pc + 3) ls (.float (fX11_goodShare r v).1 :: rest))) : W p l e R s m args below meth c H locs cells slots Q (F0 m pc ls (.ref (ga G r) :: rest)) := c_mf X.2.2.2.2.2.2 (runV (k := 0) X.1 X.2.1 X.2.2.1 X.2.2.2.1 X.2.2.2.2.1 (mX11_goodShare l G da v x r hk_r ho) pW_bl hml t_im_X11_goodShare t_sel_X11_goodShare t_ini_VernierDrawersModel t_code_X11_goodShare ⟨rfl, by decide, by decide, by decide +kernel⟩ rfl rfl hR hcs (recvW X hH (by rw [hk_r]; decide) (by rw [hk_r]; decide) (ce_11 hk_r) rfl) (preW X hS hH) rfl hls rfl hsum hdg) hS kk
