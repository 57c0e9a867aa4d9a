/-! 17.model -/
def lX11_goDay_33 (r : Nat) (v3 : vSt) : Nat → Int32 → Int32 → Int32
  | 0, i4, i5 => i5
  | n + 1, i4, i5 => if ((v3 462 (203 : Int32).toNatClampNeg) : Int32) ≤ i4 then i5 else (let y9 : Int32 := (if ((fX11_due r i4 v3) : Int32) = 0 then 0 else 1 : Int32); lX11_goDay_33 r v3 n (i4 + 1) (i5 + y9))
def olX11_goDay_33 (r : Nat) (v3 : vSt) : Nat → Int32 → Int32 → Prop
  | 0, _, _ => False
  | n + 1, i4, i5 => (vp_in (203) (mlen 462)) ∧ (¬ (((v3 462 (203 : Int32).toNatClampNeg) : Int32) ≤ i4) → ((oX11_due r i4 v3) ∧ ((∀ (y9 : Int32), y9 = ((if ((fX11_due r i4 v3) : Int32) = 0 then 0 else 1 : Int32) : Int32) → (olX11_goDay_33 r v3 n (i4 + 1) (i5 + y9))))))
def fX11_goDay (r : Nat) (v : vSt) : Int32 × vSt := if ((v 462 (210 : Int32).toNatClampNeg) : Int32) = 999 then (((-100002), v)) else (let v3 : vSt := u2 v 462 (210 : Int32).toNatClampNeg ((v 462 (210 : Int32).toNatClampNeg) + 1); let y6 : Int32 := (lX11_goDay_33 r v3 ((Int32.toInt ((v3 462 (203 : Int32).toNatClampNeg)) - Int32.toInt 0).toNat + 1) 0 0); (y6, v3))
def oX11_goDay (r : Nat) (v : vSt) : Prop := (vp_in (210) (mlen 462)) ∧ (¬ (((v 462 (210 : Int32).toNatClampNeg) : Int32) = 999) → (∀ v3 : vSt, v3 = (u2 v 462 (210 : Int32).toNatClampNeg ((v 462 (210 : Int32).toNatClampNeg) + 1)) → (olX11_goDay_33 r v3 ((Int32.toInt ((v3 462 (203 : Int32).toNatClampNeg)) - Int32.toInt 0).toNat + 1) 0 0)))
abbrev rmX11_goDay : Room := { frames := 2, cells := 0, slots := 0, locals := 43 }
theorem dX11_goDay_0 : decode cX11_goDay 0 = .ok (.aload_n 0, 1) := by decide +kernel
theorem dX11_goDay_1 : decode cX11_goDay 1 = .ok (.getfield 7, 3) := by decide +kernel
theorem dX11_goDay_4 : decode cX11_goDay 4 = .ok (.sipush 210, 3) := by decide +kernel
theorem dX11_goDay_7 : decode cX11_goDay 7 = .ok (.iaload, 1) := by decide +kernel
theorem dX11_goDay_8 : decode cX11_goDay 8 = .ok (.sipush 999, 3) := by decide +kernel
theorem dX11_goDay_11 : decode cX11_goDay 11 = .ok (.if_icmp .ne 6, 3) := by decide +kernel
theorem dX11_goDay_14 : decode cX11_goDay 14 = .ok (.ldc 41, 2) := by decide +kernel
theorem dX11_goDay_16 : decode cX11_goDay 16 = .ok (.ireturn, 1) := by decide +kernel
theorem dX11_goDay_17 : decode cX11_goDay 17 = .ok (.aload_n 0, 1) := by decide +kernel
theorem dX11_goDay_18 : decode cX11_goDay 18 = .ok (.getfield 7, 3) := by decide +kernel
theorem dX11_goDay_21 : decode cX11_goDay 21 = .ok (.sipush 210, 3) := by decide +kernel
theorem dX11_goDay_24 : decode cX11_goDay 24 = .ok (.dup2, 1) := by decide +kernel
theorem dX11_goDay_25 : decode cX11_goDay 25 = .ok (.iaload, 1) := by decide +kernel
theorem dX11_goDay_26 : decode cX11_goDay 26 = .ok (.iconst 1, 1) := by decide +kernel
theorem dX11_goDay_27 : decode cX11_goDay 27 = .ok (.iadd, 1) := by decide +kernel
theorem dX11_goDay_28 : decode cX11_goDay 28 = .ok (.iastore, 1) := by decide +kernel
theorem dX11_goDay_29 : decode cX11_goDay 29 = .ok (.iconst 0, 1) := by decide +kernel
theorem dX11_goDay_30 : decode cX11_goDay 30 = .ok (.istore_n 1, 1) := by decide +kernel
theorem dX11_goDay_31 : decode cX11_goDay 31 = .ok (.iconst 0, 1) := by decide +kernel
theorem dX11_goDay_32 : decode cX11_goDay 32 = .ok (.istore_n 2, 1) := by decide +kernel
theorem dX11_goDay_33 : decode cX11_goDay 33 = .ok (.iload_n 2, 1) := by decide +kernel
theorem dX11_goDay_34 : decode cX11_goDay 34 = .ok (.aload_n 0, 1) := by decide +kernel
theorem dX11_goDay_35 : decode cX11_goDay 35 = .ok (.getfield 7, 3) := by decide +kernel
theorem dX11_goDay_38 : decode cX11_goDay 38 = .ok (.sipush 203, 3) := by decide +kernel
theorem dX11_goDay_41 : decode cX11_goDay 41 = .ok (.iaload, 1) := by decide +kernel
theorem dX11_goDay_42 : decode cX11_goDay 42 = .ok (.if_icmp .ge 25, 3) := by decide +kernel
theorem dX11_goDay_45 : decode cX11_goDay 45 = .ok (.iload_n 1, 1) := by decide +kernel
theorem dX11_goDay_46 : decode cX11_goDay 46 = .ok (.aload_n 0, 1) := by decide +kernel
theorem dX11_goDay_47 : decode cX11_goDay 47 = .ok (.iload_n 2, 1) := by decide +kernel
theorem dX11_goDay_48 : decode cX11_goDay 48 = .ok (.invokevirtual 103, 3) := by decide +kernel
theorem dX11_goDay_51 : decode cX11_goDay 51 = .ok (.ifCond .eq 7, 3) := by decide +kernel
theorem dX11_goDay_54 : decode cX11_goDay 54 = .ok (.iconst 1, 1) := by decide +kernel
theorem dX11_goDay_55 : decode cX11_goDay 55 = .ok (.goto 4, 3) := by decide +kernel
theorem dX11_goDay_58 : decode cX11_goDay 58 = .ok (.iconst 0, 1) := by decide +kernel
theorem dX11_goDay_59 : decode cX11_goDay 59 = .ok (.iadd, 1) := by decide +kernel
theorem dX11_goDay_60 : decode cX11_goDay 60 = .ok (.istore_n 1, 1) := by decide +kernel
theorem dX11_goDay_61 : decode cX11_goDay 61 = .ok (.iinc 2 1, 3) := by decide +kernel
theorem dX11_goDay_64 : decode cX11_goDay 64 = .ok (.goto (-31), 3) := by decide +kernel
theorem dX11_goDay_67 : decode cX11_goDay 67 = .ok (.iload_n 1, 1) := by decide +kernel
theorem dX11_goDay_68 : decode cX11_goDay 68 = .ok (.ireturn, 1) := by decide +kernel
set_option maxHeartbeats 8000000 in
set_option maxRecDepth 100000 in
theorem mX11_goDay (l : Launch) (G : gG) (da : Nat → Nat) (v : vSt) (x : gX) (r : Nat) (hk_r : kd r = 11) (ho : oX11_goDay r v) : MI l yX11_goDay cX11_goDay 3 (some .int) rmX11_goDay [.ref (ga G r)] G da v x 0 0 (fX11_goDay r v).1 (fX11_goDay r v).2 x := by
  refine gofMI (own := RX11) (by decide) rfl (Nat.le_of_ble_eq_true rfl) (fun p e s m args below meth c ls Q X hH hl E => ?_)
  have hx := X.1
  have hb := X.2.1
  have hown := X.2.2.2.1
  have hts := X.2.2.2.2.1
  have hS : va_S (gA G) s.heap s.heap [] := va_S.rf
  unfold oX11_goDay at ho
  have hl : lv_has ls 3 [(0, .ref (ga G r))] := hl
  refine lv_aload_n hx hb dX11_goDay_0 rfl (lv_at hl 0 rfl) ?_
  refine g_VernierDrawersModel_7 X hH hk_r dX11_goDay_1 ?_
  refine lv_sipush (v := 210) hx hb dX11_goDay_4 (by decide) ?_
  have hq1 := ho.1
  have ho := ho.2
  refine ald_M X hH (Or.inl kd_462) hq1 dX11_goDay_7 ?_
  refine lv_sipush (v := 999) hx hb dX11_goDay_8 (by decide) ?_
  refine lv_icmp_ne (tgt := 17) hx hb dX11_goDay_11 (by decide) (fun c2 => ?_) (fun c2 => ?_)
  · have ho := ho c2
    refine lv_aload_n hx hb dX11_goDay_17 rfl (lv_at hl 0 rfl) ?_
    refine g_VernierDrawersModel_7 X hH hk_r dX11_goDay_18 ?_
    refine lv_sipush (v := 210) hx hb dX11_goDay_21 (by decide) ?_
    refine lv_dup2_11 hx hb dX11_goDay_24 rfl rfl ?_
    refine ald_M X hH (Or.inl kd_462) hq1 dX11_goDay_25 ?_
    refine lv_iconst (v := 1) hx hb dX11_goDay_26 (by decide) ?_
    refine lv_iadd hx hb dX11_goDay_27 ?_
    refine ast_M X hH hS (Or.inl kd_462) hq1 dX11_goDay_28 (fun H locs v3 ev3 hH hS => ?_)
    have ho := ho v3 ev3
    refine lv_iconst (v := 0) hx hb dX11_goDay_29 (by decide) ?_
    refine lv_istore_n (lv' := [(1, .int 0), (0, .ref (ga G r))]) hx hb dX11_goDay_30 rfl hl (by decide) rfl (fun ls hl => ?_)
    refine lv_iconst (v := 0) hx hb dX11_goDay_31 (by decide) ?_
    refine lv_istore_n (lv' := [(2, .int 0), (1, .int 0), (0, .ref (ga G r))]) hx hb dX11_goDay_32 rfl hl (by decide) rfl (fun ls hl => ?_)
    have L7 : ∀ (n : Nat) (i4 : Int32) (i5 : Int32) (ls : Array Slot), olX11_goDay_33 r v3 n i4 i5 → lv_has ls 3 [(2, .int i4), (1, .int i5), (0, .ref (ga G r))] → (∀ (y6 : Int32) (ls : Array Slot), y6 = (lX11_goDay_33 r v3 n i4 i5 : Int32) → lv_has ls 3 [(1, .int y6)] → W p l e rmX11_goDay s m args below meth c H locs 0 0 Q (F0 m 67 ls [])) → W p l e rmX11_goDay s m args below meth c H locs 0 0 Q (F0 m 33 ls []) := by
      clear ho
      intro n
      induction n with
      | zero =>
        intro i4 i5 ls ho
        exact ho.elim
      | succ n ih =>
        intro i4 i5 ls ho hl K8
        refine lv_iload_n hx hb dX11_goDay_33 rfl (lv_at hl 0 rfl) ?_
        refine lv_aload_n hx hb dX11_goDay_34 rfl (lv_at hl 2 rfl) ?_
        refine g_VernierDrawersModel_7 X hH hk_r dX11_goDay_35 ?_
        refine lv_sipush (v := 203) hx hb dX11_goDay_38 (by decide) ?_
        have hq6 := ho.1
        have ho := ho.2
        refine ald_M X hH (Or.inl kd_462) hq6 dX11_goDay_41 ?_
        refine lv_icmp_ge (tgt := 67) hx hb dX11_goDay_42 (by decide) (fun c7 => ?_) (fun c7 => ?_)
        · skip
          exact K8 _ _ (Eq.symm (((lX11_goDay_33.eq_2 _ _ _ _ _)).trans ((if_pos c7).trans rfl))) (lv_sub hl [1] rfl)
        · have ho := ho c7
          refine lv_iload_n hx hb dX11_goDay_45 rfl (lv_at hl 1 rfl) ?_
          refine lv_aload_n hx hb dX11_goDay_46 rfl (lv_at hl 2 rfl) ?_
          refine lv_iload_n hx hb dX11_goDay_47 rfl (lv_at hl 0 rfl) ?_
          have hq8 := ho.1
          have ho := ho.2
          refine k_X11_due X hS hH hk_r hq8 t_ml_VernierDrawersModel_103 hl.1 (Nat.le_of_ble_eq_true rfl) ⟨Nat.le_of_ble_eq_true rfl, Nat.le_of_ble_eq_true rfl⟩ ⟨Nat.zero_le _, Nat.zero_le _⟩ dX11_goDay_48 ?_
          have K10 : ∀ (y9 : Int32) (ls : Array Slot), y9 = (if ((fX11_due r i4 v3) : Int32) = 0 then 0 else 1 : Int32) → lv_has ls 3 [(2, .int i4), (0, .ref (ga G r))] → W p l e rmX11_goDay s m args below meth c H locs 0 0 Q (F0 m 59 ls [.int y9, .int i5]) := by
            intro y9 ls ey9 hl
            have ho := ho y9 ey9
            refine lv_iadd hx hb dX11_goDay_59 ?_
            refine lv_istore_n (lv' := [(1, .int (i5 + y9)), (2, .int i4), (0, .ref (ga G r))]) hx hb dX11_goDay_60 rfl hl (by decide) rfl (fun ls hl => ?_)
            refine lv_iinc (v := i4 + 1) (lv' := [(2, .int (i4 + 1)), (1, .int (i5 + y9)), (0, .ref (ga G r))]) hx hb dX11_goDay_61 hl (k := 1) rfl rfl (by decide) rfl (fun ls hl => ?_)
            refine lv_goto (tgt := 33) hx hb dX11_goDay_64 (by decide) ?_
            replace ey9 := Eq.symm ey9
            subst ey9
            exact ih _ _ _ ho (lv_sub hl [0, 1, 2] rfl) (fun y6 ls q0 hl => K8 y6 ls (q0.trans (congrArg (fun z : Int32 => z) (Eq.symm (((lX11_goDay_33.eq_2 _ _ _ _ _)).trans ((if_neg c7).trans rfl))))) hl)
          refine lv_if_eq (tgt := 58) hx hb dX11_goDay_51 (by decide) (fun c10 => ?_) (fun c10 => ?_)
          · skip
            refine lv_iconst (v := 0) hx hb dX11_goDay_58 (by decide) ?_
            exact K10 _ _ (Eq.symm ((if_pos c10).trans rfl)) (lv_sub hl [0, 2] rfl)
          · skip
            refine lv_iconst (v := 1) hx hb dX11_goDay_54 (by decide) ?_
            refine lv_goto (tgt := 59) hx hb dX11_goDay_55 (by decide) ?_
            exact K10 _ _ (Eq.symm ((if_neg c10).trans rfl)) (lv_sub hl [0, 2] rfl)
    have hol := ho
    refine L7 ((Int32.toInt ((v3 462 (203 : Int32).toNatClampNeg)) - Int32.toInt 0).toNat + 1) 0 0 _ hol (lv_sub hl [0, 1, 2] rfl) (fun y6 ls ey6 hl => ?_)
    refine lv_iload_n hx hb dX11_goDay_67 rfl (lv_at hl 0 rfl) ?_
    replace ev3 := Eq.symm ev3
    replace ey6 := Eq.symm ey6
    subst ev3 ey6
    exact E _ _ _ _ _ _ _ _ _ dX11_goDay_68 rfl (pr1 ((fX11_goDay.eq_1 _ _).trans ((if_neg c2).trans rfl))) (pr2 ((fX11_goDay.eq_1 _ _).trans ((if_neg c2).trans rfl))) hH hS (Nat.zero_le _) (Nat.zero_le _)
  · skip
    refine lv_ldc (v := (-100002)) hx hb hown (hts _ t_con_VernierDrawersModel_41) dX11_goDay_14 ?_
    exact E _ _ _ _ _ _ _ _ _ dX11_goDay_16 rfl (pr1 ((fX11_goDay.eq_1 _ _).trans ((if_pos c2).trans rfl))) (pr2 ((fX11_goDay.eq_1 _ _).trans ((if_pos c2).trans rfl))) hH hS (Nat.zero_le _) (Nat.zero_le _)
theorem k_X11_goDay {p : Program} {l : Launch} {e : Env} {R : Room} {s : State} {m : MethodId} {args : Array Value} {below : List Frame} {meth : Method} {c : Code} {H : Heap} {locs : List Loc} {cells slots : Nat} {Q : State → Prop} {cc : ByteArray} {pc nL : Nat} {ls : Array Slot} {rest : List Value} {G : gG} {own : String} {da : Nat → Nat} {v : vSt} {x : gX} (X : CX G p s m args c cc nL own) (hS : va_S (gA G) s.heap H locs) (hH : Hp G da v x H) {r : Nat} (hk_r : kd r = 11) (ho : oX11_goDay r v) {idx : Nat} (hml : Cond.methodLink own idx yX11_goDay ∈ TT) (hls : ls.size = nL) (hsum : (rest.map fun v => v.category).sum ≤ 8) (hR : rmX11_goDay.frames + 1 ≤ R.frames ∧ 8 + (3 + 11) + rmX11_goDay.locals ≤ R.locals) (hcs : cells ≤ R.cells ∧ slots ≤ R.slots) (hdg : decode cc pc = .ok (.invokevirtual idx, 3)) (kk : ∀ (d : Nat → Nat) (H1 : Heap) (locs1 : List Loc) (v1 : vSt), v1 = (fX11_goDay r v).2 → Hp G d v1 x H1 → va_S (gA G) s.heap H1 locs1 → W p l e R s m args below meth c H1 locs1 cells slots Q (F0 m (pc + 3) ls (.int (fX11_goDay r v).1 :: rest))) : W p l e R s m args below meth c H locs cells slots Q (F0 m pc ls (.ref (ga G r) :: rest)) := c_mi X.2.2.2.2.2.2 (runV (k := 0) X.1 X.2.1 X.2.2.1 X.2.2.2.1 X.2.2.2.2.1 (mX11_goDay l G da v x r hk_r ho) pW_bl hml t_im_X11_goDay t_sel_X11_goDay t_ini_VernierDrawersModel t_code_X11_goDay ⟨rfl, by decide, by decide, by decide +kernel⟩ rfl rfl hR hcs (recvW X hH (by rw [hk_r]; decide) (by rw [hk_r]; decide) (ce_11 hk_r) rfl) (preW X hS hH) rfl hls rfl hsum hdg) hS kk
def fX11_addTool (r : Nat) (p1 : Int32) (p2 : Int32) (v : vSt) : Int32 × vSt := let v2 : vSt := fX11_begins r v; if ((fX11_in p1 0 4) : Int32) = 0 then (let v4 : vSt := (fX11_fails r 1 v2).2; ((fX11_fails r 1 v2).1, v4)) else (if ((fX11_in p2 (-30) 30) : Int32) = 0 then (let v19 : vSt := (fX11_fails r 1 v2).2; ((fX11_fails r 1 v2).1, v19)) else (if ((v2 462 (203 : Int32).toNatClampNeg) : Int32) = 6 then (let v18 : vSt := (fX11_fails r 2 v2).2; ((fX11_fails r 2 v2).1, v18)) else (let v9 : vSt := fX11_sets r (v2 462 (203 : Int32).toNatClampNeg) 0 p1 v2; let v11 : vSt := fX11_sets r (v2 462 (203 : Int32).toNatClampNeg) 1 p2 v9; let v14 : vSt := fX11_sets r (v2 462 (203 : Int32).toNatClampNeg) 7 (v11 462 (210 : Int32).toNatClampNeg) v11; let v15 : vSt := u2 v14 462 (203 : Int32).toNatClampNeg ((v14 462 (203 : Int32).toNatClampNeg) + 1); let v17 : vSt := (fX11_ends r (v2 462 (203 : Int32).toNatClampNeg) 2 v15).2; ((fX11_ends r (v2 462 (203 : Int32).toNatClampNeg) 2 v15).1, v17))))
def oX11_addTool (r : Nat) (p1 : Int32) (p2 : Int32) (v : vSt) : Prop := (oX11_begins r v) ∧ (∀ v2 : vSt, v2 = (fX11_begins r v) → (¬ (((fX11_in p1 0 4) : Int32) = 0) → (¬ (((fX11_in p2 (-30) 30) : Int32) = 0) → ((vp_in (203) (mlen 462)) ∧ (¬ (((v2 462 (203 : Int32).toNatClampNeg) : Int32) = 6) → ((oX11_sets r (v2 462 (203 : Int32).toNatClampNeg) 0 p1 v2) ∧ (∀ v9 : vSt, v9 = (fX11_sets r (v2 462 (203 : Int32).toNatClampNeg) 0 p1 v2) → ((oX11_sets r (v2 462 (203 : Int32).toNatClampNeg) 1 p2 v9) ∧ (∀ v11 : vSt, v11 = (fX11_sets r (v2 462 (203 : Int32).toNatClampNeg) 1 p2 v9) → ((vp_in (210) (mlen 462)) ∧ ((oX11_sets r (v2 462 (203 : Int32).toNatClampNeg) 7 (v11 462 (210 : Int32).toNatClampNeg) v11) ∧ (∀ v14 : vSt, v14 = (fX11_sets r (v2 462 (203 : Int32).toNatClampNeg) 7 (v11 462 (210 : Int32).toNatClampNeg) v11) → (∀ v15 : vSt, v15 = (u2 v14 462 (203 : Int32).toNatClampNeg ((v14 462 (203 : Int32).toNatClampNeg) + 1)) → (oX11_ends r (v2 462 (203 : Int32).toNatClampNeg) 2 v15))))))))))))))
abbrev rmX11_addTool : Room := { frames := 3, cells := 0, slots := 0, locals := 67 }
theorem dX11_addTool_0 : decode cX11_addTool 0 = .ok (.aload_n 0, 1) := by decide +kernel
theorem dX11_addTool_1 : decode cX11_addTool 1 = .ok (.invokevirtual 180, 3) := by decide +kernel
theorem dX11_addTool_4 : decode cX11_addTool 4 = .ok (.iload_n 1, 1) := by decide +kernel
theorem dX11_addTool_5 : decode cX11_addTool 5 = .ok (.iconst 0, 1) := by decide +kernel
theorem dX11_addTool_6 : decode cX11_addTool 6 = .ok (.iconst 4, 1) := by decide +kernel
theorem dX11_addTool_7 : decode cX11_addTool 7 = .ok (.invokestatic 49, 3) := by decide +kernel
theorem dX11_addTool_10 : decode cX11_addTool 10 = .ok (.ifCond .eq 14, 3) := by decide +kernel
theorem dX11_addTool_13 : decode cX11_addTool 13 = .ok (.iload_n 2, 1) := by decide +kernel
theorem dX11_addTool_14 : decode cX11_addTool 14 = .ok (.bipush (-30), 2) := by decide +kernel
theorem dX11_addTool_16 : decode cX11_addTool 16 = .ok (.bipush 30, 2) := by decide +kernel
theorem dX11_addTool_18 : decode cX11_addTool 18 = .ok (.invokestatic 49, 3) := by decide +kernel
theorem dX11_addTool_21 : decode cX11_addTool 21 = .ok (.ifCond .ne 9, 3) := by decide +kernel
theorem dX11_addTool_24 : decode cX11_addTool 24 = .ok (.aload_n 0, 1) := by decide +kernel
theorem dX11_addTool_25 : decode cX11_addTool 25 = .ok (.iconst 1, 1) := by decide +kernel
theorem dX11_addTool_26 : decode cX11_addTool 26 = .ok (.invokevirtual 42, 3) := by decide +kernel
theorem dX11_addTool_29 : decode cX11_addTool 29 = .ok (.ireturn, 1) := by decide +kernel
theorem dX11_addTool_30 : decode cX11_addTool 30 = .ok (.aload_n 0, 1) := by decide +kernel
theorem dX11_addTool_31 : decode cX11_addTool 31 = .ok (.getfield 7, 3) := by decide +kernel
theorem dX11_addTool_34 : decode cX11_addTool 34 = .ok (.sipush 203, 3) := by decide +kernel
theorem dX11_addTool_37 : decode cX11_addTool 37 = .ok (.iaload, 1) := by decide +kernel
theorem dX11_addTool_38 : decode cX11_addTool 38 = .ok (.istore_n 3, 1) := by decide +kernel
theorem dX11_addTool_39 : decode cX11_addTool 39 = .ok (.iload_n 3, 1) := by decide +kernel
theorem dX11_addTool_40 : decode cX11_addTool 40 = .ok (.bipush 6, 2) := by decide +kernel
theorem dX11_addTool_42 : decode cX11_addTool 42 = .ok (.if_icmp .ne 9, 3) := by decide +kernel
theorem dX11_addTool_45 : decode cX11_addTool 45 = .ok (.aload_n 0, 1) := by decide +kernel
theorem dX11_addTool_46 : decode cX11_addTool 46 = .ok (.iconst 2, 1) := by decide +kernel
theorem dX11_addTool_47 : decode cX11_addTool 47 = .ok (.invokevirtual 42, 3) := by decide +kernel
theorem dX11_addTool_50 : decode cX11_addTool 50 = .ok (.ireturn, 1) := by decide +kernel
theorem dX11_addTool_51 : decode cX11_addTool 51 = .ok (.aload_n 0, 1) := by decide +kernel
theorem dX11_addTool_52 : decode cX11_addTool 52 = .ok (.iload_n 3, 1) := by decide +kernel
theorem dX11_addTool_53 : decode cX11_addTool 53 = .ok (.iconst 0, 1) := by decide +kernel
theorem dX11_addTool_54 : decode cX11_addTool 54 = .ok (.iload_n 1, 1) := by decide +kernel
theorem dX11_addTool_55 : decode cX11_addTool 55 = .ok (.invokevirtual 64, 3) := by decide +kernel
theorem dX11_addTool_58 : decode cX11_addTool 58 = .ok (.aload_n 0, 1) := by decide +kernel
theorem dX11_addTool_59 : decode cX11_addTool 59 = .ok (.iload_n 3, 1) := by decide +kernel
theorem dX11_addTool_60 : decode cX11_addTool 60 = .ok (.iconst 1, 1) := by decide +kernel
theorem dX11_addTool_61 : decode cX11_addTool 61 = .ok (.iload_n 2, 1) := by decide +kernel
theorem dX11_addTool_62 : decode cX11_addTool 62 = .ok (.invokevirtual 64, 3) := by decide +kernel
theorem dX11_addTool_65 : decode cX11_addTool 65 = .ok (.aload_n 0, 1) := by decide +kernel
theorem dX11_addTool_66 : decode cX11_addTool 66 = .ok (.iload_n 3, 1) := by decide +kernel
theorem dX11_addTool_67 : decode cX11_addTool 67 = .ok (.bipush 7, 2) := by decide +kernel
theorem dX11_addTool_69 : decode cX11_addTool 69 = .ok (.aload_n 0, 1) := by decide +kernel
theorem dX11_addTool_70 : decode cX11_addTool 70 = .ok (.getfield 7, 3) := by decide +kernel
theorem dX11_addTool_73 : decode cX11_addTool 73 = .ok (.sipush 210, 3) := by decide +kernel
theorem dX11_addTool_76 : decode cX11_addTool 76 = .ok (.iaload, 1) := by decide +kernel
theorem dX11_addTool_77 : decode cX11_addTool 77 = .ok (.invokevirtual 64, 3) := by decide +kernel
theorem dX11_addTool_80 : decode cX11_addTool 80 = .ok (.aload_n 0, 1) := by decide +kernel
theorem dX11_addTool_81 : decode cX11_addTool 81 = .ok (.getfield 7, 3) := by decide +kernel
theorem dX11_addTool_84 : decode cX11_addTool 84 = .ok (.sipush 203, 3) := by decide +kernel
theorem dX11_addTool_87 : decode cX11_addTool 87 = .ok (.dup2, 1) := by decide +kernel
theorem dX11_addTool_88 : decode cX11_addTool 88 = .ok (.iaload, 1) := by decide +kernel
theorem dX11_addTool_89 : decode cX11_addTool 89 = .ok (.iconst 1, 1) := by decide +kernel
theorem dX11_addTool_90 : decode cX11_addTool 90 = .ok (.iadd, 1) := by decide +kernel
theorem dX11_addTool_91 : decode cX11_addTool 91 = .ok (.iastore, 1) := by decide +kernel
theorem dX11_addTool_92 : decode cX11_addTool 92 = .ok (.aload_n 0, 1) := by decide +kernel
theorem dX11_addTool_93 : decode cX11_addTool 93 = .ok (.iload_n 3, 1) := by decide +kernel
theorem dX11_addTool_94 : decode cX11_addTool 94 = .ok (.iconst 2, 1) := by decide +kernel
theorem dX11_addTool_95 : decode cX11_addTool 95 = .ok (.invokevirtual 183, 3) := by decide +kernel
theorem dX11_addTool_98 : decode cX11_addTool 98 = .ok (.ireturn, 1) := by decide +kernel
set_option maxHeartbeats 8000000 in
set_option maxRecDepth 100000 in
theorem mX11_addTool (l : Launch) (G : gG) (da : Nat → Nat) (v : vSt) (x : gX) (r : Nat) (hk_r : kd r = 11) (p1 : Int32) (p2 : Int32) (ho : oX11_addTool r p1 p2 v) : MI l yX11_addTool cX11_addTool 4 (some .int) rmX11_addTool [.ref (ga G r), .int p1, .int p2] G da v x 0 0 (fX11_addTool r p1 p2 v).1 (fX11_addTool r p1 p2 v).2 x := by
  refine gofMI (own := RX11) (by decide) rfl (Nat.le_of_ble_eq_true rfl) (fun p e s m args below meth c ls Q X hH hl E => ?_)
  have hx := X.1
  have hb := X.2.1
  have hown := X.2.2.2.1
  have hts := X.2.2.2.2.1
  have hS : va_S (gA G) s.heap s.heap [] := va_S.rf
  unfold oX11_addTool at ho
  have hl : lv_has ls 4 [(0, .ref (ga G r)), (1, .int p1), (2, .int p2)] := hl
  refine lv_aload_n hx hb dX11_addTool_0 rfl (lv_at hl 0 rfl) ?_
  have hq1 := ho.1
  have ho := ho.2
  refine k_X11_begins X hS hH hk_r hq1 t_ml_VernierDrawersModel_180 hl.1 (Nat.le_of_ble_eq_true rfl) ⟨Nat.le_of_ble_eq_true rfl, Nat.le_of_ble_eq_true rfl⟩ ⟨Nat.zero_le _, Nat.zero_le _⟩ dX11_addTool_1 (fun da H locs v2 ev2 hH hS => ?_)
  have ho := ho v2 ev2
  refine lv_iload_n hx hb dX11_addTool_4 rfl (lv_at hl 1 rfl) ?_
  refine lv_iconst (v := 0) hx hb dX11_addTool_5 (by decide) ?_
  refine lv_iconst (v := 4) hx hb dX11_addTool_6 (by decide) ?_
  refine k_X11_in X hS  t_ml_VernierDrawersModel_49 hl.1 (Nat.le_of_ble_eq_true rfl) ⟨Nat.le_of_ble_eq_true rfl, Nat.le_of_ble_eq_true rfl⟩ ⟨Nat.zero_le _, Nat.zero_le _⟩ dX11_addTool_7 ?_
  refine lv_if_eq (tgt := 24) hx hb dX11_addTool_10 (by decide) (fun c3 => ?_) (fun c3 => ?_)
  · skip
    refine lv_aload_n hx hb dX11_addTool_24 rfl (lv_at hl 0 rfl) ?_
    refine lv_iconst (v := 1) hx hb dX11_addTool_25 (by decide) ?_
    refine k_X11_fails X hS hH hk_r t_ml_VernierDrawersModel_42 hl.1 (Nat.le_of_ble_eq_true rfl) ⟨Nat.le_of_ble_eq_true rfl, Nat.le_of_ble_eq_true rfl⟩ ⟨Nat.zero_le _, Nat.zero_le _⟩ dX11_addTool_26 (fun da H locs v4 ev4 hH hS => ?_)
    replace ev2 := Eq.symm ev2
    replace ev4 := Eq.symm ev4
    subst ev2 ev4
    exact E _ _ _ _ _ _ _ _ _ dX11_addTool_29 rfl (pr1 ((fX11_addTool.eq_1 _ _ _ _).trans ((if_pos c3).trans rfl))) (pr2 ((fX11_addTool.eq_1 _ _ _ _).trans ((if_pos c3).trans rfl))) hH hS (Nat.zero_le _) (Nat.zero_le _)
  · have ho := ho c3
    refine lv_iload_n hx hb dX11_addTool_13 rfl (lv_at hl 2 rfl) ?_
    refine lv_bipush (v := (-30)) hx hb dX11_addTool_14 (by decide) ?_
    refine lv_bipush (v := 30) hx hb dX11_addTool_16 (by decide) ?_
    refine k_X11_in X hS  t_ml_VernierDrawersModel_49 hl.1 (Nat.le_of_ble_eq_true rfl) ⟨Nat.le_of_ble_eq_true rfl, Nat.le_of_ble_eq_true rfl⟩ ⟨Nat.zero_le _, Nat.zero_le _⟩ dX11_addTool_18 ?_
    refine lv_if_ne (tgt := 30) hx hb dX11_addTool_21 (by decide) (fun c5 => ?_) (fun c5 => ?_)
    · have ho := ho c5
      refine lv_aload_n hx hb dX11_addTool_30 rfl (lv_at hl 0 rfl) ?_
      refine g_VernierDrawersModel_7 X hH hk_r dX11_addTool_31 ?_
      refine lv_sipush (v := 203) hx hb dX11_addTool_34 (by decide) ?_
      have hq6 := ho.1
      have ho := ho.2
      refine ald_M X hH (Or.inl kd_462) hq6 dX11_addTool_37 ?_
      refine lv_istore_n (lv' := [(3, .int (v2 462 (203 : Int32).toNatClampNeg)), (0, .ref (ga G r)), (1, .int p1), (2, .int p2)]) hx hb dX11_addTool_38 rfl hl (by decide) rfl (fun ls hl => ?_)
      refine lv_iload_n hx hb dX11_addTool_39 rfl (lv_at hl 0 rfl) ?_
      refine lv_bipush (v := 6) hx hb dX11_addTool_40 (by decide) ?_
      refine lv_icmp_ne (tgt := 51) hx hb dX11_addTool_42 (by decide) (fun c7 => ?_) (fun c7 => ?_)
      · have ho := ho c7
        refine lv_aload_n hx hb dX11_addTool_51 rfl (lv_at hl 1 rfl) ?_
        refine lv_iload_n hx hb dX11_addTool_52 rfl (lv_at hl 0 rfl) ?_
        refine lv_iconst (v := 0) hx hb dX11_addTool_53 (by decide) ?_
        refine lv_iload_n hx hb dX11_addTool_54 rfl (lv_at hl 2 rfl) ?_
        have hq8 := ho.1
        have ho := ho.2
        refine k_X11_sets X hS hH hk_r hq8 t_ml_VernierDrawersModel_64 hl.1 (Nat.le_of_ble_eq_true rfl) ⟨Nat.le_of_ble_eq_true rfl, Nat.le_of_ble_eq_true rfl⟩ ⟨Nat.zero_le _, Nat.zero_le _⟩ dX11_addTool_55 (fun da H locs v9 ev9 hH hS => ?_)
        have ho := ho v9 ev9
        refine lv_aload_n hx hb dX11_addTool_58 rfl (lv_at hl 1 rfl) ?_
        refine lv_iload_n hx hb dX11_addTool_59 rfl (lv_at hl 0 rfl) ?_
        refine lv_iconst (v := 1) hx hb dX11_addTool_60 (by decide) ?_
        refine lv_iload_n hx hb dX11_addTool_61 rfl (lv_at hl 3 rfl) ?_
        have hq10 := ho.1
        have ho := ho.2
        refine k_X11_sets X hS hH hk_r hq10 t_ml_VernierDrawersModel_64 hl.1 (Nat.le_of_ble_eq_true rfl) ⟨Nat.le_of_ble_eq_true rfl, Nat.le_of_ble_eq_true rfl⟩ ⟨Nat.zero_le _, Nat.zero_le _⟩ dX11_addTool_62 (fun da H locs v11 ev11 hH hS => ?_)
        have ho := ho v11 ev11
        refine lv_aload_n hx hb dX11_addTool_65 rfl (lv_at hl 1 rfl) ?_
        refine lv_iload_n hx hb dX11_addTool_66 rfl (lv_at hl 0 rfl) ?_
        refine lv_bipush (v := 7) hx hb dX11_addTool_67 (by decide) ?_
        refine lv_aload_n hx hb dX11_addTool_69 rfl (lv_at hl 1 rfl) ?_
        refine g_VernierDrawersModel_7 X hH hk_r dX11_addTool_70 ?_
        refine lv_sipush (v := 210) hx hb dX11_addTool_73 (by decide) ?_
        have hq12 := ho.1
        have ho := ho.2
        refine ald_M X hH (Or.inl kd_462) hq12 dX11_addTool_76 ?_
        have hq13 := ho.1
        have ho := ho.2
        refine k_X11_sets X hS hH hk_r hq13 t_ml_VernierDrawersModel_64 hl.1 (Nat.le_of_ble_eq_true rfl) ⟨Nat.le_of_ble_eq_true rfl, Nat.le_of_ble_eq_true rfl⟩ ⟨Nat.zero_le _, Nat.zero_le _⟩ dX11_addTool_77 (fun da H locs v14 ev14 hH hS => ?_)
        have ho := ho v14 ev14
        refine lv_aload_n hx hb dX11_addTool_80 rfl (lv_at hl 1 rfl) ?_
        refine g_VernierDrawersModel_7 X hH hk_r dX11_addTool_81 ?_
        refine lv_sipush (v := 203) hx hb dX11_addTool_84 (by decide) ?_
        refine lv_dup2_11 hx hb dX11_addTool_87 rfl rfl ?_
        refine ald_M X hH (Or.inl kd_462) hq6 dX11_addTool_88 ?_
        refine lv_iconst (v := 1) hx hb dX11_addTool_89 (by decide) ?_
        refine lv_iadd hx hb dX11_addTool_90 ?_
        refine ast_M X hH hS (Or.inl kd_462) hq6 dX11_addTool_91 (fun H locs v15 ev15 hH hS => ?_)
        have ho := ho v15 ev15
        refine lv_aload_n hx hb dX11_addTool_92 rfl (lv_at hl 1 rfl) ?_
        refine lv_iload_n hx hb dX11_addTool_93 rfl (lv_at hl 0 rfl) ?_
        refine lv_iconst (v := 2) hx hb dX11_addTool_94 (by decide) ?_
        have hq16 := ho
        refine k_X11_ends X hS hH hk_r hq16 t_ml_VernierDrawersModel_183 hl.1 (Nat.le_of_ble_eq_true rfl) ⟨Nat.le_of_ble_eq_true rfl, Nat.le_of_ble_eq_true rfl⟩ ⟨Nat.zero_le _, Nat.zero_le _⟩ dX11_addTool_95 (fun da H locs v17 ev17 hH hS => ?_)
        replace ev2 := Eq.symm ev2
        replace ev9 := Eq.symm ev9
        replace ev11 := Eq.symm ev11
        replace ev14 := Eq.symm ev14
        replace ev15 := Eq.symm ev15
        replace ev17 := Eq.symm ev17
        subst ev2 ev9 ev11 ev14 ev15 ev17
        exact E _ _ _ _ _ _ _ _ _ dX11_addTool_98 rfl (pr1 ((fX11_addTool.eq_1 _ _ _ _).trans ((if_neg c3).trans ((if_neg c5).trans ((if_neg c7).trans rfl))))) (pr2 ((fX11_addTool.eq_1 _ _ _ _).trans ((if_neg c3).trans ((if_neg c5).trans ((if_neg c7).trans rfl))))) hH hS (Nat.zero_le _) (Nat.zero_le _)
      · skip
        refine lv_aload_n hx hb dX11_addTool_45 rfl (lv_at hl 1 rfl) ?_
        refine lv_iconst (v := 2) hx hb dX11_addTool_46 (by decide) ?_
        refine k_X11_fails X hS hH hk_r t_ml_VernierDrawersModel_42 hl.1 (Nat.le_of_ble_eq_true rfl) ⟨Nat.le_of_ble_eq_true rfl, Nat.le_of_ble_eq_true rfl⟩ ⟨Nat.zero_le _, Nat.zero_le _⟩ dX11_addTool_47 (fun da H locs v18 ev18 hH hS => ?_)
        replace ev2 := Eq.symm ev2
        replace ev18 := Eq.symm ev18
        subst ev2 ev18
        exact E _ _ _ _ _ _ _ _ _ dX11_addTool_50 rfl (pr1 ((fX11_addTool.eq_1 _ _ _ _).trans ((if_neg c3).trans ((if_neg c5).trans ((if_pos c7).trans rfl))))) (pr2 ((fX11_addTool.eq_1 _ _ _ _).trans ((if_neg c3).trans ((if_neg c5).trans ((if_pos c7).trans rfl))))) hH hS (Nat.zero_le _) (Nat.zero_le _)
    · skip
      refine lv_aload_n hx hb dX11_addTool_24 rfl (lv_at hl 0 rfl) ?_
      refine lv_iconst (v := 1) hx hb dX11_addTool_25 (by decide) ?_
      refine k_X11_fails X hS hH hk_r t_ml_VernierDrawersModel_42 hl.1 (Nat.le_of_ble_eq_true rfl) ⟨Nat.le_of_ble_eq_true rfl, Nat.le_of_ble_eq_true rfl⟩ ⟨Nat.zero_le _, Nat.zero_le _⟩ dX11_addTool_26 (fun da H locs v19 ev19 hH hS => ?_)
      replace ev2 := Eq.symm ev2
      replace ev19 := Eq.symm ev19
      subst ev2 ev19
      exact E _ _ _ _ _ _ _ _ _ dX11_addTool_29 rfl (pr1 ((fX11_addTool.eq_1 _ _ _ _).trans ((if_neg c3).trans ((if_pos c5).trans rfl)))) (pr2 ((fX11_addTool.eq_1 _ _ _ _).trans ((if_neg c3).trans ((if_pos c5).trans rfl)))) hH hS (Nat.zero_le _) (Nat.zero_le _)
theorem k_X11_addTool {p : Program} {l : Launch} {e : Env} {R : Room} {s : State} {m : MethodId} {args : Array Value} {below : List Frame} {meth : Method} {c : Code} {H : Heap} {locs : List Loc} {cells slots : Nat} {Q : State → Prop} {cc : ByteArray} {pc nL : Nat} {ls : Array Slot} {rest : List Value} {G : gG} {own : String} {da : Nat → Nat} {v : vSt} {x : gX} (X : CX G p s m args c cc nL own) (hS : va_S (gA G) s.heap H locs) (hH : Hp G da v x H) {r : Nat} (hk_r : kd r = 11) {p1 : Int32} {p2 : Int32} (ho : oX11_addTool r p1 p2 v) {idx : Nat} (hml : Cond.methodLink own idx yX11_addTool ∈ TT) (hls : ls.size = nL) (hsum : (rest.map fun v => v.category).sum ≤ 8) (hR : rmX11_addTool.frames + 1 ≤ R.frames ∧ 8 + (4 + 11) + rmX11_addTool.locals ≤ R.locals) (hcs : cells ≤ R.cells ∧ slots ≤ R.slots) (hdg : decode cc pc = .ok (.invokevirtual idx, 3)) (kk : ∀ (d : Nat → Nat) (H1 : Heap) (locs1 : List Loc) (v1 : vSt), v1 = (fX11_addTool r p1 p2 v).2 → Hp G d v1 x H1 → va_S (gA G) s.heap H1 locs1 → W p l e R s m args below meth c H1 locs1 cells slots Q (F0 m (pc + 3) ls (.int (fX11_addTool r p1 p2 v).1 :: rest))) : W p l e R s m args below meth c H locs cells slots Q (F0 m pc ls (.int p2 :: .int p1 :: .ref (ga G r) :: rest)) := c_mi X.2.2.2.2.2.2 (runV (k := 2) X.1 X.2.1 X.2.2.1 X.2.2.2.1 X.2.2.2.2.1 (mX11_addTool l G da v x r hk_r p1 p2 ho) pW_bl hml t_im_X11_addTool t_sel_X11_addTool t_ini_VernierDrawersModel t_code_X11_addTool ⟨rfl, by decide, by decide, by decide +kernel⟩ rfl rfl hR hcs (recvW X hH (by rw [hk_r]; decide) (by rw [hk_r]; decide) (ce_11 hk_r) rfl) (preW X hS hH) rfl hls rfl hsum hdg) hS kk
def fX11_addBlock (r : Nat) (p1 : Int32) (p2 : Int32) (v : vSt) : Int32 × vSt := let v2 : vSt := fX11_begins r v; if ((fX11_in p1 1 5000) : Int32) = 0 then (let v4 : vSt := (fX11_fails r 1 v2).2; ((fX11_fails r 1 v2).1, v4)) else (if ((fX11_in p2 (-3) 3) : Int32) = 0 then (let v16 : vSt := (fX11_fails r 1 v2).2; ((fX11_fails r 1 v2).1, v16)) else (if ((v2 462 (204 : Int32).toNatClampNeg) : Int32) = 10 then (let v15 : vSt := (fX11_fails r 2 v2).2; ((fX11_fails r 2 v2).1, v15)) else (let v9 : vSt := u2 v2 462 ((48 + (3 * (v2 462 (204 : Int32).toNatClampNeg))) + 0 : Int32).toNatClampNeg p1; let v11 : vSt := u2 v9 462 ((48 + (3 * (v2 462 (204 : Int32).toNatClampNeg))) + 1 : Int32).toNatClampNeg p2; let v12 : vSt := u2 v11 462 (204 : Int32).toNatClampNeg ((v11 462 (204 : Int32).toNatClampNeg) + 1); let v14 : vSt := (fX11_ends r (v2 462 (204 : Int32).toNatClampNeg) 2 v12).2; ((fX11_ends r (v2 462 (204 : Int32).toNatClampNeg) 2 v12).1, v14))))
def oX11_addBlock (r : Nat) (p1 : Int32) (p2 : Int32) (v : vSt) : Prop := (oX11_begins r v) ∧ (∀ v2 : vSt, v2 = (fX11_begins r v) → (¬ (((fX11_in p1 1 5000) : Int32) = 0) → (¬ (((fX11_in p2 (-3) 3) : Int32) = 0) → ((vp_in (204) (mlen 462)) ∧ (¬ (((v2 462 (204 : Int32).toNatClampNeg) : Int32) = 10) → ((vp_in ((48 + (3 * (v2 462 (204 : Int32).toNatClampNeg))) + 0) (mlen 462)) ∧ (∀ v9 : vSt, v9 = (u2 v2 462 ((48 + (3 * (v2 462 (204 : Int32).toNatClampNeg))) + 0 : Int32).toNatClampNeg p1) → ((vp_in ((48 + (3 * (v2 462 (204 : Int32).toNatClampNeg))) + 1) (mlen 462)) ∧ (∀ v11 : vSt, v11 = (u2 v9 462 ((48 + (3 * (v2 462 (204 : Int32).toNatClampNeg))) + 1 : Int32).toNatClampNeg p2) → (∀ v12 : vSt, v12 = (u2 v11 462 (204 : Int32).toNatClampNeg ((v11 462 (204 : Int32).toNatClampNeg) + 1)) → (oX11_ends r (v2 462 (204 : Int32).toNatClampNeg) 2 v12)))))))))))
abbrev rmX11_addBlock : Room := { frames := 3, cells := 0, slots := 0, locals := 67 }
theorem dX11_addBlock_0 : decode cX11_addBlock 0 = .ok (.aload_n 0, 1) := by decide +kernel
theorem dX11_addBlock_1 : decode cX11_addBlock 1 = .ok (.invokevirtual 180, 3) := by decide +kernel
theorem dX11_addBlock_4 : decode cX11_addBlock 4 = .ok (.iload_n 1, 1) := by decide +kernel
theorem dX11_addBlock_5 : decode cX11_addBlock 5 = .ok (.iconst 1, 1) := by decide +kernel
theorem dX11_addBlock_6 : decode cX11_addBlock 6 = .ok (.sipush 5000, 3) := by decide +kernel
theorem dX11_addBlock_9 : decode cX11_addBlock 9 = .ok (.invokestatic 49, 3) := by decide +kernel
theorem dX11_addBlock_12 : decode cX11_addBlock 12 = .ok (.ifCond .eq 13, 3) := by decide +kernel
theorem dX11_addBlock_15 : decode cX11_addBlock 15 = .ok (.iload_n 2, 1) := by decide +kernel
theorem dX11_addBlock_16 : decode cX11_addBlock 16 = .ok (.bipush (-3), 2) := by decide +kernel
theorem dX11_addBlock_18 : decode cX11_addBlock 18 = .ok (.iconst 3, 1) := by decide +kernel
theorem dX11_addBlock_19 : decode cX11_addBlock 19 = .ok (.invokestatic 49, 3) := by decide +kernel
theorem dX11_addBlock_22 : decode cX11_addBlock 22 = .ok (.ifCond .ne 9, 3) := by decide +kernel
theorem dX11_addBlock_25 : decode cX11_addBlock 25 = .ok (.aload_n 0, 1) := by decide +kernel
theorem dX11_addBlock_26 : decode cX11_addBlock 26 = .ok (.iconst 1, 1) := by decide +kernel
theorem dX11_addBlock_27 : decode cX11_addBlock 27 = .ok (.invokevirtual 42, 3) := by decide +kernel
theorem dX11_addBlock_30 : decode cX11_addBlock 30 = .ok (.ireturn, 1) := by decide +kernel
theorem dX11_addBlock_31 : decode cX11_addBlock 31 = .ok (.aload_n 0, 1) := by decide +kernel
theorem dX11_addBlock_32 : decode cX11_addBlock 32 = .ok (.getfield 7, 3) := by decide +kernel
theorem dX11_addBlock_35 : decode cX11_addBlock 35 = .ok (.sipush 204, 3) := by decide +kernel
theorem dX11_addBlock_38 : decode cX11_addBlock 38 = .ok (.iaload, 1) := by decide +kernel
theorem dX11_addBlock_39 : decode cX11_addBlock 39 = .ok (.istore_n 3, 1) := by decide +kernel
theorem dX11_addBlock_40 : decode cX11_addBlock 40 = .ok (.iload_n 3, 1) := by decide +kernel
theorem dX11_addBlock_41 : decode cX11_addBlock 41 = .ok (.bipush 10, 2) := by decide +kernel
theorem dX11_addBlock_43 : decode cX11_addBlock 43 = .ok (.if_icmp .ne 9, 3) := by decide +kernel
theorem dX11_addBlock_46 : decode cX11_addBlock 46 = .ok (.aload_n 0, 1) := by decide +kernel
theorem dX11_addBlock_47 : decode cX11_addBlock 47 = .ok (.iconst 2, 1) := by decide +kernel
theorem dX11_addBlock_48 : decode cX11_addBlock 48 = .ok (.invokevirtual 42, 3) := by decide +kernel
theorem dX11_addBlock_51 : decode cX11_addBlock 51 = .ok (.ireturn, 1) := by decide +kernel
theorem dX11_addBlock_52 : decode cX11_addBlock 52 = .ok (.aload_n 0, 1) := by decide +kernel
theorem dX11_addBlock_53 : decode cX11_addBlock 53 = .ok (.getfield 7, 3) := by decide +kernel
theorem dX11_addBlock_56 : decode cX11_addBlock 56 = .ok (.bipush 48, 2) := by decide +kernel
theorem dX11_addBlock_58 : decode cX11_addBlock 58 = .ok (.iconst 3, 1) := by decide +kernel
theorem dX11_addBlock_59 : decode cX11_addBlock 59 = .ok (.iload_n 3, 1) := by decide +kernel
theorem dX11_addBlock_60 : decode cX11_addBlock 60 = .ok (.imul, 1) := by decide +kernel
theorem dX11_addBlock_61 : decode cX11_addBlock 61 = .ok (.iadd, 1) := by decide +kernel
theorem dX11_addBlock_62 : decode cX11_addBlock 62 = .ok (.iconst 0, 1) := by decide +kernel
theorem dX11_addBlock_63 : decode cX11_addBlock 63 = .ok (.iadd, 1) := by decide +kernel
theorem dX11_addBlock_64 : decode cX11_addBlock 64 = .ok (.iload_n 1, 1) := by decide +kernel
theorem dX11_addBlock_65 : decode cX11_addBlock 65 = .ok (.iastore, 1) := by decide +kernel
theorem dX11_addBlock_66 : decode cX11_addBlock 66 = .ok (.aload_n 0, 1) := by decide +kernel
theorem dX11_addBlock_67 : decode cX11_addBlock 67 = .ok (.getfield 7, 3) := by decide +kernel
theorem dX11_addBlock_70 : decode cX11_addBlock 70 = .ok (.bipush 48, 2) := by decide +kernel
theorem dX11_addBlock_72 : decode cX11_addBlock 72 = .ok (.iconst 3, 1) := by decide +kernel
theorem dX11_addBlock_73 : decode cX11_addBlock 73 = .ok (.iload_n 3, 1) := by decide +kernel
theorem dX11_addBlock_74 : decode cX11_addBlock 74 = .ok (.imul, 1) := by decide +kernel
theorem dX11_addBlock_75 : decode cX11_addBlock 75 = .ok (.iadd, 1) := by decide +kernel
theorem dX11_addBlock_76 : decode cX11_addBlock 76 = .ok (.iconst 1, 1) := by decide +kernel
theorem dX11_addBlock_77 : decode cX11_addBlock 77 = .ok (.iadd, 1) := by decide +kernel
theorem dX11_addBlock_78 : decode cX11_addBlock 78 = .ok (.iload_n 2, 1) := by decide +kernel
theorem dX11_addBlock_79 : decode cX11_addBlock 79 = .ok (.iastore, 1) := by decide +kernel
theorem dX11_addBlock_80 : decode cX11_addBlock 80 = .ok (.aload_n 0, 1) := by decide +kernel
theorem dX11_addBlock_81 : decode cX11_addBlock 81 = .ok (.getfield 7, 3) := by decide +kernel
theorem dX11_addBlock_84 : decode cX11_addBlock 84 = .ok (.sipush 204, 3) := by decide +kernel
theorem dX11_addBlock_87 : decode cX11_addBlock 87 = .ok (.dup2, 1) := by decide +kernel
theorem dX11_addBlock_88 : decode cX11_addBlock 88 = .ok (.iaload, 1) := by decide +kernel
theorem dX11_addBlock_89 : decode cX11_addBlock 89 = .ok (.iconst 1, 1) := by decide +kernel
theorem dX11_addBlock_90 : decode cX11_addBlock 90 = .ok (.iadd, 1) := by decide +kernel
theorem dX11_addBlock_91 : decode cX11_addBlock 91 = .ok (.iastore, 1) := by decide +kernel
theorem dX11_addBlock_92 : decode cX11_addBlock 92 = .ok (.aload_n 0, 1) := by decide +kernel
theorem dX11_addBlock_93 : decode cX11_addBlock 93 = .ok (.iload_n 3, 1) := by decide +kernel
theorem dX11_addBlock_94 : decode cX11_addBlock 94 = .ok (.iconst 2, 1) := by decide +kernel
theorem dX11_addBlock_95 : decode cX11_addBlock 95 = .ok (.invokevirtual 183, 3) := by decide +kernel
theorem dX11_addBlock_98 : decode cX11_addBlock 98 = .ok (.ireturn, 1) := by decide +kernel
set_option maxHeartbeats 8000000 in
set_option maxRecDepth 100000 in
theorem mX11_addBlock (l : Launch) (G : gG) (da : Nat → Nat) (v : vSt) (x : gX) (r : Nat) (hk_r : kd r = 11) (p1 : Int32) (p2 : Int32) (ho : oX11_addBlock r p1 p2 v) : MI l yX11_addBlock cX11_addBlock 4 (some .int) rmX11_addBlock [.ref (ga G r), .int p1, .int p2] G da v x 0 0 (fX11_addBlock r p1 p2 v).1 (fX11_addBlock r p1 p2 v).2 x := by
  refine gofMI (own := RX11) (by decide) rfl (Nat.le_of_ble_eq_true rfl) (fun p e s m args below meth c ls Q X hH hl E => ?_)
  have hx := X.1
  have hb := X.2.1
  have hown := X.2.2.2.1
  have hts := X.2.2.2.2.1
  have hS : va_S (gA G) s.heap s.heap [] := va_S.rf
  unfold oX11_addBlock at ho
  have hl : lv_has ls 4 [(0, .ref (ga G r)), (1, .int p1), (2, .int p2)] := hl
  refine lv_aload_n hx hb dX11_addBlock_0 rfl (lv_at hl 0 rfl) ?_
  have hq1 := ho.1
  have ho := ho.2
  refine k_X11_begins X hS hH hk_r hq1 t_ml_VernierDrawersModel_180 hl.1 (Nat.le_of_ble_eq_true rfl) ⟨Nat.le_of_ble_eq_true rfl, Nat.le_of_ble_eq_true rfl⟩ ⟨Nat.zero_le _, Nat.zero_le _⟩ dX11_addBlock_1 (fun da H locs v2 ev2 hH hS => ?_)
  have ho := ho v2 ev2
  refine lv_iload_n hx hb dX11_addBlock_4 rfl (lv_at hl 1 rfl) ?_
  refine lv_iconst (v := 1) hx hb dX11_addBlock_5 (by decide) ?_
  refine lv_sipush (v := 5000) hx hb dX11_addBlock_6 (by decide) ?_
  refine k_X11_in X hS  t_ml_VernierDrawersModel_49 hl.1 (Nat.le_of_ble_eq_true rfl) ⟨Nat.le_of_ble_eq_true rfl, Nat.le_of_ble_eq_true rfl⟩ ⟨Nat.zero_le _, Nat.zero_le _⟩ dX11_addBlock_9 ?_
  refine lv_if_eq (tgt := 25) hx hb dX11_addBlock_12 (by decide) (fun c3 => ?_) (fun c3 => ?_)
  · skip
    refine lv_aload_n hx hb dX11_addBlock_25 rfl (lv_at hl 0 rfl) ?_
    refine lv_iconst (v := 1) hx hb dX11_addBlock_26 (by decide) ?_
    refine k_X11_fails X hS hH hk_r t_ml_VernierDrawersModel_42 hl.1 (Nat.le_of_ble_eq_true rfl) ⟨Nat.le_of_ble_eq_true rfl, Nat.le_of_ble_eq_true rfl⟩ ⟨Nat.zero_le _, Nat.zero_le _⟩ dX11_addBlock_27 (fun da H locs v4 ev4 hH hS => ?_)
    replace ev2 := Eq.symm ev2
    replace ev4 := Eq.symm ev4
    subst ev2 ev4
    exact E _ _ _ _ _ _ _ _ _ dX11_addBlock_30 rfl (pr1 ((fX11_addBlock.eq_1 _ _ _ _).trans ((if_pos c3).trans rfl))) (pr2 ((fX11_addBlock.eq_1 _ _ _ _).trans ((if_pos c3).trans rfl))) hH hS (Nat.zero_le _) (Nat.zero_le _)
  · have ho := ho c3
    refine lv_iload_n hx hb dX11_addBlock_15 rfl (lv_at hl 2 rfl) ?_
    refine lv_bipush (v := (-3)) hx hb dX11_addBlock_16 (by decide) ?_
    refine lv_iconst (v := 3) hx hb dX11_addBlock_18 (by decide) ?_
    refine k_X11_in X hS  t_ml_VernierDrawersModel_49 hl.1 (Nat.le_of_ble_eq_true rfl) ⟨Nat.le_of_ble_eq_true rfl, Nat.le_of_ble_eq_true rfl⟩ ⟨Nat.zero_le _, Nat.zero_le _⟩ dX11_addBlock_19 ?_
    refine lv_if_ne (tgt := 31) hx hb dX11_addBlock_22 (by decide) (fun c5 => ?_) (fun c5 => ?_)
    · have ho := ho c5
      refine lv_aload_n hx hb dX11_addBlock_31 rfl (lv_at hl 0 rfl) ?_
      refine g_VernierDrawersModel_7 X hH hk_r dX11_addBlock_32 ?_
      refine lv_sipush (v := 204) hx hb dX11_addBlock_35 (by decide) ?_
      have hq6 := ho.1
      have ho := ho.2
      refine ald_M X hH (Or.inl kd_462) hq6 dX11_addBlock_38 ?_
      refine lv_istore_n (lv' := [(3, .int (v2 462 (204 : Int32).toNatClampNeg)), (0, .ref (ga G r)), (1, .int p1), (2, .int p2)]) hx hb dX11_addBlock_39 rfl hl (by decide) rfl (fun ls hl => ?_)
      refine lv_iload_n hx hb dX11_addBlock_40 rfl (lv_at hl 0 rfl) ?_
      refine lv_bipush (v := 10) hx hb dX11_addBlock_41 (by decide) ?_
      refine lv_icmp_ne (tgt := 52) hx hb dX11_addBlock_43 (by decide) (fun c7 => ?_) (fun c7 => ?_)
      · have ho := ho c7
        refine lv_aload_n hx hb dX11_addBlock_52 rfl (lv_at hl 1 rfl) ?_
        refine g_VernierDrawersModel_7 X hH hk_r dX11_addBlock_53 ?_
        refine lv_bipush (v := 48) hx hb dX11_addBlock_56 (by decide) ?_
        refine lv_iconst (v := 3) hx hb dX11_addBlock_58 (by decide) ?_
        refine lv_iload_n hx hb dX11_addBlock_59 rfl (lv_at hl 0 rfl) ?_
        refine lv_imul hx hb dX11_addBlock_60 ?_
        refine lv_iadd hx hb dX11_addBlock_61 ?_
        refine lv_iconst (v := 0) hx hb dX11_addBlock_62 (by decide) ?_
        refine lv_iadd hx hb dX11_addBlock_63 ?_
        refine lv_iload_n hx hb dX11_addBlock_64 rfl (lv_at hl 2 rfl) ?_
        have hq8 := ho.1
        have ho := ho.2
        refine ast_M X hH hS (Or.inl kd_462) hq8 dX11_addBlock_65 (fun H locs v9 ev9 hH hS => ?_)
        have ho := ho v9 ev9
        refine lv_aload_n hx hb dX11_addBlock_66 rfl (lv_at hl 1 rfl) ?_
        refine g_VernierDrawersModel_7 X hH hk_r dX11_addBlock_67 ?_
        refine lv_bipush (v := 48) hx hb dX11_addBlock_70 (by decide) ?_
        refine lv_iconst (v := 3) hx hb dX11_addBlock_72 (by decide) ?_
        refine lv_iload_n hx hb dX11_addBlock_73 rfl (lv_at hl 0 rfl) ?_
        refine lv_imul hx hb dX11_addBlock_74 ?_
        refine lv_iadd hx hb dX11_addBlock_75 ?_
        refine lv_iconst (v := 1) hx hb dX11_addBlock_76 (by decide) ?_
        refine lv_iadd hx hb dX11_addBlock_77 ?_
        refine lv_iload_n hx hb dX11_addBlock_78 rfl (lv_at hl 3 rfl) ?_
        have hq10 := ho.1
        have ho := ho.2
        refine ast_M X hH hS (Or.inl kd_462) hq10 dX11_addBlock_79 (fun H locs v11 ev11 hH hS => ?_)
        have ho := ho v11 ev11
        refine lv_aload_n hx hb dX11_addBlock_80 rfl (lv_at hl 1 rfl) ?_
        refine g_VernierDrawersModel_7 X hH hk_r dX11_addBlock_81 ?_
        refine lv_sipush (v := 204) hx hb dX11_addBlock_84 (by decide) ?_
        refine lv_dup2_11 hx hb dX11_addBlock_87 rfl rfl ?_
        refine ald_M X hH (Or.inl kd_462) hq6 dX11_addBlock_88 ?_
        refine lv_iconst (v := 1) hx hb dX11_addBlock_89 (by decide) ?_
        refine lv_iadd hx hb dX11_addBlock_90 ?_
        refine ast_M X hH hS (Or.inl kd_462) hq6 dX11_addBlock_91 (fun H locs v12 ev12 hH hS => ?_)
        have ho := ho v12 ev12
        refine lv_aload_n hx hb dX11_addBlock_92 rfl (lv_at hl 1 rfl) ?_
        refine lv_iload_n hx hb dX11_addBlock_93 rfl (lv_at hl 0 rfl) ?_
        refine lv_iconst (v := 2) hx hb dX11_addBlock_94 (by decide) ?_
        have hq13 := ho
        refine k_X11_ends X hS hH hk_r hq13 t_ml_VernierDrawersModel_183 hl.1 (Nat.le_of_ble_eq_true rfl) ⟨Nat.le_of_ble_eq_true rfl, Nat.le_of_ble_eq_true rfl⟩ ⟨Nat.zero_le _, Nat.zero_le _⟩ dX11_addBlock_95 (fun da H locs v14 ev14 hH hS => ?_)
        replace ev2 := Eq.symm ev2
        replace ev9 := Eq.symm ev9
        replace ev11 := Eq.symm ev11
        replace ev12 := Eq.symm ev12
        replace ev14 := Eq.symm ev14
        subst ev2 ev9 ev11 ev12 ev14
        exact E _ _ _ _ _ _ _ _ _ dX11_addBlock_98 rfl (pr1 ((fX11_addBlock.eq_1 _ _ _ _).trans ((if_neg c3).trans ((if_neg c5).trans ((if_neg c7).trans rfl))))) (pr2 ((fX11_addBlock.eq_1 _ _ _ _).trans ((if_neg c3).trans ((if_neg c5).trans ((if_neg c7).trans rfl))))) hH hS (Nat.zero_le _) (Nat.zero_le _)
      · skip
        refine lv_aload_n hx hb dX11_addBlock_46 rfl (lv_at hl 1 rfl) ?_
        refine lv_iconst (v := 2) hx hb dX11_addBlock_47 (by decide) ?_
        refine k_X11_fails X hS hH hk_r t_ml_VernierDrawersModel_42 hl.1 (Nat.le_of_ble_eq_true rfl) ⟨Nat.le_of_ble_eq_true rfl, Nat.le_of_ble_eq_true rfl⟩ ⟨Nat.zero_le _, Nat.zero_le _⟩ dX11_addBlock_48 (fun da H locs v15 ev15 hH hS => ?_)
        replace ev2 := Eq.symm ev2
        replace ev15 := Eq.symm ev15
        subst ev2 ev15
        exact E _ _ _ _ _ _ _ _ _ dX11_addBlock_51 rfl (pr1 ((fX11_addBlock.eq_1 _ _ _ _).trans ((if_neg c3).trans ((if_neg c5).trans ((if_pos c7).trans rfl))))) (pr2 ((fX11_addBlock.eq_1 _ _ _ _).trans ((if_neg c3).trans ((if_neg c5).trans ((if_pos c7).trans rfl))))) hH hS (Nat.zero_le _) (Nat.zero_le _)
    · skip
      refine lv_aload_n hx hb dX11_addBlock_25 rfl (lv_at hl 0 rfl) ?_
      refine lv_iconst (v := 1) hx hb dX11_addBlock_26 (by decide) ?_
      refine k_X11_fails X hS hH hk_r t_ml_VernierDrawersModel_42 hl.1 (Nat.le_of_ble_eq_true rfl) ⟨Nat.le_of_ble_eq_true rfl, Nat.le_of_ble_eq_true rfl⟩ ⟨Nat.zero_le _, Nat.zero_le _⟩ dX11_addBlock_27 (fun da H locs v16 ev16 hH hS => ?_)
      replace ev2 := Eq.symm ev2
      replace ev16 := Eq.symm ev16
      subst ev2 ev16
      exact E _ _ _ _ _ _ _ _ _ dX11_addBlock_30 rfl (pr1 ((fX11_addBlock.eq_1 _ _ _ _).trans ((if_neg c3).trans ((if_pos c5).trans rfl)))) (pr2 ((fX11_addBlock.eq_1 _ _ _ _).trans ((if_neg c3).trans ((if_pos c5).trans rfl)))) hH hS (Nat.zero_le _) (Nat.zero_le _)
theorem k_X11_addBlock {p : Program} {l : Launch} {e : Env} {R : Room} {s : State} {m : MethodId} {args : Array Value} {below : List Frame} {meth : Method} {c : Code} {H : Heap} {locs : List Loc} {cells slots : Nat} {Q : State → Prop} {cc : ByteArray} {pc nL : Nat} {ls : Array Slot} {rest : List Value} {G : gG} {own : String} {da : Nat → Nat} {v : vSt} {x : gX} (X : CX G p s m args c cc nL own) (hS : va_S (gA G) s.heap H locs) (hH : Hp G da v x H) {r : Nat} (hk_r : kd r = 11) {p1 : Int32} {p2 : Int32} (ho : oX11_addBlock r p1 p2 v) {idx : Nat} (hml : Cond.methodLink own idx yX11_addBlock ∈ TT) (hls : ls.size = nL) (hsum : (rest.map fun v => v.category).sum ≤ 8) (hR : rmX11_addBlock.frames + 1 ≤ R.frames ∧ 8 + (4 + 11) + rmX11_addBlock.locals ≤ R.locals) (hcs : cells ≤ R.cells ∧ slots ≤ R.slots) (hdg : decode cc pc = .ok (.invokevirtual idx, 3)) (kk : ∀ (d : Nat → Nat) (H1 : Heap) (locs1 : List Loc) (v1 : vSt), v1 = (fX11_addBlock r p1 p2 v).2 → Hp G d v1 x H1 → va_S (gA G) s.heap H1 locs1 → W p l e R s m args below meth c H1 locs1 cells slots Q (F0 m (pc + 3) ls (.int (fX11_addBlock r p1 p2 v).1 :: rest))) : W p l e R s m args below meth c H locs cells slots Q (F0 m pc ls (.int p2 :: .int p1 :: .ref (ga G r) :: rest)) := c_mi X.2.2.2.2.2.2 (runV (k := 2) X.1 X.2.1 X.2.2.1 X.2.2.2.1 X.2.2.2.2.1 (mX11_addBlock l G da v x r hk_r p1 p2 ho) pW_bl hml t_im_X11_addBlock t_sel_X11_addBlock t_ini_VernierDrawersModel t_code_X11_addBlock ⟨rfl, by decide, by decide, by decide +kernel⟩ rfl rfl hR hcs (recvW X hH (by rw [hk_r]; decide) (by rw [hk_r]; decide) (ce_11 hk_r) rfl) (preW X hS hH) rfl hls rfl hsum hdg) hS kk
