/-! VernierDrawers: helpers that throw. -/
def lX10_dropOldestState_9 : Nat → Int32 → vSt → vSt
  | 0, i2, v3 => v3
  | n + 1, i2, v3 => if (4 : Int32) ≤ i2 then v3 else (let v8 : vSt := u2 v3 449 (i2 - 1 : Int32).toNatClampNeg (Int32.ofNat (rN (v3 449 (i2 : Int32).toNatClampNeg))); lX10_dropOldestState_9 n (i2 + 1) v8)
def olX10_dropOldestState_9 : Nat → Int32 → vSt → Prop
  | 0, _, _ => False
  | n + 1, i2, v3 => ¬ ((4 : Int32) ≤ i2) → ((vp_in (i2) 4) ∧ ((kd (rN (v3 449 (i2 : Int32).toNatClampNeg)) = 7) ∧ ((vp_in (i2 - 1) 4) ∧ (∀ v8 : vSt, v8 = (u2 v3 449 (i2 - 1 : Int32).toNatClampNeg (Int32.ofNat (rN (v3 449 (i2 : Int32).toNatClampNeg)))) → (olX10_dropOldestState_9 n (i2 + 1) v8)))))
def fX10_dropOldestState (r : Nat) (v : vSt) : vSt := let v4 : vSt := (lX10_dropOldestState_9 ((Int32.toInt (4) - Int32.toInt 1).toNat + 1) 1 v); let v10 : vSt := u2 v4 449 (4 - 1 : Int32).toNatClampNeg (Int32.ofNat (rN (v 449 (0 : Int32).toNatClampNeg))); let v11 : vSt := u2 v10 r 2 (4 - 1); v11
def oX10_dropOldestState (r : Nat) (v : vSt) : Prop := (kd (rN (v 449 (0 : Int32).toNatClampNeg)) = 7) ∧ (olX10_dropOldestState_9 ((Int32.toInt (4) - Int32.toInt 1).toNat + 1) 1 v ∧ (∀ (v4 : vSt), v4 = ((lX10_dropOldestState_9 ((Int32.toInt (4) - Int32.toInt 1).toNat + 1) 1 v) : vSt) → (vp_in (4 - 1) 4)))
abbrev rmX10_dropOldestState : Room := { frames := 0, cells := 0, slots := 0, locals := 0 }
theorem dX10_dropOldestState_0 : decode cX10_dropOldestState 0 = .ok (.aload_n 0, 1) := by decide +kernel
theorem dX10_dropOldestState_1 : decode cX10_dropOldestState 1 = .ok (.getfield 16, 3) := by decide +kernel
theorem dX10_dropOldestState_4 : decode cX10_dropOldestState 4 = .ok (.iconst 0, 1) := by decide +kernel
theorem dX10_dropOldestState_5 : decode cX10_dropOldestState 5 = .ok (.aaload, 1) := by decide +kernel
theorem dX10_dropOldestState_6 : decode cX10_dropOldestState 6 = .ok (.astore_n 1, 1) := by decide +kernel
theorem dX10_dropOldestState_7 : decode cX10_dropOldestState 7 = .ok (.iconst 1, 1) := by decide +kernel
theorem dX10_dropOldestState_8 : decode cX10_dropOldestState 8 = .ok (.istore_n 2, 1) := by decide +kernel
theorem dX10_dropOldestState_9 : decode cX10_dropOldestState 9 = .ok (.iload_n 2, 1) := by decide +kernel
theorem dX10_dropOldestState_10 : decode cX10_dropOldestState 10 = .ok (.aload_n 0, 1) := by decide +kernel
theorem dX10_dropOldestState_11 : decode cX10_dropOldestState 11 = .ok (.getfield 16, 3) := by decide +kernel
theorem dX10_dropOldestState_14 : decode cX10_dropOldestState 14 = .ok (.arraylength, 1) := by decide +kernel
theorem dX10_dropOldestState_15 : decode cX10_dropOldestState 15 = .ok (.if_icmp .ge 23, 3) := by decide +kernel
theorem dX10_dropOldestState_18 : decode cX10_dropOldestState 18 = .ok (.aload_n 0, 1) := by decide +kernel
theorem dX10_dropOldestState_19 : decode cX10_dropOldestState 19 = .ok (.getfield 16, 3) := by decide +kernel
theorem dX10_dropOldestState_22 : decode cX10_dropOldestState 22 = .ok (.iload_n 2, 1) := by decide +kernel
theorem dX10_dropOldestState_23 : decode cX10_dropOldestState 23 = .ok (.iconst 1, 1) := by decide +kernel
theorem dX10_dropOldestState_24 : decode cX10_dropOldestState 24 = .ok (.isub, 1) := by decide +kernel
theorem dX10_dropOldestState_25 : decode cX10_dropOldestState 25 = .ok (.aload_n 0, 1) := by decide +kernel
theorem dX10_dropOldestState_26 : decode cX10_dropOldestState 26 = .ok (.getfield 16, 3) := by decide +kernel
theorem dX10_dropOldestState_29 : decode cX10_dropOldestState 29 = .ok (.iload_n 2, 1) := by decide +kernel
theorem dX10_dropOldestState_30 : decode cX10_dropOldestState 30 = .ok (.aaload, 1) := by decide +kernel
theorem dX10_dropOldestState_31 : decode cX10_dropOldestState 31 = .ok (.aastore, 1) := by decide +kernel
theorem dX10_dropOldestState_32 : decode cX10_dropOldestState 32 = .ok (.iinc 2 1, 3) := by decide +kernel
theorem dX10_dropOldestState_35 : decode cX10_dropOldestState 35 = .ok (.goto (-26), 3) := by decide +kernel
theorem dX10_dropOldestState_38 : decode cX10_dropOldestState 38 = .ok (.aload_n 0, 1) := by decide +kernel
theorem dX10_dropOldestState_39 : decode cX10_dropOldestState 39 = .ok (.getfield 16, 3) := by decide +kernel
theorem dX10_dropOldestState_42 : decode cX10_dropOldestState 42 = .ok (.aload_n 0, 1) := by decide +kernel
theorem dX10_dropOldestState_43 : decode cX10_dropOldestState 43 = .ok (.getfield 16, 3) := by decide +kernel
theorem dX10_dropOldestState_46 : decode cX10_dropOldestState 46 = .ok (.arraylength, 1) := by decide +kernel
theorem dX10_dropOldestState_47 : decode cX10_dropOldestState 47 = .ok (.iconst 1, 1) := by decide +kernel
theorem dX10_dropOldestState_48 : decode cX10_dropOldestState 48 = .ok (.isub, 1) := by decide +kernel
theorem dX10_dropOldestState_49 : decode cX10_dropOldestState 49 = .ok (.aload_n 1, 1) := by decide +kernel
theorem dX10_dropOldestState_50 : decode cX10_dropOldestState 50 = .ok (.aastore, 1) := by decide +kernel
theorem dX10_dropOldestState_51 : decode cX10_dropOldestState 51 = .ok (.aload_n 0, 1) := by decide +kernel
theorem dX10_dropOldestState_52 : decode cX10_dropOldestState 52 = .ok (.aload_n 0, 1) := by decide +kernel
theorem dX10_dropOldestState_53 : decode cX10_dropOldestState 53 = .ok (.getfield 16, 3) := by decide +kernel
theorem dX10_dropOldestState_56 : decode cX10_dropOldestState 56 = .ok (.arraylength, 1) := by decide +kernel
theorem dX10_dropOldestState_57 : decode cX10_dropOldestState 57 = .ok (.iconst 1, 1) := by decide +kernel
theorem dX10_dropOldestState_58 : decode cX10_dropOldestState 58 = .ok (.isub, 1) := by decide +kernel
theorem dX10_dropOldestState_59 : decode cX10_dropOldestState 59 = .ok (.putfield 401, 3) := by decide +kernel
theorem dX10_dropOldestState_62 : decode cX10_dropOldestState 62 = .ok (.return_, 1) := by decide +kernel
set_option maxHeartbeats 8000000 in
set_option maxRecDepth 100000 in
theorem mX10_dropOldestState (l : Launch) (G : gG) (da : Nat → Nat) (v : vSt) (x : gX) (r : Nat) (hk_r : kd r = 10) (ho : oX10_dropOldestState r v) : MV l yX10_dropOldestState cX10_dropOldestState 3 none rmX10_dropOldestState [.ref (ga G r)] G da v x 0 0 (fX10_dropOldestState r v) x := by
  refine gofMV (own := RX10) (by decide) rfl (Nat.le_of_ble_eq_true rfl) (fun p e s m args below meth c ls Q X hH hl E => ?_)
  have hx := X.1
  have hb := X.2.1
  have hown := X.2.2.2.1
  have hts := X.2.2.2.2.1
  have hS : va_S (gA G) s.heap s.heap [] := va_S.rf
  unfold oX10_dropOldestState at ho
  have hl : lv_has ls 3 [(0, .ref (ga G r))] := hl
  refine lv_aload_n hx hb dX10_dropOldestState_0 rfl (lv_at hl 0 rfl) ?_
  refine g_VernierDrawers_16 X hH hk_r dX10_dropOldestState_1 ?_
  refine lv_iconst (v := 0) hx hb dX10_dropOldestState_4 (by decide) ?_
  refine qld_26 X hH kd_449 (i_in (by decide) (by decide)) dX10_dropOldestState_5 ?_
  have hq1 := ho.1
  have ho := ho.2
  refine lv_astore_n (lv' := [(1, .ref (ga G (rN (v 449 (0 : Int32).toNatClampNeg)))), (0, .ref (ga G r))]) hx hb dX10_dropOldestState_6 rfl hl (by decide) rfl (fun ls hl => ?_)
  refine lv_iconst (v := 1) hx hb dX10_dropOldestState_7 (by decide) ?_
  refine lv_istore_n (lv' := [(2, .int 1), (1, .ref (ga G (rN (v 449 (0 : Int32).toNatClampNeg)))), (0, .ref (ga G r))]) hx hb dX10_dropOldestState_8 rfl hl (by decide) rfl (fun ls hl => ?_)
  have L5 : ∀ (n : Nat) (i2 : Int32) (v3 : vSt) (da : Nat → Nat) (H : Heap) (locs : List Loc) (ls : Array Slot), olX10_dropOldestState_9 n i2 v3 → Hp G da v3 x H → va_S (gA G) s.heap H locs → lv_has ls 3 [(2, .int i2), (1, .ref (ga G (rN (v 449 (0 : Int32).toNatClampNeg)))), (0, .ref (ga G r))] → (∀ (v4 : vSt) (da : Nat → Nat) (H : Heap) (locs : List Loc) (ls : Array Slot), v4 = (lX10_dropOldestState_9 n i2 v3 : vSt) → Hp G da v4 x H → va_S (gA G) s.heap H locs → lv_has ls 3 [(1, .ref (ga G (rN (v 449 (0 : Int32).toNatClampNeg)))), (0, .ref (ga G r))] → W p l e rmX10_dropOldestState s m args below meth c H locs 0 0 Q (F0 m 38 ls [])) → W p l e rmX10_dropOldestState s m args below meth c H locs 0 0 Q (F0 m 9 ls []) := by
    clear ho
    intro n
    induction n with
    | zero =>
      intro i2 v3 da H locs ls ho
      exact ho.elim
    | succ n ih =>
      intro i2 v3 da H locs ls ho hH hS hl K6
      refine lv_iload_n hx hb dX10_dropOldestState_9 rfl (lv_at hl 0 rfl) ?_
      refine lv_aload_n hx hb dX10_dropOldestState_10 rfl (lv_at hl 2 rfl) ?_
      refine g_VernierDrawers_16 X hH hk_r dX10_dropOldestState_11 ?_
      refine len_26 X hH kd_449 dX10_dropOldestState_14 ?_
      refine lv_icmp_ge (tgt := 38) hx hb dX10_dropOldestState_15 (by decide) (fun c4 => ?_) (fun c4 => ?_)
      · skip
        exact K6 _ _ _ _ _ (Eq.symm (((lX10_dropOldestState_9.eq_2 _ _ _)).trans ((if_pos c4).trans rfl))) hH hS (lv_sub hl [1, 2] rfl)
      · have ho := ho c4
        refine lv_aload_n hx hb dX10_dropOldestState_18 rfl (lv_at hl 2 rfl) ?_
        refine g_VernierDrawers_16 X hH hk_r dX10_dropOldestState_19 ?_
        refine lv_iload_n hx hb dX10_dropOldestState_22 rfl (lv_at hl 0 rfl) ?_
        refine lv_iconst (v := 1) hx hb dX10_dropOldestState_23 (by decide) ?_
        refine lv_isub hx hb dX10_dropOldestState_24 ?_
        refine lv_aload_n hx hb dX10_dropOldestState_25 rfl (lv_at hl 2 rfl) ?_
        refine g_VernierDrawers_16 X hH hk_r dX10_dropOldestState_26 ?_
        refine lv_iload_n hx hb dX10_dropOldestState_29 rfl (lv_at hl 0 rfl) ?_
        have hq5 := ho.1
        have ho := ho.2
        refine qld_26 X hH kd_449 hq5 dX10_dropOldestState_30 ?_
        have hq6 := ho.1
        have ho := ho.2
        have hq7 := ho.1
        have ho := ho.2
        refine qst_26 X hH hS kd_449 hq6 hq7 dX10_dropOldestState_31 (fun H locs v8 ev8 hH hS => ?_)
        have ho := ho v8 ev8
        refine lv_iinc (v := i2 + 1) (lv' := [(2, .int (i2 + 1)), (1, .ref (ga G (rN (v 449 (0 : Int32).toNatClampNeg)))), (0, .ref (ga G r))]) hx hb dX10_dropOldestState_32 hl (k := 0) rfl rfl (by decide) rfl (fun ls hl => ?_)
        refine lv_goto (tgt := 9) hx hb dX10_dropOldestState_35 (by decide) ?_
        replace ev8 := Eq.symm ev8
        subst ev8
        exact ih _ _ _ _ _ _ ho hH hS (lv_sub hl [0, 1, 2] rfl) (fun v4 da H locs ls q0 hH hS hl => K6 v4 da H locs ls (q0.trans (congrArg (fun z : vSt => z) (Eq.symm (((lX10_dropOldestState_9.eq_2 _ _ _)).trans ((if_neg c4).trans rfl))))) hH hS hl)
  have hol := ho.1
  refine L5 ((Int32.toInt (4) - Int32.toInt 1).toNat + 1) 1 v _ _ _ _ hol hH hS (lv_sub hl [0, 1, 2] rfl) (fun v4 da H locs ls ev4 hH hS hl => ?_)
  have ho := ho.2 v4 ev4
  refine lv_aload_n hx hb dX10_dropOldestState_38 rfl (lv_at hl 1 rfl) ?_
  refine g_VernierDrawers_16 X hH hk_r dX10_dropOldestState_39 ?_
  refine lv_aload_n hx hb dX10_dropOldestState_42 rfl (lv_at hl 1 rfl) ?_
  refine g_VernierDrawers_16 X hH hk_r dX10_dropOldestState_43 ?_
  refine len_26 X hH kd_449 dX10_dropOldestState_46 ?_
  refine lv_iconst (v := 1) hx hb dX10_dropOldestState_47 (by decide) ?_
  refine lv_isub hx hb dX10_dropOldestState_48 ?_
  refine lv_aload_n hx hb dX10_dropOldestState_49 rfl (lv_at hl 0 rfl) ?_
  have hq9 := ho
  refine qst_26 X hH hS kd_449 hq1 hq9 dX10_dropOldestState_50 (fun H locs v10 ev10 hH hS => ?_)
  refine lv_aload_n hx hb dX10_dropOldestState_51 rfl (lv_at hl 1 rfl) ?_
  refine lv_aload_n hx hb dX10_dropOldestState_52 rfl (lv_at hl 1 rfl) ?_
  refine g_VernierDrawers_16 X hH hk_r dX10_dropOldestState_53 ?_
  refine len_26 X hH kd_449 dX10_dropOldestState_56 ?_
  refine lv_iconst (v := 1) hx hb dX10_dropOldestState_57 (by decide) ?_
  refine lv_isub hx hb dX10_dropOldestState_58 ?_
  refine p_VernierDrawers_401 X hH hS hk_r dX10_dropOldestState_59 (fun H locs v11 ev11 hH hS => ?_)
  replace ev4 := Eq.symm ev4
  replace ev10 := Eq.symm ev10
  replace ev11 := Eq.symm ev11
  subst ev4 ev10 ev11
  exact E _ _ _ _ _ _ _ _ dX10_dropOldestState_62 (Eq.symm rfl) hH hS (Nat.zero_le _) (Nat.zero_le _)
theorem k_X10_dropOldestState {p : Program} {l : Launch} {e : Env} {R : Room} {s : State} {m : MethodId} {args : Array Value} {below : List Frame} {meth : Method} {c : Code} {H : Heap} {locs : List Loc} {cells slots : Nat} {Q : State → Prop} {cc : ByteArray} {pc nL : Nat} {ls : Array Slot} {rest : List Value} {G : gG} {own : String} {da : Nat → Nat} {v : vSt} {x : gX} (X : CX G p s m args c cc nL own) (hS : va_S (gA G) s.heap H locs) (hH : Hp G da v x H) {r : Nat} (hk_r : kd r = 10) (ho : oX10_dropOldestState r v) {idx : Nat} (hml : Cond.methodLink own idx yX10_dropOldestState ∈ TT) (hls : ls.size = nL) (hsum : (rest.map fun v => v.category).sum ≤ 8) (hR : rmX10_dropOldestState.frames + 1 ≤ R.frames ∧ 8 + (3 + 11) + rmX10_dropOldestState.locals ≤ R.locals) (hcs : cells ≤ R.cells ∧ slots ≤ R.slots) (hdg : decode cc pc = .ok (.invokevirtual idx, 3)) (kk : ∀ (d : Nat → Nat) (H1 : Heap) (locs1 : List Loc) (v1 : vSt), v1 = fX10_dropOldestState r v → Hp G d v1 x H1 → va_S (gA G) s.heap H1 locs1 → W p l e R s m args below meth c H1 locs1 cells slots Q (F0 m (pc + 3) ls rest)) : W p l e R s m args below meth c H locs cells slots Q (F0 m pc ls (.ref (ga G r) :: rest)) := c_mv X.2.2.2.2.2.2 (runV (k := 0) X.1 X.2.1 X.2.2.1 X.2.2.2.1 X.2.2.2.2.1 (mX10_dropOldestState l G da v x r hk_r ho) pW_bl hml t_im_X10_dropOldestState t_sel_X10_dropOldestState t_ini_VernierDrawers t_code_X10_dropOldestState ⟨rfl, by decide, by decide, by decide +kernel⟩ rfl rfl hR hcs (recvW X hH (by rw [hk_r]; decide) (by rw [hk_r]; decide) (ce_10 hk_r) rfl) (preW X hS hH) rfl hls rfl hsum hdg) hS kk
def fX10_recordState (r : Nat) (v : vSt) : vSt := let v1 : vSt := (if ((v r 2) : Int32) < 4 then v else (let v4 : vSt := fX10_dropOldestState r v; v4) : vSt); let v8 : vSt := fX7_copyFrom (rN (v1 449 (v1 r 2 : Int32).toNatClampNeg)) (rN (v1 r 0)) v1; let v9 : vSt := u2 v8 r 2 ((v8 r 2) + 1); v9

def kkX10_recordState (r : Nat) (v : vSt) : Nat := pot (fX10_recordState r v) - pot v
def oX10_recordState (r : Nat) (v : vSt) : Prop := (¬ (((v r 2) : Int32) < 4) → (oX10_dropOldestState r v)) ∧ (∀ (v1 : vSt), v1 = ((if ((v r 2) : Int32) < 4 then v else (let v4 : vSt := fX10_dropOldestState r v; v4) : vSt) : vSt) → ((vp_in (v1 r 2) 4) ∧ ((kd (rN (v1 449 (v1 r 2 : Int32).toNatClampNeg)) = 7) ∧ ((kd (rN (v1 r 0)) = 7) ∧ ((oX7_copyFrom (rN (v1 449 (v1 r 2 : Int32).toNatClampNeg)) (rN (v1 r 0)) v1) ∧ (0 + kkX7_copyFrom (rN (v1 449 (v1 r 2 : Int32).toNatClampNeg)) (rN (v1 r 0)) v1 ≤ kkX10_recordState r v))))))
abbrev rmX10_recordState (r : Nat) (v : vSt) : Room := { frames := 6, cells := kkX10_recordState r v, slots := kkX10_recordState r v, locals := 176 }
theorem dX10_recordState_0 : decode cX10_recordState 0 = .ok (.aload_n 0, 1) := by decide +kernel
theorem dX10_recordState_1 : decode cX10_recordState 1 = .ok (.getfield 401, 3) := by decide +kernel
theorem dX10_recordState_4 : decode cX10_recordState 4 = .ok (.aload_n 0, 1) := by decide +kernel
theorem dX10_recordState_5 : decode cX10_recordState 5 = .ok (.getfield 16, 3) := by decide +kernel
theorem dX10_recordState_8 : decode cX10_recordState 8 = .ok (.arraylength, 1) := by decide +kernel
theorem dX10_recordState_9 : decode cX10_recordState 9 = .ok (.if_icmp .lt 7, 3) := by decide +kernel
theorem dX10_recordState_12 : decode cX10_recordState 12 = .ok (.aload_n 0, 1) := by decide +kernel
theorem dX10_recordState_13 : decode cX10_recordState 13 = .ok (.invokevirtual 437, 3) := by decide +kernel
theorem dX10_recordState_16 : decode cX10_recordState 16 = .ok (.aload_n 0, 1) := by decide +kernel
theorem dX10_recordState_17 : decode cX10_recordState 17 = .ok (.getfield 16, 3) := by decide +kernel
theorem dX10_recordState_20 : decode cX10_recordState 20 = .ok (.aload_n 0, 1) := by decide +kernel
theorem dX10_recordState_21 : decode cX10_recordState 21 = .ok (.getfield 401, 3) := by decide +kernel
theorem dX10_recordState_24 : decode cX10_recordState 24 = .ok (.aaload, 1) := by decide +kernel
theorem dX10_recordState_25 : decode cX10_recordState 25 = .ok (.aload_n 0, 1) := by decide +kernel
theorem dX10_recordState_26 : decode cX10_recordState 26 = .ok (.getfield 10, 3) := by decide +kernel
theorem dX10_recordState_29 : decode cX10_recordState 29 = .ok (.invokevirtual 391, 3) := by decide +kernel
theorem dX10_recordState_32 : decode cX10_recordState 32 = .ok (.aload_n 0, 1) := by decide +kernel
theorem dX10_recordState_33 : decode cX10_recordState 33 = .ok (.dup, 1) := by decide +kernel
theorem dX10_recordState_34 : decode cX10_recordState 34 = .ok (.getfield 401, 3) := by decide +kernel
theorem dX10_recordState_37 : decode cX10_recordState 37 = .ok (.iconst 1, 1) := by decide +kernel
theorem dX10_recordState_38 : decode cX10_recordState 38 = .ok (.iadd, 1) := by decide +kernel
theorem dX10_recordState_39 : decode cX10_recordState 39 = .ok (.putfield 401, 3) := by decide +kernel
theorem dX10_recordState_42 : decode cX10_recordState 42 = .ok (.return_, 1) := by decide +kernel
set_option maxHeartbeats 8000000 in
set_option maxRecDepth 100000 in
theorem mX10_recordState (l : Launch) (G : gG) (da : Nat → Nat) (v : vSt) (x : gX) (r : Nat) (hk_r : kd r = 10) (ho : oX10_recordState r v) : MV l yX10_recordState cX10_recordState 1 none (rmX10_recordState r v) [.ref (ga G r)] G da v x (kkX10_recordState r v) (kkX10_recordState r v) (fX10_recordState r v) x := by
  refine gofMV (own := RX10) (by decide) rfl (Nat.le_of_ble_eq_true rfl) (fun p e s m args below meth c ls Q X hH hl E => ?_)
  have hx := X.1
  have hb := X.2.1
  have hown := X.2.2.2.1
  have hts := X.2.2.2.2.1
  have hS : va_S (gA G) s.heap s.heap [] := va_S.rf
  unfold oX10_recordState at ho
  have hl : lv_has ls 1 [(0, .ref (ga G r))] := hl
  refine lv_aload_n hx hb dX10_recordState_0 rfl (lv_at hl 0 rfl) ?_
  refine g_VernierDrawers_401 X hH hk_r dX10_recordState_1 ?_
  refine lv_aload_n hx hb dX10_recordState_4 rfl (lv_at hl 0 rfl) ?_
  refine g_VernierDrawers_16 X hH hk_r dX10_recordState_5 ?_
  refine len_26 X hH kd_449 dX10_recordState_8 ?_
  have K2 : ∀ (v1 : vSt) (da : Nat → Nat) (H : Heap) (locs : List Loc) (ls : Array Slot), v1 = (if ((v r 2) : Int32) < 4 then v else (let v4 : vSt := fX10_dropOldestState r v; v4) : vSt) → Hp G da v1 x H → va_S (gA G) s.heap H locs → lv_has ls 1 [(0, .ref (ga G r))] → W p l e (rmX10_recordState r v) s m args below meth c H locs 0 0 Q (F0 m 16 ls []) := by
    intro v1 da H locs ls ev1 hH hS hl
    have ho := ho.2 v1 ev1
    refine lv_aload_n hx hb dX10_recordState_16 rfl (lv_at hl 0 rfl) ?_
    refine g_VernierDrawers_16 X hH hk_r dX10_recordState_17 ?_
    refine lv_aload_n hx hb dX10_recordState_20 rfl (lv_at hl 0 rfl) ?_
    refine g_VernierDrawers_401 X hH hk_r dX10_recordState_21 ?_
    have hq3 := ho.1
    have ho := ho.2
    refine qld_26 X hH kd_449 hq3 dX10_recordState_24 ?_
    have hq4 := ho.1
    have ho := ho.2
    refine lv_aload_n hx hb dX10_recordState_25 rfl (lv_at hl 0 rfl) ?_
    refine g_VernierDrawers_10 X hH hk_r dX10_recordState_26 ?_
    have hq5 := ho.1
    have ho := ho.2
    have hq6 := ho.1
    have ho := ho.2
    have hq7 := ho
    refine k_X7_copyFrom X hS hH hq4 hq5 hq6 t_ml_VernierDrawers_391 hl.1 (Nat.le_of_ble_eq_true rfl) ⟨Nat.le_of_ble_eq_true rfl, Nat.le_of_ble_eq_true rfl⟩ ⟨hq7, hq7⟩ dX10_recordState_29 (fun da H locs v8 ev8 hH hS => ?_)
    refine lv_aload_n hx hb dX10_recordState_32 rfl (lv_at hl 0 rfl) ?_
    refine lv_dup hx hb dX10_recordState_33 rfl ?_
    refine g_VernierDrawers_401 X hH hk_r dX10_recordState_34 ?_
    refine lv_iconst (v := 1) hx hb dX10_recordState_37 (by decide) ?_
    refine lv_iadd hx hb dX10_recordState_38 ?_
    refine p_VernierDrawers_401 X hH hS hk_r dX10_recordState_39 (fun H locs v9 ev9 hH hS => ?_)
    replace ev1 := Eq.symm ev1
    replace ev8 := Eq.symm ev8
    replace ev9 := Eq.symm ev9
    subst ev1 ev8 ev9
    exact E _ _ _ _ _ _ _ _ dX10_recordState_42 (Eq.symm rfl) hH hS hq7 hq7
  have ho := ho.1
  refine lv_icmp_lt (tgt := 16) hx hb dX10_recordState_9 (by decide) (fun c2 => ?_) (fun c2 => ?_)
  · skip
    exact K2 _ _ _ _ _ (Eq.symm ((if_pos c2).trans rfl)) hH hS (lv_sub hl [0] rfl)
  · have ho := ho c2
    refine lv_aload_n hx hb dX10_recordState_12 rfl (lv_at hl 0 rfl) ?_
    have hq3 := ho
    refine k_X10_dropOldestState X hS hH hk_r hq3 t_ml_VernierDrawers_437 hl.1 (Nat.le_of_ble_eq_true rfl) ⟨Nat.le_of_ble_eq_true rfl, Nat.le_of_ble_eq_true rfl⟩ ⟨Nat.zero_le _, Nat.zero_le _⟩ dX10_recordState_13 (fun da H locs v4 ev4 hH hS => ?_)
    replace ev4 := Eq.symm ev4
    subst ev4
    exact K2 _ _ _ _ _ (Eq.symm ((if_neg c2).trans rfl)) hH hS (lv_sub hl [0] rfl)
theorem k_X10_recordState {p : Program} {l : Launch} {e : Env} {R : Room} {s : State} {m : MethodId} {args : Array Value} {below : List Frame} {meth : Method} {c : Code} {H : Heap} {locs : List Loc} {cells slots : Nat} {Q : State → Prop} {cc : ByteArray} {pc nL : Nat} {ls : Array Slot} {rest : List Value} {G : gG} {own : String} {da : Nat → Nat} {v : vSt} {x : gX} (X : CX G p s m args c cc nL own) (hS : va_S (gA G) s.heap H locs) (hH : Hp G da v x H) {r : Nat} (hk_r : kd r = 10) (ho : oX10_recordState r v) {idx : Nat} (hml : Cond.methodLink own idx yX10_recordState ∈ TT) (hls : ls.size = nL) (hsum : (rest.map fun v => v.category).sum ≤ 8) (hR : (rmX10_recordState r v).frames + 1 ≤ R.frames ∧ 8 + (1 + 11) + (rmX10_recordState r v).locals ≤ R.locals) (hcs : cells + (kkX10_recordState r v) ≤ R.cells ∧ slots + (kkX10_recordState r v) ≤ R.slots) (hdg : decode cc pc = .ok (.invokevirtual idx, 3)) (kk : ∀ (d : Nat → Nat) (H1 : Heap) (locs1 : List Loc) (v1 : vSt), v1 = fX10_recordState r v → Hp G d v1 x H1 → va_S (gA G) s.heap H1 locs1 → W p l e R s m args below meth c H1 locs1 (cells + (kkX10_recordState r v)) (slots + (kkX10_recordState r v)) Q (F0 m (pc + 3) ls rest)) : W p l e R s m args below meth c H locs cells slots Q (F0 m pc ls (.ref (ga G r) :: rest)) := c_mv X.2.2.2.2.2.2 (runV (k := 0) X.1 X.2.1 X.2.2.1 X.2.2.2.1 X.2.2.2.2.1 (mX10_recordState l G da v x r hk_r ho) pW_bl hml t_im_X10_recordState t_sel_X10_recordState t_ini_VernierDrawers t_code_X10_recordState ⟨rfl, by decide, by decide, by decide +kernel⟩ rfl rfl hR hcs (recvW X hH (by rw [hk_r]; decide) (by rw [hk_r]; decide) (ce_10 hk_r) rfl) (preW X hS hH) rfl hls rfl hsum hdg) hS kk
