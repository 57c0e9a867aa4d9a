/-! Bench and State: what is asked of them. -/
def fX0_reasonNotToJudge (r : Nat) (o1 : Nat) (o2 : Nat) (v : vSt) : Int32 := if (0 : Int32) < (v (r + 4) 3) then (if ((fX8_dueOn o2 (v o1 5) v) : Int32) = 0 then (if ((5 * (v o2 1)) : Int32) ≤ (fX4_width (fX0_typeOfFirst r (r + 4) v) v) then (if ((fX2_reading o1 o2 (v (fX0_typeOfFirst r (r + 4) v) 3) ((v (fX0_typeOfFirst r (r + 4) v) 0) + (fX5_firstDeviation (r + 4) v)) v) : Int32) = (-1) then 4 else 0) else 3) else 2) else 1
abbrev rmX0_reasonNotToJudge : Room := { frames := 3, cells := 0, slots := 0, locals := 69 }
theorem dX0_reasonNotToJudge_0 : decode cX0_reasonNotToJudge 0 = .ok (.aload_n 0, 1) := by decide +kernel
theorem dX0_reasonNotToJudge_1 : decode cX0_reasonNotToJudge 1 = .ok (.getfield 20, 3) := by decide +kernel
theorem dX0_reasonNotToJudge_4 : decode cX0_reasonNotToJudge 4 = .ok (.getfield 79, 3) := by decide +kernel
theorem dX0_reasonNotToJudge_7 : decode cX0_reasonNotToJudge 7 = .ok (.ifCond .gt 5, 3) := by decide +kernel
theorem dX0_reasonNotToJudge_10 : decode cX0_reasonNotToJudge 10 = .ok (.iconst 1, 1) := by decide +kernel
theorem dX0_reasonNotToJudge_11 : decode cX0_reasonNotToJudge 11 = .ok (.ireturn, 1) := by decide +kernel
theorem dX0_reasonNotToJudge_12 : decode cX0_reasonNotToJudge 12 = .ok (.aload_n 2, 1) := by decide +kernel
theorem dX0_reasonNotToJudge_13 : decode cX0_reasonNotToJudge 13 = .ok (.aload_n 1, 1) := by decide +kernel
theorem dX0_reasonNotToJudge_14 : decode cX0_reasonNotToJudge 14 = .ok (.getfield 86, 3) := by decide +kernel
theorem dX0_reasonNotToJudge_17 : decode cX0_reasonNotToJudge 17 = .ok (.invokevirtual 91, 3) := by decide +kernel
theorem dX0_reasonNotToJudge_20 : decode cX0_reasonNotToJudge 20 = .ok (.ifCond .eq 5, 3) := by decide +kernel
theorem dX0_reasonNotToJudge_23 : decode cX0_reasonNotToJudge 23 = .ok (.iconst 2, 1) := by decide +kernel
theorem dX0_reasonNotToJudge_24 : decode cX0_reasonNotToJudge 24 = .ok (.ireturn, 1) := by decide +kernel
theorem dX0_reasonNotToJudge_25 : decode cX0_reasonNotToJudge 25 = .ok (.aload_n 0, 1) := by decide +kernel
theorem dX0_reasonNotToJudge_26 : decode cX0_reasonNotToJudge 26 = .ok (.aload_n 0, 1) := by decide +kernel
theorem dX0_reasonNotToJudge_27 : decode cX0_reasonNotToJudge 27 = .ok (.getfield 20, 3) := by decide +kernel
theorem dX0_reasonNotToJudge_30 : decode cX0_reasonNotToJudge 30 = .ok (.invokevirtual 96, 3) := by decide +kernel
theorem dX0_reasonNotToJudge_33 : decode cX0_reasonNotToJudge 33 = .ok (.astore_n 3, 1) := by decide +kernel
theorem dX0_reasonNotToJudge_34 : decode cX0_reasonNotToJudge 34 = .ok (.iconst 5, 1) := by decide +kernel
theorem dX0_reasonNotToJudge_35 : decode cX0_reasonNotToJudge 35 = .ok (.aload_n 2, 1) := by decide +kernel
theorem dX0_reasonNotToJudge_36 : decode cX0_reasonNotToJudge 36 = .ok (.getfield 100, 3) := by decide +kernel
theorem dX0_reasonNotToJudge_39 : decode cX0_reasonNotToJudge 39 = .ok (.imul, 1) := by decide +kernel
theorem dX0_reasonNotToJudge_40 : decode cX0_reasonNotToJudge 40 = .ok (.aload_n 3, 1) := by decide +kernel
theorem dX0_reasonNotToJudge_41 : decode cX0_reasonNotToJudge 41 = .ok (.invokevirtual 103, 3) := by decide +kernel
theorem dX0_reasonNotToJudge_44 : decode cX0_reasonNotToJudge 44 = .ok (.if_icmp .le 5, 3) := by decide +kernel
theorem dX0_reasonNotToJudge_47 : decode cX0_reasonNotToJudge 47 = .ok (.iconst 3, 1) := by decide +kernel
theorem dX0_reasonNotToJudge_48 : decode cX0_reasonNotToJudge 48 = .ok (.ireturn, 1) := by decide +kernel
theorem dX0_reasonNotToJudge_49 : decode cX0_reasonNotToJudge 49 = .ok (.aload_n 3, 1) := by decide +kernel
theorem dX0_reasonNotToJudge_50 : decode cX0_reasonNotToJudge 50 = .ok (.getfield 76, 3) := by decide +kernel
theorem dX0_reasonNotToJudge_53 : decode cX0_reasonNotToJudge 53 = .ok (.aload_n 0, 1) := by decide +kernel
theorem dX0_reasonNotToJudge_54 : decode cX0_reasonNotToJudge 54 = .ok (.getfield 20, 3) := by decide +kernel
theorem dX0_reasonNotToJudge_57 : decode cX0_reasonNotToJudge 57 = .ok (.invokevirtual 107, 3) := by decide +kernel
theorem dX0_reasonNotToJudge_60 : decode cX0_reasonNotToJudge 60 = .ok (.iadd, 1) := by decide +kernel
theorem dX0_reasonNotToJudge_61 : decode cX0_reasonNotToJudge 61 = .ok (.istore 4, 2) := by decide +kernel
theorem dX0_reasonNotToJudge_63 : decode cX0_reasonNotToJudge 63 = .ok (.aload_n 1, 1) := by decide +kernel
theorem dX0_reasonNotToJudge_64 : decode cX0_reasonNotToJudge 64 = .ok (.aload_n 2, 1) := by decide +kernel
theorem dX0_reasonNotToJudge_65 : decode cX0_reasonNotToJudge 65 = .ok (.aload_n 3, 1) := by decide +kernel
theorem dX0_reasonNotToJudge_66 : decode cX0_reasonNotToJudge 66 = .ok (.getfield 110, 3) := by decide +kernel
theorem dX0_reasonNotToJudge_69 : decode cX0_reasonNotToJudge 69 = .ok (.iload 4, 2) := by decide +kernel
theorem dX0_reasonNotToJudge_71 : decode cX0_reasonNotToJudge 71 = .ok (.invokevirtual 113, 3) := by decide +kernel
theorem dX0_reasonNotToJudge_74 : decode cX0_reasonNotToJudge 74 = .ok (.iconst (-1), 1) := by decide +kernel
theorem dX0_reasonNotToJudge_75 : decode cX0_reasonNotToJudge 75 = .ok (.if_icmp .ne 7, 3) := by decide +kernel
theorem dX0_reasonNotToJudge_78 : decode cX0_reasonNotToJudge 78 = .ok (.iconst 4, 1) := by decide +kernel
theorem dX0_reasonNotToJudge_79 : decode cX0_reasonNotToJudge 79 = .ok (.goto 4, 3) := by decide +kernel
theorem dX0_reasonNotToJudge_82 : decode cX0_reasonNotToJudge 82 = .ok (.iconst 0, 1) := by decide +kernel
theorem dX0_reasonNotToJudge_83 : decode cX0_reasonNotToJudge 83 = .ok (.ireturn, 1) := by decide +kernel
set_option maxHeartbeats 4000000 in
set_option maxRecDepth 100000 in
theorem mX0_reasonNotToJudge (l : Launch) (G : gG) (da : Nat → Nat) (v : vSt) (x : gX) (r : Nat) (hk_r : kd r = 0) (o1 : Nat) (hk_o1 : kd o1 = 2) (o2 : Nat) (hk_o2 : kd o2 = 8) : QI l yX0_reasonNotToJudge cX0_reasonNotToJudge 5 (some .int) rmX0_reasonNotToJudge [.ref (ga G r), .ref (ga G o1), .ref (ga G o2)] (pW G da v x) (fX0_reasonNotToJudge r o1 o2 v) := by
  refine gofQ (own := RX0) (by decide) rfl (Nat.le_of_ble_eq_true rfl) (fun p e s m args below meth c ls Q X hH hl E => ?_)
  have hx := X.1
  have hb := X.2.1
  have hown := X.2.2.2.1
  have hts := X.2.2.2.2.1
  have hS : va_S (gA G) s.heap s.heap [] := va_S.rf
  have hl : lv_has ls 5 [(0, .ref (ga G r)), (1, .ref (ga G o1)), (2, .ref (ga G o2))] := hl
  refine lv_aload_n hx hb dX0_reasonNotToJudge_0 rfl (lv_at hl 0 rfl) ?_
  refine g_Bench_20 X hH hk_r dX0_reasonNotToJudge_1 ?_
  refine g_Bench_79 X hH (Or.inl (kc_0_5 hk_r)) dX0_reasonNotToJudge_4 ?_
  refine lv_if_gt (tgt := 12) hx hb dX0_reasonNotToJudge_7 (by decide) (fun c1 => ?_) (fun c1 => ?_)
  · refine lv_aload_n hx hb dX0_reasonNotToJudge_12 rfl (lv_at hl 2 rfl) ?_
    refine lv_aload_n hx hb dX0_reasonNotToJudge_13 rfl (lv_at hl 1 rfl) ?_
    refine g_Bench_86 X hH hk_o1 dX0_reasonNotToJudge_14 ?_
    refine k_X8_dueOn X hS hH hk_o2 t_ml_Bench_91 hl.1 (Nat.le_of_ble_eq_true rfl) ⟨Nat.le_of_ble_eq_true rfl, Nat.le_of_ble_eq_true rfl⟩ ⟨Nat.zero_le _, Nat.zero_le _⟩ dX0_reasonNotToJudge_17 ?_
    refine lv_if_eq (tgt := 25) hx hb dX0_reasonNotToJudge_20 (by decide) (fun c2 => ?_) (fun c2 => ?_)
    · refine lv_aload_n hx hb dX0_reasonNotToJudge_25 rfl (lv_at hl 0 rfl) ?_
      refine lv_aload_n hx hb dX0_reasonNotToJudge_26 rfl (lv_at hl 0 rfl) ?_
      refine g_Bench_20 X hH hk_r dX0_reasonNotToJudge_27 ?_
      refine k_X0_typeOfFirst X hS hH hk_r (Or.inl (kc_0_5 hk_r)) t_ml_Bench_96 hl.1 (Nat.le_of_ble_eq_true rfl) ⟨Nat.le_of_ble_eq_true rfl, Nat.le_of_ble_eq_true rfl⟩ ⟨Nat.zero_le _, Nat.zero_le _⟩ dX0_reasonNotToJudge_30 ?_
      refine lv_astore_n (lv' := [(3, .ref (ga G (fX0_typeOfFirst r (r + 4) v))), (0, .ref (ga G r)), (1, .ref (ga G o1)), (2, .ref (ga G o2))]) hx hb dX0_reasonNotToJudge_33 rfl hl (by decide) rfl (fun ls hl => ?_)
      refine lv_iconst (v := 5) hx hb dX0_reasonNotToJudge_34 (by decide) ?_
      refine lv_aload_n hx hb dX0_reasonNotToJudge_35 rfl (lv_at hl 3 rfl) ?_
      refine g_Bench_100 X hH hk_o2 dX0_reasonNotToJudge_36 ?_
      refine lv_imul hx hb dX0_reasonNotToJudge_39 ?_
      refine lv_aload_n hx hb dX0_reasonNotToJudge_40 rfl (lv_at hl 0 rfl) ?_
      refine k_X4_width X hS hH (kd_typeOfFirst hk_r) t_ml_Bench_103 hl.1 (Nat.le_of_ble_eq_true rfl) ⟨Nat.le_of_ble_eq_true rfl, Nat.le_of_ble_eq_true rfl⟩ ⟨Nat.zero_le _, Nat.zero_le _⟩ dX0_reasonNotToJudge_41 ?_
      refine lv_icmp_le (tgt := 49) hx hb dX0_reasonNotToJudge_44 (by decide) (fun c3 => ?_) (fun c3 => ?_)
      · refine lv_aload_n hx hb dX0_reasonNotToJudge_49 rfl (lv_at hl 0 rfl) ?_
        refine g_Bench_76 X hH (kd_typeOfFirst hk_r) dX0_reasonNotToJudge_50 ?_
        refine lv_aload_n hx hb dX0_reasonNotToJudge_53 rfl (lv_at hl 1 rfl) ?_
        refine g_Bench_20 X hH hk_r dX0_reasonNotToJudge_54 ?_
        refine k_X5_firstDeviation X hS hH (Or.inl (kc_0_5 hk_r)) t_ml_Bench_107 hl.1 (Nat.le_of_ble_eq_true rfl) ⟨Nat.le_of_ble_eq_true rfl, Nat.le_of_ble_eq_true rfl⟩ ⟨Nat.zero_le _, Nat.zero_le _⟩ dX0_reasonNotToJudge_57 ?_
        refine lv_iadd hx hb dX0_reasonNotToJudge_60 ?_
        refine lv_istore (lv' := [(4, .int ((v (fX0_typeOfFirst r (r + 4) v) 0) + (fX5_firstDeviation (r + 4) v))), (3, .ref (ga G (fX0_typeOfFirst r (r + 4) v))), (0, .ref (ga G r)), (1, .ref (ga G o1)), (2, .ref (ga G o2))]) hx hb dX0_reasonNotToJudge_61 hl (by decide) rfl (fun ls hl => ?_)
        refine lv_aload_n hx hb dX0_reasonNotToJudge_63 rfl (lv_at hl 3 rfl) ?_
        refine lv_aload_n hx hb dX0_reasonNotToJudge_64 rfl (lv_at hl 4 rfl) ?_
        refine lv_aload_n hx hb dX0_reasonNotToJudge_65 rfl (lv_at hl 1 rfl) ?_
        refine g_Bench_110 X hH (kd_typeOfFirst hk_r) dX0_reasonNotToJudge_66 ?_
        refine lv_iload hx hb dX0_reasonNotToJudge_69 (lv_at hl 0 rfl) ?_
        refine k_X2_reading X hS hH hk_o1 hk_o2 t_ml_Bench_113 hl.1 (Nat.le_of_ble_eq_true rfl) ⟨Nat.le_of_ble_eq_true rfl, Nat.le_of_ble_eq_true rfl⟩ ⟨Nat.zero_le _, Nat.zero_le _⟩ dX0_reasonNotToJudge_71 ?_
        refine lv_iconst (v := (-1)) hx hb dX0_reasonNotToJudge_74 (by decide) ?_
        refine lv_icmp_ne (tgt := 82) hx hb dX0_reasonNotToJudge_75 (by decide) (fun c4 => ?_) (fun c4 => ?_)
        · refine lv_iconst (v := 0) hx hb dX0_reasonNotToJudge_82 (by decide) ?_
          exact E _ _ _ dX0_reasonNotToJudge_83 rfl (Eq.symm ((if_pos c1).trans ((if_pos c2).trans ((if_pos c3).trans ((if_neg c4).trans rfl)))))
        · refine lv_iconst (v := 4) hx hb dX0_reasonNotToJudge_78 (by decide) ?_
          refine lv_goto (tgt := 83) hx hb dX0_reasonNotToJudge_79 (by decide) ?_
          exact E _ _ _ dX0_reasonNotToJudge_83 rfl (Eq.symm ((if_pos c1).trans ((if_pos c2).trans ((if_pos c3).trans ((if_pos c4).trans rfl)))))
      · refine lv_iconst (v := 3) hx hb dX0_reasonNotToJudge_47 (by decide) ?_
        exact E _ _ _ dX0_reasonNotToJudge_48 rfl (Eq.symm ((if_pos c1).trans ((if_pos c2).trans ((if_neg c3).trans rfl))))
    · refine lv_iconst (v := 2) hx hb dX0_reasonNotToJudge_23 (by decide) ?_
      exact E _ _ _ dX0_reasonNotToJudge_24 rfl (Eq.symm ((if_pos c1).trans ((if_neg c2).trans rfl)))
  · refine lv_iconst (v := 1) hx hb dX0_reasonNotToJudge_10 (by decide) ?_
    exact E _ _ _ dX0_reasonNotToJudge_11 rfl (Eq.symm ((if_neg c1).trans rfl))
theorem k_X0_reasonNotToJudge {p : Program} {l : Launch} {e : Env} {R : Room} {s : State} {m : MethodId} {args : Array Value} {below : List Frame} {meth : Method} {c : Code} {H : Heap} {locs : List Loc} {cells slots : Nat} {Q : State → Prop} {cc : ByteArray} {pc nL : Nat} {ls : Array Slot} {rest : List Value} {G : gG} {own : String} {da : Nat → Nat} {v : vSt} {x : gX} (X : CX G p s m args c cc nL own) (hS : va_S (gA G) s.heap H locs) (hH : Hp G da v x H) {r : Nat} (hk_r : kd r = 0) {o1 : Nat} (hk_o1 : kd o1 = 2) {o2 : Nat} (hk_o2 : kd o2 = 8) {idx : Nat} (hml : Cond.methodLink own idx yX0_reasonNotToJudge ∈ TT) (hls : ls.size = nL) (hsum : (rest.map fun v => v.category).sum ≤ 8) (hR : rmX0_reasonNotToJudge.frames + 1 ≤ R.frames ∧ 8 + (5 + 11) + rmX0_reasonNotToJudge.locals ≤ R.locals) (hcs : cells ≤ R.cells ∧ slots ≤ R.slots) (hdg : decode cc pc = .ok (.invokevirtual idx, 3)) (kk : W p l e R s m args below meth c H locs cells slots Q (F0 m (pc + 3) ls (.int (fX0_reasonNotToJudge r o1 o2 v) :: rest))) : W p l e R s m args below meth c H locs cells slots Q (F0 m pc ls (.ref (ga G o2) :: .ref (ga G o1) :: .ref (ga G r) :: rest)) := c_qi (runV (k := 2) X.1 X.2.1 X.2.2.1 X.2.2.2.1 X.2.2.2.2.1 (mX0_reasonNotToJudge l G da v x r hk_r o1 hk_o1 o2 hk_o2) pW_bl hml t_im_X0_reasonNotToJudge t_sel_X0_reasonNotToJudge t_ini_Bench t_code_X0_reasonNotToJudge ⟨rfl, by decide, by decide, by decide +kernel⟩ rfl rfl hR hcs (recvW X hH (by rw [hk_r]; decide) (by rw [hk_r]; decide) (ce_0 hk_r) rfl) (preW X hS hH) rfl hls rfl hsum hdg) (fun _ h => h ▸ kk)
def fX0_refusalToJudge (r : Nat) (o1 : Nat) (p1 : Int32) (v : vSt) : Int32 := if ((fX2_hasTool o1 p1 v) : Int32) = 0 then 1 else (if ((fX0_reasonNotToJudge r o1 ((o1 + 2) + 13 + (p1 : Int32).toNatClampNeg) v) : Int32) = 0 then 0 else 2)
abbrev rmX0_refusalToJudge : Room := { frames := 4, cells := 0, slots := 0, locals := 93 }
theorem dX0_refusalToJudge_0 : decode cX0_refusalToJudge 0 = .ok (.aload_n 1, 1) := by decide +kernel
theorem dX0_refusalToJudge_1 : decode cX0_refusalToJudge 1 = .ok (.iload_n 2, 1) := by decide +kernel
theorem dX0_refusalToJudge_2 : decode cX0_refusalToJudge 2 = .ok (.invokevirtual 117, 3) := by decide +kernel
theorem dX0_refusalToJudge_5 : decode cX0_refusalToJudge 5 = .ok (.ifCond .ne 5, 3) := by decide +kernel
theorem dX0_refusalToJudge_8 : decode cX0_refusalToJudge 8 = .ok (.iconst 1, 1) := by decide +kernel
theorem dX0_refusalToJudge_9 : decode cX0_refusalToJudge 9 = .ok (.ireturn, 1) := by decide +kernel
theorem dX0_refusalToJudge_10 : decode cX0_refusalToJudge 10 = .ok (.aload_n 0, 1) := by decide +kernel
theorem dX0_refusalToJudge_11 : decode cX0_refusalToJudge 11 = .ok (.aload_n 1, 1) := by decide +kernel
theorem dX0_refusalToJudge_12 : decode cX0_refusalToJudge 12 = .ok (.aload_n 1, 1) := by decide +kernel
theorem dX0_refusalToJudge_13 : decode cX0_refusalToJudge 13 = .ok (.getfield 120, 3) := by decide +kernel
theorem dX0_refusalToJudge_16 : decode cX0_refusalToJudge 16 = .ok (.iload_n 2, 1) := by decide +kernel
theorem dX0_refusalToJudge_17 : decode cX0_refusalToJudge 17 = .ok (.aaload, 1) := by decide +kernel
theorem dX0_refusalToJudge_18 : decode cX0_refusalToJudge 18 = .ok (.invokevirtual 124, 3) := by decide +kernel
theorem dX0_refusalToJudge_21 : decode cX0_refusalToJudge 21 = .ok (.ifCond .ne 7, 3) := by decide +kernel
theorem dX0_refusalToJudge_24 : decode cX0_refusalToJudge 24 = .ok (.iconst 0, 1) := by decide +kernel
theorem dX0_refusalToJudge_25 : decode cX0_refusalToJudge 25 = .ok (.goto 4, 3) := by decide +kernel
theorem dX0_refusalToJudge_28 : decode cX0_refusalToJudge 28 = .ok (.iconst 2, 1) := by decide +kernel
theorem dX0_refusalToJudge_29 : decode cX0_refusalToJudge 29 = .ok (.ireturn, 1) := by decide +kernel
set_option maxHeartbeats 4000000 in
set_option maxRecDepth 100000 in
theorem mX0_refusalToJudge (l : Launch) (G : gG) (da : Nat → Nat) (v : vSt) (x : gX) (r : Nat) (hk_r : kd r = 0) (o1 : Nat) (hk_o1 : kd o1 = 2) (p1 : Int32) : QI l yX0_refusalToJudge cX0_refusalToJudge 3 (some .int) rmX0_refusalToJudge [.ref (ga G r), .ref (ga G o1), .int p1] (pW G da v x) (fX0_refusalToJudge r o1 p1 v) := by
  refine gofQ (own := RX0) (by decide) rfl (Nat.le_of_ble_eq_true rfl) (fun p e s m args below meth c ls Q X hH hl E => ?_)
  have hx := X.1
  have hb := X.2.1
  have hown := X.2.2.2.1
  have hts := X.2.2.2.2.1
  have hS : va_S (gA G) s.heap s.heap [] := va_S.rf
  have hl : lv_has ls 3 [(0, .ref (ga G r)), (1, .ref (ga G o1)), (2, .int p1)] := hl
  refine lv_aload_n hx hb dX0_refusalToJudge_0 rfl (lv_at hl 1 rfl) ?_
  refine lv_iload_n hx hb dX0_refusalToJudge_1 rfl (lv_at hl 2 rfl) ?_
  refine k_X2_hasTool X hS hH hk_o1 t_ml_Bench_117 hl.1 (Nat.le_of_ble_eq_true rfl) ⟨Nat.le_of_ble_eq_true rfl, Nat.le_of_ble_eq_true rfl⟩ ⟨Nat.zero_le _, Nat.zero_le _⟩ dX0_refusalToJudge_2 ?_
  refine lv_if_ne (tgt := 10) hx hb dX0_refusalToJudge_5 (by decide) (fun c1 => ?_) (fun c1 => ?_)
  · refine lv_aload_n hx hb dX0_refusalToJudge_10 rfl (lv_at hl 0 rfl) ?_
    refine lv_aload_n hx hb dX0_refusalToJudge_11 rfl (lv_at hl 1 rfl) ?_
    refine lv_aload_n hx hb dX0_refusalToJudge_12 rfl (lv_at hl 1 rfl) ?_
    refine g_Bench_120 X hH hk_o1 dX0_refusalToJudge_13 ?_
    refine lv_iload_n hx hb dX0_refusalToJudge_16 rfl (lv_at hl 2 rfl) ?_
    have hi2 : vp_in p1 6 := (i_in (by have := hasTool_b c1; omega) (by have := hasTool_b c1; omega))
    refine qld_20 X hH (kc_2_20 hk_o1) hi2 dX0_refusalToJudge_17 ?_
    refine k_X0_reasonNotToJudge X hS hH hk_r hk_o1 (ki_20 (kc_2_20 hk_o1) (vp_lt hi2)) t_ml_Bench_124 hl.1 (Nat.le_of_ble_eq_true rfl) ⟨Nat.le_of_ble_eq_true rfl, Nat.le_of_ble_eq_true rfl⟩ ⟨Nat.zero_le _, Nat.zero_le _⟩ dX0_refusalToJudge_18 ?_
    refine lv_if_ne (tgt := 28) hx hb dX0_refusalToJudge_21 (by decide) (fun c3 => ?_) (fun c3 => ?_)
    · refine lv_iconst (v := 2) hx hb dX0_refusalToJudge_28 (by decide) ?_
      exact E _ _ _ dX0_refusalToJudge_29 rfl (Eq.symm ((if_neg c1).trans ((if_neg c3).trans rfl)))
    · refine lv_iconst (v := 0) hx hb dX0_refusalToJudge_24 (by decide) ?_
      refine lv_goto (tgt := 29) hx hb dX0_refusalToJudge_25 (by decide) ?_
      exact E _ _ _ dX0_refusalToJudge_29 rfl (Eq.symm ((if_neg c1).trans ((if_pos c3).trans rfl)))
  · refine lv_iconst (v := 1) hx hb dX0_refusalToJudge_8 (by decide) ?_
    exact E _ _ _ dX0_refusalToJudge_9 rfl (Eq.symm ((if_pos c1).trans rfl))
theorem k_X0_refusalToJudge {p : Program} {l : Launch} {e : Env} {R : Room} {s : State} {m : MethodId} {args : Array Value} {below : List Frame} {meth : Method} {c : Code} {H : Heap} {locs : List Loc} {cells slots : Nat} {Q : State → Prop} {cc : ByteArray} {pc nL : Nat} {ls : Array Slot} {rest : List Value} {G : gG} {own : String} {da : Nat → Nat} {v : vSt} {x : gX} (X : CX G p s m args c cc nL own) (hS : va_S (gA G) s.heap H locs) (hH : Hp G da v x H) {r : Nat} (hk_r : kd r = 0) {o1 : Nat} (hk_o1 : kd o1 = 2) {p1 : Int32} {idx : Nat} (hml : Cond.methodLink own idx yX0_refusalToJudge ∈ TT) (hls : ls.size = nL) (hsum : (rest.map fun v => v.category).sum ≤ 8) (hR : rmX0_refusalToJudge.frames + 1 ≤ R.frames ∧ 8 + (3 + 11) + rmX0_refusalToJudge.locals ≤ R.locals) (hcs : cells ≤ R.cells ∧ slots ≤ R.slots) (hdg : decode cc pc = .ok (.invokevirtual idx, 3)) (kk : W p l e R s m args below meth c H locs cells slots Q (F0 m (pc + 3) ls (.int (fX0_refusalToJudge r o1 p1 v) :: rest))) : W p l e R s m args below meth c H locs cells slots Q (F0 m pc ls (.int p1 :: .ref (ga G o1) :: .ref (ga G r) :: rest)) := c_qi (runV (k := 2) X.1 X.2.1 X.2.2.1 X.2.2.2.1 X.2.2.2.2.1 (mX0_refusalToJudge l G da v x r hk_r o1 hk_o1 p1) pW_bl hml t_im_X0_refusalToJudge t_sel_X0_refusalToJudge t_ini_Bench t_code_X0_refusalToJudge ⟨rfl, by decide, by decide, by decide +kernel⟩ rfl rfl hR hcs (recvW X hH (by rw [hk_r]; decide) (by rw [hk_r]; decide) (ce_0 hk_r) rfl) (preW X hS hH) rfl hls rfl hsum hdg) (fun _ h => h ▸ kk)
def fX0_measuredWith (r : Nat) (o1 : Nat) (o2 : Nat) (v : vSt) : Int32 := ((fX2_reading o1 o2 (v (fX0_typeOfFirst r (r + 4) v) 3) ((v (fX0_typeOfFirst r (r + 4) v) 0) + (fX5_firstDeviation (r + 4) v)) v) - (v o2 3)) - (v (fX0_typeOfFirst r (r + 4) v) 0)
abbrev rmX0_measuredWith : Room := { frames := 3, cells := 0, slots := 0, locals := 69 }
theorem dX0_measuredWith_0 : decode cX0_measuredWith 0 = .ok (.aload_n 0, 1) := by decide +kernel
theorem dX0_measuredWith_1 : decode cX0_measuredWith 1 = .ok (.aload_n 0, 1) := by decide +kernel
theorem dX0_measuredWith_2 : decode cX0_measuredWith 2 = .ok (.getfield 20, 3) := by decide +kernel
theorem dX0_measuredWith_5 : decode cX0_measuredWith 5 = .ok (.invokevirtual 96, 3) := by decide +kernel
theorem dX0_measuredWith_8 : decode cX0_measuredWith 8 = .ok (.astore_n 3, 1) := by decide +kernel
theorem dX0_measuredWith_9 : decode cX0_measuredWith 9 = .ok (.aload_n 3, 1) := by decide +kernel
theorem dX0_measuredWith_10 : decode cX0_measuredWith 10 = .ok (.getfield 76, 3) := by decide +kernel
theorem dX0_measuredWith_13 : decode cX0_measuredWith 13 = .ok (.aload_n 0, 1) := by decide +kernel
theorem dX0_measuredWith_14 : decode cX0_measuredWith 14 = .ok (.getfield 20, 3) := by decide +kernel
theorem dX0_measuredWith_17 : decode cX0_measuredWith 17 = .ok (.invokevirtual 107, 3) := by decide +kernel
theorem dX0_measuredWith_20 : decode cX0_measuredWith 20 = .ok (.iadd, 1) := by decide +kernel
theorem dX0_measuredWith_21 : decode cX0_measuredWith 21 = .ok (.istore 4, 2) := by decide +kernel
theorem dX0_measuredWith_23 : decode cX0_measuredWith 23 = .ok (.aload_n 1, 1) := by decide +kernel
theorem dX0_measuredWith_24 : decode cX0_measuredWith 24 = .ok (.aload_n 2, 1) := by decide +kernel
theorem dX0_measuredWith_25 : decode cX0_measuredWith 25 = .ok (.aload_n 3, 1) := by decide +kernel
theorem dX0_measuredWith_26 : decode cX0_measuredWith 26 = .ok (.getfield 110, 3) := by decide +kernel
theorem dX0_measuredWith_29 : decode cX0_measuredWith 29 = .ok (.iload 4, 2) := by decide +kernel
theorem dX0_measuredWith_31 : decode cX0_measuredWith 31 = .ok (.invokevirtual 113, 3) := by decide +kernel
theorem dX0_measuredWith_34 : decode cX0_measuredWith 34 = .ok (.aload_n 2, 1) := by decide +kernel
theorem dX0_measuredWith_35 : decode cX0_measuredWith 35 = .ok (.getfield 128, 3) := by decide +kernel
theorem dX0_measuredWith_38 : decode cX0_measuredWith 38 = .ok (.isub, 1) := by decide +kernel
theorem dX0_measuredWith_39 : decode cX0_measuredWith 39 = .ok (.aload_n 3, 1) := by decide +kernel
theorem dX0_measuredWith_40 : decode cX0_measuredWith 40 = .ok (.getfield 76, 3) := by decide +kernel
theorem dX0_measuredWith_43 : decode cX0_measuredWith 43 = .ok (.isub, 1) := by decide +kernel
theorem dX0_measuredWith_44 : decode cX0_measuredWith 44 = .ok (.ireturn, 1) := by decide +kernel
set_option maxHeartbeats 4000000 in
set_option maxRecDepth 100000 in
theorem mX0_measuredWith (l : Launch) (G : gG) (da : Nat → Nat) (v : vSt) (x : gX) (r : Nat) (hk_r : kd r = 0) (o1 : Nat) (hk_o1 : kd o1 = 2) (o2 : Nat) (hk_o2 : kd o2 = 8) : QI l yX0_measuredWith cX0_measuredWith 5 (some .int) rmX0_measuredWith [.ref (ga G r), .ref (ga G o1), .ref (ga G o2)] (pW G da v x) (fX0_measuredWith r o1 o2 v) := by
  refine gofQ (own := RX0) (by decide) rfl (Nat.le_of_ble_eq_true rfl) (fun p e s m args below meth c ls Q X hH hl E => ?_)
  have hx := X.1
  have hb := X.2.1
  have hown := X.2.2.2.1
  have hts := X.2.2.2.2.1
  have hS : va_S (gA G) s.heap s.heap [] := va_S.rf
  have hl : lv_has ls 5 [(0, .ref (ga G r)), (1, .ref (ga G o1)), (2, .ref (ga G o2))] := hl
  refine lv_aload_n hx hb dX0_measuredWith_0 rfl (lv_at hl 0 rfl) ?_
  refine lv_aload_n hx hb dX0_measuredWith_1 rfl (lv_at hl 0 rfl) ?_
  refine g_Bench_20 X hH hk_r dX0_measuredWith_2 ?_
  refine k_X0_typeOfFirst X hS hH hk_r (Or.inl (kc_0_5 hk_r)) t_ml_Bench_96 hl.1 (Nat.le_of_ble_eq_true rfl) ⟨Nat.le_of_ble_eq_true rfl, Nat.le_of_ble_eq_true rfl⟩ ⟨Nat.zero_le _, Nat.zero_le _⟩ dX0_measuredWith_5 ?_
  refine lv_astore_n (lv' := [(3, .ref (ga G (fX0_typeOfFirst r (r + 4) v))), (0, .ref (ga G r)), (1, .ref (ga G o1)), (2, .ref (ga G o2))]) hx hb dX0_measuredWith_8 rfl hl (by decide) rfl (fun ls hl => ?_)
  refine lv_aload_n hx hb dX0_measuredWith_9 rfl (lv_at hl 0 rfl) ?_
  refine g_Bench_76 X hH (kd_typeOfFirst hk_r) dX0_measuredWith_10 ?_
  refine lv_aload_n hx hb dX0_measuredWith_13 rfl (lv_at hl 1 rfl) ?_
  refine g_Bench_20 X hH hk_r dX0_measuredWith_14 ?_
  refine k_X5_firstDeviation X hS hH (Or.inl (kc_0_5 hk_r)) t_ml_Bench_107 hl.1 (Nat.le_of_ble_eq_true rfl) ⟨Nat.le_of_ble_eq_true rfl, Nat.le_of_ble_eq_true rfl⟩ ⟨Nat.zero_le _, Nat.zero_le _⟩ dX0_measuredWith_17 ?_
  refine lv_iadd hx hb dX0_measuredWith_20 ?_
  refine lv_istore (lv' := [(4, .int ((v (fX0_typeOfFirst r (r + 4) v) 0) + (fX5_firstDeviation (r + 4) v))), (3, .ref (ga G (fX0_typeOfFirst r (r + 4) v))), (0, .ref (ga G r)), (1, .ref (ga G o1)), (2, .ref (ga G o2))]) hx hb dX0_measuredWith_21 hl (by decide) rfl (fun ls hl => ?_)
  refine lv_aload_n hx hb dX0_measuredWith_23 rfl (lv_at hl 3 rfl) ?_
  refine lv_aload_n hx hb dX0_measuredWith_24 rfl (lv_at hl 4 rfl) ?_
  refine lv_aload_n hx hb dX0_measuredWith_25 rfl (lv_at hl 1 rfl) ?_
  refine g_Bench_110 X hH (kd_typeOfFirst hk_r) dX0_measuredWith_26 ?_
  refine lv_iload hx hb dX0_measuredWith_29 (lv_at hl 0 rfl) ?_
  refine k_X2_reading X hS hH hk_o1 hk_o2 t_ml_Bench_113 hl.1 (Nat.le_of_ble_eq_true rfl) ⟨Nat.le_of_ble_eq_true rfl, Nat.le_of_ble_eq_true rfl⟩ ⟨Nat.zero_le _, Nat.zero_le _⟩ dX0_measuredWith_31 ?_
  refine lv_aload_n hx hb dX0_measuredWith_34 rfl (lv_at hl 4 rfl) ?_
  refine g_Bench_128 X hH hk_o2 dX0_measuredWith_35 ?_
  refine lv_isub hx hb dX0_measuredWith_38 ?_
  refine lv_aload_n hx hb dX0_measuredWith_39 rfl (lv_at hl 1 rfl) ?_
  refine g_Bench_76 X hH (kd_typeOfFirst hk_r) dX0_measuredWith_40 ?_
  refine lv_isub hx hb dX0_measuredWith_43 ?_
  exact E _ _ _ dX0_measuredWith_44 rfl (Eq.symm rfl)
theorem k_X0_measuredWith {p : Program} {l : Launch} {e : Env} {R : Room} {s : State} {m : MethodId} {args : Array Value} {below : List Frame} {meth : Method} {c : Code} {H : Heap} {locs : List Loc} {cells slots : Nat} {Q : State → Prop} {cc : ByteArray} {pc nL : Nat} {ls : Array Slot} {rest : List Value} {G : gG} {own : String} {da : Nat → Nat} {v : vSt} {x : gX} (X : CX G p s m args c cc nL own) (hS : va_S (gA G) s.heap H locs) (hH : Hp G da v x H) {r : Nat} (hk_r : kd r = 0) {o1 : Nat} (hk_o1 : kd o1 = 2) {o2 : Nat} (hk_o2 : kd o2 = 8) {idx : Nat} (hml : Cond.methodLink own idx yX0_measuredWith ∈ TT) (hls : ls.size = nL) (hsum : (rest.map fun v => v.category).sum ≤ 8) (hR : rmX0_measuredWith.frames + 1 ≤ R.frames ∧ 8 + (5 + 11) + rmX0_measuredWith.locals ≤ R.locals) (hcs : cells ≤ R.cells ∧ slots ≤ R.slots) (hdg : decode cc pc = .ok (.invokevirtual idx, 3)) (kk : W p l e R s m args below meth c H locs cells slots Q (F0 m (pc + 3) ls (.int (fX0_measuredWith r o1 o2 v) :: rest))) : W p l e R s m args below meth c H locs cells slots Q (F0 m pc ls (.ref (ga G o2) :: .ref (ga G o1) :: .ref (ga G r) :: rest)) := c_qi (runV (k := 2) X.1 X.2.1 X.2.2.1 X.2.2.2.1 X.2.2.2.2.1 (mX0_measuredWith l G da v x r hk_r o1 hk_o1 o2 hk_o2) pW_bl hml t_im_X0_measuredWith t_sel_X0_measuredWith t_ini_Bench t_code_X0_measuredWith ⟨rfl, by decide, by decide, by decide +kernel⟩ rfl rfl hR hcs (recvW X hH (by rw [hk_r]; decide) (by rw [hk_r]; decide) (ce_0 hk_r) rfl) (preW X hS hH) rfl hls rfl hsum hdg) (fun _ h => h ▸ kk)
def fX0_outcomeOf (r : Nat) (p1 : Int32) (o1 : Nat) (v : vSt) : Int32 := if ((fX5_doubtedPiece (r + 4) 0 v) : Int32) = 0 then (if ((fX4_isNearLimit (fX0_typeOfFirst r (r + 4) v) p1 (v o1 1) v) : Int32) = 0 then (fX4_resultOf (fX0_typeOfFirst r (r + 4) v) p1 v) else 3) else (fX4_resultOf (fX0_typeOfFirst r (r + 4) v) p1 v)
abbrev rmX0_outcomeOf : Room := { frames := 3, cells := 0, slots := 0, locals := 64 }
theorem dX0_outcomeOf_0 : decode cX0_outcomeOf 0 = .ok (.aload_n 0, 1) := by decide +kernel
theorem dX0_outcomeOf_1 : decode cX0_outcomeOf 1 = .ok (.aload_n 0, 1) := by decide +kernel
theorem dX0_outcomeOf_2 : decode cX0_outcomeOf 2 = .ok (.getfield 20, 3) := by decide +kernel
theorem dX0_outcomeOf_5 : decode cX0_outcomeOf 5 = .ok (.invokevirtual 96, 3) := by decide +kernel
theorem dX0_outcomeOf_8 : decode cX0_outcomeOf 8 = .ok (.astore_n 3, 1) := by decide +kernel
theorem dX0_outcomeOf_9 : decode cX0_outcomeOf 9 = .ok (.aload_n 0, 1) := by decide +kernel
theorem dX0_outcomeOf_10 : decode cX0_outcomeOf 10 = .ok (.getfield 20, 3) := by decide +kernel
theorem dX0_outcomeOf_13 : decode cX0_outcomeOf 13 = .ok (.iconst 0, 1) := by decide +kernel
theorem dX0_outcomeOf_14 : decode cX0_outcomeOf 14 = .ok (.invokevirtual 131, 3) := by decide +kernel
theorem dX0_outcomeOf_17 : decode cX0_outcomeOf 17 = .ok (.ifCond .ne 17, 3) := by decide +kernel
theorem dX0_outcomeOf_20 : decode cX0_outcomeOf 20 = .ok (.aload_n 3, 1) := by decide +kernel
theorem dX0_outcomeOf_21 : decode cX0_outcomeOf 21 = .ok (.iload_n 1, 1) := by decide +kernel
theorem dX0_outcomeOf_22 : decode cX0_outcomeOf 22 = .ok (.aload_n 2, 1) := by decide +kernel
theorem dX0_outcomeOf_23 : decode cX0_outcomeOf 23 = .ok (.getfield 100, 3) := by decide +kernel
theorem dX0_outcomeOf_26 : decode cX0_outcomeOf 26 = .ok (.invokevirtual 134, 3) := by decide +kernel
theorem dX0_outcomeOf_29 : decode cX0_outcomeOf 29 = .ok (.ifCond .eq 5, 3) := by decide +kernel
theorem dX0_outcomeOf_32 : decode cX0_outcomeOf 32 = .ok (.iconst 3, 1) := by decide +kernel
theorem dX0_outcomeOf_33 : decode cX0_outcomeOf 33 = .ok (.ireturn, 1) := by decide +kernel
theorem dX0_outcomeOf_34 : decode cX0_outcomeOf 34 = .ok (.aload_n 3, 1) := by decide +kernel
theorem dX0_outcomeOf_35 : decode cX0_outcomeOf 35 = .ok (.iload_n 1, 1) := by decide +kernel
theorem dX0_outcomeOf_36 : decode cX0_outcomeOf 36 = .ok (.invokevirtual 138, 3) := by decide +kernel
theorem dX0_outcomeOf_39 : decode cX0_outcomeOf 39 = .ok (.ireturn, 1) := by decide +kernel
set_option maxHeartbeats 4000000 in
set_option maxRecDepth 100000 in
theorem mX0_outcomeOf (l : Launch) (G : gG) (da : Nat → Nat) (v : vSt) (x : gX) (r : Nat) (hk_r : kd r = 0) (p1 : Int32) (o1 : Nat) (hk_o1 : kd o1 = 8) : QI l yX0_outcomeOf cX0_outcomeOf 4 (some .int) rmX0_outcomeOf [.ref (ga G r), .int p1, .ref (ga G o1)] (pW G da v x) (fX0_outcomeOf r p1 o1 v) := by
  refine gofQ (own := RX0) (by decide) rfl (Nat.le_of_ble_eq_true rfl) (fun p e s m args below meth c ls Q X hH hl E => ?_)
  have hx := X.1
  have hb := X.2.1
  have hown := X.2.2.2.1
  have hts := X.2.2.2.2.1
  have hS : va_S (gA G) s.heap s.heap [] := va_S.rf
  have hl : lv_has ls 4 [(0, .ref (ga G r)), (1, .int p1), (2, .ref (ga G o1))] := hl
  refine lv_aload_n hx hb dX0_outcomeOf_0 rfl (lv_at hl 0 rfl) ?_
  refine lv_aload_n hx hb dX0_outcomeOf_1 rfl (lv_at hl 0 rfl) ?_
  refine g_Bench_20 X hH hk_r dX0_outcomeOf_2 ?_
  refine k_X0_typeOfFirst X hS hH hk_r (Or.inl (kc_0_5 hk_r)) t_ml_Bench_96 hl.1 (Nat.le_of_ble_eq_true rfl) ⟨Nat.le_of_ble_eq_true rfl, Nat.le_of_ble_eq_true rfl⟩ ⟨Nat.zero_le _, Nat.zero_le _⟩ dX0_outcomeOf_5 ?_
  refine lv_astore_n (lv' := [(3, .ref (ga G (fX0_typeOfFirst r (r + 4) v))), (0, .ref (ga G r)), (1, .int p1), (2, .ref (ga G o1))]) hx hb dX0_outcomeOf_8 rfl hl (by decide) rfl (fun ls hl => ?_)
  refine lv_aload_n hx hb dX0_outcomeOf_9 rfl (lv_at hl 1 rfl) ?_
  refine g_Bench_20 X hH hk_r dX0_outcomeOf_10 ?_
  refine lv_iconst (v := 0) hx hb dX0_outcomeOf_13 (by decide) ?_
  refine k_X5_doubtedPiece X hS hH (Or.inl (kc_0_5 hk_r)) t_ml_Bench_131 hl.1 (Nat.le_of_ble_eq_true rfl) ⟨Nat.le_of_ble_eq_true rfl, Nat.le_of_ble_eq_true rfl⟩ ⟨Nat.zero_le _, Nat.zero_le _⟩ dX0_outcomeOf_14 ?_
  refine lv_if_ne (tgt := 34) hx hb dX0_outcomeOf_17 (by decide) (fun c1 => ?_) (fun c1 => ?_)
  · refine lv_aload_n hx hb dX0_outcomeOf_34 rfl (lv_at hl 0 rfl) ?_
    refine lv_iload_n hx hb dX0_outcomeOf_35 rfl (lv_at hl 2 rfl) ?_
    refine k_X4_resultOf X hS hH (kd_typeOfFirst hk_r) t_ml_Bench_138 hl.1 (Nat.le_of_ble_eq_true rfl) ⟨Nat.le_of_ble_eq_true rfl, Nat.le_of_ble_eq_true rfl⟩ ⟨Nat.zero_le _, Nat.zero_le _⟩ dX0_outcomeOf_36 ?_
    exact E _ _ _ dX0_outcomeOf_39 rfl (Eq.symm ((if_neg c1).trans rfl))
  · refine lv_aload_n hx hb dX0_outcomeOf_20 rfl (lv_at hl 0 rfl) ?_
    refine lv_iload_n hx hb dX0_outcomeOf_21 rfl (lv_at hl 2 rfl) ?_
    refine lv_aload_n hx hb dX0_outcomeOf_22 rfl (lv_at hl 3 rfl) ?_
    refine g_Bench_100 X hH hk_o1 dX0_outcomeOf_23 ?_
    refine k_X4_isNearLimit X hS hH (kd_typeOfFirst hk_r) t_ml_Bench_134 hl.1 (Nat.le_of_ble_eq_true rfl) ⟨Nat.le_of_ble_eq_true rfl, Nat.le_of_ble_eq_true rfl⟩ ⟨Nat.zero_le _, Nat.zero_le _⟩ dX0_outcomeOf_26 ?_
    refine lv_if_eq (tgt := 34) hx hb dX0_outcomeOf_29 (by decide) (fun c2 => ?_) (fun c2 => ?_)
    · refine lv_aload_n hx hb dX0_outcomeOf_34 rfl (lv_at hl 0 rfl) ?_
      refine lv_iload_n hx hb dX0_outcomeOf_35 rfl (lv_at hl 2 rfl) ?_
      refine k_X4_resultOf X hS hH (kd_typeOfFirst hk_r) t_ml_Bench_138 hl.1 (Nat.le_of_ble_eq_true rfl) ⟨Nat.le_of_ble_eq_true rfl, Nat.le_of_ble_eq_true rfl⟩ ⟨Nat.zero_le _, Nat.zero_le _⟩ dX0_outcomeOf_36 ?_
      exact E _ _ _ dX0_outcomeOf_39 rfl (Eq.symm ((if_pos c1).trans ((if_pos c2).trans rfl)))
    · refine lv_iconst (v := 3) hx hb dX0_outcomeOf_32 (by decide) ?_
      exact E _ _ _ dX0_outcomeOf_33 rfl (Eq.symm ((if_pos c1).trans ((if_neg c2).trans rfl)))
theorem k_X0_outcomeOf {p : Program} {l : Launch} {e : Env} {R : Room} {s : State} {m : MethodId} {args : Array Value} {below : List Frame} {meth : Method} {c : Code} {H : Heap} {locs : List Loc} {cells slots : Nat} {Q : State → Prop} {cc : ByteArray} {pc nL : Nat} {ls : Array Slot} {rest : List Value} {G : gG} {own : String} {da : Nat → Nat} {v : vSt} {x : gX} (X : CX G p s m args c cc nL own) (hS : va_S (gA G) s.heap H locs) (hH : Hp G da v x H) {r : Nat} (hk_r : kd r = 0) {p1 : Int32} {o1 : Nat} (hk_o1 : kd o1 = 8) {idx : Nat} (hml : Cond.methodLink own idx yX0_outcomeOf ∈ TT) (hls : ls.size = nL) (hsum : (rest.map fun v => v.category).sum ≤ 8) (hR : rmX0_outcomeOf.frames + 1 ≤ R.frames ∧ 8 + (4 + 11) + rmX0_outcomeOf.locals ≤ R.locals) (hcs : cells ≤ R.cells ∧ slots ≤ R.slots) (hdg : decode cc pc = .ok (.invokevirtual idx, 3)) (kk : W p l e R s m args below meth c H locs cells slots Q (F0 m (pc + 3) ls (.int (fX0_outcomeOf r p1 o1 v) :: rest))) : W p l e R s m args below meth c H locs cells slots Q (F0 m pc ls (.ref (ga G o1) :: .int p1 :: .ref (ga G r) :: rest)) := c_qi (runV (k := 2) X.1 X.2.1 X.2.2.1 X.2.2.2.1 X.2.2.2.2.1 (mX0_outcomeOf l G da v x r hk_r p1 o1 hk_o1) pW_bl hml t_im_X0_outcomeOf t_sel_X0_outcomeOf t_ini_Bench t_code_X0_outcomeOf ⟨rfl, by decide, by decide, by decide +kernel⟩ rfl rfl hR hcs (recvW X hH (by rw [hk_r]; decide) (by rw [hk_r]; decide) (ce_0 hk_r) rfl) (preW X hS hH) rfl hls rfl hsum hdg) (fun _ h => h ▸ kk)
def fX0_refusalToFile (r : Nat) (p1 : Int32) (v : vSt) : Int32 := if ((fX10_inRange p1 1 99) : Int32) = 0 then 1 else (if ((v (r + 5) 3) : Int32) ≤ 0 then 2 else (if ((v (r + 4) 3) : Int32) < 20 then (if (1 : Int32) ≤ (((v (fX0_typeOfFirst r (r + 5) v) 0) + (fX5_firstDeviation (r + 5) v)) - p1) then 0 else 2) else 2))
abbrev rmX0_refusalToFile : Room := { frames := 3, cells := 0, slots := 0, locals := 64 }
theorem dX0_refusalToFile_0 : decode cX0_refusalToFile 0 = .ok (.iload_n 1, 1) := by decide +kernel
theorem dX0_refusalToFile_1 : decode cX0_refusalToFile 1 = .ok (.iconst 1, 1) := by decide +kernel
theorem dX0_refusalToFile_2 : decode cX0_refusalToFile 2 = .ok (.bipush 99, 2) := by decide +kernel
theorem dX0_refusalToFile_4 : decode cX0_refusalToFile 4 = .ok (.invokestatic 72, 3) := by decide +kernel
theorem dX0_refusalToFile_7 : decode cX0_refusalToFile 7 = .ok (.ifCond .ne 5, 3) := by decide +kernel
theorem dX0_refusalToFile_10 : decode cX0_refusalToFile 10 = .ok (.iconst 1, 1) := by decide +kernel
theorem dX0_refusalToFile_11 : decode cX0_refusalToFile 11 = .ok (.ireturn, 1) := by decide +kernel
theorem dX0_refusalToFile_12 : decode cX0_refusalToFile 12 = .ok (.aload_n 0, 1) := by decide +kernel
theorem dX0_refusalToFile_13 : decode cX0_refusalToFile 13 = .ok (.getfield 24, 3) := by decide +kernel
theorem dX0_refusalToFile_16 : decode cX0_refusalToFile 16 = .ok (.getfield 79, 3) := by decide +kernel
theorem dX0_refusalToFile_19 : decode cX0_refusalToFile 19 = .ok (.ifCond .le 15, 3) := by decide +kernel
theorem dX0_refusalToFile_22 : decode cX0_refusalToFile 22 = .ok (.aload_n 0, 1) := by decide +kernel
theorem dX0_refusalToFile_23 : decode cX0_refusalToFile 23 = .ok (.getfield 20, 3) := by decide +kernel
theorem dX0_refusalToFile_26 : decode cX0_refusalToFile 26 = .ok (.getfield 79, 3) := by decide +kernel
theorem dX0_refusalToFile_29 : decode cX0_refusalToFile 29 = .ok (.bipush 20, 2) := by decide +kernel
theorem dX0_refusalToFile_31 : decode cX0_refusalToFile 31 = .ok (.if_icmp .lt 5, 3) := by decide +kernel
theorem dX0_refusalToFile_34 : decode cX0_refusalToFile 34 = .ok (.iconst 2, 1) := by decide +kernel
theorem dX0_refusalToFile_35 : decode cX0_refusalToFile 35 = .ok (.ireturn, 1) := by decide +kernel
theorem dX0_refusalToFile_36 : decode cX0_refusalToFile 36 = .ok (.aload_n 0, 1) := by decide +kernel
theorem dX0_refusalToFile_37 : decode cX0_refusalToFile 37 = .ok (.aload_n 0, 1) := by decide +kernel
theorem dX0_refusalToFile_38 : decode cX0_refusalToFile 38 = .ok (.getfield 24, 3) := by decide +kernel
theorem dX0_refusalToFile_41 : decode cX0_refusalToFile 41 = .ok (.invokevirtual 96, 3) := by decide +kernel
theorem dX0_refusalToFile_44 : decode cX0_refusalToFile 44 = .ok (.getfield 76, 3) := by decide +kernel
theorem dX0_refusalToFile_47 : decode cX0_refusalToFile 47 = .ok (.aload_n 0, 1) := by decide +kernel
theorem dX0_refusalToFile_48 : decode cX0_refusalToFile 48 = .ok (.getfield 24, 3) := by decide +kernel
theorem dX0_refusalToFile_51 : decode cX0_refusalToFile 51 = .ok (.invokevirtual 107, 3) := by decide +kernel
theorem dX0_refusalToFile_54 : decode cX0_refusalToFile 54 = .ok (.iadd, 1) := by decide +kernel
theorem dX0_refusalToFile_55 : decode cX0_refusalToFile 55 = .ok (.iload_n 1, 1) := by decide +kernel
theorem dX0_refusalToFile_56 : decode cX0_refusalToFile 56 = .ok (.isub, 1) := by decide +kernel
theorem dX0_refusalToFile_57 : decode cX0_refusalToFile 57 = .ok (.istore_n 2, 1) := by decide +kernel
theorem dX0_refusalToFile_58 : decode cX0_refusalToFile 58 = .ok (.iload_n 2, 1) := by decide +kernel
theorem dX0_refusalToFile_59 : decode cX0_refusalToFile 59 = .ok (.iconst 1, 1) := by decide +kernel
theorem dX0_refusalToFile_60 : decode cX0_refusalToFile 60 = .ok (.if_icmp .ge 7, 3) := by decide +kernel
theorem dX0_refusalToFile_63 : decode cX0_refusalToFile 63 = .ok (.iconst 2, 1) := by decide +kernel
theorem dX0_refusalToFile_64 : decode cX0_refusalToFile 64 = .ok (.goto 4, 3) := by decide +kernel
theorem dX0_refusalToFile_67 : decode cX0_refusalToFile 67 = .ok (.iconst 0, 1) := by decide +kernel
theorem dX0_refusalToFile_68 : decode cX0_refusalToFile 68 = .ok (.ireturn, 1) := by decide +kernel
set_option maxHeartbeats 4000000 in
set_option maxRecDepth 100000 in
theorem mX0_refusalToFile (l : Launch) (G : gG) (da : Nat → Nat) (v : vSt) (x : gX) (r : Nat) (hk_r : kd r = 0) (p1 : Int32) : QI l yX0_refusalToFile cX0_refusalToFile 3 (some .int) rmX0_refusalToFile [.ref (ga G r), .int p1] (pW G da v x) (fX0_refusalToFile r p1 v) := by
  refine gofQ (own := RX0) (by decide) rfl (Nat.le_of_ble_eq_true rfl) (fun p e s m args below meth c ls Q X hH hl E => ?_)
  have hx := X.1
  have hb := X.2.1
  have hown := X.2.2.2.1
  have hts := X.2.2.2.2.1
  have hS : va_S (gA G) s.heap s.heap [] := va_S.rf
  have hl : lv_has ls 3 [(0, .ref (ga G r)), (1, .int p1)] := hl
  refine lv_iload_n hx hb dX0_refusalToFile_0 rfl (lv_at hl 1 rfl) ?_
  refine lv_iconst (v := 1) hx hb dX0_refusalToFile_1 (by decide) ?_
  refine lv_bipush (v := 99) hx hb dX0_refusalToFile_2 (by decide) ?_
  refine kn_X10_inRange X hS  t_mn_Bench_72 hl.1 (Nat.le_of_ble_eq_true rfl) ⟨Nat.le_of_ble_eq_true rfl, Nat.le_of_ble_eq_true rfl⟩ ⟨Nat.zero_le _, Nat.zero_le _⟩ dX0_refusalToFile_4 ?_
  refine lv_if_ne (tgt := 12) hx hb dX0_refusalToFile_7 (by decide) (fun c1 => ?_) (fun c1 => ?_)
  · refine lv_aload_n hx hb dX0_refusalToFile_12 rfl (lv_at hl 0 rfl) ?_
    refine g_Bench_24 X hH hk_r dX0_refusalToFile_13 ?_
    refine g_Bench_79 X hH (Or.inr (kc_0_15 hk_r)) dX0_refusalToFile_16 ?_
    refine lv_if_le (tgt := 34) hx hb dX0_refusalToFile_19 (by decide) (fun c2 => ?_) (fun c2 => ?_)
    · refine lv_iconst (v := 2) hx hb dX0_refusalToFile_34 (by decide) ?_
      exact E _ _ _ dX0_refusalToFile_35 rfl (Eq.symm ((if_neg c1).trans ((if_pos c2).trans rfl)))
    · refine lv_aload_n hx hb dX0_refusalToFile_22 rfl (lv_at hl 0 rfl) ?_
      refine g_Bench_20 X hH hk_r dX0_refusalToFile_23 ?_
      refine g_Bench_79 X hH (Or.inl (kc_0_5 hk_r)) dX0_refusalToFile_26 ?_
      refine lv_bipush (v := 20) hx hb dX0_refusalToFile_29 (by decide) ?_
      refine lv_icmp_lt (tgt := 36) hx hb dX0_refusalToFile_31 (by decide) (fun c3 => ?_) (fun c3 => ?_)
      · refine lv_aload_n hx hb dX0_refusalToFile_36 rfl (lv_at hl 0 rfl) ?_
        refine lv_aload_n hx hb dX0_refusalToFile_37 rfl (lv_at hl 0 rfl) ?_
        refine g_Bench_24 X hH hk_r dX0_refusalToFile_38 ?_
        refine k_X0_typeOfFirst X hS hH hk_r (Or.inr (kc_0_15 hk_r)) t_ml_Bench_96 hl.1 (Nat.le_of_ble_eq_true rfl) ⟨Nat.le_of_ble_eq_true rfl, Nat.le_of_ble_eq_true rfl⟩ ⟨Nat.zero_le _, Nat.zero_le _⟩ dX0_refusalToFile_41 ?_
        refine g_Bench_76 X hH (kd_typeOfFirst hk_r) dX0_refusalToFile_44 ?_
        refine lv_aload_n hx hb dX0_refusalToFile_47 rfl (lv_at hl 0 rfl) ?_
        refine g_Bench_24 X hH hk_r dX0_refusalToFile_48 ?_
        refine k_X5_firstDeviation X hS hH (Or.inr (kc_0_15 hk_r)) t_ml_Bench_107 hl.1 (Nat.le_of_ble_eq_true rfl) ⟨Nat.le_of_ble_eq_true rfl, Nat.le_of_ble_eq_true rfl⟩ ⟨Nat.zero_le _, Nat.zero_le _⟩ dX0_refusalToFile_51 ?_
        refine lv_iadd hx hb dX0_refusalToFile_54 ?_
        refine lv_iload_n hx hb dX0_refusalToFile_55 rfl (lv_at hl 1 rfl) ?_
        refine lv_isub hx hb dX0_refusalToFile_56 ?_
        refine lv_istore_n (lv' := [(2, .int (((v (fX0_typeOfFirst r (r + 5) v) 0) + (fX5_firstDeviation (r + 5) v)) - p1)), (0, .ref (ga G r)), (1, .int p1)]) hx hb dX0_refusalToFile_57 rfl hl (by decide) rfl (fun ls hl => ?_)
        refine lv_iload_n hx hb dX0_refusalToFile_58 rfl (lv_at hl 0 rfl) ?_
        refine lv_iconst (v := 1) hx hb dX0_refusalToFile_59 (by decide) ?_
        refine lv_icmp_ge (tgt := 67) hx hb dX0_refusalToFile_60 (by decide) (fun c4 => ?_) (fun c4 => ?_)
        · refine lv_iconst (v := 0) hx hb dX0_refusalToFile_67 (by decide) ?_
          exact E _ _ _ dX0_refusalToFile_68 rfl (Eq.symm ((if_neg c1).trans ((if_neg c2).trans ((if_pos c3).trans ((if_pos c4).trans rfl)))))
        · refine lv_iconst (v := 2) hx hb dX0_refusalToFile_63 (by decide) ?_
          refine lv_goto (tgt := 68) hx hb dX0_refusalToFile_64 (by decide) ?_
          exact E _ _ _ dX0_refusalToFile_68 rfl (Eq.symm ((if_neg c1).trans ((if_neg c2).trans ((if_pos c3).trans ((if_neg c4).trans rfl)))))
      · refine lv_iconst (v := 2) hx hb dX0_refusalToFile_34 (by decide) ?_
        exact E _ _ _ dX0_refusalToFile_35 rfl (Eq.symm ((if_neg c1).trans ((if_neg c2).trans ((if_neg c3).trans rfl))))
  · refine lv_iconst (v := 1) hx hb dX0_refusalToFile_10 (by decide) ?_
    exact E _ _ _ dX0_refusalToFile_11 rfl (Eq.symm ((if_pos c1).trans rfl))
theorem k_X0_refusalToFile {p : Program} {l : Launch} {e : Env} {R : Room} {s : State} {m : MethodId} {args : Array Value} {below : List Frame} {meth : Method} {c : Code} {H : Heap} {locs : List Loc} {cells slots : Nat} {Q : State → Prop} {cc : ByteArray} {pc nL : Nat} {ls : Array Slot} {rest : List Value} {G : gG} {own : String} {da : Nat → Nat} {v : vSt} {x : gX} (X : CX G p s m args c cc nL own) (hS : va_S (gA G) s.heap H locs) (hH : Hp G da v x H) {r : Nat} (hk_r : kd r = 0) {p1 : Int32} {idx : Nat} (hml : Cond.methodLink own idx yX0_refusalToFile ∈ TT) (hls : ls.size = nL) (hsum : (rest.map fun v => v.category).sum ≤ 8) (hR : rmX0_refusalToFile.frames + 1 ≤ R.frames ∧ 8 + (3 + 11) + rmX0_refusalToFile.locals ≤ R.locals) (hcs : cells ≤ R.cells ∧ slots ≤ R.slots) (hdg : decode cc pc = .ok (.invokevirtual idx, 3)) (kk : W p l e R s m args below meth c H locs cells slots Q (F0 m (pc + 3) ls (.int (fX0_refusalToFile r p1 v) :: rest))) : W p l e R s m args below meth c H locs cells slots Q (F0 m pc ls (.int p1 :: .ref (ga G r) :: rest)) := c_qi (runV (k := 1) X.1 X.2.1 X.2.2.1 X.2.2.2.1 X.2.2.2.2.1 (mX0_refusalToFile l G da v x r hk_r p1) pW_bl hml t_im_X0_refusalToFile t_sel_X0_refusalToFile t_ini_Bench t_code_X0_refusalToFile ⟨rfl, by decide, by decide, by decide +kernel⟩ rfl rfl hR hcs (recvW X hH (by rw [hk_r]; decide) (by rw [hk_r]; decide) (ce_0 hk_r) rfl) (preW X hS hH) rfl hls rfl hsum hdg) (fun _ h => h ▸ kk)
def fX0_reasonNotToPass (r : Nat) (v : vSt) : Int32 := if (0 : Int32) < (v (r + 4) 3) then (if ((v (fX0_typeOfFirst r (r + 4) v) 4) : Int32) = 2 then (if ((v (fX0_typeOfFirst r (r + 4) v) 5) : Int32) = 0 then 0 else 3) else 2) else 1
abbrev rmX0_reasonNotToPass : Room := { frames := 3, cells := 0, slots := 0, locals := 64 }
theorem dX0_reasonNotToPass_0 : decode cX0_reasonNotToPass 0 = .ok (.aload_n 0, 1) := by decide +kernel
theorem dX0_reasonNotToPass_1 : decode cX0_reasonNotToPass 1 = .ok (.getfield 20, 3) := by decide +kernel
theorem dX0_reasonNotToPass_4 : decode cX0_reasonNotToPass 4 = .ok (.getfield 79, 3) := by decide +kernel
theorem dX0_reasonNotToPass_7 : decode cX0_reasonNotToPass 7 = .ok (.ifCond .gt 5, 3) := by decide +kernel
theorem dX0_reasonNotToPass_10 : decode cX0_reasonNotToPass 10 = .ok (.iconst 1, 1) := by decide +kernel
theorem dX0_reasonNotToPass_11 : decode cX0_reasonNotToPass 11 = .ok (.ireturn, 1) := by decide +kernel
theorem dX0_reasonNotToPass_12 : decode cX0_reasonNotToPass 12 = .ok (.aload_n 0, 1) := by decide +kernel
theorem dX0_reasonNotToPass_13 : decode cX0_reasonNotToPass 13 = .ok (.aload_n 0, 1) := by decide +kernel
theorem dX0_reasonNotToPass_14 : decode cX0_reasonNotToPass 14 = .ok (.getfield 20, 3) := by decide +kernel
theorem dX0_reasonNotToPass_17 : decode cX0_reasonNotToPass 17 = .ok (.invokevirtual 96, 3) := by decide +kernel
theorem dX0_reasonNotToPass_20 : decode cX0_reasonNotToPass 20 = .ok (.astore_n 1, 1) := by decide +kernel
theorem dX0_reasonNotToPass_21 : decode cX0_reasonNotToPass 21 = .ok (.aload_n 1, 1) := by decide +kernel
theorem dX0_reasonNotToPass_22 : decode cX0_reasonNotToPass 22 = .ok (.getfield 162, 3) := by decide +kernel
theorem dX0_reasonNotToPass_25 : decode cX0_reasonNotToPass 25 = .ok (.iconst 2, 1) := by decide +kernel
theorem dX0_reasonNotToPass_26 : decode cX0_reasonNotToPass 26 = .ok (.if_icmp .eq 5, 3) := by decide +kernel
theorem dX0_reasonNotToPass_29 : decode cX0_reasonNotToPass 29 = .ok (.iconst 2, 1) := by decide +kernel
theorem dX0_reasonNotToPass_30 : decode cX0_reasonNotToPass 30 = .ok (.ireturn, 1) := by decide +kernel
theorem dX0_reasonNotToPass_31 : decode cX0_reasonNotToPass 31 = .ok (.aload_n 1, 1) := by decide +kernel
theorem dX0_reasonNotToPass_32 : decode cX0_reasonNotToPass 32 = .ok (.getfield 165, 3) := by decide +kernel
theorem dX0_reasonNotToPass_35 : decode cX0_reasonNotToPass 35 = .ok (.ifCond .eq 7, 3) := by decide +kernel
theorem dX0_reasonNotToPass_38 : decode cX0_reasonNotToPass 38 = .ok (.iconst 3, 1) := by decide +kernel
theorem dX0_reasonNotToPass_39 : decode cX0_reasonNotToPass 39 = .ok (.goto 4, 3) := by decide +kernel
theorem dX0_reasonNotToPass_42 : decode cX0_reasonNotToPass 42 = .ok (.iconst 0, 1) := by decide +kernel
theorem dX0_reasonNotToPass_43 : decode cX0_reasonNotToPass 43 = .ok (.ireturn, 1) := by decide +kernel
set_option maxHeartbeats 4000000 in
set_option maxRecDepth 100000 in
theorem mX0_reasonNotToPass (l : Launch) (G : gG) (da : Nat → Nat) (v : vSt) (x : gX) (r : Nat) (hk_r : kd r = 0) : QI l yX0_reasonNotToPass cX0_reasonNotToPass 2 (some .int) rmX0_reasonNotToPass [.ref (ga G r)] (pW G da v x) (fX0_reasonNotToPass r v) := by
  refine gofQ (own := RX0) (by decide) rfl (Nat.le_of_ble_eq_true rfl) (fun p e s m args below meth c ls Q X hH hl E => ?_)
  have hx := X.1
  have hb := X.2.1
  have hown := X.2.2.2.1
  have hts := X.2.2.2.2.1
  have hS : va_S (gA G) s.heap s.heap [] := va_S.rf
  have hl : lv_has ls 2 [(0, .ref (ga G r))] := hl
  refine lv_aload_n hx hb dX0_reasonNotToPass_0 rfl (lv_at hl 0 rfl) ?_
  refine g_Bench_20 X hH hk_r dX0_reasonNotToPass_1 ?_
  refine g_Bench_79 X hH (Or.inl (kc_0_5 hk_r)) dX0_reasonNotToPass_4 ?_
  refine lv_if_gt (tgt := 12) hx hb dX0_reasonNotToPass_7 (by decide) (fun c1 => ?_) (fun c1 => ?_)
  · refine lv_aload_n hx hb dX0_reasonNotToPass_12 rfl (lv_at hl 0 rfl) ?_
    refine lv_aload_n hx hb dX0_reasonNotToPass_13 rfl (lv_at hl 0 rfl) ?_
    refine g_Bench_20 X hH hk_r dX0_reasonNotToPass_14 ?_
    refine k_X0_typeOfFirst X hS hH hk_r (Or.inl (kc_0_5 hk_r)) t_ml_Bench_96 hl.1 (Nat.le_of_ble_eq_true rfl) ⟨Nat.le_of_ble_eq_true rfl, Nat.le_of_ble_eq_true rfl⟩ ⟨Nat.zero_le _, Nat.zero_le _⟩ dX0_reasonNotToPass_17 ?_
    refine lv_astore_n (lv' := [(1, .ref (ga G (fX0_typeOfFirst r (r + 4) v))), (0, .ref (ga G r))]) hx hb dX0_reasonNotToPass_20 rfl hl (by decide) rfl (fun ls hl => ?_)
    refine lv_aload_n hx hb dX0_reasonNotToPass_21 rfl (lv_at hl 0 rfl) ?_
    refine g_Bench_162 X hH (kd_typeOfFirst hk_r) dX0_reasonNotToPass_22 ?_
    refine lv_iconst (v := 2) hx hb dX0_reasonNotToPass_25 (by decide) ?_
    refine lv_icmp_eq (tgt := 31) hx hb dX0_reasonNotToPass_26 (by decide) (fun c2 => ?_) (fun c2 => ?_)
    · refine lv_aload_n hx hb dX0_reasonNotToPass_31 rfl (lv_at hl 0 rfl) ?_
      refine g_Bench_165 X hH (kd_typeOfFirst hk_r) dX0_reasonNotToPass_32 ?_
      refine lv_if_eq (tgt := 42) hx hb dX0_reasonNotToPass_35 (by decide) (fun c3 => ?_) (fun c3 => ?_)
      · refine lv_iconst (v := 0) hx hb dX0_reasonNotToPass_42 (by decide) ?_
        exact E _ _ _ dX0_reasonNotToPass_43 rfl (Eq.symm ((if_pos c1).trans ((if_pos c2).trans ((if_pos c3).trans rfl))))
      · refine lv_iconst (v := 3) hx hb dX0_reasonNotToPass_38 (by decide) ?_
        refine lv_goto (tgt := 43) hx hb dX0_reasonNotToPass_39 (by decide) ?_
        exact E _ _ _ dX0_reasonNotToPass_43 rfl (Eq.symm ((if_pos c1).trans ((if_pos c2).trans ((if_neg c3).trans rfl))))
    · refine lv_iconst (v := 2) hx hb dX0_reasonNotToPass_29 (by decide) ?_
      exact E _ _ _ dX0_reasonNotToPass_30 rfl (Eq.symm ((if_pos c1).trans ((if_neg c2).trans rfl)))
  · refine lv_iconst (v := 1) hx hb dX0_reasonNotToPass_10 (by decide) ?_
    exact E _ _ _ dX0_reasonNotToPass_11 rfl (Eq.symm ((if_neg c1).trans rfl))
theorem k_X0_reasonNotToPass {p : Program} {l : Launch} {e : Env} {R : Room} {s : State} {m : MethodId} {args : Array Value} {below : List Frame} {meth : Method} {c : Code} {H : Heap} {locs : List Loc} {cells slots : Nat} {Q : State → Prop} {cc : ByteArray} {pc nL : Nat} {ls : Array Slot} {rest : List Value} {G : gG} {own : String} {da : Nat → Nat} {v : vSt} {x : gX} (X : CX G p s m args c cc nL own) (hS : va_S (gA G) s.heap H locs) (hH : Hp G da v x H) {r : Nat} (hk_r : kd r = 0) {idx : Nat} (hml : Cond.methodLink own idx yX0_reasonNotToPass ∈ TT) (hls : ls.size = nL) (hsum : (rest.map fun v => v.category).sum ≤ 8) (hR : rmX0_reasonNotToPass.frames + 1 ≤ R.frames ∧ 8 + (2 + 11) + rmX0_reasonNotToPass.locals ≤ R.locals) (hcs : cells ≤ R.cells ∧ slots ≤ R.slots) (hdg : decode cc pc = .ok (.invokevirtual idx, 3)) (kk : W p l e R s m args below meth c H locs cells slots Q (F0 m (pc + 3) ls (.int (fX0_reasonNotToPass r v) :: rest))) : W p l e R s m args below meth c H locs cells slots Q (F0 m pc ls (.ref (ga G r) :: rest)) := c_qi (runV (k := 0) X.1 X.2.1 X.2.2.1 X.2.2.2.1 X.2.2.2.2.1 (mX0_reasonNotToPass l G da v x r hk_r) pW_bl hml t_im_X0_reasonNotToPass t_sel_X0_reasonNotToPass t_ini_Bench t_code_X0_reasonNotToPass ⟨rfl, by decide, by decide, by decide +kernel⟩ rfl rfl hR hcs (recvW X hH (by rw [hk_r]; decide) (by rw [hk_r]; decide) (ce_0 hk_r) rfl) (preW X hS hH) rfl hls rfl hsum hdg) (fun _ h => h ▸ kk)
def fX0_refusalToPass (r : Nat) (v : vSt) : Int32 := if ((fX0_reasonNotToPass r v) : Int32) = 0 then 0 else 2
abbrev rmX0_refusalToPass : Room := { frames := 4, cells := 0, slots := 0, locals := 85 }
theorem dX0_refusalToPass_0 : decode cX0_refusalToPass 0 = .ok (.aload_n 0, 1) := by decide +kernel
theorem dX0_refusalToPass_1 : decode cX0_refusalToPass 1 = .ok (.invokevirtual 169, 3) := by decide +kernel
theorem dX0_refusalToPass_4 : decode cX0_refusalToPass 4 = .ok (.ifCond .ne 7, 3) := by decide +kernel
theorem dX0_refusalToPass_7 : decode cX0_refusalToPass 7 = .ok (.iconst 0, 1) := by decide +kernel
theorem dX0_refusalToPass_8 : decode cX0_refusalToPass 8 = .ok (.goto 4, 3) := by decide +kernel
theorem dX0_refusalToPass_11 : decode cX0_refusalToPass 11 = .ok (.iconst 2, 1) := by decide +kernel
theorem dX0_refusalToPass_12 : decode cX0_refusalToPass 12 = .ok (.ireturn, 1) := by decide +kernel
set_option maxHeartbeats 4000000 in
set_option maxRecDepth 100000 in
theorem mX0_refusalToPass (l : Launch) (G : gG) (da : Nat → Nat) (v : vSt) (x : gX) (r : Nat) (hk_r : kd r = 0) : QI l yX0_refusalToPass cX0_refusalToPass 1 (some .int) rmX0_refusalToPass [.ref (ga G r)] (pW G da v x) (fX0_refusalToPass r v) := by
  refine gofQ (own := RX0) (by decide) rfl (Nat.le_of_ble_eq_true rfl) (fun p e s m args below meth c ls Q X hH hl E => ?_)
  have hx := X.1
  have hb := X.2.1
  have hown := X.2.2.2.1
  have hts := X.2.2.2.2.1
  have hS : va_S (gA G) s.heap s.heap [] := va_S.rf
  have hl : lv_has ls 1 [(0, .ref (ga G r))] := hl
  refine lv_aload_n hx hb dX0_refusalToPass_0 rfl (lv_at hl 0 rfl) ?_
  refine k_X0_reasonNotToPass X hS hH hk_r t_ml_Bench_169 hl.1 (Nat.le_of_ble_eq_true rfl) ⟨Nat.le_of_ble_eq_true rfl, Nat.le_of_ble_eq_true rfl⟩ ⟨Nat.zero_le _, Nat.zero_le _⟩ dX0_refusalToPass_1 ?_
  refine lv_if_ne (tgt := 11) hx hb dX0_refusalToPass_4 (by decide) (fun c1 => ?_) (fun c1 => ?_)
  · refine lv_iconst (v := 2) hx hb dX0_refusalToPass_11 (by decide) ?_
    exact E _ _ _ dX0_refusalToPass_12 rfl (Eq.symm ((if_neg c1).trans rfl))
  · refine lv_iconst (v := 0) hx hb dX0_refusalToPass_7 (by decide) ?_
    refine lv_goto (tgt := 12) hx hb dX0_refusalToPass_8 (by decide) ?_
    exact E _ _ _ dX0_refusalToPass_12 rfl (Eq.symm ((if_pos c1).trans rfl))
theorem k_X0_refusalToPass {p : Program} {l : Launch} {e : Env} {R : Room} {s : State} {m : MethodId} {args : Array Value} {below : List Frame} {meth : Method} {c : Code} {H : Heap} {locs : List Loc} {cells slots : Nat} {Q : State → Prop} {cc : ByteArray} {pc nL : Nat} {ls : Array Slot} {rest : List Value} {G : gG} {own : String} {da : Nat → Nat} {v : vSt} {x : gX} (X : CX G p s m args c cc nL own) (hS : va_S (gA G) s.heap H locs) (hH : Hp G da v x H) {r : Nat} (hk_r : kd r = 0) {idx : Nat} (hml : Cond.methodLink own idx yX0_refusalToPass ∈ TT) (hls : ls.size = nL) (hsum : (rest.map fun v => v.category).sum ≤ 8) (hR : rmX0_refusalToPass.frames + 1 ≤ R.frames ∧ 8 + (1 + 11) + rmX0_refusalToPass.locals ≤ R.locals) (hcs : cells ≤ R.cells ∧ slots ≤ R.slots) (hdg : decode cc pc = .ok (.invokevirtual idx, 3)) (kk : W p l e R s m args below meth c H locs cells slots Q (F0 m (pc + 3) ls (.int (fX0_refusalToPass r v) :: rest))) : W p l e R s m args below meth c H locs cells slots Q (F0 m pc ls (.ref (ga G r) :: rest)) := c_qi (runV (k := 0) X.1 X.2.1 X.2.2.1 X.2.2.2.1 X.2.2.2.2.1 (mX0_refusalToPass l G da v x r hk_r) pW_bl hml t_im_X0_refusalToPass t_sel_X0_refusalToPass t_ini_Bench t_code_X0_refusalToPass ⟨rfl, by decide, by decide, by decide +kernel⟩ rfl rfl hR hcs (recvW X hH (by rw [hk_r]; decide) (by rw [hk_r]; decide) (ce_0 hk_r) rfl) (preW X hS hH) rfl hls rfl hsum hdg) (fun _ h => h ▸ kk)
theorem hasType_b2 : True := trivial
def lX7_bestToolToJudge_6 (v : vSt) (r : Nat) : Nat → Int32 → Int32 → Int32 → Int32
  | 0, i1, i2, i3 => i3
  | n + 1, i1, i2, i3 => if ((v (r + 1) 2) : Int32) ≤ i1 then i3 else (if (6 : Int32) ≤ i1 then i3 else (let y7 : Int32 := if (i3 : Int32) < 0 then 1 else (if (i2 : Int32) ≤ (v (((r + 1) + 2) + 13 + (i1 : Int32).toNatClampNeg) 1) then 0 else 1); let qy9 : Int32 × Int32 := if (y7 : Int32) = 0 then ((i2, i3)) else (if ((fX0_reasonNotToJudge (r + 2) (r + 1) (((r + 1) + 2) + 13 + (i1 : Int32).toNatClampNeg) v) : Int32) = 0 then ((v (((r + 1) + 2) + 13 + (i1 : Int32).toNatClampNeg) 1, i1)) else ((i2, i3))); let y9 := qy9.1; let y10 := qy9.2; lX7_bestToolToJudge_6 v r n (i1 + 1) y9 y10))
def fX7_bestToolToJudge (r : Nat) (v : vSt) : Int32 := let y4 : Int32 := (lX7_bestToolToJudge_6 v r ((Int32.toInt ((v (r + 1) 2)) - Int32.toInt 0).toNat + 1) 0 0 (-1)); y4
abbrev rmX7_bestToolToJudge : Room := { frames := 4, cells := 0, slots := 0, locals := 93 }
theorem dX7_bestToolToJudge_0 : decode cX7_bestToolToJudge 0 = .ok (.iconst (-1), 1) := by decide +kernel
theorem dX7_bestToolToJudge_1 : decode cX7_bestToolToJudge 1 = .ok (.istore_n 1, 1) := by decide +kernel
theorem dX7_bestToolToJudge_2 : decode cX7_bestToolToJudge 2 = .ok (.iconst 0, 1) := by decide +kernel
theorem dX7_bestToolToJudge_3 : decode cX7_bestToolToJudge 3 = .ok (.istore_n 2, 1) := by decide +kernel
theorem dX7_bestToolToJudge_4 : decode cX7_bestToolToJudge 4 = .ok (.iconst 0, 1) := by decide +kernel
theorem dX7_bestToolToJudge_5 : decode cX7_bestToolToJudge 5 = .ok (.istore_n 3, 1) := by decide +kernel
theorem dX7_bestToolToJudge_6 : decode cX7_bestToolToJudge 6 = .ok (.iload_n 3, 1) := by decide +kernel
theorem dX7_bestToolToJudge_7 : decode cX7_bestToolToJudge 7 = .ok (.aload_n 0, 1) := by decide +kernel
theorem dX7_bestToolToJudge_8 : decode cX7_bestToolToJudge 8 = .ok (.getfield 12, 3) := by decide +kernel
theorem dX7_bestToolToJudge_11 : decode cX7_bestToolToJudge 11 = .ok (.getfield 32, 3) := by decide +kernel
theorem dX7_bestToolToJudge_14 : decode cX7_bestToolToJudge 14 = .ok (.if_icmp .ge 81, 3) := by decide +kernel
theorem dX7_bestToolToJudge_17 : decode cX7_bestToolToJudge 17 = .ok (.iload_n 3, 1) := by decide +kernel
theorem dX7_bestToolToJudge_18 : decode cX7_bestToolToJudge 18 = .ok (.aload_n 0, 1) := by decide +kernel
theorem dX7_bestToolToJudge_19 : decode cX7_bestToolToJudge 19 = .ok (.getfield 12, 3) := by decide +kernel
theorem dX7_bestToolToJudge_22 : decode cX7_bestToolToJudge 22 = .ok (.getfield 36, 3) := by decide +kernel
theorem dX7_bestToolToJudge_25 : decode cX7_bestToolToJudge 25 = .ok (.arraylength, 1) := by decide +kernel
theorem dX7_bestToolToJudge_26 : decode cX7_bestToolToJudge 26 = .ok (.if_icmp .ge 69, 3) := by decide +kernel
theorem dX7_bestToolToJudge_29 : decode cX7_bestToolToJudge 29 = .ok (.aload_n 0, 1) := by decide +kernel
theorem dX7_bestToolToJudge_30 : decode cX7_bestToolToJudge 30 = .ok (.getfield 12, 3) := by decide +kernel
theorem dX7_bestToolToJudge_33 : decode cX7_bestToolToJudge 33 = .ok (.getfield 36, 3) := by decide +kernel
theorem dX7_bestToolToJudge_36 : decode cX7_bestToolToJudge 36 = .ok (.iload_n 3, 1) := by decide +kernel
theorem dX7_bestToolToJudge_37 : decode cX7_bestToolToJudge 37 = .ok (.aaload, 1) := by decide +kernel
theorem dX7_bestToolToJudge_38 : decode cX7_bestToolToJudge 38 = .ok (.astore 4, 2) := by decide +kernel
theorem dX7_bestToolToJudge_40 : decode cX7_bestToolToJudge 40 = .ok (.iload_n 1, 1) := by decide +kernel
theorem dX7_bestToolToJudge_41 : decode cX7_bestToolToJudge 41 = .ok (.ifCond .lt 12, 3) := by decide +kernel
theorem dX7_bestToolToJudge_44 : decode cX7_bestToolToJudge 44 = .ok (.aload 4, 2) := by decide +kernel
theorem dX7_bestToolToJudge_46 : decode cX7_bestToolToJudge 46 = .ok (.getfield 40, 3) := by decide +kernel
theorem dX7_bestToolToJudge_49 : decode cX7_bestToolToJudge 49 = .ok (.iload_n 2, 1) := by decide +kernel
theorem dX7_bestToolToJudge_50 : decode cX7_bestToolToJudge 50 = .ok (.if_icmp .ge 7, 3) := by decide +kernel
theorem dX7_bestToolToJudge_53 : decode cX7_bestToolToJudge 53 = .ok (.iconst 1, 1) := by decide +kernel
theorem dX7_bestToolToJudge_54 : decode cX7_bestToolToJudge 54 = .ok (.goto 4, 3) := by decide +kernel
theorem dX7_bestToolToJudge_57 : decode cX7_bestToolToJudge 57 = .ok (.iconst 0, 1) := by decide +kernel
theorem dX7_bestToolToJudge_58 : decode cX7_bestToolToJudge 58 = .ok (.istore 5, 2) := by decide +kernel
theorem dX7_bestToolToJudge_60 : decode cX7_bestToolToJudge 60 = .ok (.iload 5, 2) := by decide +kernel
theorem dX7_bestToolToJudge_62 : decode cX7_bestToolToJudge 62 = .ok (.ifCond .eq 27, 3) := by decide +kernel
theorem dX7_bestToolToJudge_65 : decode cX7_bestToolToJudge 65 = .ok (.aload_n 0, 1) := by decide +kernel
theorem dX7_bestToolToJudge_66 : decode cX7_bestToolToJudge 66 = .ok (.getfield 21, 3) := by decide +kernel
theorem dX7_bestToolToJudge_69 : decode cX7_bestToolToJudge 69 = .ok (.aload_n 0, 1) := by decide +kernel
theorem dX7_bestToolToJudge_70 : decode cX7_bestToolToJudge 70 = .ok (.getfield 12, 3) := by decide +kernel
theorem dX7_bestToolToJudge_73 : decode cX7_bestToolToJudge 73 = .ok (.aload 4, 2) := by decide +kernel
theorem dX7_bestToolToJudge_75 : decode cX7_bestToolToJudge 75 = .ok (.invokevirtual 45, 3) := by decide +kernel
theorem dX7_bestToolToJudge_78 : decode cX7_bestToolToJudge 78 = .ok (.ifCond .ne 11, 3) := by decide +kernel
theorem dX7_bestToolToJudge_81 : decode cX7_bestToolToJudge 81 = .ok (.iload_n 3, 1) := by decide +kernel
theorem dX7_bestToolToJudge_82 : decode cX7_bestToolToJudge 82 = .ok (.istore_n 1, 1) := by decide +kernel
theorem dX7_bestToolToJudge_83 : decode cX7_bestToolToJudge 83 = .ok (.aload 4, 2) := by decide +kernel
theorem dX7_bestToolToJudge_85 : decode cX7_bestToolToJudge 85 = .ok (.getfield 40, 3) := by decide +kernel
theorem dX7_bestToolToJudge_88 : decode cX7_bestToolToJudge 88 = .ok (.istore_n 2, 1) := by decide +kernel
theorem dX7_bestToolToJudge_89 : decode cX7_bestToolToJudge 89 = .ok (.iinc 3 1, 3) := by decide +kernel
theorem dX7_bestToolToJudge_92 : decode cX7_bestToolToJudge 92 = .ok (.goto (-86), 3) := by decide +kernel
theorem dX7_bestToolToJudge_95 : decode cX7_bestToolToJudge 95 = .ok (.iload_n 1, 1) := by decide +kernel
theorem dX7_bestToolToJudge_96 : decode cX7_bestToolToJudge 96 = .ok (.ireturn, 1) := by decide +kernel
set_option maxHeartbeats 4000000 in
set_option maxRecDepth 100000 in
theorem mX7_bestToolToJudge (l : Launch) (G : gG) (da : Nat → Nat) (v : vSt) (x : gX) (r : Nat) (hk_r : kd r = 7) (hD : 0 ≤ (v (r + 1) 2).toInt ∧ (v (r + 1) 2).toInt ≤ 6 ∧ 0 ≤ (v (r + 1) 3).toInt ∧ (v (r + 1) 3).toInt ≤ 10) : QI l yX7_bestToolToJudge cX7_bestToolToJudge 6 (some .int) rmX7_bestToolToJudge [.ref (ga G r)] (pW G da v x) (fX7_bestToolToJudge r v) := by
  refine gofQ (own := RX7) (by decide) rfl (Nat.le_of_ble_eq_true rfl) (fun p e s m args below meth c ls Q X hH hl E => ?_)
  have hx := X.1
  have hb := X.2.1
  have hown := X.2.2.2.1
  have hts := X.2.2.2.2.1
  have hS : va_S (gA G) s.heap s.heap [] := va_S.rf
  have hl : lv_has ls 6 [(0, .ref (ga G r))] := hl
  refine lv_iconst (v := (-1)) hx hb dX7_bestToolToJudge_0 (by decide) ?_
  refine lv_istore_n (lv' := [(1, .int (-1)), (0, .ref (ga G r))]) hx hb dX7_bestToolToJudge_1 rfl hl (by decide) rfl (fun ls hl => ?_)
  refine lv_iconst (v := 0) hx hb dX7_bestToolToJudge_2 (by decide) ?_
  refine lv_istore_n (lv' := [(2, .int 0), (1, .int (-1)), (0, .ref (ga G r))]) hx hb dX7_bestToolToJudge_3 rfl hl (by decide) rfl (fun ls hl => ?_)
  refine lv_iconst (v := 0) hx hb dX7_bestToolToJudge_4 (by decide) ?_
  refine lv_istore_n (lv' := [(3, .int 0), (2, .int 0), (1, .int (-1)), (0, .ref (ga G r))]) hx hb dX7_bestToolToJudge_5 rfl hl (by decide) rfl (fun ls hl => ?_)
  have L5 : ∀ (n : Nat) (i1 : Int32) (i2 : Int32) (i3 : Int32) (ls : Array Slot), (Int32.toInt ((v (r + 1) 2)) - Int32.toInt i1).toNat < n → 0 ≤ Int32.toInt i1 → lv_has ls 6 [(3, .int i1), (2, .int i2), (1, .int i3), (0, .ref (ga G r))] → (∀ (y4 : Int32) (ls : Array Slot), y4 = (lX7_bestToolToJudge_6 v r n i1 i2 i3 : Int32) → lv_has ls 6 [(1, .int y4)] → W p l e rmX7_bestToolToJudge s m args below meth c s.heap [] 0 0 Q (F0 m 95 ls [])) → W p l e rmX7_bestToolToJudge s m args below meth c s.heap [] 0 0 Q (F0 m 6 ls []) := by
    intro n
    induction n with
    | zero =>
      intro i1 i2 i3 ls hm
      exact absurd hm (Nat.not_lt_zero _)
    | succ n ih =>
      intro i1 i2 i3 ls hm hi0  hl K6
      refine lv_iload_n hx hb dX7_bestToolToJudge_6 rfl (lv_at hl 0 rfl) ?_
      refine lv_aload_n hx hb dX7_bestToolToJudge_7 rfl (lv_at hl 3 rfl) ?_
      refine g_State_12 X hH hk_r dX7_bestToolToJudge_8 ?_
      refine g_State_32 X hH (kc_7_2 hk_r) dX7_bestToolToJudge_11 ?_
      refine lv_icmp_ge (tgt := 95) hx hb dX7_bestToolToJudge_14 (by decide) (fun c4 => ?_) (fun c4 => ?_)
      · exact K6 _ _ (Eq.symm ((if_pos c4).trans rfl)) (lv_sub hl [2] rfl)
      · refine lv_iload_n hx hb dX7_bestToolToJudge_17 rfl (lv_at hl 0 rfl) ?_
        refine lv_aload_n hx hb dX7_bestToolToJudge_18 rfl (lv_at hl 3 rfl) ?_
        refine g_State_12 X hH hk_r dX7_bestToolToJudge_19 ?_
        refine g_State_36 X hH (kc_7_2 hk_r) dX7_bestToolToJudge_22 ?_
        refine len_20 X hH (kc_2_20 (kc_7_2 hk_r)) dX7_bestToolToJudge_25 ?_
        refine lv_icmp_ge (tgt := 95) hx hb dX7_bestToolToJudge_26 (by decide) (fun c5 => ?_) (fun c5 => ?_)
        · exact K6 _ _ (Eq.symm ((if_neg c4).trans ((if_pos c5).trans rfl))) (lv_sub hl [2] rfl)
        · refine lv_aload_n hx hb dX7_bestToolToJudge_29 rfl (lv_at hl 3 rfl) ?_
          refine g_State_12 X hH hk_r dX7_bestToolToJudge_30 ?_
          refine g_State_36 X hH (kc_7_2 hk_r) dX7_bestToolToJudge_33 ?_
          refine lv_iload_n hx hb dX7_bestToolToJudge_36 rfl (lv_at hl 0 rfl) ?_
          have hi6 : vp_in i1 6 := (i_in (by have := i_nle c4; have := i_nle c5; have : (1 : Int32).toInt = 1 := rfl; have : (2 : Int32).toInt = 2 := rfl; have : (6 : Int32).toInt = 6 := rfl; have := hD; have := hi0; omega) (by have := i_nle c4; have := i_nle c5; have : (1 : Int32).toInt = 1 := rfl; have : (2 : Int32).toInt = 2 := rfl; have : (6 : Int32).toInt = 6 := rfl; have := hD; have := hi0; omega))
          refine qld_20 X hH (kc_2_20 (kc_7_2 hk_r)) hi6 dX7_bestToolToJudge_37 ?_
          refine lv_astore (lv' := [(4, .ref (ga G (((r + 1) + 2) + 13 + (i1 : Int32).toNatClampNeg))), (3, .int i1), (2, .int i2), (1, .int i3), (0, .ref (ga G r))]) hx hb dX7_bestToolToJudge_38 hl (by decide) rfl (fun ls hl => ?_)
          refine lv_iload_n hx hb dX7_bestToolToJudge_40 rfl (lv_at hl 3 rfl) ?_
          have K8 : ∀ (y7 : Int32) (ls : Array Slot), y7 = (if (i3 : Int32) < 0 then 1 else (if (i2 : Int32) ≤ (v (((r + 1) + 2) + 13 + (i1 : Int32).toNatClampNeg) 1) then 0 else 1) : Int32) → lv_has ls 6 [(4, .ref (ga G (((r + 1) + 2) + 13 + (i1 : Int32).toNatClampNeg))), (3, .int i1), (2, .int i2), (1, .int i3), (0, .ref (ga G r))] → W p l e rmX7_bestToolToJudge s m args below meth c s.heap [] 0 0 Q (F0 m 58 ls [.int y7]) := by
            intro y7 ls ey7 hl
            refine lv_istore (lv' := [(5, .int y7), (4, .ref (ga G (((r + 1) + 2) + 13 + (i1 : Int32).toNatClampNeg))), (3, .int i1), (2, .int i2), (1, .int i3), (0, .ref (ga G r))]) hx hb dX7_bestToolToJudge_58 hl (by decide) rfl (fun ls hl => ?_)
            refine lv_iload hx hb dX7_bestToolToJudge_60 (lv_at hl 0 rfl) ?_
            have K11 : ∀ (y9 : Int32) (y10 : Int32) (ls : Array Slot), y9 = (if (y7 : Int32) = 0 then ((i2, i3)) else (if ((fX0_reasonNotToJudge (r + 2) (r + 1) (((r + 1) + 2) + 13 + (i1 : Int32).toNatClampNeg) v) : Int32) = 0 then ((v (((r + 1) + 2) + 13 + (i1 : Int32).toNatClampNeg) 1, i1)) else ((i2, i3))) : Int32 × Int32).1 → y10 = (if (y7 : Int32) = 0 then ((i2, i3)) else (if ((fX0_reasonNotToJudge (r + 2) (r + 1) (((r + 1) + 2) + 13 + (i1 : Int32).toNatClampNeg) v) : Int32) = 0 then ((v (((r + 1) + 2) + 13 + (i1 : Int32).toNatClampNeg) 1, i1)) else ((i2, i3))) : Int32 × Int32).2 → lv_has ls 6 [(3, .int i1), (2, .int y9), (1, .int y10), (0, .ref (ga G r))] → W p l e rmX7_bestToolToJudge s m args below meth c s.heap [] 0 0 Q (F0 m 89 ls []) := by
              intro y9 y10 ls ey9 ey10 hl
              refine lv_iinc (v := i1 + 1) (lv' := [(3, .int (i1 + 1)), (2, .int y9), (1, .int y10), (0, .ref (ga G r))]) hx hb dX7_bestToolToJudge_89 hl (k := 0) rfl rfl (by decide) rfl (fun ls hl => ?_)
              refine lv_goto (tgt := 6) hx hb dX7_bestToolToJudge_92 (by decide) ?_
              have hm2 : (Int32.toInt ((v (r + 1) 2)) - Int32.toInt (i1 + 1)).toNat < n := i_step c4 hm
              have hi02 : 0 ≤ Int32.toInt (i1 + 1) := i_nn hi0 c4
              subst ey7 ey9 ey10
              exact ih _ _ _ _ hm2 hi02 (lv_sub hl [0, 1, 2, 3] rfl) (fun y4 ls q0 hl => K6 y4 ls (q0.trans (congrArg (fun z : Int32 => z) (Eq.symm ((if_neg c4).trans ((if_neg c5).trans rfl))))) hl)
            refine lv_if_eq (tgt := 89) hx hb dX7_bestToolToJudge_62 (by decide) (fun c11 => ?_) (fun c11 => ?_)
            · exact K11 _ _ _ (pr1 ((if_pos c11).trans rfl)) (pr2 ((if_pos c11).trans rfl)) (lv_sub hl [2, 3, 4, 5] rfl)
            · refine lv_aload_n hx hb dX7_bestToolToJudge_65 rfl (lv_at hl 5 rfl) ?_
              refine g_State_21 X hH hk_r dX7_bestToolToJudge_66 ?_
              refine lv_aload_n hx hb dX7_bestToolToJudge_69 rfl (lv_at hl 5 rfl) ?_
              refine g_State_12 X hH hk_r dX7_bestToolToJudge_70 ?_
              refine lv_aload hx hb dX7_bestToolToJudge_73 (lv_at hl 1 rfl) ?_
              refine k_X0_reasonNotToJudge X hS hH (kc_7_0 hk_r) (kc_7_2 hk_r) (ki_20 (kc_2_20 (kc_7_2 hk_r)) (vp_lt hi6)) t_ml_State_45 hl.1 (Nat.le_of_ble_eq_true rfl) ⟨Nat.le_of_ble_eq_true rfl, Nat.le_of_ble_eq_true rfl⟩ ⟨Nat.zero_le _, Nat.zero_le _⟩ dX7_bestToolToJudge_75 ?_
              refine lv_if_ne (tgt := 89) hx hb dX7_bestToolToJudge_78 (by decide) (fun c12 => ?_) (fun c12 => ?_)
              · exact K11 _ _ _ (pr1 ((if_neg c11).trans ((if_neg c12).trans rfl))) (pr2 ((if_neg c11).trans ((if_neg c12).trans rfl))) (lv_sub hl [2, 3, 4, 5] rfl)
              · refine lv_iload_n hx hb dX7_bestToolToJudge_81 rfl (lv_at hl 2 rfl) ?_
                refine lv_istore_n (lv' := [(1, .int i1), (5, .int y7), (4, .ref (ga G (((r + 1) + 2) + 13 + (i1 : Int32).toNatClampNeg))), (3, .int i1), (2, .int i2), (0, .ref (ga G r))]) hx hb dX7_bestToolToJudge_82 rfl hl (by decide) rfl (fun ls hl => ?_)
                refine lv_aload hx hb dX7_bestToolToJudge_83 (lv_at hl 2 rfl) ?_
                refine g_State_40 X hH (ki_20 (kc_2_20 (kc_7_2 hk_r)) (vp_lt hi6)) dX7_bestToolToJudge_85 ?_
                refine lv_istore_n (lv' := [(2, .int (v (((r + 1) + 2) + 13 + (i1 : Int32).toNatClampNeg) 1)), (1, .int i1), (5, .int y7), (4, .ref (ga G (((r + 1) + 2) + 13 + (i1 : Int32).toNatClampNeg))), (3, .int i1), (0, .ref (ga G r))]) hx hb dX7_bestToolToJudge_88 rfl hl (by decide) rfl (fun ls hl => ?_)
                exact K11 _ _ _ (pr1 ((if_neg c11).trans ((if_pos c12).trans rfl))) (pr2 ((if_neg c11).trans ((if_pos c12).trans rfl))) (lv_sub hl [4, 0, 1, 5] rfl)
          refine lv_if_lt (tgt := 53) hx hb dX7_bestToolToJudge_41 (by decide) (fun c8 => ?_) (fun c8 => ?_)
          · refine lv_iconst (v := 1) hx hb dX7_bestToolToJudge_53 (by decide) ?_
            refine lv_goto (tgt := 58) hx hb dX7_bestToolToJudge_54 (by decide) ?_
            exact K8 _ _ (Eq.symm ((if_pos c8).trans rfl)) (lv_sub hl [0, 1, 2, 3, 4] rfl)
          · refine lv_aload hx hb dX7_bestToolToJudge_44 (lv_at hl 0 rfl) ?_
            refine g_State_40 X hH (ki_20 (kc_2_20 (kc_7_2 hk_r)) (vp_lt hi6)) dX7_bestToolToJudge_46 ?_
            refine lv_iload_n hx hb dX7_bestToolToJudge_49 rfl (lv_at hl 2 rfl) ?_
            refine lv_icmp_ge (tgt := 57) hx hb dX7_bestToolToJudge_50 (by decide) (fun c9 => ?_) (fun c9 => ?_)
            · refine lv_iconst (v := 0) hx hb dX7_bestToolToJudge_57 (by decide) ?_
              exact K8 _ _ (Eq.symm ((if_neg c8).trans ((if_pos c9).trans rfl))) (lv_sub hl [0, 1, 2, 3, 4] rfl)
            · refine lv_iconst (v := 1) hx hb dX7_bestToolToJudge_53 (by decide) ?_
              refine lv_goto (tgt := 58) hx hb dX7_bestToolToJudge_54 (by decide) ?_
              exact K8 _ _ (Eq.symm ((if_neg c8).trans ((if_neg c9).trans rfl))) (lv_sub hl [0, 1, 2, 3, 4] rfl)
  refine L5 ((Int32.toInt ((v (r + 1) 2)) - Int32.toInt 0).toNat + 1) 0 0 (-1) _ (Nat.lt_succ_self _) (by decide) (lv_sub hl [0, 1, 2, 3] rfl) (fun y4 ls ey4 hl => ?_)
  refine lv_iload_n hx hb dX7_bestToolToJudge_95 rfl (lv_at hl 0 rfl) ?_
  subst ey4
  exact E _ _ _ dX7_bestToolToJudge_96 rfl (Eq.symm rfl)
theorem k_X7_bestToolToJudge {p : Program} {l : Launch} {e : Env} {R : Room} {s : State} {m : MethodId} {args : Array Value} {below : List Frame} {meth : Method} {c : Code} {H : Heap} {locs : List Loc} {cells slots : Nat} {Q : State → Prop} {cc : ByteArray} {pc nL : Nat} {ls : Array Slot} {rest : List Value} {G : gG} {own : String} {da : Nat → Nat} {v : vSt} {x : gX} (X : CX G p s m args c cc nL own) (hS : va_S (gA G) s.heap H locs) (hH : Hp G da v x H) {r : Nat} (hk_r : kd r = 7) (hD : 0 ≤ (v (r + 1) 2).toInt ∧ (v (r + 1) 2).toInt ≤ 6 ∧ 0 ≤ (v (r + 1) 3).toInt ∧ (v (r + 1) 3).toInt ≤ 10) {idx : Nat} (hml : Cond.methodLink own idx yX7_bestToolToJudge ∈ TT) (hls : ls.size = nL) (hsum : (rest.map fun v => v.category).sum ≤ 8) (hR : rmX7_bestToolToJudge.frames + 1 ≤ R.frames ∧ 8 + (6 + 11) + rmX7_bestToolToJudge.locals ≤ R.locals) (hcs : cells ≤ R.cells ∧ slots ≤ R.slots) (hdg : decode cc pc = .ok (.invokevirtual idx, 3)) (kk : W p l e R s m args below meth c H locs cells slots Q (F0 m (pc + 3) ls (.int (fX7_bestToolToJudge r v) :: rest))) : W p l e R s m args below meth c H locs cells slots Q (F0 m pc ls (.ref (ga G r) :: rest)) := c_qi (runV (k := 0) X.1 X.2.1 X.2.2.1 X.2.2.2.1 X.2.2.2.2.1 (mX7_bestToolToJudge l G da v x r hk_r hD) pW_bl hml t_im_X7_bestToolToJudge t_sel_X7_bestToolToJudge t_ini_State t_code_X7_bestToolToJudge ⟨rfl, by decide, by decide, by decide +kernel⟩ rfl rfl hR hcs (recvW X hH (by rw [hk_r]; decide) (by rw [hk_r]; decide) (ce_7 hk_r) rfl) (preW X hS hH) rfl hls rfl hsum hdg) (fun _ h => h ▸ kk)
def fX7_refusalOf (r : Nat) (o1 : Nat) (v : vSt) : Int32 := if ((v o1 0) : Int32) = 0 then (fX2_refusalToMeasure (r + 1) (v o1 1) 0 (v o1 2) v) else (if ((v o1 0) : Int32) = 1 then (fX2_refusalToCalibrate (r + 1) (v o1 1) (v o1 2) v) else (if ((v o1 0) : Int32) = 2 then (fX0_refusalToBring (r + 2) (v o1 1) (v o1 2) v) else (if ((v o1 0) : Int32) = 3 then (fX0_refusalToJudge (r + 2) (r + 1) (v o1 1) v) else (if ((v o1 0) : Int32) = 4 then (fX0_refusalToFile (r + 2) (v o1 1) v) else (if ((v o1 0) : Int32) = 5 then (fX0_refusalToPass (r + 2) v) else (fX2_refusalToEndDay (r + 1) v))))))
abbrev rmX7_refusalOf : Room := { frames := 5, cells := 0, slots := 0, locals := 115 }
theorem dX7_refusalOf_0 : decode cX7_refusalOf 0 = .ok (.aload_n 1, 1) := by decide +kernel
theorem dX7_refusalOf_1 : decode cX7_refusalOf 1 = .ok (.getfield 49, 3) := by decide +kernel
theorem dX7_refusalOf_4 : decode cX7_refusalOf 4 = .ok (.tableswitch 125 0 5 #[40, 57, 73, 89, 105, 117], 40) := by decide +kernel
theorem dX7_refusalOf_44 : decode cX7_refusalOf 44 = .ok (.aload_n 0, 1) := by decide +kernel
theorem dX7_refusalOf_45 : decode cX7_refusalOf 45 = .ok (.getfield 12, 3) := by decide +kernel
theorem dX7_refusalOf_48 : decode cX7_refusalOf 48 = .ok (.aload_n 1, 1) := by decide +kernel
theorem dX7_refusalOf_49 : decode cX7_refusalOf 49 = .ok (.getfield 54, 3) := by decide +kernel
theorem dX7_refusalOf_52 : decode cX7_refusalOf 52 = .ok (.iconst 0, 1) := by decide +kernel
theorem dX7_refusalOf_53 : decode cX7_refusalOf 53 = .ok (.aload_n 1, 1) := by decide +kernel
theorem dX7_refusalOf_54 : decode cX7_refusalOf 54 = .ok (.getfield 57, 3) := by decide +kernel
theorem dX7_refusalOf_57 : decode cX7_refusalOf 57 = .ok (.invokevirtual 60, 3) := by decide +kernel
theorem dX7_refusalOf_60 : decode cX7_refusalOf 60 = .ok (.ireturn, 1) := by decide +kernel
theorem dX7_refusalOf_61 : decode cX7_refusalOf 61 = .ok (.aload_n 0, 1) := by decide +kernel
theorem dX7_refusalOf_62 : decode cX7_refusalOf 62 = .ok (.getfield 12, 3) := by decide +kernel
theorem dX7_refusalOf_65 : decode cX7_refusalOf 65 = .ok (.aload_n 1, 1) := by decide +kernel
theorem dX7_refusalOf_66 : decode cX7_refusalOf 66 = .ok (.getfield 54, 3) := by decide +kernel
theorem dX7_refusalOf_69 : decode cX7_refusalOf 69 = .ok (.aload_n 1, 1) := by decide +kernel
theorem dX7_refusalOf_70 : decode cX7_refusalOf 70 = .ok (.getfield 57, 3) := by decide +kernel
theorem dX7_refusalOf_73 : decode cX7_refusalOf 73 = .ok (.invokevirtual 64, 3) := by decide +kernel
theorem dX7_refusalOf_76 : decode cX7_refusalOf 76 = .ok (.ireturn, 1) := by decide +kernel
theorem dX7_refusalOf_77 : decode cX7_refusalOf 77 = .ok (.aload_n 0, 1) := by decide +kernel
theorem dX7_refusalOf_78 : decode cX7_refusalOf 78 = .ok (.getfield 21, 3) := by decide +kernel
theorem dX7_refusalOf_81 : decode cX7_refusalOf 81 = .ok (.aload_n 1, 1) := by decide +kernel
theorem dX7_refusalOf_82 : decode cX7_refusalOf 82 = .ok (.getfield 54, 3) := by decide +kernel
theorem dX7_refusalOf_85 : decode cX7_refusalOf 85 = .ok (.aload_n 1, 1) := by decide +kernel
theorem dX7_refusalOf_86 : decode cX7_refusalOf 86 = .ok (.getfield 57, 3) := by decide +kernel
theorem dX7_refusalOf_89 : decode cX7_refusalOf 89 = .ok (.invokevirtual 68, 3) := by decide +kernel
theorem dX7_refusalOf_92 : decode cX7_refusalOf 92 = .ok (.ireturn, 1) := by decide +kernel
theorem dX7_refusalOf_93 : decode cX7_refusalOf 93 = .ok (.aload_n 0, 1) := by decide +kernel
theorem dX7_refusalOf_94 : decode cX7_refusalOf 94 = .ok (.getfield 21, 3) := by decide +kernel
theorem dX7_refusalOf_97 : decode cX7_refusalOf 97 = .ok (.aload_n 0, 1) := by decide +kernel
theorem dX7_refusalOf_98 : decode cX7_refusalOf 98 = .ok (.getfield 12, 3) := by decide +kernel
theorem dX7_refusalOf_101 : decode cX7_refusalOf 101 = .ok (.aload_n 1, 1) := by decide +kernel
theorem dX7_refusalOf_102 : decode cX7_refusalOf 102 = .ok (.getfield 54, 3) := by decide +kernel
theorem dX7_refusalOf_105 : decode cX7_refusalOf 105 = .ok (.invokevirtual 71, 3) := by decide +kernel
theorem dX7_refusalOf_108 : decode cX7_refusalOf 108 = .ok (.ireturn, 1) := by decide +kernel
theorem dX7_refusalOf_109 : decode cX7_refusalOf 109 = .ok (.aload_n 0, 1) := by decide +kernel
theorem dX7_refusalOf_110 : decode cX7_refusalOf 110 = .ok (.getfield 21, 3) := by decide +kernel
theorem dX7_refusalOf_113 : decode cX7_refusalOf 113 = .ok (.aload_n 1, 1) := by decide +kernel
theorem dX7_refusalOf_114 : decode cX7_refusalOf 114 = .ok (.getfield 54, 3) := by decide +kernel
theorem dX7_refusalOf_117 : decode cX7_refusalOf 117 = .ok (.invokevirtual 75, 3) := by decide +kernel
theorem dX7_refusalOf_120 : decode cX7_refusalOf 120 = .ok (.ireturn, 1) := by decide +kernel
theorem dX7_refusalOf_121 : decode cX7_refusalOf 121 = .ok (.aload_n 0, 1) := by decide +kernel
theorem dX7_refusalOf_122 : decode cX7_refusalOf 122 = .ok (.getfield 21, 3) := by decide +kernel
theorem dX7_refusalOf_125 : decode cX7_refusalOf 125 = .ok (.invokevirtual 79, 3) := by decide +kernel
theorem dX7_refusalOf_128 : decode cX7_refusalOf 128 = .ok (.ireturn, 1) := by decide +kernel
theorem dX7_refusalOf_129 : decode cX7_refusalOf 129 = .ok (.aload_n 0, 1) := by decide +kernel
theorem dX7_refusalOf_130 : decode cX7_refusalOf 130 = .ok (.getfield 12, 3) := by decide +kernel
theorem dX7_refusalOf_133 : decode cX7_refusalOf 133 = .ok (.invokevirtual 83, 3) := by decide +kernel
theorem dX7_refusalOf_136 : decode cX7_refusalOf 136 = .ok (.ireturn, 1) := by decide +kernel
set_option maxHeartbeats 4000000 in
set_option maxRecDepth 100000 in
theorem mX7_refusalOf (l : Launch) (G : gG) (da : Nat → Nat) (v : vSt) (x : gX) (r : Nat) (hk_r : kd r = 7) (o1 : Nat) (hk_o1 : kd o1 = 3) (hD : 0 ≤ (v (r + 1) 2).toInt ∧ (v (r + 1) 2).toInt ≤ 6 ∧ 0 ≤ (v (r + 1) 3).toInt ∧ (v (r + 1) 3).toInt ≤ 10) : QI l yX7_refusalOf cX7_refusalOf 2 (some .int) rmX7_refusalOf [.ref (ga G r), .ref (ga G o1)] (pW G da v x) (fX7_refusalOf r o1 v) := by
  refine gofQ (own := RX7) (by decide) rfl (Nat.le_of_ble_eq_true rfl) (fun p e s m args below meth c ls Q X hH hl E => ?_)
  have hx := X.1
  have hb := X.2.1
  have hown := X.2.2.2.1
  have hts := X.2.2.2.2.1
  have hS : va_S (gA G) s.heap s.heap [] := va_S.rf
  have hl : lv_has ls 2 [(0, .ref (ga G r)), (1, .ref (ga G o1))] := hl
  refine lv_aload_n hx hb dX7_refusalOf_0 rfl (lv_at hl 1 rfl) ?_
  refine g_State_49 X hH hk_o1 dX7_refusalOf_1 ?_
  refine (Decidable.em (((v o1 0) : Int32) = 0)).elim (fun c1 => ?_) (fun c1 => ?_)
  · refine lv_tableIn (tgt := 44) hx hb dX7_refusalOf_4 (by rw [c1]; decide) (by rw [c1]; decide) (by rw [c1]; rfl) (by decide) ?_
    refine lv_aload_n hx hb dX7_refusalOf_44 rfl (lv_at hl 0 rfl) ?_
    refine g_State_12 X hH hk_r dX7_refusalOf_45 ?_
    refine lv_aload_n hx hb dX7_refusalOf_48 rfl (lv_at hl 1 rfl) ?_
    refine g_State_54 X hH hk_o1 dX7_refusalOf_49 ?_
    refine lv_iconst (v := 0) hx hb dX7_refusalOf_52 (by decide) ?_
    refine lv_aload_n hx hb dX7_refusalOf_53 rfl (lv_at hl 1 rfl) ?_
    refine g_State_57 X hH hk_o1 dX7_refusalOf_54 ?_
    refine k_X2_refusalToMeasure X hS hH (kc_7_2 hk_r) t_ml_State_60 hl.1 (Nat.le_of_ble_eq_true rfl) ⟨Nat.le_of_ble_eq_true rfl, Nat.le_of_ble_eq_true rfl⟩ ⟨Nat.zero_le _, Nat.zero_le _⟩ dX7_refusalOf_57 ?_
    exact E _ _ _ dX7_refusalOf_60 rfl (Eq.symm ((if_pos c1).trans rfl))
  · refine (Decidable.em (((v o1 0) : Int32) = 1)).elim (fun c2 => ?_) (fun c2 => ?_)
    · refine lv_tableIn (tgt := 61) hx hb dX7_refusalOf_4 (by rw [c2]; decide) (by rw [c2]; decide) (by rw [c2]; rfl) (by decide) ?_
      refine lv_aload_n hx hb dX7_refusalOf_61 rfl (lv_at hl 0 rfl) ?_
      refine g_State_12 X hH hk_r dX7_refusalOf_62 ?_
      refine lv_aload_n hx hb dX7_refusalOf_65 rfl (lv_at hl 1 rfl) ?_
      refine g_State_54 X hH hk_o1 dX7_refusalOf_66 ?_
      refine lv_aload_n hx hb dX7_refusalOf_69 rfl (lv_at hl 1 rfl) ?_
      refine g_State_57 X hH hk_o1 dX7_refusalOf_70 ?_
      refine k_X2_refusalToCalibrate X hS hH (kc_7_2 hk_r) hD t_ml_State_64 hl.1 (Nat.le_of_ble_eq_true rfl) ⟨Nat.le_of_ble_eq_true rfl, Nat.le_of_ble_eq_true rfl⟩ ⟨Nat.zero_le _, Nat.zero_le _⟩ dX7_refusalOf_73 ?_
      exact E _ _ _ dX7_refusalOf_76 rfl (Eq.symm ((if_neg c1).trans ((if_pos c2).trans rfl)))
    · refine (Decidable.em (((v o1 0) : Int32) = 2)).elim (fun c3 => ?_) (fun c3 => ?_)
      · refine lv_tableIn (tgt := 77) hx hb dX7_refusalOf_4 (by rw [c3]; decide) (by rw [c3]; decide) (by rw [c3]; rfl) (by decide) ?_
        refine lv_aload_n hx hb dX7_refusalOf_77 rfl (lv_at hl 0 rfl) ?_
        refine g_State_21 X hH hk_r dX7_refusalOf_78 ?_
        refine lv_aload_n hx hb dX7_refusalOf_81 rfl (lv_at hl 1 rfl) ?_
        refine g_State_54 X hH hk_o1 dX7_refusalOf_82 ?_
        refine lv_aload_n hx hb dX7_refusalOf_85 rfl (lv_at hl 1 rfl) ?_
        refine g_State_57 X hH hk_o1 dX7_refusalOf_86 ?_
        refine k_X0_refusalToBring X hS hH (kc_7_0 hk_r) t_ml_State_68 hl.1 (Nat.le_of_ble_eq_true rfl) ⟨Nat.le_of_ble_eq_true rfl, Nat.le_of_ble_eq_true rfl⟩ ⟨Nat.zero_le _, Nat.zero_le _⟩ dX7_refusalOf_89 ?_
        exact E _ _ _ dX7_refusalOf_92 rfl (Eq.symm ((if_neg c1).trans ((if_neg c2).trans ((if_pos c3).trans rfl))))
      · refine (Decidable.em (((v o1 0) : Int32) = 3)).elim (fun c4 => ?_) (fun c4 => ?_)
        · refine lv_tableIn (tgt := 93) hx hb dX7_refusalOf_4 (by rw [c4]; decide) (by rw [c4]; decide) (by rw [c4]; rfl) (by decide) ?_
          refine lv_aload_n hx hb dX7_refusalOf_93 rfl (lv_at hl 0 rfl) ?_
          refine g_State_21 X hH hk_r dX7_refusalOf_94 ?_
          refine lv_aload_n hx hb dX7_refusalOf_97 rfl (lv_at hl 0 rfl) ?_
          refine g_State_12 X hH hk_r dX7_refusalOf_98 ?_
          refine lv_aload_n hx hb dX7_refusalOf_101 rfl (lv_at hl 1 rfl) ?_
          refine g_State_54 X hH hk_o1 dX7_refusalOf_102 ?_
          refine k_X0_refusalToJudge X hS hH (kc_7_0 hk_r) (kc_7_2 hk_r) t_ml_State_71 hl.1 (Nat.le_of_ble_eq_true rfl) ⟨Nat.le_of_ble_eq_true rfl, Nat.le_of_ble_eq_true rfl⟩ ⟨Nat.zero_le _, Nat.zero_le _⟩ dX7_refusalOf_105 ?_
          exact E _ _ _ dX7_refusalOf_108 rfl (Eq.symm ((if_neg c1).trans ((if_neg c2).trans ((if_neg c3).trans ((if_pos c4).trans rfl)))))
        · refine (Decidable.em (((v o1 0) : Int32) = 4)).elim (fun c5 => ?_) (fun c5 => ?_)
          · refine lv_tableIn (tgt := 109) hx hb dX7_refusalOf_4 (by rw [c5]; decide) (by rw [c5]; decide) (by rw [c5]; rfl) (by decide) ?_
            refine lv_aload_n hx hb dX7_refusalOf_109 rfl (lv_at hl 0 rfl) ?_
            refine g_State_21 X hH hk_r dX7_refusalOf_110 ?_
            refine lv_aload_n hx hb dX7_refusalOf_113 rfl (lv_at hl 1 rfl) ?_
            refine g_State_54 X hH hk_o1 dX7_refusalOf_114 ?_
            refine k_X0_refusalToFile X hS hH (kc_7_0 hk_r) t_ml_State_75 hl.1 (Nat.le_of_ble_eq_true rfl) ⟨Nat.le_of_ble_eq_true rfl, Nat.le_of_ble_eq_true rfl⟩ ⟨Nat.zero_le _, Nat.zero_le _⟩ dX7_refusalOf_117 ?_
            exact E _ _ _ dX7_refusalOf_120 rfl (Eq.symm ((if_neg c1).trans ((if_neg c2).trans ((if_neg c3).trans ((if_neg c4).trans ((if_pos c5).trans rfl))))))
          · refine (Decidable.em (((v o1 0) : Int32) = 5)).elim (fun c6 => ?_) (fun c6 => ?_)
            · refine lv_tableIn (tgt := 121) hx hb dX7_refusalOf_4 (by rw [c6]; decide) (by rw [c6]; decide) (by rw [c6]; rfl) (by decide) ?_
              refine lv_aload_n hx hb dX7_refusalOf_121 rfl (lv_at hl 0 rfl) ?_
              refine g_State_21 X hH hk_r dX7_refusalOf_122 ?_
              refine k_X0_refusalToPass X hS hH (kc_7_0 hk_r) t_ml_State_79 hl.1 (Nat.le_of_ble_eq_true rfl) ⟨Nat.le_of_ble_eq_true rfl, Nat.le_of_ble_eq_true rfl⟩ ⟨Nat.zero_le _, Nat.zero_le _⟩ dX7_refusalOf_125 ?_
              exact E _ _ _ dX7_refusalOf_128 rfl (Eq.symm ((if_neg c1).trans ((if_neg c2).trans ((if_neg c3).trans ((if_neg c4).trans ((if_neg c5).trans ((if_pos c6).trans rfl)))))))
            · refine lv_tableOut (tgt := 129) hx hb dX7_refusalOf_4 (by have := i_rng (v o1 0); have := i_ne c1; have := i_ne c2; have := i_ne c3; have := i_ne c4; have := i_ne c5; have := i_ne c6; have : (0 : Int32).toInt = 0 := rfl; have : (1 : Int32).toInt = 1 := rfl; have : (2 : Int32).toInt = 2 := rfl; have : (3 : Int32).toInt = 3 := rfl; have : (4 : Int32).toInt = 4 := rfl; have : (5 : Int32).toInt = 5 := rfl; omega) (by decide) ?_
              refine lv_aload_n hx hb dX7_refusalOf_129 rfl (lv_at hl 0 rfl) ?_
              refine g_State_12 X hH hk_r dX7_refusalOf_130 ?_
              refine k_X2_refusalToEndDay X hS hH (kc_7_2 hk_r) t_ml_State_83 hl.1 (Nat.le_of_ble_eq_true rfl) ⟨Nat.le_of_ble_eq_true rfl, Nat.le_of_ble_eq_true rfl⟩ ⟨Nat.zero_le _, Nat.zero_le _⟩ dX7_refusalOf_133 ?_
              exact E _ _ _ dX7_refusalOf_136 rfl (Eq.symm ((if_neg c1).trans ((if_neg c2).trans ((if_neg c3).trans ((if_neg c4).trans ((if_neg c5).trans ((if_neg c6).trans rfl)))))))
theorem k_X7_refusalOf {p : Program} {l : Launch} {e : Env} {R : Room} {s : State} {m : MethodId} {args : Array Value} {below : List Frame} {meth : Method} {c : Code} {H : Heap} {locs : List Loc} {cells slots : Nat} {Q : State → Prop} {cc : ByteArray} {pc nL : Nat} {ls : Array Slot} {rest : List Value} {G : gG} {own : String} {da : Nat → Nat} {v : vSt} {x : gX} (X : CX G p s m args c cc nL own) (hS : va_S (gA G) s.heap H locs) (hH : Hp G da v x H) {r : Nat} (hk_r : kd r = 7) {o1 : Nat} (hk_o1 : kd o1 = 3) (hD : 0 ≤ (v (r + 1) 2).toInt ∧ (v (r + 1) 2).toInt ≤ 6 ∧ 0 ≤ (v (r + 1) 3).toInt ∧ (v (r + 1) 3).toInt ≤ 10) {idx : Nat} (hml : Cond.methodLink own idx yX7_refusalOf ∈ TT) (hls : ls.size = nL) (hsum : (rest.map fun v => v.category).sum ≤ 8) (hR : rmX7_refusalOf.frames + 1 ≤ R.frames ∧ 8 + (2 + 11) + rmX7_refusalOf.locals ≤ R.locals) (hcs : cells ≤ R.cells ∧ slots ≤ R.slots) (hdg : decode cc pc = .ok (.invokevirtual idx, 3)) (kk : W p l e R s m args below meth c H locs cells slots Q (F0 m (pc + 3) ls (.int (fX7_refusalOf r o1 v) :: rest))) : W p l e R s m args below meth c H locs cells slots Q (F0 m pc ls (.ref (ga G o1) :: .ref (ga G r) :: rest)) := c_qi (runV (k := 1) X.1 X.2.1 X.2.2.1 X.2.2.2.1 X.2.2.2.2.1 (mX7_refusalOf l G da v x r hk_r o1 hk_o1 hD) pW_bl hml t_im_X7_refusalOf t_sel_X7_refusalOf t_ini_State t_code_X7_refusalOf ⟨rfl, by decide, by decide, by decide +kernel⟩ rfl rfl hR hcs (recvW X hH (by rw [hk_r]; decide) (by rw [hk_r]; decide) (ce_7 hk_r) rfl) (preW X hS hH) rfl hls rfl hsum hdg) (fun _ h => h ▸ kk)
