/-! 17.model -/
def fX11_charted (r : Nat) (p1 : Int32) (v : vSt) : Int32 × vSt := let v2 : vSt := (fX11_toldOfType r p1 8 v).2; ((fX11_toldOfType r p1 8 v).1, v2)
def oX11_charted (r : Nat) (p1 : Int32) (v : vSt) : Prop := oX11_toldOfType r p1 8 v
abbrev rmX11_charted : Room := { frames := 3, cells := 0, slots := 0, locals := 65 }
theorem dX11_charted_0 : decode cX11_charted 0 = .ok (.aload_n 0, 1) := by decide +kernel
theorem dX11_charted_1 : decode cX11_charted 1 = .ok (.iload_n 1, 1) := by decide +kernel
theorem dX11_charted_2 : decode cX11_charted 2 = .ok (.bipush 8, 2) := by decide +kernel
theorem dX11_charted_4 : decode cX11_charted 4 = .ok (.invokevirtual 236, 3) := by decide +kernel
theorem dX11_charted_7 : decode cX11_charted 7 = .ok (.ireturn, 1) := by decide +kernel
set_option maxHeartbeats 8000000 in
set_option maxRecDepth 100000 in
theorem mX11_charted (l : Launch) (G : gG) (da : Nat → Nat) (v : vSt) (x : gX) (r : Nat) (hk_r : kd r = 11) (p1 : Int32) (ho : oX11_charted r p1 v) : MI l yX11_charted cX11_charted 2 (some .int) rmX11_charted [.ref (ga G r), .int p1] G da v x 0 0 (fX11_charted r p1 v).1 (fX11_charted r p1 v).2 x := by
  refine gofMI (own := RX11) (by decide) rfl (Nat.le_of_ble_eq_true rfl) (fun p e s m args below meth c ls Q X hH hl E => ?_)
  have hx := X.1
  have hb := X.2.1
  have hown := X.2.2.2.1
  have hts := X.2.2.2.2.1
  have hS : va_S (gA G) s.heap s.heap [] := va_S.rf
  unfold oX11_charted at ho
  have hl : lv_has ls 2 [(0, .ref (ga G r)), (1, .int p1)] := hl
  refine lv_aload_n hx hb dX11_charted_0 rfl (lv_at hl 0 rfl) ?_
  refine lv_iload_n hx hb dX11_charted_1 rfl (lv_at hl 1 rfl) ?_
  refine lv_bipush (v := 8) hx hb dX11_charted_2 (by decide) ?_
  have hq1 := ho
  refine k_X11_toldOfType X hS hH hk_r hq1 t_ml_VernierDrawersModel_236 hl.1 (Nat.le_of_ble_eq_true rfl) ⟨Nat.le_of_ble_eq_true rfl, Nat.le_of_ble_eq_true rfl⟩ ⟨Nat.zero_le _, Nat.zero_le _⟩ dX11_charted_4 (fun da H locs v2 ev2 hH hS => ?_)
  replace ev2 := Eq.symm ev2
  subst ev2
  exact E _ _ _ _ _ _ _ _ _ dX11_charted_7 rfl (pr1 rfl) (pr2 rfl) hH hS (Nat.zero_le _) (Nat.zero_le _)
theorem k_X11_charted {p : Program} {l : Launch} {e : Env} {R : Room} {s : State} {m : MethodId} {args : Array Value} {below : List Frame} {meth : Method} {c : Code} {H : Heap} {locs : List Loc} {cells slots : Nat} {Q : State → Prop} {cc : ByteArray} {pc nL : Nat} {ls : Array Slot} {rest : List Value} {G : gG} {own : String} {da : Nat → Nat} {v : vSt} {x : gX} (X : CX G p s m args c cc nL own) (hS : va_S (gA G) s.heap H locs) (hH : Hp G da v x H) {r : Nat} (hk_r : kd r = 11) {p1 : Int32} (ho : oX11_charted r p1 v) {idx : Nat} (hml : Cond.methodLink own idx yX11_charted ∈ TT) (hls : ls.size = nL) (hsum : (rest.map fun v => v.category).sum ≤ 8) (hR : rmX11_charted.frames + 1 ≤ R.frames ∧ 8 + (2 + 11) + rmX11_charted.locals ≤ R.locals) (hcs : cells ≤ R.cells ∧ slots ≤ R.slots) (hdg : decode cc pc = .ok (.invokevirtual idx, 3)) (kk : ∀ (d : Nat → Nat) (H1 : Heap) (locs1 : List Loc) (v1 : vSt), v1 = (fX11_charted r p1 v).2 → Hp G d v1 x H1 → va_S (gA G) s.heap H1 locs1 → W p l e R s m args below meth c H1 locs1 cells slots Q (F0 m (pc + 3) ls (.int (fX11_charted r p1 v).1 :: rest))) : W p l e R s m args below meth c H locs cells slots Q (F0 m pc ls (.int p1 :: .ref (ga G r) :: rest)) := c_mi X.2.2.2.2.2.2 (runV (k := 1) X.1 X.2.1 X.2.2.1 X.2.2.2.1 X.2.2.2.2.1 (mX11_charted l G da v x r hk_r p1 ho) pW_bl hml t_im_X11_charted t_sel_X11_charted t_ini_VernierDrawersModel t_code_X11_charted ⟨rfl, by decide, by decide, by decide +kernel⟩ rfl rfl hR hcs (recvW X hH (by rw [hk_r]; decide) (by rw [hk_r]; decide) (ce_11 hk_r) rfl) (preW X hS hH) rfl hls rfl hsum hdg) hS kk
def fX11_asksChart (r : Nat) (p1 : Int32) (p2 : Int32) (v : vSt) : Int32 × vSt := let y2 : Int32 := (if ((fX11_isType r p1 v) : Int32) = 0 then 0 else (if (p2 : Int32) < 0 then 0 else 1) : Int32); let v5 : vSt := (fX11_asks r y2 v).2; if (((fX11_asks r y2 v).1) : Int32) = 0 then ((0, v5)) else (let y8 : Int32 := (if ((fX11_of r p1 8 v5) : Int32) ≤ p2 then 2 else 0 : Int32); let v10 : vSt := u2 v5 r 8 y8; if ((v10 r 8) : Int32) = 0 then ((1, v10)) else ((0, v10)))
def oX11_asksChart (r : Nat) (p1 : Int32) (p2 : Int32) (v : vSt) : Prop := (oX11_isType r p1 v) ∧ ((∀ (y2 : Int32), y2 = ((if ((fX11_isType r p1 v) : Int32) = 0 then 0 else (if (p2 : Int32) < 0 then 0 else 1) : Int32) : Int32) → ((oX11_asks r y2 v) ∧ (∀ v5 : vSt, v5 = ((fX11_asks r y2 v).2) → (¬ ((((fX11_asks r y2 v).1) : Int32) = 0) → (oX11_of r p1 8 v5))))))
abbrev rmX11_asksChart : Room := { frames := 2, cells := 0, slots := 0, locals := 43 }
theorem dX11_asksChart_0 : decode cX11_asksChart 0 = .ok (.aload_n 0, 1) := by decide +kernel
theorem dX11_asksChart_1 : decode cX11_asksChart 1 = .ok (.aload_n 0, 1) := by decide +kernel
theorem dX11_asksChart_2 : decode cX11_asksChart 2 = .ok (.iload_n 1, 1) := by decide +kernel
theorem dX11_asksChart_3 : decode cX11_asksChart 3 = .ok (.invokevirtual 152, 3) := by decide +kernel
theorem dX11_asksChart_6 : decode cX11_asksChart 6 = .ok (.ifCond .eq 11, 3) := by decide +kernel
theorem dX11_asksChart_9 : decode cX11_asksChart 9 = .ok (.iload_n 2, 1) := by decide +kernel
theorem dX11_asksChart_10 : decode cX11_asksChart 10 = .ok (.ifCond .lt 7, 3) := by decide +kernel
theorem dX11_asksChart_13 : decode cX11_asksChart 13 = .ok (.iconst 1, 1) := by decide +kernel
theorem dX11_asksChart_14 : decode cX11_asksChart 14 = .ok (.goto 4, 3) := by decide +kernel
theorem dX11_asksChart_17 : decode cX11_asksChart 17 = .ok (.iconst 0, 1) := by decide +kernel
theorem dX11_asksChart_18 : decode cX11_asksChart 18 = .ok (.invokevirtual 214, 3) := by decide +kernel
theorem dX11_asksChart_21 : decode cX11_asksChart 21 = .ok (.ifCond .ne 5, 3) := by decide +kernel
theorem dX11_asksChart_24 : decode cX11_asksChart 24 = .ok (.iconst 0, 1) := by decide +kernel
theorem dX11_asksChart_25 : decode cX11_asksChart 25 = .ok (.ireturn, 1) := by decide +kernel
theorem dX11_asksChart_26 : decode cX11_asksChart 26 = .ok (.aload_n 0, 1) := by decide +kernel
theorem dX11_asksChart_27 : decode cX11_asksChart 27 = .ok (.iload_n 2, 1) := by decide +kernel
theorem dX11_asksChart_28 : decode cX11_asksChart 28 = .ok (.aload_n 0, 1) := by decide +kernel
theorem dX11_asksChart_29 : decode cX11_asksChart 29 = .ok (.iload_n 1, 1) := by decide +kernel
theorem dX11_asksChart_30 : decode cX11_asksChart 30 = .ok (.bipush 8, 2) := by decide +kernel
theorem dX11_asksChart_32 : decode cX11_asksChart 32 = .ok (.invokevirtual 90, 3) := by decide +kernel
theorem dX11_asksChart_35 : decode cX11_asksChart 35 = .ok (.if_icmp .ge 7, 3) := by decide +kernel
theorem dX11_asksChart_38 : decode cX11_asksChart 38 = .ok (.iconst 0, 1) := by decide +kernel
theorem dX11_asksChart_39 : decode cX11_asksChart 39 = .ok (.goto 4, 3) := by decide +kernel
theorem dX11_asksChart_42 : decode cX11_asksChart 42 = .ok (.iconst 2, 1) := by decide +kernel
theorem dX11_asksChart_43 : decode cX11_asksChart 43 = .ok (.putfield 29, 3) := by decide +kernel
theorem dX11_asksChart_46 : decode cX11_asksChart 46 = .ok (.aload_n 0, 1) := by decide +kernel
theorem dX11_asksChart_47 : decode cX11_asksChart 47 = .ok (.getfield 29, 3) := by decide +kernel
theorem dX11_asksChart_50 : decode cX11_asksChart 50 = .ok (.ifCond .ne 7, 3) := by decide +kernel
theorem dX11_asksChart_53 : decode cX11_asksChart 53 = .ok (.iconst 1, 1) := by decide +kernel
theorem dX11_asksChart_54 : decode cX11_asksChart 54 = .ok (.goto 4, 3) := by decide +kernel
theorem dX11_asksChart_57 : decode cX11_asksChart 57 = .ok (.iconst 0, 1) := by decide +kernel
theorem dX11_asksChart_58 : decode cX11_asksChart 58 = .ok (.ireturn, 1) := by decide +kernel
set_option maxHeartbeats 8000000 in
set_option maxRecDepth 100000 in
theorem mX11_asksChart (l : Launch) (G : gG) (da : Nat → Nat) (v : vSt) (x : gX) (r : Nat) (hk_r : kd r = 11) (p1 : Int32) (p2 : Int32) (ho : oX11_asksChart r p1 p2 v) : MI l yX11_asksChart cX11_asksChart 3 (some .boolean) rmX11_asksChart [.ref (ga G r), .int p1, .int p2] G da v x 0 0 (fX11_asksChart r p1 p2 v).1 (fX11_asksChart r p1 p2 v).2 x := by
  refine gofMI (own := RX11) (by decide) rfl (Nat.le_of_ble_eq_true rfl) (fun p e s m args below meth c ls Q X hH hl E => ?_)
  have hx := X.1
  have hb := X.2.1
  have hown := X.2.2.2.1
  have hts := X.2.2.2.2.1
  have hS : va_S (gA G) s.heap s.heap [] := va_S.rf
  unfold oX11_asksChart at ho
  have hl : lv_has ls 3 [(0, .ref (ga G r)), (1, .int p1), (2, .int p2)] := hl
  refine lv_aload_n hx hb dX11_asksChart_0 rfl (lv_at hl 0 rfl) ?_
  refine lv_aload_n hx hb dX11_asksChart_1 rfl (lv_at hl 0 rfl) ?_
  refine lv_iload_n hx hb dX11_asksChart_2 rfl (lv_at hl 1 rfl) ?_
  have hq1 := ho.1
  have ho := ho.2
  refine k_X11_isType X hS hH hk_r hq1 t_ml_VernierDrawersModel_152 hl.1 (Nat.le_of_ble_eq_true rfl) ⟨Nat.le_of_ble_eq_true rfl, Nat.le_of_ble_eq_true rfl⟩ ⟨Nat.zero_le _, Nat.zero_le _⟩ dX11_asksChart_3 ?_
  have K3 : ∀ (y2 : Int32) (ls : Array Slot), y2 = (if ((fX11_isType r p1 v) : Int32) = 0 then 0 else (if (p2 : Int32) < 0 then 0 else 1) : Int32) → lv_has ls 3 [(0, .ref (ga G r)), (1, .int p1), (2, .int p2)] → W p l e rmX11_asksChart s m args below meth c s.heap [] 0 0 Q (F0 m 18 ls [.int y2, .ref (ga G r)]) := by
    intro y2 ls ey2 hl
    have ho := ho y2 ey2
    have hq4 := ho.1
    have ho := ho.2
    refine k_X11_asks X hS hH hk_r hq4 t_ml_VernierDrawersModel_214 hl.1 (Nat.le_of_ble_eq_true rfl) ⟨Nat.le_of_ble_eq_true rfl, Nat.le_of_ble_eq_true rfl⟩ ⟨Nat.zero_le _, Nat.zero_le _⟩ dX11_asksChart_18 (fun da H locs v5 ev5 hH hS => ?_)
    have ho := ho v5 ev5
    refine lv_if_ne (tgt := 26) hx hb dX11_asksChart_21 (by decide) (fun c6 => ?_) (fun c6 => ?_)
    · have ho := ho c6
      refine lv_aload_n hx hb dX11_asksChart_26 rfl (lv_at hl 0 rfl) ?_
      refine lv_iload_n hx hb dX11_asksChart_27 rfl (lv_at hl 2 rfl) ?_
      refine lv_aload_n hx hb dX11_asksChart_28 rfl (lv_at hl 0 rfl) ?_
      refine lv_iload_n hx hb dX11_asksChart_29 rfl (lv_at hl 1 rfl) ?_
      refine lv_bipush (v := 8) hx hb dX11_asksChart_30 (by decide) ?_
      have hq7 := ho
      refine k_X11_of X hS hH hk_r hq7 t_ml_VernierDrawersModel_90 hl.1 (Nat.le_of_ble_eq_true rfl) ⟨Nat.le_of_ble_eq_true rfl, Nat.le_of_ble_eq_true rfl⟩ ⟨Nat.zero_le _, Nat.zero_le _⟩ dX11_asksChart_32 ?_
      have K9 : ∀ (y8 : Int32) (ls : Array Slot), y8 = (if ((fX11_of r p1 8 v5) : Int32) ≤ p2 then 2 else 0 : Int32) → lv_has ls 3 [(0, .ref (ga G r))] → W p l e rmX11_asksChart s m args below meth c H locs 0 0 Q (F0 m 43 ls [.int y8, .ref (ga G r)]) := by
        intro y8 ls ey8 hl
        refine p_VernierDrawersModel_29 X hH hS hk_r dX11_asksChart_43 (fun H locs v10 ev10 hH hS => ?_)
        refine lv_aload_n hx hb dX11_asksChart_46 rfl (lv_at hl 0 rfl) ?_
        refine g_VernierDrawersModel_29 X hH hk_r dX11_asksChart_47 ?_
        refine lv_if_ne (tgt := 57) hx hb dX11_asksChart_50 (by decide) (fun c11 => ?_) (fun c11 => ?_)
        · skip
          refine lv_iconst (v := 0) hx hb dX11_asksChart_57 (by decide) ?_
          replace ey2 := Eq.symm ey2
          replace ev5 := Eq.symm ev5
          replace ey8 := Eq.symm ey8
          replace ev10 := Eq.symm ev10
          subst ey2 ev5 ey8 ev10
          exact E _ _ _ _ _ _ _ _ _ dX11_asksChart_58 rfl (pr1 ((fX11_asksChart.eq_1 _ _ _ _).trans ((if_neg c6).trans ((if_neg c11).trans rfl)))) (pr2 ((fX11_asksChart.eq_1 _ _ _ _).trans ((if_neg c6).trans ((if_neg c11).trans rfl)))) hH hS (Nat.zero_le _) (Nat.zero_le _)
        · skip
          refine lv_iconst (v := 1) hx hb dX11_asksChart_53 (by decide) ?_
          refine lv_goto (tgt := 58) hx hb dX11_asksChart_54 (by decide) ?_
          replace ey2 := Eq.symm ey2
          replace ev5 := Eq.symm ev5
          replace ey8 := Eq.symm ey8
          replace ev10 := Eq.symm ev10
          subst ey2 ev5 ey8 ev10
          exact E _ _ _ _ _ _ _ _ _ dX11_asksChart_58 rfl (pr1 ((fX11_asksChart.eq_1 _ _ _ _).trans ((if_neg c6).trans ((if_pos c11).trans rfl)))) (pr2 ((fX11_asksChart.eq_1 _ _ _ _).trans ((if_neg c6).trans ((if_pos c11).trans rfl)))) hH hS (Nat.zero_le _) (Nat.zero_le _)
      refine lv_icmp_ge (tgt := 42) hx hb dX11_asksChart_35 (by decide) (fun c9 => ?_) (fun c9 => ?_)
      · skip
        refine lv_iconst (v := 2) hx hb dX11_asksChart_42 (by decide) ?_
        exact K9 _ _ (Eq.symm ((if_pos c9).trans rfl)) (lv_sub hl [0] rfl)
      · skip
        refine lv_iconst (v := 0) hx hb dX11_asksChart_38 (by decide) ?_
        refine lv_goto (tgt := 43) hx hb dX11_asksChart_39 (by decide) ?_
        exact K9 _ _ (Eq.symm ((if_neg c9).trans rfl)) (lv_sub hl [0] rfl)
    · skip
      refine lv_iconst (v := 0) hx hb dX11_asksChart_24 (by decide) ?_
      replace ey2 := Eq.symm ey2
      replace ev5 := Eq.symm ev5
      subst ey2 ev5
      exact E _ _ _ _ _ _ _ _ _ dX11_asksChart_25 rfl (pr1 ((fX11_asksChart.eq_1 _ _ _ _).trans ((if_pos c6).trans rfl))) (pr2 ((fX11_asksChart.eq_1 _ _ _ _).trans ((if_pos c6).trans rfl))) hH hS (Nat.zero_le _) (Nat.zero_le _)
  refine lv_if_eq (tgt := 17) hx hb dX11_asksChart_6 (by decide) (fun c3 => ?_) (fun c3 => ?_)
  · skip
    refine lv_iconst (v := 0) hx hb dX11_asksChart_17 (by decide) ?_
    exact K3 _ _ (Eq.symm ((if_pos c3).trans rfl)) (lv_sub hl [0, 1, 2] rfl)
  · skip
    refine lv_iload_n hx hb dX11_asksChart_9 rfl (lv_at hl 2 rfl) ?_
    refine lv_if_lt (tgt := 17) hx hb dX11_asksChart_10 (by decide) (fun c4 => ?_) (fun c4 => ?_)
    · skip
      refine lv_iconst (v := 0) hx hb dX11_asksChart_17 (by decide) ?_
      exact K3 _ _ (Eq.symm ((if_neg c3).trans ((if_pos c4).trans rfl))) (lv_sub hl [0, 1, 2] rfl)
    · skip
      refine lv_iconst (v := 1) hx hb dX11_asksChart_13 (by decide) ?_
      refine lv_goto (tgt := 18) hx hb dX11_asksChart_14 (by decide) ?_
      exact K3 _ _ (Eq.symm ((if_neg c3).trans ((if_neg c4).trans rfl))) (lv_sub hl [0, 1, 2] rfl)
theorem k_X11_asksChart {p : Program} {l : Launch} {e : Env} {R : Room} {s : State} {m : MethodId} {args : Array Value} {below : List Frame} {meth : Method} {c : Code} {H : Heap} {locs : List Loc} {cells slots : Nat} {Q : State → Prop} {cc : ByteArray} {pc nL : Nat} {ls : Array Slot} {rest : List Value} {G : gG} {own : String} {da : Nat → Nat} {v : vSt} {x : gX} (X : CX G p s m args c cc nL own) (hS : va_S (gA G) s.heap H locs) (hH : Hp G da v x H) {r : Nat} (hk_r : kd r = 11) {p1 : Int32} {p2 : Int32} (ho : oX11_asksChart r p1 p2 v) {idx : Nat} (hml : Cond.methodLink own idx yX11_asksChart ∈ TT) (hls : ls.size = nL) (hsum : (rest.map fun v => v.category).sum ≤ 8) (hR : rmX11_asksChart.frames + 1 ≤ R.frames ∧ 8 + (3 + 11) + rmX11_asksChart.locals ≤ R.locals) (hcs : cells ≤ R.cells ∧ slots ≤ R.slots) (hdg : decode cc pc = .ok (.invokevirtual idx, 3)) (kk : ∀ (d : Nat → Nat) (H1 : Heap) (locs1 : List Loc) (v1 : vSt), v1 = (fX11_asksChart r p1 p2 v).2 → Hp G d v1 x H1 → va_S (gA G) s.heap H1 locs1 → W p l e R s m args below meth c H1 locs1 cells slots Q (F0 m (pc + 3) ls (.int (fX11_asksChart r p1 p2 v).1 :: rest))) : W p l e R s m args below meth c H locs cells slots Q (F0 m pc ls (.int p2 :: .int p1 :: .ref (ga G r) :: rest)) := c_mi X.2.2.2.2.2.2 (runV (k := 2) X.1 X.2.1 X.2.2.1 X.2.2.2.1 X.2.2.2.2.1 (mX11_asksChart l G da v x r hk_r p1 p2 ho) pW_bl hml t_im_X11_asksChart t_sel_X11_asksChart t_ini_VernierDrawersModel t_code_X11_asksChart ⟨rfl, by decide, by decide, by decide +kernel⟩ rfl rfl hR hcs (recvW X hH (by rw [hk_r]; decide) (by rw [hk_r]; decide) (ce_11 hk_r) rfl) (preW X hS hH) rfl hls rfl hsum hdg) hS kk
def fX11_chartedAt (r : Nat) (p1 : Int32) (p2 : Int32) (v : vSt) : Int32 × vSt := let v2 : vSt := (fX11_asksChart r p1 p2 v).2; if (((fX11_asksChart r p1 p2 v).1) : Int32) = 0 then ((0, v2)) else ((fX11_onChart r p1 p2 v2, v2))
def oX11_chartedAt (r : Nat) (p1 : Int32) (p2 : Int32) (v : vSt) : Prop := (oX11_asksChart r p1 p2 v) ∧ (∀ v2 : vSt, v2 = ((fX11_asksChart r p1 p2 v).2) → (¬ ((((fX11_asksChart r p1 p2 v).1) : Int32) = 0) → (oX11_onChart r p1 p2 v2)))
abbrev rmX11_chartedAt : Room := { frames := 3, cells := 0, slots := 0, locals := 65 }
theorem dX11_chartedAt_0 : decode cX11_chartedAt 0 = .ok (.aload_n 0, 1) := by decide +kernel
theorem dX11_chartedAt_1 : decode cX11_chartedAt 1 = .ok (.iload_n 1, 1) := by decide +kernel
theorem dX11_chartedAt_2 : decode cX11_chartedAt 2 = .ok (.iload_n 2, 1) := by decide +kernel
theorem dX11_chartedAt_3 : decode cX11_chartedAt 3 = .ok (.invokevirtual 242, 3) := by decide +kernel
theorem dX11_chartedAt_6 : decode cX11_chartedAt 6 = .ok (.ifCond .eq 12, 3) := by decide +kernel
theorem dX11_chartedAt_9 : decode cX11_chartedAt 9 = .ok (.aload_n 0, 1) := by decide +kernel
theorem dX11_chartedAt_10 : decode cX11_chartedAt 10 = .ok (.iload_n 1, 1) := by decide +kernel
theorem dX11_chartedAt_11 : decode cX11_chartedAt 11 = .ok (.iload_n 2, 1) := by decide +kernel
theorem dX11_chartedAt_12 : decode cX11_chartedAt 12 = .ok (.invokevirtual 123, 3) := by decide +kernel
theorem dX11_chartedAt_15 : decode cX11_chartedAt 15 = .ok (.goto 4, 3) := by decide +kernel
theorem dX11_chartedAt_18 : decode cX11_chartedAt 18 = .ok (.iconst 0, 1) := by decide +kernel
theorem dX11_chartedAt_19 : decode cX11_chartedAt 19 = .ok (.ireturn, 1) := by decide +kernel
set_option maxHeartbeats 8000000 in
set_option maxRecDepth 100000 in
theorem mX11_chartedAt (l : Launch) (G : gG) (da : Nat → Nat) (v : vSt) (x : gX) (r : Nat) (hk_r : kd r = 11) (p1 : Int32) (p2 : Int32) (ho : oX11_chartedAt r p1 p2 v) : MI l yX11_chartedAt cX11_chartedAt 3 (some .int) rmX11_chartedAt [.ref (ga G r), .int p1, .int p2] G da v x 0 0 (fX11_chartedAt r p1 p2 v).1 (fX11_chartedAt r p1 p2 v).2 x := by
  refine gofMI (own := RX11) (by decide) rfl (Nat.le_of_ble_eq_true rfl) (fun p e s m args below meth c ls Q X hH hl E => ?_)
  have hx := X.1
  have hb := X.2.1
  have hown := X.2.2.2.1
  have hts := X.2.2.2.2.1
  have hS : va_S (gA G) s.heap s.heap [] := va_S.rf
  unfold oX11_chartedAt at ho
  have hl : lv_has ls 3 [(0, .ref (ga G r)), (1, .int p1), (2, .int p2)] := hl
  refine lv_aload_n hx hb dX11_chartedAt_0 rfl (lv_at hl 0 rfl) ?_
  refine lv_iload_n hx hb dX11_chartedAt_1 rfl (lv_at hl 1 rfl) ?_
  refine lv_iload_n hx hb dX11_chartedAt_2 rfl (lv_at hl 2 rfl) ?_
  have hq1 := ho.1
  have ho := ho.2
  refine k_X11_asksChart X hS hH hk_r hq1 t_ml_VernierDrawersModel_242 hl.1 (Nat.le_of_ble_eq_true rfl) ⟨Nat.le_of_ble_eq_true rfl, Nat.le_of_ble_eq_true rfl⟩ ⟨Nat.zero_le _, Nat.zero_le _⟩ dX11_chartedAt_3 (fun da H locs v2 ev2 hH hS => ?_)
  have ho := ho v2 ev2
  refine lv_if_eq (tgt := 18) hx hb dX11_chartedAt_6 (by decide) (fun c3 => ?_) (fun c3 => ?_)
  · skip
    refine lv_iconst (v := 0) hx hb dX11_chartedAt_18 (by decide) ?_
    replace ev2 := Eq.symm ev2
    subst ev2
    exact E _ _ _ _ _ _ _ _ _ dX11_chartedAt_19 rfl (pr1 ((fX11_chartedAt.eq_1 _ _ _ _).trans ((if_pos c3).trans rfl))) (pr2 ((fX11_chartedAt.eq_1 _ _ _ _).trans ((if_pos c3).trans rfl))) hH hS (Nat.zero_le _) (Nat.zero_le _)
  · have ho := ho c3
    refine lv_aload_n hx hb dX11_chartedAt_9 rfl (lv_at hl 0 rfl) ?_
    refine lv_iload_n hx hb dX11_chartedAt_10 rfl (lv_at hl 1 rfl) ?_
    refine lv_iload_n hx hb dX11_chartedAt_11 rfl (lv_at hl 2 rfl) ?_
    have hq4 := ho
    refine k_X11_onChart X hS hH hk_r hq4 t_ml_VernierDrawersModel_123 hl.1 (Nat.le_of_ble_eq_true rfl) ⟨Nat.le_of_ble_eq_true rfl, Nat.le_of_ble_eq_true rfl⟩ ⟨Nat.zero_le _, Nat.zero_le _⟩ dX11_chartedAt_12 ?_
    refine lv_goto (tgt := 19) hx hb dX11_chartedAt_15 (by decide) ?_
    replace ev2 := Eq.symm ev2
    subst ev2
    exact E _ _ _ _ _ _ _ _ _ dX11_chartedAt_19 rfl (pr1 ((fX11_chartedAt.eq_1 _ _ _ _).trans ((if_neg c3).trans rfl))) (pr2 ((fX11_chartedAt.eq_1 _ _ _ _).trans ((if_neg c3).trans rfl))) hH hS (Nat.zero_le _) (Nat.zero_le _)
theorem k_X11_chartedAt {p : Program} {l : Launch} {e : Env} {R : Room} {s : State} {m : MethodId} {args : Array Value} {below : List Frame} {meth : Method} {c : Code} {H : Heap} {locs : List Loc} {cells slots : Nat} {Q : State → Prop} {cc : ByteArray} {pc nL : Nat} {ls : Array Slot} {rest : List Value} {G : gG} {own : String} {da : Nat → Nat} {v : vSt} {x : gX} (X : CX G p s m args c cc nL own) (hS : va_S (gA G) s.heap H locs) (hH : Hp G da v x H) {r : Nat} (hk_r : kd r = 11) {p1 : Int32} {p2 : Int32} (ho : oX11_chartedAt r p1 p2 v) {idx : Nat} (hml : Cond.methodLink own idx yX11_chartedAt ∈ TT) (hls : ls.size = nL) (hsum : (rest.map fun v => v.category).sum ≤ 8) (hR : rmX11_chartedAt.frames + 1 ≤ R.frames ∧ 8 + (3 + 11) + rmX11_chartedAt.locals ≤ R.locals) (hcs : cells ≤ R.cells ∧ slots ≤ R.slots) (hdg : decode cc pc = .ok (.invokevirtual idx, 3)) (kk : ∀ (d : Nat → Nat) (H1 : Heap) (locs1 : List Loc) (v1 : vSt), v1 = (fX11_chartedAt r p1 p2 v).2 → Hp G d v1 x H1 → va_S (gA G) s.heap H1 locs1 → W p l e R s m args below meth c H1 locs1 cells slots Q (F0 m (pc + 3) ls (.int (fX11_chartedAt r p1 p2 v).1 :: rest))) : W p l e R s m args below meth c H locs cells slots Q (F0 m pc ls (.int p2 :: .int p1 :: .ref (ga G r) :: rest)) := c_mi X.2.2.2.2.2.2 (runV (k := 2) X.1 X.2.1 X.2.2.1 X.2.2.2.1 X.2.2.2.2.1 (mX11_chartedAt l G da v x r hk_r p1 p2 ho) pW_bl hml t_im_X11_chartedAt t_sel_X11_chartedAt t_ini_VernierDrawersModel t_code_X11_chartedAt ⟨rfl, by decide, by decide, by decide +kernel⟩ rfl rfl hR hcs (recvW X hH (by rw [hk_r]; decide) (by rw [hk_r]; decide) (ce_11 hk_r) rfl) (preW X hS hH) rfl hls rfl hsum hdg) hS kk
def lX11_farOut_20 (v : vSt) (r : Nat) (p1 : Int32) (p2 : Int32) : Nat → Int32 → Int32 → Int32
  | 0, i2, i3 => i3
  | n + 1, i2, i3 => if ((fX11_of r p1 8 v) : Int32) ≤ i2 then i3 else (let y6 : Int32 := (if (p2 : Int32) = 0 then (if ((2 * (fX11_of r p1 1 v)) : Int32) ≤ (3 * (fX11_onChart r p1 i2 v)) then 0 else 1) else (if ((3 * (fX11_onChart r p1 i2 v)) : Int32) ≤ (2 * (fX11_of r p1 2 v)) then 0 else 1) : Int32); let y8 : Int32 := (if (y6 : Int32) = 0 then 0 else 1 : Int32); lX11_farOut_20 v r p1 p2 n (i2 + 1) (i3 + y8))
def olX11_farOut_20 (v : vSt) (r : Nat) (p1 : Int32) (p2 : Int32) : Nat → Int32 → Int32 → Prop
  | 0, _, _ => False
  | n + 1, i2, i3 => ¬ (((fX11_of r p1 8 v) : Int32) ≤ i2) → ((oX11_onChart r p1 i2 v) ∧ (((((p2 : Int32) = 0) → (oX11_of r p1 1 v)) ∧ (¬ ((p2 : Int32) = 0) → (oX11_of r p1 2 v))) ∧ (∀ (y6 : Int32), y6 = ((if (p2 : Int32) = 0 then (if ((2 * (fX11_of r p1 1 v)) : Int32) ≤ (3 * (fX11_onChart r p1 i2 v)) then 0 else 1) else (if ((3 * (fX11_onChart r p1 i2 v)) : Int32) ≤ (2 * (fX11_of r p1 2 v)) then 0 else 1) : Int32) : Int32) → ((∀ (y8 : Int32), y8 = ((if (y6 : Int32) = 0 then 0 else 1 : Int32) : Int32) → (olX11_farOut_20 v r p1 p2 n (i2 + 1) (i3 + y8)))))))
def fX11_farOut (r : Nat) (p1 : Int32) (p2 : Int32) (v : vSt) : Int32 := let y4 : Int32 := (lX11_farOut_20 v r p1 p2 ((Int32.toInt ((fX11_of r p1 8 v)) - Int32.toInt (fX11_more 0 ((fX11_of r p1 8 v) - 3))).toNat + 1) (fX11_more 0 ((fX11_of r p1 8 v) - 3)) 0); y4
def oX11_farOut (r : Nat) (p1 : Int32) (p2 : Int32) (v : vSt) : Prop := (oX11_of r p1 8 v) ∧ (olX11_farOut_20 v r p1 p2 ((Int32.toInt ((fX11_of r p1 8 v)) - Int32.toInt (fX11_more 0 ((fX11_of r p1 8 v) - 3))).toNat + 1) (fX11_more 0 ((fX11_of r p1 8 v) - 3)) 0)
abbrev rmX11_farOut : Room := { frames := 2, cells := 0, slots := 0, locals := 44 }
theorem dX11_farOut_0 : decode cX11_farOut 0 = .ok (.aload_n 0, 1) := by decide +kernel
theorem dX11_farOut_1 : decode cX11_farOut 1 = .ok (.iload_n 1, 1) := by decide +kernel
theorem dX11_farOut_2 : decode cX11_farOut 2 = .ok (.bipush 8, 2) := by decide +kernel
theorem dX11_farOut_4 : decode cX11_farOut 4 = .ok (.invokevirtual 90, 3) := by decide +kernel
theorem dX11_farOut_7 : decode cX11_farOut 7 = .ok (.istore_n 3, 1) := by decide +kernel
theorem dX11_farOut_8 : decode cX11_farOut 8 = .ok (.iconst 0, 1) := by decide +kernel
theorem dX11_farOut_9 : decode cX11_farOut 9 = .ok (.istore 4, 2) := by decide +kernel
theorem dX11_farOut_11 : decode cX11_farOut 11 = .ok (.iconst 0, 1) := by decide +kernel
theorem dX11_farOut_12 : decode cX11_farOut 12 = .ok (.iload_n 3, 1) := by decide +kernel
theorem dX11_farOut_13 : decode cX11_farOut 13 = .ok (.iconst 3, 1) := by decide +kernel
theorem dX11_farOut_14 : decode cX11_farOut 14 = .ok (.isub, 1) := by decide +kernel
theorem dX11_farOut_15 : decode cX11_farOut 15 = .ok (.invokestatic 80, 3) := by decide +kernel
theorem dX11_farOut_18 : decode cX11_farOut 18 = .ok (.istore 5, 2) := by decide +kernel
theorem dX11_farOut_20 : decode cX11_farOut 20 = .ok (.iload 5, 2) := by decide +kernel
theorem dX11_farOut_22 : decode cX11_farOut 22 = .ok (.iload_n 3, 1) := by decide +kernel
theorem dX11_farOut_23 : decode cX11_farOut 23 = .ok (.if_icmp .ge 80, 3) := by decide +kernel
theorem dX11_farOut_26 : decode cX11_farOut 26 = .ok (.iconst 3, 1) := by decide +kernel
theorem dX11_farOut_27 : decode cX11_farOut 27 = .ok (.aload_n 0, 1) := by decide +kernel
theorem dX11_farOut_28 : decode cX11_farOut 28 = .ok (.iload_n 1, 1) := by decide +kernel
theorem dX11_farOut_29 : decode cX11_farOut 29 = .ok (.iload 5, 2) := by decide +kernel
theorem dX11_farOut_31 : decode cX11_farOut 31 = .ok (.invokevirtual 123, 3) := by decide +kernel
theorem dX11_farOut_34 : decode cX11_farOut 34 = .ok (.imul, 1) := by decide +kernel
theorem dX11_farOut_35 : decode cX11_farOut 35 = .ok (.istore 6, 2) := by decide +kernel
theorem dX11_farOut_37 : decode cX11_farOut 37 = .ok (.iload_n 2, 1) := by decide +kernel
theorem dX11_farOut_38 : decode cX11_farOut 38 = .ok (.ifCond .eq 24, 3) := by decide +kernel
theorem dX11_farOut_41 : decode cX11_farOut 41 = .ok (.iload 6, 2) := by decide +kernel
theorem dX11_farOut_43 : decode cX11_farOut 43 = .ok (.iconst 2, 1) := by decide +kernel
theorem dX11_farOut_44 : decode cX11_farOut 44 = .ok (.aload_n 0, 1) := by decide +kernel
theorem dX11_farOut_45 : decode cX11_farOut 45 = .ok (.iload_n 1, 1) := by decide +kernel
theorem dX11_farOut_46 : decode cX11_farOut 46 = .ok (.iconst 2, 1) := by decide +kernel
theorem dX11_farOut_47 : decode cX11_farOut 47 = .ok (.invokevirtual 90, 3) := by decide +kernel
theorem dX11_farOut_50 : decode cX11_farOut 50 = .ok (.imul, 1) := by decide +kernel
theorem dX11_farOut_51 : decode cX11_farOut 51 = .ok (.if_icmp .le 7, 3) := by decide +kernel
theorem dX11_farOut_54 : decode cX11_farOut 54 = .ok (.iconst 1, 1) := by decide +kernel
theorem dX11_farOut_55 : decode cX11_farOut 55 = .ok (.goto 25, 3) := by decide +kernel
theorem dX11_farOut_58 : decode cX11_farOut 58 = .ok (.iconst 0, 1) := by decide +kernel
theorem dX11_farOut_59 : decode cX11_farOut 59 = .ok (.goto 21, 3) := by decide +kernel
theorem dX11_farOut_62 : decode cX11_farOut 62 = .ok (.iload 6, 2) := by decide +kernel
theorem dX11_farOut_64 : decode cX11_farOut 64 = .ok (.iconst 2, 1) := by decide +kernel
theorem dX11_farOut_65 : decode cX11_farOut 65 = .ok (.aload_n 0, 1) := by decide +kernel
theorem dX11_farOut_66 : decode cX11_farOut 66 = .ok (.iload_n 1, 1) := by decide +kernel
theorem dX11_farOut_67 : decode cX11_farOut 67 = .ok (.iconst 1, 1) := by decide +kernel
theorem dX11_farOut_68 : decode cX11_farOut 68 = .ok (.invokevirtual 90, 3) := by decide +kernel
theorem dX11_farOut_71 : decode cX11_farOut 71 = .ok (.imul, 1) := by decide +kernel
theorem dX11_farOut_72 : decode cX11_farOut 72 = .ok (.if_icmp .ge 7, 3) := by decide +kernel
theorem dX11_farOut_75 : decode cX11_farOut 75 = .ok (.iconst 1, 1) := by decide +kernel
theorem dX11_farOut_76 : decode cX11_farOut 76 = .ok (.goto 4, 3) := by decide +kernel
theorem dX11_farOut_79 : decode cX11_farOut 79 = .ok (.iconst 0, 1) := by decide +kernel
theorem dX11_farOut_80 : decode cX11_farOut 80 = .ok (.istore 7, 2) := by decide +kernel
theorem dX11_farOut_82 : decode cX11_farOut 82 = .ok (.iload 4, 2) := by decide +kernel
theorem dX11_farOut_84 : decode cX11_farOut 84 = .ok (.iload 7, 2) := by decide +kernel
theorem dX11_farOut_86 : decode cX11_farOut 86 = .ok (.ifCond .eq 7, 3) := by decide +kernel
theorem dX11_farOut_89 : decode cX11_farOut 89 = .ok (.iconst 1, 1) := by decide +kernel
theorem dX11_farOut_90 : decode cX11_farOut 90 = .ok (.goto 4, 3) := by decide +kernel
theorem dX11_farOut_93 : decode cX11_farOut 93 = .ok (.iconst 0, 1) := by decide +kernel
theorem dX11_farOut_94 : decode cX11_farOut 94 = .ok (.iadd, 1) := by decide +kernel
theorem dX11_farOut_95 : decode cX11_farOut 95 = .ok (.istore 4, 2) := by decide +kernel
theorem dX11_farOut_97 : decode cX11_farOut 97 = .ok (.iinc 5 1, 3) := by decide +kernel
theorem dX11_farOut_100 : decode cX11_farOut 100 = .ok (.goto (-80), 3) := by decide +kernel
theorem dX11_farOut_103 : decode cX11_farOut 103 = .ok (.iload 4, 2) := by decide +kernel
theorem dX11_farOut_105 : decode cX11_farOut 105 = .ok (.ireturn, 1) := by decide +kernel
set_option maxHeartbeats 8000000 in
set_option maxRecDepth 100000 in
theorem mX11_farOut (l : Launch) (G : gG) (da : Nat → Nat) (v : vSt) (x : gX) (r : Nat) (hk_r : kd r = 11) (p1 : Int32) (p2 : Int32) (ho : oX11_farOut r p1 p2 v) : QI l yX11_farOut cX11_farOut 8 (some .int) rmX11_farOut [.ref (ga G r), .int p1, .int p2] (pW G da v x) (fX11_farOut r p1 p2 v) := by
  refine gofQ (own := RX11) (by decide) rfl (Nat.le_of_ble_eq_true rfl) (fun p e s m args below meth c ls Q X hH hl E => ?_)
  have hx := X.1
  have hb := X.2.1
  have hown := X.2.2.2.1
  have hts := X.2.2.2.2.1
  have hS : va_S (gA G) s.heap s.heap [] := va_S.rf
  unfold oX11_farOut at ho
  have hl : lv_has ls 8 [(0, .ref (ga G r)), (1, .int p1), (2, .int p2)] := hl
  refine lv_aload_n hx hb dX11_farOut_0 rfl (lv_at hl 0 rfl) ?_
  refine lv_iload_n hx hb dX11_farOut_1 rfl (lv_at hl 1 rfl) ?_
  refine lv_bipush (v := 8) hx hb dX11_farOut_2 (by decide) ?_
  have hq1 := ho.1
  have ho := ho.2
  refine k_X11_of X hS hH hk_r hq1 t_ml_VernierDrawersModel_90 hl.1 (Nat.le_of_ble_eq_true rfl) ⟨Nat.le_of_ble_eq_true rfl, Nat.le_of_ble_eq_true rfl⟩ ⟨Nat.zero_le _, Nat.zero_le _⟩ dX11_farOut_4 ?_
  refine lv_istore_n (lv' := [(3, .int (fX11_of r p1 8 v)), (0, .ref (ga G r)), (1, .int p1), (2, .int p2)]) hx hb dX11_farOut_7 rfl hl (by decide) rfl (fun ls hl => ?_)
  refine lv_iconst (v := 0) hx hb dX11_farOut_8 (by decide) ?_
  refine lv_istore (lv' := [(4, .int 0), (3, .int (fX11_of r p1 8 v)), (0, .ref (ga G r)), (1, .int p1), (2, .int p2)]) hx hb dX11_farOut_9 hl (by decide) rfl (fun ls hl => ?_)
  refine lv_iconst (v := 0) hx hb dX11_farOut_11 (by decide) ?_
  refine lv_iload_n hx hb dX11_farOut_12 rfl (lv_at hl 1 rfl) ?_
  refine lv_iconst (v := 3) hx hb dX11_farOut_13 (by decide) ?_
  refine lv_isub hx hb dX11_farOut_14 ?_
  refine k_X11_more X hS  t_ml_VernierDrawersModel_80 hl.1 (Nat.le_of_ble_eq_true rfl) ⟨Nat.le_of_ble_eq_true rfl, Nat.le_of_ble_eq_true rfl⟩ ⟨Nat.zero_le _, Nat.zero_le _⟩ dX11_farOut_15 ?_
  refine lv_istore (lv' := [(5, .int (fX11_more 0 ((fX11_of r p1 8 v) - 3))), (4, .int 0), (3, .int (fX11_of r p1 8 v)), (0, .ref (ga G r)), (1, .int p1), (2, .int p2)]) hx hb dX11_farOut_18 hl (by decide) rfl (fun ls hl => ?_)
  have L5 : ∀ (n : Nat) (i2 : Int32) (i3 : Int32) (ls : Array Slot), olX11_farOut_20 v r p1 p2 n i2 i3 → lv_has ls 8 [(5, .int i2), (4, .int i3), (3, .int (fX11_of r p1 8 v)), (0, .ref (ga G r)), (1, .int p1), (2, .int p2)] → (∀ (y4 : Int32) (ls : Array Slot), y4 = (lX11_farOut_20 v r p1 p2 n i2 i3 : Int32) → lv_has ls 8 [(4, .int y4)] → W p l e rmX11_farOut s m args below meth c s.heap [] 0 0 Q (F0 m 103 ls [])) → W p l e rmX11_farOut s m args below meth c s.heap [] 0 0 Q (F0 m 20 ls []) := by
    clear ho
    intro n
    induction n with
    | zero =>
      intro i2 i3 ls ho
      exact ho.elim
    | succ n ih =>
      intro i2 i3 ls ho hl K6
      refine lv_iload hx hb dX11_farOut_20 (lv_at hl 0 rfl) ?_
      refine lv_iload_n hx hb dX11_farOut_22 rfl (lv_at hl 2 rfl) ?_
      refine lv_icmp_ge (tgt := 103) hx hb dX11_farOut_23 (by decide) (fun c4 => ?_) (fun c4 => ?_)
      · skip
        exact K6 _ _ (Eq.symm (((lX11_farOut_20.eq_2 _ _ _ _ _ _ _)).trans ((if_pos c4).trans rfl))) (lv_sub hl [1] rfl)
      · have ho := ho c4
        refine lv_iconst (v := 3) hx hb dX11_farOut_26 (by decide) ?_
        refine lv_aload_n hx hb dX11_farOut_27 rfl (lv_at hl 3 rfl) ?_
        refine lv_iload_n hx hb dX11_farOut_28 rfl (lv_at hl 4 rfl) ?_
        refine lv_iload hx hb dX11_farOut_29 (lv_at hl 0 rfl) ?_
        have hq5 := ho.1
        have ho := ho.2
        refine k_X11_onChart X hS hH hk_r hq5 t_ml_VernierDrawersModel_123 hl.1 (Nat.le_of_ble_eq_true rfl) ⟨Nat.le_of_ble_eq_true rfl, Nat.le_of_ble_eq_true rfl⟩ ⟨Nat.zero_le _, Nat.zero_le _⟩ dX11_farOut_31 ?_
        refine lv_imul hx hb dX11_farOut_34 ?_
        refine lv_istore (lv' := [(6, .int (3 * (fX11_onChart r p1 i2 v))), (5, .int i2), (4, .int i3), (3, .int (fX11_of r p1 8 v)), (0, .ref (ga G r)), (1, .int p1), (2, .int p2)]) hx hb dX11_farOut_35 hl (by decide) rfl (fun ls hl => ?_)
        refine lv_iload_n hx hb dX11_farOut_37 rfl (lv_at hl 6 rfl) ?_
        have K7 : ∀ (y6 : Int32) (ls : Array Slot), y6 = (if (p2 : Int32) = 0 then (if ((2 * (fX11_of r p1 1 v)) : Int32) ≤ (3 * (fX11_onChart r p1 i2 v)) then 0 else 1) else (if ((3 * (fX11_onChart r p1 i2 v)) : Int32) ≤ (2 * (fX11_of r p1 2 v)) then 0 else 1) : Int32) → lv_has ls 8 [(5, .int i2), (4, .int i3), (3, .int (fX11_of r p1 8 v)), (0, .ref (ga G r)), (1, .int p1), (2, .int p2)] → W p l e rmX11_farOut s m args below meth c s.heap [] 0 0 Q (F0 m 80 ls [.int y6]) := by
          intro y6 ls ey6 hl
          have ho := ho.2 y6 ey6
          refine lv_istore (lv' := [(7, .int y6), (5, .int i2), (4, .int i3), (3, .int (fX11_of r p1 8 v)), (0, .ref (ga G r)), (1, .int p1), (2, .int p2)]) hx hb dX11_farOut_80 hl (by decide) rfl (fun ls hl => ?_)
          refine lv_iload hx hb dX11_farOut_82 (lv_at hl 2 rfl) ?_
          refine lv_iload hx hb dX11_farOut_84 (lv_at hl 0 rfl) ?_
          have K9 : ∀ (y8 : Int32) (ls : Array Slot), y8 = (if (y6 : Int32) = 0 then 0 else 1 : Int32) → lv_has ls 8 [(5, .int i2), (3, .int (fX11_of r p1 8 v)), (0, .ref (ga G r)), (1, .int p1), (2, .int p2)] → W p l e rmX11_farOut s m args below meth c s.heap [] 0 0 Q (F0 m 94 ls [.int y8, .int i3]) := by
            intro y8 ls ey8 hl
            have ho := ho y8 ey8
            refine lv_iadd hx hb dX11_farOut_94 ?_
            refine lv_istore (lv' := [(4, .int (i3 + y8)), (5, .int i2), (3, .int (fX11_of r p1 8 v)), (0, .ref (ga G r)), (1, .int p1), (2, .int p2)]) hx hb dX11_farOut_95 hl (by decide) rfl (fun ls hl => ?_)
            refine lv_iinc (v := i2 + 1) (lv' := [(5, .int (i2 + 1)), (4, .int (i3 + y8)), (3, .int (fX11_of r p1 8 v)), (0, .ref (ga G r)), (1, .int p1), (2, .int p2)]) hx hb dX11_farOut_97 hl (k := 1) rfl rfl (by decide) rfl (fun ls hl => ?_)
            refine lv_goto (tgt := 20) hx hb dX11_farOut_100 (by decide) ?_
            replace ey6 := Eq.symm ey6
            replace ey8 := Eq.symm ey8
            subst ey6 ey8
            exact ih _ _ _ ho (lv_sub hl [0, 1, 2, 3, 4, 5] rfl) (fun y4 ls q0 hl => K6 y4 ls (q0.trans (congrArg (fun z : Int32 => z) (Eq.symm (((lX11_farOut_20.eq_2 _ _ _ _ _ _ _)).trans ((if_neg c4).trans rfl))))) hl)
          refine lv_if_eq (tgt := 93) hx hb dX11_farOut_86 (by decide) (fun c9 => ?_) (fun c9 => ?_)
          · skip
            refine lv_iconst (v := 0) hx hb dX11_farOut_93 (by decide) ?_
            exact K9 _ _ (Eq.symm ((if_pos c9).trans rfl)) (lv_sub hl [1, 3, 4, 5, 6] rfl)
          · skip
            refine lv_iconst (v := 1) hx hb dX11_farOut_89 (by decide) ?_
            refine lv_goto (tgt := 94) hx hb dX11_farOut_90 (by decide) ?_
            exact K9 _ _ (Eq.symm ((if_neg c9).trans rfl)) (lv_sub hl [1, 3, 4, 5, 6] rfl)
        have ho := ho.1
        refine lv_if_eq (tgt := 62) hx hb dX11_farOut_38 (by decide) (fun c7 => ?_) (fun c7 => ?_)
        · have ho := ho.1 c7
          refine lv_iload hx hb dX11_farOut_62 (lv_at hl 0 rfl) ?_
          refine lv_iconst (v := 2) hx hb dX11_farOut_64 (by decide) ?_
          refine lv_aload_n hx hb dX11_farOut_65 rfl (lv_at hl 4 rfl) ?_
          refine lv_iload_n hx hb dX11_farOut_66 rfl (lv_at hl 5 rfl) ?_
          refine lv_iconst (v := 1) hx hb dX11_farOut_67 (by decide) ?_
          have hq8 := ho
          refine k_X11_of X hS hH hk_r hq8 t_ml_VernierDrawersModel_90 hl.1 (Nat.le_of_ble_eq_true rfl) ⟨Nat.le_of_ble_eq_true rfl, Nat.le_of_ble_eq_true rfl⟩ ⟨Nat.zero_le _, Nat.zero_le _⟩ dX11_farOut_68 ?_
          refine lv_imul hx hb dX11_farOut_71 ?_
          refine lv_icmp_ge (tgt := 79) hx hb dX11_farOut_72 (by decide) (fun c9 => ?_) (fun c9 => ?_)
          · skip
            refine lv_iconst (v := 0) hx hb dX11_farOut_79 (by decide) ?_
            exact K7 _ _ (Eq.symm ((if_pos c7).trans ((if_pos c9).trans rfl))) (lv_sub hl [1, 2, 3, 4, 5, 6] rfl)
          · skip
            refine lv_iconst (v := 1) hx hb dX11_farOut_75 (by decide) ?_
            refine lv_goto (tgt := 80) hx hb dX11_farOut_76 (by decide) ?_
            exact K7 _ _ (Eq.symm ((if_pos c7).trans ((if_neg c9).trans rfl))) (lv_sub hl [1, 2, 3, 4, 5, 6] rfl)
        · have ho := ho.2 c7
          refine lv_iload hx hb dX11_farOut_41 (lv_at hl 0 rfl) ?_
          refine lv_iconst (v := 2) hx hb dX11_farOut_43 (by decide) ?_
          refine lv_aload_n hx hb dX11_farOut_44 rfl (lv_at hl 4 rfl) ?_
          refine lv_iload_n hx hb dX11_farOut_45 rfl (lv_at hl 5 rfl) ?_
          refine lv_iconst (v := 2) hx hb dX11_farOut_46 (by decide) ?_
          have hq10 := ho
          refine k_X11_of X hS hH hk_r hq10 t_ml_VernierDrawersModel_90 hl.1 (Nat.le_of_ble_eq_true rfl) ⟨Nat.le_of_ble_eq_true rfl, Nat.le_of_ble_eq_true rfl⟩ ⟨Nat.zero_le _, Nat.zero_le _⟩ dX11_farOut_47 ?_
          refine lv_imul hx hb dX11_farOut_50 ?_
          refine lv_icmp_le (tgt := 58) hx hb dX11_farOut_51 (by decide) (fun c11 => ?_) (fun c11 => ?_)
          · skip
            refine lv_iconst (v := 0) hx hb dX11_farOut_58 (by decide) ?_
            refine lv_goto (tgt := 80) hx hb dX11_farOut_59 (by decide) ?_
            exact K7 _ _ (Eq.symm ((if_neg c7).trans ((if_pos c11).trans rfl))) (lv_sub hl [1, 2, 3, 4, 5, 6] rfl)
          · skip
            refine lv_iconst (v := 1) hx hb dX11_farOut_54 (by decide) ?_
            refine lv_goto (tgt := 80) hx hb dX11_farOut_55 (by decide) ?_
            exact K7 _ _ (Eq.symm ((if_neg c7).trans ((if_neg c11).trans rfl))) (lv_sub hl [1, 2, 3, 4, 5, 6] rfl)
  have hol := ho
  refine L5 ((Int32.toInt ((fX11_of r p1 8 v)) - Int32.toInt (fX11_more 0 ((fX11_of r p1 8 v) - 3))).toNat + 1) (fX11_more 0 ((fX11_of r p1 8 v) - 3)) 0 _ hol (lv_sub hl [0, 1, 2, 3, 4, 5] rfl) (fun y4 ls ey4 hl => ?_)
  refine lv_iload hx hb dX11_farOut_103 (lv_at hl 0 rfl) ?_
  replace ey4 := Eq.symm ey4
  subst ey4
  exact E _ _ _ dX11_farOut_105 rfl (Eq.symm rfl)
theorem k_X11_farOut {p : Program} {l : Launch} {e : Env} {R : Room} {s : State} {m : MethodId} {args : Array Value} {below : List Frame} {meth : Method} {c : Code} {H : Heap} {locs : List Loc} {cells slots : Nat} {Q : State → Prop} {cc : ByteArray} {pc nL : Nat} {ls : Array Slot} {rest : List Value} {G : gG} {own : String} {da : Nat → Nat} {v : vSt} {x : gX} (X : CX G p s m args c cc nL own) (hS : va_S (gA G) s.heap H locs) (hH : Hp G da v x H) {r : Nat} (hk_r : kd r = 11) {p1 : Int32} {p2 : Int32} (ho : oX11_farOut r p1 p2 v) {idx : Nat} (hml : Cond.methodLink own idx yX11_farOut ∈ TT) (hls : ls.size = nL) (hsum : (rest.map fun v => v.category).sum ≤ 8) (hR : rmX11_farOut.frames + 1 ≤ R.frames ∧ 8 + (8 + 11) + rmX11_farOut.locals ≤ R.locals) (hcs : cells ≤ R.cells ∧ slots ≤ R.slots) (hdg : decode cc pc = .ok (.invokevirtual idx, 3)) (kk : W p l e R s m args below meth c H locs cells slots Q (F0 m (pc + 3) ls (.int (fX11_farOut r p1 p2 v) :: rest))) : W p l e R s m args below meth c H locs cells slots Q (F0 m pc ls (.int p2 :: .int p1 :: .ref (ga G r) :: rest)) := c_qi (runV (k := 2) X.1 X.2.1 X.2.2.1 X.2.2.2.1 X.2.2.2.2.1 (mX11_farOut l G da v x r hk_r p1 p2 ho) pW_bl hml t_im_X11_farOut t_sel_X11_farOut t_ini_VernierDrawersModel t_code_X11_farOut ⟨rfl, by decide, by decide, by decide +kernel⟩ rfl rfl hR hcs (recvW X hH (by rw [hk_r]; decide) (by rw [hk_r]; decide) (ce_11 hk_r) rfl) (preW X hS hH) rfl hls rfl hsum hdg) (fun _ h => h ▸ kk)
