/-! 17.model -/
def fX11_ends (r : Nat) (p1 : Int32) (p2 : Int32) (v : vSt) : Int32 × vSt := if (p1 : Int32) = (-100001) then (let y2 : Int32 := (if (p1 : Int32) = (-100001) then 1 else p2 : Int32); let v4 : vSt := (fX11_fails r y2 v).2; ((fX11_fails r y2 v).1, v4)) else (if (p1 : Int32) = (-100002) then (let y8 : Int32 := (if (p1 : Int32) = (-100001) then 1 else p2 : Int32); let v10 : vSt := (fX11_fails r y8 v).2; ((fX11_fails r y8 v).1, v10)) else (let v7 : vSt := fX11_records r v; (p1, v7)))
def oX11_ends (r : Nat) (p1 : Int32) (p2 : Int32) (v : vSt) : Prop := ¬ ((p1 : Int32) = (-100001)) → (¬ ((p1 : Int32) = (-100002)) → (oX11_records r v))
abbrev rmX11_ends : Room := { frames := 2, cells := 0, slots := 0, locals := 45 }
theorem dX11_ends_0 : decode cX11_ends 0 = .ok (.iload_n 1, 1) := by decide +kernel
theorem dX11_ends_1 : decode cX11_ends 1 = .ok (.ldc 40, 2) := by decide +kernel
theorem dX11_ends_3 : decode cX11_ends 3 = .ok (.if_icmp .eq 9, 3) := by decide +kernel
theorem dX11_ends_6 : decode cX11_ends 6 = .ok (.iload_n 1, 1) := by decide +kernel
theorem dX11_ends_7 : decode cX11_ends 7 = .ok (.ldc 41, 2) := by decide +kernel
theorem dX11_ends_9 : decode cX11_ends 9 = .ok (.if_icmp .ne 19, 3) := by decide +kernel
theorem dX11_ends_12 : decode cX11_ends 12 = .ok (.aload_n 0, 1) := by decide +kernel
theorem dX11_ends_13 : decode cX11_ends 13 = .ok (.iload_n 1, 1) := by decide +kernel
theorem dX11_ends_14 : decode cX11_ends 14 = .ok (.ldc 40, 2) := by decide +kernel
theorem dX11_ends_16 : decode cX11_ends 16 = .ok (.if_icmp .ne 7, 3) := by decide +kernel
theorem dX11_ends_19 : decode cX11_ends 19 = .ok (.iconst 1, 1) := by decide +kernel
theorem dX11_ends_20 : decode cX11_ends 20 = .ok (.goto 4, 3) := by decide +kernel
theorem dX11_ends_23 : decode cX11_ends 23 = .ok (.iload_n 2, 1) := by decide +kernel
theorem dX11_ends_24 : decode cX11_ends 24 = .ok (.invokevirtual 42, 3) := by decide +kernel
theorem dX11_ends_27 : decode cX11_ends 27 = .ok (.ireturn, 1) := by decide +kernel
theorem dX11_ends_28 : decode cX11_ends 28 = .ok (.aload_n 0, 1) := by decide +kernel
theorem dX11_ends_29 : decode cX11_ends 29 = .ok (.invokevirtual 46, 3) := by decide +kernel
theorem dX11_ends_32 : decode cX11_ends 32 = .ok (.iload_n 1, 1) := by decide +kernel
theorem dX11_ends_33 : decode cX11_ends 33 = .ok (.ireturn, 1) := by decide +kernel
set_option maxHeartbeats 8000000 in
set_option maxRecDepth 100000 in
theorem mX11_ends (l : Launch) (G : gG) (da : Nat → Nat) (v : vSt) (x : gX) (r : Nat) (hk_r : kd r = 11) (p1 : Int32) (p2 : Int32) (ho : oX11_ends r p1 p2 v) : MI l yX11_ends cX11_ends 3 (some .int) rmX11_ends [.ref (ga G r), .int p1, .int p2] G da v x 0 0 (fX11_ends r p1 p2 v).1 (fX11_ends r p1 p2 v).2 x := by
  refine gofMI (own := RX11) (by decide) rfl (Nat.le_of_ble_eq_true rfl) (fun p e s m args below meth c ls Q X hH hl E => ?_)
  have hx := X.1
  have hb := X.2.1
  have hown := X.2.2.2.1
  have hts := X.2.2.2.2.1
  have hS : va_S (gA G) s.heap s.heap [] := va_S.rf
  unfold oX11_ends at ho
  have hl : lv_has ls 3 [(0, .ref (ga G r)), (1, .int p1), (2, .int p2)] := hl
  refine lv_iload_n hx hb dX11_ends_0 rfl (lv_at hl 1 rfl) ?_
  refine lv_ldc (v := (-100001)) hx hb hown (hts _ t_con_VernierDrawersModel_40) dX11_ends_1 ?_
  refine lv_icmp_eq (tgt := 12) hx hb dX11_ends_3 (by decide) (fun c1 => ?_) (fun c1 => ?_)
  · skip
    refine lv_aload_n hx hb dX11_ends_12 rfl (lv_at hl 0 rfl) ?_
    refine lv_iload_n hx hb dX11_ends_13 rfl (lv_at hl 1 rfl) ?_
    refine lv_ldc (v := (-100001)) hx hb hown (hts _ t_con_VernierDrawersModel_40) dX11_ends_14 ?_
    have K3 : ∀ (y2 : Int32) (ls : Array Slot), y2 = (if (p1 : Int32) = (-100001) then 1 else p2 : Int32) → lv_has ls 3 [] → W p l e rmX11_ends s m args below meth c s.heap [] 0 0 Q (F0 m 24 ls [.int y2, .ref (ga G r)]) := by
      intro y2 ls ey2 hl
      refine k_X11_fails X hS hH hk_r t_ml_VernierDrawersModel_42 hl.1 (Nat.le_of_ble_eq_true rfl) ⟨Nat.le_of_ble_eq_true rfl, Nat.le_of_ble_eq_true rfl⟩ ⟨Nat.zero_le _, Nat.zero_le _⟩ dX11_ends_24 (fun da H locs v4 ev4 hH hS => ?_)
      replace ey2 := Eq.symm ey2
      replace ev4 := Eq.symm ev4
      subst ey2 ev4
      exact E _ _ _ _ _ _ _ _ _ dX11_ends_27 rfl (pr1 ((fX11_ends.eq_1 _ _ _ _).trans ((if_pos c1).trans rfl))) (pr2 ((fX11_ends.eq_1 _ _ _ _).trans ((if_pos c1).trans rfl))) hH hS (Nat.zero_le _) (Nat.zero_le _)
    refine lv_icmp_ne (tgt := 23) hx hb dX11_ends_16 (by decide) (fun c3 => ?_) (fun c3 => ?_)
    · skip
      refine lv_iload_n hx hb dX11_ends_23 rfl (lv_at hl 2 rfl) ?_
      exact K3 _ _ (Eq.symm ((if_neg c3).trans rfl)) (lv_sub hl [] rfl)
    · skip
      refine lv_iconst (v := 1) hx hb dX11_ends_19 (by decide) ?_
      refine lv_goto (tgt := 24) hx hb dX11_ends_20 (by decide) ?_
      exact K3 _ _ (Eq.symm ((if_pos c3).trans rfl)) (lv_sub hl [] rfl)
  · have ho := ho c1
    refine lv_iload_n hx hb dX11_ends_6 rfl (lv_at hl 1 rfl) ?_
    refine lv_ldc (v := (-100002)) hx hb hown (hts _ t_con_VernierDrawersModel_41) dX11_ends_7 ?_
    refine lv_icmp_ne (tgt := 28) hx hb dX11_ends_9 (by decide) (fun c5 => ?_) (fun c5 => ?_)
    · have ho := ho c5
      refine lv_aload_n hx hb dX11_ends_28 rfl (lv_at hl 0 rfl) ?_
      have hq6 := ho
      refine k_X11_records X hS hH hk_r hq6 t_ml_VernierDrawersModel_46 hl.1 (Nat.le_of_ble_eq_true rfl) ⟨Nat.le_of_ble_eq_true rfl, Nat.le_of_ble_eq_true rfl⟩ ⟨Nat.zero_le _, Nat.zero_le _⟩ dX11_ends_29 (fun da H locs v7 ev7 hH hS => ?_)
      refine lv_iload_n hx hb dX11_ends_32 rfl (lv_at hl 1 rfl) ?_
      replace ev7 := Eq.symm ev7
      subst ev7
      exact E _ _ _ _ _ _ _ _ _ dX11_ends_33 rfl (pr1 ((fX11_ends.eq_1 _ _ _ _).trans ((if_neg c1).trans ((if_neg c5).trans rfl)))) (pr2 ((fX11_ends.eq_1 _ _ _ _).trans ((if_neg c1).trans ((if_neg c5).trans rfl)))) hH hS (Nat.zero_le _) (Nat.zero_le _)
    · skip
      refine lv_aload_n hx hb dX11_ends_12 rfl (lv_at hl 0 rfl) ?_
      refine lv_iload_n hx hb dX11_ends_13 rfl (lv_at hl 1 rfl) ?_
      refine lv_ldc (v := (-100001)) hx hb hown (hts _ t_con_VernierDrawersModel_40) dX11_ends_14 ?_
      have K9 : ∀ (y8 : Int32) (ls : Array Slot), y8 = (if (p1 : Int32) = (-100001) then 1 else p2 : Int32) → lv_has ls 3 [] → W p l e rmX11_ends s m args below meth c s.heap [] 0 0 Q (F0 m 24 ls [.int y8, .ref (ga G r)]) := by
        intro y8 ls ey8 hl
        refine k_X11_fails X hS hH hk_r t_ml_VernierDrawersModel_42 hl.1 (Nat.le_of_ble_eq_true rfl) ⟨Nat.le_of_ble_eq_true rfl, Nat.le_of_ble_eq_true rfl⟩ ⟨Nat.zero_le _, Nat.zero_le _⟩ dX11_ends_24 (fun da H locs v10 ev10 hH hS => ?_)
        replace ey8 := Eq.symm ey8
        replace ev10 := Eq.symm ev10
        subst ey8 ev10
        exact E _ _ _ _ _ _ _ _ _ dX11_ends_27 rfl (pr1 ((fX11_ends.eq_1 _ _ _ _).trans ((if_neg c1).trans ((if_pos c5).trans rfl)))) (pr2 ((fX11_ends.eq_1 _ _ _ _).trans ((if_neg c1).trans ((if_pos c5).trans rfl)))) hH hS (Nat.zero_le _) (Nat.zero_le _)
      refine lv_icmp_ne (tgt := 23) hx hb dX11_ends_16 (by decide) (fun c9 => ?_) (fun c9 => ?_)
      · skip
        refine lv_iload_n hx hb dX11_ends_23 rfl (lv_at hl 2 rfl) ?_
        exact K9 _ _ (Eq.symm ((if_neg c9).trans rfl)) (lv_sub hl [] rfl)
      · skip
        refine lv_iconst (v := 1) hx hb dX11_ends_19 (by decide) ?_
        refine lv_goto (tgt := 24) hx hb dX11_ends_20 (by decide) ?_
        exact K9 _ _ (Eq.symm ((if_pos c9).trans rfl)) (lv_sub hl [] rfl)
theorem k_X11_ends {p : Program} {l : Launch} {e : Env} {R : Room} {s : State} {m : MethodId} {args : Array Value} {below : List Frame} {meth : Method} {c : Code} {H : Heap} {locs : List Loc} {cells slots : Nat} {Q : State → Prop} {cc : ByteArray} {pc nL : Nat} {ls : Array Slot} {rest : List Value} {G : gG} {own : String} {da : Nat → Nat} {v : vSt} {x : gX} (X : CX G p s m args c cc nL own) (hS : va_S (gA G) s.heap H locs) (hH : Hp G da v x H) {r : Nat} (hk_r : kd r = 11) {p1 : Int32} {p2 : Int32} (ho : oX11_ends r p1 p2 v) {idx : Nat} (hml : Cond.methodLink own idx yX11_ends ∈ TT) (hls : ls.size = nL) (hsum : (rest.map fun v => v.category).sum ≤ 8) (hR : rmX11_ends.frames + 1 ≤ R.frames ∧ 8 + (3 + 11) + rmX11_ends.locals ≤ R.locals) (hcs : cells ≤ R.cells ∧ slots ≤ R.slots) (hdg : decode cc pc = .ok (.invokevirtual idx, 3)) (kk : ∀ (d : Nat → Nat) (H1 : Heap) (locs1 : List Loc) (v1 : vSt), v1 = (fX11_ends r p1 p2 v).2 → Hp G d v1 x H1 → va_S (gA G) s.heap H1 locs1 → W p l e R s m args below meth c H1 locs1 cells slots Q (F0 m (pc + 3) ls (.int (fX11_ends r p1 p2 v).1 :: rest))) : W p l e R s m args below meth c H locs cells slots Q (F0 m pc ls (.int p2 :: .int p1 :: .ref (ga G r) :: rest)) := c_mi X.2.2.2.2.2.2 (runV (k := 2) X.1 X.2.1 X.2.2.1 X.2.2.2.1 X.2.2.2.2.1 (mX11_ends l G da v x r hk_r p1 p2 ho) pW_bl hml t_im_X11_ends t_sel_X11_ends t_ini_VernierDrawersModel t_code_X11_ends ⟨rfl, by decide, by decide, by decide +kernel⟩ rfl rfl hR hcs (recvW X hH (by rw [hk_r]; decide) (by rw [hk_r]; decide) (ce_11 hk_r) rfl) (preW X hS hH) rfl hls rfl hsum hdg) hS kk
def fX11_isTool (r : Nat) (p1 : Int32) (v : vSt) : Int32 := fX11_in p1 0 ((v 462 (203 : Int32).toNatClampNeg) - 1)
def oX11_isTool (r : Nat) (p1 : Int32) (v : vSt) : Prop := vp_in (203) (mlen 462)
abbrev rmX11_isTool : Room := { frames := 1, cells := 0, slots := 0, locals := 22 }
theorem dX11_isTool_0 : decode cX11_isTool 0 = .ok (.iload_n 1, 1) := by decide +kernel
theorem dX11_isTool_1 : decode cX11_isTool 1 = .ok (.iconst 0, 1) := by decide +kernel
theorem dX11_isTool_2 : decode cX11_isTool 2 = .ok (.aload_n 0, 1) := by decide +kernel
theorem dX11_isTool_3 : decode cX11_isTool 3 = .ok (.getfield 7, 3) := by decide +kernel
theorem dX11_isTool_6 : decode cX11_isTool 6 = .ok (.sipush 203, 3) := by decide +kernel
theorem dX11_isTool_9 : decode cX11_isTool 9 = .ok (.iaload, 1) := by decide +kernel
theorem dX11_isTool_10 : decode cX11_isTool 10 = .ok (.iconst 1, 1) := by decide +kernel
theorem dX11_isTool_11 : decode cX11_isTool 11 = .ok (.isub, 1) := by decide +kernel
theorem dX11_isTool_12 : decode cX11_isTool 12 = .ok (.invokestatic 49, 3) := by decide +kernel
theorem dX11_isTool_15 : decode cX11_isTool 15 = .ok (.ireturn, 1) := by decide +kernel
set_option maxHeartbeats 8000000 in
set_option maxRecDepth 100000 in
theorem mX11_isTool (l : Launch) (G : gG) (da : Nat → Nat) (v : vSt) (x : gX) (r : Nat) (hk_r : kd r = 11) (p1 : Int32) (ho : oX11_isTool r p1 v) : QI l yX11_isTool cX11_isTool 2 (some .boolean) rmX11_isTool [.ref (ga G r), .int p1] (pW G da v x) (fX11_isTool r p1 v) := by
  refine gofQ (own := RX11) (by decide) rfl (Nat.le_of_ble_eq_true rfl) (fun p e s m args below meth c ls Q X hH hl E => ?_)
  have hx := X.1
  have hb := X.2.1
  have hown := X.2.2.2.1
  have hts := X.2.2.2.2.1
  have hS : va_S (gA G) s.heap s.heap [] := va_S.rf
  unfold oX11_isTool at ho
  have hl : lv_has ls 2 [(0, .ref (ga G r)), (1, .int p1)] := hl
  refine lv_iload_n hx hb dX11_isTool_0 rfl (lv_at hl 1 rfl) ?_
  refine lv_iconst (v := 0) hx hb dX11_isTool_1 (by decide) ?_
  refine lv_aload_n hx hb dX11_isTool_2 rfl (lv_at hl 0 rfl) ?_
  refine g_VernierDrawersModel_7 X hH hk_r dX11_isTool_3 ?_
  refine lv_sipush (v := 203) hx hb dX11_isTool_6 (by decide) ?_
  have hq1 := ho
  refine ald_M X hH (Or.inl kd_462) hq1 dX11_isTool_9 ?_
  refine lv_iconst (v := 1) hx hb dX11_isTool_10 (by decide) ?_
  refine lv_isub hx hb dX11_isTool_11 ?_
  refine k_X11_in X hS  t_ml_VernierDrawersModel_49 hl.1 (Nat.le_of_ble_eq_true rfl) ⟨Nat.le_of_ble_eq_true rfl, Nat.le_of_ble_eq_true rfl⟩ ⟨Nat.zero_le _, Nat.zero_le _⟩ dX11_isTool_12 ?_
  exact E _ _ _ dX11_isTool_15 (bn01 b01_X11_in).1 (Eq.symm rfl)
theorem k_X11_isTool {p : Program} {l : Launch} {e : Env} {R : Room} {s : State} {m : MethodId} {args : Array Value} {below : List Frame} {meth : Method} {c : Code} {H : Heap} {locs : List Loc} {cells slots : Nat} {Q : State → Prop} {cc : ByteArray} {pc nL : Nat} {ls : Array Slot} {rest : List Value} {G : gG} {own : String} {da : Nat → Nat} {v : vSt} {x : gX} (X : CX G p s m args c cc nL own) (hS : va_S (gA G) s.heap H locs) (hH : Hp G da v x H) {r : Nat} (hk_r : kd r = 11) {p1 : Int32} (ho : oX11_isTool r p1 v) {idx : Nat} (hml : Cond.methodLink own idx yX11_isTool ∈ TT) (hls : ls.size = nL) (hsum : (rest.map fun v => v.category).sum ≤ 8) (hR : rmX11_isTool.frames + 1 ≤ R.frames ∧ 8 + (2 + 11) + rmX11_isTool.locals ≤ R.locals) (hcs : cells ≤ R.cells ∧ slots ≤ R.slots) (hdg : decode cc pc = .ok (.invokevirtual idx, 3)) (kk : W p l e R s m args below meth c H locs cells slots Q (F0 m (pc + 3) ls (.int (fX11_isTool r p1 v) :: rest))) : W p l e R s m args below meth c H locs cells slots Q (F0 m pc ls (.int p1 :: .ref (ga G r) :: rest)) := c_qi (runV (k := 1) X.1 X.2.1 X.2.2.1 X.2.2.2.1 X.2.2.2.2.1 (mX11_isTool l G da v x r hk_r p1 ho) pW_bl hml t_im_X11_isTool t_sel_X11_isTool t_ini_VernierDrawersModel t_code_X11_isTool ⟨rfl, by decide, by decide, by decide +kernel⟩ rfl rfl hR hcs (recvW X hH (by rw [hk_r]; decide) (by rw [hk_r]; decide) (ce_11 hk_r) rfl) (preW X hS hH) rfl hls rfl hsum hdg) (fun _ h => h ▸ kk)
theorem b01_X11_isTool {r : Nat} {p1 : Int32} {v : vSt} : fX11_isTool r p1 v = 0 ∨ fX11_isTool r p1 v = 1 := by
  unfold fX11_isTool
  (try dsimp only); (repeat' split) <;> first | exact Or.inl rfl | exact Or.inr rfl | exact b01_X11_in
def fX11_isMaterial (p1 : Int32) : Int32 := fX11_in p1 0 2
abbrev rmX11_isMaterial : Room := { frames := 1, cells := 0, slots := 0, locals := 22 }
theorem dX11_isMaterial_0 : decode cX11_isMaterial 0 = .ok (.iload_n 0, 1) := by decide +kernel
theorem dX11_isMaterial_1 : decode cX11_isMaterial 1 = .ok (.iconst 0, 1) := by decide +kernel
theorem dX11_isMaterial_2 : decode cX11_isMaterial 2 = .ok (.iconst 2, 1) := by decide +kernel
theorem dX11_isMaterial_3 : decode cX11_isMaterial 3 = .ok (.invokestatic 49, 3) := by decide +kernel
theorem dX11_isMaterial_6 : decode cX11_isMaterial 6 = .ok (.ireturn, 1) := by decide +kernel
set_option maxHeartbeats 8000000 in
set_option maxRecDepth 100000 in
theorem mX11_isMaterial (l : Launch) (G : gG) (p1 : Int32) : PI l yX11_isMaterial cX11_isMaterial 1 (some .boolean) rmX11_isMaterial [.int p1] G (fun _ => True) (fX11_isMaterial p1) := by
  refine gofP (own := RX11) (by decide) rfl (Nat.le_of_ble_eq_true rfl) (fun p e s m args below meth c ls Q X _ hl E => ?_)
  have hx := X.1
  have hb := X.2.1
  have hown := X.2.2.2.1
  have hts := X.2.2.2.2.1
  have hS : va_S (gA G) s.heap s.heap [] := va_S.rf
  have ho : True := trivial
  have hl : lv_has ls 1 [(0, .int p1)] := hl
  refine lv_iload_n hx hb dX11_isMaterial_0 rfl (lv_at hl 0 rfl) ?_
  refine lv_iconst (v := 0) hx hb dX11_isMaterial_1 (by decide) ?_
  refine lv_iconst (v := 2) hx hb dX11_isMaterial_2 (by decide) ?_
  refine k_X11_in X hS  t_ml_VernierDrawersModel_49 hl.1 (Nat.le_of_ble_eq_true rfl) ⟨Nat.le_of_ble_eq_true rfl, Nat.le_of_ble_eq_true rfl⟩ ⟨Nat.zero_le _, Nat.zero_le _⟩ dX11_isMaterial_3 ?_
  exact E _ _ _ dX11_isMaterial_6 (bn01 b01_X11_in).1 (Eq.symm rfl)
theorem k_X11_isMaterial {p : Program} {l : Launch} {e : Env} {R : Room} {s : State} {m : MethodId} {args : Array Value} {below : List Frame} {meth : Method} {c : Code} {H : Heap} {locs : List Loc} {cells slots : Nat} {Q : State → Prop} {cc : ByteArray} {pc nL : Nat} {ls : Array Slot} {rest : List Value} {G : gG} {own : String} (X : CX G p s m args c cc nL own) (hS : va_S (gA G) s.heap H locs) {p1 : Int32} {idx : Nat} (hml : Cond.methodLink own idx yX11_isMaterial ∈ TT) (hls : ls.size = nL) (hsum : (rest.map fun v => v.category).sum ≤ 8) (hR : rmX11_isMaterial.frames + 1 ≤ R.frames ∧ 8 + (1 + 11) + rmX11_isMaterial.locals ≤ R.locals) (hcs : cells ≤ R.cells ∧ slots ≤ R.slots) (hdg : decode cc pc = .ok (.invokestatic idx, 3)) (kk : W p l e R s m args below meth c H locs cells slots Q (F0 m (pc + 3) ls (.int (fX11_isMaterial p1) :: rest))) : W p l e R s m args below meth c H locs cells slots Q (F0 m pc ls (.int p1 :: rest)) := c_qi (runS (k := 1) X.1 X.2.1 X.2.2.1 X.2.2.2.1 X.2.2.2.2.1 (mX11_isMaterial l G p1) (pT_bl (fun _ _ _ _ h => h)) hml t_st_X11_isMaterial t_ini_VernierDrawersModel t_code_X11_isMaterial ⟨by decide, by decide, by decide +kernel⟩ rfl rfl hR hcs (fun U hU hW => ⟨preT X hS U hU hW, trivial⟩) rfl hls rfl hsum hdg) (fun _ h => h ▸ kk)
theorem b01_X11_isMaterial {p1 : Int32} : fX11_isMaterial p1 = 0 ∨ fX11_isMaterial p1 = 1 := by
  unfold fX11_isMaterial
  (try dsimp only); (repeat' split) <;> first | exact Or.inl rfl | exact Or.inr rfl | exact b01_X11_in
def fX11_isLength (p1 : Int32) : Int32 := fX11_in p1 0 15000
abbrev rmX11_isLength : Room := { frames := 1, cells := 0, slots := 0, locals := 22 }
theorem dX11_isLength_0 : decode cX11_isLength 0 = .ok (.iload_n 0, 1) := by decide +kernel
theorem dX11_isLength_1 : decode cX11_isLength 1 = .ok (.iconst 0, 1) := by decide +kernel
theorem dX11_isLength_2 : decode cX11_isLength 2 = .ok (.sipush 15000, 3) := by decide +kernel
theorem dX11_isLength_5 : decode cX11_isLength 5 = .ok (.invokestatic 49, 3) := by decide +kernel
theorem dX11_isLength_8 : decode cX11_isLength 8 = .ok (.ireturn, 1) := by decide +kernel
set_option maxHeartbeats 8000000 in
set_option maxRecDepth 100000 in
theorem mX11_isLength (l : Launch) (G : gG) (p1 : Int32) : PI l yX11_isLength cX11_isLength 1 (some .boolean) rmX11_isLength [.int p1] G (fun _ => True) (fX11_isLength p1) := by
  refine gofP (own := RX11) (by decide) rfl (Nat.le_of_ble_eq_true rfl) (fun p e s m args below meth c ls Q X _ hl E => ?_)
  have hx := X.1
  have hb := X.2.1
  have hown := X.2.2.2.1
  have hts := X.2.2.2.2.1
  have hS : va_S (gA G) s.heap s.heap [] := va_S.rf
  have ho : True := trivial
  have hl : lv_has ls 1 [(0, .int p1)] := hl
  refine lv_iload_n hx hb dX11_isLength_0 rfl (lv_at hl 0 rfl) ?_
  refine lv_iconst (v := 0) hx hb dX11_isLength_1 (by decide) ?_
  refine lv_sipush (v := 15000) hx hb dX11_isLength_2 (by decide) ?_
  refine k_X11_in X hS  t_ml_VernierDrawersModel_49 hl.1 (Nat.le_of_ble_eq_true rfl) ⟨Nat.le_of_ble_eq_true rfl, Nat.le_of_ble_eq_true rfl⟩ ⟨Nat.zero_le _, Nat.zero_le _⟩ dX11_isLength_5 ?_
  exact E _ _ _ dX11_isLength_8 (bn01 b01_X11_in).1 (Eq.symm rfl)
theorem k_X11_isLength {p : Program} {l : Launch} {e : Env} {R : Room} {s : State} {m : MethodId} {args : Array Value} {below : List Frame} {meth : Method} {c : Code} {H : Heap} {locs : List Loc} {cells slots : Nat} {Q : State → Prop} {cc : ByteArray} {pc nL : Nat} {ls : Array Slot} {rest : List Value} {G : gG} {own : String} (X : CX G p s m args c cc nL own) (hS : va_S (gA G) s.heap H locs) {p1 : Int32} {idx : Nat} (hml : Cond.methodLink own idx yX11_isLength ∈ TT) (hls : ls.size = nL) (hsum : (rest.map fun v => v.category).sum ≤ 8) (hR : rmX11_isLength.frames + 1 ≤ R.frames ∧ 8 + (1 + 11) + rmX11_isLength.locals ≤ R.locals) (hcs : cells ≤ R.cells ∧ slots ≤ R.slots) (hdg : decode cc pc = .ok (.invokestatic idx, 3)) (kk : W p l e R s m args below meth c H locs cells slots Q (F0 m (pc + 3) ls (.int (fX11_isLength p1) :: rest))) : W p l e R s m args below meth c H locs cells slots Q (F0 m pc ls (.int p1 :: rest)) := c_qi (runS (k := 1) X.1 X.2.1 X.2.2.1 X.2.2.2.1 X.2.2.2.2.1 (mX11_isLength l G p1) (pT_bl (fun _ _ _ _ h => h)) hml t_st_X11_isLength t_ini_VernierDrawersModel t_code_X11_isLength ⟨by decide, by decide, by decide +kernel⟩ rfl rfl hR hcs (fun U hU hW => ⟨preT X hS U hU hW, trivial⟩) rfl hls rfl hsum hdg) (fun _ h => h ▸ kk)
theorem b01_X11_isLength {p1 : Int32} : fX11_isLength p1 = 0 ∨ fX11_isLength p1 = 1 := by
  unfold fX11_isLength
  (try dsimp only); (repeat' split) <;> first | exact Or.inl rfl | exact Or.inr rfl | exact b01_X11_in
def fX11_tool (r : Nat) (p1 : Int32) (p2 : Int32) (v : vSt) : Int32 := v 462 ((0 + (8 * p1)) + p2 : Int32).toNatClampNeg
def oX11_tool (r : Nat) (p1 : Int32) (p2 : Int32) (v : vSt) : Prop := vp_in ((0 + (8 * p1)) + p2) (mlen 462)
abbrev rmX11_tool : Room := { frames := 0, cells := 0, slots := 0, locals := 0 }
theorem dX11_tool_0 : decode cX11_tool 0 = .ok (.aload_n 0, 1) := by decide +kernel
theorem dX11_tool_1 : decode cX11_tool 1 = .ok (.getfield 7, 3) := by decide +kernel
theorem dX11_tool_4 : decode cX11_tool 4 = .ok (.iconst 0, 1) := by decide +kernel
theorem dX11_tool_5 : decode cX11_tool 5 = .ok (.bipush 8, 2) := by decide +kernel
theorem dX11_tool_7 : decode cX11_tool 7 = .ok (.iload_n 1, 1) := by decide +kernel
theorem dX11_tool_8 : decode cX11_tool 8 = .ok (.imul, 1) := by decide +kernel
theorem dX11_tool_9 : decode cX11_tool 9 = .ok (.iadd, 1) := by decide +kernel
theorem dX11_tool_10 : decode cX11_tool 10 = .ok (.iload_n 2, 1) := by decide +kernel
theorem dX11_tool_11 : decode cX11_tool 11 = .ok (.iadd, 1) := by decide +kernel
theorem dX11_tool_12 : decode cX11_tool 12 = .ok (.iaload, 1) := by decide +kernel
theorem dX11_tool_13 : decode cX11_tool 13 = .ok (.ireturn, 1) := by decide +kernel
set_option maxHeartbeats 8000000 in
set_option maxRecDepth 100000 in
theorem mX11_tool (l : Launch) (G : gG) (da : Nat → Nat) (v : vSt) (x : gX) (r : Nat) (hk_r : kd r = 11) (p1 : Int32) (p2 : Int32) (ho : oX11_tool r p1 p2 v) : QI l yX11_tool cX11_tool 3 (some .int) rmX11_tool [.ref (ga G r), .int p1, .int p2] (pW G da v x) (fX11_tool r p1 p2 v) := by
  refine gofQ (own := RX11) (by decide) rfl (Nat.le_of_ble_eq_true rfl) (fun p e s m args below meth c ls Q X hH hl E => ?_)
  have hx := X.1
  have hb := X.2.1
  have hown := X.2.2.2.1
  have hts := X.2.2.2.2.1
  have hS : va_S (gA G) s.heap s.heap [] := va_S.rf
  unfold oX11_tool at ho
  have hl : lv_has ls 3 [(0, .ref (ga G r)), (1, .int p1), (2, .int p2)] := hl
  refine lv_aload_n hx hb dX11_tool_0 rfl (lv_at hl 0 rfl) ?_
  refine g_VernierDrawersModel_7 X hH hk_r dX11_tool_1 ?_
  refine lv_iconst (v := 0) hx hb dX11_tool_4 (by decide) ?_
  refine lv_bipush (v := 8) hx hb dX11_tool_5 (by decide) ?_
  refine lv_iload_n hx hb dX11_tool_7 rfl (lv_at hl 1 rfl) ?_
  refine lv_imul hx hb dX11_tool_8 ?_
  refine lv_iadd hx hb dX11_tool_9 ?_
  refine lv_iload_n hx hb dX11_tool_10 rfl (lv_at hl 2 rfl) ?_
  refine lv_iadd hx hb dX11_tool_11 ?_
  have hq1 := ho
  refine ald_M X hH (Or.inl kd_462) hq1 dX11_tool_12 ?_
  exact E _ _ _ dX11_tool_13 rfl (Eq.symm rfl)
theorem k_X11_tool {p : Program} {l : Launch} {e : Env} {R : Room} {s : State} {m : MethodId} {args : Array Value} {below : List Frame} {meth : Method} {c : Code} {H : Heap} {locs : List Loc} {cells slots : Nat} {Q : State → Prop} {cc : ByteArray} {pc nL : Nat} {ls : Array Slot} {rest : List Value} {G : gG} {own : String} {da : Nat → Nat} {v : vSt} {x : gX} (X : CX G p s m args c cc nL own) (hS : va_S (gA G) s.heap H locs) (hH : Hp G da v x H) {r : Nat} (hk_r : kd r = 11) {p1 : Int32} {p2 : Int32} (ho : oX11_tool r p1 p2 v) {idx : Nat} (hml : Cond.methodLink own idx yX11_tool ∈ TT) (hls : ls.size = nL) (hsum : (rest.map fun v => v.category).sum ≤ 8) (hR : rmX11_tool.frames + 1 ≤ R.frames ∧ 8 + (3 + 11) + rmX11_tool.locals ≤ R.locals) (hcs : cells ≤ R.cells ∧ slots ≤ R.slots) (hdg : decode cc pc = .ok (.invokevirtual idx, 3)) (kk : W p l e R s m args below meth c H locs cells slots Q (F0 m (pc + 3) ls (.int (fX11_tool r p1 p2 v) :: rest))) : W p l e R s m args below meth c H locs cells slots Q (F0 m pc ls (.int p2 :: .int p1 :: .ref (ga G r) :: rest)) := c_qi (runV (k := 2) X.1 X.2.1 X.2.2.1 X.2.2.2.1 X.2.2.2.2.1 (mX11_tool l G da v x r hk_r p1 p2 ho) pW_bl hml t_im_X11_tool t_sel_X11_tool t_ini_VernierDrawersModel t_code_X11_tool ⟨rfl, by decide, by decide, by decide +kernel⟩ rfl rfl hR hcs (recvW X hH (by rw [hk_r]; decide) (by rw [hk_r]; decide) (ce_11 hk_r) rfl) (preW X hS hH) rfl hls rfl hsum hdg) (fun _ h => h ▸ kk)
def fX11_sets (r : Nat) (p1 : Int32) (p2 : Int32) (p3 : Int32) (v : vSt) : vSt := let v2 : vSt := u2 v 462 ((0 + (8 * p1)) + p2 : Int32).toNatClampNeg p3; v2
def oX11_sets (r : Nat) (p1 : Int32) (p2 : Int32) (p3 : Int32) (v : vSt) : Prop := vp_in ((0 + (8 * p1)) + p2) (mlen 462)
abbrev rmX11_sets : Room := { frames := 0, cells := 0, slots := 0, locals := 0 }
theorem dX11_sets_0 : decode cX11_sets 0 = .ok (.aload_n 0, 1) := by decide +kernel
theorem dX11_sets_1 : decode cX11_sets 1 = .ok (.getfield 7, 3) := by decide +kernel
theorem dX11_sets_4 : decode cX11_sets 4 = .ok (.iconst 0, 1) := by decide +kernel
theorem dX11_sets_5 : decode cX11_sets 5 = .ok (.bipush 8, 2) := by decide +kernel
theorem dX11_sets_7 : decode cX11_sets 7 = .ok (.iload_n 1, 1) := by decide +kernel
theorem dX11_sets_8 : decode cX11_sets 8 = .ok (.imul, 1) := by decide +kernel
theorem dX11_sets_9 : decode cX11_sets 9 = .ok (.iadd, 1) := by decide +kernel
theorem dX11_sets_10 : decode cX11_sets 10 = .ok (.iload_n 2, 1) := by decide +kernel
theorem dX11_sets_11 : decode cX11_sets 11 = .ok (.iadd, 1) := by decide +kernel
theorem dX11_sets_12 : decode cX11_sets 12 = .ok (.iload_n 3, 1) := by decide +kernel
theorem dX11_sets_13 : decode cX11_sets 13 = .ok (.iastore, 1) := by decide +kernel
theorem dX11_sets_14 : decode cX11_sets 14 = .ok (.return_, 1) := by decide +kernel
set_option maxHeartbeats 8000000 in
set_option maxRecDepth 100000 in
theorem mX11_sets (l : Launch) (G : gG) (da : Nat → Nat) (v : vSt) (x : gX) (r : Nat) (hk_r : kd r = 11) (p1 : Int32) (p2 : Int32) (p3 : Int32) (ho : oX11_sets r p1 p2 p3 v) : MV l yX11_sets cX11_sets 4 none rmX11_sets [.ref (ga G r), .int p1, .int p2, .int p3] G da v x 0 0 (fX11_sets r p1 p2 p3 v) x := by
  refine gofMV (own := RX11) (by decide) rfl (Nat.le_of_ble_eq_true rfl) (fun p e s m args below meth c ls Q X hH hl E => ?_)
  have hx := X.1
  have hb := X.2.1
  have hown := X.2.2.2.1
  have hts := X.2.2.2.2.1
  have hS : va_S (gA G) s.heap s.heap [] := va_S.rf
  unfold oX11_sets at ho
  have hl : lv_has ls 4 [(0, .ref (ga G r)), (1, .int p1), (2, .int p2), (3, .int p3)] := hl
  refine lv_aload_n hx hb dX11_sets_0 rfl (lv_at hl 0 rfl) ?_
  refine g_VernierDrawersModel_7 X hH hk_r dX11_sets_1 ?_
  refine lv_iconst (v := 0) hx hb dX11_sets_4 (by decide) ?_
  refine lv_bipush (v := 8) hx hb dX11_sets_5 (by decide) ?_
  refine lv_iload_n hx hb dX11_sets_7 rfl (lv_at hl 1 rfl) ?_
  refine lv_imul hx hb dX11_sets_8 ?_
  refine lv_iadd hx hb dX11_sets_9 ?_
  refine lv_iload_n hx hb dX11_sets_10 rfl (lv_at hl 2 rfl) ?_
  refine lv_iadd hx hb dX11_sets_11 ?_
  refine lv_iload_n hx hb dX11_sets_12 rfl (lv_at hl 3 rfl) ?_
  have hq1 := ho
  refine ast_M X hH hS (Or.inl kd_462) hq1 dX11_sets_13 (fun H locs v2 ev2 hH hS => ?_)
  replace ev2 := Eq.symm ev2
  subst ev2
  exact E _ _ _ _ _ _ _ _ dX11_sets_14 (Eq.symm rfl) hH hS (Nat.zero_le _) (Nat.zero_le _)
theorem k_X11_sets {p : Program} {l : Launch} {e : Env} {R : Room} {s : State} {m : MethodId} {args : Array Value} {below : List Frame} {meth : Method} {c : Code} {H : Heap} {locs : List Loc} {cells slots : Nat} {Q : State → Prop} {cc : ByteArray} {pc nL : Nat} {ls : Array Slot} {rest : List Value} {G : gG} {own : String} {da : Nat → Nat} {v : vSt} {x : gX} (X : CX G p s m args c cc nL own) (hS : va_S (gA G) s.heap H locs) (hH : Hp G da v x H) {r : Nat} (hk_r : kd r = 11) {p1 : Int32} {p2 : Int32} {p3 : Int32} (ho : oX11_sets r p1 p2 p3 v) {idx : Nat} (hml : Cond.methodLink own idx yX11_sets ∈ TT) (hls : ls.size = nL) (hsum : (rest.map fun v => v.category).sum ≤ 8) (hR : rmX11_sets.frames + 1 ≤ R.frames ∧ 8 + (4 + 11) + rmX11_sets.locals ≤ R.locals) (hcs : cells ≤ R.cells ∧ slots ≤ R.slots) (hdg : decode cc pc = .ok (.invokevirtual idx, 3)) (kk : ∀ (d : Nat → Nat) (H1 : Heap) (locs1 : List Loc) (v1 : vSt), v1 = fX11_sets r p1 p2 p3 v → Hp G d v1 x H1 → va_S (gA G) s.heap H1 locs1 → W p l e R s m args below meth c H1 locs1 cells slots Q (F0 m (pc + 3) ls rest)) : W p l e R s m args below meth c H locs cells slots Q (F0 m pc ls (.int p3 :: .int p2 :: .int p1 :: .ref (ga G r) :: rest)) := c_mv X.2.2.2.2.2.2 (runV (k := 3) X.1 X.2.1 X.2.2.1 X.2.2.2.1 X.2.2.2.2.1 (mX11_sets l G da v x r hk_r p1 p2 p3 ho) pW_bl hml t_im_X11_sets t_sel_X11_sets t_ini_VernierDrawersModel t_code_X11_sets ⟨rfl, by decide, by decide, by decide +kernel⟩ rfl rfl hR hcs (recvW X hH (by rw [hk_r]; decide) (by rw [hk_r]; decide) (ce_11 hk_r) rfl) (preW X hS hH) rfl hls rfl hsum hdg) hS kk
def fX11_stretch (r : Nat) (p1 : Int32) (p2 : Int32) (v : vSt) : Int32 := let y1 : Int32 := (if (p1 : Int32) = 0 then 12 else (if (p1 : Int32) = 1 then 19 else 23) : Int32); ((p2 * y1) * ((v 462 (208 : Int32).toNatClampNeg) - 20)) / 1000000
def oX11_stretch (r : Nat) (p1 : Int32) (p2 : Int32) (v : vSt) : Prop := (∀ (y1 : Int32), y1 = ((if (p1 : Int32) = 0 then 12 else (if (p1 : Int32) = 1 then 19 else 23) : Int32) : Int32) → (vp_in (208) (mlen 462)))
abbrev rmX11_stretch : Room := { frames := 0, cells := 0, slots := 0, locals := 0 }
theorem dX11_stretch_0 : decode cX11_stretch 0 = .ok (.iload_n 1, 1) := by decide +kernel
theorem dX11_stretch_1 : decode cX11_stretch 1 = .ok (.ifCond .ne 8, 3) := by decide +kernel
theorem dX11_stretch_4 : decode cX11_stretch 4 = .ok (.bipush 12, 2) := by decide +kernel
theorem dX11_stretch_6 : decode cX11_stretch 6 = .ok (.goto 15, 3) := by decide +kernel
theorem dX11_stretch_9 : decode cX11_stretch 9 = .ok (.iload_n 1, 1) := by decide +kernel
theorem dX11_stretch_10 : decode cX11_stretch 10 = .ok (.iconst 1, 1) := by decide +kernel
theorem dX11_stretch_11 : decode cX11_stretch 11 = .ok (.if_icmp .ne 8, 3) := by decide +kernel
theorem dX11_stretch_14 : decode cX11_stretch 14 = .ok (.bipush 19, 2) := by decide +kernel
theorem dX11_stretch_16 : decode cX11_stretch 16 = .ok (.goto 5, 3) := by decide +kernel
theorem dX11_stretch_19 : decode cX11_stretch 19 = .ok (.bipush 23, 2) := by decide +kernel
theorem dX11_stretch_21 : decode cX11_stretch 21 = .ok (.istore_n 3, 1) := by decide +kernel
theorem dX11_stretch_22 : decode cX11_stretch 22 = .ok (.iload_n 2, 1) := by decide +kernel
theorem dX11_stretch_23 : decode cX11_stretch 23 = .ok (.iload_n 3, 1) := by decide +kernel
theorem dX11_stretch_24 : decode cX11_stretch 24 = .ok (.imul, 1) := by decide +kernel
theorem dX11_stretch_25 : decode cX11_stretch 25 = .ok (.aload_n 0, 1) := by decide +kernel
theorem dX11_stretch_26 : decode cX11_stretch 26 = .ok (.getfield 7, 3) := by decide +kernel
theorem dX11_stretch_29 : decode cX11_stretch 29 = .ok (.sipush 208, 3) := by decide +kernel
theorem dX11_stretch_32 : decode cX11_stretch 32 = .ok (.iaload, 1) := by decide +kernel
theorem dX11_stretch_33 : decode cX11_stretch 33 = .ok (.bipush 20, 2) := by decide +kernel
theorem dX11_stretch_35 : decode cX11_stretch 35 = .ok (.isub, 1) := by decide +kernel
theorem dX11_stretch_36 : decode cX11_stretch 36 = .ok (.imul, 1) := by decide +kernel
theorem dX11_stretch_37 : decode cX11_stretch 37 = .ok (.ldc 53, 2) := by decide +kernel
theorem dX11_stretch_39 : decode cX11_stretch 39 = .ok (.idiv, 1) := by decide +kernel
theorem dX11_stretch_40 : decode cX11_stretch 40 = .ok (.ireturn, 1) := by decide +kernel
set_option maxHeartbeats 8000000 in
set_option maxRecDepth 100000 in
theorem mX11_stretch (l : Launch) (G : gG) (da : Nat → Nat) (v : vSt) (x : gX) (r : Nat) (hk_r : kd r = 11) (p1 : Int32) (p2 : Int32) (ho : oX11_stretch r p1 p2 v) : QI l yX11_stretch cX11_stretch 4 (some .int) rmX11_stretch [.ref (ga G r), .int p1, .int p2] (pW G da v x) (fX11_stretch r p1 p2 v) := by
  refine gofQ (own := RX11) (by decide) rfl (Nat.le_of_ble_eq_true rfl) (fun p e s m args below meth c ls Q X hH hl E => ?_)
  have hx := X.1
  have hb := X.2.1
  have hown := X.2.2.2.1
  have hts := X.2.2.2.2.1
  have hS : va_S (gA G) s.heap s.heap [] := va_S.rf
  unfold oX11_stretch at ho
  have hl : lv_has ls 4 [(0, .ref (ga G r)), (1, .int p1), (2, .int p2)] := hl
  refine lv_iload_n hx hb dX11_stretch_0 rfl (lv_at hl 1 rfl) ?_
  have K2 : ∀ (y1 : Int32) (ls : Array Slot), y1 = (if (p1 : Int32) = 0 then 12 else (if (p1 : Int32) = 1 then 19 else 23) : Int32) → lv_has ls 4 [(0, .ref (ga G r)), (2, .int p2)] → W p l e rmX11_stretch s m args below meth c s.heap [] 0 0 Q (F0 m 21 ls [.int y1]) := by
    intro y1 ls ey1 hl
    have ho := ho y1 ey1
    refine lv_istore_n (lv' := [(3, .int y1), (0, .ref (ga G r)), (2, .int p2)]) hx hb dX11_stretch_21 rfl hl (by decide) rfl (fun ls hl => ?_)
    refine lv_iload_n hx hb dX11_stretch_22 rfl (lv_at hl 2 rfl) ?_
    refine lv_iload_n hx hb dX11_stretch_23 rfl (lv_at hl 0 rfl) ?_
    refine lv_imul hx hb dX11_stretch_24 ?_
    refine lv_aload_n hx hb dX11_stretch_25 rfl (lv_at hl 1 rfl) ?_
    refine g_VernierDrawersModel_7 X hH hk_r dX11_stretch_26 ?_
    refine lv_sipush (v := 208) hx hb dX11_stretch_29 (by decide) ?_
    have hq3 := ho
    refine ald_M X hH (Or.inl kd_462) hq3 dX11_stretch_32 ?_
    refine lv_bipush (v := 20) hx hb dX11_stretch_33 (by decide) ?_
    refine lv_isub hx hb dX11_stretch_35 ?_
    refine lv_imul hx hb dX11_stretch_36 ?_
    refine lv_ldc (v := 1000000) hx hb hown (hts _ t_con_VernierDrawersModel_53) dX11_stretch_37 ?_
    refine lv_idiv hx hb dX11_stretch_39 (by decide) ?_
    replace ey1 := Eq.symm ey1
    subst ey1
    exact E _ _ _ dX11_stretch_40 rfl (Eq.symm rfl)
  refine lv_if_ne (tgt := 9) hx hb dX11_stretch_1 (by decide) (fun c2 => ?_) (fun c2 => ?_)
  · skip
    refine lv_iload_n hx hb dX11_stretch_9 rfl (lv_at hl 1 rfl) ?_
    refine lv_iconst (v := 1) hx hb dX11_stretch_10 (by decide) ?_
    refine lv_icmp_ne (tgt := 19) hx hb dX11_stretch_11 (by decide) (fun c3 => ?_) (fun c3 => ?_)
    · skip
      refine lv_bipush (v := 23) hx hb dX11_stretch_19 (by decide) ?_
      exact K2 _ _ (Eq.symm ((if_neg c2).trans ((if_neg c3).trans rfl))) (lv_sub hl [0, 2] rfl)
    · skip
      refine lv_bipush (v := 19) hx hb dX11_stretch_14 (by decide) ?_
      refine lv_goto (tgt := 21) hx hb dX11_stretch_16 (by decide) ?_
      exact K2 _ _ (Eq.symm ((if_neg c2).trans ((if_pos c3).trans rfl))) (lv_sub hl [0, 2] rfl)
  · skip
    refine lv_bipush (v := 12) hx hb dX11_stretch_4 (by decide) ?_
    refine lv_goto (tgt := 21) hx hb dX11_stretch_6 (by decide) ?_
    exact K2 _ _ (Eq.symm ((if_pos c2).trans rfl)) (lv_sub hl [0, 2] rfl)
theorem k_X11_stretch {p : Program} {l : Launch} {e : Env} {R : Room} {s : State} {m : MethodId} {args : Array Value} {below : List Frame} {meth : Method} {c : Code} {H : Heap} {locs : List Loc} {cells slots : Nat} {Q : State → Prop} {cc : ByteArray} {pc nL : Nat} {ls : Array Slot} {rest : List Value} {G : gG} {own : String} {da : Nat → Nat} {v : vSt} {x : gX} (X : CX G p s m args c cc nL own) (hS : va_S (gA G) s.heap H locs) (hH : Hp G da v x H) {r : Nat} (hk_r : kd r = 11) {p1 : Int32} {p2 : Int32} (ho : oX11_stretch r p1 p2 v) {idx : Nat} (hml : Cond.methodLink own idx yX11_stretch ∈ TT) (hls : ls.size = nL) (hsum : (rest.map fun v => v.category).sum ≤ 8) (hR : rmX11_stretch.frames + 1 ≤ R.frames ∧ 8 + (4 + 11) + rmX11_stretch.locals ≤ R.locals) (hcs : cells ≤ R.cells ∧ slots ≤ R.slots) (hdg : decode cc pc = .ok (.invokevirtual idx, 3)) (kk : W p l e R s m args below meth c H locs cells slots Q (F0 m (pc + 3) ls (.int (fX11_stretch r p1 p2 v) :: rest))) : W p l e R s m args below meth c H locs cells slots Q (F0 m pc ls (.int p2 :: .int p1 :: .ref (ga G r) :: rest)) := c_qi (runV (k := 2) X.1 X.2.1 X.2.2.1 X.2.2.2.1 X.2.2.2.2.1 (mX11_stretch l G da v x r hk_r p1 p2 ho) pW_bl hml t_im_X11_stretch t_sel_X11_stretch t_ini_VernierDrawersModel t_code_X11_stretch ⟨rfl, by decide, by decide, by decide +kernel⟩ rfl rfl hR hcs (recvW X hH (by rw [hk_r]; decide) (by rw [hk_r]; decide) (ce_11 hk_r) rfl) (preW X hS hH) rfl hls rfl hsum hdg) (fun _ h => h ▸ kk)
def fX11_step (r : Nat) (p1 : Int32) (v : vSt) : Int32 := if ((fX11_tool r p1 0 v) : Int32) = 0 then 10 else (if ((fX11_tool r p1 0 v) : Int32) = 1 then 5 else (if ((fX11_tool r p1 0 v) : Int32) = 2 then 2 else 1))
def oX11_step (r : Nat) (p1 : Int32) (v : vSt) : Prop := oX11_tool r p1 0 v
abbrev rmX11_step : Room := { frames := 1, cells := 0, slots := 0, locals := 22 }
theorem dX11_step_0 : decode cX11_step 0 = .ok (.aload_n 0, 1) := by decide +kernel
theorem dX11_step_1 : decode cX11_step 1 = .ok (.iload_n 1, 1) := by decide +kernel
theorem dX11_step_2 : decode cX11_step 2 = .ok (.iconst 0, 1) := by decide +kernel
theorem dX11_step_3 : decode cX11_step 3 = .ok (.invokevirtual 54, 3) := by decide +kernel
theorem dX11_step_6 : decode cX11_step 6 = .ok (.istore_n 2, 1) := by decide +kernel
theorem dX11_step_7 : decode cX11_step 7 = .ok (.iload_n 2, 1) := by decide +kernel
theorem dX11_step_8 : decode cX11_step 8 = .ok (.ifCond .ne 8, 3) := by decide +kernel
theorem dX11_step_11 : decode cX11_step 11 = .ok (.bipush 10, 2) := by decide +kernel
theorem dX11_step_13 : decode cX11_step 13 = .ok (.goto 22, 3) := by decide +kernel
theorem dX11_step_16 : decode cX11_step 16 = .ok (.iload_n 2, 1) := by decide +kernel
theorem dX11_step_17 : decode cX11_step 17 = .ok (.iconst 1, 1) := by decide +kernel
theorem dX11_step_18 : decode cX11_step 18 = .ok (.if_icmp .ne 7, 3) := by decide +kernel
theorem dX11_step_21 : decode cX11_step 21 = .ok (.iconst 5, 1) := by decide +kernel
theorem dX11_step_22 : decode cX11_step 22 = .ok (.goto 13, 3) := by decide +kernel
theorem dX11_step_25 : decode cX11_step 25 = .ok (.iload_n 2, 1) := by decide +kernel
theorem dX11_step_26 : decode cX11_step 26 = .ok (.iconst 2, 1) := by decide +kernel
theorem dX11_step_27 : decode cX11_step 27 = .ok (.if_icmp .ne 7, 3) := by decide +kernel
theorem dX11_step_30 : decode cX11_step 30 = .ok (.iconst 2, 1) := by decide +kernel
theorem dX11_step_31 : decode cX11_step 31 = .ok (.goto 4, 3) := by decide +kernel
theorem dX11_step_34 : decode cX11_step 34 = .ok (.iconst 1, 1) := by decide +kernel
theorem dX11_step_35 : decode cX11_step 35 = .ok (.ireturn, 1) := by decide +kernel
set_option maxHeartbeats 8000000 in
set_option maxRecDepth 100000 in
theorem mX11_step (l : Launch) (G : gG) (da : Nat → Nat) (v : vSt) (x : gX) (r : Nat) (hk_r : kd r = 11) (p1 : Int32) (ho : oX11_step r p1 v) : QI l yX11_step cX11_step 3 (some .int) rmX11_step [.ref (ga G r), .int p1] (pW G da v x) (fX11_step r p1 v) := by
  refine gofQ (own := RX11) (by decide) rfl (Nat.le_of_ble_eq_true rfl) (fun p e s m args below meth c ls Q X hH hl E => ?_)
  have hx := X.1
  have hb := X.2.1
  have hown := X.2.2.2.1
  have hts := X.2.2.2.2.1
  have hS : va_S (gA G) s.heap s.heap [] := va_S.rf
  unfold oX11_step at ho
  have hl : lv_has ls 3 [(0, .ref (ga G r)), (1, .int p1)] := hl
  refine lv_aload_n hx hb dX11_step_0 rfl (lv_at hl 0 rfl) ?_
  refine lv_iload_n hx hb dX11_step_1 rfl (lv_at hl 1 rfl) ?_
  refine lv_iconst (v := 0) hx hb dX11_step_2 (by decide) ?_
  have hq1 := ho
  refine k_X11_tool X hS hH hk_r hq1 t_ml_VernierDrawersModel_54 hl.1 (Nat.le_of_ble_eq_true rfl) ⟨Nat.le_of_ble_eq_true rfl, Nat.le_of_ble_eq_true rfl⟩ ⟨Nat.zero_le _, Nat.zero_le _⟩ dX11_step_3 ?_
  refine lv_istore_n (lv' := [(2, .int (fX11_tool r p1 0 v)), (0, .ref (ga G r)), (1, .int p1)]) hx hb dX11_step_6 rfl hl (by decide) rfl (fun ls hl => ?_)
  refine lv_iload_n hx hb dX11_step_7 rfl (lv_at hl 0 rfl) ?_
  refine lv_if_ne (tgt := 16) hx hb dX11_step_8 (by decide) (fun c2 => ?_) (fun c2 => ?_)
  · skip
    refine lv_iload_n hx hb dX11_step_16 rfl (lv_at hl 0 rfl) ?_
    refine lv_iconst (v := 1) hx hb dX11_step_17 (by decide) ?_
    refine lv_icmp_ne (tgt := 25) hx hb dX11_step_18 (by decide) (fun c3 => ?_) (fun c3 => ?_)
    · skip
      refine lv_iload_n hx hb dX11_step_25 rfl (lv_at hl 0 rfl) ?_
      refine lv_iconst (v := 2) hx hb dX11_step_26 (by decide) ?_
      refine lv_icmp_ne (tgt := 34) hx hb dX11_step_27 (by decide) (fun c4 => ?_) (fun c4 => ?_)
      · skip
        refine lv_iconst (v := 1) hx hb dX11_step_34 (by decide) ?_
        exact E _ _ _ dX11_step_35 rfl (Eq.symm ((fX11_step.eq_1 _ _ _).trans ((if_neg c2).trans ((if_neg c3).trans ((if_neg c4).trans rfl)))))
      · skip
        refine lv_iconst (v := 2) hx hb dX11_step_30 (by decide) ?_
        refine lv_goto (tgt := 35) hx hb dX11_step_31 (by decide) ?_
        exact E _ _ _ dX11_step_35 rfl (Eq.symm ((fX11_step.eq_1 _ _ _).trans ((if_neg c2).trans ((if_neg c3).trans ((if_pos c4).trans rfl)))))
    · skip
      refine lv_iconst (v := 5) hx hb dX11_step_21 (by decide) ?_
      refine lv_goto (tgt := 35) hx hb dX11_step_22 (by decide) ?_
      exact E _ _ _ dX11_step_35 rfl (Eq.symm ((fX11_step.eq_1 _ _ _).trans ((if_neg c2).trans ((if_pos c3).trans rfl))))
  · skip
    refine lv_bipush (v := 10) hx hb dX11_step_11 (by decide) ?_
    refine lv_goto (tgt := 35) hx hb dX11_step_13 (by decide) ?_
    exact E _ _ _ dX11_step_35 rfl (Eq.symm ((fX11_step.eq_1 _ _ _).trans ((if_pos c2).trans rfl)))
theorem k_X11_step {p : Program} {l : Launch} {e : Env} {R : Room} {s : State} {m : MethodId} {args : Array Value} {below : List Frame} {meth : Method} {c : Code} {H : Heap} {locs : List Loc} {cells slots : Nat} {Q : State → Prop} {cc : ByteArray} {pc nL : Nat} {ls : Array Slot} {rest : List Value} {G : gG} {own : String} {da : Nat → Nat} {v : vSt} {x : gX} (X : CX G p s m args c cc nL own) (hS : va_S (gA G) s.heap H locs) (hH : Hp G da v x H) {r : Nat} (hk_r : kd r = 11) {p1 : Int32} (ho : oX11_step r p1 v) {idx : Nat} (hml : Cond.methodLink own idx yX11_step ∈ TT) (hls : ls.size = nL) (hsum : (rest.map fun v => v.category).sum ≤ 8) (hR : rmX11_step.frames + 1 ≤ R.frames ∧ 8 + (3 + 11) + rmX11_step.locals ≤ R.locals) (hcs : cells ≤ R.cells ∧ slots ≤ R.slots) (hdg : decode cc pc = .ok (.invokevirtual idx, 3)) (kk : W p l e R s m args below meth c H locs cells slots Q (F0 m (pc + 3) ls (.int (fX11_step r p1 v) :: rest))) : W p l e R s m args below meth c H locs cells slots Q (F0 m pc ls (.int p1 :: .ref (ga G r) :: rest)) := c_qi (runV (k := 1) X.1 X.2.1 X.2.2.1 X.2.2.2.1 X.2.2.2.2.1 (mX11_step l G da v x r hk_r p1 ho) pW_bl hml t_im_X11_step t_sel_X11_step t_ini_VernierDrawersModel t_code_X11_step ⟨rfl, by decide, by decide, by decide +kernel⟩ rfl rfl hR hcs (recvW X hH (by rw [hk_r]; decide) (by rw [hk_r]; decide) (ce_11 hk_r) rfl) (preW X hS hH) rfl hls rfl hsum hdg) (fun _ h => h ▸ kk)
