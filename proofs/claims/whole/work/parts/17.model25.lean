/-! 17.model -/
def fX11_clearText (r : Nat) (v : vSt) : Int32 × vSt := let v1 : vSt := u2 v r 8 0; let v2 : vSt := u2 v1 r 7 0; (v1 r 7, v2)
abbrev rmX11_clearText : Room := { frames := 0, cells := 0, slots := 0, locals := 0 }
theorem dX11_clearText_0 : decode cX11_clearText 0 = .ok (.aload_n 0, 1) := by decide +kernel
theorem dX11_clearText_1 : decode cX11_clearText 1 = .ok (.iconst 0, 1) := by decide +kernel
theorem dX11_clearText_2 : decode cX11_clearText 2 = .ok (.putfield 29, 3) := by decide +kernel
theorem dX11_clearText_5 : decode cX11_clearText 5 = .ok (.aload_n 0, 1) := by decide +kernel
theorem dX11_clearText_6 : decode cX11_clearText 6 = .ok (.getfield 253, 3) := by decide +kernel
theorem dX11_clearText_9 : decode cX11_clearText 9 = .ok (.istore_n 1, 1) := by decide +kernel
theorem dX11_clearText_10 : decode cX11_clearText 10 = .ok (.aload_n 0, 1) := by decide +kernel
theorem dX11_clearText_11 : decode cX11_clearText 11 = .ok (.iconst 0, 1) := by decide +kernel
theorem dX11_clearText_12 : decode cX11_clearText 12 = .ok (.putfield 253, 3) := by decide +kernel
theorem dX11_clearText_15 : decode cX11_clearText 15 = .ok (.iload_n 1, 1) := by decide +kernel
theorem dX11_clearText_16 : decode cX11_clearText 16 = .ok (.ireturn, 1) := by decide +kernel
set_option maxHeartbeats 8000000 in
set_option maxRecDepth 100000 in
theorem mX11_clearText (l : Launch) (G : gG) (da : Nat → Nat) (v : vSt) (x : gX) (r : Nat) (hk_r : kd r = 11) : MI l yX11_clearText cX11_clearText 2 (some .int) rmX11_clearText [.ref (ga G r)] G da v x 0 0 (fX11_clearText r v).1 (fX11_clearText r v).2 x := by
  refine gofMI (own := RX11) (by decide) rfl (Nat.le_of_ble_eq_true rfl) (fun p e s m args below meth c ls Q X hH hl E => ?_)
  have hx := X.1
  have hb := X.2.1
  have hown := X.2.2.2.1
  have hts := X.2.2.2.2.1
  have hS : va_S (gA G) s.heap s.heap [] := va_S.rf
  have ho : True := trivial
  have hl : lv_has ls 2 [(0, .ref (ga G r))] := hl
  refine lv_aload_n hx hb dX11_clearText_0 rfl (lv_at hl 0 rfl) ?_
  refine lv_iconst (v := 0) hx hb dX11_clearText_1 (by decide) ?_
  refine p_VernierDrawersModel_29 X hH hS hk_r dX11_clearText_2 (fun H locs v1 ev1 hH hS => ?_)
  refine lv_aload_n hx hb dX11_clearText_5 rfl (lv_at hl 0 rfl) ?_
  refine g_VernierDrawersModel_253 X hH hk_r dX11_clearText_6 ?_
  refine lv_istore_n (lv' := [(1, .int (v1 r 7)), (0, .ref (ga G r))]) hx hb dX11_clearText_9 rfl hl (by decide) rfl (fun ls hl => ?_)
  refine lv_aload_n hx hb dX11_clearText_10 rfl (lv_at hl 1 rfl) ?_
  refine lv_iconst (v := 0) hx hb dX11_clearText_11 (by decide) ?_
  refine p_VernierDrawersModel_253 X hH hS hk_r dX11_clearText_12 (fun H locs v2 ev2 hH hS => ?_)
  refine lv_iload_n hx hb dX11_clearText_15 rfl (lv_at hl 0 rfl) ?_
  replace ev1 := Eq.symm ev1
  replace ev2 := Eq.symm ev2
  subst ev1 ev2
  exact E _ _ _ _ _ _ _ _ _ dX11_clearText_16 rfl (pr1 rfl) (pr2 rfl) hH hS (Nat.zero_le _) (Nat.zero_le _)
theorem k_X11_clearText {p : Program} {l : Launch} {e : Env} {R : Room} {s : State} {m : MethodId} {args : Array Value} {below : List Frame} {meth : Method} {c : Code} {H : Heap} {locs : List Loc} {cells slots : Nat} {Q : State → Prop} {cc : ByteArray} {pc nL : Nat} {ls : Array Slot} {rest : List Value} {G : gG} {own : String} {da : Nat → Nat} {v : vSt} {x : gX} (X : CX G p s m args c cc nL own) (hS : va_S (gA G) s.heap H locs) (hH : Hp G da v x H) {r : Nat} (hk_r : kd r = 11) {idx : Nat} (hml : Cond.methodLink own idx yX11_clearText ∈ TT) (hls : ls.size = nL) (hsum : (rest.map fun v => v.category).sum ≤ 8) (hR : rmX11_clearText.frames + 1 ≤ R.frames ∧ 8 + (2 + 11) + rmX11_clearText.locals ≤ R.locals) (hcs : cells ≤ R.cells ∧ slots ≤ R.slots) (hdg : decode cc pc = .ok (.invokevirtual idx, 3)) (kk : ∀ (d : Nat → Nat) (H1 : Heap) (locs1 : List Loc) (v1 : vSt), v1 = (fX11_clearText r v).2 → Hp G d v1 x H1 → va_S (gA G) s.heap H1 locs1 → W p l e R s m args below meth c H1 locs1 cells slots Q (F0 m (pc + 3) ls (.int (fX11_clearText r v).1 :: rest))) : W p l e R s m args below meth c H locs cells slots Q (F0 m pc ls (.ref (ga G r) :: rest)) := c_mi X.2.2.2.2.2.2 (runV (k := 0) X.1 X.2.1 X.2.2.1 X.2.2.2.1 X.2.2.2.2.1 (mX11_clearText l G da v x r hk_r) pW_bl hml t_im_X11_clearText t_sel_X11_clearText t_ini_VernierDrawersModel t_code_X11_clearText ⟨rfl, by decide, by decide, by decide +kernel⟩ rfl rfl hR hcs (recvW X hH (by rw [hk_r]; decide) (by rw [hk_r]; decide) (ce_11 hk_r) rfl) (preW X hS hH) rfl hls rfl hsum hdg) hS kk
def fX11_here (r : Nat) (v : vSt) : Int32 := if ((v r 7) : Int32) ≤ (v r 10) then 0 else (v 466 (v r 10 : Int32).toNatClampNeg)
def oX11_here (r : Nat) (v : vSt) : Prop := ¬ (((v r 7) : Int32) ≤ (v r 10)) → (vp_in (v r 10) 60)
abbrev rmX11_here : Room := { frames := 0, cells := 0, slots := 0, locals := 0 }
theorem dX11_here_0 : decode cX11_here 0 = .ok (.aload_n 0, 1) := by decide +kernel
theorem dX11_here_1 : decode cX11_here 1 = .ok (.getfield 256, 3) := by decide +kernel
theorem dX11_here_4 : decode cX11_here 4 = .ok (.aload_n 0, 1) := by decide +kernel
theorem dX11_here_5 : decode cX11_here 5 = .ok (.getfield 253, 3) := by decide +kernel
theorem dX11_here_8 : decode cX11_here 8 = .ok (.if_icmp .ge 15, 3) := by decide +kernel
theorem dX11_here_11 : decode cX11_here 11 = .ok (.aload_n 0, 1) := by decide +kernel
theorem dX11_here_12 : decode cX11_here 12 = .ok (.getfield 22, 3) := by decide +kernel
theorem dX11_here_15 : decode cX11_here 15 = .ok (.aload_n 0, 1) := by decide +kernel
theorem dX11_here_16 : decode cX11_here 16 = .ok (.getfield 256, 3) := by decide +kernel
theorem dX11_here_19 : decode cX11_here 19 = .ok (.iaload, 1) := by decide +kernel
theorem dX11_here_20 : decode cX11_here 20 = .ok (.goto 4, 3) := by decide +kernel
theorem dX11_here_23 : decode cX11_here 23 = .ok (.iconst 0, 1) := by decide +kernel
theorem dX11_here_24 : decode cX11_here 24 = .ok (.ireturn, 1) := by decide +kernel
set_option maxHeartbeats 8000000 in
set_option maxRecDepth 100000 in
theorem mX11_here (l : Launch) (G : gG) (da : Nat → Nat) (v : vSt) (x : gX) (r : Nat) (hk_r : kd r = 11) (ho : oX11_here r v) : QI l yX11_here cX11_here 1 (some .int) rmX11_here [.ref (ga G r)] (pW G da v x) (fX11_here r v) := by
  refine gofQ (own := RX11) (by decide) rfl (Nat.le_of_ble_eq_true rfl) (fun p e s m args below meth c ls Q X hH hl E => ?_)
  have hx := X.1
  have hb := X.2.1
  have hown := X.2.2.2.1
  have hts := X.2.2.2.2.1
  have hS : va_S (gA G) s.heap s.heap [] := va_S.rf
  unfold oX11_here at ho
  have hl : lv_has ls 1 [(0, .ref (ga G r))] := hl
  refine lv_aload_n hx hb dX11_here_0 rfl (lv_at hl 0 rfl) ?_
  refine g_VernierDrawersModel_256 X hH hk_r dX11_here_1 ?_
  refine lv_aload_n hx hb dX11_here_4 rfl (lv_at hl 0 rfl) ?_
  refine g_VernierDrawersModel_253 X hH hk_r dX11_here_5 ?_
  refine lv_icmp_ge (tgt := 23) hx hb dX11_here_8 (by decide) (fun c1 => ?_) (fun c1 => ?_)
  · skip
    refine lv_iconst (v := 0) hx hb dX11_here_23 (by decide) ?_
    exact E _ _ _ dX11_here_24 rfl (Eq.symm ((fX11_here.eq_1 _ _).trans ((if_pos c1).trans rfl)))
  · have ho := ho c1
    refine lv_aload_n hx hb dX11_here_11 rfl (lv_at hl 0 rfl) ?_
    refine g_VernierDrawersModel_22 X hH hk_r dX11_here_12 ?_
    refine lv_aload_n hx hb dX11_here_15 rfl (lv_at hl 0 rfl) ?_
    refine g_VernierDrawersModel_256 X hH hk_r dX11_here_16 ?_
    have hq2 := ho
    refine ald_32 X hH kd_466 hq2 dX11_here_19 ?_
    refine lv_goto (tgt := 24) hx hb dX11_here_20 (by decide) ?_
    exact E _ _ _ dX11_here_24 rfl (Eq.symm ((fX11_here.eq_1 _ _).trans ((if_neg c1).trans rfl)))
theorem k_X11_here {p : Program} {l : Launch} {e : Env} {R : Room} {s : State} {m : MethodId} {args : Array Value} {below : List Frame} {meth : Method} {c : Code} {H : Heap} {locs : List Loc} {cells slots : Nat} {Q : State → Prop} {cc : ByteArray} {pc nL : Nat} {ls : Array Slot} {rest : List Value} {G : gG} {own : String} {da : Nat → Nat} {v : vSt} {x : gX} (X : CX G p s m args c cc nL own) (hS : va_S (gA G) s.heap H locs) (hH : Hp G da v x H) {r : Nat} (hk_r : kd r = 11) (ho : oX11_here r v) {idx : Nat} (hml : Cond.methodLink own idx yX11_here ∈ TT) (hls : ls.size = nL) (hsum : (rest.map fun v => v.category).sum ≤ 8) (hR : rmX11_here.frames + 1 ≤ R.frames ∧ 8 + (1 + 11) + rmX11_here.locals ≤ R.locals) (hcs : cells ≤ R.cells ∧ slots ≤ R.slots) (hdg : decode cc pc = .ok (.invokevirtual idx, 3)) (kk : W p l e R s m args below meth c H locs cells slots Q (F0 m (pc + 3) ls (.int (fX11_here r v) :: rest))) : W p l e R s m args below meth c H locs cells slots Q (F0 m pc ls (.ref (ga G r) :: rest)) := c_qi (runV (k := 0) X.1 X.2.1 X.2.2.1 X.2.2.2.1 X.2.2.2.2.1 (mX11_here l G da v x r hk_r ho) pW_bl hml t_im_X11_here t_sel_X11_here t_ini_VernierDrawersModel t_code_X11_here ⟨rfl, by decide, by decide, by decide +kernel⟩ rfl rfl hR hcs (recvW X hH (by rw [hk_r]; decide) (by rw [hk_r]; decide) (ce_11 hk_r) rfl) (preW X hS hH) rfl hls rfl hsum hdg) (fun _ h => h ▸ kk)
def fX11_takes (r : Nat) (p1 : Int32) (v : vSt) : vSt := let y1 : Int32 := (if ((v r 12) : Int32) = 0 then 0 else (if (p1 : Int32) = 0 then 0 else 1) : Int32); let v4 : vSt := u2 v r 12 y1; let y5 : Int32 := (if ((v4 r 12) : Int32) = 0 then 0 else 1 : Int32); let v7 : vSt := u2 v4 r 10 ((v4 r 10) + y5); v7
def oX11_takes (r : Nat) (p1 : Int32) (v : vSt) : Prop := (∀ (y1 : Int32), y1 = ((if ((v r 12) : Int32) = 0 then 0 else (if (p1 : Int32) = 0 then 0 else 1) : Int32) : Int32) → (((y1 : Int32) = 0 ∨ (y1 : Int32) = 1)))
abbrev rmX11_takes : Room := { frames := 0, cells := 0, slots := 0, locals := 0 }
theorem dX11_takes_0 : decode cX11_takes 0 = .ok (.aload_n 0, 1) := by decide +kernel
theorem dX11_takes_1 : decode cX11_takes 1 = .ok (.aload_n 0, 1) := by decide +kernel
theorem dX11_takes_2 : decode cX11_takes 2 = .ok (.getfield 259, 3) := by decide +kernel
theorem dX11_takes_5 : decode cX11_takes 5 = .ok (.ifCond .eq 11, 3) := by decide +kernel
theorem dX11_takes_8 : decode cX11_takes 8 = .ok (.iload_n 1, 1) := by decide +kernel
theorem dX11_takes_9 : decode cX11_takes 9 = .ok (.ifCond .eq 7, 3) := by decide +kernel
theorem dX11_takes_12 : decode cX11_takes 12 = .ok (.iconst 1, 1) := by decide +kernel
theorem dX11_takes_13 : decode cX11_takes 13 = .ok (.goto 4, 3) := by decide +kernel
theorem dX11_takes_16 : decode cX11_takes 16 = .ok (.iconst 0, 1) := by decide +kernel
theorem dX11_takes_17 : decode cX11_takes 17 = .ok (.putfield 259, 3) := by decide +kernel
theorem dX11_takes_20 : decode cX11_takes 20 = .ok (.aload_n 0, 1) := by decide +kernel
theorem dX11_takes_21 : decode cX11_takes 21 = .ok (.dup, 1) := by decide +kernel
theorem dX11_takes_22 : decode cX11_takes 22 = .ok (.getfield 256, 3) := by decide +kernel
theorem dX11_takes_25 : decode cX11_takes 25 = .ok (.aload_n 0, 1) := by decide +kernel
theorem dX11_takes_26 : decode cX11_takes 26 = .ok (.getfield 259, 3) := by decide +kernel
theorem dX11_takes_29 : decode cX11_takes 29 = .ok (.ifCond .eq 7, 3) := by decide +kernel
theorem dX11_takes_32 : decode cX11_takes 32 = .ok (.iconst 1, 1) := by decide +kernel
theorem dX11_takes_33 : decode cX11_takes 33 = .ok (.goto 4, 3) := by decide +kernel
theorem dX11_takes_36 : decode cX11_takes 36 = .ok (.iconst 0, 1) := by decide +kernel
theorem dX11_takes_37 : decode cX11_takes 37 = .ok (.iadd, 1) := by decide +kernel
theorem dX11_takes_38 : decode cX11_takes 38 = .ok (.putfield 256, 3) := by decide +kernel
theorem dX11_takes_41 : decode cX11_takes 41 = .ok (.return_, 1) := by decide +kernel
set_option maxHeartbeats 8000000 in
set_option maxRecDepth 100000 in
theorem mX11_takes (l : Launch) (G : gG) (da : Nat → Nat) (v : vSt) (x : gX) (r : Nat) (hk_r : kd r = 11) (p1 : Int32) (ho : oX11_takes r p1 v) : MV l yX11_takes cX11_takes 2 none rmX11_takes [.ref (ga G r), .int p1] G da v x 0 0 (fX11_takes r p1 v) x := by
  refine gofMV (own := RX11) (by decide) rfl (Nat.le_of_ble_eq_true rfl) (fun p e s m args below meth c ls Q X hH hl E => ?_)
  have hx := X.1
  have hb := X.2.1
  have hown := X.2.2.2.1
  have hts := X.2.2.2.2.1
  have hS : va_S (gA G) s.heap s.heap [] := va_S.rf
  unfold oX11_takes at ho
  have hl : lv_has ls 2 [(0, .ref (ga G r)), (1, .int p1)] := hl
  refine lv_aload_n hx hb dX11_takes_0 rfl (lv_at hl 0 rfl) ?_
  refine lv_aload_n hx hb dX11_takes_1 rfl (lv_at hl 0 rfl) ?_
  refine g_VernierDrawersModel_259 X hH hk_r dX11_takes_2 ?_
  have K2 : ∀ (y1 : Int32) (ls : Array Slot), y1 = (if ((v r 12) : Int32) = 0 then 0 else (if (p1 : Int32) = 0 then 0 else 1) : Int32) → lv_has ls 2 [(0, .ref (ga G r))] → W p l e rmX11_takes s m args below meth c s.heap [] 0 0 Q (F0 m 17 ls [.int y1, .ref (ga G r)]) := by
    intro y1 ls ey1 hl
    have ho := ho y1 ey1
    have hq3 := ho
    refine p_VernierDrawersModel_259 X hH hS hk_r (bn01 hq3).1 (bn01 hq3).2 dX11_takes_17 (fun H locs v4 ev4 hH hS => ?_)
    refine lv_aload_n hx hb dX11_takes_20 rfl (lv_at hl 0 rfl) ?_
    refine lv_dup hx hb dX11_takes_21 rfl ?_
    refine g_VernierDrawersModel_256 X hH hk_r dX11_takes_22 ?_
    refine lv_aload_n hx hb dX11_takes_25 rfl (lv_at hl 0 rfl) ?_
    refine g_VernierDrawersModel_259 X hH hk_r dX11_takes_26 ?_
    have K6 : ∀ (y5 : Int32) (ls : Array Slot), y5 = (if ((v4 r 12) : Int32) = 0 then 0 else 1 : Int32) → lv_has ls 2 [] → W p l e rmX11_takes s m args below meth c H locs 0 0 Q (F0 m 37 ls [.int y5, .int (v4 r 10), .ref (ga G r)]) := by
      intro y5 ls ey5 hl
      refine lv_iadd hx hb dX11_takes_37 ?_
      refine p_VernierDrawersModel_256 X hH hS hk_r dX11_takes_38 (fun H locs v7 ev7 hH hS => ?_)
      replace ey1 := Eq.symm ey1
      replace ev4 := Eq.symm ev4
      replace ey5 := Eq.symm ey5
      replace ev7 := Eq.symm ev7
      subst ey1 ev4 ey5 ev7
      exact E _ _ _ _ _ _ _ _ dX11_takes_41 (Eq.symm rfl) hH hS (Nat.zero_le _) (Nat.zero_le _)
    refine lv_if_eq (tgt := 36) hx hb dX11_takes_29 (by decide) (fun c6 => ?_) (fun c6 => ?_)
    · skip
      refine lv_iconst (v := 0) hx hb dX11_takes_36 (by decide) ?_
      exact K6 _ _ (Eq.symm ((if_pos c6).trans rfl)) (lv_sub hl [] rfl)
    · skip
      refine lv_iconst (v := 1) hx hb dX11_takes_32 (by decide) ?_
      refine lv_goto (tgt := 37) hx hb dX11_takes_33 (by decide) ?_
      exact K6 _ _ (Eq.symm ((if_neg c6).trans rfl)) (lv_sub hl [] rfl)
  refine lv_if_eq (tgt := 16) hx hb dX11_takes_5 (by decide) (fun c2 => ?_) (fun c2 => ?_)
  · skip
    refine lv_iconst (v := 0) hx hb dX11_takes_16 (by decide) ?_
    exact K2 _ _ (Eq.symm ((if_pos c2).trans rfl)) (lv_sub hl [0] rfl)
  · skip
    refine lv_iload_n hx hb dX11_takes_8 rfl (lv_at hl 1 rfl) ?_
    refine lv_if_eq (tgt := 16) hx hb dX11_takes_9 (by decide) (fun c3 => ?_) (fun c3 => ?_)
    · skip
      refine lv_iconst (v := 0) hx hb dX11_takes_16 (by decide) ?_
      exact K2 _ _ (Eq.symm ((if_neg c2).trans ((if_pos c3).trans rfl))) (lv_sub hl [0] rfl)
    · skip
      refine lv_iconst (v := 1) hx hb dX11_takes_12 (by decide) ?_
      refine lv_goto (tgt := 17) hx hb dX11_takes_13 (by decide) ?_
      exact K2 _ _ (Eq.symm ((if_neg c2).trans ((if_neg c3).trans rfl))) (lv_sub hl [0] rfl)
theorem k_X11_takes {p : Program} {l : Launch} {e : Env} {R : Room} {s : State} {m : MethodId} {args : Array Value} {below : List Frame} {meth : Method} {c : Code} {H : Heap} {locs : List Loc} {cells slots : Nat} {Q : State → Prop} {cc : ByteArray} {pc nL : Nat} {ls : Array Slot} {rest : List Value} {G : gG} {own : String} {da : Nat → Nat} {v : vSt} {x : gX} (X : CX G p s m args c cc nL own) (hS : va_S (gA G) s.heap H locs) (hH : Hp G da v x H) {r : Nat} (hk_r : kd r = 11) {p1 : Int32} (ho : oX11_takes r p1 v) {idx : Nat} (hml : Cond.methodLink own idx yX11_takes ∈ TT) (hls : ls.size = nL) (hsum : (rest.map fun v => v.category).sum ≤ 8) (hR : rmX11_takes.frames + 1 ≤ R.frames ∧ 8 + (2 + 11) + rmX11_takes.locals ≤ R.locals) (hcs : cells ≤ R.cells ∧ slots ≤ R.slots) (hdg : decode cc pc = .ok (.invokevirtual idx, 3)) (kk : ∀ (d : Nat → Nat) (H1 : Heap) (locs1 : List Loc) (v1 : vSt), v1 = fX11_takes r p1 v → Hp G d v1 x H1 → va_S (gA G) s.heap H1 locs1 → W p l e R s m args below meth c H1 locs1 cells slots Q (F0 m (pc + 3) ls rest)) : W p l e R s m args below meth c H locs cells slots Q (F0 m pc ls (.int p1 :: .ref (ga G r) :: rest)) := c_mv X.2.2.2.2.2.2 (runV (k := 1) X.1 X.2.1 X.2.2.1 X.2.2.2.1 X.2.2.2.2.1 (mX11_takes l G da v x r hk_r p1 ho) pW_bl hml t_im_X11_takes t_sel_X11_takes t_ini_VernierDrawersModel t_code_X11_takes ⟨rfl, by decide, by decide, by decide +kernel⟩ rfl rfl hR hcs (recvW X hH (by rw [hk_r]; decide) (by rw [hk_r]; decide) (ce_11 hk_r) rfl) (preW X hS hH) rfl hls rfl hsum hdg) hS kk
def lX11_takesNumber_4 (r : Nat) : Nat → Int32 → Int32 → vSt → Int32 × Int32 × vSt
  | 0, i1, i2, v3 => (i1, i2, v3)
  | n + 1, i1, i2, v3 => if ((v3 r 12) : Int32) = 0 then ((i1, i2, v3)) else (if (5 : Int32) ≤ i1 then ((i1, i2, v3)) else (if ((fX11_in (fX11_here r v3) 48 57) : Int32) = 0 then ((i1, i2, v3)) else (let v8 : vSt := u2 v3 r 10 ((v3 r 10) + 1); lX11_takesNumber_4 r n (i1 + 1) (((10 * i2) + (fX11_here r v3)) - 48) v8)))
def olX11_takesNumber_4 (r : Nat) : Nat → Int32 → Int32 → vSt → Prop
  | 0, _, _, _ => False
  | n + 1, i1, i2, v3 => ¬ (((v3 r 12) : Int32) = 0) → (¬ ((5 : Int32) ≤ i1) → ((oX11_here r v3) ∧ (¬ (((fX11_in (fX11_here r v3) 48 57) : Int32) = 0) → (∀ v8 : vSt, v8 = (u2 v3 r 10 ((v3 r 10) + 1)) → (olX11_takesNumber_4 r n (i1 + 1) (((10 * i2) + (fX11_here r v3)) - 48) v8)))))
def fX11_takesNumber (r : Nat) (v : vSt) : Int32 × vSt := let qy4 : Int32 × Int32 × vSt := (lX11_takesNumber_4 r (6) 0 0 v); let y4 := qy4.1; let y5 := qy4.2.1; let v6 := qy4.2.2; let y9 : Int32 := (if ((v6 r 12) : Int32) = 0 then 0 else (if (y4 : Int32) ≤ 0 then 0 else 1) : Int32); let v12 : vSt := u2 v6 r 12 y9; (y5, v12)
def oX11_takesNumber (r : Nat) (v : vSt) : Prop := olX11_takesNumber_4 r (6) 0 0 v ∧ (∀ (y4 : Int32) (y5 : Int32) (v6 : vSt), y4 = ((lX11_takesNumber_4 r (6) 0 0 v) : Int32 × Int32 × vSt).1 → y5 = ((lX11_takesNumber_4 r (6) 0 0 v) : Int32 × Int32 × vSt).2.1 → v6 = ((lX11_takesNumber_4 r (6) 0 0 v) : Int32 × Int32 × vSt).2.2 → ((∀ (y9 : Int32), y9 = ((if ((v6 r 12) : Int32) = 0 then 0 else (if (y4 : Int32) ≤ 0 then 0 else 1) : Int32) : Int32) → (((y9 : Int32) = 0 ∨ (y9 : Int32) = 1)))))
abbrev rmX11_takesNumber : Room := { frames := 1, cells := 0, slots := 0, locals := 22 }
theorem dX11_takesNumber_0 : decode cX11_takesNumber 0 = .ok (.iconst 0, 1) := by decide +kernel
theorem dX11_takesNumber_1 : decode cX11_takesNumber 1 = .ok (.istore_n 1, 1) := by decide +kernel
theorem dX11_takesNumber_2 : decode cX11_takesNumber 2 = .ok (.iconst 0, 1) := by decide +kernel
theorem dX11_takesNumber_3 : decode cX11_takesNumber 3 = .ok (.istore_n 2, 1) := by decide +kernel
theorem dX11_takesNumber_4 : decode cX11_takesNumber 4 = .ok (.aload_n 0, 1) := by decide +kernel
theorem dX11_takesNumber_5 : decode cX11_takesNumber 5 = .ok (.getfield 259, 3) := by decide +kernel
theorem dX11_takesNumber_8 : decode cX11_takesNumber 8 = .ok (.ifCond .eq 51, 3) := by decide +kernel
theorem dX11_takesNumber_11 : decode cX11_takesNumber 11 = .ok (.iload_n 2, 1) := by decide +kernel
theorem dX11_takesNumber_12 : decode cX11_takesNumber 12 = .ok (.iconst 5, 1) := by decide +kernel
theorem dX11_takesNumber_13 : decode cX11_takesNumber 13 = .ok (.if_icmp .ge 46, 3) := by decide +kernel
theorem dX11_takesNumber_16 : decode cX11_takesNumber 16 = .ok (.aload_n 0, 1) := by decide +kernel
theorem dX11_takesNumber_17 : decode cX11_takesNumber 17 = .ok (.invokevirtual 262, 3) := by decide +kernel
theorem dX11_takesNumber_20 : decode cX11_takesNumber 20 = .ok (.bipush 48, 2) := by decide +kernel
theorem dX11_takesNumber_22 : decode cX11_takesNumber 22 = .ok (.bipush 57, 2) := by decide +kernel
theorem dX11_takesNumber_24 : decode cX11_takesNumber 24 = .ok (.invokestatic 49, 3) := by decide +kernel
theorem dX11_takesNumber_27 : decode cX11_takesNumber 27 = .ok (.ifCond .eq 32, 3) := by decide +kernel
theorem dX11_takesNumber_30 : decode cX11_takesNumber 30 = .ok (.bipush 10, 2) := by decide +kernel
theorem dX11_takesNumber_32 : decode cX11_takesNumber 32 = .ok (.iload_n 1, 1) := by decide +kernel
theorem dX11_takesNumber_33 : decode cX11_takesNumber 33 = .ok (.imul, 1) := by decide +kernel
theorem dX11_takesNumber_34 : decode cX11_takesNumber 34 = .ok (.aload_n 0, 1) := by decide +kernel
theorem dX11_takesNumber_35 : decode cX11_takesNumber 35 = .ok (.invokevirtual 262, 3) := by decide +kernel
theorem dX11_takesNumber_38 : decode cX11_takesNumber 38 = .ok (.iadd, 1) := by decide +kernel
theorem dX11_takesNumber_39 : decode cX11_takesNumber 39 = .ok (.bipush 48, 2) := by decide +kernel
theorem dX11_takesNumber_41 : decode cX11_takesNumber 41 = .ok (.isub, 1) := by decide +kernel
theorem dX11_takesNumber_42 : decode cX11_takesNumber 42 = .ok (.istore_n 1, 1) := by decide +kernel
theorem dX11_takesNumber_43 : decode cX11_takesNumber 43 = .ok (.iinc 2 1, 3) := by decide +kernel
theorem dX11_takesNumber_46 : decode cX11_takesNumber 46 = .ok (.aload_n 0, 1) := by decide +kernel
theorem dX11_takesNumber_47 : decode cX11_takesNumber 47 = .ok (.dup, 1) := by decide +kernel
theorem dX11_takesNumber_48 : decode cX11_takesNumber 48 = .ok (.getfield 256, 3) := by decide +kernel
theorem dX11_takesNumber_51 : decode cX11_takesNumber 51 = .ok (.iconst 1, 1) := by decide +kernel
theorem dX11_takesNumber_52 : decode cX11_takesNumber 52 = .ok (.iadd, 1) := by decide +kernel
theorem dX11_takesNumber_53 : decode cX11_takesNumber 53 = .ok (.putfield 256, 3) := by decide +kernel
theorem dX11_takesNumber_56 : decode cX11_takesNumber 56 = .ok (.goto (-52), 3) := by decide +kernel
theorem dX11_takesNumber_59 : decode cX11_takesNumber 59 = .ok (.aload_n 0, 1) := by decide +kernel
theorem dX11_takesNumber_60 : decode cX11_takesNumber 60 = .ok (.aload_n 0, 1) := by decide +kernel
theorem dX11_takesNumber_61 : decode cX11_takesNumber 61 = .ok (.getfield 259, 3) := by decide +kernel
theorem dX11_takesNumber_64 : decode cX11_takesNumber 64 = .ok (.ifCond .eq 11, 3) := by decide +kernel
theorem dX11_takesNumber_67 : decode cX11_takesNumber 67 = .ok (.iload_n 2, 1) := by decide +kernel
theorem dX11_takesNumber_68 : decode cX11_takesNumber 68 = .ok (.ifCond .le 7, 3) := by decide +kernel
theorem dX11_takesNumber_71 : decode cX11_takesNumber 71 = .ok (.iconst 1, 1) := by decide +kernel
theorem dX11_takesNumber_72 : decode cX11_takesNumber 72 = .ok (.goto 4, 3) := by decide +kernel
theorem dX11_takesNumber_75 : decode cX11_takesNumber 75 = .ok (.iconst 0, 1) := by decide +kernel
theorem dX11_takesNumber_76 : decode cX11_takesNumber 76 = .ok (.putfield 259, 3) := by decide +kernel
theorem dX11_takesNumber_79 : decode cX11_takesNumber 79 = .ok (.iload_n 1, 1) := by decide +kernel
theorem dX11_takesNumber_80 : decode cX11_takesNumber 80 = .ok (.ireturn, 1) := by decide +kernel
set_option maxHeartbeats 8000000 in
set_option maxRecDepth 100000 in
theorem mX11_takesNumber (l : Launch) (G : gG) (da : Nat → Nat) (v : vSt) (x : gX) (r : Nat) (hk_r : kd r = 11) (ho : oX11_takesNumber r v) : MI l yX11_takesNumber cX11_takesNumber 3 (some .int) rmX11_takesNumber [.ref (ga G r)] G da v x 0 0 (fX11_takesNumber r v).1 (fX11_takesNumber r v).2 x := by
  refine gofMI (own := RX11) (by decide) rfl (Nat.le_of_ble_eq_true rfl) (fun p e s m args below meth c ls Q X hH hl E => ?_)
  have hx := X.1
  have hb := X.2.1
  have hown := X.2.2.2.1
  have hts := X.2.2.2.2.1
  have hS : va_S (gA G) s.heap s.heap [] := va_S.rf
  unfold oX11_takesNumber at ho
  have hl : lv_has ls 3 [(0, .ref (ga G r))] := hl
  refine lv_iconst (v := 0) hx hb dX11_takesNumber_0 (by decide) ?_
  refine lv_istore_n (lv' := [(1, .int 0), (0, .ref (ga G r))]) hx hb dX11_takesNumber_1 rfl hl (by decide) rfl (fun ls hl => ?_)
  refine lv_iconst (v := 0) hx hb dX11_takesNumber_2 (by decide) ?_
  refine lv_istore_n (lv' := [(2, .int 0), (1, .int 0), (0, .ref (ga G r))]) hx hb dX11_takesNumber_3 rfl hl (by decide) rfl (fun ls hl => ?_)
  have L7 : ∀ (n : Nat) (i1 : Int32) (i2 : Int32) (v3 : vSt) (da : Nat → Nat) (H : Heap) (locs : List Loc) (ls : Array Slot), olX11_takesNumber_4 r n i1 i2 v3 → Hp G da v3 x H → va_S (gA G) s.heap H locs → lv_has ls 3 [(2, .int i1), (1, .int i2), (0, .ref (ga G r))] → (∀ (y4 : Int32) (y5 : Int32) (v6 : vSt) (da : Nat → Nat) (H : Heap) (locs : List Loc) (ls : Array Slot), y4 = (lX11_takesNumber_4 r n i1 i2 v3 : Int32 × Int32 × vSt).1 → y5 = (lX11_takesNumber_4 r n i1 i2 v3 : Int32 × Int32 × vSt).2.1 → v6 = (lX11_takesNumber_4 r n i1 i2 v3 : Int32 × Int32 × vSt).2.2 → Hp G da v6 x H → va_S (gA G) s.heap H locs → lv_has ls 3 [(2, .int y4), (1, .int y5), (0, .ref (ga G r))] → W p l e rmX11_takesNumber s m args below meth c H locs 0 0 Q (F0 m 59 ls [])) → W p l e rmX11_takesNumber s m args below meth c H locs 0 0 Q (F0 m 4 ls []) := by
    clear ho
    intro n
    induction n with
    | zero =>
      intro i1 i2 v3 da H locs ls ho
      exact ho.elim
    | succ n ih =>
      intro i1 i2 v3 da H locs ls ho hH hS hl K8
      refine lv_aload_n hx hb dX11_takesNumber_4 rfl (lv_at hl 2 rfl) ?_
      refine g_VernierDrawersModel_259 X hH hk_r dX11_takesNumber_5 ?_
      refine lv_if_eq (tgt := 59) hx hb dX11_takesNumber_8 (by decide) (fun c4 => ?_) (fun c4 => ?_)
      · skip
        exact K8 _ _ _ _ _ _ _ (t31 (((lX11_takesNumber_4.eq_2 _ _ _ _ _)).trans ((if_pos c4).trans rfl))) (t32 (((lX11_takesNumber_4.eq_2 _ _ _ _ _)).trans ((if_pos c4).trans rfl))) (t33 (((lX11_takesNumber_4.eq_2 _ _ _ _ _)).trans ((if_pos c4).trans rfl))) hH hS (lv_sub hl [0, 1, 2] rfl)
      · have ho := ho c4
        refine lv_iload_n hx hb dX11_takesNumber_11 rfl (lv_at hl 0 rfl) ?_
        refine lv_iconst (v := 5) hx hb dX11_takesNumber_12 (by decide) ?_
        refine lv_icmp_ge (tgt := 59) hx hb dX11_takesNumber_13 (by decide) (fun c5 => ?_) (fun c5 => ?_)
        · skip
          exact K8 _ _ _ _ _ _ _ (t31 (((lX11_takesNumber_4.eq_2 _ _ _ _ _)).trans ((if_neg c4).trans ((if_pos c5).trans rfl)))) (t32 (((lX11_takesNumber_4.eq_2 _ _ _ _ _)).trans ((if_neg c4).trans ((if_pos c5).trans rfl)))) (t33 (((lX11_takesNumber_4.eq_2 _ _ _ _ _)).trans ((if_neg c4).trans ((if_pos c5).trans rfl)))) hH hS (lv_sub hl [0, 1, 2] rfl)
        · have ho := ho c5
          refine lv_aload_n hx hb dX11_takesNumber_16 rfl (lv_at hl 2 rfl) ?_
          have hq6 := ho.1
          have ho := ho.2
          refine k_X11_here X hS hH hk_r hq6 t_ml_VernierDrawersModel_262 hl.1 (Nat.le_of_ble_eq_true rfl) ⟨Nat.le_of_ble_eq_true rfl, Nat.le_of_ble_eq_true rfl⟩ ⟨Nat.zero_le _, Nat.zero_le _⟩ dX11_takesNumber_17 ?_
          refine lv_bipush (v := 48) hx hb dX11_takesNumber_20 (by decide) ?_
          refine lv_bipush (v := 57) hx hb dX11_takesNumber_22 (by decide) ?_
          refine k_X11_in X hS  t_ml_VernierDrawersModel_49 hl.1 (Nat.le_of_ble_eq_true rfl) ⟨Nat.le_of_ble_eq_true rfl, Nat.le_of_ble_eq_true rfl⟩ ⟨Nat.zero_le _, Nat.zero_le _⟩ dX11_takesNumber_24 ?_
          refine lv_if_eq (tgt := 59) hx hb dX11_takesNumber_27 (by decide) (fun c7 => ?_) (fun c7 => ?_)
          · skip
            exact K8 _ _ _ _ _ _ _ (t31 (((lX11_takesNumber_4.eq_2 _ _ _ _ _)).trans ((if_neg c4).trans ((if_neg c5).trans ((if_pos c7).trans rfl))))) (t32 (((lX11_takesNumber_4.eq_2 _ _ _ _ _)).trans ((if_neg c4).trans ((if_neg c5).trans ((if_pos c7).trans rfl))))) (t33 (((lX11_takesNumber_4.eq_2 _ _ _ _ _)).trans ((if_neg c4).trans ((if_neg c5).trans ((if_pos c7).trans rfl))))) hH hS (lv_sub hl [0, 1, 2] rfl)
          · have ho := ho c7
            refine lv_bipush (v := 10) hx hb dX11_takesNumber_30 (by decide) ?_
            refine lv_iload_n hx hb dX11_takesNumber_32 rfl (lv_at hl 1 rfl) ?_
            refine lv_imul hx hb dX11_takesNumber_33 ?_
            refine lv_aload_n hx hb dX11_takesNumber_34 rfl (lv_at hl 2 rfl) ?_
            refine k_X11_here X hS hH hk_r hq6 t_ml_VernierDrawersModel_262 hl.1 (Nat.le_of_ble_eq_true rfl) ⟨Nat.le_of_ble_eq_true rfl, Nat.le_of_ble_eq_true rfl⟩ ⟨Nat.zero_le _, Nat.zero_le _⟩ dX11_takesNumber_35 ?_
            refine lv_iadd hx hb dX11_takesNumber_38 ?_
            refine lv_bipush (v := 48) hx hb dX11_takesNumber_39 (by decide) ?_
            refine lv_isub hx hb dX11_takesNumber_41 ?_
            refine lv_istore_n (lv' := [(1, .int (((10 * i2) + (fX11_here r v3)) - 48)), (2, .int i1), (0, .ref (ga G r))]) hx hb dX11_takesNumber_42 rfl hl (by decide) rfl (fun ls hl => ?_)
            refine lv_iinc (v := i1 + 1) (lv' := [(2, .int (i1 + 1)), (1, .int (((10 * i2) + (fX11_here r v3)) - 48)), (0, .ref (ga G r))]) hx hb dX11_takesNumber_43 hl (k := 1) rfl rfl (by decide) rfl (fun ls hl => ?_)
            refine lv_aload_n hx hb dX11_takesNumber_46 rfl (lv_at hl 2 rfl) ?_
            refine lv_dup hx hb dX11_takesNumber_47 rfl ?_
            refine g_VernierDrawersModel_256 X hH hk_r dX11_takesNumber_48 ?_
            refine lv_iconst (v := 1) hx hb dX11_takesNumber_51 (by decide) ?_
            refine lv_iadd hx hb dX11_takesNumber_52 ?_
            refine p_VernierDrawersModel_256 X hH hS hk_r dX11_takesNumber_53 (fun H locs v8 ev8 hH hS => ?_)
            have ho := ho v8 ev8
            refine lv_goto (tgt := 4) hx hb dX11_takesNumber_56 (by decide) ?_
            replace ev8 := Eq.symm ev8
            subst ev8
            exact ih _ _ _ _ _ _ _ ho hH hS (lv_sub hl [0, 1, 2] rfl) (fun y4 y5 v6 da H locs ls q0 q1 q2 hH hS hl => K8 y4 y5 v6 da H locs ls (q0.trans (congrArg (fun z : Int32 × Int32 × vSt => z.1) (Eq.symm (((lX11_takesNumber_4.eq_2 _ _ _ _ _)).trans ((if_neg c4).trans ((if_neg c5).trans ((if_neg c7).trans rfl))))))) (q1.trans (congrArg (fun z : Int32 × Int32 × vSt => z.2.1) (Eq.symm (((lX11_takesNumber_4.eq_2 _ _ _ _ _)).trans ((if_neg c4).trans ((if_neg c5).trans ((if_neg c7).trans rfl))))))) (q2.trans (congrArg (fun z : Int32 × Int32 × vSt => z.2.2) (Eq.symm (((lX11_takesNumber_4.eq_2 _ _ _ _ _)).trans ((if_neg c4).trans ((if_neg c5).trans ((if_neg c7).trans rfl))))))) hH hS hl)
  have hol := ho.1
  refine L7 (6) 0 0 v _ _ _ _ hol hH hS (lv_sub hl [0, 1, 2] rfl) (fun y4 y5 v6 da H locs ls ey4 ey5 ev6 hH hS hl => ?_)
  have ho := ho.2 y4 y5 v6 ey4 ey5 ev6
  refine lv_aload_n hx hb dX11_takesNumber_59 rfl (lv_at hl 2 rfl) ?_
  refine lv_aload_n hx hb dX11_takesNumber_60 rfl (lv_at hl 2 rfl) ?_
  refine g_VernierDrawersModel_259 X hH hk_r dX11_takesNumber_61 ?_
  have K10 : ∀ (y9 : Int32) (ls : Array Slot), y9 = (if ((v6 r 12) : Int32) = 0 then 0 else (if (y4 : Int32) ≤ 0 then 0 else 1) : Int32) → lv_has ls 3 [(1, .int y5)] → W p l e rmX11_takesNumber s m args below meth c H locs 0 0 Q (F0 m 76 ls [.int y9, .ref (ga G r)]) := by
    intro y9 ls ey9 hl
    have ho := ho y9 ey9
    have hq11 := ho
    refine p_VernierDrawersModel_259 X hH hS hk_r (bn01 hq11).1 (bn01 hq11).2 dX11_takesNumber_76 (fun H locs v12 ev12 hH hS => ?_)
    refine lv_iload_n hx hb dX11_takesNumber_79 rfl (lv_at hl 0 rfl) ?_
    replace ey4 := Eq.symm ey4
    replace ey5 := Eq.symm ey5
    replace ev6 := Eq.symm ev6
    replace ey9 := Eq.symm ey9
    replace ev12 := Eq.symm ev12
    subst ey4 ey5 ev6 ey9 ev12
    exact E _ _ _ _ _ _ _ _ _ dX11_takesNumber_80 rfl (pr1 rfl) (pr2 rfl) hH hS (Nat.zero_le _) (Nat.zero_le _)
  refine lv_if_eq (tgt := 75) hx hb dX11_takesNumber_64 (by decide) (fun c10 => ?_) (fun c10 => ?_)
  · skip
    refine lv_iconst (v := 0) hx hb dX11_takesNumber_75 (by decide) ?_
    exact K10 _ _ (Eq.symm ((if_pos c10).trans rfl)) (lv_sub hl [1] rfl)
  · skip
    refine lv_iload_n hx hb dX11_takesNumber_67 rfl (lv_at hl 0 rfl) ?_
    refine lv_if_le (tgt := 75) hx hb dX11_takesNumber_68 (by decide) (fun c11 => ?_) (fun c11 => ?_)
    · skip
      refine lv_iconst (v := 0) hx hb dX11_takesNumber_75 (by decide) ?_
      exact K10 _ _ (Eq.symm ((if_neg c10).trans ((if_pos c11).trans rfl))) (lv_sub hl [1] rfl)
    · skip
      refine lv_iconst (v := 1) hx hb dX11_takesNumber_71 (by decide) ?_
      refine lv_goto (tgt := 76) hx hb dX11_takesNumber_72 (by decide) ?_
      exact K10 _ _ (Eq.symm ((if_neg c10).trans ((if_neg c11).trans rfl))) (lv_sub hl [1] rfl)
theorem k_X11_takesNumber {p : Program} {l : Launch} {e : Env} {R : Room} {s : State} {m : MethodId} {args : Array Value} {below : List Frame} {meth : Method} {c : Code} {H : Heap} {locs : List Loc} {cells slots : Nat} {Q : State → Prop} {cc : ByteArray} {pc nL : Nat} {ls : Array Slot} {rest : List Value} {G : gG} {own : String} {da : Nat → Nat} {v : vSt} {x : gX} (X : CX G p s m args c cc nL own) (hS : va_S (gA G) s.heap H locs) (hH : Hp G da v x H) {r : Nat} (hk_r : kd r = 11) (ho : oX11_takesNumber r v) {idx : Nat} (hml : Cond.methodLink own idx yX11_takesNumber ∈ TT) (hls : ls.size = nL) (hsum : (rest.map fun v => v.category).sum ≤ 8) (hR : rmX11_takesNumber.frames + 1 ≤ R.frames ∧ 8 + (3 + 11) + rmX11_takesNumber.locals ≤ R.locals) (hcs : cells ≤ R.cells ∧ slots ≤ R.slots) (hdg : decode cc pc = .ok (.invokevirtual idx, 3)) (kk : ∀ (d : Nat → Nat) (H1 : Heap) (locs1 : List Loc) (v1 : vSt), v1 = (fX11_takesNumber r v).2 → Hp G d v1 x H1 → va_S (gA G) s.heap H1 locs1 → W p l e R s m args below meth c H1 locs1 cells slots Q (F0 m (pc + 3) ls (.int (fX11_takesNumber r v).1 :: rest))) : W p l e R s m args below meth c H locs cells slots Q (F0 m pc ls (.ref (ga G r) :: rest)) := c_mi X.2.2.2.2.2.2 (runV (k := 0) X.1 X.2.1 X.2.2.1 X.2.2.2.1 X.2.2.2.2.1 (mX11_takesNumber l G da v x r hk_r ho) pW_bl hml t_im_X11_takesNumber t_sel_X11_takesNumber t_ini_VernierDrawersModel t_code_X11_takesNumber ⟨rfl, by decide, by decide, by decide +kernel⟩ rfl rfl hR hcs (recvW X hH (by rw [hk_r]; decide) (by rw [hk_r]; decide) (ce_11 hk_r) rfl) (preW X hS hH) rfl hls rfl hsum hdg) hS kk
def fX11_takesOrder (r : Nat) (v : vSt) : vSt := let v1 : vSt := u2 v r 11 (v r 10); let v2 : vSt := u2 v1 r 12 1; let v4 : vSt := u2 v2 r 13 (fX11_here r v2); let y5 : Int32 := (if ((v4 r 13) : Int32) = 117 then 1 else (if ((v4 r 13) : Int32) = 100 then 1 else 0) : Int32); let y7 : Int32 := (if ((v4 r 13) : Int32) = 109 then 1 else (if ((v4 r 13) : Int32) = 99 then 1 else (if ((v4 r 13) : Int32) = 112 then 1 else 0)) : Int32); let y9 : Int32 := (if (y5 : Int32) = 0 then (if (y7 : Int32) = 0 then (if ((v4 r 13) : Int32) = 106 then 1 else (if ((v4 r 13) : Int32) = 102 then 1 else 0)) else 1) else 1 : Int32); let v12 : vSt := fX11_takes r y9 v4; let v13 : vSt := (if (y5 : Int32) = 0 then (let v16 : vSt := (fX11_takesNumber r v12).2; let v17 : vSt := u2 v16 r 14 ((fX11_takesNumber r v12).1); v17) else v12 : vSt); let v15 : vSt := (if (y7 : Int32) = 0 then v13 else (let y18 : Int32 := (if ((fX11_here r v13) : Int32) = 44 then 1 else 0 : Int32); let v21 : vSt := fX11_takes r y18 v13; let v23 : vSt := (fX11_takesNumber r v21).2; let v24 : vSt := u2 v23 r 15 ((fX11_takesNumber r v21).1); v24) : vSt); let y18 : Int32 := (if ((fX11_here r v15) : Int32) = 59 then 1 else 0 : Int32); let v21 : vSt := fX11_takes r y18 v15; v21
def oX11_takesOrder (r : Nat) (v : vSt) : Prop := ∀ v1 : vSt, v1 = (u2 v r 11 (v r 10)) → (∀ v2 : vSt, v2 = (u2 v1 r 12 1) → ((oX11_here r v2) ∧ (∀ v4 : vSt, v4 = (u2 v2 r 13 (fX11_here r v2)) → ((∀ (y5 : Int32), y5 = ((if ((v4 r 13) : Int32) = 117 then 1 else (if ((v4 r 13) : Int32) = 100 then 1 else 0) : Int32) : Int32) → ((∀ (y7 : Int32), y7 = ((if ((v4 r 13) : Int32) = 109 then 1 else (if ((v4 r 13) : Int32) = 99 then 1 else (if ((v4 r 13) : Int32) = 112 then 1 else 0)) : Int32) : Int32) → ((∀ (y9 : Int32), y9 = ((if (y5 : Int32) = 0 then (if (y7 : Int32) = 0 then (if ((v4 r 13) : Int32) = 106 then 1 else (if ((v4 r 13) : Int32) = 102 then 1 else 0)) else 1) else 1 : Int32) : Int32) → ((oX11_takes r y9 v4) ∧ (∀ v12 : vSt, v12 = (fX11_takes r y9 v4) → ((((y5 : Int32) = 0) → (oX11_takesNumber r v12)) ∧ (∀ (v13 : vSt), v13 = ((if (y5 : Int32) = 0 then (let v16 : vSt := (fX11_takesNumber r v12).2; let v17 : vSt := u2 v16 r 14 ((fX11_takesNumber r v12).1); v17) else v12 : vSt) : vSt) → ((¬ ((y7 : Int32) = 0) → ((oX11_here r v13) ∧ ((∀ (y18 : Int32), y18 = ((if ((fX11_here r v13) : Int32) = 44 then 1 else 0 : Int32) : Int32) → ((oX11_takes r y18 v13) ∧ (∀ v21 : vSt, v21 = (fX11_takes r y18 v13) → (oX11_takesNumber r v21))))))) ∧ (∀ (v15 : vSt), v15 = ((if (y7 : Int32) = 0 then v13 else (let y18 : Int32 := (if ((fX11_here r v13) : Int32) = 44 then 1 else 0 : Int32); let v21 : vSt := fX11_takes r y18 v13; let v23 : vSt := (fX11_takesNumber r v21).2; let v24 : vSt := u2 v23 r 15 ((fX11_takesNumber r v21).1); v24) : vSt) : vSt) → ((oX11_here r v15) ∧ ((∀ (y18 : Int32), y18 = ((if ((fX11_here r v15) : Int32) = 59 then 1 else 0 : Int32) : Int32) → (oX11_takes r y18 v15)))))))))))))))))))
abbrev rmX11_takesOrder : Room := { frames := 2, cells := 0, slots := 0, locals := 44 }
theorem dX11_takesOrder_0 : decode cX11_takesOrder 0 = .ok (.aload_n 0, 1) := by decide +kernel
theorem dX11_takesOrder_1 : decode cX11_takesOrder 1 = .ok (.aload_n 0, 1) := by decide +kernel
theorem dX11_takesOrder_2 : decode cX11_takesOrder 2 = .ok (.getfield 256, 3) := by decide +kernel
theorem dX11_takesOrder_5 : decode cX11_takesOrder 5 = .ok (.putfield 265, 3) := by decide +kernel
theorem dX11_takesOrder_8 : decode cX11_takesOrder 8 = .ok (.aload_n 0, 1) := by decide +kernel
theorem dX11_takesOrder_9 : decode cX11_takesOrder 9 = .ok (.iconst 1, 1) := by decide +kernel
theorem dX11_takesOrder_10 : decode cX11_takesOrder 10 = .ok (.putfield 259, 3) := by decide +kernel
theorem dX11_takesOrder_13 : decode cX11_takesOrder 13 = .ok (.aload_n 0, 1) := by decide +kernel
theorem dX11_takesOrder_14 : decode cX11_takesOrder 14 = .ok (.aload_n 0, 1) := by decide +kernel
theorem dX11_takesOrder_15 : decode cX11_takesOrder 15 = .ok (.invokevirtual 262, 3) := by decide +kernel
theorem dX11_takesOrder_18 : decode cX11_takesOrder 18 = .ok (.putfield 268, 3) := by decide +kernel
theorem dX11_takesOrder_21 : decode cX11_takesOrder 21 = .ok (.aload_n 0, 1) := by decide +kernel
theorem dX11_takesOrder_22 : decode cX11_takesOrder 22 = .ok (.getfield 268, 3) := by decide +kernel
theorem dX11_takesOrder_25 : decode cX11_takesOrder 25 = .ok (.bipush 117, 2) := by decide +kernel
theorem dX11_takesOrder_27 : decode cX11_takesOrder 27 = .ok (.if_icmp .eq 12, 3) := by decide +kernel
theorem dX11_takesOrder_30 : decode cX11_takesOrder 30 = .ok (.aload_n 0, 1) := by decide +kernel
theorem dX11_takesOrder_31 : decode cX11_takesOrder 31 = .ok (.getfield 268, 3) := by decide +kernel
theorem dX11_takesOrder_34 : decode cX11_takesOrder 34 = .ok (.bipush 100, 2) := by decide +kernel
theorem dX11_takesOrder_36 : decode cX11_takesOrder 36 = .ok (.if_icmp .ne 7, 3) := by decide +kernel
theorem dX11_takesOrder_39 : decode cX11_takesOrder 39 = .ok (.iconst 1, 1) := by decide +kernel
theorem dX11_takesOrder_40 : decode cX11_takesOrder 40 = .ok (.goto 4, 3) := by decide +kernel
theorem dX11_takesOrder_43 : decode cX11_takesOrder 43 = .ok (.iconst 0, 1) := by decide +kernel
theorem dX11_takesOrder_44 : decode cX11_takesOrder 44 = .ok (.istore_n 1, 1) := by decide +kernel
theorem dX11_takesOrder_45 : decode cX11_takesOrder 45 = .ok (.aload_n 0, 1) := by decide +kernel
theorem dX11_takesOrder_46 : decode cX11_takesOrder 46 = .ok (.getfield 268, 3) := by decide +kernel
theorem dX11_takesOrder_49 : decode cX11_takesOrder 49 = .ok (.bipush 109, 2) := by decide +kernel
theorem dX11_takesOrder_51 : decode cX11_takesOrder 51 = .ok (.if_icmp .eq 21, 3) := by decide +kernel
theorem dX11_takesOrder_54 : decode cX11_takesOrder 54 = .ok (.aload_n 0, 1) := by decide +kernel
theorem dX11_takesOrder_55 : decode cX11_takesOrder 55 = .ok (.getfield 268, 3) := by decide +kernel
theorem dX11_takesOrder_58 : decode cX11_takesOrder 58 = .ok (.bipush 99, 2) := by decide +kernel
theorem dX11_takesOrder_60 : decode cX11_takesOrder 60 = .ok (.if_icmp .eq 12, 3) := by decide +kernel
theorem dX11_takesOrder_63 : decode cX11_takesOrder 63 = .ok (.aload_n 0, 1) := by decide +kernel
theorem dX11_takesOrder_64 : decode cX11_takesOrder 64 = .ok (.getfield 268, 3) := by decide +kernel
theorem dX11_takesOrder_67 : decode cX11_takesOrder 67 = .ok (.bipush 112, 2) := by decide +kernel
theorem dX11_takesOrder_69 : decode cX11_takesOrder 69 = .ok (.if_icmp .ne 7, 3) := by decide +kernel
theorem dX11_takesOrder_72 : decode cX11_takesOrder 72 = .ok (.iconst 1, 1) := by decide +kernel
theorem dX11_takesOrder_73 : decode cX11_takesOrder 73 = .ok (.goto 4, 3) := by decide +kernel
theorem dX11_takesOrder_76 : decode cX11_takesOrder 76 = .ok (.iconst 0, 1) := by decide +kernel
theorem dX11_takesOrder_77 : decode cX11_takesOrder 77 = .ok (.istore_n 2, 1) := by decide +kernel
theorem dX11_takesOrder_78 : decode cX11_takesOrder 78 = .ok (.aload_n 0, 1) := by decide +kernel
theorem dX11_takesOrder_79 : decode cX11_takesOrder 79 = .ok (.iload_n 1, 1) := by decide +kernel
theorem dX11_takesOrder_80 : decode cX11_takesOrder 80 = .ok (.ifCond .ne 25, 3) := by decide +kernel
theorem dX11_takesOrder_83 : decode cX11_takesOrder 83 = .ok (.iload_n 2, 1) := by decide +kernel
theorem dX11_takesOrder_84 : decode cX11_takesOrder 84 = .ok (.ifCond .ne 21, 3) := by decide +kernel
theorem dX11_takesOrder_87 : decode cX11_takesOrder 87 = .ok (.aload_n 0, 1) := by decide +kernel
theorem dX11_takesOrder_88 : decode cX11_takesOrder 88 = .ok (.getfield 268, 3) := by decide +kernel
theorem dX11_takesOrder_91 : decode cX11_takesOrder 91 = .ok (.bipush 106, 2) := by decide +kernel
theorem dX11_takesOrder_93 : decode cX11_takesOrder 93 = .ok (.if_icmp .eq 12, 3) := by decide +kernel
theorem dX11_takesOrder_96 : decode cX11_takesOrder 96 = .ok (.aload_n 0, 1) := by decide +kernel
theorem dX11_takesOrder_97 : decode cX11_takesOrder 97 = .ok (.getfield 268, 3) := by decide +kernel
theorem dX11_takesOrder_100 : decode cX11_takesOrder 100 = .ok (.bipush 102, 2) := by decide +kernel
theorem dX11_takesOrder_102 : decode cX11_takesOrder 102 = .ok (.if_icmp .ne 7, 3) := by decide +kernel
theorem dX11_takesOrder_105 : decode cX11_takesOrder 105 = .ok (.iconst 1, 1) := by decide +kernel
theorem dX11_takesOrder_106 : decode cX11_takesOrder 106 = .ok (.goto 4, 3) := by decide +kernel
theorem dX11_takesOrder_109 : decode cX11_takesOrder 109 = .ok (.iconst 0, 1) := by decide +kernel
theorem dX11_takesOrder_110 : decode cX11_takesOrder 110 = .ok (.invokevirtual 271, 3) := by decide +kernel
theorem dX11_takesOrder_113 : decode cX11_takesOrder 113 = .ok (.iload_n 1, 1) := by decide +kernel
theorem dX11_takesOrder_114 : decode cX11_takesOrder 114 = .ok (.ifCond .ne 11, 3) := by decide +kernel
theorem dX11_takesOrder_117 : decode cX11_takesOrder 117 = .ok (.aload_n 0, 1) := by decide +kernel
theorem dX11_takesOrder_118 : decode cX11_takesOrder 118 = .ok (.aload_n 0, 1) := by decide +kernel
theorem dX11_takesOrder_119 : decode cX11_takesOrder 119 = .ok (.invokevirtual 275, 3) := by decide +kernel
theorem dX11_takesOrder_122 : decode cX11_takesOrder 122 = .ok (.putfield 278, 3) := by decide +kernel
theorem dX11_takesOrder_125 : decode cX11_takesOrder 125 = .ok (.iload_n 2, 1) := by decide +kernel
theorem dX11_takesOrder_126 : decode cX11_takesOrder 126 = .ok (.ifCond .eq 29, 3) := by decide +kernel
theorem dX11_takesOrder_129 : decode cX11_takesOrder 129 = .ok (.aload_n 0, 1) := by decide +kernel
theorem dX11_takesOrder_130 : decode cX11_takesOrder 130 = .ok (.aload_n 0, 1) := by decide +kernel
theorem dX11_takesOrder_131 : decode cX11_takesOrder 131 = .ok (.invokevirtual 262, 3) := by decide +kernel
theorem dX11_takesOrder_134 : decode cX11_takesOrder 134 = .ok (.bipush 44, 2) := by decide +kernel
theorem dX11_takesOrder_136 : decode cX11_takesOrder 136 = .ok (.if_icmp .ne 7, 3) := by decide +kernel
theorem dX11_takesOrder_139 : decode cX11_takesOrder 139 = .ok (.iconst 1, 1) := by decide +kernel
theorem dX11_takesOrder_140 : decode cX11_takesOrder 140 = .ok (.goto 4, 3) := by decide +kernel
theorem dX11_takesOrder_143 : decode cX11_takesOrder 143 = .ok (.iconst 0, 1) := by decide +kernel
theorem dX11_takesOrder_144 : decode cX11_takesOrder 144 = .ok (.invokevirtual 271, 3) := by decide +kernel
theorem dX11_takesOrder_147 : decode cX11_takesOrder 147 = .ok (.aload_n 0, 1) := by decide +kernel
theorem dX11_takesOrder_148 : decode cX11_takesOrder 148 = .ok (.aload_n 0, 1) := by decide +kernel
theorem dX11_takesOrder_149 : decode cX11_takesOrder 149 = .ok (.invokevirtual 275, 3) := by decide +kernel
theorem dX11_takesOrder_152 : decode cX11_takesOrder 152 = .ok (.putfield 281, 3) := by decide +kernel
theorem dX11_takesOrder_155 : decode cX11_takesOrder 155 = .ok (.aload_n 0, 1) := by decide +kernel
theorem dX11_takesOrder_156 : decode cX11_takesOrder 156 = .ok (.aload_n 0, 1) := by decide +kernel
theorem dX11_takesOrder_157 : decode cX11_takesOrder 157 = .ok (.invokevirtual 262, 3) := by decide +kernel
theorem dX11_takesOrder_160 : decode cX11_takesOrder 160 = .ok (.bipush 59, 2) := by decide +kernel
theorem dX11_takesOrder_162 : decode cX11_takesOrder 162 = .ok (.if_icmp .ne 7, 3) := by decide +kernel
theorem dX11_takesOrder_165 : decode cX11_takesOrder 165 = .ok (.iconst 1, 1) := by decide +kernel
theorem dX11_takesOrder_166 : decode cX11_takesOrder 166 = .ok (.goto 4, 3) := by decide +kernel
theorem dX11_takesOrder_169 : decode cX11_takesOrder 169 = .ok (.iconst 0, 1) := by decide +kernel
theorem dX11_takesOrder_170 : decode cX11_takesOrder 170 = .ok (.invokevirtual 271, 3) := by decide +kernel
theorem dX11_takesOrder_173 : decode cX11_takesOrder 173 = .ok (.return_, 1) := by decide +kernel
set_option maxHeartbeats 8000000 in
set_option maxRecDepth 100000 in
theorem mX11_takesOrder (l : Launch) (G : gG) (da : Nat → Nat) (v : vSt) (x : gX) (r : Nat) (hk_r : kd r = 11) (ho : oX11_takesOrder r v) : MV l yX11_takesOrder cX11_takesOrder 3 none rmX11_takesOrder [.ref (ga G r)] G da v x 0 0 (fX11_takesOrder r v) x := by
  refine gofMV (own := RX11) (by decide) rfl (Nat.le_of_ble_eq_true rfl) (fun p e s m args below meth c ls Q X hH hl E => ?_)
  have hx := X.1
  have hb := X.2.1
  have hown := X.2.2.2.1
  have hts := X.2.2.2.2.1
  have hS : va_S (gA G) s.heap s.heap [] := va_S.rf
  unfold oX11_takesOrder at ho
  have hl : lv_has ls 3 [(0, .ref (ga G r))] := hl
  refine lv_aload_n hx hb dX11_takesOrder_0 rfl (lv_at hl 0 rfl) ?_
  refine lv_aload_n hx hb dX11_takesOrder_1 rfl (lv_at hl 0 rfl) ?_
  refine g_VernierDrawersModel_256 X hH hk_r dX11_takesOrder_2 ?_
  refine p_VernierDrawersModel_265 X hH hS hk_r dX11_takesOrder_5 (fun H locs v1 ev1 hH hS => ?_)
  have ho := ho v1 ev1
  refine lv_aload_n hx hb dX11_takesOrder_8 rfl (lv_at hl 0 rfl) ?_
  refine lv_iconst (v := 1) hx hb dX11_takesOrder_9 (by decide) ?_
  refine p_VernierDrawersModel_259 X hH hS hk_r rfl rfl dX11_takesOrder_10 (fun H locs v2 ev2 hH hS => ?_)
  have ho := ho v2 ev2
  refine lv_aload_n hx hb dX11_takesOrder_13 rfl (lv_at hl 0 rfl) ?_
  refine lv_aload_n hx hb dX11_takesOrder_14 rfl (lv_at hl 0 rfl) ?_
  have hq3 := ho.1
  have ho := ho.2
  refine k_X11_here X hS hH hk_r hq3 t_ml_VernierDrawersModel_262 hl.1 (Nat.le_of_ble_eq_true rfl) ⟨Nat.le_of_ble_eq_true rfl, Nat.le_of_ble_eq_true rfl⟩ ⟨Nat.zero_le _, Nat.zero_le _⟩ dX11_takesOrder_15 ?_
  refine p_VernierDrawersModel_268 X hH hS hk_r dX11_takesOrder_18 (fun H locs v4 ev4 hH hS => ?_)
  have ho := ho v4 ev4
  refine lv_aload_n hx hb dX11_takesOrder_21 rfl (lv_at hl 0 rfl) ?_
  refine g_VernierDrawersModel_268 X hH hk_r dX11_takesOrder_22 ?_
  refine lv_bipush (v := 117) hx hb dX11_takesOrder_25 (by decide) ?_
  have K6 : ∀ (y5 : Int32) (ls : Array Slot), y5 = (if ((v4 r 13) : Int32) = 117 then 1 else (if ((v4 r 13) : Int32) = 100 then 1 else 0) : Int32) → lv_has ls 3 [(0, .ref (ga G r))] → W p l e rmX11_takesOrder s m args below meth c H locs 0 0 Q (F0 m 44 ls [.int y5]) := by
    intro y5 ls ey5 hl
    have ho := ho y5 ey5
    refine lv_istore_n (lv' := [(1, .int y5), (0, .ref (ga G r))]) hx hb dX11_takesOrder_44 rfl hl (by decide) rfl (fun ls hl => ?_)
    refine lv_aload_n hx hb dX11_takesOrder_45 rfl (lv_at hl 1 rfl) ?_
    refine g_VernierDrawersModel_268 X hH hk_r dX11_takesOrder_46 ?_
    refine lv_bipush (v := 109) hx hb dX11_takesOrder_49 (by decide) ?_
    have K8 : ∀ (y7 : Int32) (ls : Array Slot), y7 = (if ((v4 r 13) : Int32) = 109 then 1 else (if ((v4 r 13) : Int32) = 99 then 1 else (if ((v4 r 13) : Int32) = 112 then 1 else 0)) : Int32) → lv_has ls 3 [(1, .int y5), (0, .ref (ga G r))] → W p l e rmX11_takesOrder s m args below meth c H locs 0 0 Q (F0 m 77 ls [.int y7]) := by
      intro y7 ls ey7 hl
      have ho := ho y7 ey7
      refine lv_istore_n (lv' := [(2, .int y7), (1, .int y5), (0, .ref (ga G r))]) hx hb dX11_takesOrder_77 rfl hl (by decide) rfl (fun ls hl => ?_)
      refine lv_aload_n hx hb dX11_takesOrder_78 rfl (lv_at hl 2 rfl) ?_
      refine lv_iload_n hx hb dX11_takesOrder_79 rfl (lv_at hl 1 rfl) ?_
      have K10 : ∀ (y9 : Int32) (ls : Array Slot), y9 = (if (y5 : Int32) = 0 then (if (y7 : Int32) = 0 then (if ((v4 r 13) : Int32) = 106 then 1 else (if ((v4 r 13) : Int32) = 102 then 1 else 0)) else 1) else 1 : Int32) → lv_has ls 3 [(2, .int y7), (1, .int y5), (0, .ref (ga G r))] → W p l e rmX11_takesOrder s m args below meth c H locs 0 0 Q (F0 m 110 ls [.int y9, .ref (ga G r)]) := by
        intro y9 ls ey9 hl
        have ho := ho y9 ey9
        have hq11 := ho.1
        have ho := ho.2
        refine k_X11_takes X hS hH hk_r hq11 t_ml_VernierDrawersModel_271 hl.1 (Nat.le_of_ble_eq_true rfl) ⟨Nat.le_of_ble_eq_true rfl, Nat.le_of_ble_eq_true rfl⟩ ⟨Nat.zero_le _, Nat.zero_le _⟩ dX11_takesOrder_110 (fun da H locs v12 ev12 hH hS => ?_)
        have ho := ho v12 ev12
        refine lv_iload_n hx hb dX11_takesOrder_113 rfl (lv_at hl 1 rfl) ?_
        have K14 : ∀ (v13 : vSt) (da : Nat → Nat) (H : Heap) (locs : List Loc) (ls : Array Slot), v13 = (if (y5 : Int32) = 0 then (let v16 : vSt := (fX11_takesNumber r v12).2; let v17 : vSt := u2 v16 r 14 ((fX11_takesNumber r v12).1); v17) else v12 : vSt) → Hp G da v13 x H → va_S (gA G) s.heap H locs → lv_has ls 3 [(2, .int y7), (0, .ref (ga G r))] → W p l e rmX11_takesOrder s m args below meth c H locs 0 0 Q (F0 m 125 ls []) := by
          intro v13 da H locs ls ev13 hH hS hl
          have ho := ho.2 v13 ev13
          refine lv_iload_n hx hb dX11_takesOrder_125 rfl (lv_at hl 0 rfl) ?_
          have K16 : ∀ (v15 : vSt) (da : Nat → Nat) (H : Heap) (locs : List Loc) (ls : Array Slot), v15 = (if (y7 : Int32) = 0 then v13 else (let y18 : Int32 := (if ((fX11_here r v13) : Int32) = 44 then 1 else 0 : Int32); let v21 : vSt := fX11_takes r y18 v13; let v23 : vSt := (fX11_takesNumber r v21).2; let v24 : vSt := u2 v23 r 15 ((fX11_takesNumber r v21).1); v24) : vSt) → Hp G da v15 x H → va_S (gA G) s.heap H locs → lv_has ls 3 [(0, .ref (ga G r))] → W p l e rmX11_takesOrder s m args below meth c H locs 0 0 Q (F0 m 155 ls []) := by
            intro v15 da H locs ls ev15 hH hS hl
            have ho := ho.2 v15 ev15
            refine lv_aload_n hx hb dX11_takesOrder_155 rfl (lv_at hl 0 rfl) ?_
            refine lv_aload_n hx hb dX11_takesOrder_156 rfl (lv_at hl 0 rfl) ?_
            have hq17 := ho.1
            have ho := ho.2
            refine k_X11_here X hS hH hk_r hq17 t_ml_VernierDrawersModel_262 hl.1 (Nat.le_of_ble_eq_true rfl) ⟨Nat.le_of_ble_eq_true rfl, Nat.le_of_ble_eq_true rfl⟩ ⟨Nat.zero_le _, Nat.zero_le _⟩ dX11_takesOrder_157 ?_
            refine lv_bipush (v := 59) hx hb dX11_takesOrder_160 (by decide) ?_
            have K19 : ∀ (y18 : Int32) (ls : Array Slot), y18 = (if ((fX11_here r v15) : Int32) = 59 then 1 else 0 : Int32) → lv_has ls 3 [] → W p l e rmX11_takesOrder s m args below meth c H locs 0 0 Q (F0 m 170 ls [.int y18, .ref (ga G r)]) := by
              intro y18 ls ey18 hl
              have ho := ho y18 ey18
              have hq20 := ho
              refine k_X11_takes X hS hH hk_r hq20 t_ml_VernierDrawersModel_271 hl.1 (Nat.le_of_ble_eq_true rfl) ⟨Nat.le_of_ble_eq_true rfl, Nat.le_of_ble_eq_true rfl⟩ ⟨Nat.zero_le _, Nat.zero_le _⟩ dX11_takesOrder_170 (fun da H locs v21 ev21 hH hS => ?_)
              replace ev1 := Eq.symm ev1
              replace ev2 := Eq.symm ev2
              replace ev4 := Eq.symm ev4
              replace ey5 := Eq.symm ey5
              replace ey7 := Eq.symm ey7
              replace ey9 := Eq.symm ey9
              replace ev12 := Eq.symm ev12
              replace ev13 := Eq.symm ev13
              replace ev15 := Eq.symm ev15
              replace ey18 := Eq.symm ey18
              replace ev21 := Eq.symm ev21
              subst ev1 ev2 ev4 ey5 ey7 ey9 ev12 ev13 ev15 ey18 ev21
              exact E _ _ _ _ _ _ _ _ dX11_takesOrder_173 (Eq.symm rfl) hH hS (Nat.zero_le _) (Nat.zero_le _)
            refine lv_icmp_ne (tgt := 169) hx hb dX11_takesOrder_162 (by decide) (fun c19 => ?_) (fun c19 => ?_)
            · skip
              refine lv_iconst (v := 0) hx hb dX11_takesOrder_169 (by decide) ?_
              exact K19 _ _ (Eq.symm ((if_neg c19).trans rfl)) (lv_sub hl [] rfl)
            · skip
              refine lv_iconst (v := 1) hx hb dX11_takesOrder_165 (by decide) ?_
              refine lv_goto (tgt := 170) hx hb dX11_takesOrder_166 (by decide) ?_
              exact K19 _ _ (Eq.symm ((if_pos c19).trans rfl)) (lv_sub hl [] rfl)
          have ho := ho.1
          refine lv_if_eq (tgt := 155) hx hb dX11_takesOrder_126 (by decide) (fun c16 => ?_) (fun c16 => ?_)
          · skip
            exact K16 _ _ _ _ _ (Eq.symm ((if_pos c16).trans rfl)) hH hS (lv_sub hl [1] rfl)
          · have ho := ho c16
            refine lv_aload_n hx hb dX11_takesOrder_129 rfl (lv_at hl 1 rfl) ?_
            refine lv_aload_n hx hb dX11_takesOrder_130 rfl (lv_at hl 1 rfl) ?_
            have hq17 := ho.1
            have ho := ho.2
            refine k_X11_here X hS hH hk_r hq17 t_ml_VernierDrawersModel_262 hl.1 (Nat.le_of_ble_eq_true rfl) ⟨Nat.le_of_ble_eq_true rfl, Nat.le_of_ble_eq_true rfl⟩ ⟨Nat.zero_le _, Nat.zero_le _⟩ dX11_takesOrder_131 ?_
            refine lv_bipush (v := 44) hx hb dX11_takesOrder_134 (by decide) ?_
            have K19 : ∀ (y18 : Int32) (ls : Array Slot), y18 = (if ((fX11_here r v13) : Int32) = 44 then 1 else 0 : Int32) → lv_has ls 3 [(0, .ref (ga G r))] → W p l e rmX11_takesOrder s m args below meth c H locs 0 0 Q (F0 m 144 ls [.int y18, .ref (ga G r)]) := by
              intro y18 ls ey18 hl
              have ho := ho y18 ey18
              have hq20 := ho.1
              have ho := ho.2
              refine k_X11_takes X hS hH hk_r hq20 t_ml_VernierDrawersModel_271 hl.1 (Nat.le_of_ble_eq_true rfl) ⟨Nat.le_of_ble_eq_true rfl, Nat.le_of_ble_eq_true rfl⟩ ⟨Nat.zero_le _, Nat.zero_le _⟩ dX11_takesOrder_144 (fun da H locs v21 ev21 hH hS => ?_)
              have ho := ho v21 ev21
              refine lv_aload_n hx hb dX11_takesOrder_147 rfl (lv_at hl 0 rfl) ?_
              refine lv_aload_n hx hb dX11_takesOrder_148 rfl (lv_at hl 0 rfl) ?_
              have hq22 := ho
              refine k_X11_takesNumber X hS hH hk_r hq22 t_ml_VernierDrawersModel_275 hl.1 (Nat.le_of_ble_eq_true rfl) ⟨Nat.le_of_ble_eq_true rfl, Nat.le_of_ble_eq_true rfl⟩ ⟨Nat.zero_le _, Nat.zero_le _⟩ dX11_takesOrder_149 (fun da H locs v23 ev23 hH hS => ?_)
              refine p_VernierDrawersModel_281 X hH hS hk_r dX11_takesOrder_152 (fun H locs v24 ev24 hH hS => ?_)
              replace ey18 := Eq.symm ey18
              replace ev21 := Eq.symm ev21
              replace ev23 := Eq.symm ev23
              replace ev24 := Eq.symm ev24
              subst ey18 ev21 ev23 ev24
              exact K16 _ _ _ _ _ (Eq.symm ((if_neg c16).trans rfl)) hH hS (lv_sub hl [0] rfl)
            refine lv_icmp_ne (tgt := 143) hx hb dX11_takesOrder_136 (by decide) (fun c19 => ?_) (fun c19 => ?_)
            · skip
              refine lv_iconst (v := 0) hx hb dX11_takesOrder_143 (by decide) ?_
              exact K19 _ _ (Eq.symm ((if_neg c19).trans rfl)) (lv_sub hl [1] rfl)
            · skip
              refine lv_iconst (v := 1) hx hb dX11_takesOrder_139 (by decide) ?_
              refine lv_goto (tgt := 144) hx hb dX11_takesOrder_140 (by decide) ?_
              exact K19 _ _ (Eq.symm ((if_pos c19).trans rfl)) (lv_sub hl [1] rfl)
        have ho := ho.1
        refine lv_if_ne (tgt := 125) hx hb dX11_takesOrder_114 (by decide) (fun c14 => ?_) (fun c14 => ?_)
        · skip
          exact K14 _ _ _ _ _ (Eq.symm ((if_neg c14).trans rfl)) hH hS (lv_sub hl [0, 2] rfl)
        · have ho := ho c14
          refine lv_aload_n hx hb dX11_takesOrder_117 rfl (lv_at hl 2 rfl) ?_
          refine lv_aload_n hx hb dX11_takesOrder_118 rfl (lv_at hl 2 rfl) ?_
          have hq15 := ho
          refine k_X11_takesNumber X hS hH hk_r hq15 t_ml_VernierDrawersModel_275 hl.1 (Nat.le_of_ble_eq_true rfl) ⟨Nat.le_of_ble_eq_true rfl, Nat.le_of_ble_eq_true rfl⟩ ⟨Nat.zero_le _, Nat.zero_le _⟩ dX11_takesOrder_119 (fun da H locs v16 ev16 hH hS => ?_)
          refine p_VernierDrawersModel_278 X hH hS hk_r dX11_takesOrder_122 (fun H locs v17 ev17 hH hS => ?_)
          replace ev16 := Eq.symm ev16
          replace ev17 := Eq.symm ev17
          subst ev16 ev17
          exact K14 _ _ _ _ _ (Eq.symm ((if_pos c14).trans rfl)) hH hS (lv_sub hl [0, 2] rfl)
      refine lv_if_ne (tgt := 105) hx hb dX11_takesOrder_80 (by decide) (fun c10 => ?_) (fun c10 => ?_)
      · skip
        refine lv_iconst (v := 1) hx hb dX11_takesOrder_105 (by decide) ?_
        refine lv_goto (tgt := 110) hx hb dX11_takesOrder_106 (by decide) ?_
        exact K10 _ _ (Eq.symm ((if_neg c10).trans rfl)) (lv_sub hl [0, 1, 2] rfl)
      · skip
        refine lv_iload_n hx hb dX11_takesOrder_83 rfl (lv_at hl 0 rfl) ?_
        refine lv_if_ne (tgt := 105) hx hb dX11_takesOrder_84 (by decide) (fun c11 => ?_) (fun c11 => ?_)
        · skip
          refine lv_iconst (v := 1) hx hb dX11_takesOrder_105 (by decide) ?_
          refine lv_goto (tgt := 110) hx hb dX11_takesOrder_106 (by decide) ?_
          exact K10 _ _ (Eq.symm ((if_pos c10).trans ((if_neg c11).trans rfl))) (lv_sub hl [0, 1, 2] rfl)
        · skip
          refine lv_aload_n hx hb dX11_takesOrder_87 rfl (lv_at hl 2 rfl) ?_
          refine g_VernierDrawersModel_268 X hH hk_r dX11_takesOrder_88 ?_
          refine lv_bipush (v := 106) hx hb dX11_takesOrder_91 (by decide) ?_
          refine lv_icmp_eq (tgt := 105) hx hb dX11_takesOrder_93 (by decide) (fun c12 => ?_) (fun c12 => ?_)
          · skip
            refine lv_iconst (v := 1) hx hb dX11_takesOrder_105 (by decide) ?_
            refine lv_goto (tgt := 110) hx hb dX11_takesOrder_106 (by decide) ?_
            exact K10 _ _ (Eq.symm ((if_pos c10).trans ((if_pos c11).trans ((if_pos c12).trans rfl)))) (lv_sub hl [0, 1, 2] rfl)
          · skip
            refine lv_aload_n hx hb dX11_takesOrder_96 rfl (lv_at hl 2 rfl) ?_
            refine g_VernierDrawersModel_268 X hH hk_r dX11_takesOrder_97 ?_
            refine lv_bipush (v := 102) hx hb dX11_takesOrder_100 (by decide) ?_
            refine lv_icmp_ne (tgt := 109) hx hb dX11_takesOrder_102 (by decide) (fun c13 => ?_) (fun c13 => ?_)
            · skip
              refine lv_iconst (v := 0) hx hb dX11_takesOrder_109 (by decide) ?_
              exact K10 _ _ (Eq.symm ((if_pos c10).trans ((if_pos c11).trans ((if_neg c12).trans ((if_neg c13).trans rfl))))) (lv_sub hl [0, 1, 2] rfl)
            · skip
              refine lv_iconst (v := 1) hx hb dX11_takesOrder_105 (by decide) ?_
              refine lv_goto (tgt := 110) hx hb dX11_takesOrder_106 (by decide) ?_
              exact K10 _ _ (Eq.symm ((if_pos c10).trans ((if_pos c11).trans ((if_neg c12).trans ((if_pos c13).trans rfl))))) (lv_sub hl [0, 1, 2] rfl)
    refine lv_icmp_eq (tgt := 72) hx hb dX11_takesOrder_51 (by decide) (fun c8 => ?_) (fun c8 => ?_)
    · skip
      refine lv_iconst (v := 1) hx hb dX11_takesOrder_72 (by decide) ?_
      refine lv_goto (tgt := 77) hx hb dX11_takesOrder_73 (by decide) ?_
      exact K8 _ _ (Eq.symm ((if_pos c8).trans rfl)) (lv_sub hl [0, 1] rfl)
    · skip
      refine lv_aload_n hx hb dX11_takesOrder_54 rfl (lv_at hl 1 rfl) ?_
      refine g_VernierDrawersModel_268 X hH hk_r dX11_takesOrder_55 ?_
      refine lv_bipush (v := 99) hx hb dX11_takesOrder_58 (by decide) ?_
      refine lv_icmp_eq (tgt := 72) hx hb dX11_takesOrder_60 (by decide) (fun c9 => ?_) (fun c9 => ?_)
      · skip
        refine lv_iconst (v := 1) hx hb dX11_takesOrder_72 (by decide) ?_
        refine lv_goto (tgt := 77) hx hb dX11_takesOrder_73 (by decide) ?_
        exact K8 _ _ (Eq.symm ((if_neg c8).trans ((if_pos c9).trans rfl))) (lv_sub hl [0, 1] rfl)
      · skip
        refine lv_aload_n hx hb dX11_takesOrder_63 rfl (lv_at hl 1 rfl) ?_
        refine g_VernierDrawersModel_268 X hH hk_r dX11_takesOrder_64 ?_
        refine lv_bipush (v := 112) hx hb dX11_takesOrder_67 (by decide) ?_
        refine lv_icmp_ne (tgt := 76) hx hb dX11_takesOrder_69 (by decide) (fun c10 => ?_) (fun c10 => ?_)
        · skip
          refine lv_iconst (v := 0) hx hb dX11_takesOrder_76 (by decide) ?_
          exact K8 _ _ (Eq.symm ((if_neg c8).trans ((if_neg c9).trans ((if_neg c10).trans rfl)))) (lv_sub hl [0, 1] rfl)
        · skip
          refine lv_iconst (v := 1) hx hb dX11_takesOrder_72 (by decide) ?_
          refine lv_goto (tgt := 77) hx hb dX11_takesOrder_73 (by decide) ?_
          exact K8 _ _ (Eq.symm ((if_neg c8).trans ((if_neg c9).trans ((if_pos c10).trans rfl)))) (lv_sub hl [0, 1] rfl)
  refine lv_icmp_eq (tgt := 39) hx hb dX11_takesOrder_27 (by decide) (fun c6 => ?_) (fun c6 => ?_)
  · skip
    refine lv_iconst (v := 1) hx hb dX11_takesOrder_39 (by decide) ?_
    refine lv_goto (tgt := 44) hx hb dX11_takesOrder_40 (by decide) ?_
    exact K6 _ _ (Eq.symm ((if_pos c6).trans rfl)) (lv_sub hl [0] rfl)
  · skip
    refine lv_aload_n hx hb dX11_takesOrder_30 rfl (lv_at hl 0 rfl) ?_
    refine g_VernierDrawersModel_268 X hH hk_r dX11_takesOrder_31 ?_
    refine lv_bipush (v := 100) hx hb dX11_takesOrder_34 (by decide) ?_
    refine lv_icmp_ne (tgt := 43) hx hb dX11_takesOrder_36 (by decide) (fun c7 => ?_) (fun c7 => ?_)
    · skip
      refine lv_iconst (v := 0) hx hb dX11_takesOrder_43 (by decide) ?_
      exact K6 _ _ (Eq.symm ((if_neg c6).trans ((if_neg c7).trans rfl))) (lv_sub hl [0] rfl)
    · skip
      refine lv_iconst (v := 1) hx hb dX11_takesOrder_39 (by decide) ?_
      refine lv_goto (tgt := 44) hx hb dX11_takesOrder_40 (by decide) ?_
      exact K6 _ _ (Eq.symm ((if_neg c6).trans ((if_pos c7).trans rfl))) (lv_sub hl [0] rfl)
theorem k_X11_takesOrder {p : Program} {l : Launch} {e : Env} {R : Room} {s : State} {m : MethodId} {args : Array Value} {below : List Frame} {meth : Method} {c : Code} {H : Heap} {locs : List Loc} {cells slots : Nat} {Q : State → Prop} {cc : ByteArray} {pc nL : Nat} {ls : Array Slot} {rest : List Value} {G : gG} {own : String} {da : Nat → Nat} {v : vSt} {x : gX} (X : CX G p s m args c cc nL own) (hS : va_S (gA G) s.heap H locs) (hH : Hp G da v x H) {r : Nat} (hk_r : kd r = 11) (ho : oX11_takesOrder r v) {idx : Nat} (hml : Cond.methodLink own idx yX11_takesOrder ∈ TT) (hls : ls.size = nL) (hsum : (rest.map fun v => v.category).sum ≤ 8) (hR : rmX11_takesOrder.frames + 1 ≤ R.frames ∧ 8 + (3 + 11) + rmX11_takesOrder.locals ≤ R.locals) (hcs : cells ≤ R.cells ∧ slots ≤ R.slots) (hdg : decode cc pc = .ok (.invokevirtual idx, 3)) (kk : ∀ (d : Nat → Nat) (H1 : Heap) (locs1 : List Loc) (v1 : vSt), v1 = fX11_takesOrder r v → Hp G d v1 x H1 → va_S (gA G) s.heap H1 locs1 → W p l e R s m args below meth c H1 locs1 cells slots Q (F0 m (pc + 3) ls rest)) : W p l e R s m args below meth c H locs cells slots Q (F0 m pc ls (.ref (ga G r) :: rest)) := c_mv X.2.2.2.2.2.2 (runV (k := 0) X.1 X.2.1 X.2.2.1 X.2.2.2.1 X.2.2.2.2.1 (mX11_takesOrder l G da v x r hk_r ho) pW_bl hml t_im_X11_takesOrder t_sel_X11_takesOrder t_ini_VernierDrawersModel t_code_X11_takesOrder ⟨rfl, by decide, by decide, by decide +kernel⟩ rfl rfl hR hcs (recvW X hH (by rw [hk_r]; decide) (by rw [hk_r]; decide) (ce_11 hk_r) rfl) (preW X hS hH) rfl hls rfl hsum hdg) hS kk
