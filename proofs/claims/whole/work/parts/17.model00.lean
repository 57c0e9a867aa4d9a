/-! 17.model -/
def fX11_thrown (r : Nat) (v : vSt) : Int32 := v r 8
abbrev rmX11_thrown : Room := { frames := 0, cells := 0, slots := 0, locals := 0 }
theorem dX11_thrown_0 : decode cX11_thrown 0 = .ok (.aload_n 0, 1) := by decide +kernel
theorem dX11_thrown_1 : decode cX11_thrown 1 = .ok (.getfield 29, 3) := by decide +kernel
theorem dX11_thrown_4 : decode cX11_thrown 4 = .ok (.ireturn, 1) := by decide +kernel
set_option maxHeartbeats 8000000 in
set_option maxRecDepth 100000 in
theorem mX11_thrown (l : Launch) (G : gG) (da : Nat → Nat) (v : vSt) (x : gX) (r : Nat) (hk_r : kd r = 11) : QI l yX11_thrown cX11_thrown 1 (some .int) rmX11_thrown [.ref (ga G r)] (pW G da v x) (fX11_thrown r v) := by
  refine gofQ (own := RX11) (by decide) rfl (Nat.le_of_ble_eq_true rfl) (fun p e s m args below meth c ls Q X hH hl E => ?_)
  have hx := X.1
  have hb := X.2.1
  have hown := X.2.2.2.1
  have hts := X.2.2.2.2.1
  have hS : va_S (gA G) s.heap s.heap [] := va_S.rf
  have ho : True := trivial
  have hl : lv_has ls 1 [(0, .ref (ga G r))] := hl
  refine lv_aload_n hx hb dX11_thrown_0 rfl (lv_at hl 0 rfl) ?_
  refine g_VernierDrawersModel_29 X hH hk_r dX11_thrown_1 ?_
  exact E _ _ _ dX11_thrown_4 rfl (Eq.symm rfl)
theorem k_X11_thrown {p : Program} {l : Launch} {e : Env} {R : Room} {s : State} {m : MethodId} {args : Array Value} {below : List Frame} {meth : Method} {c : Code} {H : Heap} {locs : List Loc} {cells slots : Nat} {Q : State → Prop} {cc : ByteArray} {pc nL : Nat} {ls : Array Slot} {rest : List Value} {G : gG} {own : String} {da : Nat → Nat} {v : vSt} {x : gX} (X : CX G p s m args c cc nL own) (hS : va_S (gA G) s.heap H locs) (hH : Hp G da v x H) {r : Nat} (hk_r : kd r = 11) {idx : Nat} (hml : Cond.methodLink own idx yX11_thrown ∈ TT) (hls : ls.size = nL) (hsum : (rest.map fun v => v.category).sum ≤ 8) (hR : rmX11_thrown.frames + 1 ≤ R.frames ∧ 8 + (1 + 11) + rmX11_thrown.locals ≤ R.locals) (hcs : cells ≤ R.cells ∧ slots ≤ R.slots) (hdg : decode cc pc = .ok (.invokevirtual idx, 3)) (kk : W p l e R s m args below meth c H locs cells slots Q (F0 m (pc + 3) ls (.int (fX11_thrown r v) :: rest))) : W p l e R s m args below meth c H locs cells slots Q (F0 m pc ls (.ref (ga G r) :: rest)) := c_qi (runV (k := 0) X.1 X.2.1 X.2.2.1 X.2.2.2.1 X.2.2.2.2.1 (mX11_thrown l G da v x r hk_r) pW_bl hml t_im_X11_thrown t_sel_X11_thrown t_ini_VernierDrawersModel t_code_X11_thrown ⟨rfl, by decide, by decide, by decide +kernel⟩ rfl rfl hR hcs (recvW X hH (by rw [hk_r]; decide) (by rw [hk_r]; decide) (ce_11 hk_r) rfl) (preW X hS hH) rfl hls rfl hsum hdg) (fun _ h => h ▸ kk)
def fX11_fails (r : Nat) (p1 : Int32) (v : vSt) : Int32 × vSt := let v1 : vSt := u2 v r 8 p1; (0, v1)
abbrev rmX11_fails : Room := { frames := 0, cells := 0, slots := 0, locals := 0 }
theorem dX11_fails_0 : decode cX11_fails 0 = .ok (.aload_n 0, 1) := by decide +kernel
theorem dX11_fails_1 : decode cX11_fails 1 = .ok (.iload_n 1, 1) := by decide +kernel
theorem dX11_fails_2 : decode cX11_fails 2 = .ok (.putfield 29, 3) := by decide +kernel
theorem dX11_fails_5 : decode cX11_fails 5 = .ok (.iconst 0, 1) := by decide +kernel
theorem dX11_fails_6 : decode cX11_fails 6 = .ok (.ireturn, 1) := by decide +kernel
set_option maxHeartbeats 8000000 in
set_option maxRecDepth 100000 in
theorem mX11_fails (l : Launch) (G : gG) (da : Nat → Nat) (v : vSt) (x : gX) (r : Nat) (hk_r : kd r = 11) (p1 : Int32) : MI l yX11_fails cX11_fails 2 (some .int) rmX11_fails [.ref (ga G r), .int p1] G da v x 0 0 (fX11_fails r p1 v).1 (fX11_fails r p1 v).2 x := by
  refine gofMI (own := RX11) (by decide) rfl (Nat.le_of_ble_eq_true rfl) (fun p e s m args below meth c ls Q X hH hl E => ?_)
  have hx := X.1
  have hb := X.2.1
  have hown := X.2.2.2.1
  have hts := X.2.2.2.2.1
  have hS : va_S (gA G) s.heap s.heap [] := va_S.rf
  have ho : True := trivial
  have hl : lv_has ls 2 [(0, .ref (ga G r)), (1, .int p1)] := hl
  refine lv_aload_n hx hb dX11_fails_0 rfl (lv_at hl 0 rfl) ?_
  refine lv_iload_n hx hb dX11_fails_1 rfl (lv_at hl 1 rfl) ?_
  refine p_VernierDrawersModel_29 X hH hS hk_r dX11_fails_2 (fun H locs v1 ev1 hH hS => ?_)
  refine lv_iconst (v := 0) hx hb dX11_fails_5 (by decide) ?_
  replace ev1 := Eq.symm ev1
  subst ev1
  exact E _ _ _ _ _ _ _ _ _ dX11_fails_6 rfl (pr1 rfl) (pr2 rfl) hH hS (Nat.zero_le _) (Nat.zero_le _)
theorem k_X11_fails {p : Program} {l : Launch} {e : Env} {R : Room} {s : State} {m : MethodId} {args : Array Value} {below : List Frame} {meth : Method} {c : Code} {H : Heap} {locs : List Loc} {cells slots : Nat} {Q : State → Prop} {cc : ByteArray} {pc nL : Nat} {ls : Array Slot} {rest : List Value} {G : gG} {own : String} {da : Nat → Nat} {v : vSt} {x : gX} (X : CX G p s m args c cc nL own) (hS : va_S (gA G) s.heap H locs) (hH : Hp G da v x H) {r : Nat} (hk_r : kd r = 11) {p1 : Int32} {idx : Nat} (hml : Cond.methodLink own idx yX11_fails ∈ TT) (hls : ls.size = nL) (hsum : (rest.map fun v => v.category).sum ≤ 8) (hR : rmX11_fails.frames + 1 ≤ R.frames ∧ 8 + (2 + 11) + rmX11_fails.locals ≤ R.locals) (hcs : cells ≤ R.cells ∧ slots ≤ R.slots) (hdg : decode cc pc = .ok (.invokevirtual idx, 3)) (kk : ∀ (d : Nat → Nat) (H1 : Heap) (locs1 : List Loc) (v1 : vSt), v1 = (fX11_fails r p1 v).2 → Hp G d v1 x H1 → va_S (gA G) s.heap H1 locs1 → W p l e R s m args below meth c H1 locs1 cells slots Q (F0 m (pc + 3) ls (.int (fX11_fails r p1 v).1 :: rest))) : W p l e R s m args below meth c H locs cells slots Q (F0 m pc ls (.int p1 :: .ref (ga G r) :: rest)) := c_mi X.2.2.2.2.2.2 (runV (k := 1) X.1 X.2.1 X.2.2.1 X.2.2.2.1 X.2.2.2.2.1 (mX11_fails l G da v x r hk_r p1) pW_bl hml t_im_X11_fails t_sel_X11_fails t_ini_VernierDrawersModel t_code_X11_fails ⟨rfl, by decide, by decide, by decide +kernel⟩ rfl rfl hR hcs (recvW X hH (by rw [hk_r]; decide) (by rw [hk_r]; decide) (ce_11 hk_r) rfl) (preW X hS hH) rfl hls rfl hsum hdg) hS kk
def fX11_in (p1 : Int32) (p2 : Int32) (p3 : Int32) : Int32 := if (p1 : Int32) < p2 then 0 else (if (p3 : Int32) < p1 then 0 else 1)
abbrev rmX11_in : Room := { frames := 0, cells := 0, slots := 0, locals := 0 }
theorem dX11_in_0 : decode cX11_in 0 = .ok (.iload_n 0, 1) := by decide +kernel
theorem dX11_in_1 : decode cX11_in 1 = .ok (.iload_n 1, 1) := by decide +kernel
theorem dX11_in_2 : decode cX11_in 2 = .ok (.if_icmp .lt 12, 3) := by decide +kernel
theorem dX11_in_5 : decode cX11_in 5 = .ok (.iload_n 0, 1) := by decide +kernel
theorem dX11_in_6 : decode cX11_in 6 = .ok (.iload_n 2, 1) := by decide +kernel
theorem dX11_in_7 : decode cX11_in 7 = .ok (.if_icmp .gt 7, 3) := by decide +kernel
theorem dX11_in_10 : decode cX11_in 10 = .ok (.iconst 1, 1) := by decide +kernel
theorem dX11_in_11 : decode cX11_in 11 = .ok (.goto 4, 3) := by decide +kernel
theorem dX11_in_14 : decode cX11_in 14 = .ok (.iconst 0, 1) := by decide +kernel
theorem dX11_in_15 : decode cX11_in 15 = .ok (.ireturn, 1) := by decide +kernel
set_option maxHeartbeats 8000000 in
set_option maxRecDepth 100000 in
theorem mX11_in (l : Launch) (G : gG) (p1 : Int32) (p2 : Int32) (p3 : Int32) : PI l yX11_in cX11_in 3 (some .boolean) rmX11_in [.int p1, .int p2, .int p3] G (fun _ => True) (fX11_in p1 p2 p3) := by
  refine gofP (own := RX11) (by decide) rfl (Nat.le_of_ble_eq_true rfl) (fun p e s m args below meth c ls Q X _ hl E => ?_)
  have hx := X.1
  have hb := X.2.1
  have hown := X.2.2.2.1
  have hts := X.2.2.2.2.1
  have hS : va_S (gA G) s.heap s.heap [] := va_S.rf
  have ho : True := trivial
  have hl : lv_has ls 3 [(0, .int p1), (1, .int p2), (2, .int p3)] := hl
  refine lv_iload_n hx hb dX11_in_0 rfl (lv_at hl 0 rfl) ?_
  refine lv_iload_n hx hb dX11_in_1 rfl (lv_at hl 1 rfl) ?_
  refine lv_icmp_lt (tgt := 14) hx hb dX11_in_2 (by decide) (fun c1 => ?_) (fun c1 => ?_)
  · skip
    refine lv_iconst (v := 0) hx hb dX11_in_14 (by decide) ?_
    exact E _ _ _ dX11_in_15 rfl (Eq.symm ((fX11_in.eq_1 _ _ _).trans ((if_pos c1).trans rfl)))
  · skip
    refine lv_iload_n hx hb dX11_in_5 rfl (lv_at hl 0 rfl) ?_
    refine lv_iload_n hx hb dX11_in_6 rfl (lv_at hl 2 rfl) ?_
    refine lv_icmp_gt (tgt := 14) hx hb dX11_in_7 (by decide) (fun c2 => ?_) (fun c2 => ?_)
    · skip
      refine lv_iconst (v := 0) hx hb dX11_in_14 (by decide) ?_
      exact E _ _ _ dX11_in_15 rfl (Eq.symm ((fX11_in.eq_1 _ _ _).trans ((if_neg c1).trans ((if_pos c2).trans rfl))))
    · skip
      refine lv_iconst (v := 1) hx hb dX11_in_10 (by decide) ?_
      refine lv_goto (tgt := 15) hx hb dX11_in_11 (by decide) ?_
      exact E _ _ _ dX11_in_15 rfl (Eq.symm ((fX11_in.eq_1 _ _ _).trans ((if_neg c1).trans ((if_neg c2).trans rfl))))
theorem k_X11_in {p : Program} {l : Launch} {e : Env} {R : Room} {s : State} {m : MethodId} {args : Array Value} {below : List Frame} {meth : Method} {c : Code} {H : Heap} {locs : List Loc} {cells slots : Nat} {Q : State → Prop} {cc : ByteArray} {pc nL : Nat} {ls : Array Slot} {rest : List Value} {G : gG} {own : String} (X : CX G p s m args c cc nL own) (hS : va_S (gA G) s.heap H locs) {p1 : Int32} {p2 : Int32} {p3 : Int32} {idx : Nat} (hml : Cond.methodLink own idx yX11_in ∈ TT) (hls : ls.size = nL) (hsum : (rest.map fun v => v.category).sum ≤ 8) (hR : rmX11_in.frames + 1 ≤ R.frames ∧ 8 + (3 + 11) + rmX11_in.locals ≤ R.locals) (hcs : cells ≤ R.cells ∧ slots ≤ R.slots) (hdg : decode cc pc = .ok (.invokestatic idx, 3)) (kk : W p l e R s m args below meth c H locs cells slots Q (F0 m (pc + 3) ls (.int (fX11_in p1 p2 p3) :: rest))) : W p l e R s m args below meth c H locs cells slots Q (F0 m pc ls (.int p3 :: .int p2 :: .int p1 :: rest)) := c_qi (runS (k := 3) X.1 X.2.1 X.2.2.1 X.2.2.2.1 X.2.2.2.2.1 (mX11_in l G p1 p2 p3) (pT_bl (fun _ _ _ _ h => h)) hml t_st_X11_in t_ini_VernierDrawersModel t_code_X11_in ⟨by decide, by decide, by decide +kernel⟩ rfl rfl hR hcs (fun U hU hW => ⟨preT X hS U hU hW, trivial⟩) rfl hls rfl hsum hdg) (fun _ h => h ▸ kk)
theorem b01_X11_in {p1 : Int32} {p2 : Int32} {p3 : Int32} : fX11_in p1 p2 p3 = 0 ∨ fX11_in p1 p2 p3 = 1 := by
  unfold fX11_in
  (try dsimp only); (repeat' split) <;> first | exact Or.inl rfl | exact Or.inr rfl
def fX11_less (p1 : Int32) (p2 : Int32) : Int32 := if (p2 : Int32) ≤ p1 then p2 else p1
abbrev rmX11_less : Room := { frames := 0, cells := 0, slots := 0, locals := 0 }
theorem dX11_less_0 : decode cX11_less 0 = .ok (.iload_n 0, 1) := by decide +kernel
theorem dX11_less_1 : decode cX11_less 1 = .ok (.iload_n 1, 1) := by decide +kernel
theorem dX11_less_2 : decode cX11_less 2 = .ok (.if_icmp .ge 7, 3) := by decide +kernel
theorem dX11_less_5 : decode cX11_less 5 = .ok (.iload_n 0, 1) := by decide +kernel
theorem dX11_less_6 : decode cX11_less 6 = .ok (.goto 4, 3) := by decide +kernel
theorem dX11_less_9 : decode cX11_less 9 = .ok (.iload_n 1, 1) := by decide +kernel
theorem dX11_less_10 : decode cX11_less 10 = .ok (.ireturn, 1) := by decide +kernel
set_option maxHeartbeats 8000000 in
set_option maxRecDepth 100000 in
theorem mX11_less (l : Launch) (G : gG) (p1 : Int32) (p2 : Int32) : PI l yX11_less cX11_less 2 (some .int) rmX11_less [.int p1, .int p2] G (fun _ => True) (fX11_less p1 p2) := by
  refine gofP (own := RX11) (by decide) rfl (Nat.le_of_ble_eq_true rfl) (fun p e s m args below meth c ls Q X _ hl E => ?_)
  have hx := X.1
  have hb := X.2.1
  have hown := X.2.2.2.1
  have hts := X.2.2.2.2.1
  have hS : va_S (gA G) s.heap s.heap [] := va_S.rf
  have ho : True := trivial
  have hl : lv_has ls 2 [(0, .int p1), (1, .int p2)] := hl
  refine lv_iload_n hx hb dX11_less_0 rfl (lv_at hl 0 rfl) ?_
  refine lv_iload_n hx hb dX11_less_1 rfl (lv_at hl 1 rfl) ?_
  refine lv_icmp_ge (tgt := 9) hx hb dX11_less_2 (by decide) (fun c1 => ?_) (fun c1 => ?_)
  · skip
    refine lv_iload_n hx hb dX11_less_9 rfl (lv_at hl 1 rfl) ?_
    exact E _ _ _ dX11_less_10 rfl (Eq.symm ((fX11_less.eq_1 _ _).trans ((if_pos c1).trans rfl)))
  · skip
    refine lv_iload_n hx hb dX11_less_5 rfl (lv_at hl 0 rfl) ?_
    refine lv_goto (tgt := 10) hx hb dX11_less_6 (by decide) ?_
    exact E _ _ _ dX11_less_10 rfl (Eq.symm ((fX11_less.eq_1 _ _).trans ((if_neg c1).trans rfl)))
theorem k_X11_less {p : Program} {l : Launch} {e : Env} {R : Room} {s : State} {m : MethodId} {args : Array Value} {below : List Frame} {meth : Method} {c : Code} {H : Heap} {locs : List Loc} {cells slots : Nat} {Q : State → Prop} {cc : ByteArray} {pc nL : Nat} {ls : Array Slot} {rest : List Value} {G : gG} {own : String} (X : CX G p s m args c cc nL own) (hS : va_S (gA G) s.heap H locs) {p1 : Int32} {p2 : Int32} {idx : Nat} (hml : Cond.methodLink own idx yX11_less ∈ TT) (hls : ls.size = nL) (hsum : (rest.map fun v => v.category).sum ≤ 8) (hR : rmX11_less.frames + 1 ≤ R.frames ∧ 8 + (2 + 11) + rmX11_less.locals ≤ R.locals) (hcs : cells ≤ R.cells ∧ slots ≤ R.slots) (hdg : decode cc pc = .ok (.invokestatic idx, 3)) (kk : W p l e R s m args below meth c H locs cells slots Q (F0 m (pc + 3) ls (.int (fX11_less p1 p2) :: rest))) : W p l e R s m args below meth c H locs cells slots Q (F0 m pc ls (.int p2 :: .int p1 :: rest)) := c_qi (runS (k := 2) X.1 X.2.1 X.2.2.1 X.2.2.2.1 X.2.2.2.2.1 (mX11_less l G p1 p2) (pT_bl (fun _ _ _ _ h => h)) hml t_st_X11_less t_ini_VernierDrawersModel t_code_X11_less ⟨by decide, by decide, by decide +kernel⟩ rfl rfl hR hcs (fun U hU hW => ⟨preT X hS U hU hW, trivial⟩) rfl hls rfl hsum hdg) (fun _ h => h ▸ kk)
def fX11_more (p1 : Int32) (p2 : Int32) : Int32 := if (p2 : Int32) ≤ p1 then p1 else p2
abbrev rmX11_more : Room := { frames := 0, cells := 0, slots := 0, locals := 0 }
theorem dX11_more_0 : decode cX11_more 0 = .ok (.iload_n 0, 1) := by decide +kernel
theorem dX11_more_1 : decode cX11_more 1 = .ok (.iload_n 1, 1) := by decide +kernel
theorem dX11_more_2 : decode cX11_more 2 = .ok (.if_icmp .ge 7, 3) := by decide +kernel
theorem dX11_more_5 : decode cX11_more 5 = .ok (.iload_n 1, 1) := by decide +kernel
theorem dX11_more_6 : decode cX11_more 6 = .ok (.goto 4, 3) := by decide +kernel
theorem dX11_more_9 : decode cX11_more 9 = .ok (.iload_n 0, 1) := by decide +kernel
theorem dX11_more_10 : decode cX11_more 10 = .ok (.ireturn, 1) := by decide +kernel
set_option maxHeartbeats 8000000 in
set_option maxRecDepth 100000 in
theorem mX11_more (l : Launch) (G : gG) (p1 : Int32) (p2 : Int32) : PI l yX11_more cX11_more 2 (some .int) rmX11_more [.int p1, .int p2] G (fun _ => True) (fX11_more p1 p2) := by
  refine gofP (own := RX11) (by decide) rfl (Nat.le_of_ble_eq_true rfl) (fun p e s m args below meth c ls Q X _ hl E => ?_)
  have hx := X.1
  have hb := X.2.1
  have hown := X.2.2.2.1
  have hts := X.2.2.2.2.1
  have hS : va_S (gA G) s.heap s.heap [] := va_S.rf
  have ho : True := trivial
  have hl : lv_has ls 2 [(0, .int p1), (1, .int p2)] := hl
  refine lv_iload_n hx hb dX11_more_0 rfl (lv_at hl 0 rfl) ?_
  refine lv_iload_n hx hb dX11_more_1 rfl (lv_at hl 1 rfl) ?_
  refine lv_icmp_ge (tgt := 9) hx hb dX11_more_2 (by decide) (fun c1 => ?_) (fun c1 => ?_)
  · skip
    refine lv_iload_n hx hb dX11_more_9 rfl (lv_at hl 0 rfl) ?_
    exact E _ _ _ dX11_more_10 rfl (Eq.symm ((fX11_more.eq_1 _ _).trans ((if_pos c1).trans rfl)))
  · skip
    refine lv_iload_n hx hb dX11_more_5 rfl (lv_at hl 1 rfl) ?_
    refine lv_goto (tgt := 10) hx hb dX11_more_6 (by decide) ?_
    exact E _ _ _ dX11_more_10 rfl (Eq.symm ((fX11_more.eq_1 _ _).trans ((if_neg c1).trans rfl)))
theorem k_X11_more {p : Program} {l : Launch} {e : Env} {R : Room} {s : State} {m : MethodId} {args : Array Value} {below : List Frame} {meth : Method} {c : Code} {H : Heap} {locs : List Loc} {cells slots : Nat} {Q : State → Prop} {cc : ByteArray} {pc nL : Nat} {ls : Array Slot} {rest : List Value} {G : gG} {own : String} (X : CX G p s m args c cc nL own) (hS : va_S (gA G) s.heap H locs) {p1 : Int32} {p2 : Int32} {idx : Nat} (hml : Cond.methodLink own idx yX11_more ∈ TT) (hls : ls.size = nL) (hsum : (rest.map fun v => v.category).sum ≤ 8) (hR : rmX11_more.frames + 1 ≤ R.frames ∧ 8 + (2 + 11) + rmX11_more.locals ≤ R.locals) (hcs : cells ≤ R.cells ∧ slots ≤ R.slots) (hdg : decode cc pc = .ok (.invokestatic idx, 3)) (kk : W p l e R s m args below meth c H locs cells slots Q (F0 m (pc + 3) ls (.int (fX11_more p1 p2) :: rest))) : W p l e R s m args below meth c H locs cells slots Q (F0 m pc ls (.int p2 :: .int p1 :: rest)) := c_qi (runS (k := 2) X.1 X.2.1 X.2.2.1 X.2.2.2.1 X.2.2.2.2.1 (mX11_more l G p1 p2) (pT_bl (fun _ _ _ _ h => h)) hml t_st_X11_more t_ini_VernierDrawersModel t_code_X11_more ⟨by decide, by decide, by decide +kernel⟩ rfl rfl hR hcs (fun U hU hW => ⟨preT X hS U hU hW, trivial⟩) rfl hls rfl hsum hdg) (fun _ h => h ▸ kk)
def fX11_size (p1 : Int32) : Int32 := if (0 : Int32) ≤ p1 then p1 else (-p1)
abbrev rmX11_size : Room := { frames := 0, cells := 0, slots := 0, locals := 0 }
theorem dX11_size_0 : decode cX11_size 0 = .ok (.iload_n 0, 1) := by decide +kernel
theorem dX11_size_1 : decode cX11_size 1 = .ok (.ifCond .ge 8, 3) := by decide +kernel
theorem dX11_size_4 : decode cX11_size 4 = .ok (.iload_n 0, 1) := by decide +kernel
theorem dX11_size_5 : decode cX11_size 5 = .ok (.ineg, 1) := by decide +kernel
theorem dX11_size_6 : decode cX11_size 6 = .ok (.goto 4, 3) := by decide +kernel
theorem dX11_size_9 : decode cX11_size 9 = .ok (.iload_n 0, 1) := by decide +kernel
theorem dX11_size_10 : decode cX11_size 10 = .ok (.ireturn, 1) := by decide +kernel
set_option maxHeartbeats 8000000 in
set_option maxRecDepth 100000 in
theorem mX11_size (l : Launch) (G : gG) (p1 : Int32) : PI l yX11_size cX11_size 1 (some .int) rmX11_size [.int p1] G (fun _ => True) (fX11_size p1) := by
  refine gofP (own := RX11) (by decide) rfl (Nat.le_of_ble_eq_true rfl) (fun p e s m args below meth c ls Q X _ hl E => ?_)
  have hx := X.1
  have hb := X.2.1
  have hown := X.2.2.2.1
  have hts := X.2.2.2.2.1
  have hS : va_S (gA G) s.heap s.heap [] := va_S.rf
  have ho : True := trivial
  have hl : lv_has ls 1 [(0, .int p1)] := hl
  refine lv_iload_n hx hb dX11_size_0 rfl (lv_at hl 0 rfl) ?_
  refine lv_if_ge (tgt := 9) hx hb dX11_size_1 (by decide) (fun c1 => ?_) (fun c1 => ?_)
  · skip
    refine lv_iload_n hx hb dX11_size_9 rfl (lv_at hl 0 rfl) ?_
    exact E _ _ _ dX11_size_10 rfl (Eq.symm ((fX11_size.eq_1 _).trans ((if_pos c1).trans rfl)))
  · skip
    refine lv_iload_n hx hb dX11_size_4 rfl (lv_at hl 0 rfl) ?_
    refine lv_ineg hx hb dX11_size_5 ?_
    refine lv_goto (tgt := 10) hx hb dX11_size_6 (by decide) ?_
    exact E _ _ _ dX11_size_10 rfl (Eq.symm ((fX11_size.eq_1 _).trans ((if_neg c1).trans rfl)))
theorem k_X11_size {p : Program} {l : Launch} {e : Env} {R : Room} {s : State} {m : MethodId} {args : Array Value} {below : List Frame} {meth : Method} {c : Code} {H : Heap} {locs : List Loc} {cells slots : Nat} {Q : State → Prop} {cc : ByteArray} {pc nL : Nat} {ls : Array Slot} {rest : List Value} {G : gG} {own : String} (X : CX G p s m args c cc nL own) (hS : va_S (gA G) s.heap H locs) {p1 : Int32} {idx : Nat} (hml : Cond.methodLink own idx yX11_size ∈ TT) (hls : ls.size = nL) (hsum : (rest.map fun v => v.category).sum ≤ 8) (hR : rmX11_size.frames + 1 ≤ R.frames ∧ 8 + (1 + 11) + rmX11_size.locals ≤ R.locals) (hcs : cells ≤ R.cells ∧ slots ≤ R.slots) (hdg : decode cc pc = .ok (.invokestatic idx, 3)) (kk : W p l e R s m args below meth c H locs cells slots Q (F0 m (pc + 3) ls (.int (fX11_size p1) :: rest))) : W p l e R s m args below meth c H locs cells slots Q (F0 m pc ls (.int p1 :: rest)) := c_qi (runS (k := 1) X.1 X.2.1 X.2.2.1 X.2.2.2.1 X.2.2.2.2.1 (mX11_size l G p1) (pT_bl (fun _ _ _ _ h => h)) hml t_st_X11_size t_ini_VernierDrawersModel t_code_X11_size ⟨by decide, by decide, by decide +kernel⟩ rfl rfl hR hcs (fun U hU hW => ⟨preT X hS U hU hW, trivial⟩) rfl hls rfl hsum hdg) (fun _ h => h ▸ kk)
def lX11_copies_3 (o1 : Nat) (p1 : Int32) (o2 : Nat) (p2 : Int32) : Nat → Int32 → vSt → vSt
  | 0, i1, v2 => v2
  | n + 1, i1, v2 => if (3417 : Int32) ≤ i1 then v2 else (let v6 : vSt := u2 v2 o2 (p2 + i1 : Int32).toNatClampNeg (v2 o1 (p1 + i1 : Int32).toNatClampNeg); lX11_copies_3 o1 p1 o2 p2 n (i1 + 1) v6)
def olX11_copies_3 (o1 : Nat) (p1 : Int32) (o2 : Nat) (p2 : Int32) : Nat → Int32 → vSt → Prop
  | 0, _, _ => False
  | n + 1, i1, v2 => ¬ ((3417 : Int32) ≤ i1) → ((vp_in (p1 + i1) (mlen o1)) ∧ ((vp_in (p2 + i1) (mlen o2)) ∧ (∀ v6 : vSt, v6 = (u2 v2 o2 (p2 + i1 : Int32).toNatClampNeg (v2 o1 (p1 + i1 : Int32).toNatClampNeg)) → (olX11_copies_3 o1 p1 o2 p2 n (i1 + 1) v6))))
def fX11_copies (o1 : Nat) (p1 : Int32) (o2 : Nat) (p2 : Int32) (v : vSt) : vSt := let v3 : vSt := (lX11_copies_3 o1 p1 o2 p2 ((Int32.toInt (3417) - Int32.toInt 0).toNat + 1) 0 v); v3
def oX11_copies (o1 : Nat) (p1 : Int32) (o2 : Nat) (p2 : Int32) (v : vSt) : Prop := olX11_copies_3 o1 p1 o2 p2 ((Int32.toInt (3417) - Int32.toInt 0).toNat + 1) 0 v
abbrev rmX11_copies : Room := { frames := 0, cells := 0, slots := 0, locals := 0 }
theorem dX11_copies_0 : decode cX11_copies 0 = .ok (.iconst 0, 1) := by decide +kernel
theorem dX11_copies_1 : decode cX11_copies 1 = .ok (.istore 4, 2) := by decide +kernel
theorem dX11_copies_3 : decode cX11_copies 3 = .ok (.iload 4, 2) := by decide +kernel
theorem dX11_copies_5 : decode cX11_copies 5 = .ok (.sipush 3417, 3) := by decide +kernel
theorem dX11_copies_8 : decode cX11_copies 8 = .ok (.if_icmp .ge 21, 3) := by decide +kernel
theorem dX11_copies_11 : decode cX11_copies 11 = .ok (.aload_n 2, 1) := by decide +kernel
theorem dX11_copies_12 : decode cX11_copies 12 = .ok (.iload_n 3, 1) := by decide +kernel
theorem dX11_copies_13 : decode cX11_copies 13 = .ok (.iload 4, 2) := by decide +kernel
theorem dX11_copies_15 : decode cX11_copies 15 = .ok (.iadd, 1) := by decide +kernel
theorem dX11_copies_16 : decode cX11_copies 16 = .ok (.aload_n 0, 1) := by decide +kernel
theorem dX11_copies_17 : decode cX11_copies 17 = .ok (.iload_n 1, 1) := by decide +kernel
theorem dX11_copies_18 : decode cX11_copies 18 = .ok (.iload 4, 2) := by decide +kernel
theorem dX11_copies_20 : decode cX11_copies 20 = .ok (.iadd, 1) := by decide +kernel
theorem dX11_copies_21 : decode cX11_copies 21 = .ok (.iaload, 1) := by decide +kernel
theorem dX11_copies_22 : decode cX11_copies 22 = .ok (.iastore, 1) := by decide +kernel
theorem dX11_copies_23 : decode cX11_copies 23 = .ok (.iinc 4 1, 3) := by decide +kernel
theorem dX11_copies_26 : decode cX11_copies 26 = .ok (.goto (-23), 3) := by decide +kernel
theorem dX11_copies_29 : decode cX11_copies 29 = .ok (.return_, 1) := by decide +kernel
set_option maxHeartbeats 8000000 in
set_option maxRecDepth 100000 in
theorem mX11_copies (l : Launch) (G : gG) (da : Nat → Nat) (v : vSt) (x : gX) (o1 : Nat) (hk_o1 : kd o1 = 30 ∨ kd o1 = 31) (p1 : Int32) (o2 : Nat) (hk_o2 : kd o2 = 30 ∨ kd o2 = 31) (p2 : Int32) (ho : oX11_copies o1 p1 o2 p2 v) : MV l yX11_copies cX11_copies 5 none rmX11_copies [.ref (ga G o1), .int p1, .ref (ga G o2), .int p2] G da v x 0 0 (fX11_copies o1 p1 o2 p2 v) x := by
  refine gofMV (own := RX11) (by decide) rfl (Nat.le_of_ble_eq_true rfl) (fun p e s m args below meth c ls Q X hH hl E => ?_)
  have hx := X.1
  have hb := X.2.1
  have hown := X.2.2.2.1
  have hts := X.2.2.2.2.1
  have hS : va_S (gA G) s.heap s.heap [] := va_S.rf
  unfold oX11_copies at ho
  have hl : lv_has ls 5 [(0, .ref (ga G o1)), (1, .int p1), (2, .ref (ga G o2)), (3, .int p2)] := hl
  refine lv_iconst (v := 0) hx hb dX11_copies_0 (by decide) ?_
  refine lv_istore (lv' := [(4, .int 0), (0, .ref (ga G o1)), (1, .int p1), (2, .ref (ga G o2)), (3, .int p2)]) hx hb dX11_copies_1 hl (by decide) rfl (fun ls hl => ?_)
  have L4 : ∀ (n : Nat) (i1 : Int32) (v2 : vSt) (da : Nat → Nat) (H : Heap) (locs : List Loc) (ls : Array Slot), olX11_copies_3 o1 p1 o2 p2 n i1 v2 → Hp G da v2 x H → va_S (gA G) s.heap H locs → lv_has ls 5 [(4, .int i1), (0, .ref (ga G o1)), (1, .int p1), (2, .ref (ga G o2)), (3, .int p2)] → (∀ (v3 : vSt) (da : Nat → Nat) (H : Heap) (locs : List Loc) (ls : Array Slot), v3 = (lX11_copies_3 o1 p1 o2 p2 n i1 v2 : vSt) → Hp G da v3 x H → va_S (gA G) s.heap H locs → lv_has ls 5 [] → W p l e rmX11_copies s m args below meth c H locs 0 0 Q (F0 m 29 ls [])) → W p l e rmX11_copies s m args below meth c H locs 0 0 Q (F0 m 3 ls []) := by
    clear ho
    intro n
    induction n with
    | zero =>
      intro i1 v2 da H locs ls ho
      exact ho.elim
    | succ n ih =>
      intro i1 v2 da H locs ls ho hH hS hl K5
      refine lv_iload hx hb dX11_copies_3 (lv_at hl 0 rfl) ?_
      refine lv_sipush (v := 3417) hx hb dX11_copies_5 (by decide) ?_
      refine lv_icmp_ge (tgt := 29) hx hb dX11_copies_8 (by decide) (fun c3 => ?_) (fun c3 => ?_)
      · skip
        exact K5 _ _ _ _ _ (Eq.symm (((lX11_copies_3.eq_2 _ _ _ _ _ _ _)).trans ((if_pos c3).trans rfl))) hH hS (lv_sub hl [] rfl)
      · have ho := ho c3
        refine lv_aload_n hx hb dX11_copies_11 rfl (lv_at hl 3 rfl) ?_
        refine lv_iload_n hx hb dX11_copies_12 rfl (lv_at hl 4 rfl) ?_
        refine lv_iload hx hb dX11_copies_13 (lv_at hl 0 rfl) ?_
        refine lv_iadd hx hb dX11_copies_15 ?_
        refine lv_aload_n hx hb dX11_copies_16 rfl (lv_at hl 1 rfl) ?_
        refine lv_iload_n hx hb dX11_copies_17 rfl (lv_at hl 2 rfl) ?_
        refine lv_iload hx hb dX11_copies_18 (lv_at hl 0 rfl) ?_
        refine lv_iadd hx hb dX11_copies_20 ?_
        have hq4 := ho.1
        have ho := ho.2
        refine ald_M X hH hk_o1 hq4 dX11_copies_21 ?_
        have hq5 := ho.1
        have ho := ho.2
        refine ast_M X hH hS hk_o2 hq5 dX11_copies_22 (fun H locs v6 ev6 hH hS => ?_)
        have ho := ho v6 ev6
        refine lv_iinc (v := i1 + 1) (lv' := [(4, .int (i1 + 1)), (0, .ref (ga G o1)), (1, .int p1), (2, .ref (ga G o2)), (3, .int p2)]) hx hb dX11_copies_23 hl (k := 0) rfl rfl (by decide) rfl (fun ls hl => ?_)
        refine lv_goto (tgt := 3) hx hb dX11_copies_26 (by decide) ?_
        replace ev6 := Eq.symm ev6
        subst ev6
        exact ih _ _ _ _ _ _ ho hH hS (lv_sub hl [0, 1, 2, 3, 4] rfl) (fun v3 da H locs ls q0 hH hS hl => K5 v3 da H locs ls (q0.trans (congrArg (fun z : vSt => z) (Eq.symm (((lX11_copies_3.eq_2 _ _ _ _ _ _ _)).trans ((if_neg c3).trans rfl))))) hH hS hl)
  have hol := ho
  refine L4 ((Int32.toInt (3417) - Int32.toInt 0).toNat + 1) 0 v _ _ _ _ hol hH hS (lv_sub hl [0, 1, 2, 3, 4] rfl) (fun v3 da H locs ls ev3 hH hS hl => ?_)
  replace ev3 := Eq.symm ev3
  subst ev3
  exact E _ _ _ _ _ _ _ _ dX11_copies_29 (Eq.symm rfl) hH hS (Nat.zero_le _) (Nat.zero_le _)
theorem k_X11_copies {p : Program} {l : Launch} {e : Env} {R : Room} {s : State} {m : MethodId} {args : Array Value} {below : List Frame} {meth : Method} {c : Code} {H : Heap} {locs : List Loc} {cells slots : Nat} {Q : State → Prop} {cc : ByteArray} {pc nL : Nat} {ls : Array Slot} {rest : List Value} {G : gG} {own : String} {da : Nat → Nat} {v : vSt} {x : gX} (X : CX G p s m args c cc nL own) (hS : va_S (gA G) s.heap H locs) (hH : Hp G da v x H) {o1 : Nat} (hk_o1 : kd o1 = 30 ∨ kd o1 = 31) {p1 : Int32} {o2 : Nat} (hk_o2 : kd o2 = 30 ∨ kd o2 = 31) {p2 : Int32} (ho : oX11_copies o1 p1 o2 p2 v) {idx : Nat} (hml : Cond.methodLink own idx yX11_copies ∈ TT) (hls : ls.size = nL) (hsum : (rest.map fun v => v.category).sum ≤ 8) (hR : rmX11_copies.frames + 1 ≤ R.frames ∧ 8 + (5 + 11) + rmX11_copies.locals ≤ R.locals) (hcs : cells ≤ R.cells ∧ slots ≤ R.slots) (hdg : decode cc pc = .ok (.invokestatic idx, 3)) (kk : ∀ (d : Nat → Nat) (H1 : Heap) (locs1 : List Loc) (v1 : vSt), v1 = fX11_copies o1 p1 o2 p2 v → Hp G d v1 x H1 → va_S (gA G) s.heap H1 locs1 → W p l e R s m args below meth c H1 locs1 cells slots Q (F0 m (pc + 3) ls rest)) : W p l e R s m args below meth c H locs cells slots Q (F0 m pc ls (.int p2 :: .ref (ga G o2) :: .int p1 :: .ref (ga G o1) :: rest)) := c_mv X.2.2.2.2.2.2 (runS (k := 4) X.1 X.2.1 X.2.2.1 X.2.2.2.1 X.2.2.2.2.1 (mX11_copies l G da v x o1 hk_o1 p1 o2 hk_o2 p2 ho) pW_bl hml t_st_X11_copies t_ini_VernierDrawersModel t_code_X11_copies ⟨by decide, by decide, by decide +kernel⟩ rfl rfl hR hcs (preW X hS hH) rfl hls rfl hsum hdg) hS kk
def fX11_begins (r : Nat) (v : vSt) : vSt := let v1 : vSt := u2 v r 8 0; let v3 : vSt := fX11_copies 462 0 463 0 v1; v3
def oX11_begins (r : Nat) (v : vSt) : Prop := ∀ v1 : vSt, v1 = (u2 v r 8 0) → (oX11_copies 462 0 463 0 v1)
abbrev rmX11_begins : Room := { frames := 1, cells := 0, slots := 0, locals := 24 }
theorem dX11_begins_0 : decode cX11_begins 0 = .ok (.aload_n 0, 1) := by decide +kernel
theorem dX11_begins_1 : decode cX11_begins 1 = .ok (.iconst 0, 1) := by decide +kernel
theorem dX11_begins_2 : decode cX11_begins 2 = .ok (.putfield 29, 3) := by decide +kernel
theorem dX11_begins_5 : decode cX11_begins 5 = .ok (.aload_n 0, 1) := by decide +kernel
theorem dX11_begins_6 : decode cX11_begins 6 = .ok (.getfield 7, 3) := by decide +kernel
theorem dX11_begins_9 : decode cX11_begins 9 = .ok (.iconst 0, 1) := by decide +kernel
theorem dX11_begins_10 : decode cX11_begins 10 = .ok (.aload_n 0, 1) := by decide +kernel
theorem dX11_begins_11 : decode cX11_begins 11 = .ok (.getfield 13, 3) := by decide +kernel
theorem dX11_begins_14 : decode cX11_begins 14 = .ok (.iconst 0, 1) := by decide +kernel
theorem dX11_begins_15 : decode cX11_begins 15 = .ok (.invokestatic 33, 3) := by decide +kernel
theorem dX11_begins_18 : decode cX11_begins 18 = .ok (.return_, 1) := by decide +kernel
set_option maxHeartbeats 8000000 in
set_option maxRecDepth 100000 in
theorem mX11_begins (l : Launch) (G : gG) (da : Nat → Nat) (v : vSt) (x : gX) (r : Nat) (hk_r : kd r = 11) (ho : oX11_begins r v) : MV l yX11_begins cX11_begins 1 none rmX11_begins [.ref (ga G r)] G da v x 0 0 (fX11_begins r v) x := by
  refine gofMV (own := RX11) (by decide) rfl (Nat.le_of_ble_eq_true rfl) (fun p e s m args below meth c ls Q X hH hl E => ?_)
  have hx := X.1
  have hb := X.2.1
  have hown := X.2.2.2.1
  have hts := X.2.2.2.2.1
  have hS : va_S (gA G) s.heap s.heap [] := va_S.rf
  unfold oX11_begins at ho
  have hl : lv_has ls 1 [(0, .ref (ga G r))] := hl
  refine lv_aload_n hx hb dX11_begins_0 rfl (lv_at hl 0 rfl) ?_
  refine lv_iconst (v := 0) hx hb dX11_begins_1 (by decide) ?_
  refine p_VernierDrawersModel_29 X hH hS hk_r dX11_begins_2 (fun H locs v1 ev1 hH hS => ?_)
  have ho := ho v1 ev1
  refine lv_aload_n hx hb dX11_begins_5 rfl (lv_at hl 0 rfl) ?_
  refine g_VernierDrawersModel_7 X hH hk_r dX11_begins_6 ?_
  refine lv_iconst (v := 0) hx hb dX11_begins_9 (by decide) ?_
  refine lv_aload_n hx hb dX11_begins_10 rfl (lv_at hl 0 rfl) ?_
  refine g_VernierDrawersModel_13 X hH hk_r dX11_begins_11 ?_
  refine lv_iconst (v := 0) hx hb dX11_begins_14 (by decide) ?_
  have hq2 := ho
  refine k_X11_copies X hS hH (Or.inl kd_462) (Or.inl kd_463) hq2 t_ml_VernierDrawersModel_33 hl.1 (Nat.le_of_ble_eq_true rfl) ⟨Nat.le_of_ble_eq_true rfl, Nat.le_of_ble_eq_true rfl⟩ ⟨Nat.zero_le _, Nat.zero_le _⟩ dX11_begins_15 (fun da H locs v3 ev3 hH hS => ?_)
  replace ev1 := Eq.symm ev1
  replace ev3 := Eq.symm ev3
  subst ev1 ev3
  exact E _ _ _ _ _ _ _ _ dX11_begins_18 (Eq.symm rfl) hH hS (Nat.zero_le _) (Nat.zero_le _)
theorem k_X11_begins {p : Program} {l : Launch} {e : Env} {R : Room} {s : State} {m : MethodId} {args : Array Value} {below : List Frame} {meth : Method} {c : Code} {H : Heap} {locs : List Loc} {cells slots : Nat} {Q : State → Prop} {cc : ByteArray} {pc nL : Nat} {ls : Array Slot} {rest : List Value} {G : gG} {own : String} {da : Nat → Nat} {v : vSt} {x : gX} (X : CX G p s m args c cc nL own) (hS : va_S (gA G) s.heap H locs) (hH : Hp G da v x H) {r : Nat} (hk_r : kd r = 11) (ho : oX11_begins r v) {idx : Nat} (hml : Cond.methodLink own idx yX11_begins ∈ TT) (hls : ls.size = nL) (hsum : (rest.map fun v => v.category).sum ≤ 8) (hR : rmX11_begins.frames + 1 ≤ R.frames ∧ 8 + (1 + 11) + rmX11_begins.locals ≤ R.locals) (hcs : cells ≤ R.cells ∧ slots ≤ R.slots) (hdg : decode cc pc = .ok (.invokevirtual idx, 3)) (kk : ∀ (d : Nat → Nat) (H1 : Heap) (locs1 : List Loc) (v1 : vSt), v1 = fX11_begins r v → Hp G d v1 x H1 → va_S (gA G) s.heap H1 locs1 → W p l e R s m args below meth c H1 locs1 cells slots Q (F0 m (pc + 3) ls rest)) : W p l e R s m args below meth c H locs cells slots Q (F0 m pc ls (.ref (ga G r) :: rest)) := c_mv X.2.2.2.2.2.2 (runV (k := 0) X.1 X.2.1 X.2.2.1 X.2.2.2.1 X.2.2.2.2.1 (mX11_begins l G da v x r hk_r ho) pW_bl hml t_im_X11_begins t_sel_X11_begins t_ini_VernierDrawersModel t_code_X11_begins ⟨rfl, by decide, by decide, by decide +kernel⟩ rfl rfl hR hcs (recvW X hH (by rw [hk_r]; decide) (by rw [hk_r]; decide) (ce_11 hk_r) rfl) (preW X hS hH) rfl hls rfl hsum hdg) hS kk
def lX11_records_10 : Nat → Int32 → vSt → vSt
  | 0, i3, v4 => v4
  | n + 1, i3, v4 => if (10251 : Int32) ≤ i3 then v4 else (let v8 : vSt := u2 v4 465 (i3 : Int32).toNatClampNeg (v4 465 (i3 + 3417 : Int32).toNatClampNeg); lX11_records_10 n (i3 + 1) v8)
def olX11_records_10 : Nat → Int32 → vSt → Prop
  | 0, _, _ => False
  | n + 1, i3, v4 => ¬ ((10251 : Int32) ≤ i3) → ((vp_in (i3 + 3417) (mlen 465)) ∧ ((vp_in (i3) (mlen 465)) ∧ (∀ v8 : vSt, v8 = (u2 v4 465 (i3 : Int32).toNatClampNeg (v4 465 (i3 + 3417 : Int32).toNatClampNeg)) → (olX11_records_10 n (i3 + 1) v8))))
def fX11_records (r : Nat) (v : vSt) : vSt := let v1 : vSt := (if ((v r 5) : Int32) = 4 then (let v5 : vSt := (lX11_records_10 ((Int32.toInt (10251) - Int32.toInt 0).toNat + 1) 0 v); let v9 : vSt := u2 v5 r 5 ((v5 r 5) - 1); v9) else v : vSt); let v4 : vSt := fX11_copies 463 0 465 (3417 * (v1 r 5)) v1; let v5 : vSt := u2 v4 r 5 ((v4 r 5) + 1); v5
def oX11_records (r : Nat) (v : vSt) : Prop := ((((v r 5) : Int32) = 4) → (olX11_records_10 ((Int32.toInt (10251) - Int32.toInt 0).toNat + 1) 0 v)) ∧ (∀ (v1 : vSt), v1 = ((if ((v r 5) : Int32) = 4 then (let v5 : vSt := (lX11_records_10 ((Int32.toInt (10251) - Int32.toInt 0).toNat + 1) 0 v); let v9 : vSt := u2 v5 r 5 ((v5 r 5) - 1); v9) else v : vSt) : vSt) → (oX11_copies 463 0 465 (3417 * (v1 r 5)) v1))
abbrev rmX11_records : Room := { frames := 1, cells := 0, slots := 0, locals := 24 }
theorem dX11_records_0 : decode cX11_records 0 = .ok (.aload_n 0, 1) := by decide +kernel
theorem dX11_records_1 : decode cX11_records 1 = .ok (.getfield 37, 3) := by decide +kernel
theorem dX11_records_4 : decode cX11_records 4 = .ok (.iconst 4, 1) := by decide +kernel
theorem dX11_records_5 : decode cX11_records 5 = .ok (.if_icmp .ne 44, 3) := by decide +kernel
theorem dX11_records_8 : decode cX11_records 8 = .ok (.iconst 0, 1) := by decide +kernel
theorem dX11_records_9 : decode cX11_records 9 = .ok (.istore_n 1, 1) := by decide +kernel
theorem dX11_records_10 : decode cX11_records 10 = .ok (.iload_n 1, 1) := by decide +kernel
theorem dX11_records_11 : decode cX11_records 11 = .ok (.sipush 10251, 3) := by decide +kernel
theorem dX11_records_14 : decode cX11_records 14 = .ok (.if_icmp .ge 25, 3) := by decide +kernel
theorem dX11_records_17 : decode cX11_records 17 = .ok (.aload_n 0, 1) := by decide +kernel
theorem dX11_records_18 : decode cX11_records 18 = .ok (.getfield 19, 3) := by decide +kernel
theorem dX11_records_21 : decode cX11_records 21 = .ok (.iload_n 1, 1) := by decide +kernel
theorem dX11_records_22 : decode cX11_records 22 = .ok (.aload_n 0, 1) := by decide +kernel
theorem dX11_records_23 : decode cX11_records 23 = .ok (.getfield 19, 3) := by decide +kernel
theorem dX11_records_26 : decode cX11_records 26 = .ok (.iload_n 1, 1) := by decide +kernel
theorem dX11_records_27 : decode cX11_records 27 = .ok (.sipush 3417, 3) := by decide +kernel
theorem dX11_records_30 : decode cX11_records 30 = .ok (.iadd, 1) := by decide +kernel
theorem dX11_records_31 : decode cX11_records 31 = .ok (.iaload, 1) := by decide +kernel
theorem dX11_records_32 : decode cX11_records 32 = .ok (.iastore, 1) := by decide +kernel
theorem dX11_records_33 : decode cX11_records 33 = .ok (.iinc 1 1, 3) := by decide +kernel
theorem dX11_records_36 : decode cX11_records 36 = .ok (.goto (-26), 3) := by decide +kernel
theorem dX11_records_39 : decode cX11_records 39 = .ok (.aload_n 0, 1) := by decide +kernel
theorem dX11_records_40 : decode cX11_records 40 = .ok (.dup, 1) := by decide +kernel
theorem dX11_records_41 : decode cX11_records 41 = .ok (.getfield 37, 3) := by decide +kernel
theorem dX11_records_44 : decode cX11_records 44 = .ok (.iconst 1, 1) := by decide +kernel
theorem dX11_records_45 : decode cX11_records 45 = .ok (.isub, 1) := by decide +kernel
theorem dX11_records_46 : decode cX11_records 46 = .ok (.putfield 37, 3) := by decide +kernel
theorem dX11_records_49 : decode cX11_records 49 = .ok (.aload_n 0, 1) := by decide +kernel
theorem dX11_records_50 : decode cX11_records 50 = .ok (.getfield 13, 3) := by decide +kernel
theorem dX11_records_53 : decode cX11_records 53 = .ok (.iconst 0, 1) := by decide +kernel
theorem dX11_records_54 : decode cX11_records 54 = .ok (.aload_n 0, 1) := by decide +kernel
theorem dX11_records_55 : decode cX11_records 55 = .ok (.getfield 19, 3) := by decide +kernel
theorem dX11_records_58 : decode cX11_records 58 = .ok (.sipush 3417, 3) := by decide +kernel
theorem dX11_records_61 : decode cX11_records 61 = .ok (.aload_n 0, 1) := by decide +kernel
theorem dX11_records_62 : decode cX11_records 62 = .ok (.getfield 37, 3) := by decide +kernel
theorem dX11_records_65 : decode cX11_records 65 = .ok (.imul, 1) := by decide +kernel
theorem dX11_records_66 : decode cX11_records 66 = .ok (.invokestatic 33, 3) := by decide +kernel
theorem dX11_records_69 : decode cX11_records 69 = .ok (.aload_n 0, 1) := by decide +kernel
theorem dX11_records_70 : decode cX11_records 70 = .ok (.dup, 1) := by decide +kernel
theorem dX11_records_71 : decode cX11_records 71 = .ok (.getfield 37, 3) := by decide +kernel
theorem dX11_records_74 : decode cX11_records 74 = .ok (.iconst 1, 1) := by decide +kernel
theorem dX11_records_75 : decode cX11_records 75 = .ok (.iadd, 1) := by decide +kernel
theorem dX11_records_76 : decode cX11_records 76 = .ok (.putfield 37, 3) := by decide +kernel
theorem dX11_records_79 : decode cX11_records 79 = .ok (.return_, 1) := by decide +kernel
set_option maxHeartbeats 8000000 in
set_option maxRecDepth 100000 in
theorem mX11_records (l : Launch) (G : gG) (da : Nat → Nat) (v : vSt) (x : gX) (r : Nat) (hk_r : kd r = 11) (ho : oX11_records r v) : MV l yX11_records cX11_records 2 none rmX11_records [.ref (ga G r)] G da v x 0 0 (fX11_records r v) x := by
  refine gofMV (own := RX11) (by decide) rfl (Nat.le_of_ble_eq_true rfl) (fun p e s m args below meth c ls Q X hH hl E => ?_)
  have hx := X.1
  have hb := X.2.1
  have hown := X.2.2.2.1
  have hts := X.2.2.2.2.1
  have hS : va_S (gA G) s.heap s.heap [] := va_S.rf
  unfold oX11_records at ho
  have hl : lv_has ls 2 [(0, .ref (ga G r))] := hl
  refine lv_aload_n hx hb dX11_records_0 rfl (lv_at hl 0 rfl) ?_
  refine g_VernierDrawersModel_37 X hH hk_r dX11_records_1 ?_
  refine lv_iconst (v := 4) hx hb dX11_records_4 (by decide) ?_
  have K2 : ∀ (v1 : vSt) (da : Nat → Nat) (H : Heap) (locs : List Loc) (ls : Array Slot), v1 = (if ((v r 5) : Int32) = 4 then (let v5 : vSt := (lX11_records_10 ((Int32.toInt (10251) - Int32.toInt 0).toNat + 1) 0 v); let v9 : vSt := u2 v5 r 5 ((v5 r 5) - 1); v9) else v : vSt) → Hp G da v1 x H → va_S (gA G) s.heap H locs → lv_has ls 2 [(0, .ref (ga G r))] → W p l e rmX11_records s m args below meth c H locs 0 0 Q (F0 m 49 ls []) := by
    intro v1 da H locs ls ev1 hH hS hl
    have ho := ho.2 v1 ev1
    refine lv_aload_n hx hb dX11_records_49 rfl (lv_at hl 0 rfl) ?_
    refine g_VernierDrawersModel_13 X hH hk_r dX11_records_50 ?_
    refine lv_iconst (v := 0) hx hb dX11_records_53 (by decide) ?_
    refine lv_aload_n hx hb dX11_records_54 rfl (lv_at hl 0 rfl) ?_
    refine g_VernierDrawersModel_19 X hH hk_r dX11_records_55 ?_
    refine lv_sipush (v := 3417) hx hb dX11_records_58 (by decide) ?_
    refine lv_aload_n hx hb dX11_records_61 rfl (lv_at hl 0 rfl) ?_
    refine g_VernierDrawersModel_37 X hH hk_r dX11_records_62 ?_
    refine lv_imul hx hb dX11_records_65 ?_
    have hq3 := ho
    refine k_X11_copies X hS hH (Or.inl kd_463) (Or.inr kd_465) hq3 t_ml_VernierDrawersModel_33 hl.1 (Nat.le_of_ble_eq_true rfl) ⟨Nat.le_of_ble_eq_true rfl, Nat.le_of_ble_eq_true rfl⟩ ⟨Nat.zero_le _, Nat.zero_le _⟩ dX11_records_66 (fun da H locs v4 ev4 hH hS => ?_)
    refine lv_aload_n hx hb dX11_records_69 rfl (lv_at hl 0 rfl) ?_
    refine lv_dup hx hb dX11_records_70 rfl ?_
    refine g_VernierDrawersModel_37 X hH hk_r dX11_records_71 ?_
    refine lv_iconst (v := 1) hx hb dX11_records_74 (by decide) ?_
    refine lv_iadd hx hb dX11_records_75 ?_
    refine p_VernierDrawersModel_37 X hH hS hk_r dX11_records_76 (fun H locs v5 ev5 hH hS => ?_)
    replace ev1 := Eq.symm ev1
    replace ev4 := Eq.symm ev4
    replace ev5 := Eq.symm ev5
    subst ev1 ev4 ev5
    exact E _ _ _ _ _ _ _ _ dX11_records_79 (Eq.symm rfl) hH hS (Nat.zero_le _) (Nat.zero_le _)
  have ho := ho.1
  refine lv_icmp_ne (tgt := 49) hx hb dX11_records_5 (by decide) (fun c2 => ?_) (fun c2 => ?_)
  · skip
    exact K2 _ _ _ _ _ (Eq.symm ((if_neg c2).trans rfl)) hH hS (lv_sub hl [0] rfl)
  · have ho := ho c2
    refine lv_iconst (v := 0) hx hb dX11_records_8 (by decide) ?_
    refine lv_istore_n (lv' := [(1, .int 0), (0, .ref (ga G r))]) hx hb dX11_records_9 rfl hl (by decide) rfl (fun ls hl => ?_)
    have L6 : ∀ (n : Nat) (i3 : Int32) (v4 : vSt) (da : Nat → Nat) (H : Heap) (locs : List Loc) (ls : Array Slot), olX11_records_10 n i3 v4 → Hp G da v4 x H → va_S (gA G) s.heap H locs → lv_has ls 2 [(1, .int i3), (0, .ref (ga G r))] → (∀ (v5 : vSt) (da : Nat → Nat) (H : Heap) (locs : List Loc) (ls : Array Slot), v5 = (lX11_records_10 n i3 v4 : vSt) → Hp G da v5 x H → va_S (gA G) s.heap H locs → lv_has ls 2 [(0, .ref (ga G r))] → W p l e rmX11_records s m args below meth c H locs 0 0 Q (F0 m 39 ls [])) → W p l e rmX11_records s m args below meth c H locs 0 0 Q (F0 m 10 ls []) := by
      clear ho
      intro n
      induction n with
      | zero =>
        intro i3 v4 da H locs ls ho
        exact ho.elim
      | succ n ih =>
        intro i3 v4 da H locs ls ho hH hS hl K7
        refine lv_iload_n hx hb dX11_records_10 rfl (lv_at hl 0 rfl) ?_
        refine lv_sipush (v := 10251) hx hb dX11_records_11 (by decide) ?_
        refine lv_icmp_ge (tgt := 39) hx hb dX11_records_14 (by decide) (fun c5 => ?_) (fun c5 => ?_)
        · skip
          exact K7 _ _ _ _ _ (Eq.symm (((lX11_records_10.eq_2 _ _ _)).trans ((if_pos c5).trans rfl))) hH hS (lv_sub hl [1] rfl)
        · have ho := ho c5
          refine lv_aload_n hx hb dX11_records_17 rfl (lv_at hl 1 rfl) ?_
          refine g_VernierDrawersModel_19 X hH hk_r dX11_records_18 ?_
          refine lv_iload_n hx hb dX11_records_21 rfl (lv_at hl 0 rfl) ?_
          refine lv_aload_n hx hb dX11_records_22 rfl (lv_at hl 1 rfl) ?_
          refine g_VernierDrawersModel_19 X hH hk_r dX11_records_23 ?_
          refine lv_iload_n hx hb dX11_records_26 rfl (lv_at hl 0 rfl) ?_
          refine lv_sipush (v := 3417) hx hb dX11_records_27 (by decide) ?_
          refine lv_iadd hx hb dX11_records_30 ?_
          have hq6 := ho.1
          have ho := ho.2
          refine ald_M X hH (Or.inr kd_465) hq6 dX11_records_31 ?_
          have hq7 := ho.1
          have ho := ho.2
          refine ast_M X hH hS (Or.inr kd_465) hq7 dX11_records_32 (fun H locs v8 ev8 hH hS => ?_)
          have ho := ho v8 ev8
          refine lv_iinc (v := i3 + 1) (lv' := [(1, .int (i3 + 1)), (0, .ref (ga G r))]) hx hb dX11_records_33 hl (k := 0) rfl rfl (by decide) rfl (fun ls hl => ?_)
          refine lv_goto (tgt := 10) hx hb dX11_records_36 (by decide) ?_
          replace ev8 := Eq.symm ev8
          subst ev8
          exact ih _ _ _ _ _ _ ho hH hS (lv_sub hl [0, 1] rfl) (fun v5 da H locs ls q0 hH hS hl => K7 v5 da H locs ls (q0.trans (congrArg (fun z : vSt => z) (Eq.symm (((lX11_records_10.eq_2 _ _ _)).trans ((if_neg c5).trans rfl))))) hH hS hl)
    have hol := ho
    refine L6 ((Int32.toInt (10251) - Int32.toInt 0).toNat + 1) 0 v _ _ _ _ hol hH hS (lv_sub hl [0, 1] rfl) (fun v5 da H locs ls ev5 hH hS hl => ?_)
    refine lv_aload_n hx hb dX11_records_39 rfl (lv_at hl 0 rfl) ?_
    refine lv_dup hx hb dX11_records_40 rfl ?_
    refine g_VernierDrawersModel_37 X hH hk_r dX11_records_41 ?_
    refine lv_iconst (v := 1) hx hb dX11_records_44 (by decide) ?_
    refine lv_isub hx hb dX11_records_45 ?_
    refine p_VernierDrawersModel_37 X hH hS hk_r dX11_records_46 (fun H locs v9 ev9 hH hS => ?_)
    replace ev5 := Eq.symm ev5
    replace ev9 := Eq.symm ev9
    subst ev5 ev9
    exact K2 _ _ _ _ _ (Eq.symm ((if_pos c2).trans rfl)) hH hS (lv_sub hl [0] rfl)
theorem k_X11_records {p : Program} {l : Launch} {e : Env} {R : Room} {s : State} {m : MethodId} {args : Array Value} {below : List Frame} {meth : Method} {c : Code} {H : Heap} {locs : List Loc} {cells slots : Nat} {Q : State → Prop} {cc : ByteArray} {pc nL : Nat} {ls : Array Slot} {rest : List Value} {G : gG} {own : String} {da : Nat → Nat} {v : vSt} {x : gX} (X : CX G p s m args c cc nL own) (hS : va_S (gA G) s.heap H locs) (hH : Hp G da v x H) {r : Nat} (hk_r : kd r = 11) (ho : oX11_records r v) {idx : Nat} (hml : Cond.methodLink own idx yX11_records ∈ TT) (hls : ls.size = nL) (hsum : (rest.map fun v => v.category).sum ≤ 8) (hR : rmX11_records.frames + 1 ≤ R.frames ∧ 8 + (2 + 11) + rmX11_records.locals ≤ R.locals) (hcs : cells ≤ R.cells ∧ slots ≤ R.slots) (hdg : decode cc pc = .ok (.invokevirtual idx, 3)) (kk : ∀ (d : Nat → Nat) (H1 : Heap) (locs1 : List Loc) (v1 : vSt), v1 = fX11_records r v → Hp G d v1 x H1 → va_S (gA G) s.heap H1 locs1 → W p l e R s m args below meth c H1 locs1 cells slots Q (F0 m (pc + 3) ls rest)) : W p l e R s m args below meth c H locs cells slots Q (F0 m pc ls (.ref (ga G r) :: rest)) := c_mv X.2.2.2.2.2.2 (runV (k := 0) X.1 X.2.1 X.2.2.1 X.2.2.2.1 X.2.2.2.2.1 (mX11_records l G da v x r hk_r ho) pW_bl hml t_im_X11_records t_sel_X11_records t_ini_VernierDrawersModel t_code_X11_records ⟨rfl, by decide, by decide, by decide +kernel⟩ rfl rfl hR hcs (recvW X hH (by rw [hk_r]; decide) (by rw [hk_r]; decide) (ce_11 hk_r) rfl) (preW X hS hH) rfl hls rfl hsum hdg) hS kk
