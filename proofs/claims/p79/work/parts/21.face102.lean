/-! 21.face1 -/
def fX10_broughtByPlaces (r : Nat) (v : vSt) : Int32 := ((((v (((rN (v r 0)) + 2) + 4) 3) + (v (((rN (v r 0)) + 2) + 5) 3)) + (v ((rN (v r 0)) + 2) 6)) + (v ((rN (v r 0)) + 2) 7)) + (v ((rN (v r 0)) + 2) 8)
def oX10_broughtByPlaces (r : Nat) (v : vSt) : Prop := kd (rN (v r 0)) = 7
abbrev rmX10_broughtByPlaces : Room := { frames := 0, cells := 0, slots := 0, locals := 0 }
theorem dX10_broughtByPlaces_0 : decode cX10_broughtByPlaces 0 = .ok (.aload_n 0, 1) := by decide +kernel
theorem dX10_broughtByPlaces_1 : decode cX10_broughtByPlaces 1 = .ok (.getfield 10, 3) := by decide +kernel
theorem dX10_broughtByPlaces_4 : decode cX10_broughtByPlaces 4 = .ok (.getfield 126, 3) := by decide +kernel
theorem dX10_broughtByPlaces_7 : decode cX10_broughtByPlaces 7 = .ok (.astore_n 1, 1) := by decide +kernel
theorem dX10_broughtByPlaces_8 : decode cX10_broughtByPlaces 8 = .ok (.aload_n 1, 1) := by decide +kernel
theorem dX10_broughtByPlaces_9 : decode cX10_broughtByPlaces 9 = .ok (.getfield 282, 3) := by decide +kernel
theorem dX10_broughtByPlaces_12 : decode cX10_broughtByPlaces 12 = .ok (.getfield 286, 3) := by decide +kernel
theorem dX10_broughtByPlaces_15 : decode cX10_broughtByPlaces 15 = .ok (.aload_n 1, 1) := by decide +kernel
theorem dX10_broughtByPlaces_16 : decode cX10_broughtByPlaces 16 = .ok (.getfield 301, 3) := by decide +kernel
theorem dX10_broughtByPlaces_19 : decode cX10_broughtByPlaces 19 = .ok (.getfield 286, 3) := by decide +kernel
theorem dX10_broughtByPlaces_22 : decode cX10_broughtByPlaces 22 = .ok (.iadd, 1) := by decide +kernel
theorem dX10_broughtByPlaces_23 : decode cX10_broughtByPlaces 23 = .ok (.aload_n 1, 1) := by decide +kernel
theorem dX10_broughtByPlaces_24 : decode cX10_broughtByPlaces 24 = .ok (.getfield 374, 3) := by decide +kernel
theorem dX10_broughtByPlaces_27 : decode cX10_broughtByPlaces 27 = .ok (.iadd, 1) := by decide +kernel
theorem dX10_broughtByPlaces_28 : decode cX10_broughtByPlaces 28 = .ok (.aload_n 1, 1) := by decide +kernel
theorem dX10_broughtByPlaces_29 : decode cX10_broughtByPlaces 29 = .ok (.getfield 377, 3) := by decide +kernel
theorem dX10_broughtByPlaces_32 : decode cX10_broughtByPlaces 32 = .ok (.iadd, 1) := by decide +kernel
theorem dX10_broughtByPlaces_33 : decode cX10_broughtByPlaces 33 = .ok (.aload_n 1, 1) := by decide +kernel
theorem dX10_broughtByPlaces_34 : decode cX10_broughtByPlaces 34 = .ok (.getfield 380, 3) := by decide +kernel
theorem dX10_broughtByPlaces_37 : decode cX10_broughtByPlaces 37 = .ok (.iadd, 1) := by decide +kernel
theorem dX10_broughtByPlaces_38 : decode cX10_broughtByPlaces 38 = .ok (.ireturn, 1) := by decide +kernel
set_option maxHeartbeats 8000000 in
set_option maxRecDepth 100000 in
theorem mX10_broughtByPlaces (l : Launch) (G : gG) (da : Nat → Nat) (v : vSt) (x : gX) (r : Nat) (hk_r : kd r = 10) (ho : oX10_broughtByPlaces r v) : QI l yX10_broughtByPlaces cX10_broughtByPlaces 2 (some .int) rmX10_broughtByPlaces [.ref (ga G r)] (pW G da v x) (fX10_broughtByPlaces r v) := by
  refine gofQ (own := RX10) (by decide) rfl (Nat.le_of_ble_eq_true rfl) (fun p e s m args below meth c ls Q X hH hl E => ?_)
  have hx := X.1
  have hb := X.2.1
  have hown := X.2.2.2.1
  have hts := X.2.2.2.2.1
  have hS : va_S (gA G) s.heap s.heap [] := va_S.rf
  unfold oX10_broughtByPlaces at ho
  have hl : lv_has ls 2 [(0, .ref (ga G r))] := hl
  refine lv_aload_n hx hb dX10_broughtByPlaces_0 rfl (lv_at hl 0 rfl) ?_
  refine g_VernierDrawers_10 X hH hk_r dX10_broughtByPlaces_1 ?_
  have hq1 := ho
  refine g_VernierDrawers_126 X hH hq1 dX10_broughtByPlaces_4 ?_
  refine lv_astore_n (lv' := [(1, .ref (ga G ((rN (v r 0)) + 2))), (0, .ref (ga G r))]) hx hb dX10_broughtByPlaces_7 rfl hl (by decide) rfl (fun ls hl => ?_)
  refine lv_aload_n hx hb dX10_broughtByPlaces_8 rfl (lv_at hl 0 rfl) ?_
  refine g_VernierDrawers_282 X hH (kc_7_0 hq1) dX10_broughtByPlaces_9 ?_
  refine g_VernierDrawers_286 X hH (Or.inl (kc_0_5 (kc_7_0 hq1))) dX10_broughtByPlaces_12 ?_
  refine lv_aload_n hx hb dX10_broughtByPlaces_15 rfl (lv_at hl 0 rfl) ?_
  refine g_VernierDrawers_301 X hH (kc_7_0 hq1) dX10_broughtByPlaces_16 ?_
  refine g_VernierDrawers_286 X hH (Or.inr (kc_0_15 (kc_7_0 hq1))) dX10_broughtByPlaces_19 ?_
  refine lv_iadd hx hb dX10_broughtByPlaces_22 ?_
  refine lv_aload_n hx hb dX10_broughtByPlaces_23 rfl (lv_at hl 0 rfl) ?_
  refine g_VernierDrawers_374 X hH (kc_7_0 hq1) dX10_broughtByPlaces_24 ?_
  refine lv_iadd hx hb dX10_broughtByPlaces_27 ?_
  refine lv_aload_n hx hb dX10_broughtByPlaces_28 rfl (lv_at hl 0 rfl) ?_
  refine g_VernierDrawers_377 X hH (kc_7_0 hq1) dX10_broughtByPlaces_29 ?_
  refine lv_iadd hx hb dX10_broughtByPlaces_32 ?_
  refine lv_aload_n hx hb dX10_broughtByPlaces_33 rfl (lv_at hl 0 rfl) ?_
  refine g_VernierDrawers_380 X hH (kc_7_0 hq1) dX10_broughtByPlaces_34 ?_
  refine lv_iadd hx hb dX10_broughtByPlaces_37 ?_
  exact E _ _ _ dX10_broughtByPlaces_38 rfl (Eq.symm rfl)
theorem k_X10_broughtByPlaces {p : Program} {l : Launch} {e : Env} {R : Room} {s : State} {m : MethodId} {args : Array Value} {below : List Frame} {meth : Method} {c : Code} {H : Heap} {locs : List Loc} {cells slots : Nat} {Q : State → Prop} {cc : ByteArray} {pc nL : Nat} {ls : Array Slot} {rest : List Value} {G : gG} {own : String} {da : Nat → Nat} {v : vSt} {x : gX} (X : CX G p s m args c cc nL own) (hS : va_S (gA G) s.heap H locs) (hH : Hp G da v x H) {r : Nat} (hk_r : kd r = 10) (ho : oX10_broughtByPlaces r v) {idx : Nat} (hml : Cond.methodLink own idx yX10_broughtByPlaces ∈ TT) (hls : ls.size = nL) (hsum : (rest.map fun v => v.category).sum ≤ 8) (hR : rmX10_broughtByPlaces.frames + 1 ≤ R.frames ∧ 8 + (2 + 11) + rmX10_broughtByPlaces.locals ≤ R.locals) (hcs : cells ≤ R.cells ∧ slots ≤ R.slots) (hdg : decode cc pc = .ok (.invokevirtual idx, 3)) (kk : W p l e R s m args below meth c H locs cells slots Q (F0 m (pc + 3) ls (.int (fX10_broughtByPlaces r v) :: rest))) : W p l e R s m args below meth c H locs cells slots Q (F0 m pc ls (.ref (ga G r) :: rest)) := c_qi (runV (k := 0) X.1 X.2.1 X.2.2.1 X.2.2.2.1 X.2.2.2.2.1 (mX10_broughtByPlaces l G da v x r hk_r ho) pW_bl hml t_im_X10_broughtByPlaces t_sel_X10_broughtByPlaces t_ini_VernierDrawers t_code_X10_broughtByPlaces ⟨rfl, by decide, by decide, by decide +kernel⟩ rfl rfl hR hcs (recvW X hH (by rw [hk_r]; decide) (by rw [hk_r]; decide) (ce_10 hk_r) rfl) (preW X hS hH) rfl hls rfl hsum hdg) (fun _ h => h ▸ kk)
def fX10_good (r : Nat) (v : vSt) : Int32 := v ((rN (v r 0)) + 2) 6
def oX10_good (r : Nat) (v : vSt) : Prop := kd (rN (v r 0)) = 7
abbrev rmX10_good : Room := { frames := 0, cells := 0, slots := 0, locals := 0 }
theorem dX10_good_0 : decode cX10_good 0 = .ok (.aload_n 0, 1) := by decide +kernel
theorem dX10_good_1 : decode cX10_good 1 = .ok (.getfield 10, 3) := by decide +kernel
theorem dX10_good_4 : decode cX10_good 4 = .ok (.getfield 126, 3) := by decide +kernel
theorem dX10_good_7 : decode cX10_good 7 = .ok (.getfield 374, 3) := by decide +kernel
theorem dX10_good_10 : decode cX10_good 10 = .ok (.ireturn, 1) := by decide +kernel
set_option maxHeartbeats 8000000 in
set_option maxRecDepth 100000 in
theorem mX10_good (l : Launch) (G : gG) (da : Nat → Nat) (v : vSt) (x : gX) (r : Nat) (hk_r : kd r = 10) (ho : oX10_good r v) : QI l yX10_good cX10_good 1 (some .int) rmX10_good [.ref (ga G r)] (pW G da v x) (fX10_good r v) := by
  refine gofQ (own := RX10) (by decide) rfl (Nat.le_of_ble_eq_true rfl) (fun p e s m args below meth c ls Q X hH hl E => ?_)
  have hx := X.1
  have hb := X.2.1
  have hown := X.2.2.2.1
  have hts := X.2.2.2.2.1
  have hS : va_S (gA G) s.heap s.heap [] := va_S.rf
  unfold oX10_good at ho
  have hl : lv_has ls 1 [(0, .ref (ga G r))] := hl
  refine lv_aload_n hx hb dX10_good_0 rfl (lv_at hl 0 rfl) ?_
  refine g_VernierDrawers_10 X hH hk_r dX10_good_1 ?_
  have hq1 := ho
  refine g_VernierDrawers_126 X hH hq1 dX10_good_4 ?_
  refine g_VernierDrawers_374 X hH (kc_7_0 hq1) dX10_good_7 ?_
  exact E _ _ _ dX10_good_10 rfl (Eq.symm rfl)
theorem k_X10_good {p : Program} {l : Launch} {e : Env} {R : Room} {s : State} {m : MethodId} {args : Array Value} {below : List Frame} {meth : Method} {c : Code} {H : Heap} {locs : List Loc} {cells slots : Nat} {Q : State → Prop} {cc : ByteArray} {pc nL : Nat} {ls : Array Slot} {rest : List Value} {G : gG} {own : String} {da : Nat → Nat} {v : vSt} {x : gX} (X : CX G p s m args c cc nL own) (hS : va_S (gA G) s.heap H locs) (hH : Hp G da v x H) {r : Nat} (hk_r : kd r = 10) (ho : oX10_good r v) {idx : Nat} (hml : Cond.methodLink own idx yX10_good ∈ TT) (hls : ls.size = nL) (hsum : (rest.map fun v => v.category).sum ≤ 8) (hR : rmX10_good.frames + 1 ≤ R.frames ∧ 8 + (1 + 11) + rmX10_good.locals ≤ R.locals) (hcs : cells ≤ R.cells ∧ slots ≤ R.slots) (hdg : decode cc pc = .ok (.invokevirtual idx, 3)) (kk : W p l e R s m args below meth c H locs cells slots Q (F0 m (pc + 3) ls (.int (fX10_good r v) :: rest))) : W p l e R s m args below meth c H locs cells slots Q (F0 m pc ls (.ref (ga G r) :: rest)) := c_qi (runV (k := 0) X.1 X.2.1 X.2.2.1 X.2.2.2.1 X.2.2.2.2.1 (mX10_good l G da v x r hk_r ho) pW_bl hml t_im_X10_good t_sel_X10_good t_ini_VernierDrawers t_code_X10_good ⟨rfl, by decide, by decide, by decide +kernel⟩ rfl rfl hR hcs (recvW X hH (by rw [hk_r]; decide) (by rw [hk_r]; decide) (ce_10 hk_r) rfl) (preW X hS hH) rfl hls rfl hsum hdg) (fun _ h => h ▸ kk)
def fX10_thrownAway (r : Nat) (v : vSt) : Int32 := v ((rN (v r 0)) + 2) 7
def oX10_thrownAway (r : Nat) (v : vSt) : Prop := kd (rN (v r 0)) = 7
abbrev rmX10_thrownAway : Room := { frames := 0, cells := 0, slots := 0, locals := 0 }
theorem dX10_thrownAway_0 : decode cX10_thrownAway 0 = .ok (.aload_n 0, 1) := by decide +kernel
theorem dX10_thrownAway_1 : decode cX10_thrownAway 1 = .ok (.getfield 10, 3) := by decide +kernel
theorem dX10_thrownAway_4 : decode cX10_thrownAway 4 = .ok (.getfield 126, 3) := by decide +kernel
theorem dX10_thrownAway_7 : decode cX10_thrownAway 7 = .ok (.getfield 377, 3) := by decide +kernel
theorem dX10_thrownAway_10 : decode cX10_thrownAway 10 = .ok (.ireturn, 1) := by decide +kernel
set_option maxHeartbeats 8000000 in
set_option maxRecDepth 100000 in
theorem mX10_thrownAway (l : Launch) (G : gG) (da : Nat → Nat) (v : vSt) (x : gX) (r : Nat) (hk_r : kd r = 10) (ho : oX10_thrownAway r v) : QI l yX10_thrownAway cX10_thrownAway 1 (some .int) rmX10_thrownAway [.ref (ga G r)] (pW G da v x) (fX10_thrownAway r v) := by
  refine gofQ (own := RX10) (by decide) rfl (Nat.le_of_ble_eq_true rfl) (fun p e s m args below meth c ls Q X hH hl E => ?_)
  have hx := X.1
  have hb := X.2.1
  have hown := X.2.2.2.1
  have hts := X.2.2.2.2.1
  have hS : va_S (gA G) s.heap s.heap [] := va_S.rf
  unfold oX10_thrownAway at ho
  have hl : lv_has ls 1 [(0, .ref (ga G r))] := hl
  refine lv_aload_n hx hb dX10_thrownAway_0 rfl (lv_at hl 0 rfl) ?_
  refine g_VernierDrawers_10 X hH hk_r dX10_thrownAway_1 ?_
  have hq1 := ho
  refine g_VernierDrawers_126 X hH hq1 dX10_thrownAway_4 ?_
  refine g_VernierDrawers_377 X hH (kc_7_0 hq1) dX10_thrownAway_7 ?_
  exact E _ _ _ dX10_thrownAway_10 rfl (Eq.symm rfl)
theorem k_X10_thrownAway {p : Program} {l : Launch} {e : Env} {R : Room} {s : State} {m : MethodId} {args : Array Value} {below : List Frame} {meth : Method} {c : Code} {H : Heap} {locs : List Loc} {cells slots : Nat} {Q : State → Prop} {cc : ByteArray} {pc nL : Nat} {ls : Array Slot} {rest : List Value} {G : gG} {own : String} {da : Nat → Nat} {v : vSt} {x : gX} (X : CX G p s m args c cc nL own) (hS : va_S (gA G) s.heap H locs) (hH : Hp G da v x H) {r : Nat} (hk_r : kd r = 10) (ho : oX10_thrownAway r v) {idx : Nat} (hml : Cond.methodLink own idx yX10_thrownAway ∈ TT) (hls : ls.size = nL) (hsum : (rest.map fun v => v.category).sum ≤ 8) (hR : rmX10_thrownAway.frames + 1 ≤ R.frames ∧ 8 + (1 + 11) + rmX10_thrownAway.locals ≤ R.locals) (hcs : cells ≤ R.cells ∧ slots ≤ R.slots) (hdg : decode cc pc = .ok (.invokevirtual idx, 3)) (kk : W p l e R s m args below meth c H locs cells slots Q (F0 m (pc + 3) ls (.int (fX10_thrownAway r v) :: rest))) : W p l e R s m args below meth c H locs cells slots Q (F0 m pc ls (.ref (ga G r) :: rest)) := c_qi (runV (k := 0) X.1 X.2.1 X.2.2.1 X.2.2.2.1 X.2.2.2.2.1 (mX10_thrownAway l G da v x r hk_r ho) pW_bl hml t_im_X10_thrownAway t_sel_X10_thrownAway t_ini_VernierDrawers t_code_X10_thrownAway ⟨rfl, by decide, by decide, by decide +kernel⟩ rfl rfl hR hcs (recvW X hH (by rw [hk_r]; decide) (by rw [hk_r]; decide) (ce_10 hk_r) rfl) (preW X hS hH) rfl hls rfl hsum hdg) (fun _ h => h ▸ kk)
def fX10_unseen (r : Nat) (v : vSt) : Int32 := v ((rN (v r 0)) + 2) 8
def oX10_unseen (r : Nat) (v : vSt) : Prop := kd (rN (v r 0)) = 7
abbrev rmX10_unseen : Room := { frames := 0, cells := 0, slots := 0, locals := 0 }
theorem dX10_unseen_0 : decode cX10_unseen 0 = .ok (.aload_n 0, 1) := by decide +kernel
theorem dX10_unseen_1 : decode cX10_unseen 1 = .ok (.getfield 10, 3) := by decide +kernel
theorem dX10_unseen_4 : decode cX10_unseen 4 = .ok (.getfield 126, 3) := by decide +kernel
theorem dX10_unseen_7 : decode cX10_unseen 7 = .ok (.getfield 380, 3) := by decide +kernel
theorem dX10_unseen_10 : decode cX10_unseen 10 = .ok (.ireturn, 1) := by decide +kernel
set_option maxHeartbeats 8000000 in
set_option maxRecDepth 100000 in
theorem mX10_unseen (l : Launch) (G : gG) (da : Nat → Nat) (v : vSt) (x : gX) (r : Nat) (hk_r : kd r = 10) (ho : oX10_unseen r v) : QI l yX10_unseen cX10_unseen 1 (some .int) rmX10_unseen [.ref (ga G r)] (pW G da v x) (fX10_unseen r v) := by
  refine gofQ (own := RX10) (by decide) rfl (Nat.le_of_ble_eq_true rfl) (fun p e s m args below meth c ls Q X hH hl E => ?_)
  have hx := X.1
  have hb := X.2.1
  have hown := X.2.2.2.1
  have hts := X.2.2.2.2.1
  have hS : va_S (gA G) s.heap s.heap [] := va_S.rf
  unfold oX10_unseen at ho
  have hl : lv_has ls 1 [(0, .ref (ga G r))] := hl
  refine lv_aload_n hx hb dX10_unseen_0 rfl (lv_at hl 0 rfl) ?_
  refine g_VernierDrawers_10 X hH hk_r dX10_unseen_1 ?_
  have hq1 := ho
  refine g_VernierDrawers_126 X hH hq1 dX10_unseen_4 ?_
  refine g_VernierDrawers_380 X hH (kc_7_0 hq1) dX10_unseen_7 ?_
  exact E _ _ _ dX10_unseen_10 rfl (Eq.symm rfl)
theorem k_X10_unseen {p : Program} {l : Launch} {e : Env} {R : Room} {s : State} {m : MethodId} {args : Array Value} {below : List Frame} {meth : Method} {c : Code} {H : Heap} {locs : List Loc} {cells slots : Nat} {Q : State → Prop} {cc : ByteArray} {pc nL : Nat} {ls : Array Slot} {rest : List Value} {G : gG} {own : String} {da : Nat → Nat} {v : vSt} {x : gX} (X : CX G p s m args c cc nL own) (hS : va_S (gA G) s.heap H locs) (hH : Hp G da v x H) {r : Nat} (hk_r : kd r = 10) (ho : oX10_unseen r v) {idx : Nat} (hml : Cond.methodLink own idx yX10_unseen ∈ TT) (hls : ls.size = nL) (hsum : (rest.map fun v => v.category).sum ≤ 8) (hR : rmX10_unseen.frames + 1 ≤ R.frames ∧ 8 + (1 + 11) + rmX10_unseen.locals ≤ R.locals) (hcs : cells ≤ R.cells ∧ slots ≤ R.slots) (hdg : decode cc pc = .ok (.invokevirtual idx, 3)) (kk : W p l e R s m args below meth c H locs cells slots Q (F0 m (pc + 3) ls (.int (fX10_unseen r v) :: rest))) : W p l e R s m args below meth c H locs cells slots Q (F0 m pc ls (.ref (ga G r) :: rest)) := c_qi (runV (k := 0) X.1 X.2.1 X.2.2.1 X.2.2.2.1 X.2.2.2.2.1 (mX10_unseen l G da v x r hk_r ho) pW_bl hml t_im_X10_unseen t_sel_X10_unseen t_ini_VernierDrawers t_code_X10_unseen ⟨rfl, by decide, by decide, by decide +kernel⟩ rfl rfl hR hcs (recvW X hH (by rw [hk_r]; decide) (by rw [hk_r]; decide) (ce_10 hk_r) rfl) (preW X hS hH) rfl hls rfl hsum hdg) (fun _ h => h ▸ kk)
def fX10_doubts (r : Nat) (v : vSt) : Int32 := v ((rN (v r 0)) + 2) 9
def oX10_doubts (r : Nat) (v : vSt) : Prop := kd (rN (v r 0)) = 7
abbrev rmX10_doubts : Room := { frames := 0, cells := 0, slots := 0, locals := 0 }
theorem dX10_doubts_0 : decode cX10_doubts 0 = .ok (.aload_n 0, 1) := by decide +kernel
theorem dX10_doubts_1 : decode cX10_doubts 1 = .ok (.getfield 10, 3) := by decide +kernel
theorem dX10_doubts_4 : decode cX10_doubts 4 = .ok (.getfield 126, 3) := by decide +kernel
theorem dX10_doubts_7 : decode cX10_doubts 7 = .ok (.getfield 383, 3) := by decide +kernel
theorem dX10_doubts_10 : decode cX10_doubts 10 = .ok (.ireturn, 1) := by decide +kernel
set_option maxHeartbeats 8000000 in
set_option maxRecDepth 100000 in
theorem mX10_doubts (l : Launch) (G : gG) (da : Nat → Nat) (v : vSt) (x : gX) (r : Nat) (hk_r : kd r = 10) (ho : oX10_doubts r v) : QI l yX10_doubts cX10_doubts 1 (some .int) rmX10_doubts [.ref (ga G r)] (pW G da v x) (fX10_doubts r v) := by
  refine gofQ (own := RX10) (by decide) rfl (Nat.le_of_ble_eq_true rfl) (fun p e s m args below meth c ls Q X hH hl E => ?_)
  have hx := X.1
  have hb := X.2.1
  have hown := X.2.2.2.1
  have hts := X.2.2.2.2.1
  have hS : va_S (gA G) s.heap s.heap [] := va_S.rf
  unfold oX10_doubts at ho
  have hl : lv_has ls 1 [(0, .ref (ga G r))] := hl
  refine lv_aload_n hx hb dX10_doubts_0 rfl (lv_at hl 0 rfl) ?_
  refine g_VernierDrawers_10 X hH hk_r dX10_doubts_1 ?_
  have hq1 := ho
  refine g_VernierDrawers_126 X hH hq1 dX10_doubts_4 ?_
  refine g_VernierDrawers_383 X hH (kc_7_0 hq1) dX10_doubts_7 ?_
  exact E _ _ _ dX10_doubts_10 rfl (Eq.symm rfl)
theorem k_X10_doubts {p : Program} {l : Launch} {e : Env} {R : Room} {s : State} {m : MethodId} {args : Array Value} {below : List Frame} {meth : Method} {c : Code} {H : Heap} {locs : List Loc} {cells slots : Nat} {Q : State → Prop} {cc : ByteArray} {pc nL : Nat} {ls : Array Slot} {rest : List Value} {G : gG} {own : String} {da : Nat → Nat} {v : vSt} {x : gX} (X : CX G p s m args c cc nL own) (hS : va_S (gA G) s.heap H locs) (hH : Hp G da v x H) {r : Nat} (hk_r : kd r = 10) (ho : oX10_doubts r v) {idx : Nat} (hml : Cond.methodLink own idx yX10_doubts ∈ TT) (hls : ls.size = nL) (hsum : (rest.map fun v => v.category).sum ≤ 8) (hR : rmX10_doubts.frames + 1 ≤ R.frames ∧ 8 + (1 + 11) + rmX10_doubts.locals ≤ R.locals) (hcs : cells ≤ R.cells ∧ slots ≤ R.slots) (hdg : decode cc pc = .ok (.invokevirtual idx, 3)) (kk : W p l e R s m args below meth c H locs cells slots Q (F0 m (pc + 3) ls (.int (fX10_doubts r v) :: rest))) : W p l e R s m args below meth c H locs cells slots Q (F0 m pc ls (.ref (ga G r) :: rest)) := c_qi (runV (k := 0) X.1 X.2.1 X.2.2.1 X.2.2.2.1 X.2.2.2.2.1 (mX10_doubts l G da v x r hk_r ho) pW_bl hml t_im_X10_doubts t_sel_X10_doubts t_ini_VernierDrawers t_code_X10_doubts ⟨rfl, by decide, by decide, by decide +kernel⟩ rfl rfl hR hcs (recvW X hH (by rw [hk_r]; decide) (by rw [hk_r]; decide) (ce_10 hk_r) rfl) (preW X hS hH) rfl hls rfl hsum hdg) (fun _ h => h ▸ kk)
def fX10_keep (r : Nat) (v : vSt) : Int32 × vSt := let v4 : vSt := fX7_copyFrom 320 (rN (v r 0)) v; let v5 : vSt := u2 v4 r 4 1; (v5 (((rN (v5 r 0)) + 2) + 4) 3, v5)

def kkX10_keep (r : Nat) (v : vSt) : Nat := pot ((fX10_keep r v).2) - pot v + 36
def oX10_keep (r : Nat) (v : vSt) : Prop := (kd (rN (v r 0)) = 7) ∧ ((oX7_copyFrom 320 (rN (v r 0)) v) ∧ ((0 + kkX7_copyFrom 320 (rN (v r 0)) v ≤ kkX10_keep r v) ∧ (∀ v4 : vSt, v4 = (fX7_copyFrom 320 (rN (v r 0)) v) → (∀ v5 : vSt, v5 = (u2 v4 r 4 1) → (kd (rN (v5 r 0)) = 7)))))
abbrev rmX10_keep (r : Nat) (v : vSt) : Room := { frames := 6, cells := kkX10_keep r v, slots := kkX10_keep r v, locals := 176 }
theorem dX10_keep_0 : decode cX10_keep 0 = .ok (.aload_n 0, 1) := by decide +kernel
theorem dX10_keep_1 : decode cX10_keep 1 = .ok (.getfield 20, 3) := by decide +kernel
theorem dX10_keep_4 : decode cX10_keep 4 = .ok (.aload_n 0, 1) := by decide +kernel
theorem dX10_keep_5 : decode cX10_keep 5 = .ok (.getfield 10, 3) := by decide +kernel
theorem dX10_keep_8 : decode cX10_keep 8 = .ok (.invokevirtual 391, 3) := by decide +kernel
theorem dX10_keep_11 : decode cX10_keep 11 = .ok (.aload_n 0, 1) := by decide +kernel
theorem dX10_keep_12 : decode cX10_keep 12 = .ok (.iconst 1, 1) := by decide +kernel
theorem dX10_keep_13 : decode cX10_keep 13 = .ok (.putfield 395, 3) := by decide +kernel
theorem dX10_keep_16 : decode cX10_keep 16 = .ok (.aload_n 0, 1) := by decide +kernel
theorem dX10_keep_17 : decode cX10_keep 17 = .ok (.getfield 10, 3) := by decide +kernel
theorem dX10_keep_20 : decode cX10_keep 20 = .ok (.getfield 126, 3) := by decide +kernel
theorem dX10_keep_23 : decode cX10_keep 23 = .ok (.getfield 282, 3) := by decide +kernel
theorem dX10_keep_26 : decode cX10_keep 26 = .ok (.getfield 286, 3) := by decide +kernel
theorem dX10_keep_29 : decode cX10_keep 29 = .ok (.ireturn, 1) := by decide +kernel
set_option maxHeartbeats 8000000 in
set_option maxRecDepth 100000 in
theorem mX10_keep (l : Launch) (G : gG) (da : Nat → Nat) (v : vSt) (x : gX) (r : Nat) (hk_r : kd r = 10) (ho : oX10_keep r v) : MI l yX10_keep cX10_keep 1 (some .int) (rmX10_keep r v) [.ref (ga G r)] G da v x (kkX10_keep r v) (kkX10_keep r v) (fX10_keep r v).1 (fX10_keep r v).2 x := by
  refine gofMI (own := RX10) (by decide) rfl (Nat.le_of_ble_eq_true rfl) (fun p e s m args below meth c ls Q X hH hl E => ?_)
  have hx := X.1
  have hb := X.2.1
  have hown := X.2.2.2.1
  have hts := X.2.2.2.2.1
  have hS : va_S (gA G) s.heap s.heap [] := va_S.rf
  unfold oX10_keep at ho
  have hl : lv_has ls 1 [(0, .ref (ga G r))] := hl
  refine lv_aload_n hx hb dX10_keep_0 rfl (lv_at hl 0 rfl) ?_
  refine g_VernierDrawers_20 X hH hk_r dX10_keep_1 ?_
  refine lv_aload_n hx hb dX10_keep_4 rfl (lv_at hl 0 rfl) ?_
  refine g_VernierDrawers_10 X hH hk_r dX10_keep_5 ?_
  have hq1 := ho.1
  have ho := ho.2
  have hq2 := ho.1
  have ho := ho.2
  have hq3 := ho.1
  have ho := ho.2
  refine k_X7_copyFrom X hS hH kd_320 hq1 hq2 t_ml_VernierDrawers_391 hl.1 (Nat.le_of_ble_eq_true rfl) ⟨Nat.le_of_ble_eq_true rfl, Nat.le_of_ble_eq_true rfl⟩ ⟨hq3, hq3⟩ dX10_keep_8 (fun da H locs v4 ev4 hH hS => ?_)
  have ho := ho v4 ev4
  refine lv_aload_n hx hb dX10_keep_11 rfl (lv_at hl 0 rfl) ?_
  refine lv_iconst (v := 1) hx hb dX10_keep_12 (by decide) ?_
  refine p_VernierDrawers_395 X hH hS hk_r rfl rfl dX10_keep_13 (fun H locs v5 ev5 hH hS => ?_)
  have ho := ho v5 ev5
  refine lv_aload_n hx hb dX10_keep_16 rfl (lv_at hl 0 rfl) ?_
  refine g_VernierDrawers_10 X hH hk_r dX10_keep_17 ?_
  have hq6 := ho
  refine g_VernierDrawers_126 X hH hq6 dX10_keep_20 ?_
  refine g_VernierDrawers_282 X hH (kc_7_0 hq6) dX10_keep_23 ?_
  refine g_VernierDrawers_286 X hH (Or.inl (kc_0_5 (kc_7_0 hq6))) dX10_keep_26 ?_
  replace ev4 := Eq.symm ev4
  replace ev5 := Eq.symm ev5
  subst ev4 ev5
  exact E _ _ _ _ _ _ _ _ _ dX10_keep_29 rfl (pr1 rfl) (pr2 rfl) hH hS hq3 hq3
theorem k_X10_keep {p : Program} {l : Launch} {e : Env} {R : Room} {s : State} {m : MethodId} {args : Array Value} {below : List Frame} {meth : Method} {c : Code} {H : Heap} {locs : List Loc} {cells slots : Nat} {Q : State → Prop} {cc : ByteArray} {pc nL : Nat} {ls : Array Slot} {rest : List Value} {G : gG} {own : String} {da : Nat → Nat} {v : vSt} {x : gX} (X : CX G p s m args c cc nL own) (hS : va_S (gA G) s.heap H locs) (hH : Hp G da v x H) {r : Nat} (hk_r : kd r = 10) (ho : oX10_keep r v) {idx : Nat} (hml : Cond.methodLink own idx yX10_keep ∈ TT) (hls : ls.size = nL) (hsum : (rest.map fun v => v.category).sum ≤ 8) (hR : (rmX10_keep r v).frames + 1 ≤ R.frames ∧ 8 + (1 + 11) + (rmX10_keep r v).locals ≤ R.locals) (hcs : cells + (kkX10_keep r v) ≤ R.cells ∧ slots + (kkX10_keep r v) ≤ R.slots) (hdg : decode cc pc = .ok (.invokevirtual idx, 3)) (kk : ∀ (d : Nat → Nat) (H1 : Heap) (locs1 : List Loc) (v1 : vSt), v1 = (fX10_keep r v).2 → Hp G d v1 x H1 → va_S (gA G) s.heap H1 locs1 → W p l e R s m args below meth c H1 locs1 (cells + (kkX10_keep r v)) (slots + (kkX10_keep r v)) Q (F0 m (pc + 3) ls (.int (fX10_keep r v).1 :: rest))) : W p l e R s m args below meth c H locs cells slots Q (F0 m pc ls (.ref (ga G r) :: rest)) := c_mi X.2.2.2.2.2.2 (runV (k := 0) X.1 X.2.1 X.2.2.1 X.2.2.2.1 X.2.2.2.2.1 (mX10_keep l G da v x r hk_r ho) pW_bl hml t_im_X10_keep t_sel_X10_keep t_ini_VernierDrawers t_code_X10_keep ⟨rfl, by decide, by decide, by decide +kernel⟩ rfl rfl hR hcs (recvW X hH (by rw [hk_r]; decide) (by rw [hk_r]; decide) (ce_10 hk_r) rfl) (preW X hS hH) rfl hls rfl hsum hdg) hS kk
def fX10_goBack (r : Nat) (v : vSt) : Nat × Int32 × vSt := if ((v r 4) : Int32) = 0 then ((2, 0, v)) else (let v4 : vSt := fX10_recordState r v; let v8 : vSt := fX7_copyFrom (rN (v4 r 0)) 320 v4; (0, v8 (((rN (v8 r 0)) + 2) + 4) 3, v8))

def kkX10_goBack (r : Nat) (v : vSt) : Nat := pot ((fX10_goBack r v).2.2) - pot v + 36
def oX10_goBack (r : Nat) (v : vSt) : Prop := ((((v r 4) : Int32) = 0) → (0 + 6 ≤ kkX10_goBack r v)) ∧ (¬ (((v r 4) : Int32) = 0) → ((oX10_recordState r v) ∧ ((0 + kkX10_recordState r v ≤ kkX10_goBack r v) ∧ (∀ v4 : vSt, v4 = (fX10_recordState r v) → ((kd (rN (v4 r 0)) = 7) ∧ ((oX7_copyFrom (rN (v4 r 0)) 320 v4) ∧ (((0 + kkX10_recordState r v) + kkX7_copyFrom (rN (v4 r 0)) 320 v4 ≤ kkX10_goBack r v) ∧ (∀ v8 : vSt, v8 = (fX7_copyFrom (rN (v4 r 0)) 320 v4) → (kd (rN (v8 r 0)) = 7)))))))))
abbrev rmX10_goBack (r : Nat) (v : vSt) : Room := { frames := 7, cells := kkX10_goBack r v, slots := kkX10_goBack r v, locals := 196 }
theorem dX10_goBack_0 : decode cX10_goBack 0 = .ok (.aload_n 0, 1) := by decide +kernel
theorem dX10_goBack_1 : decode cX10_goBack 1 = .ok (.getfield 395, 3) := by decide +kernel
theorem dX10_goBack_4 : decode cX10_goBack 4 = .ok (.ifCond .ne 14, 3) := by decide +kernel
theorem dX10_goBack_7 : decode cX10_goBack 7 = .ok (.new 66, 3) := by decide +kernel
theorem dX10_goBack_10 : decode cX10_goBack 10 = .ok (.dup, 1) := by decide +kernel
theorem dX10_goBack_11 : decode cX10_goBack 11 = .ok (.ldc_w 399, 3) := by decide +kernel
theorem dX10_goBack_14 : decode cX10_goBack 14 = .ok (.invokespecial 70, 3) := by decide +kernel
theorem dX10_goBack_17 : decode cX10_goBack 17 = .ok (.athrow, 1) := by decide +kernel
theorem dX10_goBack_18 : decode cX10_goBack 18 = .ok (.aload_n 0, 1) := by decide +kernel
theorem dX10_goBack_19 : decode cX10_goBack 19 = .ok (.invokevirtual 71, 3) := by decide +kernel
theorem dX10_goBack_22 : decode cX10_goBack 22 = .ok (.aload_n 0, 1) := by decide +kernel
theorem dX10_goBack_23 : decode cX10_goBack 23 = .ok (.getfield 10, 3) := by decide +kernel
theorem dX10_goBack_26 : decode cX10_goBack 26 = .ok (.aload_n 0, 1) := by decide +kernel
theorem dX10_goBack_27 : decode cX10_goBack 27 = .ok (.getfield 20, 3) := by decide +kernel
theorem dX10_goBack_30 : decode cX10_goBack 30 = .ok (.invokevirtual 391, 3) := by decide +kernel
theorem dX10_goBack_33 : decode cX10_goBack 33 = .ok (.aload_n 0, 1) := by decide +kernel
theorem dX10_goBack_34 : decode cX10_goBack 34 = .ok (.getfield 10, 3) := by decide +kernel
theorem dX10_goBack_37 : decode cX10_goBack 37 = .ok (.getfield 126, 3) := by decide +kernel
theorem dX10_goBack_40 : decode cX10_goBack 40 = .ok (.getfield 282, 3) := by decide +kernel
theorem dX10_goBack_43 : decode cX10_goBack 43 = .ok (.getfield 286, 3) := by decide +kernel
theorem dX10_goBack_46 : decode cX10_goBack 46 = .ok (.ireturn, 1) := by decide +kernel
set_option maxHeartbeats 8000000 in
set_option maxRecDepth 100000 in
theorem mX10_goBack (l : Launch) (hst : l.stackTraces = false) (G : gG) (da : Nat → Nat) (v : vSt) (x : gX) (r : Nat) (hk_r : kd r = 10) (ho : oX10_goBack r v) : TI l yX10_goBack cX10_goBack 1 (some .int) (rmX10_goBack r v) [.ref (ga G r)] G da v x (kkX10_goBack r v) (kkX10_goBack r v) (fX10_goBack r v).1 (fX10_goBack r v).2.1 (fX10_goBack r v).2.2 x := by
  refine gofTI hst (by decide) rfl (Nat.le_of_ble_eq_true rfl) ⟨Nat.le_of_ble_eq_true rfl, Nat.le_of_ble_eq_true rfl, Nat.le_refl _, Nat.le_refl _⟩ (fun p e s m args below meth c ls Q X hH hl E EX ES EW => ?_)
  have hx := X.1
  have hb := X.2.1
  have hown := X.2.2.2.1
  have hts := X.2.2.2.2.1
  have hS : va_S (gA G) s.heap s.heap [] := va_S.rf
  unfold oX10_goBack at ho
  have hl : lv_has ls 1 [(0, .ref (ga G r))] := hl
  refine lv_aload_n hx hb dX10_goBack_0 rfl (lv_at hl 0 rfl) ?_
  refine g_VernierDrawers_395 X hH hk_r dX10_goBack_1 ?_
  refine lv_if_ne (tgt := 18) hx hb dX10_goBack_4 (by decide) (fun c1 => ?_) (fun c1 => ?_)
  · have ho := ho.2 c1
    refine lv_aload_n hx hb dX10_goBack_18 rfl (lv_at hl 0 rfl) ?_
    have hq2 := ho.1
    have ho := ho.2
    have hq3 := ho.1
    have ho := ho.2
    refine k_X10_recordState X hS hH hk_r hq2 t_ml_VernierDrawers_71 hl.1 (Nat.le_of_ble_eq_true rfl) ⟨Nat.le_of_ble_eq_true rfl, Nat.le_of_ble_eq_true rfl⟩ ⟨hq3, hq3⟩ dX10_goBack_19 (fun da H locs v4 ev4 hH hS => ?_)
    have ho := ho v4 ev4
    refine lv_aload_n hx hb dX10_goBack_22 rfl (lv_at hl 0 rfl) ?_
    refine g_VernierDrawers_10 X hH hk_r dX10_goBack_23 ?_
    have hq5 := ho.1
    have ho := ho.2
    refine lv_aload_n hx hb dX10_goBack_26 rfl (lv_at hl 0 rfl) ?_
    refine g_VernierDrawers_20 X hH hk_r dX10_goBack_27 ?_
    have hq6 := ho.1
    have ho := ho.2
    have hq7 := ho.1
    have ho := ho.2
    refine k_X7_copyFrom X hS hH hq5 kd_320 hq6 t_ml_VernierDrawers_391 hl.1 (Nat.le_of_ble_eq_true rfl) ⟨Nat.le_of_ble_eq_true rfl, Nat.le_of_ble_eq_true rfl⟩ ⟨hq7, hq7⟩ dX10_goBack_30 (fun da H locs v8 ev8 hH hS => ?_)
    have ho := ho v8 ev8
    refine lv_aload_n hx hb dX10_goBack_33 rfl (lv_at hl 0 rfl) ?_
    refine g_VernierDrawers_10 X hH hk_r dX10_goBack_34 ?_
    have hq9 := ho
    refine g_VernierDrawers_126 X hH hq9 dX10_goBack_37 ?_
    refine g_VernierDrawers_282 X hH (kc_7_0 hq9) dX10_goBack_40 ?_
    refine g_VernierDrawers_286 X hH (Or.inl (kc_0_5 (kc_7_0 hq9))) dX10_goBack_43 ?_
    replace ev4 := Eq.symm ev4
    replace ev8 := Eq.symm ev8
    subst ev4 ev8
    exact E _ _ _ _ _ _ _ _ _ dX10_goBack_46 rfl (Eq.symm (t31 ((fX10_goBack.eq_1 _ _).trans ((if_neg c1).trans rfl)))) (t32 ((fX10_goBack.eq_1 _ _).trans ((if_neg c1).trans rfl))) (t33 ((fX10_goBack.eq_1 _ _).trans ((if_neg c1).trans rfl))) hH hS hq7 hq7
  · have ho := ho.1 c1
    have hq10 := ho
    exact EW _ _ _ _ _ _ _ _ _ _ _ _ _ _ (th_2 X) (by decide) (t31 ((fX10_goBack.eq_1 _ _).trans ((if_pos c1).trans rfl))) (t33 ((fX10_goBack.eq_1 _ _).trans ((if_pos c1).trans rfl))) hH hS t_sr_VernierDrawers_399 hl.1 dX10_goBack_7 dX10_goBack_10 dX10_goBack_11 dX10_goBack_14 dX10_goBack_17 (Nat.le_of_ble_eq_true rfl) (c16 hq10) hq10
theorem k_X10_goBack {p : Program} {l : Launch} {e : Env} {R : Room} {s : State} {m : MethodId} {args : Array Value} {below : List Frame} {meth : Method} {c : Code} {H : Heap} {locs : List Loc} {cells slots : Nat} {Q : State → Prop} {cc : ByteArray} {pc nL : Nat} {ls : Array Slot} {rest : List Value} {G : gG} {own : String} {da : Nat → Nat} {v : vSt} {x : gX} (hst : l.stackTraces = false) (X : CX G p s m args c cc nL own) (hS : va_S (gA G) s.heap H locs) (hH : Hp G da v x H) {r : Nat} (hk_r : kd r = 10) (ho : oX10_goBack r v) {idx : Nat} (hml : Cond.methodLink own idx yX10_goBack ∈ TT) (hls : ls.size = nL) (hsum : (rest.map fun v => v.category).sum ≤ 8) (hR : (rmX10_goBack r v).frames + 1 ≤ R.frames ∧ 8 + (1 + 11) + (rmX10_goBack r v).locals ≤ R.locals) (hcs : cells + (kkX10_goBack r v) ≤ R.cells ∧ slots + (kkX10_goBack r v) ≤ R.slots) (hdg : decode cc pc = .ok (.invokevirtual idx, 3)) (kx : ¬ (fX10_goBack r v).1 = 0 → ∀ (d : Nat → Nat) (ce : Cell) (q9 : Addr) (H1 : Heap) (locs1 : List Loc) (v1 : vSt), v1 = (fX10_goBack r v).2.2 → Hp G d v1 x H1 → va_S (gA G) s.heap H1 locs1 → H1[q9]? = some ce → ce.vm = .none → s.vm.findClass (exN (fX10_goBack r v).1) = some ce.cls → vx_W p l e R s m args below meth c H1 locs1 (cells + (kkX10_goBack r v)) (slots + (kkX10_goBack r v)) Q (F0 m pc ls rest) q9) (kk : (fX10_goBack r v).1 = 0 → ∀ (d : Nat → Nat) (H1 : Heap) (locs1 : List Loc) (v1 : vSt), v1 = (fX10_goBack r v).2.2 → Hp G d v1 x H1 → va_S (gA G) s.heap H1 locs1 → W p l e R s m args below meth c H1 locs1 (cells + (kkX10_goBack r v)) (slots + (kkX10_goBack r v)) Q (F0 m (pc + 3) ls (.int (fX10_goBack r v).2.1 :: rest))) : W p l e R s m args below meth c H locs cells slots Q (F0 m pc ls (.ref (ga G r) :: rest)) := c_ti (runxV (kp := 0) X.1 X.2.1 X.2.2.1 X.2.2.2.1 X.2.2.2.2.1 (mX10_goBack l hst G da v x r hk_r ho) pW_bl hml t_im_X10_goBack t_sel_X10_goBack t_ini_VernierDrawers t_code_X10_goBack ⟨rfl, by decide, by decide, by decide +kernel⟩ rfl rfl hR hcs (recvW X hH (by rw [hk_r]; decide) (by rw [hk_r]; decide) (ce_10 hk_r) rfl) (preW X hS hH) rfl hls rfl hsum hdg) hS kx kk
def fX10_states (r : Nat) (v : vSt) : Int32 := v r 2
abbrev rmX10_states : Room := { frames := 0, cells := 0, slots := 0, locals := 0 }
theorem dX10_states_0 : decode cX10_states 0 = .ok (.aload_n 0, 1) := by decide +kernel
theorem dX10_states_1 : decode cX10_states 1 = .ok (.getfield 401, 3) := by decide +kernel
theorem dX10_states_4 : decode cX10_states 4 = .ok (.ireturn, 1) := by decide +kernel
set_option maxHeartbeats 8000000 in
set_option maxRecDepth 100000 in
theorem mX10_states (l : Launch) (G : gG) (da : Nat → Nat) (v : vSt) (x : gX) (r : Nat) (hk_r : kd r = 10) : QI l yX10_states cX10_states 1 (some .int) rmX10_states [.ref (ga G r)] (pW G da v x) (fX10_states r v) := by
  refine gofQ (own := RX10) (by decide) rfl (Nat.le_of_ble_eq_true rfl) (fun p e s m args below meth c ls Q X hH hl E => ?_)
  have hx := X.1
  have hb := X.2.1
  have hown := X.2.2.2.1
  have hts := X.2.2.2.2.1
  have hS : va_S (gA G) s.heap s.heap [] := va_S.rf
  have ho : True := trivial
  have hl : lv_has ls 1 [(0, .ref (ga G r))] := hl
  refine lv_aload_n hx hb dX10_states_0 rfl (lv_at hl 0 rfl) ?_
  refine g_VernierDrawers_401 X hH hk_r dX10_states_1 ?_
  exact E _ _ _ dX10_states_4 rfl (Eq.symm rfl)
theorem k_X10_states {p : Program} {l : Launch} {e : Env} {R : Room} {s : State} {m : MethodId} {args : Array Value} {below : List Frame} {meth : Method} {c : Code} {H : Heap} {locs : List Loc} {cells slots : Nat} {Q : State → Prop} {cc : ByteArray} {pc nL : Nat} {ls : Array Slot} {rest : List Value} {G : gG} {own : String} {da : Nat → Nat} {v : vSt} {x : gX} (X : CX G p s m args c cc nL own) (hS : va_S (gA G) s.heap H locs) (hH : Hp G da v x H) {r : Nat} (hk_r : kd r = 10) {idx : Nat} (hml : Cond.methodLink own idx yX10_states ∈ TT) (hls : ls.size = nL) (hsum : (rest.map fun v => v.category).sum ≤ 8) (hR : rmX10_states.frames + 1 ≤ R.frames ∧ 8 + (1 + 11) + rmX10_states.locals ≤ R.locals) (hcs : cells ≤ R.cells ∧ slots ≤ R.slots) (hdg : decode cc pc = .ok (.invokevirtual idx, 3)) (kk : W p l e R s m args below meth c H locs cells slots Q (F0 m (pc + 3) ls (.int (fX10_states r v) :: rest))) : W p l e R s m args below meth c H locs cells slots Q (F0 m pc ls (.ref (ga G r) :: rest)) := c_qi (runV (k := 0) X.1 X.2.1 X.2.2.1 X.2.2.2.1 X.2.2.2.2.1 (mX10_states l G da v x r hk_r) pW_bl hml t_im_X10_states t_sel_X10_states t_ini_VernierDrawers t_code_X10_states ⟨rfl, by decide, by decide, by decide +kernel⟩ rfl rfl hR hcs (recvW X hH (by rw [hk_r]; decide) (by rw [hk_r]; decide) (ce_10 hk_r) rfl) (preW X hS hH) rfl hls rfl hsum hdg) (fun _ h => h ▸ kk)
def fX10_undo (r : Nat) (v : vSt) : Nat × Int32 × vSt := if ((v r 2) : Int32) ≤ 0 then ((2, 0, v)) else (if ((v r 2) : Int32) ≤ 4 then (let v4 : vSt := u2 v r 2 ((v r 2) - 1); let v8 : vSt := u2 v4 449 (v4 r 2 : Int32).toNatClampNeg (Int32.ofNat (rN (v4 r 0))); let v9 : vSt := u2 v8 r 0 (Int32.ofNat (rN (v4 449 (v4 r 2 : Int32).toNatClampNeg))); (0, v9 r 2, v9)) else ((2, 0, v)))

def kkX10_undo (r : Nat) (v : vSt) : Nat := pot ((fX10_undo r v).2.2) - pot v + 36
def oX10_undo (r : Nat) (v : vSt) : Prop := ((((v r 2) : Int32) ≤ 0) → (0 + 6 ≤ kkX10_undo r v)) ∧ (¬ (((v r 2) : Int32) ≤ 0) → (((((v r 2) : Int32) ≤ 4) → (∀ v4 : vSt, v4 = (u2 v r 2 ((v r 2) - 1)) → ((vp_in (v4 r 2) 4) ∧ ((kd (rN (v4 449 (v4 r 2 : Int32).toNatClampNeg)) = 7) ∧ (kd (rN (v4 r 0)) = 7))))) ∧ (¬ (((v r 2) : Int32) ≤ 4) → (0 + 6 ≤ kkX10_undo r v))))
abbrev rmX10_undo (r : Nat) (v : vSt) : Room := { frames := 6, cells := kkX10_undo r v, slots := kkX10_undo r v, locals := 90 }
theorem dX10_undo_0 : decode cX10_undo 0 = .ok (.aload_n 0, 1) := by decide +kernel
theorem dX10_undo_1 : decode cX10_undo 1 = .ok (.getfield 401, 3) := by decide +kernel
theorem dX10_undo_4 : decode cX10_undo 4 = .ok (.ifCond .le 15, 3) := by decide +kernel
theorem dX10_undo_7 : decode cX10_undo 7 = .ok (.aload_n 0, 1) := by decide +kernel
theorem dX10_undo_8 : decode cX10_undo 8 = .ok (.getfield 401, 3) := by decide +kernel
theorem dX10_undo_11 : decode cX10_undo 11 = .ok (.aload_n 0, 1) := by decide +kernel
theorem dX10_undo_12 : decode cX10_undo 12 = .ok (.getfield 16, 3) := by decide +kernel
theorem dX10_undo_15 : decode cX10_undo 15 = .ok (.arraylength, 1) := by decide +kernel
theorem dX10_undo_16 : decode cX10_undo 16 = .ok (.if_icmp .le 14, 3) := by decide +kernel
theorem dX10_undo_19 : decode cX10_undo 19 = .ok (.new 66, 3) := by decide +kernel
theorem dX10_undo_22 : decode cX10_undo 22 = .ok (.dup, 1) := by decide +kernel
theorem dX10_undo_23 : decode cX10_undo 23 = .ok (.ldc_w 404, 3) := by decide +kernel
theorem dX10_undo_26 : decode cX10_undo 26 = .ok (.invokespecial 70, 3) := by decide +kernel
theorem dX10_undo_29 : decode cX10_undo 29 = .ok (.athrow, 1) := by decide +kernel
theorem dX10_undo_30 : decode cX10_undo 30 = .ok (.aload_n 0, 1) := by decide +kernel
theorem dX10_undo_31 : decode cX10_undo 31 = .ok (.dup, 1) := by decide +kernel
theorem dX10_undo_32 : decode cX10_undo 32 = .ok (.getfield 401, 3) := by decide +kernel
theorem dX10_undo_35 : decode cX10_undo 35 = .ok (.iconst 1, 1) := by decide +kernel
theorem dX10_undo_36 : decode cX10_undo 36 = .ok (.isub, 1) := by decide +kernel
theorem dX10_undo_37 : decode cX10_undo 37 = .ok (.putfield 401, 3) := by decide +kernel
theorem dX10_undo_40 : decode cX10_undo 40 = .ok (.aload_n 0, 1) := by decide +kernel
theorem dX10_undo_41 : decode cX10_undo 41 = .ok (.getfield 16, 3) := by decide +kernel
theorem dX10_undo_44 : decode cX10_undo 44 = .ok (.aload_n 0, 1) := by decide +kernel
theorem dX10_undo_45 : decode cX10_undo 45 = .ok (.getfield 401, 3) := by decide +kernel
theorem dX10_undo_48 : decode cX10_undo 48 = .ok (.aaload, 1) := by decide +kernel
theorem dX10_undo_49 : decode cX10_undo 49 = .ok (.astore_n 1, 1) := by decide +kernel
theorem dX10_undo_50 : decode cX10_undo 50 = .ok (.aload_n 0, 1) := by decide +kernel
theorem dX10_undo_51 : decode cX10_undo 51 = .ok (.getfield 16, 3) := by decide +kernel
theorem dX10_undo_54 : decode cX10_undo 54 = .ok (.aload_n 0, 1) := by decide +kernel
theorem dX10_undo_55 : decode cX10_undo 55 = .ok (.getfield 401, 3) := by decide +kernel
theorem dX10_undo_58 : decode cX10_undo 58 = .ok (.aload_n 0, 1) := by decide +kernel
theorem dX10_undo_59 : decode cX10_undo 59 = .ok (.getfield 10, 3) := by decide +kernel
theorem dX10_undo_62 : decode cX10_undo 62 = .ok (.aastore, 1) := by decide +kernel
theorem dX10_undo_63 : decode cX10_undo 63 = .ok (.aload_n 0, 1) := by decide +kernel
theorem dX10_undo_64 : decode cX10_undo 64 = .ok (.aload_n 1, 1) := by decide +kernel
theorem dX10_undo_65 : decode cX10_undo 65 = .ok (.putfield 10, 3) := by decide +kernel
theorem dX10_undo_68 : decode cX10_undo 68 = .ok (.aload_n 0, 1) := by decide +kernel
theorem dX10_undo_69 : decode cX10_undo 69 = .ok (.getfield 401, 3) := by decide +kernel
theorem dX10_undo_72 : decode cX10_undo 72 = .ok (.ireturn, 1) := by decide +kernel
set_option maxHeartbeats 8000000 in
set_option maxRecDepth 100000 in
theorem mX10_undo (l : Launch) (hst : l.stackTraces = false) (G : gG) (da : Nat → Nat) (v : vSt) (x : gX) (r : Nat) (hk_r : kd r = 10) (ho : oX10_undo r v) : TI l yX10_undo cX10_undo 2 (some .int) (rmX10_undo r v) [.ref (ga G r)] G da v x (kkX10_undo r v) (kkX10_undo r v) (fX10_undo r v).1 (fX10_undo r v).2.1 (fX10_undo r v).2.2 x := by
  refine gofTI hst (by decide) rfl (Nat.le_of_ble_eq_true rfl) ⟨Nat.le_of_ble_eq_true rfl, Nat.le_of_ble_eq_true rfl, Nat.le_refl _, Nat.le_refl _⟩ (fun p e s m args below meth c ls Q X hH hl E EX ES EW => ?_)
  have hx := X.1
  have hb := X.2.1
  have hown := X.2.2.2.1
  have hts := X.2.2.2.2.1
  have hS : va_S (gA G) s.heap s.heap [] := va_S.rf
  unfold oX10_undo at ho
  have hl : lv_has ls 2 [(0, .ref (ga G r))] := hl
  refine lv_aload_n hx hb dX10_undo_0 rfl (lv_at hl 0 rfl) ?_
  refine g_VernierDrawers_401 X hH hk_r dX10_undo_1 ?_
  refine lv_if_le (tgt := 19) hx hb dX10_undo_4 (by decide) (fun c1 => ?_) (fun c1 => ?_)
  · have ho := ho.1 c1
    have hq2 := ho
    exact EW _ _ _ _ _ _ _ _ _ _ _ _ _ _ (th_2 X) (by decide) (t31 ((fX10_undo.eq_1 _ _).trans ((if_pos c1).trans rfl))) (t33 ((fX10_undo.eq_1 _ _).trans ((if_pos c1).trans rfl))) hH hS t_sr_VernierDrawers_404 hl.1 dX10_undo_19 dX10_undo_22 dX10_undo_23 dX10_undo_26 dX10_undo_29 (Nat.le_of_ble_eq_true rfl) (c16 hq2) hq2
  · have ho := ho.2 c1
    refine lv_aload_n hx hb dX10_undo_7 rfl (lv_at hl 0 rfl) ?_
    refine g_VernierDrawers_401 X hH hk_r dX10_undo_8 ?_
    refine lv_aload_n hx hb dX10_undo_11 rfl (lv_at hl 0 rfl) ?_
    refine g_VernierDrawers_16 X hH hk_r dX10_undo_12 ?_
    refine len_26 X hH kd_449 dX10_undo_15 ?_
    refine lv_icmp_le (tgt := 30) hx hb dX10_undo_16 (by decide) (fun c3 => ?_) (fun c3 => ?_)
    · have ho := ho.1 c3
      refine lv_aload_n hx hb dX10_undo_30 rfl (lv_at hl 0 rfl) ?_
      refine lv_dup hx hb dX10_undo_31 rfl ?_
      refine g_VernierDrawers_401 X hH hk_r dX10_undo_32 ?_
      refine lv_iconst (v := 1) hx hb dX10_undo_35 (by decide) ?_
      refine lv_isub hx hb dX10_undo_36 ?_
      refine p_VernierDrawers_401 X hH hS hk_r dX10_undo_37 (fun H locs v4 ev4 hH hS => ?_)
      have ho := ho v4 ev4
      refine lv_aload_n hx hb dX10_undo_40 rfl (lv_at hl 0 rfl) ?_
      refine g_VernierDrawers_16 X hH hk_r dX10_undo_41 ?_
      refine lv_aload_n hx hb dX10_undo_44 rfl (lv_at hl 0 rfl) ?_
      refine g_VernierDrawers_401 X hH hk_r dX10_undo_45 ?_
      have hq5 := ho.1
      have ho := ho.2
      refine qld_26 X hH kd_449 hq5 dX10_undo_48 ?_
      have hq6 := ho.1
      have ho := ho.2
      refine lv_astore_n (lv' := [(1, .ref (ga G (rN (v4 449 (v4 r 2 : Int32).toNatClampNeg)))), (0, .ref (ga G r))]) hx hb dX10_undo_49 rfl hl (by decide) rfl (fun ls hl => ?_)
      refine lv_aload_n hx hb dX10_undo_50 rfl (lv_at hl 1 rfl) ?_
      refine g_VernierDrawers_16 X hH hk_r dX10_undo_51 ?_
      refine lv_aload_n hx hb dX10_undo_54 rfl (lv_at hl 1 rfl) ?_
      refine g_VernierDrawers_401 X hH hk_r dX10_undo_55 ?_
      refine lv_aload_n hx hb dX10_undo_58 rfl (lv_at hl 1 rfl) ?_
      refine g_VernierDrawers_10 X hH hk_r dX10_undo_59 ?_
      have hq7 := ho
      refine qst_26 X hH hS kd_449 hq7 hq5 dX10_undo_62 (fun H locs v8 ev8 hH hS => ?_)
      refine lv_aload_n hx hb dX10_undo_63 rfl (lv_at hl 1 rfl) ?_
      refine lv_aload_n hx hb dX10_undo_64 rfl (lv_at hl 0 rfl) ?_
      refine pq_10 X hH hS hk_r hq6 t_fl_VernierDrawers_10 dX10_undo_65 (fun H locs v9 ev9 hH hS => ?_)
      refine lv_aload_n hx hb dX10_undo_68 rfl (lv_at hl 1 rfl) ?_
      refine g_VernierDrawers_401 X hH hk_r dX10_undo_69 ?_
      replace ev4 := Eq.symm ev4
      replace ev8 := Eq.symm ev8
      replace ev9 := Eq.symm ev9
      subst ev4 ev8 ev9
      exact E _ _ _ _ _ _ _ _ _ dX10_undo_72 rfl (Eq.symm (t31 ((fX10_undo.eq_1 _ _).trans ((if_neg c1).trans ((if_pos c3).trans rfl))))) (t32 ((fX10_undo.eq_1 _ _).trans ((if_neg c1).trans ((if_pos c3).trans rfl)))) (t33 ((fX10_undo.eq_1 _ _).trans ((if_neg c1).trans ((if_pos c3).trans rfl)))) hH hS (Nat.zero_le _) (Nat.zero_le _)
    · have ho := ho.2 c3
      have hq10 := ho
      exact EW _ _ _ _ _ _ _ _ _ _ _ _ _ _ (th_2 X) (by decide) (t31 ((fX10_undo.eq_1 _ _).trans ((if_neg c1).trans ((if_neg c3).trans rfl)))) (t33 ((fX10_undo.eq_1 _ _).trans ((if_neg c1).trans ((if_neg c3).trans rfl)))) hH hS t_sr_VernierDrawers_404 hl.1 dX10_undo_19 dX10_undo_22 dX10_undo_23 dX10_undo_26 dX10_undo_29 (Nat.le_of_ble_eq_true rfl) (c16 hq10) hq10
theorem k_X10_undo {p : Program} {l : Launch} {e : Env} {R : Room} {s : State} {m : MethodId} {args : Array Value} {below : List Frame} {meth : Method} {c : Code} {H : Heap} {locs : List Loc} {cells slots : Nat} {Q : State → Prop} {cc : ByteArray} {pc nL : Nat} {ls : Array Slot} {rest : List Value} {G : gG} {own : String} {da : Nat → Nat} {v : vSt} {x : gX} (hst : l.stackTraces = false) (X : CX G p s m args c cc nL own) (hS : va_S (gA G) s.heap H locs) (hH : Hp G da v x H) {r : Nat} (hk_r : kd r = 10) (ho : oX10_undo r v) {idx : Nat} (hml : Cond.methodLink own idx yX10_undo ∈ TT) (hls : ls.size = nL) (hsum : (rest.map fun v => v.category).sum ≤ 8) (hR : (rmX10_undo r v).frames + 1 ≤ R.frames ∧ 8 + (2 + 11) + (rmX10_undo r v).locals ≤ R.locals) (hcs : cells + (kkX10_undo r v) ≤ R.cells ∧ slots + (kkX10_undo r v) ≤ R.slots) (hdg : decode cc pc = .ok (.invokevirtual idx, 3)) (kx : ¬ (fX10_undo r v).1 = 0 → ∀ (d : Nat → Nat) (ce : Cell) (q9 : Addr) (H1 : Heap) (locs1 : List Loc) (v1 : vSt), v1 = (fX10_undo r v).2.2 → Hp G d v1 x H1 → va_S (gA G) s.heap H1 locs1 → H1[q9]? = some ce → ce.vm = .none → s.vm.findClass (exN (fX10_undo r v).1) = some ce.cls → vx_W p l e R s m args below meth c H1 locs1 (cells + (kkX10_undo r v)) (slots + (kkX10_undo r v)) Q (F0 m pc ls rest) q9) (kk : (fX10_undo r v).1 = 0 → ∀ (d : Nat → Nat) (H1 : Heap) (locs1 : List Loc) (v1 : vSt), v1 = (fX10_undo r v).2.2 → Hp G d v1 x H1 → va_S (gA G) s.heap H1 locs1 → W p l e R s m args below meth c H1 locs1 (cells + (kkX10_undo r v)) (slots + (kkX10_undo r v)) Q (F0 m (pc + 3) ls (.int (fX10_undo r v).2.1 :: rest))) : W p l e R s m args below meth c H locs cells slots Q (F0 m pc ls (.ref (ga G r) :: rest)) := c_ti (runxV (kp := 0) X.1 X.2.1 X.2.2.1 X.2.2.2.1 X.2.2.2.2.1 (mX10_undo l hst G da v x r hk_r ho) pW_bl hml t_im_X10_undo t_sel_X10_undo t_ini_VernierDrawers t_code_X10_undo ⟨rfl, by decide, by decide, by decide +kernel⟩ rfl rfl hR hcs (recvW X hH (by rw [hk_r]; decide) (by rw [hk_r]; decide) (ce_10 hk_r) rfl) (preW X hS hH) rfl hls rfl hsum hdg) hS kx kk
