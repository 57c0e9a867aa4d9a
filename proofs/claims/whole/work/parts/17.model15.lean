/-! 17.model -/
def fX11_bring (r : Nat) (p1 : Int32) (p2 : Int32) (v : vSt) : Int32 × vSt := let v2 : vSt := fX11_begins r v; let v4 : vSt := (fX11_goBring r p1 p2 v2).2; let v6 : vSt := (fX11_ends r ((fX11_goBring r p1 p2 v2).1) 2 v4).2; ((fX11_ends r ((fX11_goBring r p1 p2 v2).1) 2 v4).1, v6)
def oX11_bring (r : Nat) (p1 : Int32) (p2 : Int32) (v : vSt) : Prop := (oX11_begins r v) ∧ (∀ v2 : vSt, v2 = (fX11_begins r v) → ((oX11_goBring r p1 p2 v2) ∧ (∀ v4 : vSt, v4 = ((fX11_goBring r p1 p2 v2).2) → (oX11_ends r ((fX11_goBring r p1 p2 v2).1) 2 v4))))
abbrev rmX11_bring : Room := { frames := 3, cells := 0, slots := 0, locals := 67 }
theorem dX11_bring_0 : decode cX11_bring 0 = .ok (.aload_n 0, 1) := by decide +kernel
theorem dX11_bring_1 : decode cX11_bring 1 = .ok (.invokevirtual 180, 3) := by decide +kernel
theorem dX11_bring_4 : decode cX11_bring 4 = .ok (.aload_n 0, 1) := by decide +kernel
theorem dX11_bring_5 : decode cX11_bring 5 = .ok (.aload_n 0, 1) := by decide +kernel
theorem dX11_bring_6 : decode cX11_bring 6 = .ok (.iload_n 1, 1) := by decide +kernel
theorem dX11_bring_7 : decode cX11_bring 7 = .ok (.iload_n 2, 1) := by decide +kernel
theorem dX11_bring_8 : decode cX11_bring 8 = .ok (.invokevirtual 195, 3) := by decide +kernel
theorem dX11_bring_11 : decode cX11_bring 11 = .ok (.iconst 2, 1) := by decide +kernel
theorem dX11_bring_12 : decode cX11_bring 12 = .ok (.invokevirtual 183, 3) := by decide +kernel
theorem dX11_bring_15 : decode cX11_bring 15 = .ok (.ireturn, 1) := by decide +kernel
set_option maxHeartbeats 8000000 in
set_option maxRecDepth 100000 in
theorem mX11_bring (l : Launch) (G : gG) (da : Nat → Nat) (v : vSt) (x : gX) (r : Nat) (hk_r : kd r = 11) (p1 : Int32) (p2 : Int32) (ho : oX11_bring r p1 p2 v) : MI l yX11_bring cX11_bring 3 (some .int) rmX11_bring [.ref (ga G r), .int p1, .int p2] G da v x 0 0 (fX11_bring r p1 p2 v).1 (fX11_bring r p1 p2 v).2 x := by
  refine gofMI (own := RX11) (by decide) rfl (Nat.le_of_ble_eq_true rfl) (fun p e s m args below meth c ls Q X hH hl E => ?_)
  have hx := X.1
  have hb := X.2.1
  have hown := X.2.2.2.1
  have hts := X.2.2.2.2.1
  have hS : va_S (gA G) s.heap s.heap [] := va_S.rf
  unfold oX11_bring at ho
  have hl : lv_has ls 3 [(0, .ref (ga G r)), (1, .int p1), (2, .int p2)] := hl
  refine lv_aload_n hx hb dX11_bring_0 rfl (lv_at hl 0 rfl) ?_
  have hq1 := ho.1
  have ho := ho.2
  refine k_X11_begins X hS hH hk_r hq1 t_ml_VernierDrawersModel_180 hl.1 (Nat.le_of_ble_eq_true rfl) ⟨Nat.le_of_ble_eq_true rfl, Nat.le_of_ble_eq_true rfl⟩ ⟨Nat.zero_le _, Nat.zero_le _⟩ dX11_bring_1 (fun da H locs v2 ev2 hH hS => ?_)
  have ho := ho v2 ev2
  refine lv_aload_n hx hb dX11_bring_4 rfl (lv_at hl 0 rfl) ?_
  refine lv_aload_n hx hb dX11_bring_5 rfl (lv_at hl 0 rfl) ?_
  refine lv_iload_n hx hb dX11_bring_6 rfl (lv_at hl 1 rfl) ?_
  refine lv_iload_n hx hb dX11_bring_7 rfl (lv_at hl 2 rfl) ?_
  have hq3 := ho.1
  have ho := ho.2
  refine k_X11_goBring X hS hH hk_r hq3 t_ml_VernierDrawersModel_195 hl.1 (Nat.le_of_ble_eq_true rfl) ⟨Nat.le_of_ble_eq_true rfl, Nat.le_of_ble_eq_true rfl⟩ ⟨Nat.zero_le _, Nat.zero_le _⟩ dX11_bring_8 (fun da H locs v4 ev4 hH hS => ?_)
  have ho := ho v4 ev4
  refine lv_iconst (v := 2) hx hb dX11_bring_11 (by decide) ?_
  have hq5 := ho
  refine k_X11_ends X hS hH hk_r hq5 t_ml_VernierDrawersModel_183 hl.1 (Nat.le_of_ble_eq_true rfl) ⟨Nat.le_of_ble_eq_true rfl, Nat.le_of_ble_eq_true rfl⟩ ⟨Nat.zero_le _, Nat.zero_le _⟩ dX11_bring_12 (fun da H locs v6 ev6 hH hS => ?_)
  replace ev2 := Eq.symm ev2
  replace ev4 := Eq.symm ev4
  replace ev6 := Eq.symm ev6
  subst ev2 ev4 ev6
  exact E _ _ _ _ _ _ _ _ _ dX11_bring_15 rfl (pr1 rfl) (pr2 rfl) hH hS (Nat.zero_le _) (Nat.zero_le _)
theorem k_X11_bring {p : Program} {l : Launch} {e : Env} {R : Room} {s : State} {m : MethodId} {args : Array Value} {below : List Frame} {meth : Method} {c : Code} {H : Heap} {locs : List Loc} {cells slots : Nat} {Q : State → Prop} {cc : ByteArray} {pc nL : Nat} {ls : Array Slot} {rest : List Value} {G : gG} {own : String} {da : Nat → Nat} {v : vSt} {x : gX} (X : CX G p s m args c cc nL own) (hS : va_S (gA G) s.heap H locs) (hH : Hp G da v x H) {r : Nat} (hk_r : kd r = 11) {p1 : Int32} {p2 : Int32} (ho : oX11_bring r p1 p2 v) {idx : Nat} (hml : Cond.methodLink own idx yX11_bring ∈ TT) (hls : ls.size = nL) (hsum : (rest.map fun v => v.category).sum ≤ 8) (hR : rmX11_bring.frames + 1 ≤ R.frames ∧ 8 + (3 + 11) + rmX11_bring.locals ≤ R.locals) (hcs : cells ≤ R.cells ∧ slots ≤ R.slots) (hdg : decode cc pc = .ok (.invokevirtual idx, 3)) (kk : ∀ (d : Nat → Nat) (H1 : Heap) (locs1 : List Loc) (v1 : vSt), v1 = (fX11_bring r p1 p2 v).2 → Hp G d v1 x H1 → va_S (gA G) s.heap H1 locs1 → W p l e R s m args below meth c H1 locs1 cells slots Q (F0 m (pc + 3) ls (.int (fX11_bring r p1 p2 v).1 :: rest))) : W p l e R s m args below meth c H locs cells slots Q (F0 m pc ls (.int p2 :: .int p1 :: .ref (ga G r) :: rest)) := c_mi X.2.2.2.2.2.2 (runV (k := 2) X.1 X.2.1 X.2.2.1 X.2.2.2.1 X.2.2.2.2.1 (mX11_bring l G da v x r hk_r p1 p2 ho) pW_bl hml t_im_X11_bring t_sel_X11_bring t_ini_VernierDrawersModel t_code_X11_bring ⟨rfl, by decide, by decide, by decide +kernel⟩ rfl rfl hR hcs (recvW X hH (by rw [hk_r]; decide) (by rw [hk_r]; decide) (ce_11 hk_r) rfl) (preW X hS hH) rfl hls rfl hsum hdg) hS kk
def fX11_judge (r : Nat) (p1 : Int32) (v : vSt) : Int32 × vSt := let v2 : vSt := fX11_begins r v; let v4 : vSt := (fX11_goJudge r p1 v2).2; let v6 : vSt := (fX11_ends r ((fX11_goJudge r p1 v2).1) 2 v4).2; ((fX11_ends r ((fX11_goJudge r p1 v2).1) 2 v4).1, v6)
def oX11_judge (r : Nat) (p1 : Int32) (v : vSt) : Prop := (oX11_begins r v) ∧ (∀ v2 : vSt, v2 = (fX11_begins r v) → ((oX11_goJudge r p1 v2) ∧ (∀ v4 : vSt, v4 = ((fX11_goJudge r p1 v2).2) → (oX11_ends r ((fX11_goJudge r p1 v2).1) 2 v4))))
abbrev rmX11_judge : Room := { frames := 7, cells := 0, slots := 0, locals := 161 }
theorem dX11_judge_0 : decode cX11_judge 0 = .ok (.aload_n 0, 1) := by decide +kernel
theorem dX11_judge_1 : decode cX11_judge 1 = .ok (.invokevirtual 180, 3) := by decide +kernel
theorem dX11_judge_4 : decode cX11_judge 4 = .ok (.aload_n 0, 1) := by decide +kernel
theorem dX11_judge_5 : decode cX11_judge 5 = .ok (.aload_n 0, 1) := by decide +kernel
theorem dX11_judge_6 : decode cX11_judge 6 = .ok (.iload_n 1, 1) := by decide +kernel
theorem dX11_judge_7 : decode cX11_judge 7 = .ok (.invokevirtual 198, 3) := by decide +kernel
theorem dX11_judge_10 : decode cX11_judge 10 = .ok (.iconst 2, 1) := by decide +kernel
theorem dX11_judge_11 : decode cX11_judge 11 = .ok (.invokevirtual 183, 3) := by decide +kernel
theorem dX11_judge_14 : decode cX11_judge 14 = .ok (.ireturn, 1) := by decide +kernel
set_option maxHeartbeats 8000000 in
set_option maxRecDepth 100000 in
theorem mX11_judge (l : Launch) (G : gG) (da : Nat → Nat) (v : vSt) (x : gX) (r : Nat) (hk_r : kd r = 11) (p1 : Int32) (ho : oX11_judge r p1 v) : MI l yX11_judge cX11_judge 2 (some .int) rmX11_judge [.ref (ga G r), .int p1] G da v x 0 0 (fX11_judge r p1 v).1 (fX11_judge r p1 v).2 x := by
  refine gofMI (own := RX11) (by decide) rfl (Nat.le_of_ble_eq_true rfl) (fun p e s m args below meth c ls Q X hH hl E => ?_)
  have hx := X.1
  have hb := X.2.1
  have hown := X.2.2.2.1
  have hts := X.2.2.2.2.1
  have hS : va_S (gA G) s.heap s.heap [] := va_S.rf
  unfold oX11_judge at ho
  have hl : lv_has ls 2 [(0, .ref (ga G r)), (1, .int p1)] := hl
  refine lv_aload_n hx hb dX11_judge_0 rfl (lv_at hl 0 rfl) ?_
  have hq1 := ho.1
  have ho := ho.2
  refine k_X11_begins X hS hH hk_r hq1 t_ml_VernierDrawersModel_180 hl.1 (Nat.le_of_ble_eq_true rfl) ⟨Nat.le_of_ble_eq_true rfl, Nat.le_of_ble_eq_true rfl⟩ ⟨Nat.zero_le _, Nat.zero_le _⟩ dX11_judge_1 (fun da H locs v2 ev2 hH hS => ?_)
  have ho := ho v2 ev2
  refine lv_aload_n hx hb dX11_judge_4 rfl (lv_at hl 0 rfl) ?_
  refine lv_aload_n hx hb dX11_judge_5 rfl (lv_at hl 0 rfl) ?_
  refine lv_iload_n hx hb dX11_judge_6 rfl (lv_at hl 1 rfl) ?_
  have hq3 := ho.1
  have ho := ho.2
  refine k_X11_goJudge X hS hH hk_r hq3 t_ml_VernierDrawersModel_198 hl.1 (Nat.le_of_ble_eq_true rfl) ⟨Nat.le_of_ble_eq_true rfl, Nat.le_of_ble_eq_true rfl⟩ ⟨Nat.zero_le _, Nat.zero_le _⟩ dX11_judge_7 (fun da H locs v4 ev4 hH hS => ?_)
  have ho := ho v4 ev4
  refine lv_iconst (v := 2) hx hb dX11_judge_10 (by decide) ?_
  have hq5 := ho
  refine k_X11_ends X hS hH hk_r hq5 t_ml_VernierDrawersModel_183 hl.1 (Nat.le_of_ble_eq_true rfl) ⟨Nat.le_of_ble_eq_true rfl, Nat.le_of_ble_eq_true rfl⟩ ⟨Nat.zero_le _, Nat.zero_le _⟩ dX11_judge_11 (fun da H locs v6 ev6 hH hS => ?_)
  replace ev2 := Eq.symm ev2
  replace ev4 := Eq.symm ev4
  replace ev6 := Eq.symm ev6
  subst ev2 ev4 ev6
  exact E _ _ _ _ _ _ _ _ _ dX11_judge_14 rfl (pr1 rfl) (pr2 rfl) hH hS (Nat.zero_le _) (Nat.zero_le _)
theorem k_X11_judge {p : Program} {l : Launch} {e : Env} {R : Room} {s : State} {m : MethodId} {args : Array Value} {below : List Frame} {meth : Method} {c : Code} {H : Heap} {locs : List Loc} {cells slots : Nat} {Q : State → Prop} {cc : ByteArray} {pc nL : Nat} {ls : Array Slot} {rest : List Value} {G : gG} {own : String} {da : Nat → Nat} {v : vSt} {x : gX} (X : CX G p s m args c cc nL own) (hS : va_S (gA G) s.heap H locs) (hH : Hp G da v x H) {r : Nat} (hk_r : kd r = 11) {p1 : Int32} (ho : oX11_judge r p1 v) {idx : Nat} (hml : Cond.methodLink own idx yX11_judge ∈ TT) (hls : ls.size = nL) (hsum : (rest.map fun v => v.category).sum ≤ 8) (hR : rmX11_judge.frames + 1 ≤ R.frames ∧ 8 + (2 + 11) + rmX11_judge.locals ≤ R.locals) (hcs : cells ≤ R.cells ∧ slots ≤ R.slots) (hdg : decode cc pc = .ok (.invokevirtual idx, 3)) (kk : ∀ (d : Nat → Nat) (H1 : Heap) (locs1 : List Loc) (v1 : vSt), v1 = (fX11_judge r p1 v).2 → Hp G d v1 x H1 → va_S (gA G) s.heap H1 locs1 → W p l e R s m args below meth c H1 locs1 cells slots Q (F0 m (pc + 3) ls (.int (fX11_judge r p1 v).1 :: rest))) : W p l e R s m args below meth c H locs cells slots Q (F0 m pc ls (.int p1 :: .ref (ga G r) :: rest)) := c_mi X.2.2.2.2.2.2 (runV (k := 1) X.1 X.2.1 X.2.2.1 X.2.2.2.1 X.2.2.2.2.1 (mX11_judge l G da v x r hk_r p1 ho) pW_bl hml t_im_X11_judge t_sel_X11_judge t_ini_VernierDrawersModel t_code_X11_judge ⟨rfl, by decide, by decide, by decide +kernel⟩ rfl rfl hR hcs (recvW X hH (by rw [hk_r]; decide) (by rw [hk_r]; decide) (ce_11 hk_r) rfl) (preW X hS hH) rfl hls rfl hsum hdg) hS kk
def fX11_file (r : Nat) (p1 : Int32) (v : vSt) : Int32 × vSt := let v2 : vSt := fX11_begins r v; let v4 : vSt := (fX11_goFile r p1 v2).2; let v6 : vSt := (fX11_ends r ((fX11_goFile r p1 v2).1) 2 v4).2; ((fX11_ends r ((fX11_goFile r p1 v2).1) 2 v4).1, v6)
def oX11_file (r : Nat) (p1 : Int32) (v : vSt) : Prop := (oX11_begins r v) ∧ (∀ v2 : vSt, v2 = (fX11_begins r v) → ((oX11_goFile r p1 v2) ∧ (∀ v4 : vSt, v4 = ((fX11_goFile r p1 v2).2) → (oX11_ends r ((fX11_goFile r p1 v2).1) 2 v4))))
abbrev rmX11_file : Room := { frames := 3, cells := 0, slots := 0, locals := 67 }
theorem dX11_file_0 : decode cX11_file 0 = .ok (.aload_n 0, 1) := by decide +kernel
theorem dX11_file_1 : decode cX11_file 1 = .ok (.invokevirtual 180, 3) := by decide +kernel
theorem dX11_file_4 : decode cX11_file 4 = .ok (.aload_n 0, 1) := by decide +kernel
theorem dX11_file_5 : decode cX11_file 5 = .ok (.aload_n 0, 1) := by decide +kernel
theorem dX11_file_6 : decode cX11_file 6 = .ok (.iload_n 1, 1) := by decide +kernel
theorem dX11_file_7 : decode cX11_file 7 = .ok (.invokevirtual 201, 3) := by decide +kernel
theorem dX11_file_10 : decode cX11_file 10 = .ok (.iconst 2, 1) := by decide +kernel
theorem dX11_file_11 : decode cX11_file 11 = .ok (.invokevirtual 183, 3) := by decide +kernel
theorem dX11_file_14 : decode cX11_file 14 = .ok (.ireturn, 1) := by decide +kernel
set_option maxHeartbeats 8000000 in
set_option maxRecDepth 100000 in
theorem mX11_file (l : Launch) (G : gG) (da : Nat → Nat) (v : vSt) (x : gX) (r : Nat) (hk_r : kd r = 11) (p1 : Int32) (ho : oX11_file r p1 v) : MI l yX11_file cX11_file 2 (some .int) rmX11_file [.ref (ga G r), .int p1] G da v x 0 0 (fX11_file r p1 v).1 (fX11_file r p1 v).2 x := by
  refine gofMI (own := RX11) (by decide) rfl (Nat.le_of_ble_eq_true rfl) (fun p e s m args below meth c ls Q X hH hl E => ?_)
  have hx := X.1
  have hb := X.2.1
  have hown := X.2.2.2.1
  have hts := X.2.2.2.2.1
  have hS : va_S (gA G) s.heap s.heap [] := va_S.rf
  unfold oX11_file at ho
  have hl : lv_has ls 2 [(0, .ref (ga G r)), (1, .int p1)] := hl
  refine lv_aload_n hx hb dX11_file_0 rfl (lv_at hl 0 rfl) ?_
  have hq1 := ho.1
  have ho := ho.2
  refine k_X11_begins X hS hH hk_r hq1 t_ml_VernierDrawersModel_180 hl.1 (Nat.le_of_ble_eq_true rfl) ⟨Nat.le_of_ble_eq_true rfl, Nat.le_of_ble_eq_true rfl⟩ ⟨Nat.zero_le _, Nat.zero_le _⟩ dX11_file_1 (fun da H locs v2 ev2 hH hS => ?_)
  have ho := ho v2 ev2
  refine lv_aload_n hx hb dX11_file_4 rfl (lv_at hl 0 rfl) ?_
  refine lv_aload_n hx hb dX11_file_5 rfl (lv_at hl 0 rfl) ?_
  refine lv_iload_n hx hb dX11_file_6 rfl (lv_at hl 1 rfl) ?_
  have hq3 := ho.1
  have ho := ho.2
  refine k_X11_goFile X hS hH hk_r hq3 t_ml_VernierDrawersModel_201 hl.1 (Nat.le_of_ble_eq_true rfl) ⟨Nat.le_of_ble_eq_true rfl, Nat.le_of_ble_eq_true rfl⟩ ⟨Nat.zero_le _, Nat.zero_le _⟩ dX11_file_7 (fun da H locs v4 ev4 hH hS => ?_)
  have ho := ho v4 ev4
  refine lv_iconst (v := 2) hx hb dX11_file_10 (by decide) ?_
  have hq5 := ho
  refine k_X11_ends X hS hH hk_r hq5 t_ml_VernierDrawersModel_183 hl.1 (Nat.le_of_ble_eq_true rfl) ⟨Nat.le_of_ble_eq_true rfl, Nat.le_of_ble_eq_true rfl⟩ ⟨Nat.zero_le _, Nat.zero_le _⟩ dX11_file_11 (fun da H locs v6 ev6 hH hS => ?_)
  replace ev2 := Eq.symm ev2
  replace ev4 := Eq.symm ev4
  replace ev6 := Eq.symm ev6
  subst ev2 ev4 ev6
  exact E _ _ _ _ _ _ _ _ _ dX11_file_14 rfl (pr1 rfl) (pr2 rfl) hH hS (Nat.zero_le _) (Nat.zero_le _)
theorem k_X11_file {p : Program} {l : Launch} {e : Env} {R : Room} {s : State} {m : MethodId} {args : Array Value} {below : List Frame} {meth : Method} {c : Code} {H : Heap} {locs : List Loc} {cells slots : Nat} {Q : State → Prop} {cc : ByteArray} {pc nL : Nat} {ls : Array Slot} {rest : List Value} {G : gG} {own : String} {da : Nat → Nat} {v : vSt} {x : gX} (X : CX G p s m args c cc nL own) (hS : va_S (gA G) s.heap H locs) (hH : Hp G da v x H) {r : Nat} (hk_r : kd r = 11) {p1 : Int32} (ho : oX11_file r p1 v) {idx : Nat} (hml : Cond.methodLink own idx yX11_file ∈ TT) (hls : ls.size = nL) (hsum : (rest.map fun v => v.category).sum ≤ 8) (hR : rmX11_file.frames + 1 ≤ R.frames ∧ 8 + (2 + 11) + rmX11_file.locals ≤ R.locals) (hcs : cells ≤ R.cells ∧ slots ≤ R.slots) (hdg : decode cc pc = .ok (.invokevirtual idx, 3)) (kk : ∀ (d : Nat → Nat) (H1 : Heap) (locs1 : List Loc) (v1 : vSt), v1 = (fX11_file r p1 v).2 → Hp G d v1 x H1 → va_S (gA G) s.heap H1 locs1 → W p l e R s m args below meth c H1 locs1 cells slots Q (F0 m (pc + 3) ls (.int (fX11_file r p1 v).1 :: rest))) : W p l e R s m args below meth c H locs cells slots Q (F0 m pc ls (.int p1 :: .ref (ga G r) :: rest)) := c_mi X.2.2.2.2.2.2 (runV (k := 1) X.1 X.2.1 X.2.2.1 X.2.2.2.1 X.2.2.2.2.1 (mX11_file l G da v x r hk_r p1 ho) pW_bl hml t_im_X11_file t_sel_X11_file t_ini_VernierDrawersModel t_code_X11_file ⟨rfl, by decide, by decide, by decide +kernel⟩ rfl rfl hR hcs (recvW X hH (by rw [hk_r]; decide) (by rw [hk_r]; decide) (ce_11 hk_r) rfl) (preW X hS hH) rfl hls rfl hsum hdg) hS kk
def fX11_passUnseen (r : Nat) (v : vSt) : Int32 × vSt := let v2 : vSt := fX11_begins r v; let v4 : vSt := (fX11_goPass r v2).2; let v6 : vSt := (fX11_ends r ((fX11_goPass r v2).1) 1 v4).2; ((fX11_ends r ((fX11_goPass r v2).1) 1 v4).1, v6)
def oX11_passUnseen (r : Nat) (v : vSt) : Prop := (oX11_begins r v) ∧ (∀ v2 : vSt, v2 = (fX11_begins r v) → ((oX11_goPass r v2) ∧ (∀ v4 : vSt, v4 = ((fX11_goPass r v2).2) → (oX11_ends r ((fX11_goPass r v2).1) 1 v4))))
abbrev rmX11_passUnseen : Room := { frames := 4, cells := 0, slots := 0, locals := 82 }
theorem dX11_passUnseen_0 : decode cX11_passUnseen 0 = .ok (.aload_n 0, 1) := by decide +kernel
theorem dX11_passUnseen_1 : decode cX11_passUnseen 1 = .ok (.invokevirtual 180, 3) := by decide +kernel
theorem dX11_passUnseen_4 : decode cX11_passUnseen 4 = .ok (.aload_n 0, 1) := by decide +kernel
theorem dX11_passUnseen_5 : decode cX11_passUnseen 5 = .ok (.aload_n 0, 1) := by decide +kernel
theorem dX11_passUnseen_6 : decode cX11_passUnseen 6 = .ok (.invokevirtual 204, 3) := by decide +kernel
theorem dX11_passUnseen_9 : decode cX11_passUnseen 9 = .ok (.iconst 1, 1) := by decide +kernel
theorem dX11_passUnseen_10 : decode cX11_passUnseen 10 = .ok (.invokevirtual 183, 3) := by decide +kernel
theorem dX11_passUnseen_13 : decode cX11_passUnseen 13 = .ok (.ireturn, 1) := by decide +kernel
set_option maxHeartbeats 8000000 in
set_option maxRecDepth 100000 in
theorem mX11_passUnseen (l : Launch) (G : gG) (da : Nat → Nat) (v : vSt) (x : gX) (r : Nat) (hk_r : kd r = 11) (ho : oX11_passUnseen r v) : MI l yX11_passUnseen cX11_passUnseen 1 (some .int) rmX11_passUnseen [.ref (ga G r)] G da v x 0 0 (fX11_passUnseen r v).1 (fX11_passUnseen r v).2 x := by
  refine gofMI (own := RX11) (by decide) rfl (Nat.le_of_ble_eq_true rfl) (fun p e s m args below meth c ls Q X hH hl E => ?_)
  have hx := X.1
  have hb := X.2.1
  have hown := X.2.2.2.1
  have hts := X.2.2.2.2.1
  have hS : va_S (gA G) s.heap s.heap [] := va_S.rf
  unfold oX11_passUnseen at ho
  have hl : lv_has ls 1 [(0, .ref (ga G r))] := hl
  refine lv_aload_n hx hb dX11_passUnseen_0 rfl (lv_at hl 0 rfl) ?_
  have hq1 := ho.1
  have ho := ho.2
  refine k_X11_begins X hS hH hk_r hq1 t_ml_VernierDrawersModel_180 hl.1 (Nat.le_of_ble_eq_true rfl) ⟨Nat.le_of_ble_eq_true rfl, Nat.le_of_ble_eq_true rfl⟩ ⟨Nat.zero_le _, Nat.zero_le _⟩ dX11_passUnseen_1 (fun da H locs v2 ev2 hH hS => ?_)
  have ho := ho v2 ev2
  refine lv_aload_n hx hb dX11_passUnseen_4 rfl (lv_at hl 0 rfl) ?_
  refine lv_aload_n hx hb dX11_passUnseen_5 rfl (lv_at hl 0 rfl) ?_
  have hq3 := ho.1
  have ho := ho.2
  refine k_X11_goPass X hS hH hk_r hq3 t_ml_VernierDrawersModel_204 hl.1 (Nat.le_of_ble_eq_true rfl) ⟨Nat.le_of_ble_eq_true rfl, Nat.le_of_ble_eq_true rfl⟩ ⟨Nat.zero_le _, Nat.zero_le _⟩ dX11_passUnseen_6 (fun da H locs v4 ev4 hH hS => ?_)
  have ho := ho v4 ev4
  refine lv_iconst (v := 1) hx hb dX11_passUnseen_9 (by decide) ?_
  have hq5 := ho
  refine k_X11_ends X hS hH hk_r hq5 t_ml_VernierDrawersModel_183 hl.1 (Nat.le_of_ble_eq_true rfl) ⟨Nat.le_of_ble_eq_true rfl, Nat.le_of_ble_eq_true rfl⟩ ⟨Nat.zero_le _, Nat.zero_le _⟩ dX11_passUnseen_10 (fun da H locs v6 ev6 hH hS => ?_)
  replace ev2 := Eq.symm ev2
  replace ev4 := Eq.symm ev4
  replace ev6 := Eq.symm ev6
  subst ev2 ev4 ev6
  exact E _ _ _ _ _ _ _ _ _ dX11_passUnseen_13 rfl (pr1 rfl) (pr2 rfl) hH hS (Nat.zero_le _) (Nat.zero_le _)
theorem k_X11_passUnseen {p : Program} {l : Launch} {e : Env} {R : Room} {s : State} {m : MethodId} {args : Array Value} {below : List Frame} {meth : Method} {c : Code} {H : Heap} {locs : List Loc} {cells slots : Nat} {Q : State → Prop} {cc : ByteArray} {pc nL : Nat} {ls : Array Slot} {rest : List Value} {G : gG} {own : String} {da : Nat → Nat} {v : vSt} {x : gX} (X : CX G p s m args c cc nL own) (hS : va_S (gA G) s.heap H locs) (hH : Hp G da v x H) {r : Nat} (hk_r : kd r = 11) (ho : oX11_passUnseen r v) {idx : Nat} (hml : Cond.methodLink own idx yX11_passUnseen ∈ TT) (hls : ls.size = nL) (hsum : (rest.map fun v => v.category).sum ≤ 8) (hR : rmX11_passUnseen.frames + 1 ≤ R.frames ∧ 8 + (1 + 11) + rmX11_passUnseen.locals ≤ R.locals) (hcs : cells ≤ R.cells ∧ slots ≤ R.slots) (hdg : decode cc pc = .ok (.invokevirtual idx, 3)) (kk : ∀ (d : Nat → Nat) (H1 : Heap) (locs1 : List Loc) (v1 : vSt), v1 = (fX11_passUnseen r v).2 → Hp G d v1 x H1 → va_S (gA G) s.heap H1 locs1 → W p l e R s m args below meth c H1 locs1 cells slots Q (F0 m (pc + 3) ls (.int (fX11_passUnseen r v).1 :: rest))) : W p l e R s m args below meth c H locs cells slots Q (F0 m pc ls (.ref (ga G r) :: rest)) := c_mi X.2.2.2.2.2.2 (runV (k := 0) X.1 X.2.1 X.2.2.1 X.2.2.2.1 X.2.2.2.2.1 (mX11_passUnseen l G da v x r hk_r ho) pW_bl hml t_im_X11_passUnseen t_sel_X11_passUnseen t_ini_VernierDrawersModel t_code_X11_passUnseen ⟨rfl, by decide, by decide, by decide +kernel⟩ rfl rfl hR hcs (recvW X hH (by rw [hk_r]; decide) (by rw [hk_r]; decide) (ce_11 hk_r) rfl) (preW X hS hH) rfl hls rfl hsum hdg) hS kk
def lX11_throwOut_38 (r : Nat) (p1 : Int32) (v2 : vSt) : Nat → Int32 → Int32 → vSt → Int32 × vSt
  | 0, i7, i8, v9 => (i8, v9)
  | n + 1, i7, i8, v9 => if ((fX11_of r p1 8 v2) : Int32) ≤ i7 then ((i8, v9)) else (let qy13 : Int32 × vSt := (if ((v9 462 (209 : Int32).toNatClampNeg) : Int32) < (fX11_size ((fX11_onChart r p1 i7 v9) - (fX11_middle r p1 v2))) then ((i8, v9)) else (let v17 : vSt := fX11_lays r p1 (9 + i8) (fX11_onChart r p1 i7 v9) v9; (i8 + 1, v17)) : Int32 × vSt); let y13 := qy13.1; let v14 := qy13.2; lX11_throwOut_38 r p1 v2 n (i7 + 1) y13 v14)
def olX11_throwOut_38 (r : Nat) (p1 : Int32) (v2 : vSt) : Nat → Int32 → Int32 → vSt → Prop
  | 0, _, _, _ => False
  | n + 1, i7, i8, v9 => ¬ (((fX11_of r p1 8 v2) : Int32) ≤ i7) → ((oX11_onChart r p1 i7 v9) ∧ ((vp_in (209) (mlen 462)) ∧ ((¬ (((v9 462 (209 : Int32).toNatClampNeg) : Int32) < (fX11_size ((fX11_onChart r p1 i7 v9) - (fX11_middle r p1 v2)))) → (oX11_lays r p1 (9 + i8) (fX11_onChart r p1 i7 v9) v9)) ∧ (∀ (y13 : Int32) (v14 : vSt), y13 = ((if ((v9 462 (209 : Int32).toNatClampNeg) : Int32) < (fX11_size ((fX11_onChart r p1 i7 v9) - (fX11_middle r p1 v2))) then ((i8, v9)) else (let v17 : vSt := fX11_lays r p1 (9 + i8) (fX11_onChart r p1 i7 v9) v9; (i8 + 1, v17)) : Int32 × vSt) : Int32 × vSt).1 → v14 = ((if ((v9 462 (209 : Int32).toNatClampNeg) : Int32) < (fX11_size ((fX11_onChart r p1 i7 v9) - (fX11_middle r p1 v2))) then ((i8, v9)) else (let v17 : vSt := fX11_lays r p1 (9 + i8) (fX11_onChart r p1 i7 v9) v9; (i8 + 1, v17)) : Int32 × vSt) : Int32 × vSt).2 → (olX11_throwOut_38 r p1 v2 n (i7 + 1) y13 v14)))))
def lX11_throwOut_96 (r : Nat) (p1 : Int32) (v2 : vSt) : Nat → Int32 → vSt → vSt
  | 0, i18, v19 => v19
  | n + 1, i18, v19 => if ((fX11_of r p1 8 v2) : Int32) ≤ i18 then v19 else (let v22 : vSt := fX11_lays r p1 (9 + i18) 0 v19; lX11_throwOut_96 r p1 v2 n (i18 + 1) v22)
def olX11_throwOut_96 (r : Nat) (p1 : Int32) (v2 : vSt) : Nat → Int32 → vSt → Prop
  | 0, _, _ => False
  | n + 1, i18, v19 => ¬ (((fX11_of r p1 8 v2) : Int32) ≤ i18) → ((oX11_lays r p1 (9 + i18) 0 v19) ∧ (∀ v22 : vSt, v22 = (fX11_lays r p1 (9 + i18) 0 v19) → (olX11_throwOut_96 r p1 v2 n (i18 + 1) v22)))
def fX11_throwOut (r : Nat) (p1 : Int32) (v : vSt) : Int32 × vSt := let v2 : vSt := fX11_begins r v; if ((fX11_isType r p1 v2) : Int32) = 0 then (let v27 : vSt := (fX11_fails r 1 v2).2; ((fX11_fails r 1 v2).1, v27)) else (let qy10 : Int32 × vSt := (lX11_throwOut_38 r p1 v2 ((Int32.toInt ((fX11_of r p1 8 v2)) - Int32.toInt 0).toNat + 1) 0 0 v2); let y10 := qy10.1; let v11 := qy10.2; let v20 : vSt := (lX11_throwOut_96 r p1 v2 ((Int32.toInt ((fX11_of r p1 8 v2)) - Int32.toInt y10).toNat + 1) y10 v11); let v24 : vSt := fX11_lays r p1 8 y10 v20; let v26 : vSt := (fX11_ends r ((fX11_of r p1 8 v2) - y10) 2 v24).2; ((fX11_ends r ((fX11_of r p1 8 v2) - y10) 2 v24).1, v26))
def oX11_throwOut (r : Nat) (p1 : Int32) (v : vSt) : Prop := (oX11_begins r v) ∧ (∀ v2 : vSt, v2 = (fX11_begins r v) → ((oX11_isType r p1 v2) ∧ (¬ (((fX11_isType r p1 v2) : Int32) = 0) → ((oX11_of r p1 8 v2) ∧ ((oX11_middle r p1 v2) ∧ (olX11_throwOut_38 r p1 v2 ((Int32.toInt ((fX11_of r p1 8 v2)) - Int32.toInt 0).toNat + 1) 0 0 v2 ∧ (∀ (y10 : Int32) (v11 : vSt), y10 = ((lX11_throwOut_38 r p1 v2 ((Int32.toInt ((fX11_of r p1 8 v2)) - Int32.toInt 0).toNat + 1) 0 0 v2) : Int32 × vSt).1 → v11 = ((lX11_throwOut_38 r p1 v2 ((Int32.toInt ((fX11_of r p1 8 v2)) - Int32.toInt 0).toNat + 1) 0 0 v2) : Int32 × vSt).2 → (olX11_throwOut_96 r p1 v2 ((Int32.toInt ((fX11_of r p1 8 v2)) - Int32.toInt y10).toNat + 1) y10 v11 ∧ (∀ (v20 : vSt), v20 = ((lX11_throwOut_96 r p1 v2 ((Int32.toInt ((fX11_of r p1 8 v2)) - Int32.toInt y10).toNat + 1) y10 v11) : vSt) → ((oX11_lays r p1 8 y10 v20) ∧ (∀ v24 : vSt, v24 = (fX11_lays r p1 8 y10 v20) → (oX11_ends r ((fX11_of r p1 8 v2) - y10) 2 v24))))))))))))
abbrev rmX11_throwOut : Room := { frames := 4, cells := 0, slots := 0, locals := 92 }
theorem dX11_throwOut_0 : decode cX11_throwOut 0 = .ok (.aload_n 0, 1) := by decide +kernel
theorem dX11_throwOut_1 : decode cX11_throwOut 1 = .ok (.invokevirtual 180, 3) := by decide +kernel
theorem dX11_throwOut_4 : decode cX11_throwOut 4 = .ok (.aload_n 0, 1) := by decide +kernel
theorem dX11_throwOut_5 : decode cX11_throwOut 5 = .ok (.iload_n 1, 1) := by decide +kernel
theorem dX11_throwOut_6 : decode cX11_throwOut 6 = .ok (.invokevirtual 152, 3) := by decide +kernel
theorem dX11_throwOut_9 : decode cX11_throwOut 9 = .ok (.ifCond .ne 9, 3) := by decide +kernel
theorem dX11_throwOut_12 : decode cX11_throwOut 12 = .ok (.aload_n 0, 1) := by decide +kernel
theorem dX11_throwOut_13 : decode cX11_throwOut 13 = .ok (.iconst 1, 1) := by decide +kernel
theorem dX11_throwOut_14 : decode cX11_throwOut 14 = .ok (.invokevirtual 42, 3) := by decide +kernel
theorem dX11_throwOut_17 : decode cX11_throwOut 17 = .ok (.ireturn, 1) := by decide +kernel
theorem dX11_throwOut_18 : decode cX11_throwOut 18 = .ok (.aload_n 0, 1) := by decide +kernel
theorem dX11_throwOut_19 : decode cX11_throwOut 19 = .ok (.iload_n 1, 1) := by decide +kernel
theorem dX11_throwOut_20 : decode cX11_throwOut 20 = .ok (.bipush 8, 2) := by decide +kernel
theorem dX11_throwOut_22 : decode cX11_throwOut 22 = .ok (.invokevirtual 90, 3) := by decide +kernel
theorem dX11_throwOut_25 : decode cX11_throwOut 25 = .ok (.istore_n 2, 1) := by decide +kernel
theorem dX11_throwOut_26 : decode cX11_throwOut 26 = .ok (.aload_n 0, 1) := by decide +kernel
theorem dX11_throwOut_27 : decode cX11_throwOut 27 = .ok (.iload_n 1, 1) := by decide +kernel
theorem dX11_throwOut_28 : decode cX11_throwOut 28 = .ok (.invokevirtual 207, 3) := by decide +kernel
theorem dX11_throwOut_31 : decode cX11_throwOut 31 = .ok (.istore_n 3, 1) := by decide +kernel
theorem dX11_throwOut_32 : decode cX11_throwOut 32 = .ok (.iconst 0, 1) := by decide +kernel
theorem dX11_throwOut_33 : decode cX11_throwOut 33 = .ok (.istore 4, 2) := by decide +kernel
theorem dX11_throwOut_35 : decode cX11_throwOut 35 = .ok (.iconst 0, 1) := by decide +kernel
theorem dX11_throwOut_36 : decode cX11_throwOut 36 = .ok (.istore 5, 2) := by decide +kernel
theorem dX11_throwOut_38 : decode cX11_throwOut 38 = .ok (.iload 5, 2) := by decide +kernel
theorem dX11_throwOut_40 : decode cX11_throwOut 40 = .ok (.iload_n 2, 1) := by decide +kernel
theorem dX11_throwOut_41 : decode cX11_throwOut 41 = .ok (.if_icmp .ge 51, 3) := by decide +kernel
theorem dX11_throwOut_44 : decode cX11_throwOut 44 = .ok (.aload_n 0, 1) := by decide +kernel
theorem dX11_throwOut_45 : decode cX11_throwOut 45 = .ok (.iload_n 1, 1) := by decide +kernel
theorem dX11_throwOut_46 : decode cX11_throwOut 46 = .ok (.iload 5, 2) := by decide +kernel
theorem dX11_throwOut_48 : decode cX11_throwOut 48 = .ok (.invokevirtual 123, 3) := by decide +kernel
theorem dX11_throwOut_51 : decode cX11_throwOut 51 = .ok (.istore 6, 2) := by decide +kernel
theorem dX11_throwOut_53 : decode cX11_throwOut 53 = .ok (.iload 6, 2) := by decide +kernel
theorem dX11_throwOut_55 : decode cX11_throwOut 55 = .ok (.iload_n 3, 1) := by decide +kernel
theorem dX11_throwOut_56 : decode cX11_throwOut 56 = .ok (.isub, 1) := by decide +kernel
theorem dX11_throwOut_57 : decode cX11_throwOut 57 = .ok (.invokestatic 113, 3) := by decide +kernel
theorem dX11_throwOut_60 : decode cX11_throwOut 60 = .ok (.aload_n 0, 1) := by decide +kernel
theorem dX11_throwOut_61 : decode cX11_throwOut 61 = .ok (.getfield 7, 3) := by decide +kernel
theorem dX11_throwOut_64 : decode cX11_throwOut 64 = .ok (.sipush 209, 3) := by decide +kernel
theorem dX11_throwOut_67 : decode cX11_throwOut 67 = .ok (.iaload, 1) := by decide +kernel
theorem dX11_throwOut_68 : decode cX11_throwOut 68 = .ok (.if_icmp .gt 18, 3) := by decide +kernel
theorem dX11_throwOut_71 : decode cX11_throwOut 71 = .ok (.aload_n 0, 1) := by decide +kernel
theorem dX11_throwOut_72 : decode cX11_throwOut 72 = .ok (.iload_n 1, 1) := by decide +kernel
theorem dX11_throwOut_73 : decode cX11_throwOut 73 = .ok (.bipush 9, 2) := by decide +kernel
theorem dX11_throwOut_75 : decode cX11_throwOut 75 = .ok (.iload 4, 2) := by decide +kernel
theorem dX11_throwOut_77 : decode cX11_throwOut 77 = .ok (.iadd, 1) := by decide +kernel
theorem dX11_throwOut_78 : decode cX11_throwOut 78 = .ok (.iload 6, 2) := by decide +kernel
theorem dX11_throwOut_80 : decode cX11_throwOut 80 = .ok (.invokevirtual 116, 3) := by decide +kernel
theorem dX11_throwOut_83 : decode cX11_throwOut 83 = .ok (.iinc 4 1, 3) := by decide +kernel
theorem dX11_throwOut_86 : decode cX11_throwOut 86 = .ok (.iinc 5 1, 3) := by decide +kernel
theorem dX11_throwOut_89 : decode cX11_throwOut 89 = .ok (.goto (-51), 3) := by decide +kernel
theorem dX11_throwOut_92 : decode cX11_throwOut 92 = .ok (.iload 4, 2) := by decide +kernel
theorem dX11_throwOut_94 : decode cX11_throwOut 94 = .ok (.istore 5, 2) := by decide +kernel
theorem dX11_throwOut_96 : decode cX11_throwOut 96 = .ok (.iload 5, 2) := by decide +kernel
theorem dX11_throwOut_98 : decode cX11_throwOut 98 = .ok (.iload_n 2, 1) := by decide +kernel
theorem dX11_throwOut_99 : decode cX11_throwOut 99 = .ok (.if_icmp .ge 20, 3) := by decide +kernel
theorem dX11_throwOut_102 : decode cX11_throwOut 102 = .ok (.aload_n 0, 1) := by decide +kernel
theorem dX11_throwOut_103 : decode cX11_throwOut 103 = .ok (.iload_n 1, 1) := by decide +kernel
theorem dX11_throwOut_104 : decode cX11_throwOut 104 = .ok (.bipush 9, 2) := by decide +kernel
theorem dX11_throwOut_106 : decode cX11_throwOut 106 = .ok (.iload 5, 2) := by decide +kernel
theorem dX11_throwOut_108 : decode cX11_throwOut 108 = .ok (.iadd, 1) := by decide +kernel
theorem dX11_throwOut_109 : decode cX11_throwOut 109 = .ok (.iconst 0, 1) := by decide +kernel
theorem dX11_throwOut_110 : decode cX11_throwOut 110 = .ok (.invokevirtual 116, 3) := by decide +kernel
theorem dX11_throwOut_113 : decode cX11_throwOut 113 = .ok (.iinc 5 1, 3) := by decide +kernel
theorem dX11_throwOut_116 : decode cX11_throwOut 116 = .ok (.goto (-20), 3) := by decide +kernel
theorem dX11_throwOut_119 : decode cX11_throwOut 119 = .ok (.aload_n 0, 1) := by decide +kernel
theorem dX11_throwOut_120 : decode cX11_throwOut 120 = .ok (.iload_n 1, 1) := by decide +kernel
theorem dX11_throwOut_121 : decode cX11_throwOut 121 = .ok (.bipush 8, 2) := by decide +kernel
theorem dX11_throwOut_123 : decode cX11_throwOut 123 = .ok (.iload 4, 2) := by decide +kernel
theorem dX11_throwOut_125 : decode cX11_throwOut 125 = .ok (.invokevirtual 116, 3) := by decide +kernel
theorem dX11_throwOut_128 : decode cX11_throwOut 128 = .ok (.aload_n 0, 1) := by decide +kernel
theorem dX11_throwOut_129 : decode cX11_throwOut 129 = .ok (.iload_n 2, 1) := by decide +kernel
theorem dX11_throwOut_130 : decode cX11_throwOut 130 = .ok (.iload 4, 2) := by decide +kernel
theorem dX11_throwOut_132 : decode cX11_throwOut 132 = .ok (.isub, 1) := by decide +kernel
theorem dX11_throwOut_133 : decode cX11_throwOut 133 = .ok (.iconst 2, 1) := by decide +kernel
theorem dX11_throwOut_134 : decode cX11_throwOut 134 = .ok (.invokevirtual 183, 3) := by decide +kernel
theorem dX11_throwOut_137 : decode cX11_throwOut 137 = .ok (.ireturn, 1) := by decide +kernel
set_option maxHeartbeats 8000000 in
set_option maxRecDepth 100000 in
theorem mX11_throwOut (l : Launch) (G : gG) (da : Nat → Nat) (v : vSt) (x : gX) (r : Nat) (hk_r : kd r = 11) (p1 : Int32) (ho : oX11_throwOut r p1 v) : MI l yX11_throwOut cX11_throwOut 7 (some .int) rmX11_throwOut [.ref (ga G r), .int p1] G da v x 0 0 (fX11_throwOut r p1 v).1 (fX11_throwOut r p1 v).2 x := by
  refine gofMI (own := RX11) (by decide) rfl (Nat.le_of_ble_eq_true rfl) (fun p e s m args below meth c ls Q X hH hl E => ?_)
  have hx := X.1
  have hb := X.2.1
  have hown := X.2.2.2.1
  have hts := X.2.2.2.2.1
  have hS : va_S (gA G) s.heap s.heap [] := va_S.rf
  unfold oX11_throwOut at ho
  have hl : lv_has ls 7 [(0, .ref (ga G r)), (1, .int p1)] := hl
  refine lv_aload_n hx hb dX11_throwOut_0 rfl (lv_at hl 0 rfl) ?_
  have hq1 := ho.1
  have ho := ho.2
  refine k_X11_begins X hS hH hk_r hq1 t_ml_VernierDrawersModel_180 hl.1 (Nat.le_of_ble_eq_true rfl) ⟨Nat.le_of_ble_eq_true rfl, Nat.le_of_ble_eq_true rfl⟩ ⟨Nat.zero_le _, Nat.zero_le _⟩ dX11_throwOut_1 (fun da H locs v2 ev2 hH hS => ?_)
  have ho := ho v2 ev2
  refine lv_aload_n hx hb dX11_throwOut_4 rfl (lv_at hl 0 rfl) ?_
  refine lv_iload_n hx hb dX11_throwOut_5 rfl (lv_at hl 1 rfl) ?_
  have hq3 := ho.1
  have ho := ho.2
  refine k_X11_isType X hS hH hk_r hq3 t_ml_VernierDrawersModel_152 hl.1 (Nat.le_of_ble_eq_true rfl) ⟨Nat.le_of_ble_eq_true rfl, Nat.le_of_ble_eq_true rfl⟩ ⟨Nat.zero_le _, Nat.zero_le _⟩ dX11_throwOut_6 ?_
  refine lv_if_ne (tgt := 18) hx hb dX11_throwOut_9 (by decide) (fun c4 => ?_) (fun c4 => ?_)
  · have ho := ho c4
    refine lv_aload_n hx hb dX11_throwOut_18 rfl (lv_at hl 0 rfl) ?_
    refine lv_iload_n hx hb dX11_throwOut_19 rfl (lv_at hl 1 rfl) ?_
    refine lv_bipush (v := 8) hx hb dX11_throwOut_20 (by decide) ?_
    have hq5 := ho.1
    have ho := ho.2
    refine k_X11_of X hS hH hk_r hq5 t_ml_VernierDrawersModel_90 hl.1 (Nat.le_of_ble_eq_true rfl) ⟨Nat.le_of_ble_eq_true rfl, Nat.le_of_ble_eq_true rfl⟩ ⟨Nat.zero_le _, Nat.zero_le _⟩ dX11_throwOut_22 ?_
    refine lv_istore_n (lv' := [(2, .int (fX11_of r p1 8 v2)), (0, .ref (ga G r)), (1, .int p1)]) hx hb dX11_throwOut_25 rfl hl (by decide) rfl (fun ls hl => ?_)
    refine lv_aload_n hx hb dX11_throwOut_26 rfl (lv_at hl 1 rfl) ?_
    refine lv_iload_n hx hb dX11_throwOut_27 rfl (lv_at hl 2 rfl) ?_
    have hq6 := ho.1
    have ho := ho.2
    refine k_X11_middle X hS hH hk_r hq6 t_ml_VernierDrawersModel_207 hl.1 (Nat.le_of_ble_eq_true rfl) ⟨Nat.le_of_ble_eq_true rfl, Nat.le_of_ble_eq_true rfl⟩ ⟨Nat.zero_le _, Nat.zero_le _⟩ dX11_throwOut_28 ?_
    refine lv_istore_n (lv' := [(3, .int (fX11_middle r p1 v2)), (2, .int (fX11_of r p1 8 v2)), (0, .ref (ga G r)), (1, .int p1)]) hx hb dX11_throwOut_31 rfl hl (by decide) rfl (fun ls hl => ?_)
    refine lv_iconst (v := 0) hx hb dX11_throwOut_32 (by decide) ?_
    refine lv_istore (lv' := [(4, .int 0), (3, .int (fX11_middle r p1 v2)), (2, .int (fX11_of r p1 8 v2)), (0, .ref (ga G r)), (1, .int p1)]) hx hb dX11_throwOut_33 hl (by decide) rfl (fun ls hl => ?_)
    refine lv_iconst (v := 0) hx hb dX11_throwOut_35 (by decide) ?_
    refine lv_istore (lv' := [(5, .int 0), (4, .int 0), (3, .int (fX11_middle r p1 v2)), (2, .int (fX11_of r p1 8 v2)), (0, .ref (ga G r)), (1, .int p1)]) hx hb dX11_throwOut_36 hl (by decide) rfl (fun ls hl => ?_)
    have L12 : ∀ (n : Nat) (i7 : Int32) (i8 : Int32) (v9 : vSt) (da : Nat → Nat) (H : Heap) (locs : List Loc) (ls : Array Slot), olX11_throwOut_38 r p1 v2 n i7 i8 v9 → Hp G da v9 x H → va_S (gA G) s.heap H locs → lv_has ls 7 [(5, .int i7), (4, .int i8), (3, .int (fX11_middle r p1 v2)), (2, .int (fX11_of r p1 8 v2)), (0, .ref (ga G r)), (1, .int p1)] → (∀ (y10 : Int32) (v11 : vSt) (da : Nat → Nat) (H : Heap) (locs : List Loc) (ls : Array Slot), y10 = (lX11_throwOut_38 r p1 v2 n i7 i8 v9 : Int32 × vSt).1 → v11 = (lX11_throwOut_38 r p1 v2 n i7 i8 v9 : Int32 × vSt).2 → Hp G da v11 x H → va_S (gA G) s.heap H locs → lv_has ls 7 [(4, .int y10), (2, .int (fX11_of r p1 8 v2)), (0, .ref (ga G r)), (1, .int p1)] → W p l e rmX11_throwOut s m args below meth c H locs 0 0 Q (F0 m 92 ls [])) → W p l e rmX11_throwOut s m args below meth c H locs 0 0 Q (F0 m 38 ls []) := by
      clear ho
      intro n
      induction n with
      | zero =>
        intro i7 i8 v9 da H locs ls ho
        exact ho.elim
      | succ n ih =>
        intro i7 i8 v9 da H locs ls ho hH hS hl K13
        refine lv_iload hx hb dX11_throwOut_38 (lv_at hl 0 rfl) ?_
        refine lv_iload_n hx hb dX11_throwOut_40 rfl (lv_at hl 3 rfl) ?_
        refine lv_icmp_ge (tgt := 92) hx hb dX11_throwOut_41 (by decide) (fun c10 => ?_) (fun c10 => ?_)
        · skip
          exact K13 _ _ _ _ _ _ (pr1 (((lX11_throwOut_38.eq_2 _ _ _ _ _ _ _)).trans ((if_pos c10).trans rfl))) (pr2 (((lX11_throwOut_38.eq_2 _ _ _ _ _ _ _)).trans ((if_pos c10).trans rfl))) hH hS (lv_sub hl [1, 3, 4, 5] rfl)
        · have ho := ho c10
          refine lv_aload_n hx hb dX11_throwOut_44 rfl (lv_at hl 4 rfl) ?_
          refine lv_iload_n hx hb dX11_throwOut_45 rfl (lv_at hl 5 rfl) ?_
          refine lv_iload hx hb dX11_throwOut_46 (lv_at hl 0 rfl) ?_
          have hq11 := ho.1
          have ho := ho.2
          refine k_X11_onChart X hS hH hk_r hq11 t_ml_VernierDrawersModel_123 hl.1 (Nat.le_of_ble_eq_true rfl) ⟨Nat.le_of_ble_eq_true rfl, Nat.le_of_ble_eq_true rfl⟩ ⟨Nat.zero_le _, Nat.zero_le _⟩ dX11_throwOut_48 ?_
          refine lv_istore (lv' := [(6, .int (fX11_onChart r p1 i7 v9)), (5, .int i7), (4, .int i8), (3, .int (fX11_middle r p1 v2)), (2, .int (fX11_of r p1 8 v2)), (0, .ref (ga G r)), (1, .int p1)]) hx hb dX11_throwOut_51 hl (by decide) rfl (fun ls hl => ?_)
          refine lv_iload hx hb dX11_throwOut_53 (lv_at hl 0 rfl) ?_
          refine lv_iload_n hx hb dX11_throwOut_55 rfl (lv_at hl 3 rfl) ?_
          refine lv_isub hx hb dX11_throwOut_56 ?_
          refine k_X11_size X hS  t_ml_VernierDrawersModel_113 hl.1 (Nat.le_of_ble_eq_true rfl) ⟨Nat.le_of_ble_eq_true rfl, Nat.le_of_ble_eq_true rfl⟩ ⟨Nat.zero_le _, Nat.zero_le _⟩ dX11_throwOut_57 ?_
          refine lv_aload_n hx hb dX11_throwOut_60 rfl (lv_at hl 5 rfl) ?_
          refine g_VernierDrawersModel_7 X hH hk_r dX11_throwOut_61 ?_
          refine lv_sipush (v := 209) hx hb dX11_throwOut_64 (by decide) ?_
          have hq12 := ho.1
          have ho := ho.2
          refine ald_M X hH (Or.inl kd_462) hq12 dX11_throwOut_67 ?_
          have K15 : ∀ (y13 : Int32) (v14 : vSt) (da : Nat → Nat) (H : Heap) (locs : List Loc) (ls : Array Slot), y13 = (if ((v9 462 (209 : Int32).toNatClampNeg) : Int32) < (fX11_size ((fX11_onChart r p1 i7 v9) - (fX11_middle r p1 v2))) then ((i8, v9)) else (let v17 : vSt := fX11_lays r p1 (9 + i8) (fX11_onChart r p1 i7 v9) v9; (i8 + 1, v17)) : Int32 × vSt).1 → v14 = (if ((v9 462 (209 : Int32).toNatClampNeg) : Int32) < (fX11_size ((fX11_onChart r p1 i7 v9) - (fX11_middle r p1 v2))) then ((i8, v9)) else (let v17 : vSt := fX11_lays r p1 (9 + i8) (fX11_onChart r p1 i7 v9) v9; (i8 + 1, v17)) : Int32 × vSt).2 → Hp G da v14 x H → va_S (gA G) s.heap H locs → lv_has ls 7 [(5, .int i7), (4, .int y13), (3, .int (fX11_middle r p1 v2)), (2, .int (fX11_of r p1 8 v2)), (0, .ref (ga G r)), (1, .int p1)] → W p l e rmX11_throwOut s m args below meth c H locs 0 0 Q (F0 m 86 ls []) := by
            intro y13 v14 da H locs ls ey13 ev14 hH hS hl
            have ho := ho.2 y13 v14 ey13 ev14
            refine lv_iinc (v := i7 + 1) (lv' := [(5, .int (i7 + 1)), (4, .int y13), (3, .int (fX11_middle r p1 v2)), (2, .int (fX11_of r p1 8 v2)), (0, .ref (ga G r)), (1, .int p1)]) hx hb dX11_throwOut_86 hl (k := 0) rfl rfl (by decide) rfl (fun ls hl => ?_)
            refine lv_goto (tgt := 38) hx hb dX11_throwOut_89 (by decide) ?_
            replace ey13 := Eq.symm ey13
            replace ev14 := Eq.symm ev14
            subst ey13 ev14
            exact ih _ _ _ _ _ _ _ ho hH hS (lv_sub hl [0, 1, 2, 3, 4, 5] rfl) (fun y10 v11 da H locs ls q0 q1 hH hS hl => K13 y10 v11 da H locs ls (q0.trans (congrArg (fun z : Int32 × vSt => z.1) (Eq.symm (((lX11_throwOut_38.eq_2 _ _ _ _ _ _ _)).trans ((if_neg c10).trans rfl))))) (q1.trans (congrArg (fun z : Int32 × vSt => z.2) (Eq.symm (((lX11_throwOut_38.eq_2 _ _ _ _ _ _ _)).trans ((if_neg c10).trans rfl))))) hH hS hl)
          have ho := ho.1
          refine lv_icmp_gt (tgt := 86) hx hb dX11_throwOut_68 (by decide) (fun c15 => ?_) (fun c15 => ?_)
          · skip
            exact K15 _ _ _ _ _ _ (pr1 ((if_pos c15).trans rfl)) (pr2 ((if_pos c15).trans rfl)) hH hS (lv_sub hl [1, 2, 3, 4, 5, 6] rfl)
          · have ho := ho c15
            refine lv_aload_n hx hb dX11_throwOut_71 rfl (lv_at hl 5 rfl) ?_
            refine lv_iload_n hx hb dX11_throwOut_72 rfl (lv_at hl 6 rfl) ?_
            refine lv_bipush (v := 9) hx hb dX11_throwOut_73 (by decide) ?_
            refine lv_iload hx hb dX11_throwOut_75 (lv_at hl 2 rfl) ?_
            refine lv_iadd hx hb dX11_throwOut_77 ?_
            refine lv_iload hx hb dX11_throwOut_78 (lv_at hl 0 rfl) ?_
            have hq16 := ho
            refine k_X11_lays X hS hH hk_r hq16 t_ml_VernierDrawersModel_116 hl.1 (Nat.le_of_ble_eq_true rfl) ⟨Nat.le_of_ble_eq_true rfl, Nat.le_of_ble_eq_true rfl⟩ ⟨Nat.zero_le _, Nat.zero_le _⟩ dX11_throwOut_80 (fun da H locs v17 ev17 hH hS => ?_)
            refine lv_iinc (v := i8 + 1) (lv' := [(4, .int (i8 + 1)), (6, .int (fX11_onChart r p1 i7 v9)), (5, .int i7), (3, .int (fX11_middle r p1 v2)), (2, .int (fX11_of r p1 8 v2)), (0, .ref (ga G r)), (1, .int p1)]) hx hb dX11_throwOut_83 hl (k := 2) rfl rfl (by decide) rfl (fun ls hl => ?_)
            replace ev17 := Eq.symm ev17
            subst ev17
            exact K15 _ _ _ _ _ _ (pr1 ((if_neg c15).trans rfl)) (pr2 ((if_neg c15).trans rfl)) hH hS (lv_sub hl [2, 0, 3, 4, 5, 6] rfl)
    have hol := ho.1
    refine L12 ((Int32.toInt ((fX11_of r p1 8 v2)) - Int32.toInt 0).toNat + 1) 0 0 v2 _ _ _ _ hol hH hS (lv_sub hl [0, 1, 2, 3, 4, 5] rfl) (fun y10 v11 da H locs ls ey10 ev11 hH hS hl => ?_)
    have ho := ho.2 y10 v11 ey10 ev11
    refine lv_iload hx hb dX11_throwOut_92 (lv_at hl 0 rfl) ?_
    refine lv_istore (lv' := [(5, .int y10), (4, .int y10), (2, .int (fX11_of r p1 8 v2)), (0, .ref (ga G r)), (1, .int p1)]) hx hb dX11_throwOut_94 hl (by decide) rfl (fun ls hl => ?_)
    have L21 : ∀ (n : Nat) (i18 : Int32) (v19 : vSt) (da : Nat → Nat) (H : Heap) (locs : List Loc) (ls : Array Slot), olX11_throwOut_96 r p1 v2 n i18 v19 → Hp G da v19 x H → va_S (gA G) s.heap H locs → lv_has ls 7 [(5, .int i18), (4, .int y10), (2, .int (fX11_of r p1 8 v2)), (0, .ref (ga G r)), (1, .int p1)] → (∀ (v20 : vSt) (da : Nat → Nat) (H : Heap) (locs : List Loc) (ls : Array Slot), v20 = (lX11_throwOut_96 r p1 v2 n i18 v19 : vSt) → Hp G da v20 x H → va_S (gA G) s.heap H locs → lv_has ls 7 [(4, .int y10), (2, .int (fX11_of r p1 8 v2)), (0, .ref (ga G r)), (1, .int p1)] → W p l e rmX11_throwOut s m args below meth c H locs 0 0 Q (F0 m 119 ls [])) → W p l e rmX11_throwOut s m args below meth c H locs 0 0 Q (F0 m 96 ls []) := by
      clear ho
      intro n
      induction n with
      | zero =>
        intro i18 v19 da H locs ls ho
        exact ho.elim
      | succ n ih =>
        intro i18 v19 da H locs ls ho hH hS hl K22
        refine lv_iload hx hb dX11_throwOut_96 (lv_at hl 0 rfl) ?_
        refine lv_iload_n hx hb dX11_throwOut_98 rfl (lv_at hl 2 rfl) ?_
        refine lv_icmp_ge (tgt := 119) hx hb dX11_throwOut_99 (by decide) (fun c20 => ?_) (fun c20 => ?_)
        · skip
          exact K22 _ _ _ _ _ (Eq.symm (((lX11_throwOut_96.eq_2 _ _ _ _ _ _)).trans ((if_pos c20).trans rfl))) hH hS (lv_sub hl [1, 2, 3, 4] rfl)
        · have ho := ho c20
          refine lv_aload_n hx hb dX11_throwOut_102 rfl (lv_at hl 3 rfl) ?_
          refine lv_iload_n hx hb dX11_throwOut_103 rfl (lv_at hl 4 rfl) ?_
          refine lv_bipush (v := 9) hx hb dX11_throwOut_104 (by decide) ?_
          refine lv_iload hx hb dX11_throwOut_106 (lv_at hl 0 rfl) ?_
          refine lv_iadd hx hb dX11_throwOut_108 ?_
          refine lv_iconst (v := 0) hx hb dX11_throwOut_109 (by decide) ?_
          have hq21 := ho.1
          have ho := ho.2
          refine k_X11_lays X hS hH hk_r hq21 t_ml_VernierDrawersModel_116 hl.1 (Nat.le_of_ble_eq_true rfl) ⟨Nat.le_of_ble_eq_true rfl, Nat.le_of_ble_eq_true rfl⟩ ⟨Nat.zero_le _, Nat.zero_le _⟩ dX11_throwOut_110 (fun da H locs v22 ev22 hH hS => ?_)
          have ho := ho v22 ev22
          refine lv_iinc (v := i18 + 1) (lv' := [(5, .int (i18 + 1)), (4, .int y10), (2, .int (fX11_of r p1 8 v2)), (0, .ref (ga G r)), (1, .int p1)]) hx hb dX11_throwOut_113 hl (k := 0) rfl rfl (by decide) rfl (fun ls hl => ?_)
          refine lv_goto (tgt := 96) hx hb dX11_throwOut_116 (by decide) ?_
          replace ev22 := Eq.symm ev22
          subst ev22
          exact ih _ _ _ _ _ _ ho hH hS (lv_sub hl [0, 1, 2, 3, 4] rfl) (fun v20 da H locs ls q0 hH hS hl => K22 v20 da H locs ls (q0.trans (congrArg (fun z : vSt => z) (Eq.symm (((lX11_throwOut_96.eq_2 _ _ _ _ _ _)).trans ((if_neg c20).trans rfl))))) hH hS hl)
    have hol := ho.1
    refine L21 ((Int32.toInt ((fX11_of r p1 8 v2)) - Int32.toInt y10).toNat + 1) y10 v11 _ _ _ _ hol hH hS (lv_sub hl [0, 1, 2, 3, 4] rfl) (fun v20 da H locs ls ev20 hH hS hl => ?_)
    have ho := ho.2 v20 ev20
    refine lv_aload_n hx hb dX11_throwOut_119 rfl (lv_at hl 2 rfl) ?_
    refine lv_iload_n hx hb dX11_throwOut_120 rfl (lv_at hl 3 rfl) ?_
    refine lv_bipush (v := 8) hx hb dX11_throwOut_121 (by decide) ?_
    refine lv_iload hx hb dX11_throwOut_123 (lv_at hl 0 rfl) ?_
    have hq23 := ho.1
    have ho := ho.2
    refine k_X11_lays X hS hH hk_r hq23 t_ml_VernierDrawersModel_116 hl.1 (Nat.le_of_ble_eq_true rfl) ⟨Nat.le_of_ble_eq_true rfl, Nat.le_of_ble_eq_true rfl⟩ ⟨Nat.zero_le _, Nat.zero_le _⟩ dX11_throwOut_125 (fun da H locs v24 ev24 hH hS => ?_)
    have ho := ho v24 ev24
    refine lv_aload_n hx hb dX11_throwOut_128 rfl (lv_at hl 2 rfl) ?_
    refine lv_iload_n hx hb dX11_throwOut_129 rfl (lv_at hl 1 rfl) ?_
    refine lv_iload hx hb dX11_throwOut_130 (lv_at hl 0 rfl) ?_
    refine lv_isub hx hb dX11_throwOut_132 ?_
    refine lv_iconst (v := 2) hx hb dX11_throwOut_133 (by decide) ?_
    have hq25 := ho
    refine k_X11_ends X hS hH hk_r hq25 t_ml_VernierDrawersModel_183 hl.1 (Nat.le_of_ble_eq_true rfl) ⟨Nat.le_of_ble_eq_true rfl, Nat.le_of_ble_eq_true rfl⟩ ⟨Nat.zero_le _, Nat.zero_le _⟩ dX11_throwOut_134 (fun da H locs v26 ev26 hH hS => ?_)
    replace ev2 := Eq.symm ev2
    replace ey10 := Eq.symm ey10
    replace ev11 := Eq.symm ev11
    replace ev20 := Eq.symm ev20
    replace ev24 := Eq.symm ev24
    replace ev26 := Eq.symm ev26
    subst ev2 ey10 ev11 ev20 ev24 ev26
    exact E _ _ _ _ _ _ _ _ _ dX11_throwOut_137 rfl (pr1 ((fX11_throwOut.eq_1 _ _ _).trans ((if_neg c4).trans rfl))) (pr2 ((fX11_throwOut.eq_1 _ _ _).trans ((if_neg c4).trans rfl))) hH hS (Nat.zero_le _) (Nat.zero_le _)
  · skip
    refine lv_aload_n hx hb dX11_throwOut_12 rfl (lv_at hl 0 rfl) ?_
    refine lv_iconst (v := 1) hx hb dX11_throwOut_13 (by decide) ?_
    refine k_X11_fails X hS hH hk_r t_ml_VernierDrawersModel_42 hl.1 (Nat.le_of_ble_eq_true rfl) ⟨Nat.le_of_ble_eq_true rfl, Nat.le_of_ble_eq_true rfl⟩ ⟨Nat.zero_le _, Nat.zero_le _⟩ dX11_throwOut_14 (fun da H locs v27 ev27 hH hS => ?_)
    replace ev2 := Eq.symm ev2
    replace ev27 := Eq.symm ev27
    subst ev2 ev27
    exact E _ _ _ _ _ _ _ _ _ dX11_throwOut_17 rfl (pr1 ((fX11_throwOut.eq_1 _ _ _).trans ((if_pos c4).trans rfl))) (pr2 ((fX11_throwOut.eq_1 _ _ _).trans ((if_pos c4).trans rfl))) hH hS (Nat.zero_le _) (Nat.zero_le _)
theorem k_X11_throwOut {p : Program} {l : Launch} {e : Env} {R : Room} {s : State} {m : MethodId} {args : Array Value} {below : List Frame} {meth : Method} {c : Code} {H : Heap} {locs : List Loc} {cells slots : Nat} {Q : State → Prop} {cc : ByteArray} {pc nL : Nat} {ls : Array Slot} {rest : List Value} {G : gG} {own : String} {da : Nat → Nat} {v : vSt} {x : gX} (X : CX G p s m args c cc nL own) (hS : va_S (gA G) s.heap H locs) (hH : Hp G da v x H) {r : Nat} (hk_r : kd r = 11) {p1 : Int32} (ho : oX11_throwOut r p1 v) {idx : Nat} (hml : Cond.methodLink own idx yX11_throwOut ∈ TT) (hls : ls.size = nL) (hsum : (rest.map fun v => v.category).sum ≤ 8) (hR : rmX11_throwOut.frames + 1 ≤ R.frames ∧ 8 + (7 + 11) + rmX11_throwOut.locals ≤ R.locals) (hcs : cells ≤ R.cells ∧ slots ≤ R.slots) (hdg : decode cc pc = .ok (.invokevirtual idx, 3)) (kk : ∀ (d : Nat → Nat) (H1 : Heap) (locs1 : List Loc) (v1 : vSt), v1 = (fX11_throwOut r p1 v).2 → Hp G d v1 x H1 → va_S (gA G) s.heap H1 locs1 → W p l e R s m args below meth c H1 locs1 cells slots Q (F0 m (pc + 3) ls (.int (fX11_throwOut r p1 v).1 :: rest))) : W p l e R s m args below meth c H locs cells slots Q (F0 m pc ls (.int p1 :: .ref (ga G r) :: rest)) := c_mi X.2.2.2.2.2.2 (runV (k := 1) X.1 X.2.1 X.2.2.1 X.2.2.2.1 X.2.2.2.2.1 (mX11_throwOut l G da v x r hk_r p1 ho) pW_bl hml t_im_X11_throwOut t_sel_X11_throwOut t_ini_VernierDrawersModel t_code_X11_throwOut ⟨rfl, by decide, by decide, by decide +kernel⟩ rfl rfl hR hcs (recvW X hH (by rw [hk_r]; decide) (by rw [hk_r]; decide) (ce_11 hk_r) rfl) (preW X hS hH) rfl hls rfl hsum hdg) hS kk
