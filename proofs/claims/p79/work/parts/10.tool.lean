/-! VernierDrawers: static helpers; Tool, Block. -/
def fX10_inRange (p1 : Int32) (p2 : Int32) (p3 : Int32) : Int32 := if (p1 : Int32) < p2 then 0 else (if (p3 : Int32) < p1 then 0 else 1)
abbrev rmX10_inRange : Room := { frames := 0, cells := 0, slots := 0, locals := 0 }
theorem dX10_inRange_0 : decode cX10_inRange 0 = .ok (.iload_n 0, 1) := by decide +kernel
theorem dX10_inRange_1 : decode cX10_inRange 1 = .ok (.iload_n 1, 1) := by decide +kernel
theorem dX10_inRange_2 : decode cX10_inRange 2 = .ok (.if_icmp .lt 12, 3) := by decide +kernel
theorem dX10_inRange_5 : decode cX10_inRange 5 = .ok (.iload_n 0, 1) := by decide +kernel
theorem dX10_inRange_6 : decode cX10_inRange 6 = .ok (.iload_n 2, 1) := by decide +kernel
theorem dX10_inRange_7 : decode cX10_inRange 7 = .ok (.if_icmp .gt 7, 3) := by decide +kernel
theorem dX10_inRange_10 : decode cX10_inRange 10 = .ok (.iconst 1, 1) := by decide +kernel
theorem dX10_inRange_11 : decode cX10_inRange 11 = .ok (.goto 4, 3) := by decide +kernel
theorem dX10_inRange_14 : decode cX10_inRange 14 = .ok (.iconst 0, 1) := by decide +kernel
theorem dX10_inRange_15 : decode cX10_inRange 15 = .ok (.ireturn, 1) := by decide +kernel
set_option maxHeartbeats 4000000 in
set_option maxRecDepth 100000 in
theorem mX10_inRange (l : Launch) (G : gG) (p1 : Int32) (p2 : Int32) (p3 : Int32) : PI l yX10_inRange cX10_inRange 3 (some .boolean) rmX10_inRange [.int p1, .int p2, .int p3] G (fun _ => True) (fX10_inRange p1 p2 p3) := by
  refine gofP (own := RX10) (by decide) rfl (Nat.le_of_ble_eq_true rfl) (fun p e s m args below meth c ls Q X _ hl E => ?_)
  have hx := X.1
  have hb := X.2.1
  have hown := X.2.2.2.1
  have hts := X.2.2.2.2.1
  have hS : va_S (gA G) s.heap s.heap [] := va_S.rf
  have hl : lv_has ls 3 [(0, .int p1), (1, .int p2), (2, .int p3)] := hl
  refine lv_iload_n hx hb dX10_inRange_0 rfl (lv_at hl 0 rfl) ?_
  refine lv_iload_n hx hb dX10_inRange_1 rfl (lv_at hl 1 rfl) ?_
  refine lv_icmp_lt (tgt := 14) hx hb dX10_inRange_2 (by decide) (fun c1 => ?_) (fun c1 => ?_)
  · refine lv_iconst (v := 0) hx hb dX10_inRange_14 (by decide) ?_
    exact E _ _ _ dX10_inRange_15 rfl (Eq.symm ((if_pos c1).trans rfl))
  · refine lv_iload_n hx hb dX10_inRange_5 rfl (lv_at hl 0 rfl) ?_
    refine lv_iload_n hx hb dX10_inRange_6 rfl (lv_at hl 2 rfl) ?_
    refine lv_icmp_gt (tgt := 14) hx hb dX10_inRange_7 (by decide) (fun c2 => ?_) (fun c2 => ?_)
    · refine lv_iconst (v := 0) hx hb dX10_inRange_14 (by decide) ?_
      exact E _ _ _ dX10_inRange_15 rfl (Eq.symm ((if_neg c1).trans ((if_pos c2).trans rfl)))
    · refine lv_iconst (v := 1) hx hb dX10_inRange_10 (by decide) ?_
      refine lv_goto (tgt := 15) hx hb dX10_inRange_11 (by decide) ?_
      exact E _ _ _ dX10_inRange_15 rfl (Eq.symm ((if_neg c1).trans ((if_neg c2).trans rfl)))
theorem k_X10_inRange {p : Program} {l : Launch} {e : Env} {R : Room} {s : State} {m : MethodId} {args : Array Value} {below : List Frame} {meth : Method} {c : Code} {H : Heap} {locs : List Loc} {cells slots : Nat} {Q : State → Prop} {cc : ByteArray} {pc nL : Nat} {ls : Array Slot} {rest : List Value} {G : gG} {own : String} (X : CX G p s m args c cc nL own) (hS : va_S (gA G) s.heap H locs) {p1 : Int32} {p2 : Int32} {p3 : Int32} {idx : Nat} (hml : Cond.methodLink own idx yX10_inRange ∈ TT) (hls : ls.size = nL) (hsum : (rest.map fun v => v.category).sum ≤ 8) (hR : rmX10_inRange.frames + 1 ≤ R.frames ∧ 8 + (3 + 11) + rmX10_inRange.locals ≤ R.locals) (hcs : cells ≤ R.cells ∧ slots ≤ R.slots) (hdg : decode cc pc = .ok (.invokestatic idx, 3)) (kk : W p l e R s m args below meth c H locs cells slots Q (F0 m (pc + 3) ls (.int (fX10_inRange p1 p2 p3) :: rest))) : W p l e R s m args below meth c H locs cells slots Q (F0 m pc ls (.int p3 :: .int p2 :: .int p1 :: rest)) := c_qi (runS (k := 3) X.1 X.2.1 X.2.2.1 X.2.2.2.1 X.2.2.2.2.1 (mX10_inRange l G p1 p2 p3) (pT_bl (fun _ _ _ _ h => h)) hml t_st_X10_inRange t_ini_VernierDrawers t_code_X10_inRange ⟨by decide, by decide, by decide +kernel⟩ rfl rfl hR hcs (fun U hU hW => ⟨preT X hS U hU hW, trivial⟩) rfl hls rfl hsum hdg) (fun _ h => h ▸ kk)
theorem kn_X10_inRange {p : Program} {l : Launch} {e : Env} {R : Room} {s : State} {m : MethodId} {args : Array Value} {below : List Frame} {meth : Method} {c : Code} {H : Heap} {locs : List Loc} {cells slots : Nat} {Q : State → Prop} {cc : ByteArray} {pc nL : Nat} {ls : Array Slot} {rest : List Value} {G : gG} {own : String} (X : CX G p s m args c cc nL own) (hS : va_S (gA G) s.heap H locs) {p1 : Int32} {p2 : Int32} {p3 : Int32} {idx : Nat} (hml : Cond.methodLinkNest own idx yX10_inRange "VernierDrawers" ∈ lw_tbl) (hls : ls.size = nL) (hsum : (rest.map fun v => v.category).sum ≤ 8) (hR : rmX10_inRange.frames + 1 ≤ R.frames ∧ 8 + (3 + 11) + rmX10_inRange.locals ≤ R.locals) (hcs : cells ≤ R.cells ∧ slots ≤ R.slots) (hdg : decode cc pc = .ok (.invokestatic idx, 3)) (kk : W p l e R s m args below meth c H locs cells slots Q (F0 m (pc + 3) ls (.int (fX10_inRange p1 p2 p3) :: rest))) : W p l e R s m args below meth c H locs cells slots Q (F0 m pc ls (.int p3 :: .int p2 :: .int p1 :: rest)) := c_qi (runN (k := 3) X.1 X.2.1 X.2.2.1 X.2.2.2.1 X.2.2.2.2.1 (mX10_inRange l G p1 p2 p3) (pT_bl (fun _ _ _ _ h => h)) (X.2.2.2.2.2.1.2.2.1 _ hml rfl) t_st_X10_inRange t_ini_VernierDrawers t_code_X10_inRange ⟨by decide, by decide, by decide +kernel⟩ rfl rfl hR hcs (fun U hU hW => ⟨preT X hS U hU hW, trivial⟩) rfl hls rfl hsum hdg) (fun _ h => h ▸ kk)
theorem b01_X10_inRange {p1 : Int32} {p2 : Int32} {p3 : Int32} : fX10_inRange p1 p2 p3 = 0 ∨ fX10_inRange p1 p2 p3 = 1 := by
  unfold fX10_inRange
  (try dsimp only); (repeat' split) <;> simp
def fX10_isMaterial (p1 : Int32) : Int32 := fX10_inRange p1 0 (3 - 1)
abbrev rmX10_isMaterial : Room := { frames := 1, cells := 0, slots := 0, locals := 22 }
theorem dX10_isMaterial_0 : decode cX10_isMaterial 0 = .ok (.iload_n 0, 1) := by decide +kernel
theorem dX10_isMaterial_1 : decode cX10_isMaterial 1 = .ok (.iconst 0, 1) := by decide +kernel
theorem dX10_isMaterial_2 : decode cX10_isMaterial 2 = .ok (.getstatic 489, 3) := by decide +kernel
theorem dX10_isMaterial_5 : decode cX10_isMaterial 5 = .ok (.arraylength, 1) := by decide +kernel
theorem dX10_isMaterial_6 : decode cX10_isMaterial 6 = .ok (.iconst 1, 1) := by decide +kernel
theorem dX10_isMaterial_7 : decode cX10_isMaterial 7 = .ok (.isub, 1) := by decide +kernel
theorem dX10_isMaterial_8 : decode cX10_isMaterial 8 = .ok (.invokestatic 49, 3) := by decide +kernel
theorem dX10_isMaterial_11 : decode cX10_isMaterial 11 = .ok (.ireturn, 1) := by decide +kernel
set_option maxHeartbeats 4000000 in
set_option maxRecDepth 100000 in
theorem mX10_isMaterial (l : Launch) (G : gG) (p1 : Int32) : PI l yX10_isMaterial cX10_isMaterial 1 (some .boolean) rmX10_isMaterial [.int p1] G (fun _ => True) (fX10_isMaterial p1) := by
  refine gofP (own := RX10) (by decide) rfl (Nat.le_of_ble_eq_true rfl) (fun p e s m args below meth c ls Q X _ hl E => ?_)
  have hx := X.1
  have hb := X.2.1
  have hown := X.2.2.2.1
  have hts := X.2.2.2.2.1
  have hS : va_S (gA G) s.heap s.heap [] := va_S.rf
  have hl : lv_has ls 1 [(0, .int p1)] := hl
  refine lv_iload_n hx hb dX10_isMaterial_0 rfl (lv_at hl 0 rfl) ?_
  refine lv_iconst (v := 0) hx hb dX10_isMaterial_1 (by decide) ?_
  refine gs_VernierDrawers_489 X hS dX10_isMaterial_2 ?_
  refine IA.lenV hx hb (ia_s3 X hS) (y := 3) rfl dX10_isMaterial_5 ?_
  refine lv_iconst (v := 1) hx hb dX10_isMaterial_6 (by decide) ?_
  refine lv_isub hx hb dX10_isMaterial_7 ?_
  refine k_X10_inRange X hS  t_ml_VernierDrawers_49 hl.1 (Nat.le_of_ble_eq_true rfl) ⟨Nat.le_of_ble_eq_true rfl, Nat.le_of_ble_eq_true rfl⟩ ⟨Nat.zero_le _, Nat.zero_le _⟩ dX10_isMaterial_8 ?_
  exact E _ _ _ dX10_isMaterial_11 (bn01 b01_X10_inRange).1 (Eq.symm rfl)
theorem k_X10_isMaterial {p : Program} {l : Launch} {e : Env} {R : Room} {s : State} {m : MethodId} {args : Array Value} {below : List Frame} {meth : Method} {c : Code} {H : Heap} {locs : List Loc} {cells slots : Nat} {Q : State → Prop} {cc : ByteArray} {pc nL : Nat} {ls : Array Slot} {rest : List Value} {G : gG} {own : String} (X : CX G p s m args c cc nL own) (hS : va_S (gA G) s.heap H locs) {p1 : Int32} {idx : Nat} (hml : Cond.methodLink own idx yX10_isMaterial ∈ TT) (hls : ls.size = nL) (hsum : (rest.map fun v => v.category).sum ≤ 8) (hR : rmX10_isMaterial.frames + 1 ≤ R.frames ∧ 8 + (1 + 11) + rmX10_isMaterial.locals ≤ R.locals) (hcs : cells ≤ R.cells ∧ slots ≤ R.slots) (hdg : decode cc pc = .ok (.invokestatic idx, 3)) (kk : W p l e R s m args below meth c H locs cells slots Q (F0 m (pc + 3) ls (.int (fX10_isMaterial p1) :: rest))) : W p l e R s m args below meth c H locs cells slots Q (F0 m pc ls (.int p1 :: rest)) := c_qi (runS (k := 1) X.1 X.2.1 X.2.2.1 X.2.2.2.1 X.2.2.2.2.1 (mX10_isMaterial l G p1) (pT_bl (fun _ _ _ _ h => h)) hml t_st_X10_isMaterial t_ini_VernierDrawers t_code_X10_isMaterial ⟨by decide, by decide, by decide +kernel⟩ rfl rfl hR hcs (fun U hU hW => ⟨preT X hS U hU hW, trivial⟩) rfl hls rfl hsum hdg) (fun _ h => h ▸ kk)
theorem kn_X10_isMaterial {p : Program} {l : Launch} {e : Env} {R : Room} {s : State} {m : MethodId} {args : Array Value} {below : List Frame} {meth : Method} {c : Code} {H : Heap} {locs : List Loc} {cells slots : Nat} {Q : State → Prop} {cc : ByteArray} {pc nL : Nat} {ls : Array Slot} {rest : List Value} {G : gG} {own : String} (X : CX G p s m args c cc nL own) (hS : va_S (gA G) s.heap H locs) {p1 : Int32} {idx : Nat} (hml : Cond.methodLinkNest own idx yX10_isMaterial "VernierDrawers" ∈ lw_tbl) (hls : ls.size = nL) (hsum : (rest.map fun v => v.category).sum ≤ 8) (hR : rmX10_isMaterial.frames + 1 ≤ R.frames ∧ 8 + (1 + 11) + rmX10_isMaterial.locals ≤ R.locals) (hcs : cells ≤ R.cells ∧ slots ≤ R.slots) (hdg : decode cc pc = .ok (.invokestatic idx, 3)) (kk : W p l e R s m args below meth c H locs cells slots Q (F0 m (pc + 3) ls (.int (fX10_isMaterial p1) :: rest))) : W p l e R s m args below meth c H locs cells slots Q (F0 m pc ls (.int p1 :: rest)) := c_qi (runN (k := 1) X.1 X.2.1 X.2.2.1 X.2.2.2.1 X.2.2.2.2.1 (mX10_isMaterial l G p1) (pT_bl (fun _ _ _ _ h => h)) (X.2.2.2.2.2.1.2.2.1 _ hml rfl) t_st_X10_isMaterial t_ini_VernierDrawers t_code_X10_isMaterial ⟨by decide, by decide, by decide +kernel⟩ rfl rfl hR hcs (fun U hU hW => ⟨preT X hS U hU hW, trivial⟩) rfl hls rfl hsum hdg) (fun _ h => h ▸ kk)
theorem b01_X10_isMaterial {p1 : Int32} : fX10_isMaterial p1 = 0 ∨ fX10_isMaterial p1 = 1 := by
  unfold fX10_isMaterial
  exact b01_X10_inRange
def fX10_entry (n1 : Nat) (f1 : Nat → Int32) (p1 : Int32) : Int32 := if (p1 : Int32) < 0 then 0 else (if ((Int32.ofNat n1) : Int32) ≤ p1 then 0 else (f1 (p1 : Int32).toNatClampNeg))
abbrev rmX10_entry : Room := { frames := 0, cells := 0, slots := 0, locals := 0 }
theorem dX10_entry_0 : decode cX10_entry 0 = .ok (.iload_n 1, 1) := by decide +kernel
theorem dX10_entry_1 : decode cX10_entry 1 = .ok (.ifCond .lt 15, 3) := by decide +kernel
theorem dX10_entry_4 : decode cX10_entry 4 = .ok (.iload_n 1, 1) := by decide +kernel
theorem dX10_entry_5 : decode cX10_entry 5 = .ok (.aload_n 0, 1) := by decide +kernel
theorem dX10_entry_6 : decode cX10_entry 6 = .ok (.arraylength, 1) := by decide +kernel
theorem dX10_entry_7 : decode cX10_entry 7 = .ok (.if_icmp .ge 9, 3) := by decide +kernel
theorem dX10_entry_10 : decode cX10_entry 10 = .ok (.aload_n 0, 1) := by decide +kernel
theorem dX10_entry_11 : decode cX10_entry 11 = .ok (.iload_n 1, 1) := by decide +kernel
theorem dX10_entry_12 : decode cX10_entry 12 = .ok (.iaload, 1) := by decide +kernel
theorem dX10_entry_13 : decode cX10_entry 13 = .ok (.goto 4, 3) := by decide +kernel
theorem dX10_entry_16 : decode cX10_entry 16 = .ok (.iconst 0, 1) := by decide +kernel
theorem dX10_entry_17 : decode cX10_entry 17 = .ok (.ireturn, 1) := by decide +kernel
set_option maxHeartbeats 4000000 in
set_option maxRecDepth 100000 in
theorem mX10_entry (l : Launch) (G : gG) (a1 n1 : Nat) (f1 : Nat → Int32) (p1 : Int32) : PI l yX10_entry cX10_entry 2 (some .int) rmX10_entry [.ref a1, .int p1] G (fun U => IA a1 n1 f1 U U.heap) (fX10_entry n1 f1 p1) := by
  refine gofP (own := RX10) (by decide) rfl (Nat.le_of_ble_eq_true rfl) (fun p e s m args below meth c ls Q X hia hl E => ?_)
  have hx := X.1
  have hb := X.2.1
  have hown := X.2.2.2.1
  have hts := X.2.2.2.2.1
  have hS : va_S (gA G) s.heap s.heap [] := va_S.rf
  have hl : lv_has ls 2 [(0, .ref a1), (1, .int p1)] := hl
  refine lv_iload_n hx hb dX10_entry_0 rfl (lv_at hl 1 rfl) ?_
  refine lv_if_lt (tgt := 16) hx hb dX10_entry_1 (by decide) (fun c1 => ?_) (fun c1 => ?_)
  · refine lv_iconst (v := 0) hx hb dX10_entry_16 (by decide) ?_
    exact E _ _ _ dX10_entry_17 rfl (Eq.symm ((if_pos c1).trans rfl))
  · refine lv_iload_n hx hb dX10_entry_4 rfl (lv_at hl 1 rfl) ?_
    refine lv_aload_n hx hb dX10_entry_5 rfl (lv_at hl 0 rfl) ?_
    refine IA.len hx hb hia dX10_entry_6 ?_
    refine lv_icmp_ge (tgt := 16) hx hb dX10_entry_7 (by decide) (fun c2 => ?_) (fun c2 => ?_)
    · refine lv_iconst (v := 0) hx hb dX10_entry_16 (by decide) ?_
      exact E _ _ _ dX10_entry_17 rfl (Eq.symm ((if_neg c1).trans ((if_pos c2).trans rfl)))
    · refine lv_aload_n hx hb dX10_entry_10 rfl (lv_at hl 0 rfl) ?_
      refine lv_iload_n hx hb dX10_entry_11 rfl (lv_at hl 1 rfl) ?_
      refine IA.ald hx hb hia c1 (Int32.not_le.mp c2) dX10_entry_12 ?_
      refine lv_goto (tgt := 17) hx hb dX10_entry_13 (by decide) ?_
      exact E _ _ _ dX10_entry_17 rfl (Eq.symm ((if_neg c1).trans ((if_neg c2).trans rfl)))
theorem k_X10_entry {p : Program} {l : Launch} {e : Env} {R : Room} {s : State} {m : MethodId} {args : Array Value} {below : List Frame} {meth : Method} {c : Code} {H : Heap} {locs : List Loc} {cells slots : Nat} {Q : State → Prop} {cc : ByteArray} {pc nL : Nat} {ls : Array Slot} {rest : List Value} {G : gG} {own : String} (X : CX G p s m args c cc nL own) (hS : va_S (gA G) s.heap H locs) {a1 n1 : Nat} {f1 : Nat → Int32} (hia : IA a1 n1 f1 s H) {p1 : Int32} {idx : Nat} (hml : Cond.methodLink own idx yX10_entry ∈ TT) (hls : ls.size = nL) (hsum : (rest.map fun v => v.category).sum ≤ 8) (hR : rmX10_entry.frames + 1 ≤ R.frames ∧ 8 + (2 + 11) + rmX10_entry.locals ≤ R.locals) (hcs : cells ≤ R.cells ∧ slots ≤ R.slots) (hdg : decode cc pc = .ok (.invokestatic idx, 3)) (kk : W p l e R s m args below meth c H locs cells slots Q (F0 m (pc + 3) ls (.int (fX10_entry n1 f1 p1) :: rest))) : W p l e R s m args below meth c H locs cells slots Q (F0 m pc ls (.int p1 :: .ref a1 :: rest)) := c_qi (runS (k := 2) X.1 X.2.1 X.2.2.1 X.2.2.2.1 X.2.2.2.2.1 (mX10_entry l G a1 n1 f1 p1) (pT_bl (fun U g mk a h => IA.moved (U := U.calling g mk a) (Vm.Alike.refl U.vm) h)) hml t_st_X10_entry t_ini_VernierDrawers t_code_X10_entry ⟨by decide, by decide, by decide +kernel⟩ rfl rfl hR hcs (fun U hU hW => ⟨preT X hS U hU hW, by show IA _ _ _ U U.heap; rw [hU]; exact IA.moved hW.alike hia⟩) rfl hls rfl hsum hdg) (fun _ h => h ▸ kk)
theorem kn_X10_entry {p : Program} {l : Launch} {e : Env} {R : Room} {s : State} {m : MethodId} {args : Array Value} {below : List Frame} {meth : Method} {c : Code} {H : Heap} {locs : List Loc} {cells slots : Nat} {Q : State → Prop} {cc : ByteArray} {pc nL : Nat} {ls : Array Slot} {rest : List Value} {G : gG} {own : String} (X : CX G p s m args c cc nL own) (hS : va_S (gA G) s.heap H locs) {a1 n1 : Nat} {f1 : Nat → Int32} (hia : IA a1 n1 f1 s H) {p1 : Int32} {idx : Nat} (hml : Cond.methodLinkNest own idx yX10_entry "VernierDrawers" ∈ lw_tbl) (hls : ls.size = nL) (hsum : (rest.map fun v => v.category).sum ≤ 8) (hR : rmX10_entry.frames + 1 ≤ R.frames ∧ 8 + (2 + 11) + rmX10_entry.locals ≤ R.locals) (hcs : cells ≤ R.cells ∧ slots ≤ R.slots) (hdg : decode cc pc = .ok (.invokestatic idx, 3)) (kk : W p l e R s m args below meth c H locs cells slots Q (F0 m (pc + 3) ls (.int (fX10_entry n1 f1 p1) :: rest))) : W p l e R s m args below meth c H locs cells slots Q (F0 m pc ls (.int p1 :: .ref a1 :: rest)) := c_qi (runN (k := 2) X.1 X.2.1 X.2.2.1 X.2.2.2.1 X.2.2.2.2.1 (mX10_entry l G a1 n1 f1 p1) (pT_bl (fun U g mk a h => IA.moved (U := U.calling g mk a) (Vm.Alike.refl U.vm) h)) (X.2.2.2.2.2.1.2.2.1 _ hml rfl) t_st_X10_entry t_ini_VernierDrawers t_code_X10_entry ⟨by decide, by decide, by decide +kernel⟩ rfl rfl hR hcs (fun U hU hW => ⟨preT X hS U hU hW, by show IA _ _ _ U U.heap; rw [hU]; exact IA.moved hW.alike hia⟩) rfl hls rfl hsum hdg) (fun _ h => h ▸ kk)
def fX8_dueOn (r : Nat) (p1 : Int32) (v : vSt) : Int32 := if (30 : Int32) ≤ (v r 7) then 1 else (if ((p1 - (v r 8)) : Int32) < 10 then 0 else 1)
abbrev rmX8_dueOn : Room := { frames := 0, cells := 0, slots := 0, locals := 0 }
theorem dX8_dueOn_0 : decode cX8_dueOn 0 = .ok (.aload_n 0, 1) := by decide +kernel
theorem dX8_dueOn_1 : decode cX8_dueOn 1 = .ok (.getfield 44, 3) := by decide +kernel
theorem dX8_dueOn_4 : decode cX8_dueOn 4 = .ok (.bipush 30, 2) := by decide +kernel
theorem dX8_dueOn_6 : decode cX8_dueOn 6 = .ok (.if_icmp .ge 14, 3) := by decide +kernel
theorem dX8_dueOn_9 : decode cX8_dueOn 9 = .ok (.iload_n 1, 1) := by decide +kernel
theorem dX8_dueOn_10 : decode cX8_dueOn 10 = .ok (.aload_n 0, 1) := by decide +kernel
theorem dX8_dueOn_11 : decode cX8_dueOn 11 = .ok (.getfield 47, 3) := by decide +kernel
theorem dX8_dueOn_14 : decode cX8_dueOn 14 = .ok (.isub, 1) := by decide +kernel
theorem dX8_dueOn_15 : decode cX8_dueOn 15 = .ok (.bipush 10, 2) := by decide +kernel
theorem dX8_dueOn_17 : decode cX8_dueOn 17 = .ok (.if_icmp .lt 7, 3) := by decide +kernel
theorem dX8_dueOn_20 : decode cX8_dueOn 20 = .ok (.iconst 1, 1) := by decide +kernel
theorem dX8_dueOn_21 : decode cX8_dueOn 21 = .ok (.goto 4, 3) := by decide +kernel
theorem dX8_dueOn_24 : decode cX8_dueOn 24 = .ok (.iconst 0, 1) := by decide +kernel
theorem dX8_dueOn_25 : decode cX8_dueOn 25 = .ok (.ireturn, 1) := by decide +kernel
set_option maxHeartbeats 4000000 in
set_option maxRecDepth 100000 in
theorem mX8_dueOn (l : Launch) (G : gG) (da : Nat → Nat) (v : vSt) (x : gX) (r : Nat) (hk_r : kd r = 8) (p1 : Int32) : QI l yX8_dueOn cX8_dueOn 2 (some .boolean) rmX8_dueOn [.ref (ga G r), .int p1] (pW G da v x) (fX8_dueOn r p1 v) := by
  refine gofQ (own := RX8) (by decide) rfl (Nat.le_of_ble_eq_true rfl) (fun p e s m args below meth c ls Q X hH hl E => ?_)
  have hx := X.1
  have hb := X.2.1
  have hown := X.2.2.2.1
  have hts := X.2.2.2.2.1
  have hS : va_S (gA G) s.heap s.heap [] := va_S.rf
  have hl : lv_has ls 2 [(0, .ref (ga G r)), (1, .int p1)] := hl
  refine lv_aload_n hx hb dX8_dueOn_0 rfl (lv_at hl 0 rfl) ?_
  refine g_Tool_44 X hH hk_r dX8_dueOn_1 ?_
  refine lv_bipush (v := 30) hx hb dX8_dueOn_4 (by decide) ?_
  refine lv_icmp_ge (tgt := 20) hx hb dX8_dueOn_6 (by decide) (fun c1 => ?_) (fun c1 => ?_)
  · refine lv_iconst (v := 1) hx hb dX8_dueOn_20 (by decide) ?_
    refine lv_goto (tgt := 25) hx hb dX8_dueOn_21 (by decide) ?_
    exact E _ _ _ dX8_dueOn_25 rfl (Eq.symm ((if_pos c1).trans rfl))
  · refine lv_iload_n hx hb dX8_dueOn_9 rfl (lv_at hl 1 rfl) ?_
    refine lv_aload_n hx hb dX8_dueOn_10 rfl (lv_at hl 0 rfl) ?_
    refine g_Tool_47 X hH hk_r dX8_dueOn_11 ?_
    refine lv_isub hx hb dX8_dueOn_14 ?_
    refine lv_bipush (v := 10) hx hb dX8_dueOn_15 (by decide) ?_
    refine lv_icmp_lt (tgt := 24) hx hb dX8_dueOn_17 (by decide) (fun c2 => ?_) (fun c2 => ?_)
    · refine lv_iconst (v := 0) hx hb dX8_dueOn_24 (by decide) ?_
      exact E _ _ _ dX8_dueOn_25 rfl (Eq.symm ((if_neg c1).trans ((if_pos c2).trans rfl)))
    · refine lv_iconst (v := 1) hx hb dX8_dueOn_20 (by decide) ?_
      refine lv_goto (tgt := 25) hx hb dX8_dueOn_21 (by decide) ?_
      exact E _ _ _ dX8_dueOn_25 rfl (Eq.symm ((if_neg c1).trans ((if_neg c2).trans rfl)))
theorem k_X8_dueOn {p : Program} {l : Launch} {e : Env} {R : Room} {s : State} {m : MethodId} {args : Array Value} {below : List Frame} {meth : Method} {c : Code} {H : Heap} {locs : List Loc} {cells slots : Nat} {Q : State → Prop} {cc : ByteArray} {pc nL : Nat} {ls : Array Slot} {rest : List Value} {G : gG} {own : String} {da : Nat → Nat} {v : vSt} {x : gX} (X : CX G p s m args c cc nL own) (hS : va_S (gA G) s.heap H locs) (hH : Hp G da v x H) {r : Nat} (hk_r : kd r = 8) {p1 : Int32} {idx : Nat} (hml : Cond.methodLink own idx yX8_dueOn ∈ TT) (hls : ls.size = nL) (hsum : (rest.map fun v => v.category).sum ≤ 8) (hR : rmX8_dueOn.frames + 1 ≤ R.frames ∧ 8 + (2 + 11) + rmX8_dueOn.locals ≤ R.locals) (hcs : cells ≤ R.cells ∧ slots ≤ R.slots) (hdg : decode cc pc = .ok (.invokevirtual idx, 3)) (kk : W p l e R s m args below meth c H locs cells slots Q (F0 m (pc + 3) ls (.int (fX8_dueOn r p1 v) :: rest))) : W p l e R s m args below meth c H locs cells slots Q (F0 m pc ls (.int p1 :: .ref (ga G r) :: rest)) := c_qi (runV (k := 1) X.1 X.2.1 X.2.2.1 X.2.2.2.1 X.2.2.2.2.1 (mX8_dueOn l G da v x r hk_r p1) pW_bl hml t_im_X8_dueOn t_sel_X8_dueOn t_ini_Tool t_code_X8_dueOn ⟨rfl, by decide, by decide, by decide +kernel⟩ rfl rfl hR hcs (recvW X hH (by rw [hk_r]; decide) (by rw [hk_r]; decide) (ce_8 hk_r) rfl) (preW X hS hH) rfl hls rfl hsum hdg) (fun _ h => h ▸ kk)
theorem b01_X8_dueOn {r : Nat} {p1 : Int32} {v : vSt} : fX8_dueOn r p1 v = 0 ∨ fX8_dueOn r p1 v = 1 := by
  unfold fX8_dueOn
  (try dsimp only); (repeat' split) <;> simp
def fX8_canShow (r : Nat) (p1 : Int32) (v : vSt) : Int32 := fX10_inRange p1 0 (fX10_entry 5 tbG (v r 0))
abbrev rmX8_canShow : Room := { frames := 1, cells := 0, slots := 0, locals := 22 }
theorem dX8_canShow_0 : decode cX8_canShow 0 = .ok (.iload_n 1, 1) := by decide +kernel
theorem dX8_canShow_1 : decode cX8_canShow 1 = .ok (.iconst 0, 1) := by decide +kernel
theorem dX8_canShow_2 : decode cX8_canShow 2 = .ok (.getstatic 59, 3) := by decide +kernel
theorem dX8_canShow_5 : decode cX8_canShow 5 = .ok (.aload_n 0, 1) := by decide +kernel
theorem dX8_canShow_6 : decode cX8_canShow 6 = .ok (.getfield 17, 3) := by decide +kernel
theorem dX8_canShow_9 : decode cX8_canShow 9 = .ok (.invokestatic 13, 3) := by decide +kernel
theorem dX8_canShow_12 : decode cX8_canShow 12 = .ok (.invokestatic 62, 3) := by decide +kernel
theorem dX8_canShow_15 : decode cX8_canShow 15 = .ok (.ireturn, 1) := by decide +kernel
set_option maxHeartbeats 4000000 in
set_option maxRecDepth 100000 in
theorem mX8_canShow (l : Launch) (G : gG) (da : Nat → Nat) (v : vSt) (x : gX) (r : Nat) (hk_r : kd r = 8) (p1 : Int32) : QI l yX8_canShow cX8_canShow 2 (some .boolean) rmX8_canShow [.ref (ga G r), .int p1] (pW G da v x) (fX8_canShow r p1 v) := by
  refine gofQ (own := RX8) (by decide) rfl (Nat.le_of_ble_eq_true rfl) (fun p e s m args below meth c ls Q X hH hl E => ?_)
  have hx := X.1
  have hb := X.2.1
  have hown := X.2.2.2.1
  have hts := X.2.2.2.2.1
  have hS : va_S (gA G) s.heap s.heap [] := va_S.rf
  have hl : lv_has ls 2 [(0, .ref (ga G r)), (1, .int p1)] := hl
  refine lv_iload_n hx hb dX8_canShow_0 rfl (lv_at hl 1 rfl) ?_
  refine lv_iconst (v := 0) hx hb dX8_canShow_1 (by decide) ?_
  refine gs_Tool_59 X hS dX8_canShow_2 ?_
  refine lv_aload_n hx hb dX8_canShow_5 rfl (lv_at hl 0 rfl) ?_
  refine g_Tool_17 X hH hk_r dX8_canShow_6 ?_
  refine kn_X10_entry X hS (ia_s2 X hS) t_mn_Tool_13 hl.1 (Nat.le_of_ble_eq_true rfl) ⟨Nat.le_of_ble_eq_true rfl, Nat.le_of_ble_eq_true rfl⟩ ⟨Nat.zero_le _, Nat.zero_le _⟩ dX8_canShow_9 ?_
  refine kn_X10_inRange X hS  t_mn_Tool_62 hl.1 (Nat.le_of_ble_eq_true rfl) ⟨Nat.le_of_ble_eq_true rfl, Nat.le_of_ble_eq_true rfl⟩ ⟨Nat.zero_le _, Nat.zero_le _⟩ dX8_canShow_12 ?_
  exact E _ _ _ dX8_canShow_15 (bn01 b01_X10_inRange).1 (Eq.symm rfl)
theorem k_X8_canShow {p : Program} {l : Launch} {e : Env} {R : Room} {s : State} {m : MethodId} {args : Array Value} {below : List Frame} {meth : Method} {c : Code} {H : Heap} {locs : List Loc} {cells slots : Nat} {Q : State → Prop} {cc : ByteArray} {pc nL : Nat} {ls : Array Slot} {rest : List Value} {G : gG} {own : String} {da : Nat → Nat} {v : vSt} {x : gX} (X : CX G p s m args c cc nL own) (hS : va_S (gA G) s.heap H locs) (hH : Hp G da v x H) {r : Nat} (hk_r : kd r = 8) {p1 : Int32} {idx : Nat} (hml : Cond.methodLink own idx yX8_canShow ∈ TT) (hls : ls.size = nL) (hsum : (rest.map fun v => v.category).sum ≤ 8) (hR : rmX8_canShow.frames + 1 ≤ R.frames ∧ 8 + (2 + 11) + rmX8_canShow.locals ≤ R.locals) (hcs : cells ≤ R.cells ∧ slots ≤ R.slots) (hdg : decode cc pc = .ok (.invokevirtual idx, 3)) (kk : W p l e R s m args below meth c H locs cells slots Q (F0 m (pc + 3) ls (.int (fX8_canShow r p1 v) :: rest))) : W p l e R s m args below meth c H locs cells slots Q (F0 m pc ls (.int p1 :: .ref (ga G r) :: rest)) := c_qi (runV (k := 1) X.1 X.2.1 X.2.2.1 X.2.2.2.1 X.2.2.2.2.1 (mX8_canShow l G da v x r hk_r p1) pW_bl hml t_im_X8_canShow t_sel_X8_canShow t_ini_Tool t_code_X8_canShow ⟨rfl, by decide, by decide, by decide +kernel⟩ rfl rfl hR hcs (recvW X hH (by rw [hk_r]; decide) (by rw [hk_r]; decide) (ce_8 hk_r) rfl) (preW X hS hH) rfl hls rfl hsum hdg) (fun _ h => h ▸ kk)
theorem b01_X8_canShow {r : Nat} {p1 : Int32} {v : vSt} : fX8_canShow r p1 v = 0 ∨ fX8_canShow r p1 v = 1 := by
  unfold fX8_canShow
  exact b01_X10_inRange
def fX8_useOn (r : Nat) (p1 : Int32) (v : vSt) : vSt := let v1 := u2 v r 6 ((v r 6) + 1); let v2 := u2 v1 r 7 ((v1 r 7) + 1); let v3 := u2 v2 r 5 ((v2 r 5) + (fX10_entry 3 tbR p1)); if ((v3 r 5) : Int32) < 20 then v3 else (let v5 := u2 v3 r 5 ((v3 r 5) - 20); let v6 := u2 v5 r 4 (if (v5 r 4) + 1 < 40 then (v5 r 4) + 1 else 40 : Int32); v6)
abbrev rmX8_useOn : Room := { frames := 1, cells := 0, slots := 0, locals := 21 }
theorem dX8_useOn_0 : decode cX8_useOn 0 = .ok (.aload_n 0, 1) := by decide +kernel
theorem dX8_useOn_1 : decode cX8_useOn 1 = .ok (.dup, 1) := by decide +kernel
theorem dX8_useOn_2 : decode cX8_useOn 2 = .ok (.getfield 41, 3) := by decide +kernel
theorem dX8_useOn_5 : decode cX8_useOn 5 = .ok (.iconst 1, 1) := by decide +kernel
theorem dX8_useOn_6 : decode cX8_useOn 6 = .ok (.iadd, 1) := by decide +kernel
theorem dX8_useOn_7 : decode cX8_useOn 7 = .ok (.putfield 41, 3) := by decide +kernel
theorem dX8_useOn_10 : decode cX8_useOn 10 = .ok (.aload_n 0, 1) := by decide +kernel
theorem dX8_useOn_11 : decode cX8_useOn 11 = .ok (.dup, 1) := by decide +kernel
theorem dX8_useOn_12 : decode cX8_useOn 12 = .ok (.getfield 44, 3) := by decide +kernel
theorem dX8_useOn_15 : decode cX8_useOn 15 = .ok (.iconst 1, 1) := by decide +kernel
theorem dX8_useOn_16 : decode cX8_useOn 16 = .ok (.iadd, 1) := by decide +kernel
theorem dX8_useOn_17 : decode cX8_useOn 17 = .ok (.putfield 44, 3) := by decide +kernel
theorem dX8_useOn_20 : decode cX8_useOn 20 = .ok (.aload_n 0, 1) := by decide +kernel
theorem dX8_useOn_21 : decode cX8_useOn 21 = .ok (.dup, 1) := by decide +kernel
theorem dX8_useOn_22 : decode cX8_useOn 22 = .ok (.getfield 38, 3) := by decide +kernel
theorem dX8_useOn_25 : decode cX8_useOn 25 = .ok (.getstatic 50, 3) := by decide +kernel
theorem dX8_useOn_28 : decode cX8_useOn 28 = .ok (.iload_n 1, 1) := by decide +kernel
theorem dX8_useOn_29 : decode cX8_useOn 29 = .ok (.invokestatic 13, 3) := by decide +kernel
theorem dX8_useOn_32 : decode cX8_useOn 32 = .ok (.iadd, 1) := by decide +kernel
theorem dX8_useOn_33 : decode cX8_useOn 33 = .ok (.putfield 38, 3) := by decide +kernel
theorem dX8_useOn_36 : decode cX8_useOn 36 = .ok (.aload_n 0, 1) := by decide +kernel
theorem dX8_useOn_37 : decode cX8_useOn 37 = .ok (.getfield 38, 3) := by decide +kernel
theorem dX8_useOn_40 : decode cX8_useOn 40 = .ok (.bipush 20, 2) := by decide +kernel
theorem dX8_useOn_42 : decode cX8_useOn 42 = .ok (.if_icmp .lt 29, 3) := by decide +kernel
theorem dX8_useOn_45 : decode cX8_useOn 45 = .ok (.aload_n 0, 1) := by decide +kernel
theorem dX8_useOn_46 : decode cX8_useOn 46 = .ok (.dup, 1) := by decide +kernel
theorem dX8_useOn_47 : decode cX8_useOn 47 = .ok (.getfield 38, 3) := by decide +kernel
theorem dX8_useOn_50 : decode cX8_useOn 50 = .ok (.bipush 20, 2) := by decide +kernel
theorem dX8_useOn_52 : decode cX8_useOn 52 = .ok (.isub, 1) := by decide +kernel
theorem dX8_useOn_53 : decode cX8_useOn 53 = .ok (.putfield 38, 3) := by decide +kernel
theorem dX8_useOn_56 : decode cX8_useOn 56 = .ok (.aload_n 0, 1) := by decide +kernel
theorem dX8_useOn_57 : decode cX8_useOn 57 = .ok (.bipush 40, 2) := by decide +kernel
theorem dX8_useOn_59 : decode cX8_useOn 59 = .ok (.aload_n 0, 1) := by decide +kernel
theorem dX8_useOn_60 : decode cX8_useOn 60 = .ok (.getfield 35, 3) := by decide +kernel
theorem dX8_useOn_63 : decode cX8_useOn 63 = .ok (.iconst 1, 1) := by decide +kernel
theorem dX8_useOn_64 : decode cX8_useOn 64 = .ok (.iadd, 1) := by decide +kernel
theorem dX8_useOn_65 : decode cX8_useOn 65 = .ok (.invokestatic 53, 3) := by decide +kernel
theorem dX8_useOn_68 : decode cX8_useOn 68 = .ok (.putfield 35, 3) := by decide +kernel
theorem dX8_useOn_71 : decode cX8_useOn 71 = .ok (.return_, 1) := by decide +kernel
set_option maxHeartbeats 4000000 in
set_option maxRecDepth 100000 in
theorem mX8_useOn (l : Launch) (G : gG) (da : Nat → Nat) (v : vSt) (x : gX) (r : Nat) (hk_r : kd r = 8) (p1 : Int32) : MV l yX8_useOn cX8_useOn 2 none rmX8_useOn [.ref (ga G r), .int p1] G da v x 0 0 (fX8_useOn r p1 v) x := by
  refine gofMV (own := RX8) (by decide) rfl (Nat.le_of_ble_eq_true rfl) (fun p e s m args below meth c ls Q X hH hl E => ?_)
  have hx := X.1
  have hb := X.2.1
  have hown := X.2.2.2.1
  have hts := X.2.2.2.2.1
  have hS : va_S (gA G) s.heap s.heap [] := va_S.rf
  have hl : lv_has ls 2 [(0, .ref (ga G r)), (1, .int p1)] := hl
  refine lv_aload_n hx hb dX8_useOn_0 rfl (lv_at hl 0 rfl) ?_
  refine lv_dup hx hb dX8_useOn_1 rfl ?_
  refine g_Tool_41 X hH hk_r dX8_useOn_2 ?_
  refine lv_iconst (v := 1) hx hb dX8_useOn_5 (by decide) ?_
  refine lv_iadd hx hb dX8_useOn_6 ?_
  refine p_Tool_41 X hH hS hk_r dX8_useOn_7 (fun H locs v1 ev1 hH hS => ?_)
  refine lv_aload_n hx hb dX8_useOn_10 rfl (lv_at hl 0 rfl) ?_
  refine lv_dup hx hb dX8_useOn_11 rfl ?_
  refine g_Tool_44 X hH hk_r dX8_useOn_12 ?_
  refine lv_iconst (v := 1) hx hb dX8_useOn_15 (by decide) ?_
  refine lv_iadd hx hb dX8_useOn_16 ?_
  refine p_Tool_44 X hH hS hk_r dX8_useOn_17 (fun H locs v2 ev2 hH hS => ?_)
  refine lv_aload_n hx hb dX8_useOn_20 rfl (lv_at hl 0 rfl) ?_
  refine lv_dup hx hb dX8_useOn_21 rfl ?_
  refine g_Tool_38 X hH hk_r dX8_useOn_22 ?_
  refine gs_Tool_50 X hS dX8_useOn_25 ?_
  refine lv_iload_n hx hb dX8_useOn_28 rfl (lv_at hl 1 rfl) ?_
  refine kn_X10_entry X hS (ia_s4 X hS) t_mn_Tool_13 hl.1 (Nat.le_of_ble_eq_true rfl) ⟨Nat.le_of_ble_eq_true rfl, Nat.le_of_ble_eq_true rfl⟩ ⟨Nat.zero_le _, Nat.zero_le _⟩ dX8_useOn_29 ?_
  refine lv_iadd hx hb dX8_useOn_32 ?_
  refine p_Tool_38 X hH hS hk_r dX8_useOn_33 (fun H locs v3 ev3 hH hS => ?_)
  refine lv_aload_n hx hb dX8_useOn_36 rfl (lv_at hl 0 rfl) ?_
  refine g_Tool_38 X hH hk_r dX8_useOn_37 ?_
  refine lv_bipush (v := 20) hx hb dX8_useOn_40 (by decide) ?_
  refine lv_icmp_lt (tgt := 71) hx hb dX8_useOn_42 (by decide) (fun c4 => ?_) (fun c4 => ?_)
  · subst ev1 ev2 ev3
    exact E _ _ _ _ _ _ _ _ dX8_useOn_71 (Eq.symm ((if_pos c4).trans rfl)) hH hS (Nat.zero_le _) (Nat.zero_le _)
  · refine lv_aload_n hx hb dX8_useOn_45 rfl (lv_at hl 0 rfl) ?_
    refine lv_dup hx hb dX8_useOn_46 rfl ?_
    refine g_Tool_38 X hH hk_r dX8_useOn_47 ?_
    refine lv_bipush (v := 20) hx hb dX8_useOn_50 (by decide) ?_
    refine lv_isub hx hb dX8_useOn_52 ?_
    refine p_Tool_38 X hH hS hk_r dX8_useOn_53 (fun H locs v5 ev5 hH hS => ?_)
    refine lv_aload_n hx hb dX8_useOn_56 rfl (lv_at hl 0 rfl) ?_
    refine lv_bipush (v := 40) hx hb dX8_useOn_57 (by decide) ?_
    refine lv_aload_n hx hb dX8_useOn_59 rfl (lv_at hl 0 rfl) ?_
    refine g_Tool_35 X hH hk_r dX8_useOn_60 ?_
    refine lv_iconst (v := 1) hx hb dX8_useOn_63 (by decide) ?_
    refine lv_iadd hx hb dX8_useOn_64 ?_
    refine k_mmin X t_ml_Tool_53 hl.1 ⟨Nat.le_of_ble_eq_true rfl, Nat.le_of_ble_eq_true rfl⟩ ⟨Nat.zero_le _, Nat.zero_le _⟩ dX8_useOn_65 ?_
    refine p_Tool_35 X hH hS hk_r dX8_useOn_68 (fun H locs v6 ev6 hH hS => ?_)
    subst ev1 ev2 ev3 ev5 ev6
    exact E _ _ _ _ _ _ _ _ dX8_useOn_71 (Eq.symm ((if_neg c4).trans rfl)) hH hS (Nat.zero_le _) (Nat.zero_le _)
theorem k_X8_useOn {p : Program} {l : Launch} {e : Env} {R : Room} {s : State} {m : MethodId} {args : Array Value} {below : List Frame} {meth : Method} {c : Code} {H : Heap} {locs : List Loc} {cells slots : Nat} {Q : State → Prop} {cc : ByteArray} {pc nL : Nat} {ls : Array Slot} {rest : List Value} {G : gG} {own : String} {da : Nat → Nat} {v : vSt} {x : gX} (X : CX G p s m args c cc nL own) (hS : va_S (gA G) s.heap H locs) (hH : Hp G da v x H) {r : Nat} (hk_r : kd r = 8) {p1 : Int32} {idx : Nat} (hml : Cond.methodLink own idx yX8_useOn ∈ TT) (hls : ls.size = nL) (hsum : (rest.map fun v => v.category).sum ≤ 8) (hR : rmX8_useOn.frames + 1 ≤ R.frames ∧ 8 + (2 + 11) + rmX8_useOn.locals ≤ R.locals) (hcs : cells ≤ R.cells ∧ slots ≤ R.slots) (hdg : decode cc pc = .ok (.invokevirtual idx, 3)) (kk : ∀ (d : Nat → Nat) (H1 : Heap) (locs1 : List Loc) (v1 : vSt), v1 = fX8_useOn r p1 v → Hp G d v1 x H1 → va_S (gA G) s.heap H1 locs1 → W p l e R s m args below meth c H1 locs1 cells slots Q (F0 m (pc + 3) ls rest)) : W p l e R s m args below meth c H locs cells slots Q (F0 m pc ls (.int p1 :: .ref (ga G r) :: rest)) := c_mv X.2.2.2.2.2.2 (runV (k := 1) X.1 X.2.1 X.2.2.1 X.2.2.2.1 X.2.2.2.2.1 (mX8_useOn l G da v x r hk_r p1) pW_bl hml t_im_X8_useOn t_sel_X8_useOn t_ini_Tool t_code_X8_useOn ⟨rfl, by decide, by decide, by decide +kernel⟩ rfl rfl hR hcs (recvW X hH (by rw [hk_r]; decide) (by rw [hk_r]; decide) (ce_8 hk_r) rfl) (preW X hS hH) rfl hls rfl hsum hdg) hS kk
def fX8_copyFrom (r : Nat) (o1 : Nat) (v : vSt) : vSt := let v1 := u2 v r 0 (v o1 0); let v2 := u2 v1 r 1 (v1 o1 1); let v3 := u2 v2 r 2 (v2 o1 2); let v4 := u2 v3 r 3 (v3 o1 3); let v5 := u2 v4 r 4 (v4 o1 4); let v6 := u2 v5 r 5 (v5 o1 5); let v7 := u2 v6 r 6 (v6 o1 6); let v8 := u2 v7 r 7 (v7 o1 7); let v9 := u2 v8 r 8 (v8 o1 8); v9
abbrev rmX8_copyFrom : Room := { frames := 0, cells := 0, slots := 0, locals := 0 }
theorem dX8_copyFrom_0 : decode cX8_copyFrom 0 = .ok (.aload_n 0, 1) := by decide +kernel
theorem dX8_copyFrom_1 : decode cX8_copyFrom 1 = .ok (.aload_n 1, 1) := by decide +kernel
theorem dX8_copyFrom_2 : decode cX8_copyFrom 2 = .ok (.getfield 17, 3) := by decide +kernel
theorem dX8_copyFrom_5 : decode cX8_copyFrom 5 = .ok (.putfield 17, 3) := by decide +kernel
theorem dX8_copyFrom_8 : decode cX8_copyFrom 8 = .ok (.aload_n 0, 1) := by decide +kernel
theorem dX8_copyFrom_9 : decode cX8_copyFrom 9 = .ok (.aload_n 1, 1) := by decide +kernel
theorem dX8_copyFrom_10 : decode cX8_copyFrom 10 = .ok (.getfield 26, 3) := by decide +kernel
theorem dX8_copyFrom_13 : decode cX8_copyFrom 13 = .ok (.putfield 26, 3) := by decide +kernel
theorem dX8_copyFrom_16 : decode cX8_copyFrom 16 = .ok (.aload_n 0, 1) := by decide +kernel
theorem dX8_copyFrom_17 : decode cX8_copyFrom 17 = .ok (.aload_n 1, 1) := by decide +kernel
theorem dX8_copyFrom_18 : decode cX8_copyFrom 18 = .ok (.getfield 29, 3) := by decide +kernel
theorem dX8_copyFrom_21 : decode cX8_copyFrom 21 = .ok (.putfield 29, 3) := by decide +kernel
theorem dX8_copyFrom_24 : decode cX8_copyFrom 24 = .ok (.aload_n 0, 1) := by decide +kernel
theorem dX8_copyFrom_25 : decode cX8_copyFrom 25 = .ok (.aload_n 1, 1) := by decide +kernel
theorem dX8_copyFrom_26 : decode cX8_copyFrom 26 = .ok (.getfield 32, 3) := by decide +kernel
theorem dX8_copyFrom_29 : decode cX8_copyFrom 29 = .ok (.putfield 32, 3) := by decide +kernel
theorem dX8_copyFrom_32 : decode cX8_copyFrom 32 = .ok (.aload_n 0, 1) := by decide +kernel
theorem dX8_copyFrom_33 : decode cX8_copyFrom 33 = .ok (.aload_n 1, 1) := by decide +kernel
theorem dX8_copyFrom_34 : decode cX8_copyFrom 34 = .ok (.getfield 35, 3) := by decide +kernel
theorem dX8_copyFrom_37 : decode cX8_copyFrom 37 = .ok (.putfield 35, 3) := by decide +kernel
theorem dX8_copyFrom_40 : decode cX8_copyFrom 40 = .ok (.aload_n 0, 1) := by decide +kernel
theorem dX8_copyFrom_41 : decode cX8_copyFrom 41 = .ok (.aload_n 1, 1) := by decide +kernel
theorem dX8_copyFrom_42 : decode cX8_copyFrom 42 = .ok (.getfield 38, 3) := by decide +kernel
theorem dX8_copyFrom_45 : decode cX8_copyFrom 45 = .ok (.putfield 38, 3) := by decide +kernel
theorem dX8_copyFrom_48 : decode cX8_copyFrom 48 = .ok (.aload_n 0, 1) := by decide +kernel
theorem dX8_copyFrom_49 : decode cX8_copyFrom 49 = .ok (.aload_n 1, 1) := by decide +kernel
theorem dX8_copyFrom_50 : decode cX8_copyFrom 50 = .ok (.getfield 41, 3) := by decide +kernel
theorem dX8_copyFrom_53 : decode cX8_copyFrom 53 = .ok (.putfield 41, 3) := by decide +kernel
theorem dX8_copyFrom_56 : decode cX8_copyFrom 56 = .ok (.aload_n 0, 1) := by decide +kernel
theorem dX8_copyFrom_57 : decode cX8_copyFrom 57 = .ok (.aload_n 1, 1) := by decide +kernel
theorem dX8_copyFrom_58 : decode cX8_copyFrom 58 = .ok (.getfield 44, 3) := by decide +kernel
theorem dX8_copyFrom_61 : decode cX8_copyFrom 61 = .ok (.putfield 44, 3) := by decide +kernel
theorem dX8_copyFrom_64 : decode cX8_copyFrom 64 = .ok (.aload_n 0, 1) := by decide +kernel
theorem dX8_copyFrom_65 : decode cX8_copyFrom 65 = .ok (.aload_n 1, 1) := by decide +kernel
theorem dX8_copyFrom_66 : decode cX8_copyFrom 66 = .ok (.getfield 47, 3) := by decide +kernel
theorem dX8_copyFrom_69 : decode cX8_copyFrom 69 = .ok (.putfield 47, 3) := by decide +kernel
theorem dX8_copyFrom_72 : decode cX8_copyFrom 72 = .ok (.return_, 1) := by decide +kernel
set_option maxHeartbeats 4000000 in
set_option maxRecDepth 100000 in
theorem mX8_copyFrom (l : Launch) (G : gG) (da : Nat → Nat) (v : vSt) (x : gX) (r : Nat) (hk_r : kd r = 8) (o1 : Nat) (hk_o1 : kd o1 = 8) : MV l yX8_copyFrom cX8_copyFrom 2 none rmX8_copyFrom [.ref (ga G r), .ref (ga G o1)] G da v x 0 0 (fX8_copyFrom r o1 v) x := by
  refine gofMV (own := RX8) (by decide) rfl (Nat.le_of_ble_eq_true rfl) (fun p e s m args below meth c ls Q X hH hl E => ?_)
  have hx := X.1
  have hb := X.2.1
  have hown := X.2.2.2.1
  have hts := X.2.2.2.2.1
  have hS : va_S (gA G) s.heap s.heap [] := va_S.rf
  have hl : lv_has ls 2 [(0, .ref (ga G r)), (1, .ref (ga G o1))] := hl
  refine lv_aload_n hx hb dX8_copyFrom_0 rfl (lv_at hl 0 rfl) ?_
  refine lv_aload_n hx hb dX8_copyFrom_1 rfl (lv_at hl 1 rfl) ?_
  refine g_Tool_17 X hH hk_o1 dX8_copyFrom_2 ?_
  refine p_Tool_17 X hH hS hk_r dX8_copyFrom_5 (fun H locs v1 ev1 hH hS => ?_)
  refine lv_aload_n hx hb dX8_copyFrom_8 rfl (lv_at hl 0 rfl) ?_
  refine lv_aload_n hx hb dX8_copyFrom_9 rfl (lv_at hl 1 rfl) ?_
  refine g_Tool_26 X hH hk_o1 dX8_copyFrom_10 ?_
  refine p_Tool_26 X hH hS hk_r dX8_copyFrom_13 (fun H locs v2 ev2 hH hS => ?_)
  refine lv_aload_n hx hb dX8_copyFrom_16 rfl (lv_at hl 0 rfl) ?_
  refine lv_aload_n hx hb dX8_copyFrom_17 rfl (lv_at hl 1 rfl) ?_
  refine g_Tool_29 X hH hk_o1 dX8_copyFrom_18 ?_
  refine p_Tool_29 X hH hS hk_r dX8_copyFrom_21 (fun H locs v3 ev3 hH hS => ?_)
  refine lv_aload_n hx hb dX8_copyFrom_24 rfl (lv_at hl 0 rfl) ?_
  refine lv_aload_n hx hb dX8_copyFrom_25 rfl (lv_at hl 1 rfl) ?_
  refine g_Tool_32 X hH hk_o1 dX8_copyFrom_26 ?_
  refine p_Tool_32 X hH hS hk_r dX8_copyFrom_29 (fun H locs v4 ev4 hH hS => ?_)
  refine lv_aload_n hx hb dX8_copyFrom_32 rfl (lv_at hl 0 rfl) ?_
  refine lv_aload_n hx hb dX8_copyFrom_33 rfl (lv_at hl 1 rfl) ?_
  refine g_Tool_35 X hH hk_o1 dX8_copyFrom_34 ?_
  refine p_Tool_35 X hH hS hk_r dX8_copyFrom_37 (fun H locs v5 ev5 hH hS => ?_)
  refine lv_aload_n hx hb dX8_copyFrom_40 rfl (lv_at hl 0 rfl) ?_
  refine lv_aload_n hx hb dX8_copyFrom_41 rfl (lv_at hl 1 rfl) ?_
  refine g_Tool_38 X hH hk_o1 dX8_copyFrom_42 ?_
  refine p_Tool_38 X hH hS hk_r dX8_copyFrom_45 (fun H locs v6 ev6 hH hS => ?_)
  refine lv_aload_n hx hb dX8_copyFrom_48 rfl (lv_at hl 0 rfl) ?_
  refine lv_aload_n hx hb dX8_copyFrom_49 rfl (lv_at hl 1 rfl) ?_
  refine g_Tool_41 X hH hk_o1 dX8_copyFrom_50 ?_
  refine p_Tool_41 X hH hS hk_r dX8_copyFrom_53 (fun H locs v7 ev7 hH hS => ?_)
  refine lv_aload_n hx hb dX8_copyFrom_56 rfl (lv_at hl 0 rfl) ?_
  refine lv_aload_n hx hb dX8_copyFrom_57 rfl (lv_at hl 1 rfl) ?_
  refine g_Tool_44 X hH hk_o1 dX8_copyFrom_58 ?_
  refine p_Tool_44 X hH hS hk_r dX8_copyFrom_61 (fun H locs v8 ev8 hH hS => ?_)
  refine lv_aload_n hx hb dX8_copyFrom_64 rfl (lv_at hl 0 rfl) ?_
  refine lv_aload_n hx hb dX8_copyFrom_65 rfl (lv_at hl 1 rfl) ?_
  refine g_Tool_47 X hH hk_o1 dX8_copyFrom_66 ?_
  refine p_Tool_47 X hH hS hk_r dX8_copyFrom_69 (fun H locs v9 ev9 hH hS => ?_)
  subst ev1 ev2 ev3 ev4 ev5 ev6 ev7 ev8 ev9
  exact E _ _ _ _ _ _ _ _ dX8_copyFrom_72 (Eq.symm rfl) hH hS (Nat.zero_le _) (Nat.zero_le _)
theorem k_X8_copyFrom {p : Program} {l : Launch} {e : Env} {R : Room} {s : State} {m : MethodId} {args : Array Value} {below : List Frame} {meth : Method} {c : Code} {H : Heap} {locs : List Loc} {cells slots : Nat} {Q : State → Prop} {cc : ByteArray} {pc nL : Nat} {ls : Array Slot} {rest : List Value} {G : gG} {own : String} {da : Nat → Nat} {v : vSt} {x : gX} (X : CX G p s m args c cc nL own) (hS : va_S (gA G) s.heap H locs) (hH : Hp G da v x H) {r : Nat} (hk_r : kd r = 8) {o1 : Nat} (hk_o1 : kd o1 = 8) {idx : Nat} (hml : Cond.methodLink own idx yX8_copyFrom ∈ TT) (hls : ls.size = nL) (hsum : (rest.map fun v => v.category).sum ≤ 8) (hR : rmX8_copyFrom.frames + 1 ≤ R.frames ∧ 8 + (2 + 11) + rmX8_copyFrom.locals ≤ R.locals) (hcs : cells ≤ R.cells ∧ slots ≤ R.slots) (hdg : decode cc pc = .ok (.invokevirtual idx, 3)) (kk : ∀ (d : Nat → Nat) (H1 : Heap) (locs1 : List Loc) (v1 : vSt), v1 = fX8_copyFrom r o1 v → Hp G d v1 x H1 → va_S (gA G) s.heap H1 locs1 → W p l e R s m args below meth c H1 locs1 cells slots Q (F0 m (pc + 3) ls rest)) : W p l e R s m args below meth c H locs cells slots Q (F0 m pc ls (.ref (ga G o1) :: .ref (ga G r) :: rest)) := c_mv X.2.2.2.2.2.2 (runV (k := 1) X.1 X.2.1 X.2.2.1 X.2.2.2.1 X.2.2.2.2.1 (mX8_copyFrom l G da v x r hk_r o1 hk_o1) pW_bl hml t_im_X8_copyFrom t_sel_X8_copyFrom t_ini_Tool t_code_X8_copyFrom ⟨rfl, by decide, by decide, by decide +kernel⟩ rfl rfl hR hcs (recvW X hH (by rw [hk_r]; decide) (by rw [hk_r]; decide) (ce_8 hk_r) rfl) (preW X hS hH) rfl hls rfl hsum hdg) hS kk
def fX8_begin (r : Nat) (p1 : Int32) (p2 : Int32) (p3 : Int32) (v : vSt) : vSt := let v1 := u2 v r 0 p1; let y2 : Int32 := if ((fX10_entry 5 tbL p1) : Int32) = 0 then 1 else ((fX10_entry 5 tbM p1) / (fX10_entry 5 tbL p1)); let v4 := u2 v1 r 1 y2; let v5 := u2 v4 r 2 p2; let v6 := u2 v5 r 3 0; let v7 := u2 v6 r 4 0; let v8 := u2 v7 r 5 0; let v9 := u2 v8 r 6 0; let v10 := u2 v9 r 7 0; let v11 := u2 v10 r 8 p3; v11
abbrev rmX8_begin : Room := { frames := 1, cells := 0, slots := 0, locals := 21 }
theorem dX8_begin_0 : decode cX8_begin 0 = .ok (.getstatic 9, 3) := by decide +kernel
theorem dX8_begin_3 : decode cX8_begin 3 = .ok (.iload_n 1, 1) := by decide +kernel
theorem dX8_begin_4 : decode cX8_begin 4 = .ok (.invokestatic 13, 3) := by decide +kernel
theorem dX8_begin_7 : decode cX8_begin 7 = .ok (.istore 4, 2) := by decide +kernel
theorem dX8_begin_9 : decode cX8_begin 9 = .ok (.aload_n 0, 1) := by decide +kernel
theorem dX8_begin_10 : decode cX8_begin 10 = .ok (.iload_n 1, 1) := by decide +kernel
theorem dX8_begin_11 : decode cX8_begin 11 = .ok (.putfield 17, 3) := by decide +kernel
theorem dX8_begin_14 : decode cX8_begin 14 = .ok (.aload_n 0, 1) := by decide +kernel
theorem dX8_begin_15 : decode cX8_begin 15 = .ok (.iload 4, 2) := by decide +kernel
theorem dX8_begin_17 : decode cX8_begin 17 = .ok (.ifCond .ne 7, 3) := by decide +kernel
theorem dX8_begin_20 : decode cX8_begin 20 = .ok (.iconst 1, 1) := by decide +kernel
theorem dX8_begin_21 : decode cX8_begin 21 = .ok (.goto 13, 3) := by decide +kernel
theorem dX8_begin_24 : decode cX8_begin 24 = .ok (.getstatic 23, 3) := by decide +kernel
theorem dX8_begin_27 : decode cX8_begin 27 = .ok (.iload_n 1, 1) := by decide +kernel
theorem dX8_begin_28 : decode cX8_begin 28 = .ok (.invokestatic 13, 3) := by decide +kernel
theorem dX8_begin_31 : decode cX8_begin 31 = .ok (.iload 4, 2) := by decide +kernel
theorem dX8_begin_33 : decode cX8_begin 33 = .ok (.idiv, 1) := by decide +kernel
theorem dX8_begin_34 : decode cX8_begin 34 = .ok (.putfield 26, 3) := by decide +kernel
theorem dX8_begin_37 : decode cX8_begin 37 = .ok (.aload_n 0, 1) := by decide +kernel
theorem dX8_begin_38 : decode cX8_begin 38 = .ok (.iload_n 2, 1) := by decide +kernel
theorem dX8_begin_39 : decode cX8_begin 39 = .ok (.putfield 29, 3) := by decide +kernel
theorem dX8_begin_42 : decode cX8_begin 42 = .ok (.aload_n 0, 1) := by decide +kernel
theorem dX8_begin_43 : decode cX8_begin 43 = .ok (.iconst 0, 1) := by decide +kernel
theorem dX8_begin_44 : decode cX8_begin 44 = .ok (.putfield 32, 3) := by decide +kernel
theorem dX8_begin_47 : decode cX8_begin 47 = .ok (.aload_n 0, 1) := by decide +kernel
theorem dX8_begin_48 : decode cX8_begin 48 = .ok (.iconst 0, 1) := by decide +kernel
theorem dX8_begin_49 : decode cX8_begin 49 = .ok (.putfield 35, 3) := by decide +kernel
theorem dX8_begin_52 : decode cX8_begin 52 = .ok (.aload_n 0, 1) := by decide +kernel
theorem dX8_begin_53 : decode cX8_begin 53 = .ok (.iconst 0, 1) := by decide +kernel
theorem dX8_begin_54 : decode cX8_begin 54 = .ok (.putfield 38, 3) := by decide +kernel
theorem dX8_begin_57 : decode cX8_begin 57 = .ok (.aload_n 0, 1) := by decide +kernel
theorem dX8_begin_58 : decode cX8_begin 58 = .ok (.iconst 0, 1) := by decide +kernel
theorem dX8_begin_59 : decode cX8_begin 59 = .ok (.putfield 41, 3) := by decide +kernel
theorem dX8_begin_62 : decode cX8_begin 62 = .ok (.aload_n 0, 1) := by decide +kernel
theorem dX8_begin_63 : decode cX8_begin 63 = .ok (.iconst 0, 1) := by decide +kernel
theorem dX8_begin_64 : decode cX8_begin 64 = .ok (.putfield 44, 3) := by decide +kernel
theorem dX8_begin_67 : decode cX8_begin 67 = .ok (.aload_n 0, 1) := by decide +kernel
theorem dX8_begin_68 : decode cX8_begin 68 = .ok (.iload_n 3, 1) := by decide +kernel
theorem dX8_begin_69 : decode cX8_begin 69 = .ok (.putfield 47, 3) := by decide +kernel
theorem dX8_begin_72 : decode cX8_begin 72 = .ok (.return_, 1) := by decide +kernel
set_option maxHeartbeats 4000000 in
set_option maxRecDepth 100000 in
theorem mX8_begin (l : Launch) (G : gG) (da : Nat → Nat) (v : vSt) (x : gX) (r : Nat) (hk_r : kd r = 8) (p1 : Int32) (p2 : Int32) (p3 : Int32) : MV l yX8_begin cX8_begin 5 none rmX8_begin [.ref (ga G r), .int p1, .int p2, .int p3] G da v x 0 0 (fX8_begin r p1 p2 p3 v) x := by
  refine gofMV (own := RX8) (by decide) rfl (Nat.le_of_ble_eq_true rfl) (fun p e s m args below meth c ls Q X hH hl E => ?_)
  have hx := X.1
  have hb := X.2.1
  have hown := X.2.2.2.1
  have hts := X.2.2.2.2.1
  have hS : va_S (gA G) s.heap s.heap [] := va_S.rf
  have hl : lv_has ls 5 [(0, .ref (ga G r)), (1, .int p1), (2, .int p2), (3, .int p3)] := hl
  refine gs_Tool_9 X hS dX8_begin_0 ?_
  refine lv_iload_n hx hb dX8_begin_3 rfl (lv_at hl 1 rfl) ?_
  refine kn_X10_entry X hS (ia_s0 X hS) t_mn_Tool_13 hl.1 (Nat.le_of_ble_eq_true rfl) ⟨Nat.le_of_ble_eq_true rfl, Nat.le_of_ble_eq_true rfl⟩ ⟨Nat.zero_le _, Nat.zero_le _⟩ dX8_begin_4 ?_
  refine lv_istore (lv' := [(4, .int (fX10_entry 5 tbL p1)), (0, .ref (ga G r)), (1, .int p1), (2, .int p2), (3, .int p3)]) hx hb dX8_begin_7 hl (by decide) rfl (fun ls hl => ?_)
  refine lv_aload_n hx hb dX8_begin_9 rfl (lv_at hl 1 rfl) ?_
  refine lv_iload_n hx hb dX8_begin_10 rfl (lv_at hl 2 rfl) ?_
  refine p_Tool_17 X hH hS hk_r dX8_begin_11 (fun H locs v1 ev1 hH hS => ?_)
  refine lv_aload_n hx hb dX8_begin_14 rfl (lv_at hl 1 rfl) ?_
  refine lv_iload hx hb dX8_begin_15 (lv_at hl 0 rfl) ?_
  have K3 : ∀ (y2 : Int32) (ls : Array Slot), y2 = (if ((fX10_entry 5 tbL p1) : Int32) = 0 then 1 else ((fX10_entry 5 tbM p1) / (fX10_entry 5 tbL p1)) : Int32) → lv_has ls 5 [(0, .ref (ga G r)), (2, .int p2), (3, .int p3)] → W p l e rmX8_begin s m args below meth c H locs 0 0 Q (F0 m 34 ls [.int y2, .ref (ga G r)]) := by
    intro y2 ls ey2 hl
    refine p_Tool_26 X hH hS hk_r dX8_begin_34 (fun H locs v4 ev4 hH hS => ?_)
    refine lv_aload_n hx hb dX8_begin_37 rfl (lv_at hl 0 rfl) ?_
    refine lv_iload_n hx hb dX8_begin_38 rfl (lv_at hl 1 rfl) ?_
    refine p_Tool_29 X hH hS hk_r dX8_begin_39 (fun H locs v5 ev5 hH hS => ?_)
    refine lv_aload_n hx hb dX8_begin_42 rfl (lv_at hl 0 rfl) ?_
    refine lv_iconst (v := 0) hx hb dX8_begin_43 (by decide) ?_
    refine p_Tool_32 X hH hS hk_r dX8_begin_44 (fun H locs v6 ev6 hH hS => ?_)
    refine lv_aload_n hx hb dX8_begin_47 rfl (lv_at hl 0 rfl) ?_
    refine lv_iconst (v := 0) hx hb dX8_begin_48 (by decide) ?_
    refine p_Tool_35 X hH hS hk_r dX8_begin_49 (fun H locs v7 ev7 hH hS => ?_)
    refine lv_aload_n hx hb dX8_begin_52 rfl (lv_at hl 0 rfl) ?_
    refine lv_iconst (v := 0) hx hb dX8_begin_53 (by decide) ?_
    refine p_Tool_38 X hH hS hk_r dX8_begin_54 (fun H locs v8 ev8 hH hS => ?_)
    refine lv_aload_n hx hb dX8_begin_57 rfl (lv_at hl 0 rfl) ?_
    refine lv_iconst (v := 0) hx hb dX8_begin_58 (by decide) ?_
    refine p_Tool_41 X hH hS hk_r dX8_begin_59 (fun H locs v9 ev9 hH hS => ?_)
    refine lv_aload_n hx hb dX8_begin_62 rfl (lv_at hl 0 rfl) ?_
    refine lv_iconst (v := 0) hx hb dX8_begin_63 (by decide) ?_
    refine p_Tool_44 X hH hS hk_r dX8_begin_64 (fun H locs v10 ev10 hH hS => ?_)
    refine lv_aload_n hx hb dX8_begin_67 rfl (lv_at hl 0 rfl) ?_
    refine lv_iload_n hx hb dX8_begin_68 rfl (lv_at hl 2 rfl) ?_
    refine p_Tool_47 X hH hS hk_r dX8_begin_69 (fun H locs v11 ev11 hH hS => ?_)
    subst ev1 ey2 ev4 ev5 ev6 ev7 ev8 ev9 ev10 ev11
    exact E _ _ _ _ _ _ _ _ dX8_begin_72 (Eq.symm rfl) hH hS (Nat.zero_le _) (Nat.zero_le _)
  refine lv_if_ne (tgt := 24) hx hb dX8_begin_17 (by decide) (fun c3 => ?_) (fun c3 => ?_)
  · refine gs_Tool_23 X hS dX8_begin_24 ?_
    refine lv_iload_n hx hb dX8_begin_27 rfl (lv_at hl 2 rfl) ?_
    refine kn_X10_entry X hS (ia_s1 X hS) t_mn_Tool_13 hl.1 (Nat.le_of_ble_eq_true rfl) ⟨Nat.le_of_ble_eq_true rfl, Nat.le_of_ble_eq_true rfl⟩ ⟨Nat.zero_le _, Nat.zero_le _⟩ dX8_begin_28 ?_
    refine lv_iload hx hb dX8_begin_31 (lv_at hl 0 rfl) ?_
    refine lv_idiv hx hb dX8_begin_33 c3 ?_
    exact K3 _ _ (Eq.symm ((if_neg c3).trans rfl)) (lv_sub hl [1, 3, 4] rfl)
  · refine lv_iconst (v := 1) hx hb dX8_begin_20 (by decide) ?_
    refine lv_goto (tgt := 34) hx hb dX8_begin_21 (by decide) ?_
    exact K3 _ _ (Eq.symm ((if_pos c3).trans rfl)) (lv_sub hl [1, 3, 4] rfl)
theorem k_X8_begin {p : Program} {l : Launch} {e : Env} {R : Room} {s : State} {m : MethodId} {args : Array Value} {below : List Frame} {meth : Method} {c : Code} {H : Heap} {locs : List Loc} {cells slots : Nat} {Q : State → Prop} {cc : ByteArray} {pc nL : Nat} {ls : Array Slot} {rest : List Value} {G : gG} {own : String} {da : Nat → Nat} {v : vSt} {x : gX} (X : CX G p s m args c cc nL own) (hS : va_S (gA G) s.heap H locs) (hH : Hp G da v x H) {r : Nat} (hk_r : kd r = 8) {p1 : Int32} {p2 : Int32} {p3 : Int32} {idx : Nat} (hml : Cond.methodLink own idx yX8_begin ∈ TT) (hls : ls.size = nL) (hsum : (rest.map fun v => v.category).sum ≤ 8) (hR : rmX8_begin.frames + 1 ≤ R.frames ∧ 8 + (5 + 11) + rmX8_begin.locals ≤ R.locals) (hcs : cells ≤ R.cells ∧ slots ≤ R.slots) (hdg : decode cc pc = .ok (.invokevirtual idx, 3)) (kk : ∀ (d : Nat → Nat) (H1 : Heap) (locs1 : List Loc) (v1 : vSt), v1 = fX8_begin r p1 p2 p3 v → Hp G d v1 x H1 → va_S (gA G) s.heap H1 locs1 → W p l e R s m args below meth c H1 locs1 cells slots Q (F0 m (pc + 3) ls rest)) : W p l e R s m args below meth c H locs cells slots Q (F0 m pc ls (.int p3 :: .int p2 :: .int p1 :: .ref (ga G r) :: rest)) := c_mv X.2.2.2.2.2.2 (runV (k := 3) X.1 X.2.1 X.2.2.1 X.2.2.2.1 X.2.2.2.2.1 (mX8_begin l G da v x r hk_r p1 p2 p3) pW_bl hml t_im_X8_begin t_sel_X8_begin t_ini_Tool t_code_X8_begin ⟨rfl, by decide, by decide, by decide +kernel⟩ rfl rfl hR hcs (recvW X hH (by rw [hk_r]; decide) (by rw [hk_r]; decide) (ce_8 hk_r) rfl) (preW X hS hH) rfl hls rfl hsum hdg) hS kk
def fX8_learn (r : Nat) (p1 : Int32) (p2 : Int32) (v : vSt) : vSt := let v1 := u2 v r 3 p1; let v2 := u2 v1 r 7 0; let v3 := u2 v2 r 8 p2; v3
abbrev rmX8_learn : Room := { frames := 0, cells := 0, slots := 0, locals := 0 }
theorem dX8_learn_0 : decode cX8_learn 0 = .ok (.aload_n 0, 1) := by decide +kernel
theorem dX8_learn_1 : decode cX8_learn 1 = .ok (.iload_n 1, 1) := by decide +kernel
theorem dX8_learn_2 : decode cX8_learn 2 = .ok (.putfield 32, 3) := by decide +kernel
theorem dX8_learn_5 : decode cX8_learn 5 = .ok (.aload_n 0, 1) := by decide +kernel
theorem dX8_learn_6 : decode cX8_learn 6 = .ok (.iconst 0, 1) := by decide +kernel
theorem dX8_learn_7 : decode cX8_learn 7 = .ok (.putfield 44, 3) := by decide +kernel
theorem dX8_learn_10 : decode cX8_learn 10 = .ok (.aload_n 0, 1) := by decide +kernel
theorem dX8_learn_11 : decode cX8_learn 11 = .ok (.iload_n 2, 1) := by decide +kernel
theorem dX8_learn_12 : decode cX8_learn 12 = .ok (.putfield 47, 3) := by decide +kernel
theorem dX8_learn_15 : decode cX8_learn 15 = .ok (.return_, 1) := by decide +kernel
set_option maxHeartbeats 4000000 in
set_option maxRecDepth 100000 in
theorem mX8_learn (l : Launch) (G : gG) (da : Nat → Nat) (v : vSt) (x : gX) (r : Nat) (hk_r : kd r = 8) (p1 : Int32) (p2 : Int32) : MV l yX8_learn cX8_learn 3 none rmX8_learn [.ref (ga G r), .int p1, .int p2] G da v x 0 0 (fX8_learn r p1 p2 v) x := by
  refine gofMV (own := RX8) (by decide) rfl (Nat.le_of_ble_eq_true rfl) (fun p e s m args below meth c ls Q X hH hl E => ?_)
  have hx := X.1
  have hb := X.2.1
  have hown := X.2.2.2.1
  have hts := X.2.2.2.2.1
  have hS : va_S (gA G) s.heap s.heap [] := va_S.rf
  have hl : lv_has ls 3 [(0, .ref (ga G r)), (1, .int p1), (2, .int p2)] := hl
  refine lv_aload_n hx hb dX8_learn_0 rfl (lv_at hl 0 rfl) ?_
  refine lv_iload_n hx hb dX8_learn_1 rfl (lv_at hl 1 rfl) ?_
  refine p_Tool_32 X hH hS hk_r dX8_learn_2 (fun H locs v1 ev1 hH hS => ?_)
  refine lv_aload_n hx hb dX8_learn_5 rfl (lv_at hl 0 rfl) ?_
  refine lv_iconst (v := 0) hx hb dX8_learn_6 (by decide) ?_
  refine p_Tool_44 X hH hS hk_r dX8_learn_7 (fun H locs v2 ev2 hH hS => ?_)
  refine lv_aload_n hx hb dX8_learn_10 rfl (lv_at hl 0 rfl) ?_
  refine lv_iload_n hx hb dX8_learn_11 rfl (lv_at hl 2 rfl) ?_
  refine p_Tool_47 X hH hS hk_r dX8_learn_12 (fun H locs v3 ev3 hH hS => ?_)
  subst ev1 ev2 ev3
  exact E _ _ _ _ _ _ _ _ dX8_learn_15 (Eq.symm rfl) hH hS (Nat.zero_le _) (Nat.zero_le _)
theorem k_X8_learn {p : Program} {l : Launch} {e : Env} {R : Room} {s : State} {m : MethodId} {args : Array Value} {below : List Frame} {meth : Method} {c : Code} {H : Heap} {locs : List Loc} {cells slots : Nat} {Q : State → Prop} {cc : ByteArray} {pc nL : Nat} {ls : Array Slot} {rest : List Value} {G : gG} {own : String} {da : Nat → Nat} {v : vSt} {x : gX} (X : CX G p s m args c cc nL own) (hS : va_S (gA G) s.heap H locs) (hH : Hp G da v x H) {r : Nat} (hk_r : kd r = 8) {p1 : Int32} {p2 : Int32} {idx : Nat} (hml : Cond.methodLink own idx yX8_learn ∈ TT) (hls : ls.size = nL) (hsum : (rest.map fun v => v.category).sum ≤ 8) (hR : rmX8_learn.frames + 1 ≤ R.frames ∧ 8 + (3 + 11) + rmX8_learn.locals ≤ R.locals) (hcs : cells ≤ R.cells ∧ slots ≤ R.slots) (hdg : decode cc pc = .ok (.invokevirtual idx, 3)) (kk : ∀ (d : Nat → Nat) (H1 : Heap) (locs1 : List Loc) (v1 : vSt), v1 = fX8_learn r p1 p2 v → Hp G d v1 x H1 → va_S (gA G) s.heap H1 locs1 → W p l e R s m args below meth c H1 locs1 cells slots Q (F0 m (pc + 3) ls rest)) : W p l e R s m args below meth c H locs cells slots Q (F0 m pc ls (.int p2 :: .int p1 :: .ref (ga G r) :: rest)) := c_mv X.2.2.2.2.2.2 (runV (k := 2) X.1 X.2.1 X.2.2.1 X.2.2.2.1 X.2.2.2.2.1 (mX8_learn l G da v x r hk_r p1 p2) pW_bl hml t_im_X8_learn t_sel_X8_learn t_ini_Tool t_code_X8_learn ⟨rfl, by decide, by decide, by decide +kernel⟩ rfl rfl hR hcs (recvW X hH (by rw [hk_r]; decide) (by rw [hk_r]; decide) (ce_8 hk_r) rfl) (preW X hS hH) rfl hls rfl hsum hdg) hS kk
def fX8_nearestMultiple (r : Nat) (p1 : Int32) (v : vSt) : Int32 := if (0 : Int32) < (v r 1) then (((p1 + ((v r 1) / 2)) / (v r 1)) * (v r 1)) else p1
abbrev rmX8_nearestMultiple : Room := { frames := 0, cells := 0, slots := 0, locals := 0 }
theorem dX8_nearestMultiple_0 : decode cX8_nearestMultiple 0 = .ok (.aload_n 0, 1) := by decide +kernel
theorem dX8_nearestMultiple_1 : decode cX8_nearestMultiple 1 = .ok (.getfield 26, 3) := by decide +kernel
theorem dX8_nearestMultiple_4 : decode cX8_nearestMultiple 4 = .ok (.ifCond .gt 7, 3) := by decide +kernel
theorem dX8_nearestMultiple_7 : decode cX8_nearestMultiple 7 = .ok (.iload_n 1, 1) := by decide +kernel
theorem dX8_nearestMultiple_8 : decode cX8_nearestMultiple 8 = .ok (.goto 21, 3) := by decide +kernel
theorem dX8_nearestMultiple_11 : decode cX8_nearestMultiple 11 = .ok (.iload_n 1, 1) := by decide +kernel
theorem dX8_nearestMultiple_12 : decode cX8_nearestMultiple 12 = .ok (.aload_n 0, 1) := by decide +kernel
theorem dX8_nearestMultiple_13 : decode cX8_nearestMultiple 13 = .ok (.getfield 26, 3) := by decide +kernel
theorem dX8_nearestMultiple_16 : decode cX8_nearestMultiple 16 = .ok (.iconst 2, 1) := by decide +kernel
theorem dX8_nearestMultiple_17 : decode cX8_nearestMultiple 17 = .ok (.idiv, 1) := by decide +kernel
theorem dX8_nearestMultiple_18 : decode cX8_nearestMultiple 18 = .ok (.iadd, 1) := by decide +kernel
theorem dX8_nearestMultiple_19 : decode cX8_nearestMultiple 19 = .ok (.aload_n 0, 1) := by decide +kernel
theorem dX8_nearestMultiple_20 : decode cX8_nearestMultiple 20 = .ok (.getfield 26, 3) := by decide +kernel
theorem dX8_nearestMultiple_23 : decode cX8_nearestMultiple 23 = .ok (.idiv, 1) := by decide +kernel
theorem dX8_nearestMultiple_24 : decode cX8_nearestMultiple 24 = .ok (.aload_n 0, 1) := by decide +kernel
theorem dX8_nearestMultiple_25 : decode cX8_nearestMultiple 25 = .ok (.getfield 26, 3) := by decide +kernel
theorem dX8_nearestMultiple_28 : decode cX8_nearestMultiple 28 = .ok (.imul, 1) := by decide +kernel
theorem dX8_nearestMultiple_29 : decode cX8_nearestMultiple 29 = .ok (.ireturn, 1) := by decide +kernel
set_option maxHeartbeats 4000000 in
set_option maxRecDepth 100000 in
theorem mX8_nearestMultiple (l : Launch) (G : gG) (da : Nat → Nat) (v : vSt) (x : gX) (r : Nat) (hk_r : kd r = 8) (p1 : Int32) : QI l yX8_nearestMultiple cX8_nearestMultiple 2 (some .int) rmX8_nearestMultiple [.ref (ga G r), .int p1] (pW G da v x) (fX8_nearestMultiple r p1 v) := by
  refine gofQ (own := RX8) (by decide) rfl (Nat.le_of_ble_eq_true rfl) (fun p e s m args below meth c ls Q X hH hl E => ?_)
  have hx := X.1
  have hb := X.2.1
  have hown := X.2.2.2.1
  have hts := X.2.2.2.2.1
  have hS : va_S (gA G) s.heap s.heap [] := va_S.rf
  have hl : lv_has ls 2 [(0, .ref (ga G r)), (1, .int p1)] := hl
  refine lv_aload_n hx hb dX8_nearestMultiple_0 rfl (lv_at hl 0 rfl) ?_
  refine g_Tool_26 X hH hk_r dX8_nearestMultiple_1 ?_
  refine lv_if_gt (tgt := 11) hx hb dX8_nearestMultiple_4 (by decide) (fun c1 => ?_) (fun c1 => ?_)
  · refine lv_iload_n hx hb dX8_nearestMultiple_11 rfl (lv_at hl 1 rfl) ?_
    refine lv_aload_n hx hb dX8_nearestMultiple_12 rfl (lv_at hl 0 rfl) ?_
    refine g_Tool_26 X hH hk_r dX8_nearestMultiple_13 ?_
    refine lv_iconst (v := 2) hx hb dX8_nearestMultiple_16 (by decide) ?_
    refine lv_idiv hx hb dX8_nearestMultiple_17 (by decide) ?_
    refine lv_iadd hx hb dX8_nearestMultiple_18 ?_
    refine lv_aload_n hx hb dX8_nearestMultiple_19 rfl (lv_at hl 0 rfl) ?_
    refine g_Tool_26 X hH hk_r dX8_nearestMultiple_20 ?_
    refine lv_idiv hx hb dX8_nearestMultiple_23 (i_dp c1) ?_
    refine lv_aload_n hx hb dX8_nearestMultiple_24 rfl (lv_at hl 0 rfl) ?_
    refine g_Tool_26 X hH hk_r dX8_nearestMultiple_25 ?_
    refine lv_imul hx hb dX8_nearestMultiple_28 ?_
    exact E _ _ _ dX8_nearestMultiple_29 rfl (Eq.symm ((if_pos c1).trans rfl))
  · refine lv_iload_n hx hb dX8_nearestMultiple_7 rfl (lv_at hl 1 rfl) ?_
    refine lv_goto (tgt := 29) hx hb dX8_nearestMultiple_8 (by decide) ?_
    exact E _ _ _ dX8_nearestMultiple_29 rfl (Eq.symm ((if_neg c1).trans rfl))
theorem k_X8_nearestMultiple {p : Program} {l : Launch} {e : Env} {R : Room} {s : State} {m : MethodId} {args : Array Value} {below : List Frame} {meth : Method} {c : Code} {H : Heap} {locs : List Loc} {cells slots : Nat} {Q : State → Prop} {cc : ByteArray} {pc nL : Nat} {ls : Array Slot} {rest : List Value} {G : gG} {own : String} {da : Nat → Nat} {v : vSt} {x : gX} (X : CX G p s m args c cc nL own) (hS : va_S (gA G) s.heap H locs) (hH : Hp G da v x H) {r : Nat} (hk_r : kd r = 8) {p1 : Int32} {idx : Nat} (hml : Cond.methodLink own idx yX8_nearestMultiple ∈ TT) (hls : ls.size = nL) (hsum : (rest.map fun v => v.category).sum ≤ 8) (hR : rmX8_nearestMultiple.frames + 1 ≤ R.frames ∧ 8 + (2 + 11) + rmX8_nearestMultiple.locals ≤ R.locals) (hcs : cells ≤ R.cells ∧ slots ≤ R.slots) (hdg : decode cc pc = .ok (.invokevirtual idx, 3)) (kk : W p l e R s m args below meth c H locs cells slots Q (F0 m (pc + 3) ls (.int (fX8_nearestMultiple r p1 v) :: rest))) : W p l e R s m args below meth c H locs cells slots Q (F0 m pc ls (.int p1 :: .ref (ga G r) :: rest)) := c_qi (runV (k := 1) X.1 X.2.1 X.2.2.1 X.2.2.2.1 X.2.2.2.2.1 (mX8_nearestMultiple l G da v x r hk_r p1) pW_bl hml t_im_X8_nearestMultiple t_sel_X8_nearestMultiple t_ini_Tool t_code_X8_nearestMultiple ⟨rfl, by decide, by decide, by decide +kernel⟩ rfl rfl hR hcs (recvW X hH (by rw [hk_r]; decide) (by rw [hk_r]; decide) (ce_8 hk_r) rfl) (preW X hS hH) rfl hls rfl hsum hdg) (fun _ h => h ▸ kk)
def fX8_markAt (r : Nat) (p1 : Int32) (v : vSt) : Int32 := if (0 : Int32) < (fX10_entry 5 tbM (v r 0)) then (p1 / (fX10_entry 5 tbM (v r 0))) else 0
abbrev rmX8_markAt : Room := { frames := 1, cells := 0, slots := 0, locals := 21 }
theorem dX8_markAt_0 : decode cX8_markAt 0 = .ok (.getstatic 23, 3) := by decide +kernel
theorem dX8_markAt_3 : decode cX8_markAt 3 = .ok (.aload_n 0, 1) := by decide +kernel
theorem dX8_markAt_4 : decode cX8_markAt 4 = .ok (.getfield 17, 3) := by decide +kernel
theorem dX8_markAt_7 : decode cX8_markAt 7 = .ok (.invokestatic 13, 3) := by decide +kernel
theorem dX8_markAt_10 : decode cX8_markAt 10 = .ok (.istore_n 2, 1) := by decide +kernel
theorem dX8_markAt_11 : decode cX8_markAt 11 = .ok (.iload_n 2, 1) := by decide +kernel
theorem dX8_markAt_12 : decode cX8_markAt 12 = .ok (.ifCond .gt 7, 3) := by decide +kernel
theorem dX8_markAt_15 : decode cX8_markAt 15 = .ok (.iconst 0, 1) := by decide +kernel
theorem dX8_markAt_16 : decode cX8_markAt 16 = .ok (.goto 6, 3) := by decide +kernel
theorem dX8_markAt_19 : decode cX8_markAt 19 = .ok (.iload_n 1, 1) := by decide +kernel
theorem dX8_markAt_20 : decode cX8_markAt 20 = .ok (.iload_n 2, 1) := by decide +kernel
theorem dX8_markAt_21 : decode cX8_markAt 21 = .ok (.idiv, 1) := by decide +kernel
theorem dX8_markAt_22 : decode cX8_markAt 22 = .ok (.ireturn, 1) := by decide +kernel
set_option maxHeartbeats 4000000 in
set_option maxRecDepth 100000 in
theorem mX8_markAt (l : Launch) (G : gG) (da : Nat → Nat) (v : vSt) (x : gX) (r : Nat) (hk_r : kd r = 8) (p1 : Int32) : QI l yX8_markAt cX8_markAt 3 (some .int) rmX8_markAt [.ref (ga G r), .int p1] (pW G da v x) (fX8_markAt r p1 v) := by
  refine gofQ (own := RX8) (by decide) rfl (Nat.le_of_ble_eq_true rfl) (fun p e s m args below meth c ls Q X hH hl E => ?_)
  have hx := X.1
  have hb := X.2.1
  have hown := X.2.2.2.1
  have hts := X.2.2.2.2.1
  have hS : va_S (gA G) s.heap s.heap [] := va_S.rf
  have hl : lv_has ls 3 [(0, .ref (ga G r)), (1, .int p1)] := hl
  refine gs_Tool_23 X hS dX8_markAt_0 ?_
  refine lv_aload_n hx hb dX8_markAt_3 rfl (lv_at hl 0 rfl) ?_
  refine g_Tool_17 X hH hk_r dX8_markAt_4 ?_
  refine kn_X10_entry X hS (ia_s1 X hS) t_mn_Tool_13 hl.1 (Nat.le_of_ble_eq_true rfl) ⟨Nat.le_of_ble_eq_true rfl, Nat.le_of_ble_eq_true rfl⟩ ⟨Nat.zero_le _, Nat.zero_le _⟩ dX8_markAt_7 ?_
  refine lv_istore_n (lv' := [(2, .int (fX10_entry 5 tbM (v r 0))), (0, .ref (ga G r)), (1, .int p1)]) hx hb dX8_markAt_10 rfl hl (by decide) rfl (fun ls hl => ?_)
  refine lv_iload_n hx hb dX8_markAt_11 rfl (lv_at hl 0 rfl) ?_
  refine lv_if_gt (tgt := 19) hx hb dX8_markAt_12 (by decide) (fun c1 => ?_) (fun c1 => ?_)
  · refine lv_iload_n hx hb dX8_markAt_19 rfl (lv_at hl 2 rfl) ?_
    refine lv_iload_n hx hb dX8_markAt_20 rfl (lv_at hl 0 rfl) ?_
    refine lv_idiv hx hb dX8_markAt_21 (i_dp c1) ?_
    exact E _ _ _ dX8_markAt_22 rfl (Eq.symm ((if_pos c1).trans rfl))
  · refine lv_iconst (v := 0) hx hb dX8_markAt_15 (by decide) ?_
    refine lv_goto (tgt := 22) hx hb dX8_markAt_16 (by decide) ?_
    exact E _ _ _ dX8_markAt_22 rfl (Eq.symm ((if_neg c1).trans rfl))
theorem k_X8_markAt {p : Program} {l : Launch} {e : Env} {R : Room} {s : State} {m : MethodId} {args : Array Value} {below : List Frame} {meth : Method} {c : Code} {H : Heap} {locs : List Loc} {cells slots : Nat} {Q : State → Prop} {cc : ByteArray} {pc nL : Nat} {ls : Array Slot} {rest : List Value} {G : gG} {own : String} {da : Nat → Nat} {v : vSt} {x : gX} (X : CX G p s m args c cc nL own) (hS : va_S (gA G) s.heap H locs) (hH : Hp G da v x H) {r : Nat} (hk_r : kd r = 8) {p1 : Int32} {idx : Nat} (hml : Cond.methodLink own idx yX8_markAt ∈ TT) (hls : ls.size = nL) (hsum : (rest.map fun v => v.category).sum ≤ 8) (hR : rmX8_markAt.frames + 1 ≤ R.frames ∧ 8 + (3 + 11) + rmX8_markAt.locals ≤ R.locals) (hcs : cells ≤ R.cells ∧ slots ≤ R.slots) (hdg : decode cc pc = .ok (.invokevirtual idx, 3)) (kk : W p l e R s m args below meth c H locs cells slots Q (F0 m (pc + 3) ls (.int (fX8_markAt r p1 v) :: rest))) : W p l e R s m args below meth c H locs cells slots Q (F0 m pc ls (.int p1 :: .ref (ga G r) :: rest)) := c_qi (runV (k := 1) X.1 X.2.1 X.2.2.1 X.2.2.2.1 X.2.2.2.2.1 (mX8_markAt l G da v x r hk_r p1) pW_bl hml t_im_X8_markAt t_sel_X8_markAt t_ini_Tool t_code_X8_markAt ⟨rfl, by decide, by decide, by decide +kernel⟩ rfl rfl hR hcs (recvW X hH (by rw [hk_r]; decide) (by rw [hk_r]; decide) (ce_8 hk_r) rfl) (preW X hS hH) rfl hls rfl hsum hdg) (fun _ h => h ▸ kk)
def fX8_lineAt (r : Nat) (p1 : Int32) (v : vSt) : Int32 := if (0 : Int32) < (v r 1) then ((p1 - ((fX8_markAt r p1 v) * (fX10_entry 5 tbM (v r 0)))) / (v r 1)) else 0
abbrev rmX8_lineAt : Room := { frames := 2, cells := 0, slots := 0, locals := 43 }
theorem dX8_lineAt_0 : decode cX8_lineAt 0 = .ok (.iload_n 1, 1) := by decide +kernel
theorem dX8_lineAt_1 : decode cX8_lineAt 1 = .ok (.aload_n 0, 1) := by decide +kernel
theorem dX8_lineAt_2 : decode cX8_lineAt 2 = .ok (.iload_n 1, 1) := by decide +kernel
theorem dX8_lineAt_3 : decode cX8_lineAt 3 = .ok (.invokevirtual 66, 3) := by decide +kernel
theorem dX8_lineAt_6 : decode cX8_lineAt 6 = .ok (.getstatic 23, 3) := by decide +kernel
theorem dX8_lineAt_9 : decode cX8_lineAt 9 = .ok (.aload_n 0, 1) := by decide +kernel
theorem dX8_lineAt_10 : decode cX8_lineAt 10 = .ok (.getfield 17, 3) := by decide +kernel
theorem dX8_lineAt_13 : decode cX8_lineAt 13 = .ok (.invokestatic 13, 3) := by decide +kernel
theorem dX8_lineAt_16 : decode cX8_lineAt 16 = .ok (.imul, 1) := by decide +kernel
theorem dX8_lineAt_17 : decode cX8_lineAt 17 = .ok (.isub, 1) := by decide +kernel
theorem dX8_lineAt_18 : decode cX8_lineAt 18 = .ok (.istore_n 2, 1) := by decide +kernel
theorem dX8_lineAt_19 : decode cX8_lineAt 19 = .ok (.aload_n 0, 1) := by decide +kernel
theorem dX8_lineAt_20 : decode cX8_lineAt 20 = .ok (.getfield 26, 3) := by decide +kernel
theorem dX8_lineAt_23 : decode cX8_lineAt 23 = .ok (.ifCond .gt 7, 3) := by decide +kernel
theorem dX8_lineAt_26 : decode cX8_lineAt 26 = .ok (.iconst 0, 1) := by decide +kernel
theorem dX8_lineAt_27 : decode cX8_lineAt 27 = .ok (.goto 9, 3) := by decide +kernel
theorem dX8_lineAt_30 : decode cX8_lineAt 30 = .ok (.iload_n 2, 1) := by decide +kernel
theorem dX8_lineAt_31 : decode cX8_lineAt 31 = .ok (.aload_n 0, 1) := by decide +kernel
theorem dX8_lineAt_32 : decode cX8_lineAt 32 = .ok (.getfield 26, 3) := by decide +kernel
theorem dX8_lineAt_35 : decode cX8_lineAt 35 = .ok (.idiv, 1) := by decide +kernel
theorem dX8_lineAt_36 : decode cX8_lineAt 36 = .ok (.ireturn, 1) := by decide +kernel
set_option maxHeartbeats 4000000 in
set_option maxRecDepth 100000 in
theorem mX8_lineAt (l : Launch) (G : gG) (da : Nat → Nat) (v : vSt) (x : gX) (r : Nat) (hk_r : kd r = 8) (p1 : Int32) : QI l yX8_lineAt cX8_lineAt 3 (some .int) rmX8_lineAt [.ref (ga G r), .int p1] (pW G da v x) (fX8_lineAt r p1 v) := by
  refine gofQ (own := RX8) (by decide) rfl (Nat.le_of_ble_eq_true rfl) (fun p e s m args below meth c ls Q X hH hl E => ?_)
  have hx := X.1
  have hb := X.2.1
  have hown := X.2.2.2.1
  have hts := X.2.2.2.2.1
  have hS : va_S (gA G) s.heap s.heap [] := va_S.rf
  have hl : lv_has ls 3 [(0, .ref (ga G r)), (1, .int p1)] := hl
  refine lv_iload_n hx hb dX8_lineAt_0 rfl (lv_at hl 1 rfl) ?_
  refine lv_aload_n hx hb dX8_lineAt_1 rfl (lv_at hl 0 rfl) ?_
  refine lv_iload_n hx hb dX8_lineAt_2 rfl (lv_at hl 1 rfl) ?_
  refine k_X8_markAt X hS hH hk_r t_ml_Tool_66 hl.1 (Nat.le_of_ble_eq_true rfl) ⟨Nat.le_of_ble_eq_true rfl, Nat.le_of_ble_eq_true rfl⟩ ⟨Nat.zero_le _, Nat.zero_le _⟩ dX8_lineAt_3 ?_
  refine gs_Tool_23 X hS dX8_lineAt_6 ?_
  refine lv_aload_n hx hb dX8_lineAt_9 rfl (lv_at hl 0 rfl) ?_
  refine g_Tool_17 X hH hk_r dX8_lineAt_10 ?_
  refine kn_X10_entry X hS (ia_s1 X hS) t_mn_Tool_13 hl.1 (Nat.le_of_ble_eq_true rfl) ⟨Nat.le_of_ble_eq_true rfl, Nat.le_of_ble_eq_true rfl⟩ ⟨Nat.zero_le _, Nat.zero_le _⟩ dX8_lineAt_13 ?_
  refine lv_imul hx hb dX8_lineAt_16 ?_
  refine lv_isub hx hb dX8_lineAt_17 ?_
  refine lv_istore_n (lv' := [(2, .int (p1 - ((fX8_markAt r p1 v) * (fX10_entry 5 tbM (v r 0))))), (0, .ref (ga G r)), (1, .int p1)]) hx hb dX8_lineAt_18 rfl hl (by decide) rfl (fun ls hl => ?_)
  refine lv_aload_n hx hb dX8_lineAt_19 rfl (lv_at hl 1 rfl) ?_
  refine g_Tool_26 X hH hk_r dX8_lineAt_20 ?_
  refine lv_if_gt (tgt := 30) hx hb dX8_lineAt_23 (by decide) (fun c1 => ?_) (fun c1 => ?_)
  · refine lv_iload_n hx hb dX8_lineAt_30 rfl (lv_at hl 0 rfl) ?_
    refine lv_aload_n hx hb dX8_lineAt_31 rfl (lv_at hl 1 rfl) ?_
    refine g_Tool_26 X hH hk_r dX8_lineAt_32 ?_
    refine lv_idiv hx hb dX8_lineAt_35 (i_dp c1) ?_
    exact E _ _ _ dX8_lineAt_36 rfl (Eq.symm ((if_pos c1).trans rfl))
  · refine lv_iconst (v := 0) hx hb dX8_lineAt_26 (by decide) ?_
    refine lv_goto (tgt := 36) hx hb dX8_lineAt_27 (by decide) ?_
    exact E _ _ _ dX8_lineAt_36 rfl (Eq.symm ((if_neg c1).trans rfl))
theorem k_X8_lineAt {p : Program} {l : Launch} {e : Env} {R : Room} {s : State} {m : MethodId} {args : Array Value} {below : List Frame} {meth : Method} {c : Code} {H : Heap} {locs : List Loc} {cells slots : Nat} {Q : State → Prop} {cc : ByteArray} {pc nL : Nat} {ls : Array Slot} {rest : List Value} {G : gG} {own : String} {da : Nat → Nat} {v : vSt} {x : gX} (X : CX G p s m args c cc nL own) (hS : va_S (gA G) s.heap H locs) (hH : Hp G da v x H) {r : Nat} (hk_r : kd r = 8) {p1 : Int32} {idx : Nat} (hml : Cond.methodLink own idx yX8_lineAt ∈ TT) (hls : ls.size = nL) (hsum : (rest.map fun v => v.category).sum ≤ 8) (hR : rmX8_lineAt.frames + 1 ≤ R.frames ∧ 8 + (3 + 11) + rmX8_lineAt.locals ≤ R.locals) (hcs : cells ≤ R.cells ∧ slots ≤ R.slots) (hdg : decode cc pc = .ok (.invokevirtual idx, 3)) (kk : W p l e R s m args below meth c H locs cells slots Q (F0 m (pc + 3) ls (.int (fX8_lineAt r p1 v) :: rest))) : W p l e R s m args below meth c H locs cells slots Q (F0 m pc ls (.int p1 :: .ref (ga G r) :: rest)) := c_qi (runV (k := 1) X.1 X.2.1 X.2.2.1 X.2.2.2.1 X.2.2.2.2.1 (mX8_lineAt l G da v x r hk_r p1) pW_bl hml t_im_X8_lineAt t_sel_X8_lineAt t_ini_Tool t_code_X8_lineAt ⟨rfl, by decide, by decide, by decide +kernel⟩ rfl rfl hR hcs (recvW X hH (by rw [hk_r]; decide) (by rw [hk_r]; decide) (ce_8 hk_r) rfl) (preW X hS hH) rfl hls rfl hsum hdg) (fun _ h => h ▸ kk)
def fX1_begin (r : Nat) (p1 : Int32) (p2 : Int32) (v : vSt) : vSt := let v1 := u2 v r 0 p1; let v2 := u2 v1 r 1 p2; let v3 := u2 v2 r 2 0; v3
abbrev rmX1_begin : Room := { frames := 0, cells := 0, slots := 0, locals := 0 }
theorem dX1_begin_0 : decode cX1_begin 0 = .ok (.aload_n 0, 1) := by decide +kernel
theorem dX1_begin_1 : decode cX1_begin 1 = .ok (.iload_n 1, 1) := by decide +kernel
theorem dX1_begin_2 : decode cX1_begin 2 = .ok (.putfield 9, 3) := by decide +kernel
theorem dX1_begin_5 : decode cX1_begin 5 = .ok (.aload_n 0, 1) := by decide +kernel
theorem dX1_begin_6 : decode cX1_begin 6 = .ok (.iload_n 2, 1) := by decide +kernel
theorem dX1_begin_7 : decode cX1_begin 7 = .ok (.putfield 15, 3) := by decide +kernel
theorem dX1_begin_10 : decode cX1_begin 10 = .ok (.aload_n 0, 1) := by decide +kernel
theorem dX1_begin_11 : decode cX1_begin 11 = .ok (.iconst 0, 1) := by decide +kernel
theorem dX1_begin_12 : decode cX1_begin 12 = .ok (.putfield 18, 3) := by decide +kernel
theorem dX1_begin_15 : decode cX1_begin 15 = .ok (.return_, 1) := by decide +kernel
set_option maxHeartbeats 4000000 in
set_option maxRecDepth 100000 in
theorem mX1_begin (l : Launch) (G : gG) (da : Nat → Nat) (v : vSt) (x : gX) (r : Nat) (hk_r : kd r = 1) (p1 : Int32) (p2 : Int32) : MV l yX1_begin cX1_begin 3 none rmX1_begin [.ref (ga G r), .int p1, .int p2] G da v x 0 0 (fX1_begin r p1 p2 v) x := by
  refine gofMV (own := RX1) (by decide) rfl (Nat.le_of_ble_eq_true rfl) (fun p e s m args below meth c ls Q X hH hl E => ?_)
  have hx := X.1
  have hb := X.2.1
  have hown := X.2.2.2.1
  have hts := X.2.2.2.2.1
  have hS : va_S (gA G) s.heap s.heap [] := va_S.rf
  have hl : lv_has ls 3 [(0, .ref (ga G r)), (1, .int p1), (2, .int p2)] := hl
  refine lv_aload_n hx hb dX1_begin_0 rfl (lv_at hl 0 rfl) ?_
  refine lv_iload_n hx hb dX1_begin_1 rfl (lv_at hl 1 rfl) ?_
  refine p_Block_9 X hH hS hk_r dX1_begin_2 (fun H locs v1 ev1 hH hS => ?_)
  refine lv_aload_n hx hb dX1_begin_5 rfl (lv_at hl 0 rfl) ?_
  refine lv_iload_n hx hb dX1_begin_6 rfl (lv_at hl 2 rfl) ?_
  refine p_Block_15 X hH hS hk_r dX1_begin_7 (fun H locs v2 ev2 hH hS => ?_)
  refine lv_aload_n hx hb dX1_begin_10 rfl (lv_at hl 0 rfl) ?_
  refine lv_iconst (v := 0) hx hb dX1_begin_11 (by decide) ?_
  refine p_Block_18 X hH hS hk_r dX1_begin_12 (fun H locs v3 ev3 hH hS => ?_)
  subst ev1 ev2 ev3
  exact E _ _ _ _ _ _ _ _ dX1_begin_15 (Eq.symm rfl) hH hS (Nat.zero_le _) (Nat.zero_le _)
theorem k_X1_begin {p : Program} {l : Launch} {e : Env} {R : Room} {s : State} {m : MethodId} {args : Array Value} {below : List Frame} {meth : Method} {c : Code} {H : Heap} {locs : List Loc} {cells slots : Nat} {Q : State → Prop} {cc : ByteArray} {pc nL : Nat} {ls : Array Slot} {rest : List Value} {G : gG} {own : String} {da : Nat → Nat} {v : vSt} {x : gX} (X : CX G p s m args c cc nL own) (hS : va_S (gA G) s.heap H locs) (hH : Hp G da v x H) {r : Nat} (hk_r : kd r = 1) {p1 : Int32} {p2 : Int32} {idx : Nat} (hml : Cond.methodLink own idx yX1_begin ∈ TT) (hls : ls.size = nL) (hsum : (rest.map fun v => v.category).sum ≤ 8) (hR : rmX1_begin.frames + 1 ≤ R.frames ∧ 8 + (3 + 11) + rmX1_begin.locals ≤ R.locals) (hcs : cells ≤ R.cells ∧ slots ≤ R.slots) (hdg : decode cc pc = .ok (.invokevirtual idx, 3)) (kk : ∀ (d : Nat → Nat) (H1 : Heap) (locs1 : List Loc) (v1 : vSt), v1 = fX1_begin r p1 p2 v → Hp G d v1 x H1 → va_S (gA G) s.heap H1 locs1 → W p l e R s m args below meth c H1 locs1 cells slots Q (F0 m (pc + 3) ls rest)) : W p l e R s m args below meth c H locs cells slots Q (F0 m pc ls (.int p2 :: .int p1 :: .ref (ga G r) :: rest)) := c_mv X.2.2.2.2.2.2 (runV (k := 2) X.1 X.2.1 X.2.2.1 X.2.2.2.1 X.2.2.2.2.1 (mX1_begin l G da v x r hk_r p1 p2) pW_bl hml t_im_X1_begin t_sel_X1_begin t_ini_Block t_code_X1_begin ⟨rfl, by decide, by decide, by decide +kernel⟩ rfl rfl hR hcs (recvW X hH (by rw [hk_r]; decide) (by rw [hk_r]; decide) (ce_1 hk_r) rfl) (preW X hS hH) rfl hls rfl hsum hdg) hS kk
def fX1_copyFrom (r : Nat) (o1 : Nat) (v : vSt) : vSt := let v1 := u2 v r 0 (v o1 0); let v2 := u2 v1 r 1 (v1 o1 1); let v3 := u2 v2 r 2 (v2 o1 2); v3
abbrev rmX1_copyFrom : Room := { frames := 0, cells := 0, slots := 0, locals := 0 }
theorem dX1_copyFrom_0 : decode cX1_copyFrom 0 = .ok (.aload_n 0, 1) := by decide +kernel
theorem dX1_copyFrom_1 : decode cX1_copyFrom 1 = .ok (.aload_n 1, 1) := by decide +kernel
theorem dX1_copyFrom_2 : decode cX1_copyFrom 2 = .ok (.getfield 9, 3) := by decide +kernel
theorem dX1_copyFrom_5 : decode cX1_copyFrom 5 = .ok (.putfield 9, 3) := by decide +kernel
theorem dX1_copyFrom_8 : decode cX1_copyFrom 8 = .ok (.aload_n 0, 1) := by decide +kernel
theorem dX1_copyFrom_9 : decode cX1_copyFrom 9 = .ok (.aload_n 1, 1) := by decide +kernel
theorem dX1_copyFrom_10 : decode cX1_copyFrom 10 = .ok (.getfield 15, 3) := by decide +kernel
theorem dX1_copyFrom_13 : decode cX1_copyFrom 13 = .ok (.putfield 15, 3) := by decide +kernel
theorem dX1_copyFrom_16 : decode cX1_copyFrom 16 = .ok (.aload_n 0, 1) := by decide +kernel
theorem dX1_copyFrom_17 : decode cX1_copyFrom 17 = .ok (.aload_n 1, 1) := by decide +kernel
theorem dX1_copyFrom_18 : decode cX1_copyFrom 18 = .ok (.getfield 18, 3) := by decide +kernel
theorem dX1_copyFrom_21 : decode cX1_copyFrom 21 = .ok (.putfield 18, 3) := by decide +kernel
theorem dX1_copyFrom_24 : decode cX1_copyFrom 24 = .ok (.return_, 1) := by decide +kernel
set_option maxHeartbeats 4000000 in
set_option maxRecDepth 100000 in
theorem mX1_copyFrom (l : Launch) (G : gG) (da : Nat → Nat) (v : vSt) (x : gX) (r : Nat) (hk_r : kd r = 1) (o1 : Nat) (hk_o1 : kd o1 = 1) : MV l yX1_copyFrom cX1_copyFrom 2 none rmX1_copyFrom [.ref (ga G r), .ref (ga G o1)] G da v x 0 0 (fX1_copyFrom r o1 v) x := by
  refine gofMV (own := RX1) (by decide) rfl (Nat.le_of_ble_eq_true rfl) (fun p e s m args below meth c ls Q X hH hl E => ?_)
  have hx := X.1
  have hb := X.2.1
  have hown := X.2.2.2.1
  have hts := X.2.2.2.2.1
  have hS : va_S (gA G) s.heap s.heap [] := va_S.rf
  have hl : lv_has ls 2 [(0, .ref (ga G r)), (1, .ref (ga G o1))] := hl
  refine lv_aload_n hx hb dX1_copyFrom_0 rfl (lv_at hl 0 rfl) ?_
  refine lv_aload_n hx hb dX1_copyFrom_1 rfl (lv_at hl 1 rfl) ?_
  refine g_Block_9 X hH hk_o1 dX1_copyFrom_2 ?_
  refine p_Block_9 X hH hS hk_r dX1_copyFrom_5 (fun H locs v1 ev1 hH hS => ?_)
  refine lv_aload_n hx hb dX1_copyFrom_8 rfl (lv_at hl 0 rfl) ?_
  refine lv_aload_n hx hb dX1_copyFrom_9 rfl (lv_at hl 1 rfl) ?_
  refine g_Block_15 X hH hk_o1 dX1_copyFrom_10 ?_
  refine p_Block_15 X hH hS hk_r dX1_copyFrom_13 (fun H locs v2 ev2 hH hS => ?_)
  refine lv_aload_n hx hb dX1_copyFrom_16 rfl (lv_at hl 0 rfl) ?_
  refine lv_aload_n hx hb dX1_copyFrom_17 rfl (lv_at hl 1 rfl) ?_
  refine g_Block_18 X hH hk_o1 dX1_copyFrom_18 ?_
  refine p_Block_18 X hH hS hk_r dX1_copyFrom_21 (fun H locs v3 ev3 hH hS => ?_)
  subst ev1 ev2 ev3
  exact E _ _ _ _ _ _ _ _ dX1_copyFrom_24 (Eq.symm rfl) hH hS (Nat.zero_le _) (Nat.zero_le _)
theorem k_X1_copyFrom {p : Program} {l : Launch} {e : Env} {R : Room} {s : State} {m : MethodId} {args : Array Value} {below : List Frame} {meth : Method} {c : Code} {H : Heap} {locs : List Loc} {cells slots : Nat} {Q : State → Prop} {cc : ByteArray} {pc nL : Nat} {ls : Array Slot} {rest : List Value} {G : gG} {own : String} {da : Nat → Nat} {v : vSt} {x : gX} (X : CX G p s m args c cc nL own) (hS : va_S (gA G) s.heap H locs) (hH : Hp G da v x H) {r : Nat} (hk_r : kd r = 1) {o1 : Nat} (hk_o1 : kd o1 = 1) {idx : Nat} (hml : Cond.methodLink own idx yX1_copyFrom ∈ TT) (hls : ls.size = nL) (hsum : (rest.map fun v => v.category).sum ≤ 8) (hR : rmX1_copyFrom.frames + 1 ≤ R.frames ∧ 8 + (2 + 11) + rmX1_copyFrom.locals ≤ R.locals) (hcs : cells ≤ R.cells ∧ slots ≤ R.slots) (hdg : decode cc pc = .ok (.invokevirtual idx, 3)) (kk : ∀ (d : Nat → Nat) (H1 : Heap) (locs1 : List Loc) (v1 : vSt), v1 = fX1_copyFrom r o1 v → Hp G d v1 x H1 → va_S (gA G) s.heap H1 locs1 → W p l e R s m args below meth c H1 locs1 cells slots Q (F0 m (pc + 3) ls rest)) : W p l e R s m args below meth c H locs cells slots Q (F0 m pc ls (.ref (ga G o1) :: .ref (ga G r) :: rest)) := c_mv X.2.2.2.2.2.2 (runV (k := 1) X.1 X.2.1 X.2.2.1 X.2.2.2.1 X.2.2.2.2.1 (mX1_copyFrom l G da v x r hk_r o1 hk_o1) pW_bl hml t_im_X1_copyFrom t_sel_X1_copyFrom t_ini_Block t_code_X1_copyFrom ⟨rfl, by decide, by decide, by decide +kernel⟩ rfl rfl hR hcs (recvW X hH (by rw [hk_r]; decide) (by rw [hk_r]; decide) (ce_1 hk_r) rfl) (preW X hS hH) rfl hls rfl hsum hdg) hS kk
def fX1_useOnce (r : Nat) (v : vSt) : vSt := let v1 := u2 v r 2 ((v r 2) + 1); if (((v1 r 2) - (v1 r 2) / 10 * 10) : Int32) = 0 then (let v3 := u2 v1 r 1 (if (-9) < ((v1 r 1) - 1) then (v1 r 1) - 1 else (-9) : Int32); v3) else v1
abbrev rmX1_useOnce : Room := { frames := 1, cells := 0, slots := 0, locals := 21 }
theorem dX1_useOnce_0 : decode cX1_useOnce 0 = .ok (.aload_n 0, 1) := by decide +kernel
theorem dX1_useOnce_1 : decode cX1_useOnce 1 = .ok (.dup, 1) := by decide +kernel
theorem dX1_useOnce_2 : decode cX1_useOnce 2 = .ok (.getfield 18, 3) := by decide +kernel
theorem dX1_useOnce_5 : decode cX1_useOnce 5 = .ok (.iconst 1, 1) := by decide +kernel
theorem dX1_useOnce_6 : decode cX1_useOnce 6 = .ok (.iadd, 1) := by decide +kernel
theorem dX1_useOnce_7 : decode cX1_useOnce 7 = .ok (.putfield 18, 3) := by decide +kernel
theorem dX1_useOnce_10 : decode cX1_useOnce 10 = .ok (.aload_n 0, 1) := by decide +kernel
theorem dX1_useOnce_11 : decode cX1_useOnce 11 = .ok (.getfield 18, 3) := by decide +kernel
theorem dX1_useOnce_14 : decode cX1_useOnce 14 = .ok (.bipush 10, 2) := by decide +kernel
theorem dX1_useOnce_16 : decode cX1_useOnce 16 = .ok (.irem, 1) := by decide +kernel
theorem dX1_useOnce_17 : decode cX1_useOnce 17 = .ok (.ifCond .ne 18, 3) := by decide +kernel
theorem dX1_useOnce_20 : decode cX1_useOnce 20 = .ok (.aload_n 0, 1) := by decide +kernel
theorem dX1_useOnce_21 : decode cX1_useOnce 21 = .ok (.bipush (-9), 2) := by decide +kernel
theorem dX1_useOnce_23 : decode cX1_useOnce 23 = .ok (.aload_n 0, 1) := by decide +kernel
theorem dX1_useOnce_24 : decode cX1_useOnce 24 = .ok (.getfield 15, 3) := by decide +kernel
theorem dX1_useOnce_27 : decode cX1_useOnce 27 = .ok (.iconst 1, 1) := by decide +kernel
theorem dX1_useOnce_28 : decode cX1_useOnce 28 = .ok (.isub, 1) := by decide +kernel
theorem dX1_useOnce_29 : decode cX1_useOnce 29 = .ok (.invokestatic 21, 3) := by decide +kernel
theorem dX1_useOnce_32 : decode cX1_useOnce 32 = .ok (.putfield 15, 3) := by decide +kernel
theorem dX1_useOnce_35 : decode cX1_useOnce 35 = .ok (.return_, 1) := by decide +kernel
set_option maxHeartbeats 4000000 in
set_option maxRecDepth 100000 in
theorem mX1_useOnce (l : Launch) (G : gG) (da : Nat → Nat) (v : vSt) (x : gX) (r : Nat) (hk_r : kd r = 1) : MV l yX1_useOnce cX1_useOnce 1 none rmX1_useOnce [.ref (ga G r)] G da v x 0 0 (fX1_useOnce r v) x := by
  refine gofMV (own := RX1) (by decide) rfl (Nat.le_of_ble_eq_true rfl) (fun p e s m args below meth c ls Q X hH hl E => ?_)
  have hx := X.1
  have hb := X.2.1
  have hown := X.2.2.2.1
  have hts := X.2.2.2.2.1
  have hS : va_S (gA G) s.heap s.heap [] := va_S.rf
  have hl : lv_has ls 1 [(0, .ref (ga G r))] := hl
  refine lv_aload_n hx hb dX1_useOnce_0 rfl (lv_at hl 0 rfl) ?_
  refine lv_dup hx hb dX1_useOnce_1 rfl ?_
  refine g_Block_18 X hH hk_r dX1_useOnce_2 ?_
  refine lv_iconst (v := 1) hx hb dX1_useOnce_5 (by decide) ?_
  refine lv_iadd hx hb dX1_useOnce_6 ?_
  refine p_Block_18 X hH hS hk_r dX1_useOnce_7 (fun H locs v1 ev1 hH hS => ?_)
  refine lv_aload_n hx hb dX1_useOnce_10 rfl (lv_at hl 0 rfl) ?_
  refine g_Block_18 X hH hk_r dX1_useOnce_11 ?_
  refine lv_bipush (v := 10) hx hb dX1_useOnce_14 (by decide) ?_
  refine lv_irem hx hb dX1_useOnce_16 (by decide) ?_
  refine lv_if_ne (tgt := 35) hx hb dX1_useOnce_17 (by decide) (fun c2 => ?_) (fun c2 => ?_)
  · subst ev1
    exact E _ _ _ _ _ _ _ _ dX1_useOnce_35 (Eq.symm ((if_neg c2).trans rfl)) hH hS (Nat.zero_le _) (Nat.zero_le _)
  · refine lv_aload_n hx hb dX1_useOnce_20 rfl (lv_at hl 0 rfl) ?_
    refine lv_bipush (v := (-9)) hx hb dX1_useOnce_21 (by decide) ?_
    refine lv_aload_n hx hb dX1_useOnce_23 rfl (lv_at hl 0 rfl) ?_
    refine g_Block_15 X hH hk_r dX1_useOnce_24 ?_
    refine lv_iconst (v := 1) hx hb dX1_useOnce_27 (by decide) ?_
    refine lv_isub hx hb dX1_useOnce_28 ?_
    refine k_mmax X t_ml_Block_21 hl.1 ⟨Nat.le_of_ble_eq_true rfl, Nat.le_of_ble_eq_true rfl⟩ ⟨Nat.zero_le _, Nat.zero_le _⟩ dX1_useOnce_29 ?_
    refine p_Block_15 X hH hS hk_r dX1_useOnce_32 (fun H locs v3 ev3 hH hS => ?_)
    subst ev1 ev3
    exact E _ _ _ _ _ _ _ _ dX1_useOnce_35 (Eq.symm ((if_pos c2).trans rfl)) hH hS (Nat.zero_le _) (Nat.zero_le _)
theorem k_X1_useOnce {p : Program} {l : Launch} {e : Env} {R : Room} {s : State} {m : MethodId} {args : Array Value} {below : List Frame} {meth : Method} {c : Code} {H : Heap} {locs : List Loc} {cells slots : Nat} {Q : State → Prop} {cc : ByteArray} {pc nL : Nat} {ls : Array Slot} {rest : List Value} {G : gG} {own : String} {da : Nat → Nat} {v : vSt} {x : gX} (X : CX G p s m args c cc nL own) (hS : va_S (gA G) s.heap H locs) (hH : Hp G da v x H) {r : Nat} (hk_r : kd r = 1) {idx : Nat} (hml : Cond.methodLink own idx yX1_useOnce ∈ TT) (hls : ls.size = nL) (hsum : (rest.map fun v => v.category).sum ≤ 8) (hR : rmX1_useOnce.frames + 1 ≤ R.frames ∧ 8 + (1 + 11) + rmX1_useOnce.locals ≤ R.locals) (hcs : cells ≤ R.cells ∧ slots ≤ R.slots) (hdg : decode cc pc = .ok (.invokevirtual idx, 3)) (kk : ∀ (d : Nat → Nat) (H1 : Heap) (locs1 : List Loc) (v1 : vSt), v1 = fX1_useOnce r v → Hp G d v1 x H1 → va_S (gA G) s.heap H1 locs1 → W p l e R s m args below meth c H1 locs1 cells slots Q (F0 m (pc + 3) ls rest)) : W p l e R s m args below meth c H locs cells slots Q (F0 m pc ls (.ref (ga G r) :: rest)) := c_mv X.2.2.2.2.2.2 (runV (k := 0) X.1 X.2.1 X.2.2.1 X.2.2.2.1 X.2.2.2.2.1 (mX1_useOnce l G da v x r hk_r) pW_bl hml t_im_X1_useOnce t_sel_X1_useOnce t_ini_Block t_code_X1_useOnce ⟨rfl, by decide, by decide, by decide +kernel⟩ rfl rfl hR hcs (recvW X hH (by rw [hk_r]; decide) (by rw [hk_r]; decide) (ce_1 hk_r) rfl) (preW X hS hH) rfl hls rfl hsum hdg) hS kk
theorem b_hasTool {r : Nat} {p1 : Int32} {v : vSt} : True := trivial
