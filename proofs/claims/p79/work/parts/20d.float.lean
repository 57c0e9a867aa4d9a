/-! floats: share, the model. -/
def fX10_share (p1 : Int32) (p2 : Int32) (v : vSt) : UInt32 := if (p2 : Int32) = 0 then FP.fconst0 else (FP.fdiv (FP.i2f p1) (FP.i2f p2))
def oX10_share (p1 : Int32) (p2 : Int32) (v : vSt) : Prop := ¬ ((p2 : Int32) = 0) → (vf_n32 (FP.fdiv (FP.i2f p1) (FP.i2f p2)))
abbrev rmX10_share : Room := { frames := 0, cells := 0, slots := 0, locals := 0 }
theorem dX10_share_0 : decode cX10_share 0 = .ok (.iload_n 1, 1) := by decide +kernel
theorem dX10_share_1 : decode cX10_share 1 = .ok (.ifCond .ne 7, 3) := by decide +kernel
theorem dX10_share_4 : decode cX10_share 4 = .ok (.fconst 0, 1) := by decide +kernel
theorem dX10_share_5 : decode cX10_share 5 = .ok (.goto 8, 3) := by decide +kernel
theorem dX10_share_8 : decode cX10_share 8 = .ok (.iload_n 0, 1) := by decide +kernel
theorem dX10_share_9 : decode cX10_share 9 = .ok (.i2f, 1) := by decide +kernel
theorem dX10_share_10 : decode cX10_share 10 = .ok (.iload_n 1, 1) := by decide +kernel
theorem dX10_share_11 : decode cX10_share 11 = .ok (.i2f, 1) := by decide +kernel
theorem dX10_share_12 : decode cX10_share 12 = .ok (.fdiv, 1) := by decide +kernel
theorem dX10_share_13 : decode cX10_share 13 = .ok (.freturn, 1) := by decide +kernel
set_option maxHeartbeats 8000000 in
set_option maxRecDepth 100000 in
theorem mX10_share (l : Launch) (G : gG) (da : Nat → Nat) (v : vSt) (x : gX) (p1 : Int32) (p2 : Int32) (ho : oX10_share p1 p2 v) : MF l yX10_share cX10_share 2 (some .float) rmX10_share [.int p1, .int p2] G da v x 0 0 (fX10_share p1 p2 v) v x := by
  refine gofMF (own := RX10) (by decide) rfl (Nat.le_of_ble_eq_true rfl) (fun p e s m args below meth c ls Q X hH hl E => ?_)
  have hx := X.1
  have hb := X.2.1
  have hown := X.2.2.2.1
  have hts := X.2.2.2.2.1
  have hS : va_S (gA G) s.heap s.heap [] := va_S.rf
  unfold oX10_share at ho
  have hl : lv_has ls 2 [(0, .int p1), (1, .int p2)] := hl
  refine lv_iload_n hx hb dX10_share_0 rfl (lv_at hl 1 rfl) ?_
  refine lv_if_ne (tgt := 8) hx hb dX10_share_1 (by decide) (fun c1 => ?_) (fun c1 => ?_)
  · have ho := ho c1
    refine lv_iload_n hx hb dX10_share_8 rfl (lv_at hl 0 rfl) ?_
    refine lv_i2f hx hb dX10_share_9 ?_
    refine lv_iload_n hx hb dX10_share_10 rfl (lv_at hl 1 rfl) ?_
    refine lv_i2f hx hb dX10_share_11 ?_
    have hq2 := ho
    refine lv_fdiv hx hb dX10_share_12 hq2 ?_
    exact E _ _ _ _ _ _ _ _ _ dX10_share_13 (Eq.symm ((fX10_share.eq_1 _ _ _).trans ((if_neg c1).trans rfl))) rfl hH hS (Nat.zero_le _) (Nat.zero_le _)
  · skip
    refine lv_fconst0 hx hb dX10_share_4 ?_
    refine lv_goto (tgt := 13) hx hb dX10_share_5 (by decide) ?_
    exact E _ _ _ _ _ _ _ _ _ dX10_share_13 (Eq.symm ((fX10_share.eq_1 _ _ _).trans ((if_pos c1).trans rfl))) rfl hH hS (Nat.zero_le _) (Nat.zero_le _)
theorem k_X10_share {p : Program} {l : Launch} {e : Env} {R : Room} {s : State} {m : MethodId} {args : Array Value} {below : List Frame} {meth : Method} {c : Code} {H : Heap} {locs : List Loc} {cells slots : Nat} {Q : State → Prop} {cc : ByteArray} {pc nL : Nat} {ls : Array Slot} {rest : List Value} {G : gG} {own : String} {da : Nat → Nat} {v : vSt} {x : gX} (X : CX G p s m args c cc nL own) (hS : va_S (gA G) s.heap H locs) (hH : Hp G da v x H) {p1 : Int32} {p2 : Int32} (ho : oX10_share p1 p2 v) {idx : Nat} (hml : Cond.methodLink own idx yX10_share ∈ TT) (hls : ls.size = nL) (hsum : (rest.map fun v => v.category).sum ≤ 8) (hR : rmX10_share.frames + 1 ≤ R.frames ∧ 8 + (2 + 11) + rmX10_share.locals ≤ R.locals) (hcs : cells ≤ R.cells ∧ slots ≤ R.slots) (hdg : decode cc pc = .ok (.invokestatic idx, 3)) (kk : ∀ (d : Nat → Nat) (H1 : Heap) (locs1 : List Loc), Hp G d v x H1 → va_S (gA G) s.heap H1 locs1 → W p l e R s m args below meth c H1 locs1 cells slots Q (F0 m (pc + 3) ls (.float (fX10_share p1 p2 v) :: rest))) : W p l e R s m args below meth c H locs cells slots Q (F0 m pc ls (.int p2 :: .int p1 :: rest)) := c_mf X.2.2.2.2.2.2 (runS (k := 2) X.1 X.2.1 X.2.2.1 X.2.2.2.1 X.2.2.2.2.1 (mX10_share l G da v x p1 p2 ho) pW_bl hml t_st_X10_share t_ini_VernierDrawers t_code_X10_share ⟨by decide, by decide, by decide +kernel⟩ rfl rfl hR hcs (preW X hS hH) rfl hls rfl hsum hdg) hS (fun d9 H9 L9 v9 e9 hH9 => kk d9 H9 L9 (by subst e9; exact hH9))
