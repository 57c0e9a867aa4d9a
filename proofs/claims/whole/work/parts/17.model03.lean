/-! 17.model -/
def fX11_due (r : Nat) (p1 : Int32) (v : vSt) : Int32 := if (30 : Int32) ≤ (fX11_tool r p1 6 v) then 1 else (if (((v 462 (210 : Int32).toNatClampNeg) - (fX11_tool r p1 7 v)) : Int32) < 10 then 0 else 1)
def oX11_due (r : Nat) (p1 : Int32) (v : vSt) : Prop := (oX11_tool r p1 6 v) ∧ (¬ ((30 : Int32) ≤ (fX11_tool r p1 6 v)) → ((vp_in (210) (mlen 462)) ∧ (oX11_tool r p1 7 v)))
abbrev rmX11_due : Room := { frames := 1, cells := 0, slots := 0, locals := 22 }
theorem dX11_due_0 : decode cX11_due 0 = .ok (.aload_n 0, 1) := by decide +kernel
theorem dX11_due_1 : decode cX11_due 1 = .ok (.iload_n 1, 1) := by decide +kernel
theorem dX11_due_2 : decode cX11_due 2 = .ok (.bipush 6, 2) := by decide +kernel
theorem dX11_due_4 : decode cX11_due 4 = .ok (.invokevirtual 54, 3) := by decide +kernel
theorem dX11_due_7 : decode cX11_due 7 = .ok (.bipush 30, 2) := by decide +kernel
theorem dX11_due_9 : decode cX11_due 9 = .ok (.if_icmp .ge 24, 3) := by decide +kernel
theorem dX11_due_12 : decode cX11_due 12 = .ok (.aload_n 0, 1) := by decide +kernel
theorem dX11_due_13 : decode cX11_due 13 = .ok (.getfield 7, 3) := by decide +kernel
theorem dX11_due_16 : decode cX11_due 16 = .ok (.sipush 210, 3) := by decide +kernel
theorem dX11_due_19 : decode cX11_due 19 = .ok (.iaload, 1) := by decide +kernel
theorem dX11_due_20 : decode cX11_due 20 = .ok (.aload_n 0, 1) := by decide +kernel
theorem dX11_due_21 : decode cX11_due 21 = .ok (.iload_n 1, 1) := by decide +kernel
theorem dX11_due_22 : decode cX11_due 22 = .ok (.bipush 7, 2) := by decide +kernel
theorem dX11_due_24 : decode cX11_due 24 = .ok (.invokevirtual 54, 3) := by decide +kernel
theorem dX11_due_27 : decode cX11_due 27 = .ok (.isub, 1) := by decide +kernel
theorem dX11_due_28 : decode cX11_due 28 = .ok (.bipush 10, 2) := by decide +kernel
theorem dX11_due_30 : decode cX11_due 30 = .ok (.if_icmp .lt 7, 3) := by decide +kernel
theorem dX11_due_33 : decode cX11_due 33 = .ok (.iconst 1, 1) := by decide +kernel
theorem dX11_due_34 : decode cX11_due 34 = .ok (.goto 4, 3) := by decide +kernel
theorem dX11_due_37 : decode cX11_due 37 = .ok (.iconst 0, 1) := by decide +kernel
theorem dX11_due_38 : decode cX11_due 38 = .ok (.ireturn, 1) := by decide +kernel
set_option maxHeartbeats 8000000 in
set_option maxRecDepth 100000 in
theorem mX11_due (l : Launch) (G : gG) (da : Nat → Nat) (v : vSt) (x : gX) (r : Nat) (hk_r : kd r = 11) (p1 : Int32) (ho : oX11_due r p1 v) : QI l yX11_due cX11_due 2 (some .boolean) rmX11_due [.ref (ga G r), .int p1] (pW G da v x) (fX11_due r p1 v) := by
  refine gofQ (own := RX11) (by decide) rfl (Nat.le_of_ble_eq_true rfl) (fun p e s m args below meth c ls Q X hH hl E => ?_)
  have hx := X.1
  have hb := X.2.1
  have hown := X.2.2.2.1
  have hts := X.2.2.2.2.1
  have hS : va_S (gA G) s.heap s.heap [] := va_S.rf
  unfold oX11_due at ho
  have hl : lv_has ls 2 [(0, .ref (ga G r)), (1, .int p1)] := hl
  refine lv_aload_n hx hb dX11_due_0 rfl (lv_at hl 0 rfl) ?_
  refine lv_iload_n hx hb dX11_due_1 rfl (lv_at hl 1 rfl) ?_
  refine lv_bipush (v := 6) hx hb dX11_due_2 (by decide) ?_
  have hq1 := ho.1
  have ho := ho.2
  refine k_X11_tool X hS hH hk_r hq1 t_ml_VernierDrawersModel_54 hl.1 (Nat.le_of_ble_eq_true rfl) ⟨Nat.le_of_ble_eq_true rfl, Nat.le_of_ble_eq_true rfl⟩ ⟨Nat.zero_le _, Nat.zero_le _⟩ dX11_due_4 ?_
  refine lv_bipush (v := 30) hx hb dX11_due_7 (by decide) ?_
  refine lv_icmp_ge (tgt := 33) hx hb dX11_due_9 (by decide) (fun c2 => ?_) (fun c2 => ?_)
  · skip
    refine lv_iconst (v := 1) hx hb dX11_due_33 (by decide) ?_
    refine lv_goto (tgt := 38) hx hb dX11_due_34 (by decide) ?_
    exact E _ _ _ dX11_due_38 rfl (Eq.symm ((fX11_due.eq_1 _ _ _).trans ((if_pos c2).trans rfl)))
  · have ho := ho c2
    refine lv_aload_n hx hb dX11_due_12 rfl (lv_at hl 0 rfl) ?_
    refine g_VernierDrawersModel_7 X hH hk_r dX11_due_13 ?_
    refine lv_sipush (v := 210) hx hb dX11_due_16 (by decide) ?_
    have hq3 := ho.1
    have ho := ho.2
    refine ald_M X hH (Or.inl kd_462) hq3 dX11_due_19 ?_
    refine lv_aload_n hx hb dX11_due_20 rfl (lv_at hl 0 rfl) ?_
    refine lv_iload_n hx hb dX11_due_21 rfl (lv_at hl 1 rfl) ?_
    refine lv_bipush (v := 7) hx hb dX11_due_22 (by decide) ?_
    have hq4 := ho
    refine k_X11_tool X hS hH hk_r hq4 t_ml_VernierDrawersModel_54 hl.1 (Nat.le_of_ble_eq_true rfl) ⟨Nat.le_of_ble_eq_true rfl, Nat.le_of_ble_eq_true rfl⟩ ⟨Nat.zero_le _, Nat.zero_le _⟩ dX11_due_24 ?_
    refine lv_isub hx hb dX11_due_27 ?_
    refine lv_bipush (v := 10) hx hb dX11_due_28 (by decide) ?_
    refine lv_icmp_lt (tgt := 37) hx hb dX11_due_30 (by decide) (fun c5 => ?_) (fun c5 => ?_)
    · skip
      refine lv_iconst (v := 0) hx hb dX11_due_37 (by decide) ?_
      exact E _ _ _ dX11_due_38 rfl (Eq.symm ((fX11_due.eq_1 _ _ _).trans ((if_neg c2).trans ((if_pos c5).trans rfl))))
    · skip
      refine lv_iconst (v := 1) hx hb dX11_due_33 (by decide) ?_
      refine lv_goto (tgt := 38) hx hb dX11_due_34 (by decide) ?_
      exact E _ _ _ dX11_due_38 rfl (Eq.symm ((fX11_due.eq_1 _ _ _).trans ((if_neg c2).trans ((if_neg c5).trans rfl))))
theorem k_X11_due {p : Program} {l : Launch} {e : Env} {R : Room} {s : State} {m : MethodId} {args : Array Value} {below : List Frame} {meth : Method} {c : Code} {H : Heap} {locs : List Loc} {cells slots : Nat} {Q : State → Prop} {cc : ByteArray} {pc nL : Nat} {ls : Array Slot} {rest : List Value} {G : gG} {own : String} {da : Nat → Nat} {v : vSt} {x : gX} (X : CX G p s m args c cc nL own) (hS : va_S (gA G) s.heap H locs) (hH : Hp G da v x H) {r : Nat} (hk_r : kd r = 11) {p1 : Int32} (ho : oX11_due r p1 v) {idx : Nat} (hml : Cond.methodLink own idx yX11_due ∈ TT) (hls : ls.size = nL) (hsum : (rest.map fun v => v.category).sum ≤ 8) (hR : rmX11_due.frames + 1 ≤ R.frames ∧ 8 + (2 + 11) + rmX11_due.locals ≤ R.locals) (hcs : cells ≤ R.cells ∧ slots ≤ R.slots) (hdg : decode cc pc = .ok (.invokevirtual idx, 3)) (kk : W p l e R s m args below meth c H locs cells slots Q (F0 m (pc + 3) ls (.int (fX11_due r p1 v) :: rest))) : W p l e R s m args below meth c H locs cells slots Q (F0 m pc ls (.int p1 :: .ref (ga G r) :: rest)) := c_qi (runV (k := 1) X.1 X.2.1 X.2.2.1 X.2.2.2.1 X.2.2.2.2.1 (mX11_due l G da v x r hk_r p1 ho) pW_bl hml t_im_X11_due t_sel_X11_due t_ini_VernierDrawersModel t_code_X11_due ⟨rfl, by decide, by decide, by decide +kernel⟩ rfl rfl hR hcs (recvW X hH (by rw [hk_r]; decide) (by rw [hk_r]; decide) (ce_11 hk_r) rfl) (preW X hS hH) rfl hls rfl hsum hdg) (fun _ h => h ▸ kk)
theorem b01_X11_due {r : Nat} {p1 : Int32} {v : vSt} : fX11_due r p1 v = 0 ∨ fX11_due r p1 v = 1 := by
  unfold fX11_due
  (try dsimp only); (repeat' split) <;> first | exact Or.inl rfl | exact Or.inr rfl
def fX11_block (r : Nat) (p1 : Int32) (p2 : Int32) (v : vSt) : Int32 := v 462 ((48 + (3 * p1)) + p2 : Int32).toNatClampNeg
def oX11_block (r : Nat) (p1 : Int32) (p2 : Int32) (v : vSt) : Prop := vp_in ((48 + (3 * p1)) + p2) (mlen 462)
abbrev rmX11_block : Room := { frames := 0, cells := 0, slots := 0, locals := 0 }
theorem dX11_block_0 : decode cX11_block 0 = .ok (.aload_n 0, 1) := by decide +kernel
theorem dX11_block_1 : decode cX11_block 1 = .ok (.getfield 7, 3) := by decide +kernel
theorem dX11_block_4 : decode cX11_block 4 = .ok (.bipush 48, 2) := by decide +kernel
theorem dX11_block_6 : decode cX11_block 6 = .ok (.iconst 3, 1) := by decide +kernel
theorem dX11_block_7 : decode cX11_block 7 = .ok (.iload_n 1, 1) := by decide +kernel
theorem dX11_block_8 : decode cX11_block 8 = .ok (.imul, 1) := by decide +kernel
theorem dX11_block_9 : decode cX11_block 9 = .ok (.iadd, 1) := by decide +kernel
theorem dX11_block_10 : decode cX11_block 10 = .ok (.iload_n 2, 1) := by decide +kernel
theorem dX11_block_11 : decode cX11_block 11 = .ok (.iadd, 1) := by decide +kernel
theorem dX11_block_12 : decode cX11_block 12 = .ok (.iaload, 1) := by decide +kernel
theorem dX11_block_13 : decode cX11_block 13 = .ok (.ireturn, 1) := by decide +kernel
set_option maxHeartbeats 8000000 in
set_option maxRecDepth 100000 in
theorem mX11_block (l : Launch) (G : gG) (da : Nat → Nat) (v : vSt) (x : gX) (r : Nat) (hk_r : kd r = 11) (p1 : Int32) (p2 : Int32) (ho : oX11_block r p1 p2 v) : QI l yX11_block cX11_block 3 (some .int) rmX11_block [.ref (ga G r), .int p1, .int p2] (pW G da v x) (fX11_block r p1 p2 v) := by
  refine gofQ (own := RX11) (by decide) rfl (Nat.le_of_ble_eq_true rfl) (fun p e s m args below meth c ls Q X hH hl E => ?_)
  have hx := X.1
  have hb := X.2.1
  have hown := X.2.2.2.1
  have hts := X.2.2.2.2.1
  have hS : va_S (gA G) s.heap s.heap [] := va_S.rf
  unfold oX11_block at ho
  have hl : lv_has ls 3 [(0, .ref (ga G r)), (1, .int p1), (2, .int p2)] := hl
  refine lv_aload_n hx hb dX11_block_0 rfl (lv_at hl 0 rfl) ?_
  refine g_VernierDrawersModel_7 X hH hk_r dX11_block_1 ?_
  refine lv_bipush (v := 48) hx hb dX11_block_4 (by decide) ?_
  refine lv_iconst (v := 3) hx hb dX11_block_6 (by decide) ?_
  refine lv_iload_n hx hb dX11_block_7 rfl (lv_at hl 1 rfl) ?_
  refine lv_imul hx hb dX11_block_8 ?_
  refine lv_iadd hx hb dX11_block_9 ?_
  refine lv_iload_n hx hb dX11_block_10 rfl (lv_at hl 2 rfl) ?_
  refine lv_iadd hx hb dX11_block_11 ?_
  have hq1 := ho
  refine ald_M X hH (Or.inl kd_462) hq1 dX11_block_12 ?_
  exact E _ _ _ dX11_block_13 rfl (Eq.symm rfl)
theorem k_X11_block {p : Program} {l : Launch} {e : Env} {R : Room} {s : State} {m : MethodId} {args : Array Value} {below : List Frame} {meth : Method} {c : Code} {H : Heap} {locs : List Loc} {cells slots : Nat} {Q : State → Prop} {cc : ByteArray} {pc nL : Nat} {ls : Array Slot} {rest : List Value} {G : gG} {own : String} {da : Nat → Nat} {v : vSt} {x : gX} (X : CX G p s m args c cc nL own) (hS : va_S (gA G) s.heap H locs) (hH : Hp G da v x H) {r : Nat} (hk_r : kd r = 11) {p1 : Int32} {p2 : Int32} (ho : oX11_block r p1 p2 v) {idx : Nat} (hml : Cond.methodLink own idx yX11_block ∈ TT) (hls : ls.size = nL) (hsum : (rest.map fun v => v.category).sum ≤ 8) (hR : rmX11_block.frames + 1 ≤ R.frames ∧ 8 + (3 + 11) + rmX11_block.locals ≤ R.locals) (hcs : cells ≤ R.cells ∧ slots ≤ R.slots) (hdg : decode cc pc = .ok (.invokevirtual idx, 3)) (kk : W p l e R s m args below meth c H locs cells slots Q (F0 m (pc + 3) ls (.int (fX11_block r p1 p2 v) :: rest))) : W p l e R s m args below meth c H locs cells slots Q (F0 m pc ls (.int p2 :: .int p1 :: .ref (ga G r) :: rest)) := c_qi (runV (k := 2) X.1 X.2.1 X.2.2.1 X.2.2.2.1 X.2.2.2.2.1 (mX11_block l G da v x r hk_r p1 p2 ho) pW_bl hml t_im_X11_block t_sel_X11_block t_ini_VernierDrawersModel t_code_X11_block ⟨rfl, by decide, by decide, by decide +kernel⟩ rfl rfl hR hcs (recvW X hH (by rw [hk_r]; decide) (by rw [hk_r]; decide) (ce_11 hk_r) rfl) (preW X hS hH) rfl hls rfl hsum hdg) (fun _ h => h ▸ kk)
def lX11_ones_4 (p1 : Int32) : Nat → Int32 → Int32 → Int32
  | 0, i1, i2 => i2
  | n + 1, i1, i2 => if (10 : Int32) ≤ i1 then i2 else (lX11_ones_4 p1 n (i1 + 1) (i2 + ((p1 >>> (i1 &&& 31)) &&& 1)))
def olX11_ones_4 (p1 : Int32) : Nat → Int32 → Int32 → Prop
  | 0, _, _ => False
  | n + 1, i1, i2 => ¬ ((10 : Int32) ≤ i1) → (olX11_ones_4 p1 n (i1 + 1) (i2 + ((p1 >>> (i1 &&& 31)) &&& 1)))
def fX11_ones (p1 : Int32) : Int32 := let y3 : Int32 := (lX11_ones_4 p1 ((Int32.toInt (10) - Int32.toInt 0).toNat + 1) 0 0); y3
def oX11_ones (p1 : Int32) : Prop := olX11_ones_4 p1 ((Int32.toInt (10) - Int32.toInt 0).toNat + 1) 0 0
abbrev rmX11_ones : Room := { frames := 0, cells := 0, slots := 0, locals := 0 }
theorem dX11_ones_0 : decode cX11_ones 0 = .ok (.iconst 0, 1) := by decide +kernel
theorem dX11_ones_1 : decode cX11_ones 1 = .ok (.istore_n 1, 1) := by decide +kernel
theorem dX11_ones_2 : decode cX11_ones 2 = .ok (.iconst 0, 1) := by decide +kernel
theorem dX11_ones_3 : decode cX11_ones 3 = .ok (.istore_n 2, 1) := by decide +kernel
theorem dX11_ones_4 : decode cX11_ones 4 = .ok (.iload_n 2, 1) := by decide +kernel
theorem dX11_ones_5 : decode cX11_ones 5 = .ok (.bipush 10, 2) := by decide +kernel
theorem dX11_ones_7 : decode cX11_ones 7 = .ok (.if_icmp .ge 17, 3) := by decide +kernel
theorem dX11_ones_10 : decode cX11_ones 10 = .ok (.iload_n 1, 1) := by decide +kernel
theorem dX11_ones_11 : decode cX11_ones 11 = .ok (.iload_n 0, 1) := by decide +kernel
theorem dX11_ones_12 : decode cX11_ones 12 = .ok (.iload_n 2, 1) := by decide +kernel
theorem dX11_ones_13 : decode cX11_ones 13 = .ok (.ishr, 1) := by decide +kernel
theorem dX11_ones_14 : decode cX11_ones 14 = .ok (.iconst 1, 1) := by decide +kernel
theorem dX11_ones_15 : decode cX11_ones 15 = .ok (.iand, 1) := by decide +kernel
theorem dX11_ones_16 : decode cX11_ones 16 = .ok (.iadd, 1) := by decide +kernel
theorem dX11_ones_17 : decode cX11_ones 17 = .ok (.istore_n 1, 1) := by decide +kernel
theorem dX11_ones_18 : decode cX11_ones 18 = .ok (.iinc 2 1, 3) := by decide +kernel
theorem dX11_ones_21 : decode cX11_ones 21 = .ok (.goto (-17), 3) := by decide +kernel
theorem dX11_ones_24 : decode cX11_ones 24 = .ok (.iload_n 1, 1) := by decide +kernel
theorem dX11_ones_25 : decode cX11_ones 25 = .ok (.ireturn, 1) := by decide +kernel
set_option maxHeartbeats 8000000 in
set_option maxRecDepth 100000 in
theorem mX11_ones (l : Launch) (G : gG) (p1 : Int32) (ho : oX11_ones p1) : PI l yX11_ones cX11_ones 3 (some .int) rmX11_ones [.int p1] G (fun _ => True) (fX11_ones p1) := by
  refine gofP (own := RX11) (by decide) rfl (Nat.le_of_ble_eq_true rfl) (fun p e s m args below meth c ls Q X _ hl E => ?_)
  have hx := X.1
  have hb := X.2.1
  have hown := X.2.2.2.1
  have hts := X.2.2.2.2.1
  have hS : va_S (gA G) s.heap s.heap [] := va_S.rf
  unfold oX11_ones at ho
  have hl : lv_has ls 3 [(0, .int p1)] := hl
  refine lv_iconst (v := 0) hx hb dX11_ones_0 (by decide) ?_
  refine lv_istore_n (lv' := [(1, .int 0), (0, .int p1)]) hx hb dX11_ones_1 rfl hl (by decide) rfl (fun ls hl => ?_)
  refine lv_iconst (v := 0) hx hb dX11_ones_2 (by decide) ?_
  refine lv_istore_n (lv' := [(2, .int 0), (1, .int 0), (0, .int p1)]) hx hb dX11_ones_3 rfl hl (by decide) rfl (fun ls hl => ?_)
  have L4 : ∀ (n : Nat) (i1 : Int32) (i2 : Int32) (ls : Array Slot), olX11_ones_4 p1 n i1 i2 → lv_has ls 3 [(2, .int i1), (1, .int i2), (0, .int p1)] → (∀ (y3 : Int32) (ls : Array Slot), y3 = (lX11_ones_4 p1 n i1 i2 : Int32) → lv_has ls 3 [(1, .int y3)] → W p l e rmX11_ones s m args below meth c s.heap [] 0 0 Q (F0 m 24 ls [])) → W p l e rmX11_ones s m args below meth c s.heap [] 0 0 Q (F0 m 4 ls []) := by
    clear ho
    intro n
    induction n with
    | zero =>
      intro i1 i2 ls ho
      exact ho.elim
    | succ n ih =>
      intro i1 i2 ls ho hl K5
      refine lv_iload_n hx hb dX11_ones_4 rfl (lv_at hl 0 rfl) ?_
      refine lv_bipush (v := 10) hx hb dX11_ones_5 (by decide) ?_
      refine lv_icmp_ge (tgt := 24) hx hb dX11_ones_7 (by decide) (fun c3 => ?_) (fun c3 => ?_)
      · skip
        exact K5 _ _ (Eq.symm (((lX11_ones_4.eq_2 _ _ _ _)).trans ((if_pos c3).trans rfl))) (lv_sub hl [1] rfl)
      · have ho := ho c3
        refine lv_iload_n hx hb dX11_ones_10 rfl (lv_at hl 1 rfl) ?_
        refine lv_iload_n hx hb dX11_ones_11 rfl (lv_at hl 2 rfl) ?_
        refine lv_iload_n hx hb dX11_ones_12 rfl (lv_at hl 0 rfl) ?_
        refine lv_ishr hx hb dX11_ones_13 ?_
        refine lv_iconst (v := 1) hx hb dX11_ones_14 (by decide) ?_
        refine lv_iand hx hb dX11_ones_15 ?_
        refine lv_iadd hx hb dX11_ones_16 ?_
        refine lv_istore_n (lv' := [(1, .int (i2 + ((p1 >>> (i1 &&& 31)) &&& 1))), (2, .int i1), (0, .int p1)]) hx hb dX11_ones_17 rfl hl (by decide) rfl (fun ls hl => ?_)
        refine lv_iinc (v := i1 + 1) (lv' := [(2, .int (i1 + 1)), (1, .int (i2 + ((p1 >>> (i1 &&& 31)) &&& 1))), (0, .int p1)]) hx hb dX11_ones_18 hl (k := 1) rfl rfl (by decide) rfl (fun ls hl => ?_)
        refine lv_goto (tgt := 4) hx hb dX11_ones_21 (by decide) ?_
        exact ih _ _ _ ho (lv_sub hl [0, 1, 2] rfl) (fun y3 ls q0 hl => K5 y3 ls (q0.trans (congrArg (fun z : Int32 => z) (Eq.symm (((lX11_ones_4.eq_2 _ _ _ _)).trans ((if_neg c3).trans rfl))))) hl)
  have hol := ho
  refine L4 ((Int32.toInt (10) - Int32.toInt 0).toNat + 1) 0 0 _ hol (lv_sub hl [0, 1, 2] rfl) (fun y3 ls ey3 hl => ?_)
  refine lv_iload_n hx hb dX11_ones_24 rfl (lv_at hl 0 rfl) ?_
  replace ey3 := Eq.symm ey3
  subst ey3
  exact E _ _ _ dX11_ones_25 rfl (Eq.symm rfl)
theorem k_X11_ones {p : Program} {l : Launch} {e : Env} {R : Room} {s : State} {m : MethodId} {args : Array Value} {below : List Frame} {meth : Method} {c : Code} {H : Heap} {locs : List Loc} {cells slots : Nat} {Q : State → Prop} {cc : ByteArray} {pc nL : Nat} {ls : Array Slot} {rest : List Value} {G : gG} {own : String} (X : CX G p s m args c cc nL own) (hS : va_S (gA G) s.heap H locs) {p1 : Int32} (ho : oX11_ones p1) {idx : Nat} (hml : Cond.methodLink own idx yX11_ones ∈ TT) (hls : ls.size = nL) (hsum : (rest.map fun v => v.category).sum ≤ 8) (hR : rmX11_ones.frames + 1 ≤ R.frames ∧ 8 + (3 + 11) + rmX11_ones.locals ≤ R.locals) (hcs : cells ≤ R.cells ∧ slots ≤ R.slots) (hdg : decode cc pc = .ok (.invokestatic idx, 3)) (kk : W p l e R s m args below meth c H locs cells slots Q (F0 m (pc + 3) ls (.int (fX11_ones p1) :: rest))) : W p l e R s m args below meth c H locs cells slots Q (F0 m pc ls (.int p1 :: rest)) := c_qi (runS (k := 1) X.1 X.2.1 X.2.2.1 X.2.2.2.1 X.2.2.2.2.1 (mX11_ones l G p1 ho) (pT_bl (fun _ _ _ _ h => h)) hml t_st_X11_ones t_ini_VernierDrawersModel t_code_X11_ones ⟨by decide, by decide, by decide +kernel⟩ rfl rfl hR hcs (fun U hU hW => ⟨preT X hS U hU hW, trivial⟩) rfl hls rfl hsum hdg) (fun _ h => h ▸ kk)
def lX11_sum_5 (v : vSt) (r : Nat) (p1 : Int32) (p2 : Int32) : Nat → Int32 → Int32 → Int32
  | 0, i1, i2 => i2
  | n + 1, i1, i2 => if ((v 462 (204 : Int32).toNatClampNeg) : Int32) ≤ i1 then i2 else (let y5 : Int32 := (if (((p1 >>> (i1 &&& 31)) &&& 1) : Int32) = 1 then (fX11_block r i1 p2 v) else 0 : Int32); lX11_sum_5 v r p1 p2 n (i1 + 1) (i2 + y5))
def olX11_sum_5 (v : vSt) (r : Nat) (p1 : Int32) (p2 : Int32) : Nat → Int32 → Int32 → Prop
  | 0, _, _ => False
  | n + 1, i1, i2 => (vp_in (204) (mlen 462)) ∧ (¬ (((v 462 (204 : Int32).toNatClampNeg) : Int32) ≤ i1) → ((((((p1 >>> (i1 &&& 31)) &&& 1) : Int32) = 1) → (oX11_block r i1 p2 v)) ∧ (∀ (y5 : Int32), y5 = ((if (((p1 >>> (i1 &&& 31)) &&& 1) : Int32) = 1 then (fX11_block r i1 p2 v) else 0 : Int32) : Int32) → (olX11_sum_5 v r p1 p2 n (i1 + 1) (i2 + y5)))))
def fX11_sum (r : Nat) (p1 : Int32) (p2 : Int32) (v : vSt) : Int32 := let y3 : Int32 := (lX11_sum_5 v r p1 p2 ((Int32.toInt ((v 462 (204 : Int32).toNatClampNeg)) - Int32.toInt 0).toNat + 1) 0 0); y3
def oX11_sum (r : Nat) (p1 : Int32) (p2 : Int32) (v : vSt) : Prop := olX11_sum_5 v r p1 p2 ((Int32.toInt ((v 462 (204 : Int32).toNatClampNeg)) - Int32.toInt 0).toNat + 1) 0 0
abbrev rmX11_sum : Room := { frames := 1, cells := 0, slots := 0, locals := 22 }
theorem dX11_sum_0 : decode cX11_sum 0 = .ok (.iconst 0, 1) := by decide +kernel
theorem dX11_sum_1 : decode cX11_sum 1 = .ok (.istore_n 3, 1) := by decide +kernel
theorem dX11_sum_2 : decode cX11_sum 2 = .ok (.iconst 0, 1) := by decide +kernel
theorem dX11_sum_3 : decode cX11_sum 3 = .ok (.istore 4, 2) := by decide +kernel
theorem dX11_sum_5 : decode cX11_sum 5 = .ok (.iload 4, 2) := by decide +kernel
theorem dX11_sum_7 : decode cX11_sum 7 = .ok (.aload_n 0, 1) := by decide +kernel
theorem dX11_sum_8 : decode cX11_sum 8 = .ok (.getfield 7, 3) := by decide +kernel
theorem dX11_sum_11 : decode cX11_sum 11 = .ok (.sipush 204, 3) := by decide +kernel
theorem dX11_sum_14 : decode cX11_sum 14 = .ok (.iaload, 1) := by decide +kernel
theorem dX11_sum_15 : decode cX11_sum 15 = .ok (.if_icmp .ge 33, 3) := by decide +kernel
theorem dX11_sum_18 : decode cX11_sum 18 = .ok (.iload_n 3, 1) := by decide +kernel
theorem dX11_sum_19 : decode cX11_sum 19 = .ok (.iload_n 1, 1) := by decide +kernel
theorem dX11_sum_20 : decode cX11_sum 20 = .ok (.iload 4, 2) := by decide +kernel
theorem dX11_sum_22 : decode cX11_sum 22 = .ok (.ishr, 1) := by decide +kernel
theorem dX11_sum_23 : decode cX11_sum 23 = .ok (.iconst 1, 1) := by decide +kernel
theorem dX11_sum_24 : decode cX11_sum 24 = .ok (.iand, 1) := by decide +kernel
theorem dX11_sum_25 : decode cX11_sum 25 = .ok (.iconst 1, 1) := by decide +kernel
theorem dX11_sum_26 : decode cX11_sum 26 = .ok (.if_icmp .ne 13, 3) := by decide +kernel
theorem dX11_sum_29 : decode cX11_sum 29 = .ok (.aload_n 0, 1) := by decide +kernel
theorem dX11_sum_30 : decode cX11_sum 30 = .ok (.iload 4, 2) := by decide +kernel
theorem dX11_sum_32 : decode cX11_sum 32 = .ok (.iload_n 2, 1) := by decide +kernel
theorem dX11_sum_33 : decode cX11_sum 33 = .ok (.invokevirtual 71, 3) := by decide +kernel
theorem dX11_sum_36 : decode cX11_sum 36 = .ok (.goto 4, 3) := by decide +kernel
theorem dX11_sum_39 : decode cX11_sum 39 = .ok (.iconst 0, 1) := by decide +kernel
theorem dX11_sum_40 : decode cX11_sum 40 = .ok (.iadd, 1) := by decide +kernel
theorem dX11_sum_41 : decode cX11_sum 41 = .ok (.istore_n 3, 1) := by decide +kernel
theorem dX11_sum_42 : decode cX11_sum 42 = .ok (.iinc 4 1, 3) := by decide +kernel
theorem dX11_sum_45 : decode cX11_sum 45 = .ok (.goto (-40), 3) := by decide +kernel
theorem dX11_sum_48 : decode cX11_sum 48 = .ok (.iload_n 3, 1) := by decide +kernel
theorem dX11_sum_49 : decode cX11_sum 49 = .ok (.ireturn, 1) := by decide +kernel
set_option maxHeartbeats 8000000 in
set_option maxRecDepth 100000 in
theorem mX11_sum (l : Launch) (G : gG) (da : Nat → Nat) (v : vSt) (x : gX) (r : Nat) (hk_r : kd r = 11) (p1 : Int32) (p2 : Int32) (ho : oX11_sum r p1 p2 v) : QI l yX11_sum cX11_sum 5 (some .int) rmX11_sum [.ref (ga G r), .int p1, .int p2] (pW G da v x) (fX11_sum r p1 p2 v) := by
  refine gofQ (own := RX11) (by decide) rfl (Nat.le_of_ble_eq_true rfl) (fun p e s m args below meth c ls Q X hH hl E => ?_)
  have hx := X.1
  have hb := X.2.1
  have hown := X.2.2.2.1
  have hts := X.2.2.2.2.1
  have hS : va_S (gA G) s.heap s.heap [] := va_S.rf
  unfold oX11_sum at ho
  have hl : lv_has ls 5 [(0, .ref (ga G r)), (1, .int p1), (2, .int p2)] := hl
  refine lv_iconst (v := 0) hx hb dX11_sum_0 (by decide) ?_
  refine lv_istore_n (lv' := [(3, .int 0), (0, .ref (ga G r)), (1, .int p1), (2, .int p2)]) hx hb dX11_sum_1 rfl hl (by decide) rfl (fun ls hl => ?_)
  refine lv_iconst (v := 0) hx hb dX11_sum_2 (by decide) ?_
  refine lv_istore (lv' := [(4, .int 0), (3, .int 0), (0, .ref (ga G r)), (1, .int p1), (2, .int p2)]) hx hb dX11_sum_3 hl (by decide) rfl (fun ls hl => ?_)
  have L4 : ∀ (n : Nat) (i1 : Int32) (i2 : Int32) (ls : Array Slot), olX11_sum_5 v r p1 p2 n i1 i2 → lv_has ls 5 [(4, .int i1), (3, .int i2), (0, .ref (ga G r)), (1, .int p1), (2, .int p2)] → (∀ (y3 : Int32) (ls : Array Slot), y3 = (lX11_sum_5 v r p1 p2 n i1 i2 : Int32) → lv_has ls 5 [(3, .int y3)] → W p l e rmX11_sum s m args below meth c s.heap [] 0 0 Q (F0 m 48 ls [])) → W p l e rmX11_sum s m args below meth c s.heap [] 0 0 Q (F0 m 5 ls []) := by
    clear ho
    intro n
    induction n with
    | zero =>
      intro i1 i2 ls ho
      exact ho.elim
    | succ n ih =>
      intro i1 i2 ls ho hl K5
      refine lv_iload hx hb dX11_sum_5 (lv_at hl 0 rfl) ?_
      refine lv_aload_n hx hb dX11_sum_7 rfl (lv_at hl 2 rfl) ?_
      refine g_VernierDrawersModel_7 X hH hk_r dX11_sum_8 ?_
      refine lv_sipush (v := 204) hx hb dX11_sum_11 (by decide) ?_
      have hq3 := ho.1
      have ho := ho.2
      refine ald_M X hH (Or.inl kd_462) hq3 dX11_sum_14 ?_
      refine lv_icmp_ge (tgt := 48) hx hb dX11_sum_15 (by decide) (fun c4 => ?_) (fun c4 => ?_)
      · skip
        exact K5 _ _ (Eq.symm (((lX11_sum_5.eq_2 _ _ _ _ _ _ _)).trans ((if_pos c4).trans rfl))) (lv_sub hl [1] rfl)
      · have ho := ho c4
        refine lv_iload_n hx hb dX11_sum_18 rfl (lv_at hl 1 rfl) ?_
        refine lv_iload_n hx hb dX11_sum_19 rfl (lv_at hl 3 rfl) ?_
        refine lv_iload hx hb dX11_sum_20 (lv_at hl 0 rfl) ?_
        refine lv_ishr hx hb dX11_sum_22 ?_
        refine lv_iconst (v := 1) hx hb dX11_sum_23 (by decide) ?_
        refine lv_iand hx hb dX11_sum_24 ?_
        refine lv_iconst (v := 1) hx hb dX11_sum_25 (by decide) ?_
        have K6 : ∀ (y5 : Int32) (ls : Array Slot), y5 = (if (((p1 >>> (i1 &&& 31)) &&& 1) : Int32) = 1 then (fX11_block r i1 p2 v) else 0 : Int32) → lv_has ls 5 [(4, .int i1), (0, .ref (ga G r)), (1, .int p1), (2, .int p2)] → W p l e rmX11_sum s m args below meth c s.heap [] 0 0 Q (F0 m 40 ls [.int y5, .int i2]) := by
          intro y5 ls ey5 hl
          have ho := ho.2 y5 ey5
          refine lv_iadd hx hb dX11_sum_40 ?_
          refine lv_istore_n (lv' := [(3, .int (i2 + y5)), (4, .int i1), (0, .ref (ga G r)), (1, .int p1), (2, .int p2)]) hx hb dX11_sum_41 rfl hl (by decide) rfl (fun ls hl => ?_)
          refine lv_iinc (v := i1 + 1) (lv' := [(4, .int (i1 + 1)), (3, .int (i2 + y5)), (0, .ref (ga G r)), (1, .int p1), (2, .int p2)]) hx hb dX11_sum_42 hl (k := 1) rfl rfl (by decide) rfl (fun ls hl => ?_)
          refine lv_goto (tgt := 5) hx hb dX11_sum_45 (by decide) ?_
          replace ey5 := Eq.symm ey5
          subst ey5
          exact ih _ _ _ ho (lv_sub hl [0, 1, 2, 3, 4] rfl) (fun y3 ls q0 hl => K5 y3 ls (q0.trans (congrArg (fun z : Int32 => z) (Eq.symm (((lX11_sum_5.eq_2 _ _ _ _ _ _ _)).trans ((if_neg c4).trans rfl))))) hl)
        have ho := ho.1
        refine lv_icmp_ne (tgt := 39) hx hb dX11_sum_26 (by decide) (fun c6 => ?_) (fun c6 => ?_)
        · skip
          refine lv_iconst (v := 0) hx hb dX11_sum_39 (by decide) ?_
          exact K6 _ _ (Eq.symm ((if_neg c6).trans rfl)) (lv_sub hl [0, 2, 3, 4] rfl)
        · have ho := ho c6
          refine lv_aload_n hx hb dX11_sum_29 rfl (lv_at hl 2 rfl) ?_
          refine lv_iload hx hb dX11_sum_30 (lv_at hl 0 rfl) ?_
          refine lv_iload_n hx hb dX11_sum_32 rfl (lv_at hl 4 rfl) ?_
          have hq7 := ho
          refine k_X11_block X hS hH hk_r hq7 t_ml_VernierDrawersModel_71 hl.1 (Nat.le_of_ble_eq_true rfl) ⟨Nat.le_of_ble_eq_true rfl, Nat.le_of_ble_eq_true rfl⟩ ⟨Nat.zero_le _, Nat.zero_le _⟩ dX11_sum_33 ?_
          refine lv_goto (tgt := 40) hx hb dX11_sum_36 (by decide) ?_
          exact K6 _ _ (Eq.symm ((if_pos c6).trans rfl)) (lv_sub hl [0, 2, 3, 4] rfl)
  have hol := ho
  refine L4 ((Int32.toInt ((v 462 (204 : Int32).toNatClampNeg)) - Int32.toInt 0).toNat + 1) 0 0 _ hol (lv_sub hl [0, 1, 2, 3, 4] rfl) (fun y3 ls ey3 hl => ?_)
  refine lv_iload_n hx hb dX11_sum_48 rfl (lv_at hl 0 rfl) ?_
  replace ey3 := Eq.symm ey3
  subst ey3
  exact E _ _ _ dX11_sum_49 rfl (Eq.symm rfl)
theorem k_X11_sum {p : Program} {l : Launch} {e : Env} {R : Room} {s : State} {m : MethodId} {args : Array Value} {below : List Frame} {meth : Method} {c : Code} {H : Heap} {locs : List Loc} {cells slots : Nat} {Q : State → Prop} {cc : ByteArray} {pc nL : Nat} {ls : Array Slot} {rest : List Value} {G : gG} {own : String} {da : Nat → Nat} {v : vSt} {x : gX} (X : CX G p s m args c cc nL own) (hS : va_S (gA G) s.heap H locs) (hH : Hp G da v x H) {r : Nat} (hk_r : kd r = 11) {p1 : Int32} {p2 : Int32} (ho : oX11_sum r p1 p2 v) {idx : Nat} (hml : Cond.methodLink own idx yX11_sum ∈ TT) (hls : ls.size = nL) (hsum : (rest.map fun v => v.category).sum ≤ 8) (hR : rmX11_sum.frames + 1 ≤ R.frames ∧ 8 + (5 + 11) + rmX11_sum.locals ≤ R.locals) (hcs : cells ≤ R.cells ∧ slots ≤ R.slots) (hdg : decode cc pc = .ok (.invokevirtual idx, 3)) (kk : W p l e R s m args below meth c H locs cells slots Q (F0 m (pc + 3) ls (.int (fX11_sum r p1 p2 v) :: rest))) : W p l e R s m args below meth c H locs cells slots Q (F0 m pc ls (.int p2 :: .int p1 :: .ref (ga G r) :: rest)) := c_qi (runV (k := 2) X.1 X.2.1 X.2.2.1 X.2.2.2.1 X.2.2.2.2.1 (mX11_sum l G da v x r hk_r p1 p2 ho) pW_bl hml t_im_X11_sum t_sel_X11_sum t_ini_VernierDrawersModel t_code_X11_sum ⟨rfl, by decide, by decide, by decide +kernel⟩ rfl rfl hR hcs (recvW X hH (by rw [hk_r]; decide) (by rw [hk_r]; decide) (ce_11 hk_r) rfl) (preW X hS hH) rfl hls rfl hsum hdg) (fun _ h => h ▸ kk)
def lX11_stack_8 (v : vSt) (r : Nat) (p1 : Int32) : Nat → Int32 → Int32 → Int32 → Int32
  | 0, i1, i2, i3 => i3
  | n + 1, i1, i2, i3 => if ((1 <<< ((v 462 (204 : Int32).toNatClampNeg) &&& 31)) : Int32) ≤ i1 then i3 else (let y7 : Int32 := (if (i2 : Int32) ≤ (fX11_ones i1) then 0 else (if ((fX11_sum r i1 0 v) : Int32) = p1 then 1 else 0) : Int32); let y9 : Int32 := (if (y7 : Int32) = 0 then i3 else i1 : Int32); let y11 : Int32 := (if (y7 : Int32) = 0 then i2 else (fX11_ones i1) : Int32); lX11_stack_8 v r p1 n (i1 + 1) y11 y9)
def olX11_stack_8 (v : vSt) (r : Nat) (p1 : Int32) : Nat → Int32 → Int32 → Int32 → Prop
  | 0, _, _, _ => False
  | n + 1, i1, i2, i3 => (vp_in (204) (mlen 462)) ∧ (¬ (((1 <<< ((v 462 (204 : Int32).toNatClampNeg) &&& 31)) : Int32) ≤ i1) → ((oX11_ones i1) ∧ ((¬ ((i2 : Int32) ≤ (fX11_ones i1)) → (oX11_sum r i1 0 v)) ∧ (∀ (y7 : Int32), y7 = ((if (i2 : Int32) ≤ (fX11_ones i1) then 0 else (if ((fX11_sum r i1 0 v) : Int32) = p1 then 1 else 0) : Int32) : Int32) → ((∀ (y9 : Int32), y9 = ((if (y7 : Int32) = 0 then i3 else i1 : Int32) : Int32) → ((∀ (y11 : Int32), y11 = ((if (y7 : Int32) = 0 then i2 else (fX11_ones i1) : Int32) : Int32) → (olX11_stack_8 v r p1 n (i1 + 1) y11 y9)))))))))
def fX11_stack (r : Nat) (p1 : Int32) (v : vSt) : Int32 := let y4 : Int32 := (lX11_stack_8 v r p1 ((Int32.toInt ((1 <<< ((v 462 (204 : Int32).toNatClampNeg) &&& 31))) - Int32.toInt 1).toNat + 1) 1 6 0); y4
def oX11_stack (r : Nat) (p1 : Int32) (v : vSt) : Prop := olX11_stack_8 v r p1 ((Int32.toInt ((1 <<< ((v 462 (204 : Int32).toNatClampNeg) &&& 31))) - Int32.toInt 1).toNat + 1) 1 6 0
abbrev rmX11_stack : Room := { frames := 2, cells := 0, slots := 0, locals := 46 }
theorem dX11_stack_0 : decode cX11_stack 0 = .ok (.iconst 0, 1) := by decide +kernel
theorem dX11_stack_1 : decode cX11_stack 1 = .ok (.istore_n 2, 1) := by decide +kernel
theorem dX11_stack_2 : decode cX11_stack 2 = .ok (.bipush 6, 2) := by decide +kernel
theorem dX11_stack_4 : decode cX11_stack 4 = .ok (.istore_n 3, 1) := by decide +kernel
theorem dX11_stack_5 : decode cX11_stack 5 = .ok (.iconst 1, 1) := by decide +kernel
theorem dX11_stack_6 : decode cX11_stack 6 = .ok (.istore 4, 2) := by decide +kernel
theorem dX11_stack_8 : decode cX11_stack 8 = .ok (.iload 4, 2) := by decide +kernel
theorem dX11_stack_10 : decode cX11_stack 10 = .ok (.iconst 1, 1) := by decide +kernel
theorem dX11_stack_11 : decode cX11_stack 11 = .ok (.aload_n 0, 1) := by decide +kernel
theorem dX11_stack_12 : decode cX11_stack 12 = .ok (.getfield 7, 3) := by decide +kernel
theorem dX11_stack_15 : decode cX11_stack 15 = .ok (.sipush 204, 3) := by decide +kernel
theorem dX11_stack_18 : decode cX11_stack 18 = .ok (.iaload, 1) := by decide +kernel
theorem dX11_stack_19 : decode cX11_stack 19 = .ok (.ishl, 1) := by decide +kernel
theorem dX11_stack_20 : decode cX11_stack 20 = .ok (.if_icmp .ge 64, 3) := by decide +kernel
theorem dX11_stack_23 : decode cX11_stack 23 = .ok (.iload 4, 2) := by decide +kernel
theorem dX11_stack_25 : decode cX11_stack 25 = .ok (.invokestatic 74, 3) := by decide +kernel
theorem dX11_stack_28 : decode cX11_stack 28 = .ok (.istore 5, 2) := by decide +kernel
theorem dX11_stack_30 : decode cX11_stack 30 = .ok (.iload 5, 2) := by decide +kernel
theorem dX11_stack_32 : decode cX11_stack 32 = .ok (.iload_n 3, 1) := by decide +kernel
theorem dX11_stack_33 : decode cX11_stack 33 = .ok (.if_icmp .ge 18, 3) := by decide +kernel
theorem dX11_stack_36 : decode cX11_stack 36 = .ok (.aload_n 0, 1) := by decide +kernel
theorem dX11_stack_37 : decode cX11_stack 37 = .ok (.iload 4, 2) := by decide +kernel
theorem dX11_stack_39 : decode cX11_stack 39 = .ok (.iconst 0, 1) := by decide +kernel
theorem dX11_stack_40 : decode cX11_stack 40 = .ok (.invokevirtual 77, 3) := by decide +kernel
theorem dX11_stack_43 : decode cX11_stack 43 = .ok (.iload_n 1, 1) := by decide +kernel
theorem dX11_stack_44 : decode cX11_stack 44 = .ok (.if_icmp .ne 7, 3) := by decide +kernel
theorem dX11_stack_47 : decode cX11_stack 47 = .ok (.iconst 1, 1) := by decide +kernel
theorem dX11_stack_48 : decode cX11_stack 48 = .ok (.goto 4, 3) := by decide +kernel
theorem dX11_stack_51 : decode cX11_stack 51 = .ok (.iconst 0, 1) := by decide +kernel
theorem dX11_stack_52 : decode cX11_stack 52 = .ok (.istore 6, 2) := by decide +kernel
theorem dX11_stack_54 : decode cX11_stack 54 = .ok (.iload 6, 2) := by decide +kernel
theorem dX11_stack_56 : decode cX11_stack 56 = .ok (.ifCond .eq 8, 3) := by decide +kernel
theorem dX11_stack_59 : decode cX11_stack 59 = .ok (.iload 4, 2) := by decide +kernel
theorem dX11_stack_61 : decode cX11_stack 61 = .ok (.goto 4, 3) := by decide +kernel
theorem dX11_stack_64 : decode cX11_stack 64 = .ok (.iload_n 2, 1) := by decide +kernel
theorem dX11_stack_65 : decode cX11_stack 65 = .ok (.istore_n 2, 1) := by decide +kernel
theorem dX11_stack_66 : decode cX11_stack 66 = .ok (.iload 6, 2) := by decide +kernel
theorem dX11_stack_68 : decode cX11_stack 68 = .ok (.ifCond .eq 8, 3) := by decide +kernel
theorem dX11_stack_71 : decode cX11_stack 71 = .ok (.iload 5, 2) := by decide +kernel
theorem dX11_stack_73 : decode cX11_stack 73 = .ok (.goto 4, 3) := by decide +kernel
theorem dX11_stack_76 : decode cX11_stack 76 = .ok (.iload_n 3, 1) := by decide +kernel
theorem dX11_stack_77 : decode cX11_stack 77 = .ok (.istore_n 3, 1) := by decide +kernel
theorem dX11_stack_78 : decode cX11_stack 78 = .ok (.iinc 4 1, 3) := by decide +kernel
theorem dX11_stack_81 : decode cX11_stack 81 = .ok (.goto (-73), 3) := by decide +kernel
theorem dX11_stack_84 : decode cX11_stack 84 = .ok (.iload_n 2, 1) := by decide +kernel
theorem dX11_stack_85 : decode cX11_stack 85 = .ok (.ireturn, 1) := by decide +kernel
set_option maxHeartbeats 8000000 in
set_option maxRecDepth 100000 in
theorem mX11_stack (l : Launch) (G : gG) (da : Nat → Nat) (v : vSt) (x : gX) (r : Nat) (hk_r : kd r = 11) (p1 : Int32) (ho : oX11_stack r p1 v) : QI l yX11_stack cX11_stack 7 (some .int) rmX11_stack [.ref (ga G r), .int p1] (pW G da v x) (fX11_stack r p1 v) := by
  refine gofQ (own := RX11) (by decide) rfl (Nat.le_of_ble_eq_true rfl) (fun p e s m args below meth c ls Q X hH hl E => ?_)
  have hx := X.1
  have hb := X.2.1
  have hown := X.2.2.2.1
  have hts := X.2.2.2.2.1
  have hS : va_S (gA G) s.heap s.heap [] := va_S.rf
  unfold oX11_stack at ho
  have hl : lv_has ls 7 [(0, .ref (ga G r)), (1, .int p1)] := hl
  refine lv_iconst (v := 0) hx hb dX11_stack_0 (by decide) ?_
  refine lv_istore_n (lv' := [(2, .int 0), (0, .ref (ga G r)), (1, .int p1)]) hx hb dX11_stack_1 rfl hl (by decide) rfl (fun ls hl => ?_)
  refine lv_bipush (v := 6) hx hb dX11_stack_2 (by decide) ?_
  refine lv_istore_n (lv' := [(3, .int 6), (2, .int 0), (0, .ref (ga G r)), (1, .int p1)]) hx hb dX11_stack_4 rfl hl (by decide) rfl (fun ls hl => ?_)
  refine lv_iconst (v := 1) hx hb dX11_stack_5 (by decide) ?_
  refine lv_istore (lv' := [(4, .int 1), (3, .int 6), (2, .int 0), (0, .ref (ga G r)), (1, .int p1)]) hx hb dX11_stack_6 hl (by decide) rfl (fun ls hl => ?_)
  have L5 : ∀ (n : Nat) (i1 : Int32) (i2 : Int32) (i3 : Int32) (ls : Array Slot), olX11_stack_8 v r p1 n i1 i2 i3 → lv_has ls 7 [(4, .int i1), (3, .int i2), (2, .int i3), (0, .ref (ga G r)), (1, .int p1)] → (∀ (y4 : Int32) (ls : Array Slot), y4 = (lX11_stack_8 v r p1 n i1 i2 i3 : Int32) → lv_has ls 7 [(2, .int y4)] → W p l e rmX11_stack s m args below meth c s.heap [] 0 0 Q (F0 m 84 ls [])) → W p l e rmX11_stack s m args below meth c s.heap [] 0 0 Q (F0 m 8 ls []) := by
    clear ho
    intro n
    induction n with
    | zero =>
      intro i1 i2 i3 ls ho
      exact ho.elim
    | succ n ih =>
      intro i1 i2 i3 ls ho hl K6
      refine lv_iload hx hb dX11_stack_8 (lv_at hl 0 rfl) ?_
      refine lv_iconst (v := 1) hx hb dX11_stack_10 (by decide) ?_
      refine lv_aload_n hx hb dX11_stack_11 rfl (lv_at hl 3 rfl) ?_
      refine g_VernierDrawersModel_7 X hH hk_r dX11_stack_12 ?_
      refine lv_sipush (v := 204) hx hb dX11_stack_15 (by decide) ?_
      have hq4 := ho.1
      have ho := ho.2
      refine ald_M X hH (Or.inl kd_462) hq4 dX11_stack_18 ?_
      refine lv_ishl hx hb dX11_stack_19 ?_
      refine lv_icmp_ge (tgt := 84) hx hb dX11_stack_20 (by decide) (fun c5 => ?_) (fun c5 => ?_)
      · skip
        exact K6 _ _ (Eq.symm (((lX11_stack_8.eq_2 _ _ _ _ _ _ _)).trans ((if_pos c5).trans rfl))) (lv_sub hl [2] rfl)
      · have ho := ho c5
        refine lv_iload hx hb dX11_stack_23 (lv_at hl 0 rfl) ?_
        have hq6 := ho.1
        have ho := ho.2
        refine k_X11_ones X hS hq6 t_ml_VernierDrawersModel_74 hl.1 (Nat.le_of_ble_eq_true rfl) ⟨Nat.le_of_ble_eq_true rfl, Nat.le_of_ble_eq_true rfl⟩ ⟨Nat.zero_le _, Nat.zero_le _⟩ dX11_stack_25 ?_
        refine lv_istore (lv' := [(5, .int (fX11_ones i1)), (4, .int i1), (3, .int i2), (2, .int i3), (0, .ref (ga G r)), (1, .int p1)]) hx hb dX11_stack_28 hl (by decide) rfl (fun ls hl => ?_)
        refine lv_iload hx hb dX11_stack_30 (lv_at hl 0 rfl) ?_
        refine lv_iload_n hx hb dX11_stack_32 rfl (lv_at hl 2 rfl) ?_
        have K8 : ∀ (y7 : Int32) (ls : Array Slot), y7 = (if (i2 : Int32) ≤ (fX11_ones i1) then 0 else (if ((fX11_sum r i1 0 v) : Int32) = p1 then 1 else 0) : Int32) → lv_has ls 7 [(5, .int (fX11_ones i1)), (4, .int i1), (3, .int i2), (2, .int i3), (0, .ref (ga G r)), (1, .int p1)] → W p l e rmX11_stack s m args below meth c s.heap [] 0 0 Q (F0 m 52 ls [.int y7]) := by
          intro y7 ls ey7 hl
          have ho := ho.2 y7 ey7
          refine lv_istore (lv' := [(6, .int y7), (5, .int (fX11_ones i1)), (4, .int i1), (3, .int i2), (2, .int i3), (0, .ref (ga G r)), (1, .int p1)]) hx hb dX11_stack_52 hl (by decide) rfl (fun ls hl => ?_)
          refine lv_iload hx hb dX11_stack_54 (lv_at hl 0 rfl) ?_
          have K10 : ∀ (y9 : Int32) (ls : Array Slot), y9 = (if (y7 : Int32) = 0 then i3 else i1 : Int32) → lv_has ls 7 [(6, .int y7), (5, .int (fX11_ones i1)), (4, .int i1), (3, .int i2), (0, .ref (ga G r)), (1, .int p1)] → W p l e rmX11_stack s m args below meth c s.heap [] 0 0 Q (F0 m 65 ls [.int y9]) := by
            intro y9 ls ey9 hl
            have ho := ho y9 ey9
            refine lv_istore_n (lv' := [(2, .int y9), (6, .int y7), (5, .int (fX11_ones i1)), (4, .int i1), (3, .int i2), (0, .ref (ga G r)), (1, .int p1)]) hx hb dX11_stack_65 rfl hl (by decide) rfl (fun ls hl => ?_)
            refine lv_iload hx hb dX11_stack_66 (lv_at hl 1 rfl) ?_
            have K12 : ∀ (y11 : Int32) (ls : Array Slot), y11 = (if (y7 : Int32) = 0 then i2 else (fX11_ones i1) : Int32) → lv_has ls 7 [(2, .int y9), (4, .int i1), (0, .ref (ga G r)), (1, .int p1)] → W p l e rmX11_stack s m args below meth c s.heap [] 0 0 Q (F0 m 77 ls [.int y11]) := by
              intro y11 ls ey11 hl
              have ho := ho y11 ey11
              refine lv_istore_n (lv' := [(3, .int y11), (2, .int y9), (4, .int i1), (0, .ref (ga G r)), (1, .int p1)]) hx hb dX11_stack_77 rfl hl (by decide) rfl (fun ls hl => ?_)
              refine lv_iinc (v := i1 + 1) (lv' := [(4, .int (i1 + 1)), (3, .int y11), (2, .int y9), (0, .ref (ga G r)), (1, .int p1)]) hx hb dX11_stack_78 hl (k := 2) rfl rfl (by decide) rfl (fun ls hl => ?_)
              refine lv_goto (tgt := 8) hx hb dX11_stack_81 (by decide) ?_
              replace ey7 := Eq.symm ey7
              replace ey9 := Eq.symm ey9
              replace ey11 := Eq.symm ey11
              subst ey7 ey9 ey11
              exact ih _ _ _ _ ho (lv_sub hl [0, 1, 2, 3, 4] rfl) (fun y4 ls q0 hl => K6 y4 ls (q0.trans (congrArg (fun z : Int32 => z) (Eq.symm (((lX11_stack_8.eq_2 _ _ _ _ _ _ _)).trans ((if_neg c5).trans rfl))))) hl)
            refine lv_if_eq (tgt := 76) hx hb dX11_stack_68 (by decide) (fun c12 => ?_) (fun c12 => ?_)
            · skip
              refine lv_iload_n hx hb dX11_stack_76 rfl (lv_at hl 4 rfl) ?_
              exact K12 _ _ (Eq.symm ((if_pos c12).trans rfl)) (lv_sub hl [0, 3, 5, 6] rfl)
            · skip
              refine lv_iload hx hb dX11_stack_71 (lv_at hl 2 rfl) ?_
              refine lv_goto (tgt := 77) hx hb dX11_stack_73 (by decide) ?_
              exact K12 _ _ (Eq.symm ((if_neg c12).trans rfl)) (lv_sub hl [0, 3, 5, 6] rfl)
          refine lv_if_eq (tgt := 64) hx hb dX11_stack_56 (by decide) (fun c10 => ?_) (fun c10 => ?_)
          · skip
            refine lv_iload_n hx hb dX11_stack_64 rfl (lv_at hl 4 rfl) ?_
            exact K10 _ _ (Eq.symm ((if_pos c10).trans rfl)) (lv_sub hl [0, 1, 2, 3, 5, 6] rfl)
          · skip
            refine lv_iload hx hb dX11_stack_59 (lv_at hl 2 rfl) ?_
            refine lv_goto (tgt := 65) hx hb dX11_stack_61 (by decide) ?_
            exact K10 _ _ (Eq.symm ((if_neg c10).trans rfl)) (lv_sub hl [0, 1, 2, 3, 5, 6] rfl)
        have ho := ho.1
        refine lv_icmp_ge (tgt := 51) hx hb dX11_stack_33 (by decide) (fun c8 => ?_) (fun c8 => ?_)
        · skip
          refine lv_iconst (v := 0) hx hb dX11_stack_51 (by decide) ?_
          exact K8 _ _ (Eq.symm ((if_pos c8).trans rfl)) (lv_sub hl [0, 1, 2, 3, 4, 5] rfl)
        · have ho := ho c8
          refine lv_aload_n hx hb dX11_stack_36 rfl (lv_at hl 4 rfl) ?_
          refine lv_iload hx hb dX11_stack_37 (lv_at hl 1 rfl) ?_
          refine lv_iconst (v := 0) hx hb dX11_stack_39 (by decide) ?_
          have hq9 := ho
          refine k_X11_sum X hS hH hk_r hq9 t_ml_VernierDrawersModel_77 hl.1 (Nat.le_of_ble_eq_true rfl) ⟨Nat.le_of_ble_eq_true rfl, Nat.le_of_ble_eq_true rfl⟩ ⟨Nat.zero_le _, Nat.zero_le _⟩ dX11_stack_40 ?_
          refine lv_iload_n hx hb dX11_stack_43 rfl (lv_at hl 5 rfl) ?_
          refine lv_icmp_ne (tgt := 51) hx hb dX11_stack_44 (by decide) (fun c10 => ?_) (fun c10 => ?_)
          · skip
            refine lv_iconst (v := 0) hx hb dX11_stack_51 (by decide) ?_
            exact K8 _ _ (Eq.symm ((if_neg c8).trans ((if_neg c10).trans rfl))) (lv_sub hl [0, 1, 2, 3, 4, 5] rfl)
          · skip
            refine lv_iconst (v := 1) hx hb dX11_stack_47 (by decide) ?_
            refine lv_goto (tgt := 52) hx hb dX11_stack_48 (by decide) ?_
            exact K8 _ _ (Eq.symm ((if_neg c8).trans ((if_pos c10).trans rfl))) (lv_sub hl [0, 1, 2, 3, 4, 5] rfl)
  have hol := ho
  refine L5 ((Int32.toInt ((1 <<< ((v 462 (204 : Int32).toNatClampNeg) &&& 31))) - Int32.toInt 1).toNat + 1) 1 6 0 _ hol (lv_sub hl [0, 1, 2, 3, 4] rfl) (fun y4 ls ey4 hl => ?_)
  refine lv_iload_n hx hb dX11_stack_84 rfl (lv_at hl 0 rfl) ?_
  replace ey4 := Eq.symm ey4
  subst ey4
  exact E _ _ _ dX11_stack_85 rfl (Eq.symm rfl)
theorem k_X11_stack {p : Program} {l : Launch} {e : Env} {R : Room} {s : State} {m : MethodId} {args : Array Value} {below : List Frame} {meth : Method} {c : Code} {H : Heap} {locs : List Loc} {cells slots : Nat} {Q : State → Prop} {cc : ByteArray} {pc nL : Nat} {ls : Array Slot} {rest : List Value} {G : gG} {own : String} {da : Nat → Nat} {v : vSt} {x : gX} (X : CX G p s m args c cc nL own) (hS : va_S (gA G) s.heap H locs) (hH : Hp G da v x H) {r : Nat} (hk_r : kd r = 11) {p1 : Int32} (ho : oX11_stack r p1 v) {idx : Nat} (hml : Cond.methodLink own idx yX11_stack ∈ TT) (hls : ls.size = nL) (hsum : (rest.map fun v => v.category).sum ≤ 8) (hR : rmX11_stack.frames + 1 ≤ R.frames ∧ 8 + (7 + 11) + rmX11_stack.locals ≤ R.locals) (hcs : cells ≤ R.cells ∧ slots ≤ R.slots) (hdg : decode cc pc = .ok (.invokevirtual idx, 3)) (kk : W p l e R s m args below meth c H locs cells slots Q (F0 m (pc + 3) ls (.int (fX11_stack r p1 v) :: rest))) : W p l e R s m args below meth c H locs cells slots Q (F0 m pc ls (.int p1 :: .ref (ga G r) :: rest)) := c_qi (runV (k := 1) X.1 X.2.1 X.2.2.1 X.2.2.2.1 X.2.2.2.2.1 (mX11_stack l G da v x r hk_r p1 ho) pW_bl hml t_im_X11_stack t_sel_X11_stack t_ini_VernierDrawersModel t_code_X11_stack ⟨rfl, by decide, by decide, by decide +kernel⟩ rfl rfl hR hcs (recvW X hH (by rw [hk_r]; decide) (by rw [hk_r]; decide) (ce_11 hk_r) rfl) (preW X hS hH) rfl hls rfl hsum hdg) (fun _ h => h ▸ kk)
