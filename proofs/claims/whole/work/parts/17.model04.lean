/-! 17.model -/
def fX11_truly (r : Nat) (p1 : Int32) (v : vSt) : Int32 := ((fX11_sum r p1 0 v) + (fX11_sum r p1 1 v)) + (((fX11_ones p1) - 1) / 2)
def oX11_truly (r : Nat) (p1 : Int32) (v : vSt) : Prop := (oX11_sum r p1 0 v) ∧ ((oX11_sum r p1 1 v) ∧ (oX11_ones p1))
abbrev rmX11_truly : Room := { frames := 2, cells := 0, slots := 0, locals := 46 }
theorem dX11_truly_0 : decode cX11_truly 0 = .ok (.aload_n 0, 1) := by decide +kernel
theorem dX11_truly_1 : decode cX11_truly 1 = .ok (.iload_n 1, 1) := by decide +kernel
theorem dX11_truly_2 : decode cX11_truly 2 = .ok (.iconst 0, 1) := by decide +kernel
theorem dX11_truly_3 : decode cX11_truly 3 = .ok (.invokevirtual 77, 3) := by decide +kernel
theorem dX11_truly_6 : decode cX11_truly 6 = .ok (.aload_n 0, 1) := by decide +kernel
theorem dX11_truly_7 : decode cX11_truly 7 = .ok (.iload_n 1, 1) := by decide +kernel
theorem dX11_truly_8 : decode cX11_truly 8 = .ok (.iconst 1, 1) := by decide +kernel
theorem dX11_truly_9 : decode cX11_truly 9 = .ok (.invokevirtual 77, 3) := by decide +kernel
theorem dX11_truly_12 : decode cX11_truly 12 = .ok (.iadd, 1) := by decide +kernel
theorem dX11_truly_13 : decode cX11_truly 13 = .ok (.iload_n 1, 1) := by decide +kernel
theorem dX11_truly_14 : decode cX11_truly 14 = .ok (.invokestatic 74, 3) := by decide +kernel
theorem dX11_truly_17 : decode cX11_truly 17 = .ok (.iconst 1, 1) := by decide +kernel
theorem dX11_truly_18 : decode cX11_truly 18 = .ok (.isub, 1) := by decide +kernel
theorem dX11_truly_19 : decode cX11_truly 19 = .ok (.iconst 2, 1) := by decide +kernel
theorem dX11_truly_20 : decode cX11_truly 20 = .ok (.idiv, 1) := by decide +kernel
theorem dX11_truly_21 : decode cX11_truly 21 = .ok (.iadd, 1) := by decide +kernel
theorem dX11_truly_22 : decode cX11_truly 22 = .ok (.ireturn, 1) := by decide +kernel
set_option maxHeartbeats 8000000 in
set_option maxRecDepth 100000 in
theorem mX11_truly (l : Launch) (G : gG) (da : Nat → Nat) (v : vSt) (x : gX) (r : Nat) (hk_r : kd r = 11) (p1 : Int32) (ho : oX11_truly r p1 v) : QI l yX11_truly cX11_truly 2 (some .int) rmX11_truly [.ref (ga G r), .int p1] (pW G da v x) (fX11_truly r p1 v) := by
  refine gofQ (own := RX11) (by decide) rfl (Nat.le_of_ble_eq_true rfl) (fun p e s m args below meth c ls Q X hH hl E => ?_)
  have hx := X.1
  have hb := X.2.1
  have hown := X.2.2.2.1
  have hts := X.2.2.2.2.1
  have hS : va_S (gA G) s.heap s.heap [] := va_S.rf
  unfold oX11_truly at ho
  have hl : lv_has ls 2 [(0, .ref (ga G r)), (1, .int p1)] := hl
  refine lv_aload_n hx hb dX11_truly_0 rfl (lv_at hl 0 rfl) ?_
  refine lv_iload_n hx hb dX11_truly_1 rfl (lv_at hl 1 rfl) ?_
  refine lv_iconst (v := 0) hx hb dX11_truly_2 (by decide) ?_
  have hq1 := ho.1
  have ho := ho.2
  refine k_X11_sum X hS hH hk_r hq1 t_ml_VernierDrawersModel_77 hl.1 (Nat.le_of_ble_eq_true rfl) ⟨Nat.le_of_ble_eq_true rfl, Nat.le_of_ble_eq_true rfl⟩ ⟨Nat.zero_le _, Nat.zero_le _⟩ dX11_truly_3 ?_
  refine lv_aload_n hx hb dX11_truly_6 rfl (lv_at hl 0 rfl) ?_
  refine lv_iload_n hx hb dX11_truly_7 rfl (lv_at hl 1 rfl) ?_
  refine lv_iconst (v := 1) hx hb dX11_truly_8 (by decide) ?_
  have hq2 := ho.1
  have ho := ho.2
  refine k_X11_sum X hS hH hk_r hq2 t_ml_VernierDrawersModel_77 hl.1 (Nat.le_of_ble_eq_true rfl) ⟨Nat.le_of_ble_eq_true rfl, Nat.le_of_ble_eq_true rfl⟩ ⟨Nat.zero_le _, Nat.zero_le _⟩ dX11_truly_9 ?_
  refine lv_iadd hx hb dX11_truly_12 ?_
  refine lv_iload_n hx hb dX11_truly_13 rfl (lv_at hl 1 rfl) ?_
  have hq3 := ho
  refine k_X11_ones X hS hq3 t_ml_VernierDrawersModel_74 hl.1 (Nat.le_of_ble_eq_true rfl) ⟨Nat.le_of_ble_eq_true rfl, Nat.le_of_ble_eq_true rfl⟩ ⟨Nat.zero_le _, Nat.zero_le _⟩ dX11_truly_14 ?_
  refine lv_iconst (v := 1) hx hb dX11_truly_17 (by decide) ?_
  refine lv_isub hx hb dX11_truly_18 ?_
  refine lv_iconst (v := 2) hx hb dX11_truly_19 (by decide) ?_
  refine lv_idiv hx hb dX11_truly_20 (by decide) ?_
  refine lv_iadd hx hb dX11_truly_21 ?_
  exact E _ _ _ dX11_truly_22 rfl (Eq.symm rfl)
theorem k_X11_truly {p : Program} {l : Launch} {e : Env} {R : Room} {s : State} {m : MethodId} {args : Array Value} {below : List Frame} {meth : Method} {c : Code} {H : Heap} {locs : List Loc} {cells slots : Nat} {Q : State → Prop} {cc : ByteArray} {pc nL : Nat} {ls : Array Slot} {rest : List Value} {G : gG} {own : String} {da : Nat → Nat} {v : vSt} {x : gX} (X : CX G p s m args c cc nL own) (hS : va_S (gA G) s.heap H locs) (hH : Hp G da v x H) {r : Nat} (hk_r : kd r = 11) {p1 : Int32} (ho : oX11_truly r p1 v) {idx : Nat} (hml : Cond.methodLink own idx yX11_truly ∈ TT) (hls : ls.size = nL) (hsum : (rest.map fun v => v.category).sum ≤ 8) (hR : rmX11_truly.frames + 1 ≤ R.frames ∧ 8 + (2 + 11) + rmX11_truly.locals ≤ R.locals) (hcs : cells ≤ R.cells ∧ slots ≤ R.slots) (hdg : decode cc pc = .ok (.invokevirtual idx, 3)) (kk : W p l e R s m args below meth c H locs cells slots Q (F0 m (pc + 3) ls (.int (fX11_truly r p1 v) :: rest))) : W p l e R s m args below meth c H locs cells slots Q (F0 m pc ls (.int p1 :: .ref (ga G r) :: rest)) := c_qi (runV (k := 1) X.1 X.2.1 X.2.2.1 X.2.2.2.1 X.2.2.2.2.1 (mX11_truly l G da v x r hk_r p1 ho) pW_bl hml t_im_X11_truly t_sel_X11_truly t_ini_VernierDrawersModel t_code_X11_truly ⟨rfl, by decide, by decide, by decide +kernel⟩ rfl rfl hR hcs (recvW X hH (by rw [hk_r]; decide) (by rw [hk_r]; decide) (ce_11 hk_r) rfl) (preW X hS hH) rfl hls rfl hsum hdg) (fun _ h => h ▸ kk)
def lX11_usesBlocks_2 (p1 : Int32) : Nat → Int32 → vSt → vSt
  | 0, i1, v2 => v2
  | n + 1, i1, v2 => if ((v2 462 (204 : Int32).toNatClampNeg) : Int32) ≤ i1 then v2 else (let v5 : vSt := (if (((p1 >>> (i1 &&& 31)) &&& 1) : Int32) = 1 then (let v8 : vSt := u2 v2 462 ((48 + (3 * i1)) + 2 : Int32).toNatClampNeg ((v2 462 ((48 + (3 * i1)) + 2 : Int32).toNatClampNeg) + 1); let y9 : Int32 := (if (((v8 462 ((48 + (3 * i1)) + 2 : Int32).toNatClampNeg) - (v8 462 ((48 + (3 * i1)) + 2 : Int32).toNatClampNeg) / 10 * 10) : Int32) = 0 then (fX11_more (-9) ((v8 462 ((48 + (3 * i1)) + 1 : Int32).toNatClampNeg) - 1)) else (v8 462 ((48 + (3 * i1)) + 1 : Int32).toNatClampNeg) : Int32); let v12 : vSt := u2 v8 462 ((48 + (3 * i1)) + 1 : Int32).toNatClampNeg y9; v12) else v2 : vSt); lX11_usesBlocks_2 p1 n (i1 + 1) v5)
def olX11_usesBlocks_2 (p1 : Int32) : Nat → Int32 → vSt → Prop
  | 0, _, _ => False
  | n + 1, i1, v2 => (vp_in (204) (mlen 462)) ∧ (¬ (((v2 462 (204 : Int32).toNatClampNeg) : Int32) ≤ i1) → ((((((p1 >>> (i1 &&& 31)) &&& 1) : Int32) = 1) → ((vp_in ((48 + (3 * i1)) + 2) (mlen 462)) ∧ (∀ v8 : vSt, v8 = (u2 v2 462 ((48 + (3 * i1)) + 2 : Int32).toNatClampNeg ((v2 462 ((48 + (3 * i1)) + 2 : Int32).toNatClampNeg) + 1)) → (((((((v8 462 ((48 + (3 * i1)) + 2 : Int32).toNatClampNeg) - (v8 462 ((48 + (3 * i1)) + 2 : Int32).toNatClampNeg) / 10 * 10) : Int32) = 0) → (vp_in ((48 + (3 * i1)) + 1) (mlen 462))) ∧ (¬ ((((v8 462 ((48 + (3 * i1)) + 2 : Int32).toNatClampNeg) - (v8 462 ((48 + (3 * i1)) + 2 : Int32).toNatClampNeg) / 10 * 10) : Int32) = 0) → (vp_in ((48 + (3 * i1)) + 1) (mlen 462)))) ∧ (∀ (y9 : Int32), y9 = ((if (((v8 462 ((48 + (3 * i1)) + 2 : Int32).toNatClampNeg) - (v8 462 ((48 + (3 * i1)) + 2 : Int32).toNatClampNeg) / 10 * 10) : Int32) = 0 then (fX11_more (-9) ((v8 462 ((48 + (3 * i1)) + 1 : Int32).toNatClampNeg) - 1)) else (v8 462 ((48 + (3 * i1)) + 1 : Int32).toNatClampNeg) : Int32) : Int32) → (vp_in ((48 + (3 * i1)) + 1) (mlen 462))))))) ∧ (∀ (v5 : vSt), v5 = ((if (((p1 >>> (i1 &&& 31)) &&& 1) : Int32) = 1 then (let v8 : vSt := u2 v2 462 ((48 + (3 * i1)) + 2 : Int32).toNatClampNeg ((v2 462 ((48 + (3 * i1)) + 2 : Int32).toNatClampNeg) + 1); let y9 : Int32 := (if (((v8 462 ((48 + (3 * i1)) + 2 : Int32).toNatClampNeg) - (v8 462 ((48 + (3 * i1)) + 2 : Int32).toNatClampNeg) / 10 * 10) : Int32) = 0 then (fX11_more (-9) ((v8 462 ((48 + (3 * i1)) + 1 : Int32).toNatClampNeg) - 1)) else (v8 462 ((48 + (3 * i1)) + 1 : Int32).toNatClampNeg) : Int32); let v12 : vSt := u2 v8 462 ((48 + (3 * i1)) + 1 : Int32).toNatClampNeg y9; v12) else v2 : vSt) : vSt) → (olX11_usesBlocks_2 p1 n (i1 + 1) v5))))
def fX11_usesBlocks (r : Nat) (p1 : Int32) (v : vSt) : vSt := let v3 : vSt := (lX11_usesBlocks_2 p1 ((Int32.toInt ((v 462 (204 : Int32).toNatClampNeg)) - Int32.toInt 0).toNat + 1) 0 v); v3
def oX11_usesBlocks (r : Nat) (p1 : Int32) (v : vSt) : Prop := olX11_usesBlocks_2 p1 ((Int32.toInt ((v 462 (204 : Int32).toNatClampNeg)) - Int32.toInt 0).toNat + 1) 0 v
abbrev rmX11_usesBlocks : Room := { frames := 1, cells := 0, slots := 0, locals := 21 }
theorem dX11_usesBlocks_0 : decode cX11_usesBlocks 0 = .ok (.iconst 0, 1) := by decide +kernel
theorem dX11_usesBlocks_1 : decode cX11_usesBlocks 1 = .ok (.istore_n 2, 1) := by decide +kernel
theorem dX11_usesBlocks_2 : decode cX11_usesBlocks 2 = .ok (.iload_n 2, 1) := by decide +kernel
theorem dX11_usesBlocks_3 : decode cX11_usesBlocks 3 = .ok (.aload_n 0, 1) := by decide +kernel
theorem dX11_usesBlocks_4 : decode cX11_usesBlocks 4 = .ok (.getfield 7, 3) := by decide +kernel
theorem dX11_usesBlocks_7 : decode cX11_usesBlocks 7 = .ok (.sipush 204, 3) := by decide +kernel
theorem dX11_usesBlocks_10 : decode cX11_usesBlocks 10 = .ok (.iaload, 1) := by decide +kernel
theorem dX11_usesBlocks_11 : decode cX11_usesBlocks 11 = .ok (.if_icmp .ge 85, 3) := by decide +kernel
theorem dX11_usesBlocks_14 : decode cX11_usesBlocks 14 = .ok (.iload_n 1, 1) := by decide +kernel
theorem dX11_usesBlocks_15 : decode cX11_usesBlocks 15 = .ok (.iload_n 2, 1) := by decide +kernel
theorem dX11_usesBlocks_16 : decode cX11_usesBlocks 16 = .ok (.ishr, 1) := by decide +kernel
theorem dX11_usesBlocks_17 : decode cX11_usesBlocks 17 = .ok (.iconst 1, 1) := by decide +kernel
theorem dX11_usesBlocks_18 : decode cX11_usesBlocks 18 = .ok (.iand, 1) := by decide +kernel
theorem dX11_usesBlocks_19 : decode cX11_usesBlocks 19 = .ok (.iconst 1, 1) := by decide +kernel
theorem dX11_usesBlocks_20 : decode cX11_usesBlocks 20 = .ok (.if_icmp .ne 70, 3) := by decide +kernel
theorem dX11_usesBlocks_23 : decode cX11_usesBlocks 23 = .ok (.bipush 48, 2) := by decide +kernel
theorem dX11_usesBlocks_25 : decode cX11_usesBlocks 25 = .ok (.iconst 3, 1) := by decide +kernel
theorem dX11_usesBlocks_26 : decode cX11_usesBlocks 26 = .ok (.iload_n 2, 1) := by decide +kernel
theorem dX11_usesBlocks_27 : decode cX11_usesBlocks 27 = .ok (.imul, 1) := by decide +kernel
theorem dX11_usesBlocks_28 : decode cX11_usesBlocks 28 = .ok (.iadd, 1) := by decide +kernel
theorem dX11_usesBlocks_29 : decode cX11_usesBlocks 29 = .ok (.istore_n 3, 1) := by decide +kernel
theorem dX11_usesBlocks_30 : decode cX11_usesBlocks 30 = .ok (.aload_n 0, 1) := by decide +kernel
theorem dX11_usesBlocks_31 : decode cX11_usesBlocks 31 = .ok (.getfield 7, 3) := by decide +kernel
theorem dX11_usesBlocks_34 : decode cX11_usesBlocks 34 = .ok (.iload_n 3, 1) := by decide +kernel
theorem dX11_usesBlocks_35 : decode cX11_usesBlocks 35 = .ok (.iconst 2, 1) := by decide +kernel
theorem dX11_usesBlocks_36 : decode cX11_usesBlocks 36 = .ok (.iadd, 1) := by decide +kernel
theorem dX11_usesBlocks_37 : decode cX11_usesBlocks 37 = .ok (.dup2, 1) := by decide +kernel
theorem dX11_usesBlocks_38 : decode cX11_usesBlocks 38 = .ok (.iaload, 1) := by decide +kernel
theorem dX11_usesBlocks_39 : decode cX11_usesBlocks 39 = .ok (.iconst 1, 1) := by decide +kernel
theorem dX11_usesBlocks_40 : decode cX11_usesBlocks 40 = .ok (.iadd, 1) := by decide +kernel
theorem dX11_usesBlocks_41 : decode cX11_usesBlocks 41 = .ok (.iastore, 1) := by decide +kernel
theorem dX11_usesBlocks_42 : decode cX11_usesBlocks 42 = .ok (.aload_n 0, 1) := by decide +kernel
theorem dX11_usesBlocks_43 : decode cX11_usesBlocks 43 = .ok (.getfield 7, 3) := by decide +kernel
theorem dX11_usesBlocks_46 : decode cX11_usesBlocks 46 = .ok (.iload_n 3, 1) := by decide +kernel
theorem dX11_usesBlocks_47 : decode cX11_usesBlocks 47 = .ok (.iconst 1, 1) := by decide +kernel
theorem dX11_usesBlocks_48 : decode cX11_usesBlocks 48 = .ok (.iadd, 1) := by decide +kernel
theorem dX11_usesBlocks_49 : decode cX11_usesBlocks 49 = .ok (.aload_n 0, 1) := by decide +kernel
theorem dX11_usesBlocks_50 : decode cX11_usesBlocks 50 = .ok (.getfield 7, 3) := by decide +kernel
theorem dX11_usesBlocks_53 : decode cX11_usesBlocks 53 = .ok (.iload_n 3, 1) := by decide +kernel
theorem dX11_usesBlocks_54 : decode cX11_usesBlocks 54 = .ok (.iconst 2, 1) := by decide +kernel
theorem dX11_usesBlocks_55 : decode cX11_usesBlocks 55 = .ok (.iadd, 1) := by decide +kernel
theorem dX11_usesBlocks_56 : decode cX11_usesBlocks 56 = .ok (.iaload, 1) := by decide +kernel
theorem dX11_usesBlocks_57 : decode cX11_usesBlocks 57 = .ok (.bipush 10, 2) := by decide +kernel
theorem dX11_usesBlocks_59 : decode cX11_usesBlocks 59 = .ok (.irem, 1) := by decide +kernel
theorem dX11_usesBlocks_60 : decode cX11_usesBlocks 60 = .ok (.ifCond .ne 21, 3) := by decide +kernel
theorem dX11_usesBlocks_63 : decode cX11_usesBlocks 63 = .ok (.bipush (-9), 2) := by decide +kernel
theorem dX11_usesBlocks_65 : decode cX11_usesBlocks 65 = .ok (.aload_n 0, 1) := by decide +kernel
theorem dX11_usesBlocks_66 : decode cX11_usesBlocks 66 = .ok (.getfield 7, 3) := by decide +kernel
theorem dX11_usesBlocks_69 : decode cX11_usesBlocks 69 = .ok (.iload_n 3, 1) := by decide +kernel
theorem dX11_usesBlocks_70 : decode cX11_usesBlocks 70 = .ok (.iconst 1, 1) := by decide +kernel
theorem dX11_usesBlocks_71 : decode cX11_usesBlocks 71 = .ok (.iadd, 1) := by decide +kernel
theorem dX11_usesBlocks_72 : decode cX11_usesBlocks 72 = .ok (.iaload, 1) := by decide +kernel
theorem dX11_usesBlocks_73 : decode cX11_usesBlocks 73 = .ok (.iconst 1, 1) := by decide +kernel
theorem dX11_usesBlocks_74 : decode cX11_usesBlocks 74 = .ok (.isub, 1) := by decide +kernel
theorem dX11_usesBlocks_75 : decode cX11_usesBlocks 75 = .ok (.invokestatic 80, 3) := by decide +kernel
theorem dX11_usesBlocks_78 : decode cX11_usesBlocks 78 = .ok (.goto 11, 3) := by decide +kernel
theorem dX11_usesBlocks_81 : decode cX11_usesBlocks 81 = .ok (.aload_n 0, 1) := by decide +kernel
theorem dX11_usesBlocks_82 : decode cX11_usesBlocks 82 = .ok (.getfield 7, 3) := by decide +kernel
theorem dX11_usesBlocks_85 : decode cX11_usesBlocks 85 = .ok (.iload_n 3, 1) := by decide +kernel
theorem dX11_usesBlocks_86 : decode cX11_usesBlocks 86 = .ok (.iconst 1, 1) := by decide +kernel
theorem dX11_usesBlocks_87 : decode cX11_usesBlocks 87 = .ok (.iadd, 1) := by decide +kernel
theorem dX11_usesBlocks_88 : decode cX11_usesBlocks 88 = .ok (.iaload, 1) := by decide +kernel
theorem dX11_usesBlocks_89 : decode cX11_usesBlocks 89 = .ok (.iastore, 1) := by decide +kernel
theorem dX11_usesBlocks_90 : decode cX11_usesBlocks 90 = .ok (.iinc 2 1, 3) := by decide +kernel
theorem dX11_usesBlocks_93 : decode cX11_usesBlocks 93 = .ok (.goto (-91), 3) := by decide +kernel
theorem dX11_usesBlocks_96 : decode cX11_usesBlocks 96 = .ok (.return_, 1) := by decide +kernel
set_option maxHeartbeats 8000000 in
set_option maxRecDepth 100000 in
theorem mX11_usesBlocks (l : Launch) (G : gG) (da : Nat → Nat) (v : vSt) (x : gX) (r : Nat) (hk_r : kd r = 11) (p1 : Int32) (ho : oX11_usesBlocks r p1 v) : MV l yX11_usesBlocks cX11_usesBlocks 4 none rmX11_usesBlocks [.ref (ga G r), .int p1] G da v x 0 0 (fX11_usesBlocks r p1 v) x := by
  refine gofMV (own := RX11) (by decide) rfl (Nat.le_of_ble_eq_true rfl) (fun p e s m args below meth c ls Q X hH hl E => ?_)
  have hx := X.1
  have hb := X.2.1
  have hown := X.2.2.2.1
  have hts := X.2.2.2.2.1
  have hS : va_S (gA G) s.heap s.heap [] := va_S.rf
  unfold oX11_usesBlocks at ho
  have hl : lv_has ls 4 [(0, .ref (ga G r)), (1, .int p1)] := hl
  refine lv_iconst (v := 0) hx hb dX11_usesBlocks_0 (by decide) ?_
  refine lv_istore_n (lv' := [(2, .int 0), (0, .ref (ga G r)), (1, .int p1)]) hx hb dX11_usesBlocks_1 rfl hl (by decide) rfl (fun ls hl => ?_)
  have L4 : ∀ (n : Nat) (i1 : Int32) (v2 : vSt) (da : Nat → Nat) (H : Heap) (locs : List Loc) (ls : Array Slot), olX11_usesBlocks_2 p1 n i1 v2 → Hp G da v2 x H → va_S (gA G) s.heap H locs → lv_has ls 4 [(2, .int i1), (0, .ref (ga G r)), (1, .int p1)] → (∀ (v3 : vSt) (da : Nat → Nat) (H : Heap) (locs : List Loc) (ls : Array Slot), v3 = (lX11_usesBlocks_2 p1 n i1 v2 : vSt) → Hp G da v3 x H → va_S (gA G) s.heap H locs → lv_has ls 4 [] → W p l e rmX11_usesBlocks s m args below meth c H locs 0 0 Q (F0 m 96 ls [])) → W p l e rmX11_usesBlocks s m args below meth c H locs 0 0 Q (F0 m 2 ls []) := by
    clear ho
    intro n
    induction n with
    | zero =>
      intro i1 v2 da H locs ls ho
      exact ho.elim
    | succ n ih =>
      intro i1 v2 da H locs ls ho hH hS hl K5
      refine lv_iload_n hx hb dX11_usesBlocks_2 rfl (lv_at hl 0 rfl) ?_
      refine lv_aload_n hx hb dX11_usesBlocks_3 rfl (lv_at hl 1 rfl) ?_
      refine g_VernierDrawersModel_7 X hH hk_r dX11_usesBlocks_4 ?_
      refine lv_sipush (v := 204) hx hb dX11_usesBlocks_7 (by decide) ?_
      have hq3 := ho.1
      have ho := ho.2
      refine ald_M X hH (Or.inl kd_462) hq3 dX11_usesBlocks_10 ?_
      refine lv_icmp_ge (tgt := 96) hx hb dX11_usesBlocks_11 (by decide) (fun c4 => ?_) (fun c4 => ?_)
      · skip
        exact K5 _ _ _ _ _ (Eq.symm (((lX11_usesBlocks_2.eq_2 _ _ _ _)).trans ((if_pos c4).trans rfl))) hH hS (lv_sub hl [] rfl)
      · have ho := ho c4
        refine lv_iload_n hx hb dX11_usesBlocks_14 rfl (lv_at hl 2 rfl) ?_
        refine lv_iload_n hx hb dX11_usesBlocks_15 rfl (lv_at hl 0 rfl) ?_
        refine lv_ishr hx hb dX11_usesBlocks_16 ?_
        refine lv_iconst (v := 1) hx hb dX11_usesBlocks_17 (by decide) ?_
        refine lv_iand hx hb dX11_usesBlocks_18 ?_
        refine lv_iconst (v := 1) hx hb dX11_usesBlocks_19 (by decide) ?_
        have K6 : ∀ (v5 : vSt) (da : Nat → Nat) (H : Heap) (locs : List Loc) (ls : Array Slot), v5 = (if (((p1 >>> (i1 &&& 31)) &&& 1) : Int32) = 1 then (let v8 : vSt := u2 v2 462 ((48 + (3 * i1)) + 2 : Int32).toNatClampNeg ((v2 462 ((48 + (3 * i1)) + 2 : Int32).toNatClampNeg) + 1); let y9 : Int32 := (if (((v8 462 ((48 + (3 * i1)) + 2 : Int32).toNatClampNeg) - (v8 462 ((48 + (3 * i1)) + 2 : Int32).toNatClampNeg) / 10 * 10) : Int32) = 0 then (fX11_more (-9) ((v8 462 ((48 + (3 * i1)) + 1 : Int32).toNatClampNeg) - 1)) else (v8 462 ((48 + (3 * i1)) + 1 : Int32).toNatClampNeg) : Int32); let v12 : vSt := u2 v8 462 ((48 + (3 * i1)) + 1 : Int32).toNatClampNeg y9; v12) else v2 : vSt) → Hp G da v5 x H → va_S (gA G) s.heap H locs → lv_has ls 4 [(2, .int i1), (0, .ref (ga G r)), (1, .int p1)] → W p l e rmX11_usesBlocks s m args below meth c H locs 0 0 Q (F0 m 90 ls []) := by
          intro v5 da H locs ls ev5 hH hS hl
          have ho := ho.2 v5 ev5
          refine lv_iinc (v := i1 + 1) (lv' := [(2, .int (i1 + 1)), (0, .ref (ga G r)), (1, .int p1)]) hx hb dX11_usesBlocks_90 hl (k := 0) rfl rfl (by decide) rfl (fun ls hl => ?_)
          refine lv_goto (tgt := 2) hx hb dX11_usesBlocks_93 (by decide) ?_
          replace ev5 := Eq.symm ev5
          subst ev5
          exact ih _ _ _ _ _ _ ho hH hS (lv_sub hl [0, 1, 2] rfl) (fun v3 da H locs ls q0 hH hS hl => K5 v3 da H locs ls (q0.trans (congrArg (fun z : vSt => z) (Eq.symm (((lX11_usesBlocks_2.eq_2 _ _ _ _)).trans ((if_neg c4).trans rfl))))) hH hS hl)
        have ho := ho.1
        refine lv_icmp_ne (tgt := 90) hx hb dX11_usesBlocks_20 (by decide) (fun c6 => ?_) (fun c6 => ?_)
        · skip
          exact K6 _ _ _ _ _ (Eq.symm ((if_neg c6).trans rfl)) hH hS (lv_sub hl [0, 1, 2] rfl)
        · have ho := ho c6
          refine lv_bipush (v := 48) hx hb dX11_usesBlocks_23 (by decide) ?_
          refine lv_iconst (v := 3) hx hb dX11_usesBlocks_25 (by decide) ?_
          refine lv_iload_n hx hb dX11_usesBlocks_26 rfl (lv_at hl 0 rfl) ?_
          refine lv_imul hx hb dX11_usesBlocks_27 ?_
          refine lv_iadd hx hb dX11_usesBlocks_28 ?_
          refine lv_istore_n (lv' := [(3, .int (48 + (3 * i1))), (2, .int i1), (0, .ref (ga G r)), (1, .int p1)]) hx hb dX11_usesBlocks_29 rfl hl (by decide) rfl (fun ls hl => ?_)
          refine lv_aload_n hx hb dX11_usesBlocks_30 rfl (lv_at hl 2 rfl) ?_
          refine g_VernierDrawersModel_7 X hH hk_r dX11_usesBlocks_31 ?_
          refine lv_iload_n hx hb dX11_usesBlocks_34 rfl (lv_at hl 0 rfl) ?_
          refine lv_iconst (v := 2) hx hb dX11_usesBlocks_35 (by decide) ?_
          refine lv_iadd hx hb dX11_usesBlocks_36 ?_
          refine lv_dup2_11 hx hb dX11_usesBlocks_37 rfl rfl ?_
          have hq7 := ho.1
          have ho := ho.2
          refine ald_M X hH (Or.inl kd_462) hq7 dX11_usesBlocks_38 ?_
          refine lv_iconst (v := 1) hx hb dX11_usesBlocks_39 (by decide) ?_
          refine lv_iadd hx hb dX11_usesBlocks_40 ?_
          refine ast_M X hH hS (Or.inl kd_462) hq7 dX11_usesBlocks_41 (fun H locs v8 ev8 hH hS => ?_)
          have ho := ho v8 ev8
          refine lv_aload_n hx hb dX11_usesBlocks_42 rfl (lv_at hl 2 rfl) ?_
          refine g_VernierDrawersModel_7 X hH hk_r dX11_usesBlocks_43 ?_
          refine lv_iload_n hx hb dX11_usesBlocks_46 rfl (lv_at hl 0 rfl) ?_
          refine lv_iconst (v := 1) hx hb dX11_usesBlocks_47 (by decide) ?_
          refine lv_iadd hx hb dX11_usesBlocks_48 ?_
          refine lv_aload_n hx hb dX11_usesBlocks_49 rfl (lv_at hl 2 rfl) ?_
          refine g_VernierDrawersModel_7 X hH hk_r dX11_usesBlocks_50 ?_
          refine lv_iload_n hx hb dX11_usesBlocks_53 rfl (lv_at hl 0 rfl) ?_
          refine lv_iconst (v := 2) hx hb dX11_usesBlocks_54 (by decide) ?_
          refine lv_iadd hx hb dX11_usesBlocks_55 ?_
          refine ald_M X hH (Or.inl kd_462) hq7 dX11_usesBlocks_56 ?_
          refine lv_bipush (v := 10) hx hb dX11_usesBlocks_57 (by decide) ?_
          refine lv_irem hx hb dX11_usesBlocks_59 (by decide) ?_
          have K10 : ∀ (y9 : Int32) (ls : Array Slot), y9 = (if (((v8 462 ((48 + (3 * i1)) + 2 : Int32).toNatClampNeg) - (v8 462 ((48 + (3 * i1)) + 2 : Int32).toNatClampNeg) / 10 * 10) : Int32) = 0 then (fX11_more (-9) ((v8 462 ((48 + (3 * i1)) + 1 : Int32).toNatClampNeg) - 1)) else (v8 462 ((48 + (3 * i1)) + 1 : Int32).toNatClampNeg) : Int32) → lv_has ls 4 [(2, .int i1), (0, .ref (ga G r)), (1, .int p1)] → W p l e rmX11_usesBlocks s m args below meth c H locs 0 0 Q (F0 m 89 ls [.int y9, .int ((48 + (3 * i1)) + 1), .ref (ga G 462)]) := by
            intro y9 ls ey9 hl
            have ho := ho.2 y9 ey9
            have hq11 := ho
            refine ast_M X hH hS (Or.inl kd_462) hq11 dX11_usesBlocks_89 (fun H locs v12 ev12 hH hS => ?_)
            replace ev8 := Eq.symm ev8
            replace ey9 := Eq.symm ey9
            replace ev12 := Eq.symm ev12
            subst ev8 ey9 ev12
            exact K6 _ _ _ _ _ (Eq.symm ((if_pos c6).trans rfl)) hH hS (lv_sub hl [0, 1, 2] rfl)
          have ho := ho.1
          refine lv_if_ne (tgt := 81) hx hb dX11_usesBlocks_60 (by decide) (fun c10 => ?_) (fun c10 => ?_)
          · have ho := ho.2 c10
            refine lv_aload_n hx hb dX11_usesBlocks_81 rfl (lv_at hl 2 rfl) ?_
            refine g_VernierDrawersModel_7 X hH hk_r dX11_usesBlocks_82 ?_
            refine lv_iload_n hx hb dX11_usesBlocks_85 rfl (lv_at hl 0 rfl) ?_
            refine lv_iconst (v := 1) hx hb dX11_usesBlocks_86 (by decide) ?_
            refine lv_iadd hx hb dX11_usesBlocks_87 ?_
            have hq11 := ho
            refine ald_M X hH (Or.inl kd_462) hq11 dX11_usesBlocks_88 ?_
            exact K10 _ _ (Eq.symm ((if_neg c10).trans rfl)) (lv_sub hl [1, 2, 3] rfl)
          · have ho := ho.1 c10
            refine lv_bipush (v := (-9)) hx hb dX11_usesBlocks_63 (by decide) ?_
            refine lv_aload_n hx hb dX11_usesBlocks_65 rfl (lv_at hl 2 rfl) ?_
            refine g_VernierDrawersModel_7 X hH hk_r dX11_usesBlocks_66 ?_
            refine lv_iload_n hx hb dX11_usesBlocks_69 rfl (lv_at hl 0 rfl) ?_
            refine lv_iconst (v := 1) hx hb dX11_usesBlocks_70 (by decide) ?_
            refine lv_iadd hx hb dX11_usesBlocks_71 ?_
            have hq12 := ho
            refine ald_M X hH (Or.inl kd_462) hq12 dX11_usesBlocks_72 ?_
            refine lv_iconst (v := 1) hx hb dX11_usesBlocks_73 (by decide) ?_
            refine lv_isub hx hb dX11_usesBlocks_74 ?_
            refine k_X11_more X hS  t_ml_VernierDrawersModel_80 hl.1 (Nat.le_of_ble_eq_true rfl) ⟨Nat.le_of_ble_eq_true rfl, Nat.le_of_ble_eq_true rfl⟩ ⟨Nat.zero_le _, Nat.zero_le _⟩ dX11_usesBlocks_75 ?_
            refine lv_goto (tgt := 89) hx hb dX11_usesBlocks_78 (by decide) ?_
            exact K10 _ _ (Eq.symm ((if_pos c10).trans rfl)) (lv_sub hl [1, 2, 3] rfl)
  have hol := ho
  refine L4 ((Int32.toInt ((v 462 (204 : Int32).toNatClampNeg)) - Int32.toInt 0).toNat + 1) 0 v _ _ _ _ hol hH hS (lv_sub hl [0, 1, 2] rfl) (fun v3 da H locs ls ev3 hH hS hl => ?_)
  replace ev3 := Eq.symm ev3
  subst ev3
  exact E _ _ _ _ _ _ _ _ dX11_usesBlocks_96 (Eq.symm rfl) hH hS (Nat.zero_le _) (Nat.zero_le _)
theorem k_X11_usesBlocks {p : Program} {l : Launch} {e : Env} {R : Room} {s : State} {m : MethodId} {args : Array Value} {below : List Frame} {meth : Method} {c : Code} {H : Heap} {locs : List Loc} {cells slots : Nat} {Q : State → Prop} {cc : ByteArray} {pc nL : Nat} {ls : Array Slot} {rest : List Value} {G : gG} {own : String} {da : Nat → Nat} {v : vSt} {x : gX} (X : CX G p s m args c cc nL own) (hS : va_S (gA G) s.heap H locs) (hH : Hp G da v x H) {r : Nat} (hk_r : kd r = 11) {p1 : Int32} (ho : oX11_usesBlocks r p1 v) {idx : Nat} (hml : Cond.methodLink own idx yX11_usesBlocks ∈ TT) (hls : ls.size = nL) (hsum : (rest.map fun v => v.category).sum ≤ 8) (hR : rmX11_usesBlocks.frames + 1 ≤ R.frames ∧ 8 + (4 + 11) + rmX11_usesBlocks.locals ≤ R.locals) (hcs : cells ≤ R.cells ∧ slots ≤ R.slots) (hdg : decode cc pc = .ok (.invokevirtual idx, 3)) (kk : ∀ (d : Nat → Nat) (H1 : Heap) (locs1 : List Loc) (v1 : vSt), v1 = fX11_usesBlocks r p1 v → Hp G d v1 x H1 → va_S (gA G) s.heap H1 locs1 → W p l e R s m args below meth c H1 locs1 cells slots Q (F0 m (pc + 3) ls rest)) : W p l e R s m args below meth c H locs cells slots Q (F0 m pc ls (.int p1 :: .ref (ga G r) :: rest)) := c_mv X.2.2.2.2.2.2 (runV (k := 1) X.1 X.2.1 X.2.2.1 X.2.2.2.1 X.2.2.2.2.1 (mX11_usesBlocks l G da v x r hk_r p1 ho) pW_bl hml t_im_X11_usesBlocks t_sel_X11_usesBlocks t_ini_VernierDrawersModel t_code_X11_usesBlocks ⟨rfl, by decide, by decide, by decide +kernel⟩ rfl rfl hR hcs (recvW X hH (by rw [hk_r]; decide) (by rw [hk_r]; decide) (ce_11 hk_r) rfl) (preW X hS hH) rfl hls rfl hsum hdg) hS kk
def fX11_isType (r : Nat) (p1 : Int32) (v : vSt) : Int32 := fX11_in p1 0 ((v 462 (205 : Int32).toNatClampNeg) - 1)
def oX11_isType (r : Nat) (p1 : Int32) (v : vSt) : Prop := vp_in (205) (mlen 462)
abbrev rmX11_isType : Room := { frames := 1, cells := 0, slots := 0, locals := 22 }
theorem dX11_isType_0 : decode cX11_isType 0 = .ok (.iload_n 1, 1) := by decide +kernel
theorem dX11_isType_1 : decode cX11_isType 1 = .ok (.iconst 0, 1) := by decide +kernel
theorem dX11_isType_2 : decode cX11_isType 2 = .ok (.aload_n 0, 1) := by decide +kernel
theorem dX11_isType_3 : decode cX11_isType 3 = .ok (.getfield 7, 3) := by decide +kernel
theorem dX11_isType_6 : decode cX11_isType 6 = .ok (.sipush 205, 3) := by decide +kernel
theorem dX11_isType_9 : decode cX11_isType 9 = .ok (.iaload, 1) := by decide +kernel
theorem dX11_isType_10 : decode cX11_isType 10 = .ok (.iconst 1, 1) := by decide +kernel
theorem dX11_isType_11 : decode cX11_isType 11 = .ok (.isub, 1) := by decide +kernel
theorem dX11_isType_12 : decode cX11_isType 12 = .ok (.invokestatic 49, 3) := by decide +kernel
theorem dX11_isType_15 : decode cX11_isType 15 = .ok (.ireturn, 1) := by decide +kernel
set_option maxHeartbeats 8000000 in
set_option maxRecDepth 100000 in
theorem mX11_isType (l : Launch) (G : gG) (da : Nat → Nat) (v : vSt) (x : gX) (r : Nat) (hk_r : kd r = 11) (p1 : Int32) (ho : oX11_isType r p1 v) : QI l yX11_isType cX11_isType 2 (some .boolean) rmX11_isType [.ref (ga G r), .int p1] (pW G da v x) (fX11_isType r p1 v) := by
  refine gofQ (own := RX11) (by decide) rfl (Nat.le_of_ble_eq_true rfl) (fun p e s m args below meth c ls Q X hH hl E => ?_)
  have hx := X.1
  have hb := X.2.1
  have hown := X.2.2.2.1
  have hts := X.2.2.2.2.1
  have hS : va_S (gA G) s.heap s.heap [] := va_S.rf
  unfold oX11_isType at ho
  have hl : lv_has ls 2 [(0, .ref (ga G r)), (1, .int p1)] := hl
  refine lv_iload_n hx hb dX11_isType_0 rfl (lv_at hl 1 rfl) ?_
  refine lv_iconst (v := 0) hx hb dX11_isType_1 (by decide) ?_
  refine lv_aload_n hx hb dX11_isType_2 rfl (lv_at hl 0 rfl) ?_
  refine g_VernierDrawersModel_7 X hH hk_r dX11_isType_3 ?_
  refine lv_sipush (v := 205) hx hb dX11_isType_6 (by decide) ?_
  have hq1 := ho
  refine ald_M X hH (Or.inl kd_462) hq1 dX11_isType_9 ?_
  refine lv_iconst (v := 1) hx hb dX11_isType_10 (by decide) ?_
  refine lv_isub hx hb dX11_isType_11 ?_
  refine k_X11_in X hS  t_ml_VernierDrawersModel_49 hl.1 (Nat.le_of_ble_eq_true rfl) ⟨Nat.le_of_ble_eq_true rfl, Nat.le_of_ble_eq_true rfl⟩ ⟨Nat.zero_le _, Nat.zero_le _⟩ dX11_isType_12 ?_
  exact E _ _ _ dX11_isType_15 (bn01 b01_X11_in).1 (Eq.symm rfl)
theorem k_X11_isType {p : Program} {l : Launch} {e : Env} {R : Room} {s : State} {m : MethodId} {args : Array Value} {below : List Frame} {meth : Method} {c : Code} {H : Heap} {locs : List Loc} {cells slots : Nat} {Q : State → Prop} {cc : ByteArray} {pc nL : Nat} {ls : Array Slot} {rest : List Value} {G : gG} {own : String} {da : Nat → Nat} {v : vSt} {x : gX} (X : CX G p s m args c cc nL own) (hS : va_S (gA G) s.heap H locs) (hH : Hp G da v x H) {r : Nat} (hk_r : kd r = 11) {p1 : Int32} (ho : oX11_isType r p1 v) {idx : Nat} (hml : Cond.methodLink own idx yX11_isType ∈ TT) (hls : ls.size = nL) (hsum : (rest.map fun v => v.category).sum ≤ 8) (hR : rmX11_isType.frames + 1 ≤ R.frames ∧ 8 + (2 + 11) + rmX11_isType.locals ≤ R.locals) (hcs : cells ≤ R.cells ∧ slots ≤ R.slots) (hdg : decode cc pc = .ok (.invokevirtual idx, 3)) (kk : W p l e R s m args below meth c H locs cells slots Q (F0 m (pc + 3) ls (.int (fX11_isType r p1 v) :: rest))) : W p l e R s m args below meth c H locs cells slots Q (F0 m pc ls (.int p1 :: .ref (ga G r) :: rest)) := c_qi (runV (k := 1) X.1 X.2.1 X.2.2.1 X.2.2.2.1 X.2.2.2.2.1 (mX11_isType l G da v x r hk_r p1 ho) pW_bl hml t_im_X11_isType t_sel_X11_isType t_ini_VernierDrawersModel t_code_X11_isType ⟨rfl, by decide, by decide, by decide +kernel⟩ rfl rfl hR hcs (recvW X hH (by rw [hk_r]; decide) (by rw [hk_r]; decide) (ce_11 hk_r) rfl) (preW X hS hH) rfl hls rfl hsum hdg) (fun _ h => h ▸ kk)
theorem b01_X11_isType {r : Nat} {p1 : Int32} {v : vSt} : fX11_isType r p1 v = 0 ∨ fX11_isType r p1 v = 1 := by
  unfold fX11_isType
  (try dsimp only); (repeat' split) <;> first | exact Or.inl rfl | exact Or.inr rfl | exact b01_X11_in
def fX11_of (r : Nat) (p1 : Int32) (p2 : Int32) (v : vSt) : Int32 := v 462 ((78 + (21 * p1)) + p2 : Int32).toNatClampNeg
def oX11_of (r : Nat) (p1 : Int32) (p2 : Int32) (v : vSt) : Prop := vp_in ((78 + (21 * p1)) + p2) (mlen 462)
abbrev rmX11_of : Room := { frames := 0, cells := 0, slots := 0, locals := 0 }
theorem dX11_of_0 : decode cX11_of 0 = .ok (.aload_n 0, 1) := by decide +kernel
theorem dX11_of_1 : decode cX11_of 1 = .ok (.getfield 7, 3) := by decide +kernel
theorem dX11_of_4 : decode cX11_of 4 = .ok (.bipush 78, 2) := by decide +kernel
theorem dX11_of_6 : decode cX11_of 6 = .ok (.bipush 21, 2) := by decide +kernel
theorem dX11_of_8 : decode cX11_of 8 = .ok (.iload_n 1, 1) := by decide +kernel
theorem dX11_of_9 : decode cX11_of 9 = .ok (.imul, 1) := by decide +kernel
theorem dX11_of_10 : decode cX11_of 10 = .ok (.iadd, 1) := by decide +kernel
theorem dX11_of_11 : decode cX11_of 11 = .ok (.iload_n 2, 1) := by decide +kernel
theorem dX11_of_12 : decode cX11_of 12 = .ok (.iadd, 1) := by decide +kernel
theorem dX11_of_13 : decode cX11_of 13 = .ok (.iaload, 1) := by decide +kernel
theorem dX11_of_14 : decode cX11_of 14 = .ok (.ireturn, 1) := by decide +kernel
set_option maxHeartbeats 8000000 in
set_option maxRecDepth 100000 in
theorem mX11_of (l : Launch) (G : gG) (da : Nat → Nat) (v : vSt) (x : gX) (r : Nat) (hk_r : kd r = 11) (p1 : Int32) (p2 : Int32) (ho : oX11_of r p1 p2 v) : QI l yX11_of cX11_of 3 (some .int) rmX11_of [.ref (ga G r), .int p1, .int p2] (pW G da v x) (fX11_of r p1 p2 v) := by
  refine gofQ (own := RX11) (by decide) rfl (Nat.le_of_ble_eq_true rfl) (fun p e s m args below meth c ls Q X hH hl E => ?_)
  have hx := X.1
  have hb := X.2.1
  have hown := X.2.2.2.1
  have hts := X.2.2.2.2.1
  have hS : va_S (gA G) s.heap s.heap [] := va_S.rf
  unfold oX11_of at ho
  have hl : lv_has ls 3 [(0, .ref (ga G r)), (1, .int p1), (2, .int p2)] := hl
  refine lv_aload_n hx hb dX11_of_0 rfl (lv_at hl 0 rfl) ?_
  refine g_VernierDrawersModel_7 X hH hk_r dX11_of_1 ?_
  refine lv_bipush (v := 78) hx hb dX11_of_4 (by decide) ?_
  refine lv_bipush (v := 21) hx hb dX11_of_6 (by decide) ?_
  refine lv_iload_n hx hb dX11_of_8 rfl (lv_at hl 1 rfl) ?_
  refine lv_imul hx hb dX11_of_9 ?_
  refine lv_iadd hx hb dX11_of_10 ?_
  refine lv_iload_n hx hb dX11_of_11 rfl (lv_at hl 2 rfl) ?_
  refine lv_iadd hx hb dX11_of_12 ?_
  have hq1 := ho
  refine ald_M X hH (Or.inl kd_462) hq1 dX11_of_13 ?_
  exact E _ _ _ dX11_of_14 rfl (Eq.symm rfl)
theorem k_X11_of {p : Program} {l : Launch} {e : Env} {R : Room} {s : State} {m : MethodId} {args : Array Value} {below : List Frame} {meth : Method} {c : Code} {H : Heap} {locs : List Loc} {cells slots : Nat} {Q : State → Prop} {cc : ByteArray} {pc nL : Nat} {ls : Array Slot} {rest : List Value} {G : gG} {own : String} {da : Nat → Nat} {v : vSt} {x : gX} (X : CX G p s m args c cc nL own) (hS : va_S (gA G) s.heap H locs) (hH : Hp G da v x H) {r : Nat} (hk_r : kd r = 11) {p1 : Int32} {p2 : Int32} (ho : oX11_of r p1 p2 v) {idx : Nat} (hml : Cond.methodLink own idx yX11_of ∈ TT) (hls : ls.size = nL) (hsum : (rest.map fun v => v.category).sum ≤ 8) (hR : rmX11_of.frames + 1 ≤ R.frames ∧ 8 + (3 + 11) + rmX11_of.locals ≤ R.locals) (hcs : cells ≤ R.cells ∧ slots ≤ R.slots) (hdg : decode cc pc = .ok (.invokevirtual idx, 3)) (kk : W p l e R s m args below meth c H locs cells slots Q (F0 m (pc + 3) ls (.int (fX11_of r p1 p2 v) :: rest))) : W p l e R s m args below meth c H locs cells slots Q (F0 m pc ls (.int p2 :: .int p1 :: .ref (ga G r) :: rest)) := c_qi (runV (k := 2) X.1 X.2.1 X.2.2.1 X.2.2.2.1 X.2.2.2.2.1 (mX11_of l G da v x r hk_r p1 p2 ho) pW_bl hml t_im_X11_of t_sel_X11_of t_ini_VernierDrawersModel t_code_X11_of ⟨rfl, by decide, by decide, by decide +kernel⟩ rfl rfl hR hcs (recvW X hH (by rw [hk_r]; decide) (by rw [hk_r]; decide) (ce_11 hk_r) rfl) (preW X hS hH) rfl hls rfl hsum hdg) (fun _ h => h ▸ kk)
