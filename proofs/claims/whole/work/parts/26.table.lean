/-! StackTable; Arrays.fill, Long.bitCount. -/
def fJ13_bitCount_95d88 (p1 : Int64) : Int32 := let y1 : Int64 := ((p1 - ((lsr p1 1) &&& (6148914691236517205 : Int64))) &&& (3689348814741910323 : Int64)) + ((lsr (p1 - ((lsr p1 1) &&& (6148914691236517205 : Int64))) 2) &&& (3689348814741910323 : Int64)); let y2 : Int64 := ((y1 + (lsr y1 4)) &&& (1085102592571150095 : Int64)) + (lsr ((y1 + (lsr y1 4)) &&& (1085102592571150095 : Int64)) 8); (((y2 + (lsr y2 16)) + (lsr (y2 + (lsr y2 16)) 32) : Int64).toInt32) &&& 127
abbrev rmJ13_bitCount_95d88 : Room := { frames := 0, cells := 0, slots := 0, locals := 0 }
theorem dJ13_bitCount_95d88_0 : decode cJ13_bitCount_95d88 0 = .ok (.lload_n 0, 1) := by decide +kernel
theorem dJ13_bitCount_95d88_1 : decode cJ13_bitCount_95d88 1 = .ok (.lload_n 0, 1) := by decide +kernel
theorem dJ13_bitCount_95d88_2 : decode cJ13_bitCount_95d88 2 = .ok (.iconst 1, 1) := by decide +kernel
theorem dJ13_bitCount_95d88_3 : decode cJ13_bitCount_95d88 3 = .ok (.lushr, 1) := by decide +kernel
theorem dJ13_bitCount_95d88_4 : decode cJ13_bitCount_95d88 4 = .ok (.ldc2_w 314, 3) := by decide +kernel
theorem dJ13_bitCount_95d88_7 : decode cJ13_bitCount_95d88 7 = .ok (.land, 1) := by decide +kernel
theorem dJ13_bitCount_95d88_8 : decode cJ13_bitCount_95d88 8 = .ok (.lsub, 1) := by decide +kernel
theorem dJ13_bitCount_95d88_9 : decode cJ13_bitCount_95d88 9 = .ok (.lstore_n 0, 1) := by decide +kernel
theorem dJ13_bitCount_95d88_10 : decode cJ13_bitCount_95d88 10 = .ok (.lload_n 0, 1) := by decide +kernel
theorem dJ13_bitCount_95d88_11 : decode cJ13_bitCount_95d88 11 = .ok (.ldc2_w 316, 3) := by decide +kernel
theorem dJ13_bitCount_95d88_14 : decode cJ13_bitCount_95d88 14 = .ok (.land, 1) := by decide +kernel
theorem dJ13_bitCount_95d88_15 : decode cJ13_bitCount_95d88 15 = .ok (.lload_n 0, 1) := by decide +kernel
theorem dJ13_bitCount_95d88_16 : decode cJ13_bitCount_95d88 16 = .ok (.iconst 2, 1) := by decide +kernel
theorem dJ13_bitCount_95d88_17 : decode cJ13_bitCount_95d88 17 = .ok (.lushr, 1) := by decide +kernel
theorem dJ13_bitCount_95d88_18 : decode cJ13_bitCount_95d88 18 = .ok (.ldc2_w 316, 3) := by decide +kernel
theorem dJ13_bitCount_95d88_21 : decode cJ13_bitCount_95d88 21 = .ok (.land, 1) := by decide +kernel
theorem dJ13_bitCount_95d88_22 : decode cJ13_bitCount_95d88 22 = .ok (.ladd, 1) := by decide +kernel
theorem dJ13_bitCount_95d88_23 : decode cJ13_bitCount_95d88 23 = .ok (.lstore_n 0, 1) := by decide +kernel
theorem dJ13_bitCount_95d88_24 : decode cJ13_bitCount_95d88 24 = .ok (.lload_n 0, 1) := by decide +kernel
theorem dJ13_bitCount_95d88_25 : decode cJ13_bitCount_95d88 25 = .ok (.lload_n 0, 1) := by decide +kernel
theorem dJ13_bitCount_95d88_26 : decode cJ13_bitCount_95d88 26 = .ok (.iconst 4, 1) := by decide +kernel
theorem dJ13_bitCount_95d88_27 : decode cJ13_bitCount_95d88 27 = .ok (.lushr, 1) := by decide +kernel
theorem dJ13_bitCount_95d88_28 : decode cJ13_bitCount_95d88 28 = .ok (.ladd, 1) := by decide +kernel
theorem dJ13_bitCount_95d88_29 : decode cJ13_bitCount_95d88 29 = .ok (.ldc2_w 318, 3) := by decide +kernel
theorem dJ13_bitCount_95d88_32 : decode cJ13_bitCount_95d88 32 = .ok (.land, 1) := by decide +kernel
theorem dJ13_bitCount_95d88_33 : decode cJ13_bitCount_95d88 33 = .ok (.lstore_n 0, 1) := by decide +kernel
theorem dJ13_bitCount_95d88_34 : decode cJ13_bitCount_95d88 34 = .ok (.lload_n 0, 1) := by decide +kernel
theorem dJ13_bitCount_95d88_35 : decode cJ13_bitCount_95d88 35 = .ok (.lload_n 0, 1) := by decide +kernel
theorem dJ13_bitCount_95d88_36 : decode cJ13_bitCount_95d88 36 = .ok (.bipush 8, 2) := by decide +kernel
theorem dJ13_bitCount_95d88_38 : decode cJ13_bitCount_95d88 38 = .ok (.lushr, 1) := by decide +kernel
theorem dJ13_bitCount_95d88_39 : decode cJ13_bitCount_95d88 39 = .ok (.ladd, 1) := by decide +kernel
theorem dJ13_bitCount_95d88_40 : decode cJ13_bitCount_95d88 40 = .ok (.lstore_n 0, 1) := by decide +kernel
theorem dJ13_bitCount_95d88_41 : decode cJ13_bitCount_95d88 41 = .ok (.lload_n 0, 1) := by decide +kernel
theorem dJ13_bitCount_95d88_42 : decode cJ13_bitCount_95d88 42 = .ok (.lload_n 0, 1) := by decide +kernel
theorem dJ13_bitCount_95d88_43 : decode cJ13_bitCount_95d88 43 = .ok (.bipush 16, 2) := by decide +kernel
theorem dJ13_bitCount_95d88_45 : decode cJ13_bitCount_95d88 45 = .ok (.lushr, 1) := by decide +kernel
theorem dJ13_bitCount_95d88_46 : decode cJ13_bitCount_95d88 46 = .ok (.ladd, 1) := by decide +kernel
theorem dJ13_bitCount_95d88_47 : decode cJ13_bitCount_95d88 47 = .ok (.lstore_n 0, 1) := by decide +kernel
theorem dJ13_bitCount_95d88_48 : decode cJ13_bitCount_95d88 48 = .ok (.lload_n 0, 1) := by decide +kernel
theorem dJ13_bitCount_95d88_49 : decode cJ13_bitCount_95d88 49 = .ok (.lload_n 0, 1) := by decide +kernel
theorem dJ13_bitCount_95d88_50 : decode cJ13_bitCount_95d88 50 = .ok (.bipush 32, 2) := by decide +kernel
theorem dJ13_bitCount_95d88_52 : decode cJ13_bitCount_95d88 52 = .ok (.lushr, 1) := by decide +kernel
theorem dJ13_bitCount_95d88_53 : decode cJ13_bitCount_95d88 53 = .ok (.ladd, 1) := by decide +kernel
theorem dJ13_bitCount_95d88_54 : decode cJ13_bitCount_95d88 54 = .ok (.lstore_n 0, 1) := by decide +kernel
theorem dJ13_bitCount_95d88_55 : decode cJ13_bitCount_95d88 55 = .ok (.lload_n 0, 1) := by decide +kernel
theorem dJ13_bitCount_95d88_56 : decode cJ13_bitCount_95d88 56 = .ok (.l2i, 1) := by decide +kernel
theorem dJ13_bitCount_95d88_57 : decode cJ13_bitCount_95d88 57 = .ok (.bipush 127, 2) := by decide +kernel
theorem dJ13_bitCount_95d88_59 : decode cJ13_bitCount_95d88 59 = .ok (.iand, 1) := by decide +kernel
theorem dJ13_bitCount_95d88_60 : decode cJ13_bitCount_95d88 60 = .ok (.ireturn, 1) := by decide +kernel
set_option maxHeartbeats 8000000 in
set_option maxRecDepth 100000 in
theorem mJ13_bitCount_95d88 (l : Launch) (G : gG) (p1 : Int64) : PI l yJ13_bitCount_95d88 cJ13_bitCount_95d88 2 (some .int) rmJ13_bitCount_95d88 [.long p1] G (fun _ => True) (fJ13_bitCount_95d88 p1) := by
  refine gofP (own := RJ13) (by decide) rfl (Nat.le_of_ble_eq_true rfl) (fun p e s m args below meth c ls Q X _ hl E => ?_)
  have hx := X.1
  have hb := X.2.1
  have hown := X.2.2.2.1
  have hts := X.2.2.2.2.1
  have hS : va_S (gA G) s.heap s.heap [] := va_S.rf
  have ho : True := trivial
  have hl : lv_has ls 2 [(0, .long p1)] := hl
  refine lv_lload_n hx hb dJ13_bitCount_95d88_0 rfl (lv_at hl 0 rfl) ?_
  refine lv_lload_n hx hb dJ13_bitCount_95d88_1 rfl (lv_at hl 0 rfl) ?_
  refine lv_iconst (v := 1) hx hb dJ13_bitCount_95d88_2 (by decide) ?_
  refine lv_lushr (v := lsr p1 1) hx hb dJ13_bitCount_95d88_3 rfl ?_
  refine lv_ldc2 (v := 6148914691236517205) hx hb hown (hts _ t_con_jl_Long_314) dJ13_bitCount_95d88_4 ?_
  refine lv_land hx hb dJ13_bitCount_95d88_7 ?_
  refine lv_lsub hx hb dJ13_bitCount_95d88_8 ?_
  refine lv_lstore_n (lv' := [(0, .long (p1 - ((lsr p1 1) &&& (6148914691236517205 : Int64))))]) hx hb dJ13_bitCount_95d88_9 rfl hl (by decide) rfl (fun ls hl => ?_)
  refine lv_lload_n hx hb dJ13_bitCount_95d88_10 rfl (lv_at hl 0 rfl) ?_
  refine lv_ldc2 (v := 3689348814741910323) hx hb hown (hts _ t_con_jl_Long_316) dJ13_bitCount_95d88_11 ?_
  refine lv_land hx hb dJ13_bitCount_95d88_14 ?_
  refine lv_lload_n hx hb dJ13_bitCount_95d88_15 rfl (lv_at hl 0 rfl) ?_
  refine lv_iconst (v := 2) hx hb dJ13_bitCount_95d88_16 (by decide) ?_
  refine lv_lushr (v := lsr (p1 - ((lsr p1 1) &&& (6148914691236517205 : Int64))) 2) hx hb dJ13_bitCount_95d88_17 rfl ?_
  refine lv_ldc2 (v := 3689348814741910323) hx hb hown (hts _ t_con_jl_Long_316) dJ13_bitCount_95d88_18 ?_
  refine lv_land hx hb dJ13_bitCount_95d88_21 ?_
  refine lv_ladd hx hb dJ13_bitCount_95d88_22 ?_
  obtain ⟨y1, ey1⟩ : ∃ z : Int64, z = ((p1 - ((lsr p1 1) &&& (6148914691236517205 : Int64))) &&& (3689348814741910323 : Int64)) + ((lsr (p1 - ((lsr p1 1) &&& (6148914691236517205 : Int64))) 2) &&& (3689348814741910323 : Int64)) := ⟨_, rfl⟩
  rw [← ey1]
  refine lv_lstore_n (lv' := [(0, .long y1)]) hx hb dJ13_bitCount_95d88_23 rfl hl (by decide) rfl (fun ls hl => ?_)
  refine lv_lload_n hx hb dJ13_bitCount_95d88_24 rfl (lv_at hl 0 rfl) ?_
  refine lv_lload_n hx hb dJ13_bitCount_95d88_25 rfl (lv_at hl 0 rfl) ?_
  refine lv_iconst (v := 4) hx hb dJ13_bitCount_95d88_26 (by decide) ?_
  refine lv_lushr (v := lsr y1 4) hx hb dJ13_bitCount_95d88_27 rfl ?_
  refine lv_ladd hx hb dJ13_bitCount_95d88_28 ?_
  refine lv_ldc2 (v := 1085102592571150095) hx hb hown (hts _ t_con_jl_Long_318) dJ13_bitCount_95d88_29 ?_
  refine lv_land hx hb dJ13_bitCount_95d88_32 ?_
  refine lv_lstore_n (lv' := [(0, .long ((y1 + (lsr y1 4)) &&& (1085102592571150095 : Int64)))]) hx hb dJ13_bitCount_95d88_33 rfl hl (by decide) rfl (fun ls hl => ?_)
  refine lv_lload_n hx hb dJ13_bitCount_95d88_34 rfl (lv_at hl 0 rfl) ?_
  refine lv_lload_n hx hb dJ13_bitCount_95d88_35 rfl (lv_at hl 0 rfl) ?_
  refine lv_bipush (v := 8) hx hb dJ13_bitCount_95d88_36 (by decide) ?_
  refine lv_lushr (v := lsr ((y1 + (lsr y1 4)) &&& (1085102592571150095 : Int64)) 8) hx hb dJ13_bitCount_95d88_38 rfl ?_
  refine lv_ladd hx hb dJ13_bitCount_95d88_39 ?_
  obtain ⟨y2, ey2⟩ : ∃ z : Int64, z = ((y1 + (lsr y1 4)) &&& (1085102592571150095 : Int64)) + (lsr ((y1 + (lsr y1 4)) &&& (1085102592571150095 : Int64)) 8) := ⟨_, rfl⟩
  rw [← ey2]
  refine lv_lstore_n (lv' := [(0, .long y2)]) hx hb dJ13_bitCount_95d88_40 rfl hl (by decide) rfl (fun ls hl => ?_)
  refine lv_lload_n hx hb dJ13_bitCount_95d88_41 rfl (lv_at hl 0 rfl) ?_
  refine lv_lload_n hx hb dJ13_bitCount_95d88_42 rfl (lv_at hl 0 rfl) ?_
  refine lv_bipush (v := 16) hx hb dJ13_bitCount_95d88_43 (by decide) ?_
  refine lv_lushr (v := lsr y2 16) hx hb dJ13_bitCount_95d88_45 rfl ?_
  refine lv_ladd hx hb dJ13_bitCount_95d88_46 ?_
  refine lv_lstore_n (lv' := [(0, .long (y2 + (lsr y2 16)))]) hx hb dJ13_bitCount_95d88_47 rfl hl (by decide) rfl (fun ls hl => ?_)
  refine lv_lload_n hx hb dJ13_bitCount_95d88_48 rfl (lv_at hl 0 rfl) ?_
  refine lv_lload_n hx hb dJ13_bitCount_95d88_49 rfl (lv_at hl 0 rfl) ?_
  refine lv_bipush (v := 32) hx hb dJ13_bitCount_95d88_50 (by decide) ?_
  refine lv_lushr (v := lsr (y2 + (lsr y2 16)) 32) hx hb dJ13_bitCount_95d88_52 rfl ?_
  refine lv_ladd hx hb dJ13_bitCount_95d88_53 ?_
  refine lv_lstore_n (lv' := [(0, .long ((y2 + (lsr y2 16)) + (lsr (y2 + (lsr y2 16)) 32)))]) hx hb dJ13_bitCount_95d88_54 rfl hl (by decide) rfl (fun ls hl => ?_)
  refine lv_lload_n hx hb dJ13_bitCount_95d88_55 rfl (lv_at hl 0 rfl) ?_
  refine lv_l2i (v := ((y2 + (lsr y2 16)) + (lsr (y2 + (lsr y2 16)) 32) : Int64).toInt32) hx hb dJ13_bitCount_95d88_56 rfl ?_
  refine lv_bipush (v := 127) hx hb dJ13_bitCount_95d88_57 (by decide) ?_
  refine lv_iand hx hb dJ13_bitCount_95d88_59 ?_
  replace ey1 := Eq.symm ey1
  replace ey2 := Eq.symm ey2
  subst ey1 ey2
  exact E _ _ _ dJ13_bitCount_95d88_60 rfl (Eq.symm rfl)
theorem k_J13_bitCount_95d88 {p : Program} {l : Launch} {e : Env} {R : Room} {s : State} {m : MethodId} {args : Array Value} {below : List Frame} {meth : Method} {c : Code} {H : Heap} {locs : List Loc} {cells slots : Nat} {Q : State → Prop} {cc : ByteArray} {pc nL : Nat} {ls : Array Slot} {rest : List Value} {G : gG} {own : String} (X : CX G p s m args c cc nL own) (hS : va_S (gA G) s.heap H locs) {p1 : Int64} {idx : Nat} (hml : Cond.methodLink own idx yJ13_bitCount_95d88 ∈ TT) (hls : ls.size = nL) (hsum : (rest.map fun v => v.category).sum ≤ 8) (hR : rmJ13_bitCount_95d88.frames + 1 ≤ R.frames ∧ 8 + (2 + 11) + rmJ13_bitCount_95d88.locals ≤ R.locals) (hcs : cells ≤ R.cells ∧ slots ≤ R.slots) (hdg : decode cc pc = .ok (.invokestatic idx, 3)) (kk : W p l e R s m args below meth c H locs cells slots Q (F0 m (pc + 3) ls (.int (fJ13_bitCount_95d88 p1) :: rest))) : W p l e R s m args below meth c H locs cells slots Q (F0 m pc ls (.long p1 :: rest)) := c_qi (runS (k := 1) X.1 X.2.1 X.2.2.1 X.2.2.2.1 X.2.2.2.2.1 (mJ13_bitCount_95d88 l G p1) (pT_bl (fun _ _ _ _ h => h)) hml t_st_J13_bitCount_95d88 t_ini_jl_Long t_code_J13_bitCount_95d88 ⟨by decide, by decide, by decide +kernel⟩ rfl rfl hR hcs (fun U hU hW => ⟨preT X hS U hU hW, trivial⟩) rfl hls rfl hsum hdg) (fun _ h => h ▸ kk)
def lJ7_fill_d0a16_6 (o1 : Nat) (p1 : Int64) : Nat → Int32 → gX → gX
  | 0, i1, x2 => x2
  | n + 1, i1, x2 => if (235 : Int32) ≤ i1 then x2 else (let x5 : gX := xu x2 o1 (i1 : Int32).toNatClampNeg p1; lJ7_fill_d0a16_6 o1 p1 n (i1 + 1) x5)
def olJ7_fill_d0a16_6 (o1 : Nat) (p1 : Int64) : Nat → Int32 → gX → Prop
  | 0, _, _ => False
  | n + 1, i1, x2 => ¬ ((235 : Int32) ≤ i1) → ((vp_in (i1) 235) ∧ (∀ x5 : gX, x5 = (xu x2 o1 (i1 : Int32).toNatClampNeg p1) → (olJ7_fill_d0a16_6 o1 p1 n (i1 + 1) x5)))
def fJ7_fill_d0a16 (o1 : Nat) (p1 : Int64) (v : vSt) (x : gX) : gX := let x3 : gX := (lJ7_fill_d0a16_6 o1 p1 ((Int32.toInt (235) - Int32.toInt 0).toNat + 1) 0 x); x3
def oJ7_fill_d0a16 (o1 : Nat) (p1 : Int64) (v : vSt) (x : gX) : Prop := olJ7_fill_d0a16_6 o1 p1 ((Int32.toInt (235) - Int32.toInt 0).toNat + 1) 0 x
abbrev rmJ7_fill_d0a16 : Room := { frames := 0, cells := 0, slots := 0, locals := 0 }
theorem dJ7_fill_d0a16_0 : decode cJ7_fill_d0a16 0 = .ok (.iconst 0, 1) := by decide +kernel
theorem dJ7_fill_d0a16_1 : decode cJ7_fill_d0a16 1 = .ok (.istore_n 3, 1) := by decide +kernel
theorem dJ7_fill_d0a16_2 : decode cJ7_fill_d0a16 2 = .ok (.aload_n 0, 1) := by decide +kernel
theorem dJ7_fill_d0a16_3 : decode cJ7_fill_d0a16 3 = .ok (.arraylength, 1) := by decide +kernel
theorem dJ7_fill_d0a16_4 : decode cJ7_fill_d0a16 4 = .ok (.istore 4, 2) := by decide +kernel
theorem dJ7_fill_d0a16_6 : decode cJ7_fill_d0a16 6 = .ok (.iload_n 3, 1) := by decide +kernel
theorem dJ7_fill_d0a16_7 : decode cJ7_fill_d0a16 7 = .ok (.iload 4, 2) := by decide +kernel
theorem dJ7_fill_d0a16_9 : decode cJ7_fill_d0a16 9 = .ok (.if_icmp .ge 13, 3) := by decide +kernel
theorem dJ7_fill_d0a16_12 : decode cJ7_fill_d0a16 12 = .ok (.aload_n 0, 1) := by decide +kernel
theorem dJ7_fill_d0a16_13 : decode cJ7_fill_d0a16 13 = .ok (.iload_n 3, 1) := by decide +kernel
theorem dJ7_fill_d0a16_14 : decode cJ7_fill_d0a16 14 = .ok (.lload_n 1, 1) := by decide +kernel
theorem dJ7_fill_d0a16_15 : decode cJ7_fill_d0a16 15 = .ok (.lastore, 1) := by decide +kernel
theorem dJ7_fill_d0a16_16 : decode cJ7_fill_d0a16 16 = .ok (.iinc 3 1, 3) := by decide +kernel
theorem dJ7_fill_d0a16_19 : decode cJ7_fill_d0a16 19 = .ok (.goto (-13), 3) := by decide +kernel
theorem dJ7_fill_d0a16_22 : decode cJ7_fill_d0a16 22 = .ok (.return_, 1) := by decide +kernel
set_option maxHeartbeats 8000000 in
set_option maxRecDepth 100000 in
theorem mJ7_fill_d0a16 (l : Launch) (G : gG) (da : Nat → Nat) (v : vSt) (x : gX) (o1 : Nat) (hk_o1 : kd o1 = 29) (p1 : Int64) (ho : oJ7_fill_d0a16 o1 p1 v x) : MV l yJ7_fill_d0a16 cJ7_fill_d0a16 5 none rmJ7_fill_d0a16 [.ref (ga G o1), .long p1] G da v x 0 0 v (fJ7_fill_d0a16 o1 p1 v x) := by
  refine gofMV (own := RJ7) (by decide) rfl (Nat.le_of_ble_eq_true rfl) (fun p e s m args below meth c ls Q X hH hl E => ?_)
  have hx := X.1
  have hb := X.2.1
  have hown := X.2.2.2.1
  have hts := X.2.2.2.2.1
  have hS : va_S (gA G) s.heap s.heap [] := va_S.rf
  unfold oJ7_fill_d0a16 at ho
  have hl : lv_has ls 5 [(0, .ref (ga G o1)), (1, .long p1)] := hl
  refine lv_iconst (v := 0) hx hb dJ7_fill_d0a16_0 (by decide) ?_
  refine lv_istore_n (lv' := [(3, .int 0), (0, .ref (ga G o1)), (1, .long p1)]) hx hb dJ7_fill_d0a16_1 rfl hl (by decide) rfl (fun ls hl => ?_)
  refine lv_aload_n hx hb dJ7_fill_d0a16_2 rfl (lv_at hl 1 rfl) ?_
  refine len_29 X hH hk_o1 dJ7_fill_d0a16_3 ?_
  refine lv_istore (lv' := [(4, .int 235), (3, .int 0), (0, .ref (ga G o1)), (1, .long p1)]) hx hb dJ7_fill_d0a16_4 hl (by decide) rfl (fun ls hl => ?_)
  have L4 : ∀ (n : Nat) (i1 : Int32) (x2 : gX) (da : Nat → Nat) (H : Heap) (locs : List Loc) (ls : Array Slot), olJ7_fill_d0a16_6 o1 p1 n i1 x2 → Hp G da v x2 H → va_S (gA G) s.heap H locs → lv_has ls 5 [(4, .int 235), (3, .int i1), (0, .ref (ga G o1)), (1, .long p1)] → (∀ (x3 : gX) (da : Nat → Nat) (H : Heap) (locs : List Loc) (ls : Array Slot), x3 = (lJ7_fill_d0a16_6 o1 p1 n i1 x2 : gX) → Hp G da v x3 H → va_S (gA G) s.heap H locs → lv_has ls 5 [] → W p l e rmJ7_fill_d0a16 s m args below meth c H locs 0 0 Q (F0 m 22 ls [])) → W p l e rmJ7_fill_d0a16 s m args below meth c H locs 0 0 Q (F0 m 6 ls []) := by
    clear ho
    intro n
    induction n with
    | zero =>
      intro i1 x2 da H locs ls ho
      exact ho.elim
    | succ n ih =>
      intro i1 x2 da H locs ls ho hH hS hl K5
      refine lv_iload_n hx hb dJ7_fill_d0a16_6 rfl (lv_at hl 1 rfl) ?_
      refine lv_iload hx hb dJ7_fill_d0a16_7 (lv_at hl 0 rfl) ?_
      refine lv_icmp_ge (tgt := 22) hx hb dJ7_fill_d0a16_9 (by decide) (fun c3 => ?_) (fun c3 => ?_)
      · skip
        exact K5 _ _ _ _ _ (Eq.symm (((lJ7_fill_d0a16_6.eq_2 _ _ _ _ _)).trans ((if_pos c3).trans rfl))) hH hS (lv_sub hl [] rfl)
      · have ho := ho c3
        refine lv_aload_n hx hb dJ7_fill_d0a16_12 rfl (lv_at hl 2 rfl) ?_
        refine lv_iload_n hx hb dJ7_fill_d0a16_13 rfl (lv_at hl 1 rfl) ?_
        refine lv_lload_n hx hb dJ7_fill_d0a16_14 rfl (lv_at hl 3 rfl) ?_
        have hq4 := ho.1
        have ho := ho.2
        refine last_29 X hH hS hk_o1 hq4 dJ7_fill_d0a16_15 (fun H locs x5 ex5 hH hS => ?_)
        have ho := ho x5 ex5
        refine lv_iinc (v := i1 + 1) (lv' := [(3, .int (i1 + 1)), (4, .int 235), (0, .ref (ga G o1)), (1, .long p1)]) hx hb dJ7_fill_d0a16_16 hl (k := 1) rfl rfl (by decide) rfl (fun ls hl => ?_)
        refine lv_goto (tgt := 6) hx hb dJ7_fill_d0a16_19 (by decide) ?_
        replace ex5 := Eq.symm ex5
        subst ex5
        exact ih _ _ _ _ _ _ ho hH hS (lv_sub hl [1, 0, 2, 3] rfl) (fun x3 da H locs ls q0 hH hS hl => K5 x3 da H locs ls (q0.trans (congrArg (fun z : gX => z) (Eq.symm (((lJ7_fill_d0a16_6.eq_2 _ _ _ _ _)).trans ((if_neg c3).trans rfl))))) hH hS hl)
  have hol := ho
  refine L4 ((Int32.toInt (235) - Int32.toInt 0).toNat + 1) 0 x _ _ _ _ hol hH hS (lv_sub hl [0, 1, 2, 3] rfl) (fun x3 da H locs ls ex3 hH hS hl => ?_)
  replace ex3 := Eq.symm ex3
  subst ex3
  exact E _ _ _ _ _ _ _ _ dJ7_fill_d0a16_22 rfl (hp_x rfl hH) hS (Nat.zero_le _) (Nat.zero_le _)
theorem k_J7_fill_d0a16 {p : Program} {l : Launch} {e : Env} {R : Room} {s : State} {m : MethodId} {args : Array Value} {below : List Frame} {meth : Method} {c : Code} {H : Heap} {locs : List Loc} {cells slots : Nat} {Q : State → Prop} {cc : ByteArray} {pc nL : Nat} {ls : Array Slot} {rest : List Value} {G : gG} {own : String} {da : Nat → Nat} {v : vSt} {x : gX} (X : CX G p s m args c cc nL own) (hS : va_S (gA G) s.heap H locs) (hH : Hp G da v x H) {o1 : Nat} (hk_o1 : kd o1 = 29) {p1 : Int64} (ho : oJ7_fill_d0a16 o1 p1 v x) {idx : Nat} (hml : Cond.methodLink own idx yJ7_fill_d0a16 ∈ TT) (hls : ls.size = nL) (hsum : (rest.map fun v => v.category).sum ≤ 8) (hR : rmJ7_fill_d0a16.frames + 1 ≤ R.frames ∧ 8 + (5 + 11) + rmJ7_fill_d0a16.locals ≤ R.locals) (hcs : cells ≤ R.cells ∧ slots ≤ R.slots) (hdg : decode cc pc = .ok (.invokestatic idx, 3)) (kk : ∀ (d : Nat → Nat) (H1 : Heap) (locs1 : List Loc) (x1 : gX), x1 = (fJ7_fill_d0a16 o1 p1 v x) → Hp G d v x1 H1 → va_S (gA G) s.heap H1 locs1 → W p l e R s m args below meth c H1 locs1 cells slots Q (F0 m (pc + 3) ls (rest))) : W p l e R s m args below meth c H locs cells slots Q (F0 m pc ls (.long p1 :: .ref (ga G o1) :: rest)) := c_mv X.2.2.2.2.2.2 (runS (k := 2) X.1 X.2.1 X.2.2.1 X.2.2.2.1 X.2.2.2.2.1 (mJ7_fill_d0a16 l G da v x o1 hk_o1 p1 ho) pW_bl hml t_st_J7_fill_d0a16 t_ini_ju_Arrays t_code_J7_fill_d0a16 ⟨by decide, by decide, by decide +kernel⟩ rfl rfl hR hcs (preW X hS hH) rfl hls rfl hsum hdg) hS (fun d9 H9 L9 v9 e9 hH9 => kk d9 H9 L9 _ rfl (by subst e9; exact hH9))
def lX6_putShifted_14 (o1 : Nat) (o2 : Nat) (p1 : Int32) : Nat → Int32 → gX → gX
  | 0, i1, x2 => x2
  | n + 1, i1, x2 => if (235 : Int32) ≤ i1 then x2 else (let y5 : Int64 := (if ((p1 - p1 / 64 * 64) : Int32) ≤ 0 then (lsl (x2.1 o1 (i1 - (p1 / 64) : Int32).toNatClampNeg) (p1 - p1 / 64 * 64)) else (if (i1 : Int32) ≤ (p1 / 64) then (lsl (x2.1 o1 (i1 - (p1 / 64) : Int32).toNatClampNeg) (p1 - p1 / 64 * 64)) else (let y9 : Int64 := (lsl (x2.1 o1 (i1 - (p1 / 64) : Int32).toNatClampNeg) (p1 - p1 / 64 * 64)) ||| (lsr (x2.1 o1 ((i1 - (p1 / 64)) - 1 : Int32).toNatClampNeg) (64 - (p1 - p1 / 64 * 64))); y9)) : Int64); let x8 : gX := xu x2 o2 (i1 : Int32).toNatClampNeg ((x2.1 o2 (i1 : Int32).toNatClampNeg) ||| y5); lX6_putShifted_14 o1 o2 p1 n (i1 + 1) x8)
def olX6_putShifted_14 (o1 : Nat) (o2 : Nat) (p1 : Int32) : Nat → Int32 → gX → Prop
  | 0, _, _ => False
  | n + 1, i1, x2 => ¬ ((235 : Int32) ≤ i1) → ((vp_in (i1 - (p1 / 64)) 235) ∧ ((¬ (((p1 - p1 / 64 * 64) : Int32) ≤ 0) → (¬ ((i1 : Int32) ≤ (p1 / 64)) → (vp_in ((i1 - (p1 / 64)) - 1) 235))) ∧ (∀ (y5 : Int64), y5 = ((if ((p1 - p1 / 64 * 64) : Int32) ≤ 0 then (lsl (x2.1 o1 (i1 - (p1 / 64) : Int32).toNatClampNeg) (p1 - p1 / 64 * 64)) else (if (i1 : Int32) ≤ (p1 / 64) then (lsl (x2.1 o1 (i1 - (p1 / 64) : Int32).toNatClampNeg) (p1 - p1 / 64 * 64)) else (let y9 : Int64 := (lsl (x2.1 o1 (i1 - (p1 / 64) : Int32).toNatClampNeg) (p1 - p1 / 64 * 64)) ||| (lsr (x2.1 o1 ((i1 - (p1 / 64)) - 1 : Int32).toNatClampNeg) (64 - (p1 - p1 / 64 * 64))); y9)) : Int64) : Int64) → ((vp_in (i1) 235) ∧ (∀ x8 : gX, x8 = (xu x2 o2 (i1 : Int32).toNatClampNeg ((x2.1 o2 (i1 : Int32).toNatClampNeg) ||| y5)) → (olX6_putShifted_14 o1 o2 p1 n (i1 + 1) x8))))))
def fX6_putShifted (o1 : Nat) (o2 : Nat) (p1 : Int32) (v : vSt) (x : gX) : gX := let x3 : gX := (lX6_putShifted_14 o1 o2 p1 ((Int32.toInt (235) - Int32.toInt (p1 / 64)).toNat + 1) (p1 / 64) x); let x10 : gX := xu x3 o2 (234 : Int32).toNatClampNeg ((x3.1 o2 (234 : Int32).toNatClampNeg) &&& (33554431 : Int64)); x10
def oX6_putShifted (o1 : Nat) (o2 : Nat) (p1 : Int32) (v : vSt) (x : gX) : Prop := olX6_putShifted_14 o1 o2 p1 ((Int32.toInt (235) - Int32.toInt (p1 / 64)).toNat + 1) (p1 / 64) x
abbrev rmX6_putShifted : Room := { frames := 0, cells := 0, slots := 0, locals := 0 }
theorem dX6_putShifted_0 : decode cX6_putShifted 0 = .ok (.iload_n 2, 1) := by decide +kernel
theorem dX6_putShifted_1 : decode cX6_putShifted 1 = .ok (.bipush 64, 2) := by decide +kernel
theorem dX6_putShifted_3 : decode cX6_putShifted 3 = .ok (.idiv, 1) := by decide +kernel
theorem dX6_putShifted_4 : decode cX6_putShifted 4 = .ok (.istore_n 3, 1) := by decide +kernel
theorem dX6_putShifted_5 : decode cX6_putShifted 5 = .ok (.iload_n 2, 1) := by decide +kernel
theorem dX6_putShifted_6 : decode cX6_putShifted 6 = .ok (.bipush 64, 2) := by decide +kernel
theorem dX6_putShifted_8 : decode cX6_putShifted 8 = .ok (.irem, 1) := by decide +kernel
theorem dX6_putShifted_9 : decode cX6_putShifted 9 = .ok (.istore 4, 2) := by decide +kernel
theorem dX6_putShifted_11 : decode cX6_putShifted 11 = .ok (.iload_n 3, 1) := by decide +kernel
theorem dX6_putShifted_12 : decode cX6_putShifted 12 = .ok (.istore 5, 2) := by decide +kernel
theorem dX6_putShifted_14 : decode cX6_putShifted 14 = .ok (.iload 5, 2) := by decide +kernel
theorem dX6_putShifted_16 : decode cX6_putShifted 16 = .ok (.sipush 235, 3) := by decide +kernel
theorem dX6_putShifted_19 : decode cX6_putShifted 19 = .ok (.if_icmp .ge 59, 3) := by decide +kernel
theorem dX6_putShifted_22 : decode cX6_putShifted 22 = .ok (.aload_n 0, 1) := by decide +kernel
theorem dX6_putShifted_23 : decode cX6_putShifted 23 = .ok (.iload 5, 2) := by decide +kernel
theorem dX6_putShifted_25 : decode cX6_putShifted 25 = .ok (.iload_n 3, 1) := by decide +kernel
theorem dX6_putShifted_26 : decode cX6_putShifted 26 = .ok (.isub, 1) := by decide +kernel
theorem dX6_putShifted_27 : decode cX6_putShifted 27 = .ok (.laload, 1) := by decide +kernel
theorem dX6_putShifted_28 : decode cX6_putShifted 28 = .ok (.iload 4, 2) := by decide +kernel
theorem dX6_putShifted_30 : decode cX6_putShifted 30 = .ok (.lshl, 1) := by decide +kernel
theorem dX6_putShifted_31 : decode cX6_putShifted 31 = .ok (.lstore 6, 2) := by decide +kernel
theorem dX6_putShifted_33 : decode cX6_putShifted 33 = .ok (.iload 4, 2) := by decide +kernel
theorem dX6_putShifted_35 : decode cX6_putShifted 35 = .ok (.ifCond .le 28, 3) := by decide +kernel
theorem dX6_putShifted_38 : decode cX6_putShifted 38 = .ok (.iload 5, 2) := by decide +kernel
theorem dX6_putShifted_40 : decode cX6_putShifted 40 = .ok (.iload_n 3, 1) := by decide +kernel
theorem dX6_putShifted_41 : decode cX6_putShifted 41 = .ok (.if_icmp .le 22, 3) := by decide +kernel
theorem dX6_putShifted_44 : decode cX6_putShifted 44 = .ok (.lload 6, 2) := by decide +kernel
theorem dX6_putShifted_46 : decode cX6_putShifted 46 = .ok (.aload_n 0, 1) := by decide +kernel
theorem dX6_putShifted_47 : decode cX6_putShifted 47 = .ok (.iload 5, 2) := by decide +kernel
theorem dX6_putShifted_49 : decode cX6_putShifted 49 = .ok (.iload_n 3, 1) := by decide +kernel
theorem dX6_putShifted_50 : decode cX6_putShifted 50 = .ok (.isub, 1) := by decide +kernel
theorem dX6_putShifted_51 : decode cX6_putShifted 51 = .ok (.iconst 1, 1) := by decide +kernel
theorem dX6_putShifted_52 : decode cX6_putShifted 52 = .ok (.isub, 1) := by decide +kernel
theorem dX6_putShifted_53 : decode cX6_putShifted 53 = .ok (.laload, 1) := by decide +kernel
theorem dX6_putShifted_54 : decode cX6_putShifted 54 = .ok (.bipush 64, 2) := by decide +kernel
theorem dX6_putShifted_56 : decode cX6_putShifted 56 = .ok (.iload 4, 2) := by decide +kernel
theorem dX6_putShifted_58 : decode cX6_putShifted 58 = .ok (.isub, 1) := by decide +kernel
theorem dX6_putShifted_59 : decode cX6_putShifted 59 = .ok (.lushr, 1) := by decide +kernel
theorem dX6_putShifted_60 : decode cX6_putShifted 60 = .ok (.lor, 1) := by decide +kernel
theorem dX6_putShifted_61 : decode cX6_putShifted 61 = .ok (.lstore 6, 2) := by decide +kernel
theorem dX6_putShifted_63 : decode cX6_putShifted 63 = .ok (.aload_n 1, 1) := by decide +kernel
theorem dX6_putShifted_64 : decode cX6_putShifted 64 = .ok (.iload 5, 2) := by decide +kernel
theorem dX6_putShifted_66 : decode cX6_putShifted 66 = .ok (.dup2, 1) := by decide +kernel
theorem dX6_putShifted_67 : decode cX6_putShifted 67 = .ok (.laload, 1) := by decide +kernel
theorem dX6_putShifted_68 : decode cX6_putShifted 68 = .ok (.lload 6, 2) := by decide +kernel
theorem dX6_putShifted_70 : decode cX6_putShifted 70 = .ok (.lor, 1) := by decide +kernel
theorem dX6_putShifted_71 : decode cX6_putShifted 71 = .ok (.lastore, 1) := by decide +kernel
theorem dX6_putShifted_72 : decode cX6_putShifted 72 = .ok (.iinc 5 1, 3) := by decide +kernel
theorem dX6_putShifted_75 : decode cX6_putShifted 75 = .ok (.goto (-61), 3) := by decide +kernel
theorem dX6_putShifted_78 : decode cX6_putShifted 78 = .ok (.aload_n 1, 1) := by decide +kernel
theorem dX6_putShifted_79 : decode cX6_putShifted 79 = .ok (.sipush 234, 3) := by decide +kernel
theorem dX6_putShifted_82 : decode cX6_putShifted 82 = .ok (.dup2, 1) := by decide +kernel
theorem dX6_putShifted_83 : decode cX6_putShifted 83 = .ok (.laload, 1) := by decide +kernel
theorem dX6_putShifted_84 : decode cX6_putShifted 84 = .ok (.ldc2_w 41, 3) := by decide +kernel
theorem dX6_putShifted_87 : decode cX6_putShifted 87 = .ok (.land, 1) := by decide +kernel
theorem dX6_putShifted_88 : decode cX6_putShifted 88 = .ok (.lastore, 1) := by decide +kernel
theorem dX6_putShifted_89 : decode cX6_putShifted 89 = .ok (.return_, 1) := by decide +kernel
set_option maxHeartbeats 8000000 in
set_option maxRecDepth 100000 in
theorem mX6_putShifted (l : Launch) (G : gG) (da : Nat → Nat) (v : vSt) (x : gX) (o1 : Nat) (hk_o1 : kd o1 = 29) (o2 : Nat) (hk_o2 : kd o2 = 29) (p1 : Int32) (ho : oX6_putShifted o1 o2 p1 v x) : MV l yX6_putShifted cX6_putShifted 8 none rmX6_putShifted [.ref (ga G o1), .ref (ga G o2), .int p1] G da v x 0 0 v (fX6_putShifted o1 o2 p1 v x) := by
  refine gofMV (own := RX6) (by decide) rfl (Nat.le_of_ble_eq_true rfl) (fun p e s m args below meth c ls Q X hH hl E => ?_)
  have hx := X.1
  have hb := X.2.1
  have hown := X.2.2.2.1
  have hts := X.2.2.2.2.1
  have hS : va_S (gA G) s.heap s.heap [] := va_S.rf
  unfold oX6_putShifted at ho
  have hl : lv_has ls 8 [(0, .ref (ga G o1)), (1, .ref (ga G o2)), (2, .int p1)] := hl
  refine lv_iload_n hx hb dX6_putShifted_0 rfl (lv_at hl 2 rfl) ?_
  refine lv_bipush (v := 64) hx hb dX6_putShifted_1 (by decide) ?_
  refine lv_idiv hx hb dX6_putShifted_3 (by decide) ?_
  refine lv_istore_n (lv' := [(3, .int (p1 / 64)), (0, .ref (ga G o1)), (1, .ref (ga G o2)), (2, .int p1)]) hx hb dX6_putShifted_4 rfl hl (by decide) rfl (fun ls hl => ?_)
  refine lv_iload_n hx hb dX6_putShifted_5 rfl (lv_at hl 3 rfl) ?_
  refine lv_bipush (v := 64) hx hb dX6_putShifted_6 (by decide) ?_
  refine lv_irem hx hb dX6_putShifted_8 (by decide) ?_
  refine lv_istore (lv' := [(4, .int (p1 - p1 / 64 * 64)), (3, .int (p1 / 64)), (0, .ref (ga G o1)), (1, .ref (ga G o2)), (2, .int p1)]) hx hb dX6_putShifted_9 hl (by decide) rfl (fun ls hl => ?_)
  refine lv_iload_n hx hb dX6_putShifted_11 rfl (lv_at hl 1 rfl) ?_
  refine lv_istore (lv' := [(5, .int (p1 / 64)), (4, .int (p1 - p1 / 64 * 64)), (3, .int (p1 / 64)), (0, .ref (ga G o1)), (1, .ref (ga G o2)), (2, .int p1)]) hx hb dX6_putShifted_12 hl (by decide) rfl (fun ls hl => ?_)
  have L4 : ∀ (n : Nat) (i1 : Int32) (x2 : gX) (da : Nat → Nat) (H : Heap) (locs : List Loc) (ls : Array Slot), olX6_putShifted_14 o1 o2 p1 n i1 x2 → Hp G da v x2 H → va_S (gA G) s.heap H locs → lv_has ls 8 [(5, .int i1), (4, .int (p1 - p1 / 64 * 64)), (3, .int (p1 / 64)), (0, .ref (ga G o1)), (1, .ref (ga G o2))] → (∀ (x3 : gX) (da : Nat → Nat) (H : Heap) (locs : List Loc) (ls : Array Slot), x3 = (lX6_putShifted_14 o1 o2 p1 n i1 x2 : gX) → Hp G da v x3 H → va_S (gA G) s.heap H locs → lv_has ls 8 [(1, .ref (ga G o2))] → W p l e rmX6_putShifted s m args below meth c H locs 0 0 Q (F0 m 78 ls [])) → W p l e rmX6_putShifted s m args below meth c H locs 0 0 Q (F0 m 14 ls []) := by
    clear ho
    intro n
    induction n with
    | zero =>
      intro i1 x2 da H locs ls ho
      exact ho.elim
    | succ n ih =>
      intro i1 x2 da H locs ls ho hH hS hl K5
      refine lv_iload hx hb dX6_putShifted_14 (lv_at hl 0 rfl) ?_
      refine lv_sipush (v := 235) hx hb dX6_putShifted_16 (by decide) ?_
      refine lv_icmp_ge (tgt := 78) hx hb dX6_putShifted_19 (by decide) (fun c3 => ?_) (fun c3 => ?_)
      · skip
        exact K5 _ _ _ _ _ (Eq.symm (((lX6_putShifted_14.eq_2 _ _ _ _ _ _)).trans ((if_pos c3).trans rfl))) hH hS (lv_sub hl [4] rfl)
      · have ho := ho c3
        refine lv_aload_n hx hb dX6_putShifted_22 rfl (lv_at hl 3 rfl) ?_
        refine lv_iload hx hb dX6_putShifted_23 (lv_at hl 0 rfl) ?_
        refine lv_iload_n hx hb dX6_putShifted_25 rfl (lv_at hl 2 rfl) ?_
        refine lv_isub hx hb dX6_putShifted_26 ?_
        have hq4 := ho.1
        have ho := ho.2
        refine lald_29 X hH hk_o1 hq4 dX6_putShifted_27 ?_
        refine lv_iload hx hb dX6_putShifted_28 (lv_at hl 1 rfl) ?_
        refine lv_lshl (v := lsl (x2.1 o1 (i1 - (p1 / 64) : Int32).toNatClampNeg) (p1 - p1 / 64 * 64)) hx hb dX6_putShifted_30 rfl ?_
        refine lv_lstore (lv' := [(6, .long (lsl (x2.1 o1 (i1 - (p1 / 64) : Int32).toNatClampNeg) (p1 - p1 / 64 * 64))), (5, .int i1), (4, .int (p1 - p1 / 64 * 64)), (3, .int (p1 / 64)), (0, .ref (ga G o1)), (1, .ref (ga G o2))]) hx hb dX6_putShifted_31 hl (by decide) rfl (fun ls hl => ?_)
        refine lv_iload hx hb dX6_putShifted_33 (lv_at hl 2 rfl) ?_
        have K6 : ∀ (y5 : Int64) (ls : Array Slot), y5 = (if ((p1 - p1 / 64 * 64) : Int32) ≤ 0 then (lsl (x2.1 o1 (i1 - (p1 / 64) : Int32).toNatClampNeg) (p1 - p1 / 64 * 64)) else (if (i1 : Int32) ≤ (p1 / 64) then (lsl (x2.1 o1 (i1 - (p1 / 64) : Int32).toNatClampNeg) (p1 - p1 / 64 * 64)) else (let y9 : Int64 := (lsl (x2.1 o1 (i1 - (p1 / 64) : Int32).toNatClampNeg) (p1 - p1 / 64 * 64)) ||| (lsr (x2.1 o1 ((i1 - (p1 / 64)) - 1 : Int32).toNatClampNeg) (64 - (p1 - p1 / 64 * 64))); y9)) : Int64) → lv_has ls 8 [(6, .long y5), (5, .int i1), (4, .int (p1 - p1 / 64 * 64)), (3, .int (p1 / 64)), (0, .ref (ga G o1)), (1, .ref (ga G o2))] → W p l e rmX6_putShifted s m args below meth c H locs 0 0 Q (F0 m 63 ls []) := by
          intro y5 ls ey5 hl
          have ho := ho.2 y5 ey5
          refine lv_aload_n hx hb dX6_putShifted_63 rfl (lv_at hl 5 rfl) ?_
          refine lv_iload hx hb dX6_putShifted_64 (lv_at hl 1 rfl) ?_
          refine lv_dup2_11 hx hb dX6_putShifted_66 rfl rfl ?_
          have hq7 := ho.1
          have ho := ho.2
          refine lald_29 X hH hk_o2 hq7 dX6_putShifted_67 ?_
          refine lv_lload hx hb dX6_putShifted_68 (lv_at hl 0 rfl) ?_
          refine lv_lor hx hb dX6_putShifted_70 ?_
          refine last_29 X hH hS hk_o2 hq7 dX6_putShifted_71 (fun H locs x8 ex8 hH hS => ?_)
          have ho := ho x8 ex8
          refine lv_iinc (v := i1 + 1) (lv' := [(5, .int (i1 + 1)), (6, .long y5), (4, .int (p1 - p1 / 64 * 64)), (3, .int (p1 / 64)), (0, .ref (ga G o1)), (1, .ref (ga G o2))]) hx hb dX6_putShifted_72 hl (k := 1) rfl rfl (by decide) rfl (fun ls hl => ?_)
          refine lv_goto (tgt := 14) hx hb dX6_putShifted_75 (by decide) ?_
          replace ey5 := Eq.symm ey5
          replace ex8 := Eq.symm ex8
          subst ey5 ex8
          exact ih _ _ _ _ _ _ ho hH hS (lv_sub hl [0, 2, 3, 4, 5] rfl) (fun x3 da H locs ls q0 hH hS hl => K5 x3 da H locs ls (q0.trans (congrArg (fun z : gX => z) (Eq.symm (((lX6_putShifted_14.eq_2 _ _ _ _ _ _)).trans ((if_neg c3).trans rfl))))) hH hS hl)
        have ho := ho.1
        refine lv_if_le (tgt := 63) hx hb dX6_putShifted_35 (by decide) (fun c6 => ?_) (fun c6 => ?_)
        · skip
          exact K6 _ _ (Eq.symm ((if_pos c6).trans rfl)) (lv_sub hl [0, 1, 2, 3, 4, 5] rfl)
        · have ho := ho c6
          refine lv_iload hx hb dX6_putShifted_38 (lv_at hl 1 rfl) ?_
          refine lv_iload_n hx hb dX6_putShifted_40 rfl (lv_at hl 3 rfl) ?_
          refine lv_icmp_le (tgt := 63) hx hb dX6_putShifted_41 (by decide) (fun c7 => ?_) (fun c7 => ?_)
          · skip
            exact K6 _ _ (Eq.symm ((if_neg c6).trans ((if_pos c7).trans rfl))) (lv_sub hl [0, 1, 2, 3, 4, 5] rfl)
          · have ho := ho c7
            refine lv_lload hx hb dX6_putShifted_44 (lv_at hl 0 rfl) ?_
            refine lv_aload_n hx hb dX6_putShifted_46 rfl (lv_at hl 4 rfl) ?_
            refine lv_iload hx hb dX6_putShifted_47 (lv_at hl 1 rfl) ?_
            refine lv_iload_n hx hb dX6_putShifted_49 rfl (lv_at hl 3 rfl) ?_
            refine lv_isub hx hb dX6_putShifted_50 ?_
            refine lv_iconst (v := 1) hx hb dX6_putShifted_51 (by decide) ?_
            refine lv_isub hx hb dX6_putShifted_52 ?_
            have hq8 := ho
            refine lald_29 X hH hk_o1 hq8 dX6_putShifted_53 ?_
            refine lv_bipush (v := 64) hx hb dX6_putShifted_54 (by decide) ?_
            refine lv_iload hx hb dX6_putShifted_56 (lv_at hl 2 rfl) ?_
            refine lv_isub hx hb dX6_putShifted_58 ?_
            refine lv_lushr (v := lsr (x2.1 o1 ((i1 - (p1 / 64)) - 1 : Int32).toNatClampNeg) (64 - (p1 - p1 / 64 * 64))) hx hb dX6_putShifted_59 rfl ?_
            refine lv_lor hx hb dX6_putShifted_60 ?_
            obtain ⟨y9, ey9⟩ : ∃ z : Int64, z = (lsl (x2.1 o1 (i1 - (p1 / 64) : Int32).toNatClampNeg) (p1 - p1 / 64 * 64)) ||| (lsr (x2.1 o1 ((i1 - (p1 / 64)) - 1 : Int32).toNatClampNeg) (64 - (p1 - p1 / 64 * 64))) := ⟨_, rfl⟩
            rw [← ey9]
            refine lv_lstore (lv' := [(6, .long y9), (5, .int i1), (4, .int (p1 - p1 / 64 * 64)), (3, .int (p1 / 64)), (0, .ref (ga G o1)), (1, .ref (ga G o2))]) hx hb dX6_putShifted_61 hl (by decide) rfl (fun ls hl => ?_)
            replace ey9 := Eq.symm ey9
            subst ey9
            exact K6 _ _ (Eq.symm ((if_neg c6).trans ((if_neg c7).trans rfl))) (lv_sub hl [0, 1, 2, 3, 4, 5] rfl)
  have hol := ho
  refine L4 ((Int32.toInt (235) - Int32.toInt (p1 / 64)).toNat + 1) (p1 / 64) x _ _ _ _ hol hH hS (lv_sub hl [0, 1, 2, 3, 4] rfl) (fun x3 da H locs ls ex3 hH hS hl => ?_)
  refine lv_aload_n hx hb dX6_putShifted_78 rfl (lv_at hl 0 rfl) ?_
  refine lv_sipush (v := 234) hx hb dX6_putShifted_79 (by decide) ?_
  refine lv_dup2_11 hx hb dX6_putShifted_82 rfl rfl ?_
  refine lald_29 X hH hk_o2 (i_in (by decide) (by decide)) dX6_putShifted_83 ?_
  refine lv_ldc2 (v := 33554431) hx hb hown (hts _ t_con_StackTable_41) dX6_putShifted_84 ?_
  refine lv_land hx hb dX6_putShifted_87 ?_
  refine last_29 X hH hS hk_o2 (i_in (by decide) (by decide)) dX6_putShifted_88 (fun H locs x10 ex10 hH hS => ?_)
  replace ex3 := Eq.symm ex3
  replace ex10 := Eq.symm ex10
  subst ex3 ex10
  exact E _ _ _ _ _ _ _ _ dX6_putShifted_89 rfl (hp_x rfl hH) hS (Nat.zero_le _) (Nat.zero_le _)
theorem k_X6_putShifted {p : Program} {l : Launch} {e : Env} {R : Room} {s : State} {m : MethodId} {args : Array Value} {below : List Frame} {meth : Method} {c : Code} {H : Heap} {locs : List Loc} {cells slots : Nat} {Q : State → Prop} {cc : ByteArray} {pc nL : Nat} {ls : Array Slot} {rest : List Value} {G : gG} {own : String} {da : Nat → Nat} {v : vSt} {x : gX} (X : CX G p s m args c cc nL own) (hS : va_S (gA G) s.heap H locs) (hH : Hp G da v x H) {o1 : Nat} (hk_o1 : kd o1 = 29) {o2 : Nat} (hk_o2 : kd o2 = 29) {p1 : Int32} (ho : oX6_putShifted o1 o2 p1 v x) {idx : Nat} (hml : Cond.methodLink own idx yX6_putShifted ∈ TT) (hls : ls.size = nL) (hsum : (rest.map fun v => v.category).sum ≤ 8) (hR : rmX6_putShifted.frames + 1 ≤ R.frames ∧ 8 + (8 + 11) + rmX6_putShifted.locals ≤ R.locals) (hcs : cells ≤ R.cells ∧ slots ≤ R.slots) (hdg : decode cc pc = .ok (.invokestatic idx, 3)) (kk : ∀ (d : Nat → Nat) (H1 : Heap) (locs1 : List Loc) (x1 : gX), x1 = (fX6_putShifted o1 o2 p1 v x) → Hp G d v x1 H1 → va_S (gA G) s.heap H1 locs1 → W p l e R s m args below meth c H1 locs1 cells slots Q (F0 m (pc + 3) ls (rest))) : W p l e R s m args below meth c H locs cells slots Q (F0 m pc ls (.int p1 :: .ref (ga G o2) :: .ref (ga G o1) :: rest)) := c_mv X.2.2.2.2.2.2 (runS (k := 3) X.1 X.2.1 X.2.2.1 X.2.2.2.1 X.2.2.2.2.1 (mX6_putShifted l G da v x o1 hk_o1 o2 hk_o2 p1 ho) pW_bl hml t_st_X6_putShifted t_ini_StackTable t_code_X6_putShifted ⟨by decide, by decide, by decide +kernel⟩ rfl rfl hR hcs (preW X hS hH) rfl hls rfl hsum hdg) hS (fun d9 H9 L9 v9 e9 hH9 => kk d9 H9 L9 _ rfl (by subst e9; exact hH9))
def lX6_fill_2 (v : vSt) : Nat → Int32 → gX → gX
  | 0, i1, x2 => x2
  | n + 1, i1, x2 => if (6 : Int32) ≤ i1 then x2 else (let x6 : gX := fJ7_fill_d0a16 (455 + (i1 : Int32).toNatClampNeg) 0 v x2; lX6_fill_2 v n (i1 + 1) x6)
def olX6_fill_2 (v : vSt) : Nat → Int32 → gX → Prop
  | 0, _, _ => False
  | n + 1, i1, x2 => ¬ ((6 : Int32) ≤ i1) → ((vp_in (i1) 6) ∧ ((oJ7_fill_d0a16 (455 + (i1 : Int32).toNatClampNeg) 0 v x2) ∧ (∀ x6 : gX, x6 = (fJ7_fill_d0a16 (455 + (i1 : Int32).toNatClampNeg) 0 v x2) → (olX6_fill_2 v n (i1 + 1) x6))))
def lX6_fill_48 (v : vSt) (o1 : Nat) (i8 : Int32) : Nat → Int32 → gX → gX
  | 0, i12, x13 => x13
  | n + 1, i12, x13 => if (i12 : Int32) ≤ 0 then x13 else (let x19 : gX := fX6_putShifted (455 + (i12 - 1 : Int32).toNatClampNeg) (455 + (i12 : Int32).toNatClampNeg) (v ((o1 + 3) + 20 + (i8 : Int32).toNatClampNeg) 0) v x13; lX6_fill_48 v o1 i8 n (i12 + (-1)) x19)
def olX6_fill_48 (v : vSt) (o1 : Nat) (i8 : Int32) : Nat → Int32 → gX → Prop
  | 0, _, _ => False
  | n + 1, i12, x13 => ¬ ((i12 : Int32) ≤ 0) → ((vp_in (i12 - 1) 6) ∧ ((vp_in (i12) 6) ∧ ((vp_in (i8) 10) ∧ ((oX6_putShifted (455 + (i12 - 1 : Int32).toNatClampNeg) (455 + (i12 : Int32).toNatClampNeg) (v ((o1 + 3) + 20 + (i8 : Int32).toNatClampNeg) 0) v x13) ∧ (∀ x19 : gX, x19 = (fX6_putShifted (455 + (i12 - 1 : Int32).toNatClampNeg) (455 + (i12 : Int32).toNatClampNeg) (v ((o1 + 3) + 20 + (i8 : Int32).toNatClampNeg) 0) v x13) → (olX6_fill_48 v o1 i8 n (i12 + (-1)) x19))))))
def lX6_fill_38 (v : vSt) (o1 : Nat) : Nat → Int32 → gX → gX
  | 0, i8, x9 => x9
  | n + 1, i8, x9 => if ((v o1 3) : Int32) ≤ i8 then x9 else (if (10 : Int32) ≤ i8 then x9 else (let x14 : gX := (lX6_fill_48 v o1 i8 (7) 5 x9); lX6_fill_38 v o1 n (i8 + 1) x14))
def olX6_fill_38 (v : vSt) (o1 : Nat) : Nat → Int32 → gX → Prop
  | 0, _, _ => False
  | n + 1, i8, x9 => ¬ (((v o1 3) : Int32) ≤ i8) → (¬ ((10 : Int32) ≤ i8) → (olX6_fill_48 v o1 i8 (7) 5 x9 ∧ (∀ (x14 : gX), x14 = ((lX6_fill_48 v o1 i8 (7) 5 x9) : gX) → (olX6_fill_38 v o1 n (i8 + 1) x14))))
def fX6_fill (r : Nat) (o1 : Nat) (v : vSt) (x : gX) : gX := let x3 : gX := (lX6_fill_2 v ((Int32.toInt (6) - Int32.toInt 0).toNat + 1) 0 x); let x7 : gX := xu x3 (455 + (0 : Int32).toNatClampNeg) (0 : Int32).toNatClampNeg 1; let x10 : gX := (lX6_fill_38 v o1 ((Int32.toInt ((v o1 3)) - Int32.toInt 0).toNat + 1) 0 x7); x10
def oX6_fill (r : Nat) (o1 : Nat) (v : vSt) (x : gX) : Prop := olX6_fill_2 v ((Int32.toInt (6) - Int32.toInt 0).toNat + 1) 0 x ∧ (∀ (x3 : gX), x3 = ((lX6_fill_2 v ((Int32.toInt (6) - Int32.toInt 0).toNat + 1) 0 x) : gX) → (∀ x7 : gX, x7 = (xu x3 (455 + (0 : Int32).toNatClampNeg) (0 : Int32).toNatClampNeg 1) → (olX6_fill_38 v o1 ((Int32.toInt ((v o1 3)) - Int32.toInt 0).toNat + 1) 0 x7)))
abbrev rmX6_fill : Room := { frames := 1, cells := 0, slots := 0, locals := 27 }
theorem dX6_fill_0 : decode cX6_fill 0 = .ok (.iconst 0, 1) := by decide +kernel
theorem dX6_fill_1 : decode cX6_fill 1 = .ok (.istore_n 2, 1) := by decide +kernel
theorem dX6_fill_2 : decode cX6_fill 2 = .ok (.iload_n 2, 1) := by decide +kernel
theorem dX6_fill_3 : decode cX6_fill 3 = .ok (.aload_n 0, 1) := by decide +kernel
theorem dX6_fill_4 : decode cX6_fill 4 = .ok (.getfield 13, 3) := by decide +kernel
theorem dX6_fill_7 : decode cX6_fill 7 = .ok (.arraylength, 1) := by decide +kernel
theorem dX6_fill_8 : decode cX6_fill 8 = .ok (.if_icmp .ge 19, 3) := by decide +kernel
theorem dX6_fill_11 : decode cX6_fill 11 = .ok (.aload_n 0, 1) := by decide +kernel
theorem dX6_fill_12 : decode cX6_fill 12 = .ok (.getfield 13, 3) := by decide +kernel
theorem dX6_fill_15 : decode cX6_fill 15 = .ok (.iload_n 2, 1) := by decide +kernel
theorem dX6_fill_16 : decode cX6_fill 16 = .ok (.aaload, 1) := by decide +kernel
theorem dX6_fill_17 : decode cX6_fill 17 = .ok (.lconst 0, 1) := by decide +kernel
theorem dX6_fill_18 : decode cX6_fill 18 = .ok (.invokestatic 16, 3) := by decide +kernel
theorem dX6_fill_21 : decode cX6_fill 21 = .ok (.iinc 2 1, 3) := by decide +kernel
theorem dX6_fill_24 : decode cX6_fill 24 = .ok (.goto (-22), 3) := by decide +kernel
theorem dX6_fill_27 : decode cX6_fill 27 = .ok (.aload_n 0, 1) := by decide +kernel
theorem dX6_fill_28 : decode cX6_fill 28 = .ok (.getfield 13, 3) := by decide +kernel
theorem dX6_fill_31 : decode cX6_fill 31 = .ok (.iconst 0, 1) := by decide +kernel
theorem dX6_fill_32 : decode cX6_fill 32 = .ok (.aaload, 1) := by decide +kernel
theorem dX6_fill_33 : decode cX6_fill 33 = .ok (.iconst 0, 1) := by decide +kernel
theorem dX6_fill_34 : decode cX6_fill 34 = .ok (.lconst 1, 1) := by decide +kernel
theorem dX6_fill_35 : decode cX6_fill 35 = .ok (.lastore, 1) := by decide +kernel
theorem dX6_fill_36 : decode cX6_fill 36 = .ok (.iconst 0, 1) := by decide +kernel
theorem dX6_fill_37 : decode cX6_fill 37 = .ok (.istore_n 2, 1) := by decide +kernel
theorem dX6_fill_38 : decode cX6_fill 38 = .ok (.iload_n 2, 1) := by decide +kernel
theorem dX6_fill_39 : decode cX6_fill 39 = .ok (.aload_n 1, 1) := by decide +kernel
theorem dX6_fill_40 : decode cX6_fill 40 = .ok (.getfield 22, 3) := by decide +kernel
theorem dX6_fill_43 : decode cX6_fill 43 = .ok (.if_icmp .ge 56, 3) := by decide +kernel
theorem dX6_fill_46 : decode cX6_fill 46 = .ok (.iload_n 2, 1) := by decide +kernel
theorem dX6_fill_47 : decode cX6_fill 47 = .ok (.aload_n 1, 1) := by decide +kernel
theorem dX6_fill_48 : decode cX6_fill 48 = .ok (.getfield 28, 3) := by decide +kernel
theorem dX6_fill_51 : decode cX6_fill 51 = .ok (.arraylength, 1) := by decide +kernel
theorem dX6_fill_52 : decode cX6_fill 52 = .ok (.if_icmp .ge 47, 3) := by decide +kernel
theorem dX6_fill_55 : decode cX6_fill 55 = .ok (.iconst 5, 1) := by decide +kernel
theorem dX6_fill_56 : decode cX6_fill 56 = .ok (.istore_n 3, 1) := by decide +kernel
theorem dX6_fill_57 : decode cX6_fill 57 = .ok (.iload_n 3, 1) := by decide +kernel
theorem dX6_fill_58 : decode cX6_fill 58 = .ok (.ifCond .le 35, 3) := by decide +kernel
theorem dX6_fill_61 : decode cX6_fill 61 = .ok (.aload_n 0, 1) := by decide +kernel
theorem dX6_fill_62 : decode cX6_fill 62 = .ok (.getfield 13, 3) := by decide +kernel
theorem dX6_fill_65 : decode cX6_fill 65 = .ok (.iload_n 3, 1) := by decide +kernel
theorem dX6_fill_66 : decode cX6_fill 66 = .ok (.iconst 1, 1) := by decide +kernel
theorem dX6_fill_67 : decode cX6_fill 67 = .ok (.isub, 1) := by decide +kernel
theorem dX6_fill_68 : decode cX6_fill 68 = .ok (.aaload, 1) := by decide +kernel
theorem dX6_fill_69 : decode cX6_fill 69 = .ok (.aload_n 0, 1) := by decide +kernel
theorem dX6_fill_70 : decode cX6_fill 70 = .ok (.getfield 13, 3) := by decide +kernel
theorem dX6_fill_73 : decode cX6_fill 73 = .ok (.iload_n 3, 1) := by decide +kernel
theorem dX6_fill_74 : decode cX6_fill 74 = .ok (.aaload, 1) := by decide +kernel
theorem dX6_fill_75 : decode cX6_fill 75 = .ok (.aload_n 1, 1) := by decide +kernel
theorem dX6_fill_76 : decode cX6_fill 76 = .ok (.getfield 28, 3) := by decide +kernel
theorem dX6_fill_79 : decode cX6_fill 79 = .ok (.iload_n 2, 1) := by decide +kernel
theorem dX6_fill_80 : decode cX6_fill 80 = .ok (.aaload, 1) := by decide +kernel
theorem dX6_fill_81 : decode cX6_fill 81 = .ok (.getfield 32, 3) := by decide +kernel
theorem dX6_fill_84 : decode cX6_fill 84 = .ok (.invokestatic 37, 3) := by decide +kernel
theorem dX6_fill_87 : decode cX6_fill 87 = .ok (.iinc 3 (-1), 3) := by decide +kernel
theorem dX6_fill_90 : decode cX6_fill 90 = .ok (.goto (-33), 3) := by decide +kernel
theorem dX6_fill_93 : decode cX6_fill 93 = .ok (.iinc 2 1, 3) := by decide +kernel
theorem dX6_fill_96 : decode cX6_fill 96 = .ok (.goto (-58), 3) := by decide +kernel
theorem dX6_fill_99 : decode cX6_fill 99 = .ok (.return_, 1) := by decide +kernel
set_option maxHeartbeats 8000000 in
set_option maxRecDepth 100000 in
theorem mX6_fill (l : Launch) (G : gG) (da : Nat → Nat) (v : vSt) (x : gX) (r : Nat) (hk_r : kd r = 6) (o1 : Nat) (hk_o1 : kd o1 = 2) (ho : oX6_fill r o1 v x) : MV l yX6_fill cX6_fill 4 none rmX6_fill [.ref (ga G r), .ref (ga G o1)] G da v x 0 0 v (fX6_fill r o1 v x) := by
  refine gofMV (own := RX6) (by decide) rfl (Nat.le_of_ble_eq_true rfl) (fun p e s m args below meth c ls Q X hH hl E => ?_)
  have hx := X.1
  have hb := X.2.1
  have hown := X.2.2.2.1
  have hts := X.2.2.2.2.1
  have hS : va_S (gA G) s.heap s.heap [] := va_S.rf
  unfold oX6_fill at ho
  have hl : lv_has ls 4 [(0, .ref (ga G r)), (1, .ref (ga G o1))] := hl
  refine lv_iconst (v := 0) hx hb dX6_fill_0 (by decide) ?_
  refine lv_istore_n (lv' := [(2, .int 0), (0, .ref (ga G r)), (1, .ref (ga G o1))]) hx hb dX6_fill_1 rfl hl (by decide) rfl (fun ls hl => ?_)
  have L4 : ∀ (n : Nat) (i1 : Int32) (x2 : gX) (da : Nat → Nat) (H : Heap) (locs : List Loc) (ls : Array Slot), olX6_fill_2 v n i1 x2 → Hp G da v x2 H → va_S (gA G) s.heap H locs → lv_has ls 4 [(2, .int i1), (0, .ref (ga G r)), (1, .ref (ga G o1))] → (∀ (x3 : gX) (da : Nat → Nat) (H : Heap) (locs : List Loc) (ls : Array Slot), x3 = (lX6_fill_2 v n i1 x2 : gX) → Hp G da v x3 H → va_S (gA G) s.heap H locs → lv_has ls 4 [(0, .ref (ga G r)), (1, .ref (ga G o1))] → W p l e rmX6_fill s m args below meth c H locs 0 0 Q (F0 m 27 ls [])) → W p l e rmX6_fill s m args below meth c H locs 0 0 Q (F0 m 2 ls []) := by
    clear ho
    intro n
    induction n with
    | zero =>
      intro i1 x2 da H locs ls ho
      exact ho.elim
    | succ n ih =>
      intro i1 x2 da H locs ls ho hH hS hl K5
      refine lv_iload_n hx hb dX6_fill_2 rfl (lv_at hl 0 rfl) ?_
      refine lv_aload_n hx hb dX6_fill_3 rfl (lv_at hl 1 rfl) ?_
      refine g_StackTable_13 X hH hk_r dX6_fill_4 ?_
      refine len_28 X hH kd_454 dX6_fill_7 ?_
      refine lv_icmp_ge (tgt := 27) hx hb dX6_fill_8 (by decide) (fun c3 => ?_) (fun c3 => ?_)
      · skip
        exact K5 _ _ _ _ _ (Eq.symm (((lX6_fill_2.eq_2 _ _ _ _)).trans ((if_pos c3).trans rfl))) hH hS (lv_sub hl [1, 2] rfl)
      · have ho := ho c3
        refine lv_aload_n hx hb dX6_fill_11 rfl (lv_at hl 1 rfl) ?_
        refine g_StackTable_13 X hH hk_r dX6_fill_12 ?_
        refine lv_iload_n hx hb dX6_fill_15 rfl (lv_at hl 0 rfl) ?_
        have hq4 := ho.1
        have ho := ho.2
        refine qld_28 X hH kd_454 hq4 dX6_fill_16 ?_
        refine lv_lconst (v := 0) hx hb dX6_fill_17 rfl ?_
        have hq5 := ho.1
        have ho := ho.2
        refine k_J7_fill_d0a16 X hS hH (ki_28 (vp_lt hq4)) hq5 t_ml_StackTable_16 hl.1 (Nat.le_of_ble_eq_true rfl) ⟨Nat.le_of_ble_eq_true rfl, Nat.le_of_ble_eq_true rfl⟩ ⟨Nat.zero_le _, Nat.zero_le _⟩ dX6_fill_18 (fun da H locs x6 ex6 hH hS => ?_)
        have ho := ho x6 ex6
        refine lv_iinc (v := i1 + 1) (lv' := [(2, .int (i1 + 1)), (0, .ref (ga G r)), (1, .ref (ga G o1))]) hx hb dX6_fill_21 hl (k := 0) rfl rfl (by decide) rfl (fun ls hl => ?_)
        refine lv_goto (tgt := 2) hx hb dX6_fill_24 (by decide) ?_
        replace ex6 := Eq.symm ex6
        subst ex6
        exact ih _ _ _ _ _ _ ho hH hS (lv_sub hl [0, 1, 2] rfl) (fun x3 da H locs ls q0 hH hS hl => K5 x3 da H locs ls (q0.trans (congrArg (fun z : gX => z) (Eq.symm (((lX6_fill_2.eq_2 _ _ _ _)).trans ((if_neg c3).trans rfl))))) hH hS hl)
  have hol := ho.1
  refine L4 ((Int32.toInt (6) - Int32.toInt 0).toNat + 1) 0 x _ _ _ _ hol hH hS (lv_sub hl [0, 1, 2] rfl) (fun x3 da H locs ls ex3 hH hS hl => ?_)
  have ho := ho.2 x3 ex3
  refine lv_aload_n hx hb dX6_fill_27 rfl (lv_at hl 0 rfl) ?_
  refine g_StackTable_13 X hH hk_r dX6_fill_28 ?_
  refine lv_iconst (v := 0) hx hb dX6_fill_31 (by decide) ?_
  refine qld_28 X hH kd_454 (i_in (by decide) (by decide)) dX6_fill_32 ?_
  refine lv_iconst (v := 0) hx hb dX6_fill_33 (by decide) ?_
  refine lv_lconst (v := 1) hx hb dX6_fill_34 rfl ?_
  refine last_29 X hH hS (ki_28 (vp_lt (i_in (by decide) (by decide)))) (i_in (by decide) (by decide)) dX6_fill_35 (fun H locs x7 ex7 hH hS => ?_)
  have ho := ho x7 ex7
  refine lv_iconst (v := 0) hx hb dX6_fill_36 (by decide) ?_
  refine lv_istore_n (lv' := [(2, .int 0), (0, .ref (ga G r)), (1, .ref (ga G o1))]) hx hb dX6_fill_37 rfl hl (by decide) rfl (fun ls hl => ?_)
  have L11 : ∀ (n : Nat) (i8 : Int32) (x9 : gX) (da : Nat → Nat) (H : Heap) (locs : List Loc) (ls : Array Slot), olX6_fill_38 v o1 n i8 x9 → Hp G da v x9 H → va_S (gA G) s.heap H locs → lv_has ls 4 [(2, .int i8), (0, .ref (ga G r)), (1, .ref (ga G o1))] → (∀ (x10 : gX) (da : Nat → Nat) (H : Heap) (locs : List Loc) (ls : Array Slot), x10 = (lX6_fill_38 v o1 n i8 x9 : gX) → Hp G da v x10 H → va_S (gA G) s.heap H locs → lv_has ls 4 [] → W p l e rmX6_fill s m args below meth c H locs 0 0 Q (F0 m 99 ls [])) → W p l e rmX6_fill s m args below meth c H locs 0 0 Q (F0 m 38 ls []) := by
    clear ho
    intro n
    induction n with
    | zero =>
      intro i8 x9 da H locs ls ho
      exact ho.elim
    | succ n ih =>
      intro i8 x9 da H locs ls ho hH hS hl K12
      refine lv_iload_n hx hb dX6_fill_38 rfl (lv_at hl 0 rfl) ?_
      refine lv_aload_n hx hb dX6_fill_39 rfl (lv_at hl 2 rfl) ?_
      refine g_StackTable_22 X hH hk_o1 dX6_fill_40 ?_
      refine lv_icmp_ge (tgt := 99) hx hb dX6_fill_43 (by decide) (fun c10 => ?_) (fun c10 => ?_)
      · skip
        exact K12 _ _ _ _ _ (Eq.symm (((lX6_fill_38.eq_2 _ _ _ _ _)).trans ((if_pos c10).trans rfl))) hH hS (lv_sub hl [] rfl)
      · have ho := ho c10
        refine lv_iload_n hx hb dX6_fill_46 rfl (lv_at hl 0 rfl) ?_
        refine lv_aload_n hx hb dX6_fill_47 rfl (lv_at hl 2 rfl) ?_
        refine g_StackTable_28 X hH hk_o1 dX6_fill_48 ?_
        refine len_21 X hH (kc_2_21 hk_o1) dX6_fill_51 ?_
        refine lv_icmp_ge (tgt := 99) hx hb dX6_fill_52 (by decide) (fun c11 => ?_) (fun c11 => ?_)
        · skip
          exact K12 _ _ _ _ _ (Eq.symm (((lX6_fill_38.eq_2 _ _ _ _ _)).trans ((if_neg c10).trans ((if_pos c11).trans rfl)))) hH hS (lv_sub hl [] rfl)
        · have ho := ho c11
          refine lv_iconst (v := 5) hx hb dX6_fill_55 (by decide) ?_
          refine lv_istore_n (lv' := [(3, .int 5), (2, .int i8), (0, .ref (ga G r)), (1, .ref (ga G o1))]) hx hb dX6_fill_56 rfl hl (by decide) rfl (fun ls hl => ?_)
          have L15 : ∀ (n : Nat) (i12 : Int32) (x13 : gX) (da : Nat → Nat) (H : Heap) (locs : List Loc) (ls : Array Slot), olX6_fill_48 v o1 i8 n i12 x13 → Hp G da v x13 H → va_S (gA G) s.heap H locs → lv_has ls 4 [(3, .int i12), (2, .int i8), (0, .ref (ga G r)), (1, .ref (ga G o1))] → (∀ (x14 : gX) (da : Nat → Nat) (H : Heap) (locs : List Loc) (ls : Array Slot), x14 = (lX6_fill_48 v o1 i8 n i12 x13 : gX) → Hp G da v x14 H → va_S (gA G) s.heap H locs → lv_has ls 4 [(2, .int i8), (0, .ref (ga G r)), (1, .ref (ga G o1))] → W p l e rmX6_fill s m args below meth c H locs 0 0 Q (F0 m 93 ls [])) → W p l e rmX6_fill s m args below meth c H locs 0 0 Q (F0 m 57 ls []) := by
            clear ho
            intro n
            induction n with
            | zero =>
              intro i12 x13 da H locs ls ho
              exact ho.elim
            | succ n ih =>
              intro i12 x13 da H locs ls ho hH hS hl K16
              refine lv_iload_n hx hb dX6_fill_57 rfl (lv_at hl 0 rfl) ?_
              refine lv_if_le (tgt := 93) hx hb dX6_fill_58 (by decide) (fun c14 => ?_) (fun c14 => ?_)
              · skip
                exact K16 _ _ _ _ _ (Eq.symm (((lX6_fill_48.eq_2 _ _ _ _ _ _)).trans ((if_pos c14).trans rfl))) hH hS (lv_sub hl [1, 2, 3] rfl)
              · have ho := ho c14
                refine lv_aload_n hx hb dX6_fill_61 rfl (lv_at hl 2 rfl) ?_
                refine g_StackTable_13 X hH hk_r dX6_fill_62 ?_
                refine lv_iload_n hx hb dX6_fill_65 rfl (lv_at hl 0 rfl) ?_
                refine lv_iconst (v := 1) hx hb dX6_fill_66 (by decide) ?_
                refine lv_isub hx hb dX6_fill_67 ?_
                have hq15 := ho.1
                have ho := ho.2
                refine qld_28 X hH kd_454 hq15 dX6_fill_68 ?_
                refine lv_aload_n hx hb dX6_fill_69 rfl (lv_at hl 2 rfl) ?_
                refine g_StackTable_13 X hH hk_r dX6_fill_70 ?_
                refine lv_iload_n hx hb dX6_fill_73 rfl (lv_at hl 0 rfl) ?_
                have hq16 := ho.1
                have ho := ho.2
                refine qld_28 X hH kd_454 hq16 dX6_fill_74 ?_
                refine lv_aload_n hx hb dX6_fill_75 rfl (lv_at hl 3 rfl) ?_
                refine g_StackTable_28 X hH hk_o1 dX6_fill_76 ?_
                refine lv_iload_n hx hb dX6_fill_79 rfl (lv_at hl 1 rfl) ?_
                have hq17 := ho.1
                have ho := ho.2
                refine qld_21 X hH (kc_2_21 hk_o1) hq17 dX6_fill_80 ?_
                refine g_StackTable_32 X hH (ki_21 (kc_2_21 hk_o1) (vp_lt hq17)) dX6_fill_81 ?_
                have hq18 := ho.1
                have ho := ho.2
                refine k_X6_putShifted X hS hH (ki_28 (vp_lt hq15)) (ki_28 (vp_lt hq16)) hq18 t_ml_StackTable_37 hl.1 (Nat.le_of_ble_eq_true rfl) ⟨Nat.le_of_ble_eq_true rfl, Nat.le_of_ble_eq_true rfl⟩ ⟨Nat.zero_le _, Nat.zero_le _⟩ dX6_fill_84 (fun da H locs x19 ex19 hH hS => ?_)
                have ho := ho x19 ex19
                refine lv_iinc (v := i12 + (-1)) (lv' := [(3, .int (i12 + (-1))), (2, .int i8), (0, .ref (ga G r)), (1, .ref (ga G o1))]) hx hb dX6_fill_87 hl (k := 0) rfl rfl (by decide) rfl (fun ls hl => ?_)
                refine lv_goto (tgt := 57) hx hb dX6_fill_90 (by decide) ?_
                replace ex19 := Eq.symm ex19
                subst ex19
                exact ih _ _ _ _ _ _ ho hH hS (lv_sub hl [0, 1, 2, 3] rfl) (fun x14 da H locs ls q0 hH hS hl => K16 x14 da H locs ls (q0.trans (congrArg (fun z : gX => z) (Eq.symm (((lX6_fill_48.eq_2 _ _ _ _ _ _)).trans ((if_neg c14).trans rfl))))) hH hS hl)
          have hol := ho.1
          refine L15 (7) 5 x9 _ _ _ _ hol hH hS (lv_sub hl [0, 1, 2, 3] rfl) (fun x14 da H locs ls ex14 hH hS hl => ?_)
          have ho := ho.2 x14 ex14
          refine lv_iinc (v := i8 + 1) (lv' := [(2, .int (i8 + 1)), (0, .ref (ga G r)), (1, .ref (ga G o1))]) hx hb dX6_fill_93 hl (k := 0) rfl rfl (by decide) rfl (fun ls hl => ?_)
          refine lv_goto (tgt := 38) hx hb dX6_fill_96 (by decide) ?_
          replace ex14 := Eq.symm ex14
          subst ex14
          exact ih _ _ _ _ _ _ ho hH hS (lv_sub hl [0, 1, 2] rfl) (fun x10 da H locs ls q0 hH hS hl => K12 x10 da H locs ls (q0.trans (congrArg (fun z : gX => z) (Eq.symm (((lX6_fill_38.eq_2 _ _ _ _ _)).trans ((if_neg c10).trans ((if_neg c11).trans rfl)))))) hH hS hl)
  have hol := ho
  refine L11 ((Int32.toInt ((v o1 3)) - Int32.toInt 0).toNat + 1) 0 x7 _ _ _ _ hol hH hS (lv_sub hl [0, 1, 2] rfl) (fun x10 da H locs ls ex10 hH hS hl => ?_)
  replace ex3 := Eq.symm ex3
  replace ex7 := Eq.symm ex7
  replace ex10 := Eq.symm ex10
  subst ex3 ex7 ex10
  exact E _ _ _ _ _ _ _ _ dX6_fill_99 rfl (hp_x rfl hH) hS (Nat.zero_le _) (Nat.zero_le _)
theorem k_X6_fill {p : Program} {l : Launch} {e : Env} {R : Room} {s : State} {m : MethodId} {args : Array Value} {below : List Frame} {meth : Method} {c : Code} {H : Heap} {locs : List Loc} {cells slots : Nat} {Q : State → Prop} {cc : ByteArray} {pc nL : Nat} {ls : Array Slot} {rest : List Value} {G : gG} {own : String} {da : Nat → Nat} {v : vSt} {x : gX} (X : CX G p s m args c cc nL own) (hS : va_S (gA G) s.heap H locs) (hH : Hp G da v x H) {r : Nat} (hk_r : kd r = 6) {o1 : Nat} (hk_o1 : kd o1 = 2) (ho : oX6_fill r o1 v x) {idx : Nat} (hml : Cond.methodLink own idx yX6_fill ∈ TT) (hls : ls.size = nL) (hsum : (rest.map fun v => v.category).sum ≤ 8) (hR : rmX6_fill.frames + 1 ≤ R.frames ∧ 8 + (4 + 11) + rmX6_fill.locals ≤ R.locals) (hcs : cells ≤ R.cells ∧ slots ≤ R.slots) (hdg : decode cc pc = .ok (.invokevirtual idx, 3)) (kk : ∀ (d : Nat → Nat) (H1 : Heap) (locs1 : List Loc) (x1 : gX), x1 = (fX6_fill r o1 v x) → Hp G d v x1 H1 → va_S (gA G) s.heap H1 locs1 → W p l e R s m args below meth c H1 locs1 cells slots Q (F0 m (pc + 3) ls (rest))) : W p l e R s m args below meth c H locs cells slots Q (F0 m pc ls (.ref (ga G o1) :: .ref (ga G r) :: rest)) := c_mv X.2.2.2.2.2.2 (runV (k := 1) X.1 X.2.1 X.2.2.1 X.2.2.2.1 X.2.2.2.2.1 (mX6_fill l G da v x r hk_r o1 hk_o1 ho) pW_bl hml t_im_X6_fill t_sel_X6_fill t_ini_StackTable t_code_X6_fill ⟨rfl, by decide, by decide, by decide +kernel⟩ rfl rfl hR hcs (recvW X hH (by rw [hk_r]; decide) (by rw [hk_r]; decide) (ce_6 hk_r) rfl) (preW X hS hH) rfl hls rfl hsum hdg) hS (fun d9 H9 L9 v9 e9 hH9 => kk d9 H9 L9 _ rfl (by subst e9; exact hH9))
def lX6_countLengths_16 (x : gX) (i1 : Int32) : Nat → Int32 → Int64 → Int64
  | 0, i4, i5 => i5
  | n + 1, i4, i5 => if (6 : Int32) ≤ i4 then i5 else (lX6_countLengths_16 x i1 n (i4 + 1) (i5 ||| (x.1 (455 + (i4 : Int32).toNatClampNeg) (i1 : Int32).toNatClampNeg)))
def olX6_countLengths_16 (x : gX) (i1 : Int32) : Nat → Int32 → Int64 → Prop
  | 0, _, _ => False
  | n + 1, i4, i5 => ¬ ((6 : Int32) ≤ i4) → ((vp_in (i4) 6) ∧ ((vp_in (i1) 235) ∧ (olX6_countLengths_16 x i1 n (i4 + 1) (i5 ||| (x.1 (455 + (i4 : Int32).toNatClampNeg) (i1 : Int32).toNatClampNeg)))))
def lX6_countLengths_4 (x : gX) : Nat → Int32 → Int32 → Int32
  | 0, i1, i2 => i2
  | n + 1, i1, i2 => if (235 : Int32) ≤ i1 then i2 else (let y6 : Int64 := (lX6_countLengths_16 x i1 ((Int32.toInt (6) - Int32.toInt 1).toNat + 1) 1 0); lX6_countLengths_4 x n (i1 + 1) (i2 + (fJ13_bitCount_95d88 y6)))
def olX6_countLengths_4 (x : gX) : Nat → Int32 → Int32 → Prop
  | 0, _, _ => False
  | n + 1, i1, i2 => ¬ ((235 : Int32) ≤ i1) → (olX6_countLengths_16 x i1 ((Int32.toInt (6) - Int32.toInt 1).toNat + 1) 1 0 ∧ (∀ (y6 : Int64), y6 = ((lX6_countLengths_16 x i1 ((Int32.toInt (6) - Int32.toInt 1).toNat + 1) 1 0) : Int64) → (olX6_countLengths_4 x n (i1 + 1) (i2 + (fJ13_bitCount_95d88 y6)))))
def fX6_countLengths (r : Nat) (v : vSt) (x : gX) : Int32 := let y3 : Int32 := (lX6_countLengths_4 x ((Int32.toInt (235) - Int32.toInt 0).toNat + 1) 0 0); y3
def oX6_countLengths (r : Nat) (v : vSt) (x : gX) : Prop := olX6_countLengths_4 x ((Int32.toInt (235) - Int32.toInt 0).toNat + 1) 0 0
abbrev rmX6_countLengths : Room := { frames := 1, cells := 0, slots := 0, locals := 21 }
theorem dX6_countLengths_0 : decode cX6_countLengths 0 = .ok (.iconst 0, 1) := by decide +kernel
theorem dX6_countLengths_1 : decode cX6_countLengths 1 = .ok (.istore_n 1, 1) := by decide +kernel
theorem dX6_countLengths_2 : decode cX6_countLengths 2 = .ok (.iconst 0, 1) := by decide +kernel
theorem dX6_countLengths_3 : decode cX6_countLengths 3 = .ok (.istore_n 2, 1) := by decide +kernel
theorem dX6_countLengths_4 : decode cX6_countLengths 4 = .ok (.iload_n 2, 1) := by decide +kernel
theorem dX6_countLengths_5 : decode cX6_countLengths 5 = .ok (.sipush 235, 3) := by decide +kernel
theorem dX6_countLengths_8 : decode cX6_countLengths 8 = .ok (.if_icmp .ge 49, 3) := by decide +kernel
theorem dX6_countLengths_11 : decode cX6_countLengths 11 = .ok (.lconst 0, 1) := by decide +kernel
theorem dX6_countLengths_12 : decode cX6_countLengths 12 = .ok (.lstore_n 3, 1) := by decide +kernel
theorem dX6_countLengths_13 : decode cX6_countLengths 13 = .ok (.iconst 1, 1) := by decide +kernel
theorem dX6_countLengths_14 : decode cX6_countLengths 14 = .ok (.istore 5, 2) := by decide +kernel
theorem dX6_countLengths_16 : decode cX6_countLengths 16 = .ok (.iload 5, 2) := by decide +kernel
theorem dX6_countLengths_18 : decode cX6_countLengths 18 = .ok (.aload_n 0, 1) := by decide +kernel
theorem dX6_countLengths_19 : decode cX6_countLengths 19 = .ok (.getfield 13, 3) := by decide +kernel
theorem dX6_countLengths_22 : decode cX6_countLengths 22 = .ok (.arraylength, 1) := by decide +kernel
theorem dX6_countLengths_23 : decode cX6_countLengths 23 = .ok (.if_icmp .ge 21, 3) := by decide +kernel
theorem dX6_countLengths_26 : decode cX6_countLengths 26 = .ok (.lload_n 3, 1) := by decide +kernel
theorem dX6_countLengths_27 : decode cX6_countLengths 27 = .ok (.aload_n 0, 1) := by decide +kernel
theorem dX6_countLengths_28 : decode cX6_countLengths 28 = .ok (.getfield 13, 3) := by decide +kernel
theorem dX6_countLengths_31 : decode cX6_countLengths 31 = .ok (.iload 5, 2) := by decide +kernel
theorem dX6_countLengths_33 : decode cX6_countLengths 33 = .ok (.aaload, 1) := by decide +kernel
theorem dX6_countLengths_34 : decode cX6_countLengths 34 = .ok (.iload_n 2, 1) := by decide +kernel
theorem dX6_countLengths_35 : decode cX6_countLengths 35 = .ok (.laload, 1) := by decide +kernel
theorem dX6_countLengths_36 : decode cX6_countLengths 36 = .ok (.lor, 1) := by decide +kernel
theorem dX6_countLengths_37 : decode cX6_countLengths 37 = .ok (.lstore_n 3, 1) := by decide +kernel
theorem dX6_countLengths_38 : decode cX6_countLengths 38 = .ok (.iinc 5 1, 3) := by decide +kernel
theorem dX6_countLengths_41 : decode cX6_countLengths 41 = .ok (.goto (-25), 3) := by decide +kernel
theorem dX6_countLengths_44 : decode cX6_countLengths 44 = .ok (.iload_n 1, 1) := by decide +kernel
theorem dX6_countLengths_45 : decode cX6_countLengths 45 = .ok (.lload_n 3, 1) := by decide +kernel
theorem dX6_countLengths_46 : decode cX6_countLengths 46 = .ok (.invokestatic 47, 3) := by decide +kernel
theorem dX6_countLengths_49 : decode cX6_countLengths 49 = .ok (.iadd, 1) := by decide +kernel
theorem dX6_countLengths_50 : decode cX6_countLengths 50 = .ok (.istore_n 1, 1) := by decide +kernel
theorem dX6_countLengths_51 : decode cX6_countLengths 51 = .ok (.iinc 2 1, 3) := by decide +kernel
theorem dX6_countLengths_54 : decode cX6_countLengths 54 = .ok (.goto (-50), 3) := by decide +kernel
theorem dX6_countLengths_57 : decode cX6_countLengths 57 = .ok (.iload_n 1, 1) := by decide +kernel
theorem dX6_countLengths_58 : decode cX6_countLengths 58 = .ok (.ireturn, 1) := by decide +kernel
set_option maxHeartbeats 8000000 in
set_option maxRecDepth 100000 in
theorem mX6_countLengths (l : Launch) (G : gG) (da : Nat → Nat) (v : vSt) (x : gX) (r : Nat) (hk_r : kd r = 6) (ho : oX6_countLengths r v x) : QI l yX6_countLengths cX6_countLengths 6 (some .int) rmX6_countLengths [.ref (ga G r)] (pW G da v x) (fX6_countLengths r v x) := by
  refine gofQ (own := RX6) (by decide) rfl (Nat.le_of_ble_eq_true rfl) (fun p e s m args below meth c ls Q X hH hl E => ?_)
  have hx := X.1
  have hb := X.2.1
  have hown := X.2.2.2.1
  have hts := X.2.2.2.2.1
  have hS : va_S (gA G) s.heap s.heap [] := va_S.rf
  unfold oX6_countLengths at ho
  have hl : lv_has ls 6 [(0, .ref (ga G r))] := hl
  refine lv_iconst (v := 0) hx hb dX6_countLengths_0 (by decide) ?_
  refine lv_istore_n (lv' := [(1, .int 0), (0, .ref (ga G r))]) hx hb dX6_countLengths_1 rfl hl (by decide) rfl (fun ls hl => ?_)
  refine lv_iconst (v := 0) hx hb dX6_countLengths_2 (by decide) ?_
  refine lv_istore_n (lv' := [(2, .int 0), (1, .int 0), (0, .ref (ga G r))]) hx hb dX6_countLengths_3 rfl hl (by decide) rfl (fun ls hl => ?_)
  have L4 : ∀ (n : Nat) (i1 : Int32) (i2 : Int32) (ls : Array Slot), olX6_countLengths_4 x n i1 i2 → lv_has ls 6 [(2, .int i1), (1, .int i2), (0, .ref (ga G r))] → (∀ (y3 : Int32) (ls : Array Slot), y3 = (lX6_countLengths_4 x n i1 i2 : Int32) → lv_has ls 6 [(1, .int y3)] → W p l e rmX6_countLengths s m args below meth c s.heap [] 0 0 Q (F0 m 57 ls [])) → W p l e rmX6_countLengths s m args below meth c s.heap [] 0 0 Q (F0 m 4 ls []) := by
    clear ho
    intro n
    induction n with
    | zero =>
      intro i1 i2 ls ho
      exact ho.elim
    | succ n ih =>
      intro i1 i2 ls ho hl K5
      refine lv_iload_n hx hb dX6_countLengths_4 rfl (lv_at hl 0 rfl) ?_
      refine lv_sipush (v := 235) hx hb dX6_countLengths_5 (by decide) ?_
      refine lv_icmp_ge (tgt := 57) hx hb dX6_countLengths_8 (by decide) (fun c3 => ?_) (fun c3 => ?_)
      · skip
        exact K5 _ _ (Eq.symm (((lX6_countLengths_4.eq_2 _ _ _ _)).trans ((if_pos c3).trans rfl))) (lv_sub hl [1] rfl)
      · have ho := ho c3
        refine lv_lconst (v := 0) hx hb dX6_countLengths_11 rfl ?_
        refine lv_lstore_n (lv' := [(3, .long 0), (2, .int i1), (1, .int i2), (0, .ref (ga G r))]) hx hb dX6_countLengths_12 rfl hl (by decide) rfl (fun ls hl => ?_)
        refine lv_iconst (v := 1) hx hb dX6_countLengths_13 (by decide) ?_
        refine lv_istore (lv' := [(5, .int 1), (3, .long 0), (2, .int i1), (1, .int i2), (0, .ref (ga G r))]) hx hb dX6_countLengths_14 hl (by decide) rfl (fun ls hl => ?_)
        have L7 : ∀ (n : Nat) (i4 : Int32) (i5 : Int64) (ls : Array Slot), olX6_countLengths_16 x i1 n i4 i5 → lv_has ls 6 [(5, .int i4), (3, .long i5), (2, .int i1), (1, .int i2), (0, .ref (ga G r))] → (∀ (y6 : Int64) (ls : Array Slot), y6 = (lX6_countLengths_16 x i1 n i4 i5 : Int64) → lv_has ls 6 [(3, .long y6), (2, .int i1), (1, .int i2), (0, .ref (ga G r))] → W p l e rmX6_countLengths s m args below meth c s.heap [] 0 0 Q (F0 m 44 ls [])) → W p l e rmX6_countLengths s m args below meth c s.heap [] 0 0 Q (F0 m 16 ls []) := by
          clear ho
          intro n
          induction n with
          | zero =>
            intro i4 i5 ls ho
            exact ho.elim
          | succ n ih =>
            intro i4 i5 ls ho hl K8
            refine lv_iload hx hb dX6_countLengths_16 (lv_at hl 0 rfl) ?_
            refine lv_aload_n hx hb dX6_countLengths_18 rfl (lv_at hl 4 rfl) ?_
            refine g_StackTable_13 X hH hk_r dX6_countLengths_19 ?_
            refine len_28 X hH kd_454 dX6_countLengths_22 ?_
            refine lv_icmp_ge (tgt := 44) hx hb dX6_countLengths_23 (by decide) (fun c6 => ?_) (fun c6 => ?_)
            · skip
              exact K8 _ _ (Eq.symm (((lX6_countLengths_16.eq_2 _ _ _ _ _)).trans ((if_pos c6).trans rfl))) (lv_sub hl [1, 2, 3, 4] rfl)
            · have ho := ho c6
              refine lv_lload_n hx hb dX6_countLengths_26 rfl (lv_at hl 1 rfl) ?_
              refine lv_aload_n hx hb dX6_countLengths_27 rfl (lv_at hl 4 rfl) ?_
              refine g_StackTable_13 X hH hk_r dX6_countLengths_28 ?_
              refine lv_iload hx hb dX6_countLengths_31 (lv_at hl 0 rfl) ?_
              have hq7 := ho.1
              have ho := ho.2
              refine qld_28 X hH kd_454 hq7 dX6_countLengths_33 ?_
              refine lv_iload_n hx hb dX6_countLengths_34 rfl (lv_at hl 2 rfl) ?_
              have hq8 := ho.1
              have ho := ho.2
              refine lald_29 X hH (ki_28 (vp_lt hq7)) hq8 dX6_countLengths_35 ?_
              refine lv_lor hx hb dX6_countLengths_36 ?_
              refine lv_lstore_n (lv' := [(3, .long (i5 ||| (x.1 (455 + (i4 : Int32).toNatClampNeg) (i1 : Int32).toNatClampNeg))), (5, .int i4), (2, .int i1), (1, .int i2), (0, .ref (ga G r))]) hx hb dX6_countLengths_37 rfl hl (by decide) rfl (fun ls hl => ?_)
              refine lv_iinc (v := i4 + 1) (lv' := [(5, .int (i4 + 1)), (3, .long (i5 ||| (x.1 (455 + (i4 : Int32).toNatClampNeg) (i1 : Int32).toNatClampNeg))), (2, .int i1), (1, .int i2), (0, .ref (ga G r))]) hx hb dX6_countLengths_38 hl (k := 1) rfl rfl (by decide) rfl (fun ls hl => ?_)
              refine lv_goto (tgt := 16) hx hb dX6_countLengths_41 (by decide) ?_
              exact ih _ _ _ ho (lv_sub hl [0, 1, 2, 3, 4] rfl) (fun y6 ls q0 hl => K8 y6 ls (q0.trans (congrArg (fun z : Int64 => z) (Eq.symm (((lX6_countLengths_16.eq_2 _ _ _ _ _)).trans ((if_neg c6).trans rfl))))) hl)
        have hol := ho.1
        refine L7 ((Int32.toInt (6) - Int32.toInt 1).toNat + 1) 1 0 _ hol (lv_sub hl [0, 1, 2, 3, 4] rfl) (fun y6 ls ey6 hl => ?_)
        have ho := ho.2 y6 ey6
        refine lv_iload_n hx hb dX6_countLengths_44 rfl (lv_at hl 2 rfl) ?_
        refine lv_lload_n hx hb dX6_countLengths_45 rfl (lv_at hl 0 rfl) ?_
        refine k_J13_bitCount_95d88 X hS  t_ml_StackTable_47 hl.1 (Nat.le_of_ble_eq_true rfl) ⟨Nat.le_of_ble_eq_true rfl, Nat.le_of_ble_eq_true rfl⟩ ⟨Nat.zero_le _, Nat.zero_le _⟩ dX6_countLengths_46 ?_
        refine lv_iadd hx hb dX6_countLengths_49 ?_
        refine lv_istore_n (lv' := [(1, .int (i2 + (fJ13_bitCount_95d88 y6))), (3, .long y6), (2, .int i1), (0, .ref (ga G r))]) hx hb dX6_countLengths_50 rfl hl (by decide) rfl (fun ls hl => ?_)
        refine lv_iinc (v := i1 + 1) (lv' := [(2, .int (i1 + 1)), (1, .int (i2 + (fJ13_bitCount_95d88 y6))), (3, .long y6), (0, .ref (ga G r))]) hx hb dX6_countLengths_51 hl (k := 2) rfl rfl (by decide) rfl (fun ls hl => ?_)
        refine lv_goto (tgt := 4) hx hb dX6_countLengths_54 (by decide) ?_
        replace ey6 := Eq.symm ey6
        subst ey6
        exact ih _ _ _ ho (lv_sub hl [0, 1, 3] rfl) (fun y3 ls q0 hl => K5 y3 ls (q0.trans (congrArg (fun z : Int32 => z) (Eq.symm (((lX6_countLengths_4.eq_2 _ _ _ _)).trans ((if_neg c3).trans rfl))))) hl)
  have hol := ho
  refine L4 ((Int32.toInt (235) - Int32.toInt 0).toNat + 1) 0 0 _ hol (lv_sub hl [0, 1, 2] rfl) (fun y3 ls ey3 hl => ?_)
  refine lv_iload_n hx hb dX6_countLengths_57 rfl (lv_at hl 0 rfl) ?_
  replace ey3 := Eq.symm ey3
  subst ey3
  exact E _ _ _ dX6_countLengths_58 rfl (Eq.symm rfl)
theorem k_X6_countLengths {p : Program} {l : Launch} {e : Env} {R : Room} {s : State} {m : MethodId} {args : Array Value} {below : List Frame} {meth : Method} {c : Code} {H : Heap} {locs : List Loc} {cells slots : Nat} {Q : State → Prop} {cc : ByteArray} {pc nL : Nat} {ls : Array Slot} {rest : List Value} {G : gG} {own : String} {da : Nat → Nat} {v : vSt} {x : gX} (X : CX G p s m args c cc nL own) (hS : va_S (gA G) s.heap H locs) (hH : Hp G da v x H) {r : Nat} (hk_r : kd r = 6) (ho : oX6_countLengths r v x) {idx : Nat} (hml : Cond.methodLink own idx yX6_countLengths ∈ TT) (hls : ls.size = nL) (hsum : (rest.map fun v => v.category).sum ≤ 8) (hR : rmX6_countLengths.frames + 1 ≤ R.frames ∧ 8 + (6 + 11) + rmX6_countLengths.locals ≤ R.locals) (hcs : cells ≤ R.cells ∧ slots ≤ R.slots) (hdg : decode cc pc = .ok (.invokevirtual idx, 3)) (kk : W p l e R s m args below meth c H locs cells slots Q (F0 m (pc + 3) ls (.int (fX6_countLengths r v x) :: rest))) : W p l e R s m args below meth c H locs cells slots Q (F0 m pc ls (.ref (ga G r) :: rest)) := c_qi (runV (k := 0) X.1 X.2.1 X.2.2.1 X.2.2.2.1 X.2.2.2.2.1 (mX6_countLengths l G da v x r hk_r ho) pW_bl hml t_im_X6_countLengths t_sel_X6_countLengths t_ini_StackTable t_code_X6_countLengths ⟨rfl, by decide, by decide, by decide +kernel⟩ rfl rfl hR hcs (recvW X hH (by rw [hk_r]; decide) (by rw [hk_r]; decide) (ce_6 hk_r) rfl) (preW X hS hH) rfl hls rfl hsum hdg) (fun _ h => h ▸ kk)
