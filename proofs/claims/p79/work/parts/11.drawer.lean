/-! VernierDrawers$Drawer; Integer.bitCount -/
def fJ6_bitCount_0f7a4 (p1 : Int32) : Int32 := (((((((p1 - (((p1.toUInt32 >>> ((1 : Int32).toUInt32 &&& Int32.toUInt32 31)).toInt32) &&& 1431655765)) &&& 858993459) + ((((p1 - (((p1.toUInt32 >>> ((1 : Int32).toUInt32 &&& Int32.toUInt32 31)).toInt32) &&& 1431655765)).toUInt32 >>> ((2 : Int32).toUInt32 &&& Int32.toUInt32 31)).toInt32) &&& 858993459)) + (((((p1 - (((p1.toUInt32 >>> ((1 : Int32).toUInt32 &&& Int32.toUInt32 31)).toInt32) &&& 1431655765)) &&& 858993459) + ((((p1 - (((p1.toUInt32 >>> ((1 : Int32).toUInt32 &&& Int32.toUInt32 31)).toInt32) &&& 1431655765)).toUInt32 >>> ((2 : Int32).toUInt32 &&& Int32.toUInt32 31)).toInt32) &&& 858993459)).toUInt32 >>> ((4 : Int32).toUInt32 &&& Int32.toUInt32 31)).toInt32)) &&& 252645135) + (((((((p1 - (((p1.toUInt32 >>> ((1 : Int32).toUInt32 &&& Int32.toUInt32 31)).toInt32) &&& 1431655765)) &&& 858993459) + ((((p1 - (((p1.toUInt32 >>> ((1 : Int32).toUInt32 &&& Int32.toUInt32 31)).toInt32) &&& 1431655765)).toUInt32 >>> ((2 : Int32).toUInt32 &&& Int32.toUInt32 31)).toInt32) &&& 858993459)) + (((((p1 - (((p1.toUInt32 >>> ((1 : Int32).toUInt32 &&& Int32.toUInt32 31)).toInt32) &&& 1431655765)) &&& 858993459) + ((((p1 - (((p1.toUInt32 >>> ((1 : Int32).toUInt32 &&& Int32.toUInt32 31)).toInt32) &&& 1431655765)).toUInt32 >>> ((2 : Int32).toUInt32 &&& Int32.toUInt32 31)).toInt32) &&& 858993459)).toUInt32 >>> ((4 : Int32).toUInt32 &&& Int32.toUInt32 31)).toInt32)) &&& 252645135).toUInt32 >>> ((8 : Int32).toUInt32 &&& Int32.toUInt32 31)).toInt32)) + ((((((((p1 - (((p1.toUInt32 >>> ((1 : Int32).toUInt32 &&& Int32.toUInt32 31)).toInt32) &&& 1431655765)) &&& 858993459) + ((((p1 - (((p1.toUInt32 >>> ((1 : Int32).toUInt32 &&& Int32.toUInt32 31)).toInt32) &&& 1431655765)).toUInt32 >>> ((2 : Int32).toUInt32 &&& Int32.toUInt32 31)).toInt32) &&& 858993459)) + (((((p1 - (((p1.toUInt32 >>> ((1 : Int32).toUInt32 &&& Int32.toUInt32 31)).toInt32) &&& 1431655765)) &&& 858993459) + ((((p1 - (((p1.toUInt32 >>> ((1 : Int32).toUInt32 &&& Int32.toUInt32 31)).toInt32) &&& 1431655765)).toUInt32 >>> ((2 : Int32).toUInt32 &&& Int32.toUInt32 31)).toInt32) &&& 858993459)).toUInt32 >>> ((4 : Int32).toUInt32 &&& Int32.toUInt32 31)).toInt32)) &&& 252645135) + (((((((p1 - (((p1.toUInt32 >>> ((1 : Int32).toUInt32 &&& Int32.toUInt32 31)).toInt32) &&& 1431655765)) &&& 858993459) + ((((p1 - (((p1.toUInt32 >>> ((1 : Int32).toUInt32 &&& Int32.toUInt32 31)).toInt32) &&& 1431655765)).toUInt32 >>> ((2 : Int32).toUInt32 &&& Int32.toUInt32 31)).toInt32) &&& 858993459)) + (((((p1 - (((p1.toUInt32 >>> ((1 : Int32).toUInt32 &&& Int32.toUInt32 31)).toInt32) &&& 1431655765)) &&& 858993459) + ((((p1 - (((p1.toUInt32 >>> ((1 : Int32).toUInt32 &&& Int32.toUInt32 31)).toInt32) &&& 1431655765)).toUInt32 >>> ((2 : Int32).toUInt32 &&& Int32.toUInt32 31)).toInt32) &&& 858993459)).toUInt32 >>> ((4 : Int32).toUInt32 &&& Int32.toUInt32 31)).toInt32)) &&& 252645135).toUInt32 >>> ((8 : Int32).toUInt32 &&& Int32.toUInt32 31)).toInt32)).toUInt32 >>> ((16 : Int32).toUInt32 &&& Int32.toUInt32 31)).toInt32)) &&& 63
abbrev rmJ6_bitCount_0f7a4 : Room := { frames := 0, cells := 0, slots := 0, locals := 0 }
theorem dJ6_bitCount_0f7a4_0 : decode cJ6_bitCount_0f7a4 0 = .ok (.iload_n 0, 1) := by decide +kernel
theorem dJ6_bitCount_0f7a4_1 : decode cJ6_bitCount_0f7a4 1 = .ok (.iload_n 0, 1) := by decide +kernel
theorem dJ6_bitCount_0f7a4_2 : decode cJ6_bitCount_0f7a4 2 = .ok (.iconst 1, 1) := by decide +kernel
theorem dJ6_bitCount_0f7a4_3 : decode cJ6_bitCount_0f7a4 3 = .ok (.iushr, 1) := by decide +kernel
theorem dJ6_bitCount_0f7a4_4 : decode cJ6_bitCount_0f7a4 4 = .ok (.ldc_w 265, 3) := by decide +kernel
theorem dJ6_bitCount_0f7a4_7 : decode cJ6_bitCount_0f7a4 7 = .ok (.iand, 1) := by decide +kernel
theorem dJ6_bitCount_0f7a4_8 : decode cJ6_bitCount_0f7a4 8 = .ok (.isub, 1) := by decide +kernel
theorem dJ6_bitCount_0f7a4_9 : decode cJ6_bitCount_0f7a4 9 = .ok (.istore_n 0, 1) := by decide +kernel
theorem dJ6_bitCount_0f7a4_10 : decode cJ6_bitCount_0f7a4 10 = .ok (.iload_n 0, 1) := by decide +kernel
theorem dJ6_bitCount_0f7a4_11 : decode cJ6_bitCount_0f7a4 11 = .ok (.ldc_w 266, 3) := by decide +kernel
theorem dJ6_bitCount_0f7a4_14 : decode cJ6_bitCount_0f7a4 14 = .ok (.iand, 1) := by decide +kernel
theorem dJ6_bitCount_0f7a4_15 : decode cJ6_bitCount_0f7a4 15 = .ok (.iload_n 0, 1) := by decide +kernel
theorem dJ6_bitCount_0f7a4_16 : decode cJ6_bitCount_0f7a4 16 = .ok (.iconst 2, 1) := by decide +kernel
theorem dJ6_bitCount_0f7a4_17 : decode cJ6_bitCount_0f7a4 17 = .ok (.iushr, 1) := by decide +kernel
theorem dJ6_bitCount_0f7a4_18 : decode cJ6_bitCount_0f7a4 18 = .ok (.ldc_w 266, 3) := by decide +kernel
theorem dJ6_bitCount_0f7a4_21 : decode cJ6_bitCount_0f7a4 21 = .ok (.iand, 1) := by decide +kernel
theorem dJ6_bitCount_0f7a4_22 : decode cJ6_bitCount_0f7a4 22 = .ok (.iadd, 1) := by decide +kernel
theorem dJ6_bitCount_0f7a4_23 : decode cJ6_bitCount_0f7a4 23 = .ok (.istore_n 0, 1) := by decide +kernel
theorem dJ6_bitCount_0f7a4_24 : decode cJ6_bitCount_0f7a4 24 = .ok (.iload_n 0, 1) := by decide +kernel
theorem dJ6_bitCount_0f7a4_25 : decode cJ6_bitCount_0f7a4 25 = .ok (.iload_n 0, 1) := by decide +kernel
theorem dJ6_bitCount_0f7a4_26 : decode cJ6_bitCount_0f7a4 26 = .ok (.iconst 4, 1) := by decide +kernel
theorem dJ6_bitCount_0f7a4_27 : decode cJ6_bitCount_0f7a4 27 = .ok (.iushr, 1) := by decide +kernel
theorem dJ6_bitCount_0f7a4_28 : decode cJ6_bitCount_0f7a4 28 = .ok (.iadd, 1) := by decide +kernel
theorem dJ6_bitCount_0f7a4_29 : decode cJ6_bitCount_0f7a4 29 = .ok (.ldc_w 267, 3) := by decide +kernel
theorem dJ6_bitCount_0f7a4_32 : decode cJ6_bitCount_0f7a4 32 = .ok (.iand, 1) := by decide +kernel
theorem dJ6_bitCount_0f7a4_33 : decode cJ6_bitCount_0f7a4 33 = .ok (.istore_n 0, 1) := by decide +kernel
theorem dJ6_bitCount_0f7a4_34 : decode cJ6_bitCount_0f7a4 34 = .ok (.iload_n 0, 1) := by decide +kernel
theorem dJ6_bitCount_0f7a4_35 : decode cJ6_bitCount_0f7a4 35 = .ok (.iload_n 0, 1) := by decide +kernel
theorem dJ6_bitCount_0f7a4_36 : decode cJ6_bitCount_0f7a4 36 = .ok (.bipush 8, 2) := by decide +kernel
theorem dJ6_bitCount_0f7a4_38 : decode cJ6_bitCount_0f7a4 38 = .ok (.iushr, 1) := by decide +kernel
theorem dJ6_bitCount_0f7a4_39 : decode cJ6_bitCount_0f7a4 39 = .ok (.iadd, 1) := by decide +kernel
theorem dJ6_bitCount_0f7a4_40 : decode cJ6_bitCount_0f7a4 40 = .ok (.istore_n 0, 1) := by decide +kernel
theorem dJ6_bitCount_0f7a4_41 : decode cJ6_bitCount_0f7a4 41 = .ok (.iload_n 0, 1) := by decide +kernel
theorem dJ6_bitCount_0f7a4_42 : decode cJ6_bitCount_0f7a4 42 = .ok (.iload_n 0, 1) := by decide +kernel
theorem dJ6_bitCount_0f7a4_43 : decode cJ6_bitCount_0f7a4 43 = .ok (.bipush 16, 2) := by decide +kernel
theorem dJ6_bitCount_0f7a4_45 : decode cJ6_bitCount_0f7a4 45 = .ok (.iushr, 1) := by decide +kernel
theorem dJ6_bitCount_0f7a4_46 : decode cJ6_bitCount_0f7a4 46 = .ok (.iadd, 1) := by decide +kernel
theorem dJ6_bitCount_0f7a4_47 : decode cJ6_bitCount_0f7a4 47 = .ok (.istore_n 0, 1) := by decide +kernel
theorem dJ6_bitCount_0f7a4_48 : decode cJ6_bitCount_0f7a4 48 = .ok (.iload_n 0, 1) := by decide +kernel
theorem dJ6_bitCount_0f7a4_49 : decode cJ6_bitCount_0f7a4 49 = .ok (.bipush 63, 2) := by decide +kernel
theorem dJ6_bitCount_0f7a4_51 : decode cJ6_bitCount_0f7a4 51 = .ok (.iand, 1) := by decide +kernel
theorem dJ6_bitCount_0f7a4_52 : decode cJ6_bitCount_0f7a4 52 = .ok (.ireturn, 1) := by decide +kernel
set_option maxHeartbeats 4000000 in
set_option maxRecDepth 100000 in
theorem mJ6_bitCount_0f7a4 (l : Launch) (G : gG) (p1 : Int32) : PI l yJ6_bitCount_0f7a4 cJ6_bitCount_0f7a4 1 (some .int) rmJ6_bitCount_0f7a4 [.int p1] G (fun _ => True) (fJ6_bitCount_0f7a4 p1) := by
  refine gofP (own := RJ6) (by decide) rfl (Nat.le_of_ble_eq_true rfl) (fun p e s m args below meth c ls Q X _ hl E => ?_)
  have hx := X.1
  have hb := X.2.1
  have hown := X.2.2.2.1
  have hts := X.2.2.2.2.1
  have hS : va_S (gA G) s.heap s.heap [] := va_S.rf
  have hl : lv_has ls 1 [(0, .int p1)] := hl
  refine lv_iload_n hx hb dJ6_bitCount_0f7a4_0 rfl (lv_at hl 0 rfl) ?_
  refine lv_iload_n hx hb dJ6_bitCount_0f7a4_1 rfl (lv_at hl 0 rfl) ?_
  refine lv_iconst (v := 1) hx hb dJ6_bitCount_0f7a4_2 (by decide) ?_
  refine lv_iushr (v := (p1.toUInt32 >>> ((1 : Int32).toUInt32 &&& Int32.toUInt32 31)).toInt32) hx hb dJ6_bitCount_0f7a4_3 rfl ?_
  refine lv_ldcw (v := 1431655765) hx hb hown (hts _ t_con_jl_Integer_265) dJ6_bitCount_0f7a4_4 ?_
  refine lv_iand hx hb dJ6_bitCount_0f7a4_7 ?_
  refine lv_isub hx hb dJ6_bitCount_0f7a4_8 ?_
  refine lv_istore_n (lv' := [(0, .int (p1 - (((p1.toUInt32 >>> ((1 : Int32).toUInt32 &&& Int32.toUInt32 31)).toInt32) &&& 1431655765)))]) hx hb dJ6_bitCount_0f7a4_9 rfl hl (by decide) rfl (fun ls hl => ?_)
  refine lv_iload_n hx hb dJ6_bitCount_0f7a4_10 rfl (lv_at hl 0 rfl) ?_
  refine lv_ldcw (v := 858993459) hx hb hown (hts _ t_con_jl_Integer_266) dJ6_bitCount_0f7a4_11 ?_
  refine lv_iand hx hb dJ6_bitCount_0f7a4_14 ?_
  refine lv_iload_n hx hb dJ6_bitCount_0f7a4_15 rfl (lv_at hl 0 rfl) ?_
  refine lv_iconst (v := 2) hx hb dJ6_bitCount_0f7a4_16 (by decide) ?_
  refine lv_iushr (v := ((p1 - (((p1.toUInt32 >>> ((1 : Int32).toUInt32 &&& Int32.toUInt32 31)).toInt32) &&& 1431655765)).toUInt32 >>> ((2 : Int32).toUInt32 &&& Int32.toUInt32 31)).toInt32) hx hb dJ6_bitCount_0f7a4_17 rfl ?_
  refine lv_ldcw (v := 858993459) hx hb hown (hts _ t_con_jl_Integer_266) dJ6_bitCount_0f7a4_18 ?_
  refine lv_iand hx hb dJ6_bitCount_0f7a4_21 ?_
  refine lv_iadd hx hb dJ6_bitCount_0f7a4_22 ?_
  refine lv_istore_n (lv' := [(0, .int (((p1 - (((p1.toUInt32 >>> ((1 : Int32).toUInt32 &&& Int32.toUInt32 31)).toInt32) &&& 1431655765)) &&& 858993459) + ((((p1 - (((p1.toUInt32 >>> ((1 : Int32).toUInt32 &&& Int32.toUInt32 31)).toInt32) &&& 1431655765)).toUInt32 >>> ((2 : Int32).toUInt32 &&& Int32.toUInt32 31)).toInt32) &&& 858993459)))]) hx hb dJ6_bitCount_0f7a4_23 rfl hl (by decide) rfl (fun ls hl => ?_)
  refine lv_iload_n hx hb dJ6_bitCount_0f7a4_24 rfl (lv_at hl 0 rfl) ?_
  refine lv_iload_n hx hb dJ6_bitCount_0f7a4_25 rfl (lv_at hl 0 rfl) ?_
  refine lv_iconst (v := 4) hx hb dJ6_bitCount_0f7a4_26 (by decide) ?_
  refine lv_iushr (v := ((((p1 - (((p1.toUInt32 >>> ((1 : Int32).toUInt32 &&& Int32.toUInt32 31)).toInt32) &&& 1431655765)) &&& 858993459) + ((((p1 - (((p1.toUInt32 >>> ((1 : Int32).toUInt32 &&& Int32.toUInt32 31)).toInt32) &&& 1431655765)).toUInt32 >>> ((2 : Int32).toUInt32 &&& Int32.toUInt32 31)).toInt32) &&& 858993459)).toUInt32 >>> ((4 : Int32).toUInt32 &&& Int32.toUInt32 31)).toInt32) hx hb dJ6_bitCount_0f7a4_27 rfl ?_
  refine lv_iadd hx hb dJ6_bitCount_0f7a4_28 ?_
  refine lv_ldcw (v := 252645135) hx hb hown (hts _ t_con_jl_Integer_267) dJ6_bitCount_0f7a4_29 ?_
  refine lv_iand hx hb dJ6_bitCount_0f7a4_32 ?_
  refine lv_istore_n (lv' := [(0, .int (((((p1 - (((p1.toUInt32 >>> ((1 : Int32).toUInt32 &&& Int32.toUInt32 31)).toInt32) &&& 1431655765)) &&& 858993459) + ((((p1 - (((p1.toUInt32 >>> ((1 : Int32).toUInt32 &&& Int32.toUInt32 31)).toInt32) &&& 1431655765)).toUInt32 >>> ((2 : Int32).toUInt32 &&& Int32.toUInt32 31)).toInt32) &&& 858993459)) + (((((p1 - (((p1.toUInt32 >>> ((1 : Int32).toUInt32 &&& Int32.toUInt32 31)).toInt32) &&& 1431655765)) &&& 858993459) + ((((p1 - (((p1.toUInt32 >>> ((1 : Int32).toUInt32 &&& Int32.toUInt32 31)).toInt32) &&& 1431655765)).toUInt32 >>> ((2 : Int32).toUInt32 &&& Int32.toUInt32 31)).toInt32) &&& 858993459)).toUInt32 >>> ((4 : Int32).toUInt32 &&& Int32.toUInt32 31)).toInt32)) &&& 252645135))]) hx hb dJ6_bitCount_0f7a4_33 rfl hl (by decide) rfl (fun ls hl => ?_)
  refine lv_iload_n hx hb dJ6_bitCount_0f7a4_34 rfl (lv_at hl 0 rfl) ?_
  refine lv_iload_n hx hb dJ6_bitCount_0f7a4_35 rfl (lv_at hl 0 rfl) ?_
  refine lv_bipush (v := 8) hx hb dJ6_bitCount_0f7a4_36 (by decide) ?_
  refine lv_iushr (v := ((((((p1 - (((p1.toUInt32 >>> ((1 : Int32).toUInt32 &&& Int32.toUInt32 31)).toInt32) &&& 1431655765)) &&& 858993459) + ((((p1 - (((p1.toUInt32 >>> ((1 : Int32).toUInt32 &&& Int32.toUInt32 31)).toInt32) &&& 1431655765)).toUInt32 >>> ((2 : Int32).toUInt32 &&& Int32.toUInt32 31)).toInt32) &&& 858993459)) + (((((p1 - (((p1.toUInt32 >>> ((1 : Int32).toUInt32 &&& Int32.toUInt32 31)).toInt32) &&& 1431655765)) &&& 858993459) + ((((p1 - (((p1.toUInt32 >>> ((1 : Int32).toUInt32 &&& Int32.toUInt32 31)).toInt32) &&& 1431655765)).toUInt32 >>> ((2 : Int32).toUInt32 &&& Int32.toUInt32 31)).toInt32) &&& 858993459)).toUInt32 >>> ((4 : Int32).toUInt32 &&& Int32.toUInt32 31)).toInt32)) &&& 252645135).toUInt32 >>> ((8 : Int32).toUInt32 &&& Int32.toUInt32 31)).toInt32) hx hb dJ6_bitCount_0f7a4_38 rfl ?_
  refine lv_iadd hx hb dJ6_bitCount_0f7a4_39 ?_
  refine lv_istore_n (lv' := [(0, .int ((((((p1 - (((p1.toUInt32 >>> ((1 : Int32).toUInt32 &&& Int32.toUInt32 31)).toInt32) &&& 1431655765)) &&& 858993459) + ((((p1 - (((p1.toUInt32 >>> ((1 : Int32).toUInt32 &&& Int32.toUInt32 31)).toInt32) &&& 1431655765)).toUInt32 >>> ((2 : Int32).toUInt32 &&& Int32.toUInt32 31)).toInt32) &&& 858993459)) + (((((p1 - (((p1.toUInt32 >>> ((1 : Int32).toUInt32 &&& Int32.toUInt32 31)).toInt32) &&& 1431655765)) &&& 858993459) + ((((p1 - (((p1.toUInt32 >>> ((1 : Int32).toUInt32 &&& Int32.toUInt32 31)).toInt32) &&& 1431655765)).toUInt32 >>> ((2 : Int32).toUInt32 &&& Int32.toUInt32 31)).toInt32) &&& 858993459)).toUInt32 >>> ((4 : Int32).toUInt32 &&& Int32.toUInt32 31)).toInt32)) &&& 252645135) + (((((((p1 - (((p1.toUInt32 >>> ((1 : Int32).toUInt32 &&& Int32.toUInt32 31)).toInt32) &&& 1431655765)) &&& 858993459) + ((((p1 - (((p1.toUInt32 >>> ((1 : Int32).toUInt32 &&& Int32.toUInt32 31)).toInt32) &&& 1431655765)).toUInt32 >>> ((2 : Int32).toUInt32 &&& Int32.toUInt32 31)).toInt32) &&& 858993459)) + (((((p1 - (((p1.toUInt32 >>> ((1 : Int32).toUInt32 &&& Int32.toUInt32 31)).toInt32) &&& 1431655765)) &&& 858993459) + ((((p1 - (((p1.toUInt32 >>> ((1 : Int32).toUInt32 &&& Int32.toUInt32 31)).toInt32) &&& 1431655765)).toUInt32 >>> ((2 : Int32).toUInt32 &&& Int32.toUInt32 31)).toInt32) &&& 858993459)).toUInt32 >>> ((4 : Int32).toUInt32 &&& Int32.toUInt32 31)).toInt32)) &&& 252645135).toUInt32 >>> ((8 : Int32).toUInt32 &&& Int32.toUInt32 31)).toInt32)))]) hx hb dJ6_bitCount_0f7a4_40 rfl hl (by decide) rfl (fun ls hl => ?_)
  refine lv_iload_n hx hb dJ6_bitCount_0f7a4_41 rfl (lv_at hl 0 rfl) ?_
  refine lv_iload_n hx hb dJ6_bitCount_0f7a4_42 rfl (lv_at hl 0 rfl) ?_
  refine lv_bipush (v := 16) hx hb dJ6_bitCount_0f7a4_43 (by decide) ?_
  refine lv_iushr (v := (((((((p1 - (((p1.toUInt32 >>> ((1 : Int32).toUInt32 &&& Int32.toUInt32 31)).toInt32) &&& 1431655765)) &&& 858993459) + ((((p1 - (((p1.toUInt32 >>> ((1 : Int32).toUInt32 &&& Int32.toUInt32 31)).toInt32) &&& 1431655765)).toUInt32 >>> ((2 : Int32).toUInt32 &&& Int32.toUInt32 31)).toInt32) &&& 858993459)) + (((((p1 - (((p1.toUInt32 >>> ((1 : Int32).toUInt32 &&& Int32.toUInt32 31)).toInt32) &&& 1431655765)) &&& 858993459) + ((((p1 - (((p1.toUInt32 >>> ((1 : Int32).toUInt32 &&& Int32.toUInt32 31)).toInt32) &&& 1431655765)).toUInt32 >>> ((2 : Int32).toUInt32 &&& Int32.toUInt32 31)).toInt32) &&& 858993459)).toUInt32 >>> ((4 : Int32).toUInt32 &&& Int32.toUInt32 31)).toInt32)) &&& 252645135) + (((((((p1 - (((p1.toUInt32 >>> ((1 : Int32).toUInt32 &&& Int32.toUInt32 31)).toInt32) &&& 1431655765)) &&& 858993459) + ((((p1 - (((p1.toUInt32 >>> ((1 : Int32).toUInt32 &&& Int32.toUInt32 31)).toInt32) &&& 1431655765)).toUInt32 >>> ((2 : Int32).toUInt32 &&& Int32.toUInt32 31)).toInt32) &&& 858993459)) + (((((p1 - (((p1.toUInt32 >>> ((1 : Int32).toUInt32 &&& Int32.toUInt32 31)).toInt32) &&& 1431655765)) &&& 858993459) + ((((p1 - (((p1.toUInt32 >>> ((1 : Int32).toUInt32 &&& Int32.toUInt32 31)).toInt32) &&& 1431655765)).toUInt32 >>> ((2 : Int32).toUInt32 &&& Int32.toUInt32 31)).toInt32) &&& 858993459)).toUInt32 >>> ((4 : Int32).toUInt32 &&& Int32.toUInt32 31)).toInt32)) &&& 252645135).toUInt32 >>> ((8 : Int32).toUInt32 &&& Int32.toUInt32 31)).toInt32)).toUInt32 >>> ((16 : Int32).toUInt32 &&& Int32.toUInt32 31)).toInt32) hx hb dJ6_bitCount_0f7a4_45 rfl ?_
  refine lv_iadd hx hb dJ6_bitCount_0f7a4_46 ?_
  refine lv_istore_n (lv' := [(0, .int (((((((p1 - (((p1.toUInt32 >>> ((1 : Int32).toUInt32 &&& Int32.toUInt32 31)).toInt32) &&& 1431655765)) &&& 858993459) + ((((p1 - (((p1.toUInt32 >>> ((1 : Int32).toUInt32 &&& Int32.toUInt32 31)).toInt32) &&& 1431655765)).toUInt32 >>> ((2 : Int32).toUInt32 &&& Int32.toUInt32 31)).toInt32) &&& 858993459)) + (((((p1 - (((p1.toUInt32 >>> ((1 : Int32).toUInt32 &&& Int32.toUInt32 31)).toInt32) &&& 1431655765)) &&& 858993459) + ((((p1 - (((p1.toUInt32 >>> ((1 : Int32).toUInt32 &&& Int32.toUInt32 31)).toInt32) &&& 1431655765)).toUInt32 >>> ((2 : Int32).toUInt32 &&& Int32.toUInt32 31)).toInt32) &&& 858993459)).toUInt32 >>> ((4 : Int32).toUInt32 &&& Int32.toUInt32 31)).toInt32)) &&& 252645135) + (((((((p1 - (((p1.toUInt32 >>> ((1 : Int32).toUInt32 &&& Int32.toUInt32 31)).toInt32) &&& 1431655765)) &&& 858993459) + ((((p1 - (((p1.toUInt32 >>> ((1 : Int32).toUInt32 &&& Int32.toUInt32 31)).toInt32) &&& 1431655765)).toUInt32 >>> ((2 : Int32).toUInt32 &&& Int32.toUInt32 31)).toInt32) &&& 858993459)) + (((((p1 - (((p1.toUInt32 >>> ((1 : Int32).toUInt32 &&& Int32.toUInt32 31)).toInt32) &&& 1431655765)) &&& 858993459) + ((((p1 - (((p1.toUInt32 >>> ((1 : Int32).toUInt32 &&& Int32.toUInt32 31)).toInt32) &&& 1431655765)).toUInt32 >>> ((2 : Int32).toUInt32 &&& Int32.toUInt32 31)).toInt32) &&& 858993459)).toUInt32 >>> ((4 : Int32).toUInt32 &&& Int32.toUInt32 31)).toInt32)) &&& 252645135).toUInt32 >>> ((8 : Int32).toUInt32 &&& Int32.toUInt32 31)).toInt32)) + ((((((((p1 - (((p1.toUInt32 >>> ((1 : Int32).toUInt32 &&& Int32.toUInt32 31)).toInt32) &&& 1431655765)) &&& 858993459) + ((((p1 - (((p1.toUInt32 >>> ((1 : Int32).toUInt32 &&& Int32.toUInt32 31)).toInt32) &&& 1431655765)).toUInt32 >>> ((2 : Int32).toUInt32 &&& Int32.toUInt32 31)).toInt32) &&& 858993459)) + (((((p1 - (((p1.toUInt32 >>> ((1 : Int32).toUInt32 &&& Int32.toUInt32 31)).toInt32) &&& 1431655765)) &&& 858993459) + ((((p1 - (((p1.toUInt32 >>> ((1 : Int32).toUInt32 &&& Int32.toUInt32 31)).toInt32) &&& 1431655765)).toUInt32 >>> ((2 : Int32).toUInt32 &&& Int32.toUInt32 31)).toInt32) &&& 858993459)).toUInt32 >>> ((4 : Int32).toUInt32 &&& Int32.toUInt32 31)).toInt32)) &&& 252645135) + (((((((p1 - (((p1.toUInt32 >>> ((1 : Int32).toUInt32 &&& Int32.toUInt32 31)).toInt32) &&& 1431655765)) &&& 858993459) + ((((p1 - (((p1.toUInt32 >>> ((1 : Int32).toUInt32 &&& Int32.toUInt32 31)).toInt32) &&& 1431655765)).toUInt32 >>> ((2 : Int32).toUInt32 &&& Int32.toUInt32 31)).toInt32) &&& 858993459)) + (((((p1 - (((p1.toUInt32 >>> ((1 : Int32).toUInt32 &&& Int32.toUInt32 31)).toInt32) &&& 1431655765)) &&& 858993459) + ((((p1 - (((p1.toUInt32 >>> ((1 : Int32).toUInt32 &&& Int32.toUInt32 31)).toInt32) &&& 1431655765)).toUInt32 >>> ((2 : Int32).toUInt32 &&& Int32.toUInt32 31)).toInt32) &&& 858993459)).toUInt32 >>> ((4 : Int32).toUInt32 &&& Int32.toUInt32 31)).toInt32)) &&& 252645135).toUInt32 >>> ((8 : Int32).toUInt32 &&& Int32.toUInt32 31)).toInt32)).toUInt32 >>> ((16 : Int32).toUInt32 &&& Int32.toUInt32 31)).toInt32)))]) hx hb dJ6_bitCount_0f7a4_47 rfl hl (by decide) rfl (fun ls hl => ?_)
  refine lv_iload_n hx hb dJ6_bitCount_0f7a4_48 rfl (lv_at hl 0 rfl) ?_
  refine lv_bipush (v := 63) hx hb dJ6_bitCount_0f7a4_49 (by decide) ?_
  refine lv_iand hx hb dJ6_bitCount_0f7a4_51 ?_
  exact E _ _ _ dJ6_bitCount_0f7a4_52 rfl (Eq.symm rfl)
theorem k_J6_bitCount_0f7a4 {p : Program} {l : Launch} {e : Env} {R : Room} {s : State} {m : MethodId} {args : Array Value} {below : List Frame} {meth : Method} {c : Code} {H : Heap} {locs : List Loc} {cells slots : Nat} {Q : State → Prop} {cc : ByteArray} {pc nL : Nat} {ls : Array Slot} {rest : List Value} {G : gG} {own : String} (X : CX G p s m args c cc nL own) (hS : va_S (gA G) s.heap H locs) {p1 : Int32} {idx : Nat} (hml : Cond.methodLink own idx yJ6_bitCount_0f7a4 ∈ TT) (hls : ls.size = nL) (hsum : (rest.map fun v => v.category).sum ≤ 8) (hR : rmJ6_bitCount_0f7a4.frames + 1 ≤ R.frames ∧ 8 + (1 + 11) + rmJ6_bitCount_0f7a4.locals ≤ R.locals) (hcs : cells ≤ R.cells ∧ slots ≤ R.slots) (hdg : decode cc pc = .ok (.invokestatic idx, 3)) (kk : W p l e R s m args below meth c H locs cells slots Q (F0 m (pc + 3) ls (.int (fJ6_bitCount_0f7a4 p1) :: rest))) : W p l e R s m args below meth c H locs cells slots Q (F0 m pc ls (.int p1 :: rest)) := c_qi (runS (k := 1) X.1 X.2.1 X.2.2.1 X.2.2.2.1 X.2.2.2.2.1 (mJ6_bitCount_0f7a4 l G p1) (pT_bl (fun _ _ _ _ h => h)) hml t_st_J6_bitCount_0f7a4 t_ini_jl_Integer t_code_J6_bitCount_0f7a4 ⟨by decide, by decide, by decide +kernel⟩ rfl rfl hR hcs (fun U hU hW => ⟨preT X hS U hU hW, trivial⟩) rfl hls rfl hsum hdg) (fun _ h => h ▸ kk)
def fX2_hasTool (r : Nat) (p1 : Int32) (v : vSt) : Int32 := if (p1 : Int32) < 0 then 0 else (if ((v r 2) : Int32) ≤ p1 then 0 else (if (6 : Int32) ≤ p1 then 0 else 1))
abbrev rmX2_hasTool : Room := { frames := 0, cells := 0, slots := 0, locals := 0 }
theorem dX2_hasTool_0 : decode cX2_hasTool 0 = .ok (.iload_n 1, 1) := by decide +kernel
theorem dX2_hasTool_1 : decode cX2_hasTool 1 = .ok (.ifCond .lt 24, 3) := by decide +kernel
theorem dX2_hasTool_4 : decode cX2_hasTool 4 = .ok (.iload_n 1, 1) := by decide +kernel
theorem dX2_hasTool_5 : decode cX2_hasTool 5 = .ok (.aload_n 0, 1) := by decide +kernel
theorem dX2_hasTool_6 : decode cX2_hasTool 6 = .ok (.getfield 29, 3) := by decide +kernel
theorem dX2_hasTool_9 : decode cX2_hasTool 9 = .ok (.if_icmp .ge 16, 3) := by decide +kernel
theorem dX2_hasTool_12 : decode cX2_hasTool 12 = .ok (.iload_n 1, 1) := by decide +kernel
theorem dX2_hasTool_13 : decode cX2_hasTool 13 = .ok (.aload_n 0, 1) := by decide +kernel
theorem dX2_hasTool_14 : decode cX2_hasTool 14 = .ok (.getfield 11, 3) := by decide +kernel
theorem dX2_hasTool_17 : decode cX2_hasTool 17 = .ok (.arraylength, 1) := by decide +kernel
theorem dX2_hasTool_18 : decode cX2_hasTool 18 = .ok (.if_icmp .ge 7, 3) := by decide +kernel
theorem dX2_hasTool_21 : decode cX2_hasTool 21 = .ok (.iconst 1, 1) := by decide +kernel
theorem dX2_hasTool_22 : decode cX2_hasTool 22 = .ok (.goto 4, 3) := by decide +kernel
theorem dX2_hasTool_25 : decode cX2_hasTool 25 = .ok (.iconst 0, 1) := by decide +kernel
theorem dX2_hasTool_26 : decode cX2_hasTool 26 = .ok (.ireturn, 1) := by decide +kernel
set_option maxHeartbeats 4000000 in
set_option maxRecDepth 100000 in
theorem mX2_hasTool (l : Launch) (G : gG) (da : Nat → Nat) (v : vSt) (x : gX) (r : Nat) (hk_r : kd r = 2) (p1 : Int32) : QI l yX2_hasTool cX2_hasTool 2 (some .boolean) rmX2_hasTool [.ref (ga G r), .int p1] (pW G da v x) (fX2_hasTool r p1 v) := by
  refine gofQ (own := RX2) (by decide) rfl (Nat.le_of_ble_eq_true rfl) (fun p e s m args below meth c ls Q X hH hl E => ?_)
  have hx := X.1
  have hb := X.2.1
  have hown := X.2.2.2.1
  have hts := X.2.2.2.2.1
  have hS : va_S (gA G) s.heap s.heap [] := va_S.rf
  have hl : lv_has ls 2 [(0, .ref (ga G r)), (1, .int p1)] := hl
  refine lv_iload_n hx hb dX2_hasTool_0 rfl (lv_at hl 1 rfl) ?_
  refine lv_if_lt (tgt := 25) hx hb dX2_hasTool_1 (by decide) (fun c1 => ?_) (fun c1 => ?_)
  · refine lv_iconst (v := 0) hx hb dX2_hasTool_25 (by decide) ?_
    exact E _ _ _ dX2_hasTool_26 rfl (Eq.symm ((if_pos c1).trans rfl))
  · refine lv_iload_n hx hb dX2_hasTool_4 rfl (lv_at hl 1 rfl) ?_
    refine lv_aload_n hx hb dX2_hasTool_5 rfl (lv_at hl 0 rfl) ?_
    refine g_Drawer_29 X hH hk_r dX2_hasTool_6 ?_
    refine lv_icmp_ge (tgt := 25) hx hb dX2_hasTool_9 (by decide) (fun c2 => ?_) (fun c2 => ?_)
    · refine lv_iconst (v := 0) hx hb dX2_hasTool_25 (by decide) ?_
      exact E _ _ _ dX2_hasTool_26 rfl (Eq.symm ((if_neg c1).trans ((if_pos c2).trans rfl)))
    · refine lv_iload_n hx hb dX2_hasTool_12 rfl (lv_at hl 1 rfl) ?_
      refine lv_aload_n hx hb dX2_hasTool_13 rfl (lv_at hl 0 rfl) ?_
      refine g_Drawer_11 X hH hk_r dX2_hasTool_14 ?_
      refine len_20 X hH (kc_2_20 hk_r) dX2_hasTool_17 ?_
      refine lv_icmp_ge (tgt := 25) hx hb dX2_hasTool_18 (by decide) (fun c3 => ?_) (fun c3 => ?_)
      · refine lv_iconst (v := 0) hx hb dX2_hasTool_25 (by decide) ?_
        exact E _ _ _ dX2_hasTool_26 rfl (Eq.symm ((if_neg c1).trans ((if_neg c2).trans ((if_pos c3).trans rfl))))
      · refine lv_iconst (v := 1) hx hb dX2_hasTool_21 (by decide) ?_
        refine lv_goto (tgt := 26) hx hb dX2_hasTool_22 (by decide) ?_
        exact E _ _ _ dX2_hasTool_26 rfl (Eq.symm ((if_neg c1).trans ((if_neg c2).trans ((if_neg c3).trans rfl))))
theorem k_X2_hasTool {p : Program} {l : Launch} {e : Env} {R : Room} {s : State} {m : MethodId} {args : Array Value} {below : List Frame} {meth : Method} {c : Code} {H : Heap} {locs : List Loc} {cells slots : Nat} {Q : State → Prop} {cc : ByteArray} {pc nL : Nat} {ls : Array Slot} {rest : List Value} {G : gG} {own : String} {da : Nat → Nat} {v : vSt} {x : gX} (X : CX G p s m args c cc nL own) (hS : va_S (gA G) s.heap H locs) (hH : Hp G da v x H) {r : Nat} (hk_r : kd r = 2) {p1 : Int32} {idx : Nat} (hml : Cond.methodLink own idx yX2_hasTool ∈ TT) (hls : ls.size = nL) (hsum : (rest.map fun v => v.category).sum ≤ 8) (hR : rmX2_hasTool.frames + 1 ≤ R.frames ∧ 8 + (2 + 11) + rmX2_hasTool.locals ≤ R.locals) (hcs : cells ≤ R.cells ∧ slots ≤ R.slots) (hdg : decode cc pc = .ok (.invokevirtual idx, 3)) (kk : W p l e R s m args below meth c H locs cells slots Q (F0 m (pc + 3) ls (.int (fX2_hasTool r p1 v) :: rest))) : W p l e R s m args below meth c H locs cells slots Q (F0 m pc ls (.int p1 :: .ref (ga G r) :: rest)) := c_qi (runV (k := 1) X.1 X.2.1 X.2.2.1 X.2.2.2.1 X.2.2.2.2.1 (mX2_hasTool l G da v x r hk_r p1) pW_bl hml t_im_X2_hasTool t_sel_X2_hasTool t_ini_Drawer t_code_X2_hasTool ⟨rfl, by decide, by decide, by decide +kernel⟩ rfl rfl hR hcs (recvW X hH (by rw [hk_r]; decide) (by rw [hk_r]; decide) (ce_2 hk_r) rfl) (preW X hS hH) rfl hls rfl hsum hdg) (fun _ h => h ▸ kk)
theorem b01_X2_hasTool {r : Nat} {p1 : Int32} {v : vSt} : fX2_hasTool r p1 v = 0 ∨ fX2_hasTool r p1 v = 1 := by
  unfold fX2_hasTool
  (try dsimp only); (repeat' split) <;> simp
theorem hasTool_b {r : Nat} {p1 : Int32} {v : vSt} (h : ¬ fX2_hasTool r p1 v = 0) : 0 ≤ p1.toInt ∧ p1.toInt < (v r 2).toInt ∧ p1.toInt < 6 := by
  unfold fX2_hasTool at h
  split at h
  · exact absurd rfl h
  · split at h
    · exact absurd rfl h
    · split at h
      · exact absurd rfl h
      · rename_i h1 h2 h3
        have := i_nlt h1
        have := i_nle h2
        have := i_nle h3
        have : (0 : Int32).toInt = 0 := rfl
        have : (6 : Int32).toInt = 6 := rfl
        omega
def fX2_hasBlock (r : Nat) (p1 : Int32) (v : vSt) : Int32 := if (p1 : Int32) < 0 then 0 else (if ((v r 3) : Int32) ≤ p1 then 0 else (if (10 : Int32) ≤ p1 then 0 else 1))
abbrev rmX2_hasBlock : Room := { frames := 0, cells := 0, slots := 0, locals := 0 }
theorem dX2_hasBlock_0 : decode cX2_hasBlock 0 = .ok (.iload_n 1, 1) := by decide +kernel
theorem dX2_hasBlock_1 : decode cX2_hasBlock 1 = .ok (.ifCond .lt 24, 3) := by decide +kernel
theorem dX2_hasBlock_4 : decode cX2_hasBlock 4 = .ok (.iload_n 1, 1) := by decide +kernel
theorem dX2_hasBlock_5 : decode cX2_hasBlock 5 = .ok (.aload_n 0, 1) := by decide +kernel
theorem dX2_hasBlock_6 : decode cX2_hasBlock 6 = .ok (.getfield 36, 3) := by decide +kernel
theorem dX2_hasBlock_9 : decode cX2_hasBlock 9 = .ok (.if_icmp .ge 16, 3) := by decide +kernel
theorem dX2_hasBlock_12 : decode cX2_hasBlock 12 = .ok (.iload_n 1, 1) := by decide +kernel
theorem dX2_hasBlock_13 : decode cX2_hasBlock 13 = .ok (.aload_n 0, 1) := by decide +kernel
theorem dX2_hasBlock_14 : decode cX2_hasBlock 14 = .ok (.getfield 19, 3) := by decide +kernel
theorem dX2_hasBlock_17 : decode cX2_hasBlock 17 = .ok (.arraylength, 1) := by decide +kernel
theorem dX2_hasBlock_18 : decode cX2_hasBlock 18 = .ok (.if_icmp .ge 7, 3) := by decide +kernel
theorem dX2_hasBlock_21 : decode cX2_hasBlock 21 = .ok (.iconst 1, 1) := by decide +kernel
theorem dX2_hasBlock_22 : decode cX2_hasBlock 22 = .ok (.goto 4, 3) := by decide +kernel
theorem dX2_hasBlock_25 : decode cX2_hasBlock 25 = .ok (.iconst 0, 1) := by decide +kernel
theorem dX2_hasBlock_26 : decode cX2_hasBlock 26 = .ok (.ireturn, 1) := by decide +kernel
set_option maxHeartbeats 4000000 in
set_option maxRecDepth 100000 in
theorem mX2_hasBlock (l : Launch) (G : gG) (da : Nat → Nat) (v : vSt) (x : gX) (r : Nat) (hk_r : kd r = 2) (p1 : Int32) : QI l yX2_hasBlock cX2_hasBlock 2 (some .boolean) rmX2_hasBlock [.ref (ga G r), .int p1] (pW G da v x) (fX2_hasBlock r p1 v) := by
  refine gofQ (own := RX2) (by decide) rfl (Nat.le_of_ble_eq_true rfl) (fun p e s m args below meth c ls Q X hH hl E => ?_)
  have hx := X.1
  have hb := X.2.1
  have hown := X.2.2.2.1
  have hts := X.2.2.2.2.1
  have hS : va_S (gA G) s.heap s.heap [] := va_S.rf
  have hl : lv_has ls 2 [(0, .ref (ga G r)), (1, .int p1)] := hl
  refine lv_iload_n hx hb dX2_hasBlock_0 rfl (lv_at hl 1 rfl) ?_
  refine lv_if_lt (tgt := 25) hx hb dX2_hasBlock_1 (by decide) (fun c1 => ?_) (fun c1 => ?_)
  · refine lv_iconst (v := 0) hx hb dX2_hasBlock_25 (by decide) ?_
    exact E _ _ _ dX2_hasBlock_26 rfl (Eq.symm ((if_pos c1).trans rfl))
  · refine lv_iload_n hx hb dX2_hasBlock_4 rfl (lv_at hl 1 rfl) ?_
    refine lv_aload_n hx hb dX2_hasBlock_5 rfl (lv_at hl 0 rfl) ?_
    refine g_Drawer_36 X hH hk_r dX2_hasBlock_6 ?_
    refine lv_icmp_ge (tgt := 25) hx hb dX2_hasBlock_9 (by decide) (fun c2 => ?_) (fun c2 => ?_)
    · refine lv_iconst (v := 0) hx hb dX2_hasBlock_25 (by decide) ?_
      exact E _ _ _ dX2_hasBlock_26 rfl (Eq.symm ((if_neg c1).trans ((if_pos c2).trans rfl)))
    · refine lv_iload_n hx hb dX2_hasBlock_12 rfl (lv_at hl 1 rfl) ?_
      refine lv_aload_n hx hb dX2_hasBlock_13 rfl (lv_at hl 0 rfl) ?_
      refine g_Drawer_19 X hH hk_r dX2_hasBlock_14 ?_
      refine len_21 X hH (kc_2_21 hk_r) dX2_hasBlock_17 ?_
      refine lv_icmp_ge (tgt := 25) hx hb dX2_hasBlock_18 (by decide) (fun c3 => ?_) (fun c3 => ?_)
      · refine lv_iconst (v := 0) hx hb dX2_hasBlock_25 (by decide) ?_
        exact E _ _ _ dX2_hasBlock_26 rfl (Eq.symm ((if_neg c1).trans ((if_neg c2).trans ((if_pos c3).trans rfl))))
      · refine lv_iconst (v := 1) hx hb dX2_hasBlock_21 (by decide) ?_
        refine lv_goto (tgt := 26) hx hb dX2_hasBlock_22 (by decide) ?_
        exact E _ _ _ dX2_hasBlock_26 rfl (Eq.symm ((if_neg c1).trans ((if_neg c2).trans ((if_neg c3).trans rfl))))
theorem k_X2_hasBlock {p : Program} {l : Launch} {e : Env} {R : Room} {s : State} {m : MethodId} {args : Array Value} {below : List Frame} {meth : Method} {c : Code} {H : Heap} {locs : List Loc} {cells slots : Nat} {Q : State → Prop} {cc : ByteArray} {pc nL : Nat} {ls : Array Slot} {rest : List Value} {G : gG} {own : String} {da : Nat → Nat} {v : vSt} {x : gX} (X : CX G p s m args c cc nL own) (hS : va_S (gA G) s.heap H locs) (hH : Hp G da v x H) {r : Nat} (hk_r : kd r = 2) {p1 : Int32} {idx : Nat} (hml : Cond.methodLink own idx yX2_hasBlock ∈ TT) (hls : ls.size = nL) (hsum : (rest.map fun v => v.category).sum ≤ 8) (hR : rmX2_hasBlock.frames + 1 ≤ R.frames ∧ 8 + (2 + 11) + rmX2_hasBlock.locals ≤ R.locals) (hcs : cells ≤ R.cells ∧ slots ≤ R.slots) (hdg : decode cc pc = .ok (.invokevirtual idx, 3)) (kk : W p l e R s m args below meth c H locs cells slots Q (F0 m (pc + 3) ls (.int (fX2_hasBlock r p1 v) :: rest))) : W p l e R s m args below meth c H locs cells slots Q (F0 m pc ls (.int p1 :: .ref (ga G r) :: rest)) := c_qi (runV (k := 1) X.1 X.2.1 X.2.2.1 X.2.2.2.1 X.2.2.2.2.1 (mX2_hasBlock l G da v x r hk_r p1) pW_bl hml t_im_X2_hasBlock t_sel_X2_hasBlock t_ini_Drawer t_code_X2_hasBlock ⟨rfl, by decide, by decide, by decide +kernel⟩ rfl rfl hR hcs (recvW X hH (by rw [hk_r]; decide) (by rw [hk_r]; decide) (ce_2 hk_r) rfl) (preW X hS hH) rfl hls rfl hsum hdg) (fun _ h => h ▸ kk)
theorem b01_X2_hasBlock {r : Nat} {p1 : Int32} {v : vSt} : fX2_hasBlock r p1 v = 0 ∨ fX2_hasBlock r p1 v = 1 := by
  unfold fX2_hasBlock
  (try dsimp only); (repeat' split) <;> simp
def fX2_putTool (r : Nat) (p1 : Int32) (p2 : Int32) (v : vSt) : Int32 × vSt := if (6 : Int32) ≤ (v r 2) then ((v r 2, v)) else (let v3 := fX8_begin ((r + 2) + 13 + (v r 2 : Int32).toNatClampNeg) p1 p2 (v r 5) v; let v4 := u2 v3 r 2 ((v3 r 2) + 1); (v r 2, v4))
abbrev rmX2_putTool : Room := { frames := 2, cells := 0, slots := 0, locals := 45 }
theorem dX2_putTool_0 : decode cX2_putTool 0 = .ok (.aload_n 0, 1) := by decide +kernel
theorem dX2_putTool_1 : decode cX2_putTool 1 = .ok (.getfield 29, 3) := by decide +kernel
theorem dX2_putTool_4 : decode cX2_putTool 4 = .ok (.istore_n 3, 1) := by decide +kernel
theorem dX2_putTool_5 : decode cX2_putTool 5 = .ok (.iload_n 3, 1) := by decide +kernel
theorem dX2_putTool_6 : decode cX2_putTool 6 = .ok (.aload_n 0, 1) := by decide +kernel
theorem dX2_putTool_7 : decode cX2_putTool 7 = .ok (.getfield 11, 3) := by decide +kernel
theorem dX2_putTool_10 : decode cX2_putTool 10 = .ok (.arraylength, 1) := by decide +kernel
theorem dX2_putTool_11 : decode cX2_putTool 11 = .ok (.if_icmp .ge 28, 3) := by decide +kernel
theorem dX2_putTool_14 : decode cX2_putTool 14 = .ok (.aload_n 0, 1) := by decide +kernel
theorem dX2_putTool_15 : decode cX2_putTool 15 = .ok (.getfield 11, 3) := by decide +kernel
theorem dX2_putTool_18 : decode cX2_putTool 18 = .ok (.iload_n 3, 1) := by decide +kernel
theorem dX2_putTool_19 : decode cX2_putTool 19 = .ok (.aaload, 1) := by decide +kernel
theorem dX2_putTool_20 : decode cX2_putTool 20 = .ok (.iload_n 1, 1) := by decide +kernel
theorem dX2_putTool_21 : decode cX2_putTool 21 = .ok (.iload_n 2, 1) := by decide +kernel
theorem dX2_putTool_22 : decode cX2_putTool 22 = .ok (.aload_n 0, 1) := by decide +kernel
theorem dX2_putTool_23 : decode cX2_putTool 23 = .ok (.getfield 42, 3) := by decide +kernel
theorem dX2_putTool_26 : decode cX2_putTool 26 = .ok (.invokevirtual 45, 3) := by decide +kernel
theorem dX2_putTool_29 : decode cX2_putTool 29 = .ok (.aload_n 0, 1) := by decide +kernel
theorem dX2_putTool_30 : decode cX2_putTool 30 = .ok (.dup, 1) := by decide +kernel
theorem dX2_putTool_31 : decode cX2_putTool 31 = .ok (.getfield 29, 3) := by decide +kernel
theorem dX2_putTool_34 : decode cX2_putTool 34 = .ok (.iconst 1, 1) := by decide +kernel
theorem dX2_putTool_35 : decode cX2_putTool 35 = .ok (.iadd, 1) := by decide +kernel
theorem dX2_putTool_36 : decode cX2_putTool 36 = .ok (.putfield 29, 3) := by decide +kernel
theorem dX2_putTool_39 : decode cX2_putTool 39 = .ok (.iload_n 3, 1) := by decide +kernel
theorem dX2_putTool_40 : decode cX2_putTool 40 = .ok (.ireturn, 1) := by decide +kernel
set_option maxHeartbeats 4000000 in
set_option maxRecDepth 100000 in
theorem mX2_putTool (l : Launch) (G : gG) (da : Nat → Nat) (v : vSt) (x : gX) (r : Nat) (hk_r : kd r = 2) (p1 : Int32) (p2 : Int32) (hD : 0 ≤ (v r 2).toInt ∧ (v r 2).toInt ≤ 6 ∧ 0 ≤ (v r 3).toInt ∧ (v r 3).toInt ≤ 10) : MI l yX2_putTool cX2_putTool 4 (some .int) rmX2_putTool [.ref (ga G r), .int p1, .int p2] G da v x 0 0 (fX2_putTool r p1 p2 v).1 (fX2_putTool r p1 p2 v).2 x := by
  refine gofMI (own := RX2) (by decide) rfl (Nat.le_of_ble_eq_true rfl) (fun p e s m args below meth c ls Q X hH hl E => ?_)
  have hx := X.1
  have hb := X.2.1
  have hown := X.2.2.2.1
  have hts := X.2.2.2.2.1
  have hS : va_S (gA G) s.heap s.heap [] := va_S.rf
  have hl : lv_has ls 4 [(0, .ref (ga G r)), (1, .int p1), (2, .int p2)] := hl
  refine lv_aload_n hx hb dX2_putTool_0 rfl (lv_at hl 0 rfl) ?_
  refine g_Drawer_29 X hH hk_r dX2_putTool_1 ?_
  refine lv_istore_n (lv' := [(3, .int (v r 2)), (0, .ref (ga G r)), (1, .int p1), (2, .int p2)]) hx hb dX2_putTool_4 rfl hl (by decide) rfl (fun ls hl => ?_)
  refine lv_iload_n hx hb dX2_putTool_5 rfl (lv_at hl 0 rfl) ?_
  refine lv_aload_n hx hb dX2_putTool_6 rfl (lv_at hl 1 rfl) ?_
  refine g_Drawer_11 X hH hk_r dX2_putTool_7 ?_
  refine len_20 X hH (kc_2_20 hk_r) dX2_putTool_10 ?_
  refine lv_icmp_ge (tgt := 39) hx hb dX2_putTool_11 (by decide) (fun c1 => ?_) (fun c1 => ?_)
  · refine lv_iload_n hx hb dX2_putTool_39 rfl (lv_at hl 0 rfl) ?_
    exact E _ _ _ _ _ _ _ _ _ dX2_putTool_40 rfl (pr1 ((if_pos c1).trans rfl)) (pr2 ((if_pos c1).trans rfl)) hH hS (Nat.zero_le _) (Nat.zero_le _)
  · refine lv_aload_n hx hb dX2_putTool_14 rfl (lv_at hl 1 rfl) ?_
    refine g_Drawer_11 X hH hk_r dX2_putTool_15 ?_
    refine lv_iload_n hx hb dX2_putTool_18 rfl (lv_at hl 0 rfl) ?_
    have hi2 : vp_in (v r 2) 6 := (i_in (by have := i_nle c1; have : (2 : Int32).toInt = 2 := rfl; have : (6 : Int32).toInt = 6 := rfl; have := hD; omega) (by have := i_nle c1; have : (2 : Int32).toInt = 2 := rfl; have : (6 : Int32).toInt = 6 := rfl; have := hD; omega))
    refine qld_20 X hH (kc_2_20 hk_r) hi2 dX2_putTool_19 ?_
    refine lv_iload_n hx hb dX2_putTool_20 rfl (lv_at hl 2 rfl) ?_
    refine lv_iload_n hx hb dX2_putTool_21 rfl (lv_at hl 3 rfl) ?_
    refine lv_aload_n hx hb dX2_putTool_22 rfl (lv_at hl 1 rfl) ?_
    refine g_Drawer_42 X hH hk_r dX2_putTool_23 ?_
    refine k_X8_begin X hS hH (ki_20 (kc_2_20 hk_r) (vp_lt hi2)) t_ml_Drawer_45 hl.1 (Nat.le_of_ble_eq_true rfl) ⟨Nat.le_of_ble_eq_true rfl, Nat.le_of_ble_eq_true rfl⟩ ⟨Nat.zero_le _, Nat.zero_le _⟩ dX2_putTool_26 (fun da H locs v3 ev3 hH hS => ?_)
    refine lv_aload_n hx hb dX2_putTool_29 rfl (lv_at hl 1 rfl) ?_
    refine lv_dup hx hb dX2_putTool_30 rfl ?_
    refine g_Drawer_29 X hH hk_r dX2_putTool_31 ?_
    refine lv_iconst (v := 1) hx hb dX2_putTool_34 (by decide) ?_
    refine lv_iadd hx hb dX2_putTool_35 ?_
    refine p_Drawer_29 X hH hS hk_r dX2_putTool_36 (fun H locs v4 ev4 hH hS => ?_)
    refine lv_iload_n hx hb dX2_putTool_39 rfl (lv_at hl 0 rfl) ?_
    subst ev3 ev4
    exact E _ _ _ _ _ _ _ _ _ dX2_putTool_40 rfl (pr1 ((if_neg c1).trans rfl)) (pr2 ((if_neg c1).trans rfl)) hH hS (Nat.zero_le _) (Nat.zero_le _)
theorem k_X2_putTool {p : Program} {l : Launch} {e : Env} {R : Room} {s : State} {m : MethodId} {args : Array Value} {below : List Frame} {meth : Method} {c : Code} {H : Heap} {locs : List Loc} {cells slots : Nat} {Q : State → Prop} {cc : ByteArray} {pc nL : Nat} {ls : Array Slot} {rest : List Value} {G : gG} {own : String} {da : Nat → Nat} {v : vSt} {x : gX} (X : CX G p s m args c cc nL own) (hS : va_S (gA G) s.heap H locs) (hH : Hp G da v x H) {r : Nat} (hk_r : kd r = 2) {p1 : Int32} {p2 : Int32} (hD : 0 ≤ (v r 2).toInt ∧ (v r 2).toInt ≤ 6 ∧ 0 ≤ (v r 3).toInt ∧ (v r 3).toInt ≤ 10) {idx : Nat} (hml : Cond.methodLink own idx yX2_putTool ∈ TT) (hls : ls.size = nL) (hsum : (rest.map fun v => v.category).sum ≤ 8) (hR : rmX2_putTool.frames + 1 ≤ R.frames ∧ 8 + (4 + 11) + rmX2_putTool.locals ≤ R.locals) (hcs : cells ≤ R.cells ∧ slots ≤ R.slots) (hdg : decode cc pc = .ok (.invokevirtual idx, 3)) (kk : ∀ (d : Nat → Nat) (H1 : Heap) (locs1 : List Loc) (v1 : vSt), v1 = (fX2_putTool r p1 p2 v).2 → Hp G d v1 x H1 → va_S (gA G) s.heap H1 locs1 → W p l e R s m args below meth c H1 locs1 cells slots Q (F0 m (pc + 3) ls (.int (fX2_putTool r p1 p2 v).1 :: rest))) : W p l e R s m args below meth c H locs cells slots Q (F0 m pc ls (.int p2 :: .int p1 :: .ref (ga G r) :: rest)) := c_mi X.2.2.2.2.2.2 (runV (k := 2) X.1 X.2.1 X.2.2.1 X.2.2.2.1 X.2.2.2.2.1 (mX2_putTool l G da v x r hk_r p1 p2 hD) pW_bl hml t_im_X2_putTool t_sel_X2_putTool t_ini_Drawer t_code_X2_putTool ⟨rfl, by decide, by decide, by decide +kernel⟩ rfl rfl hR hcs (recvW X hH (by rw [hk_r]; decide) (by rw [hk_r]; decide) (ce_2 hk_r) rfl) (preW X hS hH) rfl hls rfl hsum hdg) hS kk
def fX2_putBlock (r : Nat) (p1 : Int32) (p2 : Int32) (v : vSt) : Int32 × vSt := if (10 : Int32) ≤ (v r 3) then ((v r 3, v)) else (let v3 := fX1_begin ((r + 3) + 20 + (v r 3 : Int32).toNatClampNeg) p1 p2 v; let v4 := u2 v3 r 3 ((v3 r 3) + 1); (v r 3, v4))
abbrev rmX2_putBlock : Room := { frames := 1, cells := 0, slots := 0, locals := 22 }
theorem dX2_putBlock_0 : decode cX2_putBlock 0 = .ok (.aload_n 0, 1) := by decide +kernel
theorem dX2_putBlock_1 : decode cX2_putBlock 1 = .ok (.getfield 36, 3) := by decide +kernel
theorem dX2_putBlock_4 : decode cX2_putBlock 4 = .ok (.istore_n 3, 1) := by decide +kernel
theorem dX2_putBlock_5 : decode cX2_putBlock 5 = .ok (.iload_n 3, 1) := by decide +kernel
theorem dX2_putBlock_6 : decode cX2_putBlock 6 = .ok (.aload_n 0, 1) := by decide +kernel
theorem dX2_putBlock_7 : decode cX2_putBlock 7 = .ok (.getfield 19, 3) := by decide +kernel
theorem dX2_putBlock_10 : decode cX2_putBlock 10 = .ok (.arraylength, 1) := by decide +kernel
theorem dX2_putBlock_11 : decode cX2_putBlock 11 = .ok (.if_icmp .ge 24, 3) := by decide +kernel
theorem dX2_putBlock_14 : decode cX2_putBlock 14 = .ok (.aload_n 0, 1) := by decide +kernel
theorem dX2_putBlock_15 : decode cX2_putBlock 15 = .ok (.getfield 19, 3) := by decide +kernel
theorem dX2_putBlock_18 : decode cX2_putBlock 18 = .ok (.iload_n 3, 1) := by decide +kernel
theorem dX2_putBlock_19 : decode cX2_putBlock 19 = .ok (.aaload, 1) := by decide +kernel
theorem dX2_putBlock_20 : decode cX2_putBlock 20 = .ok (.iload_n 1, 1) := by decide +kernel
theorem dX2_putBlock_21 : decode cX2_putBlock 21 = .ok (.iload_n 2, 1) := by decide +kernel
theorem dX2_putBlock_22 : decode cX2_putBlock 22 = .ok (.invokevirtual 49, 3) := by decide +kernel
theorem dX2_putBlock_25 : decode cX2_putBlock 25 = .ok (.aload_n 0, 1) := by decide +kernel
theorem dX2_putBlock_26 : decode cX2_putBlock 26 = .ok (.dup, 1) := by decide +kernel
theorem dX2_putBlock_27 : decode cX2_putBlock 27 = .ok (.getfield 36, 3) := by decide +kernel
theorem dX2_putBlock_30 : decode cX2_putBlock 30 = .ok (.iconst 1, 1) := by decide +kernel
theorem dX2_putBlock_31 : decode cX2_putBlock 31 = .ok (.iadd, 1) := by decide +kernel
theorem dX2_putBlock_32 : decode cX2_putBlock 32 = .ok (.putfield 36, 3) := by decide +kernel
theorem dX2_putBlock_35 : decode cX2_putBlock 35 = .ok (.iload_n 3, 1) := by decide +kernel
theorem dX2_putBlock_36 : decode cX2_putBlock 36 = .ok (.ireturn, 1) := by decide +kernel
set_option maxHeartbeats 4000000 in
set_option maxRecDepth 100000 in
theorem mX2_putBlock (l : Launch) (G : gG) (da : Nat → Nat) (v : vSt) (x : gX) (r : Nat) (hk_r : kd r = 2) (p1 : Int32) (p2 : Int32) (hD : 0 ≤ (v r 2).toInt ∧ (v r 2).toInt ≤ 6 ∧ 0 ≤ (v r 3).toInt ∧ (v r 3).toInt ≤ 10) : MI l yX2_putBlock cX2_putBlock 4 (some .int) rmX2_putBlock [.ref (ga G r), .int p1, .int p2] G da v x 0 0 (fX2_putBlock r p1 p2 v).1 (fX2_putBlock r p1 p2 v).2 x := by
  refine gofMI (own := RX2) (by decide) rfl (Nat.le_of_ble_eq_true rfl) (fun p e s m args below meth c ls Q X hH hl E => ?_)
  have hx := X.1
  have hb := X.2.1
  have hown := X.2.2.2.1
  have hts := X.2.2.2.2.1
  have hS : va_S (gA G) s.heap s.heap [] := va_S.rf
  have hl : lv_has ls 4 [(0, .ref (ga G r)), (1, .int p1), (2, .int p2)] := hl
  refine lv_aload_n hx hb dX2_putBlock_0 rfl (lv_at hl 0 rfl) ?_
  refine g_Drawer_36 X hH hk_r dX2_putBlock_1 ?_
  refine lv_istore_n (lv' := [(3, .int (v r 3)), (0, .ref (ga G r)), (1, .int p1), (2, .int p2)]) hx hb dX2_putBlock_4 rfl hl (by decide) rfl (fun ls hl => ?_)
  refine lv_iload_n hx hb dX2_putBlock_5 rfl (lv_at hl 0 rfl) ?_
  refine lv_aload_n hx hb dX2_putBlock_6 rfl (lv_at hl 1 rfl) ?_
  refine g_Drawer_19 X hH hk_r dX2_putBlock_7 ?_
  refine len_21 X hH (kc_2_21 hk_r) dX2_putBlock_10 ?_
  refine lv_icmp_ge (tgt := 35) hx hb dX2_putBlock_11 (by decide) (fun c1 => ?_) (fun c1 => ?_)
  · refine lv_iload_n hx hb dX2_putBlock_35 rfl (lv_at hl 0 rfl) ?_
    exact E _ _ _ _ _ _ _ _ _ dX2_putBlock_36 rfl (pr1 ((if_pos c1).trans rfl)) (pr2 ((if_pos c1).trans rfl)) hH hS (Nat.zero_le _) (Nat.zero_le _)
  · refine lv_aload_n hx hb dX2_putBlock_14 rfl (lv_at hl 1 rfl) ?_
    refine g_Drawer_19 X hH hk_r dX2_putBlock_15 ?_
    refine lv_iload_n hx hb dX2_putBlock_18 rfl (lv_at hl 0 rfl) ?_
    have hi2 : vp_in (v r 3) 10 := (i_in (by have := i_nle c1; have : (10 : Int32).toInt = 10 := rfl; have : (3 : Int32).toInt = 3 := rfl; have := hD; omega) (by have := i_nle c1; have : (10 : Int32).toInt = 10 := rfl; have : (3 : Int32).toInt = 3 := rfl; have := hD; omega))
    refine qld_21 X hH (kc_2_21 hk_r) hi2 dX2_putBlock_19 ?_
    refine lv_iload_n hx hb dX2_putBlock_20 rfl (lv_at hl 2 rfl) ?_
    refine lv_iload_n hx hb dX2_putBlock_21 rfl (lv_at hl 3 rfl) ?_
    refine k_X1_begin X hS hH (ki_21 (kc_2_21 hk_r) (vp_lt hi2)) t_ml_Drawer_49 hl.1 (Nat.le_of_ble_eq_true rfl) ⟨Nat.le_of_ble_eq_true rfl, Nat.le_of_ble_eq_true rfl⟩ ⟨Nat.zero_le _, Nat.zero_le _⟩ dX2_putBlock_22 (fun da H locs v3 ev3 hH hS => ?_)
    refine lv_aload_n hx hb dX2_putBlock_25 rfl (lv_at hl 1 rfl) ?_
    refine lv_dup hx hb dX2_putBlock_26 rfl ?_
    refine g_Drawer_36 X hH hk_r dX2_putBlock_27 ?_
    refine lv_iconst (v := 1) hx hb dX2_putBlock_30 (by decide) ?_
    refine lv_iadd hx hb dX2_putBlock_31 ?_
    refine p_Drawer_36 X hH hS hk_r dX2_putBlock_32 (fun H locs v4 ev4 hH hS => ?_)
    refine lv_iload_n hx hb dX2_putBlock_35 rfl (lv_at hl 0 rfl) ?_
    subst ev3 ev4
    exact E _ _ _ _ _ _ _ _ _ dX2_putBlock_36 rfl (pr1 ((if_neg c1).trans rfl)) (pr2 ((if_neg c1).trans rfl)) hH hS (Nat.zero_le _) (Nat.zero_le _)
theorem k_X2_putBlock {p : Program} {l : Launch} {e : Env} {R : Room} {s : State} {m : MethodId} {args : Array Value} {below : List Frame} {meth : Method} {c : Code} {H : Heap} {locs : List Loc} {cells slots : Nat} {Q : State → Prop} {cc : ByteArray} {pc nL : Nat} {ls : Array Slot} {rest : List Value} {G : gG} {own : String} {da : Nat → Nat} {v : vSt} {x : gX} (X : CX G p s m args c cc nL own) (hS : va_S (gA G) s.heap H locs) (hH : Hp G da v x H) {r : Nat} (hk_r : kd r = 2) {p1 : Int32} {p2 : Int32} (hD : 0 ≤ (v r 2).toInt ∧ (v r 2).toInt ≤ 6 ∧ 0 ≤ (v r 3).toInt ∧ (v r 3).toInt ≤ 10) {idx : Nat} (hml : Cond.methodLink own idx yX2_putBlock ∈ TT) (hls : ls.size = nL) (hsum : (rest.map fun v => v.category).sum ≤ 8) (hR : rmX2_putBlock.frames + 1 ≤ R.frames ∧ 8 + (4 + 11) + rmX2_putBlock.locals ≤ R.locals) (hcs : cells ≤ R.cells ∧ slots ≤ R.slots) (hdg : decode cc pc = .ok (.invokevirtual idx, 3)) (kk : ∀ (d : Nat → Nat) (H1 : Heap) (locs1 : List Loc) (v1 : vSt), v1 = (fX2_putBlock r p1 p2 v).2 → Hp G d v1 x H1 → va_S (gA G) s.heap H1 locs1 → W p l e R s m args below meth c H1 locs1 cells slots Q (F0 m (pc + 3) ls (.int (fX2_putBlock r p1 p2 v).1 :: rest))) : W p l e R s m args below meth c H locs cells slots Q (F0 m pc ls (.int p2 :: .int p1 :: .ref (ga G r) :: rest)) := c_mi X.2.2.2.2.2.2 (runV (k := 2) X.1 X.2.1 X.2.2.1 X.2.2.2.1 X.2.2.2.2.1 (mX2_putBlock l G da v x r hk_r p1 p2 hD) pW_bl hml t_im_X2_putBlock t_sel_X2_putBlock t_ini_Drawer t_code_X2_putBlock ⟨rfl, by decide, by decide, by decide +kernel⟩ rfl rfl hR hcs (recvW X hH (by rw [hk_r]; decide) (by rw [hk_r]; decide) (ce_2 hk_r) rfl) (preW X hS hH) rfl hls rfl hsum hdg) hS kk
def fX2_stretch (r : Nat) (p1 : Int32) (p2 : Int32) (v : vSt) : Int32 := if (p1 : Int32) < 0 then 0 else (if (p1 : Int32) < 3 then (((p2 * (tbS (p1 : Int32).toNatClampNeg)) * ((v r 4) - 20)) / 1000000) else 0)
abbrev rmX2_stretch : Room := { frames := 0, cells := 0, slots := 0, locals := 0 }
theorem dX2_stretch_0 : decode cX2_stretch 0 = .ok (.iload_n 1, 1) := by decide +kernel
theorem dX2_stretch_1 : decode cX2_stretch 1 = .ok (.ifCond .lt 11, 3) := by decide +kernel
theorem dX2_stretch_4 : decode cX2_stretch 4 = .ok (.iload_n 1, 1) := by decide +kernel
theorem dX2_stretch_5 : decode cX2_stretch 5 = .ok (.getstatic 52, 3) := by decide +kernel
theorem dX2_stretch_8 : decode cX2_stretch 8 = .ok (.arraylength, 1) := by decide +kernel
theorem dX2_stretch_9 : decode cX2_stretch 9 = .ok (.if_icmp .lt 5, 3) := by decide +kernel
theorem dX2_stretch_12 : decode cX2_stretch 12 = .ok (.iconst 0, 1) := by decide +kernel
theorem dX2_stretch_13 : decode cX2_stretch 13 = .ok (.ireturn, 1) := by decide +kernel
theorem dX2_stretch_14 : decode cX2_stretch 14 = .ok (.iload_n 2, 1) := by decide +kernel
theorem dX2_stretch_15 : decode cX2_stretch 15 = .ok (.getstatic 52, 3) := by decide +kernel
theorem dX2_stretch_18 : decode cX2_stretch 18 = .ok (.iload_n 1, 1) := by decide +kernel
theorem dX2_stretch_19 : decode cX2_stretch 19 = .ok (.iaload, 1) := by decide +kernel
theorem dX2_stretch_20 : decode cX2_stretch 20 = .ok (.imul, 1) := by decide +kernel
theorem dX2_stretch_21 : decode cX2_stretch 21 = .ok (.aload_n 0, 1) := by decide +kernel
theorem dX2_stretch_22 : decode cX2_stretch 22 = .ok (.getfield 23, 3) := by decide +kernel
theorem dX2_stretch_25 : decode cX2_stretch 25 = .ok (.bipush 20, 2) := by decide +kernel
theorem dX2_stretch_27 : decode cX2_stretch 27 = .ok (.isub, 1) := by decide +kernel
theorem dX2_stretch_28 : decode cX2_stretch 28 = .ok (.imul, 1) := by decide +kernel
theorem dX2_stretch_29 : decode cX2_stretch 29 = .ok (.ldc 56, 2) := by decide +kernel
theorem dX2_stretch_31 : decode cX2_stretch 31 = .ok (.idiv, 1) := by decide +kernel
theorem dX2_stretch_32 : decode cX2_stretch 32 = .ok (.ireturn, 1) := by decide +kernel
set_option maxHeartbeats 4000000 in
set_option maxRecDepth 100000 in
theorem mX2_stretch (l : Launch) (G : gG) (da : Nat → Nat) (v : vSt) (x : gX) (r : Nat) (hk_r : kd r = 2) (p1 : Int32) (p2 : Int32) : QI l yX2_stretch cX2_stretch 3 (some .int) rmX2_stretch [.ref (ga G r), .int p1, .int p2] (pW G da v x) (fX2_stretch r p1 p2 v) := by
  refine gofQ (own := RX2) (by decide) rfl (Nat.le_of_ble_eq_true rfl) (fun p e s m args below meth c ls Q X hH hl E => ?_)
  have hx := X.1
  have hb := X.2.1
  have hown := X.2.2.2.1
  have hts := X.2.2.2.2.1
  have hS : va_S (gA G) s.heap s.heap [] := va_S.rf
  have hl : lv_has ls 3 [(0, .ref (ga G r)), (1, .int p1), (2, .int p2)] := hl
  refine lv_iload_n hx hb dX2_stretch_0 rfl (lv_at hl 1 rfl) ?_
  refine lv_if_lt (tgt := 12) hx hb dX2_stretch_1 (by decide) (fun c1 => ?_) (fun c1 => ?_)
  · refine lv_iconst (v := 0) hx hb dX2_stretch_12 (by decide) ?_
    exact E _ _ _ dX2_stretch_13 rfl (Eq.symm ((if_pos c1).trans rfl))
  · refine lv_iload_n hx hb dX2_stretch_4 rfl (lv_at hl 1 rfl) ?_
    refine gs_Drawer_52 X hS dX2_stretch_5 ?_
    refine IA.lenV hx hb (ia_s3 X hS) (y := 3) rfl dX2_stretch_8 ?_
    refine lv_icmp_lt (tgt := 14) hx hb dX2_stretch_9 (by decide) (fun c2 => ?_) (fun c2 => ?_)
    · refine lv_iload_n hx hb dX2_stretch_14 rfl (lv_at hl 2 rfl) ?_
      refine gs_Drawer_52 X hS dX2_stretch_15 ?_
      refine lv_iload_n hx hb dX2_stretch_18 rfl (lv_at hl 1 rfl) ?_
      refine IA.ald hx hb (ia_s3 X hS) (i_n0 (by have := i_nlt c1; have := i_lt c2; have : (0 : Int32).toInt = 0 := rfl; have : (3 : Int32).toInt = 3 := rfl; omega)) (i_ofn (by decide) (by have := i_nlt c1; have := i_lt c2; have : (0 : Int32).toInt = 0 := rfl; have : (3 : Int32).toInt = 3 := rfl; omega)) dX2_stretch_19 ?_
      refine lv_imul hx hb dX2_stretch_20 ?_
      refine lv_aload_n hx hb dX2_stretch_21 rfl (lv_at hl 0 rfl) ?_
      refine g_Drawer_23 X hH hk_r dX2_stretch_22 ?_
      refine lv_bipush (v := 20) hx hb dX2_stretch_25 (by decide) ?_
      refine lv_isub hx hb dX2_stretch_27 ?_
      refine lv_imul hx hb dX2_stretch_28 ?_
      refine lv_ldc (v := 1000000) hx hb hown (hts _ t_con_Drawer_56) dX2_stretch_29 ?_
      refine lv_idiv hx hb dX2_stretch_31 (by decide) ?_
      exact E _ _ _ dX2_stretch_32 rfl (Eq.symm ((if_neg c1).trans ((if_pos c2).trans rfl)))
    · refine lv_iconst (v := 0) hx hb dX2_stretch_12 (by decide) ?_
      exact E _ _ _ dX2_stretch_13 rfl (Eq.symm ((if_neg c1).trans ((if_neg c2).trans rfl)))
theorem k_X2_stretch {p : Program} {l : Launch} {e : Env} {R : Room} {s : State} {m : MethodId} {args : Array Value} {below : List Frame} {meth : Method} {c : Code} {H : Heap} {locs : List Loc} {cells slots : Nat} {Q : State → Prop} {cc : ByteArray} {pc nL : Nat} {ls : Array Slot} {rest : List Value} {G : gG} {own : String} {da : Nat → Nat} {v : vSt} {x : gX} (X : CX G p s m args c cc nL own) (hS : va_S (gA G) s.heap H locs) (hH : Hp G da v x H) {r : Nat} (hk_r : kd r = 2) {p1 : Int32} {p2 : Int32} {idx : Nat} (hml : Cond.methodLink own idx yX2_stretch ∈ TT) (hls : ls.size = nL) (hsum : (rest.map fun v => v.category).sum ≤ 8) (hR : rmX2_stretch.frames + 1 ≤ R.frames ∧ 8 + (3 + 11) + rmX2_stretch.locals ≤ R.locals) (hcs : cells ≤ R.cells ∧ slots ≤ R.slots) (hdg : decode cc pc = .ok (.invokevirtual idx, 3)) (kk : W p l e R s m args below meth c H locs cells slots Q (F0 m (pc + 3) ls (.int (fX2_stretch r p1 p2 v) :: rest))) : W p l e R s m args below meth c H locs cells slots Q (F0 m pc ls (.int p2 :: .int p1 :: .ref (ga G r) :: rest)) := c_qi (runV (k := 2) X.1 X.2.1 X.2.2.1 X.2.2.2.1 X.2.2.2.2.1 (mX2_stretch l G da v x r hk_r p1 p2) pW_bl hml t_im_X2_stretch t_sel_X2_stretch t_ini_Drawer t_code_X2_stretch ⟨rfl, by decide, by decide, by decide +kernel⟩ rfl rfl hR hcs (recvW X hH (by rw [hk_r]; decide) (by rw [hk_r]; decide) (ce_2 hk_r) rfl) (preW X hS hH) rfl hls rfl hsum hdg) (fun _ h => h ▸ kk)
def fX2_shown (r : Nat) (o1 : Nat) (p1 : Int32) (p2 : Int32) (v : vSt) : Int32 := (((p2 + (fX2_stretch r p1 p2 v)) + (v o1 2)) - (fX2_stretch r 0 p2 v)) - (v o1 4)
abbrev rmX2_shown : Room := { frames := 1, cells := 0, slots := 0, locals := 22 }
theorem dX2_shown_0 : decode cX2_shown 0 = .ok (.iload_n 3, 1) := by decide +kernel
theorem dX2_shown_1 : decode cX2_shown 1 = .ok (.aload_n 0, 1) := by decide +kernel
theorem dX2_shown_2 : decode cX2_shown 2 = .ok (.iload_n 2, 1) := by decide +kernel
theorem dX2_shown_3 : decode cX2_shown 3 = .ok (.iload_n 3, 1) := by decide +kernel
theorem dX2_shown_4 : decode cX2_shown 4 = .ok (.invokevirtual 57, 3) := by decide +kernel
theorem dX2_shown_7 : decode cX2_shown 7 = .ok (.iadd, 1) := by decide +kernel
theorem dX2_shown_8 : decode cX2_shown 8 = .ok (.aload_n 1, 1) := by decide +kernel
theorem dX2_shown_9 : decode cX2_shown 9 = .ok (.getfield 61, 3) := by decide +kernel
theorem dX2_shown_12 : decode cX2_shown 12 = .ok (.iadd, 1) := by decide +kernel
theorem dX2_shown_13 : decode cX2_shown 13 = .ok (.aload_n 0, 1) := by decide +kernel
theorem dX2_shown_14 : decode cX2_shown 14 = .ok (.iconst 0, 1) := by decide +kernel
theorem dX2_shown_15 : decode cX2_shown 15 = .ok (.iload_n 3, 1) := by decide +kernel
theorem dX2_shown_16 : decode cX2_shown 16 = .ok (.invokevirtual 57, 3) := by decide +kernel
theorem dX2_shown_19 : decode cX2_shown 19 = .ok (.isub, 1) := by decide +kernel
theorem dX2_shown_20 : decode cX2_shown 20 = .ok (.aload_n 1, 1) := by decide +kernel
theorem dX2_shown_21 : decode cX2_shown 21 = .ok (.getfield 64, 3) := by decide +kernel
theorem dX2_shown_24 : decode cX2_shown 24 = .ok (.isub, 1) := by decide +kernel
theorem dX2_shown_25 : decode cX2_shown 25 = .ok (.ireturn, 1) := by decide +kernel
set_option maxHeartbeats 4000000 in
set_option maxRecDepth 100000 in
theorem mX2_shown (l : Launch) (G : gG) (da : Nat → Nat) (v : vSt) (x : gX) (r : Nat) (hk_r : kd r = 2) (o1 : Nat) (hk_o1 : kd o1 = 8) (p1 : Int32) (p2 : Int32) : QI l yX2_shown cX2_shown 4 (some .int) rmX2_shown [.ref (ga G r), .ref (ga G o1), .int p1, .int p2] (pW G da v x) (fX2_shown r o1 p1 p2 v) := by
  refine gofQ (own := RX2) (by decide) rfl (Nat.le_of_ble_eq_true rfl) (fun p e s m args below meth c ls Q X hH hl E => ?_)
  have hx := X.1
  have hb := X.2.1
  have hown := X.2.2.2.1
  have hts := X.2.2.2.2.1
  have hS : va_S (gA G) s.heap s.heap [] := va_S.rf
  have hl : lv_has ls 4 [(0, .ref (ga G r)), (1, .ref (ga G o1)), (2, .int p1), (3, .int p2)] := hl
  refine lv_iload_n hx hb dX2_shown_0 rfl (lv_at hl 3 rfl) ?_
  refine lv_aload_n hx hb dX2_shown_1 rfl (lv_at hl 0 rfl) ?_
  refine lv_iload_n hx hb dX2_shown_2 rfl (lv_at hl 2 rfl) ?_
  refine lv_iload_n hx hb dX2_shown_3 rfl (lv_at hl 3 rfl) ?_
  refine k_X2_stretch X hS hH hk_r t_ml_Drawer_57 hl.1 (Nat.le_of_ble_eq_true rfl) ⟨Nat.le_of_ble_eq_true rfl, Nat.le_of_ble_eq_true rfl⟩ ⟨Nat.zero_le _, Nat.zero_le _⟩ dX2_shown_4 ?_
  refine lv_iadd hx hb dX2_shown_7 ?_
  refine lv_aload_n hx hb dX2_shown_8 rfl (lv_at hl 1 rfl) ?_
  refine g_Drawer_61 X hH hk_o1 dX2_shown_9 ?_
  refine lv_iadd hx hb dX2_shown_12 ?_
  refine lv_aload_n hx hb dX2_shown_13 rfl (lv_at hl 0 rfl) ?_
  refine lv_iconst (v := 0) hx hb dX2_shown_14 (by decide) ?_
  refine lv_iload_n hx hb dX2_shown_15 rfl (lv_at hl 3 rfl) ?_
  refine k_X2_stretch X hS hH hk_r t_ml_Drawer_57 hl.1 (Nat.le_of_ble_eq_true rfl) ⟨Nat.le_of_ble_eq_true rfl, Nat.le_of_ble_eq_true rfl⟩ ⟨Nat.zero_le _, Nat.zero_le _⟩ dX2_shown_16 ?_
  refine lv_isub hx hb dX2_shown_19 ?_
  refine lv_aload_n hx hb dX2_shown_20 rfl (lv_at hl 1 rfl) ?_
  refine g_Drawer_64 X hH hk_o1 dX2_shown_21 ?_
  refine lv_isub hx hb dX2_shown_24 ?_
  exact E _ _ _ dX2_shown_25 rfl (Eq.symm rfl)
theorem k_X2_shown {p : Program} {l : Launch} {e : Env} {R : Room} {s : State} {m : MethodId} {args : Array Value} {below : List Frame} {meth : Method} {c : Code} {H : Heap} {locs : List Loc} {cells slots : Nat} {Q : State → Prop} {cc : ByteArray} {pc nL : Nat} {ls : Array Slot} {rest : List Value} {G : gG} {own : String} {da : Nat → Nat} {v : vSt} {x : gX} (X : CX G p s m args c cc nL own) (hS : va_S (gA G) s.heap H locs) (hH : Hp G da v x H) {r : Nat} (hk_r : kd r = 2) {o1 : Nat} (hk_o1 : kd o1 = 8) {p1 : Int32} {p2 : Int32} {idx : Nat} (hml : Cond.methodLink own idx yX2_shown ∈ TT) (hls : ls.size = nL) (hsum : (rest.map fun v => v.category).sum ≤ 8) (hR : rmX2_shown.frames + 1 ≤ R.frames ∧ 8 + (4 + 11) + rmX2_shown.locals ≤ R.locals) (hcs : cells ≤ R.cells ∧ slots ≤ R.slots) (hdg : decode cc pc = .ok (.invokevirtual idx, 3)) (kk : W p l e R s m args below meth c H locs cells slots Q (F0 m (pc + 3) ls (.int (fX2_shown r o1 p1 p2 v) :: rest))) : W p l e R s m args below meth c H locs cells slots Q (F0 m pc ls (.int p2 :: .int p1 :: .ref (ga G o1) :: .ref (ga G r) :: rest)) := c_qi (runV (k := 3) X.1 X.2.1 X.2.2.1 X.2.2.2.1 X.2.2.2.2.1 (mX2_shown l G da v x r hk_r o1 hk_o1 p1 p2) pW_bl hml t_im_X2_shown t_sel_X2_shown t_ini_Drawer t_code_X2_shown ⟨rfl, by decide, by decide, by decide +kernel⟩ rfl rfl hR hcs (recvW X hH (by rw [hk_r]; decide) (by rw [hk_r]; decide) (ce_2 hk_r) rfl) (preW X hS hH) rfl hls rfl hsum hdg) (fun _ h => h ▸ kk)
def fX2_reading (r : Nat) (o1 : Nat) (p1 : Int32) (p2 : Int32) (v : vSt) : Int32 := if ((fX8_canShow o1 (fX2_shown r o1 p1 p2 v) v) : Int32) = 0 then ((-1)) else (fX8_nearestMultiple o1 (fX2_shown r o1 p1 p2 v) v)
abbrev rmX2_reading : Room := { frames := 2, cells := 0, slots := 0, locals := 45 }
theorem dX2_reading_0 : decode cX2_reading 0 = .ok (.aload_n 0, 1) := by decide +kernel
theorem dX2_reading_1 : decode cX2_reading 1 = .ok (.aload_n 1, 1) := by decide +kernel
theorem dX2_reading_2 : decode cX2_reading 2 = .ok (.iload_n 2, 1) := by decide +kernel
theorem dX2_reading_3 : decode cX2_reading 3 = .ok (.iload_n 3, 1) := by decide +kernel
theorem dX2_reading_4 : decode cX2_reading 4 = .ok (.invokevirtual 67, 3) := by decide +kernel
theorem dX2_reading_7 : decode cX2_reading 7 = .ok (.istore 4, 2) := by decide +kernel
theorem dX2_reading_9 : decode cX2_reading 9 = .ok (.aload_n 1, 1) := by decide +kernel
theorem dX2_reading_10 : decode cX2_reading 10 = .ok (.iload 4, 2) := by decide +kernel
theorem dX2_reading_12 : decode cX2_reading 12 = .ok (.invokevirtual 71, 3) := by decide +kernel
theorem dX2_reading_15 : decode cX2_reading 15 = .ok (.ifCond .eq 12, 3) := by decide +kernel
theorem dX2_reading_18 : decode cX2_reading 18 = .ok (.aload_n 1, 1) := by decide +kernel
theorem dX2_reading_19 : decode cX2_reading 19 = .ok (.iload 4, 2) := by decide +kernel
theorem dX2_reading_21 : decode cX2_reading 21 = .ok (.invokevirtual 75, 3) := by decide +kernel
theorem dX2_reading_24 : decode cX2_reading 24 = .ok (.goto 4, 3) := by decide +kernel
theorem dX2_reading_27 : decode cX2_reading 27 = .ok (.iconst (-1), 1) := by decide +kernel
theorem dX2_reading_28 : decode cX2_reading 28 = .ok (.ireturn, 1) := by decide +kernel
set_option maxHeartbeats 4000000 in
set_option maxRecDepth 100000 in
theorem mX2_reading (l : Launch) (G : gG) (da : Nat → Nat) (v : vSt) (x : gX) (r : Nat) (hk_r : kd r = 2) (o1 : Nat) (hk_o1 : kd o1 = 8) (p1 : Int32) (p2 : Int32) : QI l yX2_reading cX2_reading 5 (some .int) rmX2_reading [.ref (ga G r), .ref (ga G o1), .int p1, .int p2] (pW G da v x) (fX2_reading r o1 p1 p2 v) := by
  refine gofQ (own := RX2) (by decide) rfl (Nat.le_of_ble_eq_true rfl) (fun p e s m args below meth c ls Q X hH hl E => ?_)
  have hx := X.1
  have hb := X.2.1
  have hown := X.2.2.2.1
  have hts := X.2.2.2.2.1
  have hS : va_S (gA G) s.heap s.heap [] := va_S.rf
  have hl : lv_has ls 5 [(0, .ref (ga G r)), (1, .ref (ga G o1)), (2, .int p1), (3, .int p2)] := hl
  refine lv_aload_n hx hb dX2_reading_0 rfl (lv_at hl 0 rfl) ?_
  refine lv_aload_n hx hb dX2_reading_1 rfl (lv_at hl 1 rfl) ?_
  refine lv_iload_n hx hb dX2_reading_2 rfl (lv_at hl 2 rfl) ?_
  refine lv_iload_n hx hb dX2_reading_3 rfl (lv_at hl 3 rfl) ?_
  refine k_X2_shown X hS hH hk_r hk_o1 t_ml_Drawer_67 hl.1 (Nat.le_of_ble_eq_true rfl) ⟨Nat.le_of_ble_eq_true rfl, Nat.le_of_ble_eq_true rfl⟩ ⟨Nat.zero_le _, Nat.zero_le _⟩ dX2_reading_4 ?_
  refine lv_istore (lv' := [(4, .int (fX2_shown r o1 p1 p2 v)), (0, .ref (ga G r)), (1, .ref (ga G o1)), (2, .int p1), (3, .int p2)]) hx hb dX2_reading_7 hl (by decide) rfl (fun ls hl => ?_)
  refine lv_aload_n hx hb dX2_reading_9 rfl (lv_at hl 2 rfl) ?_
  refine lv_iload hx hb dX2_reading_10 (lv_at hl 0 rfl) ?_
  refine k_X8_canShow X hS hH hk_o1 t_ml_Drawer_71 hl.1 (Nat.le_of_ble_eq_true rfl) ⟨Nat.le_of_ble_eq_true rfl, Nat.le_of_ble_eq_true rfl⟩ ⟨Nat.zero_le _, Nat.zero_le _⟩ dX2_reading_12 ?_
  refine lv_if_eq (tgt := 27) hx hb dX2_reading_15 (by decide) (fun c1 => ?_) (fun c1 => ?_)
  · refine lv_iconst (v := (-1)) hx hb dX2_reading_27 (by decide) ?_
    exact E _ _ _ dX2_reading_28 rfl (Eq.symm ((if_pos c1).trans rfl))
  · refine lv_aload_n hx hb dX2_reading_18 rfl (lv_at hl 2 rfl) ?_
    refine lv_iload hx hb dX2_reading_19 (lv_at hl 0 rfl) ?_
    refine k_X8_nearestMultiple X hS hH hk_o1 t_ml_Drawer_75 hl.1 (Nat.le_of_ble_eq_true rfl) ⟨Nat.le_of_ble_eq_true rfl, Nat.le_of_ble_eq_true rfl⟩ ⟨Nat.zero_le _, Nat.zero_le _⟩ dX2_reading_21 ?_
    refine lv_goto (tgt := 28) hx hb dX2_reading_24 (by decide) ?_
    exact E _ _ _ dX2_reading_28 rfl (Eq.symm ((if_neg c1).trans rfl))
theorem k_X2_reading {p : Program} {l : Launch} {e : Env} {R : Room} {s : State} {m : MethodId} {args : Array Value} {below : List Frame} {meth : Method} {c : Code} {H : Heap} {locs : List Loc} {cells slots : Nat} {Q : State → Prop} {cc : ByteArray} {pc nL : Nat} {ls : Array Slot} {rest : List Value} {G : gG} {own : String} {da : Nat → Nat} {v : vSt} {x : gX} (X : CX G p s m args c cc nL own) (hS : va_S (gA G) s.heap H locs) (hH : Hp G da v x H) {r : Nat} (hk_r : kd r = 2) {o1 : Nat} (hk_o1 : kd o1 = 8) {p1 : Int32} {p2 : Int32} {idx : Nat} (hml : Cond.methodLink own idx yX2_reading ∈ TT) (hls : ls.size = nL) (hsum : (rest.map fun v => v.category).sum ≤ 8) (hR : rmX2_reading.frames + 1 ≤ R.frames ∧ 8 + (5 + 11) + rmX2_reading.locals ≤ R.locals) (hcs : cells ≤ R.cells ∧ slots ≤ R.slots) (hdg : decode cc pc = .ok (.invokevirtual idx, 3)) (kk : W p l e R s m args below meth c H locs cells slots Q (F0 m (pc + 3) ls (.int (fX2_reading r o1 p1 p2 v) :: rest))) : W p l e R s m args below meth c H locs cells slots Q (F0 m pc ls (.int p2 :: .int p1 :: .ref (ga G o1) :: .ref (ga G r) :: rest)) := c_qi (runV (k := 3) X.1 X.2.1 X.2.2.1 X.2.2.2.1 X.2.2.2.2.1 (mX2_reading l G da v x r hk_r o1 hk_o1 p1 p2) pW_bl hml t_im_X2_reading t_sel_X2_reading t_ini_Drawer t_code_X2_reading ⟨rfl, by decide, by decide, by decide +kernel⟩ rfl rfl hR hcs (recvW X hH (by rw [hk_r]; decide) (by rw [hk_r]; decide) (ce_2 hk_r) rfl) (preW X hS hH) rfl hls rfl hsum hdg) (fun _ h => h ▸ kk)
def fX2_refusalToMeasure (r : Nat) (p1 : Int32) (p2 : Int32) (p3 : Int32) (v : vSt) : Int32 := if ((fX2_hasTool r p1 v) : Int32) = 0 then 1 else (if ((fX10_isMaterial p2) : Int32) = 0 then 1 else (if ((fX10_inRange p3 0 15000) : Int32) = 0 then 1 else (if ((fX2_reading r ((r + 2) + 13 + (p1 : Int32).toNatClampNeg) p2 p3 v) : Int32) = (-1) then 2 else 0)))
abbrev rmX2_refusalToMeasure : Room := { frames := 3, cells := 0, slots := 0, locals := 69 }
theorem dX2_refusalToMeasure_0 : decode cX2_refusalToMeasure 0 = .ok (.aload_n 0, 1) := by decide +kernel
theorem dX2_refusalToMeasure_1 : decode cX2_refusalToMeasure 1 = .ok (.iload_n 1, 1) := by decide +kernel
theorem dX2_refusalToMeasure_2 : decode cX2_refusalToMeasure 2 = .ok (.invokevirtual 79, 3) := by decide +kernel
theorem dX2_refusalToMeasure_5 : decode cX2_refusalToMeasure 5 = .ok (.ifCond .eq 21, 3) := by decide +kernel
theorem dX2_refusalToMeasure_8 : decode cX2_refusalToMeasure 8 = .ok (.iload_n 2, 1) := by decide +kernel
theorem dX2_refusalToMeasure_9 : decode cX2_refusalToMeasure 9 = .ok (.invokestatic 82, 3) := by decide +kernel
theorem dX2_refusalToMeasure_12 : decode cX2_refusalToMeasure 12 = .ok (.ifCond .eq 14, 3) := by decide +kernel
theorem dX2_refusalToMeasure_15 : decode cX2_refusalToMeasure 15 = .ok (.iload_n 3, 1) := by decide +kernel
theorem dX2_refusalToMeasure_16 : decode cX2_refusalToMeasure 16 = .ok (.iconst 0, 1) := by decide +kernel
theorem dX2_refusalToMeasure_17 : decode cX2_refusalToMeasure 17 = .ok (.sipush 15000, 3) := by decide +kernel
theorem dX2_refusalToMeasure_20 : decode cX2_refusalToMeasure 20 = .ok (.invokestatic 85, 3) := by decide +kernel
theorem dX2_refusalToMeasure_23 : decode cX2_refusalToMeasure 23 = .ok (.ifCond .ne 5, 3) := by decide +kernel
theorem dX2_refusalToMeasure_26 : decode cX2_refusalToMeasure 26 = .ok (.iconst 1, 1) := by decide +kernel
theorem dX2_refusalToMeasure_27 : decode cX2_refusalToMeasure 27 = .ok (.ireturn, 1) := by decide +kernel
theorem dX2_refusalToMeasure_28 : decode cX2_refusalToMeasure 28 = .ok (.aload_n 0, 1) := by decide +kernel
theorem dX2_refusalToMeasure_29 : decode cX2_refusalToMeasure 29 = .ok (.aload_n 0, 1) := by decide +kernel
theorem dX2_refusalToMeasure_30 : decode cX2_refusalToMeasure 30 = .ok (.getfield 11, 3) := by decide +kernel
theorem dX2_refusalToMeasure_33 : decode cX2_refusalToMeasure 33 = .ok (.iload_n 1, 1) := by decide +kernel
theorem dX2_refusalToMeasure_34 : decode cX2_refusalToMeasure 34 = .ok (.aaload, 1) := by decide +kernel
theorem dX2_refusalToMeasure_35 : decode cX2_refusalToMeasure 35 = .ok (.iload_n 2, 1) := by decide +kernel
theorem dX2_refusalToMeasure_36 : decode cX2_refusalToMeasure 36 = .ok (.iload_n 3, 1) := by decide +kernel
theorem dX2_refusalToMeasure_37 : decode cX2_refusalToMeasure 37 = .ok (.invokevirtual 89, 3) := by decide +kernel
theorem dX2_refusalToMeasure_40 : decode cX2_refusalToMeasure 40 = .ok (.iconst (-1), 1) := by decide +kernel
theorem dX2_refusalToMeasure_41 : decode cX2_refusalToMeasure 41 = .ok (.if_icmp .ne 7, 3) := by decide +kernel
theorem dX2_refusalToMeasure_44 : decode cX2_refusalToMeasure 44 = .ok (.iconst 2, 1) := by decide +kernel
theorem dX2_refusalToMeasure_45 : decode cX2_refusalToMeasure 45 = .ok (.goto 4, 3) := by decide +kernel
theorem dX2_refusalToMeasure_48 : decode cX2_refusalToMeasure 48 = .ok (.iconst 0, 1) := by decide +kernel
theorem dX2_refusalToMeasure_49 : decode cX2_refusalToMeasure 49 = .ok (.ireturn, 1) := by decide +kernel
set_option maxHeartbeats 4000000 in
set_option maxRecDepth 100000 in
theorem mX2_refusalToMeasure (l : Launch) (G : gG) (da : Nat → Nat) (v : vSt) (x : gX) (r : Nat) (hk_r : kd r = 2) (p1 : Int32) (p2 : Int32) (p3 : Int32) : QI l yX2_refusalToMeasure cX2_refusalToMeasure 4 (some .int) rmX2_refusalToMeasure [.ref (ga G r), .int p1, .int p2, .int p3] (pW G da v x) (fX2_refusalToMeasure r p1 p2 p3 v) := by
  refine gofQ (own := RX2) (by decide) rfl (Nat.le_of_ble_eq_true rfl) (fun p e s m args below meth c ls Q X hH hl E => ?_)
  have hx := X.1
  have hb := X.2.1
  have hown := X.2.2.2.1
  have hts := X.2.2.2.2.1
  have hS : va_S (gA G) s.heap s.heap [] := va_S.rf
  have hl : lv_has ls 4 [(0, .ref (ga G r)), (1, .int p1), (2, .int p2), (3, .int p3)] := hl
  refine lv_aload_n hx hb dX2_refusalToMeasure_0 rfl (lv_at hl 0 rfl) ?_
  refine lv_iload_n hx hb dX2_refusalToMeasure_1 rfl (lv_at hl 1 rfl) ?_
  refine k_X2_hasTool X hS hH hk_r t_ml_Drawer_79 hl.1 (Nat.le_of_ble_eq_true rfl) ⟨Nat.le_of_ble_eq_true rfl, Nat.le_of_ble_eq_true rfl⟩ ⟨Nat.zero_le _, Nat.zero_le _⟩ dX2_refusalToMeasure_2 ?_
  refine lv_if_eq (tgt := 26) hx hb dX2_refusalToMeasure_5 (by decide) (fun c1 => ?_) (fun c1 => ?_)
  · refine lv_iconst (v := 1) hx hb dX2_refusalToMeasure_26 (by decide) ?_
    exact E _ _ _ dX2_refusalToMeasure_27 rfl (Eq.symm ((if_pos c1).trans rfl))
  · refine lv_iload_n hx hb dX2_refusalToMeasure_8 rfl (lv_at hl 2 rfl) ?_
    refine kn_X10_isMaterial X hS  t_mn_Drawer_82 hl.1 (Nat.le_of_ble_eq_true rfl) ⟨Nat.le_of_ble_eq_true rfl, Nat.le_of_ble_eq_true rfl⟩ ⟨Nat.zero_le _, Nat.zero_le _⟩ dX2_refusalToMeasure_9 ?_
    refine lv_if_eq (tgt := 26) hx hb dX2_refusalToMeasure_12 (by decide) (fun c2 => ?_) (fun c2 => ?_)
    · refine lv_iconst (v := 1) hx hb dX2_refusalToMeasure_26 (by decide) ?_
      exact E _ _ _ dX2_refusalToMeasure_27 rfl (Eq.symm ((if_neg c1).trans ((if_pos c2).trans rfl)))
    · refine lv_iload_n hx hb dX2_refusalToMeasure_15 rfl (lv_at hl 3 rfl) ?_
      refine lv_iconst (v := 0) hx hb dX2_refusalToMeasure_16 (by decide) ?_
      refine lv_sipush (v := 15000) hx hb dX2_refusalToMeasure_17 (by decide) ?_
      refine kn_X10_inRange X hS  t_mn_Drawer_85 hl.1 (Nat.le_of_ble_eq_true rfl) ⟨Nat.le_of_ble_eq_true rfl, Nat.le_of_ble_eq_true rfl⟩ ⟨Nat.zero_le _, Nat.zero_le _⟩ dX2_refusalToMeasure_20 ?_
      refine lv_if_ne (tgt := 28) hx hb dX2_refusalToMeasure_23 (by decide) (fun c3 => ?_) (fun c3 => ?_)
      · refine lv_aload_n hx hb dX2_refusalToMeasure_28 rfl (lv_at hl 0 rfl) ?_
        refine lv_aload_n hx hb dX2_refusalToMeasure_29 rfl (lv_at hl 0 rfl) ?_
        refine g_Drawer_11 X hH hk_r dX2_refusalToMeasure_30 ?_
        refine lv_iload_n hx hb dX2_refusalToMeasure_33 rfl (lv_at hl 1 rfl) ?_
        have hi4 : vp_in p1 6 := (i_in (by have := hasTool_b c1; omega) (by have := hasTool_b c1; omega))
        refine qld_20 X hH (kc_2_20 hk_r) hi4 dX2_refusalToMeasure_34 ?_
        refine lv_iload_n hx hb dX2_refusalToMeasure_35 rfl (lv_at hl 2 rfl) ?_
        refine lv_iload_n hx hb dX2_refusalToMeasure_36 rfl (lv_at hl 3 rfl) ?_
        refine k_X2_reading X hS hH hk_r (ki_20 (kc_2_20 hk_r) (vp_lt hi4)) t_ml_Drawer_89 hl.1 (Nat.le_of_ble_eq_true rfl) ⟨Nat.le_of_ble_eq_true rfl, Nat.le_of_ble_eq_true rfl⟩ ⟨Nat.zero_le _, Nat.zero_le _⟩ dX2_refusalToMeasure_37 ?_
        refine lv_iconst (v := (-1)) hx hb dX2_refusalToMeasure_40 (by decide) ?_
        refine lv_icmp_ne (tgt := 48) hx hb dX2_refusalToMeasure_41 (by decide) (fun c5 => ?_) (fun c5 => ?_)
        · refine lv_iconst (v := 0) hx hb dX2_refusalToMeasure_48 (by decide) ?_
          exact E _ _ _ dX2_refusalToMeasure_49 rfl (Eq.symm ((if_neg c1).trans ((if_neg c2).trans ((if_neg c3).trans ((if_neg c5).trans rfl)))))
        · refine lv_iconst (v := 2) hx hb dX2_refusalToMeasure_44 (by decide) ?_
          refine lv_goto (tgt := 49) hx hb dX2_refusalToMeasure_45 (by decide) ?_
          exact E _ _ _ dX2_refusalToMeasure_49 rfl (Eq.symm ((if_neg c1).trans ((if_neg c2).trans ((if_neg c3).trans ((if_pos c5).trans rfl)))))
      · refine lv_iconst (v := 1) hx hb dX2_refusalToMeasure_26 (by decide) ?_
        exact E _ _ _ dX2_refusalToMeasure_27 rfl (Eq.symm ((if_neg c1).trans ((if_neg c2).trans ((if_pos c3).trans rfl))))
theorem k_X2_refusalToMeasure {p : Program} {l : Launch} {e : Env} {R : Room} {s : State} {m : MethodId} {args : Array Value} {below : List Frame} {meth : Method} {c : Code} {H : Heap} {locs : List Loc} {cells slots : Nat} {Q : State → Prop} {cc : ByteArray} {pc nL : Nat} {ls : Array Slot} {rest : List Value} {G : gG} {own : String} {da : Nat → Nat} {v : vSt} {x : gX} (X : CX G p s m args c cc nL own) (hS : va_S (gA G) s.heap H locs) (hH : Hp G da v x H) {r : Nat} (hk_r : kd r = 2) {p1 : Int32} {p2 : Int32} {p3 : Int32} {idx : Nat} (hml : Cond.methodLink own idx yX2_refusalToMeasure ∈ TT) (hls : ls.size = nL) (hsum : (rest.map fun v => v.category).sum ≤ 8) (hR : rmX2_refusalToMeasure.frames + 1 ≤ R.frames ∧ 8 + (4 + 11) + rmX2_refusalToMeasure.locals ≤ R.locals) (hcs : cells ≤ R.cells ∧ slots ≤ R.slots) (hdg : decode cc pc = .ok (.invokevirtual idx, 3)) (kk : W p l e R s m args below meth c H locs cells slots Q (F0 m (pc + 3) ls (.int (fX2_refusalToMeasure r p1 p2 p3 v) :: rest))) : W p l e R s m args below meth c H locs cells slots Q (F0 m pc ls (.int p3 :: .int p2 :: .int p1 :: .ref (ga G r) :: rest)) := c_qi (runV (k := 3) X.1 X.2.1 X.2.2.1 X.2.2.2.1 X.2.2.2.2.1 (mX2_refusalToMeasure l G da v x r hk_r p1 p2 p3) pW_bl hml t_im_X2_refusalToMeasure t_sel_X2_refusalToMeasure t_ini_Drawer t_code_X2_refusalToMeasure ⟨rfl, by decide, by decide, by decide +kernel⟩ rfl rfl hR hcs (recvW X hH (by rw [hk_r]; decide) (by rw [hk_r]; decide) (ce_2 hk_r) rfl) (preW X hS hH) rfl hls rfl hsum hdg) (fun _ h => h ▸ kk)
def fX2_measureLength (r : Nat) (p1 : Int32) (p2 : Int32) (p3 : Int32) (v : vSt) : Int32 × vSt := if ((fX2_hasTool r p1 v) : Int32) = 0 then ((0, v)) else (let v3 := fX8_useOn ((r + 2) + 13 + (p1 : Int32).toNatClampNeg) p2 v; ((fX2_reading r ((r + 2) + 13 + (p1 : Int32).toNatClampNeg) p2 p3 v) - (v ((r + 2) + 13 + (p1 : Int32).toNatClampNeg) 3), v3))
abbrev rmX2_measureLength : Room := { frames := 3, cells := 0, slots := 0, locals := 69 }
theorem dX2_measureLength_0 : decode cX2_measureLength 0 = .ok (.aload_n 0, 1) := by decide +kernel
theorem dX2_measureLength_1 : decode cX2_measureLength 1 = .ok (.iload_n 1, 1) := by decide +kernel
theorem dX2_measureLength_2 : decode cX2_measureLength 2 = .ok (.invokevirtual 79, 3) := by decide +kernel
theorem dX2_measureLength_5 : decode cX2_measureLength 5 = .ok (.ifCond .ne 5, 3) := by decide +kernel
theorem dX2_measureLength_8 : decode cX2_measureLength 8 = .ok (.iconst 0, 1) := by decide +kernel
theorem dX2_measureLength_9 : decode cX2_measureLength 9 = .ok (.ireturn, 1) := by decide +kernel
theorem dX2_measureLength_10 : decode cX2_measureLength 10 = .ok (.aload_n 0, 1) := by decide +kernel
theorem dX2_measureLength_11 : decode cX2_measureLength 11 = .ok (.getfield 11, 3) := by decide +kernel
theorem dX2_measureLength_14 : decode cX2_measureLength 14 = .ok (.iload_n 1, 1) := by decide +kernel
theorem dX2_measureLength_15 : decode cX2_measureLength 15 = .ok (.aaload, 1) := by decide +kernel
theorem dX2_measureLength_16 : decode cX2_measureLength 16 = .ok (.astore 4, 2) := by decide +kernel
theorem dX2_measureLength_18 : decode cX2_measureLength 18 = .ok (.aload_n 0, 1) := by decide +kernel
theorem dX2_measureLength_19 : decode cX2_measureLength 19 = .ok (.aload 4, 2) := by decide +kernel
theorem dX2_measureLength_21 : decode cX2_measureLength 21 = .ok (.iload_n 2, 1) := by decide +kernel
theorem dX2_measureLength_22 : decode cX2_measureLength 22 = .ok (.iload_n 3, 1) := by decide +kernel
theorem dX2_measureLength_23 : decode cX2_measureLength 23 = .ok (.invokevirtual 89, 3) := by decide +kernel
theorem dX2_measureLength_26 : decode cX2_measureLength 26 = .ok (.aload 4, 2) := by decide +kernel
theorem dX2_measureLength_28 : decode cX2_measureLength 28 = .ok (.getfield 92, 3) := by decide +kernel
theorem dX2_measureLength_31 : decode cX2_measureLength 31 = .ok (.isub, 1) := by decide +kernel
theorem dX2_measureLength_32 : decode cX2_measureLength 32 = .ok (.istore 5, 2) := by decide +kernel
theorem dX2_measureLength_34 : decode cX2_measureLength 34 = .ok (.aload 4, 2) := by decide +kernel
theorem dX2_measureLength_36 : decode cX2_measureLength 36 = .ok (.iload_n 2, 1) := by decide +kernel
theorem dX2_measureLength_37 : decode cX2_measureLength 37 = .ok (.invokevirtual 95, 3) := by decide +kernel
theorem dX2_measureLength_40 : decode cX2_measureLength 40 = .ok (.iload 5, 2) := by decide +kernel
theorem dX2_measureLength_42 : decode cX2_measureLength 42 = .ok (.ireturn, 1) := by decide +kernel
set_option maxHeartbeats 4000000 in
set_option maxRecDepth 100000 in
theorem mX2_measureLength (l : Launch) (G : gG) (da : Nat → Nat) (v : vSt) (x : gX) (r : Nat) (hk_r : kd r = 2) (p1 : Int32) (p2 : Int32) (p3 : Int32) : MI l yX2_measureLength cX2_measureLength 6 (some .int) rmX2_measureLength [.ref (ga G r), .int p1, .int p2, .int p3] G da v x 0 0 (fX2_measureLength r p1 p2 p3 v).1 (fX2_measureLength r p1 p2 p3 v).2 x := by
  refine gofMI (own := RX2) (by decide) rfl (Nat.le_of_ble_eq_true rfl) (fun p e s m args below meth c ls Q X hH hl E => ?_)
  have hx := X.1
  have hb := X.2.1
  have hown := X.2.2.2.1
  have hts := X.2.2.2.2.1
  have hS : va_S (gA G) s.heap s.heap [] := va_S.rf
  have hl : lv_has ls 6 [(0, .ref (ga G r)), (1, .int p1), (2, .int p2), (3, .int p3)] := hl
  refine lv_aload_n hx hb dX2_measureLength_0 rfl (lv_at hl 0 rfl) ?_
  refine lv_iload_n hx hb dX2_measureLength_1 rfl (lv_at hl 1 rfl) ?_
  refine k_X2_hasTool X hS hH hk_r t_ml_Drawer_79 hl.1 (Nat.le_of_ble_eq_true rfl) ⟨Nat.le_of_ble_eq_true rfl, Nat.le_of_ble_eq_true rfl⟩ ⟨Nat.zero_le _, Nat.zero_le _⟩ dX2_measureLength_2 ?_
  refine lv_if_ne (tgt := 10) hx hb dX2_measureLength_5 (by decide) (fun c1 => ?_) (fun c1 => ?_)
  · refine lv_aload_n hx hb dX2_measureLength_10 rfl (lv_at hl 0 rfl) ?_
    refine g_Drawer_11 X hH hk_r dX2_measureLength_11 ?_
    refine lv_iload_n hx hb dX2_measureLength_14 rfl (lv_at hl 1 rfl) ?_
    have hi2 : vp_in p1 6 := (i_in (by have := hasTool_b c1; omega) (by have := hasTool_b c1; omega))
    refine qld_20 X hH (kc_2_20 hk_r) hi2 dX2_measureLength_15 ?_
    refine lv_astore (lv' := [(4, .ref (ga G ((r + 2) + 13 + (p1 : Int32).toNatClampNeg))), (0, .ref (ga G r)), (1, .int p1), (2, .int p2), (3, .int p3)]) hx hb dX2_measureLength_16 hl (by decide) rfl (fun ls hl => ?_)
    refine lv_aload_n hx hb dX2_measureLength_18 rfl (lv_at hl 1 rfl) ?_
    refine lv_aload hx hb dX2_measureLength_19 (lv_at hl 0 rfl) ?_
    refine lv_iload_n hx hb dX2_measureLength_21 rfl (lv_at hl 3 rfl) ?_
    refine lv_iload_n hx hb dX2_measureLength_22 rfl (lv_at hl 4 rfl) ?_
    refine k_X2_reading X hS hH hk_r (ki_20 (kc_2_20 hk_r) (vp_lt hi2)) t_ml_Drawer_89 hl.1 (Nat.le_of_ble_eq_true rfl) ⟨Nat.le_of_ble_eq_true rfl, Nat.le_of_ble_eq_true rfl⟩ ⟨Nat.zero_le _, Nat.zero_le _⟩ dX2_measureLength_23 ?_
    refine lv_aload hx hb dX2_measureLength_26 (lv_at hl 0 rfl) ?_
    refine g_Drawer_92 X hH (ki_20 (kc_2_20 hk_r) (vp_lt hi2)) dX2_measureLength_28 ?_
    refine lv_isub hx hb dX2_measureLength_31 ?_
    refine lv_istore (lv' := [(5, .int ((fX2_reading r ((r + 2) + 13 + (p1 : Int32).toNatClampNeg) p2 p3 v) - (v ((r + 2) + 13 + (p1 : Int32).toNatClampNeg) 3))), (4, .ref (ga G ((r + 2) + 13 + (p1 : Int32).toNatClampNeg))), (0, .ref (ga G r)), (1, .int p1), (2, .int p2), (3, .int p3)]) hx hb dX2_measureLength_32 hl (by decide) rfl (fun ls hl => ?_)
    refine lv_aload hx hb dX2_measureLength_34 (lv_at hl 1 rfl) ?_
    refine lv_iload_n hx hb dX2_measureLength_36 rfl (lv_at hl 4 rfl) ?_
    refine k_X8_useOn X hS hH (ki_20 (kc_2_20 hk_r) (vp_lt hi2)) t_ml_Drawer_95 hl.1 (Nat.le_of_ble_eq_true rfl) ⟨Nat.le_of_ble_eq_true rfl, Nat.le_of_ble_eq_true rfl⟩ ⟨Nat.zero_le _, Nat.zero_le _⟩ dX2_measureLength_37 (fun da H locs v3 ev3 hH hS => ?_)
    refine lv_iload hx hb dX2_measureLength_40 (lv_at hl 0 rfl) ?_
    subst ev3
    exact E _ _ _ _ _ _ _ _ _ dX2_measureLength_42 rfl (pr1 ((if_neg c1).trans rfl)) (pr2 ((if_neg c1).trans rfl)) hH hS (Nat.zero_le _) (Nat.zero_le _)
  · refine lv_iconst (v := 0) hx hb dX2_measureLength_8 (by decide) ?_
    exact E _ _ _ _ _ _ _ _ _ dX2_measureLength_9 rfl (pr1 ((if_pos c1).trans rfl)) (pr2 ((if_pos c1).trans rfl)) hH hS (Nat.zero_le _) (Nat.zero_le _)
theorem k_X2_measureLength {p : Program} {l : Launch} {e : Env} {R : Room} {s : State} {m : MethodId} {args : Array Value} {below : List Frame} {meth : Method} {c : Code} {H : Heap} {locs : List Loc} {cells slots : Nat} {Q : State → Prop} {cc : ByteArray} {pc nL : Nat} {ls : Array Slot} {rest : List Value} {G : gG} {own : String} {da : Nat → Nat} {v : vSt} {x : gX} (X : CX G p s m args c cc nL own) (hS : va_S (gA G) s.heap H locs) (hH : Hp G da v x H) {r : Nat} (hk_r : kd r = 2) {p1 : Int32} {p2 : Int32} {p3 : Int32} {idx : Nat} (hml : Cond.methodLink own idx yX2_measureLength ∈ TT) (hls : ls.size = nL) (hsum : (rest.map fun v => v.category).sum ≤ 8) (hR : rmX2_measureLength.frames + 1 ≤ R.frames ∧ 8 + (6 + 11) + rmX2_measureLength.locals ≤ R.locals) (hcs : cells ≤ R.cells ∧ slots ≤ R.slots) (hdg : decode cc pc = .ok (.invokevirtual idx, 3)) (kk : ∀ (d : Nat → Nat) (H1 : Heap) (locs1 : List Loc) (v1 : vSt), v1 = (fX2_measureLength r p1 p2 p3 v).2 → Hp G d v1 x H1 → va_S (gA G) s.heap H1 locs1 → W p l e R s m args below meth c H1 locs1 cells slots Q (F0 m (pc + 3) ls (.int (fX2_measureLength r p1 p2 p3 v).1 :: rest))) : W p l e R s m args below meth c H locs cells slots Q (F0 m pc ls (.int p3 :: .int p2 :: .int p1 :: .ref (ga G r) :: rest)) := c_mi X.2.2.2.2.2.2 (runV (k := 3) X.1 X.2.1 X.2.2.1 X.2.2.2.1 X.2.2.2.2.1 (mX2_measureLength l G da v x r hk_r p1 p2 p3) pW_bl hml t_im_X2_measureLength t_sel_X2_measureLength t_ini_Drawer t_code_X2_measureLength ⟨rfl, by decide, by decide, by decide +kernel⟩ rfl rfl hR hcs (recvW X hH (by rw [hk_r]; decide) (by rw [hk_r]; decide) (ce_2 hk_r) rfl) (preW X hS hH) rfl hls rfl hsum hdg) hS kk
def fX2_refusalToEndDay (r : Nat) (v : vSt) : Int32 := if ((v r 5) : Int32) < 999 then 0 else 2
abbrev rmX2_refusalToEndDay : Room := { frames := 0, cells := 0, slots := 0, locals := 0 }
theorem dX2_refusalToEndDay_0 : decode cX2_refusalToEndDay 0 = .ok (.aload_n 0, 1) := by decide +kernel
theorem dX2_refusalToEndDay_1 : decode cX2_refusalToEndDay 1 = .ok (.getfield 42, 3) := by decide +kernel
theorem dX2_refusalToEndDay_4 : decode cX2_refusalToEndDay 4 = .ok (.sipush 999, 3) := by decide +kernel
theorem dX2_refusalToEndDay_7 : decode cX2_refusalToEndDay 7 = .ok (.if_icmp .lt 7, 3) := by decide +kernel
theorem dX2_refusalToEndDay_10 : decode cX2_refusalToEndDay 10 = .ok (.iconst 2, 1) := by decide +kernel
theorem dX2_refusalToEndDay_11 : decode cX2_refusalToEndDay 11 = .ok (.goto 4, 3) := by decide +kernel
theorem dX2_refusalToEndDay_14 : decode cX2_refusalToEndDay 14 = .ok (.iconst 0, 1) := by decide +kernel
theorem dX2_refusalToEndDay_15 : decode cX2_refusalToEndDay 15 = .ok (.ireturn, 1) := by decide +kernel
set_option maxHeartbeats 4000000 in
set_option maxRecDepth 100000 in
theorem mX2_refusalToEndDay (l : Launch) (G : gG) (da : Nat → Nat) (v : vSt) (x : gX) (r : Nat) (hk_r : kd r = 2) : QI l yX2_refusalToEndDay cX2_refusalToEndDay 1 (some .int) rmX2_refusalToEndDay [.ref (ga G r)] (pW G da v x) (fX2_refusalToEndDay r v) := by
  refine gofQ (own := RX2) (by decide) rfl (Nat.le_of_ble_eq_true rfl) (fun p e s m args below meth c ls Q X hH hl E => ?_)
  have hx := X.1
  have hb := X.2.1
  have hown := X.2.2.2.1
  have hts := X.2.2.2.2.1
  have hS : va_S (gA G) s.heap s.heap [] := va_S.rf
  have hl : lv_has ls 1 [(0, .ref (ga G r))] := hl
  refine lv_aload_n hx hb dX2_refusalToEndDay_0 rfl (lv_at hl 0 rfl) ?_
  refine g_Drawer_42 X hH hk_r dX2_refusalToEndDay_1 ?_
  refine lv_sipush (v := 999) hx hb dX2_refusalToEndDay_4 (by decide) ?_
  refine lv_icmp_lt (tgt := 14) hx hb dX2_refusalToEndDay_7 (by decide) (fun c1 => ?_) (fun c1 => ?_)
  · refine lv_iconst (v := 0) hx hb dX2_refusalToEndDay_14 (by decide) ?_
    exact E _ _ _ dX2_refusalToEndDay_15 rfl (Eq.symm ((if_pos c1).trans rfl))
  · refine lv_iconst (v := 2) hx hb dX2_refusalToEndDay_10 (by decide) ?_
    refine lv_goto (tgt := 15) hx hb dX2_refusalToEndDay_11 (by decide) ?_
    exact E _ _ _ dX2_refusalToEndDay_15 rfl (Eq.symm ((if_neg c1).trans rfl))
theorem k_X2_refusalToEndDay {p : Program} {l : Launch} {e : Env} {R : Room} {s : State} {m : MethodId} {args : Array Value} {below : List Frame} {meth : Method} {c : Code} {H : Heap} {locs : List Loc} {cells slots : Nat} {Q : State → Prop} {cc : ByteArray} {pc nL : Nat} {ls : Array Slot} {rest : List Value} {G : gG} {own : String} {da : Nat → Nat} {v : vSt} {x : gX} (X : CX G p s m args c cc nL own) (hS : va_S (gA G) s.heap H locs) (hH : Hp G da v x H) {r : Nat} (hk_r : kd r = 2) {idx : Nat} (hml : Cond.methodLink own idx yX2_refusalToEndDay ∈ TT) (hls : ls.size = nL) (hsum : (rest.map fun v => v.category).sum ≤ 8) (hR : rmX2_refusalToEndDay.frames + 1 ≤ R.frames ∧ 8 + (1 + 11) + rmX2_refusalToEndDay.locals ≤ R.locals) (hcs : cells ≤ R.cells ∧ slots ≤ R.slots) (hdg : decode cc pc = .ok (.invokevirtual idx, 3)) (kk : W p l e R s m args below meth c H locs cells slots Q (F0 m (pc + 3) ls (.int (fX2_refusalToEndDay r v) :: rest))) : W p l e R s m args below meth c H locs cells slots Q (F0 m pc ls (.ref (ga G r) :: rest)) := c_qi (runV (k := 0) X.1 X.2.1 X.2.2.1 X.2.2.2.1 X.2.2.2.2.1 (mX2_refusalToEndDay l G da v x r hk_r) pW_bl hml t_im_X2_refusalToEndDay t_sel_X2_refusalToEndDay t_ini_Drawer t_code_X2_refusalToEndDay ⟨rfl, by decide, by decide, by decide +kernel⟩ rfl rfl hR hcs (recvW X hH (by rw [hk_r]; decide) (by rw [hk_r]; decide) (ce_2 hk_r) rfl) (preW X hS hH) rfl hls rfl hsum hdg) (fun _ h => h ▸ kk)
def fX2_isIn (p1 : Int32) (p2 : Int32) : Int32 := if (((p1 >>> (p2 &&& 31)) &&& 1) : Int32) = 1 then 1 else 0
abbrev rmX2_isIn : Room := { frames := 0, cells := 0, slots := 0, locals := 0 }
theorem dX2_isIn_0 : decode cX2_isIn 0 = .ok (.iload_n 0, 1) := by decide +kernel
theorem dX2_isIn_1 : decode cX2_isIn 1 = .ok (.iload_n 1, 1) := by decide +kernel
theorem dX2_isIn_2 : decode cX2_isIn 2 = .ok (.ishr, 1) := by decide +kernel
theorem dX2_isIn_3 : decode cX2_isIn 3 = .ok (.iconst 1, 1) := by decide +kernel
theorem dX2_isIn_4 : decode cX2_isIn 4 = .ok (.iand, 1) := by decide +kernel
theorem dX2_isIn_5 : decode cX2_isIn 5 = .ok (.iconst 1, 1) := by decide +kernel
theorem dX2_isIn_6 : decode cX2_isIn 6 = .ok (.if_icmp .ne 7, 3) := by decide +kernel
theorem dX2_isIn_9 : decode cX2_isIn 9 = .ok (.iconst 1, 1) := by decide +kernel
theorem dX2_isIn_10 : decode cX2_isIn 10 = .ok (.goto 4, 3) := by decide +kernel
theorem dX2_isIn_13 : decode cX2_isIn 13 = .ok (.iconst 0, 1) := by decide +kernel
theorem dX2_isIn_14 : decode cX2_isIn 14 = .ok (.ireturn, 1) := by decide +kernel
set_option maxHeartbeats 4000000 in
set_option maxRecDepth 100000 in
theorem mX2_isIn (l : Launch) (G : gG) (p1 : Int32) (p2 : Int32) : PI l yX2_isIn cX2_isIn 2 (some .boolean) rmX2_isIn [.int p1, .int p2] G (fun _ => True) (fX2_isIn p1 p2) := by
  refine gofP (own := RX2) (by decide) rfl (Nat.le_of_ble_eq_true rfl) (fun p e s m args below meth c ls Q X _ hl E => ?_)
  have hx := X.1
  have hb := X.2.1
  have hown := X.2.2.2.1
  have hts := X.2.2.2.2.1
  have hS : va_S (gA G) s.heap s.heap [] := va_S.rf
  have hl : lv_has ls 2 [(0, .int p1), (1, .int p2)] := hl
  refine lv_iload_n hx hb dX2_isIn_0 rfl (lv_at hl 0 rfl) ?_
  refine lv_iload_n hx hb dX2_isIn_1 rfl (lv_at hl 1 rfl) ?_
  refine lv_ishr hx hb dX2_isIn_2 ?_
  refine lv_iconst (v := 1) hx hb dX2_isIn_3 (by decide) ?_
  refine lv_iand hx hb dX2_isIn_4 ?_
  refine lv_iconst (v := 1) hx hb dX2_isIn_5 (by decide) ?_
  refine lv_icmp_ne (tgt := 13) hx hb dX2_isIn_6 (by decide) (fun c1 => ?_) (fun c1 => ?_)
  · refine lv_iconst (v := 0) hx hb dX2_isIn_13 (by decide) ?_
    exact E _ _ _ dX2_isIn_14 rfl (Eq.symm ((if_neg c1).trans rfl))
  · refine lv_iconst (v := 1) hx hb dX2_isIn_9 (by decide) ?_
    refine lv_goto (tgt := 14) hx hb dX2_isIn_10 (by decide) ?_
    exact E _ _ _ dX2_isIn_14 rfl (Eq.symm ((if_pos c1).trans rfl))
theorem k_X2_isIn {p : Program} {l : Launch} {e : Env} {R : Room} {s : State} {m : MethodId} {args : Array Value} {below : List Frame} {meth : Method} {c : Code} {H : Heap} {locs : List Loc} {cells slots : Nat} {Q : State → Prop} {cc : ByteArray} {pc nL : Nat} {ls : Array Slot} {rest : List Value} {G : gG} {own : String} (X : CX G p s m args c cc nL own) (hS : va_S (gA G) s.heap H locs) {p1 : Int32} {p2 : Int32} {idx : Nat} (hml : Cond.methodLink own idx yX2_isIn ∈ TT) (hls : ls.size = nL) (hsum : (rest.map fun v => v.category).sum ≤ 8) (hR : rmX2_isIn.frames + 1 ≤ R.frames ∧ 8 + (2 + 11) + rmX2_isIn.locals ≤ R.locals) (hcs : cells ≤ R.cells ∧ slots ≤ R.slots) (hdg : decode cc pc = .ok (.invokestatic idx, 3)) (kk : W p l e R s m args below meth c H locs cells slots Q (F0 m (pc + 3) ls (.int (fX2_isIn p1 p2) :: rest))) : W p l e R s m args below meth c H locs cells slots Q (F0 m pc ls (.int p2 :: .int p1 :: rest)) := c_qi (runS (k := 2) X.1 X.2.1 X.2.2.1 X.2.2.2.1 X.2.2.2.2.1 (mX2_isIn l G p1 p2) (pT_bl (fun _ _ _ _ h => h)) hml t_st_X2_isIn t_ini_Drawer t_code_X2_isIn ⟨by decide, by decide, by decide +kernel⟩ rfl rfl hR hcs (fun U hU hW => ⟨preT X hS U hU hW, trivial⟩) rfl hls rfl hsum hdg) (fun _ h => h ▸ kk)
theorem b01_X2_isIn {p1 : Int32} {p2 : Int32} : fX2_isIn p1 p2 = 0 ∨ fX2_isIn p1 p2 = 1 := by
  unfold fX2_isIn
  (try dsimp only); (repeat' split) <;> simp
def lX2_countDue_4 (v : vSt) (r : Nat) : Nat → Int32 → Int32 → Int32
  | 0, i1, i2 => i2
  | n + 1, i1, i2 => if ((v r 2) : Int32) ≤ i1 then i2 else (if (6 : Int32) ≤ i1 then i2 else (let y6 : Int32 := if ((fX8_dueOn ((r + 2) + 13 + (i1 : Int32).toNatClampNeg) (v r 5) v) : Int32) = 0 then i2 else (i2 + 1); lX2_countDue_4 v r n (i1 + 1) y6))
def fX2_countDue (r : Nat) (v : vSt) : Int32 := let y3 : Int32 := (lX2_countDue_4 v r ((Int32.toInt ((v r 2)) - Int32.toInt 0).toNat + 1) 0 0); y3
abbrev rmX2_countDue : Room := { frames := 1, cells := 0, slots := 0, locals := 21 }
theorem dX2_countDue_0 : decode cX2_countDue 0 = .ok (.iconst 0, 1) := by decide +kernel
theorem dX2_countDue_1 : decode cX2_countDue 1 = .ok (.istore_n 1, 1) := by decide +kernel
theorem dX2_countDue_2 : decode cX2_countDue 2 = .ok (.iconst 0, 1) := by decide +kernel
theorem dX2_countDue_3 : decode cX2_countDue 3 = .ok (.istore_n 2, 1) := by decide +kernel
theorem dX2_countDue_4 : decode cX2_countDue 4 = .ok (.iload_n 2, 1) := by decide +kernel
theorem dX2_countDue_5 : decode cX2_countDue 5 = .ok (.aload_n 0, 1) := by decide +kernel
theorem dX2_countDue_6 : decode cX2_countDue 6 = .ok (.getfield 29, 3) := by decide +kernel
theorem dX2_countDue_9 : decode cX2_countDue 9 = .ok (.if_icmp .ge 37, 3) := by decide +kernel
theorem dX2_countDue_12 : decode cX2_countDue 12 = .ok (.iload_n 2, 1) := by decide +kernel
theorem dX2_countDue_13 : decode cX2_countDue 13 = .ok (.aload_n 0, 1) := by decide +kernel
theorem dX2_countDue_14 : decode cX2_countDue 14 = .ok (.getfield 11, 3) := by decide +kernel
theorem dX2_countDue_17 : decode cX2_countDue 17 = .ok (.arraylength, 1) := by decide +kernel
theorem dX2_countDue_18 : decode cX2_countDue 18 = .ok (.if_icmp .ge 28, 3) := by decide +kernel
theorem dX2_countDue_21 : decode cX2_countDue 21 = .ok (.aload_n 0, 1) := by decide +kernel
theorem dX2_countDue_22 : decode cX2_countDue 22 = .ok (.getfield 11, 3) := by decide +kernel
theorem dX2_countDue_25 : decode cX2_countDue 25 = .ok (.iload_n 2, 1) := by decide +kernel
theorem dX2_countDue_26 : decode cX2_countDue 26 = .ok (.aaload, 1) := by decide +kernel
theorem dX2_countDue_27 : decode cX2_countDue 27 = .ok (.aload_n 0, 1) := by decide +kernel
theorem dX2_countDue_28 : decode cX2_countDue 28 = .ok (.getfield 42, 3) := by decide +kernel
theorem dX2_countDue_31 : decode cX2_countDue 31 = .ok (.invokevirtual 115, 3) := by decide +kernel
theorem dX2_countDue_34 : decode cX2_countDue 34 = .ok (.ifCond .eq 6, 3) := by decide +kernel
theorem dX2_countDue_37 : decode cX2_countDue 37 = .ok (.iinc 1 1, 3) := by decide +kernel
theorem dX2_countDue_40 : decode cX2_countDue 40 = .ok (.iinc 2 1, 3) := by decide +kernel
theorem dX2_countDue_43 : decode cX2_countDue 43 = .ok (.goto (-39), 3) := by decide +kernel
theorem dX2_countDue_46 : decode cX2_countDue 46 = .ok (.iload_n 1, 1) := by decide +kernel
theorem dX2_countDue_47 : decode cX2_countDue 47 = .ok (.ireturn, 1) := by decide +kernel
set_option maxHeartbeats 4000000 in
set_option maxRecDepth 100000 in
theorem mX2_countDue (l : Launch) (G : gG) (da : Nat → Nat) (v : vSt) (x : gX) (r : Nat) (hk_r : kd r = 2) (hD : 0 ≤ (v r 2).toInt ∧ (v r 2).toInt ≤ 6 ∧ 0 ≤ (v r 3).toInt ∧ (v r 3).toInt ≤ 10) : QI l yX2_countDue cX2_countDue 3 (some .int) rmX2_countDue [.ref (ga G r)] (pW G da v x) (fX2_countDue r v) := by
  refine gofQ (own := RX2) (by decide) rfl (Nat.le_of_ble_eq_true rfl) (fun p e s m args below meth c ls Q X hH hl E => ?_)
  have hx := X.1
  have hb := X.2.1
  have hown := X.2.2.2.1
  have hts := X.2.2.2.2.1
  have hS : va_S (gA G) s.heap s.heap [] := va_S.rf
  have hl : lv_has ls 3 [(0, .ref (ga G r))] := hl
  refine lv_iconst (v := 0) hx hb dX2_countDue_0 (by decide) ?_
  refine lv_istore_n (lv' := [(1, .int 0), (0, .ref (ga G r))]) hx hb dX2_countDue_1 rfl hl (by decide) rfl (fun ls hl => ?_)
  refine lv_iconst (v := 0) hx hb dX2_countDue_2 (by decide) ?_
  refine lv_istore_n (lv' := [(2, .int 0), (1, .int 0), (0, .ref (ga G r))]) hx hb dX2_countDue_3 rfl hl (by decide) rfl (fun ls hl => ?_)
  have L4 : ∀ (n : Nat) (i1 : Int32) (i2 : Int32) (ls : Array Slot), (Int32.toInt ((v r 2)) - Int32.toInt i1).toNat < n → 0 ≤ Int32.toInt i1 → lv_has ls 3 [(2, .int i1), (1, .int i2), (0, .ref (ga G r))] → (∀ (y3 : Int32) (ls : Array Slot), y3 = (lX2_countDue_4 v r n i1 i2 : Int32) → lv_has ls 3 [(1, .int y3)] → W p l e rmX2_countDue s m args below meth c s.heap [] 0 0 Q (F0 m 46 ls [])) → W p l e rmX2_countDue s m args below meth c s.heap [] 0 0 Q (F0 m 4 ls []) := by
    intro n
    induction n with
    | zero =>
      intro i1 i2 ls hm
      exact absurd hm (Nat.not_lt_zero _)
    | succ n ih =>
      intro i1 i2 ls hm hi0  hl K5
      refine lv_iload_n hx hb dX2_countDue_4 rfl (lv_at hl 0 rfl) ?_
      refine lv_aload_n hx hb dX2_countDue_5 rfl (lv_at hl 2 rfl) ?_
      refine g_Drawer_29 X hH hk_r dX2_countDue_6 ?_
      refine lv_icmp_ge (tgt := 46) hx hb dX2_countDue_9 (by decide) (fun c3 => ?_) (fun c3 => ?_)
      · exact K5 _ _ (Eq.symm ((if_pos c3).trans rfl)) (lv_sub hl [1] rfl)
      · refine lv_iload_n hx hb dX2_countDue_12 rfl (lv_at hl 0 rfl) ?_
        refine lv_aload_n hx hb dX2_countDue_13 rfl (lv_at hl 2 rfl) ?_
        refine g_Drawer_11 X hH hk_r dX2_countDue_14 ?_
        refine len_20 X hH (kc_2_20 hk_r) dX2_countDue_17 ?_
        refine lv_icmp_ge (tgt := 46) hx hb dX2_countDue_18 (by decide) (fun c4 => ?_) (fun c4 => ?_)
        · exact K5 _ _ (Eq.symm ((if_neg c3).trans ((if_pos c4).trans rfl))) (lv_sub hl [1] rfl)
        · refine lv_aload_n hx hb dX2_countDue_21 rfl (lv_at hl 2 rfl) ?_
          refine g_Drawer_11 X hH hk_r dX2_countDue_22 ?_
          refine lv_iload_n hx hb dX2_countDue_25 rfl (lv_at hl 0 rfl) ?_
          have hi5 : vp_in i1 6 := (i_in (by have := i_nle c3; have := i_nle c4; have : (2 : Int32).toInt = 2 := rfl; have : (6 : Int32).toInt = 6 := rfl; have := hD; have := hi0; omega) (by have := i_nle c3; have := i_nle c4; have : (2 : Int32).toInt = 2 := rfl; have : (6 : Int32).toInt = 6 := rfl; have := hD; have := hi0; omega))
          refine qld_20 X hH (kc_2_20 hk_r) hi5 dX2_countDue_26 ?_
          refine lv_aload_n hx hb dX2_countDue_27 rfl (lv_at hl 2 rfl) ?_
          refine g_Drawer_42 X hH hk_r dX2_countDue_28 ?_
          refine k_X8_dueOn X hS hH (ki_20 (kc_2_20 hk_r) (vp_lt hi5)) t_ml_Drawer_115 hl.1 (Nat.le_of_ble_eq_true rfl) ⟨Nat.le_of_ble_eq_true rfl, Nat.le_of_ble_eq_true rfl⟩ ⟨Nat.zero_le _, Nat.zero_le _⟩ dX2_countDue_31 ?_
          have K7 : ∀ (y6 : Int32) (ls : Array Slot), y6 = (if ((fX8_dueOn ((r + 2) + 13 + (i1 : Int32).toNatClampNeg) (v r 5) v) : Int32) = 0 then i2 else (i2 + 1) : Int32) → lv_has ls 3 [(2, .int i1), (1, .int y6), (0, .ref (ga G r))] → W p l e rmX2_countDue s m args below meth c s.heap [] 0 0 Q (F0 m 40 ls []) := by
            intro y6 ls ey6 hl
            refine lv_iinc (v := i1 + 1) (lv' := [(2, .int (i1 + 1)), (1, .int y6), (0, .ref (ga G r))]) hx hb dX2_countDue_40 hl (k := 0) rfl rfl (by decide) rfl (fun ls hl => ?_)
            refine lv_goto (tgt := 4) hx hb dX2_countDue_43 (by decide) ?_
            have hm2 : (Int32.toInt ((v r 2)) - Int32.toInt (i1 + 1)).toNat < n := i_step c3 hm
            have hi02 : 0 ≤ Int32.toInt (i1 + 1) := i_nn hi0 c3
            subst ey6
            exact ih _ _ _ hm2 hi02 (lv_sub hl [0, 1, 2] rfl) (fun y3 ls q0 hl => K5 y3 ls (q0.trans (congrArg (fun z : Int32 => z) (Eq.symm ((if_neg c3).trans ((if_neg c4).trans rfl))))) hl)
          refine lv_if_eq (tgt := 40) hx hb dX2_countDue_34 (by decide) (fun c7 => ?_) (fun c7 => ?_)
          · exact K7 _ _ (Eq.symm ((if_pos c7).trans rfl)) (lv_sub hl [0, 1, 2] rfl)
          · refine lv_iinc (v := i2 + 1) (lv' := [(1, .int (i2 + 1)), (2, .int i1), (0, .ref (ga G r))]) hx hb dX2_countDue_37 hl (k := 1) rfl rfl (by decide) rfl (fun ls hl => ?_)
            exact K7 _ _ (Eq.symm ((if_neg c7).trans rfl)) (lv_sub hl [1, 0, 2] rfl)
  refine L4 ((Int32.toInt ((v r 2)) - Int32.toInt 0).toNat + 1) 0 0 _ (Nat.lt_succ_self _) (by decide) (lv_sub hl [0, 1, 2] rfl) (fun y3 ls ey3 hl => ?_)
  refine lv_iload_n hx hb dX2_countDue_46 rfl (lv_at hl 0 rfl) ?_
  subst ey3
  exact E _ _ _ dX2_countDue_47 rfl (Eq.symm rfl)
theorem k_X2_countDue {p : Program} {l : Launch} {e : Env} {R : Room} {s : State} {m : MethodId} {args : Array Value} {below : List Frame} {meth : Method} {c : Code} {H : Heap} {locs : List Loc} {cells slots : Nat} {Q : State → Prop} {cc : ByteArray} {pc nL : Nat} {ls : Array Slot} {rest : List Value} {G : gG} {own : String} {da : Nat → Nat} {v : vSt} {x : gX} (X : CX G p s m args c cc nL own) (hS : va_S (gA G) s.heap H locs) (hH : Hp G da v x H) {r : Nat} (hk_r : kd r = 2) (hD : 0 ≤ (v r 2).toInt ∧ (v r 2).toInt ≤ 6 ∧ 0 ≤ (v r 3).toInt ∧ (v r 3).toInt ≤ 10) {idx : Nat} (hml : Cond.methodLink own idx yX2_countDue ∈ TT) (hls : ls.size = nL) (hsum : (rest.map fun v => v.category).sum ≤ 8) (hR : rmX2_countDue.frames + 1 ≤ R.frames ∧ 8 + (3 + 11) + rmX2_countDue.locals ≤ R.locals) (hcs : cells ≤ R.cells ∧ slots ≤ R.slots) (hdg : decode cc pc = .ok (.invokevirtual idx, 3)) (kk : W p l e R s m args below meth c H locs cells slots Q (F0 m (pc + 3) ls (.int (fX2_countDue r v) :: rest))) : W p l e R s m args below meth c H locs cells slots Q (F0 m pc ls (.ref (ga G r) :: rest)) := c_qi (runV (k := 0) X.1 X.2.1 X.2.2.1 X.2.2.2.1 X.2.2.2.2.1 (mX2_countDue l G da v x r hk_r hD) pW_bl hml t_im_X2_countDue t_sel_X2_countDue t_ini_Drawer t_code_X2_countDue ⟨rfl, by decide, by decide, by decide +kernel⟩ rfl rfl hR hcs (recvW X hH (by rw [hk_r]; decide) (by rw [hk_r]; decide) (ce_2 hk_r) rfl) (preW X hS hH) rfl hls rfl hsum hdg) (fun _ h => h ▸ kk)
def lX2_lengthOfSet_4 (v : vSt) (r : Nat) (p1 : Int32) : Nat → Int32 → Int32 → Int32
  | 0, i1, i2 => i2
  | n + 1, i1, i2 => if ((v r 3) : Int32) ≤ i1 then i2 else (if (10 : Int32) ≤ i1 then i2 else (let y5 : Int32 := if ((fX2_isIn p1 i1) : Int32) = 0 then i2 else (i2 + (v ((r + 3) + 20 + (i1 : Int32).toNatClampNeg) 0)); lX2_lengthOfSet_4 v r p1 n (i1 + 1) y5))
def fX2_lengthOfSet (r : Nat) (p1 : Int32) (v : vSt) : Int32 := let y3 : Int32 := (lX2_lengthOfSet_4 v r p1 ((Int32.toInt ((v r 3)) - Int32.toInt 0).toNat + 1) 0 0); y3
abbrev rmX2_lengthOfSet : Room := { frames := 1, cells := 0, slots := 0, locals := 21 }
theorem dX2_lengthOfSet_0 : decode cX2_lengthOfSet 0 = .ok (.iconst 0, 1) := by decide +kernel
theorem dX2_lengthOfSet_1 : decode cX2_lengthOfSet 1 = .ok (.istore_n 2, 1) := by decide +kernel
theorem dX2_lengthOfSet_2 : decode cX2_lengthOfSet 2 = .ok (.iconst 0, 1) := by decide +kernel
theorem dX2_lengthOfSet_3 : decode cX2_lengthOfSet 3 = .ok (.istore_n 3, 1) := by decide +kernel
theorem dX2_lengthOfSet_4 : decode cX2_lengthOfSet 4 = .ok (.iload_n 3, 1) := by decide +kernel
theorem dX2_lengthOfSet_5 : decode cX2_lengthOfSet 5 = .ok (.aload_n 0, 1) := by decide +kernel
theorem dX2_lengthOfSet_6 : decode cX2_lengthOfSet 6 = .ok (.getfield 36, 3) := by decide +kernel
theorem dX2_lengthOfSet_9 : decode cX2_lengthOfSet 9 = .ok (.if_icmp .ge 38, 3) := by decide +kernel
theorem dX2_lengthOfSet_12 : decode cX2_lengthOfSet 12 = .ok (.iload_n 3, 1) := by decide +kernel
theorem dX2_lengthOfSet_13 : decode cX2_lengthOfSet 13 = .ok (.aload_n 0, 1) := by decide +kernel
theorem dX2_lengthOfSet_14 : decode cX2_lengthOfSet 14 = .ok (.getfield 19, 3) := by decide +kernel
theorem dX2_lengthOfSet_17 : decode cX2_lengthOfSet 17 = .ok (.arraylength, 1) := by decide +kernel
theorem dX2_lengthOfSet_18 : decode cX2_lengthOfSet 18 = .ok (.if_icmp .ge 29, 3) := by decide +kernel
theorem dX2_lengthOfSet_21 : decode cX2_lengthOfSet 21 = .ok (.iload_n 1, 1) := by decide +kernel
theorem dX2_lengthOfSet_22 : decode cX2_lengthOfSet 22 = .ok (.iload_n 3, 1) := by decide +kernel
theorem dX2_lengthOfSet_23 : decode cX2_lengthOfSet 23 = .ok (.invokestatic 108, 3) := by decide +kernel
theorem dX2_lengthOfSet_26 : decode cX2_lengthOfSet 26 = .ok (.ifCond .eq 15, 3) := by decide +kernel
theorem dX2_lengthOfSet_29 : decode cX2_lengthOfSet 29 = .ok (.iload_n 2, 1) := by decide +kernel
theorem dX2_lengthOfSet_30 : decode cX2_lengthOfSet 30 = .ok (.aload_n 0, 1) := by decide +kernel
theorem dX2_lengthOfSet_31 : decode cX2_lengthOfSet 31 = .ok (.getfield 19, 3) := by decide +kernel
theorem dX2_lengthOfSet_34 : decode cX2_lengthOfSet 34 = .ok (.iload_n 3, 1) := by decide +kernel
theorem dX2_lengthOfSet_35 : decode cX2_lengthOfSet 35 = .ok (.aaload, 1) := by decide +kernel
theorem dX2_lengthOfSet_36 : decode cX2_lengthOfSet 36 = .ok (.getfield 126, 3) := by decide +kernel
theorem dX2_lengthOfSet_39 : decode cX2_lengthOfSet 39 = .ok (.iadd, 1) := by decide +kernel
theorem dX2_lengthOfSet_40 : decode cX2_lengthOfSet 40 = .ok (.istore_n 2, 1) := by decide +kernel
theorem dX2_lengthOfSet_41 : decode cX2_lengthOfSet 41 = .ok (.iinc 3 1, 3) := by decide +kernel
theorem dX2_lengthOfSet_44 : decode cX2_lengthOfSet 44 = .ok (.goto (-40), 3) := by decide +kernel
theorem dX2_lengthOfSet_47 : decode cX2_lengthOfSet 47 = .ok (.iload_n 2, 1) := by decide +kernel
theorem dX2_lengthOfSet_48 : decode cX2_lengthOfSet 48 = .ok (.ireturn, 1) := by decide +kernel
set_option maxHeartbeats 4000000 in
set_option maxRecDepth 100000 in
theorem mX2_lengthOfSet (l : Launch) (G : gG) (da : Nat → Nat) (v : vSt) (x : gX) (r : Nat) (hk_r : kd r = 2) (p1 : Int32) (hD : 0 ≤ (v r 2).toInt ∧ (v r 2).toInt ≤ 6 ∧ 0 ≤ (v r 3).toInt ∧ (v r 3).toInt ≤ 10) : QI l yX2_lengthOfSet cX2_lengthOfSet 4 (some .int) rmX2_lengthOfSet [.ref (ga G r), .int p1] (pW G da v x) (fX2_lengthOfSet r p1 v) := by
  refine gofQ (own := RX2) (by decide) rfl (Nat.le_of_ble_eq_true rfl) (fun p e s m args below meth c ls Q X hH hl E => ?_)
  have hx := X.1
  have hb := X.2.1
  have hown := X.2.2.2.1
  have hts := X.2.2.2.2.1
  have hS : va_S (gA G) s.heap s.heap [] := va_S.rf
  have hl : lv_has ls 4 [(0, .ref (ga G r)), (1, .int p1)] := hl
  refine lv_iconst (v := 0) hx hb dX2_lengthOfSet_0 (by decide) ?_
  refine lv_istore_n (lv' := [(2, .int 0), (0, .ref (ga G r)), (1, .int p1)]) hx hb dX2_lengthOfSet_1 rfl hl (by decide) rfl (fun ls hl => ?_)
  refine lv_iconst (v := 0) hx hb dX2_lengthOfSet_2 (by decide) ?_
  refine lv_istore_n (lv' := [(3, .int 0), (2, .int 0), (0, .ref (ga G r)), (1, .int p1)]) hx hb dX2_lengthOfSet_3 rfl hl (by decide) rfl (fun ls hl => ?_)
  have L4 : ∀ (n : Nat) (i1 : Int32) (i2 : Int32) (ls : Array Slot), (Int32.toInt ((v r 3)) - Int32.toInt i1).toNat < n → 0 ≤ Int32.toInt i1 → lv_has ls 4 [(3, .int i1), (2, .int i2), (0, .ref (ga G r)), (1, .int p1)] → (∀ (y3 : Int32) (ls : Array Slot), y3 = (lX2_lengthOfSet_4 v r p1 n i1 i2 : Int32) → lv_has ls 4 [(2, .int y3)] → W p l e rmX2_lengthOfSet s m args below meth c s.heap [] 0 0 Q (F0 m 47 ls [])) → W p l e rmX2_lengthOfSet s m args below meth c s.heap [] 0 0 Q (F0 m 4 ls []) := by
    intro n
    induction n with
    | zero =>
      intro i1 i2 ls hm
      exact absurd hm (Nat.not_lt_zero _)
    | succ n ih =>
      intro i1 i2 ls hm hi0  hl K5
      refine lv_iload_n hx hb dX2_lengthOfSet_4 rfl (lv_at hl 0 rfl) ?_
      refine lv_aload_n hx hb dX2_lengthOfSet_5 rfl (lv_at hl 2 rfl) ?_
      refine g_Drawer_36 X hH hk_r dX2_lengthOfSet_6 ?_
      refine lv_icmp_ge (tgt := 47) hx hb dX2_lengthOfSet_9 (by decide) (fun c3 => ?_) (fun c3 => ?_)
      · exact K5 _ _ (Eq.symm ((if_pos c3).trans rfl)) (lv_sub hl [1] rfl)
      · refine lv_iload_n hx hb dX2_lengthOfSet_12 rfl (lv_at hl 0 rfl) ?_
        refine lv_aload_n hx hb dX2_lengthOfSet_13 rfl (lv_at hl 2 rfl) ?_
        refine g_Drawer_19 X hH hk_r dX2_lengthOfSet_14 ?_
        refine len_21 X hH (kc_2_21 hk_r) dX2_lengthOfSet_17 ?_
        refine lv_icmp_ge (tgt := 47) hx hb dX2_lengthOfSet_18 (by decide) (fun c4 => ?_) (fun c4 => ?_)
        · exact K5 _ _ (Eq.symm ((if_neg c3).trans ((if_pos c4).trans rfl))) (lv_sub hl [1] rfl)
        · refine lv_iload_n hx hb dX2_lengthOfSet_21 rfl (lv_at hl 3 rfl) ?_
          refine lv_iload_n hx hb dX2_lengthOfSet_22 rfl (lv_at hl 0 rfl) ?_
          refine k_X2_isIn X hS  t_ml_Drawer_108 hl.1 (Nat.le_of_ble_eq_true rfl) ⟨Nat.le_of_ble_eq_true rfl, Nat.le_of_ble_eq_true rfl⟩ ⟨Nat.zero_le _, Nat.zero_le _⟩ dX2_lengthOfSet_23 ?_
          have K6 : ∀ (y5 : Int32) (ls : Array Slot), y5 = (if ((fX2_isIn p1 i1) : Int32) = 0 then i2 else (i2 + (v ((r + 3) + 20 + (i1 : Int32).toNatClampNeg) 0)) : Int32) → lv_has ls 4 [(3, .int i1), (2, .int y5), (0, .ref (ga G r)), (1, .int p1)] → W p l e rmX2_lengthOfSet s m args below meth c s.heap [] 0 0 Q (F0 m 41 ls []) := by
            intro y5 ls ey5 hl
            refine lv_iinc (v := i1 + 1) (lv' := [(3, .int (i1 + 1)), (2, .int y5), (0, .ref (ga G r)), (1, .int p1)]) hx hb dX2_lengthOfSet_41 hl (k := 0) rfl rfl (by decide) rfl (fun ls hl => ?_)
            refine lv_goto (tgt := 4) hx hb dX2_lengthOfSet_44 (by decide) ?_
            have hm2 : (Int32.toInt ((v r 3)) - Int32.toInt (i1 + 1)).toNat < n := i_step c3 hm
            have hi02 : 0 ≤ Int32.toInt (i1 + 1) := i_nn hi0 c3
            subst ey5
            exact ih _ _ _ hm2 hi02 (lv_sub hl [0, 1, 2, 3] rfl) (fun y3 ls q0 hl => K5 y3 ls (q0.trans (congrArg (fun z : Int32 => z) (Eq.symm ((if_neg c3).trans ((if_neg c4).trans rfl))))) hl)
          refine lv_if_eq (tgt := 41) hx hb dX2_lengthOfSet_26 (by decide) (fun c6 => ?_) (fun c6 => ?_)
          · exact K6 _ _ (Eq.symm ((if_pos c6).trans rfl)) (lv_sub hl [0, 1, 2, 3] rfl)
          · refine lv_iload_n hx hb dX2_lengthOfSet_29 rfl (lv_at hl 1 rfl) ?_
            refine lv_aload_n hx hb dX2_lengthOfSet_30 rfl (lv_at hl 2 rfl) ?_
            refine g_Drawer_19 X hH hk_r dX2_lengthOfSet_31 ?_
            refine lv_iload_n hx hb dX2_lengthOfSet_34 rfl (lv_at hl 0 rfl) ?_
            have hi7 : vp_in i1 10 := (i_in (by have := i_nle c3; have := i_nle c4; have : (10 : Int32).toInt = 10 := rfl; have : (3 : Int32).toInt = 3 := rfl; have := hD; have := hi0; omega) (by have := i_nle c3; have := i_nle c4; have : (10 : Int32).toInt = 10 := rfl; have : (3 : Int32).toInt = 3 := rfl; have := hD; have := hi0; omega))
            refine qld_21 X hH (kc_2_21 hk_r) hi7 dX2_lengthOfSet_35 ?_
            refine g_Drawer_126 X hH (ki_21 (kc_2_21 hk_r) (vp_lt hi7)) dX2_lengthOfSet_36 ?_
            refine lv_iadd hx hb dX2_lengthOfSet_39 ?_
            refine lv_istore_n (lv' := [(2, .int (i2 + (v ((r + 3) + 20 + (i1 : Int32).toNatClampNeg) 0))), (3, .int i1), (0, .ref (ga G r)), (1, .int p1)]) hx hb dX2_lengthOfSet_40 rfl hl (by decide) rfl (fun ls hl => ?_)
            exact K6 _ _ (Eq.symm ((if_neg c6).trans rfl)) (lv_sub hl [1, 0, 2, 3] rfl)
  refine L4 ((Int32.toInt ((v r 3)) - Int32.toInt 0).toNat + 1) 0 0 _ (Nat.lt_succ_self _) (by decide) (lv_sub hl [0, 1, 2, 3] rfl) (fun y3 ls ey3 hl => ?_)
  refine lv_iload_n hx hb dX2_lengthOfSet_47 rfl (lv_at hl 0 rfl) ?_
  subst ey3
  exact E _ _ _ dX2_lengthOfSet_48 rfl (Eq.symm rfl)
theorem k_X2_lengthOfSet {p : Program} {l : Launch} {e : Env} {R : Room} {s : State} {m : MethodId} {args : Array Value} {below : List Frame} {meth : Method} {c : Code} {H : Heap} {locs : List Loc} {cells slots : Nat} {Q : State → Prop} {cc : ByteArray} {pc nL : Nat} {ls : Array Slot} {rest : List Value} {G : gG} {own : String} {da : Nat → Nat} {v : vSt} {x : gX} (X : CX G p s m args c cc nL own) (hS : va_S (gA G) s.heap H locs) (hH : Hp G da v x H) {r : Nat} (hk_r : kd r = 2) {p1 : Int32} (hD : 0 ≤ (v r 2).toInt ∧ (v r 2).toInt ≤ 6 ∧ 0 ≤ (v r 3).toInt ∧ (v r 3).toInt ≤ 10) {idx : Nat} (hml : Cond.methodLink own idx yX2_lengthOfSet ∈ TT) (hls : ls.size = nL) (hsum : (rest.map fun v => v.category).sum ≤ 8) (hR : rmX2_lengthOfSet.frames + 1 ≤ R.frames ∧ 8 + (4 + 11) + rmX2_lengthOfSet.locals ≤ R.locals) (hcs : cells ≤ R.cells ∧ slots ≤ R.slots) (hdg : decode cc pc = .ok (.invokevirtual idx, 3)) (kk : W p l e R s m args below meth c H locs cells slots Q (F0 m (pc + 3) ls (.int (fX2_lengthOfSet r p1 v) :: rest))) : W p l e R s m args below meth c H locs cells slots Q (F0 m pc ls (.int p1 :: .ref (ga G r) :: rest)) := c_qi (runV (k := 1) X.1 X.2.1 X.2.2.1 X.2.2.2.1 X.2.2.2.2.1 (mX2_lengthOfSet l G da v x r hk_r p1 hD) pW_bl hml t_im_X2_lengthOfSet t_sel_X2_lengthOfSet t_ini_Drawer t_code_X2_lengthOfSet ⟨rfl, by decide, by decide, by decide +kernel⟩ rfl rfl hR hcs (recvW X hH (by rw [hk_r]; decide) (by rw [hk_r]; decide) (ce_2 hk_r) rfl) (preW X hS hH) rfl hls rfl hsum hdg) (fun _ h => h ▸ kk)
def lX2_trueLengthOf_8 (v : vSt) (r : Nat) (p1 : Int32) : Nat → Int32 → Int32 → Int32
  | 0, i1, i2 => i2
  | n + 1, i1, i2 => if ((v r 3) : Int32) ≤ i1 then i2 else (if (10 : Int32) ≤ i1 then i2 else (let y5 : Int32 := if ((fX2_isIn p1 i1) : Int32) = 0 then i2 else (i2 + (v ((r + 3) + 20 + (i1 : Int32).toNatClampNeg) 1)); lX2_trueLengthOf_8 v r p1 n (i1 + 1) y5))
def fX2_trueLengthOf (r : Nat) (p1 : Int32) (v : vSt) : Int32 := let y3 : Int32 := (lX2_trueLengthOf_8 v r p1 ((Int32.toInt ((v r 3)) - Int32.toInt 0).toNat + 1) 0 (fX2_lengthOfSet r p1 v)); y3 + (((fJ6_bitCount_0f7a4 p1) - 1) / 2)
abbrev rmX2_trueLengthOf : Room := { frames := 2, cells := 0, slots := 0, locals := 44 }
theorem dX2_trueLengthOf_0 : decode cX2_trueLengthOf 0 = .ok (.aload_n 0, 1) := by decide +kernel
theorem dX2_trueLengthOf_1 : decode cX2_trueLengthOf 1 = .ok (.iload_n 1, 1) := by decide +kernel
theorem dX2_trueLengthOf_2 : decode cX2_trueLengthOf 2 = .ok (.invokevirtual 123, 3) := by decide +kernel
theorem dX2_trueLengthOf_5 : decode cX2_trueLengthOf 5 = .ok (.istore_n 2, 1) := by decide +kernel
theorem dX2_trueLengthOf_6 : decode cX2_trueLengthOf 6 = .ok (.iconst 0, 1) := by decide +kernel
theorem dX2_trueLengthOf_7 : decode cX2_trueLengthOf 7 = .ok (.istore_n 3, 1) := by decide +kernel
theorem dX2_trueLengthOf_8 : decode cX2_trueLengthOf 8 = .ok (.iload_n 3, 1) := by decide +kernel
theorem dX2_trueLengthOf_9 : decode cX2_trueLengthOf 9 = .ok (.aload_n 0, 1) := by decide +kernel
theorem dX2_trueLengthOf_10 : decode cX2_trueLengthOf 10 = .ok (.getfield 36, 3) := by decide +kernel
theorem dX2_trueLengthOf_13 : decode cX2_trueLengthOf 13 = .ok (.if_icmp .ge 38, 3) := by decide +kernel
theorem dX2_trueLengthOf_16 : decode cX2_trueLengthOf 16 = .ok (.iload_n 3, 1) := by decide +kernel
theorem dX2_trueLengthOf_17 : decode cX2_trueLengthOf 17 = .ok (.aload_n 0, 1) := by decide +kernel
theorem dX2_trueLengthOf_18 : decode cX2_trueLengthOf 18 = .ok (.getfield 19, 3) := by decide +kernel
theorem dX2_trueLengthOf_21 : decode cX2_trueLengthOf 21 = .ok (.arraylength, 1) := by decide +kernel
theorem dX2_trueLengthOf_22 : decode cX2_trueLengthOf 22 = .ok (.if_icmp .ge 29, 3) := by decide +kernel
theorem dX2_trueLengthOf_25 : decode cX2_trueLengthOf 25 = .ok (.iload_n 1, 1) := by decide +kernel
theorem dX2_trueLengthOf_26 : decode cX2_trueLengthOf 26 = .ok (.iload_n 3, 1) := by decide +kernel
theorem dX2_trueLengthOf_27 : decode cX2_trueLengthOf 27 = .ok (.invokestatic 108, 3) := by decide +kernel
theorem dX2_trueLengthOf_30 : decode cX2_trueLengthOf 30 = .ok (.ifCond .eq 15, 3) := by decide +kernel
theorem dX2_trueLengthOf_33 : decode cX2_trueLengthOf 33 = .ok (.iload_n 2, 1) := by decide +kernel
theorem dX2_trueLengthOf_34 : decode cX2_trueLengthOf 34 = .ok (.aload_n 0, 1) := by decide +kernel
theorem dX2_trueLengthOf_35 : decode cX2_trueLengthOf 35 = .ok (.getfield 19, 3) := by decide +kernel
theorem dX2_trueLengthOf_38 : decode cX2_trueLengthOf 38 = .ok (.iload_n 3, 1) := by decide +kernel
theorem dX2_trueLengthOf_39 : decode cX2_trueLengthOf 39 = .ok (.aaload, 1) := by decide +kernel
theorem dX2_trueLengthOf_40 : decode cX2_trueLengthOf 40 = .ok (.getfield 129, 3) := by decide +kernel
theorem dX2_trueLengthOf_43 : decode cX2_trueLengthOf 43 = .ok (.iadd, 1) := by decide +kernel
theorem dX2_trueLengthOf_44 : decode cX2_trueLengthOf 44 = .ok (.istore_n 2, 1) := by decide +kernel
theorem dX2_trueLengthOf_45 : decode cX2_trueLengthOf 45 = .ok (.iinc 3 1, 3) := by decide +kernel
theorem dX2_trueLengthOf_48 : decode cX2_trueLengthOf 48 = .ok (.goto (-40), 3) := by decide +kernel
theorem dX2_trueLengthOf_51 : decode cX2_trueLengthOf 51 = .ok (.iload_n 2, 1) := by decide +kernel
theorem dX2_trueLengthOf_52 : decode cX2_trueLengthOf 52 = .ok (.iload_n 1, 1) := by decide +kernel
theorem dX2_trueLengthOf_53 : decode cX2_trueLengthOf 53 = .ok (.invokestatic 118, 3) := by decide +kernel
theorem dX2_trueLengthOf_56 : decode cX2_trueLengthOf 56 = .ok (.iconst 1, 1) := by decide +kernel
theorem dX2_trueLengthOf_57 : decode cX2_trueLengthOf 57 = .ok (.isub, 1) := by decide +kernel
theorem dX2_trueLengthOf_58 : decode cX2_trueLengthOf 58 = .ok (.iconst 2, 1) := by decide +kernel
theorem dX2_trueLengthOf_59 : decode cX2_trueLengthOf 59 = .ok (.idiv, 1) := by decide +kernel
theorem dX2_trueLengthOf_60 : decode cX2_trueLengthOf 60 = .ok (.iadd, 1) := by decide +kernel
theorem dX2_trueLengthOf_61 : decode cX2_trueLengthOf 61 = .ok (.ireturn, 1) := by decide +kernel
set_option maxHeartbeats 4000000 in
set_option maxRecDepth 100000 in
theorem mX2_trueLengthOf (l : Launch) (G : gG) (da : Nat → Nat) (v : vSt) (x : gX) (r : Nat) (hk_r : kd r = 2) (p1 : Int32) (hD : 0 ≤ (v r 2).toInt ∧ (v r 2).toInt ≤ 6 ∧ 0 ≤ (v r 3).toInt ∧ (v r 3).toInt ≤ 10) : QI l yX2_trueLengthOf cX2_trueLengthOf 4 (some .int) rmX2_trueLengthOf [.ref (ga G r), .int p1] (pW G da v x) (fX2_trueLengthOf r p1 v) := by
  refine gofQ (own := RX2) (by decide) rfl (Nat.le_of_ble_eq_true rfl) (fun p e s m args below meth c ls Q X hH hl E => ?_)
  have hx := X.1
  have hb := X.2.1
  have hown := X.2.2.2.1
  have hts := X.2.2.2.2.1
  have hS : va_S (gA G) s.heap s.heap [] := va_S.rf
  have hl : lv_has ls 4 [(0, .ref (ga G r)), (1, .int p1)] := hl
  refine lv_aload_n hx hb dX2_trueLengthOf_0 rfl (lv_at hl 0 rfl) ?_
  refine lv_iload_n hx hb dX2_trueLengthOf_1 rfl (lv_at hl 1 rfl) ?_
  refine k_X2_lengthOfSet X hS hH hk_r hD t_ml_Drawer_123 hl.1 (Nat.le_of_ble_eq_true rfl) ⟨Nat.le_of_ble_eq_true rfl, Nat.le_of_ble_eq_true rfl⟩ ⟨Nat.zero_le _, Nat.zero_le _⟩ dX2_trueLengthOf_2 ?_
  refine lv_istore_n (lv' := [(2, .int (fX2_lengthOfSet r p1 v)), (0, .ref (ga G r)), (1, .int p1)]) hx hb dX2_trueLengthOf_5 rfl hl (by decide) rfl (fun ls hl => ?_)
  refine lv_iconst (v := 0) hx hb dX2_trueLengthOf_6 (by decide) ?_
  refine lv_istore_n (lv' := [(3, .int 0), (2, .int (fX2_lengthOfSet r p1 v)), (0, .ref (ga G r)), (1, .int p1)]) hx hb dX2_trueLengthOf_7 rfl hl (by decide) rfl (fun ls hl => ?_)
  have L4 : ∀ (n : Nat) (i1 : Int32) (i2 : Int32) (ls : Array Slot), (Int32.toInt ((v r 3)) - Int32.toInt i1).toNat < n → 0 ≤ Int32.toInt i1 → lv_has ls 4 [(3, .int i1), (2, .int i2), (0, .ref (ga G r)), (1, .int p1)] → (∀ (y3 : Int32) (ls : Array Slot), y3 = (lX2_trueLengthOf_8 v r p1 n i1 i2 : Int32) → lv_has ls 4 [(2, .int y3), (1, .int p1)] → W p l e rmX2_trueLengthOf s m args below meth c s.heap [] 0 0 Q (F0 m 51 ls [])) → W p l e rmX2_trueLengthOf s m args below meth c s.heap [] 0 0 Q (F0 m 8 ls []) := by
    intro n
    induction n with
    | zero =>
      intro i1 i2 ls hm
      exact absurd hm (Nat.not_lt_zero _)
    | succ n ih =>
      intro i1 i2 ls hm hi0  hl K5
      refine lv_iload_n hx hb dX2_trueLengthOf_8 rfl (lv_at hl 0 rfl) ?_
      refine lv_aload_n hx hb dX2_trueLengthOf_9 rfl (lv_at hl 2 rfl) ?_
      refine g_Drawer_36 X hH hk_r dX2_trueLengthOf_10 ?_
      refine lv_icmp_ge (tgt := 51) hx hb dX2_trueLengthOf_13 (by decide) (fun c3 => ?_) (fun c3 => ?_)
      · exact K5 _ _ (Eq.symm ((if_pos c3).trans rfl)) (lv_sub hl [1, 3] rfl)
      · refine lv_iload_n hx hb dX2_trueLengthOf_16 rfl (lv_at hl 0 rfl) ?_
        refine lv_aload_n hx hb dX2_trueLengthOf_17 rfl (lv_at hl 2 rfl) ?_
        refine g_Drawer_19 X hH hk_r dX2_trueLengthOf_18 ?_
        refine len_21 X hH (kc_2_21 hk_r) dX2_trueLengthOf_21 ?_
        refine lv_icmp_ge (tgt := 51) hx hb dX2_trueLengthOf_22 (by decide) (fun c4 => ?_) (fun c4 => ?_)
        · exact K5 _ _ (Eq.symm ((if_neg c3).trans ((if_pos c4).trans rfl))) (lv_sub hl [1, 3] rfl)
        · refine lv_iload_n hx hb dX2_trueLengthOf_25 rfl (lv_at hl 3 rfl) ?_
          refine lv_iload_n hx hb dX2_trueLengthOf_26 rfl (lv_at hl 0 rfl) ?_
          refine k_X2_isIn X hS  t_ml_Drawer_108 hl.1 (Nat.le_of_ble_eq_true rfl) ⟨Nat.le_of_ble_eq_true rfl, Nat.le_of_ble_eq_true rfl⟩ ⟨Nat.zero_le _, Nat.zero_le _⟩ dX2_trueLengthOf_27 ?_
          have K6 : ∀ (y5 : Int32) (ls : Array Slot), y5 = (if ((fX2_isIn p1 i1) : Int32) = 0 then i2 else (i2 + (v ((r + 3) + 20 + (i1 : Int32).toNatClampNeg) 1)) : Int32) → lv_has ls 4 [(3, .int i1), (2, .int y5), (0, .ref (ga G r)), (1, .int p1)] → W p l e rmX2_trueLengthOf s m args below meth c s.heap [] 0 0 Q (F0 m 45 ls []) := by
            intro y5 ls ey5 hl
            refine lv_iinc (v := i1 + 1) (lv' := [(3, .int (i1 + 1)), (2, .int y5), (0, .ref (ga G r)), (1, .int p1)]) hx hb dX2_trueLengthOf_45 hl (k := 0) rfl rfl (by decide) rfl (fun ls hl => ?_)
            refine lv_goto (tgt := 8) hx hb dX2_trueLengthOf_48 (by decide) ?_
            have hm2 : (Int32.toInt ((v r 3)) - Int32.toInt (i1 + 1)).toNat < n := i_step c3 hm
            have hi02 : 0 ≤ Int32.toInt (i1 + 1) := i_nn hi0 c3
            subst ey5
            exact ih _ _ _ hm2 hi02 (lv_sub hl [0, 1, 2, 3] rfl) (fun y3 ls q0 hl => K5 y3 ls (q0.trans (congrArg (fun z : Int32 => z) (Eq.symm ((if_neg c3).trans ((if_neg c4).trans rfl))))) hl)
          refine lv_if_eq (tgt := 45) hx hb dX2_trueLengthOf_30 (by decide) (fun c6 => ?_) (fun c6 => ?_)
          · exact K6 _ _ (Eq.symm ((if_pos c6).trans rfl)) (lv_sub hl [0, 1, 2, 3] rfl)
          · refine lv_iload_n hx hb dX2_trueLengthOf_33 rfl (lv_at hl 1 rfl) ?_
            refine lv_aload_n hx hb dX2_trueLengthOf_34 rfl (lv_at hl 2 rfl) ?_
            refine g_Drawer_19 X hH hk_r dX2_trueLengthOf_35 ?_
            refine lv_iload_n hx hb dX2_trueLengthOf_38 rfl (lv_at hl 0 rfl) ?_
            have hi7 : vp_in i1 10 := (i_in (by have := i_nle c3; have := i_nle c4; have : (10 : Int32).toInt = 10 := rfl; have : (3 : Int32).toInt = 3 := rfl; have := hD; have := hi0; omega) (by have := i_nle c3; have := i_nle c4; have : (10 : Int32).toInt = 10 := rfl; have : (3 : Int32).toInt = 3 := rfl; have := hD; have := hi0; omega))
            refine qld_21 X hH (kc_2_21 hk_r) hi7 dX2_trueLengthOf_39 ?_
            refine g_Drawer_129 X hH (ki_21 (kc_2_21 hk_r) (vp_lt hi7)) dX2_trueLengthOf_40 ?_
            refine lv_iadd hx hb dX2_trueLengthOf_43 ?_
            refine lv_istore_n (lv' := [(2, .int (i2 + (v ((r + 3) + 20 + (i1 : Int32).toNatClampNeg) 1))), (3, .int i1), (0, .ref (ga G r)), (1, .int p1)]) hx hb dX2_trueLengthOf_44 rfl hl (by decide) rfl (fun ls hl => ?_)
            exact K6 _ _ (Eq.symm ((if_neg c6).trans rfl)) (lv_sub hl [1, 0, 2, 3] rfl)
  refine L4 ((Int32.toInt ((v r 3)) - Int32.toInt 0).toNat + 1) 0 (fX2_lengthOfSet r p1 v) _ (Nat.lt_succ_self _) (by decide) (lv_sub hl [0, 1, 2, 3] rfl) (fun y3 ls ey3 hl => ?_)
  refine lv_iload_n hx hb dX2_trueLengthOf_51 rfl (lv_at hl 0 rfl) ?_
  refine lv_iload_n hx hb dX2_trueLengthOf_52 rfl (lv_at hl 1 rfl) ?_
  refine k_J6_bitCount_0f7a4 X hS  t_ml_Drawer_118 hl.1 (Nat.le_of_ble_eq_true rfl) ⟨Nat.le_of_ble_eq_true rfl, Nat.le_of_ble_eq_true rfl⟩ ⟨Nat.zero_le _, Nat.zero_le _⟩ dX2_trueLengthOf_53 ?_
  refine lv_iconst (v := 1) hx hb dX2_trueLengthOf_56 (by decide) ?_
  refine lv_isub hx hb dX2_trueLengthOf_57 ?_
  refine lv_iconst (v := 2) hx hb dX2_trueLengthOf_58 (by decide) ?_
  refine lv_idiv hx hb dX2_trueLengthOf_59 (by decide) ?_
  refine lv_iadd hx hb dX2_trueLengthOf_60 ?_
  subst ey3
  exact E _ _ _ dX2_trueLengthOf_61 rfl (Eq.symm rfl)
theorem k_X2_trueLengthOf {p : Program} {l : Launch} {e : Env} {R : Room} {s : State} {m : MethodId} {args : Array Value} {below : List Frame} {meth : Method} {c : Code} {H : Heap} {locs : List Loc} {cells slots : Nat} {Q : State → Prop} {cc : ByteArray} {pc nL : Nat} {ls : Array Slot} {rest : List Value} {G : gG} {own : String} {da : Nat → Nat} {v : vSt} {x : gX} (X : CX G p s m args c cc nL own) (hS : va_S (gA G) s.heap H locs) (hH : Hp G da v x H) {r : Nat} (hk_r : kd r = 2) {p1 : Int32} (hD : 0 ≤ (v r 2).toInt ∧ (v r 2).toInt ≤ 6 ∧ 0 ≤ (v r 3).toInt ∧ (v r 3).toInt ≤ 10) {idx : Nat} (hml : Cond.methodLink own idx yX2_trueLengthOf ∈ TT) (hls : ls.size = nL) (hsum : (rest.map fun v => v.category).sum ≤ 8) (hR : rmX2_trueLengthOf.frames + 1 ≤ R.frames ∧ 8 + (4 + 11) + rmX2_trueLengthOf.locals ≤ R.locals) (hcs : cells ≤ R.cells ∧ slots ≤ R.slots) (hdg : decode cc pc = .ok (.invokevirtual idx, 3)) (kk : W p l e R s m args below meth c H locs cells slots Q (F0 m (pc + 3) ls (.int (fX2_trueLengthOf r p1 v) :: rest))) : W p l e R s m args below meth c H locs cells slots Q (F0 m pc ls (.int p1 :: .ref (ga G r) :: rest)) := c_qi (runV (k := 1) X.1 X.2.1 X.2.2.1 X.2.2.2.1 X.2.2.2.2.1 (mX2_trueLengthOf l G da v x r hk_r p1 hD) pW_bl hml t_im_X2_trueLengthOf t_sel_X2_trueLengthOf t_ini_Drawer t_code_X2_trueLengthOf ⟨rfl, by decide, by decide, by decide +kernel⟩ rfl rfl hR hcs (recvW X hH (by rw [hk_r]; decide) (by rw [hk_r]; decide) (ce_2 hk_r) rfl) (preW X hS hH) rfl hls rfl hsum hdg) (fun _ h => h ▸ kk)
def lX2_stack_16 (v : vSt) (r : Nat) (p1 : Int32) : Nat → Int32 → Int32 → Int32 → Int32
  | 0, i1, i2, i3 => i3
  | n + 1, i1, i2, i3 => if ((1 <<< ((v r 3) &&& 31)) : Int32) ≤ i1 then i3 else (let qy5 : Int32 × Int32 := if (i2 : Int32) ≤ (fJ6_bitCount_0f7a4 i1) then ((i2, i3)) else (if ((fX2_lengthOfSet r i1 v) : Int32) = p1 then ((fJ6_bitCount_0f7a4 i1, i1)) else ((i2, i3))); let y5 := qy5.1; let y6 := qy5.2; lX2_stack_16 v r p1 n (i1 + 1) y5 y6)
def fX2_stack (r : Nat) (p1 : Int32) (v : vSt) : Int32 := let y4 : Int32 := (lX2_stack_16 v r p1 ((Int32.toInt ((1 <<< ((v r 3) &&& 31))) - Int32.toInt 1).toNat + 1) 1 6 0); y4
abbrev rmX2_stack : Room := { frames := 2, cells := 0, slots := 0, locals := 44 }
theorem dX2_stack_0 : decode cX2_stack 0 = .ok (.iconst 0, 1) := by decide +kernel
theorem dX2_stack_1 : decode cX2_stack 1 = .ok (.istore_n 2, 1) := by decide +kernel
theorem dX2_stack_2 : decode cX2_stack 2 = .ok (.bipush 6, 2) := by decide +kernel
theorem dX2_stack_4 : decode cX2_stack 4 = .ok (.istore_n 3, 1) := by decide +kernel
theorem dX2_stack_5 : decode cX2_stack 5 = .ok (.iconst 1, 1) := by decide +kernel
theorem dX2_stack_6 : decode cX2_stack 6 = .ok (.aload_n 0, 1) := by decide +kernel
theorem dX2_stack_7 : decode cX2_stack 7 = .ok (.getfield 36, 3) := by decide +kernel
theorem dX2_stack_10 : decode cX2_stack 10 = .ok (.ishl, 1) := by decide +kernel
theorem dX2_stack_11 : decode cX2_stack 11 = .ok (.istore 4, 2) := by decide +kernel
theorem dX2_stack_13 : decode cX2_stack 13 = .ok (.iconst 1, 1) := by decide +kernel
theorem dX2_stack_14 : decode cX2_stack 14 = .ok (.istore 5, 2) := by decide +kernel
theorem dX2_stack_16 : decode cX2_stack 16 = .ok (.iload 5, 2) := by decide +kernel
theorem dX2_stack_18 : decode cX2_stack 18 = .ok (.iload 4, 2) := by decide +kernel
theorem dX2_stack_20 : decode cX2_stack 20 = .ok (.if_icmp .ge 38, 3) := by decide +kernel
theorem dX2_stack_23 : decode cX2_stack 23 = .ok (.iload 5, 2) := by decide +kernel
theorem dX2_stack_25 : decode cX2_stack 25 = .ok (.invokestatic 118, 3) := by decide +kernel
theorem dX2_stack_28 : decode cX2_stack 28 = .ok (.istore 6, 2) := by decide +kernel
theorem dX2_stack_30 : decode cX2_stack 30 = .ok (.iload 6, 2) := by decide +kernel
theorem dX2_stack_32 : decode cX2_stack 32 = .ok (.iload_n 3, 1) := by decide +kernel
theorem dX2_stack_33 : decode cX2_stack 33 = .ok (.if_icmp .ge 19, 3) := by decide +kernel
theorem dX2_stack_36 : decode cX2_stack 36 = .ok (.aload_n 0, 1) := by decide +kernel
theorem dX2_stack_37 : decode cX2_stack 37 = .ok (.iload 5, 2) := by decide +kernel
theorem dX2_stack_39 : decode cX2_stack 39 = .ok (.invokevirtual 123, 3) := by decide +kernel
theorem dX2_stack_42 : decode cX2_stack 42 = .ok (.iload_n 1, 1) := by decide +kernel
theorem dX2_stack_43 : decode cX2_stack 43 = .ok (.if_icmp .ne 9, 3) := by decide +kernel
theorem dX2_stack_46 : decode cX2_stack 46 = .ok (.iload 5, 2) := by decide +kernel
theorem dX2_stack_48 : decode cX2_stack 48 = .ok (.istore_n 2, 1) := by decide +kernel
theorem dX2_stack_49 : decode cX2_stack 49 = .ok (.iload 6, 2) := by decide +kernel
theorem dX2_stack_51 : decode cX2_stack 51 = .ok (.istore_n 3, 1) := by decide +kernel
theorem dX2_stack_52 : decode cX2_stack 52 = .ok (.iinc 5 1, 3) := by decide +kernel
theorem dX2_stack_55 : decode cX2_stack 55 = .ok (.goto (-39), 3) := by decide +kernel
theorem dX2_stack_58 : decode cX2_stack 58 = .ok (.iload_n 2, 1) := by decide +kernel
theorem dX2_stack_59 : decode cX2_stack 59 = .ok (.ireturn, 1) := by decide +kernel
set_option maxHeartbeats 4000000 in
set_option maxRecDepth 100000 in
theorem mX2_stack (l : Launch) (G : gG) (da : Nat → Nat) (v : vSt) (x : gX) (r : Nat) (hk_r : kd r = 2) (p1 : Int32) (hD : 0 ≤ (v r 2).toInt ∧ (v r 2).toInt ≤ 6 ∧ 0 ≤ (v r 3).toInt ∧ (v r 3).toInt ≤ 10) : QI l yX2_stack cX2_stack 7 (some .int) rmX2_stack [.ref (ga G r), .int p1] (pW G da v x) (fX2_stack r p1 v) := by
  refine gofQ (own := RX2) (by decide) rfl (Nat.le_of_ble_eq_true rfl) (fun p e s m args below meth c ls Q X hH hl E => ?_)
  have hx := X.1
  have hb := X.2.1
  have hown := X.2.2.2.1
  have hts := X.2.2.2.2.1
  have hS : va_S (gA G) s.heap s.heap [] := va_S.rf
  have hl : lv_has ls 7 [(0, .ref (ga G r)), (1, .int p1)] := hl
  refine lv_iconst (v := 0) hx hb dX2_stack_0 (by decide) ?_
  refine lv_istore_n (lv' := [(2, .int 0), (0, .ref (ga G r)), (1, .int p1)]) hx hb dX2_stack_1 rfl hl (by decide) rfl (fun ls hl => ?_)
  refine lv_bipush (v := 6) hx hb dX2_stack_2 (by decide) ?_
  refine lv_istore_n (lv' := [(3, .int 6), (2, .int 0), (0, .ref (ga G r)), (1, .int p1)]) hx hb dX2_stack_4 rfl hl (by decide) rfl (fun ls hl => ?_)
  refine lv_iconst (v := 1) hx hb dX2_stack_5 (by decide) ?_
  refine lv_aload_n hx hb dX2_stack_6 rfl (lv_at hl 2 rfl) ?_
  refine g_Drawer_36 X hH hk_r dX2_stack_7 ?_
  refine lv_ishl hx hb dX2_stack_10 ?_
  refine lv_istore (lv' := [(4, .int (1 <<< ((v r 3) &&& 31))), (3, .int 6), (2, .int 0), (0, .ref (ga G r)), (1, .int p1)]) hx hb dX2_stack_11 hl (by decide) rfl (fun ls hl => ?_)
  refine lv_iconst (v := 1) hx hb dX2_stack_13 (by decide) ?_
  refine lv_istore (lv' := [(5, .int 1), (4, .int (1 <<< ((v r 3) &&& 31))), (3, .int 6), (2, .int 0), (0, .ref (ga G r)), (1, .int p1)]) hx hb dX2_stack_14 hl (by decide) rfl (fun ls hl => ?_)
  have L5 : ∀ (n : Nat) (i1 : Int32) (i2 : Int32) (i3 : Int32) (ls : Array Slot), (Int32.toInt ((1 <<< ((v r 3) &&& 31))) - Int32.toInt i1).toNat < n → lv_has ls 7 [(5, .int i1), (4, .int (1 <<< ((v r 3) &&& 31))), (3, .int i2), (2, .int i3), (0, .ref (ga G r)), (1, .int p1)] → (∀ (y4 : Int32) (ls : Array Slot), y4 = (lX2_stack_16 v r p1 n i1 i2 i3 : Int32) → lv_has ls 7 [(2, .int y4)] → W p l e rmX2_stack s m args below meth c s.heap [] 0 0 Q (F0 m 58 ls [])) → W p l e rmX2_stack s m args below meth c s.heap [] 0 0 Q (F0 m 16 ls []) := by
    intro n
    induction n with
    | zero =>
      intro i1 i2 i3 ls hm
      exact absurd hm (Nat.not_lt_zero _)
    | succ n ih =>
      intro i1 i2 i3 ls hm  hl K6
      refine lv_iload hx hb dX2_stack_16 (lv_at hl 0 rfl) ?_
      refine lv_iload hx hb dX2_stack_18 (lv_at hl 1 rfl) ?_
      refine lv_icmp_ge (tgt := 58) hx hb dX2_stack_20 (by decide) (fun c4 => ?_) (fun c4 => ?_)
      · exact K6 _ _ (Eq.symm ((if_pos c4).trans rfl)) (lv_sub hl [3] rfl)
      · refine lv_iload hx hb dX2_stack_23 (lv_at hl 0 rfl) ?_
        refine k_J6_bitCount_0f7a4 X hS  t_ml_Drawer_118 hl.1 (Nat.le_of_ble_eq_true rfl) ⟨Nat.le_of_ble_eq_true rfl, Nat.le_of_ble_eq_true rfl⟩ ⟨Nat.zero_le _, Nat.zero_le _⟩ dX2_stack_25 ?_
        refine lv_istore (lv' := [(6, .int (fJ6_bitCount_0f7a4 i1)), (5, .int i1), (4, .int (1 <<< ((v r 3) &&& 31))), (3, .int i2), (2, .int i3), (0, .ref (ga G r)), (1, .int p1)]) hx hb dX2_stack_28 hl (by decide) rfl (fun ls hl => ?_)
        refine lv_iload hx hb dX2_stack_30 (lv_at hl 0 rfl) ?_
        refine lv_iload_n hx hb dX2_stack_32 rfl (lv_at hl 3 rfl) ?_
        have K7 : ∀ (y5 : Int32) (y6 : Int32) (ls : Array Slot), y5 = (if (i2 : Int32) ≤ (fJ6_bitCount_0f7a4 i1) then ((i2, i3)) else (if ((fX2_lengthOfSet r i1 v) : Int32) = p1 then ((fJ6_bitCount_0f7a4 i1, i1)) else ((i2, i3))) : Int32 × Int32).1 → y6 = (if (i2 : Int32) ≤ (fJ6_bitCount_0f7a4 i1) then ((i2, i3)) else (if ((fX2_lengthOfSet r i1 v) : Int32) = p1 then ((fJ6_bitCount_0f7a4 i1, i1)) else ((i2, i3))) : Int32 × Int32).2 → lv_has ls 7 [(5, .int i1), (4, .int (1 <<< ((v r 3) &&& 31))), (3, .int y5), (2, .int y6), (0, .ref (ga G r)), (1, .int p1)] → W p l e rmX2_stack s m args below meth c s.heap [] 0 0 Q (F0 m 52 ls []) := by
          intro y5 y6 ls ey5 ey6 hl
          refine lv_iinc (v := i1 + 1) (lv' := [(5, .int (i1 + 1)), (4, .int (1 <<< ((v r 3) &&& 31))), (3, .int y5), (2, .int y6), (0, .ref (ga G r)), (1, .int p1)]) hx hb dX2_stack_52 hl (k := 0) rfl rfl (by decide) rfl (fun ls hl => ?_)
          refine lv_goto (tgt := 16) hx hb dX2_stack_55 (by decide) ?_
          have hm2 : (Int32.toInt ((1 <<< ((v r 3) &&& 31))) - Int32.toInt (i1 + 1)).toNat < n := i_step c4 hm
          subst ey5 ey6
          exact ih _ _ _ _ hm2 (lv_sub hl [0, 1, 2, 3, 4, 5] rfl) (fun y4 ls q0 hl => K6 y4 ls (q0.trans (congrArg (fun z : Int32 => z) (Eq.symm ((if_neg c4).trans rfl)))) hl)
        refine lv_icmp_ge (tgt := 52) hx hb dX2_stack_33 (by decide) (fun c7 => ?_) (fun c7 => ?_)
        · exact K7 _ _ _ (pr1 ((if_pos c7).trans rfl)) (pr2 ((if_pos c7).trans rfl)) (lv_sub hl [1, 2, 3, 4, 5, 6] rfl)
        · refine lv_aload_n hx hb dX2_stack_36 rfl (lv_at hl 5 rfl) ?_
          refine lv_iload hx hb dX2_stack_37 (lv_at hl 1 rfl) ?_
          refine k_X2_lengthOfSet X hS hH hk_r hD t_ml_Drawer_123 hl.1 (Nat.le_of_ble_eq_true rfl) ⟨Nat.le_of_ble_eq_true rfl, Nat.le_of_ble_eq_true rfl⟩ ⟨Nat.zero_le _, Nat.zero_le _⟩ dX2_stack_39 ?_
          refine lv_iload_n hx hb dX2_stack_42 rfl (lv_at hl 6 rfl) ?_
          refine lv_icmp_ne (tgt := 52) hx hb dX2_stack_43 (by decide) (fun c8 => ?_) (fun c8 => ?_)
          · exact K7 _ _ _ (pr1 ((if_neg c7).trans ((if_neg c8).trans rfl))) (pr2 ((if_neg c7).trans ((if_neg c8).trans rfl))) (lv_sub hl [1, 2, 3, 4, 5, 6] rfl)
          · refine lv_iload hx hb dX2_stack_46 (lv_at hl 1 rfl) ?_
            refine lv_istore_n (lv' := [(2, .int i1), (6, .int (fJ6_bitCount_0f7a4 i1)), (5, .int i1), (4, .int (1 <<< ((v r 3) &&& 31))), (3, .int i2), (0, .ref (ga G r)), (1, .int p1)]) hx hb dX2_stack_48 rfl hl (by decide) rfl (fun ls hl => ?_)
            refine lv_iload hx hb dX2_stack_49 (lv_at hl 1 rfl) ?_
            refine lv_istore_n (lv' := [(3, .int (fJ6_bitCount_0f7a4 i1)), (2, .int i1), (6, .int (fJ6_bitCount_0f7a4 i1)), (5, .int i1), (4, .int (1 <<< ((v r 3) &&& 31))), (0, .ref (ga G r)), (1, .int p1)]) hx hb dX2_stack_51 rfl hl (by decide) rfl (fun ls hl => ?_)
            exact K7 _ _ _ (pr1 ((if_neg c7).trans ((if_pos c8).trans rfl))) (pr2 ((if_neg c7).trans ((if_pos c8).trans rfl))) (lv_sub hl [3, 4, 0, 1, 5, 6] rfl)
  refine L5 ((Int32.toInt ((1 <<< ((v r 3) &&& 31))) - Int32.toInt 1).toNat + 1) 1 6 0 _ (Nat.lt_succ_self _) (lv_sub hl [0, 1, 2, 3, 4, 5] rfl) (fun y4 ls ey4 hl => ?_)
  refine lv_iload_n hx hb dX2_stack_58 rfl (lv_at hl 0 rfl) ?_
  subst ey4
  exact E _ _ _ dX2_stack_59 rfl (Eq.symm rfl)
theorem k_X2_stack {p : Program} {l : Launch} {e : Env} {R : Room} {s : State} {m : MethodId} {args : Array Value} {below : List Frame} {meth : Method} {c : Code} {H : Heap} {locs : List Loc} {cells slots : Nat} {Q : State → Prop} {cc : ByteArray} {pc nL : Nat} {ls : Array Slot} {rest : List Value} {G : gG} {own : String} {da : Nat → Nat} {v : vSt} {x : gX} (X : CX G p s m args c cc nL own) (hS : va_S (gA G) s.heap H locs) (hH : Hp G da v x H) {r : Nat} (hk_r : kd r = 2) {p1 : Int32} (hD : 0 ≤ (v r 2).toInt ∧ (v r 2).toInt ≤ 6 ∧ 0 ≤ (v r 3).toInt ∧ (v r 3).toInt ≤ 10) {idx : Nat} (hml : Cond.methodLink own idx yX2_stack ∈ TT) (hls : ls.size = nL) (hsum : (rest.map fun v => v.category).sum ≤ 8) (hR : rmX2_stack.frames + 1 ≤ R.frames ∧ 8 + (7 + 11) + rmX2_stack.locals ≤ R.locals) (hcs : cells ≤ R.cells ∧ slots ≤ R.slots) (hdg : decode cc pc = .ok (.invokevirtual idx, 3)) (kk : W p l e R s m args below meth c H locs cells slots Q (F0 m (pc + 3) ls (.int (fX2_stack r p1 v) :: rest))) : W p l e R s m args below meth c H locs cells slots Q (F0 m pc ls (.int p1 :: .ref (ga G r) :: rest)) := c_qi (runV (k := 1) X.1 X.2.1 X.2.2.1 X.2.2.2.1 X.2.2.2.2.1 (mX2_stack l G da v x r hk_r p1 hD) pW_bl hml t_im_X2_stack t_sel_X2_stack t_ini_Drawer t_code_X2_stack ⟨rfl, by decide, by decide, by decide +kernel⟩ rfl rfl hR hcs (recvW X hH (by rw [hk_r]; decide) (by rw [hk_r]; decide) (ce_2 hk_r) rfl) (preW X hS hH) rfl hls rfl hsum hdg) (fun _ h => h ▸ kk)
def fX2_refusalToCalibrate (r : Nat) (p1 : Int32) (p2 : Int32) (v : vSt) : Int32 := if ((fX2_hasTool r p1 v) : Int32) = 0 then 1 else (if ((fX10_inRange p2 1 15000) : Int32) = 0 then 1 else (if ((fX2_stack r p2 v) : Int32) = 0 then 2 else (if ((fX2_reading r ((r + 2) + 13 + (p1 : Int32).toNatClampNeg) 0 (fX2_trueLengthOf r (fX2_stack r p2 v) v) v) : Int32) = (-1) then 2 else 0)))
abbrev rmX2_refusalToCalibrate : Room := { frames := 3, cells := 0, slots := 0, locals := 70 }
theorem dX2_refusalToCalibrate_0 : decode cX2_refusalToCalibrate 0 = .ok (.aload_n 0, 1) := by decide +kernel
theorem dX2_refusalToCalibrate_1 : decode cX2_refusalToCalibrate 1 = .ok (.iload_n 1, 1) := by decide +kernel
theorem dX2_refusalToCalibrate_2 : decode cX2_refusalToCalibrate 2 = .ok (.invokevirtual 79, 3) := by decide +kernel
theorem dX2_refusalToCalibrate_5 : decode cX2_refusalToCalibrate 5 = .ok (.ifCond .eq 14, 3) := by decide +kernel
theorem dX2_refusalToCalibrate_8 : decode cX2_refusalToCalibrate 8 = .ok (.iload_n 2, 1) := by decide +kernel
theorem dX2_refusalToCalibrate_9 : decode cX2_refusalToCalibrate 9 = .ok (.iconst 1, 1) := by decide +kernel
theorem dX2_refusalToCalibrate_10 : decode cX2_refusalToCalibrate 10 = .ok (.sipush 15000, 3) := by decide +kernel
theorem dX2_refusalToCalibrate_13 : decode cX2_refusalToCalibrate 13 = .ok (.invokestatic 85, 3) := by decide +kernel
theorem dX2_refusalToCalibrate_16 : decode cX2_refusalToCalibrate 16 = .ok (.ifCond .ne 5, 3) := by decide +kernel
theorem dX2_refusalToCalibrate_19 : decode cX2_refusalToCalibrate 19 = .ok (.iconst 1, 1) := by decide +kernel
theorem dX2_refusalToCalibrate_20 : decode cX2_refusalToCalibrate 20 = .ok (.ireturn, 1) := by decide +kernel
theorem dX2_refusalToCalibrate_21 : decode cX2_refusalToCalibrate 21 = .ok (.aload_n 0, 1) := by decide +kernel
theorem dX2_refusalToCalibrate_22 : decode cX2_refusalToCalibrate 22 = .ok (.iload_n 2, 1) := by decide +kernel
theorem dX2_refusalToCalibrate_23 : decode cX2_refusalToCalibrate 23 = .ok (.invokevirtual 99, 3) := by decide +kernel
theorem dX2_refusalToCalibrate_26 : decode cX2_refusalToCalibrate 26 = .ok (.istore_n 3, 1) := by decide +kernel
theorem dX2_refusalToCalibrate_27 : decode cX2_refusalToCalibrate 27 = .ok (.iload_n 3, 1) := by decide +kernel
theorem dX2_refusalToCalibrate_28 : decode cX2_refusalToCalibrate 28 = .ok (.ifCond .ne 5, 3) := by decide +kernel
theorem dX2_refusalToCalibrate_31 : decode cX2_refusalToCalibrate 31 = .ok (.iconst 2, 1) := by decide +kernel
theorem dX2_refusalToCalibrate_32 : decode cX2_refusalToCalibrate 32 = .ok (.ireturn, 1) := by decide +kernel
theorem dX2_refusalToCalibrate_33 : decode cX2_refusalToCalibrate 33 = .ok (.aload_n 0, 1) := by decide +kernel
theorem dX2_refusalToCalibrate_34 : decode cX2_refusalToCalibrate 34 = .ok (.aload_n 0, 1) := by decide +kernel
theorem dX2_refusalToCalibrate_35 : decode cX2_refusalToCalibrate 35 = .ok (.getfield 11, 3) := by decide +kernel
theorem dX2_refusalToCalibrate_38 : decode cX2_refusalToCalibrate 38 = .ok (.iload_n 1, 1) := by decide +kernel
theorem dX2_refusalToCalibrate_39 : decode cX2_refusalToCalibrate 39 = .ok (.aaload, 1) := by decide +kernel
theorem dX2_refusalToCalibrate_40 : decode cX2_refusalToCalibrate 40 = .ok (.iconst 0, 1) := by decide +kernel
theorem dX2_refusalToCalibrate_41 : decode cX2_refusalToCalibrate 41 = .ok (.aload_n 0, 1) := by decide +kernel
theorem dX2_refusalToCalibrate_42 : decode cX2_refusalToCalibrate 42 = .ok (.iload_n 3, 1) := by decide +kernel
theorem dX2_refusalToCalibrate_43 : decode cX2_refusalToCalibrate 43 = .ok (.invokevirtual 102, 3) := by decide +kernel
theorem dX2_refusalToCalibrate_46 : decode cX2_refusalToCalibrate 46 = .ok (.invokevirtual 89, 3) := by decide +kernel
theorem dX2_refusalToCalibrate_49 : decode cX2_refusalToCalibrate 49 = .ok (.iconst (-1), 1) := by decide +kernel
theorem dX2_refusalToCalibrate_50 : decode cX2_refusalToCalibrate 50 = .ok (.if_icmp .ne 7, 3) := by decide +kernel
theorem dX2_refusalToCalibrate_53 : decode cX2_refusalToCalibrate 53 = .ok (.iconst 2, 1) := by decide +kernel
theorem dX2_refusalToCalibrate_54 : decode cX2_refusalToCalibrate 54 = .ok (.goto 4, 3) := by decide +kernel
theorem dX2_refusalToCalibrate_57 : decode cX2_refusalToCalibrate 57 = .ok (.iconst 0, 1) := by decide +kernel
theorem dX2_refusalToCalibrate_58 : decode cX2_refusalToCalibrate 58 = .ok (.ireturn, 1) := by decide +kernel
set_option maxHeartbeats 4000000 in
set_option maxRecDepth 100000 in
theorem mX2_refusalToCalibrate (l : Launch) (G : gG) (da : Nat → Nat) (v : vSt) (x : gX) (r : Nat) (hk_r : kd r = 2) (p1 : Int32) (p2 : Int32) (hD : 0 ≤ (v r 2).toInt ∧ (v r 2).toInt ≤ 6 ∧ 0 ≤ (v r 3).toInt ∧ (v r 3).toInt ≤ 10) : QI l yX2_refusalToCalibrate cX2_refusalToCalibrate 4 (some .int) rmX2_refusalToCalibrate [.ref (ga G r), .int p1, .int p2] (pW G da v x) (fX2_refusalToCalibrate r p1 p2 v) := by
  refine gofQ (own := RX2) (by decide) rfl (Nat.le_of_ble_eq_true rfl) (fun p e s m args below meth c ls Q X hH hl E => ?_)
  have hx := X.1
  have hb := X.2.1
  have hown := X.2.2.2.1
  have hts := X.2.2.2.2.1
  have hS : va_S (gA G) s.heap s.heap [] := va_S.rf
  have hl : lv_has ls 4 [(0, .ref (ga G r)), (1, .int p1), (2, .int p2)] := hl
  refine lv_aload_n hx hb dX2_refusalToCalibrate_0 rfl (lv_at hl 0 rfl) ?_
  refine lv_iload_n hx hb dX2_refusalToCalibrate_1 rfl (lv_at hl 1 rfl) ?_
  refine k_X2_hasTool X hS hH hk_r t_ml_Drawer_79 hl.1 (Nat.le_of_ble_eq_true rfl) ⟨Nat.le_of_ble_eq_true rfl, Nat.le_of_ble_eq_true rfl⟩ ⟨Nat.zero_le _, Nat.zero_le _⟩ dX2_refusalToCalibrate_2 ?_
  refine lv_if_eq (tgt := 19) hx hb dX2_refusalToCalibrate_5 (by decide) (fun c1 => ?_) (fun c1 => ?_)
  · refine lv_iconst (v := 1) hx hb dX2_refusalToCalibrate_19 (by decide) ?_
    exact E _ _ _ dX2_refusalToCalibrate_20 rfl (Eq.symm ((if_pos c1).trans rfl))
  · refine lv_iload_n hx hb dX2_refusalToCalibrate_8 rfl (lv_at hl 2 rfl) ?_
    refine lv_iconst (v := 1) hx hb dX2_refusalToCalibrate_9 (by decide) ?_
    refine lv_sipush (v := 15000) hx hb dX2_refusalToCalibrate_10 (by decide) ?_
    refine kn_X10_inRange X hS  t_mn_Drawer_85 hl.1 (Nat.le_of_ble_eq_true rfl) ⟨Nat.le_of_ble_eq_true rfl, Nat.le_of_ble_eq_true rfl⟩ ⟨Nat.zero_le _, Nat.zero_le _⟩ dX2_refusalToCalibrate_13 ?_
    refine lv_if_ne (tgt := 21) hx hb dX2_refusalToCalibrate_16 (by decide) (fun c2 => ?_) (fun c2 => ?_)
    · refine lv_aload_n hx hb dX2_refusalToCalibrate_21 rfl (lv_at hl 0 rfl) ?_
      refine lv_iload_n hx hb dX2_refusalToCalibrate_22 rfl (lv_at hl 2 rfl) ?_
      refine k_X2_stack X hS hH hk_r hD t_ml_Drawer_99 hl.1 (Nat.le_of_ble_eq_true rfl) ⟨Nat.le_of_ble_eq_true rfl, Nat.le_of_ble_eq_true rfl⟩ ⟨Nat.zero_le _, Nat.zero_le _⟩ dX2_refusalToCalibrate_23 ?_
      refine lv_istore_n (lv' := [(3, .int (fX2_stack r p2 v)), (0, .ref (ga G r)), (1, .int p1), (2, .int p2)]) hx hb dX2_refusalToCalibrate_26 rfl hl (by decide) rfl (fun ls hl => ?_)
      refine lv_iload_n hx hb dX2_refusalToCalibrate_27 rfl (lv_at hl 0 rfl) ?_
      refine lv_if_ne (tgt := 33) hx hb dX2_refusalToCalibrate_28 (by decide) (fun c3 => ?_) (fun c3 => ?_)
      · refine lv_aload_n hx hb dX2_refusalToCalibrate_33 rfl (lv_at hl 1 rfl) ?_
        refine lv_aload_n hx hb dX2_refusalToCalibrate_34 rfl (lv_at hl 1 rfl) ?_
        refine g_Drawer_11 X hH hk_r dX2_refusalToCalibrate_35 ?_
        refine lv_iload_n hx hb dX2_refusalToCalibrate_38 rfl (lv_at hl 2 rfl) ?_
        have hi4 : vp_in p1 6 := (i_in (by have := hasTool_b c1; omega) (by have := hasTool_b c1; omega))
        refine qld_20 X hH (kc_2_20 hk_r) hi4 dX2_refusalToCalibrate_39 ?_
        refine lv_iconst (v := 0) hx hb dX2_refusalToCalibrate_40 (by decide) ?_
        refine lv_aload_n hx hb dX2_refusalToCalibrate_41 rfl (lv_at hl 1 rfl) ?_
        refine lv_iload_n hx hb dX2_refusalToCalibrate_42 rfl (lv_at hl 0 rfl) ?_
        refine k_X2_trueLengthOf X hS hH hk_r hD t_ml_Drawer_102 hl.1 (Nat.le_of_ble_eq_true rfl) ⟨Nat.le_of_ble_eq_true rfl, Nat.le_of_ble_eq_true rfl⟩ ⟨Nat.zero_le _, Nat.zero_le _⟩ dX2_refusalToCalibrate_43 ?_
        refine k_X2_reading X hS hH hk_r (ki_20 (kc_2_20 hk_r) (vp_lt hi4)) t_ml_Drawer_89 hl.1 (Nat.le_of_ble_eq_true rfl) ⟨Nat.le_of_ble_eq_true rfl, Nat.le_of_ble_eq_true rfl⟩ ⟨Nat.zero_le _, Nat.zero_le _⟩ dX2_refusalToCalibrate_46 ?_
        refine lv_iconst (v := (-1)) hx hb dX2_refusalToCalibrate_49 (by decide) ?_
        refine lv_icmp_ne (tgt := 57) hx hb dX2_refusalToCalibrate_50 (by decide) (fun c5 => ?_) (fun c5 => ?_)
        · refine lv_iconst (v := 0) hx hb dX2_refusalToCalibrate_57 (by decide) ?_
          exact E _ _ _ dX2_refusalToCalibrate_58 rfl (Eq.symm ((if_neg c1).trans ((if_neg c2).trans ((if_neg c3).trans ((if_neg c5).trans rfl)))))
        · refine lv_iconst (v := 2) hx hb dX2_refusalToCalibrate_53 (by decide) ?_
          refine lv_goto (tgt := 58) hx hb dX2_refusalToCalibrate_54 (by decide) ?_
          exact E _ _ _ dX2_refusalToCalibrate_58 rfl (Eq.symm ((if_neg c1).trans ((if_neg c2).trans ((if_neg c3).trans ((if_pos c5).trans rfl)))))
      · refine lv_iconst (v := 2) hx hb dX2_refusalToCalibrate_31 (by decide) ?_
        exact E _ _ _ dX2_refusalToCalibrate_32 rfl (Eq.symm ((if_neg c1).trans ((if_neg c2).trans ((if_pos c3).trans rfl))))
    · refine lv_iconst (v := 1) hx hb dX2_refusalToCalibrate_19 (by decide) ?_
      exact E _ _ _ dX2_refusalToCalibrate_20 rfl (Eq.symm ((if_neg c1).trans ((if_pos c2).trans rfl)))
theorem k_X2_refusalToCalibrate {p : Program} {l : Launch} {e : Env} {R : Room} {s : State} {m : MethodId} {args : Array Value} {below : List Frame} {meth : Method} {c : Code} {H : Heap} {locs : List Loc} {cells slots : Nat} {Q : State → Prop} {cc : ByteArray} {pc nL : Nat} {ls : Array Slot} {rest : List Value} {G : gG} {own : String} {da : Nat → Nat} {v : vSt} {x : gX} (X : CX G p s m args c cc nL own) (hS : va_S (gA G) s.heap H locs) (hH : Hp G da v x H) {r : Nat} (hk_r : kd r = 2) {p1 : Int32} {p2 : Int32} (hD : 0 ≤ (v r 2).toInt ∧ (v r 2).toInt ≤ 6 ∧ 0 ≤ (v r 3).toInt ∧ (v r 3).toInt ≤ 10) {idx : Nat} (hml : Cond.methodLink own idx yX2_refusalToCalibrate ∈ TT) (hls : ls.size = nL) (hsum : (rest.map fun v => v.category).sum ≤ 8) (hR : rmX2_refusalToCalibrate.frames + 1 ≤ R.frames ∧ 8 + (4 + 11) + rmX2_refusalToCalibrate.locals ≤ R.locals) (hcs : cells ≤ R.cells ∧ slots ≤ R.slots) (hdg : decode cc pc = .ok (.invokevirtual idx, 3)) (kk : W p l e R s m args below meth c H locs cells slots Q (F0 m (pc + 3) ls (.int (fX2_refusalToCalibrate r p1 p2 v) :: rest))) : W p l e R s m args below meth c H locs cells slots Q (F0 m pc ls (.int p2 :: .int p1 :: .ref (ga G r) :: rest)) := c_qi (runV (k := 2) X.1 X.2.1 X.2.2.1 X.2.2.2.1 X.2.2.2.2.1 (mX2_refusalToCalibrate l G da v x r hk_r p1 p2 hD) pW_bl hml t_im_X2_refusalToCalibrate t_sel_X2_refusalToCalibrate t_ini_Drawer t_code_X2_refusalToCalibrate ⟨rfl, by decide, by decide, by decide +kernel⟩ rfl rfl hR hcs (recvW X hH (by rw [hk_r]; decide) (by rw [hk_r]; decide) (ce_2 hk_r) rfl) (preW X hS hH) rfl hls rfl hsum hdg) (fun _ h => h ▸ kk)
