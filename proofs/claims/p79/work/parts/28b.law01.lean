/-! the law's methods: charts -/
def lL_chart_236 (v : vSt) (o1 : Nat) (p1 : Int32) : Nat → Int32 → Int32 → Int32 → Int32 → Int32 → Int32 → Int32 → Int32 → Int32 × Int32 × Int32 × Int32 × Int32 × Int32 × Int32
  | 0, i25, i26, i27, i28, i29, i30, i31, i32 => (i26, i27, i28, i29, i30, i31, i32)
  | n + 1, i25, i26, i27, i28, i29, i30, i31, i32 => if (((fX10_charted o1 p1 v).2) : Int32) ≤ i25 then ((i26, i27, i28, i29, i30, i31, i32)) else (let y37 : Int32 := (if (i32 : Int32) ≤ ((fX10_chartedAt o1 p1 i25 v).2) then i32 else ((fX10_chartedAt o1 p1 i25 v).2) : Int32); let y39 : Int32 := (if (((fX10_chartedAt o1 p1 i25 v).2) : Int32) ≤ i31 then i31 else ((fX10_chartedAt o1 p1 i25 v).2) : Int32); let y41 : Int32 := (if (i25 : Int32) ≤ (((fX10_charted o1 p1 v).2) - (6 : Int32)) then 0 else (if (i25 : Int32) ≤ 0 then 0 else (if (((fX10_chartedAt o1 p1 i25 v).2) : Int32) ≤ ((fX10_chartedAt o1 p1 (i25 - (1 : Int32)) v).2) then 0 else 1)) : Int32); let y43 : Int32 := (if (i25 : Int32) ≤ (((fX10_charted o1 p1 v).2) - (6 : Int32)) then 0 else (if (i25 : Int32) ≤ 0 then 0 else (if (((fX10_chartedAt o1 p1 (i25 - (1 : Int32)) v).2) : Int32) ≤ ((fX10_chartedAt o1 p1 i25 v).2) then 0 else 1)) : Int32); let y45 : Int32 := (if (i25 : Int32) ≤ (((fX10_charted o1 p1 v).2) - (8 : Int32)) then 0 else (if (((fX10_chartedAt o1 p1 i25 v).2) : Int32) ≤ 0 then 0 else 1) : Int32); let y47 : Int32 := (if (i25 : Int32) ≤ (((fX10_charted o1 p1 v).2) - (8 : Int32)) then 0 else (if (0 : Int32) ≤ ((fX10_chartedAt o1 p1 i25 v).2) then 0 else 1) : Int32); lL_chart_236 v o1 p1 n (i25 + 1) (i26 + y47) (i27 + y45) (i28 + y43) (i29 + y41) (i30 + ((fX10_chartedAt o1 p1 i25 v).2)) y39 y37)
def olL_chart_236 (v : vSt) (o1 : Nat) (p1 : Int32) : Nat → Int32 → Int32 → Int32 → Int32 → Int32 → Int32 → Int32 → Int32 → Prop
  | 0, _, _, _, _, _, _, _, _ => False
  | n + 1, i25, i26, i27, i28, i29, i30, i31, i32 => ¬ ((((fX10_charted o1 p1 v).2) : Int32) ≤ i25) → ((oX10_chartedAt o1 p1 i25 v) ∧ (((fX10_chartedAt o1 p1 i25 v).1 = 0) ∧ ((∀ (y37 : Int32), y37 = ((if (i32 : Int32) ≤ ((fX10_chartedAt o1 p1 i25 v).2) then i32 else ((fX10_chartedAt o1 p1 i25 v).2) : Int32) : Int32) → ((∀ (y39 : Int32), y39 = ((if (((fX10_chartedAt o1 p1 i25 v).2) : Int32) ≤ i31 then i31 else ((fX10_chartedAt o1 p1 i25 v).2) : Int32) : Int32) → ((¬ ((i25 : Int32) ≤ (((fX10_charted o1 p1 v).2) - (6 : Int32))) → (¬ ((i25 : Int32) ≤ 0) → ((oX10_chartedAt o1 p1 (i25 - (1 : Int32)) v) ∧ ((fX10_chartedAt o1 p1 (i25 - (1 : Int32)) v).1 = 0)))) ∧ (∀ (y41 : Int32), y41 = ((if (i25 : Int32) ≤ (((fX10_charted o1 p1 v).2) - (6 : Int32)) then 0 else (if (i25 : Int32) ≤ 0 then 0 else (if (((fX10_chartedAt o1 p1 i25 v).2) : Int32) ≤ ((fX10_chartedAt o1 p1 (i25 - (1 : Int32)) v).2) then 0 else 1)) : Int32) : Int32) → ((¬ ((i25 : Int32) ≤ (((fX10_charted o1 p1 v).2) - (6 : Int32))) → (¬ ((i25 : Int32) ≤ 0) → ((oX10_chartedAt o1 p1 (i25 - (1 : Int32)) v) ∧ ((fX10_chartedAt o1 p1 (i25 - (1 : Int32)) v).1 = 0)))) ∧ (∀ (y43 : Int32), y43 = ((if (i25 : Int32) ≤ (((fX10_charted o1 p1 v).2) - (6 : Int32)) then 0 else (if (i25 : Int32) ≤ 0 then 0 else (if (((fX10_chartedAt o1 p1 (i25 - (1 : Int32)) v).2) : Int32) ≤ ((fX10_chartedAt o1 p1 i25 v).2) then 0 else 1)) : Int32) : Int32) → ((∀ (y45 : Int32), y45 = ((if (i25 : Int32) ≤ (((fX10_charted o1 p1 v).2) - (8 : Int32)) then 0 else (if (((fX10_chartedAt o1 p1 i25 v).2) : Int32) ≤ 0 then 0 else 1) : Int32) : Int32) → ((∀ (y47 : Int32), y47 = ((if (i25 : Int32) ≤ (((fX10_charted o1 p1 v).2) - (8 : Int32)) then 0 else (if (0 : Int32) ≤ ((fX10_chartedAt o1 p1 i25 v).2) then 0 else 1) : Int32) : Int32) → (olL_chart_236 v o1 p1 n (i25 + 1) (i26 + y47) (i27 + y45) (i28 + y43) (i29 + y41) (i30 + ((fX10_chartedAt o1 p1 i25 v).2)) y39 y37)))))))))))))))
def lL_chart_607 (v : vSt) (o1 : Nat) (p1 : Int32) : Nat → Int32 → Int32 → Int32 → Int32 × Int32
  | 0, i75, i76, i77 => (i76, i77)
  | n + 1, i75, i76, i77 => if (((fX10_charted o1 p1 v).2) : Int32) ≤ i75 then ((i76, i77)) else (let y81 : Int32 := (if (((fX10_middleOf o1 p1 v).2.1) : Int32) ≤ ((fX10_chartedAt o1 p1 i75 v).2) then 0 else 1 : Int32); let y83 : Int32 := (if (((fX10_chartedAt o1 p1 i75 v).2) : Int32) = ((fX10_middleOf o1 p1 v).2.1) then 1 else 0 : Int32); lL_chart_607 v o1 p1 n (i75 + 1) (i76 + y83) (i77 + y81))
def olL_chart_607 (v : vSt) (o1 : Nat) (p1 : Int32) : Nat → Int32 → Int32 → Int32 → Prop
  | 0, _, _, _ => False
  | n + 1, i75, i76, i77 => ¬ ((((fX10_charted o1 p1 v).2) : Int32) ≤ i75) → ((oX10_chartedAt o1 p1 i75 v) ∧ (((fX10_chartedAt o1 p1 i75 v).1 = 0) ∧ ((∀ (y81 : Int32), y81 = ((if (((fX10_middleOf o1 p1 v).2.1) : Int32) ≤ ((fX10_chartedAt o1 p1 i75 v).2) then 0 else 1 : Int32) : Int32) → ((∀ (y83 : Int32), y83 = ((if (((fX10_chartedAt o1 p1 i75 v).2) : Int32) = ((fX10_middleOf o1 p1 v).2.1) then 1 else 0 : Int32) : Int32) → (olL_chart_607 v o1 p1 n (i75 + 1) (i76 + y83) (i77 + y81))))))))
def oL_chart (o1 : Nat) (p1 : Int32) (v : vSt) : Prop := (oX10_charted o1 p1 v) ∧ (((fX10_charted o1 p1 v).1 = 0) ∧ ((¬ ((((fX10_charted o1 p1 v).2) : Int32) < 0)) ∧ ((¬ ((12 : Int32) < ((fX10_charted o1 p1 v).2))) ∧ ((oX10_recordOf o1 p1 v) ∧ (((fX10_recordOf o1 p1 v).1 = 0) ∧ ((¬ ((10 : Int32) < ((fX10_recordOf o1 p1 v).2))) ∧ ((oX10_badOf o1 p1 v) ∧ (((fX10_badOf o1 p1 v).1 = 0) ∧ ((¬ ((((fX10_recordOf o1 p1 v).2) : Int32) < ((fX10_badOf o1 p1 v).2))) ∧ ((¬ ((((fX10_badOf o1 p1 v).2) : Int32) < 0)) ∧ ((oX10_mannerOf o1 p1 v) ∧ (((fX10_mannerOf o1 p1 v).1 = 0) ∧ ((¬ ((((fX10_mannerOf o1 p1 v).2) : Int32) < 0)) ∧ ((¬ ((2 : Int32) < ((fX10_mannerOf o1 p1 v).2))) ∧ ((oX10_widthOf o1 p1 v) ∧ (((fX10_widthOf o1 p1 v).1 = 0) ∧ ((¬ ((((fX10_widthOf o1 p1 v).2) : Int32) < 0)) ∧ ((¬ ((198 : Int32) < ((fX10_widthOf o1 p1 v).2))) ∧ ((oL_chartedAt o1 p1 ((fX10_charted o1 p1 v).2) v) ∧ ((((fL_chartedAt o1 p1 ((fX10_charted o1 p1 v).2) v) : Int32) = (-100104)) ∧ ((oL_chartedAt o1 p1 (-1) v) ∧ ((((fL_chartedAt o1 p1 (-1) v) : Int32) = (-100102)) ∧ (((((((fX10_mannerOf o1 p1 v).2) : Int32) = 2) → ((oL_goodUntilChange o1 p1 v) ∧ ((((fL_goodUntilChange o1 p1 v) : Int32) = (-100104)) ∧ (((((fX10_badOf o1 p1 v).2) : Int32) = 0))))) ∧ (¬ ((((fX10_mannerOf o1 p1 v).2) : Int32) = 2) → ((oX10_goodUntilChange o1 p1 v) ∧ (((fX10_goodUntilChange o1 p1 v).1 = 0) ∧ ((¬ ((((fX10_goodUntilChange o1 p1 v).2) : Int32) < 1)) ∧ ((∀ (y28 : Int32), y28 = ((if (((fX10_mannerOf o1 p1 v).2) : Int32) = 0 then 10 else 5 : Int32) : Int32) → ((¬ ((y28 : Int32) < ((fX10_goodUntilChange o1 p1 v).2))) ∧ (¬ ((0 : Int32) < ((fX10_badOf o1 p1 v).2)) → ((∀ (y32 : Int32), y32 = ((if (((fX10_mannerOf o1 p1 v).2) : Int32) = 0 then 10 else 5 : Int32) : Int32) → (((((fX10_goodUntilChange o1 p1 v).2) : Int32) = (y32 - ((fX10_recordOf o1 p1 v).2))))))))))))))) ∧ (olL_chart_236 v o1 p1 (13) 0 0 0 0 0 0 (-9999) 9999 ∧ (∀ (y33 : Int32) (y34 : Int32) (y35 : Int32) (y36 : Int32) (y37 : Int32) (y38 : Int32) (y39 : Int32), y33 = ((lL_chart_236 v o1 p1 (13) 0 0 0 0 0 0 (-9999) 9999) : Int32 × Int32 × Int32 × Int32 × Int32 × Int32 × Int32).1 → y34 = ((lL_chart_236 v o1 p1 (13) 0 0 0 0 0 0 (-9999) 9999) : Int32 × Int32 × Int32 × Int32 × Int32 × Int32 × Int32).2.1 → y35 = ((lL_chart_236 v o1 p1 (13) 0 0 0 0 0 0 (-9999) 9999) : Int32 × Int32 × Int32 × Int32 × Int32 × Int32 × Int32).2.2.1 → y36 = ((lL_chart_236 v o1 p1 (13) 0 0 0 0 0 0 (-9999) 9999) : Int32 × Int32 × Int32 × Int32 × Int32 × Int32 × Int32).2.2.2.1 → y37 = ((lL_chart_236 v o1 p1 (13) 0 0 0 0 0 0 (-9999) 9999) : Int32 × Int32 × Int32 × Int32 × Int32 × Int32 × Int32).2.2.2.2.1 → y38 = ((lL_chart_236 v o1 p1 (13) 0 0 0 0 0 0 (-9999) 9999) : Int32 × Int32 × Int32 × Int32 × Int32 × Int32 × Int32).2.2.2.2.2.1 → y39 = ((lL_chart_236 v o1 p1 (13) 0 0 0 0 0 0 (-9999) 9999) : Int32 × Int32 × Int32 × Int32 × Int32 × Int32 × Int32).2.2.2.2.2.2 → ((oX10_signalsOf o1 p1 v) ∧ (((fX10_signalsOf o1 p1 v).1 = 0) ∧ ((¬ ((((fX10_signalsOf o1 p1 v).2) : Int32) < 0)) ∧ ((¬ ((16 : Int32) ≤ ((fX10_signalsOf o1 p1 v).2))) ∧ ((∀ (y65 : Int32), y65 = ((if (((fX10_charted o1 p1 v).2) : Int32) ≤ 5 then 0 else (if (y36 : Int32) = 5 then 1 else (if (y35 : Int32) = 5 then 1 else 0)) : Int32) : Int32) → (((((((fX10_signalsOf o1 p1 v).2) >>> ((1 : Int32) &&& 31)) &&& (1 : Int32)) : Int32) = y65) ∧ ((∀ (y68 : Int32), y68 = ((if (((fX10_charted o1 p1 v).2) : Int32) ≤ 6 then 0 else (if (y34 : Int32) = 7 then 1 else (if (y33 : Int32) = 7 then 1 else 0)) : Int32) : Int32) → (((((((fX10_signalsOf o1 p1 v).2) >>> ((2 : Int32) &&& 31)) &&& (1 : Int32)) : Int32) = y68) ∧ ((¬ ((2 : Int32) < ((fX10_charted o1 p1 v).2)) → ((¬ ((8 : Int32) ≤ ((fX10_signalsOf o1 p1 v).2))))) ∧ ((((((fX10_charted o1 p1 v).2) : Int32) = 0) → (((((fX10_signalsOf o1 p1 v).2) : Int32) = 0) ∧ ((oL_middleOf o1 p1 v) ∧ ((((fL_middleOf o1 p1 v) : Int32) = (-100104)) ∧ ((oL_middleByTaking o1 p1 v) ∧ ((((fL_middleByTaking o1 p1 v) : Int32) = (-100104)) ∧ ((oL_spreadOf o1 p1 v) ∧ ((((fL_spreadOf o1 p1 v) : Int32) = (-100104)) ∧ ((oL_meanOf o1 p1 v) ∧ ((((Op.cmpValue (FP.fcmp (fL_meanOf o1 p1 v) (3351479296 : UInt32)) .l) : Int32) = 0))))))))))) ∧ (¬ ((((fX10_charted o1 p1 v).2) : Int32) = 0) → ((oX10_middleOf o1 p1 v) ∧ (((fX10_middleOf o1 p1 v).1 = 0) ∧ (olL_chart_607 v o1 p1 (13) 0 0 0 ∧ (∀ (y78 : Int32) (y79 : Int32), y78 = ((lL_chart_607 v o1 p1 (13) 0 0 0) : Int32 × Int32).1 → y79 = ((lL_chart_607 v o1 p1 (13) 0 0 0) : Int32 × Int32).2 → ((¬ ((y78 : Int32) ≤ 0)) ∧ ((¬ (((((fX10_charted o1 p1 v).2) / (2 : Int32)) : Int32) < y79)) ∧ ((¬ (((y79 + y78) : Int32) ≤ (((fX10_charted o1 p1 v).2) / (2 : Int32)))) ∧ ((oX10_middleByTaking o1 p1 v) ∧ (((fX10_middleByTaking o1 p1 v).1 = 0) ∧ (((((fX10_middleByTaking o1 p1 v).2.1) : Int32) = ((fX10_middleOf o1 p1 v).2.1)) ∧ ((oX10_spreadOf o1 p1 v) ∧ (((fX10_spreadOf o1 p1 v).1 = 0) ∧ (((((fX10_spreadOf o1 p1 v).2) : Int32) = (y38 - y39)) ∧ ((oL_meanOf o1 p1 v) ∧ ((vf_n32 (FP.fdiv (FP.i2f y37) (FP.i2f ((fX10_charted o1 p1 v).2)))) ∧ ((((Op.cmpValue (FP.fcmp (fL_meanOf o1 p1 v) (FP.fdiv (FP.i2f y37) (FP.i2f ((fX10_charted o1 p1 v).2)))) .l) : Int32) = 0)))))))))))))))))))))))))))))))))))))))))))))))))))))))
abbrev rmL_chart : Room := { frames := 10, cells := 132, slots := 132, locals := 177 }
theorem dL_chart_0 : decode cL_chart 0 = .ok (.aload_n 0, 1) := by decide +kernel
theorem dL_chart_1 : decode cL_chart 1 = .ok (.iload_n 1, 1) := by decide +kernel
theorem dL_chart_2 : decode cL_chart 2 = .ok (.invokevirtual 188, 3) := by decide +kernel
theorem dL_chart_5 : decode cL_chart 5 = .ok (.istore_n 2, 1) := by decide +kernel
theorem dL_chart_6 : decode cL_chart 6 = .ok (.sipush 9999, 3) := by decide +kernel
theorem dL_chart_9 : decode cL_chart 9 = .ok (.istore_n 3, 1) := by decide +kernel
theorem dL_chart_10 : decode cL_chart 10 = .ok (.sipush (-9999), 3) := by decide +kernel
theorem dL_chart_13 : decode cL_chart 13 = .ok (.istore 4, 2) := by decide +kernel
theorem dL_chart_15 : decode cL_chart 15 = .ok (.iconst 0, 1) := by decide +kernel
theorem dL_chart_16 : decode cL_chart 16 = .ok (.istore 5, 2) := by decide +kernel
theorem dL_chart_18 : decode cL_chart 18 = .ok (.iconst 0, 1) := by decide +kernel
theorem dL_chart_19 : decode cL_chart 19 = .ok (.istore 6, 2) := by decide +kernel
theorem dL_chart_21 : decode cL_chart 21 = .ok (.iconst 0, 1) := by decide +kernel
theorem dL_chart_22 : decode cL_chart 22 = .ok (.istore 7, 2) := by decide +kernel
theorem dL_chart_24 : decode cL_chart 24 = .ok (.iconst 0, 1) := by decide +kernel
theorem dL_chart_25 : decode cL_chart 25 = .ok (.istore 8, 2) := by decide +kernel
theorem dL_chart_27 : decode cL_chart 27 = .ok (.iconst 0, 1) := by decide +kernel
theorem dL_chart_28 : decode cL_chart 28 = .ok (.istore 9, 2) := by decide +kernel
theorem dL_chart_30 : decode cL_chart 30 = .ok (.iload_n 2, 1) := by decide +kernel
theorem dL_chart_31 : decode cL_chart 31 = .ok (.ifCond .lt 199, 3) := by decide +kernel
theorem dL_chart_34 : decode cL_chart 34 = .ok (.iload_n 2, 1) := by decide +kernel
theorem dL_chart_35 : decode cL_chart 35 = .ok (.bipush 12, 2) := by decide +kernel
theorem dL_chart_37 : decode cL_chart 37 = .ok (.if_icmp .gt 193, 3) := by decide +kernel
theorem dL_chart_40 : decode cL_chart 40 = .ok (.aload_n 0, 1) := by decide +kernel
theorem dL_chart_41 : decode cL_chart 41 = .ok (.iload_n 1, 1) := by decide +kernel
theorem dL_chart_42 : decode cL_chart 42 = .ok (.invokevirtual 182, 3) := by decide +kernel
theorem dL_chart_45 : decode cL_chart 45 = .ok (.bipush 10, 2) := by decide +kernel
theorem dL_chart_47 : decode cL_chart 47 = .ok (.if_icmp .gt 183, 3) := by decide +kernel
theorem dL_chart_50 : decode cL_chart 50 = .ok (.aload_n 0, 1) := by decide +kernel
theorem dL_chart_51 : decode cL_chart 51 = .ok (.iload_n 1, 1) := by decide +kernel
theorem dL_chart_52 : decode cL_chart 52 = .ok (.invokevirtual 185, 3) := by decide +kernel
theorem dL_chart_55 : decode cL_chart 55 = .ok (.aload_n 0, 1) := by decide +kernel
theorem dL_chart_56 : decode cL_chart 56 = .ok (.iload_n 1, 1) := by decide +kernel
theorem dL_chart_57 : decode cL_chart 57 = .ok (.invokevirtual 182, 3) := by decide +kernel
theorem dL_chart_60 : decode cL_chart 60 = .ok (.if_icmp .gt 170, 3) := by decide +kernel
theorem dL_chart_63 : decode cL_chart 63 = .ok (.aload_n 0, 1) := by decide +kernel
theorem dL_chart_64 : decode cL_chart 64 = .ok (.iload_n 1, 1) := by decide +kernel
theorem dL_chart_65 : decode cL_chart 65 = .ok (.invokevirtual 185, 3) := by decide +kernel
theorem dL_chart_68 : decode cL_chart 68 = .ok (.ifCond .lt 162, 3) := by decide +kernel
theorem dL_chart_71 : decode cL_chart 71 = .ok (.aload_n 0, 1) := by decide +kernel
theorem dL_chart_72 : decode cL_chart 72 = .ok (.iload_n 1, 1) := by decide +kernel
theorem dL_chart_73 : decode cL_chart 73 = .ok (.invokevirtual 179, 3) := by decide +kernel
theorem dL_chart_76 : decode cL_chart 76 = .ok (.ifCond .lt 154, 3) := by decide +kernel
theorem dL_chart_79 : decode cL_chart 79 = .ok (.aload_n 0, 1) := by decide +kernel
theorem dL_chart_80 : decode cL_chart 80 = .ok (.iload_n 1, 1) := by decide +kernel
theorem dL_chart_81 : decode cL_chart 81 = .ok (.invokevirtual 179, 3) := by decide +kernel
theorem dL_chart_84 : decode cL_chart 84 = .ok (.iconst 2, 1) := by decide +kernel
theorem dL_chart_85 : decode cL_chart 85 = .ok (.if_icmp .gt 145, 3) := by decide +kernel
theorem dL_chart_88 : decode cL_chart 88 = .ok (.aload_n 0, 1) := by decide +kernel
theorem dL_chart_89 : decode cL_chart 89 = .ok (.iload_n 1, 1) := by decide +kernel
theorem dL_chart_90 : decode cL_chart 90 = .ok (.invokevirtual 176, 3) := by decide +kernel
theorem dL_chart_93 : decode cL_chart 93 = .ok (.ifCond .lt 137, 3) := by decide +kernel
theorem dL_chart_96 : decode cL_chart 96 = .ok (.aload_n 0, 1) := by decide +kernel
theorem dL_chart_97 : decode cL_chart 97 = .ok (.iload_n 1, 1) := by decide +kernel
theorem dL_chart_98 : decode cL_chart 98 = .ok (.invokevirtual 176, 3) := by decide +kernel
theorem dL_chart_101 : decode cL_chart 101 = .ok (.sipush 198, 3) := by decide +kernel
theorem dL_chart_104 : decode cL_chart 104 = .ok (.if_icmp .gt 126, 3) := by decide +kernel
theorem dL_chart_107 : decode cL_chart 107 = .ok (.aload_n 0, 1) := by decide +kernel
theorem dL_chart_108 : decode cL_chart 108 = .ok (.iload_n 1, 1) := by decide +kernel
theorem dL_chart_109 : decode cL_chart 109 = .ok (.iload_n 2, 1) := by decide +kernel
theorem dL_chart_110 : decode cL_chart 110 = .ok (.invokestatic 265, 3) := by decide +kernel
theorem dL_chart_113 : decode cL_chart 113 = .ok (.ldc 73, 2) := by decide +kernel
theorem dL_chart_115 : decode cL_chart 115 = .ok (.if_icmp .ne 115, 3) := by decide +kernel
theorem dL_chart_118 : decode cL_chart 118 = .ok (.aload_n 0, 1) := by decide +kernel
theorem dL_chart_119 : decode cL_chart 119 = .ok (.iload_n 1, 1) := by decide +kernel
theorem dL_chart_120 : decode cL_chart 120 = .ok (.iconst (-1), 1) := by decide +kernel
theorem dL_chart_121 : decode cL_chart 121 = .ok (.invokestatic 265, 3) := by decide +kernel
theorem dL_chart_124 : decode cL_chart 124 = .ok (.ldc 17, 2) := by decide +kernel
theorem dL_chart_126 : decode cL_chart 126 = .ok (.if_icmp .ne 104, 3) := by decide +kernel
theorem dL_chart_129 : decode cL_chart 129 = .ok (.aload_n 0, 1) := by decide +kernel
theorem dL_chart_130 : decode cL_chart 130 = .ok (.iload_n 1, 1) := by decide +kernel
theorem dL_chart_131 : decode cL_chart 131 = .ok (.invokevirtual 179, 3) := by decide +kernel
theorem dL_chart_134 : decode cL_chart 134 = .ok (.iconst 2, 1) := by decide +kernel
theorem dL_chart_135 : decode cL_chart 135 = .ok (.if_icmp .ne 24, 3) := by decide +kernel
theorem dL_chart_138 : decode cL_chart 138 = .ok (.aload_n 0, 1) := by decide +kernel
theorem dL_chart_139 : decode cL_chart 139 = .ok (.iload_n 1, 1) := by decide +kernel
theorem dL_chart_140 : decode cL_chart 140 = .ok (.invokestatic 268, 3) := by decide +kernel
theorem dL_chart_143 : decode cL_chart 143 = .ok (.ldc 73, 2) := by decide +kernel
theorem dL_chart_145 : decode cL_chart 145 = .ok (.if_icmp .ne 85, 3) := by decide +kernel
theorem dL_chart_148 : decode cL_chart 148 = .ok (.aload_n 0, 1) := by decide +kernel
theorem dL_chart_149 : decode cL_chart 149 = .ok (.iload_n 1, 1) := by decide +kernel
theorem dL_chart_150 : decode cL_chart 150 = .ok (.invokevirtual 185, 3) := by decide +kernel
theorem dL_chart_153 : decode cL_chart 153 = .ok (.ifCond .ne 77, 3) := by decide +kernel
theorem dL_chart_156 : decode cL_chart 156 = .ok (.goto 70, 3) := by decide +kernel
theorem dL_chart_159 : decode cL_chart 159 = .ok (.aload_n 0, 1) := by decide +kernel
theorem dL_chart_160 : decode cL_chart 160 = .ok (.iload_n 1, 1) := by decide +kernel
theorem dL_chart_161 : decode cL_chart 161 = .ok (.invokevirtual 86, 3) := by decide +kernel
theorem dL_chart_164 : decode cL_chart 164 = .ok (.iconst 1, 1) := by decide +kernel
theorem dL_chart_165 : decode cL_chart 165 = .ok (.if_icmp .lt 65, 3) := by decide +kernel
theorem dL_chart_168 : decode cL_chart 168 = .ok (.aload_n 0, 1) := by decide +kernel
theorem dL_chart_169 : decode cL_chart 169 = .ok (.iload_n 1, 1) := by decide +kernel
theorem dL_chart_170 : decode cL_chart 170 = .ok (.invokevirtual 86, 3) := by decide +kernel
theorem dL_chart_173 : decode cL_chart 173 = .ok (.aload_n 0, 1) := by decide +kernel
theorem dL_chart_174 : decode cL_chart 174 = .ok (.iload_n 1, 1) := by decide +kernel
theorem dL_chart_175 : decode cL_chart 175 = .ok (.invokevirtual 179, 3) := by decide +kernel
theorem dL_chart_178 : decode cL_chart 178 = .ok (.ifCond .ne 8, 3) := by decide +kernel
theorem dL_chart_181 : decode cL_chart 181 = .ok (.bipush 10, 2) := by decide +kernel
theorem dL_chart_183 : decode cL_chart 183 = .ok (.goto 4, 3) := by decide +kernel
theorem dL_chart_186 : decode cL_chart 186 = .ok (.iconst 5, 1) := by decide +kernel
theorem dL_chart_187 : decode cL_chart 187 = .ok (.if_icmp .gt 43, 3) := by decide +kernel
theorem dL_chart_190 : decode cL_chart 190 = .ok (.aload_n 0, 1) := by decide +kernel
theorem dL_chart_191 : decode cL_chart 191 = .ok (.iload_n 1, 1) := by decide +kernel
theorem dL_chart_192 : decode cL_chart 192 = .ok (.invokevirtual 185, 3) := by decide +kernel
theorem dL_chart_195 : decode cL_chart 195 = .ok (.ifCond .gt 31, 3) := by decide +kernel
theorem dL_chart_198 : decode cL_chart 198 = .ok (.aload_n 0, 1) := by decide +kernel
theorem dL_chart_199 : decode cL_chart 199 = .ok (.iload_n 1, 1) := by decide +kernel
theorem dL_chart_200 : decode cL_chart 200 = .ok (.invokevirtual 86, 3) := by decide +kernel
theorem dL_chart_203 : decode cL_chart 203 = .ok (.aload_n 0, 1) := by decide +kernel
theorem dL_chart_204 : decode cL_chart 204 = .ok (.iload_n 1, 1) := by decide +kernel
theorem dL_chart_205 : decode cL_chart 205 = .ok (.invokevirtual 179, 3) := by decide +kernel
theorem dL_chart_208 : decode cL_chart 208 = .ok (.ifCond .ne 8, 3) := by decide +kernel
theorem dL_chart_211 : decode cL_chart 211 = .ok (.bipush 10, 2) := by decide +kernel
theorem dL_chart_213 : decode cL_chart 213 = .ok (.goto 4, 3) := by decide +kernel
theorem dL_chart_216 : decode cL_chart 216 = .ok (.iconst 5, 1) := by decide +kernel
theorem dL_chart_217 : decode cL_chart 217 = .ok (.aload_n 0, 1) := by decide +kernel
theorem dL_chart_218 : decode cL_chart 218 = .ok (.iload_n 1, 1) := by decide +kernel
theorem dL_chart_219 : decode cL_chart 219 = .ok (.invokevirtual 182, 3) := by decide +kernel
theorem dL_chart_222 : decode cL_chart 222 = .ok (.isub, 1) := by decide +kernel
theorem dL_chart_223 : decode cL_chart 223 = .ok (.if_icmp .ne 7, 3) := by decide +kernel
theorem dL_chart_226 : decode cL_chart 226 = .ok (.iconst 1, 1) := by decide +kernel
theorem dL_chart_227 : decode cL_chart 227 = .ok (.goto 4, 3) := by decide +kernel
theorem dL_chart_231 : decode cL_chart 231 = .ok (.istore 10, 2) := by decide +kernel
theorem dL_chart_233 : decode cL_chart 233 = .ok (.iconst 0, 1) := by decide +kernel
theorem dL_chart_234 : decode cL_chart 234 = .ok (.istore 11, 2) := by decide +kernel
theorem dL_chart_236 : decode cL_chart 236 = .ok (.iload 11, 2) := by decide +kernel
theorem dL_chart_238 : decode cL_chart 238 = .ok (.iload_n 2, 1) := by decide +kernel
theorem dL_chart_239 : decode cL_chart 239 = .ok (.if_icmp .ge 183, 3) := by decide +kernel
theorem dL_chart_242 : decode cL_chart 242 = .ok (.iload 10, 2) := by decide +kernel
theorem dL_chart_244 : decode cL_chart 244 = .ok (.ifCond .eq 178, 3) := by decide +kernel
theorem dL_chart_247 : decode cL_chart 247 = .ok (.aload_n 0, 1) := by decide +kernel
theorem dL_chart_248 : decode cL_chart 248 = .ok (.iload_n 1, 1) := by decide +kernel
theorem dL_chart_249 : decode cL_chart 249 = .ok (.iload 11, 2) := by decide +kernel
theorem dL_chart_251 : decode cL_chart 251 = .ok (.invokevirtual 89, 3) := by decide +kernel
theorem dL_chart_254 : decode cL_chart 254 = .ok (.istore 12, 2) := by decide +kernel
theorem dL_chart_256 : decode cL_chart 256 = .ok (.iload 12, 2) := by decide +kernel
theorem dL_chart_258 : decode cL_chart 258 = .ok (.iload_n 3, 1) := by decide +kernel
theorem dL_chart_259 : decode cL_chart 259 = .ok (.if_icmp .ge 8, 3) := by decide +kernel
theorem dL_chart_262 : decode cL_chart 262 = .ok (.iload 12, 2) := by decide +kernel
theorem dL_chart_264 : decode cL_chart 264 = .ok (.goto 4, 3) := by decide +kernel
theorem dL_chart_267 : decode cL_chart 267 = .ok (.iload_n 3, 1) := by decide +kernel
theorem dL_chart_268 : decode cL_chart 268 = .ok (.istore_n 3, 1) := by decide +kernel
theorem dL_chart_269 : decode cL_chart 269 = .ok (.iload 12, 2) := by decide +kernel
theorem dL_chart_271 : decode cL_chart 271 = .ok (.iload 4, 2) := by decide +kernel
theorem dL_chart_273 : decode cL_chart 273 = .ok (.if_icmp .le 8, 3) := by decide +kernel
theorem dL_chart_276 : decode cL_chart 276 = .ok (.iload 12, 2) := by decide +kernel
theorem dL_chart_278 : decode cL_chart 278 = .ok (.goto 5, 3) := by decide +kernel
theorem dL_chart_281 : decode cL_chart 281 = .ok (.iload 4, 2) := by decide +kernel
theorem dL_chart_283 : decode cL_chart 283 = .ok (.istore 4, 2) := by decide +kernel
theorem dL_chart_285 : decode cL_chart 285 = .ok (.iload 5, 2) := by decide +kernel
theorem dL_chart_287 : decode cL_chart 287 = .ok (.iload 12, 2) := by decide +kernel
theorem dL_chart_289 : decode cL_chart 289 = .ok (.iadd, 1) := by decide +kernel
theorem dL_chart_290 : decode cL_chart 290 = .ok (.istore 5, 2) := by decide +kernel
theorem dL_chart_292 : decode cL_chart 292 = .ok (.iload 6, 2) := by decide +kernel
theorem dL_chart_294 : decode cL_chart 294 = .ok (.iload 11, 2) := by decide +kernel
theorem dL_chart_296 : decode cL_chart 296 = .ok (.iload_n 2, 1) := by decide +kernel
theorem dL_chart_297 : decode cL_chart 297 = .ok (.bipush 6, 2) := by decide +kernel
theorem dL_chart_299 : decode cL_chart 299 = .ok (.isub, 1) := by decide +kernel
theorem dL_chart_300 : decode cL_chart 300 = .ok (.if_icmp .le 26, 3) := by decide +kernel
theorem dL_chart_303 : decode cL_chart 303 = .ok (.iload 11, 2) := by decide +kernel
theorem dL_chart_305 : decode cL_chart 305 = .ok (.ifCond .le 21, 3) := by decide +kernel
theorem dL_chart_308 : decode cL_chart 308 = .ok (.iload 12, 2) := by decide +kernel
theorem dL_chart_310 : decode cL_chart 310 = .ok (.aload_n 0, 1) := by decide +kernel
theorem dL_chart_311 : decode cL_chart 311 = .ok (.iload_n 1, 1) := by decide +kernel
theorem dL_chart_312 : decode cL_chart 312 = .ok (.iload 11, 2) := by decide +kernel
theorem dL_chart_314 : decode cL_chart 314 = .ok (.iconst 1, 1) := by decide +kernel
theorem dL_chart_315 : decode cL_chart 315 = .ok (.isub, 1) := by decide +kernel
theorem dL_chart_316 : decode cL_chart 316 = .ok (.invokevirtual 89, 3) := by decide +kernel
theorem dL_chart_319 : decode cL_chart 319 = .ok (.if_icmp .le 7, 3) := by decide +kernel
theorem dL_chart_322 : decode cL_chart 322 = .ok (.iconst 1, 1) := by decide +kernel
theorem dL_chart_323 : decode cL_chart 323 = .ok (.goto 4, 3) := by decide +kernel
theorem dL_chart_326 : decode cL_chart 326 = .ok (.iconst 0, 1) := by decide +kernel
theorem dL_chart_327 : decode cL_chart 327 = .ok (.iadd, 1) := by decide +kernel
theorem dL_chart_328 : decode cL_chart 328 = .ok (.istore 6, 2) := by decide +kernel
theorem dL_chart_330 : decode cL_chart 330 = .ok (.iload 7, 2) := by decide +kernel
theorem dL_chart_332 : decode cL_chart 332 = .ok (.iload 11, 2) := by decide +kernel
theorem dL_chart_334 : decode cL_chart 334 = .ok (.iload_n 2, 1) := by decide +kernel
theorem dL_chart_335 : decode cL_chart 335 = .ok (.bipush 6, 2) := by decide +kernel
theorem dL_chart_337 : decode cL_chart 337 = .ok (.isub, 1) := by decide +kernel
theorem dL_chart_338 : decode cL_chart 338 = .ok (.if_icmp .le 26, 3) := by decide +kernel
theorem dL_chart_341 : decode cL_chart 341 = .ok (.iload 11, 2) := by decide +kernel
theorem dL_chart_343 : decode cL_chart 343 = .ok (.ifCond .le 21, 3) := by decide +kernel
theorem dL_chart_346 : decode cL_chart 346 = .ok (.iload 12, 2) := by decide +kernel
theorem dL_chart_348 : decode cL_chart 348 = .ok (.aload_n 0, 1) := by decide +kernel
theorem dL_chart_349 : decode cL_chart 349 = .ok (.iload_n 1, 1) := by decide +kernel
theorem dL_chart_350 : decode cL_chart 350 = .ok (.iload 11, 2) := by decide +kernel
theorem dL_chart_352 : decode cL_chart 352 = .ok (.iconst 1, 1) := by decide +kernel
theorem dL_chart_353 : decode cL_chart 353 = .ok (.isub, 1) := by decide +kernel
theorem dL_chart_354 : decode cL_chart 354 = .ok (.invokevirtual 89, 3) := by decide +kernel
theorem dL_chart_357 : decode cL_chart 357 = .ok (.if_icmp .ge 7, 3) := by decide +kernel
theorem dL_chart_360 : decode cL_chart 360 = .ok (.iconst 1, 1) := by decide +kernel
theorem dL_chart_361 : decode cL_chart 361 = .ok (.goto 4, 3) := by decide +kernel
theorem dL_chart_364 : decode cL_chart 364 = .ok (.iconst 0, 1) := by decide +kernel
theorem dL_chart_365 : decode cL_chart 365 = .ok (.iadd, 1) := by decide +kernel
theorem dL_chart_366 : decode cL_chart 366 = .ok (.istore 7, 2) := by decide +kernel
theorem dL_chart_368 : decode cL_chart 368 = .ok (.iload 8, 2) := by decide +kernel
theorem dL_chart_370 : decode cL_chart 370 = .ok (.iload 11, 2) := by decide +kernel
theorem dL_chart_372 : decode cL_chart 372 = .ok (.iload_n 2, 1) := by decide +kernel
theorem dL_chart_373 : decode cL_chart 373 = .ok (.bipush 8, 2) := by decide +kernel
theorem dL_chart_375 : decode cL_chart 375 = .ok (.isub, 1) := by decide +kernel
theorem dL_chart_376 : decode cL_chart 376 = .ok (.if_icmp .le 12, 3) := by decide +kernel
theorem dL_chart_379 : decode cL_chart 379 = .ok (.iload 12, 2) := by decide +kernel
theorem dL_chart_381 : decode cL_chart 381 = .ok (.ifCond .le 7, 3) := by decide +kernel
theorem dL_chart_384 : decode cL_chart 384 = .ok (.iconst 1, 1) := by decide +kernel
theorem dL_chart_385 : decode cL_chart 385 = .ok (.goto 4, 3) := by decide +kernel
theorem dL_chart_388 : decode cL_chart 388 = .ok (.iconst 0, 1) := by decide +kernel
theorem dL_chart_389 : decode cL_chart 389 = .ok (.iadd, 1) := by decide +kernel
theorem dL_chart_390 : decode cL_chart 390 = .ok (.istore 8, 2) := by decide +kernel
theorem dL_chart_392 : decode cL_chart 392 = .ok (.iload 9, 2) := by decide +kernel
theorem dL_chart_394 : decode cL_chart 394 = .ok (.iload 11, 2) := by decide +kernel
theorem dL_chart_396 : decode cL_chart 396 = .ok (.iload_n 2, 1) := by decide +kernel
theorem dL_chart_397 : decode cL_chart 397 = .ok (.bipush 8, 2) := by decide +kernel
theorem dL_chart_399 : decode cL_chart 399 = .ok (.isub, 1) := by decide +kernel
theorem dL_chart_400 : decode cL_chart 400 = .ok (.if_icmp .le 12, 3) := by decide +kernel
theorem dL_chart_403 : decode cL_chart 403 = .ok (.iload 12, 2) := by decide +kernel
theorem dL_chart_405 : decode cL_chart 405 = .ok (.ifCond .ge 7, 3) := by decide +kernel
theorem dL_chart_408 : decode cL_chart 408 = .ok (.iconst 1, 1) := by decide +kernel
theorem dL_chart_409 : decode cL_chart 409 = .ok (.goto 4, 3) := by decide +kernel
theorem dL_chart_412 : decode cL_chart 412 = .ok (.iconst 0, 1) := by decide +kernel
theorem dL_chart_413 : decode cL_chart 413 = .ok (.iadd, 1) := by decide +kernel
theorem dL_chart_414 : decode cL_chart 414 = .ok (.istore 9, 2) := by decide +kernel
theorem dL_chart_416 : decode cL_chart 416 = .ok (.iinc 11 1, 3) := by decide +kernel
theorem dL_chart_419 : decode cL_chart 419 = .ok (.goto (-183), 3) := by decide +kernel
theorem dL_chart_422 : decode cL_chart 422 = .ok (.aload_n 0, 1) := by decide +kernel
theorem dL_chart_423 : decode cL_chart 423 = .ok (.iload_n 1, 1) := by decide +kernel
theorem dL_chart_424 : decode cL_chart 424 = .ok (.invokevirtual 191, 3) := by decide +kernel
theorem dL_chart_427 : decode cL_chart 427 = .ok (.istore 11, 2) := by decide +kernel
theorem dL_chart_429 : decode cL_chart 429 = .ok (.iload 10, 2) := by decide +kernel
theorem dL_chart_431 : decode cL_chart 431 = .ok (.ifCond .eq 96, 3) := by decide +kernel
theorem dL_chart_434 : decode cL_chart 434 = .ok (.iload 11, 2) := by decide +kernel
theorem dL_chart_436 : decode cL_chart 436 = .ok (.ifCond .lt 91, 3) := by decide +kernel
theorem dL_chart_439 : decode cL_chart 439 = .ok (.iload 11, 2) := by decide +kernel
theorem dL_chart_441 : decode cL_chart 441 = .ok (.bipush 16, 2) := by decide +kernel
theorem dL_chart_443 : decode cL_chart 443 = .ok (.if_icmp .ge 84, 3) := by decide +kernel
theorem dL_chart_446 : decode cL_chart 446 = .ok (.iload 11, 2) := by decide +kernel
theorem dL_chart_448 : decode cL_chart 448 = .ok (.iconst 1, 1) := by decide +kernel
theorem dL_chart_449 : decode cL_chart 449 = .ok (.ishr, 1) := by decide +kernel
theorem dL_chart_450 : decode cL_chart 450 = .ok (.iconst 1, 1) := by decide +kernel
theorem dL_chart_451 : decode cL_chart 451 = .ok (.iand, 1) := by decide +kernel
theorem dL_chart_452 : decode cL_chart 452 = .ok (.iload_n 2, 1) := by decide +kernel
theorem dL_chart_453 : decode cL_chart 453 = .ok (.iconst 5, 1) := by decide +kernel
theorem dL_chart_454 : decode cL_chart 454 = .ok (.if_icmp .le 19, 3) := by decide +kernel
theorem dL_chart_457 : decode cL_chart 457 = .ok (.iload 6, 2) := by decide +kernel
theorem dL_chart_459 : decode cL_chart 459 = .ok (.iconst 5, 1) := by decide +kernel
theorem dL_chart_460 : decode cL_chart 460 = .ok (.if_icmp .eq 9, 3) := by decide +kernel
theorem dL_chart_463 : decode cL_chart 463 = .ok (.iload 7, 2) := by decide +kernel
theorem dL_chart_465 : decode cL_chart 465 = .ok (.iconst 5, 1) := by decide +kernel
theorem dL_chart_466 : decode cL_chart 466 = .ok (.if_icmp .ne 7, 3) := by decide +kernel
theorem dL_chart_469 : decode cL_chart 469 = .ok (.iconst 1, 1) := by decide +kernel
theorem dL_chart_470 : decode cL_chart 470 = .ok (.goto 4, 3) := by decide +kernel
theorem dL_chart_473 : decode cL_chart 473 = .ok (.iconst 0, 1) := by decide +kernel
theorem dL_chart_474 : decode cL_chart 474 = .ok (.if_icmp .ne 53, 3) := by decide +kernel
theorem dL_chart_477 : decode cL_chart 477 = .ok (.iload 11, 2) := by decide +kernel
theorem dL_chart_479 : decode cL_chart 479 = .ok (.iconst 2, 1) := by decide +kernel
theorem dL_chart_480 : decode cL_chart 480 = .ok (.ishr, 1) := by decide +kernel
theorem dL_chart_481 : decode cL_chart 481 = .ok (.iconst 1, 1) := by decide +kernel
theorem dL_chart_482 : decode cL_chart 482 = .ok (.iand, 1) := by decide +kernel
theorem dL_chart_483 : decode cL_chart 483 = .ok (.iload_n 2, 1) := by decide +kernel
theorem dL_chart_484 : decode cL_chart 484 = .ok (.bipush 6, 2) := by decide +kernel
theorem dL_chart_486 : decode cL_chart 486 = .ok (.if_icmp .le 21, 3) := by decide +kernel
theorem dL_chart_489 : decode cL_chart 489 = .ok (.iload 8, 2) := by decide +kernel
theorem dL_chart_491 : decode cL_chart 491 = .ok (.bipush 7, 2) := by decide +kernel
theorem dL_chart_493 : decode cL_chart 493 = .ok (.if_icmp .eq 10, 3) := by decide +kernel
theorem dL_chart_496 : decode cL_chart 496 = .ok (.iload 9, 2) := by decide +kernel
theorem dL_chart_498 : decode cL_chart 498 = .ok (.bipush 7, 2) := by decide +kernel
theorem dL_chart_500 : decode cL_chart 500 = .ok (.if_icmp .ne 7, 3) := by decide +kernel
theorem dL_chart_503 : decode cL_chart 503 = .ok (.iconst 1, 1) := by decide +kernel
theorem dL_chart_504 : decode cL_chart 504 = .ok (.goto 4, 3) := by decide +kernel
theorem dL_chart_507 : decode cL_chart 507 = .ok (.iconst 0, 1) := by decide +kernel
theorem dL_chart_508 : decode cL_chart 508 = .ok (.if_icmp .ne 19, 3) := by decide +kernel
theorem dL_chart_511 : decode cL_chart 511 = .ok (.iload_n 2, 1) := by decide +kernel
theorem dL_chart_512 : decode cL_chart 512 = .ok (.iconst 2, 1) := by decide +kernel
theorem dL_chart_513 : decode cL_chart 513 = .ok (.if_icmp .gt 10, 3) := by decide +kernel
theorem dL_chart_516 : decode cL_chart 516 = .ok (.iload 11, 2) := by decide +kernel
theorem dL_chart_518 : decode cL_chart 518 = .ok (.bipush 8, 2) := by decide +kernel
theorem dL_chart_520 : decode cL_chart 520 = .ok (.if_icmp .ge 7, 3) := by decide +kernel
theorem dL_chart_523 : decode cL_chart 523 = .ok (.iconst 1, 1) := by decide +kernel
theorem dL_chart_524 : decode cL_chart 524 = .ok (.goto 4, 3) := by decide +kernel
theorem dL_chart_528 : decode cL_chart 528 = .ok (.istore 10, 2) := by decide +kernel
theorem dL_chart_530 : decode cL_chart 530 = .ok (.iload_n 2, 1) := by decide +kernel
theorem dL_chart_531 : decode cL_chart 531 = .ok (.ifCond .ne 60, 3) := by decide +kernel
theorem dL_chart_534 : decode cL_chart 534 = .ok (.iload 10, 2) := by decide +kernel
theorem dL_chart_536 : decode cL_chart 536 = .ok (.ifCond .eq 53, 3) := by decide +kernel
theorem dL_chart_539 : decode cL_chart 539 = .ok (.iload 11, 2) := by decide +kernel
theorem dL_chart_541 : decode cL_chart 541 = .ok (.ifCond .ne 48, 3) := by decide +kernel
theorem dL_chart_544 : decode cL_chart 544 = .ok (.aload_n 0, 1) := by decide +kernel
theorem dL_chart_545 : decode cL_chart 545 = .ok (.iload_n 1, 1) := by decide +kernel
theorem dL_chart_546 : decode cL_chart 546 = .ok (.invokestatic 270, 3) := by decide +kernel
theorem dL_chart_549 : decode cL_chart 549 = .ok (.ldc 73, 2) := by decide +kernel
theorem dL_chart_551 : decode cL_chart 551 = .ok (.if_icmp .ne 38, 3) := by decide +kernel
theorem dL_chart_554 : decode cL_chart 554 = .ok (.aload_n 0, 1) := by decide +kernel
theorem dL_chart_555 : decode cL_chart 555 = .ok (.iload_n 1, 1) := by decide +kernel
theorem dL_chart_556 : decode cL_chart 556 = .ok (.invokestatic 272, 3) := by decide +kernel
theorem dL_chart_559 : decode cL_chart 559 = .ok (.ldc 73, 2) := by decide +kernel
theorem dL_chart_561 : decode cL_chart 561 = .ok (.if_icmp .ne 28, 3) := by decide +kernel
theorem dL_chart_564 : decode cL_chart 564 = .ok (.aload_n 0, 1) := by decide +kernel
theorem dL_chart_565 : decode cL_chart 565 = .ok (.iload_n 1, 1) := by decide +kernel
theorem dL_chart_566 : decode cL_chart 566 = .ok (.invokestatic 274, 3) := by decide +kernel
theorem dL_chart_569 : decode cL_chart 569 = .ok (.ldc 73, 2) := by decide +kernel
theorem dL_chart_571 : decode cL_chart 571 = .ok (.if_icmp .ne 18, 3) := by decide +kernel
theorem dL_chart_574 : decode cL_chart 574 = .ok (.aload_n 0, 1) := by decide +kernel
theorem dL_chart_575 : decode cL_chart 575 = .ok (.iload_n 1, 1) := by decide +kernel
theorem dL_chart_576 : decode cL_chart 576 = .ok (.invokestatic 276, 3) := by decide +kernel
theorem dL_chart_579 : decode cL_chart 579 = .ok (.ldc 199, 2) := by decide +kernel
theorem dL_chart_581 : decode cL_chart 581 = .ok (.fcmp .l, 1) := by decide +kernel
theorem dL_chart_582 : decode cL_chart 582 = .ok (.ifCond .ne 7, 3) := by decide +kernel
theorem dL_chart_585 : decode cL_chart 585 = .ok (.iconst 1, 1) := by decide +kernel
theorem dL_chart_586 : decode cL_chart 586 = .ok (.goto 4, 3) := by decide +kernel
theorem dL_chart_590 : decode cL_chart 590 = .ok (.ireturn, 1) := by decide +kernel
theorem dL_chart_591 : decode cL_chart 591 = .ok (.aload_n 0, 1) := by decide +kernel
theorem dL_chart_592 : decode cL_chart 592 = .ok (.iload_n 1, 1) := by decide +kernel
theorem dL_chart_593 : decode cL_chart 593 = .ok (.invokevirtual 92, 3) := by decide +kernel
theorem dL_chart_596 : decode cL_chart 596 = .ok (.istore 12, 2) := by decide +kernel
theorem dL_chart_598 : decode cL_chart 598 = .ok (.iconst 0, 1) := by decide +kernel
theorem dL_chart_599 : decode cL_chart 599 = .ok (.istore 13, 2) := by decide +kernel
theorem dL_chart_601 : decode cL_chart 601 = .ok (.iconst 0, 1) := by decide +kernel
theorem dL_chart_602 : decode cL_chart 602 = .ok (.istore 14, 2) := by decide +kernel
theorem dL_chart_604 : decode cL_chart 604 = .ok (.iconst 0, 1) := by decide +kernel
theorem dL_chart_605 : decode cL_chart 605 = .ok (.istore 15, 2) := by decide +kernel
theorem dL_chart_607 : decode cL_chart 607 = .ok (.iload 15, 2) := by decide +kernel
theorem dL_chart_609 : decode cL_chart 609 = .ok (.iload_n 2, 1) := by decide +kernel
theorem dL_chart_610 : decode cL_chart 610 = .ok (.if_icmp .ge 53, 3) := by decide +kernel
theorem dL_chart_613 : decode cL_chart 613 = .ok (.iload 13, 2) := by decide +kernel
theorem dL_chart_615 : decode cL_chart 615 = .ok (.aload_n 0, 1) := by decide +kernel
theorem dL_chart_616 : decode cL_chart 616 = .ok (.iload_n 1, 1) := by decide +kernel
theorem dL_chart_617 : decode cL_chart 617 = .ok (.iload 15, 2) := by decide +kernel
theorem dL_chart_619 : decode cL_chart 619 = .ok (.invokevirtual 89, 3) := by decide +kernel
theorem dL_chart_622 : decode cL_chart 622 = .ok (.iload 12, 2) := by decide +kernel
theorem dL_chart_624 : decode cL_chart 624 = .ok (.if_icmp .ge 7, 3) := by decide +kernel
theorem dL_chart_627 : decode cL_chart 627 = .ok (.iconst 1, 1) := by decide +kernel
theorem dL_chart_628 : decode cL_chart 628 = .ok (.goto 4, 3) := by decide +kernel
theorem dL_chart_631 : decode cL_chart 631 = .ok (.iconst 0, 1) := by decide +kernel
theorem dL_chart_632 : decode cL_chart 632 = .ok (.iadd, 1) := by decide +kernel
theorem dL_chart_633 : decode cL_chart 633 = .ok (.istore 13, 2) := by decide +kernel
theorem dL_chart_635 : decode cL_chart 635 = .ok (.iload 14, 2) := by decide +kernel
theorem dL_chart_637 : decode cL_chart 637 = .ok (.aload_n 0, 1) := by decide +kernel
theorem dL_chart_638 : decode cL_chart 638 = .ok (.iload_n 1, 1) := by decide +kernel
theorem dL_chart_639 : decode cL_chart 639 = .ok (.iload 15, 2) := by decide +kernel
theorem dL_chart_641 : decode cL_chart 641 = .ok (.invokevirtual 89, 3) := by decide +kernel
theorem dL_chart_644 : decode cL_chart 644 = .ok (.iload 12, 2) := by decide +kernel
theorem dL_chart_646 : decode cL_chart 646 = .ok (.if_icmp .ne 7, 3) := by decide +kernel
theorem dL_chart_649 : decode cL_chart 649 = .ok (.iconst 1, 1) := by decide +kernel
theorem dL_chart_650 : decode cL_chart 650 = .ok (.goto 4, 3) := by decide +kernel
theorem dL_chart_653 : decode cL_chart 653 = .ok (.iconst 0, 1) := by decide +kernel
theorem dL_chart_654 : decode cL_chart 654 = .ok (.iadd, 1) := by decide +kernel
theorem dL_chart_655 : decode cL_chart 655 = .ok (.istore 14, 2) := by decide +kernel
theorem dL_chart_657 : decode cL_chart 657 = .ok (.iinc 15 1, 3) := by decide +kernel
theorem dL_chart_660 : decode cL_chart 660 = .ok (.goto (-53), 3) := by decide +kernel
theorem dL_chart_663 : decode cL_chart 663 = .ok (.iload 10, 2) := by decide +kernel
theorem dL_chart_665 : decode cL_chart 665 = .ok (.ifCond .eq 68, 3) := by decide +kernel
theorem dL_chart_668 : decode cL_chart 668 = .ok (.iload 14, 2) := by decide +kernel
theorem dL_chart_670 : decode cL_chart 670 = .ok (.ifCond .le 63, 3) := by decide +kernel
theorem dL_chart_673 : decode cL_chart 673 = .ok (.iload 13, 2) := by decide +kernel
theorem dL_chart_675 : decode cL_chart 675 = .ok (.iload_n 2, 1) := by decide +kernel
theorem dL_chart_676 : decode cL_chart 676 = .ok (.iconst 2, 1) := by decide +kernel
theorem dL_chart_677 : decode cL_chart 677 = .ok (.idiv, 1) := by decide +kernel
theorem dL_chart_678 : decode cL_chart 678 = .ok (.if_icmp .gt 55, 3) := by decide +kernel
theorem dL_chart_681 : decode cL_chart 681 = .ok (.iload 13, 2) := by decide +kernel
theorem dL_chart_683 : decode cL_chart 683 = .ok (.iload 14, 2) := by decide +kernel
theorem dL_chart_685 : decode cL_chart 685 = .ok (.iadd, 1) := by decide +kernel
theorem dL_chart_686 : decode cL_chart 686 = .ok (.iload_n 2, 1) := by decide +kernel
theorem dL_chart_687 : decode cL_chart 687 = .ok (.iconst 2, 1) := by decide +kernel
theorem dL_chart_688 : decode cL_chart 688 = .ok (.idiv, 1) := by decide +kernel
theorem dL_chart_689 : decode cL_chart 689 = .ok (.if_icmp .le 44, 3) := by decide +kernel
theorem dL_chart_692 : decode cL_chart 692 = .ok (.aload_n 0, 1) := by decide +kernel
theorem dL_chart_693 : decode cL_chart 693 = .ok (.iload_n 1, 1) := by decide +kernel
theorem dL_chart_694 : decode cL_chart 694 = .ok (.invokevirtual 95, 3) := by decide +kernel
theorem dL_chart_697 : decode cL_chart 697 = .ok (.iload 12, 2) := by decide +kernel
theorem dL_chart_699 : decode cL_chart 699 = .ok (.if_icmp .ne 34, 3) := by decide +kernel
theorem dL_chart_702 : decode cL_chart 702 = .ok (.aload_n 0, 1) := by decide +kernel
theorem dL_chart_703 : decode cL_chart 703 = .ok (.iload_n 1, 1) := by decide +kernel
theorem dL_chart_704 : decode cL_chart 704 = .ok (.invokevirtual 98, 3) := by decide +kernel
theorem dL_chart_707 : decode cL_chart 707 = .ok (.iload 4, 2) := by decide +kernel
theorem dL_chart_709 : decode cL_chart 709 = .ok (.iload_n 3, 1) := by decide +kernel
theorem dL_chart_710 : decode cL_chart 710 = .ok (.isub, 1) := by decide +kernel
theorem dL_chart_711 : decode cL_chart 711 = .ok (.if_icmp .ne 22, 3) := by decide +kernel
theorem dL_chart_714 : decode cL_chart 714 = .ok (.aload_n 0, 1) := by decide +kernel
theorem dL_chart_715 : decode cL_chart 715 = .ok (.iload_n 1, 1) := by decide +kernel
theorem dL_chart_716 : decode cL_chart 716 = .ok (.invokestatic 276, 3) := by decide +kernel
theorem dL_chart_719 : decode cL_chart 719 = .ok (.iload 5, 2) := by decide +kernel
theorem dL_chart_721 : decode cL_chart 721 = .ok (.i2f, 1) := by decide +kernel
theorem dL_chart_722 : decode cL_chart 722 = .ok (.iload_n 2, 1) := by decide +kernel
theorem dL_chart_723 : decode cL_chart 723 = .ok (.i2f, 1) := by decide +kernel
theorem dL_chart_724 : decode cL_chart 724 = .ok (.fdiv, 1) := by decide +kernel
theorem dL_chart_725 : decode cL_chart 725 = .ok (.fcmp .l, 1) := by decide +kernel
theorem dL_chart_726 : decode cL_chart 726 = .ok (.ifCond .ne 7, 3) := by decide +kernel
theorem dL_chart_729 : decode cL_chart 729 = .ok (.iconst 1, 1) := by decide +kernel
theorem dL_chart_730 : decode cL_chart 730 = .ok (.goto 4, 3) := by decide +kernel
theorem dL_chart_734 : decode cL_chart 734 = .ok (.ireturn, 1) := by decide +kernel
set_option maxHeartbeats 8000000 in
set_option maxRecDepth 100000 in
theorem mL_chart (l : Launch) (hst : l.stackTraces = false) (G : gG) (da : Nat → Nat) (v : vSt) (x : gX) (o1 : Nat) (hk_o1 : kd o1 = 10) (p1 : Int32) (ho : oL_chart o1 p1 v) : NI l yL_chart cL_chart 16 .boolean rmL_chart [.ref (ga G o1), .int p1] G da v x 132 132 1 v := by
  refine gofNI (by decide) rfl (Nat.le_of_ble_eq_true rfl) (fun p e s m args below meth c ls Q X hN hH hl E => ?_)
  have hx := X.1
  have hb := X.2.1
  have hown := X.2.2.2.1
  have hts := X.2.2.2.2.1
  have hS : va_S (gA G) s.heap s.heap [] := va_S.rf
  unfold oL_chart at ho
  have hl : lv_has ls 16 [(0, .ref (ga G o1)), (1, .int p1)] := hl
  refine lv_aload_n hx hb dL_chart_0 rfl (lv_at hl 0 rfl) ?_
  refine lv_iload_n hx hb dL_chart_1 rfl (lv_at hl 1 rfl) ?_
  have hq1 := ho.1
  have ho := ho.2
  have hq2 := ho.1
  have ho := ho.2
  refine kZ_X10_charted X hS hH hk_o1 hq1 hq2 t_ml_VernierDrawersLaw_188 hl.1 (Nat.le_of_ble_eq_true rfl) ⟨Nat.le_of_ble_eq_true rfl, Nat.le_of_ble_eq_true rfl⟩ ⟨Nat.zero_le _, Nat.zero_le _⟩ dL_chart_2 ?_
  refine lv_istore_n (lv' := [(2, .int ((fX10_charted o1 p1 v).2)), (0, .ref (ga G o1)), (1, .int p1)]) hx hb dL_chart_5 rfl hl (by decide) rfl (fun ls hl => ?_)
  refine lv_sipush (v := 9999) hx hb dL_chart_6 (by decide) ?_
  refine lv_istore_n (lv' := [(3, .int 9999), (2, .int ((fX10_charted o1 p1 v).2)), (0, .ref (ga G o1)), (1, .int p1)]) hx hb dL_chart_9 rfl hl (by decide) rfl (fun ls hl => ?_)
  refine lv_sipush (v := (-9999)) hx hb dL_chart_10 (by decide) ?_
  refine lv_istore (lv' := [(4, .int (-9999)), (3, .int 9999), (2, .int ((fX10_charted o1 p1 v).2)), (0, .ref (ga G o1)), (1, .int p1)]) hx hb dL_chart_13 hl (by decide) rfl (fun ls hl => ?_)
  refine lv_iconst (v := 0) hx hb dL_chart_15 (by decide) ?_
  refine lv_istore (lv' := [(5, .int 0), (4, .int (-9999)), (3, .int 9999), (2, .int ((fX10_charted o1 p1 v).2)), (0, .ref (ga G o1)), (1, .int p1)]) hx hb dL_chart_16 hl (by decide) rfl (fun ls hl => ?_)
  refine lv_iconst (v := 0) hx hb dL_chart_18 (by decide) ?_
  refine lv_istore (lv' := [(6, .int 0), (5, .int 0), (4, .int (-9999)), (3, .int 9999), (2, .int ((fX10_charted o1 p1 v).2)), (0, .ref (ga G o1)), (1, .int p1)]) hx hb dL_chart_19 hl (by decide) rfl (fun ls hl => ?_)
  refine lv_iconst (v := 0) hx hb dL_chart_21 (by decide) ?_
  refine lv_istore (lv' := [(7, .int 0), (6, .int 0), (5, .int 0), (4, .int (-9999)), (3, .int 9999), (2, .int ((fX10_charted o1 p1 v).2)), (0, .ref (ga G o1)), (1, .int p1)]) hx hb dL_chart_22 hl (by decide) rfl (fun ls hl => ?_)
  refine lv_iconst (v := 0) hx hb dL_chart_24 (by decide) ?_
  refine lv_istore (lv' := [(8, .int 0), (7, .int 0), (6, .int 0), (5, .int 0), (4, .int (-9999)), (3, .int 9999), (2, .int ((fX10_charted o1 p1 v).2)), (0, .ref (ga G o1)), (1, .int p1)]) hx hb dL_chart_25 hl (by decide) rfl (fun ls hl => ?_)
  refine lv_iconst (v := 0) hx hb dL_chart_27 (by decide) ?_
  refine lv_istore (lv' := [(9, .int 0), (8, .int 0), (7, .int 0), (6, .int 0), (5, .int 0), (4, .int (-9999)), (3, .int 9999), (2, .int ((fX10_charted o1 p1 v).2)), (0, .ref (ga G o1)), (1, .int p1)]) hx hb dL_chart_28 hl (by decide) rfl (fun ls hl => ?_)
  refine lv_iload_n hx hb dL_chart_30 rfl (lv_at hl 7 rfl) ?_
  refine lv_if_lt (tgt := 230) hx hb dL_chart_31 (by decide) (fun c3 => ?_) (fun c3 => ?_)
  · exact absurd c3 ho.1
  have ho := ho.2
  refine lv_iload_n hx hb dL_chart_34 rfl (lv_at hl 7 rfl) ?_
  refine lv_bipush (v := 12) hx hb dL_chart_35 (by decide) ?_
  refine lv_icmp_gt (tgt := 230) hx hb dL_chart_37 (by decide) (fun c4 => ?_) (fun c4 => ?_)
  · exact absurd c4 ho.1
  have ho := ho.2
  refine lv_aload_n hx hb dL_chart_40 rfl (lv_at hl 8 rfl) ?_
  refine lv_iload_n hx hb dL_chart_41 rfl (lv_at hl 9 rfl) ?_
  have hq5 := ho.1
  have ho := ho.2
  have hq6 := ho.1
  have ho := ho.2
  refine kZ_X10_recordOf X hS hH hk_o1 hq5 hq6 t_ml_VernierDrawersLaw_182 hl.1 (Nat.le_of_ble_eq_true rfl) ⟨Nat.le_of_ble_eq_true rfl, Nat.le_of_ble_eq_true rfl⟩ ⟨Nat.zero_le _, Nat.zero_le _⟩ dL_chart_42 ?_
  refine lv_bipush (v := 10) hx hb dL_chart_45 (by decide) ?_
  refine lv_icmp_gt (tgt := 230) hx hb dL_chart_47 (by decide) (fun c7 => ?_) (fun c7 => ?_)
  · exact absurd c7 ho.1
  have ho := ho.2
  refine lv_aload_n hx hb dL_chart_50 rfl (lv_at hl 8 rfl) ?_
  refine lv_iload_n hx hb dL_chart_51 rfl (lv_at hl 9 rfl) ?_
  have hq8 := ho.1
  have ho := ho.2
  have hq9 := ho.1
  have ho := ho.2
  refine kZ_X10_badOf X hS hH hk_o1 hq8 hq9 t_ml_VernierDrawersLaw_185 hl.1 (Nat.le_of_ble_eq_true rfl) ⟨Nat.le_of_ble_eq_true rfl, Nat.le_of_ble_eq_true rfl⟩ ⟨Nat.zero_le _, Nat.zero_le _⟩ dL_chart_52 ?_
  refine lv_aload_n hx hb dL_chart_55 rfl (lv_at hl 8 rfl) ?_
  refine lv_iload_n hx hb dL_chart_56 rfl (lv_at hl 9 rfl) ?_
  refine kZ_X10_recordOf X hS hH hk_o1 hq5 hq6 t_ml_VernierDrawersLaw_182 hl.1 (Nat.le_of_ble_eq_true rfl) ⟨Nat.le_of_ble_eq_true rfl, Nat.le_of_ble_eq_true rfl⟩ ⟨Nat.zero_le _, Nat.zero_le _⟩ dL_chart_57 ?_
  refine lv_icmp_gt (tgt := 230) hx hb dL_chart_60 (by decide) (fun c10 => ?_) (fun c10 => ?_)
  · exact absurd c10 ho.1
  have ho := ho.2
  refine lv_aload_n hx hb dL_chart_63 rfl (lv_at hl 8 rfl) ?_
  refine lv_iload_n hx hb dL_chart_64 rfl (lv_at hl 9 rfl) ?_
  refine kZ_X10_badOf X hS hH hk_o1 hq8 hq9 t_ml_VernierDrawersLaw_185 hl.1 (Nat.le_of_ble_eq_true rfl) ⟨Nat.le_of_ble_eq_true rfl, Nat.le_of_ble_eq_true rfl⟩ ⟨Nat.zero_le _, Nat.zero_le _⟩ dL_chart_65 ?_
  refine lv_if_lt (tgt := 230) hx hb dL_chart_68 (by decide) (fun c11 => ?_) (fun c11 => ?_)
  · exact absurd c11 ho.1
  have ho := ho.2
  refine lv_aload_n hx hb dL_chart_71 rfl (lv_at hl 8 rfl) ?_
  refine lv_iload_n hx hb dL_chart_72 rfl (lv_at hl 9 rfl) ?_
  have hq12 := ho.1
  have ho := ho.2
  have hq13 := ho.1
  have ho := ho.2
  refine kZ_X10_mannerOf X hS hH hk_o1 hq12 hq13 t_ml_VernierDrawersLaw_179 hl.1 (Nat.le_of_ble_eq_true rfl) ⟨Nat.le_of_ble_eq_true rfl, Nat.le_of_ble_eq_true rfl⟩ ⟨Nat.zero_le _, Nat.zero_le _⟩ dL_chart_73 ?_
  refine lv_if_lt (tgt := 230) hx hb dL_chart_76 (by decide) (fun c14 => ?_) (fun c14 => ?_)
  · exact absurd c14 ho.1
  have ho := ho.2
  refine lv_aload_n hx hb dL_chart_79 rfl (lv_at hl 8 rfl) ?_
  refine lv_iload_n hx hb dL_chart_80 rfl (lv_at hl 9 rfl) ?_
  refine kZ_X10_mannerOf X hS hH hk_o1 hq12 hq13 t_ml_VernierDrawersLaw_179 hl.1 (Nat.le_of_ble_eq_true rfl) ⟨Nat.le_of_ble_eq_true rfl, Nat.le_of_ble_eq_true rfl⟩ ⟨Nat.zero_le _, Nat.zero_le _⟩ dL_chart_81 ?_
  refine lv_iconst (v := 2) hx hb dL_chart_84 (by decide) ?_
  refine lv_icmp_gt (tgt := 230) hx hb dL_chart_85 (by decide) (fun c15 => ?_) (fun c15 => ?_)
  · exact absurd c15 ho.1
  have ho := ho.2
  refine lv_aload_n hx hb dL_chart_88 rfl (lv_at hl 8 rfl) ?_
  refine lv_iload_n hx hb dL_chart_89 rfl (lv_at hl 9 rfl) ?_
  have hq16 := ho.1
  have ho := ho.2
  have hq17 := ho.1
  have ho := ho.2
  refine kZ_X10_widthOf X hS hH hk_o1 hq16 hq17 t_ml_VernierDrawersLaw_176 hl.1 (Nat.le_of_ble_eq_true rfl) ⟨Nat.le_of_ble_eq_true rfl, Nat.le_of_ble_eq_true rfl⟩ ⟨Nat.zero_le _, Nat.zero_le _⟩ dL_chart_90 ?_
  refine lv_if_lt (tgt := 230) hx hb dL_chart_93 (by decide) (fun c18 => ?_) (fun c18 => ?_)
  · exact absurd c18 ho.1
  have ho := ho.2
  refine lv_aload_n hx hb dL_chart_96 rfl (lv_at hl 8 rfl) ?_
  refine lv_iload_n hx hb dL_chart_97 rfl (lv_at hl 9 rfl) ?_
  refine kZ_X10_widthOf X hS hH hk_o1 hq16 hq17 t_ml_VernierDrawersLaw_176 hl.1 (Nat.le_of_ble_eq_true rfl) ⟨Nat.le_of_ble_eq_true rfl, Nat.le_of_ble_eq_true rfl⟩ ⟨Nat.zero_le _, Nat.zero_le _⟩ dL_chart_98 ?_
  refine lv_sipush (v := 198) hx hb dL_chart_101 (by decide) ?_
  refine lv_icmp_gt (tgt := 230) hx hb dL_chart_104 (by decide) (fun c19 => ?_) (fun c19 => ?_)
  · exact absurd c19 ho.1
  have ho := ho.2
  refine lv_aload_n hx hb dL_chart_107 rfl (lv_at hl 8 rfl) ?_
  refine lv_iload_n hx hb dL_chart_108 rfl (lv_at hl 9 rfl) ?_
  refine lv_iload_n hx hb dL_chart_109 rfl (lv_at hl 7 rfl) ?_
  have hq20 := ho.1
  have ho := ho.2
  refine k_L_chartedAt hst X hS hN hH hk_o1 hq20 t_ml_VernierDrawersLaw_265 hl.1 (Nat.le_of_ble_eq_true rfl) ⟨Nat.le_of_ble_eq_true rfl, Nat.le_of_ble_eq_true rfl⟩ ⟨(Nat.le_of_ble_eq_true rfl), (Nat.le_of_ble_eq_true rfl)⟩ dL_chart_110 (fun da H locs hH hS => ?_)
  refine W.widen (k := 12) (n := 12) (Nat.le_refl _) (Nat.le_refl _) ?_
  refine lv_ldc (v := (-100104)) hx hb hown (hts _ t_con_VernierDrawersLaw_73) dL_chart_113 ?_
  refine lv_icmp_ne (tgt := 230) hx hb dL_chart_115 (by decide) (fun c21 => ?_) (fun c21 => ?_)
  · exact absurd ho.1 c21
  have ho := ho.2
  refine lv_aload_n hx hb dL_chart_118 rfl (lv_at hl 8 rfl) ?_
  refine lv_iload_n hx hb dL_chart_119 rfl (lv_at hl 9 rfl) ?_
  refine lv_iconst (v := (-1)) hx hb dL_chart_120 (by decide) ?_
  have hq22 := ho.1
  have ho := ho.2
  refine k_L_chartedAt hst X hS hN hH hk_o1 hq22 t_ml_VernierDrawersLaw_265 hl.1 (Nat.le_of_ble_eq_true rfl) ⟨Nat.le_of_ble_eq_true rfl, Nat.le_of_ble_eq_true rfl⟩ ⟨(Nat.le_of_ble_eq_true rfl), (Nat.le_of_ble_eq_true rfl)⟩ dL_chart_121 (fun da H locs hH hS => ?_)
  refine W.widen (k := 24) (n := 24) (Nat.le_refl _) (Nat.le_refl _) ?_
  refine lv_ldc (v := (-100102)) hx hb hown (hts _ t_con_VernierDrawersLaw_17) dL_chart_124 ?_
  refine lv_icmp_ne (tgt := 230) hx hb dL_chart_126 (by decide) (fun c23 => ?_) (fun c23 => ?_)
  · exact absurd ho.1 c23
  have ho := ho.2
  refine lv_aload_n hx hb dL_chart_129 rfl (lv_at hl 8 rfl) ?_
  refine lv_iload_n hx hb dL_chart_130 rfl (lv_at hl 9 rfl) ?_
  refine kZ_X10_mannerOf X hS hH hk_o1 hq12 hq13 t_ml_VernierDrawersLaw_179 hl.1 (Nat.le_of_ble_eq_true rfl) ⟨Nat.le_of_ble_eq_true rfl, Nat.le_of_ble_eq_true rfl⟩ ⟨(Nat.le_of_ble_eq_true rfl), (Nat.le_of_ble_eq_true rfl)⟩ dL_chart_131 ?_
  refine lv_iconst (v := 2) hx hb dL_chart_134 (by decide) ?_
  have K24 : ∀  (da : Nat → Nat) (H : Heap) (locs : List Loc) (ls : Array Slot), Hp G da v x H → va_S (gA G) s.heap H locs → lv_has ls 16 [(9, .int 0), (8, .int 0), (7, .int 0), (6, .int 0), (5, .int 0), (4, .int (-9999)), (3, .int 9999), (2, .int ((fX10_charted o1 p1 v).2)), (0, .ref (ga G o1)), (1, .int p1)] → W p l e rmL_chart s m args below meth c H locs 36 36 Q (F0 m 226 ls []) := by
    intro  da H locs ls  hH hS hl
    have ho := ho.2
    refine lv_iconst (v := 1) hx hb dL_chart_226 (by decide) ?_
    refine lv_goto (tgt := 231) hx hb dL_chart_227 (by decide) ?_
    refine lv_istore (lv' := [(10, .int 1), (9, .int 0), (8, .int 0), (7, .int 0), (6, .int 0), (5, .int 0), (4, .int (-9999)), (3, .int 9999), (2, .int ((fX10_charted o1 p1 v).2)), (0, .ref (ga G o1)), (1, .int p1)]) hx hb dL_chart_231 hl (by decide) rfl (fun ls hl => ?_)
    refine lv_iconst (v := 0) hx hb dL_chart_233 (by decide) ?_
    refine lv_istore (lv' := [(11, .int 0), (10, .int 1), (9, .int 0), (8, .int 0), (7, .int 0), (6, .int 0), (5, .int 0), (4, .int (-9999)), (3, .int 9999), (2, .int ((fX10_charted o1 p1 v).2)), (0, .ref (ga G o1)), (1, .int p1)]) hx hb dL_chart_234 hl (by decide) rfl (fun ls hl => ?_)
    have L40 : ∀ (n : Nat) (i25 : Int32) (i26 : Int32) (i27 : Int32) (i28 : Int32) (i29 : Int32) (i30 : Int32) (i31 : Int32) (i32 : Int32) (ls : Array Slot), olL_chart_236 v o1 p1 n i25 i26 i27 i28 i29 i30 i31 i32 → lv_has ls 16 [(11, .int i25), (10, .int 1), (9, .int i26), (8, .int i27), (7, .int i28), (6, .int i29), (5, .int i30), (4, .int i31), (3, .int i32), (2, .int ((fX10_charted o1 p1 v).2)), (0, .ref (ga G o1)), (1, .int p1)] → (∀ (y33 : Int32) (y34 : Int32) (y35 : Int32) (y36 : Int32) (y37 : Int32) (y38 : Int32) (y39 : Int32) (ls : Array Slot), y33 = (lL_chart_236 v o1 p1 n i25 i26 i27 i28 i29 i30 i31 i32 : Int32 × Int32 × Int32 × Int32 × Int32 × Int32 × Int32).1 → y34 = (lL_chart_236 v o1 p1 n i25 i26 i27 i28 i29 i30 i31 i32 : Int32 × Int32 × Int32 × Int32 × Int32 × Int32 × Int32).2.1 → y35 = (lL_chart_236 v o1 p1 n i25 i26 i27 i28 i29 i30 i31 i32 : Int32 × Int32 × Int32 × Int32 × Int32 × Int32 × Int32).2.2.1 → y36 = (lL_chart_236 v o1 p1 n i25 i26 i27 i28 i29 i30 i31 i32 : Int32 × Int32 × Int32 × Int32 × Int32 × Int32 × Int32).2.2.2.1 → y37 = (lL_chart_236 v o1 p1 n i25 i26 i27 i28 i29 i30 i31 i32 : Int32 × Int32 × Int32 × Int32 × Int32 × Int32 × Int32).2.2.2.2.1 → y38 = (lL_chart_236 v o1 p1 n i25 i26 i27 i28 i29 i30 i31 i32 : Int32 × Int32 × Int32 × Int32 × Int32 × Int32 × Int32).2.2.2.2.2.1 → y39 = (lL_chart_236 v o1 p1 n i25 i26 i27 i28 i29 i30 i31 i32 : Int32 × Int32 × Int32 × Int32 × Int32 × Int32 × Int32).2.2.2.2.2.2 → lv_has ls 16 [(10, .int 1), (9, .int y33), (8, .int y34), (7, .int y35), (6, .int y36), (5, .int y37), (4, .int y38), (3, .int y39), (2, .int ((fX10_charted o1 p1 v).2)), (0, .ref (ga G o1)), (1, .int p1)] → W p l e rmL_chart s m args below meth c H locs 36 36 Q (F0 m 422 ls [])) → W p l e rmL_chart s m args below meth c H locs 36 36 Q (F0 m 236 ls []) := by
      clear ho
      intro n
      induction n with
      | zero =>
        intro i25 i26 i27 i28 i29 i30 i31 i32 ls ho
        exact ho.elim
      | succ n ih =>
        intro i25 i26 i27 i28 i29 i30 i31 i32 ls ho hl K41
        refine lv_iload hx hb dL_chart_236 (lv_at hl 0 rfl) ?_
        refine lv_iload_n hx hb dL_chart_238 rfl (lv_at hl 9 rfl) ?_
        refine lv_icmp_ge (tgt := 422) hx hb dL_chart_239 (by decide) (fun c43 => ?_) (fun c43 => ?_)
        · skip
          have hoz := ho
          have hlz := hl
          exact K41 _ _ _ _ _ _ _ _ (tp7_0 (((lL_chart_236.eq_2 _ _ _ _ _ _ _ _ _ _ _ _)).trans ((if_pos c43).trans rfl))) (tp7_1 (((lL_chart_236.eq_2 _ _ _ _ _ _ _ _ _ _ _ _)).trans ((if_pos c43).trans rfl))) (tp7_2 (((lL_chart_236.eq_2 _ _ _ _ _ _ _ _ _ _ _ _)).trans ((if_pos c43).trans rfl))) (tp7_3 (((lL_chart_236.eq_2 _ _ _ _ _ _ _ _ _ _ _ _)).trans ((if_pos c43).trans rfl))) (tp7_4 (((lL_chart_236.eq_2 _ _ _ _ _ _ _ _ _ _ _ _)).trans ((if_pos c43).trans rfl))) (tp7_5 (((lL_chart_236.eq_2 _ _ _ _ _ _ _ _ _ _ _ _)).trans ((if_pos c43).trans rfl))) (tp7_6 (((lL_chart_236.eq_2 _ _ _ _ _ _ _ _ _ _ _ _)).trans ((if_pos c43).trans rfl))) (lv_sub hlz [1, 2, 3, 4, 5, 6, 7, 8, 9, 10, 11] rfl)
        · have ho := ho c43
          refine lv_iload hx hb dL_chart_242 (lv_at hl 1 rfl) ?_
          refine lv_if_eq (tgt := 422) hx hb dL_chart_244 (by decide) (fun c44 => absurd c44 (by decide)) (fun c44 => ?_)
          refine lv_aload_n hx hb dL_chart_247 rfl (lv_at hl 10 rfl) ?_
          refine lv_iload_n hx hb dL_chart_248 rfl (lv_at hl 11 rfl) ?_
          refine lv_iload hx hb dL_chart_249 (lv_at hl 0 rfl) ?_
          have hq45 := ho.1
          have ho := ho.2
          have hq46 := ho.1
          have ho := ho.2
          refine kZ_X10_chartedAt X hS hH hk_o1 hq45 hq46 t_ml_VernierDrawersLaw_89 hl.1 (Nat.le_of_ble_eq_true rfl) ⟨Nat.le_of_ble_eq_true rfl, Nat.le_of_ble_eq_true rfl⟩ ⟨(Nat.le_of_ble_eq_true rfl), (Nat.le_of_ble_eq_true rfl)⟩ dL_chart_251 ?_
          refine lv_istore (lv' := [(12, .int ((fX10_chartedAt o1 p1 i25 v).2)), (11, .int i25), (10, .int 1), (9, .int i26), (8, .int i27), (7, .int i28), (6, .int i29), (5, .int i30), (4, .int i31), (3, .int i32), (2, .int ((fX10_charted o1 p1 v).2)), (0, .ref (ga G o1)), (1, .int p1)]) hx hb dL_chart_254 hl (by decide) rfl (fun ls hl => ?_)
          refine lv_iload hx hb dL_chart_256 (lv_at hl 0 rfl) ?_
          refine lv_iload_n hx hb dL_chart_258 rfl (lv_at hl 9 rfl) ?_
          have K48 : ∀ (y47 : Int32) (ls : Array Slot), y47 = (if (i32 : Int32) ≤ ((fX10_chartedAt o1 p1 i25 v).2) then i32 else ((fX10_chartedAt o1 p1 i25 v).2) : Int32) → lv_has ls 16 [(12, .int ((fX10_chartedAt o1 p1 i25 v).2)), (11, .int i25), (10, .int 1), (9, .int i26), (8, .int i27), (7, .int i28), (6, .int i29), (5, .int i30), (4, .int i31), (2, .int ((fX10_charted o1 p1 v).2)), (0, .ref (ga G o1)), (1, .int p1)] → W p l e rmL_chart s m args below meth c H locs 36 36 Q (F0 m 268 ls [.int y47]) := by
            intro y47 ls ey47 hl
            have ho := ho y47 ey47
            refine lv_istore_n (lv' := [(3, .int y47), (12, .int ((fX10_chartedAt o1 p1 i25 v).2)), (11, .int i25), (10, .int 1), (9, .int i26), (8, .int i27), (7, .int i28), (6, .int i29), (5, .int i30), (4, .int i31), (2, .int ((fX10_charted o1 p1 v).2)), (0, .ref (ga G o1)), (1, .int p1)]) hx hb dL_chart_268 rfl hl (by decide) rfl (fun ls hl => ?_)
            refine lv_iload hx hb dL_chart_269 (lv_at hl 1 rfl) ?_
            refine lv_iload hx hb dL_chart_271 (lv_at hl 9 rfl) ?_
            have K50 : ∀ (y49 : Int32) (ls : Array Slot), y49 = (if (((fX10_chartedAt o1 p1 i25 v).2) : Int32) ≤ i31 then i31 else ((fX10_chartedAt o1 p1 i25 v).2) : Int32) → lv_has ls 16 [(3, .int y47), (12, .int ((fX10_chartedAt o1 p1 i25 v).2)), (11, .int i25), (10, .int 1), (9, .int i26), (8, .int i27), (7, .int i28), (6, .int i29), (5, .int i30), (2, .int ((fX10_charted o1 p1 v).2)), (0, .ref (ga G o1)), (1, .int p1)] → W p l e rmL_chart s m args below meth c H locs 36 36 Q (F0 m 283 ls [.int y49]) := by
              intro y49 ls ey49 hl
              have ho := ho y49 ey49
              refine lv_istore (lv' := [(4, .int y49), (3, .int y47), (12, .int ((fX10_chartedAt o1 p1 i25 v).2)), (11, .int i25), (10, .int 1), (9, .int i26), (8, .int i27), (7, .int i28), (6, .int i29), (5, .int i30), (2, .int ((fX10_charted o1 p1 v).2)), (0, .ref (ga G o1)), (1, .int p1)]) hx hb dL_chart_283 hl (by decide) rfl (fun ls hl => ?_)
              refine lv_iload hx hb dL_chart_285 (lv_at hl 9 rfl) ?_
              refine lv_iload hx hb dL_chart_287 (lv_at hl 2 rfl) ?_
              refine lv_iadd hx hb dL_chart_289 ?_
              refine lv_istore (lv' := [(5, .int (i30 + ((fX10_chartedAt o1 p1 i25 v).2))), (4, .int y49), (3, .int y47), (12, .int ((fX10_chartedAt o1 p1 i25 v).2)), (11, .int i25), (10, .int 1), (9, .int i26), (8, .int i27), (7, .int i28), (6, .int i29), (2, .int ((fX10_charted o1 p1 v).2)), (0, .ref (ga G o1)), (1, .int p1)]) hx hb dL_chart_290 hl (by decide) rfl (fun ls hl => ?_)
              refine lv_iload hx hb dL_chart_292 (lv_at hl 9 rfl) ?_
              refine lv_iload hx hb dL_chart_294 (lv_at hl 4 rfl) ?_
              refine lv_iload_n hx hb dL_chart_296 rfl (lv_at hl 10 rfl) ?_
              refine lv_bipush (v := 6) hx hb dL_chart_297 (by decide) ?_
              refine lv_isub hx hb dL_chart_299 ?_
              have K52 : ∀ (y51 : Int32) (ls : Array Slot), y51 = (if (i25 : Int32) ≤ (((fX10_charted o1 p1 v).2) - (6 : Int32)) then 0 else (if (i25 : Int32) ≤ 0 then 0 else (if (((fX10_chartedAt o1 p1 i25 v).2) : Int32) ≤ ((fX10_chartedAt o1 p1 (i25 - (1 : Int32)) v).2) then 0 else 1)) : Int32) → lv_has ls 16 [(5, .int (i30 + ((fX10_chartedAt o1 p1 i25 v).2))), (4, .int y49), (3, .int y47), (12, .int ((fX10_chartedAt o1 p1 i25 v).2)), (11, .int i25), (10, .int 1), (9, .int i26), (8, .int i27), (7, .int i28), (2, .int ((fX10_charted o1 p1 v).2)), (0, .ref (ga G o1)), (1, .int p1)] → W p l e rmL_chart s m args below meth c H locs 36 36 Q (F0 m 327 ls [.int y51, .int i29]) := by
                intro y51 ls ey51 hl
                have ho := ho.2 y51 ey51
                refine lv_iadd hx hb dL_chart_327 ?_
                refine lv_istore (lv' := [(6, .int (i29 + y51)), (5, .int (i30 + ((fX10_chartedAt o1 p1 i25 v).2))), (4, .int y49), (3, .int y47), (12, .int ((fX10_chartedAt o1 p1 i25 v).2)), (11, .int i25), (10, .int 1), (9, .int i26), (8, .int i27), (7, .int i28), (2, .int ((fX10_charted o1 p1 v).2)), (0, .ref (ga G o1)), (1, .int p1)]) hx hb dL_chart_328 hl (by decide) rfl (fun ls hl => ?_)
                refine lv_iload hx hb dL_chart_330 (lv_at hl 9 rfl) ?_
                refine lv_iload hx hb dL_chart_332 (lv_at hl 5 rfl) ?_
                refine lv_iload_n hx hb dL_chart_334 rfl (lv_at hl 10 rfl) ?_
                refine lv_bipush (v := 6) hx hb dL_chart_335 (by decide) ?_
                refine lv_isub hx hb dL_chart_337 ?_
                have K54 : ∀ (y53 : Int32) (ls : Array Slot), y53 = (if (i25 : Int32) ≤ (((fX10_charted o1 p1 v).2) - (6 : Int32)) then 0 else (if (i25 : Int32) ≤ 0 then 0 else (if (((fX10_chartedAt o1 p1 (i25 - (1 : Int32)) v).2) : Int32) ≤ ((fX10_chartedAt o1 p1 i25 v).2) then 0 else 1)) : Int32) → lv_has ls 16 [(6, .int (i29 + y51)), (5, .int (i30 + ((fX10_chartedAt o1 p1 i25 v).2))), (4, .int y49), (3, .int y47), (12, .int ((fX10_chartedAt o1 p1 i25 v).2)), (11, .int i25), (10, .int 1), (9, .int i26), (8, .int i27), (2, .int ((fX10_charted o1 p1 v).2)), (0, .ref (ga G o1)), (1, .int p1)] → W p l e rmL_chart s m args below meth c H locs 36 36 Q (F0 m 365 ls [.int y53, .int i28]) := by
                  intro y53 ls ey53 hl
                  have ho := ho.2 y53 ey53
                  refine lv_iadd hx hb dL_chart_365 ?_
                  refine lv_istore (lv' := [(7, .int (i28 + y53)), (6, .int (i29 + y51)), (5, .int (i30 + ((fX10_chartedAt o1 p1 i25 v).2))), (4, .int y49), (3, .int y47), (12, .int ((fX10_chartedAt o1 p1 i25 v).2)), (11, .int i25), (10, .int 1), (9, .int i26), (8, .int i27), (2, .int ((fX10_charted o1 p1 v).2)), (0, .ref (ga G o1)), (1, .int p1)]) hx hb dL_chart_366 hl (by decide) rfl (fun ls hl => ?_)
                  refine lv_iload hx hb dL_chart_368 (lv_at hl 9 rfl) ?_
                  refine lv_iload hx hb dL_chart_370 (lv_at hl 6 rfl) ?_
                  refine lv_iload_n hx hb dL_chart_372 rfl (lv_at hl 10 rfl) ?_
                  refine lv_bipush (v := 8) hx hb dL_chart_373 (by decide) ?_
                  refine lv_isub hx hb dL_chart_375 ?_
                  have K56 : ∀ (y55 : Int32) (ls : Array Slot), y55 = (if (i25 : Int32) ≤ (((fX10_charted o1 p1 v).2) - (8 : Int32)) then 0 else (if (((fX10_chartedAt o1 p1 i25 v).2) : Int32) ≤ 0 then 0 else 1) : Int32) → lv_has ls 16 [(7, .int (i28 + y53)), (6, .int (i29 + y51)), (5, .int (i30 + ((fX10_chartedAt o1 p1 i25 v).2))), (4, .int y49), (3, .int y47), (12, .int ((fX10_chartedAt o1 p1 i25 v).2)), (11, .int i25), (10, .int 1), (9, .int i26), (2, .int ((fX10_charted o1 p1 v).2)), (0, .ref (ga G o1)), (1, .int p1)] → W p l e rmL_chart s m args below meth c H locs 36 36 Q (F0 m 389 ls [.int y55, .int i27]) := by
                    intro y55 ls ey55 hl
                    have ho := ho y55 ey55
                    refine lv_iadd hx hb dL_chart_389 ?_
                    refine lv_istore (lv' := [(8, .int (i27 + y55)), (7, .int (i28 + y53)), (6, .int (i29 + y51)), (5, .int (i30 + ((fX10_chartedAt o1 p1 i25 v).2))), (4, .int y49), (3, .int y47), (12, .int ((fX10_chartedAt o1 p1 i25 v).2)), (11, .int i25), (10, .int 1), (9, .int i26), (2, .int ((fX10_charted o1 p1 v).2)), (0, .ref (ga G o1)), (1, .int p1)]) hx hb dL_chart_390 hl (by decide) rfl (fun ls hl => ?_)
                    refine lv_iload hx hb dL_chart_392 (lv_at hl 9 rfl) ?_
                    refine lv_iload hx hb dL_chart_394 (lv_at hl 7 rfl) ?_
                    refine lv_iload_n hx hb dL_chart_396 rfl (lv_at hl 10 rfl) ?_
                    refine lv_bipush (v := 8) hx hb dL_chart_397 (by decide) ?_
                    refine lv_isub hx hb dL_chart_399 ?_
                    have K58 : ∀ (y57 : Int32) (ls : Array Slot), y57 = (if (i25 : Int32) ≤ (((fX10_charted o1 p1 v).2) - (8 : Int32)) then 0 else (if (0 : Int32) ≤ ((fX10_chartedAt o1 p1 i25 v).2) then 0 else 1) : Int32) → lv_has ls 16 [(8, .int (i27 + y55)), (7, .int (i28 + y53)), (6, .int (i29 + y51)), (5, .int (i30 + ((fX10_chartedAt o1 p1 i25 v).2))), (4, .int y49), (3, .int y47), (11, .int i25), (10, .int 1), (2, .int ((fX10_charted o1 p1 v).2)), (0, .ref (ga G o1)), (1, .int p1)] → W p l e rmL_chart s m args below meth c H locs 36 36 Q (F0 m 413 ls [.int y57, .int i26]) := by
                      intro y57 ls ey57 hl
                      have ho := ho y57 ey57
                      refine lv_iadd hx hb dL_chart_413 ?_
                      refine lv_istore (lv' := [(9, .int (i26 + y57)), (8, .int (i27 + y55)), (7, .int (i28 + y53)), (6, .int (i29 + y51)), (5, .int (i30 + ((fX10_chartedAt o1 p1 i25 v).2))), (4, .int y49), (3, .int y47), (11, .int i25), (10, .int 1), (2, .int ((fX10_charted o1 p1 v).2)), (0, .ref (ga G o1)), (1, .int p1)]) hx hb dL_chart_414 hl (by decide) rfl (fun ls hl => ?_)
                      refine lv_iinc (v := i25 + 1) (lv' := [(11, .int (i25 + 1)), (9, .int (i26 + y57)), (8, .int (i27 + y55)), (7, .int (i28 + y53)), (6, .int (i29 + y51)), (5, .int (i30 + ((fX10_chartedAt o1 p1 i25 v).2))), (4, .int y49), (3, .int y47), (10, .int 1), (2, .int ((fX10_charted o1 p1 v).2)), (0, .ref (ga G o1)), (1, .int p1)]) hx hb dL_chart_416 hl (k := 7) rfl rfl (by decide) rfl (fun ls hl => ?_)
                      refine lv_goto (tgt := 236) hx hb dL_chart_419 (by decide) ?_
                      have hoz := ho
                      have hlz := hl
                      replace ey47 := Eq.symm ey47
                      replace ey49 := Eq.symm ey49
                      replace ey51 := Eq.symm ey51
                      replace ey53 := Eq.symm ey53
                      replace ey55 := Eq.symm ey55
                      replace ey57 := Eq.symm ey57
                      subst ey47 ey49 ey51 ey53 ey55 ey57
                      exact ih _ _ _ _ _ _ _ _ _ hoz (lv_sub hlz [0, 8, 1, 2, 3, 4, 5, 6, 7, 9, 10, 11] rfl) (fun y33 y34 y35 y36 y37 y38 y39 ls q0 q1 q2 q3 q4 q5 q6 hl => K41 y33 y34 y35 y36 y37 y38 y39 ls (q0.trans (congrArg (fun z : Int32 × Int32 × Int32 × Int32 × Int32 × Int32 × Int32 => z.1) (Eq.symm (((lL_chart_236.eq_2 _ _ _ _ _ _ _ _ _ _ _ _)).trans ((if_neg c43).trans rfl))))) (q1.trans (congrArg (fun z : Int32 × Int32 × Int32 × Int32 × Int32 × Int32 × Int32 => z.2.1) (Eq.symm (((lL_chart_236.eq_2 _ _ _ _ _ _ _ _ _ _ _ _)).trans ((if_neg c43).trans rfl))))) (q2.trans (congrArg (fun z : Int32 × Int32 × Int32 × Int32 × Int32 × Int32 × Int32 => z.2.2.1) (Eq.symm (((lL_chart_236.eq_2 _ _ _ _ _ _ _ _ _ _ _ _)).trans ((if_neg c43).trans rfl))))) (q3.trans (congrArg (fun z : Int32 × Int32 × Int32 × Int32 × Int32 × Int32 × Int32 => z.2.2.2.1) (Eq.symm (((lL_chart_236.eq_2 _ _ _ _ _ _ _ _ _ _ _ _)).trans ((if_neg c43).trans rfl))))) (q4.trans (congrArg (fun z : Int32 × Int32 × Int32 × Int32 × Int32 × Int32 × Int32 => z.2.2.2.2.1) (Eq.symm (((lL_chart_236.eq_2 _ _ _ _ _ _ _ _ _ _ _ _)).trans ((if_neg c43).trans rfl))))) (q5.trans (congrArg (fun z : Int32 × Int32 × Int32 × Int32 × Int32 × Int32 × Int32 => z.2.2.2.2.2.1) (Eq.symm (((lL_chart_236.eq_2 _ _ _ _ _ _ _ _ _ _ _ _)).trans ((if_neg c43).trans rfl))))) (q6.trans (congrArg (fun z : Int32 × Int32 × Int32 × Int32 × Int32 × Int32 × Int32 => z.2.2.2.2.2.2) (Eq.symm (((lL_chart_236.eq_2 _ _ _ _ _ _ _ _ _ _ _ _)).trans ((if_neg c43).trans rfl))))) hl)
                    refine lv_icmp_le (tgt := 412) hx hb dL_chart_400 (by decide) (fun c58 => ?_) (fun c58 => ?_)
                    · skip
                      refine lv_iconst (v := 0) hx hb dL_chart_412 (by decide) ?_
                      have hlz := hl
                      exact K58 _ _ (Eq.symm ((if_pos c58).trans rfl)) (lv_sub hlz [0, 1, 2, 3, 4, 5, 7, 8, 10, 11, 12] rfl)
                    · skip
                      refine lv_iload hx hb dL_chart_403 (lv_at hl 6 rfl) ?_
                      refine lv_if_ge (tgt := 412) hx hb dL_chart_405 (by decide) (fun c59 => ?_) (fun c59 => ?_)
                      · skip
                        refine lv_iconst (v := 0) hx hb dL_chart_412 (by decide) ?_
                        have hlz := hl
                        exact K58 _ _ (Eq.symm ((if_neg c58).trans ((if_pos c59).trans rfl))) (lv_sub hlz [0, 1, 2, 3, 4, 5, 7, 8, 10, 11, 12] rfl)
                      · skip
                        refine lv_iconst (v := 1) hx hb dL_chart_408 (by decide) ?_
                        refine lv_goto (tgt := 413) hx hb dL_chart_409 (by decide) ?_
                        have hlz := hl
                        exact K58 _ _ (Eq.symm ((if_neg c58).trans ((if_neg c59).trans rfl))) (lv_sub hlz [0, 1, 2, 3, 4, 5, 7, 8, 10, 11, 12] rfl)
                  refine lv_icmp_le (tgt := 388) hx hb dL_chart_376 (by decide) (fun c56 => ?_) (fun c56 => ?_)
                  · skip
                    refine lv_iconst (v := 0) hx hb dL_chart_388 (by decide) ?_
                    have hlz := hl
                    exact K56 _ _ (Eq.symm ((if_pos c56).trans rfl)) (lv_sub hlz [0, 1, 2, 3, 4, 5, 6, 7, 8, 10, 11, 12] rfl)
                  · skip
                    refine lv_iload hx hb dL_chart_379 (lv_at hl 5 rfl) ?_
                    refine lv_if_le (tgt := 388) hx hb dL_chart_381 (by decide) (fun c57 => ?_) (fun c57 => ?_)
                    · skip
                      refine lv_iconst (v := 0) hx hb dL_chart_388 (by decide) ?_
                      have hlz := hl
                      exact K56 _ _ (Eq.symm ((if_neg c56).trans ((if_pos c57).trans rfl))) (lv_sub hlz [0, 1, 2, 3, 4, 5, 6, 7, 8, 10, 11, 12] rfl)
                    · skip
                      refine lv_iconst (v := 1) hx hb dL_chart_384 (by decide) ?_
                      refine lv_goto (tgt := 389) hx hb dL_chart_385 (by decide) ?_
                      have hlz := hl
                      exact K56 _ _ (Eq.symm ((if_neg c56).trans ((if_neg c57).trans rfl))) (lv_sub hlz [0, 1, 2, 3, 4, 5, 6, 7, 8, 10, 11, 12] rfl)
                have ho := ho.1
                refine lv_icmp_le (tgt := 364) hx hb dL_chart_338 (by decide) (fun c54 => ?_) (fun c54 => ?_)
                · skip
                  refine lv_iconst (v := 0) hx hb dL_chart_364 (by decide) ?_
                  have hlz := hl
                  exact K54 _ _ (Eq.symm ((if_pos c54).trans rfl)) (lv_sub hlz [0, 1, 2, 3, 4, 5, 6, 7, 8, 10, 11, 12] rfl)
                · have ho := ho c54
                  refine lv_iload hx hb dL_chart_341 (lv_at hl 5 rfl) ?_
                  refine lv_if_le (tgt := 364) hx hb dL_chart_343 (by decide) (fun c55 => ?_) (fun c55 => ?_)
                  · skip
                    refine lv_iconst (v := 0) hx hb dL_chart_364 (by decide) ?_
                    have hlz := hl
                    exact K54 _ _ (Eq.symm ((if_neg c54).trans ((if_pos c55).trans rfl))) (lv_sub hlz [0, 1, 2, 3, 4, 5, 6, 7, 8, 10, 11, 12] rfl)
                  · have ho := ho c55
                    refine lv_iload hx hb dL_chart_346 (lv_at hl 4 rfl) ?_
                    refine lv_aload_n hx hb dL_chart_348 rfl (lv_at hl 11 rfl) ?_
                    refine lv_iload_n hx hb dL_chart_349 rfl (lv_at hl 12 rfl) ?_
                    refine lv_iload hx hb dL_chart_350 (lv_at hl 5 rfl) ?_
                    refine lv_iconst (v := 1) hx hb dL_chart_352 (by decide) ?_
                    refine lv_isub hx hb dL_chart_353 ?_
                    have hq56 := ho.1
                    have ho := ho.2
                    have hq57 := ho
                    refine kZ_X10_chartedAt X hS hH hk_o1 hq56 hq57 t_ml_VernierDrawersLaw_89 hl.1 (Nat.le_of_ble_eq_true rfl) ⟨Nat.le_of_ble_eq_true rfl, Nat.le_of_ble_eq_true rfl⟩ ⟨(Nat.le_of_ble_eq_true rfl), (Nat.le_of_ble_eq_true rfl)⟩ dL_chart_354 ?_
                    refine lv_icmp_ge (tgt := 364) hx hb dL_chart_357 (by decide) (fun c58 => ?_) (fun c58 => ?_)
                    · skip
                      refine lv_iconst (v := 0) hx hb dL_chart_364 (by decide) ?_
                      have hlz := hl
                      exact K54 _ _ (Eq.symm ((if_neg c54).trans ((if_neg c55).trans ((if_pos c58).trans rfl)))) (lv_sub hlz [0, 1, 2, 3, 4, 5, 6, 7, 8, 10, 11, 12] rfl)
                    · skip
                      refine lv_iconst (v := 1) hx hb dL_chart_360 (by decide) ?_
                      refine lv_goto (tgt := 365) hx hb dL_chart_361 (by decide) ?_
                      have hlz := hl
                      exact K54 _ _ (Eq.symm ((if_neg c54).trans ((if_neg c55).trans ((if_neg c58).trans rfl)))) (lv_sub hlz [0, 1, 2, 3, 4, 5, 6, 7, 8, 10, 11, 12] rfl)
              have ho := ho.1
              refine lv_icmp_le (tgt := 326) hx hb dL_chart_300 (by decide) (fun c52 => ?_) (fun c52 => ?_)
              · skip
                refine lv_iconst (v := 0) hx hb dL_chart_326 (by decide) ?_
                have hlz := hl
                exact K52 _ _ (Eq.symm ((if_pos c52).trans rfl)) (lv_sub hlz [0, 1, 2, 3, 4, 5, 6, 7, 8, 10, 11, 12] rfl)
              · have ho := ho c52
                refine lv_iload hx hb dL_chart_303 (lv_at hl 4 rfl) ?_
                refine lv_if_le (tgt := 326) hx hb dL_chart_305 (by decide) (fun c53 => ?_) (fun c53 => ?_)
                · skip
                  refine lv_iconst (v := 0) hx hb dL_chart_326 (by decide) ?_
                  have hlz := hl
                  exact K52 _ _ (Eq.symm ((if_neg c52).trans ((if_pos c53).trans rfl))) (lv_sub hlz [0, 1, 2, 3, 4, 5, 6, 7, 8, 10, 11, 12] rfl)
                · have ho := ho c53
                  refine lv_iload hx hb dL_chart_308 (lv_at hl 3 rfl) ?_
                  refine lv_aload_n hx hb dL_chart_310 rfl (lv_at hl 11 rfl) ?_
                  refine lv_iload_n hx hb dL_chart_311 rfl (lv_at hl 12 rfl) ?_
                  refine lv_iload hx hb dL_chart_312 (lv_at hl 4 rfl) ?_
                  refine lv_iconst (v := 1) hx hb dL_chart_314 (by decide) ?_
                  refine lv_isub hx hb dL_chart_315 ?_
                  have hq54 := ho.1
                  have ho := ho.2
                  have hq55 := ho
                  refine kZ_X10_chartedAt X hS hH hk_o1 hq54 hq55 t_ml_VernierDrawersLaw_89 hl.1 (Nat.le_of_ble_eq_true rfl) ⟨Nat.le_of_ble_eq_true rfl, Nat.le_of_ble_eq_true rfl⟩ ⟨(Nat.le_of_ble_eq_true rfl), (Nat.le_of_ble_eq_true rfl)⟩ dL_chart_316 ?_
                  refine lv_icmp_le (tgt := 326) hx hb dL_chart_319 (by decide) (fun c56 => ?_) (fun c56 => ?_)
                  · skip
                    refine lv_iconst (v := 0) hx hb dL_chart_326 (by decide) ?_
                    have hlz := hl
                    exact K52 _ _ (Eq.symm ((if_neg c52).trans ((if_neg c53).trans ((if_pos c56).trans rfl)))) (lv_sub hlz [0, 1, 2, 3, 4, 5, 6, 7, 8, 10, 11, 12] rfl)
                  · skip
                    refine lv_iconst (v := 1) hx hb dL_chart_322 (by decide) ?_
                    refine lv_goto (tgt := 327) hx hb dL_chart_323 (by decide) ?_
                    have hlz := hl
                    exact K52 _ _ (Eq.symm ((if_neg c52).trans ((if_neg c53).trans ((if_neg c56).trans rfl)))) (lv_sub hlz [0, 1, 2, 3, 4, 5, 6, 7, 8, 10, 11, 12] rfl)
            refine lv_icmp_le (tgt := 281) hx hb dL_chart_273 (by decide) (fun c50 => ?_) (fun c50 => ?_)
            · skip
              refine lv_iload hx hb dL_chart_281 (lv_at hl 9 rfl) ?_
              have hlz := hl
              exact K50 _ _ (Eq.symm ((if_pos c50).trans rfl)) (lv_sub hlz [0, 1, 2, 3, 4, 5, 6, 7, 8, 10, 11, 12] rfl)
            · skip
              refine lv_iload hx hb dL_chart_276 (lv_at hl 1 rfl) ?_
              refine lv_goto (tgt := 283) hx hb dL_chart_278 (by decide) ?_
              have hlz := hl
              exact K50 _ _ (Eq.symm ((if_neg c50).trans rfl)) (lv_sub hlz [0, 1, 2, 3, 4, 5, 6, 7, 8, 10, 11, 12] rfl)
          refine lv_icmp_ge (tgt := 267) hx hb dL_chart_259 (by decide) (fun c48 => ?_) (fun c48 => ?_)
          · skip
            refine lv_iload_n hx hb dL_chart_267 rfl (lv_at hl 9 rfl) ?_
            have hlz := hl
            exact K48 _ _ (Eq.symm ((if_pos c48).trans rfl)) (lv_sub hlz [0, 1, 2, 3, 4, 5, 6, 7, 8, 10, 11, 12] rfl)
          · skip
            refine lv_iload hx hb dL_chart_262 (lv_at hl 0 rfl) ?_
            refine lv_goto (tgt := 268) hx hb dL_chart_264 (by decide) ?_
            have hlz := hl
            exact K48 _ _ (Eq.symm ((if_neg c48).trans rfl)) (lv_sub hlz [0, 1, 2, 3, 4, 5, 6, 7, 8, 10, 11, 12] rfl)
    have hol := ho.1
    refine L40 (13) 0 0 0 0 0 0 (-9999) 9999 _ hol (lv_sub hl [0, 1, 2, 3, 4, 5, 6, 7, 8, 9, 10, 11] rfl) (fun y33 y34 y35 y36 y37 y38 y39 ls ey33 ey34 ey35 ey36 ey37 ey38 ey39 hl => ?_)
    have ho := ho.2 y33 y34 y35 y36 y37 y38 y39 ey33 ey34 ey35 ey36 ey37 ey38 ey39
    refine lv_aload_n hx hb dL_chart_422 rfl (lv_at hl 9 rfl) ?_
    refine lv_iload_n hx hb dL_chart_423 rfl (lv_at hl 10 rfl) ?_
    have hq60 := ho.1
    have ho := ho.2
    have hq61 := ho.1
    have ho := ho.2
    refine kZ_X10_signalsOf X hS hH hk_o1 hq60 hq61 t_ml_VernierDrawersLaw_191 hl.1 (Nat.le_of_ble_eq_true rfl) ⟨Nat.le_of_ble_eq_true rfl, Nat.le_of_ble_eq_true rfl⟩ ⟨(Nat.le_of_ble_eq_true rfl), (Nat.le_of_ble_eq_true rfl)⟩ dL_chart_424 ?_
    refine lv_istore (lv' := [(11, .int ((fX10_signalsOf o1 p1 v).2)), (10, .int 1), (9, .int y33), (8, .int y34), (7, .int y35), (6, .int y36), (5, .int y37), (4, .int y38), (3, .int y39), (2, .int ((fX10_charted o1 p1 v).2)), (0, .ref (ga G o1)), (1, .int p1)]) hx hb dL_chart_427 hl (by decide) rfl (fun ls hl => ?_)
    refine lv_iload hx hb dL_chart_429 (lv_at hl 1 rfl) ?_
    refine lv_if_eq (tgt := 527) hx hb dL_chart_431 (by decide) (fun c62 => absurd c62 (by decide)) (fun c62 => ?_)
    refine lv_iload hx hb dL_chart_434 (lv_at hl 0 rfl) ?_
    refine lv_if_lt (tgt := 527) hx hb dL_chart_436 (by decide) (fun c63 => ?_) (fun c63 => ?_)
    · exact absurd c63 ho.1
    have ho := ho.2
    refine lv_iload hx hb dL_chart_439 (lv_at hl 0 rfl) ?_
    refine lv_bipush (v := 16) hx hb dL_chart_441 (by decide) ?_
    refine lv_icmp_ge (tgt := 527) hx hb dL_chart_443 (by decide) (fun c64 => ?_) (fun c64 => ?_)
    · exact absurd c64 ho.1
    have ho := ho.2
    refine lv_iload hx hb dL_chart_446 (lv_at hl 0 rfl) ?_
    refine lv_iconst (v := 1) hx hb dL_chart_448 (by decide) ?_
    refine lv_ishr hx hb dL_chart_449 ?_
    refine lv_iconst (v := 1) hx hb dL_chart_450 (by decide) ?_
    refine lv_iand hx hb dL_chart_451 ?_
    refine lv_iload_n hx hb dL_chart_452 rfl (lv_at hl 9 rfl) ?_
    refine lv_iconst (v := 5) hx hb dL_chart_453 (by decide) ?_
    have K66 : ∀ (y65 : Int32) (ls : Array Slot), y65 = (if (((fX10_charted o1 p1 v).2) : Int32) ≤ 5 then 0 else (if (y36 : Int32) = 5 then 1 else (if (y35 : Int32) = 5 then 1 else 0)) : Int32) → lv_has ls 16 [(11, .int ((fX10_signalsOf o1 p1 v).2)), (9, .int y33), (8, .int y34), (5, .int y37), (4, .int y38), (3, .int y39), (2, .int ((fX10_charted o1 p1 v).2)), (0, .ref (ga G o1)), (1, .int p1)] → W p l e rmL_chart s m args below meth c H locs 36 36 Q (F0 m 474 ls [.int y65, .int ((((fX10_signalsOf o1 p1 v).2) >>> ((1 : Int32) &&& 31)) &&& (1 : Int32))]) := by
      intro y65 ls ey65 hl
      have ho := ho y65 ey65
      refine lv_icmp_ne (tgt := 527) hx hb dL_chart_474 (by decide) (fun c67 => ?_) (fun c67 => ?_)
      · exact absurd ho.1 c67
      have ho := ho.2
      refine lv_iload hx hb dL_chart_477 (lv_at hl 0 rfl) ?_
      refine lv_iconst (v := 2) hx hb dL_chart_479 (by decide) ?_
      refine lv_ishr hx hb dL_chart_480 ?_
      refine lv_iconst (v := 1) hx hb dL_chart_481 (by decide) ?_
      refine lv_iand hx hb dL_chart_482 ?_
      refine lv_iload_n hx hb dL_chart_483 rfl (lv_at hl 6 rfl) ?_
      refine lv_bipush (v := 6) hx hb dL_chart_484 (by decide) ?_
      have K69 : ∀ (y68 : Int32) (ls : Array Slot), y68 = (if (((fX10_charted o1 p1 v).2) : Int32) ≤ 6 then 0 else (if (y34 : Int32) = 7 then 1 else (if (y33 : Int32) = 7 then 1 else 0)) : Int32) → lv_has ls 16 [(11, .int ((fX10_signalsOf o1 p1 v).2)), (5, .int y37), (4, .int y38), (3, .int y39), (2, .int ((fX10_charted o1 p1 v).2)), (0, .ref (ga G o1)), (1, .int p1)] → W p l e rmL_chart s m args below meth c H locs 36 36 Q (F0 m 508 ls [.int y68, .int ((((fX10_signalsOf o1 p1 v).2) >>> ((2 : Int32) &&& 31)) &&& (1 : Int32))]) := by
        intro y68 ls ey68 hl
        have ho := ho y68 ey68
        refine lv_icmp_ne (tgt := 527) hx hb dL_chart_508 (by decide) (fun c70 => ?_) (fun c70 => ?_)
        · exact absurd ho.1 c70
        have ho := ho.2
        refine lv_iload_n hx hb dL_chart_511 rfl (lv_at hl 4 rfl) ?_
        refine lv_iconst (v := 2) hx hb dL_chart_512 (by decide) ?_
        have K71 : ∀  (ls : Array Slot), lv_has ls 16 [(11, .int ((fX10_signalsOf o1 p1 v).2)), (5, .int y37), (4, .int y38), (3, .int y39), (2, .int ((fX10_charted o1 p1 v).2)), (0, .ref (ga G o1)), (1, .int p1)] → W p l e rmL_chart s m args below meth c H locs 36 36 Q (F0 m 523 ls []) := by
          intro  ls  hl
          have ho := ho.2
          refine lv_iconst (v := 1) hx hb dL_chart_523 (by decide) ?_
          refine lv_goto (tgt := 528) hx hb dL_chart_524 (by decide) ?_
          refine lv_istore (lv' := [(10, .int 1), (11, .int ((fX10_signalsOf o1 p1 v).2)), (5, .int y37), (4, .int y38), (3, .int y39), (2, .int ((fX10_charted o1 p1 v).2)), (0, .ref (ga G o1)), (1, .int p1)]) hx hb dL_chart_528 hl (by decide) rfl (fun ls hl => ?_)
          refine lv_iload_n hx hb dL_chart_530 rfl (lv_at hl 5 rfl) ?_
          refine lv_if_ne (tgt := 591) hx hb dL_chart_531 (by decide) (fun c72 => ?_) (fun c72 => ?_)
          · have ho := ho.2 c72
            refine lv_aload_n hx hb dL_chart_591 rfl (lv_at hl 6 rfl) ?_
            refine lv_iload_n hx hb dL_chart_592 rfl (lv_at hl 7 rfl) ?_
            have hq73 := ho.1
            have ho := ho.2
            have hq74 := ho.1
            have ho := ho.2
            refine kZ_X10_middleOf X hS hH hk_o1 hq73 hq74 t_ml_VernierDrawersLaw_92 hl.1 (Nat.le_of_ble_eq_true rfl) ⟨Nat.le_of_ble_eq_true rfl, Nat.le_of_ble_eq_true rfl⟩ ⟨(Nat.le_of_ble_eq_true rfl), (Nat.le_of_ble_eq_true rfl)⟩ dL_chart_593 (fun da H locs hH hS => ?_)
            refine W.widen (k := 48) (n := 48) (Nat.le_refl _) (Nat.le_refl _) ?_
            refine lv_istore (lv' := [(12, .int ((fX10_middleOf o1 p1 v).2.1)), (10, .int 1), (11, .int ((fX10_signalsOf o1 p1 v).2)), (5, .int y37), (4, .int y38), (3, .int y39), (2, .int ((fX10_charted o1 p1 v).2)), (0, .ref (ga G o1)), (1, .int p1)]) hx hb dL_chart_596 hl (by decide) rfl (fun ls hl => ?_)
            refine lv_iconst (v := 0) hx hb dL_chart_598 (by decide) ?_
            refine lv_istore (lv' := [(13, .int 0), (12, .int ((fX10_middleOf o1 p1 v).2.1)), (10, .int 1), (11, .int ((fX10_signalsOf o1 p1 v).2)), (5, .int y37), (4, .int y38), (3, .int y39), (2, .int ((fX10_charted o1 p1 v).2)), (0, .ref (ga G o1)), (1, .int p1)]) hx hb dL_chart_599 hl (by decide) rfl (fun ls hl => ?_)
            refine lv_iconst (v := 0) hx hb dL_chart_601 (by decide) ?_
            refine lv_istore (lv' := [(14, .int 0), (13, .int 0), (12, .int ((fX10_middleOf o1 p1 v).2.1)), (10, .int 1), (11, .int ((fX10_signalsOf o1 p1 v).2)), (5, .int y37), (4, .int y38), (3, .int y39), (2, .int ((fX10_charted o1 p1 v).2)), (0, .ref (ga G o1)), (1, .int p1)]) hx hb dL_chart_602 hl (by decide) rfl (fun ls hl => ?_)
            refine lv_iconst (v := 0) hx hb dL_chart_604 (by decide) ?_
            refine lv_istore (lv' := [(15, .int 0), (14, .int 0), (13, .int 0), (12, .int ((fX10_middleOf o1 p1 v).2.1)), (10, .int 1), (11, .int ((fX10_signalsOf o1 p1 v).2)), (5, .int y37), (4, .int y38), (3, .int y39), (2, .int ((fX10_charted o1 p1 v).2)), (0, .ref (ga G o1)), (1, .int p1)]) hx hb dL_chart_605 hl (by decide) rfl (fun ls hl => ?_)
            have L80 : ∀ (n : Nat) (i75 : Int32) (i76 : Int32) (i77 : Int32) (ls : Array Slot), olL_chart_607 v o1 p1 n i75 i76 i77 → lv_has ls 16 [(15, .int i75), (14, .int i76), (13, .int i77), (12, .int ((fX10_middleOf o1 p1 v).2.1)), (10, .int 1), (5, .int y37), (4, .int y38), (3, .int y39), (2, .int ((fX10_charted o1 p1 v).2)), (0, .ref (ga G o1)), (1, .int p1)] → (∀ (y78 : Int32) (y79 : Int32) (ls : Array Slot), y78 = (lL_chart_607 v o1 p1 n i75 i76 i77 : Int32 × Int32).1 → y79 = (lL_chart_607 v o1 p1 n i75 i76 i77 : Int32 × Int32).2 → lv_has ls 16 [(14, .int y78), (13, .int y79), (12, .int ((fX10_middleOf o1 p1 v).2.1)), (10, .int 1), (5, .int y37), (4, .int y38), (3, .int y39), (2, .int ((fX10_charted o1 p1 v).2)), (0, .ref (ga G o1)), (1, .int p1)] → W p l e rmL_chart s m args below meth c H locs 48 48 Q (F0 m 663 ls [])) → W p l e rmL_chart s m args below meth c H locs 48 48 Q (F0 m 607 ls []) := by
              clear ho
              intro n
              induction n with
              | zero =>
                intro i75 i76 i77 ls ho
                exact ho.elim
              | succ n ih =>
                intro i75 i76 i77 ls ho hl K81
                refine lv_iload hx hb dL_chart_607 (lv_at hl 0 rfl) ?_
                refine lv_iload_n hx hb dL_chart_609 rfl (lv_at hl 8 rfl) ?_
                refine lv_icmp_ge (tgt := 663) hx hb dL_chart_610 (by decide) (fun c83 => ?_) (fun c83 => ?_)
                · skip
                  have hoz := ho
                  have hlz := hl
                  exact K81 _ _ _ (pr1 (((lL_chart_607.eq_2 _ _ _ _ _ _ _)).trans ((if_pos c83).trans rfl))) (pr2 (((lL_chart_607.eq_2 _ _ _ _ _ _ _)).trans ((if_pos c83).trans rfl))) (lv_sub hlz [1, 2, 3, 4, 5, 6, 7, 8, 9, 10] rfl)
                · have ho := ho c83
                  refine lv_iload hx hb dL_chart_613 (lv_at hl 2 rfl) ?_
                  refine lv_aload_n hx hb dL_chart_615 rfl (lv_at hl 9 rfl) ?_
                  refine lv_iload_n hx hb dL_chart_616 rfl (lv_at hl 10 rfl) ?_
                  refine lv_iload hx hb dL_chart_617 (lv_at hl 0 rfl) ?_
                  have hq84 := ho.1
                  have ho := ho.2
                  have hq85 := ho.1
                  have ho := ho.2
                  refine kZ_X10_chartedAt X hS hH hk_o1 hq84 hq85 t_ml_VernierDrawersLaw_89 hl.1 (Nat.le_of_ble_eq_true rfl) ⟨Nat.le_of_ble_eq_true rfl, Nat.le_of_ble_eq_true rfl⟩ ⟨(Nat.le_of_ble_eq_true rfl), (Nat.le_of_ble_eq_true rfl)⟩ dL_chart_619 ?_
                  refine lv_iload hx hb dL_chart_622 (lv_at hl 3 rfl) ?_
                  have K87 : ∀ (y86 : Int32) (ls : Array Slot), y86 = (if (((fX10_middleOf o1 p1 v).2.1) : Int32) ≤ ((fX10_chartedAt o1 p1 i75 v).2) then 0 else 1 : Int32) → lv_has ls 16 [(15, .int i75), (14, .int i76), (12, .int ((fX10_middleOf o1 p1 v).2.1)), (10, .int 1), (5, .int y37), (4, .int y38), (3, .int y39), (2, .int ((fX10_charted o1 p1 v).2)), (0, .ref (ga G o1)), (1, .int p1)] → W p l e rmL_chart s m args below meth c H locs 48 48 Q (F0 m 632 ls [.int y86, .int i77]) := by
                    intro y86 ls ey86 hl
                    have ho := ho y86 ey86
                    refine lv_iadd hx hb dL_chart_632 ?_
                    refine lv_istore (lv' := [(13, .int (i77 + y86)), (15, .int i75), (14, .int i76), (12, .int ((fX10_middleOf o1 p1 v).2.1)), (10, .int 1), (5, .int y37), (4, .int y38), (3, .int y39), (2, .int ((fX10_charted o1 p1 v).2)), (0, .ref (ga G o1)), (1, .int p1)]) hx hb dL_chart_633 hl (by decide) rfl (fun ls hl => ?_)
                    refine lv_iload hx hb dL_chart_635 (lv_at hl 2 rfl) ?_
                    refine lv_aload_n hx hb dL_chart_637 rfl (lv_at hl 9 rfl) ?_
                    refine lv_iload_n hx hb dL_chart_638 rfl (lv_at hl 10 rfl) ?_
                    refine lv_iload hx hb dL_chart_639 (lv_at hl 1 rfl) ?_
                    refine kZ_X10_chartedAt X hS hH hk_o1 hq84 hq85 t_ml_VernierDrawersLaw_89 hl.1 (Nat.le_of_ble_eq_true rfl) ⟨Nat.le_of_ble_eq_true rfl, Nat.le_of_ble_eq_true rfl⟩ ⟨(Nat.le_of_ble_eq_true rfl), (Nat.le_of_ble_eq_true rfl)⟩ dL_chart_641 ?_
                    refine lv_iload hx hb dL_chart_644 (lv_at hl 3 rfl) ?_
                    have K89 : ∀ (y88 : Int32) (ls : Array Slot), y88 = (if (((fX10_chartedAt o1 p1 i75 v).2) : Int32) = ((fX10_middleOf o1 p1 v).2.1) then 1 else 0 : Int32) → lv_has ls 16 [(13, .int (i77 + y86)), (15, .int i75), (12, .int ((fX10_middleOf o1 p1 v).2.1)), (10, .int 1), (5, .int y37), (4, .int y38), (3, .int y39), (2, .int ((fX10_charted o1 p1 v).2)), (0, .ref (ga G o1)), (1, .int p1)] → W p l e rmL_chart s m args below meth c H locs 48 48 Q (F0 m 654 ls [.int y88, .int i76]) := by
                      intro y88 ls ey88 hl
                      have ho := ho y88 ey88
                      refine lv_iadd hx hb dL_chart_654 ?_
                      refine lv_istore (lv' := [(14, .int (i76 + y88)), (13, .int (i77 + y86)), (15, .int i75), (12, .int ((fX10_middleOf o1 p1 v).2.1)), (10, .int 1), (5, .int y37), (4, .int y38), (3, .int y39), (2, .int ((fX10_charted o1 p1 v).2)), (0, .ref (ga G o1)), (1, .int p1)]) hx hb dL_chart_655 hl (by decide) rfl (fun ls hl => ?_)
                      refine lv_iinc (v := i75 + 1) (lv' := [(15, .int (i75 + 1)), (14, .int (i76 + y88)), (13, .int (i77 + y86)), (12, .int ((fX10_middleOf o1 p1 v).2.1)), (10, .int 1), (5, .int y37), (4, .int y38), (3, .int y39), (2, .int ((fX10_charted o1 p1 v).2)), (0, .ref (ga G o1)), (1, .int p1)]) hx hb dL_chart_657 hl (k := 2) rfl rfl (by decide) rfl (fun ls hl => ?_)
                      refine lv_goto (tgt := 607) hx hb dL_chart_660 (by decide) ?_
                      have hoz := ho
                      have hlz := hl
                      replace ey86 := Eq.symm ey86
                      replace ey88 := Eq.symm ey88
                      subst ey86 ey88
                      exact ih _ _ _ _ hoz (lv_sub hlz [0, 1, 2, 3, 4, 5, 6, 7, 8, 9, 10] rfl) (fun y78 y79 ls q0 q1 hl => K81 y78 y79 ls (q0.trans (congrArg (fun z : Int32 × Int32 => z.1) (Eq.symm (((lL_chart_607.eq_2 _ _ _ _ _ _ _)).trans ((if_neg c83).trans rfl))))) (q1.trans (congrArg (fun z : Int32 × Int32 => z.2) (Eq.symm (((lL_chart_607.eq_2 _ _ _ _ _ _ _)).trans ((if_neg c83).trans rfl))))) hl)
                    refine lv_icmp_ne (tgt := 653) hx hb dL_chart_646 (by decide) (fun c89 => ?_) (fun c89 => ?_)
                    · skip
                      refine lv_iconst (v := 0) hx hb dL_chart_653 (by decide) ?_
                      have hlz := hl
                      exact K89 _ _ (Eq.symm ((if_neg c89).trans rfl)) (lv_sub hlz [0, 1, 3, 4, 5, 6, 7, 8, 9, 10] rfl)
                    · skip
                      refine lv_iconst (v := 1) hx hb dL_chart_649 (by decide) ?_
                      refine lv_goto (tgt := 654) hx hb dL_chart_650 (by decide) ?_
                      have hlz := hl
                      exact K89 _ _ (Eq.symm ((if_pos c89).trans rfl)) (lv_sub hlz [0, 1, 3, 4, 5, 6, 7, 8, 9, 10] rfl)
                  refine lv_icmp_ge (tgt := 631) hx hb dL_chart_624 (by decide) (fun c87 => ?_) (fun c87 => ?_)
                  · skip
                    refine lv_iconst (v := 0) hx hb dL_chart_631 (by decide) ?_
                    have hlz := hl
                    exact K87 _ _ (Eq.symm ((if_pos c87).trans rfl)) (lv_sub hlz [0, 1, 3, 4, 5, 6, 7, 8, 9, 10] rfl)
                  · skip
                    refine lv_iconst (v := 1) hx hb dL_chart_627 (by decide) ?_
                    refine lv_goto (tgt := 632) hx hb dL_chart_628 (by decide) ?_
                    have hlz := hl
                    exact K87 _ _ (Eq.symm ((if_neg c87).trans rfl)) (lv_sub hlz [0, 1, 3, 4, 5, 6, 7, 8, 9, 10] rfl)
            have hol := ho.1
            refine L80 (13) 0 0 0 _ hol (lv_sub hl [0, 1, 2, 3, 4, 6, 7, 8, 9, 10, 11] rfl) (fun y78 y79 ls ey78 ey79 hl => ?_)
            have ho := ho.2 y78 y79 ey78 ey79
            refine lv_iload hx hb dL_chart_663 (lv_at hl 3 rfl) ?_
            refine lv_if_eq (tgt := 733) hx hb dL_chart_665 (by decide) (fun c90 => absurd c90 (by decide)) (fun c90 => ?_)
            refine lv_iload hx hb dL_chart_668 (lv_at hl 0 rfl) ?_
            refine lv_if_le (tgt := 733) hx hb dL_chart_670 (by decide) (fun c91 => ?_) (fun c91 => ?_)
            · exact absurd c91 ho.1
            have ho := ho.2
            refine lv_iload hx hb dL_chart_673 (lv_at hl 1 rfl) ?_
            refine lv_iload_n hx hb dL_chart_675 rfl (lv_at hl 7 rfl) ?_
            refine lv_iconst (v := 2) hx hb dL_chart_676 (by decide) ?_
            refine lv_idiv hx hb dL_chart_677 (by decide) ?_
            refine lv_icmp_gt (tgt := 733) hx hb dL_chart_678 (by decide) (fun c92 => ?_) (fun c92 => ?_)
            · exact absurd c92 ho.1
            have ho := ho.2
            refine lv_iload hx hb dL_chart_681 (lv_at hl 1 rfl) ?_
            refine lv_iload hx hb dL_chart_683 (lv_at hl 0 rfl) ?_
            refine lv_iadd hx hb dL_chart_685 ?_
            refine lv_iload_n hx hb dL_chart_686 rfl (lv_at hl 7 rfl) ?_
            refine lv_iconst (v := 2) hx hb dL_chart_687 (by decide) ?_
            refine lv_idiv hx hb dL_chart_688 (by decide) ?_
            refine lv_icmp_le (tgt := 733) hx hb dL_chart_689 (by decide) (fun c93 => ?_) (fun c93 => ?_)
            · exact absurd c93 ho.1
            have ho := ho.2
            refine lv_aload_n hx hb dL_chart_692 rfl (lv_at hl 8 rfl) ?_
            refine lv_iload_n hx hb dL_chart_693 rfl (lv_at hl 9 rfl) ?_
            have hq94 := ho.1
            have ho := ho.2
            have hq95 := ho.1
            have ho := ho.2
            refine kZ_X10_middleByTaking X hS hH hk_o1 hq94 hq95 t_ml_VernierDrawersLaw_95 hl.1 (Nat.le_of_ble_eq_true rfl) ⟨Nat.le_of_ble_eq_true rfl, Nat.le_of_ble_eq_true rfl⟩ ⟨(Nat.le_of_ble_eq_true rfl), (Nat.le_of_ble_eq_true rfl)⟩ dL_chart_694 (fun da H locs hH hS => ?_)
            refine W.widen (k := 60) (n := 60) (Nat.le_refl _) (Nat.le_refl _) ?_
            refine lv_iload hx hb dL_chart_697 (lv_at hl 2 rfl) ?_
            refine lv_icmp_ne (tgt := 733) hx hb dL_chart_699 (by decide) (fun c96 => ?_) (fun c96 => ?_)
            · exact absurd ho.1 c96
            have ho := ho.2
            refine lv_aload_n hx hb dL_chart_702 rfl (lv_at hl 8 rfl) ?_
            refine lv_iload_n hx hb dL_chart_703 rfl (lv_at hl 9 rfl) ?_
            have hq97 := ho.1
            have ho := ho.2
            have hq98 := ho.1
            have ho := ho.2
            refine kZ_X10_spreadOf X hS hH hk_o1 hq97 hq98 t_ml_VernierDrawersLaw_98 hl.1 (Nat.le_of_ble_eq_true rfl) ⟨Nat.le_of_ble_eq_true rfl, Nat.le_of_ble_eq_true rfl⟩ ⟨(Nat.le_of_ble_eq_true rfl), (Nat.le_of_ble_eq_true rfl)⟩ dL_chart_704 ?_
            refine lv_iload hx hb dL_chart_707 (lv_at hl 5 rfl) ?_
            refine lv_iload_n hx hb dL_chart_709 rfl (lv_at hl 6 rfl) ?_
            refine lv_isub hx hb dL_chart_710 ?_
            refine lv_icmp_ne (tgt := 733) hx hb dL_chart_711 (by decide) (fun c99 => ?_) (fun c99 => ?_)
            · exact absurd ho.1 c99
            have ho := ho.2
            refine lv_aload_n hx hb dL_chart_714 rfl (lv_at hl 8 rfl) ?_
            refine lv_iload_n hx hb dL_chart_715 rfl (lv_at hl 9 rfl) ?_
            have hq100 := ho.1
            have ho := ho.2
            refine k_L_meanOf hst X hS hN hH hk_o1 hq100 t_ml_VernierDrawersLaw_276 hl.1 (Nat.le_of_ble_eq_true rfl) ⟨Nat.le_of_ble_eq_true rfl, Nat.le_of_ble_eq_true rfl⟩ ⟨(Nat.le_of_ble_eq_true rfl), (Nat.le_of_ble_eq_true rfl)⟩ dL_chart_716 (fun da H locs hH hS => ?_)
            refine W.widen (k := 72) (n := 72) (Nat.le_refl _) (Nat.le_refl _) ?_
            refine lv_iload hx hb dL_chart_719 (lv_at hl 4 rfl) ?_
            refine lv_i2f hx hb dL_chart_721 ?_
            refine lv_iload_n hx hb dL_chart_722 rfl (lv_at hl 7 rfl) ?_
            refine lv_i2f hx hb dL_chart_723 ?_
            have hq101 := ho.1
            have ho := ho.2
            refine lv_fdiv hx hb dL_chart_724 hq101 ?_
            refine lv_fcmp (op := .l) hx hb dL_chart_725 ?_
            refine lv_if_ne (tgt := 733) hx hb dL_chart_726 (by decide) (fun c102 => ?_) (fun c102 => ?_)
            · exact absurd ho c102
            refine lv_iconst (v := 1) hx hb dL_chart_729 (by decide) ?_
            refine lv_goto (tgt := 734) hx hb dL_chart_730 (by decide) ?_
            exact E _ _ _ _ _ _ _ _ _ dL_chart_734 rfl rfl rfl hH hS (Nat.le_of_ble_eq_true rfl) (Nat.le_of_ble_eq_true rfl)
          · have ho := ho.1 c72
            refine lv_iload hx hb dL_chart_534 (lv_at hl 0 rfl) ?_
            refine lv_if_eq (tgt := 589) hx hb dL_chart_536 (by decide) (fun c103 => absurd c103 (by decide)) (fun c103 => ?_)
            refine lv_iload hx hb dL_chart_539 (lv_at hl 1 rfl) ?_
            refine lv_if_ne (tgt := 589) hx hb dL_chart_541 (by decide) (fun c104 => ?_) (fun c104 => ?_)
            · exact absurd ho.1 c104
            have ho := ho.2
            refine lv_aload_n hx hb dL_chart_544 rfl (lv_at hl 6 rfl) ?_
            refine lv_iload_n hx hb dL_chart_545 rfl (lv_at hl 7 rfl) ?_
            have hq105 := ho.1
            have ho := ho.2
            refine k_L_middleOf hst X hS hN hH hk_o1 hq105 t_ml_VernierDrawersLaw_270 hl.1 (Nat.le_of_ble_eq_true rfl) ⟨Nat.le_of_ble_eq_true rfl, Nat.le_of_ble_eq_true rfl⟩ ⟨(Nat.le_of_ble_eq_true rfl), (Nat.le_of_ble_eq_true rfl)⟩ dL_chart_546 (fun da H locs hH hS => ?_)
            refine W.widen (k := 72) (n := 72) (Nat.le_refl _) (Nat.le_refl _) ?_
            refine lv_ldc (v := (-100104)) hx hb hown (hts _ t_con_VernierDrawersLaw_73) dL_chart_549 ?_
            refine lv_icmp_ne (tgt := 589) hx hb dL_chart_551 (by decide) (fun c106 => ?_) (fun c106 => ?_)
            · exact absurd ho.1 c106
            have ho := ho.2
            refine lv_aload_n hx hb dL_chart_554 rfl (lv_at hl 6 rfl) ?_
            refine lv_iload_n hx hb dL_chart_555 rfl (lv_at hl 7 rfl) ?_
            have hq107 := ho.1
            have ho := ho.2
            refine k_L_middleByTaking hst X hS hN hH hk_o1 hq107 t_ml_VernierDrawersLaw_272 hl.1 (Nat.le_of_ble_eq_true rfl) ⟨Nat.le_of_ble_eq_true rfl, Nat.le_of_ble_eq_true rfl⟩ ⟨(Nat.le_of_ble_eq_true rfl), (Nat.le_of_ble_eq_true rfl)⟩ dL_chart_556 (fun da H locs hH hS => ?_)
            refine W.widen (k := 108) (n := 108) (Nat.le_refl _) (Nat.le_refl _) ?_
            refine lv_ldc (v := (-100104)) hx hb hown (hts _ t_con_VernierDrawersLaw_73) dL_chart_559 ?_
            refine lv_icmp_ne (tgt := 589) hx hb dL_chart_561 (by decide) (fun c108 => ?_) (fun c108 => ?_)
            · exact absurd ho.1 c108
            have ho := ho.2
            refine lv_aload_n hx hb dL_chart_564 rfl (lv_at hl 6 rfl) ?_
            refine lv_iload_n hx hb dL_chart_565 rfl (lv_at hl 7 rfl) ?_
            have hq109 := ho.1
            have ho := ho.2
            refine k_L_spreadOf hst X hS hN hH hk_o1 hq109 t_ml_VernierDrawersLaw_274 hl.1 (Nat.le_of_ble_eq_true rfl) ⟨Nat.le_of_ble_eq_true rfl, Nat.le_of_ble_eq_true rfl⟩ ⟨(Nat.le_of_ble_eq_true rfl), (Nat.le_of_ble_eq_true rfl)⟩ dL_chart_566 (fun da H locs hH hS => ?_)
            refine W.widen (k := 120) (n := 120) (Nat.le_refl _) (Nat.le_refl _) ?_
            refine lv_ldc (v := (-100104)) hx hb hown (hts _ t_con_VernierDrawersLaw_73) dL_chart_569 ?_
            refine lv_icmp_ne (tgt := 589) hx hb dL_chart_571 (by decide) (fun c110 => ?_) (fun c110 => ?_)
            · exact absurd ho.1 c110
            have ho := ho.2
            refine lv_aload_n hx hb dL_chart_574 rfl (lv_at hl 6 rfl) ?_
            refine lv_iload_n hx hb dL_chart_575 rfl (lv_at hl 7 rfl) ?_
            have hq111 := ho.1
            have ho := ho.2
            refine k_L_meanOf hst X hS hN hH hk_o1 hq111 t_ml_VernierDrawersLaw_276 hl.1 (Nat.le_of_ble_eq_true rfl) ⟨Nat.le_of_ble_eq_true rfl, Nat.le_of_ble_eq_true rfl⟩ ⟨(Nat.le_of_ble_eq_true rfl), (Nat.le_of_ble_eq_true rfl)⟩ dL_chart_576 (fun da H locs hH hS => ?_)
            refine W.widen (k := 132) (n := 132) (Nat.le_refl _) (Nat.le_refl _) ?_
            refine lv_ldcf (v := 3351479296) hx hb hown (hts _ t_con_VernierDrawersLaw_199) dL_chart_579 ?_
            refine lv_fcmp (op := .l) hx hb dL_chart_581 ?_
            refine lv_if_ne (tgt := 589) hx hb dL_chart_582 (by decide) (fun c112 => ?_) (fun c112 => ?_)
            · exact absurd ho c112
            refine lv_iconst (v := 1) hx hb dL_chart_585 (by decide) ?_
            refine lv_goto (tgt := 590) hx hb dL_chart_586 (by decide) ?_
            exact E _ _ _ _ _ _ _ _ _ dL_chart_590 rfl rfl rfl hH hS (Nat.le_of_ble_eq_true rfl) (Nat.le_of_ble_eq_true rfl)
        have ho := ho.1
        refine lv_icmp_gt (tgt := 523) hx hb dL_chart_513 (by decide) (fun c71 => ?_) (fun c71 => ?_)
        · skip
          have hlz := hl
          exact K71  _  (lv_sub hlz [0, 1, 2, 3, 4, 5, 6] rfl)
        · have ho := ho c71
          refine lv_iload hx hb dL_chart_516 (lv_at hl 0 rfl) ?_
          refine lv_bipush (v := 8) hx hb dL_chart_518 (by decide) ?_
          refine lv_icmp_ge (tgt := 527) hx hb dL_chart_520 (by decide) (fun c72 => ?_) (fun c72 => ?_)
          · exact absurd c72 ho
          have hlz := hl
          exact K71  _  (lv_sub hlz [0, 1, 2, 3, 4, 5, 6] rfl)
      refine lv_icmp_le (tgt := 507) hx hb dL_chart_486 (by decide) (fun c69 => ?_) (fun c69 => ?_)
      · skip
        refine lv_iconst (v := 0) hx hb dL_chart_507 (by decide) ?_
        have hlz := hl
        exact K69 _ _ (Eq.symm ((if_pos c69).trans rfl)) (lv_sub hlz [0, 3, 4, 5, 6, 7, 8] rfl)
      · skip
        refine lv_iload hx hb dL_chart_489 (lv_at hl 2 rfl) ?_
        refine lv_bipush (v := 7) hx hb dL_chart_491 (by decide) ?_
        refine lv_icmp_eq (tgt := 503) hx hb dL_chart_493 (by decide) (fun c70 => ?_) (fun c70 => ?_)
        · skip
          refine lv_iconst (v := 1) hx hb dL_chart_503 (by decide) ?_
          refine lv_goto (tgt := 508) hx hb dL_chart_504 (by decide) ?_
          have hlz := hl
          exact K69 _ _ (Eq.symm ((if_neg c69).trans ((if_pos c70).trans rfl))) (lv_sub hlz [0, 3, 4, 5, 6, 7, 8] rfl)
        · skip
          refine lv_iload hx hb dL_chart_496 (lv_at hl 1 rfl) ?_
          refine lv_bipush (v := 7) hx hb dL_chart_498 (by decide) ?_
          refine lv_icmp_ne (tgt := 507) hx hb dL_chart_500 (by decide) (fun c71 => ?_) (fun c71 => ?_)
          · skip
            refine lv_iconst (v := 0) hx hb dL_chart_507 (by decide) ?_
            have hlz := hl
            exact K69 _ _ (Eq.symm ((if_neg c69).trans ((if_neg c70).trans ((if_neg c71).trans rfl)))) (lv_sub hlz [0, 3, 4, 5, 6, 7, 8] rfl)
          · skip
            refine lv_iconst (v := 1) hx hb dL_chart_503 (by decide) ?_
            refine lv_goto (tgt := 508) hx hb dL_chart_504 (by decide) ?_
            have hlz := hl
            exact K69 _ _ (Eq.symm ((if_neg c69).trans ((if_neg c70).trans ((if_pos c71).trans rfl)))) (lv_sub hlz [0, 3, 4, 5, 6, 7, 8] rfl)
    refine lv_icmp_le (tgt := 473) hx hb dL_chart_454 (by decide) (fun c66 => ?_) (fun c66 => ?_)
    · skip
      refine lv_iconst (v := 0) hx hb dL_chart_473 (by decide) ?_
      have hlz := hl
      exact K66 _ _ (Eq.symm ((if_pos c66).trans rfl)) (lv_sub hlz [0, 2, 3, 6, 7, 8, 9, 10, 11] rfl)
    · skip
      refine lv_iload hx hb dL_chart_457 (lv_at hl 5 rfl) ?_
      refine lv_iconst (v := 5) hx hb dL_chart_459 (by decide) ?_
      refine lv_icmp_eq (tgt := 469) hx hb dL_chart_460 (by decide) (fun c67 => ?_) (fun c67 => ?_)
      · skip
        refine lv_iconst (v := 1) hx hb dL_chart_469 (by decide) ?_
        refine lv_goto (tgt := 474) hx hb dL_chart_470 (by decide) ?_
        have hlz := hl
        exact K66 _ _ (Eq.symm ((if_neg c66).trans ((if_pos c67).trans rfl))) (lv_sub hlz [0, 2, 3, 6, 7, 8, 9, 10, 11] rfl)
      · skip
        refine lv_iload hx hb dL_chart_463 (lv_at hl 4 rfl) ?_
        refine lv_iconst (v := 5) hx hb dL_chart_465 (by decide) ?_
        refine lv_icmp_ne (tgt := 473) hx hb dL_chart_466 (by decide) (fun c68 => ?_) (fun c68 => ?_)
        · skip
          refine lv_iconst (v := 0) hx hb dL_chart_473 (by decide) ?_
          have hlz := hl
          exact K66 _ _ (Eq.symm ((if_neg c66).trans ((if_neg c67).trans ((if_neg c68).trans rfl)))) (lv_sub hlz [0, 2, 3, 6, 7, 8, 9, 10, 11] rfl)
        · skip
          refine lv_iconst (v := 1) hx hb dL_chart_469 (by decide) ?_
          refine lv_goto (tgt := 474) hx hb dL_chart_470 (by decide) ?_
          have hlz := hl
          exact K66 _ _ (Eq.symm ((if_neg c66).trans ((if_neg c67).trans ((if_pos c68).trans rfl)))) (lv_sub hlz [0, 2, 3, 6, 7, 8, 9, 10, 11] rfl)
  have ho := ho.1
  refine lv_icmp_ne (tgt := 159) hx hb dL_chart_135 (by decide) (fun c24 => ?_) (fun c24 => ?_)
  · have ho := ho.2 c24
    refine lv_aload_n hx hb dL_chart_159 rfl (lv_at hl 8 rfl) ?_
    refine lv_iload_n hx hb dL_chart_160 rfl (lv_at hl 9 rfl) ?_
    have hq25 := ho.1
    have ho := ho.2
    have hq26 := ho.1
    have ho := ho.2
    refine kZ_X10_goodUntilChange X hS hH hk_o1 hq25 hq26 t_ml_VernierDrawersLaw_86 hl.1 (Nat.le_of_ble_eq_true rfl) ⟨Nat.le_of_ble_eq_true rfl, Nat.le_of_ble_eq_true rfl⟩ ⟨(Nat.le_of_ble_eq_true rfl), (Nat.le_of_ble_eq_true rfl)⟩ dL_chart_161 ?_
    refine lv_iconst (v := 1) hx hb dL_chart_164 (by decide) ?_
    refine lv_icmp_lt (tgt := 230) hx hb dL_chart_165 (by decide) (fun c27 => ?_) (fun c27 => ?_)
    · exact absurd c27 ho.1
    have ho := ho.2
    refine lv_aload_n hx hb dL_chart_168 rfl (lv_at hl 8 rfl) ?_
    refine lv_iload_n hx hb dL_chart_169 rfl (lv_at hl 9 rfl) ?_
    refine kZ_X10_goodUntilChange X hS hH hk_o1 hq25 hq26 t_ml_VernierDrawersLaw_86 hl.1 (Nat.le_of_ble_eq_true rfl) ⟨Nat.le_of_ble_eq_true rfl, Nat.le_of_ble_eq_true rfl⟩ ⟨(Nat.le_of_ble_eq_true rfl), (Nat.le_of_ble_eq_true rfl)⟩ dL_chart_170 ?_
    refine lv_aload_n hx hb dL_chart_173 rfl (lv_at hl 8 rfl) ?_
    refine lv_iload_n hx hb dL_chart_174 rfl (lv_at hl 9 rfl) ?_
    refine kZ_X10_mannerOf X hS hH hk_o1 hq12 hq13 t_ml_VernierDrawersLaw_179 hl.1 (Nat.le_of_ble_eq_true rfl) ⟨Nat.le_of_ble_eq_true rfl, Nat.le_of_ble_eq_true rfl⟩ ⟨(Nat.le_of_ble_eq_true rfl), (Nat.le_of_ble_eq_true rfl)⟩ dL_chart_175 ?_
    have K29 : ∀ (y28 : Int32) (ls : Array Slot), y28 = (if (((fX10_mannerOf o1 p1 v).2) : Int32) = 0 then 10 else 5 : Int32) → lv_has ls 16 [(9, .int 0), (8, .int 0), (7, .int 0), (6, .int 0), (5, .int 0), (4, .int (-9999)), (3, .int 9999), (2, .int ((fX10_charted o1 p1 v).2)), (0, .ref (ga G o1)), (1, .int p1)] → W p l e rmL_chart s m args below meth c H locs 24 24 Q (F0 m 187 ls [.int y28, .int ((fX10_goodUntilChange o1 p1 v).2)]) := by
      intro y28 ls ey28 hl
      have ho := ho y28 ey28
      refine lv_icmp_gt (tgt := 230) hx hb dL_chart_187 (by decide) (fun c30 => ?_) (fun c30 => ?_)
      · exact absurd c30 ho.1
      have ho := ho.2
      refine lv_aload_n hx hb dL_chart_190 rfl (lv_at hl 8 rfl) ?_
      refine lv_iload_n hx hb dL_chart_191 rfl (lv_at hl 9 rfl) ?_
      refine kZ_X10_badOf X hS hH hk_o1 hq8 hq9 t_ml_VernierDrawersLaw_185 hl.1 (Nat.le_of_ble_eq_true rfl) ⟨Nat.le_of_ble_eq_true rfl, Nat.le_of_ble_eq_true rfl⟩ ⟨(Nat.le_of_ble_eq_true rfl), (Nat.le_of_ble_eq_true rfl)⟩ dL_chart_192 ?_
      refine lv_if_gt (tgt := 226) hx hb dL_chart_195 (by decide) (fun c31 => ?_) (fun c31 => ?_)
      · skip
        refine W.widen (k := 36) (n := 36) (Nat.le_of_ble_eq_true rfl) (Nat.le_of_ble_eq_true rfl) ?_
        have hlz := hl
        have hHz := hH
        have hSz := hS
        replace ey28 := Eq.symm ey28
        subst ey28
        exact K24  _ _ _ _  hHz hSz (lv_sub hlz [0, 1, 2, 3, 4, 5, 6, 7, 8, 9] rfl)
      · have ho := ho c31
        refine lv_aload_n hx hb dL_chart_198 rfl (lv_at hl 8 rfl) ?_
        refine lv_iload_n hx hb dL_chart_199 rfl (lv_at hl 9 rfl) ?_
        refine kZ_X10_goodUntilChange X hS hH hk_o1 hq25 hq26 t_ml_VernierDrawersLaw_86 hl.1 (Nat.le_of_ble_eq_true rfl) ⟨Nat.le_of_ble_eq_true rfl, Nat.le_of_ble_eq_true rfl⟩ ⟨(Nat.le_of_ble_eq_true rfl), (Nat.le_of_ble_eq_true rfl)⟩ dL_chart_200 ?_
        refine lv_aload_n hx hb dL_chart_203 rfl (lv_at hl 8 rfl) ?_
        refine lv_iload_n hx hb dL_chart_204 rfl (lv_at hl 9 rfl) ?_
        refine kZ_X10_mannerOf X hS hH hk_o1 hq12 hq13 t_ml_VernierDrawersLaw_179 hl.1 (Nat.le_of_ble_eq_true rfl) ⟨Nat.le_of_ble_eq_true rfl, Nat.le_of_ble_eq_true rfl⟩ ⟨(Nat.le_of_ble_eq_true rfl), (Nat.le_of_ble_eq_true rfl)⟩ dL_chart_205 ?_
        have K33 : ∀ (y32 : Int32) (ls : Array Slot), y32 = (if (((fX10_mannerOf o1 p1 v).2) : Int32) = 0 then 10 else 5 : Int32) → lv_has ls 16 [(9, .int 0), (8, .int 0), (7, .int 0), (6, .int 0), (5, .int 0), (4, .int (-9999)), (3, .int 9999), (2, .int ((fX10_charted o1 p1 v).2)), (0, .ref (ga G o1)), (1, .int p1)] → W p l e rmL_chart s m args below meth c H locs 24 24 Q (F0 m 217 ls [.int y32, .int ((fX10_goodUntilChange o1 p1 v).2)]) := by
          intro y32 ls ey32 hl
          have ho := ho y32 ey32
          refine lv_aload_n hx hb dL_chart_217 rfl (lv_at hl 8 rfl) ?_
          refine lv_iload_n hx hb dL_chart_218 rfl (lv_at hl 9 rfl) ?_
          refine kZ_X10_recordOf X hS hH hk_o1 hq5 hq6 t_ml_VernierDrawersLaw_182 hl.1 (Nat.le_of_ble_eq_true rfl) ⟨Nat.le_of_ble_eq_true rfl, Nat.le_of_ble_eq_true rfl⟩ ⟨(Nat.le_of_ble_eq_true rfl), (Nat.le_of_ble_eq_true rfl)⟩ dL_chart_219 ?_
          refine lv_isub hx hb dL_chart_222 ?_
          refine lv_icmp_ne (tgt := 230) hx hb dL_chart_223 (by decide) (fun c34 => ?_) (fun c34 => ?_)
          · exact absurd ho c34
          refine W.widen (k := 36) (n := 36) (Nat.le_of_ble_eq_true rfl) (Nat.le_of_ble_eq_true rfl) ?_
          have hlz := hl
          have hHz := hH
          have hSz := hS
          replace ey28 := Eq.symm ey28
          replace ey32 := Eq.symm ey32
          subst ey28 ey32
          exact K24  _ _ _ _  hHz hSz (lv_sub hlz [0, 1, 2, 3, 4, 5, 6, 7, 8, 9] rfl)
        refine lv_if_ne (tgt := 216) hx hb dL_chart_208 (by decide) (fun c33 => ?_) (fun c33 => ?_)
        · skip
          refine lv_iconst (v := 5) hx hb dL_chart_216 (by decide) ?_
          have hlz := hl
          exact K33 _ _ (Eq.symm ((if_neg c33).trans rfl)) (lv_sub hlz [0, 1, 2, 3, 4, 5, 6, 7, 8, 9] rfl)
        · skip
          refine lv_bipush (v := 10) hx hb dL_chart_211 (by decide) ?_
          refine lv_goto (tgt := 217) hx hb dL_chart_213 (by decide) ?_
          have hlz := hl
          exact K33 _ _ (Eq.symm ((if_pos c33).trans rfl)) (lv_sub hlz [0, 1, 2, 3, 4, 5, 6, 7, 8, 9] rfl)
    refine lv_if_ne (tgt := 186) hx hb dL_chart_178 (by decide) (fun c29 => ?_) (fun c29 => ?_)
    · skip
      refine lv_iconst (v := 5) hx hb dL_chart_186 (by decide) ?_
      have hlz := hl
      exact K29 _ _ (Eq.symm ((if_neg c29).trans rfl)) (lv_sub hlz [0, 1, 2, 3, 4, 5, 6, 7, 8, 9] rfl)
    · skip
      refine lv_bipush (v := 10) hx hb dL_chart_181 (by decide) ?_
      refine lv_goto (tgt := 187) hx hb dL_chart_183 (by decide) ?_
      have hlz := hl
      exact K29 _ _ (Eq.symm ((if_pos c29).trans rfl)) (lv_sub hlz [0, 1, 2, 3, 4, 5, 6, 7, 8, 9] rfl)
  · have ho := ho.1 c24
    refine lv_aload_n hx hb dL_chart_138 rfl (lv_at hl 8 rfl) ?_
    refine lv_iload_n hx hb dL_chart_139 rfl (lv_at hl 9 rfl) ?_
    have hq35 := ho.1
    have ho := ho.2
    refine k_L_goodUntilChange hst X hS hN hH hk_o1 hq35 t_ml_VernierDrawersLaw_268 hl.1 (Nat.le_of_ble_eq_true rfl) ⟨Nat.le_of_ble_eq_true rfl, Nat.le_of_ble_eq_true rfl⟩ ⟨(Nat.le_of_ble_eq_true rfl), (Nat.le_of_ble_eq_true rfl)⟩ dL_chart_140 (fun da H locs hH hS => ?_)
    refine W.widen (k := 36) (n := 36) (Nat.le_refl _) (Nat.le_refl _) ?_
    refine lv_ldc (v := (-100104)) hx hb hown (hts _ t_con_VernierDrawersLaw_73) dL_chart_143 ?_
    refine lv_icmp_ne (tgt := 230) hx hb dL_chart_145 (by decide) (fun c36 => ?_) (fun c36 => ?_)
    · exact absurd ho.1 c36
    have ho := ho.2
    refine lv_aload_n hx hb dL_chart_148 rfl (lv_at hl 8 rfl) ?_
    refine lv_iload_n hx hb dL_chart_149 rfl (lv_at hl 9 rfl) ?_
    refine kZ_X10_badOf X hS hH hk_o1 hq8 hq9 t_ml_VernierDrawersLaw_185 hl.1 (Nat.le_of_ble_eq_true rfl) ⟨Nat.le_of_ble_eq_true rfl, Nat.le_of_ble_eq_true rfl⟩ ⟨(Nat.le_of_ble_eq_true rfl), (Nat.le_of_ble_eq_true rfl)⟩ dL_chart_150 ?_
    refine lv_if_ne (tgt := 230) hx hb dL_chart_153 (by decide) (fun c37 => ?_) (fun c37 => ?_)
    · exact absurd ho c37
    refine lv_goto (tgt := 226) hx hb dL_chart_156 (by decide) ?_
    have hlz := hl
    have hHz := hH
    have hSz := hS
    exact K24  _ _ _ _  hHz hSz (lv_sub hlz [0, 1, 2, 3, 4, 5, 6, 7, 8, 9] rfl)
theorem k_L_chart {p : Program} {l : Launch} {e : Env} {R : Room} {s : State} {m : MethodId} {args : Array Value} {below : List Frame} {meth : Method} {c : Code} {H : Heap} {locs : List Loc} {cells slots : Nat} {Q : State → Prop} {cc : ByteArray} {pc nL : Nat} {ls : Array Slot} {rest : List Value} {G : gG} {own : String} {da : Nat → Nat} {v : vSt} {x : gX} (hst : l.stackTraces = false) (X : CX G p s m args c cc nL own) (hS : va_S (gA G) s.heap H locs) (hN : NC s) (hH : Hp G da v x H) {o1 : Nat} (hk_o1 : kd o1 = 10) {p1 : Int32} (ho : oL_chart o1 p1 v) {idx : Nat} (hml : Cond.methodLink own idx yL_chart ∈ TT) (hls : ls.size = nL) (hsum : (rest.map fun v => v.category).sum ≤ 8) (hR : rmL_chart.frames + 1 ≤ R.frames ∧ 8 + (16 + 11) + rmL_chart.locals ≤ R.locals) (hcs : cells + 132 ≤ R.cells ∧ slots + 132 ≤ R.slots) (hdg : decode cc pc = .ok (.invokestatic idx, 3)) (kk : ∀ (d : Nat → Nat) (H1 : Heap) (locs1 : List Loc), Hp G d v x H1 → va_S (gA G) s.heap H1 locs1 → W p l e R s m args below meth c H1 locs1 (cells + 132) (slots + 132) Q (F0 m (pc + 3) ls (.int 1 :: rest))) : W p l e R s m args below meth c H locs cells slots Q (F0 m pc ls (.int p1 :: .ref (ga G o1) :: rest)) := c_mi X.2.2.2.2.2.2 (runS (k := 2) X.1 X.2.1 X.2.2.1 X.2.2.2.1 X.2.2.2.2.1 (mL_chart l hst G da v x o1 hk_o1 p1 ho) pN_bl hml t_st_L_chart t_ini_VernierDrawersLaw t_code_L_chart ⟨by decide, by decide, by decide +kernel⟩ rfl rfl hR hcs (preN X hN hS hH) rfl hls rfl hsum hdg) hS (fun d9 H9 L9 v9 e9 hH9 => kk d9 H9 L9 (by subst e9; exact hH9))
