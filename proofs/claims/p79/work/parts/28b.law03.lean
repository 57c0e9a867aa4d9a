/-! the law's methods: what holds -/
def lL_holds_255 (v : vSt) (o1 : Nat) : Nat → Int32 → Int32 → Int32
  | 0, i44, i45 => i45
  | n + 1, i44, i45 => if ((fX10_tools o1 v) : Int32) ≤ i44 then i45 else (let y51 : Int32 := (if (((fX10_whyNotJudge o1 i44 v).2) : Int32) = 0 then (if (i45 : Int32) = (-100104) then i44 else (if (((fX10_stepOf o1 i45 v).2) : Int32) ≤ ((fX10_stepOf o1 i44 v).2) then i45 else i44)) else i45 : Int32); let y55 : Int32 := (if (((fX10_whyNotJudge o1 i44 v).2) : Int32) = 1 then 1 else 0 : Int32); let y57 : Int32 := (if ((fX10_onBench o1 v) : Int32) = 0 then 1 else 0 : Int32); let y64 : Int32 := (if ((fL_wouldJudge o1 i44 v) : Int32) = (-100104) then 1 else 0 : Int32); let y66 : Int32 := (if (((fX10_whyNotJudge o1 i44 v).2) : Int32) ≤ 0 then 0 else 1 : Int32); lL_holds_255 v o1 n (i44 + 1) y51)
def olL_holds_255 (v : vSt) (o1 : Nat) (p1 : Int32) : Nat → Int32 → Int32 → Prop
  | 0, _, _ => False
  | n + 1, i44, i45 => ¬ (((fX10_tools o1 v) : Int32) ≤ i44) → ((oX10_whyNotJudge o1 i44 v) ∧ (((fX10_whyNotJudge o1 i44 v).1 = 0) ∧ ((((((fX10_whyNotJudge o1 i44 v).2) : Int32) = 0) → (¬ ((i45 : Int32) = (-100104)) → ((oX10_stepOf o1 i44 v) ∧ (((fX10_stepOf o1 i44 v).1 = 0) ∧ ((oX10_stepOf o1 i45 v) ∧ ((fX10_stepOf o1 i45 v).1 = 0)))))) ∧ (∀ (y51 : Int32), y51 = ((if (((fX10_whyNotJudge o1 i44 v).2) : Int32) = 0 then (if (i45 : Int32) = (-100104) then i44 else (if (((fX10_stepOf o1 i45 v).2) : Int32) ≤ ((fX10_stepOf o1 i44 v).2) then i45 else i44)) else i45 : Int32) : Int32) → ((oL_tool o1 i44 p1 v) ∧ ((∀ (y55 : Int32), y55 = ((if (((fX10_whyNotJudge o1 i44 v).2) : Int32) = 1 then 1 else 0 : Int32) : Int32) → ((∀ (y57 : Int32), y57 = ((if ((fX10_onBench o1 v) : Int32) = 0 then 1 else 0 : Int32) : Int32) → (((y55 : Int32) = y57) ∧ ((((((fX10_whyNotJudge o1 i44 v).2) : Int32) = 2) → ((oX10_isDue o1 i44 v) ∧ (((fX10_isDue o1 i44 v).1 = 0) ∧ ((¬ ((((fX10_isDue o1 i44 v).2) : Int32) = 0)))))) ∧ ((((((fX10_whyNotJudge o1 i44 v).2) : Int32) = 3) → ((oX10_stepOf o1 i44 v) ∧ (((fX10_stepOf o1 i44 v).1 = 0) ∧ ((oX10_typeAt o1 0 v) ∧ (((fX10_typeAt o1 0 v).1 = 0) ∧ ((oX10_widthOf o1 ((fX10_typeAt o1 0 v).2) v) ∧ (((fX10_widthOf o1 ((fX10_typeAt o1 0 v).2) v).1 = 0) ∧ ((¬ ((((5 : Int32) * ((fX10_stepOf o1 i44 v).2)) : Int32) ≤ ((fX10_widthOf o1 ((fX10_typeAt o1 0 v).2) v).2))))))))))) ∧ ((((((fX10_whyNotJudge o1 i44 v).2) : Int32) = 4) → ((oX10_isDue o1 i44 v) ∧ (((fX10_isDue o1 i44 v).1 = 0) ∧ (((((fX10_isDue o1 i44 v).2) : Int32) = 0))))) ∧ ((oL_wouldJudge o1 i44 v) ∧ ((∀ (y64 : Int32), y64 = ((if ((fL_wouldJudge o1 i44 v) : Int32) = (-100104) then 1 else 0 : Int32) : Int32) → ((∀ (y66 : Int32), y66 = ((if (((fX10_whyNotJudge o1 i44 v).2) : Int32) ≤ 0 then 0 else 1 : Int32) : Int32) → (((y64 : Int32) = y66) ∧ ((¬ ((0 : Int32) < ((fX10_whyNotJudge o1 i44 v).2)) → ((oX10_wasDoubted o1 0 v) ∧ (((fX10_wasDoubted o1 0 v).1 = 0) ∧ (¬ ((((fX10_wasDoubted o1 0 v).2) : Int32) = 0) → ((oX10_wouldJudge o1 i44 v) ∧ (((fX10_wouldJudge o1 i44 v).1 = 0) ∧ ((¬ ((3 : Int32) ≤ ((fX10_wouldJudge o1 i44 v).2)))))))))) ∧ (olL_holds_255 v o1 p1 n (i44 + 1) y51)))))))))))))))))))))
def olL_holds_467 (v : vSt) (o1 : Nat) : Nat → Int32 → Prop
  | 0, _ => False
  | n + 1, i79 => ¬ (((fX10_types o1 v) : Int32) ≤ i79) → ((oL_chart o1 i79 v) ∧ ((oX10_lengthOf o1 i79 v) ∧ (((fX10_lengthOf o1 i79 v).1 = 0) ∧ ((¬ ((((fX10_lengthOf o1 i79 v).2) : Int32) < 100)) ∧ ((¬ ((14000 : Int32) < ((fX10_lengthOf o1 i79 v).2))) ∧ (olL_holds_467 v o1 n (i79 + 1)))))))
def lL_holds_543 (v : vSt) (o1 : Nat) (p1 : Int32) : Nat → Int32 → Int32 → Int32
  | 0, i93, i94 => i94
  | n + 1, i93, i94 => if ((fX10_blocks o1 v) : Int32) ≤ i93 then i94 else (let y97 : Int32 := (if ((fL_low (p1 >>> ((i93 + (2 : Int32)) &&& 31)) 3) : Int32) = 0 then ((fX10_blockLength o1 i93 v).2) else 0 : Int32); lL_holds_543 v o1 p1 n (i93 + 1) (i94 + y97))
def olL_holds_543 (v : vSt) (o1 : Nat) (p1 : Int32) : Nat → Int32 → Int32 → Prop
  | 0, _, _ => False
  | n + 1, i93, i94 => ¬ (((fX10_blocks o1 v) : Int32) ≤ i93) → ((oL_low (p1 >>> ((i93 + (2 : Int32)) &&& 31)) 3) ∧ (((((fL_low (p1 >>> ((i93 + (2 : Int32)) &&& 31)) 3) : Int32) = 0) → ((oX10_blockLength o1 i93 v) ∧ ((fX10_blockLength o1 i93 v).1 = 0))) ∧ (∀ (y97 : Int32), y97 = ((if ((fL_low (p1 >>> ((i93 + (2 : Int32)) &&& 31)) 3) : Int32) = 0 then ((fX10_blockLength o1 i93 v).2) else 0 : Int32) : Int32) → (olL_holds_543 v o1 p1 n (i93 + 1) (i94 + y97)))))
def oL_holds (o1 : Nat) (p1 : Int32) (v : vSt) : Prop := (oX10_brought o1 v) ∧ ((oX10_broughtByPlaces o1 v) ∧ ((((fX10_brought o1 v) : Int32) = (fX10_broughtByPlaces o1 v)) ∧ ((oX10_onBench o1 v) ∧ ((oX10_toFile o1 v) ∧ ((oX10_good o1 v) ∧ ((oX10_thrownAway o1 v) ∧ ((oX10_unseen o1 v) ∧ ((((fX10_broughtByPlaces o1 v) : Int32) = (((((fX10_onBench o1 v) + (fX10_toFile o1 v)) + (fX10_good o1 v)) + (fX10_thrownAway o1 v)) + (fX10_unseen o1 v))) ∧ ((¬ (((fX10_onBench o1 v) : Int32) < 0)) ∧ ((¬ ((20 : Int32) < (fX10_onBench o1 v))) ∧ ((oX10_tools o1 v) ∧ ((¬ ((6 : Int32) < (fX10_tools o1 v))) ∧ ((oX10_blocks o1 v) ∧ ((¬ ((10 : Int32) < (fX10_blocks o1 v))) ∧ ((oX10_types o1 v) ∧ ((¬ ((5 : Int32) < (fX10_types o1 v))) ∧ ((¬ (((fX10_states o1 v) : Int32) < 0)) ∧ ((¬ ((4 : Int32) < (fX10_states o1 v))) ∧ ((oL_kindOf o1 (fX10_tools o1 v) v) ∧ ((((fL_kindOf o1 (fX10_tools o1 v) v) : Int32) = (-100102)) ∧ ((oL_isDue o1 (-1) v) ∧ ((((fL_isDue o1 (-1) v) : Int32) = (-100102)) ∧ ((oL_readingFor o1 (fX10_tools o1 v) 0 0 v) ∧ ((((fL_readingFor o1 (fX10_tools o1 v) 0 0 v) : Int32) = (-100102)) ∧ ((oL_blockError o1 (fX10_blocks o1 v) v) ∧ ((((fL_blockError o1 (fX10_blocks o1 v) v) : Int32) = (-100102)) ∧ ((oL_stackFor o1 0 v) ∧ ((((fL_stackFor o1 0 v) : Int32) = (-100102)) ∧ ((oL_lengthOf o1 (fX10_types o1 v) v) ∧ ((((fL_lengthOf o1 (fX10_types o1 v) v) : Int32) = (-100102)) ∧ ((oL_middleOf o1 (-1) v) ∧ ((((fL_middleOf o1 (-1) v) : Int32) = (-100102)) ∧ ((oL_typeAt o1 (-1) v) ∧ ((((fL_typeAt o1 (-1) v) : Int32) = (-100102)) ∧ ((oL_typeAt o1 (fX10_onBench o1 v) v) ∧ ((((fL_typeAt o1 (fX10_onBench o1 v) v) : Int32) = (-100104)) ∧ ((oL_wasDoubted o1 (fX10_onBench o1 v) v) ∧ ((((fL_wasDoubted o1 (fX10_onBench o1 v) v) : Int32) = (-100104)) ∧ ((oL_stretchOf o1 3 0 v) ∧ ((((fL_stretchOf o1 3 0 v) : Int32) = (-100102)) ∧ ((oL_whyNotJudge o1 (fX10_tools o1 v) v) ∧ ((((fL_whyNotJudge o1 (fX10_tools o1 v) v) : Int32) = (-100102)) ∧ (olL_holds_255 v o1 p1 (7) 0 (-100104) ∧ (∀ (y46 : Int32), y46 = ((lL_holds_255 v o1 (7) 0 (-100104)) : Int32) → (olL_holds_467 v o1 (6) 0 ∧ ((oX10_whyNotPass o1 v) ∧ ((oL_low (p1 >>> ((3 : Int32) &&& 31)) 9) ∧ (olL_holds_543 v o1 p1 (11) 0 (fL_low (p1 >>> ((3 : Int32) &&& 31)) 9) ∧ (∀ (y95 : Int32), y95 = ((lL_holds_543 v o1 p1 (11) 0 (fL_low (p1 >>> ((3 : Int32) &&& 31)) 9)) : Int32) → ((oL_bestTool o1 v) ∧ ((((fL_bestTool o1 v) : Int32) = y46) ∧ ((∀ (y108 : Int32), y108 = ((if ((fX10_whyNotPass o1 v) : Int32) = 1 then 1 else 0 : Int32) : Int32) → ((∀ (y110 : Int32), y110 = ((if ((fX10_onBench o1 v) : Int32) = 0 then 1 else 0 : Int32) : Int32) → (((y108 : Int32) = y110) ∧ ((¬ (((fX10_whyNotPass o1 v) : Int32) = 1) → ((∀ (y114 : Int32), y114 = ((if ((fX10_whyNotPass o1 v) : Int32) = 2 then 1 else 0 : Int32) : Int32) → ((oX10_typeAt o1 0 v) ∧ (((fX10_typeAt o1 0 v).1 = 0) ∧ ((oX10_mannerOf o1 ((fX10_typeAt o1 0 v).2) v) ∧ (((fX10_mannerOf o1 ((fX10_typeAt o1 0 v).2) v).1 = 0) ∧ ((∀ (y120 : Int32), y120 = ((if (((fX10_mannerOf o1 ((fX10_typeAt o1 0 v).2) v).2) : Int32) = 2 then 0 else 1 : Int32) : Int32) → (((y114 : Int32) = y120))))))))))) ∧ ((∀ (y114 : Int32), y114 = ((if (y95 : Int32) < 1 then 3 else (if (y95 : Int32) ≤ 15000 then y95 else 3) : Int32) : Int32) → ((oL_stack o1 y114 v) ∧ ((oL_low p1 3) ∧ ((oL_low (p1 >>> ((5 : Int32) &&& 31)) 15001) ∧ ((∀ (y120 : Int32), y120 = ((if ((fL_low p1 3) : Int32) = 0 then 12 else (if ((fL_low p1 3) : Int32) = 1 then 19 else 23) : Int32) : Int32) → ((oX10_stretchOf o1 (fL_low p1 3) (fL_low (p1 >>> ((5 : Int32) &&& 31)) 15001) v) ∧ (((fX10_stretchOf o1 (fL_low p1 3) (fL_low (p1 >>> ((5 : Int32) &&& 31)) 15001) v).1 = 0) ∧ ((∀ (y124 : Int32), y124 = ((if (0 : Int32) ≤ ((fX10_stretchOf o1 (fL_low p1 3) (fL_low (p1 >>> ((5 : Int32) &&& 31)) 15001) v).2) then ((fX10_stretchOf o1 (fL_low p1 3) (fL_low (p1 >>> ((5 : Int32) &&& 31)) 15001) v).2) else (-((fX10_stretchOf o1 (fL_low p1 3) (fL_low (p1 >>> ((5 : Int32) &&& 31)) 15001) v).2)) : Int32) : Int32) → ((oX10_warmth o1 v) ∧ ((∀ (y127 : Int32), y127 = ((if (20 : Int32) ≤ (fX10_warmth o1 v) then ((fX10_warmth o1 v) - (20 : Int32)) else ((20 : Int32) - (fX10_warmth o1 v)) : Int32) : Int32) → (((y124 : Int32) = ((((fL_low (p1 >>> ((5 : Int32) &&& 31)) 15001) * y120) * y127) / (1000000 : Int32))) ∧ (((((fX10_warmth o1 v) : Int32) < 20) → ((¬ ((0 : Int32) < ((fX10_stretchOf o1 (fL_low p1 3) (fL_low (p1 >>> ((5 : Int32) &&& 31)) 15001) v).2))))) ∧ (¬ (((fX10_warmth o1 v) : Int32) < 20) → ((¬ ((((fX10_stretchOf o1 (fL_low p1 3) (fL_low (p1 >>> ((5 : Int32) &&& 31)) 15001) v).2) : Int32) < 0)))))))))))))))))))))))))))))))))))))))))))))))))))))))))))))))))))))))))))))
abbrev rmL_holds : Room := { frames := 11, cells := 1404, slots := 1404, locals := 215 }
theorem dL_holds_0 : decode cL_holds 0 = .ok (.aload_n 0, 1) := by decide +kernel
theorem dL_holds_1 : decode cL_holds 1 = .ok (.invokevirtual 215, 3) := by decide +kernel
theorem dL_holds_4 : decode cL_holds 4 = .ok (.aload_n 0, 1) := by decide +kernel
theorem dL_holds_5 : decode cL_holds 5 = .ok (.invokevirtual 285, 3) := by decide +kernel
theorem dL_holds_8 : decode cL_holds 8 = .ok (.if_icmp .ne 239, 3) := by decide +kernel
theorem dL_holds_11 : decode cL_holds 11 = .ok (.aload_n 0, 1) := by decide +kernel
theorem dL_holds_12 : decode cL_holds 12 = .ok (.invokevirtual 285, 3) := by decide +kernel
theorem dL_holds_15 : decode cL_holds 15 = .ok (.aload_n 0, 1) := by decide +kernel
theorem dL_holds_16 : decode cL_holds 16 = .ok (.invokevirtual 247, 3) := by decide +kernel
theorem dL_holds_19 : decode cL_holds 19 = .ok (.aload_n 0, 1) := by decide +kernel
theorem dL_holds_20 : decode cL_holds 20 = .ok (.invokevirtual 239, 3) := by decide +kernel
theorem dL_holds_23 : decode cL_holds 23 = .ok (.iadd, 1) := by decide +kernel
theorem dL_holds_24 : decode cL_holds 24 = .ok (.aload_n 0, 1) := by decide +kernel
theorem dL_holds_25 : decode cL_holds 25 = .ok (.invokevirtual 218, 3) := by decide +kernel
theorem dL_holds_28 : decode cL_holds 28 = .ok (.iadd, 1) := by decide +kernel
theorem dL_holds_29 : decode cL_holds 29 = .ok (.aload_n 0, 1) := by decide +kernel
theorem dL_holds_30 : decode cL_holds 30 = .ok (.invokevirtual 221, 3) := by decide +kernel
theorem dL_holds_33 : decode cL_holds 33 = .ok (.iadd, 1) := by decide +kernel
theorem dL_holds_34 : decode cL_holds 34 = .ok (.aload_n 0, 1) := by decide +kernel
theorem dL_holds_35 : decode cL_holds 35 = .ok (.invokevirtual 224, 3) := by decide +kernel
theorem dL_holds_38 : decode cL_holds 38 = .ok (.iadd, 1) := by decide +kernel
theorem dL_holds_39 : decode cL_holds 39 = .ok (.if_icmp .ne 208, 3) := by decide +kernel
theorem dL_holds_42 : decode cL_holds 42 = .ok (.aload_n 0, 1) := by decide +kernel
theorem dL_holds_43 : decode cL_holds 43 = .ok (.invokevirtual 247, 3) := by decide +kernel
theorem dL_holds_46 : decode cL_holds 46 = .ok (.ifCond .lt 201, 3) := by decide +kernel
theorem dL_holds_49 : decode cL_holds 49 = .ok (.aload_n 0, 1) := by decide +kernel
theorem dL_holds_50 : decode cL_holds 50 = .ok (.invokevirtual 247, 3) := by decide +kernel
theorem dL_holds_53 : decode cL_holds 53 = .ok (.bipush 20, 2) := by decide +kernel
theorem dL_holds_55 : decode cL_holds 55 = .ok (.if_icmp .gt 192, 3) := by decide +kernel
theorem dL_holds_58 : decode cL_holds 58 = .ok (.aload_n 0, 1) := by decide +kernel
theorem dL_holds_59 : decode cL_holds 59 = .ok (.invokevirtual 230, 3) := by decide +kernel
theorem dL_holds_62 : decode cL_holds 62 = .ok (.bipush 6, 2) := by decide +kernel
theorem dL_holds_64 : decode cL_holds 64 = .ok (.if_icmp .gt 183, 3) := by decide +kernel
theorem dL_holds_67 : decode cL_holds 67 = .ok (.aload_n 0, 1) := by decide +kernel
theorem dL_holds_68 : decode cL_holds 68 = .ok (.invokevirtual 233, 3) := by decide +kernel
theorem dL_holds_71 : decode cL_holds 71 = .ok (.bipush 10, 2) := by decide +kernel
theorem dL_holds_73 : decode cL_holds 73 = .ok (.if_icmp .gt 174, 3) := by decide +kernel
theorem dL_holds_76 : decode cL_holds 76 = .ok (.aload_n 0, 1) := by decide +kernel
theorem dL_holds_77 : decode cL_holds 77 = .ok (.invokevirtual 236, 3) := by decide +kernel
theorem dL_holds_80 : decode cL_holds 80 = .ok (.iconst 5, 1) := by decide +kernel
theorem dL_holds_81 : decode cL_holds 81 = .ok (.if_icmp .gt 166, 3) := by decide +kernel
theorem dL_holds_84 : decode cL_holds 84 = .ok (.aload_n 0, 1) := by decide +kernel
theorem dL_holds_85 : decode cL_holds 85 = .ok (.invokevirtual 288, 3) := by decide +kernel
theorem dL_holds_88 : decode cL_holds 88 = .ok (.ifCond .lt 159, 3) := by decide +kernel
theorem dL_holds_91 : decode cL_holds 91 = .ok (.aload_n 0, 1) := by decide +kernel
theorem dL_holds_92 : decode cL_holds 92 = .ok (.invokevirtual 288, 3) := by decide +kernel
theorem dL_holds_95 : decode cL_holds 95 = .ok (.iconst 4, 1) := by decide +kernel
theorem dL_holds_96 : decode cL_holds 96 = .ok (.if_icmp .gt 151, 3) := by decide +kernel
theorem dL_holds_99 : decode cL_holds 99 = .ok (.aload_n 0, 1) := by decide +kernel
theorem dL_holds_100 : decode cL_holds 100 = .ok (.aload_n 0, 1) := by decide +kernel
theorem dL_holds_101 : decode cL_holds 101 = .ok (.invokevirtual 230, 3) := by decide +kernel
theorem dL_holds_104 : decode cL_holds 104 = .ok (.invokestatic 291, 3) := by decide +kernel
theorem dL_holds_107 : decode cL_holds 107 = .ok (.ldc 17, 2) := by decide +kernel
theorem dL_holds_109 : decode cL_holds 109 = .ok (.if_icmp .ne 138, 3) := by decide +kernel
theorem dL_holds_112 : decode cL_holds 112 = .ok (.aload_n 0, 1) := by decide +kernel
theorem dL_holds_113 : decode cL_holds 113 = .ok (.iconst (-1), 1) := by decide +kernel
theorem dL_holds_114 : decode cL_holds 114 = .ok (.invokestatic 293, 3) := by decide +kernel
theorem dL_holds_117 : decode cL_holds 117 = .ok (.ldc 17, 2) := by decide +kernel
theorem dL_holds_119 : decode cL_holds 119 = .ok (.if_icmp .ne 128, 3) := by decide +kernel
theorem dL_holds_122 : decode cL_holds 122 = .ok (.aload_n 0, 1) := by decide +kernel
theorem dL_holds_123 : decode cL_holds 123 = .ok (.aload_n 0, 1) := by decide +kernel
theorem dL_holds_124 : decode cL_holds 124 = .ok (.invokevirtual 230, 3) := by decide +kernel
theorem dL_holds_127 : decode cL_holds 127 = .ok (.iconst 0, 1) := by decide +kernel
theorem dL_holds_128 : decode cL_holds 128 = .ok (.iconst 0, 1) := by decide +kernel
theorem dL_holds_129 : decode cL_holds 129 = .ok (.invokestatic 242, 3) := by decide +kernel
theorem dL_holds_132 : decode cL_holds 132 = .ok (.ldc 17, 2) := by decide +kernel
theorem dL_holds_134 : decode cL_holds 134 = .ok (.if_icmp .ne 113, 3) := by decide +kernel
theorem dL_holds_137 : decode cL_holds 137 = .ok (.aload_n 0, 1) := by decide +kernel
theorem dL_holds_138 : decode cL_holds 138 = .ok (.aload_n 0, 1) := by decide +kernel
theorem dL_holds_139 : decode cL_holds 139 = .ok (.invokevirtual 233, 3) := by decide +kernel
theorem dL_holds_142 : decode cL_holds 142 = .ok (.invokestatic 295, 3) := by decide +kernel
theorem dL_holds_145 : decode cL_holds 145 = .ok (.ldc 17, 2) := by decide +kernel
theorem dL_holds_147 : decode cL_holds 147 = .ok (.if_icmp .ne 100, 3) := by decide +kernel
theorem dL_holds_150 : decode cL_holds 150 = .ok (.aload_n 0, 1) := by decide +kernel
theorem dL_holds_151 : decode cL_holds 151 = .ok (.iconst 0, 1) := by decide +kernel
theorem dL_holds_152 : decode cL_holds 152 = .ok (.invokestatic 279, 3) := by decide +kernel
theorem dL_holds_155 : decode cL_holds 155 = .ok (.ldc 17, 2) := by decide +kernel
theorem dL_holds_157 : decode cL_holds 157 = .ok (.if_icmp .ne 90, 3) := by decide +kernel
theorem dL_holds_160 : decode cL_holds 160 = .ok (.aload_n 0, 1) := by decide +kernel
theorem dL_holds_161 : decode cL_holds 161 = .ok (.aload_n 0, 1) := by decide +kernel
theorem dL_holds_162 : decode cL_holds 162 = .ok (.invokevirtual 236, 3) := by decide +kernel
theorem dL_holds_165 : decode cL_holds 165 = .ok (.invokestatic 297, 3) := by decide +kernel
theorem dL_holds_168 : decode cL_holds 168 = .ok (.ldc 17, 2) := by decide +kernel
theorem dL_holds_170 : decode cL_holds 170 = .ok (.if_icmp .ne 77, 3) := by decide +kernel
theorem dL_holds_173 : decode cL_holds 173 = .ok (.aload_n 0, 1) := by decide +kernel
theorem dL_holds_174 : decode cL_holds 174 = .ok (.iconst (-1), 1) := by decide +kernel
theorem dL_holds_175 : decode cL_holds 175 = .ok (.invokestatic 270, 3) := by decide +kernel
theorem dL_holds_178 : decode cL_holds 178 = .ok (.ldc 17, 2) := by decide +kernel
theorem dL_holds_180 : decode cL_holds 180 = .ok (.if_icmp .ne 67, 3) := by decide +kernel
theorem dL_holds_183 : decode cL_holds 183 = .ok (.aload_n 0, 1) := by decide +kernel
theorem dL_holds_184 : decode cL_holds 184 = .ok (.iconst (-1), 1) := by decide +kernel
theorem dL_holds_185 : decode cL_holds 185 = .ok (.invokestatic 299, 3) := by decide +kernel
theorem dL_holds_188 : decode cL_holds 188 = .ok (.ldc 17, 2) := by decide +kernel
theorem dL_holds_190 : decode cL_holds 190 = .ok (.if_icmp .ne 57, 3) := by decide +kernel
theorem dL_holds_193 : decode cL_holds 193 = .ok (.aload_n 0, 1) := by decide +kernel
theorem dL_holds_194 : decode cL_holds 194 = .ok (.aload_n 0, 1) := by decide +kernel
theorem dL_holds_195 : decode cL_holds 195 = .ok (.invokevirtual 247, 3) := by decide +kernel
theorem dL_holds_198 : decode cL_holds 198 = .ok (.invokestatic 299, 3) := by decide +kernel
theorem dL_holds_201 : decode cL_holds 201 = .ok (.ldc 73, 2) := by decide +kernel
theorem dL_holds_203 : decode cL_holds 203 = .ok (.if_icmp .ne 44, 3) := by decide +kernel
theorem dL_holds_206 : decode cL_holds 206 = .ok (.aload_n 0, 1) := by decide +kernel
theorem dL_holds_207 : decode cL_holds 207 = .ok (.aload_n 0, 1) := by decide +kernel
theorem dL_holds_208 : decode cL_holds 208 = .ok (.invokevirtual 247, 3) := by decide +kernel
theorem dL_holds_211 : decode cL_holds 211 = .ok (.invokestatic 301, 3) := by decide +kernel
theorem dL_holds_214 : decode cL_holds 214 = .ok (.ldc 73, 2) := by decide +kernel
theorem dL_holds_216 : decode cL_holds 216 = .ok (.if_icmp .ne 31, 3) := by decide +kernel
theorem dL_holds_219 : decode cL_holds 219 = .ok (.aload_n 0, 1) := by decide +kernel
theorem dL_holds_220 : decode cL_holds 220 = .ok (.iconst 3, 1) := by decide +kernel
theorem dL_holds_221 : decode cL_holds 221 = .ok (.iconst 0, 1) := by decide +kernel
theorem dL_holds_222 : decode cL_holds 222 = .ok (.invokestatic 303, 3) := by decide +kernel
theorem dL_holds_225 : decode cL_holds 225 = .ok (.ldc 17, 2) := by decide +kernel
theorem dL_holds_227 : decode cL_holds 227 = .ok (.if_icmp .ne 20, 3) := by decide +kernel
theorem dL_holds_230 : decode cL_holds 230 = .ok (.aload_n 0, 1) := by decide +kernel
theorem dL_holds_231 : decode cL_holds 231 = .ok (.aload_n 0, 1) := by decide +kernel
theorem dL_holds_232 : decode cL_holds 232 = .ok (.invokevirtual 230, 3) := by decide +kernel
theorem dL_holds_235 : decode cL_holds 235 = .ok (.invokestatic 305, 3) := by decide +kernel
theorem dL_holds_238 : decode cL_holds 238 = .ok (.ldc 17, 2) := by decide +kernel
theorem dL_holds_240 : decode cL_holds 240 = .ok (.if_icmp .ne 7, 3) := by decide +kernel
theorem dL_holds_243 : decode cL_holds 243 = .ok (.iconst 1, 1) := by decide +kernel
theorem dL_holds_244 : decode cL_holds 244 = .ok (.goto 4, 3) := by decide +kernel
theorem dL_holds_248 : decode cL_holds 248 = .ok (.istore_n 2, 1) := by decide +kernel
theorem dL_holds_249 : decode cL_holds 249 = .ok (.ldc 73, 2) := by decide +kernel
theorem dL_holds_251 : decode cL_holds 251 = .ok (.istore_n 3, 1) := by decide +kernel
theorem dL_holds_252 : decode cL_holds 252 = .ok (.iconst 0, 1) := by decide +kernel
theorem dL_holds_253 : decode cL_holds 253 = .ok (.istore 4, 2) := by decide +kernel
theorem dL_holds_255 : decode cL_holds 255 = .ok (.iload 4, 2) := by decide +kernel
theorem dL_holds_257 : decode cL_holds 257 = .ok (.aload_n 0, 1) := by decide +kernel
theorem dL_holds_258 : decode cL_holds 258 = .ok (.invokevirtual 230, 3) := by decide +kernel
theorem dL_holds_261 : decode cL_holds 261 = .ok (.if_icmp .ge 203, 3) := by decide +kernel
theorem dL_holds_264 : decode cL_holds 264 = .ok (.iload_n 2, 1) := by decide +kernel
theorem dL_holds_265 : decode cL_holds 265 = .ok (.ifCond .eq 199, 3) := by decide +kernel
theorem dL_holds_268 : decode cL_holds 268 = .ok (.aload_n 0, 1) := by decide +kernel
theorem dL_holds_269 : decode cL_holds 269 = .ok (.iload 4, 2) := by decide +kernel
theorem dL_holds_271 : decode cL_holds 271 = .ok (.invokevirtual 77, 3) := by decide +kernel
theorem dL_holds_274 : decode cL_holds 274 = .ok (.istore 5, 2) := by decide +kernel
theorem dL_holds_276 : decode cL_holds 276 = .ok (.iload 5, 2) := by decide +kernel
theorem dL_holds_278 : decode cL_holds 278 = .ok (.ifCond .ne 28, 3) := by decide +kernel
theorem dL_holds_281 : decode cL_holds 281 = .ok (.iload_n 3, 1) := by decide +kernel
theorem dL_holds_282 : decode cL_holds 282 = .ok (.ldc 73, 2) := by decide +kernel
theorem dL_holds_284 : decode cL_holds 284 = .ok (.if_icmp .eq 17, 3) := by decide +kernel
theorem dL_holds_287 : decode cL_holds 287 = .ok (.aload_n 0, 1) := by decide +kernel
theorem dL_holds_288 : decode cL_holds 288 = .ok (.iload 4, 2) := by decide +kernel
theorem dL_holds_290 : decode cL_holds 290 = .ok (.invokevirtual 125, 3) := by decide +kernel
theorem dL_holds_293 : decode cL_holds 293 = .ok (.aload_n 0, 1) := by decide +kernel
theorem dL_holds_294 : decode cL_holds 294 = .ok (.iload_n 3, 1) := by decide +kernel
theorem dL_holds_295 : decode cL_holds 295 = .ok (.invokevirtual 125, 3) := by decide +kernel
theorem dL_holds_298 : decode cL_holds 298 = .ok (.if_icmp .ge 8, 3) := by decide +kernel
theorem dL_holds_301 : decode cL_holds 301 = .ok (.iload 4, 2) := by decide +kernel
theorem dL_holds_303 : decode cL_holds 303 = .ok (.goto 4, 3) := by decide +kernel
theorem dL_holds_306 : decode cL_holds 306 = .ok (.iload_n 3, 1) := by decide +kernel
theorem dL_holds_307 : decode cL_holds 307 = .ok (.istore_n 3, 1) := by decide +kernel
theorem dL_holds_308 : decode cL_holds 308 = .ok (.aload_n 0, 1) := by decide +kernel
theorem dL_holds_309 : decode cL_holds 309 = .ok (.iload 4, 2) := by decide +kernel
theorem dL_holds_311 : decode cL_holds 311 = .ok (.iload_n 1, 1) := by decide +kernel
theorem dL_holds_312 : decode cL_holds 312 = .ok (.invokestatic 307, 3) := by decide +kernel
theorem dL_holds_315 : decode cL_holds 315 = .ok (.ifCond .eq 141, 3) := by decide +kernel
theorem dL_holds_318 : decode cL_holds 318 = .ok (.iload 5, 2) := by decide +kernel
theorem dL_holds_320 : decode cL_holds 320 = .ok (.iconst 1, 1) := by decide +kernel
theorem dL_holds_321 : decode cL_holds 321 = .ok (.if_icmp .ne 7, 3) := by decide +kernel
theorem dL_holds_324 : decode cL_holds 324 = .ok (.iconst 1, 1) := by decide +kernel
theorem dL_holds_325 : decode cL_holds 325 = .ok (.goto 4, 3) := by decide +kernel
theorem dL_holds_328 : decode cL_holds 328 = .ok (.iconst 0, 1) := by decide +kernel
theorem dL_holds_329 : decode cL_holds 329 = .ok (.aload_n 0, 1) := by decide +kernel
theorem dL_holds_330 : decode cL_holds 330 = .ok (.invokevirtual 247, 3) := by decide +kernel
theorem dL_holds_333 : decode cL_holds 333 = .ok (.ifCond .ne 7, 3) := by decide +kernel
theorem dL_holds_336 : decode cL_holds 336 = .ok (.iconst 1, 1) := by decide +kernel
theorem dL_holds_337 : decode cL_holds 337 = .ok (.goto 4, 3) := by decide +kernel
theorem dL_holds_340 : decode cL_holds 340 = .ok (.iconst 0, 1) := by decide +kernel
theorem dL_holds_341 : decode cL_holds 341 = .ok (.if_icmp .ne 115, 3) := by decide +kernel
theorem dL_holds_344 : decode cL_holds 344 = .ok (.iload 5, 2) := by decide +kernel
theorem dL_holds_346 : decode cL_holds 346 = .ok (.iconst 2, 1) := by decide +kernel
theorem dL_holds_347 : decode cL_holds 347 = .ok (.if_icmp .ne 12, 3) := by decide +kernel
theorem dL_holds_350 : decode cL_holds 350 = .ok (.aload_n 0, 1) := by decide +kernel
theorem dL_holds_351 : decode cL_holds 351 = .ok (.iload 4, 2) := by decide +kernel
theorem dL_holds_353 : decode cL_holds 353 = .ok (.invokevirtual 61, 3) := by decide +kernel
theorem dL_holds_356 : decode cL_holds 356 = .ok (.ifCond .eq 100, 3) := by decide +kernel
theorem dL_holds_359 : decode cL_holds 359 = .ok (.iload 5, 2) := by decide +kernel
theorem dL_holds_361 : decode cL_holds 361 = .ok (.iconst 3, 1) := by decide +kernel
theorem dL_holds_362 : decode cL_holds 362 = .ok (.if_icmp .ne 23, 3) := by decide +kernel
theorem dL_holds_365 : decode cL_holds 365 = .ok (.iconst 5, 1) := by decide +kernel
theorem dL_holds_366 : decode cL_holds 366 = .ok (.aload_n 0, 1) := by decide +kernel
theorem dL_holds_367 : decode cL_holds 367 = .ok (.iload 4, 2) := by decide +kernel
theorem dL_holds_369 : decode cL_holds 369 = .ok (.invokevirtual 125, 3) := by decide +kernel
theorem dL_holds_372 : decode cL_holds 372 = .ok (.imul, 1) := by decide +kernel
theorem dL_holds_373 : decode cL_holds 373 = .ok (.aload_n 0, 1) := by decide +kernel
theorem dL_holds_374 : decode cL_holds 374 = .ok (.aload_n 0, 1) := by decide +kernel
theorem dL_holds_375 : decode cL_holds 375 = .ok (.iconst 0, 1) := by decide +kernel
theorem dL_holds_376 : decode cL_holds 376 = .ok (.invokevirtual 68, 3) := by decide +kernel
theorem dL_holds_379 : decode cL_holds 379 = .ok (.invokevirtual 176, 3) := by decide +kernel
theorem dL_holds_382 : decode cL_holds 382 = .ok (.if_icmp .le 74, 3) := by decide +kernel
theorem dL_holds_385 : decode cL_holds 385 = .ok (.iload 5, 2) := by decide +kernel
theorem dL_holds_387 : decode cL_holds 387 = .ok (.iconst 4, 1) := by decide +kernel
theorem dL_holds_388 : decode cL_holds 388 = .ok (.if_icmp .ne 12, 3) := by decide +kernel
theorem dL_holds_391 : decode cL_holds 391 = .ok (.aload_n 0, 1) := by decide +kernel
theorem dL_holds_392 : decode cL_holds 392 = .ok (.iload 4, 2) := by decide +kernel
theorem dL_holds_394 : decode cL_holds 394 = .ok (.invokevirtual 61, 3) := by decide +kernel
theorem dL_holds_397 : decode cL_holds 397 = .ok (.ifCond .ne 59, 3) := by decide +kernel
theorem dL_holds_400 : decode cL_holds 400 = .ok (.aload_n 0, 1) := by decide +kernel
theorem dL_holds_401 : decode cL_holds 401 = .ok (.iload 4, 2) := by decide +kernel
theorem dL_holds_403 : decode cL_holds 403 = .ok (.invokestatic 311, 3) := by decide +kernel
theorem dL_holds_406 : decode cL_holds 406 = .ok (.ldc 73, 2) := by decide +kernel
theorem dL_holds_408 : decode cL_holds 408 = .ok (.if_icmp .ne 7, 3) := by decide +kernel
theorem dL_holds_411 : decode cL_holds 411 = .ok (.iconst 1, 1) := by decide +kernel
theorem dL_holds_412 : decode cL_holds 412 = .ok (.goto 4, 3) := by decide +kernel
theorem dL_holds_415 : decode cL_holds 415 = .ok (.iconst 0, 1) := by decide +kernel
theorem dL_holds_416 : decode cL_holds 416 = .ok (.iload 5, 2) := by decide +kernel
theorem dL_holds_418 : decode cL_holds 418 = .ok (.ifCond .le 7, 3) := by decide +kernel
theorem dL_holds_421 : decode cL_holds 421 = .ok (.iconst 1, 1) := by decide +kernel
theorem dL_holds_422 : decode cL_holds 422 = .ok (.goto 4, 3) := by decide +kernel
theorem dL_holds_425 : decode cL_holds 425 = .ok (.iconst 0, 1) := by decide +kernel
theorem dL_holds_426 : decode cL_holds 426 = .ok (.if_icmp .ne 30, 3) := by decide +kernel
theorem dL_holds_429 : decode cL_holds 429 = .ok (.iload 5, 2) := by decide +kernel
theorem dL_holds_431 : decode cL_holds 431 = .ok (.ifCond .gt 21, 3) := by decide +kernel
theorem dL_holds_434 : decode cL_holds 434 = .ok (.aload_n 0, 1) := by decide +kernel
theorem dL_holds_435 : decode cL_holds 435 = .ok (.iconst 0, 1) := by decide +kernel
theorem dL_holds_436 : decode cL_holds 436 = .ok (.invokevirtual 74, 3) := by decide +kernel
theorem dL_holds_439 : decode cL_holds 439 = .ok (.ifCond .eq 13, 3) := by decide +kernel
theorem dL_holds_442 : decode cL_holds 442 = .ok (.aload_n 0, 1) := by decide +kernel
theorem dL_holds_443 : decode cL_holds 443 = .ok (.iload 4, 2) := by decide +kernel
theorem dL_holds_445 : decode cL_holds 445 = .ok (.invokevirtual 80, 3) := by decide +kernel
theorem dL_holds_448 : decode cL_holds 448 = .ok (.iconst 3, 1) := by decide +kernel
theorem dL_holds_449 : decode cL_holds 449 = .ok (.if_icmp .ge 7, 3) := by decide +kernel
theorem dL_holds_452 : decode cL_holds 452 = .ok (.iconst 1, 1) := by decide +kernel
theorem dL_holds_453 : decode cL_holds 453 = .ok (.goto 4, 3) := by decide +kernel
theorem dL_holds_457 : decode cL_holds 457 = .ok (.istore_n 2, 1) := by decide +kernel
theorem dL_holds_458 : decode cL_holds 458 = .ok (.iinc 4 1, 3) := by decide +kernel
theorem dL_holds_461 : decode cL_holds 461 = .ok (.goto (-206), 3) := by decide +kernel
theorem dL_holds_464 : decode cL_holds 464 = .ok (.iconst 0, 1) := by decide +kernel
theorem dL_holds_465 : decode cL_holds 465 = .ok (.istore 4, 2) := by decide +kernel
theorem dL_holds_467 : decode cL_holds 467 = .ok (.iload 4, 2) := by decide +kernel
theorem dL_holds_469 : decode cL_holds 469 = .ok (.aload_n 0, 1) := by decide +kernel
theorem dL_holds_470 : decode cL_holds 470 = .ok (.invokevirtual 236, 3) := by decide +kernel
theorem dL_holds_473 : decode cL_holds 473 = .ok (.if_icmp .ge 51, 3) := by decide +kernel
theorem dL_holds_476 : decode cL_holds 476 = .ok (.iload_n 2, 1) := by decide +kernel
theorem dL_holds_477 : decode cL_holds 477 = .ok (.ifCond .eq 47, 3) := by decide +kernel
theorem dL_holds_480 : decode cL_holds 480 = .ok (.aload_n 0, 1) := by decide +kernel
theorem dL_holds_481 : decode cL_holds 481 = .ok (.iload 4, 2) := by decide +kernel
theorem dL_holds_483 : decode cL_holds 483 = .ok (.invokestatic 313, 3) := by decide +kernel
theorem dL_holds_486 : decode cL_holds 486 = .ok (.ifCond .eq 30, 3) := by decide +kernel
theorem dL_holds_489 : decode cL_holds 489 = .ok (.aload_n 0, 1) := by decide +kernel
theorem dL_holds_490 : decode cL_holds 490 = .ok (.iload 4, 2) := by decide +kernel
theorem dL_holds_492 : decode cL_holds 492 = .ok (.invokevirtual 173, 3) := by decide +kernel
theorem dL_holds_495 : decode cL_holds 495 = .ok (.bipush 100, 2) := by decide +kernel
theorem dL_holds_497 : decode cL_holds 497 = .ok (.if_icmp .lt 19, 3) := by decide +kernel
theorem dL_holds_500 : decode cL_holds 500 = .ok (.aload_n 0, 1) := by decide +kernel
theorem dL_holds_501 : decode cL_holds 501 = .ok (.iload 4, 2) := by decide +kernel
theorem dL_holds_503 : decode cL_holds 503 = .ok (.invokevirtual 173, 3) := by decide +kernel
theorem dL_holds_506 : decode cL_holds 506 = .ok (.sipush 14000, 3) := by decide +kernel
theorem dL_holds_509 : decode cL_holds 509 = .ok (.if_icmp .gt 7, 3) := by decide +kernel
theorem dL_holds_512 : decode cL_holds 512 = .ok (.iconst 1, 1) := by decide +kernel
theorem dL_holds_513 : decode cL_holds 513 = .ok (.goto 4, 3) := by decide +kernel
theorem dL_holds_517 : decode cL_holds 517 = .ok (.istore_n 2, 1) := by decide +kernel
theorem dL_holds_518 : decode cL_holds 518 = .ok (.iinc 4 1, 3) := by decide +kernel
theorem dL_holds_521 : decode cL_holds 521 = .ok (.goto (-54), 3) := by decide +kernel
theorem dL_holds_524 : decode cL_holds 524 = .ok (.aload_n 0, 1) := by decide +kernel
theorem dL_holds_525 : decode cL_holds 525 = .ok (.invokevirtual 317, 3) := by decide +kernel
theorem dL_holds_528 : decode cL_holds 528 = .ok (.istore 4, 2) := by decide +kernel
theorem dL_holds_530 : decode cL_holds 530 = .ok (.iload_n 1, 1) := by decide +kernel
theorem dL_holds_531 : decode cL_holds 531 = .ok (.iconst 3, 1) := by decide +kernel
theorem dL_holds_532 : decode cL_holds 532 = .ok (.ishr, 1) := by decide +kernel
theorem dL_holds_533 : decode cL_holds 533 = .ok (.bipush 9, 2) := by decide +kernel
theorem dL_holds_535 : decode cL_holds 535 = .ok (.invokestatic 250, 3) := by decide +kernel
theorem dL_holds_538 : decode cL_holds 538 = .ok (.istore 5, 2) := by decide +kernel
theorem dL_holds_540 : decode cL_holds 540 = .ok (.iconst 0, 1) := by decide +kernel
theorem dL_holds_541 : decode cL_holds 541 = .ok (.istore 6, 2) := by decide +kernel
theorem dL_holds_543 : decode cL_holds 543 = .ok (.iload 6, 2) := by decide +kernel
theorem dL_holds_545 : decode cL_holds 545 = .ok (.aload_n 0, 1) := by decide +kernel
theorem dL_holds_546 : decode cL_holds 546 = .ok (.invokevirtual 233, 3) := by decide +kernel
theorem dL_holds_549 : decode cL_holds 549 = .ok (.if_icmp .ge 37, 3) := by decide +kernel
theorem dL_holds_552 : decode cL_holds 552 = .ok (.iload 5, 2) := by decide +kernel
theorem dL_holds_554 : decode cL_holds 554 = .ok (.iload_n 1, 1) := by decide +kernel
theorem dL_holds_555 : decode cL_holds 555 = .ok (.iload 6, 2) := by decide +kernel
theorem dL_holds_557 : decode cL_holds 557 = .ok (.iconst 2, 1) := by decide +kernel
theorem dL_holds_558 : decode cL_holds 558 = .ok (.iadd, 1) := by decide +kernel
theorem dL_holds_559 : decode cL_holds 559 = .ok (.ishr, 1) := by decide +kernel
theorem dL_holds_560 : decode cL_holds 560 = .ok (.iconst 3, 1) := by decide +kernel
theorem dL_holds_561 : decode cL_holds 561 = .ok (.invokestatic 250, 3) := by decide +kernel
theorem dL_holds_564 : decode cL_holds 564 = .ok (.ifCond .ne 12, 3) := by decide +kernel
theorem dL_holds_567 : decode cL_holds 567 = .ok (.aload_n 0, 1) := by decide +kernel
theorem dL_holds_568 : decode cL_holds 568 = .ok (.iload 6, 2) := by decide +kernel
theorem dL_holds_570 : decode cL_holds 570 = .ok (.invokevirtual 155, 3) := by decide +kernel
theorem dL_holds_573 : decode cL_holds 573 = .ok (.goto 4, 3) := by decide +kernel
theorem dL_holds_576 : decode cL_holds 576 = .ok (.iconst 0, 1) := by decide +kernel
theorem dL_holds_577 : decode cL_holds 577 = .ok (.iadd, 1) := by decide +kernel
theorem dL_holds_578 : decode cL_holds 578 = .ok (.istore 5, 2) := by decide +kernel
theorem dL_holds_580 : decode cL_holds 580 = .ok (.iinc 6 1, 3) := by decide +kernel
theorem dL_holds_583 : decode cL_holds 583 = .ok (.goto (-40), 3) := by decide +kernel
theorem dL_holds_586 : decode cL_holds 586 = .ok (.iload_n 2, 1) := by decide +kernel
theorem dL_holds_587 : decode cL_holds 587 = .ok (.ifCond .eq 106, 3) := by decide +kernel
theorem dL_holds_590 : decode cL_holds 590 = .ok (.aload_n 0, 1) := by decide +kernel
theorem dL_holds_591 : decode cL_holds 591 = .ok (.invokestatic 320, 3) := by decide +kernel
theorem dL_holds_594 : decode cL_holds 594 = .ok (.iload_n 3, 1) := by decide +kernel
theorem dL_holds_595 : decode cL_holds 595 = .ok (.if_icmp .ne 98, 3) := by decide +kernel
theorem dL_holds_598 : decode cL_holds 598 = .ok (.iload 4, 2) := by decide +kernel
theorem dL_holds_600 : decode cL_holds 600 = .ok (.iconst 1, 1) := by decide +kernel
theorem dL_holds_601 : decode cL_holds 601 = .ok (.if_icmp .ne 7, 3) := by decide +kernel
theorem dL_holds_604 : decode cL_holds 604 = .ok (.iconst 1, 1) := by decide +kernel
theorem dL_holds_605 : decode cL_holds 605 = .ok (.goto 4, 3) := by decide +kernel
theorem dL_holds_608 : decode cL_holds 608 = .ok (.iconst 0, 1) := by decide +kernel
theorem dL_holds_609 : decode cL_holds 609 = .ok (.aload_n 0, 1) := by decide +kernel
theorem dL_holds_610 : decode cL_holds 610 = .ok (.invokevirtual 247, 3) := by decide +kernel
theorem dL_holds_613 : decode cL_holds 613 = .ok (.ifCond .ne 7, 3) := by decide +kernel
theorem dL_holds_616 : decode cL_holds 616 = .ok (.iconst 1, 1) := by decide +kernel
theorem dL_holds_617 : decode cL_holds 617 = .ok (.goto 4, 3) := by decide +kernel
theorem dL_holds_620 : decode cL_holds 620 = .ok (.iconst 0, 1) := by decide +kernel
theorem dL_holds_621 : decode cL_holds 621 = .ok (.if_icmp .ne 72, 3) := by decide +kernel
theorem dL_holds_624 : decode cL_holds 624 = .ok (.iload 4, 2) := by decide +kernel
theorem dL_holds_626 : decode cL_holds 626 = .ok (.iconst 1, 1) := by decide +kernel
theorem dL_holds_627 : decode cL_holds 627 = .ok (.if_icmp .eq 35, 3) := by decide +kernel
theorem dL_holds_630 : decode cL_holds 630 = .ok (.iload 4, 2) := by decide +kernel
theorem dL_holds_632 : decode cL_holds 632 = .ok (.iconst 2, 1) := by decide +kernel
theorem dL_holds_633 : decode cL_holds 633 = .ok (.if_icmp .ne 7, 3) := by decide +kernel
theorem dL_holds_636 : decode cL_holds 636 = .ok (.iconst 1, 1) := by decide +kernel
theorem dL_holds_637 : decode cL_holds 637 = .ok (.goto 4, 3) := by decide +kernel
theorem dL_holds_640 : decode cL_holds 640 = .ok (.iconst 0, 1) := by decide +kernel
theorem dL_holds_641 : decode cL_holds 641 = .ok (.aload_n 0, 1) := by decide +kernel
theorem dL_holds_642 : decode cL_holds 642 = .ok (.aload_n 0, 1) := by decide +kernel
theorem dL_holds_643 : decode cL_holds 643 = .ok (.iconst 0, 1) := by decide +kernel
theorem dL_holds_644 : decode cL_holds 644 = .ok (.invokevirtual 68, 3) := by decide +kernel
theorem dL_holds_647 : decode cL_holds 647 = .ok (.invokevirtual 179, 3) := by decide +kernel
theorem dL_holds_650 : decode cL_holds 650 = .ok (.iconst 2, 1) := by decide +kernel
theorem dL_holds_651 : decode cL_holds 651 = .ok (.if_icmp .eq 7, 3) := by decide +kernel
theorem dL_holds_654 : decode cL_holds 654 = .ok (.iconst 1, 1) := by decide +kernel
theorem dL_holds_655 : decode cL_holds 655 = .ok (.goto 4, 3) := by decide +kernel
theorem dL_holds_658 : decode cL_holds 658 = .ok (.iconst 0, 1) := by decide +kernel
theorem dL_holds_659 : decode cL_holds 659 = .ok (.if_icmp .ne 34, 3) := by decide +kernel
theorem dL_holds_662 : decode cL_holds 662 = .ok (.aload_n 0, 1) := by decide +kernel
theorem dL_holds_663 : decode cL_holds 663 = .ok (.iload 5, 2) := by decide +kernel
theorem dL_holds_665 : decode cL_holds 665 = .ok (.iconst 1, 1) := by decide +kernel
theorem dL_holds_666 : decode cL_holds 666 = .ok (.if_icmp .lt 11, 3) := by decide +kernel
theorem dL_holds_669 : decode cL_holds 669 = .ok (.iload 5, 2) := by decide +kernel
theorem dL_holds_671 : decode cL_holds 671 = .ok (.sipush 15000, 3) := by decide +kernel
theorem dL_holds_674 : decode cL_holds 674 = .ok (.if_icmp .le 7, 3) := by decide +kernel
theorem dL_holds_677 : decode cL_holds 677 = .ok (.iconst 3, 1) := by decide +kernel
theorem dL_holds_678 : decode cL_holds 678 = .ok (.goto 5, 3) := by decide +kernel
theorem dL_holds_681 : decode cL_holds 681 = .ok (.iload 5, 2) := by decide +kernel
theorem dL_holds_683 : decode cL_holds 683 = .ok (.invokestatic 323, 3) := by decide +kernel
theorem dL_holds_686 : decode cL_holds 686 = .ok (.ifCond .eq 7, 3) := by decide +kernel
theorem dL_holds_689 : decode cL_holds 689 = .ok (.iconst 1, 1) := by decide +kernel
theorem dL_holds_690 : decode cL_holds 690 = .ok (.goto 4, 3) := by decide +kernel
theorem dL_holds_694 : decode cL_holds 694 = .ok (.istore_n 2, 1) := by decide +kernel
theorem dL_holds_695 : decode cL_holds 695 = .ok (.iload_n 1, 1) := by decide +kernel
theorem dL_holds_696 : decode cL_holds 696 = .ok (.iconst 3, 1) := by decide +kernel
theorem dL_holds_697 : decode cL_holds 697 = .ok (.invokestatic 250, 3) := by decide +kernel
theorem dL_holds_700 : decode cL_holds 700 = .ok (.istore 6, 2) := by decide +kernel
theorem dL_holds_702 : decode cL_holds 702 = .ok (.iload_n 1, 1) := by decide +kernel
theorem dL_holds_703 : decode cL_holds 703 = .ok (.iconst 5, 1) := by decide +kernel
theorem dL_holds_704 : decode cL_holds 704 = .ok (.ishr, 1) := by decide +kernel
theorem dL_holds_705 : decode cL_holds 705 = .ok (.sipush 15001, 3) := by decide +kernel
theorem dL_holds_708 : decode cL_holds 708 = .ok (.invokestatic 250, 3) := by decide +kernel
theorem dL_holds_711 : decode cL_holds 711 = .ok (.istore 7, 2) := by decide +kernel
theorem dL_holds_713 : decode cL_holds 713 = .ok (.iload 6, 2) := by decide +kernel
theorem dL_holds_715 : decode cL_holds 715 = .ok (.ifCond .ne 8, 3) := by decide +kernel
theorem dL_holds_718 : decode cL_holds 718 = .ok (.bipush 12, 2) := by decide +kernel
theorem dL_holds_720 : decode cL_holds 720 = .ok (.goto 16, 3) := by decide +kernel
theorem dL_holds_723 : decode cL_holds 723 = .ok (.iload 6, 2) := by decide +kernel
theorem dL_holds_725 : decode cL_holds 725 = .ok (.iconst 1, 1) := by decide +kernel
theorem dL_holds_726 : decode cL_holds 726 = .ok (.if_icmp .ne 8, 3) := by decide +kernel
theorem dL_holds_729 : decode cL_holds 729 = .ok (.bipush 19, 2) := by decide +kernel
theorem dL_holds_731 : decode cL_holds 731 = .ok (.goto 5, 3) := by decide +kernel
theorem dL_holds_734 : decode cL_holds 734 = .ok (.bipush 23, 2) := by decide +kernel
theorem dL_holds_736 : decode cL_holds 736 = .ok (.istore 8, 2) := by decide +kernel
theorem dL_holds_738 : decode cL_holds 738 = .ok (.aload_n 0, 1) := by decide +kernel
theorem dL_holds_739 : decode cL_holds 739 = .ok (.iload 6, 2) := by decide +kernel
theorem dL_holds_741 : decode cL_holds 741 = .ok (.iload 7, 2) := by decide +kernel
theorem dL_holds_743 : decode cL_holds 743 = .ok (.invokevirtual 65, 3) := by decide +kernel
theorem dL_holds_746 : decode cL_holds 746 = .ok (.ifCond .ge 15, 3) := by decide +kernel
theorem dL_holds_749 : decode cL_holds 749 = .ok (.aload_n 0, 1) := by decide +kernel
theorem dL_holds_750 : decode cL_holds 750 = .ok (.iload 6, 2) := by decide +kernel
theorem dL_holds_752 : decode cL_holds 752 = .ok (.iload 7, 2) := by decide +kernel
theorem dL_holds_754 : decode cL_holds 754 = .ok (.invokevirtual 65, 3) := by decide +kernel
theorem dL_holds_757 : decode cL_holds 757 = .ok (.ineg, 1) := by decide +kernel
theorem dL_holds_758 : decode cL_holds 758 = .ok (.goto 11, 3) := by decide +kernel
theorem dL_holds_761 : decode cL_holds 761 = .ok (.aload_n 0, 1) := by decide +kernel
theorem dL_holds_762 : decode cL_holds 762 = .ok (.iload 6, 2) := by decide +kernel
theorem dL_holds_764 : decode cL_holds 764 = .ok (.iload 7, 2) := by decide +kernel
theorem dL_holds_766 : decode cL_holds 766 = .ok (.invokevirtual 65, 3) := by decide +kernel
theorem dL_holds_769 : decode cL_holds 769 = .ok (.istore 9, 2) := by decide +kernel
theorem dL_holds_771 : decode cL_holds 771 = .ok (.aload_n 0, 1) := by decide +kernel
theorem dL_holds_772 : decode cL_holds 772 = .ok (.invokevirtual 209, 3) := by decide +kernel
theorem dL_holds_775 : decode cL_holds 775 = .ok (.bipush 20, 2) := by decide +kernel
theorem dL_holds_777 : decode cL_holds 777 = .ok (.if_icmp .ge 13, 3) := by decide +kernel
theorem dL_holds_780 : decode cL_holds 780 = .ok (.bipush 20, 2) := by decide +kernel
theorem dL_holds_782 : decode cL_holds 782 = .ok (.aload_n 0, 1) := by decide +kernel
theorem dL_holds_783 : decode cL_holds 783 = .ok (.invokevirtual 209, 3) := by decide +kernel
theorem dL_holds_786 : decode cL_holds 786 = .ok (.isub, 1) := by decide +kernel
theorem dL_holds_787 : decode cL_holds 787 = .ok (.goto 10, 3) := by decide +kernel
theorem dL_holds_790 : decode cL_holds 790 = .ok (.aload_n 0, 1) := by decide +kernel
theorem dL_holds_791 : decode cL_holds 791 = .ok (.invokevirtual 209, 3) := by decide +kernel
theorem dL_holds_794 : decode cL_holds 794 = .ok (.bipush 20, 2) := by decide +kernel
theorem dL_holds_796 : decode cL_holds 796 = .ok (.isub, 1) := by decide +kernel
theorem dL_holds_797 : decode cL_holds 797 = .ok (.istore 10, 2) := by decide +kernel
theorem dL_holds_799 : decode cL_holds 799 = .ok (.iload_n 2, 1) := by decide +kernel
theorem dL_holds_800 : decode cL_holds 800 = .ok (.ifCond .eq 58, 3) := by decide +kernel
theorem dL_holds_803 : decode cL_holds 803 = .ok (.iload 9, 2) := by decide +kernel
theorem dL_holds_805 : decode cL_holds 805 = .ok (.iload 7, 2) := by decide +kernel
theorem dL_holds_807 : decode cL_holds 807 = .ok (.iload 8, 2) := by decide +kernel
theorem dL_holds_809 : decode cL_holds 809 = .ok (.imul, 1) := by decide +kernel
theorem dL_holds_810 : decode cL_holds 810 = .ok (.iload 10, 2) := by decide +kernel
theorem dL_holds_812 : decode cL_holds 812 = .ok (.imul, 1) := by decide +kernel
theorem dL_holds_813 : decode cL_holds 813 = .ok (.ldc_w 326, 3) := by decide +kernel
theorem dL_holds_816 : decode cL_holds 816 = .ok (.idiv, 1) := by decide +kernel
theorem dL_holds_817 : decode cL_holds 817 = .ok (.if_icmp .ne 41, 3) := by decide +kernel
theorem dL_holds_820 : decode cL_holds 820 = .ok (.aload_n 0, 1) := by decide +kernel
theorem dL_holds_821 : decode cL_holds 821 = .ok (.invokevirtual 209, 3) := by decide +kernel
theorem dL_holds_824 : decode cL_holds 824 = .ok (.bipush 20, 2) := by decide +kernel
theorem dL_holds_826 : decode cL_holds 826 = .ok (.if_icmp .lt 17, 3) := by decide +kernel
theorem dL_holds_829 : decode cL_holds 829 = .ok (.aload_n 0, 1) := by decide +kernel
theorem dL_holds_830 : decode cL_holds 830 = .ok (.iload 6, 2) := by decide +kernel
theorem dL_holds_832 : decode cL_holds 832 = .ok (.iload 7, 2) := by decide +kernel
theorem dL_holds_834 : decode cL_holds 834 = .ok (.invokevirtual 65, 3) := by decide +kernel
theorem dL_holds_837 : decode cL_holds 837 = .ok (.ifCond .lt 21, 3) := by decide +kernel
theorem dL_holds_840 : decode cL_holds 840 = .ok (.goto 14, 3) := by decide +kernel
theorem dL_holds_843 : decode cL_holds 843 = .ok (.aload_n 0, 1) := by decide +kernel
theorem dL_holds_844 : decode cL_holds 844 = .ok (.iload 6, 2) := by decide +kernel
theorem dL_holds_846 : decode cL_holds 846 = .ok (.iload 7, 2) := by decide +kernel
theorem dL_holds_848 : decode cL_holds 848 = .ok (.invokevirtual 65, 3) := by decide +kernel
theorem dL_holds_851 : decode cL_holds 851 = .ok (.ifCond .gt 7, 3) := by decide +kernel
theorem dL_holds_854 : decode cL_holds 854 = .ok (.iconst 1, 1) := by decide +kernel
theorem dL_holds_855 : decode cL_holds 855 = .ok (.goto 4, 3) := by decide +kernel
theorem dL_holds_859 : decode cL_holds 859 = .ok (.ireturn, 1) := by decide +kernel
set_option maxHeartbeats 8000000 in
set_option maxRecDepth 100000 in
theorem mL_holds (l : Launch) (hst : l.stackTraces = false) (G : gG) (da : Nat → Nat) (v : vSt) (x : gX) (o1 : Nat) (hk_o1 : kd o1 = 10) (p1 : Int32) (ho : oL_holds o1 p1 v) : NI l yL_holds cL_holds 11 .boolean rmL_holds [.ref (ga G o1), .int p1] G da v x 1404 1404 1 v := by
  refine gofNI (by decide) rfl (Nat.le_of_ble_eq_true rfl) (fun p e s m args below meth c ls Q X hN hH hl E => ?_)
  have hx := X.1
  have hb := X.2.1
  have hown := X.2.2.2.1
  have hts := X.2.2.2.2.1
  have hS : va_S (gA G) s.heap s.heap [] := va_S.rf
  unfold oL_holds at ho
  have hl : lv_has ls 11 [(0, .ref (ga G o1)), (1, .int p1)] := hl
  refine lv_aload_n hx hb dL_holds_0 rfl (lv_at hl 0 rfl) ?_
  have hq1 := ho.1
  have ho := ho.2
  refine k_X10_brought X hS hH hk_o1 hq1 t_ml_VernierDrawersLaw_215 hl.1 (Nat.le_of_ble_eq_true rfl) ⟨Nat.le_of_ble_eq_true rfl, Nat.le_of_ble_eq_true rfl⟩ ⟨Nat.zero_le _, Nat.zero_le _⟩ dL_holds_1 ?_
  refine lv_aload_n hx hb dL_holds_4 rfl (lv_at hl 0 rfl) ?_
  have hq2 := ho.1
  have ho := ho.2
  refine k_X10_broughtByPlaces X hS hH hk_o1 hq2 t_ml_VernierDrawersLaw_285 hl.1 (Nat.le_of_ble_eq_true rfl) ⟨Nat.le_of_ble_eq_true rfl, Nat.le_of_ble_eq_true rfl⟩ ⟨Nat.zero_le _, Nat.zero_le _⟩ dL_holds_5 ?_
  refine lv_icmp_ne (tgt := 247) hx hb dL_holds_8 (by decide) (fun c3 => ?_) (fun c3 => ?_)
  · exact absurd ho.1 c3
  have ho := ho.2
  refine lv_aload_n hx hb dL_holds_11 rfl (lv_at hl 0 rfl) ?_
  refine k_X10_broughtByPlaces X hS hH hk_o1 hq2 t_ml_VernierDrawersLaw_285 hl.1 (Nat.le_of_ble_eq_true rfl) ⟨Nat.le_of_ble_eq_true rfl, Nat.le_of_ble_eq_true rfl⟩ ⟨Nat.zero_le _, Nat.zero_le _⟩ dL_holds_12 ?_
  refine lv_aload_n hx hb dL_holds_15 rfl (lv_at hl 0 rfl) ?_
  have hq4 := ho.1
  have ho := ho.2
  refine k_X10_onBench X hS hH hk_o1 hq4 t_ml_VernierDrawersLaw_247 hl.1 (Nat.le_of_ble_eq_true rfl) ⟨Nat.le_of_ble_eq_true rfl, Nat.le_of_ble_eq_true rfl⟩ ⟨Nat.zero_le _, Nat.zero_le _⟩ dL_holds_16 ?_
  refine lv_aload_n hx hb dL_holds_19 rfl (lv_at hl 0 rfl) ?_
  have hq5 := ho.1
  have ho := ho.2
  refine k_X10_toFile X hS hH hk_o1 hq5 t_ml_VernierDrawersLaw_239 hl.1 (Nat.le_of_ble_eq_true rfl) ⟨Nat.le_of_ble_eq_true rfl, Nat.le_of_ble_eq_true rfl⟩ ⟨Nat.zero_le _, Nat.zero_le _⟩ dL_holds_20 ?_
  refine lv_iadd hx hb dL_holds_23 ?_
  refine lv_aload_n hx hb dL_holds_24 rfl (lv_at hl 0 rfl) ?_
  have hq6 := ho.1
  have ho := ho.2
  refine k_X10_good X hS hH hk_o1 hq6 t_ml_VernierDrawersLaw_218 hl.1 (Nat.le_of_ble_eq_true rfl) ⟨Nat.le_of_ble_eq_true rfl, Nat.le_of_ble_eq_true rfl⟩ ⟨Nat.zero_le _, Nat.zero_le _⟩ dL_holds_25 ?_
  refine lv_iadd hx hb dL_holds_28 ?_
  refine lv_aload_n hx hb dL_holds_29 rfl (lv_at hl 0 rfl) ?_
  have hq7 := ho.1
  have ho := ho.2
  refine k_X10_thrownAway X hS hH hk_o1 hq7 t_ml_VernierDrawersLaw_221 hl.1 (Nat.le_of_ble_eq_true rfl) ⟨Nat.le_of_ble_eq_true rfl, Nat.le_of_ble_eq_true rfl⟩ ⟨Nat.zero_le _, Nat.zero_le _⟩ dL_holds_30 ?_
  refine lv_iadd hx hb dL_holds_33 ?_
  refine lv_aload_n hx hb dL_holds_34 rfl (lv_at hl 0 rfl) ?_
  have hq8 := ho.1
  have ho := ho.2
  refine k_X10_unseen X hS hH hk_o1 hq8 t_ml_VernierDrawersLaw_224 hl.1 (Nat.le_of_ble_eq_true rfl) ⟨Nat.le_of_ble_eq_true rfl, Nat.le_of_ble_eq_true rfl⟩ ⟨Nat.zero_le _, Nat.zero_le _⟩ dL_holds_35 ?_
  refine lv_iadd hx hb dL_holds_38 ?_
  refine lv_icmp_ne (tgt := 247) hx hb dL_holds_39 (by decide) (fun c9 => ?_) (fun c9 => ?_)
  · exact absurd ho.1 c9
  have ho := ho.2
  refine lv_aload_n hx hb dL_holds_42 rfl (lv_at hl 0 rfl) ?_
  refine k_X10_onBench X hS hH hk_o1 hq4 t_ml_VernierDrawersLaw_247 hl.1 (Nat.le_of_ble_eq_true rfl) ⟨Nat.le_of_ble_eq_true rfl, Nat.le_of_ble_eq_true rfl⟩ ⟨Nat.zero_le _, Nat.zero_le _⟩ dL_holds_43 ?_
  refine lv_if_lt (tgt := 247) hx hb dL_holds_46 (by decide) (fun c10 => ?_) (fun c10 => ?_)
  · exact absurd c10 ho.1
  have ho := ho.2
  refine lv_aload_n hx hb dL_holds_49 rfl (lv_at hl 0 rfl) ?_
  refine k_X10_onBench X hS hH hk_o1 hq4 t_ml_VernierDrawersLaw_247 hl.1 (Nat.le_of_ble_eq_true rfl) ⟨Nat.le_of_ble_eq_true rfl, Nat.le_of_ble_eq_true rfl⟩ ⟨Nat.zero_le _, Nat.zero_le _⟩ dL_holds_50 ?_
  refine lv_bipush (v := 20) hx hb dL_holds_53 (by decide) ?_
  refine lv_icmp_gt (tgt := 247) hx hb dL_holds_55 (by decide) (fun c11 => ?_) (fun c11 => ?_)
  · exact absurd c11 ho.1
  have ho := ho.2
  refine lv_aload_n hx hb dL_holds_58 rfl (lv_at hl 0 rfl) ?_
  have hq12 := ho.1
  have ho := ho.2
  refine k_X10_tools X hS hH hk_o1 hq12 t_ml_VernierDrawersLaw_230 hl.1 (Nat.le_of_ble_eq_true rfl) ⟨Nat.le_of_ble_eq_true rfl, Nat.le_of_ble_eq_true rfl⟩ ⟨Nat.zero_le _, Nat.zero_le _⟩ dL_holds_59 ?_
  refine lv_bipush (v := 6) hx hb dL_holds_62 (by decide) ?_
  refine lv_icmp_gt (tgt := 247) hx hb dL_holds_64 (by decide) (fun c13 => ?_) (fun c13 => ?_)
  · exact absurd c13 ho.1
  have ho := ho.2
  refine lv_aload_n hx hb dL_holds_67 rfl (lv_at hl 0 rfl) ?_
  have hq14 := ho.1
  have ho := ho.2
  refine k_X10_blocks X hS hH hk_o1 hq14 t_ml_VernierDrawersLaw_233 hl.1 (Nat.le_of_ble_eq_true rfl) ⟨Nat.le_of_ble_eq_true rfl, Nat.le_of_ble_eq_true rfl⟩ ⟨Nat.zero_le _, Nat.zero_le _⟩ dL_holds_68 ?_
  refine lv_bipush (v := 10) hx hb dL_holds_71 (by decide) ?_
  refine lv_icmp_gt (tgt := 247) hx hb dL_holds_73 (by decide) (fun c15 => ?_) (fun c15 => ?_)
  · exact absurd c15 ho.1
  have ho := ho.2
  refine lv_aload_n hx hb dL_holds_76 rfl (lv_at hl 0 rfl) ?_
  have hq16 := ho.1
  have ho := ho.2
  refine k_X10_types X hS hH hk_o1 hq16 t_ml_VernierDrawersLaw_236 hl.1 (Nat.le_of_ble_eq_true rfl) ⟨Nat.le_of_ble_eq_true rfl, Nat.le_of_ble_eq_true rfl⟩ ⟨Nat.zero_le _, Nat.zero_le _⟩ dL_holds_77 ?_
  refine lv_iconst (v := 5) hx hb dL_holds_80 (by decide) ?_
  refine lv_icmp_gt (tgt := 247) hx hb dL_holds_81 (by decide) (fun c17 => ?_) (fun c17 => ?_)
  · exact absurd c17 ho.1
  have ho := ho.2
  refine lv_aload_n hx hb dL_holds_84 rfl (lv_at hl 0 rfl) ?_
  refine k_X10_states X hS hH hk_o1 t_ml_VernierDrawersLaw_288 hl.1 (Nat.le_of_ble_eq_true rfl) ⟨Nat.le_of_ble_eq_true rfl, Nat.le_of_ble_eq_true rfl⟩ ⟨Nat.zero_le _, Nat.zero_le _⟩ dL_holds_85 ?_
  refine lv_if_lt (tgt := 247) hx hb dL_holds_88 (by decide) (fun c18 => ?_) (fun c18 => ?_)
  · exact absurd c18 ho.1
  have ho := ho.2
  refine lv_aload_n hx hb dL_holds_91 rfl (lv_at hl 0 rfl) ?_
  refine k_X10_states X hS hH hk_o1 t_ml_VernierDrawersLaw_288 hl.1 (Nat.le_of_ble_eq_true rfl) ⟨Nat.le_of_ble_eq_true rfl, Nat.le_of_ble_eq_true rfl⟩ ⟨Nat.zero_le _, Nat.zero_le _⟩ dL_holds_92 ?_
  refine lv_iconst (v := 4) hx hb dL_holds_95 (by decide) ?_
  refine lv_icmp_gt (tgt := 247) hx hb dL_holds_96 (by decide) (fun c19 => ?_) (fun c19 => ?_)
  · exact absurd c19 ho.1
  have ho := ho.2
  refine lv_aload_n hx hb dL_holds_99 rfl (lv_at hl 0 rfl) ?_
  refine lv_aload_n hx hb dL_holds_100 rfl (lv_at hl 0 rfl) ?_
  refine k_X10_tools X hS hH hk_o1 hq12 t_ml_VernierDrawersLaw_230 hl.1 (Nat.le_of_ble_eq_true rfl) ⟨Nat.le_of_ble_eq_true rfl, Nat.le_of_ble_eq_true rfl⟩ ⟨Nat.zero_le _, Nat.zero_le _⟩ dL_holds_101 ?_
  have hq20 := ho.1
  have ho := ho.2
  refine k_L_kindOf hst X hS hN hH hk_o1 hq20 t_ml_VernierDrawersLaw_291 hl.1 (Nat.le_of_ble_eq_true rfl) ⟨Nat.le_of_ble_eq_true rfl, Nat.le_of_ble_eq_true rfl⟩ ⟨(Nat.le_of_ble_eq_true rfl), (Nat.le_of_ble_eq_true rfl)⟩ dL_holds_104 (fun da H locs hH hS => ?_)
  refine W.widen (k := 6) (n := 6) (Nat.le_refl _) (Nat.le_refl _) ?_
  refine lv_ldc (v := (-100102)) hx hb hown (hts _ t_con_VernierDrawersLaw_17) dL_holds_107 ?_
  refine lv_icmp_ne (tgt := 247) hx hb dL_holds_109 (by decide) (fun c21 => ?_) (fun c21 => ?_)
  · exact absurd ho.1 c21
  have ho := ho.2
  refine lv_aload_n hx hb dL_holds_112 rfl (lv_at hl 0 rfl) ?_
  refine lv_iconst (v := (-1)) hx hb dL_holds_113 (by decide) ?_
  have hq22 := ho.1
  have ho := ho.2
  refine k_L_isDue hst X hS hN hH hk_o1 hq22 t_ml_VernierDrawersLaw_293 hl.1 (Nat.le_of_ble_eq_true rfl) ⟨Nat.le_of_ble_eq_true rfl, Nat.le_of_ble_eq_true rfl⟩ ⟨(Nat.le_of_ble_eq_true rfl), (Nat.le_of_ble_eq_true rfl)⟩ dL_holds_114 (fun da H locs hH hS => ?_)
  refine W.widen (k := 12) (n := 12) (Nat.le_refl _) (Nat.le_refl _) ?_
  refine lv_ldc (v := (-100102)) hx hb hown (hts _ t_con_VernierDrawersLaw_17) dL_holds_117 ?_
  refine lv_icmp_ne (tgt := 247) hx hb dL_holds_119 (by decide) (fun c23 => ?_) (fun c23 => ?_)
  · exact absurd ho.1 c23
  have ho := ho.2
  refine lv_aload_n hx hb dL_holds_122 rfl (lv_at hl 0 rfl) ?_
  refine lv_aload_n hx hb dL_holds_123 rfl (lv_at hl 0 rfl) ?_
  refine k_X10_tools X hS hH hk_o1 hq12 t_ml_VernierDrawersLaw_230 hl.1 (Nat.le_of_ble_eq_true rfl) ⟨Nat.le_of_ble_eq_true rfl, Nat.le_of_ble_eq_true rfl⟩ ⟨(Nat.le_of_ble_eq_true rfl), (Nat.le_of_ble_eq_true rfl)⟩ dL_holds_124 ?_
  refine lv_iconst (v := 0) hx hb dL_holds_127 (by decide) ?_
  refine lv_iconst (v := 0) hx hb dL_holds_128 (by decide) ?_
  have hq24 := ho.1
  have ho := ho.2
  refine k_L_readingFor hst X hS hN hH hk_o1 hq24 t_ml_VernierDrawersLaw_242 hl.1 (Nat.le_of_ble_eq_true rfl) ⟨Nat.le_of_ble_eq_true rfl, Nat.le_of_ble_eq_true rfl⟩ ⟨(Nat.le_of_ble_eq_true rfl), (Nat.le_of_ble_eq_true rfl)⟩ dL_holds_129 (fun da H locs hH hS => ?_)
  refine W.widen (k := 18) (n := 18) (Nat.le_refl _) (Nat.le_refl _) ?_
  refine lv_ldc (v := (-100102)) hx hb hown (hts _ t_con_VernierDrawersLaw_17) dL_holds_132 ?_
  refine lv_icmp_ne (tgt := 247) hx hb dL_holds_134 (by decide) (fun c25 => ?_) (fun c25 => ?_)
  · exact absurd ho.1 c25
  have ho := ho.2
  refine lv_aload_n hx hb dL_holds_137 rfl (lv_at hl 0 rfl) ?_
  refine lv_aload_n hx hb dL_holds_138 rfl (lv_at hl 0 rfl) ?_
  refine k_X10_blocks X hS hH hk_o1 hq14 t_ml_VernierDrawersLaw_233 hl.1 (Nat.le_of_ble_eq_true rfl) ⟨Nat.le_of_ble_eq_true rfl, Nat.le_of_ble_eq_true rfl⟩ ⟨(Nat.le_of_ble_eq_true rfl), (Nat.le_of_ble_eq_true rfl)⟩ dL_holds_139 ?_
  have hq26 := ho.1
  have ho := ho.2
  refine k_L_blockError hst X hS hN hH hk_o1 hq26 t_ml_VernierDrawersLaw_295 hl.1 (Nat.le_of_ble_eq_true rfl) ⟨Nat.le_of_ble_eq_true rfl, Nat.le_of_ble_eq_true rfl⟩ ⟨(Nat.le_of_ble_eq_true rfl), (Nat.le_of_ble_eq_true rfl)⟩ dL_holds_142 (fun da H locs hH hS => ?_)
  refine W.widen (k := 24) (n := 24) (Nat.le_refl _) (Nat.le_refl _) ?_
  refine lv_ldc (v := (-100102)) hx hb hown (hts _ t_con_VernierDrawersLaw_17) dL_holds_145 ?_
  refine lv_icmp_ne (tgt := 247) hx hb dL_holds_147 (by decide) (fun c27 => ?_) (fun c27 => ?_)
  · exact absurd ho.1 c27
  have ho := ho.2
  refine lv_aload_n hx hb dL_holds_150 rfl (lv_at hl 0 rfl) ?_
  refine lv_iconst (v := 0) hx hb dL_holds_151 (by decide) ?_
  have hq28 := ho.1
  have ho := ho.2
  refine k_L_stackFor hst X hS hN hH hk_o1 hq28 t_ml_VernierDrawersLaw_279 hl.1 (Nat.le_of_ble_eq_true rfl) ⟨Nat.le_of_ble_eq_true rfl, Nat.le_of_ble_eq_true rfl⟩ ⟨(Nat.le_of_ble_eq_true rfl), (Nat.le_of_ble_eq_true rfl)⟩ dL_holds_152 (fun da H locs hH hS => ?_)
  refine W.widen (k := 36) (n := 36) (Nat.le_refl _) (Nat.le_refl _) ?_
  refine lv_ldc (v := (-100102)) hx hb hown (hts _ t_con_VernierDrawersLaw_17) dL_holds_155 ?_
  refine lv_icmp_ne (tgt := 247) hx hb dL_holds_157 (by decide) (fun c29 => ?_) (fun c29 => ?_)
  · exact absurd ho.1 c29
  have ho := ho.2
  refine lv_aload_n hx hb dL_holds_160 rfl (lv_at hl 0 rfl) ?_
  refine lv_aload_n hx hb dL_holds_161 rfl (lv_at hl 0 rfl) ?_
  refine k_X10_types X hS hH hk_o1 hq16 t_ml_VernierDrawersLaw_236 hl.1 (Nat.le_of_ble_eq_true rfl) ⟨Nat.le_of_ble_eq_true rfl, Nat.le_of_ble_eq_true rfl⟩ ⟨(Nat.le_of_ble_eq_true rfl), (Nat.le_of_ble_eq_true rfl)⟩ dL_holds_162 ?_
  have hq30 := ho.1
  have ho := ho.2
  refine k_L_lengthOf hst X hS hN hH hk_o1 hq30 t_ml_VernierDrawersLaw_297 hl.1 (Nat.le_of_ble_eq_true rfl) ⟨Nat.le_of_ble_eq_true rfl, Nat.le_of_ble_eq_true rfl⟩ ⟨(Nat.le_of_ble_eq_true rfl), (Nat.le_of_ble_eq_true rfl)⟩ dL_holds_165 (fun da H locs hH hS => ?_)
  refine W.widen (k := 42) (n := 42) (Nat.le_refl _) (Nat.le_refl _) ?_
  refine lv_ldc (v := (-100102)) hx hb hown (hts _ t_con_VernierDrawersLaw_17) dL_holds_168 ?_
  refine lv_icmp_ne (tgt := 247) hx hb dL_holds_170 (by decide) (fun c31 => ?_) (fun c31 => ?_)
  · exact absurd ho.1 c31
  have ho := ho.2
  refine lv_aload_n hx hb dL_holds_173 rfl (lv_at hl 0 rfl) ?_
  refine lv_iconst (v := (-1)) hx hb dL_holds_174 (by decide) ?_
  have hq32 := ho.1
  have ho := ho.2
  refine k_L_middleOf hst X hS hN hH hk_o1 hq32 t_ml_VernierDrawersLaw_270 hl.1 (Nat.le_of_ble_eq_true rfl) ⟨Nat.le_of_ble_eq_true rfl, Nat.le_of_ble_eq_true rfl⟩ ⟨(Nat.le_of_ble_eq_true rfl), (Nat.le_of_ble_eq_true rfl)⟩ dL_holds_175 (fun da H locs hH hS => ?_)
  refine W.widen (k := 78) (n := 78) (Nat.le_refl _) (Nat.le_refl _) ?_
  refine lv_ldc (v := (-100102)) hx hb hown (hts _ t_con_VernierDrawersLaw_17) dL_holds_178 ?_
  refine lv_icmp_ne (tgt := 247) hx hb dL_holds_180 (by decide) (fun c33 => ?_) (fun c33 => ?_)
  · exact absurd ho.1 c33
  have ho := ho.2
  refine lv_aload_n hx hb dL_holds_183 rfl (lv_at hl 0 rfl) ?_
  refine lv_iconst (v := (-1)) hx hb dL_holds_184 (by decide) ?_
  have hq34 := ho.1
  have ho := ho.2
  refine k_L_typeAt hst X hS hN hH hk_o1 hq34 t_ml_VernierDrawersLaw_299 hl.1 (Nat.le_of_ble_eq_true rfl) ⟨Nat.le_of_ble_eq_true rfl, Nat.le_of_ble_eq_true rfl⟩ ⟨(Nat.le_of_ble_eq_true rfl), (Nat.le_of_ble_eq_true rfl)⟩ dL_holds_185 (fun da H locs hH hS => ?_)
  refine W.widen (k := 84) (n := 84) (Nat.le_refl _) (Nat.le_refl _) ?_
  refine lv_ldc (v := (-100102)) hx hb hown (hts _ t_con_VernierDrawersLaw_17) dL_holds_188 ?_
  refine lv_icmp_ne (tgt := 247) hx hb dL_holds_190 (by decide) (fun c35 => ?_) (fun c35 => ?_)
  · exact absurd ho.1 c35
  have ho := ho.2
  refine lv_aload_n hx hb dL_holds_193 rfl (lv_at hl 0 rfl) ?_
  refine lv_aload_n hx hb dL_holds_194 rfl (lv_at hl 0 rfl) ?_
  refine k_X10_onBench X hS hH hk_o1 hq4 t_ml_VernierDrawersLaw_247 hl.1 (Nat.le_of_ble_eq_true rfl) ⟨Nat.le_of_ble_eq_true rfl, Nat.le_of_ble_eq_true rfl⟩ ⟨(Nat.le_of_ble_eq_true rfl), (Nat.le_of_ble_eq_true rfl)⟩ dL_holds_195 ?_
  have hq36 := ho.1
  have ho := ho.2
  refine k_L_typeAt hst X hS hN hH hk_o1 hq36 t_ml_VernierDrawersLaw_299 hl.1 (Nat.le_of_ble_eq_true rfl) ⟨Nat.le_of_ble_eq_true rfl, Nat.le_of_ble_eq_true rfl⟩ ⟨(Nat.le_of_ble_eq_true rfl), (Nat.le_of_ble_eq_true rfl)⟩ dL_holds_198 (fun da H locs hH hS => ?_)
  refine W.widen (k := 90) (n := 90) (Nat.le_refl _) (Nat.le_refl _) ?_
  refine lv_ldc (v := (-100104)) hx hb hown (hts _ t_con_VernierDrawersLaw_73) dL_holds_201 ?_
  refine lv_icmp_ne (tgt := 247) hx hb dL_holds_203 (by decide) (fun c37 => ?_) (fun c37 => ?_)
  · exact absurd ho.1 c37
  have ho := ho.2
  refine lv_aload_n hx hb dL_holds_206 rfl (lv_at hl 0 rfl) ?_
  refine lv_aload_n hx hb dL_holds_207 rfl (lv_at hl 0 rfl) ?_
  refine k_X10_onBench X hS hH hk_o1 hq4 t_ml_VernierDrawersLaw_247 hl.1 (Nat.le_of_ble_eq_true rfl) ⟨Nat.le_of_ble_eq_true rfl, Nat.le_of_ble_eq_true rfl⟩ ⟨(Nat.le_of_ble_eq_true rfl), (Nat.le_of_ble_eq_true rfl)⟩ dL_holds_208 ?_
  have hq38 := ho.1
  have ho := ho.2
  refine k_L_wasDoubted hst X hS hN hH hk_o1 hq38 t_ml_VernierDrawersLaw_301 hl.1 (Nat.le_of_ble_eq_true rfl) ⟨Nat.le_of_ble_eq_true rfl, Nat.le_of_ble_eq_true rfl⟩ ⟨(Nat.le_of_ble_eq_true rfl), (Nat.le_of_ble_eq_true rfl)⟩ dL_holds_211 (fun da H locs hH hS => ?_)
  refine W.widen (k := 96) (n := 96) (Nat.le_refl _) (Nat.le_refl _) ?_
  refine lv_ldc (v := (-100104)) hx hb hown (hts _ t_con_VernierDrawersLaw_73) dL_holds_214 ?_
  refine lv_icmp_ne (tgt := 247) hx hb dL_holds_216 (by decide) (fun c39 => ?_) (fun c39 => ?_)
  · exact absurd ho.1 c39
  have ho := ho.2
  refine lv_aload_n hx hb dL_holds_219 rfl (lv_at hl 0 rfl) ?_
  refine lv_iconst (v := 3) hx hb dL_holds_220 (by decide) ?_
  refine lv_iconst (v := 0) hx hb dL_holds_221 (by decide) ?_
  have hq40 := ho.1
  have ho := ho.2
  refine k_L_stretchOf hst X hS hN hH hk_o1 hq40 t_ml_VernierDrawersLaw_303 hl.1 (Nat.le_of_ble_eq_true rfl) ⟨Nat.le_of_ble_eq_true rfl, Nat.le_of_ble_eq_true rfl⟩ ⟨(Nat.le_of_ble_eq_true rfl), (Nat.le_of_ble_eq_true rfl)⟩ dL_holds_222 (fun da H locs hH hS => ?_)
  refine W.widen (k := 102) (n := 102) (Nat.le_refl _) (Nat.le_refl _) ?_
  refine lv_ldc (v := (-100102)) hx hb hown (hts _ t_con_VernierDrawersLaw_17) dL_holds_225 ?_
  refine lv_icmp_ne (tgt := 247) hx hb dL_holds_227 (by decide) (fun c41 => ?_) (fun c41 => ?_)
  · exact absurd ho.1 c41
  have ho := ho.2
  refine lv_aload_n hx hb dL_holds_230 rfl (lv_at hl 0 rfl) ?_
  refine lv_aload_n hx hb dL_holds_231 rfl (lv_at hl 0 rfl) ?_
  refine k_X10_tools X hS hH hk_o1 hq12 t_ml_VernierDrawersLaw_230 hl.1 (Nat.le_of_ble_eq_true rfl) ⟨Nat.le_of_ble_eq_true rfl, Nat.le_of_ble_eq_true rfl⟩ ⟨(Nat.le_of_ble_eq_true rfl), (Nat.le_of_ble_eq_true rfl)⟩ dL_holds_232 ?_
  have hq42 := ho.1
  have ho := ho.2
  refine k_L_whyNotJudge hst X hS hN hH hk_o1 hq42 t_ml_VernierDrawersLaw_305 hl.1 (Nat.le_of_ble_eq_true rfl) ⟨Nat.le_of_ble_eq_true rfl, Nat.le_of_ble_eq_true rfl⟩ ⟨(Nat.le_of_ble_eq_true rfl), (Nat.le_of_ble_eq_true rfl)⟩ dL_holds_235 (fun da H locs hH hS => ?_)
  refine W.widen (k := 108) (n := 108) (Nat.le_refl _) (Nat.le_refl _) ?_
  refine lv_ldc (v := (-100102)) hx hb hown (hts _ t_con_VernierDrawersLaw_17) dL_holds_238 ?_
  refine lv_icmp_ne (tgt := 247) hx hb dL_holds_240 (by decide) (fun c43 => ?_) (fun c43 => ?_)
  · exact absurd ho.1 c43
  have ho := ho.2
  refine lv_iconst (v := 1) hx hb dL_holds_243 (by decide) ?_
  refine lv_goto (tgt := 248) hx hb dL_holds_244 (by decide) ?_
  refine lv_istore_n (lv' := [(2, .int 1), (0, .ref (ga G o1)), (1, .int p1)]) hx hb dL_holds_248 rfl hl (by decide) rfl (fun ls hl => ?_)
  refine lv_ldc (v := (-100104)) hx hb hown (hts _ t_con_VernierDrawersLaw_73) dL_holds_249 ?_
  refine lv_istore_n (lv' := [(3, .int (-100104)), (2, .int 1), (0, .ref (ga G o1)), (1, .int p1)]) hx hb dL_holds_251 rfl hl (by decide) rfl (fun ls hl => ?_)
  refine lv_iconst (v := 0) hx hb dL_holds_252 (by decide) ?_
  refine lv_istore (lv' := [(4, .int 0), (3, .int (-100104)), (2, .int 1), (0, .ref (ga G o1)), (1, .int p1)]) hx hb dL_holds_253 hl (by decide) rfl (fun ls hl => ?_)
  have L47 : ∀ (n : Nat) (i44 : Int32) (i45 : Int32) (da : Nat → Nat) (H : Heap) (locs : List Loc) (cc46 : Nat) (ls : Array Slot), olL_holds_255 v o1 p1 n i44 i45 → cc46 + 66 * n + 0 ≤ 570 → Hp G da v x H → va_S (gA G) s.heap H locs → lv_has ls 11 [(4, .int i44), (3, .int i45), (2, .int 1), (0, .ref (ga G o1)), (1, .int p1)] → (∀ (y46 : Int32) (da : Nat → Nat) (H : Heap) (locs : List Loc) (ls : Array Slot), y46 = (lL_holds_255 v o1 n i44 i45 : Int32) → Hp G da v x H → va_S (gA G) s.heap H locs → lv_has ls 11 [(3, .int y46), (2, .int 1), (0, .ref (ga G o1)), (1, .int p1)] → W p l e rmL_holds s m args below meth c H locs 570 570 Q (F0 m 464 ls [])) → W p l e rmL_holds s m args below meth c H locs (cc46 + 0) (cc46 + 0) Q (F0 m 255 ls []) := by
    clear ho
    intro n
    induction n with
    | zero =>
      intro i44 i45 da H locs cc46 ls ho
      exact ho.elim
    | succ n ih =>
      intro i44 i45 da H locs cc46 ls ho hcc49 hH hS hl K48
      have hcc49x : cc46 + 66 ≤ 570 := by omega
      refine lv_iload hx hb dL_holds_255 (lv_at hl 0 rfl) ?_
      refine lv_aload_n hx hb dL_holds_257 rfl (lv_at hl 3 rfl) ?_
      refine k_X10_tools X hS hH hk_o1 hq12 t_ml_VernierDrawersLaw_230 hl.1 (Nat.le_of_ble_eq_true rfl) ⟨Nat.le_of_ble_eq_true rfl, Nat.le_of_ble_eq_true rfl⟩ ⟨(show (cc46 + 0) ≤ 1404 by omega), (show (cc46 + 0) ≤ 1404 by omega)⟩ dL_holds_258 ?_
      refine lv_icmp_ge (tgt := 464) hx hb dL_holds_261 (by decide) (fun c50 => ?_) (fun c50 => ?_)
      · skip
        have hoz := ho
        have hlz := hl
        have hHz := hH
        have hSz := hS
        refine W.widen (k := 570) (n := 570) (by omega) (by omega) ?_
        exact K48 _ _ _ _ _ (Eq.symm (((lL_holds_255.eq_2 _ _ _ _ _)).trans ((if_pos c50).trans rfl)))  hHz hSz (lv_sub hlz [1, 2, 3, 4] rfl)
      · have ho := ho c50
        refine lv_iload_n hx hb dL_holds_264 rfl (lv_at hl 2 rfl) ?_
        refine lv_if_eq (tgt := 464) hx hb dL_holds_265 (by decide) (fun c51 => absurd c51 (by decide)) (fun c51 => ?_)
        refine lv_aload_n hx hb dL_holds_268 rfl (lv_at hl 3 rfl) ?_
        refine lv_iload hx hb dL_holds_269 (lv_at hl 0 rfl) ?_
        have hq52 := ho.1
        have ho := ho.2
        have hq53 := ho.1
        have ho := ho.2
        refine kZ_X10_whyNotJudge X hS hH hk_o1 hq52 hq53 t_ml_VernierDrawersLaw_77 hl.1 (Nat.le_of_ble_eq_true rfl) ⟨Nat.le_of_ble_eq_true rfl, Nat.le_of_ble_eq_true rfl⟩ ⟨(show (cc46 + 0) ≤ 1404 by omega), (show (cc46 + 0) ≤ 1404 by omega)⟩ dL_holds_271 ?_
        refine lv_istore (lv' := [(5, .int ((fX10_whyNotJudge o1 i44 v).2)), (4, .int i44), (3, .int i45), (2, .int 1), (0, .ref (ga G o1)), (1, .int p1)]) hx hb dL_holds_274 hl (by decide) rfl (fun ls hl => ?_)
        refine lv_iload hx hb dL_holds_276 (lv_at hl 0 rfl) ?_
        have K55 : ∀ (y54 : Int32) (ls : Array Slot), y54 = (if (((fX10_whyNotJudge o1 i44 v).2) : Int32) = 0 then (if (i45 : Int32) = (-100104) then i44 else (if (((fX10_stepOf o1 i45 v).2) : Int32) ≤ ((fX10_stepOf o1 i44 v).2) then i45 else i44)) else i45 : Int32) → lv_has ls 11 [(5, .int ((fX10_whyNotJudge o1 i44 v).2)), (4, .int i44), (0, .ref (ga G o1)), (1, .int p1)] → W p l e rmL_holds s m args below meth c H locs (cc46 + 0) (cc46 + 0) Q (F0 m 307 ls [.int y54]) := by
          intro y54 ls ey54 hl
          have ho := ho.2 y54 ey54
          refine lv_istore_n (lv' := [(3, .int y54), (5, .int ((fX10_whyNotJudge o1 i44 v).2)), (4, .int i44), (0, .ref (ga G o1)), (1, .int p1)]) hx hb dL_holds_307 rfl hl (by decide) rfl (fun ls hl => ?_)
          refine lv_aload_n hx hb dL_holds_308 rfl (lv_at hl 3 rfl) ?_
          refine lv_iload hx hb dL_holds_309 (lv_at hl 2 rfl) ?_
          refine lv_iload_n hx hb dL_holds_311 rfl (lv_at hl 4 rfl) ?_
          have hq56 := ho.1
          have ho := ho.2
          refine k_L_tool hst X hS hN hH hk_o1 hq56 t_ml_VernierDrawersLaw_307 hl.1 (Nat.le_of_ble_eq_true rfl) ⟨Nat.le_of_ble_eq_true rfl, Nat.le_of_ble_eq_true rfl⟩ ⟨(show (cc46 + 0) + 54 ≤ 1404 by omega), (show (cc46 + 0) + 54 ≤ 1404 by omega)⟩ dL_holds_312 (fun da H locs hH hS => ?_)
          refine W.widen (k := (cc46 + 54)) (n := (cc46 + 54)) (Nat.le_of_eq (Nat.add_assoc _ _ _)) (Nat.le_of_eq (Nat.add_assoc _ _ _)) ?_
          refine lv_if_eq (tgt := 456) hx hb dL_holds_315 (by decide) (fun c57 => absurd c57 (by decide)) (fun c57 => ?_)
          refine lv_iload hx hb dL_holds_318 (lv_at hl 1 rfl) ?_
          refine lv_iconst (v := 1) hx hb dL_holds_320 (by decide) ?_
          have K59 : ∀ (y58 : Int32) (ls : Array Slot), y58 = (if (((fX10_whyNotJudge o1 i44 v).2) : Int32) = 1 then 1 else 0 : Int32) → lv_has ls 11 [(3, .int y54), (5, .int ((fX10_whyNotJudge o1 i44 v).2)), (4, .int i44), (0, .ref (ga G o1)), (1, .int p1)] → W p l e rmL_holds s m args below meth c H locs (cc46 + 54) (cc46 + 54) Q (F0 m 329 ls [.int y58]) := by
            intro y58 ls ey58 hl
            have ho := ho y58 ey58
            refine lv_aload_n hx hb dL_holds_329 rfl (lv_at hl 3 rfl) ?_
            refine k_X10_onBench X hS hH hk_o1 hq4 t_ml_VernierDrawersLaw_247 hl.1 (Nat.le_of_ble_eq_true rfl) ⟨Nat.le_of_ble_eq_true rfl, Nat.le_of_ble_eq_true rfl⟩ ⟨(show (cc46 + 54) ≤ 1404 by omega), (show (cc46 + 54) ≤ 1404 by omega)⟩ dL_holds_330 ?_
            have K61 : ∀ (y60 : Int32) (ls : Array Slot), y60 = (if ((fX10_onBench o1 v) : Int32) = 0 then 1 else 0 : Int32) → lv_has ls 11 [(3, .int y54), (5, .int ((fX10_whyNotJudge o1 i44 v).2)), (4, .int i44), (0, .ref (ga G o1)), (1, .int p1)] → W p l e rmL_holds s m args below meth c H locs (cc46 + 54) (cc46 + 54) Q (F0 m 341 ls [.int y60, .int y58]) := by
              intro y60 ls ey60 hl
              have ho := ho y60 ey60
              refine lv_icmp_ne (tgt := 456) hx hb dL_holds_341 (by decide) (fun c62 => ?_) (fun c62 => ?_)
              · exact absurd ho.1 c62
              have ho := ho.2
              refine lv_iload hx hb dL_holds_344 (lv_at hl 1 rfl) ?_
              refine lv_iconst (v := 2) hx hb dL_holds_346 (by decide) ?_
              have K63 : ∀  (ls : Array Slot), lv_has ls 11 [(3, .int y54), (5, .int ((fX10_whyNotJudge o1 i44 v).2)), (4, .int i44), (0, .ref (ga G o1)), (1, .int p1)] → W p l e rmL_holds s m args below meth c H locs (cc46 + 54) (cc46 + 54) Q (F0 m 359 ls []) := by
                intro  ls  hl
                have ho := ho.2
                refine lv_iload hx hb dL_holds_359 (lv_at hl 1 rfl) ?_
                refine lv_iconst (v := 3) hx hb dL_holds_361 (by decide) ?_
                have K64 : ∀  (ls : Array Slot), lv_has ls 11 [(3, .int y54), (5, .int ((fX10_whyNotJudge o1 i44 v).2)), (4, .int i44), (0, .ref (ga G o1)), (1, .int p1)] → W p l e rmL_holds s m args below meth c H locs (cc46 + 54) (cc46 + 54) Q (F0 m 385 ls []) := by
                  intro  ls  hl
                  have ho := ho.2
                  refine lv_iload hx hb dL_holds_385 (lv_at hl 1 rfl) ?_
                  refine lv_iconst (v := 4) hx hb dL_holds_387 (by decide) ?_
                  have K65 : ∀  (ls : Array Slot), lv_has ls 11 [(3, .int y54), (5, .int ((fX10_whyNotJudge o1 i44 v).2)), (4, .int i44), (0, .ref (ga G o1)), (1, .int p1)] → W p l e rmL_holds s m args below meth c H locs (cc46 + 54) (cc46 + 54) Q (F0 m 400 ls []) := by
                    intro  ls  hl
                    have ho := ho.2
                    refine lv_aload_n hx hb dL_holds_400 rfl (lv_at hl 3 rfl) ?_
                    refine lv_iload hx hb dL_holds_401 (lv_at hl 2 rfl) ?_
                    have hq66 := ho.1
                    have ho := ho.2
                    refine k_L_wouldJudge hst X hS hN hH hk_o1 hq66 t_ml_VernierDrawersLaw_311 hl.1 (Nat.le_of_ble_eq_true rfl) ⟨Nat.le_of_ble_eq_true rfl, Nat.le_of_ble_eq_true rfl⟩ ⟨(show (cc46 + 54) + 12 ≤ 1404 by omega), (show (cc46 + 54) + 12 ≤ 1404 by omega)⟩ dL_holds_403 (fun da H locs hH hS => ?_)
                    refine W.widen (k := (cc46 + 66)) (n := (cc46 + 66)) (Nat.le_of_eq (Nat.add_assoc _ _ _)) (Nat.le_of_eq (Nat.add_assoc _ _ _)) ?_
                    refine lv_ldc (v := (-100104)) hx hb hown (hts _ t_con_VernierDrawersLaw_73) dL_holds_406 ?_
                    have K68 : ∀ (y67 : Int32) (ls : Array Slot), y67 = (if ((fL_wouldJudge o1 i44 v) : Int32) = (-100104) then 1 else 0 : Int32) → lv_has ls 11 [(3, .int y54), (5, .int ((fX10_whyNotJudge o1 i44 v).2)), (4, .int i44), (0, .ref (ga G o1)), (1, .int p1)] → W p l e rmL_holds s m args below meth c H locs (cc46 + 66) (cc46 + 66) Q (F0 m 416 ls [.int y67]) := by
                      intro y67 ls ey67 hl
                      have ho := ho y67 ey67
                      refine lv_iload hx hb dL_holds_416 (lv_at hl 1 rfl) ?_
                      have K70 : ∀ (y69 : Int32) (ls : Array Slot), y69 = (if (((fX10_whyNotJudge o1 i44 v).2) : Int32) ≤ 0 then 0 else 1 : Int32) → lv_has ls 11 [(3, .int y54), (5, .int ((fX10_whyNotJudge o1 i44 v).2)), (4, .int i44), (0, .ref (ga G o1)), (1, .int p1)] → W p l e rmL_holds s m args below meth c H locs (cc46 + 66) (cc46 + 66) Q (F0 m 426 ls [.int y69, .int y67]) := by
                        intro y69 ls ey69 hl
                        have ho := ho y69 ey69
                        refine lv_icmp_ne (tgt := 456) hx hb dL_holds_426 (by decide) (fun c71 => ?_) (fun c71 => ?_)
                        · exact absurd ho.1 c71
                        have ho := ho.2
                        refine lv_iload hx hb dL_holds_429 (lv_at hl 1 rfl) ?_
                        have K72 : ∀  (ls : Array Slot), lv_has ls 11 [(3, .int y54), (4, .int i44), (0, .ref (ga G o1)), (1, .int p1)] → W p l e rmL_holds s m args below meth c H locs (cc46 + 66) (cc46 + 66) Q (F0 m 452 ls []) := by
                          intro  ls  hl
                          have ho := ho.2
                          refine lv_iconst (v := 1) hx hb dL_holds_452 (by decide) ?_
                          refine lv_goto (tgt := 457) hx hb dL_holds_453 (by decide) ?_
                          refine lv_istore_n (lv' := [(2, .int 1), (3, .int y54), (4, .int i44), (0, .ref (ga G o1)), (1, .int p1)]) hx hb dL_holds_457 rfl hl (by decide) rfl (fun ls hl => ?_)
                          refine lv_iinc (v := i44 + 1) (lv' := [(4, .int (i44 + 1)), (2, .int 1), (3, .int y54), (0, .ref (ga G o1)), (1, .int p1)]) hx hb dL_holds_458 hl (k := 2) rfl rfl (by decide) rfl (fun ls hl => ?_)
                          refine lv_goto (tgt := 255) hx hb dL_holds_461 (by decide) ?_
                          have hoz := ho
                          have hlz := hl
                          have hHz := hH
                          have hSz := hS
                          replace ey54 := Eq.symm ey54
                          replace ey58 := Eq.symm ey58
                          replace ey60 := Eq.symm ey60
                          replace ey67 := Eq.symm ey67
                          replace ey69 := Eq.symm ey69
                          subst ey54 ey58 ey60 ey67 ey69
                          refine W.widen (k := cc46 + 66) (n := cc46 + 66) (by omega) (by omega) ?_
                          exact ih _ _ _ _ _ _ _ hoz (by omega) hHz hSz (lv_sub hlz [0, 2, 1, 3, 4] rfl) (fun y46 da H locs ls q0 hH hS hl => K48 y46 da H locs ls (q0.trans (congrArg (fun z : Int32 => z) (Eq.symm (((lL_holds_255.eq_2 _ _ _ _ _)).trans ((if_neg c50).trans rfl))))) hH hS hl)
                        have ho := ho.1
                        refine lv_if_gt (tgt := 452) hx hb dL_holds_431 (by decide) (fun c72 => ?_) (fun c72 => ?_)
                        · skip
                          have hlz := hl
                          exact K72  _  (lv_sub hlz [0, 2, 3, 4] rfl)
                        · have ho := ho c72
                          refine lv_aload_n hx hb dL_holds_434 rfl (lv_at hl 3 rfl) ?_
                          refine lv_iconst (v := 0) hx hb dL_holds_435 (by decide) ?_
                          have hq73 := ho.1
                          have ho := ho.2
                          have hq74 := ho.1
                          have ho := ho.2
                          refine kZ_X10_wasDoubted X hS hH hk_o1 hq73 hq74 t_ml_VernierDrawersLaw_74 hl.1 (Nat.le_of_ble_eq_true rfl) ⟨Nat.le_of_ble_eq_true rfl, Nat.le_of_ble_eq_true rfl⟩ ⟨(show (cc46 + 66) ≤ 1404 by omega), (show (cc46 + 66) ≤ 1404 by omega)⟩ dL_holds_436 ?_
                          refine lv_if_eq (tgt := 452) hx hb dL_holds_439 (by decide) (fun c75 => ?_) (fun c75 => ?_)
                          · skip
                            have hlz := hl
                            exact K72  _  (lv_sub hlz [0, 2, 3, 4] rfl)
                          · have ho := ho c75
                            refine lv_aload_n hx hb dL_holds_442 rfl (lv_at hl 3 rfl) ?_
                            refine lv_iload hx hb dL_holds_443 (lv_at hl 2 rfl) ?_
                            have hq76 := ho.1
                            have ho := ho.2
                            have hq77 := ho.1
                            have ho := ho.2
                            refine kZ_X10_wouldJudge X hS hH hk_o1 hq76 hq77 t_ml_VernierDrawersLaw_80 hl.1 (Nat.le_of_ble_eq_true rfl) ⟨Nat.le_of_ble_eq_true rfl, Nat.le_of_ble_eq_true rfl⟩ ⟨(show (cc46 + 66) ≤ 1404 by omega), (show (cc46 + 66) ≤ 1404 by omega)⟩ dL_holds_445 ?_
                            refine lv_iconst (v := 3) hx hb dL_holds_448 (by decide) ?_
                            refine lv_icmp_ge (tgt := 456) hx hb dL_holds_449 (by decide) (fun c78 => ?_) (fun c78 => ?_)
                            · exact absurd c78 ho
                            have hlz := hl
                            exact K72  _  (lv_sub hlz [0, 2, 3, 4] rfl)
                      refine lv_if_le (tgt := 425) hx hb dL_holds_418 (by decide) (fun c70 => ?_) (fun c70 => ?_)
                      · skip
                        refine lv_iconst (v := 0) hx hb dL_holds_425 (by decide) ?_
                        have hlz := hl
                        exact K70 _ _ (Eq.symm ((if_pos c70).trans rfl)) (lv_sub hlz [0, 1, 2, 3, 4] rfl)
                      · skip
                        refine lv_iconst (v := 1) hx hb dL_holds_421 (by decide) ?_
                        refine lv_goto (tgt := 426) hx hb dL_holds_422 (by decide) ?_
                        have hlz := hl
                        exact K70 _ _ (Eq.symm ((if_neg c70).trans rfl)) (lv_sub hlz [0, 1, 2, 3, 4] rfl)
                    refine lv_icmp_ne (tgt := 415) hx hb dL_holds_408 (by decide) (fun c68 => ?_) (fun c68 => ?_)
                    · skip
                      refine lv_iconst (v := 0) hx hb dL_holds_415 (by decide) ?_
                      have hlz := hl
                      exact K68 _ _ (Eq.symm ((if_neg c68).trans rfl)) (lv_sub hlz [0, 1, 2, 3, 4] rfl)
                    · skip
                      refine lv_iconst (v := 1) hx hb dL_holds_411 (by decide) ?_
                      refine lv_goto (tgt := 416) hx hb dL_holds_412 (by decide) ?_
                      have hlz := hl
                      exact K68 _ _ (Eq.symm ((if_pos c68).trans rfl)) (lv_sub hlz [0, 1, 2, 3, 4] rfl)
                  have ho := ho.1
                  refine lv_icmp_ne (tgt := 400) hx hb dL_holds_388 (by decide) (fun c65 => ?_) (fun c65 => ?_)
                  · skip
                    have hlz := hl
                    exact K65  _  (lv_sub hlz [0, 1, 2, 3, 4] rfl)
                  · have ho := ho c65
                    refine lv_aload_n hx hb dL_holds_391 rfl (lv_at hl 3 rfl) ?_
                    refine lv_iload hx hb dL_holds_392 (lv_at hl 2 rfl) ?_
                    have hq66 := ho.1
                    have ho := ho.2
                    have hq67 := ho.1
                    have ho := ho.2
                    refine kZ_X10_isDue X hS hH hk_o1 hq66 hq67 t_ml_VernierDrawersLaw_61 hl.1 (Nat.le_of_ble_eq_true rfl) ⟨Nat.le_of_ble_eq_true rfl, Nat.le_of_ble_eq_true rfl⟩ ⟨(show (cc46 + 54) ≤ 1404 by omega), (show (cc46 + 54) ≤ 1404 by omega)⟩ dL_holds_394 ?_
                    refine lv_if_ne (tgt := 456) hx hb dL_holds_397 (by decide) (fun c68 => ?_) (fun c68 => ?_)
                    · exact absurd ho c68
                    have hlz := hl
                    exact K65  _  (lv_sub hlz [0, 1, 2, 3, 4] rfl)
                have ho := ho.1
                refine lv_icmp_ne (tgt := 385) hx hb dL_holds_362 (by decide) (fun c64 => ?_) (fun c64 => ?_)
                · skip
                  have hlz := hl
                  exact K64  _  (lv_sub hlz [0, 1, 2, 3, 4] rfl)
                · have ho := ho c64
                  refine lv_iconst (v := 5) hx hb dL_holds_365 (by decide) ?_
                  refine lv_aload_n hx hb dL_holds_366 rfl (lv_at hl 3 rfl) ?_
                  refine lv_iload hx hb dL_holds_367 (lv_at hl 2 rfl) ?_
                  have hq65 := ho.1
                  have ho := ho.2
                  have hq66 := ho.1
                  have ho := ho.2
                  refine kZ_X10_stepOf X hS hH hk_o1 hq65 hq66 t_ml_VernierDrawersLaw_125 hl.1 (Nat.le_of_ble_eq_true rfl) ⟨Nat.le_of_ble_eq_true rfl, Nat.le_of_ble_eq_true rfl⟩ ⟨(show (cc46 + 54) ≤ 1404 by omega), (show (cc46 + 54) ≤ 1404 by omega)⟩ dL_holds_369 ?_
                  refine lv_imul hx hb dL_holds_372 ?_
                  refine lv_aload_n hx hb dL_holds_373 rfl (lv_at hl 3 rfl) ?_
                  refine lv_aload_n hx hb dL_holds_374 rfl (lv_at hl 3 rfl) ?_
                  refine lv_iconst (v := 0) hx hb dL_holds_375 (by decide) ?_
                  have hq67 := ho.1
                  have ho := ho.2
                  have hq68 := ho.1
                  have ho := ho.2
                  refine kZ_X10_typeAt X hS hH hk_o1 hq67 hq68 t_ml_VernierDrawersLaw_68 hl.1 (Nat.le_of_ble_eq_true rfl) ⟨Nat.le_of_ble_eq_true rfl, Nat.le_of_ble_eq_true rfl⟩ ⟨(show (cc46 + 54) ≤ 1404 by omega), (show (cc46 + 54) ≤ 1404 by omega)⟩ dL_holds_376 ?_
                  have hq69 := ho.1
                  have ho := ho.2
                  have hq70 := ho.1
                  have ho := ho.2
                  refine kZ_X10_widthOf X hS hH hk_o1 hq69 hq70 t_ml_VernierDrawersLaw_176 hl.1 (Nat.le_of_ble_eq_true rfl) ⟨Nat.le_of_ble_eq_true rfl, Nat.le_of_ble_eq_true rfl⟩ ⟨(show (cc46 + 54) ≤ 1404 by omega), (show (cc46 + 54) ≤ 1404 by omega)⟩ dL_holds_379 ?_
                  refine lv_icmp_le (tgt := 456) hx hb dL_holds_382 (by decide) (fun c71 => ?_) (fun c71 => ?_)
                  · exact absurd c71 ho
                  have hlz := hl
                  exact K64  _  (lv_sub hlz [0, 1, 2, 3, 4] rfl)
              have ho := ho.1
              refine lv_icmp_ne (tgt := 359) hx hb dL_holds_347 (by decide) (fun c63 => ?_) (fun c63 => ?_)
              · skip
                have hlz := hl
                exact K63  _  (lv_sub hlz [0, 1, 2, 3, 4] rfl)
              · have ho := ho c63
                refine lv_aload_n hx hb dL_holds_350 rfl (lv_at hl 3 rfl) ?_
                refine lv_iload hx hb dL_holds_351 (lv_at hl 2 rfl) ?_
                have hq64 := ho.1
                have ho := ho.2
                have hq65 := ho.1
                have ho := ho.2
                refine kZ_X10_isDue X hS hH hk_o1 hq64 hq65 t_ml_VernierDrawersLaw_61 hl.1 (Nat.le_of_ble_eq_true rfl) ⟨Nat.le_of_ble_eq_true rfl, Nat.le_of_ble_eq_true rfl⟩ ⟨(show (cc46 + 54) ≤ 1404 by omega), (show (cc46 + 54) ≤ 1404 by omega)⟩ dL_holds_353 ?_
                refine lv_if_eq (tgt := 456) hx hb dL_holds_356 (by decide) (fun c66 => ?_) (fun c66 => ?_)
                · exact absurd c66 ho
                have hlz := hl
                exact K63  _  (lv_sub hlz [0, 1, 2, 3, 4] rfl)
            refine lv_if_ne (tgt := 340) hx hb dL_holds_333 (by decide) (fun c61 => ?_) (fun c61 => ?_)
            · skip
              refine lv_iconst (v := 0) hx hb dL_holds_340 (by decide) ?_
              have hlz := hl
              exact K61 _ _ (Eq.symm ((if_neg c61).trans rfl)) (lv_sub hlz [0, 1, 2, 3, 4] rfl)
            · skip
              refine lv_iconst (v := 1) hx hb dL_holds_336 (by decide) ?_
              refine lv_goto (tgt := 341) hx hb dL_holds_337 (by decide) ?_
              have hlz := hl
              exact K61 _ _ (Eq.symm ((if_pos c61).trans rfl)) (lv_sub hlz [0, 1, 2, 3, 4] rfl)
          refine lv_icmp_ne (tgt := 328) hx hb dL_holds_321 (by decide) (fun c59 => ?_) (fun c59 => ?_)
          · skip
            refine lv_iconst (v := 0) hx hb dL_holds_328 (by decide) ?_
            have hlz := hl
            exact K59 _ _ (Eq.symm ((if_neg c59).trans rfl)) (lv_sub hlz [0, 1, 2, 3, 4] rfl)
          · skip
            refine lv_iconst (v := 1) hx hb dL_holds_324 (by decide) ?_
            refine lv_goto (tgt := 329) hx hb dL_holds_325 (by decide) ?_
            have hlz := hl
            exact K59 _ _ (Eq.symm ((if_pos c59).trans rfl)) (lv_sub hlz [0, 1, 2, 3, 4] rfl)
        have ho := ho.1
        refine lv_if_ne (tgt := 306) hx hb dL_holds_278 (by decide) (fun c55 => ?_) (fun c55 => ?_)
        · skip
          refine lv_iload_n hx hb dL_holds_306 rfl (lv_at hl 2 rfl) ?_
          have hlz := hl
          exact K55 _ _ (Eq.symm ((if_neg c55).trans rfl)) (lv_sub hlz [0, 1, 4, 5] rfl)
        · have ho := ho c55
          refine lv_iload_n hx hb dL_holds_281 rfl (lv_at hl 2 rfl) ?_
          refine lv_ldc (v := (-100104)) hx hb hown (hts _ t_con_VernierDrawersLaw_73) dL_holds_282 ?_
          refine lv_icmp_eq (tgt := 301) hx hb dL_holds_284 (by decide) (fun c56 => ?_) (fun c56 => ?_)
          · skip
            refine lv_iload hx hb dL_holds_301 (lv_at hl 1 rfl) ?_
            refine lv_goto (tgt := 307) hx hb dL_holds_303 (by decide) ?_
            have hlz := hl
            exact K55 _ _ (Eq.symm ((if_pos c55).trans ((if_pos c56).trans rfl))) (lv_sub hlz [0, 1, 4, 5] rfl)
          · have ho := ho c56
            refine lv_aload_n hx hb dL_holds_287 rfl (lv_at hl 4 rfl) ?_
            refine lv_iload hx hb dL_holds_288 (lv_at hl 1 rfl) ?_
            have hq57 := ho.1
            have ho := ho.2
            have hq58 := ho.1
            have ho := ho.2
            refine kZ_X10_stepOf X hS hH hk_o1 hq57 hq58 t_ml_VernierDrawersLaw_125 hl.1 (Nat.le_of_ble_eq_true rfl) ⟨Nat.le_of_ble_eq_true rfl, Nat.le_of_ble_eq_true rfl⟩ ⟨(show (cc46 + 0) ≤ 1404 by omega), (show (cc46 + 0) ≤ 1404 by omega)⟩ dL_holds_290 ?_
            refine lv_aload_n hx hb dL_holds_293 rfl (lv_at hl 4 rfl) ?_
            refine lv_iload_n hx hb dL_holds_294 rfl (lv_at hl 2 rfl) ?_
            have hq59 := ho.1
            have ho := ho.2
            have hq60 := ho
            refine kZ_X10_stepOf X hS hH hk_o1 hq59 hq60 t_ml_VernierDrawersLaw_125 hl.1 (Nat.le_of_ble_eq_true rfl) ⟨Nat.le_of_ble_eq_true rfl, Nat.le_of_ble_eq_true rfl⟩ ⟨(show (cc46 + 0) ≤ 1404 by omega), (show (cc46 + 0) ≤ 1404 by omega)⟩ dL_holds_295 ?_
            refine lv_icmp_ge (tgt := 306) hx hb dL_holds_298 (by decide) (fun c61 => ?_) (fun c61 => ?_)
            · skip
              refine lv_iload_n hx hb dL_holds_306 rfl (lv_at hl 2 rfl) ?_
              have hlz := hl
              exact K55 _ _ (Eq.symm ((if_pos c55).trans ((if_neg c56).trans ((if_pos c61).trans rfl)))) (lv_sub hlz [0, 1, 4, 5] rfl)
            · skip
              refine lv_iload hx hb dL_holds_301 (lv_at hl 1 rfl) ?_
              refine lv_goto (tgt := 307) hx hb dL_holds_303 (by decide) ?_
              have hlz := hl
              exact K55 _ _ (Eq.symm ((if_pos c55).trans ((if_neg c56).trans ((if_neg c61).trans rfl)))) (lv_sub hlz [0, 1, 4, 5] rfl)
  have hol := ho.1
  refine L47 (7) 0 (-100104) _ _ _ 108 _ hol (by omega) hH hS (lv_sub hl [0, 1, 2, 3, 4] rfl) (fun y46 da H locs ls ey46 hH hS hl => ?_)
  have ho := ho.2 y46 ey46
  refine lv_iconst (v := 0) hx hb dL_holds_464 (by decide) ?_
  refine lv_istore (lv' := [(4, .int 0), (3, .int y46), (2, .int 1), (0, .ref (ga G o1)), (1, .int p1)]) hx hb dL_holds_465 hl (by decide) rfl (fun ls hl => ?_)
  have L80 : ∀ (n : Nat) (i79 : Int32) (da : Nat → Nat) (H : Heap) (locs : List Loc) (cc80 : Nat) (ls : Array Slot), olL_holds_467 v o1 n i79 → cc80 + 132 * n + 0 ≤ 1362 → Hp G da v x H → va_S (gA G) s.heap H locs → lv_has ls 11 [(4, .int i79), (3, .int y46), (2, .int 1), (0, .ref (ga G o1)), (1, .int p1)] → (∀ (da : Nat → Nat) (H : Heap) (locs : List Loc) (ls : Array Slot), Hp G da v x H → va_S (gA G) s.heap H locs → lv_has ls 11 [(3, .int y46), (2, .int 1), (0, .ref (ga G o1)), (1, .int p1)] → W p l e rmL_holds s m args below meth c H locs 1362 1362 Q (F0 m 524 ls [])) → W p l e rmL_holds s m args below meth c H locs (cc80 + 0) (cc80 + 0) Q (F0 m 467 ls []) := by
    clear ho
    intro n
    induction n with
    | zero =>
      intro i79 da H locs cc80 ls ho
      exact ho.elim
    | succ n ih =>
      intro i79 da H locs cc80 ls ho hcc82 hH hS hl K81
      have hcc82x : cc80 + 132 ≤ 1362 := by omega
      refine lv_iload hx hb dL_holds_467 (lv_at hl 0 rfl) ?_
      refine lv_aload_n hx hb dL_holds_469 rfl (lv_at hl 3 rfl) ?_
      refine k_X10_types X hS hH hk_o1 hq16 t_ml_VernierDrawersLaw_236 hl.1 (Nat.le_of_ble_eq_true rfl) ⟨Nat.le_of_ble_eq_true rfl, Nat.le_of_ble_eq_true rfl⟩ ⟨(show (cc80 + 0) ≤ 1404 by omega), (show (cc80 + 0) ≤ 1404 by omega)⟩ dL_holds_470 ?_
      refine lv_icmp_ge (tgt := 524) hx hb dL_holds_473 (by decide) (fun c83 => ?_) (fun c83 => ?_)
      · skip
        have hoz := ho
        have hlz := hl
        have hHz := hH
        have hSz := hS
        refine W.widen (k := 1362) (n := 1362) (by omega) (by omega) ?_
        exact K81  _ _ _ _   hHz hSz (lv_sub hlz [1, 2, 3, 4] rfl)
      · have ho := ho c83
        refine lv_iload_n hx hb dL_holds_476 rfl (lv_at hl 2 rfl) ?_
        refine lv_if_eq (tgt := 524) hx hb dL_holds_477 (by decide) (fun c84 => absurd c84 (by decide)) (fun c84 => ?_)
        refine lv_aload_n hx hb dL_holds_480 rfl (lv_at hl 3 rfl) ?_
        refine lv_iload hx hb dL_holds_481 (lv_at hl 0 rfl) ?_
        have hq85 := ho.1
        have ho := ho.2
        refine k_L_chart hst X hS hN hH hk_o1 hq85 t_ml_VernierDrawersLaw_313 hl.1 (Nat.le_of_ble_eq_true rfl) ⟨Nat.le_of_ble_eq_true rfl, Nat.le_of_ble_eq_true rfl⟩ ⟨(show (cc80 + 0) + 132 ≤ 1404 by omega), (show (cc80 + 0) + 132 ≤ 1404 by omega)⟩ dL_holds_483 (fun da H locs hH hS => ?_)
        refine W.widen (k := (cc80 + 132)) (n := (cc80 + 132)) (Nat.le_of_eq (Nat.add_assoc _ _ _)) (Nat.le_of_eq (Nat.add_assoc _ _ _)) ?_
        refine lv_if_eq (tgt := 516) hx hb dL_holds_486 (by decide) (fun c86 => absurd c86 (by decide)) (fun c86 => ?_)
        refine lv_aload_n hx hb dL_holds_489 rfl (lv_at hl 3 rfl) ?_
        refine lv_iload hx hb dL_holds_490 (lv_at hl 0 rfl) ?_
        have hq87 := ho.1
        have ho := ho.2
        have hq88 := ho.1
        have ho := ho.2
        refine kZ_X10_lengthOf X hS hH hk_o1 hq87 hq88 t_ml_VernierDrawersLaw_173 hl.1 (Nat.le_of_ble_eq_true rfl) ⟨Nat.le_of_ble_eq_true rfl, Nat.le_of_ble_eq_true rfl⟩ ⟨(show (cc80 + 132) ≤ 1404 by omega), (show (cc80 + 132) ≤ 1404 by omega)⟩ dL_holds_492 ?_
        refine lv_bipush (v := 100) hx hb dL_holds_495 (by decide) ?_
        refine lv_icmp_lt (tgt := 516) hx hb dL_holds_497 (by decide) (fun c89 => ?_) (fun c89 => ?_)
        · exact absurd c89 ho.1
        have ho := ho.2
        refine lv_aload_n hx hb dL_holds_500 rfl (lv_at hl 3 rfl) ?_
        refine lv_iload hx hb dL_holds_501 (lv_at hl 0 rfl) ?_
        refine kZ_X10_lengthOf X hS hH hk_o1 hq87 hq88 t_ml_VernierDrawersLaw_173 hl.1 (Nat.le_of_ble_eq_true rfl) ⟨Nat.le_of_ble_eq_true rfl, Nat.le_of_ble_eq_true rfl⟩ ⟨(show (cc80 + 132) ≤ 1404 by omega), (show (cc80 + 132) ≤ 1404 by omega)⟩ dL_holds_503 ?_
        refine lv_sipush (v := 14000) hx hb dL_holds_506 (by decide) ?_
        refine lv_icmp_gt (tgt := 516) hx hb dL_holds_509 (by decide) (fun c90 => ?_) (fun c90 => ?_)
        · exact absurd c90 ho.1
        have ho := ho.2
        refine lv_iconst (v := 1) hx hb dL_holds_512 (by decide) ?_
        refine lv_goto (tgt := 517) hx hb dL_holds_513 (by decide) ?_
        refine lv_istore_n (lv' := [(2, .int 1), (4, .int i79), (3, .int y46), (0, .ref (ga G o1)), (1, .int p1)]) hx hb dL_holds_517 rfl hl (by decide) rfl (fun ls hl => ?_)
        refine lv_iinc (v := i79 + 1) (lv' := [(4, .int (i79 + 1)), (2, .int 1), (3, .int y46), (0, .ref (ga G o1)), (1, .int p1)]) hx hb dL_holds_518 hl (k := 1) rfl rfl (by decide) rfl (fun ls hl => ?_)
        refine lv_goto (tgt := 467) hx hb dL_holds_521 (by decide) ?_
        have hoz := ho
        have hlz := hl
        have hHz := hH
        have hSz := hS
        refine W.widen (k := cc80 + 132) (n := cc80 + 132) (by omega) (by omega) ?_
        exact ih _ _ _ _ _ _ hoz (by omega) hHz hSz (lv_sub hlz [0, 2, 1, 3, 4] rfl) (fun  da H locs ls  hH hS hl => K81  da H locs ls  hH hS hl)
  have hol := ho.1
  refine L80 (6) 0 _ _ _ 570 _ hol (by omega) hH hS (lv_sub hl [0, 1, 2, 3, 4] rfl) (fun  da H locs ls  hH hS hl => ?_)
  have ho := ho.2
  refine lv_aload_n hx hb dL_holds_524 rfl (lv_at hl 2 rfl) ?_
  have hq91 := ho.1
  have ho := ho.2
  refine k_X10_whyNotPass X hS hH hk_o1 hq91 t_ml_VernierDrawersLaw_317 hl.1 (Nat.le_of_ble_eq_true rfl) ⟨Nat.le_of_ble_eq_true rfl, Nat.le_of_ble_eq_true rfl⟩ ⟨(Nat.le_of_ble_eq_true rfl), (Nat.le_of_ble_eq_true rfl)⟩ dL_holds_525 ?_
  refine lv_istore (lv' := [(4, .int (fX10_whyNotPass o1 v)), (3, .int y46), (2, .int 1), (0, .ref (ga G o1)), (1, .int p1)]) hx hb dL_holds_528 hl (by decide) rfl (fun ls hl => ?_)
  refine lv_iload_n hx hb dL_holds_530 rfl (lv_at hl 4 rfl) ?_
  refine lv_iconst (v := 3) hx hb dL_holds_531 (by decide) ?_
  refine lv_ishr hx hb dL_holds_532 ?_
  refine lv_bipush (v := 9) hx hb dL_holds_533 (by decide) ?_
  have hq92 := ho.1
  have ho := ho.2
  refine k_L_low X hS hq92 t_ml_VernierDrawersLaw_250 hl.1 (Nat.le_of_ble_eq_true rfl) ⟨Nat.le_of_ble_eq_true rfl, Nat.le_of_ble_eq_true rfl⟩ ⟨(Nat.le_of_ble_eq_true rfl), (Nat.le_of_ble_eq_true rfl)⟩ dL_holds_535 ?_
  refine lv_istore (lv' := [(5, .int (fL_low (p1 >>> ((3 : Int32) &&& 31)) 9)), (4, .int (fX10_whyNotPass o1 v)), (3, .int y46), (2, .int 1), (0, .ref (ga G o1)), (1, .int p1)]) hx hb dL_holds_538 hl (by decide) rfl (fun ls hl => ?_)
  refine lv_iconst (v := 0) hx hb dL_holds_540 (by decide) ?_
  refine lv_istore (lv' := [(6, .int 0), (5, .int (fL_low (p1 >>> ((3 : Int32) &&& 31)) 9)), (4, .int (fX10_whyNotPass o1 v)), (3, .int y46), (2, .int 1), (0, .ref (ga G o1)), (1, .int p1)]) hx hb dL_holds_541 hl (by decide) rfl (fun ls hl => ?_)
  have L96 : ∀ (n : Nat) (i93 : Int32) (i94 : Int32) (ls : Array Slot), olL_holds_543 v o1 p1 n i93 i94 → lv_has ls 11 [(6, .int i93), (5, .int i94), (4, .int (fX10_whyNotPass o1 v)), (3, .int y46), (2, .int 1), (0, .ref (ga G o1)), (1, .int p1)] → (∀ (y95 : Int32) (ls : Array Slot), y95 = (lL_holds_543 v o1 p1 n i93 i94 : Int32) → lv_has ls 11 [(5, .int y95), (4, .int (fX10_whyNotPass o1 v)), (3, .int y46), (2, .int 1), (0, .ref (ga G o1)), (1, .int p1)] → W p l e rmL_holds s m args below meth c H locs 1362 1362 Q (F0 m 586 ls [])) → W p l e rmL_holds s m args below meth c H locs 1362 1362 Q (F0 m 543 ls []) := by
    clear ho
    intro n
    induction n with
    | zero =>
      intro i93 i94 ls ho
      exact ho.elim
    | succ n ih =>
      intro i93 i94 ls ho hl K97
      refine lv_iload hx hb dL_holds_543 (lv_at hl 0 rfl) ?_
      refine lv_aload_n hx hb dL_holds_545 rfl (lv_at hl 5 rfl) ?_
      refine k_X10_blocks X hS hH hk_o1 hq14 t_ml_VernierDrawersLaw_233 hl.1 (Nat.le_of_ble_eq_true rfl) ⟨Nat.le_of_ble_eq_true rfl, Nat.le_of_ble_eq_true rfl⟩ ⟨(Nat.le_of_ble_eq_true rfl), (Nat.le_of_ble_eq_true rfl)⟩ dL_holds_546 ?_
      refine lv_icmp_ge (tgt := 586) hx hb dL_holds_549 (by decide) (fun c99 => ?_) (fun c99 => ?_)
      · skip
        have hoz := ho
        have hlz := hl
        exact K97 _ _ (Eq.symm (((lL_holds_543.eq_2 _ _ _ _ _ _)).trans ((if_pos c99).trans rfl))) (lv_sub hlz [1, 2, 3, 4, 5, 6] rfl)
      · have ho := ho c99
        refine lv_iload hx hb dL_holds_552 (lv_at hl 1 rfl) ?_
        refine lv_iload_n hx hb dL_holds_554 rfl (lv_at hl 6 rfl) ?_
        refine lv_iload hx hb dL_holds_555 (lv_at hl 0 rfl) ?_
        refine lv_iconst (v := 2) hx hb dL_holds_557 (by decide) ?_
        refine lv_iadd hx hb dL_holds_558 ?_
        refine lv_ishr hx hb dL_holds_559 ?_
        refine lv_iconst (v := 3) hx hb dL_holds_560 (by decide) ?_
        have hq100 := ho.1
        have ho := ho.2
        refine k_L_low X hS hq100 t_ml_VernierDrawersLaw_250 hl.1 (Nat.le_of_ble_eq_true rfl) ⟨Nat.le_of_ble_eq_true rfl, Nat.le_of_ble_eq_true rfl⟩ ⟨(Nat.le_of_ble_eq_true rfl), (Nat.le_of_ble_eq_true rfl)⟩ dL_holds_561 ?_
        have K102 : ∀ (y101 : Int32) (ls : Array Slot), y101 = (if ((fL_low (p1 >>> ((i93 + (2 : Int32)) &&& 31)) 3) : Int32) = 0 then ((fX10_blockLength o1 i93 v).2) else 0 : Int32) → lv_has ls 11 [(6, .int i93), (4, .int (fX10_whyNotPass o1 v)), (3, .int y46), (2, .int 1), (0, .ref (ga G o1)), (1, .int p1)] → W p l e rmL_holds s m args below meth c H locs 1362 1362 Q (F0 m 577 ls [.int y101, .int i94]) := by
          intro y101 ls ey101 hl
          have ho := ho.2 y101 ey101
          refine lv_iadd hx hb dL_holds_577 ?_
          refine lv_istore (lv' := [(5, .int (i94 + y101)), (6, .int i93), (4, .int (fX10_whyNotPass o1 v)), (3, .int y46), (2, .int 1), (0, .ref (ga G o1)), (1, .int p1)]) hx hb dL_holds_578 hl (by decide) rfl (fun ls hl => ?_)
          refine lv_iinc (v := i93 + 1) (lv' := [(6, .int (i93 + 1)), (5, .int (i94 + y101)), (4, .int (fX10_whyNotPass o1 v)), (3, .int y46), (2, .int 1), (0, .ref (ga G o1)), (1, .int p1)]) hx hb dL_holds_580 hl (k := 1) rfl rfl (by decide) rfl (fun ls hl => ?_)
          refine lv_goto (tgt := 543) hx hb dL_holds_583 (by decide) ?_
          have hoz := ho
          have hlz := hl
          replace ey101 := Eq.symm ey101
          subst ey101
          exact ih _ _ _ hoz (lv_sub hlz [0, 1, 2, 3, 4, 5, 6] rfl) (fun y95 ls q0 hl => K97 y95 ls (q0.trans (congrArg (fun z : Int32 => z) (Eq.symm (((lL_holds_543.eq_2 _ _ _ _ _ _)).trans ((if_neg c99).trans rfl))))) hl)
        have ho := ho.1
        refine lv_if_ne (tgt := 576) hx hb dL_holds_564 (by decide) (fun c102 => ?_) (fun c102 => ?_)
        · skip
          refine lv_iconst (v := 0) hx hb dL_holds_576 (by decide) ?_
          have hlz := hl
          exact K102 _ _ (Eq.symm ((if_neg c102).trans rfl)) (lv_sub hlz [0, 2, 3, 4, 5, 6] rfl)
        · have ho := ho c102
          refine lv_aload_n hx hb dL_holds_567 rfl (lv_at hl 5 rfl) ?_
          refine lv_iload hx hb dL_holds_568 (lv_at hl 0 rfl) ?_
          have hq103 := ho.1
          have ho := ho.2
          have hq104 := ho
          refine kZ_X10_blockLength X hS hH hk_o1 hq103 hq104 t_ml_VernierDrawersLaw_155 hl.1 (Nat.le_of_ble_eq_true rfl) ⟨Nat.le_of_ble_eq_true rfl, Nat.le_of_ble_eq_true rfl⟩ ⟨(Nat.le_of_ble_eq_true rfl), (Nat.le_of_ble_eq_true rfl)⟩ dL_holds_570 ?_
          refine lv_goto (tgt := 577) hx hb dL_holds_573 (by decide) ?_
          have hlz := hl
          exact K102 _ _ (Eq.symm ((if_pos c102).trans rfl)) (lv_sub hlz [0, 2, 3, 4, 5, 6] rfl)
  have hol := ho.1
  refine L96 (11) 0 (fL_low (p1 >>> ((3 : Int32) &&& 31)) 9) _ hol (lv_sub hl [0, 1, 2, 3, 4, 5, 6] rfl) (fun y95 ls ey95 hl => ?_)
  have ho := ho.2 y95 ey95
  refine lv_iload_n hx hb dL_holds_586 rfl (lv_at hl 3 rfl) ?_
  refine lv_if_eq (tgt := 693) hx hb dL_holds_587 (by decide) (fun c105 => absurd c105 (by decide)) (fun c105 => ?_)
  refine lv_aload_n hx hb dL_holds_590 rfl (lv_at hl 4 rfl) ?_
  have hq106 := ho.1
  have ho := ho.2
  refine k_L_bestTool hst X hS hN hH hk_o1 hq106 t_ml_VernierDrawersLaw_320 hl.1 (Nat.le_of_ble_eq_true rfl) ⟨Nat.le_of_ble_eq_true rfl, Nat.le_of_ble_eq_true rfl⟩ ⟨(Nat.le_of_ble_eq_true rfl), (Nat.le_of_ble_eq_true rfl)⟩ dL_holds_591 (fun da H locs hH hS => ?_)
  refine W.widen (k := 1368) (n := 1368) (Nat.le_refl _) (Nat.le_refl _) ?_
  refine lv_iload_n hx hb dL_holds_594 rfl (lv_at hl 2 rfl) ?_
  refine lv_icmp_ne (tgt := 693) hx hb dL_holds_595 (by decide) (fun c107 => ?_) (fun c107 => ?_)
  · exact absurd ho.1 c107
  have ho := ho.2
  refine lv_iload hx hb dL_holds_598 (lv_at hl 1 rfl) ?_
  refine lv_iconst (v := 1) hx hb dL_holds_600 (by decide) ?_
  have K109 : ∀ (y108 : Int32) (ls : Array Slot), y108 = (if ((fX10_whyNotPass o1 v) : Int32) = 1 then 1 else 0 : Int32) → lv_has ls 11 [(5, .int y95), (4, .int (fX10_whyNotPass o1 v)), (0, .ref (ga G o1)), (1, .int p1)] → W p l e rmL_holds s m args below meth c H locs 1368 1368 Q (F0 m 609 ls [.int y108]) := by
    intro y108 ls ey108 hl
    have ho := ho y108 ey108
    refine lv_aload_n hx hb dL_holds_609 rfl (lv_at hl 2 rfl) ?_
    refine k_X10_onBench X hS hH hk_o1 hq4 t_ml_VernierDrawersLaw_247 hl.1 (Nat.le_of_ble_eq_true rfl) ⟨Nat.le_of_ble_eq_true rfl, Nat.le_of_ble_eq_true rfl⟩ ⟨(Nat.le_of_ble_eq_true rfl), (Nat.le_of_ble_eq_true rfl)⟩ dL_holds_610 ?_
    have K111 : ∀ (y110 : Int32) (ls : Array Slot), y110 = (if ((fX10_onBench o1 v) : Int32) = 0 then 1 else 0 : Int32) → lv_has ls 11 [(5, .int y95), (4, .int (fX10_whyNotPass o1 v)), (0, .ref (ga G o1)), (1, .int p1)] → W p l e rmL_holds s m args below meth c H locs 1368 1368 Q (F0 m 621 ls [.int y110, .int y108]) := by
      intro y110 ls ey110 hl
      have ho := ho y110 ey110
      refine lv_icmp_ne (tgt := 693) hx hb dL_holds_621 (by decide) (fun c112 => ?_) (fun c112 => ?_)
      · exact absurd ho.1 c112
      have ho := ho.2
      refine lv_iload hx hb dL_holds_624 (lv_at hl 1 rfl) ?_
      refine lv_iconst (v := 1) hx hb dL_holds_626 (by decide) ?_
      have K113 : ∀  (ls : Array Slot), lv_has ls 11 [(5, .int y95), (0, .ref (ga G o1)), (1, .int p1)] → W p l e rmL_holds s m args below meth c H locs 1368 1368 Q (F0 m 662 ls []) := by
        intro  ls  hl
        have ho := ho.2
        refine lv_aload_n hx hb dL_holds_662 rfl (lv_at hl 1 rfl) ?_
        refine lv_iload hx hb dL_holds_663 (lv_at hl 0 rfl) ?_
        refine lv_iconst (v := 1) hx hb dL_holds_665 (by decide) ?_
        have K115 : ∀ (y114 : Int32) (ls : Array Slot), y114 = (if (y95 : Int32) < 1 then 3 else (if (y95 : Int32) ≤ 15000 then y95 else 3) : Int32) → lv_has ls 11 [(0, .ref (ga G o1)), (1, .int p1)] → W p l e rmL_holds s m args below meth c H locs 1368 1368 Q (F0 m 683 ls [.int y114, .ref (ga G o1)]) := by
          intro y114 ls ey114 hl
          have ho := ho y114 ey114
          have hq116 := ho.1
          have ho := ho.2
          refine k_L_stack hst X hS hN hH hk_o1 hq116 t_ml_VernierDrawersLaw_323 hl.1 (Nat.le_of_ble_eq_true rfl) ⟨Nat.le_of_ble_eq_true rfl, Nat.le_of_ble_eq_true rfl⟩ ⟨(Nat.le_of_ble_eq_true rfl), (Nat.le_of_ble_eq_true rfl)⟩ dL_holds_683 (fun da H locs hH hS => ?_)
          refine W.widen (k := 1404) (n := 1404) (Nat.le_refl _) (Nat.le_refl _) ?_
          refine lv_if_eq (tgt := 693) hx hb dL_holds_686 (by decide) (fun c117 => absurd c117 (by decide)) (fun c117 => ?_)
          refine lv_iconst (v := 1) hx hb dL_holds_689 (by decide) ?_
          refine lv_goto (tgt := 694) hx hb dL_holds_690 (by decide) ?_
          refine lv_istore_n (lv' := [(2, .int 1), (0, .ref (ga G o1)), (1, .int p1)]) hx hb dL_holds_694 rfl hl (by decide) rfl (fun ls hl => ?_)
          refine lv_iload_n hx hb dL_holds_695 rfl (lv_at hl 2 rfl) ?_
          refine lv_iconst (v := 3) hx hb dL_holds_696 (by decide) ?_
          have hq118 := ho.1
          have ho := ho.2
          refine k_L_low X hS hq118 t_ml_VernierDrawersLaw_250 hl.1 (Nat.le_of_ble_eq_true rfl) ⟨Nat.le_of_ble_eq_true rfl, Nat.le_of_ble_eq_true rfl⟩ ⟨(Nat.le_of_ble_eq_true rfl), (Nat.le_of_ble_eq_true rfl)⟩ dL_holds_697 ?_
          refine lv_istore (lv' := [(6, .int (fL_low p1 3)), (2, .int 1), (0, .ref (ga G o1)), (1, .int p1)]) hx hb dL_holds_700 hl (by decide) rfl (fun ls hl => ?_)
          refine lv_iload_n hx hb dL_holds_702 rfl (lv_at hl 3 rfl) ?_
          refine lv_iconst (v := 5) hx hb dL_holds_703 (by decide) ?_
          refine lv_ishr hx hb dL_holds_704 ?_
          refine lv_sipush (v := 15001) hx hb dL_holds_705 (by decide) ?_
          have hq119 := ho.1
          have ho := ho.2
          refine k_L_low X hS hq119 t_ml_VernierDrawersLaw_250 hl.1 (Nat.le_of_ble_eq_true rfl) ⟨Nat.le_of_ble_eq_true rfl, Nat.le_of_ble_eq_true rfl⟩ ⟨(Nat.le_of_ble_eq_true rfl), (Nat.le_of_ble_eq_true rfl)⟩ dL_holds_708 ?_
          refine lv_istore (lv' := [(7, .int (fL_low (p1 >>> ((5 : Int32) &&& 31)) 15001)), (6, .int (fL_low p1 3)), (2, .int 1), (0, .ref (ga G o1)), (1, .int p1)]) hx hb dL_holds_711 hl (by decide) rfl (fun ls hl => ?_)
          refine lv_iload hx hb dL_holds_713 (lv_at hl 1 rfl) ?_
          have K121 : ∀ (y120 : Int32) (ls : Array Slot), y120 = (if ((fL_low p1 3) : Int32) = 0 then 12 else (if ((fL_low p1 3) : Int32) = 1 then 19 else 23) : Int32) → lv_has ls 11 [(7, .int (fL_low (p1 >>> ((5 : Int32) &&& 31)) 15001)), (6, .int (fL_low p1 3)), (2, .int 1), (0, .ref (ga G o1))] → W p l e rmL_holds s m args below meth c H locs 1404 1404 Q (F0 m 736 ls [.int y120]) := by
            intro y120 ls ey120 hl
            have ho := ho y120 ey120
            refine lv_istore (lv' := [(8, .int y120), (7, .int (fL_low (p1 >>> ((5 : Int32) &&& 31)) 15001)), (6, .int (fL_low p1 3)), (2, .int 1), (0, .ref (ga G o1))]) hx hb dL_holds_736 hl (by decide) rfl (fun ls hl => ?_)
            refine lv_aload_n hx hb dL_holds_738 rfl (lv_at hl 4 rfl) ?_
            refine lv_iload hx hb dL_holds_739 (lv_at hl 2 rfl) ?_
            refine lv_iload hx hb dL_holds_741 (lv_at hl 1 rfl) ?_
            have hq122 := ho.1
            have ho := ho.2
            have hq123 := ho.1
            have ho := ho.2
            refine kZ_X10_stretchOf X hS hH hk_o1 hq122 hq123 t_ml_VernierDrawersLaw_65 hl.1 (Nat.le_of_ble_eq_true rfl) ⟨Nat.le_of_ble_eq_true rfl, Nat.le_of_ble_eq_true rfl⟩ ⟨(Nat.le_of_ble_eq_true rfl), (Nat.le_of_ble_eq_true rfl)⟩ dL_holds_743 ?_
            have K125 : ∀ (y124 : Int32) (ls : Array Slot), y124 = (if (0 : Int32) ≤ ((fX10_stretchOf o1 (fL_low p1 3) (fL_low (p1 >>> ((5 : Int32) &&& 31)) 15001) v).2) then ((fX10_stretchOf o1 (fL_low p1 3) (fL_low (p1 >>> ((5 : Int32) &&& 31)) 15001) v).2) else (-((fX10_stretchOf o1 (fL_low p1 3) (fL_low (p1 >>> ((5 : Int32) &&& 31)) 15001) v).2)) : Int32) → lv_has ls 11 [(8, .int y120), (7, .int (fL_low (p1 >>> ((5 : Int32) &&& 31)) 15001)), (6, .int (fL_low p1 3)), (2, .int 1), (0, .ref (ga G o1))] → W p l e rmL_holds s m args below meth c H locs 1404 1404 Q (F0 m 769 ls [.int y124]) := by
              intro y124 ls ey124 hl
              have ho := ho y124 ey124
              refine lv_istore (lv' := [(9, .int y124), (8, .int y120), (7, .int (fL_low (p1 >>> ((5 : Int32) &&& 31)) 15001)), (6, .int (fL_low p1 3)), (2, .int 1), (0, .ref (ga G o1))]) hx hb dL_holds_769 hl (by decide) rfl (fun ls hl => ?_)
              refine lv_aload_n hx hb dL_holds_771 rfl (lv_at hl 5 rfl) ?_
              have hq126 := ho.1
              have ho := ho.2
              refine k_X10_warmth X hS hH hk_o1 hq126 t_ml_VernierDrawersLaw_209 hl.1 (Nat.le_of_ble_eq_true rfl) ⟨Nat.le_of_ble_eq_true rfl, Nat.le_of_ble_eq_true rfl⟩ ⟨(Nat.le_of_ble_eq_true rfl), (Nat.le_of_ble_eq_true rfl)⟩ dL_holds_772 ?_
              refine lv_bipush (v := 20) hx hb dL_holds_775 (by decide) ?_
              have K128 : ∀ (y127 : Int32) (ls : Array Slot), y127 = (if (20 : Int32) ≤ (fX10_warmth o1 v) then ((fX10_warmth o1 v) - (20 : Int32)) else ((20 : Int32) - (fX10_warmth o1 v)) : Int32) → lv_has ls 11 [(9, .int y124), (8, .int y120), (7, .int (fL_low (p1 >>> ((5 : Int32) &&& 31)) 15001)), (6, .int (fL_low p1 3)), (2, .int 1), (0, .ref (ga G o1))] → W p l e rmL_holds s m args below meth c H locs 1404 1404 Q (F0 m 797 ls [.int y127]) := by
                intro y127 ls ey127 hl
                have ho := ho y127 ey127
                refine lv_istore (lv' := [(10, .int y127), (9, .int y124), (8, .int y120), (7, .int (fL_low (p1 >>> ((5 : Int32) &&& 31)) 15001)), (6, .int (fL_low p1 3)), (2, .int 1), (0, .ref (ga G o1))]) hx hb dL_holds_797 hl (by decide) rfl (fun ls hl => ?_)
                refine lv_iload_n hx hb dL_holds_799 rfl (lv_at hl 5 rfl) ?_
                refine lv_if_eq (tgt := 858) hx hb dL_holds_800 (by decide) (fun c129 => absurd c129 (by decide)) (fun c129 => ?_)
                refine lv_iload hx hb dL_holds_803 (lv_at hl 1 rfl) ?_
                refine lv_iload hx hb dL_holds_805 (lv_at hl 3 rfl) ?_
                refine lv_iload hx hb dL_holds_807 (lv_at hl 2 rfl) ?_
                refine lv_imul hx hb dL_holds_809 ?_
                refine lv_iload hx hb dL_holds_810 (lv_at hl 0 rfl) ?_
                refine lv_imul hx hb dL_holds_812 ?_
                refine lv_ldcw (v := 1000000) hx hb hown (hts _ t_con_VernierDrawersLaw_326) dL_holds_813 ?_
                refine lv_idiv hx hb dL_holds_816 (by decide) ?_
                refine lv_icmp_ne (tgt := 858) hx hb dL_holds_817 (by decide) (fun c130 => ?_) (fun c130 => ?_)
                · exact absurd ho.1 c130
                have ho := ho.2
                refine lv_aload_n hx hb dL_holds_820 rfl (lv_at hl 6 rfl) ?_
                refine k_X10_warmth X hS hH hk_o1 hq126 t_ml_VernierDrawersLaw_209 hl.1 (Nat.le_of_ble_eq_true rfl) ⟨Nat.le_of_ble_eq_true rfl, Nat.le_of_ble_eq_true rfl⟩ ⟨(Nat.le_of_ble_eq_true rfl), (Nat.le_of_ble_eq_true rfl)⟩ dL_holds_821 ?_
                refine lv_bipush (v := 20) hx hb dL_holds_824 (by decide) ?_
                refine lv_icmp_lt (tgt := 843) hx hb dL_holds_826 (by decide) (fun c131 => ?_) (fun c131 => ?_)
                · have ho := ho.1 c131
                  refine lv_aload_n hx hb dL_holds_843 rfl (lv_at hl 6 rfl) ?_
                  refine lv_iload hx hb dL_holds_844 (lv_at hl 4 rfl) ?_
                  refine lv_iload hx hb dL_holds_846 (lv_at hl 3 rfl) ?_
                  refine kZ_X10_stretchOf X hS hH hk_o1 hq122 hq123 t_ml_VernierDrawersLaw_65 hl.1 (Nat.le_of_ble_eq_true rfl) ⟨Nat.le_of_ble_eq_true rfl, Nat.le_of_ble_eq_true rfl⟩ ⟨(Nat.le_of_ble_eq_true rfl), (Nat.le_of_ble_eq_true rfl)⟩ dL_holds_848 ?_
                  refine lv_if_gt (tgt := 858) hx hb dL_holds_851 (by decide) (fun c132 => ?_) (fun c132 => ?_)
                  · exact absurd c132 ho
                  refine lv_iconst (v := 1) hx hb dL_holds_854 (by decide) ?_
                  refine lv_goto (tgt := 859) hx hb dL_holds_855 (by decide) ?_
                  exact E _ _ _ _ _ _ _ _ _ dL_holds_859 rfl rfl rfl hH hS (Nat.le_of_ble_eq_true rfl) (Nat.le_of_ble_eq_true rfl)
                · have ho := ho.2 c131
                  refine lv_aload_n hx hb dL_holds_829 rfl (lv_at hl 6 rfl) ?_
                  refine lv_iload hx hb dL_holds_830 (lv_at hl 4 rfl) ?_
                  refine lv_iload hx hb dL_holds_832 (lv_at hl 3 rfl) ?_
                  refine kZ_X10_stretchOf X hS hH hk_o1 hq122 hq123 t_ml_VernierDrawersLaw_65 hl.1 (Nat.le_of_ble_eq_true rfl) ⟨Nat.le_of_ble_eq_true rfl, Nat.le_of_ble_eq_true rfl⟩ ⟨(Nat.le_of_ble_eq_true rfl), (Nat.le_of_ble_eq_true rfl)⟩ dL_holds_834 ?_
                  refine lv_if_lt (tgt := 858) hx hb dL_holds_837 (by decide) (fun c133 => ?_) (fun c133 => ?_)
                  · exact absurd c133 ho
                  refine lv_goto (tgt := 854) hx hb dL_holds_840 (by decide) ?_
                  refine lv_iconst (v := 1) hx hb dL_holds_854 (by decide) ?_
                  refine lv_goto (tgt := 859) hx hb dL_holds_855 (by decide) ?_
                  exact E _ _ _ _ _ _ _ _ _ dL_holds_859 rfl rfl rfl hH hS (Nat.le_of_ble_eq_true rfl) (Nat.le_of_ble_eq_true rfl)
              refine lv_icmp_ge (tgt := 790) hx hb dL_holds_777 (by decide) (fun c128 => ?_) (fun c128 => ?_)
              · skip
                refine lv_aload_n hx hb dL_holds_790 rfl (lv_at hl 5 rfl) ?_
                refine k_X10_warmth X hS hH hk_o1 hq126 t_ml_VernierDrawersLaw_209 hl.1 (Nat.le_of_ble_eq_true rfl) ⟨Nat.le_of_ble_eq_true rfl, Nat.le_of_ble_eq_true rfl⟩ ⟨(Nat.le_of_ble_eq_true rfl), (Nat.le_of_ble_eq_true rfl)⟩ dL_holds_791 ?_
                refine lv_bipush (v := 20) hx hb dL_holds_794 (by decide) ?_
                refine lv_isub hx hb dL_holds_796 ?_
                have hlz := hl
                exact K128 _ _ (Eq.symm ((if_pos c128).trans rfl)) (lv_sub hlz [0, 1, 2, 3, 4, 5] rfl)
              · skip
                refine lv_bipush (v := 20) hx hb dL_holds_780 (by decide) ?_
                refine lv_aload_n hx hb dL_holds_782 rfl (lv_at hl 5 rfl) ?_
                refine k_X10_warmth X hS hH hk_o1 hq126 t_ml_VernierDrawersLaw_209 hl.1 (Nat.le_of_ble_eq_true rfl) ⟨Nat.le_of_ble_eq_true rfl, Nat.le_of_ble_eq_true rfl⟩ ⟨(Nat.le_of_ble_eq_true rfl), (Nat.le_of_ble_eq_true rfl)⟩ dL_holds_783 ?_
                refine lv_isub hx hb dL_holds_786 ?_
                refine lv_goto (tgt := 797) hx hb dL_holds_787 (by decide) ?_
                have hlz := hl
                exact K128 _ _ (Eq.symm ((if_neg c128).trans rfl)) (lv_sub hlz [0, 1, 2, 3, 4, 5] rfl)
            refine lv_if_ge (tgt := 761) hx hb dL_holds_746 (by decide) (fun c125 => ?_) (fun c125 => ?_)
            · skip
              refine lv_aload_n hx hb dL_holds_761 rfl (lv_at hl 4 rfl) ?_
              refine lv_iload hx hb dL_holds_762 (lv_at hl 2 rfl) ?_
              refine lv_iload hx hb dL_holds_764 (lv_at hl 1 rfl) ?_
              refine kZ_X10_stretchOf X hS hH hk_o1 hq122 hq123 t_ml_VernierDrawersLaw_65 hl.1 (Nat.le_of_ble_eq_true rfl) ⟨Nat.le_of_ble_eq_true rfl, Nat.le_of_ble_eq_true rfl⟩ ⟨(Nat.le_of_ble_eq_true rfl), (Nat.le_of_ble_eq_true rfl)⟩ dL_holds_766 ?_
              have hlz := hl
              exact K125 _ _ (Eq.symm ((if_pos c125).trans rfl)) (lv_sub hlz [0, 1, 2, 3, 4] rfl)
            · skip
              refine lv_aload_n hx hb dL_holds_749 rfl (lv_at hl 4 rfl) ?_
              refine lv_iload hx hb dL_holds_750 (lv_at hl 2 rfl) ?_
              refine lv_iload hx hb dL_holds_752 (lv_at hl 1 rfl) ?_
              refine kZ_X10_stretchOf X hS hH hk_o1 hq122 hq123 t_ml_VernierDrawersLaw_65 hl.1 (Nat.le_of_ble_eq_true rfl) ⟨Nat.le_of_ble_eq_true rfl, Nat.le_of_ble_eq_true rfl⟩ ⟨(Nat.le_of_ble_eq_true rfl), (Nat.le_of_ble_eq_true rfl)⟩ dL_holds_754 ?_
              refine lv_ineg hx hb dL_holds_757 ?_
              refine lv_goto (tgt := 769) hx hb dL_holds_758 (by decide) ?_
              have hlz := hl
              exact K125 _ _ (Eq.symm ((if_neg c125).trans rfl)) (lv_sub hlz [0, 1, 2, 3, 4] rfl)
          refine lv_if_ne (tgt := 723) hx hb dL_holds_715 (by decide) (fun c121 => ?_) (fun c121 => ?_)
          · skip
            refine lv_iload hx hb dL_holds_723 (lv_at hl 1 rfl) ?_
            refine lv_iconst (v := 1) hx hb dL_holds_725 (by decide) ?_
            refine lv_icmp_ne (tgt := 734) hx hb dL_holds_726 (by decide) (fun c122 => ?_) (fun c122 => ?_)
            · skip
              refine lv_bipush (v := 23) hx hb dL_holds_734 (by decide) ?_
              have hlz := hl
              exact K121 _ _ (Eq.symm ((if_neg c121).trans ((if_neg c122).trans rfl))) (lv_sub hlz [0, 1, 2, 3] rfl)
            · skip
              refine lv_bipush (v := 19) hx hb dL_holds_729 (by decide) ?_
              refine lv_goto (tgt := 736) hx hb dL_holds_731 (by decide) ?_
              have hlz := hl
              exact K121 _ _ (Eq.symm ((if_neg c121).trans ((if_pos c122).trans rfl))) (lv_sub hlz [0, 1, 2, 3] rfl)
          · skip
            refine lv_bipush (v := 12) hx hb dL_holds_718 (by decide) ?_
            refine lv_goto (tgt := 736) hx hb dL_holds_720 (by decide) ?_
            have hlz := hl
            exact K121 _ _ (Eq.symm ((if_pos c121).trans rfl)) (lv_sub hlz [0, 1, 2, 3] rfl)
        refine lv_icmp_lt (tgt := 677) hx hb dL_holds_666 (by decide) (fun c115 => ?_) (fun c115 => ?_)
        · skip
          refine lv_iconst (v := 3) hx hb dL_holds_677 (by decide) ?_
          refine lv_goto (tgt := 683) hx hb dL_holds_678 (by decide) ?_
          have hlz := hl
          exact K115 _ _ (Eq.symm ((if_pos c115).trans rfl)) (lv_sub hlz [1, 2] rfl)
        · skip
          refine lv_iload hx hb dL_holds_669 (lv_at hl 0 rfl) ?_
          refine lv_sipush (v := 15000) hx hb dL_holds_671 (by decide) ?_
          refine lv_icmp_le (tgt := 681) hx hb dL_holds_674 (by decide) (fun c116 => ?_) (fun c116 => ?_)
          · skip
            refine lv_iload hx hb dL_holds_681 (lv_at hl 0 rfl) ?_
            have hlz := hl
            exact K115 _ _ (Eq.symm ((if_neg c115).trans ((if_pos c116).trans rfl))) (lv_sub hlz [1, 2] rfl)
          · skip
            refine lv_iconst (v := 3) hx hb dL_holds_677 (by decide) ?_
            refine lv_goto (tgt := 683) hx hb dL_holds_678 (by decide) ?_
            have hlz := hl
            exact K115 _ _ (Eq.symm ((if_neg c115).trans ((if_neg c116).trans rfl))) (lv_sub hlz [1, 2] rfl)
      have ho := ho.1
      refine lv_icmp_eq (tgt := 662) hx hb dL_holds_627 (by decide) (fun c113 => ?_) (fun c113 => ?_)
      · skip
        have hlz := hl
        exact K113  _  (lv_sub hlz [0, 2, 3] rfl)
      · have ho := ho c113
        refine lv_iload hx hb dL_holds_630 (lv_at hl 1 rfl) ?_
        refine lv_iconst (v := 2) hx hb dL_holds_632 (by decide) ?_
        have K115 : ∀ (y114 : Int32) (ls : Array Slot), y114 = (if ((fX10_whyNotPass o1 v) : Int32) = 2 then 1 else 0 : Int32) → lv_has ls 11 [(5, .int y95), (0, .ref (ga G o1)), (1, .int p1)] → W p l e rmL_holds s m args below meth c H locs 1368 1368 Q (F0 m 641 ls [.int y114]) := by
          intro y114 ls ey114 hl
          have ho := ho y114 ey114
          refine lv_aload_n hx hb dL_holds_641 rfl (lv_at hl 1 rfl) ?_
          refine lv_aload_n hx hb dL_holds_642 rfl (lv_at hl 1 rfl) ?_
          refine lv_iconst (v := 0) hx hb dL_holds_643 (by decide) ?_
          have hq116 := ho.1
          have ho := ho.2
          have hq117 := ho.1
          have ho := ho.2
          refine kZ_X10_typeAt X hS hH hk_o1 hq116 hq117 t_ml_VernierDrawersLaw_68 hl.1 (Nat.le_of_ble_eq_true rfl) ⟨Nat.le_of_ble_eq_true rfl, Nat.le_of_ble_eq_true rfl⟩ ⟨(Nat.le_of_ble_eq_true rfl), (Nat.le_of_ble_eq_true rfl)⟩ dL_holds_644 ?_
          have hq118 := ho.1
          have ho := ho.2
          have hq119 := ho.1
          have ho := ho.2
          refine kZ_X10_mannerOf X hS hH hk_o1 hq118 hq119 t_ml_VernierDrawersLaw_179 hl.1 (Nat.le_of_ble_eq_true rfl) ⟨Nat.le_of_ble_eq_true rfl, Nat.le_of_ble_eq_true rfl⟩ ⟨(Nat.le_of_ble_eq_true rfl), (Nat.le_of_ble_eq_true rfl)⟩ dL_holds_647 ?_
          refine lv_iconst (v := 2) hx hb dL_holds_650 (by decide) ?_
          have K121 : ∀ (y120 : Int32) (ls : Array Slot), y120 = (if (((fX10_mannerOf o1 ((fX10_typeAt o1 0 v).2) v).2) : Int32) = 2 then 0 else 1 : Int32) → lv_has ls 11 [(5, .int y95), (0, .ref (ga G o1)), (1, .int p1)] → W p l e rmL_holds s m args below meth c H locs 1368 1368 Q (F0 m 659 ls [.int y120, .int y114]) := by
            intro y120 ls ey120 hl
            have ho := ho y120 ey120
            refine lv_icmp_ne (tgt := 693) hx hb dL_holds_659 (by decide) (fun c122 => ?_) (fun c122 => ?_)
            · exact absurd ho c122
            have hlz := hl
            replace ey114 := Eq.symm ey114
            replace ey120 := Eq.symm ey120
            subst ey114 ey120
            exact K113  _  (lv_sub hlz [0, 1, 2] rfl)
          refine lv_icmp_eq (tgt := 658) hx hb dL_holds_651 (by decide) (fun c121 => ?_) (fun c121 => ?_)
          · skip
            refine lv_iconst (v := 0) hx hb dL_holds_658 (by decide) ?_
            have hlz := hl
            exact K121 _ _ (Eq.symm ((if_pos c121).trans rfl)) (lv_sub hlz [0, 1, 2] rfl)
          · skip
            refine lv_iconst (v := 1) hx hb dL_holds_654 (by decide) ?_
            refine lv_goto (tgt := 659) hx hb dL_holds_655 (by decide) ?_
            have hlz := hl
            exact K121 _ _ (Eq.symm ((if_neg c121).trans rfl)) (lv_sub hlz [0, 1, 2] rfl)
        refine lv_icmp_ne (tgt := 640) hx hb dL_holds_633 (by decide) (fun c115 => ?_) (fun c115 => ?_)
        · skip
          refine lv_iconst (v := 0) hx hb dL_holds_640 (by decide) ?_
          have hlz := hl
          exact K115 _ _ (Eq.symm ((if_neg c115).trans rfl)) (lv_sub hlz [0, 2, 3] rfl)
        · skip
          refine lv_iconst (v := 1) hx hb dL_holds_636 (by decide) ?_
          refine lv_goto (tgt := 641) hx hb dL_holds_637 (by decide) ?_
          have hlz := hl
          exact K115 _ _ (Eq.symm ((if_pos c115).trans rfl)) (lv_sub hlz [0, 2, 3] rfl)
    refine lv_if_ne (tgt := 620) hx hb dL_holds_613 (by decide) (fun c111 => ?_) (fun c111 => ?_)
    · skip
      refine lv_iconst (v := 0) hx hb dL_holds_620 (by decide) ?_
      have hlz := hl
      exact K111 _ _ (Eq.symm ((if_neg c111).trans rfl)) (lv_sub hlz [0, 1, 2, 3] rfl)
    · skip
      refine lv_iconst (v := 1) hx hb dL_holds_616 (by decide) ?_
      refine lv_goto (tgt := 621) hx hb dL_holds_617 (by decide) ?_
      have hlz := hl
      exact K111 _ _ (Eq.symm ((if_pos c111).trans rfl)) (lv_sub hlz [0, 1, 2, 3] rfl)
  refine lv_icmp_ne (tgt := 608) hx hb dL_holds_601 (by decide) (fun c109 => ?_) (fun c109 => ?_)
  · skip
    refine lv_iconst (v := 0) hx hb dL_holds_608 (by decide) ?_
    have hlz := hl
    exact K109 _ _ (Eq.symm ((if_neg c109).trans rfl)) (lv_sub hlz [0, 1, 4, 5] rfl)
  · skip
    refine lv_iconst (v := 1) hx hb dL_holds_604 (by decide) ?_
    refine lv_goto (tgt := 609) hx hb dL_holds_605 (by decide) ?_
    have hlz := hl
    exact K109 _ _ (Eq.symm ((if_pos c109).trans rfl)) (lv_sub hlz [0, 1, 4, 5] rfl)
theorem k_L_holds {p : Program} {l : Launch} {e : Env} {R : Room} {s : State} {m : MethodId} {args : Array Value} {below : List Frame} {meth : Method} {c : Code} {H : Heap} {locs : List Loc} {cells slots : Nat} {Q : State → Prop} {cc : ByteArray} {pc nL : Nat} {ls : Array Slot} {rest : List Value} {G : gG} {own : String} {da : Nat → Nat} {v : vSt} {x : gX} (hst : l.stackTraces = false) (X : CX G p s m args c cc nL own) (hS : va_S (gA G) s.heap H locs) (hN : NC s) (hH : Hp G da v x H) {o1 : Nat} (hk_o1 : kd o1 = 10) {p1 : Int32} (ho : oL_holds o1 p1 v) {idx : Nat} (hml : Cond.methodLink own idx yL_holds ∈ TT) (hls : ls.size = nL) (hsum : (rest.map fun v => v.category).sum ≤ 8) (hR : rmL_holds.frames + 1 ≤ R.frames ∧ 8 + (11 + 11) + rmL_holds.locals ≤ R.locals) (hcs : cells + 1404 ≤ R.cells ∧ slots + 1404 ≤ R.slots) (hdg : decode cc pc = .ok (.invokestatic idx, 3)) (kk : ∀ (d : Nat → Nat) (H1 : Heap) (locs1 : List Loc), Hp G d v x H1 → va_S (gA G) s.heap H1 locs1 → W p l e R s m args below meth c H1 locs1 (cells + 1404) (slots + 1404) Q (F0 m (pc + 3) ls (.int 1 :: rest))) : W p l e R s m args below meth c H locs cells slots Q (F0 m pc ls (.int p1 :: .ref (ga G o1) :: rest)) := c_mi X.2.2.2.2.2.2 (runS (k := 2) X.1 X.2.1 X.2.2.1 X.2.2.2.1 X.2.2.2.2.1 (mL_holds l hst G da v x o1 hk_o1 p1 ho) pN_bl hml t_st_L_holds t_ini_VernierDrawersLaw t_code_L_holds ⟨by decide, by decide, by decide +kernel⟩ rfl rfl hR hcs (preN X hN hS hH) rfl hls rfl hsum hdg) hS (fun d9 H9 L9 v9 e9 hH9 => kk d9 H9 L9 (by subst e9; exact hH9))
