/-! the law's methods: what is judged -/
def fL_judges (o1 : Nat) (p1 : Int32) (v : vSt) : vSt := let y3 : Int32 := (if ((fL_low (p1 >>> ((9 : Int32) &&& 31)) 14) : Int32) = 0 then 1 else (if ((fX10_tools o1 v) : Int32) = 0 then 1 else 0) : Int32); let y7 : Int32 := (if ((fL_low (p1 >>> ((4 : Int32) &&& 31)) 3) : Int32) ≤ 0 then (fL_low p1 ((fX10_tools o1 v) + y3)) else (if ((fL_bestTool o1 v) : Int32) = (-100104) then (fL_low p1 ((fX10_tools o1 v) + y3)) else ((fX10_bestTool o1 v).2)) : Int32); let y9 : Int32 := (if (y7 : Int32) = (fX10_tools o1 v) then 1 else 0 : Int32); let y11 : Int32 := (if (y9 : Int32) = 0 then ((fX10_whyNotJudge o1 y7 v).2) else 0 : Int32); let y13 : Int32 := (if (y9 : Int32) = 0 then (fL_wouldJudge o1 y7 v) else ((-100104)) : Int32); let y16 : Int32 := (if ((fX10_onBench o1 v) : Int32) = 0 then ((-100104)) else ((fX10_typeAt o1 0 v).2) : Int32); let y22 : Int32 := (if (y16 : Int32) = (-100104) then 0 else ((fX10_mannerOf o1 y16 v).2) : Int32); let y24 : Int32 := (if (y16 : Int32) = (-100104) then 0 else ((fX10_recordOf o1 y16 v).2) : Int32); let y26 : Int32 := (if (y16 : Int32) = (-100104) then 0 else ((fX10_badOf o1 y16 v).2) : Int32); let y28 : Int32 := (if (y16 : Int32) = (-100104) then ((-100104)) else (if (y22 : Int32) = 2 then ((-100104)) else ((fX10_goodUntilChange o1 y16 v).2)) : Int32); let y30 : Int32 := (if (y16 : Int32) = (-100104) then 0 else ((fX10_charted o1 y16 v).2) : Int32); let v35 : vSt := (fL_judge o1 y7 v).2; if (y9 : Int32) = 0 then (if (y11 : Int32) ≤ 0 then (let y47 : Int32 := (if (((fL_judge o1 y7 v).1) : Int32) = 0 then 1 else 0 : Int32); let y51 : Int32 := (if (((fL_judge o1 y7 v).1) : Int32) = 1 then 1 else 0 : Int32); let y55 : Int32 := (if (((fL_judge o1 y7 v).1) : Int32) = 2 then 1 else 0 : Int32); let y59 : Int32 := (if (((fL_judge o1 y7 v).1) : Int32) = 3 then 1 else 0 : Int32); let y63 : Int32 := (if (((fL_judge o1 y7 v).1) : Int32) = 3 then 0 else 1 : Int32); if (((fL_judge o1 y7 v).1) : Int32) = 3 then v35 else (let y72 : Int32 := (if (y30 : Int32) = 12 then 12 else (y30 + (1 : Int32)) : Int32); if (((fL_judge o1 y7 v).1) : Int32) = 0 then (if (y28 : Int32) = (-100104) then v35 else (if (y28 : Int32) = 1 then (let y92 : Int32 := (if (y22 : Int32) = 0 then 2 else 0 : Int32); v35) else v35)) else (if (((fX10_mannerOf o1 y16 v35).2) : Int32) = 2 then v35 else (let y82 : Int32 := (if (((fX10_mannerOf o1 y16 v35).2) : Int32) = 0 then 10 else 5 : Int32); v35)))) else (let y112 : Int32 := (if (y9 : Int32) = 0 then ((-100103)) else ((-100102)) : Int32); v35)) else (let y38 : Int32 := (if (y9 : Int32) = 0 then ((-100103)) else ((-100102)) : Int32); v35)
def kkL_judges (o1 : Nat) (p1 : Int32) (v : vSt) : Nat := pot (fL_judges o1 p1 v) - pot v + 54
def oL_judges (o1 : Nat) (p1 : Int32) (v : vSt) : Prop := (oX10_tools o1 v) ∧ ((oL_low (p1 >>> ((9 : Int32) &&& 31)) 14) ∧ ((∀ (y3 : Int32), y3 = ((if ((fL_low (p1 >>> ((9 : Int32) &&& 31)) 14) : Int32) = 0 then 1 else (if ((fX10_tools o1 v) : Int32) = 0 then 1 else 0) : Int32) : Int32) → ((oL_low p1 ((fX10_tools o1 v) + y3)) ∧ ((oL_low (p1 >>> ((4 : Int32) &&& 31)) 3) ∧ ((¬ (((fL_low (p1 >>> ((4 : Int32) &&& 31)) 3) : Int32) ≤ 0) → ((oL_bestTool o1 v) ∧ (¬ (((fL_bestTool o1 v) : Int32) = (-100104)) → ((oX10_bestTool o1 v) ∧ ((fX10_bestTool o1 v).1 = 0))))) ∧ (∀ (y7 : Int32), y7 = ((if ((fL_low (p1 >>> ((4 : Int32) &&& 31)) 3) : Int32) ≤ 0 then (fL_low p1 ((fX10_tools o1 v) + y3)) else (if ((fL_bestTool o1 v) : Int32) = (-100104) then (fL_low p1 ((fX10_tools o1 v) + y3)) else ((fX10_bestTool o1 v).2)) : Int32) : Int32) → ((∀ (y9 : Int32), y9 = ((if (y7 : Int32) = (fX10_tools o1 v) then 1 else 0 : Int32) : Int32) → ((((y9 : Int32) = 0) → ((oX10_whyNotJudge o1 y7 v) ∧ ((fX10_whyNotJudge o1 y7 v).1 = 0))) ∧ (∀ (y11 : Int32), y11 = ((if (y9 : Int32) = 0 then ((fX10_whyNotJudge o1 y7 v).2) else 0 : Int32) : Int32) → ((((y9 : Int32) = 0) → (oL_wouldJudge o1 y7 v)) ∧ (∀ (y13 : Int32), y13 = ((if (y9 : Int32) = 0 then (fL_wouldJudge o1 y7 v) else ((-100104)) : Int32) : Int32) → ((oX10_onBench o1 v) ∧ ((¬ (((fX10_onBench o1 v) : Int32) = 0) → ((oX10_typeAt o1 0 v) ∧ ((fX10_typeAt o1 0 v).1 = 0))) ∧ (∀ (y16 : Int32), y16 = ((if ((fX10_onBench o1 v) : Int32) = 0 then ((-100104)) else ((fX10_typeAt o1 0 v).2) : Int32) : Int32) → ((oX10_good o1 v) ∧ ((oX10_toFile o1 v) ∧ ((oX10_thrownAway o1 v) ∧ ((oX10_doubts o1 v) ∧ ((¬ ((y16 : Int32) = (-100104)) → ((oX10_mannerOf o1 y16 v) ∧ ((fX10_mannerOf o1 y16 v).1 = 0))) ∧ (∀ (y22 : Int32), y22 = ((if (y16 : Int32) = (-100104) then 0 else ((fX10_mannerOf o1 y16 v).2) : Int32) : Int32) → ((¬ ((y16 : Int32) = (-100104)) → ((oX10_recordOf o1 y16 v) ∧ ((fX10_recordOf o1 y16 v).1 = 0))) ∧ (∀ (y24 : Int32), y24 = ((if (y16 : Int32) = (-100104) then 0 else ((fX10_recordOf o1 y16 v).2) : Int32) : Int32) → ((¬ ((y16 : Int32) = (-100104)) → ((oX10_badOf o1 y16 v) ∧ ((fX10_badOf o1 y16 v).1 = 0))) ∧ (∀ (y26 : Int32), y26 = ((if (y16 : Int32) = (-100104) then 0 else ((fX10_badOf o1 y16 v).2) : Int32) : Int32) → ((¬ ((y16 : Int32) = (-100104)) → (¬ ((y22 : Int32) = 2) → ((oX10_goodUntilChange o1 y16 v) ∧ ((fX10_goodUntilChange o1 y16 v).1 = 0)))) ∧ (∀ (y28 : Int32), y28 = ((if (y16 : Int32) = (-100104) then ((-100104)) else (if (y22 : Int32) = 2 then ((-100104)) else ((fX10_goodUntilChange o1 y16 v).2)) : Int32) : Int32) → ((¬ ((y16 : Int32) = (-100104)) → ((oX10_charted o1 y16 v) ∧ ((fX10_charted o1 y16 v).1 = 0))) ∧ (∀ (y30 : Int32), y30 = ((if (y16 : Int32) = (-100104) then 0 else ((fX10_charted o1 y16 v).2) : Int32) : Int32) → ((oL_judge o1 y7 v) ∧ ((pot v ≤ pot v ∧ pot v ≤ pot ((fL_judge o1 y7 v).2) ∧ pot ((fL_judge o1 y7 v).2) ≤ pot (fL_judges o1 p1 v)) ∧ (∀ v35 : vSt, v35 = ((fL_judge o1 y7 v).2) → ((((y9 : Int32) = 0) → ((((y11 : Int32) ≤ 0) → (((((fL_judge o1 y7 v).1) : Int32) = y13) ∧ ((oX10_good o1 v35) ∧ ((∀ (y47 : Int32), y47 = ((if (((fL_judge o1 y7 v).1) : Int32) = 0 then 1 else 0 : Int32) : Int32) → ((((fX10_good o1 v35) : Int32) = ((fX10_good o1 v) + y47)) ∧ ((oX10_toFile o1 v35) ∧ ((∀ (y51 : Int32), y51 = ((if (((fL_judge o1 y7 v).1) : Int32) = 1 then 1 else 0 : Int32) : Int32) → ((((fX10_toFile o1 v35) : Int32) = ((fX10_toFile o1 v) + y51)) ∧ ((oX10_thrownAway o1 v35) ∧ ((∀ (y55 : Int32), y55 = ((if (((fL_judge o1 y7 v).1) : Int32) = 2 then 1 else 0 : Int32) : Int32) → ((((fX10_thrownAway o1 v35) : Int32) = ((fX10_thrownAway o1 v) + y55)) ∧ ((oX10_doubts o1 v35) ∧ ((∀ (y59 : Int32), y59 = ((if (((fL_judge o1 y7 v).1) : Int32) = 3 then 1 else 0 : Int32) : Int32) → ((((fX10_doubts o1 v35) : Int32) = ((fX10_doubts o1 v) + y59)) ∧ ((oX10_onBench o1 v35) ∧ ((∀ (y63 : Int32), y63 = ((if (((fL_judge o1 y7 v).1) : Int32) = 3 then 0 else 1 : Int32) : Int32) → ((((fX10_onBench o1 v35) : Int32) = ((fX10_onBench o1 v) - y63)) ∧ ((((((fL_judge o1 y7 v).1) : Int32) = 3) → ((oX10_wasDoubted o1 ((fX10_onBench o1 v) - (1 : Int32)) v35) ∧ (((fX10_wasDoubted o1 ((fX10_onBench o1 v) - (1 : Int32)) v35).1 = 0) ∧ ((¬ ((((fX10_wasDoubted o1 ((fX10_onBench o1 v) - (1 : Int32)) v35).2) : Int32) = 0)) ∧ ((oX10_typeAt o1 ((fX10_onBench o1 v) - (1 : Int32)) v35) ∧ (((fX10_typeAt o1 ((fX10_onBench o1 v) - (1 : Int32)) v35).1 = 0) ∧ (((((fX10_typeAt o1 ((fX10_onBench o1 v) - (1 : Int32)) v35).2) : Int32) = y16) ∧ ((oX10_charted o1 y16 v35) ∧ (((fX10_charted o1 y16 v35).1 = 0) ∧ (((((fX10_charted o1 y16 v35).2) : Int32) = y30) ∧ ((oX10_recordOf o1 y16 v35) ∧ (((fX10_recordOf o1 y16 v35).1 = 0) ∧ (((((fX10_recordOf o1 y16 v35).2) : Int32) = y24) ∧ ((oX10_mannerOf o1 y16 v35) ∧ (((fX10_mannerOf o1 y16 v35).1 = 0) ∧ (((((fX10_mannerOf o1 y16 v35).2) : Int32) = y22))))))))))))))))) ∧ (¬ ((((fL_judge o1 y7 v).1) : Int32) = 3) → ((oX10_mannerOf o1 y16 v35) ∧ (((fX10_mannerOf o1 y16 v35).1 = 0) ∧ ((oX10_charted o1 y16 v35) ∧ (((fX10_charted o1 y16 v35).1 = 0) ∧ ((∀ (y72 : Int32), y72 = ((if (y30 : Int32) = 12 then 12 else (y30 + (1 : Int32)) : Int32) : Int32) → (((((fX10_charted o1 y16 v35).2) : Int32) = y72) ∧ (((((((fX10_mannerOf o1 y16 v35).2) : Int32) = y22) → ((oX10_recordOf o1 y16 v35) ∧ (((fX10_recordOf o1 y16 v35).1 = 0) ∧ ((∀ (y78 : Int32), y78 = ((if (y24 : Int32) = 10 then 10 else (y24 + (1 : Int32)) : Int32) : Int32) → (((((fX10_recordOf o1 y16 v35).2) : Int32) = y78) ∧ ((oX10_badOf o1 y16 v35) ∧ (((fX10_badOf o1 y16 v35).1 = 0) ∧ ((∀ (y83 : Int32), y83 = ((if (((fL_judge o1 y7 v).1) : Int32) ≤ 0 then 0 else 1 : Int32) : Int32) → ((¬ (((y26 + y83) : Int32) < ((fX10_badOf o1 y16 v35).2)))))))))))))) ∧ (¬ ((((fX10_mannerOf o1 y16 v35).2) : Int32) = y22) → ((oX10_recordOf o1 y16 v35) ∧ (((fX10_recordOf o1 y16 v35).1 = 0) ∧ (((((fX10_recordOf o1 y16 v35).2) : Int32) = 0) ∧ ((oX10_badOf o1 y16 v35) ∧ (((fX10_badOf o1 y16 v35).1 = 0) ∧ (((((fX10_badOf o1 y16 v35).2) : Int32) = 0))))))))) ∧ ((((((fL_judge o1 y7 v).1) : Int32) = 0) → ((((y28 : Int32) = (-100104)) → (((((fX10_mannerOf o1 y16 v35).2) : Int32) = 2))) ∧ (¬ ((y28 : Int32) = (-100104)) → ((((y28 : Int32) = 1) → ((∀ (y92 : Int32), y92 = ((if (y22 : Int32) = 0 then 2 else 0 : Int32) : Int32) → (((((fX10_mannerOf o1 y16 v35).2) : Int32) = y92))))) ∧ (¬ ((y28 : Int32) = 1) → (((((fX10_mannerOf o1 y16 v35).2) : Int32) = y22) ∧ ((oX10_goodUntilChange o1 y16 v35) ∧ (((fX10_goodUntilChange o1 y16 v35).1 = 0) ∧ (((((fX10_goodUntilChange o1 y16 v35).2) : Int32) = (y28 - (1 : Int32)))))))))))) ∧ (¬ ((((fL_judge o1 y7 v).1) : Int32) = 0) → (((((y22 : Int32) = 2) → (((((fX10_mannerOf o1 y16 v35).2) : Int32) = 0))) ∧ (¬ ((y22 : Int32) = 2) → ((((y22 : Int32) = 1) → (((((fX10_mannerOf o1 y16 v35).2) : Int32) = 1))) ∧ (¬ ((y22 : Int32) = 1) → ((¬ ((2 : Int32) ≤ ((fX10_mannerOf o1 y16 v35).2)))))))) ∧ (¬ ((((fX10_mannerOf o1 y16 v35).2) : Int32) = 2) → ((oX10_goodUntilChange o1 y16 v35) ∧ (((fX10_goodUntilChange o1 y16 v35).1 = 0) ∧ ((∀ (y82 : Int32), y82 = ((if (((fX10_mannerOf o1 y16 v35).2) : Int32) = 0 then 10 else 5 : Int32) : Int32) → (((((fX10_goodUntilChange o1 y16 v35).2) : Int32) = y82)))))))))))))))))))))))))))))))))))))))))) ∧ (¬ ((y11 : Int32) ≤ 0) → ((∀ (y112 : Int32), y112 = ((if (y9 : Int32) = 0 then ((-100103)) else ((-100102)) : Int32) : Int32) → (((((fL_judge o1 y7 v).1) : Int32) = y112) ∧ ((oX10_onBench o1 v35) ∧ ((((fX10_onBench o1 v35) : Int32) = (fX10_onBench o1 v)) ∧ (((y13 : Int32) = (-100104))))))))))) ∧ (¬ ((y9 : Int32) = 0) → ((∀ (y38 : Int32), y38 = ((if (y9 : Int32) = 0 then ((-100103)) else ((-100102)) : Int32) : Int32) → (((((fL_judge o1 y7 v).1) : Int32) = y38) ∧ ((oX10_onBench o1 v35) ∧ ((((fX10_onBench o1 v35) : Int32) = (fX10_onBench o1 v)) ∧ (((y13 : Int32) = (-100104)))))))))))))))))))))))))))))))))))))))))))
abbrev rmL_judges (o1 : Nat) (p1 : Int32) (v : vSt) : Room := { frames := 9, cells := kkL_judges o1 p1 v, slots := kkL_judges o1 p1 v, locals := 239 }
theorem dL_judges_0 : decode cL_judges 0 = .ok (.iload_n 1, 1) := by decide +kernel
theorem dL_judges_1 : decode cL_judges 1 = .ok (.aload_n 0, 1) := by decide +kernel
theorem dL_judges_2 : decode cL_judges 2 = .ok (.invokevirtual 230, 3) := by decide +kernel
theorem dL_judges_5 : decode cL_judges 5 = .ok (.iload_n 1, 1) := by decide +kernel
theorem dL_judges_6 : decode cL_judges 6 = .ok (.bipush 9, 2) := by decide +kernel
theorem dL_judges_8 : decode cL_judges 8 = .ok (.ishr, 1) := by decide +kernel
theorem dL_judges_9 : decode cL_judges 9 = .ok (.bipush 14, 2) := by decide +kernel
theorem dL_judges_11 : decode cL_judges 11 = .ok (.invokestatic 250, 3) := by decide +kernel
theorem dL_judges_14 : decode cL_judges 14 = .ok (.ifCond .eq 10, 3) := by decide +kernel
theorem dL_judges_17 : decode cL_judges 17 = .ok (.aload_n 0, 1) := by decide +kernel
theorem dL_judges_18 : decode cL_judges 18 = .ok (.invokevirtual 230, 3) := by decide +kernel
theorem dL_judges_21 : decode cL_judges 21 = .ok (.ifCond .ne 7, 3) := by decide +kernel
theorem dL_judges_24 : decode cL_judges 24 = .ok (.iconst 1, 1) := by decide +kernel
theorem dL_judges_25 : decode cL_judges 25 = .ok (.goto 4, 3) := by decide +kernel
theorem dL_judges_28 : decode cL_judges 28 = .ok (.iconst 0, 1) := by decide +kernel
theorem dL_judges_29 : decode cL_judges 29 = .ok (.iadd, 1) := by decide +kernel
theorem dL_judges_30 : decode cL_judges 30 = .ok (.invokestatic 250, 3) := by decide +kernel
theorem dL_judges_33 : decode cL_judges 33 = .ok (.istore_n 2, 1) := by decide +kernel
theorem dL_judges_34 : decode cL_judges 34 = .ok (.iload_n 1, 1) := by decide +kernel
theorem dL_judges_35 : decode cL_judges 35 = .ok (.iconst 4, 1) := by decide +kernel
theorem dL_judges_36 : decode cL_judges 36 = .ok (.ishr, 1) := by decide +kernel
theorem dL_judges_37 : decode cL_judges 37 = .ok (.iconst 3, 1) := by decide +kernel
theorem dL_judges_38 : decode cL_judges 38 = .ok (.invokestatic 250, 3) := by decide +kernel
theorem dL_judges_41 : decode cL_judges 41 = .ok (.ifCond .le 19, 3) := by decide +kernel
theorem dL_judges_44 : decode cL_judges 44 = .ok (.aload_n 0, 1) := by decide +kernel
theorem dL_judges_45 : decode cL_judges 45 = .ok (.invokestatic 320, 3) := by decide +kernel
theorem dL_judges_48 : decode cL_judges 48 = .ok (.ldc 73, 2) := by decide +kernel
theorem dL_judges_50 : decode cL_judges 50 = .ok (.if_icmp .eq 10, 3) := by decide +kernel
theorem dL_judges_53 : decode cL_judges 53 = .ok (.aload_n 0, 1) := by decide +kernel
theorem dL_judges_54 : decode cL_judges 54 = .ok (.invokevirtual 83, 3) := by decide +kernel
theorem dL_judges_57 : decode cL_judges 57 = .ok (.goto 4, 3) := by decide +kernel
theorem dL_judges_60 : decode cL_judges 60 = .ok (.iload_n 2, 1) := by decide +kernel
theorem dL_judges_61 : decode cL_judges 61 = .ok (.istore_n 2, 1) := by decide +kernel
theorem dL_judges_62 : decode cL_judges 62 = .ok (.iload_n 2, 1) := by decide +kernel
theorem dL_judges_63 : decode cL_judges 63 = .ok (.aload_n 0, 1) := by decide +kernel
theorem dL_judges_64 : decode cL_judges 64 = .ok (.invokevirtual 230, 3) := by decide +kernel
theorem dL_judges_67 : decode cL_judges 67 = .ok (.if_icmp .ne 7, 3) := by decide +kernel
theorem dL_judges_70 : decode cL_judges 70 = .ok (.iconst 1, 1) := by decide +kernel
theorem dL_judges_71 : decode cL_judges 71 = .ok (.goto 4, 3) := by decide +kernel
theorem dL_judges_74 : decode cL_judges 74 = .ok (.iconst 0, 1) := by decide +kernel
theorem dL_judges_75 : decode cL_judges 75 = .ok (.istore_n 3, 1) := by decide +kernel
theorem dL_judges_76 : decode cL_judges 76 = .ok (.iload_n 3, 1) := by decide +kernel
theorem dL_judges_77 : decode cL_judges 77 = .ok (.ifCond .eq 7, 3) := by decide +kernel
theorem dL_judges_80 : decode cL_judges 80 = .ok (.iconst 0, 1) := by decide +kernel
theorem dL_judges_81 : decode cL_judges 81 = .ok (.goto 8, 3) := by decide +kernel
theorem dL_judges_84 : decode cL_judges 84 = .ok (.aload_n 0, 1) := by decide +kernel
theorem dL_judges_85 : decode cL_judges 85 = .ok (.iload_n 2, 1) := by decide +kernel
theorem dL_judges_86 : decode cL_judges 86 = .ok (.invokevirtual 77, 3) := by decide +kernel
theorem dL_judges_89 : decode cL_judges 89 = .ok (.istore 4, 2) := by decide +kernel
theorem dL_judges_91 : decode cL_judges 91 = .ok (.iload_n 3, 1) := by decide +kernel
theorem dL_judges_92 : decode cL_judges 92 = .ok (.ifCond .eq 8, 3) := by decide +kernel
theorem dL_judges_95 : decode cL_judges 95 = .ok (.ldc 73, 2) := by decide +kernel
theorem dL_judges_97 : decode cL_judges 97 = .ok (.goto 8, 3) := by decide +kernel
theorem dL_judges_100 : decode cL_judges 100 = .ok (.aload_n 0, 1) := by decide +kernel
theorem dL_judges_101 : decode cL_judges 101 = .ok (.iload_n 2, 1) := by decide +kernel
theorem dL_judges_102 : decode cL_judges 102 = .ok (.invokestatic 311, 3) := by decide +kernel
theorem dL_judges_105 : decode cL_judges 105 = .ok (.istore 5, 2) := by decide +kernel
theorem dL_judges_107 : decode cL_judges 107 = .ok (.aload_n 0, 1) := by decide +kernel
theorem dL_judges_108 : decode cL_judges 108 = .ok (.invokevirtual 247, 3) := by decide +kernel
theorem dL_judges_111 : decode cL_judges 111 = .ok (.istore 6, 2) := by decide +kernel
theorem dL_judges_113 : decode cL_judges 113 = .ok (.iload 6, 2) := by decide +kernel
theorem dL_judges_115 : decode cL_judges 115 = .ok (.ifCond .ne 8, 3) := by decide +kernel
theorem dL_judges_118 : decode cL_judges 118 = .ok (.ldc 73, 2) := by decide +kernel
theorem dL_judges_120 : decode cL_judges 120 = .ok (.goto 8, 3) := by decide +kernel
theorem dL_judges_123 : decode cL_judges 123 = .ok (.aload_n 0, 1) := by decide +kernel
theorem dL_judges_124 : decode cL_judges 124 = .ok (.iconst 0, 1) := by decide +kernel
theorem dL_judges_125 : decode cL_judges 125 = .ok (.invokevirtual 68, 3) := by decide +kernel
theorem dL_judges_128 : decode cL_judges 128 = .ok (.istore 7, 2) := by decide +kernel
theorem dL_judges_130 : decode cL_judges 130 = .ok (.aload_n 0, 1) := by decide +kernel
theorem dL_judges_131 : decode cL_judges 131 = .ok (.invokevirtual 218, 3) := by decide +kernel
theorem dL_judges_134 : decode cL_judges 134 = .ok (.istore 8, 2) := by decide +kernel
theorem dL_judges_136 : decode cL_judges 136 = .ok (.aload_n 0, 1) := by decide +kernel
theorem dL_judges_137 : decode cL_judges 137 = .ok (.invokevirtual 239, 3) := by decide +kernel
theorem dL_judges_140 : decode cL_judges 140 = .ok (.istore 9, 2) := by decide +kernel
theorem dL_judges_142 : decode cL_judges 142 = .ok (.aload_n 0, 1) := by decide +kernel
theorem dL_judges_143 : decode cL_judges 143 = .ok (.invokevirtual 221, 3) := by decide +kernel
theorem dL_judges_146 : decode cL_judges 146 = .ok (.istore 10, 2) := by decide +kernel
theorem dL_judges_148 : decode cL_judges 148 = .ok (.aload_n 0, 1) := by decide +kernel
theorem dL_judges_149 : decode cL_judges 149 = .ok (.invokevirtual 227, 3) := by decide +kernel
theorem dL_judges_152 : decode cL_judges 152 = .ok (.istore 11, 2) := by decide +kernel
theorem dL_judges_154 : decode cL_judges 154 = .ok (.iload 7, 2) := by decide +kernel
theorem dL_judges_156 : decode cL_judges 156 = .ok (.ldc 73, 2) := by decide +kernel
theorem dL_judges_158 : decode cL_judges 158 = .ok (.if_icmp .ne 7, 3) := by decide +kernel
theorem dL_judges_161 : decode cL_judges 161 = .ok (.iconst 0, 1) := by decide +kernel
theorem dL_judges_162 : decode cL_judges 162 = .ok (.goto 9, 3) := by decide +kernel
theorem dL_judges_165 : decode cL_judges 165 = .ok (.aload_n 0, 1) := by decide +kernel
theorem dL_judges_166 : decode cL_judges 166 = .ok (.iload 7, 2) := by decide +kernel
theorem dL_judges_168 : decode cL_judges 168 = .ok (.invokevirtual 179, 3) := by decide +kernel
theorem dL_judges_171 : decode cL_judges 171 = .ok (.istore 12, 2) := by decide +kernel
theorem dL_judges_173 : decode cL_judges 173 = .ok (.iload 7, 2) := by decide +kernel
theorem dL_judges_175 : decode cL_judges 175 = .ok (.ldc 73, 2) := by decide +kernel
theorem dL_judges_177 : decode cL_judges 177 = .ok (.if_icmp .ne 7, 3) := by decide +kernel
theorem dL_judges_180 : decode cL_judges 180 = .ok (.iconst 0, 1) := by decide +kernel
theorem dL_judges_181 : decode cL_judges 181 = .ok (.goto 9, 3) := by decide +kernel
theorem dL_judges_184 : decode cL_judges 184 = .ok (.aload_n 0, 1) := by decide +kernel
theorem dL_judges_185 : decode cL_judges 185 = .ok (.iload 7, 2) := by decide +kernel
theorem dL_judges_187 : decode cL_judges 187 = .ok (.invokevirtual 182, 3) := by decide +kernel
theorem dL_judges_190 : decode cL_judges 190 = .ok (.istore 13, 2) := by decide +kernel
theorem dL_judges_192 : decode cL_judges 192 = .ok (.iload 7, 2) := by decide +kernel
theorem dL_judges_194 : decode cL_judges 194 = .ok (.ldc 73, 2) := by decide +kernel
theorem dL_judges_196 : decode cL_judges 196 = .ok (.if_icmp .ne 7, 3) := by decide +kernel
theorem dL_judges_199 : decode cL_judges 199 = .ok (.iconst 0, 1) := by decide +kernel
theorem dL_judges_200 : decode cL_judges 200 = .ok (.goto 9, 3) := by decide +kernel
theorem dL_judges_203 : decode cL_judges 203 = .ok (.aload_n 0, 1) := by decide +kernel
theorem dL_judges_204 : decode cL_judges 204 = .ok (.iload 7, 2) := by decide +kernel
theorem dL_judges_206 : decode cL_judges 206 = .ok (.invokevirtual 185, 3) := by decide +kernel
theorem dL_judges_209 : decode cL_judges 209 = .ok (.istore 14, 2) := by decide +kernel
theorem dL_judges_211 : decode cL_judges 211 = .ok (.iload 7, 2) := by decide +kernel
theorem dL_judges_213 : decode cL_judges 213 = .ok (.ldc 73, 2) := by decide +kernel
theorem dL_judges_215 : decode cL_judges 215 = .ok (.if_icmp .eq 9, 3) := by decide +kernel
theorem dL_judges_218 : decode cL_judges 218 = .ok (.iload 12, 2) := by decide +kernel
theorem dL_judges_220 : decode cL_judges 220 = .ok (.iconst 2, 1) := by decide +kernel
theorem dL_judges_221 : decode cL_judges 221 = .ok (.if_icmp .ne 8, 3) := by decide +kernel
theorem dL_judges_224 : decode cL_judges 224 = .ok (.ldc 73, 2) := by decide +kernel
theorem dL_judges_226 : decode cL_judges 226 = .ok (.goto 9, 3) := by decide +kernel
theorem dL_judges_229 : decode cL_judges 229 = .ok (.aload_n 0, 1) := by decide +kernel
theorem dL_judges_230 : decode cL_judges 230 = .ok (.iload 7, 2) := by decide +kernel
theorem dL_judges_232 : decode cL_judges 232 = .ok (.invokevirtual 86, 3) := by decide +kernel
theorem dL_judges_235 : decode cL_judges 235 = .ok (.istore 15, 2) := by decide +kernel
theorem dL_judges_237 : decode cL_judges 237 = .ok (.iload 7, 2) := by decide +kernel
theorem dL_judges_239 : decode cL_judges 239 = .ok (.ldc 73, 2) := by decide +kernel
theorem dL_judges_241 : decode cL_judges 241 = .ok (.if_icmp .ne 7, 3) := by decide +kernel
theorem dL_judges_244 : decode cL_judges 244 = .ok (.iconst 0, 1) := by decide +kernel
theorem dL_judges_245 : decode cL_judges 245 = .ok (.goto 9, 3) := by decide +kernel
theorem dL_judges_248 : decode cL_judges 248 = .ok (.aload_n 0, 1) := by decide +kernel
theorem dL_judges_249 : decode cL_judges 249 = .ok (.iload 7, 2) := by decide +kernel
theorem dL_judges_251 : decode cL_judges 251 = .ok (.invokevirtual 188, 3) := by decide +kernel
theorem dL_judges_254 : decode cL_judges 254 = .ok (.istore 16, 2) := by decide +kernel
theorem dL_judges_256 : decode cL_judges 256 = .ok (.aload_n 0, 1) := by decide +kernel
theorem dL_judges_257 : decode cL_judges 257 = .ok (.iload_n 2, 1) := by decide +kernel
theorem dL_judges_258 : decode cL_judges 258 = .ok (.invokestatic 359, 3) := by decide +kernel
theorem dL_judges_261 : decode cL_judges 261 = .ok (.istore 17, 2) := by decide +kernel
theorem dL_judges_263 : decode cL_judges 263 = .ok (.iload_n 3, 1) := by decide +kernel
theorem dL_judges_264 : decode cL_judges 264 = .ok (.ifCond .ne 8, 3) := by decide +kernel
theorem dL_judges_267 : decode cL_judges 267 = .ok (.iload 4, 2) := by decide +kernel
theorem dL_judges_269 : decode cL_judges 269 = .ok (.ifCond .le 41, 3) := by decide +kernel
theorem dL_judges_272 : decode cL_judges 272 = .ok (.iload 17, 2) := by decide +kernel
theorem dL_judges_274 : decode cL_judges 274 = .ok (.iload_n 3, 1) := by decide +kernel
theorem dL_judges_275 : decode cL_judges 275 = .ok (.ifCond .eq 8, 3) := by decide +kernel
theorem dL_judges_278 : decode cL_judges 278 = .ok (.ldc 17, 2) := by decide +kernel
theorem dL_judges_280 : decode cL_judges 280 = .ok (.goto 5, 3) := by decide +kernel
theorem dL_judges_283 : decode cL_judges 283 = .ok (.ldc 20, 2) := by decide +kernel
theorem dL_judges_285 : decode cL_judges 285 = .ok (.if_icmp .ne 23, 3) := by decide +kernel
theorem dL_judges_288 : decode cL_judges 288 = .ok (.aload_n 0, 1) := by decide +kernel
theorem dL_judges_289 : decode cL_judges 289 = .ok (.invokevirtual 247, 3) := by decide +kernel
theorem dL_judges_292 : decode cL_judges 292 = .ok (.iload 6, 2) := by decide +kernel
theorem dL_judges_294 : decode cL_judges 294 = .ok (.if_icmp .ne 14, 3) := by decide +kernel
theorem dL_judges_297 : decode cL_judges 297 = .ok (.iload 5, 2) := by decide +kernel
theorem dL_judges_299 : decode cL_judges 299 = .ok (.ldc 73, 2) := by decide +kernel
theorem dL_judges_301 : decode cL_judges 301 = .ok (.if_icmp .ne 7, 3) := by decide +kernel
theorem dL_judges_304 : decode cL_judges 304 = .ok (.iconst 1, 1) := by decide +kernel
theorem dL_judges_305 : decode cL_judges 305 = .ok (.goto 4, 3) := by decide +kernel
theorem dL_judges_309 : decode cL_judges 309 = .ok (.ireturn, 1) := by decide +kernel
theorem dL_judges_310 : decode cL_judges 310 = .ok (.iload 17, 2) := by decide +kernel
theorem dL_judges_312 : decode cL_judges 312 = .ok (.iload 5, 2) := by decide +kernel
theorem dL_judges_314 : decode cL_judges 314 = .ok (.if_icmp .ne 111, 3) := by decide +kernel
theorem dL_judges_317 : decode cL_judges 317 = .ok (.aload_n 0, 1) := by decide +kernel
theorem dL_judges_318 : decode cL_judges 318 = .ok (.invokevirtual 218, 3) := by decide +kernel
theorem dL_judges_321 : decode cL_judges 321 = .ok (.iload 8, 2) := by decide +kernel
theorem dL_judges_323 : decode cL_judges 323 = .ok (.iload 17, 2) := by decide +kernel
theorem dL_judges_325 : decode cL_judges 325 = .ok (.ifCond .ne 7, 3) := by decide +kernel
theorem dL_judges_328 : decode cL_judges 328 = .ok (.iconst 1, 1) := by decide +kernel
theorem dL_judges_329 : decode cL_judges 329 = .ok (.goto 4, 3) := by decide +kernel
theorem dL_judges_332 : decode cL_judges 332 = .ok (.iconst 0, 1) := by decide +kernel
theorem dL_judges_333 : decode cL_judges 333 = .ok (.iadd, 1) := by decide +kernel
theorem dL_judges_334 : decode cL_judges 334 = .ok (.if_icmp .ne 91, 3) := by decide +kernel
theorem dL_judges_337 : decode cL_judges 337 = .ok (.aload_n 0, 1) := by decide +kernel
theorem dL_judges_338 : decode cL_judges 338 = .ok (.invokevirtual 239, 3) := by decide +kernel
theorem dL_judges_341 : decode cL_judges 341 = .ok (.iload 9, 2) := by decide +kernel
theorem dL_judges_343 : decode cL_judges 343 = .ok (.iload 17, 2) := by decide +kernel
theorem dL_judges_345 : decode cL_judges 345 = .ok (.iconst 1, 1) := by decide +kernel
theorem dL_judges_346 : decode cL_judges 346 = .ok (.if_icmp .ne 7, 3) := by decide +kernel
theorem dL_judges_349 : decode cL_judges 349 = .ok (.iconst 1, 1) := by decide +kernel
theorem dL_judges_350 : decode cL_judges 350 = .ok (.goto 4, 3) := by decide +kernel
theorem dL_judges_353 : decode cL_judges 353 = .ok (.iconst 0, 1) := by decide +kernel
theorem dL_judges_354 : decode cL_judges 354 = .ok (.iadd, 1) := by decide +kernel
theorem dL_judges_355 : decode cL_judges 355 = .ok (.if_icmp .ne 70, 3) := by decide +kernel
theorem dL_judges_358 : decode cL_judges 358 = .ok (.aload_n 0, 1) := by decide +kernel
theorem dL_judges_359 : decode cL_judges 359 = .ok (.invokevirtual 221, 3) := by decide +kernel
theorem dL_judges_362 : decode cL_judges 362 = .ok (.iload 10, 2) := by decide +kernel
theorem dL_judges_364 : decode cL_judges 364 = .ok (.iload 17, 2) := by decide +kernel
theorem dL_judges_366 : decode cL_judges 366 = .ok (.iconst 2, 1) := by decide +kernel
theorem dL_judges_367 : decode cL_judges 367 = .ok (.if_icmp .ne 7, 3) := by decide +kernel
theorem dL_judges_370 : decode cL_judges 370 = .ok (.iconst 1, 1) := by decide +kernel
theorem dL_judges_371 : decode cL_judges 371 = .ok (.goto 4, 3) := by decide +kernel
theorem dL_judges_374 : decode cL_judges 374 = .ok (.iconst 0, 1) := by decide +kernel
theorem dL_judges_375 : decode cL_judges 375 = .ok (.iadd, 1) := by decide +kernel
theorem dL_judges_376 : decode cL_judges 376 = .ok (.if_icmp .ne 49, 3) := by decide +kernel
theorem dL_judges_379 : decode cL_judges 379 = .ok (.aload_n 0, 1) := by decide +kernel
theorem dL_judges_380 : decode cL_judges 380 = .ok (.invokevirtual 227, 3) := by decide +kernel
theorem dL_judges_383 : decode cL_judges 383 = .ok (.iload 11, 2) := by decide +kernel
theorem dL_judges_385 : decode cL_judges 385 = .ok (.iload 17, 2) := by decide +kernel
theorem dL_judges_387 : decode cL_judges 387 = .ok (.iconst 3, 1) := by decide +kernel
theorem dL_judges_388 : decode cL_judges 388 = .ok (.if_icmp .ne 7, 3) := by decide +kernel
theorem dL_judges_391 : decode cL_judges 391 = .ok (.iconst 1, 1) := by decide +kernel
theorem dL_judges_392 : decode cL_judges 392 = .ok (.goto 4, 3) := by decide +kernel
theorem dL_judges_395 : decode cL_judges 395 = .ok (.iconst 0, 1) := by decide +kernel
theorem dL_judges_396 : decode cL_judges 396 = .ok (.iadd, 1) := by decide +kernel
theorem dL_judges_397 : decode cL_judges 397 = .ok (.if_icmp .ne 28, 3) := by decide +kernel
theorem dL_judges_400 : decode cL_judges 400 = .ok (.aload_n 0, 1) := by decide +kernel
theorem dL_judges_401 : decode cL_judges 401 = .ok (.invokevirtual 247, 3) := by decide +kernel
theorem dL_judges_404 : decode cL_judges 404 = .ok (.iload 6, 2) := by decide +kernel
theorem dL_judges_406 : decode cL_judges 406 = .ok (.iload 17, 2) := by decide +kernel
theorem dL_judges_408 : decode cL_judges 408 = .ok (.iconst 3, 1) := by decide +kernel
theorem dL_judges_409 : decode cL_judges 409 = .ok (.if_icmp .ne 7, 3) := by decide +kernel
theorem dL_judges_412 : decode cL_judges 412 = .ok (.iconst 0, 1) := by decide +kernel
theorem dL_judges_413 : decode cL_judges 413 = .ok (.goto 4, 3) := by decide +kernel
theorem dL_judges_416 : decode cL_judges 416 = .ok (.iconst 1, 1) := by decide +kernel
theorem dL_judges_417 : decode cL_judges 417 = .ok (.isub, 1) := by decide +kernel
theorem dL_judges_418 : decode cL_judges 418 = .ok (.if_icmp .ne 7, 3) := by decide +kernel
theorem dL_judges_421 : decode cL_judges 421 = .ok (.iconst 1, 1) := by decide +kernel
theorem dL_judges_422 : decode cL_judges 422 = .ok (.goto 4, 3) := by decide +kernel
theorem dL_judges_426 : decode cL_judges 426 = .ok (.istore 18, 2) := by decide +kernel
theorem dL_judges_428 : decode cL_judges 428 = .ok (.iload 17, 2) := by decide +kernel
theorem dL_judges_430 : decode cL_judges 430 = .ok (.iconst 3, 1) := by decide +kernel
theorem dL_judges_431 : decode cL_judges 431 = .ok (.if_icmp .ne 71, 3) := by decide +kernel
theorem dL_judges_434 : decode cL_judges 434 = .ok (.iload 18, 2) := by decide +kernel
theorem dL_judges_436 : decode cL_judges 436 = .ok (.ifCond .eq 64, 3) := by decide +kernel
theorem dL_judges_439 : decode cL_judges 439 = .ok (.aload_n 0, 1) := by decide +kernel
theorem dL_judges_440 : decode cL_judges 440 = .ok (.iload 6, 2) := by decide +kernel
theorem dL_judges_442 : decode cL_judges 442 = .ok (.iconst 1, 1) := by decide +kernel
theorem dL_judges_443 : decode cL_judges 443 = .ok (.isub, 1) := by decide +kernel
theorem dL_judges_444 : decode cL_judges 444 = .ok (.invokevirtual 74, 3) := by decide +kernel
theorem dL_judges_447 : decode cL_judges 447 = .ok (.ifCond .eq 53, 3) := by decide +kernel
theorem dL_judges_450 : decode cL_judges 450 = .ok (.aload_n 0, 1) := by decide +kernel
theorem dL_judges_451 : decode cL_judges 451 = .ok (.iload 6, 2) := by decide +kernel
theorem dL_judges_453 : decode cL_judges 453 = .ok (.iconst 1, 1) := by decide +kernel
theorem dL_judges_454 : decode cL_judges 454 = .ok (.isub, 1) := by decide +kernel
theorem dL_judges_455 : decode cL_judges 455 = .ok (.invokevirtual 68, 3) := by decide +kernel
theorem dL_judges_458 : decode cL_judges 458 = .ok (.iload 7, 2) := by decide +kernel
theorem dL_judges_460 : decode cL_judges 460 = .ok (.if_icmp .ne 40, 3) := by decide +kernel
theorem dL_judges_463 : decode cL_judges 463 = .ok (.aload_n 0, 1) := by decide +kernel
theorem dL_judges_464 : decode cL_judges 464 = .ok (.iload 7, 2) := by decide +kernel
theorem dL_judges_466 : decode cL_judges 466 = .ok (.invokevirtual 188, 3) := by decide +kernel
theorem dL_judges_469 : decode cL_judges 469 = .ok (.iload 16, 2) := by decide +kernel
theorem dL_judges_471 : decode cL_judges 471 = .ok (.if_icmp .ne 29, 3) := by decide +kernel
theorem dL_judges_474 : decode cL_judges 474 = .ok (.aload_n 0, 1) := by decide +kernel
theorem dL_judges_475 : decode cL_judges 475 = .ok (.iload 7, 2) := by decide +kernel
theorem dL_judges_477 : decode cL_judges 477 = .ok (.invokevirtual 182, 3) := by decide +kernel
theorem dL_judges_480 : decode cL_judges 480 = .ok (.iload 13, 2) := by decide +kernel
theorem dL_judges_482 : decode cL_judges 482 = .ok (.if_icmp .ne 18, 3) := by decide +kernel
theorem dL_judges_485 : decode cL_judges 485 = .ok (.aload_n 0, 1) := by decide +kernel
theorem dL_judges_486 : decode cL_judges 486 = .ok (.iload 7, 2) := by decide +kernel
theorem dL_judges_488 : decode cL_judges 488 = .ok (.invokevirtual 179, 3) := by decide +kernel
theorem dL_judges_491 : decode cL_judges 491 = .ok (.iload 12, 2) := by decide +kernel
theorem dL_judges_493 : decode cL_judges 493 = .ok (.if_icmp .ne 7, 3) := by decide +kernel
theorem dL_judges_496 : decode cL_judges 496 = .ok (.iconst 1, 1) := by decide +kernel
theorem dL_judges_497 : decode cL_judges 497 = .ok (.goto 4, 3) := by decide +kernel
theorem dL_judges_501 : decode cL_judges 501 = .ok (.ireturn, 1) := by decide +kernel
theorem dL_judges_502 : decode cL_judges 502 = .ok (.aload_n 0, 1) := by decide +kernel
theorem dL_judges_503 : decode cL_judges 503 = .ok (.iload 7, 2) := by decide +kernel
theorem dL_judges_505 : decode cL_judges 505 = .ok (.invokevirtual 179, 3) := by decide +kernel
theorem dL_judges_508 : decode cL_judges 508 = .ok (.istore 19, 2) := by decide +kernel
theorem dL_judges_510 : decode cL_judges 510 = .ok (.iload 18, 2) := by decide +kernel
theorem dL_judges_512 : decode cL_judges 512 = .ok (.ifCond .eq 107, 3) := by decide +kernel
theorem dL_judges_515 : decode cL_judges 515 = .ok (.aload_n 0, 1) := by decide +kernel
theorem dL_judges_516 : decode cL_judges 516 = .ok (.iload 7, 2) := by decide +kernel
theorem dL_judges_518 : decode cL_judges 518 = .ok (.invokevirtual 188, 3) := by decide +kernel
theorem dL_judges_521 : decode cL_judges 521 = .ok (.iload 16, 2) := by decide +kernel
theorem dL_judges_523 : decode cL_judges 523 = .ok (.bipush 12, 2) := by decide +kernel
theorem dL_judges_525 : decode cL_judges 525 = .ok (.if_icmp .ne 8, 3) := by decide +kernel
theorem dL_judges_528 : decode cL_judges 528 = .ok (.bipush 12, 2) := by decide +kernel
theorem dL_judges_530 : decode cL_judges 530 = .ok (.goto 7, 3) := by decide +kernel
theorem dL_judges_533 : decode cL_judges 533 = .ok (.iload 16, 2) := by decide +kernel
theorem dL_judges_535 : decode cL_judges 535 = .ok (.iconst 1, 1) := by decide +kernel
theorem dL_judges_536 : decode cL_judges 536 = .ok (.iadd, 1) := by decide +kernel
theorem dL_judges_537 : decode cL_judges 537 = .ok (.if_icmp .ne 82, 3) := by decide +kernel
theorem dL_judges_540 : decode cL_judges 540 = .ok (.iload 19, 2) := by decide +kernel
theorem dL_judges_542 : decode cL_judges 542 = .ok (.iload 12, 2) := by decide +kernel
theorem dL_judges_544 : decode cL_judges 544 = .ok (.if_icmp .eq 24, 3) := by decide +kernel
theorem dL_judges_547 : decode cL_judges 547 = .ok (.aload_n 0, 1) := by decide +kernel
theorem dL_judges_548 : decode cL_judges 548 = .ok (.iload 7, 2) := by decide +kernel
theorem dL_judges_550 : decode cL_judges 550 = .ok (.invokevirtual 182, 3) := by decide +kernel
theorem dL_judges_553 : decode cL_judges 553 = .ok (.ifCond .ne 66, 3) := by decide +kernel
theorem dL_judges_556 : decode cL_judges 556 = .ok (.aload_n 0, 1) := by decide +kernel
theorem dL_judges_557 : decode cL_judges 557 = .ok (.iload 7, 2) := by decide +kernel
theorem dL_judges_559 : decode cL_judges 559 = .ok (.invokevirtual 185, 3) := by decide +kernel
theorem dL_judges_562 : decode cL_judges 562 = .ok (.ifCond .ne 57, 3) := by decide +kernel
theorem dL_judges_565 : decode cL_judges 565 = .ok (.goto 50, 3) := by decide +kernel
theorem dL_judges_568 : decode cL_judges 568 = .ok (.aload_n 0, 1) := by decide +kernel
theorem dL_judges_569 : decode cL_judges 569 = .ok (.iload 7, 2) := by decide +kernel
theorem dL_judges_571 : decode cL_judges 571 = .ok (.invokevirtual 182, 3) := by decide +kernel
theorem dL_judges_574 : decode cL_judges 574 = .ok (.iload 13, 2) := by decide +kernel
theorem dL_judges_576 : decode cL_judges 576 = .ok (.bipush 10, 2) := by decide +kernel
theorem dL_judges_578 : decode cL_judges 578 = .ok (.if_icmp .ne 8, 3) := by decide +kernel
theorem dL_judges_581 : decode cL_judges 581 = .ok (.bipush 10, 2) := by decide +kernel
theorem dL_judges_583 : decode cL_judges 583 = .ok (.goto 7, 3) := by decide +kernel
theorem dL_judges_586 : decode cL_judges 586 = .ok (.iload 13, 2) := by decide +kernel
theorem dL_judges_588 : decode cL_judges 588 = .ok (.iconst 1, 1) := by decide +kernel
theorem dL_judges_589 : decode cL_judges 589 = .ok (.iadd, 1) := by decide +kernel
theorem dL_judges_590 : decode cL_judges 590 = .ok (.if_icmp .ne 29, 3) := by decide +kernel
theorem dL_judges_593 : decode cL_judges 593 = .ok (.aload_n 0, 1) := by decide +kernel
theorem dL_judges_594 : decode cL_judges 594 = .ok (.iload 7, 2) := by decide +kernel
theorem dL_judges_596 : decode cL_judges 596 = .ok (.invokevirtual 185, 3) := by decide +kernel
theorem dL_judges_599 : decode cL_judges 599 = .ok (.iload 14, 2) := by decide +kernel
theorem dL_judges_601 : decode cL_judges 601 = .ok (.iload 17, 2) := by decide +kernel
theorem dL_judges_603 : decode cL_judges 603 = .ok (.ifCond .le 7, 3) := by decide +kernel
theorem dL_judges_606 : decode cL_judges 606 = .ok (.iconst 1, 1) := by decide +kernel
theorem dL_judges_607 : decode cL_judges 607 = .ok (.goto 4, 3) := by decide +kernel
theorem dL_judges_610 : decode cL_judges 610 = .ok (.iconst 0, 1) := by decide +kernel
theorem dL_judges_611 : decode cL_judges 611 = .ok (.iadd, 1) := by decide +kernel
theorem dL_judges_612 : decode cL_judges 612 = .ok (.if_icmp .gt 7, 3) := by decide +kernel
theorem dL_judges_615 : decode cL_judges 615 = .ok (.iconst 1, 1) := by decide +kernel
theorem dL_judges_616 : decode cL_judges 616 = .ok (.goto 4, 3) := by decide +kernel
theorem dL_judges_620 : decode cL_judges 620 = .ok (.istore 18, 2) := by decide +kernel
theorem dL_judges_622 : decode cL_judges 622 = .ok (.iload 17, 2) := by decide +kernel
theorem dL_judges_624 : decode cL_judges 624 = .ok (.ifCond .ne 74, 3) := by decide +kernel
theorem dL_judges_627 : decode cL_judges 627 = .ok (.iload 18, 2) := by decide +kernel
theorem dL_judges_629 : decode cL_judges 629 = .ok (.ifCond .eq 67, 3) := by decide +kernel
theorem dL_judges_632 : decode cL_judges 632 = .ok (.iload 15, 2) := by decide +kernel
theorem dL_judges_634 : decode cL_judges 634 = .ok (.ldc 73, 2) := by decide +kernel
theorem dL_judges_636 : decode cL_judges 636 = .ok (.if_icmp .ne 12, 3) := by decide +kernel
theorem dL_judges_639 : decode cL_judges 639 = .ok (.iload 19, 2) := by decide +kernel
theorem dL_judges_641 : decode cL_judges 641 = .ok (.iconst 2, 1) := by decide +kernel
theorem dL_judges_642 : decode cL_judges 642 = .ok (.if_icmp .ne 54, 3) := by decide +kernel
theorem dL_judges_645 : decode cL_judges 645 = .ok (.goto 47, 3) := by decide +kernel
theorem dL_judges_648 : decode cL_judges 648 = .ok (.iload 15, 2) := by decide +kernel
theorem dL_judges_650 : decode cL_judges 650 = .ok (.iconst 1, 1) := by decide +kernel
theorem dL_judges_651 : decode cL_judges 651 = .ok (.if_icmp .ne 21, 3) := by decide +kernel
theorem dL_judges_654 : decode cL_judges 654 = .ok (.iload 19, 2) := by decide +kernel
theorem dL_judges_656 : decode cL_judges 656 = .ok (.iload 12, 2) := by decide +kernel
theorem dL_judges_658 : decode cL_judges 658 = .ok (.ifCond .ne 7, 3) := by decide +kernel
theorem dL_judges_661 : decode cL_judges 661 = .ok (.iconst 2, 1) := by decide +kernel
theorem dL_judges_662 : decode cL_judges 662 = .ok (.goto 4, 3) := by decide +kernel
theorem dL_judges_665 : decode cL_judges 665 = .ok (.iconst 0, 1) := by decide +kernel
theorem dL_judges_666 : decode cL_judges 666 = .ok (.if_icmp .ne 30, 3) := by decide +kernel
theorem dL_judges_669 : decode cL_judges 669 = .ok (.goto 23, 3) := by decide +kernel
theorem dL_judges_672 : decode cL_judges 672 = .ok (.iload 19, 2) := by decide +kernel
theorem dL_judges_674 : decode cL_judges 674 = .ok (.iload 12, 2) := by decide +kernel
theorem dL_judges_676 : decode cL_judges 676 = .ok (.if_icmp .ne 20, 3) := by decide +kernel
theorem dL_judges_679 : decode cL_judges 679 = .ok (.aload_n 0, 1) := by decide +kernel
theorem dL_judges_680 : decode cL_judges 680 = .ok (.iload 7, 2) := by decide +kernel
theorem dL_judges_682 : decode cL_judges 682 = .ok (.invokevirtual 86, 3) := by decide +kernel
theorem dL_judges_685 : decode cL_judges 685 = .ok (.iload 15, 2) := by decide +kernel
theorem dL_judges_687 : decode cL_judges 687 = .ok (.iconst 1, 1) := by decide +kernel
theorem dL_judges_688 : decode cL_judges 688 = .ok (.isub, 1) := by decide +kernel
theorem dL_judges_689 : decode cL_judges 689 = .ok (.if_icmp .ne 7, 3) := by decide +kernel
theorem dL_judges_692 : decode cL_judges 692 = .ok (.iconst 1, 1) := by decide +kernel
theorem dL_judges_693 : decode cL_judges 693 = .ok (.goto 4, 3) := by decide +kernel
theorem dL_judges_697 : decode cL_judges 697 = .ok (.ireturn, 1) := by decide +kernel
theorem dL_judges_698 : decode cL_judges 698 = .ok (.iload 18, 2) := by decide +kernel
theorem dL_judges_700 : decode cL_judges 700 = .ok (.ifCond .eq 68, 3) := by decide +kernel
theorem dL_judges_703 : decode cL_judges 703 = .ok (.iload 12, 2) := by decide +kernel
theorem dL_judges_705 : decode cL_judges 705 = .ok (.iconst 2, 1) := by decide +kernel
theorem dL_judges_706 : decode cL_judges 706 = .ok (.if_icmp .ne 11, 3) := by decide +kernel
theorem dL_judges_709 : decode cL_judges 709 = .ok (.iload 19, 2) := by decide +kernel
theorem dL_judges_711 : decode cL_judges 711 = .ok (.ifCond .ne 57, 3) := by decide +kernel
theorem dL_judges_714 : decode cL_judges 714 = .ok (.goto 24, 3) := by decide +kernel
theorem dL_judges_717 : decode cL_judges 717 = .ok (.iload 12, 2) := by decide +kernel
theorem dL_judges_719 : decode cL_judges 719 = .ok (.iconst 1, 1) := by decide +kernel
theorem dL_judges_720 : decode cL_judges 720 = .ok (.if_icmp .ne 12, 3) := by decide +kernel
theorem dL_judges_723 : decode cL_judges 723 = .ok (.iload 19, 2) := by decide +kernel
theorem dL_judges_725 : decode cL_judges 725 = .ok (.iconst 1, 1) := by decide +kernel
theorem dL_judges_726 : decode cL_judges 726 = .ok (.if_icmp .ne 42, 3) := by decide +kernel
theorem dL_judges_729 : decode cL_judges 729 = .ok (.goto 9, 3) := by decide +kernel
theorem dL_judges_732 : decode cL_judges 732 = .ok (.iload 19, 2) := by decide +kernel
theorem dL_judges_734 : decode cL_judges 734 = .ok (.iconst 2, 1) := by decide +kernel
theorem dL_judges_735 : decode cL_judges 735 = .ok (.if_icmp .ge 33, 3) := by decide +kernel
theorem dL_judges_738 : decode cL_judges 738 = .ok (.iload 19, 2) := by decide +kernel
theorem dL_judges_740 : decode cL_judges 740 = .ok (.iconst 2, 1) := by decide +kernel
theorem dL_judges_741 : decode cL_judges 741 = .ok (.if_icmp .eq 23, 3) := by decide +kernel
theorem dL_judges_744 : decode cL_judges 744 = .ok (.aload_n 0, 1) := by decide +kernel
theorem dL_judges_745 : decode cL_judges 745 = .ok (.iload 7, 2) := by decide +kernel
theorem dL_judges_747 : decode cL_judges 747 = .ok (.invokevirtual 86, 3) := by decide +kernel
theorem dL_judges_750 : decode cL_judges 750 = .ok (.iload 19, 2) := by decide +kernel
theorem dL_judges_752 : decode cL_judges 752 = .ok (.ifCond .ne 8, 3) := by decide +kernel
theorem dL_judges_755 : decode cL_judges 755 = .ok (.bipush 10, 2) := by decide +kernel
theorem dL_judges_757 : decode cL_judges 757 = .ok (.goto 4, 3) := by decide +kernel
theorem dL_judges_760 : decode cL_judges 760 = .ok (.iconst 5, 1) := by decide +kernel
theorem dL_judges_761 : decode cL_judges 761 = .ok (.if_icmp .ne 7, 3) := by decide +kernel
theorem dL_judges_764 : decode cL_judges 764 = .ok (.iconst 1, 1) := by decide +kernel
theorem dL_judges_765 : decode cL_judges 765 = .ok (.goto 4, 3) := by decide +kernel
theorem dL_judges_769 : decode cL_judges 769 = .ok (.ireturn, 1) := by decide +kernel
set_option maxHeartbeats 8000000 in
set_option maxRecDepth 100000 in
theorem mL_judges (l : Launch) (hst : l.stackTraces = false) (G : gG) (da : Nat → Nat) (v : vSt) (x : gX) (o1 : Nat) (hk_o1 : kd o1 = 10) (p1 : Int32) (ho : oL_judges o1 p1 v) : NI l yL_judges cL_judges 20 .boolean (rmL_judges o1 p1 v) [.ref (ga G o1), .int p1] G da v x (kkL_judges o1 p1 v) (kkL_judges o1 p1 v) 1 (fL_judges o1 p1 v) := by
  refine gofNI (by decide) rfl (Nat.le_of_ble_eq_true rfl) (fun p e s m args below meth c ls Q X hN hH hl E => ?_)
  have hx := X.1
  have hb := X.2.1
  have hown := X.2.2.2.1
  have hts := X.2.2.2.2.1
  have hS : va_S (gA G) s.heap s.heap [] := va_S.rf
  have hkk : kkL_judges o1 p1 v = pot (fL_judges o1 p1 v) - pot v + 54 := rfl
  unfold oL_judges at ho
  have hl : lv_has ls 20 [(0, .ref (ga G o1)), (1, .int p1)] := hl
  refine lv_iload_n hx hb dL_judges_0 rfl (lv_at hl 1 rfl) ?_
  refine lv_aload_n hx hb dL_judges_1 rfl (lv_at hl 0 rfl) ?_
  have hq1 := ho.1
  have ho := ho.2
  refine k_X10_tools X hS hH hk_o1 hq1 t_ml_VernierDrawersLaw_230 hl.1 (Nat.le_of_ble_eq_true rfl) ⟨Nat.le_of_ble_eq_true rfl, Nat.le_of_ble_eq_true rfl⟩ ⟨Nat.zero_le _, Nat.zero_le _⟩ dL_judges_2 ?_
  refine lv_iload_n hx hb dL_judges_5 rfl (lv_at hl 1 rfl) ?_
  refine lv_bipush (v := 9) hx hb dL_judges_6 (by decide) ?_
  refine lv_ishr hx hb dL_judges_8 ?_
  refine lv_bipush (v := 14) hx hb dL_judges_9 (by decide) ?_
  have hq2 := ho.1
  have ho := ho.2
  refine k_L_low X hS hq2 t_ml_VernierDrawersLaw_250 hl.1 (Nat.le_of_ble_eq_true rfl) ⟨Nat.le_of_ble_eq_true rfl, Nat.le_of_ble_eq_true rfl⟩ ⟨Nat.zero_le _, Nat.zero_le _⟩ dL_judges_11 ?_
  have K4 : ∀ (y3 : Int32) (ls : Array Slot), y3 = (if ((fL_low (p1 >>> ((9 : Int32) &&& 31)) 14) : Int32) = 0 then 1 else (if ((fX10_tools o1 v) : Int32) = 0 then 1 else 0) : Int32) → lv_has ls 20 [(0, .ref (ga G o1)), (1, .int p1)] → W p l e (rmL_judges o1 p1 v) s m args below meth c s.heap [] 0 0 Q (F0 m 29 ls [.int y3, .int (fX10_tools o1 v), .int p1]) := by
    intro y3 ls ey3 hl
    have ho := ho y3 ey3
    refine lv_iadd hx hb dL_judges_29 ?_
    have hq5 := ho.1
    have ho := ho.2
    refine k_L_low X hS hq5 t_ml_VernierDrawersLaw_250 hl.1 (Nat.le_of_ble_eq_true rfl) ⟨Nat.le_of_ble_eq_true rfl, Nat.le_of_ble_eq_true rfl⟩ ⟨Nat.zero_le _, Nat.zero_le _⟩ dL_judges_30 ?_
    refine lv_istore_n (lv' := [(2, .int (fL_low p1 ((fX10_tools o1 v) + y3))), (0, .ref (ga G o1)), (1, .int p1)]) hx hb dL_judges_33 rfl hl (by decide) rfl (fun ls hl => ?_)
    refine lv_iload_n hx hb dL_judges_34 rfl (lv_at hl 2 rfl) ?_
    refine lv_iconst (v := 4) hx hb dL_judges_35 (by decide) ?_
    refine lv_ishr hx hb dL_judges_36 ?_
    refine lv_iconst (v := 3) hx hb dL_judges_37 (by decide) ?_
    have hq6 := ho.1
    have ho := ho.2
    refine k_L_low X hS hq6 t_ml_VernierDrawersLaw_250 hl.1 (Nat.le_of_ble_eq_true rfl) ⟨Nat.le_of_ble_eq_true rfl, Nat.le_of_ble_eq_true rfl⟩ ⟨Nat.zero_le _, Nat.zero_le _⟩ dL_judges_38 ?_
    have K8 : ∀ (y7 : Int32) (da : Nat → Nat) (H : Heap) (locs : List Loc) (ls : Array Slot), y7 = (if ((fL_low (p1 >>> ((4 : Int32) &&& 31)) 3) : Int32) ≤ 0 then (fL_low p1 ((fX10_tools o1 v) + y3)) else (if ((fL_bestTool o1 v) : Int32) = (-100104) then (fL_low p1 ((fX10_tools o1 v) + y3)) else ((fX10_bestTool o1 v).2)) : Int32) → Hp G da v x H → va_S (gA G) s.heap H locs → lv_has ls 20 [(0, .ref (ga G o1))] → W p l e (rmL_judges o1 p1 v) s m args below meth c H locs 6 6 Q (F0 m 61 ls [.int y7]) := by
      intro y7 da H locs ls ey7 hH hS hl
      have ho := ho.2 y7 ey7
      refine lv_istore_n (lv' := [(2, .int y7), (0, .ref (ga G o1))]) hx hb dL_judges_61 rfl hl (by decide) rfl (fun ls hl => ?_)
      refine lv_iload_n hx hb dL_judges_62 rfl (lv_at hl 0 rfl) ?_
      refine lv_aload_n hx hb dL_judges_63 rfl (lv_at hl 1 rfl) ?_
      refine k_X10_tools X hS hH hk_o1 hq1 t_ml_VernierDrawersLaw_230 hl.1 (Nat.le_of_ble_eq_true rfl) ⟨Nat.le_of_ble_eq_true rfl, Nat.le_of_ble_eq_true rfl⟩ ⟨(show 6 ≤ kkL_judges o1 p1 v by omega), (show 6 ≤ kkL_judges o1 p1 v by omega)⟩ dL_judges_64 ?_
      have K10 : ∀ (y9 : Int32) (ls : Array Slot), y9 = (if (y7 : Int32) = (fX10_tools o1 v) then 1 else 0 : Int32) → lv_has ls 20 [(2, .int y7), (0, .ref (ga G o1))] → W p l e (rmL_judges o1 p1 v) s m args below meth c H locs 6 6 Q (F0 m 75 ls [.int y9]) := by
        intro y9 ls ey9 hl
        have ho := ho y9 ey9
        refine lv_istore_n (lv' := [(3, .int y9), (2, .int y7), (0, .ref (ga G o1))]) hx hb dL_judges_75 rfl hl (by decide) rfl (fun ls hl => ?_)
        refine lv_iload_n hx hb dL_judges_76 rfl (lv_at hl 0 rfl) ?_
        have K12 : ∀ (y11 : Int32) (ls : Array Slot), y11 = (if (y9 : Int32) = 0 then ((fX10_whyNotJudge o1 y7 v).2) else 0 : Int32) → lv_has ls 20 [(3, .int y9), (2, .int y7), (0, .ref (ga G o1))] → W p l e (rmL_judges o1 p1 v) s m args below meth c H locs 6 6 Q (F0 m 89 ls [.int y11]) := by
          intro y11 ls ey11 hl
          have ho := ho.2 y11 ey11
          refine lv_istore (lv' := [(4, .int y11), (3, .int y9), (2, .int y7), (0, .ref (ga G o1))]) hx hb dL_judges_89 hl (by decide) rfl (fun ls hl => ?_)
          refine lv_iload_n hx hb dL_judges_91 rfl (lv_at hl 1 rfl) ?_
          have K14 : ∀ (y13 : Int32) (da : Nat → Nat) (H : Heap) (locs : List Loc) (ls : Array Slot), y13 = (if (y9 : Int32) = 0 then (fL_wouldJudge o1 y7 v) else ((-100104)) : Int32) → Hp G da v x H → va_S (gA G) s.heap H locs → lv_has ls 20 [(4, .int y11), (3, .int y9), (2, .int y7), (0, .ref (ga G o1))] → W p l e (rmL_judges o1 p1 v) s m args below meth c H locs 18 18 Q (F0 m 105 ls [.int y13]) := by
            intro y13 da H locs ls ey13 hH hS hl
            have ho := ho.2 y13 ey13
            refine lv_istore (lv' := [(5, .int y13), (4, .int y11), (3, .int y9), (2, .int y7), (0, .ref (ga G o1))]) hx hb dL_judges_105 hl (by decide) rfl (fun ls hl => ?_)
            refine lv_aload_n hx hb dL_judges_107 rfl (lv_at hl 4 rfl) ?_
            have hq15 := ho.1
            have ho := ho.2
            refine k_X10_onBench X hS hH hk_o1 hq15 t_ml_VernierDrawersLaw_247 hl.1 (Nat.le_of_ble_eq_true rfl) ⟨Nat.le_of_ble_eq_true rfl, Nat.le_of_ble_eq_true rfl⟩ ⟨(show 18 ≤ kkL_judges o1 p1 v by omega), (show 18 ≤ kkL_judges o1 p1 v by omega)⟩ dL_judges_108 ?_
            refine lv_istore (lv' := [(6, .int (fX10_onBench o1 v)), (5, .int y13), (4, .int y11), (3, .int y9), (2, .int y7), (0, .ref (ga G o1))]) hx hb dL_judges_111 hl (by decide) rfl (fun ls hl => ?_)
            refine lv_iload hx hb dL_judges_113 (lv_at hl 0 rfl) ?_
            have K17 : ∀ (y16 : Int32) (ls : Array Slot), y16 = (if ((fX10_onBench o1 v) : Int32) = 0 then ((-100104)) else ((fX10_typeAt o1 0 v).2) : Int32) → lv_has ls 20 [(6, .int (fX10_onBench o1 v)), (5, .int y13), (4, .int y11), (3, .int y9), (2, .int y7), (0, .ref (ga G o1))] → W p l e (rmL_judges o1 p1 v) s m args below meth c H locs 18 18 Q (F0 m 128 ls [.int y16]) := by
              intro y16 ls ey16 hl
              have ho := ho.2 y16 ey16
              refine lv_istore (lv' := [(7, .int y16), (6, .int (fX10_onBench o1 v)), (5, .int y13), (4, .int y11), (3, .int y9), (2, .int y7), (0, .ref (ga G o1))]) hx hb dL_judges_128 hl (by decide) rfl (fun ls hl => ?_)
              refine lv_aload_n hx hb dL_judges_130 rfl (lv_at hl 6 rfl) ?_
              have hq18 := ho.1
              have ho := ho.2
              refine k_X10_good X hS hH hk_o1 hq18 t_ml_VernierDrawersLaw_218 hl.1 (Nat.le_of_ble_eq_true rfl) ⟨Nat.le_of_ble_eq_true rfl, Nat.le_of_ble_eq_true rfl⟩ ⟨(show 18 ≤ kkL_judges o1 p1 v by omega), (show 18 ≤ kkL_judges o1 p1 v by omega)⟩ dL_judges_131 ?_
              refine lv_istore (lv' := [(8, .int (fX10_good o1 v)), (7, .int y16), (6, .int (fX10_onBench o1 v)), (5, .int y13), (4, .int y11), (3, .int y9), (2, .int y7), (0, .ref (ga G o1))]) hx hb dL_judges_134 hl (by decide) rfl (fun ls hl => ?_)
              refine lv_aload_n hx hb dL_judges_136 rfl (lv_at hl 7 rfl) ?_
              have hq19 := ho.1
              have ho := ho.2
              refine k_X10_toFile X hS hH hk_o1 hq19 t_ml_VernierDrawersLaw_239 hl.1 (Nat.le_of_ble_eq_true rfl) ⟨Nat.le_of_ble_eq_true rfl, Nat.le_of_ble_eq_true rfl⟩ ⟨(show 18 ≤ kkL_judges o1 p1 v by omega), (show 18 ≤ kkL_judges o1 p1 v by omega)⟩ dL_judges_137 ?_
              refine lv_istore (lv' := [(9, .int (fX10_toFile o1 v)), (8, .int (fX10_good o1 v)), (7, .int y16), (6, .int (fX10_onBench o1 v)), (5, .int y13), (4, .int y11), (3, .int y9), (2, .int y7), (0, .ref (ga G o1))]) hx hb dL_judges_140 hl (by decide) rfl (fun ls hl => ?_)
              refine lv_aload_n hx hb dL_judges_142 rfl (lv_at hl 8 rfl) ?_
              have hq20 := ho.1
              have ho := ho.2
              refine k_X10_thrownAway X hS hH hk_o1 hq20 t_ml_VernierDrawersLaw_221 hl.1 (Nat.le_of_ble_eq_true rfl) ⟨Nat.le_of_ble_eq_true rfl, Nat.le_of_ble_eq_true rfl⟩ ⟨(show 18 ≤ kkL_judges o1 p1 v by omega), (show 18 ≤ kkL_judges o1 p1 v by omega)⟩ dL_judges_143 ?_
              refine lv_istore (lv' := [(10, .int (fX10_thrownAway o1 v)), (9, .int (fX10_toFile o1 v)), (8, .int (fX10_good o1 v)), (7, .int y16), (6, .int (fX10_onBench o1 v)), (5, .int y13), (4, .int y11), (3, .int y9), (2, .int y7), (0, .ref (ga G o1))]) hx hb dL_judges_146 hl (by decide) rfl (fun ls hl => ?_)
              refine lv_aload_n hx hb dL_judges_148 rfl (lv_at hl 9 rfl) ?_
              have hq21 := ho.1
              have ho := ho.2
              refine k_X10_doubts X hS hH hk_o1 hq21 t_ml_VernierDrawersLaw_227 hl.1 (Nat.le_of_ble_eq_true rfl) ⟨Nat.le_of_ble_eq_true rfl, Nat.le_of_ble_eq_true rfl⟩ ⟨(show 18 ≤ kkL_judges o1 p1 v by omega), (show 18 ≤ kkL_judges o1 p1 v by omega)⟩ dL_judges_149 ?_
              refine lv_istore (lv' := [(11, .int (fX10_doubts o1 v)), (10, .int (fX10_thrownAway o1 v)), (9, .int (fX10_toFile o1 v)), (8, .int (fX10_good o1 v)), (7, .int y16), (6, .int (fX10_onBench o1 v)), (5, .int y13), (4, .int y11), (3, .int y9), (2, .int y7), (0, .ref (ga G o1))]) hx hb dL_judges_152 hl (by decide) rfl (fun ls hl => ?_)
              refine lv_iload hx hb dL_judges_154 (lv_at hl 4 rfl) ?_
              refine lv_ldc (v := (-100104)) hx hb hown (hts _ t_con_VernierDrawersLaw_73) dL_judges_156 ?_
              have K23 : ∀ (y22 : Int32) (ls : Array Slot), y22 = (if (y16 : Int32) = (-100104) then 0 else ((fX10_mannerOf o1 y16 v).2) : Int32) → lv_has ls 20 [(11, .int (fX10_doubts o1 v)), (10, .int (fX10_thrownAway o1 v)), (9, .int (fX10_toFile o1 v)), (8, .int (fX10_good o1 v)), (7, .int y16), (6, .int (fX10_onBench o1 v)), (5, .int y13), (4, .int y11), (3, .int y9), (2, .int y7), (0, .ref (ga G o1))] → W p l e (rmL_judges o1 p1 v) s m args below meth c H locs 18 18 Q (F0 m 171 ls [.int y22]) := by
                intro y22 ls ey22 hl
                have ho := ho.2 y22 ey22
                refine lv_istore (lv' := [(12, .int y22), (11, .int (fX10_doubts o1 v)), (10, .int (fX10_thrownAway o1 v)), (9, .int (fX10_toFile o1 v)), (8, .int (fX10_good o1 v)), (7, .int y16), (6, .int (fX10_onBench o1 v)), (5, .int y13), (4, .int y11), (3, .int y9), (2, .int y7), (0, .ref (ga G o1))]) hx hb dL_judges_171 hl (by decide) rfl (fun ls hl => ?_)
                refine lv_iload hx hb dL_judges_173 (lv_at hl 5 rfl) ?_
                refine lv_ldc (v := (-100104)) hx hb hown (hts _ t_con_VernierDrawersLaw_73) dL_judges_175 ?_
                have K25 : ∀ (y24 : Int32) (ls : Array Slot), y24 = (if (y16 : Int32) = (-100104) then 0 else ((fX10_recordOf o1 y16 v).2) : Int32) → lv_has ls 20 [(12, .int y22), (11, .int (fX10_doubts o1 v)), (10, .int (fX10_thrownAway o1 v)), (9, .int (fX10_toFile o1 v)), (8, .int (fX10_good o1 v)), (7, .int y16), (6, .int (fX10_onBench o1 v)), (5, .int y13), (4, .int y11), (3, .int y9), (2, .int y7), (0, .ref (ga G o1))] → W p l e (rmL_judges o1 p1 v) s m args below meth c H locs 18 18 Q (F0 m 190 ls [.int y24]) := by
                  intro y24 ls ey24 hl
                  have ho := ho.2 y24 ey24
                  refine lv_istore (lv' := [(13, .int y24), (12, .int y22), (11, .int (fX10_doubts o1 v)), (10, .int (fX10_thrownAway o1 v)), (9, .int (fX10_toFile o1 v)), (8, .int (fX10_good o1 v)), (7, .int y16), (6, .int (fX10_onBench o1 v)), (5, .int y13), (4, .int y11), (3, .int y9), (2, .int y7), (0, .ref (ga G o1))]) hx hb dL_judges_190 hl (by decide) rfl (fun ls hl => ?_)
                  refine lv_iload hx hb dL_judges_192 (lv_at hl 6 rfl) ?_
                  refine lv_ldc (v := (-100104)) hx hb hown (hts _ t_con_VernierDrawersLaw_73) dL_judges_194 ?_
                  have K27 : ∀ (y26 : Int32) (ls : Array Slot), y26 = (if (y16 : Int32) = (-100104) then 0 else ((fX10_badOf o1 y16 v).2) : Int32) → lv_has ls 20 [(13, .int y24), (12, .int y22), (11, .int (fX10_doubts o1 v)), (10, .int (fX10_thrownAway o1 v)), (9, .int (fX10_toFile o1 v)), (8, .int (fX10_good o1 v)), (7, .int y16), (6, .int (fX10_onBench o1 v)), (5, .int y13), (4, .int y11), (3, .int y9), (2, .int y7), (0, .ref (ga G o1))] → W p l e (rmL_judges o1 p1 v) s m args below meth c H locs 18 18 Q (F0 m 209 ls [.int y26]) := by
                    intro y26 ls ey26 hl
                    have ho := ho.2 y26 ey26
                    refine lv_istore (lv' := [(14, .int y26), (13, .int y24), (12, .int y22), (11, .int (fX10_doubts o1 v)), (10, .int (fX10_thrownAway o1 v)), (9, .int (fX10_toFile o1 v)), (8, .int (fX10_good o1 v)), (7, .int y16), (6, .int (fX10_onBench o1 v)), (5, .int y13), (4, .int y11), (3, .int y9), (2, .int y7), (0, .ref (ga G o1))]) hx hb dL_judges_209 hl (by decide) rfl (fun ls hl => ?_)
                    refine lv_iload hx hb dL_judges_211 (lv_at hl 7 rfl) ?_
                    refine lv_ldc (v := (-100104)) hx hb hown (hts _ t_con_VernierDrawersLaw_73) dL_judges_213 ?_
                    have K29 : ∀ (y28 : Int32) (ls : Array Slot), y28 = (if (y16 : Int32) = (-100104) then ((-100104)) else (if (y22 : Int32) = 2 then ((-100104)) else ((fX10_goodUntilChange o1 y16 v).2)) : Int32) → lv_has ls 20 [(14, .int y26), (13, .int y24), (12, .int y22), (11, .int (fX10_doubts o1 v)), (10, .int (fX10_thrownAway o1 v)), (9, .int (fX10_toFile o1 v)), (8, .int (fX10_good o1 v)), (7, .int y16), (6, .int (fX10_onBench o1 v)), (5, .int y13), (4, .int y11), (3, .int y9), (2, .int y7), (0, .ref (ga G o1))] → W p l e (rmL_judges o1 p1 v) s m args below meth c H locs 18 18 Q (F0 m 235 ls [.int y28]) := by
                      intro y28 ls ey28 hl
                      have ho := ho.2 y28 ey28
                      refine lv_istore (lv' := [(15, .int y28), (14, .int y26), (13, .int y24), (12, .int y22), (11, .int (fX10_doubts o1 v)), (10, .int (fX10_thrownAway o1 v)), (9, .int (fX10_toFile o1 v)), (8, .int (fX10_good o1 v)), (7, .int y16), (6, .int (fX10_onBench o1 v)), (5, .int y13), (4, .int y11), (3, .int y9), (2, .int y7), (0, .ref (ga G o1))]) hx hb dL_judges_235 hl (by decide) rfl (fun ls hl => ?_)
                      refine lv_iload hx hb dL_judges_237 (lv_at hl 8 rfl) ?_
                      refine lv_ldc (v := (-100104)) hx hb hown (hts _ t_con_VernierDrawersLaw_73) dL_judges_239 ?_
                      have K31 : ∀ (y30 : Int32) (ls : Array Slot), y30 = (if (y16 : Int32) = (-100104) then 0 else ((fX10_charted o1 y16 v).2) : Int32) → lv_has ls 20 [(15, .int y28), (14, .int y26), (13, .int y24), (12, .int y22), (11, .int (fX10_doubts o1 v)), (10, .int (fX10_thrownAway o1 v)), (9, .int (fX10_toFile o1 v)), (8, .int (fX10_good o1 v)), (7, .int y16), (6, .int (fX10_onBench o1 v)), (5, .int y13), (4, .int y11), (3, .int y9), (2, .int y7), (0, .ref (ga G o1))] → W p l e (rmL_judges o1 p1 v) s m args below meth c H locs 18 18 Q (F0 m 254 ls [.int y30]) := by
                        intro y30 ls ey30 hl
                        have ho := ho.2 y30 ey30
                        refine lv_istore (lv' := [(16, .int y30), (15, .int y28), (14, .int y26), (13, .int y24), (12, .int y22), (11, .int (fX10_doubts o1 v)), (10, .int (fX10_thrownAway o1 v)), (9, .int (fX10_toFile o1 v)), (8, .int (fX10_good o1 v)), (7, .int y16), (6, .int (fX10_onBench o1 v)), (5, .int y13), (4, .int y11), (3, .int y9), (2, .int y7), (0, .ref (ga G o1))]) hx hb dL_judges_254 hl (by decide) rfl (fun ls hl => ?_)
                        refine lv_aload_n hx hb dL_judges_256 rfl (lv_at hl 15 rfl) ?_
                        refine lv_iload_n hx hb dL_judges_257 rfl (lv_at hl 14 rfl) ?_
                        have hq32 := ho.1
                        have ho := ho.2
                        have hk33 : kkL_judge o1 y7 v = pot ((fL_judge o1 y7 v).2) - pot v + 36 := rfl
                        have hq34 := ho.1
                        have ho := ho.2
                        refine k_L_judge hst X hS hN hH hk_o1 hq32 t_ml_VernierDrawersLaw_359 hl.1 (Nat.le_of_ble_eq_true rfl) ⟨Nat.le_of_ble_eq_true rfl, Nat.le_of_ble_eq_true rfl⟩ ⟨(show 18 + kkL_judge o1 y7 v ≤ kkL_judges o1 p1 v by omega), (show 18 + kkL_judge o1 y7 v ≤ kkL_judges o1 p1 v by omega)⟩ dL_judges_258 (fun da H locs v35 ev35 hH hS => ?_)
                        have ho := ho v35 ev35
                        have hp36 : pot v35 = pot ((fL_judge o1 y7 v).2) := by rw [ev35]
                        refine W.widen (k := ((pot v35 - pot v) + 54)) (n := ((pot v35 - pot v) + 54)) (by omega) (by omega) ?_
                        refine lv_istore (lv' := [(17, .int ((fL_judge o1 y7 v).1)), (16, .int y30), (15, .int y28), (14, .int y26), (13, .int y24), (12, .int y22), (11, .int (fX10_doubts o1 v)), (10, .int (fX10_thrownAway o1 v)), (9, .int (fX10_toFile o1 v)), (8, .int (fX10_good o1 v)), (7, .int y16), (6, .int (fX10_onBench o1 v)), (5, .int y13), (4, .int y11), (3, .int y9), (2, .int y7), (0, .ref (ga G o1))]) hx hb dL_judges_261 hl (by decide) rfl (fun ls hl => ?_)
                        refine lv_iload_n hx hb dL_judges_263 rfl (lv_at hl 14 rfl) ?_
                        refine lv_if_ne (tgt := 272) hx hb dL_judges_264 (by decide) (fun c37 => ?_) (fun c37 => ?_)
                        · have ho := ho.2 c37
                          refine lv_iload hx hb dL_judges_272 (lv_at hl 0 rfl) ?_
                          refine lv_iload_n hx hb dL_judges_274 rfl (lv_at hl 14 rfl) ?_
                          have K39 : ∀ (y38 : Int32) (ls : Array Slot), y38 = (if (y9 : Int32) = 0 then ((-100103)) else ((-100102)) : Int32) → lv_has ls 20 [(6, .int (fX10_onBench o1 v)), (5, .int y13), (0, .ref (ga G o1))] → W p l e (rmL_judges o1 p1 v) s m args below meth c H locs ((pot v35 - pot v) + 54) ((pot v35 - pot v) + 54) Q (F0 m 285 ls [.int y38, .int ((fL_judge o1 y7 v).1)]) := by
                            intro y38 ls ey38 hl
                            have ho := ho y38 ey38
                            refine lv_icmp_ne (tgt := 308) hx hb dL_judges_285 (by decide) (fun c40 => ?_) (fun c40 => ?_)
                            · exact absurd ho.1 c40
                            have ho := ho.2
                            refine lv_aload_n hx hb dL_judges_288 rfl (lv_at hl 2 rfl) ?_
                            have hq41 := ho.1
                            have ho := ho.2
                            refine k_X10_onBench X hS hH hk_o1 hq41 t_ml_VernierDrawersLaw_247 hl.1 (Nat.le_of_ble_eq_true rfl) ⟨Nat.le_of_ble_eq_true rfl, Nat.le_of_ble_eq_true rfl⟩ ⟨(show ((pot v35 - pot v) + 54) ≤ kkL_judges o1 p1 v by omega), (show ((pot v35 - pot v) + 54) ≤ kkL_judges o1 p1 v by omega)⟩ dL_judges_289 ?_
                            refine lv_iload hx hb dL_judges_292 (lv_at hl 0 rfl) ?_
                            refine lv_icmp_ne (tgt := 308) hx hb dL_judges_294 (by decide) (fun c42 => ?_) (fun c42 => ?_)
                            · exact absurd ho.1 c42
                            have ho := ho.2
                            refine lv_iload hx hb dL_judges_297 (lv_at hl 1 rfl) ?_
                            refine lv_ldc (v := (-100104)) hx hb hown (hts _ t_con_VernierDrawersLaw_73) dL_judges_299 ?_
                            refine lv_icmp_ne (tgt := 308) hx hb dL_judges_301 (by decide) (fun c43 => ?_) (fun c43 => ?_)
                            · exact absurd ho c43
                            refine lv_iconst (v := 1) hx hb dL_judges_304 (by decide) ?_
                            refine lv_goto (tgt := 309) hx hb dL_judges_305 (by decide) ?_
                            have hHz := hH
                            have hSz := hS
                            have hFz : fL_judges o1 p1 v = v35 := by
                              refine (fL_judges.eq_1 _ _ _).trans ?_
                              dsimp only
                              try rw [← ey3]
                              try rw [← ey7]
                              try rw [← ey9]
                              try rw [← ey11]
                              try rw [← ey13]
                              try rw [← ey16]
                              try rw [← ey22]
                              try rw [← ey24]
                              try rw [← ey26]
                              try rw [← ey28]
                              try rw [← ey30]
                              try rw [← ev35]
                              try rw [← ey38]
                              all_goals rw [if_neg c37]
                            exact E _ _ _ _ _ _ _ _ _ dL_judges_309 rfl rfl (Eq.symm hFz) hHz hSz (show ((pot v35 - pot v) + 54) ≤ kkL_judges o1 p1 v by omega) (show ((pot v35 - pot v) + 54) ≤ kkL_judges o1 p1 v by omega)
                          refine lv_if_eq (tgt := 283) hx hb dL_judges_275 (by decide) (fun c39 => ?_) (fun c39 => ?_)
                          · skip
                            refine lv_ldc (v := (-100103)) hx hb hown (hts _ t_con_VernierDrawersLaw_20) dL_judges_283 ?_
                            have hlz := hl
                            exact K39 _ _ (Eq.symm ((if_pos c39).trans rfl)) (lv_sub hlz [11, 12, 16] rfl)
                          · skip
                            refine lv_ldc (v := (-100102)) hx hb hown (hts _ t_con_VernierDrawersLaw_17) dL_judges_278 ?_
                            refine lv_goto (tgt := 285) hx hb dL_judges_280 (by decide) ?_
                            have hlz := hl
                            exact K39 _ _ (Eq.symm ((if_neg c39).trans rfl)) (lv_sub hlz [11, 12, 16] rfl)
                        · have ho := ho.1 c37
                          refine lv_iload hx hb dL_judges_267 (lv_at hl 13 rfl) ?_
                          refine lv_if_le (tgt := 310) hx hb dL_judges_269 (by decide) (fun c44 => ?_) (fun c44 => ?_)
                          · have ho := ho.1 c44
                            refine lv_iload hx hb dL_judges_310 (lv_at hl 0 rfl) ?_
                            refine lv_iload hx hb dL_judges_312 (lv_at hl 12 rfl) ?_
                            refine lv_icmp_ne (tgt := 425) hx hb dL_judges_314 (by decide) (fun c45 => ?_) (fun c45 => ?_)
                            · exact absurd ho.1 c45
                            have ho := ho.2
                            refine lv_aload_n hx hb dL_judges_317 rfl (lv_at hl 16 rfl) ?_
                            have hq46 := ho.1
                            have ho := ho.2
                            refine k_X10_good X hS hH hk_o1 hq46 t_ml_VernierDrawersLaw_218 hl.1 (Nat.le_of_ble_eq_true rfl) ⟨Nat.le_of_ble_eq_true rfl, Nat.le_of_ble_eq_true rfl⟩ ⟨(show ((pot v35 - pot v) + 54) ≤ kkL_judges o1 p1 v by omega), (show ((pot v35 - pot v) + 54) ≤ kkL_judges o1 p1 v by omega)⟩ dL_judges_318 ?_
                            refine lv_iload hx hb dL_judges_321 (lv_at hl 9 rfl) ?_
                            refine lv_iload hx hb dL_judges_323 (lv_at hl 0 rfl) ?_
                            have K48 : ∀ (y47 : Int32) (ls : Array Slot), y47 = (if (((fL_judge o1 y7 v).1) : Int32) = 0 then 1 else 0 : Int32) → lv_has ls 20 [(17, .int ((fL_judge o1 y7 v).1)), (16, .int y30), (15, .int y28), (14, .int y26), (13, .int y24), (12, .int y22), (11, .int (fX10_doubts o1 v)), (10, .int (fX10_thrownAway o1 v)), (9, .int (fX10_toFile o1 v)), (7, .int y16), (6, .int (fX10_onBench o1 v)), (0, .ref (ga G o1))] → W p l e (rmL_judges o1 p1 v) s m args below meth c H locs ((pot v35 - pot v) + 54) ((pot v35 - pot v) + 54) Q (F0 m 333 ls [.int y47, .int (fX10_good o1 v), .int (fX10_good o1 v35)]) := by
                              intro y47 ls ey47 hl
                              have ho := ho y47 ey47
                              refine lv_iadd hx hb dL_judges_333 ?_
                              refine lv_icmp_ne (tgt := 425) hx hb dL_judges_334 (by decide) (fun c49 => ?_) (fun c49 => ?_)
                              · exact absurd ho.1 c49
                              have ho := ho.2
                              refine lv_aload_n hx hb dL_judges_337 rfl (lv_at hl 11 rfl) ?_
                              have hq50 := ho.1
                              have ho := ho.2
                              refine k_X10_toFile X hS hH hk_o1 hq50 t_ml_VernierDrawersLaw_239 hl.1 (Nat.le_of_ble_eq_true rfl) ⟨Nat.le_of_ble_eq_true rfl, Nat.le_of_ble_eq_true rfl⟩ ⟨(show ((pot v35 - pot v) + 54) ≤ kkL_judges o1 p1 v by omega), (show ((pot v35 - pot v) + 54) ≤ kkL_judges o1 p1 v by omega)⟩ dL_judges_338 ?_
                              refine lv_iload hx hb dL_judges_341 (lv_at hl 8 rfl) ?_
                              refine lv_iload hx hb dL_judges_343 (lv_at hl 0 rfl) ?_
                              refine lv_iconst (v := 1) hx hb dL_judges_345 (by decide) ?_
                              have K52 : ∀ (y51 : Int32) (ls : Array Slot), y51 = (if (((fL_judge o1 y7 v).1) : Int32) = 1 then 1 else 0 : Int32) → lv_has ls 20 [(17, .int ((fL_judge o1 y7 v).1)), (16, .int y30), (15, .int y28), (14, .int y26), (13, .int y24), (12, .int y22), (11, .int (fX10_doubts o1 v)), (10, .int (fX10_thrownAway o1 v)), (7, .int y16), (6, .int (fX10_onBench o1 v)), (0, .ref (ga G o1))] → W p l e (rmL_judges o1 p1 v) s m args below meth c H locs ((pot v35 - pot v) + 54) ((pot v35 - pot v) + 54) Q (F0 m 354 ls [.int y51, .int (fX10_toFile o1 v), .int (fX10_toFile o1 v35)]) := by
                                intro y51 ls ey51 hl
                                have ho := ho y51 ey51
                                refine lv_iadd hx hb dL_judges_354 ?_
                                refine lv_icmp_ne (tgt := 425) hx hb dL_judges_355 (by decide) (fun c53 => ?_) (fun c53 => ?_)
                                · exact absurd ho.1 c53
                                have ho := ho.2
                                refine lv_aload_n hx hb dL_judges_358 rfl (lv_at hl 10 rfl) ?_
                                have hq54 := ho.1
                                have ho := ho.2
                                refine k_X10_thrownAway X hS hH hk_o1 hq54 t_ml_VernierDrawersLaw_221 hl.1 (Nat.le_of_ble_eq_true rfl) ⟨Nat.le_of_ble_eq_true rfl, Nat.le_of_ble_eq_true rfl⟩ ⟨(show ((pot v35 - pot v) + 54) ≤ kkL_judges o1 p1 v by omega), (show ((pot v35 - pot v) + 54) ≤ kkL_judges o1 p1 v by omega)⟩ dL_judges_359 ?_
                                refine lv_iload hx hb dL_judges_362 (lv_at hl 7 rfl) ?_
                                refine lv_iload hx hb dL_judges_364 (lv_at hl 0 rfl) ?_
                                refine lv_iconst (v := 2) hx hb dL_judges_366 (by decide) ?_
                                have K56 : ∀ (y55 : Int32) (ls : Array Slot), y55 = (if (((fL_judge o1 y7 v).1) : Int32) = 2 then 1 else 0 : Int32) → lv_has ls 20 [(17, .int ((fL_judge o1 y7 v).1)), (16, .int y30), (15, .int y28), (14, .int y26), (13, .int y24), (12, .int y22), (11, .int (fX10_doubts o1 v)), (7, .int y16), (6, .int (fX10_onBench o1 v)), (0, .ref (ga G o1))] → W p l e (rmL_judges o1 p1 v) s m args below meth c H locs ((pot v35 - pot v) + 54) ((pot v35 - pot v) + 54) Q (F0 m 375 ls [.int y55, .int (fX10_thrownAway o1 v), .int (fX10_thrownAway o1 v35)]) := by
                                  intro y55 ls ey55 hl
                                  have ho := ho y55 ey55
                                  refine lv_iadd hx hb dL_judges_375 ?_
                                  refine lv_icmp_ne (tgt := 425) hx hb dL_judges_376 (by decide) (fun c57 => ?_) (fun c57 => ?_)
                                  · exact absurd ho.1 c57
                                  have ho := ho.2
                                  refine lv_aload_n hx hb dL_judges_379 rfl (lv_at hl 9 rfl) ?_
                                  have hq58 := ho.1
                                  have ho := ho.2
                                  refine k_X10_doubts X hS hH hk_o1 hq58 t_ml_VernierDrawersLaw_227 hl.1 (Nat.le_of_ble_eq_true rfl) ⟨Nat.le_of_ble_eq_true rfl, Nat.le_of_ble_eq_true rfl⟩ ⟨(show ((pot v35 - pot v) + 54) ≤ kkL_judges o1 p1 v by omega), (show ((pot v35 - pot v) + 54) ≤ kkL_judges o1 p1 v by omega)⟩ dL_judges_380 ?_
                                  refine lv_iload hx hb dL_judges_383 (lv_at hl 6 rfl) ?_
                                  refine lv_iload hx hb dL_judges_385 (lv_at hl 0 rfl) ?_
                                  refine lv_iconst (v := 3) hx hb dL_judges_387 (by decide) ?_
                                  have K60 : ∀ (y59 : Int32) (ls : Array Slot), y59 = (if (((fL_judge o1 y7 v).1) : Int32) = 3 then 1 else 0 : Int32) → lv_has ls 20 [(17, .int ((fL_judge o1 y7 v).1)), (16, .int y30), (15, .int y28), (14, .int y26), (13, .int y24), (12, .int y22), (7, .int y16), (6, .int (fX10_onBench o1 v)), (0, .ref (ga G o1))] → W p l e (rmL_judges o1 p1 v) s m args below meth c H locs ((pot v35 - pot v) + 54) ((pot v35 - pot v) + 54) Q (F0 m 396 ls [.int y59, .int (fX10_doubts o1 v), .int (fX10_doubts o1 v35)]) := by
                                    intro y59 ls ey59 hl
                                    have ho := ho y59 ey59
                                    refine lv_iadd hx hb dL_judges_396 ?_
                                    refine lv_icmp_ne (tgt := 425) hx hb dL_judges_397 (by decide) (fun c61 => ?_) (fun c61 => ?_)
                                    · exact absurd ho.1 c61
                                    have ho := ho.2
                                    refine lv_aload_n hx hb dL_judges_400 rfl (lv_at hl 8 rfl) ?_
                                    have hq62 := ho.1
                                    have ho := ho.2
                                    refine k_X10_onBench X hS hH hk_o1 hq62 t_ml_VernierDrawersLaw_247 hl.1 (Nat.le_of_ble_eq_true rfl) ⟨Nat.le_of_ble_eq_true rfl, Nat.le_of_ble_eq_true rfl⟩ ⟨(show ((pot v35 - pot v) + 54) ≤ kkL_judges o1 p1 v by omega), (show ((pot v35 - pot v) + 54) ≤ kkL_judges o1 p1 v by omega)⟩ dL_judges_401 ?_
                                    refine lv_iload hx hb dL_judges_404 (lv_at hl 7 rfl) ?_
                                    refine lv_iload hx hb dL_judges_406 (lv_at hl 0 rfl) ?_
                                    refine lv_iconst (v := 3) hx hb dL_judges_408 (by decide) ?_
                                    have K64 : ∀ (y63 : Int32) (ls : Array Slot), y63 = (if (((fL_judge o1 y7 v).1) : Int32) = 3 then 0 else 1 : Int32) → lv_has ls 20 [(17, .int ((fL_judge o1 y7 v).1)), (16, .int y30), (15, .int y28), (14, .int y26), (13, .int y24), (12, .int y22), (7, .int y16), (6, .int (fX10_onBench o1 v)), (0, .ref (ga G o1))] → W p l e (rmL_judges o1 p1 v) s m args below meth c H locs ((pot v35 - pot v) + 54) ((pot v35 - pot v) + 54) Q (F0 m 417 ls [.int y63, .int (fX10_onBench o1 v), .int (fX10_onBench o1 v35)]) := by
                                      intro y63 ls ey63 hl
                                      have ho := ho y63 ey63
                                      refine lv_isub hx hb dL_judges_417 ?_
                                      refine lv_icmp_ne (tgt := 425) hx hb dL_judges_418 (by decide) (fun c65 => ?_) (fun c65 => ?_)
                                      · exact absurd ho.1 c65
                                      have ho := ho.2
                                      refine lv_iconst (v := 1) hx hb dL_judges_421 (by decide) ?_
                                      refine lv_goto (tgt := 426) hx hb dL_judges_422 (by decide) ?_
                                      refine lv_istore (lv' := [(18, .int 1), (17, .int ((fL_judge o1 y7 v).1)), (16, .int y30), (15, .int y28), (14, .int y26), (13, .int y24), (12, .int y22), (7, .int y16), (6, .int (fX10_onBench o1 v)), (0, .ref (ga G o1))]) hx hb dL_judges_426 hl (by decide) rfl (fun ls hl => ?_)
                                      refine lv_iload hx hb dL_judges_428 (lv_at hl 1 rfl) ?_
                                      refine lv_iconst (v := 3) hx hb dL_judges_430 (by decide) ?_
                                      refine lv_icmp_ne (tgt := 502) hx hb dL_judges_431 (by decide) (fun c66 => ?_) (fun c66 => ?_)
                                      · have ho := ho.2 c66
                                        refine lv_aload_n hx hb dL_judges_502 rfl (lv_at hl 9 rfl) ?_
                                        refine lv_iload hx hb dL_judges_503 (lv_at hl 7 rfl) ?_
                                        have hq67 := ho.1
                                        have ho := ho.2
                                        have hq68 := ho.1
                                        have ho := ho.2
                                        refine kZ_X10_mannerOf X hS hH hk_o1 hq67 hq68 t_ml_VernierDrawersLaw_179 hl.1 (Nat.le_of_ble_eq_true rfl) ⟨Nat.le_of_ble_eq_true rfl, Nat.le_of_ble_eq_true rfl⟩ ⟨(show ((pot v35 - pot v) + 54) ≤ kkL_judges o1 p1 v by omega), (show ((pot v35 - pot v) + 54) ≤ kkL_judges o1 p1 v by omega)⟩ dL_judges_505 ?_
                                        refine lv_istore (lv' := [(19, .int ((fX10_mannerOf o1 y16 v35).2)), (18, .int 1), (17, .int ((fL_judge o1 y7 v).1)), (16, .int y30), (15, .int y28), (14, .int y26), (13, .int y24), (12, .int y22), (7, .int y16), (6, .int (fX10_onBench o1 v)), (0, .ref (ga G o1))]) hx hb dL_judges_508 hl (by decide) rfl (fun ls hl => ?_)
                                        refine lv_iload hx hb dL_judges_510 (lv_at hl 1 rfl) ?_
                                        refine lv_if_eq (tgt := 619) hx hb dL_judges_512 (by decide) (fun c69 => absurd c69 (by decide)) (fun c69 => ?_)
                                        refine lv_aload_n hx hb dL_judges_515 rfl (lv_at hl 10 rfl) ?_
                                        refine lv_iload hx hb dL_judges_516 (lv_at hl 8 rfl) ?_
                                        have hq70 := ho.1
                                        have ho := ho.2
                                        have hq71 := ho.1
                                        have ho := ho.2
                                        refine kZ_X10_charted X hS hH hk_o1 hq70 hq71 t_ml_VernierDrawersLaw_188 hl.1 (Nat.le_of_ble_eq_true rfl) ⟨Nat.le_of_ble_eq_true rfl, Nat.le_of_ble_eq_true rfl⟩ ⟨(show ((pot v35 - pot v) + 54) ≤ kkL_judges o1 p1 v by omega), (show ((pot v35 - pot v) + 54) ≤ kkL_judges o1 p1 v by omega)⟩ dL_judges_518 ?_
                                        refine lv_iload hx hb dL_judges_521 (lv_at hl 3 rfl) ?_
                                        refine lv_bipush (v := 12) hx hb dL_judges_523 (by decide) ?_
                                        have K73 : ∀ (y72 : Int32) (ls : Array Slot), y72 = (if (y30 : Int32) = 12 then 12 else (y30 + (1 : Int32)) : Int32) → lv_has ls 20 [(19, .int ((fX10_mannerOf o1 y16 v35).2)), (17, .int ((fL_judge o1 y7 v).1)), (15, .int y28), (14, .int y26), (13, .int y24), (12, .int y22), (7, .int y16), (0, .ref (ga G o1))] → W p l e (rmL_judges o1 p1 v) s m args below meth c H locs ((pot v35 - pot v) + 54) ((pot v35 - pot v) + 54) Q (F0 m 537 ls [.int y72, .int ((fX10_charted o1 y16 v35).2)]) := by
                                          intro y72 ls ey72 hl
                                          have ho := ho y72 ey72
                                          refine lv_icmp_ne (tgt := 619) hx hb dL_judges_537 (by decide) (fun c74 => ?_) (fun c74 => ?_)
                                          · exact absurd ho.1 c74
                                          have ho := ho.2
                                          refine lv_iload hx hb dL_judges_540 (lv_at hl 0 rfl) ?_
                                          refine lv_iload hx hb dL_judges_542 (lv_at hl 5 rfl) ?_
                                          have K75 : ∀  (ls : Array Slot), lv_has ls 20 [(19, .int ((fX10_mannerOf o1 y16 v35).2)), (17, .int ((fL_judge o1 y7 v).1)), (15, .int y28), (12, .int y22), (7, .int y16), (0, .ref (ga G o1))] → W p l e (rmL_judges o1 p1 v) s m args below meth c H locs ((pot v35 - pot v) + 54) ((pot v35 - pot v) + 54) Q (F0 m 615 ls []) := by
                                            intro  ls  hl
                                            have ho := ho.2
                                            refine lv_iconst (v := 1) hx hb dL_judges_615 (by decide) ?_
                                            refine lv_goto (tgt := 620) hx hb dL_judges_616 (by decide) ?_
                                            refine lv_istore (lv' := [(18, .int 1), (19, .int ((fX10_mannerOf o1 y16 v35).2)), (17, .int ((fL_judge o1 y7 v).1)), (15, .int y28), (12, .int y22), (7, .int y16), (0, .ref (ga G o1))]) hx hb dL_judges_620 hl (by decide) rfl (fun ls hl => ?_)
                                            refine lv_iload hx hb dL_judges_622 (lv_at hl 2 rfl) ?_
                                            refine lv_if_ne (tgt := 698) hx hb dL_judges_624 (by decide) (fun c76 => ?_) (fun c76 => ?_)
                                            · have ho := ho.2 c76
                                              refine lv_iload hx hb dL_judges_698 (lv_at hl 0 rfl) ?_
                                              refine lv_if_eq (tgt := 768) hx hb dL_judges_700 (by decide) (fun c77 => absurd c77 (by decide)) (fun c77 => ?_)
                                              refine lv_iload hx hb dL_judges_703 (lv_at hl 4 rfl) ?_
                                              refine lv_iconst (v := 2) hx hb dL_judges_705 (by decide) ?_
                                              have K78 : ∀  (ls : Array Slot), lv_has ls 20 [(19, .int ((fX10_mannerOf o1 y16 v35).2)), (7, .int y16), (0, .ref (ga G o1))] → W p l e (rmL_judges o1 p1 v) s m args below meth c H locs ((pot v35 - pot v) + 54) ((pot v35 - pot v) + 54) Q (F0 m 738 ls []) := by
                                                intro  ls  hl
                                                have ho := ho.2
                                                refine lv_iload hx hb dL_judges_738 (lv_at hl 0 rfl) ?_
                                                refine lv_iconst (v := 2) hx hb dL_judges_740 (by decide) ?_
                                                refine lv_icmp_eq (tgt := 764) hx hb dL_judges_741 (by decide) (fun c79 => ?_) (fun c79 => ?_)
                                                · skip
                                                  refine lv_iconst (v := 1) hx hb dL_judges_764 (by decide) ?_
                                                  refine lv_goto (tgt := 769) hx hb dL_judges_765 (by decide) ?_
                                                  have hHz := hH
                                                  have hSz := hS
                                                  have hFz : fL_judges o1 p1 v = v35 := by
                                                    refine (fL_judges.eq_1 _ _ _).trans ?_
                                                    dsimp only
                                                    try rw [← ey3]
                                                    try rw [← ey7]
                                                    try rw [← ey9]
                                                    try rw [← ey11]
                                                    try rw [← ey13]
                                                    try rw [← ey16]
                                                    try rw [← ey22]
                                                    try rw [← ey24]
                                                    try rw [← ey26]
                                                    try rw [← ey28]
                                                    try rw [← ey30]
                                                    try rw [← ev35]
                                                    try rw [← ey47]
                                                    try rw [← ey51]
                                                    try rw [← ey55]
                                                    try rw [← ey59]
                                                    try rw [← ey63]
                                                    try rw [← ey72]
                                                    all_goals rw [if_pos c37]
                                                    all_goals rw [if_pos c44]
                                                    all_goals rw [if_neg c66]
                                                    all_goals rw [if_neg c76]
                                                    all_goals rw [if_pos c79]
                                                  exact E _ _ _ _ _ _ _ _ _ dL_judges_769 rfl rfl (Eq.symm hFz) hHz hSz (show ((pot v35 - pot v) + 54) ≤ kkL_judges o1 p1 v by omega) (show ((pot v35 - pot v) + 54) ≤ kkL_judges o1 p1 v by omega)
                                                · have ho := ho c79
                                                  refine lv_aload_n hx hb dL_judges_744 rfl (lv_at hl 2 rfl) ?_
                                                  refine lv_iload hx hb dL_judges_745 (lv_at hl 1 rfl) ?_
                                                  have hq80 := ho.1
                                                  have ho := ho.2
                                                  have hq81 := ho.1
                                                  have ho := ho.2
                                                  refine kZ_X10_goodUntilChange X hS hH hk_o1 hq80 hq81 t_ml_VernierDrawersLaw_86 hl.1 (Nat.le_of_ble_eq_true rfl) ⟨Nat.le_of_ble_eq_true rfl, Nat.le_of_ble_eq_true rfl⟩ ⟨(show ((pot v35 - pot v) + 54) ≤ kkL_judges o1 p1 v by omega), (show ((pot v35 - pot v) + 54) ≤ kkL_judges o1 p1 v by omega)⟩ dL_judges_747 ?_
                                                  refine lv_iload hx hb dL_judges_750 (lv_at hl 0 rfl) ?_
                                                  have K83 : ∀ (y82 : Int32) (ls : Array Slot), y82 = (if (((fX10_mannerOf o1 y16 v35).2) : Int32) = 0 then 10 else 5 : Int32) → lv_has ls 20 [] → W p l e (rmL_judges o1 p1 v) s m args below meth c H locs ((pot v35 - pot v) + 54) ((pot v35 - pot v) + 54) Q (F0 m 761 ls [.int y82, .int ((fX10_goodUntilChange o1 y16 v35).2)]) := by
                                                    intro y82 ls ey82 hl
                                                    have ho := ho y82 ey82
                                                    refine lv_icmp_ne (tgt := 768) hx hb dL_judges_761 (by decide) (fun c84 => ?_) (fun c84 => ?_)
                                                    · exact absurd ho c84
                                                    refine lv_iconst (v := 1) hx hb dL_judges_764 (by decide) ?_
                                                    refine lv_goto (tgt := 769) hx hb dL_judges_765 (by decide) ?_
                                                    have hHz := hH
                                                    have hSz := hS
                                                    have hFz : fL_judges o1 p1 v = v35 := by
                                                      refine (fL_judges.eq_1 _ _ _).trans ?_
                                                      dsimp only
                                                      try rw [← ey3]
                                                      try rw [← ey7]
                                                      try rw [← ey9]
                                                      try rw [← ey11]
                                                      try rw [← ey13]
                                                      try rw [← ey16]
                                                      try rw [← ey22]
                                                      try rw [← ey24]
                                                      try rw [← ey26]
                                                      try rw [← ey28]
                                                      try rw [← ey30]
                                                      try rw [← ev35]
                                                      try rw [← ey47]
                                                      try rw [← ey51]
                                                      try rw [← ey55]
                                                      try rw [← ey59]
                                                      try rw [← ey63]
                                                      try rw [← ey72]
                                                      try rw [← ey82]
                                                      all_goals rw [if_pos c37]
                                                      all_goals rw [if_pos c44]
                                                      all_goals rw [if_neg c66]
                                                      all_goals rw [if_neg c76]
                                                      all_goals rw [if_neg c79]
                                                    exact E _ _ _ _ _ _ _ _ _ dL_judges_769 rfl rfl (Eq.symm hFz) hHz hSz (show ((pot v35 - pot v) + 54) ≤ kkL_judges o1 p1 v by omega) (show ((pot v35 - pot v) + 54) ≤ kkL_judges o1 p1 v by omega)
                                                  refine lv_if_ne (tgt := 760) hx hb dL_judges_752 (by decide) (fun c83 => ?_) (fun c83 => ?_)
                                                  · skip
                                                    refine lv_iconst (v := 5) hx hb dL_judges_760 (by decide) ?_
                                                    have hlz := hl
                                                    exact K83 _ _ (Eq.symm ((if_neg c83).trans rfl)) (lv_sub hlz [] rfl)
                                                  · skip
                                                    refine lv_bipush (v := 10) hx hb dL_judges_755 (by decide) ?_
                                                    refine lv_goto (tgt := 761) hx hb dL_judges_757 (by decide) ?_
                                                    have hlz := hl
                                                    exact K83 _ _ (Eq.symm ((if_pos c83).trans rfl)) (lv_sub hlz [] rfl)
                                              have ho := ho.1
                                              refine lv_icmp_ne (tgt := 717) hx hb dL_judges_706 (by decide) (fun c78 => ?_) (fun c78 => ?_)
                                              · have ho := ho.2 c78
                                                refine lv_iload hx hb dL_judges_717 (lv_at hl 4 rfl) ?_
                                                refine lv_iconst (v := 1) hx hb dL_judges_719 (by decide) ?_
                                                refine lv_icmp_ne (tgt := 732) hx hb dL_judges_720 (by decide) (fun c79 => ?_) (fun c79 => ?_)
                                                · have ho := ho.2 c79
                                                  refine lv_iload hx hb dL_judges_732 (lv_at hl 1 rfl) ?_
                                                  refine lv_iconst (v := 2) hx hb dL_judges_734 (by decide) ?_
                                                  refine lv_icmp_ge (tgt := 768) hx hb dL_judges_735 (by decide) (fun c80 => ?_) (fun c80 => ?_)
                                                  · exact absurd c80 ho
                                                  have hlz := hl
                                                  exact K78  _  (lv_sub hlz [1, 5, 6] rfl)
                                                · have ho := ho.1 c79
                                                  refine lv_iload hx hb dL_judges_723 (lv_at hl 1 rfl) ?_
                                                  refine lv_iconst (v := 1) hx hb dL_judges_725 (by decide) ?_
                                                  refine lv_icmp_ne (tgt := 768) hx hb dL_judges_726 (by decide) (fun c81 => ?_) (fun c81 => ?_)
                                                  · exact absurd ho c81
                                                  refine lv_goto (tgt := 738) hx hb dL_judges_729 (by decide) ?_
                                                  have hlz := hl
                                                  exact K78  _  (lv_sub hlz [1, 5, 6] rfl)
                                              · have ho := ho.1 c78
                                                refine lv_iload hx hb dL_judges_709 (lv_at hl 1 rfl) ?_
                                                refine lv_if_ne (tgt := 768) hx hb dL_judges_711 (by decide) (fun c82 => ?_) (fun c82 => ?_)
                                                · exact absurd ho c82
                                                refine lv_goto (tgt := 738) hx hb dL_judges_714 (by decide) ?_
                                                have hlz := hl
                                                exact K78  _  (lv_sub hlz [1, 5, 6] rfl)
                                            · have ho := ho.1 c76
                                              refine lv_iload hx hb dL_judges_627 (lv_at hl 0 rfl) ?_
                                              refine lv_if_eq (tgt := 696) hx hb dL_judges_629 (by decide) (fun c85 => absurd c85 (by decide)) (fun c85 => ?_)
                                              refine lv_iload hx hb dL_judges_632 (lv_at hl 3 rfl) ?_
                                              refine lv_ldc (v := (-100104)) hx hb hown (hts _ t_con_VernierDrawersLaw_73) dL_judges_634 ?_
                                              refine lv_icmp_ne (tgt := 648) hx hb dL_judges_636 (by decide) (fun c86 => ?_) (fun c86 => ?_)
                                              · have ho := ho.2 c86
                                                refine lv_iload hx hb dL_judges_648 (lv_at hl 3 rfl) ?_
                                                refine lv_iconst (v := 1) hx hb dL_judges_650 (by decide) ?_
                                                refine lv_icmp_ne (tgt := 672) hx hb dL_judges_651 (by decide) (fun c87 => ?_) (fun c87 => ?_)
                                                · have ho := ho.2 c87
                                                  refine lv_iload hx hb dL_judges_672 (lv_at hl 1 rfl) ?_
                                                  refine lv_iload hx hb dL_judges_674 (lv_at hl 4 rfl) ?_
                                                  refine lv_icmp_ne (tgt := 696) hx hb dL_judges_676 (by decide) (fun c88 => ?_) (fun c88 => ?_)
                                                  · exact absurd ho.1 c88
                                                  have ho := ho.2
                                                  refine lv_aload_n hx hb dL_judges_679 rfl (lv_at hl 6 rfl) ?_
                                                  refine lv_iload hx hb dL_judges_680 (lv_at hl 5 rfl) ?_
                                                  have hq89 := ho.1
                                                  have ho := ho.2
                                                  have hq90 := ho.1
                                                  have ho := ho.2
                                                  refine kZ_X10_goodUntilChange X hS hH hk_o1 hq89 hq90 t_ml_VernierDrawersLaw_86 hl.1 (Nat.le_of_ble_eq_true rfl) ⟨Nat.le_of_ble_eq_true rfl, Nat.le_of_ble_eq_true rfl⟩ ⟨(show ((pot v35 - pot v) + 54) ≤ kkL_judges o1 p1 v by omega), (show ((pot v35 - pot v) + 54) ≤ kkL_judges o1 p1 v by omega)⟩ dL_judges_682 ?_
                                                  refine lv_iload hx hb dL_judges_685 (lv_at hl 3 rfl) ?_
                                                  refine lv_iconst (v := 1) hx hb dL_judges_687 (by decide) ?_
                                                  refine lv_isub hx hb dL_judges_688 ?_
                                                  refine lv_icmp_ne (tgt := 696) hx hb dL_judges_689 (by decide) (fun c91 => ?_) (fun c91 => ?_)
                                                  · exact absurd ho c91
                                                  refine lv_iconst (v := 1) hx hb dL_judges_692 (by decide) ?_
                                                  refine lv_goto (tgt := 697) hx hb dL_judges_693 (by decide) ?_
                                                  have hHz := hH
                                                  have hSz := hS
                                                  have hFz : fL_judges o1 p1 v = v35 := by
                                                    refine (fL_judges.eq_1 _ _ _).trans ?_
                                                    dsimp only
                                                    try rw [← ey3]
                                                    try rw [← ey7]
                                                    try rw [← ey9]
                                                    try rw [← ey11]
                                                    try rw [← ey13]
                                                    try rw [← ey16]
                                                    try rw [← ey22]
                                                    try rw [← ey24]
                                                    try rw [← ey26]
                                                    try rw [← ey28]
                                                    try rw [← ey30]
                                                    try rw [← ev35]
                                                    try rw [← ey47]
                                                    try rw [← ey51]
                                                    try rw [← ey55]
                                                    try rw [← ey59]
                                                    try rw [← ey63]
                                                    try rw [← ey72]
                                                    all_goals rw [if_pos c37]
                                                    all_goals rw [if_pos c44]
                                                    all_goals rw [if_neg c66]
                                                    all_goals rw [if_pos c76]
                                                    all_goals rw [if_neg c86]
                                                    all_goals rw [if_neg c87]
                                                  exact E _ _ _ _ _ _ _ _ _ dL_judges_697 rfl rfl (Eq.symm hFz) hHz hSz (show ((pot v35 - pot v) + 54) ≤ kkL_judges o1 p1 v by omega) (show ((pot v35 - pot v) + 54) ≤ kkL_judges o1 p1 v by omega)
                                                · have ho := ho.1 c87
                                                  refine lv_iload hx hb dL_judges_654 (lv_at hl 1 rfl) ?_
                                                  refine lv_iload hx hb dL_judges_656 (lv_at hl 4 rfl) ?_
                                                  have K93 : ∀ (y92 : Int32) (ls : Array Slot), y92 = (if (y22 : Int32) = 0 then 2 else 0 : Int32) → lv_has ls 20 [] → W p l e (rmL_judges o1 p1 v) s m args below meth c H locs ((pot v35 - pot v) + 54) ((pot v35 - pot v) + 54) Q (F0 m 666 ls [.int y92, .int ((fX10_mannerOf o1 y16 v35).2)]) := by
                                                    intro y92 ls ey92 hl
                                                    have ho := ho y92 ey92
                                                    refine lv_icmp_ne (tgt := 696) hx hb dL_judges_666 (by decide) (fun c94 => ?_) (fun c94 => ?_)
                                                    · exact absurd ho c94
                                                    refine lv_goto (tgt := 692) hx hb dL_judges_669 (by decide) ?_
                                                    refine lv_iconst (v := 1) hx hb dL_judges_692 (by decide) ?_
                                                    refine lv_goto (tgt := 697) hx hb dL_judges_693 (by decide) ?_
                                                    have hHz := hH
                                                    have hSz := hS
                                                    have hFz : fL_judges o1 p1 v = v35 := by
                                                      refine (fL_judges.eq_1 _ _ _).trans ?_
                                                      dsimp only
                                                      try rw [← ey3]
                                                      try rw [← ey7]
                                                      try rw [← ey9]
                                                      try rw [← ey11]
                                                      try rw [← ey13]
                                                      try rw [← ey16]
                                                      try rw [← ey22]
                                                      try rw [← ey24]
                                                      try rw [← ey26]
                                                      try rw [← ey28]
                                                      try rw [← ey30]
                                                      try rw [← ev35]
                                                      try rw [← ey47]
                                                      try rw [← ey51]
                                                      try rw [← ey55]
                                                      try rw [← ey59]
                                                      try rw [← ey63]
                                                      try rw [← ey72]
                                                      try rw [← ey92]
                                                      all_goals rw [if_pos c37]
                                                      all_goals rw [if_pos c44]
                                                      all_goals rw [if_neg c66]
                                                      all_goals rw [if_pos c76]
                                                      all_goals rw [if_neg c86]
                                                      all_goals rw [if_pos c87]
                                                    exact E _ _ _ _ _ _ _ _ _ dL_judges_697 rfl rfl (Eq.symm hFz) hHz hSz (show ((pot v35 - pot v) + 54) ≤ kkL_judges o1 p1 v by omega) (show ((pot v35 - pot v) + 54) ≤ kkL_judges o1 p1 v by omega)
                                                  refine lv_if_ne (tgt := 665) hx hb dL_judges_658 (by decide) (fun c93 => ?_) (fun c93 => ?_)
                                                  · skip
                                                    refine lv_iconst (v := 0) hx hb dL_judges_665 (by decide) ?_
                                                    have hlz := hl
                                                    exact K93 _ _ (Eq.symm ((if_neg c93).trans rfl)) (lv_sub hlz [] rfl)
                                                  · skip
                                                    refine lv_iconst (v := 2) hx hb dL_judges_661 (by decide) ?_
                                                    refine lv_goto (tgt := 666) hx hb dL_judges_662 (by decide) ?_
                                                    have hlz := hl
                                                    exact K93 _ _ (Eq.symm ((if_pos c93).trans rfl)) (lv_sub hlz [] rfl)
                                              · have ho := ho.1 c86
                                                refine lv_iload hx hb dL_judges_639 (lv_at hl 1 rfl) ?_
                                                refine lv_iconst (v := 2) hx hb dL_judges_641 (by decide) ?_
                                                refine lv_icmp_ne (tgt := 696) hx hb dL_judges_642 (by decide) (fun c95 => ?_) (fun c95 => ?_)
                                                · exact absurd ho c95
                                                refine lv_goto (tgt := 692) hx hb dL_judges_645 (by decide) ?_
                                                refine lv_iconst (v := 1) hx hb dL_judges_692 (by decide) ?_
                                                refine lv_goto (tgt := 697) hx hb dL_judges_693 (by decide) ?_
                                                have hHz := hH
                                                have hSz := hS
                                                have hFz : fL_judges o1 p1 v = v35 := by
                                                  refine (fL_judges.eq_1 _ _ _).trans ?_
                                                  dsimp only
                                                  try rw [← ey3]
                                                  try rw [← ey7]
                                                  try rw [← ey9]
                                                  try rw [← ey11]
                                                  try rw [← ey13]
                                                  try rw [← ey16]
                                                  try rw [← ey22]
                                                  try rw [← ey24]
                                                  try rw [← ey26]
                                                  try rw [← ey28]
                                                  try rw [← ey30]
                                                  try rw [← ev35]
                                                  try rw [← ey47]
                                                  try rw [← ey51]
                                                  try rw [← ey55]
                                                  try rw [← ey59]
                                                  try rw [← ey63]
                                                  try rw [← ey72]
                                                  all_goals rw [if_pos c37]
                                                  all_goals rw [if_pos c44]
                                                  all_goals rw [if_neg c66]
                                                  all_goals rw [if_pos c76]
                                                  all_goals rw [if_pos c86]
                                                exact E _ _ _ _ _ _ _ _ _ dL_judges_697 rfl rfl (Eq.symm hFz) hHz hSz (show ((pot v35 - pot v) + 54) ≤ kkL_judges o1 p1 v by omega) (show ((pot v35 - pot v) + 54) ≤ kkL_judges o1 p1 v by omega)
                                          have ho := ho.1
                                          refine lv_icmp_eq (tgt := 568) hx hb dL_judges_544 (by decide) (fun c75 => ?_) (fun c75 => ?_)
                                          · have ho := ho.1 c75
                                            refine lv_aload_n hx hb dL_judges_568 rfl (lv_at hl 7 rfl) ?_
                                            refine lv_iload hx hb dL_judges_569 (lv_at hl 6 rfl) ?_
                                            have hq76 := ho.1
                                            have ho := ho.2
                                            have hq77 := ho.1
                                            have ho := ho.2
                                            refine kZ_X10_recordOf X hS hH hk_o1 hq76 hq77 t_ml_VernierDrawersLaw_182 hl.1 (Nat.le_of_ble_eq_true rfl) ⟨Nat.le_of_ble_eq_true rfl, Nat.le_of_ble_eq_true rfl⟩ ⟨(show ((pot v35 - pot v) + 54) ≤ kkL_judges o1 p1 v by omega), (show ((pot v35 - pot v) + 54) ≤ kkL_judges o1 p1 v by omega)⟩ dL_judges_571 ?_
                                            refine lv_iload hx hb dL_judges_574 (lv_at hl 4 rfl) ?_
                                            refine lv_bipush (v := 10) hx hb dL_judges_576 (by decide) ?_
                                            have K79 : ∀ (y78 : Int32) (ls : Array Slot), y78 = (if (y24 : Int32) = 10 then 10 else (y24 + (1 : Int32)) : Int32) → lv_has ls 20 [(19, .int ((fX10_mannerOf o1 y16 v35).2)), (17, .int ((fL_judge o1 y7 v).1)), (15, .int y28), (14, .int y26), (12, .int y22), (7, .int y16), (0, .ref (ga G o1))] → W p l e (rmL_judges o1 p1 v) s m args below meth c H locs ((pot v35 - pot v) + 54) ((pot v35 - pot v) + 54) Q (F0 m 590 ls [.int y78, .int ((fX10_recordOf o1 y16 v35).2)]) := by
                                              intro y78 ls ey78 hl
                                              have ho := ho y78 ey78
                                              refine lv_icmp_ne (tgt := 619) hx hb dL_judges_590 (by decide) (fun c80 => ?_) (fun c80 => ?_)
                                              · exact absurd ho.1 c80
                                              have ho := ho.2
                                              refine lv_aload_n hx hb dL_judges_593 rfl (lv_at hl 6 rfl) ?_
                                              refine lv_iload hx hb dL_judges_594 (lv_at hl 5 rfl) ?_
                                              have hq81 := ho.1
                                              have ho := ho.2
                                              have hq82 := ho.1
                                              have ho := ho.2
                                              refine kZ_X10_badOf X hS hH hk_o1 hq81 hq82 t_ml_VernierDrawersLaw_185 hl.1 (Nat.le_of_ble_eq_true rfl) ⟨Nat.le_of_ble_eq_true rfl, Nat.le_of_ble_eq_true rfl⟩ ⟨(show ((pot v35 - pot v) + 54) ≤ kkL_judges o1 p1 v by omega), (show ((pot v35 - pot v) + 54) ≤ kkL_judges o1 p1 v by omega)⟩ dL_judges_596 ?_
                                              refine lv_iload hx hb dL_judges_599 (lv_at hl 3 rfl) ?_
                                              refine lv_iload hx hb dL_judges_601 (lv_at hl 1 rfl) ?_
                                              have K84 : ∀ (y83 : Int32) (ls : Array Slot), y83 = (if (((fL_judge o1 y7 v).1) : Int32) ≤ 0 then 0 else 1 : Int32) → lv_has ls 20 [(19, .int ((fX10_mannerOf o1 y16 v35).2)), (17, .int ((fL_judge o1 y7 v).1)), (15, .int y28), (12, .int y22), (7, .int y16), (0, .ref (ga G o1))] → W p l e (rmL_judges o1 p1 v) s m args below meth c H locs ((pot v35 - pot v) + 54) ((pot v35 - pot v) + 54) Q (F0 m 611 ls [.int y83, .int y26, .int ((fX10_badOf o1 y16 v35).2)]) := by
                                                intro y83 ls ey83 hl
                                                have ho := ho y83 ey83
                                                refine lv_iadd hx hb dL_judges_611 ?_
                                                refine lv_icmp_gt (tgt := 619) hx hb dL_judges_612 (by decide) (fun c85 => ?_) (fun c85 => ?_)
                                                · exact absurd c85 ho
                                                have hlz := hl
                                                replace ey78 := Eq.symm ey78
                                                replace ey83 := Eq.symm ey83
                                                subst ey78 ey83
                                                exact K75  _  (lv_sub hlz [0, 1, 2, 3, 4, 5] rfl)
                                              refine lv_if_le (tgt := 610) hx hb dL_judges_603 (by decide) (fun c84 => ?_) (fun c84 => ?_)
                                              · skip
                                                refine lv_iconst (v := 0) hx hb dL_judges_610 (by decide) ?_
                                                have hlz := hl
                                                exact K84 _ _ (Eq.symm ((if_pos c84).trans rfl)) (lv_sub hlz [0, 1, 2, 4, 5, 6] rfl)
                                              · skip
                                                refine lv_iconst (v := 1) hx hb dL_judges_606 (by decide) ?_
                                                refine lv_goto (tgt := 611) hx hb dL_judges_607 (by decide) ?_
                                                have hlz := hl
                                                exact K84 _ _ (Eq.symm ((if_neg c84).trans rfl)) (lv_sub hlz [0, 1, 2, 4, 5, 6] rfl)
                                            refine lv_icmp_ne (tgt := 586) hx hb dL_judges_578 (by decide) (fun c79 => ?_) (fun c79 => ?_)
                                            · skip
                                              refine lv_iload hx hb dL_judges_586 (lv_at hl 4 rfl) ?_
                                              refine lv_iconst (v := 1) hx hb dL_judges_588 (by decide) ?_
                                              refine lv_iadd hx hb dL_judges_589 ?_
                                              have hlz := hl
                                              exact K79 _ _ (Eq.symm ((if_neg c79).trans rfl)) (lv_sub hlz [0, 1, 2, 3, 5, 6, 7] rfl)
                                            · skip
                                              refine lv_bipush (v := 10) hx hb dL_judges_581 (by decide) ?_
                                              refine lv_goto (tgt := 590) hx hb dL_judges_583 (by decide) ?_
                                              have hlz := hl
                                              exact K79 _ _ (Eq.symm ((if_pos c79).trans rfl)) (lv_sub hlz [0, 1, 2, 3, 5, 6, 7] rfl)
                                          · have ho := ho.2 c75
                                            refine lv_aload_n hx hb dL_judges_547 rfl (lv_at hl 7 rfl) ?_
                                            refine lv_iload hx hb dL_judges_548 (lv_at hl 6 rfl) ?_
                                            have hq86 := ho.1
                                            have ho := ho.2
                                            have hq87 := ho.1
                                            have ho := ho.2
                                            refine kZ_X10_recordOf X hS hH hk_o1 hq86 hq87 t_ml_VernierDrawersLaw_182 hl.1 (Nat.le_of_ble_eq_true rfl) ⟨Nat.le_of_ble_eq_true rfl, Nat.le_of_ble_eq_true rfl⟩ ⟨(show ((pot v35 - pot v) + 54) ≤ kkL_judges o1 p1 v by omega), (show ((pot v35 - pot v) + 54) ≤ kkL_judges o1 p1 v by omega)⟩ dL_judges_550 ?_
                                            refine lv_if_ne (tgt := 619) hx hb dL_judges_553 (by decide) (fun c88 => ?_) (fun c88 => ?_)
                                            · exact absurd ho.1 c88
                                            have ho := ho.2
                                            refine lv_aload_n hx hb dL_judges_556 rfl (lv_at hl 7 rfl) ?_
                                            refine lv_iload hx hb dL_judges_557 (lv_at hl 6 rfl) ?_
                                            have hq89 := ho.1
                                            have ho := ho.2
                                            have hq90 := ho.1
                                            have ho := ho.2
                                            refine kZ_X10_badOf X hS hH hk_o1 hq89 hq90 t_ml_VernierDrawersLaw_185 hl.1 (Nat.le_of_ble_eq_true rfl) ⟨Nat.le_of_ble_eq_true rfl, Nat.le_of_ble_eq_true rfl⟩ ⟨(show ((pot v35 - pot v) + 54) ≤ kkL_judges o1 p1 v by omega), (show ((pot v35 - pot v) + 54) ≤ kkL_judges o1 p1 v by omega)⟩ dL_judges_559 ?_
                                            refine lv_if_ne (tgt := 619) hx hb dL_judges_562 (by decide) (fun c91 => ?_) (fun c91 => ?_)
                                            · exact absurd ho c91
                                            refine lv_goto (tgt := 615) hx hb dL_judges_565 (by decide) ?_
                                            have hlz := hl
                                            exact K75  _  (lv_sub hlz [0, 1, 2, 5, 6, 7] rfl)
                                        refine lv_icmp_ne (tgt := 533) hx hb dL_judges_525 (by decide) (fun c73 => ?_) (fun c73 => ?_)
                                        · skip
                                          refine lv_iload hx hb dL_judges_533 (lv_at hl 3 rfl) ?_
                                          refine lv_iconst (v := 1) hx hb dL_judges_535 (by decide) ?_
                                          refine lv_iadd hx hb dL_judges_536 ?_
                                          have hlz := hl
                                          exact K73 _ _ (Eq.symm ((if_neg c73).trans rfl)) (lv_sub hlz [0, 2, 4, 5, 6, 7, 8, 10] rfl)
                                        · skip
                                          refine lv_bipush (v := 12) hx hb dL_judges_528 (by decide) ?_
                                          refine lv_goto (tgt := 537) hx hb dL_judges_530 (by decide) ?_
                                          have hlz := hl
                                          exact K73 _ _ (Eq.symm ((if_pos c73).trans rfl)) (lv_sub hlz [0, 2, 4, 5, 6, 7, 8, 10] rfl)
                                      · have ho := ho.1 c66
                                        refine lv_iload hx hb dL_judges_434 (lv_at hl 0 rfl) ?_
                                        refine lv_if_eq (tgt := 500) hx hb dL_judges_436 (by decide) (fun c96 => absurd c96 (by decide)) (fun c96 => ?_)
                                        refine lv_aload_n hx hb dL_judges_439 rfl (lv_at hl 9 rfl) ?_
                                        refine lv_iload hx hb dL_judges_440 (lv_at hl 8 rfl) ?_
                                        refine lv_iconst (v := 1) hx hb dL_judges_442 (by decide) ?_
                                        refine lv_isub hx hb dL_judges_443 ?_
                                        have hq97 := ho.1
                                        have ho := ho.2
                                        have hq98 := ho.1
                                        have ho := ho.2
                                        refine kZ_X10_wasDoubted X hS hH hk_o1 hq97 hq98 t_ml_VernierDrawersLaw_74 hl.1 (Nat.le_of_ble_eq_true rfl) ⟨Nat.le_of_ble_eq_true rfl, Nat.le_of_ble_eq_true rfl⟩ ⟨(show ((pot v35 - pot v) + 54) ≤ kkL_judges o1 p1 v by omega), (show ((pot v35 - pot v) + 54) ≤ kkL_judges o1 p1 v by omega)⟩ dL_judges_444 ?_
                                        refine lv_if_eq (tgt := 500) hx hb dL_judges_447 (by decide) (fun c99 => ?_) (fun c99 => ?_)
                                        · exact absurd c99 ho.1
                                        have ho := ho.2
                                        refine lv_aload_n hx hb dL_judges_450 rfl (lv_at hl 9 rfl) ?_
                                        refine lv_iload hx hb dL_judges_451 (lv_at hl 8 rfl) ?_
                                        refine lv_iconst (v := 1) hx hb dL_judges_453 (by decide) ?_
                                        refine lv_isub hx hb dL_judges_454 ?_
                                        have hq100 := ho.1
                                        have ho := ho.2
                                        have hq101 := ho.1
                                        have ho := ho.2
                                        refine kZ_X10_typeAt X hS hH hk_o1 hq100 hq101 t_ml_VernierDrawersLaw_68 hl.1 (Nat.le_of_ble_eq_true rfl) ⟨Nat.le_of_ble_eq_true rfl, Nat.le_of_ble_eq_true rfl⟩ ⟨(show ((pot v35 - pot v) + 54) ≤ kkL_judges o1 p1 v by omega), (show ((pot v35 - pot v) + 54) ≤ kkL_judges o1 p1 v by omega)⟩ dL_judges_455 ?_
                                        refine lv_iload hx hb dL_judges_458 (lv_at hl 7 rfl) ?_
                                        refine lv_icmp_ne (tgt := 500) hx hb dL_judges_460 (by decide) (fun c102 => ?_) (fun c102 => ?_)
                                        · exact absurd ho.1 c102
                                        have ho := ho.2
                                        refine lv_aload_n hx hb dL_judges_463 rfl (lv_at hl 9 rfl) ?_
                                        refine lv_iload hx hb dL_judges_464 (lv_at hl 7 rfl) ?_
                                        have hq103 := ho.1
                                        have ho := ho.2
                                        have hq104 := ho.1
                                        have ho := ho.2
                                        refine kZ_X10_charted X hS hH hk_o1 hq103 hq104 t_ml_VernierDrawersLaw_188 hl.1 (Nat.le_of_ble_eq_true rfl) ⟨Nat.le_of_ble_eq_true rfl, Nat.le_of_ble_eq_true rfl⟩ ⟨(show ((pot v35 - pot v) + 54) ≤ kkL_judges o1 p1 v by omega), (show ((pot v35 - pot v) + 54) ≤ kkL_judges o1 p1 v by omega)⟩ dL_judges_466 ?_
                                        refine lv_iload hx hb dL_judges_469 (lv_at hl 2 rfl) ?_
                                        refine lv_icmp_ne (tgt := 500) hx hb dL_judges_471 (by decide) (fun c105 => ?_) (fun c105 => ?_)
                                        · exact absurd ho.1 c105
                                        have ho := ho.2
                                        refine lv_aload_n hx hb dL_judges_474 rfl (lv_at hl 9 rfl) ?_
                                        refine lv_iload hx hb dL_judges_475 (lv_at hl 7 rfl) ?_
                                        have hq106 := ho.1
                                        have ho := ho.2
                                        have hq107 := ho.1
                                        have ho := ho.2
                                        refine kZ_X10_recordOf X hS hH hk_o1 hq106 hq107 t_ml_VernierDrawersLaw_182 hl.1 (Nat.le_of_ble_eq_true rfl) ⟨Nat.le_of_ble_eq_true rfl, Nat.le_of_ble_eq_true rfl⟩ ⟨(show ((pot v35 - pot v) + 54) ≤ kkL_judges o1 p1 v by omega), (show ((pot v35 - pot v) + 54) ≤ kkL_judges o1 p1 v by omega)⟩ dL_judges_477 ?_
                                        refine lv_iload hx hb dL_judges_480 (lv_at hl 5 rfl) ?_
                                        refine lv_icmp_ne (tgt := 500) hx hb dL_judges_482 (by decide) (fun c108 => ?_) (fun c108 => ?_)
                                        · exact absurd ho.1 c108
                                        have ho := ho.2
                                        refine lv_aload_n hx hb dL_judges_485 rfl (lv_at hl 9 rfl) ?_
                                        refine lv_iload hx hb dL_judges_486 (lv_at hl 7 rfl) ?_
                                        have hq109 := ho.1
                                        have ho := ho.2
                                        have hq110 := ho.1
                                        have ho := ho.2
                                        refine kZ_X10_mannerOf X hS hH hk_o1 hq109 hq110 t_ml_VernierDrawersLaw_179 hl.1 (Nat.le_of_ble_eq_true rfl) ⟨Nat.le_of_ble_eq_true rfl, Nat.le_of_ble_eq_true rfl⟩ ⟨(show ((pot v35 - pot v) + 54) ≤ kkL_judges o1 p1 v by omega), (show ((pot v35 - pot v) + 54) ≤ kkL_judges o1 p1 v by omega)⟩ dL_judges_488 ?_
                                        refine lv_iload hx hb dL_judges_491 (lv_at hl 6 rfl) ?_
                                        refine lv_icmp_ne (tgt := 500) hx hb dL_judges_493 (by decide) (fun c111 => ?_) (fun c111 => ?_)
                                        · exact absurd ho c111
                                        refine lv_iconst (v := 1) hx hb dL_judges_496 (by decide) ?_
                                        refine lv_goto (tgt := 501) hx hb dL_judges_497 (by decide) ?_
                                        have hHz := hH
                                        have hSz := hS
                                        have hFz : fL_judges o1 p1 v = v35 := by
                                          refine (fL_judges.eq_1 _ _ _).trans ?_
                                          dsimp only
                                          try rw [← ey3]
                                          try rw [← ey7]
                                          try rw [← ey9]
                                          try rw [← ey11]
                                          try rw [← ey13]
                                          try rw [← ey16]
                                          try rw [← ey22]
                                          try rw [← ey24]
                                          try rw [← ey26]
                                          try rw [← ey28]
                                          try rw [← ey30]
                                          try rw [← ev35]
                                          try rw [← ey47]
                                          try rw [← ey51]
                                          try rw [← ey55]
                                          try rw [← ey59]
                                          try rw [← ey63]
                                          all_goals rw [if_pos c37]
                                          all_goals rw [if_pos c44]
                                          all_goals rw [if_pos c66]
                                        exact E _ _ _ _ _ _ _ _ _ dL_judges_501 rfl rfl (Eq.symm hFz) hHz hSz (show ((pot v35 - pot v) + 54) ≤ kkL_judges o1 p1 v by omega) (show ((pot v35 - pot v) + 54) ≤ kkL_judges o1 p1 v by omega)
                                    refine lv_icmp_ne (tgt := 416) hx hb dL_judges_409 (by decide) (fun c64 => ?_) (fun c64 => ?_)
                                    · skip
                                      refine lv_iconst (v := 1) hx hb dL_judges_416 (by decide) ?_
                                      have hlz := hl
                                      exact K64 _ _ (Eq.symm ((if_neg c64).trans rfl)) (lv_sub hlz [0, 1, 2, 3, 4, 5, 6, 7, 8] rfl)
                                    · skip
                                      refine lv_iconst (v := 0) hx hb dL_judges_412 (by decide) ?_
                                      refine lv_goto (tgt := 417) hx hb dL_judges_413 (by decide) ?_
                                      have hlz := hl
                                      exact K64 _ _ (Eq.symm ((if_pos c64).trans rfl)) (lv_sub hlz [0, 1, 2, 3, 4, 5, 6, 7, 8] rfl)
                                  refine lv_icmp_ne (tgt := 395) hx hb dL_judges_388 (by decide) (fun c60 => ?_) (fun c60 => ?_)
                                  · skip
                                    refine lv_iconst (v := 0) hx hb dL_judges_395 (by decide) ?_
                                    have hlz := hl
                                    exact K60 _ _ (Eq.symm ((if_neg c60).trans rfl)) (lv_sub hlz [0, 1, 2, 3, 4, 5, 7, 8, 9] rfl)
                                  · skip
                                    refine lv_iconst (v := 1) hx hb dL_judges_391 (by decide) ?_
                                    refine lv_goto (tgt := 396) hx hb dL_judges_392 (by decide) ?_
                                    have hlz := hl
                                    exact K60 _ _ (Eq.symm ((if_pos c60).trans rfl)) (lv_sub hlz [0, 1, 2, 3, 4, 5, 7, 8, 9] rfl)
                                refine lv_icmp_ne (tgt := 374) hx hb dL_judges_367 (by decide) (fun c56 => ?_) (fun c56 => ?_)
                                · skip
                                  refine lv_iconst (v := 0) hx hb dL_judges_374 (by decide) ?_
                                  have hlz := hl
                                  exact K56 _ _ (Eq.symm ((if_neg c56).trans rfl)) (lv_sub hlz [0, 1, 2, 3, 4, 5, 6, 8, 9, 10] rfl)
                                · skip
                                  refine lv_iconst (v := 1) hx hb dL_judges_370 (by decide) ?_
                                  refine lv_goto (tgt := 375) hx hb dL_judges_371 (by decide) ?_
                                  have hlz := hl
                                  exact K56 _ _ (Eq.symm ((if_pos c56).trans rfl)) (lv_sub hlz [0, 1, 2, 3, 4, 5, 6, 8, 9, 10] rfl)
                              refine lv_icmp_ne (tgt := 353) hx hb dL_judges_346 (by decide) (fun c52 => ?_) (fun c52 => ?_)
                              · skip
                                refine lv_iconst (v := 0) hx hb dL_judges_353 (by decide) ?_
                                have hlz := hl
                                exact K52 _ _ (Eq.symm ((if_neg c52).trans rfl)) (lv_sub hlz [0, 1, 2, 3, 4, 5, 6, 7, 9, 10, 11] rfl)
                              · skip
                                refine lv_iconst (v := 1) hx hb dL_judges_349 (by decide) ?_
                                refine lv_goto (tgt := 354) hx hb dL_judges_350 (by decide) ?_
                                have hlz := hl
                                exact K52 _ _ (Eq.symm ((if_pos c52).trans rfl)) (lv_sub hlz [0, 1, 2, 3, 4, 5, 6, 7, 9, 10, 11] rfl)
                            refine lv_if_ne (tgt := 332) hx hb dL_judges_325 (by decide) (fun c48 => ?_) (fun c48 => ?_)
                            · skip
                              refine lv_iconst (v := 0) hx hb dL_judges_332 (by decide) ?_
                              have hlz := hl
                              exact K48 _ _ (Eq.symm ((if_neg c48).trans rfl)) (lv_sub hlz [0, 1, 2, 3, 4, 5, 6, 7, 8, 10, 11, 16] rfl)
                            · skip
                              refine lv_iconst (v := 1) hx hb dL_judges_328 (by decide) ?_
                              refine lv_goto (tgt := 333) hx hb dL_judges_329 (by decide) ?_
                              have hlz := hl
                              exact K48 _ _ (Eq.symm ((if_pos c48).trans rfl)) (lv_sub hlz [0, 1, 2, 3, 4, 5, 6, 7, 8, 10, 11, 16] rfl)
                          · have ho := ho.2 c44
                            refine lv_iload hx hb dL_judges_272 (lv_at hl 0 rfl) ?_
                            refine lv_iload_n hx hb dL_judges_274 rfl (lv_at hl 14 rfl) ?_
                            have K113 : ∀ (y112 : Int32) (ls : Array Slot), y112 = (if (y9 : Int32) = 0 then ((-100103)) else ((-100102)) : Int32) → lv_has ls 20 [(6, .int (fX10_onBench o1 v)), (5, .int y13), (0, .ref (ga G o1))] → W p l e (rmL_judges o1 p1 v) s m args below meth c H locs ((pot v35 - pot v) + 54) ((pot v35 - pot v) + 54) Q (F0 m 285 ls [.int y112, .int ((fL_judge o1 y7 v).1)]) := by
                              intro y112 ls ey112 hl
                              have ho := ho y112 ey112
                              refine lv_icmp_ne (tgt := 308) hx hb dL_judges_285 (by decide) (fun c114 => ?_) (fun c114 => ?_)
                              · exact absurd ho.1 c114
                              have ho := ho.2
                              refine lv_aload_n hx hb dL_judges_288 rfl (lv_at hl 2 rfl) ?_
                              have hq115 := ho.1
                              have ho := ho.2
                              refine k_X10_onBench X hS hH hk_o1 hq115 t_ml_VernierDrawersLaw_247 hl.1 (Nat.le_of_ble_eq_true rfl) ⟨Nat.le_of_ble_eq_true rfl, Nat.le_of_ble_eq_true rfl⟩ ⟨(show ((pot v35 - pot v) + 54) ≤ kkL_judges o1 p1 v by omega), (show ((pot v35 - pot v) + 54) ≤ kkL_judges o1 p1 v by omega)⟩ dL_judges_289 ?_
                              refine lv_iload hx hb dL_judges_292 (lv_at hl 0 rfl) ?_
                              refine lv_icmp_ne (tgt := 308) hx hb dL_judges_294 (by decide) (fun c116 => ?_) (fun c116 => ?_)
                              · exact absurd ho.1 c116
                              have ho := ho.2
                              refine lv_iload hx hb dL_judges_297 (lv_at hl 1 rfl) ?_
                              refine lv_ldc (v := (-100104)) hx hb hown (hts _ t_con_VernierDrawersLaw_73) dL_judges_299 ?_
                              refine lv_icmp_ne (tgt := 308) hx hb dL_judges_301 (by decide) (fun c117 => ?_) (fun c117 => ?_)
                              · exact absurd ho c117
                              refine lv_iconst (v := 1) hx hb dL_judges_304 (by decide) ?_
                              refine lv_goto (tgt := 309) hx hb dL_judges_305 (by decide) ?_
                              have hHz := hH
                              have hSz := hS
                              have hFz : fL_judges o1 p1 v = v35 := by
                                refine (fL_judges.eq_1 _ _ _).trans ?_
                                dsimp only
                                try rw [← ey3]
                                try rw [← ey7]
                                try rw [← ey9]
                                try rw [← ey11]
                                try rw [← ey13]
                                try rw [← ey16]
                                try rw [← ey22]
                                try rw [← ey24]
                                try rw [← ey26]
                                try rw [← ey28]
                                try rw [← ey30]
                                try rw [← ev35]
                                try rw [← ey112]
                                all_goals rw [if_pos c37]
                                all_goals rw [if_neg c44]
                              exact E _ _ _ _ _ _ _ _ _ dL_judges_309 rfl rfl (Eq.symm hFz) hHz hSz (show ((pot v35 - pot v) + 54) ≤ kkL_judges o1 p1 v by omega) (show ((pot v35 - pot v) + 54) ≤ kkL_judges o1 p1 v by omega)
                            refine lv_if_eq (tgt := 283) hx hb dL_judges_275 (by decide) (fun c113 => ?_) (fun c113 => ?_)
                            · skip
                              refine lv_ldc (v := (-100103)) hx hb hown (hts _ t_con_VernierDrawersLaw_20) dL_judges_283 ?_
                              have hlz := hl
                              exact K113 _ _ (Eq.symm ((if_pos c113).trans rfl)) (lv_sub hlz [11, 12, 16] rfl)
                            · skip
                              refine lv_ldc (v := (-100102)) hx hb hown (hts _ t_con_VernierDrawersLaw_17) dL_judges_278 ?_
                              refine lv_goto (tgt := 285) hx hb dL_judges_280 (by decide) ?_
                              have hlz := hl
                              exact K113 _ _ (Eq.symm ((if_neg c113).trans rfl)) (lv_sub hlz [11, 12, 16] rfl)
                      have ho := ho.1
                      refine lv_icmp_ne (tgt := 248) hx hb dL_judges_241 (by decide) (fun c31 => ?_) (fun c31 => ?_)
                      · have ho := ho c31
                        refine lv_aload_n hx hb dL_judges_248 rfl (lv_at hl 14 rfl) ?_
                        refine lv_iload hx hb dL_judges_249 (lv_at hl 8 rfl) ?_
                        have hq32 := ho.1
                        have ho := ho.2
                        have hq33 := ho
                        refine kZ_X10_charted X hS hH hk_o1 hq32 hq33 t_ml_VernierDrawersLaw_188 hl.1 (Nat.le_of_ble_eq_true rfl) ⟨Nat.le_of_ble_eq_true rfl, Nat.le_of_ble_eq_true rfl⟩ ⟨(show 18 ≤ kkL_judges o1 p1 v by omega), (show 18 ≤ kkL_judges o1 p1 v by omega)⟩ dL_judges_251 ?_
                        have hlz := hl
                        exact K31 _ _ (Eq.symm ((if_neg c31).trans rfl)) (lv_sub hlz [0, 1, 2, 3, 4, 5, 6, 7, 8, 9, 10, 11, 12, 13, 14] rfl)
                      · skip
                        refine lv_iconst (v := 0) hx hb dL_judges_244 (by decide) ?_
                        refine lv_goto (tgt := 254) hx hb dL_judges_245 (by decide) ?_
                        have hlz := hl
                        exact K31 _ _ (Eq.symm ((if_pos c31).trans rfl)) (lv_sub hlz [0, 1, 2, 3, 4, 5, 6, 7, 8, 9, 10, 11, 12, 13, 14] rfl)
                    have ho := ho.1
                    refine lv_icmp_eq (tgt := 224) hx hb dL_judges_215 (by decide) (fun c29 => ?_) (fun c29 => ?_)
                    · skip
                      refine lv_ldc (v := (-100104)) hx hb hown (hts _ t_con_VernierDrawersLaw_73) dL_judges_224 ?_
                      refine lv_goto (tgt := 235) hx hb dL_judges_226 (by decide) ?_
                      have hlz := hl
                      exact K29 _ _ (Eq.symm ((if_pos c29).trans rfl)) (lv_sub hlz [0, 1, 2, 3, 4, 5, 6, 7, 8, 9, 10, 11, 12, 13] rfl)
                    · have ho := ho c29
                      refine lv_iload hx hb dL_judges_218 (lv_at hl 2 rfl) ?_
                      refine lv_iconst (v := 2) hx hb dL_judges_220 (by decide) ?_
                      refine lv_icmp_ne (tgt := 229) hx hb dL_judges_221 (by decide) (fun c30 => ?_) (fun c30 => ?_)
                      · have ho := ho c30
                        refine lv_aload_n hx hb dL_judges_229 rfl (lv_at hl 13 rfl) ?_
                        refine lv_iload hx hb dL_judges_230 (lv_at hl 7 rfl) ?_
                        have hq31 := ho.1
                        have ho := ho.2
                        have hq32 := ho
                        refine kZ_X10_goodUntilChange X hS hH hk_o1 hq31 hq32 t_ml_VernierDrawersLaw_86 hl.1 (Nat.le_of_ble_eq_true rfl) ⟨Nat.le_of_ble_eq_true rfl, Nat.le_of_ble_eq_true rfl⟩ ⟨(show 18 ≤ kkL_judges o1 p1 v by omega), (show 18 ≤ kkL_judges o1 p1 v by omega)⟩ dL_judges_232 ?_
                        have hlz := hl
                        exact K29 _ _ (Eq.symm ((if_neg c29).trans ((if_neg c30).trans rfl))) (lv_sub hlz [0, 1, 2, 3, 4, 5, 6, 7, 8, 9, 10, 11, 12, 13] rfl)
                      · skip
                        refine lv_ldc (v := (-100104)) hx hb hown (hts _ t_con_VernierDrawersLaw_73) dL_judges_224 ?_
                        refine lv_goto (tgt := 235) hx hb dL_judges_226 (by decide) ?_
                        have hlz := hl
                        exact K29 _ _ (Eq.symm ((if_neg c29).trans ((if_pos c30).trans rfl))) (lv_sub hlz [0, 1, 2, 3, 4, 5, 6, 7, 8, 9, 10, 11, 12, 13] rfl)
                  have ho := ho.1
                  refine lv_icmp_ne (tgt := 203) hx hb dL_judges_196 (by decide) (fun c27 => ?_) (fun c27 => ?_)
                  · have ho := ho c27
                    refine lv_aload_n hx hb dL_judges_203 rfl (lv_at hl 12 rfl) ?_
                    refine lv_iload hx hb dL_judges_204 (lv_at hl 6 rfl) ?_
                    have hq28 := ho.1
                    have ho := ho.2
                    have hq29 := ho
                    refine kZ_X10_badOf X hS hH hk_o1 hq28 hq29 t_ml_VernierDrawersLaw_185 hl.1 (Nat.le_of_ble_eq_true rfl) ⟨Nat.le_of_ble_eq_true rfl, Nat.le_of_ble_eq_true rfl⟩ ⟨(show 18 ≤ kkL_judges o1 p1 v by omega), (show 18 ≤ kkL_judges o1 p1 v by omega)⟩ dL_judges_206 ?_
                    have hlz := hl
                    exact K27 _ _ (Eq.symm ((if_neg c27).trans rfl)) (lv_sub hlz [0, 1, 2, 3, 4, 5, 6, 7, 8, 9, 10, 11, 12] rfl)
                  · skip
                    refine lv_iconst (v := 0) hx hb dL_judges_199 (by decide) ?_
                    refine lv_goto (tgt := 209) hx hb dL_judges_200 (by decide) ?_
                    have hlz := hl
                    exact K27 _ _ (Eq.symm ((if_pos c27).trans rfl)) (lv_sub hlz [0, 1, 2, 3, 4, 5, 6, 7, 8, 9, 10, 11, 12] rfl)
                have ho := ho.1
                refine lv_icmp_ne (tgt := 184) hx hb dL_judges_177 (by decide) (fun c25 => ?_) (fun c25 => ?_)
                · have ho := ho c25
                  refine lv_aload_n hx hb dL_judges_184 rfl (lv_at hl 11 rfl) ?_
                  refine lv_iload hx hb dL_judges_185 (lv_at hl 5 rfl) ?_
                  have hq26 := ho.1
                  have ho := ho.2
                  have hq27 := ho
                  refine kZ_X10_recordOf X hS hH hk_o1 hq26 hq27 t_ml_VernierDrawersLaw_182 hl.1 (Nat.le_of_ble_eq_true rfl) ⟨Nat.le_of_ble_eq_true rfl, Nat.le_of_ble_eq_true rfl⟩ ⟨(show 18 ≤ kkL_judges o1 p1 v by omega), (show 18 ≤ kkL_judges o1 p1 v by omega)⟩ dL_judges_187 ?_
                  have hlz := hl
                  exact K25 _ _ (Eq.symm ((if_neg c25).trans rfl)) (lv_sub hlz [0, 1, 2, 3, 4, 5, 6, 7, 8, 9, 10, 11] rfl)
                · skip
                  refine lv_iconst (v := 0) hx hb dL_judges_180 (by decide) ?_
                  refine lv_goto (tgt := 190) hx hb dL_judges_181 (by decide) ?_
                  have hlz := hl
                  exact K25 _ _ (Eq.symm ((if_pos c25).trans rfl)) (lv_sub hlz [0, 1, 2, 3, 4, 5, 6, 7, 8, 9, 10, 11] rfl)
              have ho := ho.1
              refine lv_icmp_ne (tgt := 165) hx hb dL_judges_158 (by decide) (fun c23 => ?_) (fun c23 => ?_)
              · have ho := ho c23
                refine lv_aload_n hx hb dL_judges_165 rfl (lv_at hl 10 rfl) ?_
                refine lv_iload hx hb dL_judges_166 (lv_at hl 4 rfl) ?_
                have hq24 := ho.1
                have ho := ho.2
                have hq25 := ho
                refine kZ_X10_mannerOf X hS hH hk_o1 hq24 hq25 t_ml_VernierDrawersLaw_179 hl.1 (Nat.le_of_ble_eq_true rfl) ⟨Nat.le_of_ble_eq_true rfl, Nat.le_of_ble_eq_true rfl⟩ ⟨(show 18 ≤ kkL_judges o1 p1 v by omega), (show 18 ≤ kkL_judges o1 p1 v by omega)⟩ dL_judges_168 ?_
                have hlz := hl
                exact K23 _ _ (Eq.symm ((if_neg c23).trans rfl)) (lv_sub hlz [0, 1, 2, 3, 4, 5, 6, 7, 8, 9, 10] rfl)
              · skip
                refine lv_iconst (v := 0) hx hb dL_judges_161 (by decide) ?_
                refine lv_goto (tgt := 171) hx hb dL_judges_162 (by decide) ?_
                have hlz := hl
                exact K23 _ _ (Eq.symm ((if_pos c23).trans rfl)) (lv_sub hlz [0, 1, 2, 3, 4, 5, 6, 7, 8, 9, 10] rfl)
            have ho := ho.1
            refine lv_if_ne (tgt := 123) hx hb dL_judges_115 (by decide) (fun c17 => ?_) (fun c17 => ?_)
            · have ho := ho c17
              refine lv_aload_n hx hb dL_judges_123 rfl (lv_at hl 5 rfl) ?_
              refine lv_iconst (v := 0) hx hb dL_judges_124 (by decide) ?_
              have hq18 := ho.1
              have ho := ho.2
              have hq19 := ho
              refine kZ_X10_typeAt X hS hH hk_o1 hq18 hq19 t_ml_VernierDrawersLaw_68 hl.1 (Nat.le_of_ble_eq_true rfl) ⟨Nat.le_of_ble_eq_true rfl, Nat.le_of_ble_eq_true rfl⟩ ⟨(show 18 ≤ kkL_judges o1 p1 v by omega), (show 18 ≤ kkL_judges o1 p1 v by omega)⟩ dL_judges_125 ?_
              have hlz := hl
              exact K17 _ _ (Eq.symm ((if_neg c17).trans rfl)) (lv_sub hlz [0, 1, 2, 3, 4, 5] rfl)
            · skip
              refine lv_ldc (v := (-100104)) hx hb hown (hts _ t_con_VernierDrawersLaw_73) dL_judges_118 ?_
              refine lv_goto (tgt := 128) hx hb dL_judges_120 (by decide) ?_
              have hlz := hl
              exact K17 _ _ (Eq.symm ((if_pos c17).trans rfl)) (lv_sub hlz [0, 1, 2, 3, 4, 5] rfl)
          have ho := ho.1
          refine lv_if_eq (tgt := 100) hx hb dL_judges_92 (by decide) (fun c14 => ?_) (fun c14 => ?_)
          · have ho := ho c14
            refine lv_aload_n hx hb dL_judges_100 rfl (lv_at hl 3 rfl) ?_
            refine lv_iload_n hx hb dL_judges_101 rfl (lv_at hl 2 rfl) ?_
            have hq15 := ho
            refine k_L_wouldJudge hst X hS hN hH hk_o1 hq15 t_ml_VernierDrawersLaw_311 hl.1 (Nat.le_of_ble_eq_true rfl) ⟨Nat.le_of_ble_eq_true rfl, Nat.le_of_ble_eq_true rfl⟩ ⟨(show 6 + 12 ≤ kkL_judges o1 p1 v by omega), (show 6 + 12 ≤ kkL_judges o1 p1 v by omega)⟩ dL_judges_102 (fun da H locs hH hS => ?_)
            refine W.widen (k := 18) (n := 18) (Nat.le_refl _) (Nat.le_refl _) ?_
            have hlz := hl
            have hHz := hH
            have hSz := hS
            exact K14 _ _ _ _ _ (Eq.symm ((if_pos c14).trans rfl)) hHz hSz (lv_sub hlz [0, 1, 2, 3] rfl)
          · skip
            refine lv_ldc (v := (-100104)) hx hb hown (hts _ t_con_VernierDrawersLaw_73) dL_judges_95 ?_
            refine lv_goto (tgt := 105) hx hb dL_judges_97 (by decide) ?_
            refine W.widen (k := 18) (n := 18) (Nat.le_of_ble_eq_true rfl) (Nat.le_of_ble_eq_true rfl) ?_
            have hlz := hl
            have hHz := hH
            have hSz := hS
            exact K14 _ _ _ _ _ (Eq.symm ((if_neg c14).trans rfl)) hHz hSz (lv_sub hlz [0, 1, 2, 3] rfl)
        have ho := ho.1
        refine lv_if_eq (tgt := 84) hx hb dL_judges_77 (by decide) (fun c12 => ?_) (fun c12 => ?_)
        · have ho := ho c12
          refine lv_aload_n hx hb dL_judges_84 rfl (lv_at hl 2 rfl) ?_
          refine lv_iload_n hx hb dL_judges_85 rfl (lv_at hl 1 rfl) ?_
          have hq13 := ho.1
          have ho := ho.2
          have hq14 := ho
          refine kZ_X10_whyNotJudge X hS hH hk_o1 hq13 hq14 t_ml_VernierDrawersLaw_77 hl.1 (Nat.le_of_ble_eq_true rfl) ⟨Nat.le_of_ble_eq_true rfl, Nat.le_of_ble_eq_true rfl⟩ ⟨(show 6 ≤ kkL_judges o1 p1 v by omega), (show 6 ≤ kkL_judges o1 p1 v by omega)⟩ dL_judges_86 ?_
          have hlz := hl
          exact K12 _ _ (Eq.symm ((if_pos c12).trans rfl)) (lv_sub hlz [0, 1, 2] rfl)
        · skip
          refine lv_iconst (v := 0) hx hb dL_judges_80 (by decide) ?_
          refine lv_goto (tgt := 89) hx hb dL_judges_81 (by decide) ?_
          have hlz := hl
          exact K12 _ _ (Eq.symm ((if_neg c12).trans rfl)) (lv_sub hlz [0, 1, 2] rfl)
      refine lv_icmp_ne (tgt := 74) hx hb dL_judges_67 (by decide) (fun c10 => ?_) (fun c10 => ?_)
      · skip
        refine lv_iconst (v := 0) hx hb dL_judges_74 (by decide) ?_
        have hlz := hl
        exact K10 _ _ (Eq.symm ((if_neg c10).trans rfl)) (lv_sub hlz [0, 1] rfl)
      · skip
        refine lv_iconst (v := 1) hx hb dL_judges_70 (by decide) ?_
        refine lv_goto (tgt := 75) hx hb dL_judges_71 (by decide) ?_
        have hlz := hl
        exact K10 _ _ (Eq.symm ((if_pos c10).trans rfl)) (lv_sub hlz [0, 1] rfl)
    have ho := ho.1
    refine lv_if_le (tgt := 60) hx hb dL_judges_41 (by decide) (fun c8 => ?_) (fun c8 => ?_)
    · skip
      refine lv_iload_n hx hb dL_judges_60 rfl (lv_at hl 0 rfl) ?_
      refine W.widen (k := 6) (n := 6) (Nat.le_of_ble_eq_true rfl) (Nat.le_of_ble_eq_true rfl) ?_
      have hlz := hl
      have hHz := hH
      have hSz := hS
      exact K8 _ _ _ _ _ (Eq.symm ((if_pos c8).trans rfl)) hHz hSz (lv_sub hlz [1] rfl)
    · have ho := ho c8
      refine lv_aload_n hx hb dL_judges_44 rfl (lv_at hl 1 rfl) ?_
      have hq9 := ho.1
      have ho := ho.2
      refine k_L_bestTool hst X hS hN hH hk_o1 hq9 t_ml_VernierDrawersLaw_320 hl.1 (Nat.le_of_ble_eq_true rfl) ⟨Nat.le_of_ble_eq_true rfl, Nat.le_of_ble_eq_true rfl⟩ ⟨(show 0 + 6 ≤ kkL_judges o1 p1 v by omega), (show 0 + 6 ≤ kkL_judges o1 p1 v by omega)⟩ dL_judges_45 (fun da H locs hH hS => ?_)
      refine W.widen (k := 6) (n := 6) (Nat.le_refl _) (Nat.le_refl _) ?_
      refine lv_ldc (v := (-100104)) hx hb hown (hts _ t_con_VernierDrawersLaw_73) dL_judges_48 ?_
      refine lv_icmp_eq (tgt := 60) hx hb dL_judges_50 (by decide) (fun c10 => ?_) (fun c10 => ?_)
      · skip
        refine lv_iload_n hx hb dL_judges_60 rfl (lv_at hl 0 rfl) ?_
        have hlz := hl
        have hHz := hH
        have hSz := hS
        exact K8 _ _ _ _ _ (Eq.symm ((if_neg c8).trans ((if_pos c10).trans rfl))) hHz hSz (lv_sub hlz [1] rfl)
      · have ho := ho c10
        refine lv_aload_n hx hb dL_judges_53 rfl (lv_at hl 1 rfl) ?_
        have hq11 := ho.1
        have ho := ho.2
        have hq12 := ho
        refine kZ_X10_bestTool X hS hH hk_o1 hq11 hq12 t_ml_VernierDrawersLaw_83 hl.1 (Nat.le_of_ble_eq_true rfl) ⟨Nat.le_of_ble_eq_true rfl, Nat.le_of_ble_eq_true rfl⟩ ⟨(show 6 ≤ kkL_judges o1 p1 v by omega), (show 6 ≤ kkL_judges o1 p1 v by omega)⟩ dL_judges_54 ?_
        refine lv_goto (tgt := 61) hx hb dL_judges_57 (by decide) ?_
        have hlz := hl
        have hHz := hH
        have hSz := hS
        exact K8 _ _ _ _ _ (Eq.symm ((if_neg c8).trans ((if_neg c10).trans rfl))) hHz hSz (lv_sub hlz [1] rfl)
  refine lv_if_eq (tgt := 24) hx hb dL_judges_14 (by decide) (fun c4 => ?_) (fun c4 => ?_)
  · skip
    refine lv_iconst (v := 1) hx hb dL_judges_24 (by decide) ?_
    refine lv_goto (tgt := 29) hx hb dL_judges_25 (by decide) ?_
    have hlz := hl
    exact K4 _ _ (Eq.symm ((if_pos c4).trans rfl)) (lv_sub hlz [0, 1] rfl)
  · skip
    refine lv_aload_n hx hb dL_judges_17 rfl (lv_at hl 0 rfl) ?_
    refine k_X10_tools X hS hH hk_o1 hq1 t_ml_VernierDrawersLaw_230 hl.1 (Nat.le_of_ble_eq_true rfl) ⟨Nat.le_of_ble_eq_true rfl, Nat.le_of_ble_eq_true rfl⟩ ⟨Nat.zero_le _, Nat.zero_le _⟩ dL_judges_18 ?_
    refine lv_if_ne (tgt := 28) hx hb dL_judges_21 (by decide) (fun c5 => ?_) (fun c5 => ?_)
    · skip
      refine lv_iconst (v := 0) hx hb dL_judges_28 (by decide) ?_
      have hlz := hl
      exact K4 _ _ (Eq.symm ((if_neg c4).trans ((if_neg c5).trans rfl))) (lv_sub hlz [0, 1] rfl)
    · skip
      refine lv_iconst (v := 1) hx hb dL_judges_24 (by decide) ?_
      refine lv_goto (tgt := 29) hx hb dL_judges_25 (by decide) ?_
      have hlz := hl
      exact K4 _ _ (Eq.symm ((if_neg c4).trans ((if_pos c5).trans rfl))) (lv_sub hlz [0, 1] rfl)
theorem k_L_judges {p : Program} {l : Launch} {e : Env} {R : Room} {s : State} {m : MethodId} {args : Array Value} {below : List Frame} {meth : Method} {c : Code} {H : Heap} {locs : List Loc} {cells slots : Nat} {Q : State → Prop} {cc : ByteArray} {pc nL : Nat} {ls : Array Slot} {rest : List Value} {G : gG} {own : String} {da : Nat → Nat} {v : vSt} {x : gX} (hst : l.stackTraces = false) (X : CX G p s m args c cc nL own) (hS : va_S (gA G) s.heap H locs) (hN : NC s) (hH : Hp G da v x H) {o1 : Nat} (hk_o1 : kd o1 = 10) {p1 : Int32} (ho : oL_judges o1 p1 v) {idx : Nat} (hml : Cond.methodLink own idx yL_judges ∈ TT) (hls : ls.size = nL) (hsum : (rest.map fun v => v.category).sum ≤ 8) (hR : (rmL_judges o1 p1 v).frames + 1 ≤ R.frames ∧ 8 + (20 + 11) + (rmL_judges o1 p1 v).locals ≤ R.locals) (hcs : cells + (kkL_judges o1 p1 v) ≤ R.cells ∧ slots + (kkL_judges o1 p1 v) ≤ R.slots) (hdg : decode cc pc = .ok (.invokestatic idx, 3)) (kk : ∀ (d : Nat → Nat) (H1 : Heap) (locs1 : List Loc) (v1 : vSt), v1 = fL_judges o1 p1 v → Hp G d v1 x H1 → va_S (gA G) s.heap H1 locs1 → W p l e R s m args below meth c H1 locs1 (cells + (kkL_judges o1 p1 v)) (slots + (kkL_judges o1 p1 v)) Q (F0 m (pc + 3) ls (.int 1 :: rest))) : W p l e R s m args below meth c H locs cells slots Q (F0 m pc ls (.int p1 :: .ref (ga G o1) :: rest)) := c_mi X.2.2.2.2.2.2 (runS (k := 2) X.1 X.2.1 X.2.2.1 X.2.2.2.1 X.2.2.2.2.1 (mL_judges l hst G da v x o1 hk_o1 p1 ho) pN_bl hml t_st_L_judges t_ini_VernierDrawersLaw t_code_L_judges ⟨by decide, by decide, by decide +kernel⟩ rfl rfl hR hcs (preN X hN hS hH) rfl hls rfl hsum hdg) hS kk
