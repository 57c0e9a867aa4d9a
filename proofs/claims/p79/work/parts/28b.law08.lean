/-! the law's methods: what moves; acts -/
def fL_moves (o1 : Nat) (p1 : Int32) (p2 : Int32) (v : vSt) : vSt := if (p1 : Int32) = 0 then (let y94 : Int32 := (if ((fL_low (p2 >>> ((9 : Int32) &&& 31)) 14) : Int32) = 0 then 1 else (if ((fX10_types o1 v) : Int32) = 0 then 1 else 0) : Int32); let y98 : Int32 := (if ((fL_low (p2 >>> ((11 : Int32) &&& 31)) 14) : Int32) = 0 then ((fL_low (p2 >>> ((3 : Int32) &&& 31)) 500) - (250 : Int32)) else ((fL_low (p2 >>> ((3 : Int32) &&& 31)) 121) - (60 : Int32)) : Int32); let y100 : Int32 := (if ((fL_low p2 ((fX10_types o1 v) + y94)) : Int32) = (fX10_types o1 v) then 1 else (if (y98 : Int32) < (-200) then 1 else (if (200 : Int32) < y98 then 1 else (if (1 : Int32) ≤ (((fX10_lengthOf o1 (fL_low p2 ((fX10_types o1 v) + y94)) v).2) + y98) then 0 else 1))) : Int32); let v105 : vSt := (fL_bring o1 (fL_low p2 ((fX10_types o1 v) + y94)) y98 v).2; let y107 : Int32 := (if (y100 : Int32) = 0 then (if (20 : Int32) ≤ (fX10_onBench o1 v) then 0 else 1) else 0 : Int32); let y109 : Int32 := (if (y100 : Int32) = 0 then (if (y107 : Int32) = 0 then ((-100103)) else ((fX10_onBench o1 v) + (1 : Int32))) else ((-100102)) : Int32); let y113 : Int32 := (if (y107 : Int32) = 0 then 0 else 1 : Int32); let y117 : Int32 := (if (y107 : Int32) = 0 then 0 else 1 : Int32); if (y107 : Int32) = 0 then v105 else v105) else (if (p1 : Int32) = 1 then (let y62 : Int32 := (if ((fL_low (p2 >>> ((9 : Int32) &&& 31)) 9) : Int32) = 0 then 102 else 40 : Int32); let y65 : Int32 := (if ((fL_low p2 y62) : Int32) < 1 then 1 else (if ((fL_low p2 y62) : Int32) ≤ 99 then 0 else 1) : Int32); let v70 : vSt := (fL_file o1 (fL_low p2 y62) v).2; let y72 : Int32 := (if (((fL_file o1 (fL_low p2 y62) v).1) : Int32) ≤ (-100000) then 0 else 1 : Int32); if (y72 : Int32) = 0 then (if (y65 : Int32) = 0 then (if ((fX10_toFile o1 v) : Int32) = 0 then v70 else (if ((fX10_onBench o1 v) : Int32) = 20 then v70 else v70)) else v70) else v70) else (if (p1 : Int32) = 2 then (let y35 : Int32 := (if ((fX10_onBench o1 v) : Int32) = 0 then ((-100104)) else ((fX10_typeAt o1 0 v).2) : Int32); let v41 : vSt := (fL_passUnseen o1 v).2; let y43 : Int32 := (if ((fX10_whyNotPass o1 v) : Int32) ≤ 0 then y35 else ((-100103)) : Int32); let y47 : Int32 := (if ((fX10_whyNotPass o1 v) : Int32) ≤ 0 then 1 else 0 : Int32); let y51 : Int32 := (if ((fX10_whyNotPass o1 v) : Int32) ≤ 0 then 1 else 0 : Int32); if (0 : Int32) < (fX10_whyNotPass o1 v) then v41 else (if ((fX10_onBench o1 v41) : Int32) = 0 then v41 else (if (((fX10_typeAt o1 0 v41).2) : Int32) = y35 then v41 else v41))) else (let y9 : Int32 := (if ((fL_low (p2 >>> ((9 : Int32) &&& 31)) 14) : Int32) = 0 then 1 else (if ((fX10_types o1 v) : Int32) = 0 then 1 else 0) : Int32); let y12 : Int32 := (if ((fL_low p2 ((fX10_types o1 v) + y9)) : Int32) = (fX10_types o1 v) then 1 else 0 : Int32); let y14 : Int32 := (if (y12 : Int32) = 0 then ((fX10_charted o1 (fL_low p2 ((fX10_types o1 v) + y9)) v).2) else 0 : Int32); let y16 : Int32 := (if (y14 : Int32) = 0 then 0 else ((fX10_spreadOf o1 (fL_low p2 ((fX10_types o1 v) + y9)) v).2) : Int32); let v21 : vSt := (fL_throwOut o1 (fL_low p2 ((fX10_types o1 v) + y9)) v).2; if (y12 : Int32) = 0 then (if (y14 : Int32) = 0 then v21 else v21) else v21)))
def kkL_moves (o1 : Nat) (p1 : Int32) (p2 : Int32) (v : vSt) : Nat := pot (fL_moves o1 p1 p2 v) - pot v + 36
def oL_moves (o1 : Nat) (p1 : Int32) (p2 : Int32) (v : vSt) : Prop := (oX10_onBench o1 v) ∧ ((oX10_toFile o1 v) ∧ ((oX10_brought o1 v) ∧ ((((p1 : Int32) = 0) → ((oX10_types o1 v) ∧ ((oL_low (p2 >>> ((9 : Int32) &&& 31)) 14) ∧ ((∀ (y94 : Int32), y94 = ((if ((fL_low (p2 >>> ((9 : Int32) &&& 31)) 14) : Int32) = 0 then 1 else (if ((fX10_types o1 v) : Int32) = 0 then 1 else 0) : Int32) : Int32) → ((oL_low p2 ((fX10_types o1 v) + y94)) ∧ ((oL_low (p2 >>> ((11 : Int32) &&& 31)) 14) ∧ ((((((fL_low (p2 >>> ((11 : Int32) &&& 31)) 14) : Int32) = 0) → (oL_low (p2 >>> ((3 : Int32) &&& 31)) 500)) ∧ (¬ (((fL_low (p2 >>> ((11 : Int32) &&& 31)) 14) : Int32) = 0) → (oL_low (p2 >>> ((3 : Int32) &&& 31)) 121))) ∧ (∀ (y98 : Int32), y98 = ((if ((fL_low (p2 >>> ((11 : Int32) &&& 31)) 14) : Int32) = 0 then ((fL_low (p2 >>> ((3 : Int32) &&& 31)) 500) - (250 : Int32)) else ((fL_low (p2 >>> ((3 : Int32) &&& 31)) 121) - (60 : Int32)) : Int32) : Int32) → ((¬ (((fL_low p2 ((fX10_types o1 v) + y94)) : Int32) = (fX10_types o1 v)) → (¬ ((y98 : Int32) < (-200)) → (¬ ((200 : Int32) < y98) → ((oX10_lengthOf o1 (fL_low p2 ((fX10_types o1 v) + y94)) v) ∧ ((fX10_lengthOf o1 (fL_low p2 ((fX10_types o1 v) + y94)) v).1 = 0))))) ∧ (∀ (y100 : Int32), y100 = ((if ((fL_low p2 ((fX10_types o1 v) + y94)) : Int32) = (fX10_types o1 v) then 1 else (if (y98 : Int32) < (-200) then 1 else (if (200 : Int32) < y98 then 1 else (if (1 : Int32) ≤ (((fX10_lengthOf o1 (fL_low p2 ((fX10_types o1 v) + y94)) v).2) + y98) then 0 else 1))) : Int32) : Int32) → ((oL_bring o1 (fL_low p2 ((fX10_types o1 v) + y94)) y98 v) ∧ ((pot v ≤ pot v ∧ pot v ≤ pot ((fL_bring o1 (fL_low p2 ((fX10_types o1 v) + y94)) y98 v).2) ∧ pot ((fL_bring o1 (fL_low p2 ((fX10_types o1 v) + y94)) y98 v).2) ≤ pot (fL_moves o1 p1 p2 v)) ∧ (∀ v105 : vSt, v105 = ((fL_bring o1 (fL_low p2 ((fX10_types o1 v) + y94)) y98 v).2) → ((∀ (y107 : Int32), y107 = ((if (y100 : Int32) = 0 then (if (20 : Int32) ≤ (fX10_onBench o1 v) then 0 else 1) else 0 : Int32) : Int32) → ((∀ (y109 : Int32), y109 = ((if (y100 : Int32) = 0 then (if (y107 : Int32) = 0 then ((-100103)) else ((fX10_onBench o1 v) + (1 : Int32))) else ((-100102)) : Int32) : Int32) → (((((fL_bring o1 (fL_low p2 ((fX10_types o1 v) + y94)) y98 v).1) : Int32) = y109) ∧ ((oX10_onBench o1 v105) ∧ ((∀ (y113 : Int32), y113 = ((if (y107 : Int32) = 0 then 0 else 1 : Int32) : Int32) → ((((fX10_onBench o1 v105) : Int32) = ((fX10_onBench o1 v) + y113)) ∧ ((oX10_brought o1 v105) ∧ ((∀ (y117 : Int32), y117 = ((if (y107 : Int32) = 0 then 0 else 1 : Int32) : Int32) → ((((fX10_brought o1 v105) : Int32) = ((fX10_brought o1 v) + y117)) ∧ (¬ ((y107 : Int32) = 0) → ((oX10_typeAt o1 (fX10_onBench o1 v) v105) ∧ (((fX10_typeAt o1 (fX10_onBench o1 v) v105).1 = 0) ∧ (((((fX10_typeAt o1 (fX10_onBench o1 v) v105).2) : Int32) = (fL_low p2 ((fX10_types o1 v) + y94))) ∧ ((oX10_wasDoubted o1 (fX10_onBench o1 v) v105) ∧ (((fX10_wasDoubted o1 (fX10_onBench o1 v) v105).1 = 0) ∧ (((((fX10_wasDoubted o1 (fX10_onBench o1 v) v105).2) : Int32) = 0))))))))))))))))))))))))))))))))))) ∧ (¬ ((p1 : Int32) = 0) → ((((p1 : Int32) = 1) → ((oL_low (p2 >>> ((9 : Int32) &&& 31)) 9) ∧ ((∀ (y62 : Int32), y62 = ((if ((fL_low (p2 >>> ((9 : Int32) &&& 31)) 9) : Int32) = 0 then 102 else 40 : Int32) : Int32) → ((oL_low p2 y62) ∧ ((∀ (y65 : Int32), y65 = ((if ((fL_low p2 y62) : Int32) < 1 then 1 else (if ((fL_low p2 y62) : Int32) ≤ 99 then 0 else 1) : Int32) : Int32) → ((oL_file o1 (fL_low p2 y62) v) ∧ ((pot v ≤ pot v ∧ pot v ≤ pot ((fL_file o1 (fL_low p2 y62) v).2) ∧ pot ((fL_file o1 (fL_low p2 y62) v).2) ≤ pot (fL_moves o1 p1 p2 v)) ∧ (∀ v70 : vSt, v70 = ((fL_file o1 (fL_low p2 y62) v).2) → ((∀ (y72 : Int32), y72 = ((if (((fL_file o1 (fL_low p2 y62) v).1) : Int32) ≤ (-100000) then 0 else 1 : Int32) : Int32) → (((((y72 : Int32) = 0) → ((∀ (y75 : Int32), y75 = ((if (y65 : Int32) = 0 then ((-100103)) else ((-100102)) : Int32) : Int32) → (((((fL_file o1 (fL_low p2 y62) v).1) : Int32) = y75) ∧ ((oX10_onBench o1 v70) ∧ ((((fX10_onBench o1 v70) : Int32) = (fX10_onBench o1 v)) ∧ ((oX10_toFile o1 v70) ∧ ((((fX10_toFile o1 v70) : Int32) = (fX10_toFile o1 v)))))))))) ∧ (¬ ((y72 : Int32) = 0) → (((y65 : Int32) = 0) ∧ ((¬ (((fX10_toFile o1 v) : Int32) ≤ 0)) ∧ ((¬ ((20 : Int32) ≤ (fX10_onBench o1 v))) ∧ ((oX10_onBench o1 v70) ∧ ((((fX10_onBench o1 v70) : Int32) = ((fX10_onBench o1 v) + (1 : Int32))) ∧ ((oX10_toFile o1 v70) ∧ ((((fX10_toFile o1 v70) : Int32) = ((fX10_toFile o1 v) - (1 : Int32))) ∧ ((oX10_wasDoubted o1 (fX10_onBench o1 v) v70) ∧ (((fX10_wasDoubted o1 (fX10_onBench o1 v) v70).1 = 0) ∧ (((((fX10_wasDoubted o1 (fX10_onBench o1 v) v70).2) : Int32) = 0))))))))))))) ∧ ((oX10_brought o1 v70) ∧ ((((fX10_brought o1 v70) : Int32) = (fX10_brought o1 v)) ∧ (((y72 : Int32) = 0) → (((y65 : Int32) = 0) → (¬ (((fX10_toFile o1 v) : Int32) = 0) → (¬ (((fX10_onBench o1 v) : Int32) = 20) → ((¬ (((fL_low p2 y62) : Int32) ≤ 0)))))))))))))))))))))) ∧ (¬ ((p1 : Int32) = 1) → ((((p1 : Int32) = 2) → ((oX10_whyNotPass o1 v) ∧ ((¬ (((fX10_onBench o1 v) : Int32) = 0) → ((oX10_typeAt o1 0 v) ∧ ((fX10_typeAt o1 0 v).1 = 0))) ∧ (∀ (y35 : Int32), y35 = ((if ((fX10_onBench o1 v) : Int32) = 0 then ((-100104)) else ((fX10_typeAt o1 0 v).2) : Int32) : Int32) → ((oX10_unseen o1 v) ∧ ((oL_passUnseen o1 v) ∧ ((pot v ≤ pot v ∧ pot v ≤ pot ((fL_passUnseen o1 v).2) ∧ pot ((fL_passUnseen o1 v).2) ≤ pot (fL_moves o1 p1 p2 v)) ∧ (∀ v41 : vSt, v41 = ((fL_passUnseen o1 v).2) → ((∀ (y43 : Int32), y43 = ((if ((fX10_whyNotPass o1 v) : Int32) ≤ 0 then y35 else ((-100103)) : Int32) : Int32) → (((((fL_passUnseen o1 v).1) : Int32) = y43) ∧ ((oX10_onBench o1 v41) ∧ ((∀ (y47 : Int32), y47 = ((if ((fX10_whyNotPass o1 v) : Int32) ≤ 0 then 1 else 0 : Int32) : Int32) → ((((fX10_onBench o1 v41) : Int32) = ((fX10_onBench o1 v) - y47)) ∧ ((oX10_unseen o1 v41) ∧ ((∀ (y51 : Int32), y51 = ((if ((fX10_whyNotPass o1 v) : Int32) ≤ 0 then 1 else 0 : Int32) : Int32) → ((((fX10_unseen o1 v41) : Int32) = ((fX10_unseen o1 v) + y51)) ∧ (¬ ((0 : Int32) < (fX10_whyNotPass o1 v)) → (¬ (((fX10_onBench o1 v41) : Int32) = 0) → ((oX10_typeAt o1 0 v41) ∧ (((fX10_typeAt o1 0 v41).1 = 0) ∧ (((((fX10_typeAt o1 0 v41).2) : Int32) = y35) → ((oX10_whyNotPass o1 v41) ∧ ((((fX10_whyNotPass o1 v41) : Int32) = 3))))))))))))))))))))))))))) ∧ (¬ ((p1 : Int32) = 2) → ((oX10_types o1 v) ∧ ((oL_low (p2 >>> ((9 : Int32) &&& 31)) 14) ∧ ((∀ (y9 : Int32), y9 = ((if ((fL_low (p2 >>> ((9 : Int32) &&& 31)) 14) : Int32) = 0 then 1 else (if ((fX10_types o1 v) : Int32) = 0 then 1 else 0) : Int32) : Int32) → ((oL_low p2 ((fX10_types o1 v) + y9)) ∧ ((∀ (y12 : Int32), y12 = ((if ((fL_low p2 ((fX10_types o1 v) + y9)) : Int32) = (fX10_types o1 v) then 1 else 0 : Int32) : Int32) → ((((y12 : Int32) = 0) → ((oX10_charted o1 (fL_low p2 ((fX10_types o1 v) + y9)) v) ∧ ((fX10_charted o1 (fL_low p2 ((fX10_types o1 v) + y9)) v).1 = 0))) ∧ (∀ (y14 : Int32), y14 = ((if (y12 : Int32) = 0 then ((fX10_charted o1 (fL_low p2 ((fX10_types o1 v) + y9)) v).2) else 0 : Int32) : Int32) → ((¬ ((y14 : Int32) = 0) → ((oX10_spreadOf o1 (fL_low p2 ((fX10_types o1 v) + y9)) v) ∧ ((fX10_spreadOf o1 (fL_low p2 ((fX10_types o1 v) + y9)) v).1 = 0))) ∧ (∀ (y16 : Int32), y16 = ((if (y14 : Int32) = 0 then 0 else ((fX10_spreadOf o1 (fL_low p2 ((fX10_types o1 v) + y9)) v).2) : Int32) : Int32) → ((oL_throwOut o1 (fL_low p2 ((fX10_types o1 v) + y9)) v) ∧ ((pot v ≤ pot v ∧ pot v ≤ pot ((fL_throwOut o1 (fL_low p2 ((fX10_types o1 v) + y9)) v).2) ∧ pot ((fL_throwOut o1 (fL_low p2 ((fX10_types o1 v) + y9)) v).2) ≤ pot (fL_moves o1 p1 p2 v)) ∧ (∀ v21 : vSt, v21 = ((fL_throwOut o1 (fL_low p2 ((fX10_types o1 v) + y9)) v).2) → ((((y12 : Int32) = 0) → ((¬ ((((fL_throwOut o1 (fL_low p2 ((fX10_types o1 v) + y9)) v).1) : Int32) < 0)) ∧ ((oX10_charted o1 (fL_low p2 ((fX10_types o1 v) + y9)) v21) ∧ (((fX10_charted o1 (fL_low p2 ((fX10_types o1 v) + y9)) v21).1 = 0) ∧ (((((fX10_charted o1 (fL_low p2 ((fX10_types o1 v) + y9)) v21).2) : Int32) = (y14 - ((fL_throwOut o1 (fL_low p2 ((fX10_types o1 v) + y9)) v).1))) ∧ (¬ ((y14 : Int32) = 0) → ((¬ ((y14 : Int32) ≤ ((fL_throwOut o1 (fL_low p2 ((fX10_types o1 v) + y9)) v).1))) ∧ ((oX10_spreadOf o1 (fL_low p2 ((fX10_types o1 v) + y9)) v21) ∧ (((fX10_spreadOf o1 (fL_low p2 ((fX10_types o1 v) + y9)) v21).1 = 0) ∧ ((¬ ((y16 : Int32) < ((fX10_spreadOf o1 (fL_low p2 ((fX10_types o1 v) + y9)) v21).2))))))))))))) ∧ (¬ ((y12 : Int32) = 0) → (((((fL_throwOut o1 (fL_low p2 ((fX10_types o1 v) + y9)) v).1) : Int32) = (-100102)))))))))))))))))))))))))))
abbrev rmL_moves (o1 : Nat) (p1 : Int32) (p2 : Int32) (v : vSt) : Room := { frames := 9, cells := kkL_moves o1 p1 p2 v, slots := kkL_moves o1 p1 p2 v, locals := 241 }
theorem dL_moves_0 : decode cL_moves 0 = .ok (.aload_n 0, 1) := by decide +kernel
theorem dL_moves_1 : decode cL_moves 1 = .ok (.invokevirtual 247, 3) := by decide +kernel
theorem dL_moves_4 : decode cL_moves 4 = .ok (.istore_n 3, 1) := by decide +kernel
theorem dL_moves_5 : decode cL_moves 5 = .ok (.aload_n 0, 1) := by decide +kernel
theorem dL_moves_6 : decode cL_moves 6 = .ok (.invokevirtual 239, 3) := by decide +kernel
theorem dL_moves_9 : decode cL_moves 9 = .ok (.istore 4, 2) := by decide +kernel
theorem dL_moves_11 : decode cL_moves 11 = .ok (.aload_n 0, 1) := by decide +kernel
theorem dL_moves_12 : decode cL_moves 12 = .ok (.invokevirtual 215, 3) := by decide +kernel
theorem dL_moves_15 : decode cL_moves 15 = .ok (.istore 5, 2) := by decide +kernel
theorem dL_moves_17 : decode cL_moves 17 = .ok (.iload_n 1, 1) := by decide +kernel
theorem dL_moves_18 : decode cL_moves 18 = .ok (.ifCond .ne 248, 3) := by decide +kernel
theorem dL_moves_21 : decode cL_moves 21 = .ok (.iload_n 2, 1) := by decide +kernel
theorem dL_moves_22 : decode cL_moves 22 = .ok (.aload_n 0, 1) := by decide +kernel
theorem dL_moves_23 : decode cL_moves 23 = .ok (.invokevirtual 236, 3) := by decide +kernel
theorem dL_moves_26 : decode cL_moves 26 = .ok (.iload_n 2, 1) := by decide +kernel
theorem dL_moves_27 : decode cL_moves 27 = .ok (.bipush 9, 2) := by decide +kernel
theorem dL_moves_29 : decode cL_moves 29 = .ok (.ishr, 1) := by decide +kernel
theorem dL_moves_30 : decode cL_moves 30 = .ok (.bipush 14, 2) := by decide +kernel
theorem dL_moves_32 : decode cL_moves 32 = .ok (.invokestatic 250, 3) := by decide +kernel
theorem dL_moves_35 : decode cL_moves 35 = .ok (.ifCond .eq 10, 3) := by decide +kernel
theorem dL_moves_38 : decode cL_moves 38 = .ok (.aload_n 0, 1) := by decide +kernel
theorem dL_moves_39 : decode cL_moves 39 = .ok (.invokevirtual 236, 3) := by decide +kernel
theorem dL_moves_42 : decode cL_moves 42 = .ok (.ifCond .ne 7, 3) := by decide +kernel
theorem dL_moves_45 : decode cL_moves 45 = .ok (.iconst 1, 1) := by decide +kernel
theorem dL_moves_46 : decode cL_moves 46 = .ok (.goto 4, 3) := by decide +kernel
theorem dL_moves_49 : decode cL_moves 49 = .ok (.iconst 0, 1) := by decide +kernel
theorem dL_moves_50 : decode cL_moves 50 = .ok (.iadd, 1) := by decide +kernel
theorem dL_moves_51 : decode cL_moves 51 = .ok (.invokestatic 250, 3) := by decide +kernel
theorem dL_moves_54 : decode cL_moves 54 = .ok (.istore 6, 2) := by decide +kernel
theorem dL_moves_56 : decode cL_moves 56 = .ok (.iload_n 2, 1) := by decide +kernel
theorem dL_moves_57 : decode cL_moves 57 = .ok (.bipush 11, 2) := by decide +kernel
theorem dL_moves_59 : decode cL_moves 59 = .ok (.ishr, 1) := by decide +kernel
theorem dL_moves_60 : decode cL_moves 60 = .ok (.bipush 14, 2) := by decide +kernel
theorem dL_moves_62 : decode cL_moves 62 = .ok (.invokestatic 250, 3) := by decide +kernel
theorem dL_moves_65 : decode cL_moves 65 = .ok (.ifCond .ne 19, 3) := by decide +kernel
theorem dL_moves_68 : decode cL_moves 68 = .ok (.iload_n 2, 1) := by decide +kernel
theorem dL_moves_69 : decode cL_moves 69 = .ok (.iconst 3, 1) := by decide +kernel
theorem dL_moves_70 : decode cL_moves 70 = .ok (.ishr, 1) := by decide +kernel
theorem dL_moves_71 : decode cL_moves 71 = .ok (.sipush 500, 3) := by decide +kernel
theorem dL_moves_74 : decode cL_moves 74 = .ok (.invokestatic 250, 3) := by decide +kernel
theorem dL_moves_77 : decode cL_moves 77 = .ok (.sipush 250, 3) := by decide +kernel
theorem dL_moves_80 : decode cL_moves 80 = .ok (.isub, 1) := by decide +kernel
theorem dL_moves_81 : decode cL_moves 81 = .ok (.goto 14, 3) := by decide +kernel
theorem dL_moves_84 : decode cL_moves 84 = .ok (.iload_n 2, 1) := by decide +kernel
theorem dL_moves_85 : decode cL_moves 85 = .ok (.iconst 3, 1) := by decide +kernel
theorem dL_moves_86 : decode cL_moves 86 = .ok (.ishr, 1) := by decide +kernel
theorem dL_moves_87 : decode cL_moves 87 = .ok (.bipush 121, 2) := by decide +kernel
theorem dL_moves_89 : decode cL_moves 89 = .ok (.invokestatic 250, 3) := by decide +kernel
theorem dL_moves_92 : decode cL_moves 92 = .ok (.bipush 60, 2) := by decide +kernel
theorem dL_moves_94 : decode cL_moves 94 = .ok (.isub, 1) := by decide +kernel
theorem dL_moves_95 : decode cL_moves 95 = .ok (.istore 7, 2) := by decide +kernel
theorem dL_moves_97 : decode cL_moves 97 = .ok (.iload 6, 2) := by decide +kernel
theorem dL_moves_99 : decode cL_moves 99 = .ok (.aload_n 0, 1) := by decide +kernel
theorem dL_moves_100 : decode cL_moves 100 = .ok (.invokevirtual 236, 3) := by decide +kernel
theorem dL_moves_103 : decode cL_moves 103 = .ok (.if_icmp .eq 32, 3) := by decide +kernel
theorem dL_moves_106 : decode cL_moves 106 = .ok (.iload 7, 2) := by decide +kernel
theorem dL_moves_108 : decode cL_moves 108 = .ok (.sipush (-200), 3) := by decide +kernel
theorem dL_moves_111 : decode cL_moves 111 = .ok (.if_icmp .lt 24, 3) := by decide +kernel
theorem dL_moves_114 : decode cL_moves 114 = .ok (.iload 7, 2) := by decide +kernel
theorem dL_moves_116 : decode cL_moves 116 = .ok (.sipush 200, 3) := by decide +kernel
theorem dL_moves_119 : decode cL_moves 119 = .ok (.if_icmp .gt 16, 3) := by decide +kernel
theorem dL_moves_122 : decode cL_moves 122 = .ok (.aload_n 0, 1) := by decide +kernel
theorem dL_moves_123 : decode cL_moves 123 = .ok (.iload 6, 2) := by decide +kernel
theorem dL_moves_125 : decode cL_moves 125 = .ok (.invokevirtual 173, 3) := by decide +kernel
theorem dL_moves_128 : decode cL_moves 128 = .ok (.iload 7, 2) := by decide +kernel
theorem dL_moves_130 : decode cL_moves 130 = .ok (.iadd, 1) := by decide +kernel
theorem dL_moves_131 : decode cL_moves 131 = .ok (.iconst 1, 1) := by decide +kernel
theorem dL_moves_132 : decode cL_moves 132 = .ok (.if_icmp .ge 7, 3) := by decide +kernel
theorem dL_moves_135 : decode cL_moves 135 = .ok (.iconst 1, 1) := by decide +kernel
theorem dL_moves_136 : decode cL_moves 136 = .ok (.goto 4, 3) := by decide +kernel
theorem dL_moves_139 : decode cL_moves 139 = .ok (.iconst 0, 1) := by decide +kernel
theorem dL_moves_140 : decode cL_moves 140 = .ok (.istore 8, 2) := by decide +kernel
theorem dL_moves_142 : decode cL_moves 142 = .ok (.aload_n 0, 1) := by decide +kernel
theorem dL_moves_143 : decode cL_moves 143 = .ok (.iload 6, 2) := by decide +kernel
theorem dL_moves_145 : decode cL_moves 145 = .ok (.iload 7, 2) := by decide +kernel
theorem dL_moves_147 : decode cL_moves 147 = .ok (.invokestatic 361, 3) := by decide +kernel
theorem dL_moves_150 : decode cL_moves 150 = .ok (.istore 9, 2) := by decide +kernel
theorem dL_moves_152 : decode cL_moves 152 = .ok (.iload 8, 2) := by decide +kernel
theorem dL_moves_154 : decode cL_moves 154 = .ok (.ifCond .ne 13, 3) := by decide +kernel
theorem dL_moves_157 : decode cL_moves 157 = .ok (.iload_n 3, 1) := by decide +kernel
theorem dL_moves_158 : decode cL_moves 158 = .ok (.bipush 20, 2) := by decide +kernel
theorem dL_moves_160 : decode cL_moves 160 = .ok (.if_icmp .ge 7, 3) := by decide +kernel
theorem dL_moves_163 : decode cL_moves 163 = .ok (.iconst 1, 1) := by decide +kernel
theorem dL_moves_164 : decode cL_moves 164 = .ok (.goto 4, 3) := by decide +kernel
theorem dL_moves_167 : decode cL_moves 167 = .ok (.iconst 0, 1) := by decide +kernel
theorem dL_moves_168 : decode cL_moves 168 = .ok (.istore 10, 2) := by decide +kernel
theorem dL_moves_170 : decode cL_moves 170 = .ok (.iload 9, 2) := by decide +kernel
theorem dL_moves_172 : decode cL_moves 172 = .ok (.iload 8, 2) := by decide +kernel
theorem dL_moves_174 : decode cL_moves 174 = .ok (.ifCond .eq 8, 3) := by decide +kernel
theorem dL_moves_177 : decode cL_moves 177 = .ok (.ldc 17, 2) := by decide +kernel
theorem dL_moves_179 : decode cL_moves 179 = .ok (.goto 16, 3) := by decide +kernel
theorem dL_moves_182 : decode cL_moves 182 = .ok (.iload 10, 2) := by decide +kernel
theorem dL_moves_184 : decode cL_moves 184 = .ok (.ifCond .eq 9, 3) := by decide +kernel
theorem dL_moves_187 : decode cL_moves 187 = .ok (.iload_n 3, 1) := by decide +kernel
theorem dL_moves_188 : decode cL_moves 188 = .ok (.iconst 1, 1) := by decide +kernel
theorem dL_moves_189 : decode cL_moves 189 = .ok (.iadd, 1) := by decide +kernel
theorem dL_moves_190 : decode cL_moves 190 = .ok (.goto 5, 3) := by decide +kernel
theorem dL_moves_193 : decode cL_moves 193 = .ok (.ldc 20, 2) := by decide +kernel
theorem dL_moves_195 : decode cL_moves 195 = .ok (.if_icmp .ne 69, 3) := by decide +kernel
theorem dL_moves_198 : decode cL_moves 198 = .ok (.aload_n 0, 1) := by decide +kernel
theorem dL_moves_199 : decode cL_moves 199 = .ok (.invokevirtual 247, 3) := by decide +kernel
theorem dL_moves_202 : decode cL_moves 202 = .ok (.iload_n 3, 1) := by decide +kernel
theorem dL_moves_203 : decode cL_moves 203 = .ok (.iload 10, 2) := by decide +kernel
theorem dL_moves_205 : decode cL_moves 205 = .ok (.ifCond .eq 7, 3) := by decide +kernel
theorem dL_moves_208 : decode cL_moves 208 = .ok (.iconst 1, 1) := by decide +kernel
theorem dL_moves_209 : decode cL_moves 209 = .ok (.goto 4, 3) := by decide +kernel
theorem dL_moves_212 : decode cL_moves 212 = .ok (.iconst 0, 1) := by decide +kernel
theorem dL_moves_213 : decode cL_moves 213 = .ok (.iadd, 1) := by decide +kernel
theorem dL_moves_214 : decode cL_moves 214 = .ok (.if_icmp .ne 50, 3) := by decide +kernel
theorem dL_moves_217 : decode cL_moves 217 = .ok (.aload_n 0, 1) := by decide +kernel
theorem dL_moves_218 : decode cL_moves 218 = .ok (.invokevirtual 215, 3) := by decide +kernel
theorem dL_moves_221 : decode cL_moves 221 = .ok (.iload 5, 2) := by decide +kernel
theorem dL_moves_223 : decode cL_moves 223 = .ok (.iload 10, 2) := by decide +kernel
theorem dL_moves_225 : decode cL_moves 225 = .ok (.ifCond .eq 7, 3) := by decide +kernel
theorem dL_moves_228 : decode cL_moves 228 = .ok (.iconst 1, 1) := by decide +kernel
theorem dL_moves_229 : decode cL_moves 229 = .ok (.goto 4, 3) := by decide +kernel
theorem dL_moves_232 : decode cL_moves 232 = .ok (.iconst 0, 1) := by decide +kernel
theorem dL_moves_233 : decode cL_moves 233 = .ok (.iadd, 1) := by decide +kernel
theorem dL_moves_234 : decode cL_moves 234 = .ok (.if_icmp .ne 30, 3) := by decide +kernel
theorem dL_moves_237 : decode cL_moves 237 = .ok (.iload 10, 2) := by decide +kernel
theorem dL_moves_239 : decode cL_moves 239 = .ok (.ifCond .eq 21, 3) := by decide +kernel
theorem dL_moves_242 : decode cL_moves 242 = .ok (.aload_n 0, 1) := by decide +kernel
theorem dL_moves_243 : decode cL_moves 243 = .ok (.iload_n 3, 1) := by decide +kernel
theorem dL_moves_244 : decode cL_moves 244 = .ok (.invokevirtual 68, 3) := by decide +kernel
theorem dL_moves_247 : decode cL_moves 247 = .ok (.iload 6, 2) := by decide +kernel
theorem dL_moves_249 : decode cL_moves 249 = .ok (.if_icmp .ne 15, 3) := by decide +kernel
theorem dL_moves_252 : decode cL_moves 252 = .ok (.aload_n 0, 1) := by decide +kernel
theorem dL_moves_253 : decode cL_moves 253 = .ok (.iload_n 3, 1) := by decide +kernel
theorem dL_moves_254 : decode cL_moves 254 = .ok (.invokevirtual 74, 3) := by decide +kernel
theorem dL_moves_257 : decode cL_moves 257 = .ok (.ifCond .ne 7, 3) := by decide +kernel
theorem dL_moves_260 : decode cL_moves 260 = .ok (.iconst 1, 1) := by decide +kernel
theorem dL_moves_261 : decode cL_moves 261 = .ok (.goto 4, 3) := by decide +kernel
theorem dL_moves_265 : decode cL_moves 265 = .ok (.ireturn, 1) := by decide +kernel
theorem dL_moves_266 : decode cL_moves 266 = .ok (.iload_n 1, 1) := by decide +kernel
theorem dL_moves_267 : decode cL_moves 267 = .ok (.iconst 1, 1) := by decide +kernel
theorem dL_moves_268 : decode cL_moves 268 = .ok (.if_icmp .ne 199, 3) := by decide +kernel
theorem dL_moves_271 : decode cL_moves 271 = .ok (.iload_n 2, 1) := by decide +kernel
theorem dL_moves_272 : decode cL_moves 272 = .ok (.iload_n 2, 1) := by decide +kernel
theorem dL_moves_273 : decode cL_moves 273 = .ok (.bipush 9, 2) := by decide +kernel
theorem dL_moves_275 : decode cL_moves 275 = .ok (.ishr, 1) := by decide +kernel
theorem dL_moves_276 : decode cL_moves 276 = .ok (.bipush 9, 2) := by decide +kernel
theorem dL_moves_278 : decode cL_moves 278 = .ok (.invokestatic 250, 3) := by decide +kernel
theorem dL_moves_281 : decode cL_moves 281 = .ok (.ifCond .ne 8, 3) := by decide +kernel
theorem dL_moves_284 : decode cL_moves 284 = .ok (.bipush 102, 2) := by decide +kernel
theorem dL_moves_286 : decode cL_moves 286 = .ok (.goto 5, 3) := by decide +kernel
theorem dL_moves_289 : decode cL_moves 289 = .ok (.bipush 40, 2) := by decide +kernel
theorem dL_moves_291 : decode cL_moves 291 = .ok (.invokestatic 250, 3) := by decide +kernel
theorem dL_moves_294 : decode cL_moves 294 = .ok (.istore 6, 2) := by decide +kernel
theorem dL_moves_296 : decode cL_moves 296 = .ok (.iload 6, 2) := by decide +kernel
theorem dL_moves_298 : decode cL_moves 298 = .ok (.iconst 1, 1) := by decide +kernel
theorem dL_moves_299 : decode cL_moves 299 = .ok (.if_icmp .lt 10, 3) := by decide +kernel
theorem dL_moves_302 : decode cL_moves 302 = .ok (.iload 6, 2) := by decide +kernel
theorem dL_moves_304 : decode cL_moves 304 = .ok (.bipush 99, 2) := by decide +kernel
theorem dL_moves_306 : decode cL_moves 306 = .ok (.if_icmp .le 7, 3) := by decide +kernel
theorem dL_moves_309 : decode cL_moves 309 = .ok (.iconst 1, 1) := by decide +kernel
theorem dL_moves_310 : decode cL_moves 310 = .ok (.goto 4, 3) := by decide +kernel
theorem dL_moves_313 : decode cL_moves 313 = .ok (.iconst 0, 1) := by decide +kernel
theorem dL_moves_314 : decode cL_moves 314 = .ok (.istore 7, 2) := by decide +kernel
theorem dL_moves_316 : decode cL_moves 316 = .ok (.aload_n 0, 1) := by decide +kernel
theorem dL_moves_317 : decode cL_moves 317 = .ok (.iload 6, 2) := by decide +kernel
theorem dL_moves_319 : decode cL_moves 319 = .ok (.invokestatic 363, 3) := by decide +kernel
theorem dL_moves_322 : decode cL_moves 322 = .ok (.istore 8, 2) := by decide +kernel
theorem dL_moves_324 : decode cL_moves 324 = .ok (.iload 8, 2) := by decide +kernel
theorem dL_moves_326 : decode cL_moves 326 = .ok (.ldc_w 358, 3) := by decide +kernel
theorem dL_moves_329 : decode cL_moves 329 = .ok (.if_icmp .le 7, 3) := by decide +kernel
theorem dL_moves_332 : decode cL_moves 332 = .ok (.iconst 1, 1) := by decide +kernel
theorem dL_moves_333 : decode cL_moves 333 = .ok (.goto 4, 3) := by decide +kernel
theorem dL_moves_336 : decode cL_moves 336 = .ok (.iconst 0, 1) := by decide +kernel
theorem dL_moves_337 : decode cL_moves 337 = .ok (.istore 9, 2) := by decide +kernel
theorem dL_moves_339 : decode cL_moves 339 = .ok (.iload 9, 2) := by decide +kernel
theorem dL_moves_341 : decode cL_moves 341 = .ok (.ifCond .eq 51, 3) := by decide +kernel
theorem dL_moves_344 : decode cL_moves 344 = .ok (.iload 7, 2) := by decide +kernel
theorem dL_moves_346 : decode cL_moves 346 = .ok (.ifCond .ne 119, 3) := by decide +kernel
theorem dL_moves_349 : decode cL_moves 349 = .ok (.iload 4, 2) := by decide +kernel
theorem dL_moves_351 : decode cL_moves 351 = .ok (.ifCond .le 114, 3) := by decide +kernel
theorem dL_moves_354 : decode cL_moves 354 = .ok (.iload_n 3, 1) := by decide +kernel
theorem dL_moves_355 : decode cL_moves 355 = .ok (.bipush 20, 2) := by decide +kernel
theorem dL_moves_357 : decode cL_moves 357 = .ok (.if_icmp .ge 108, 3) := by decide +kernel
theorem dL_moves_360 : decode cL_moves 360 = .ok (.aload_n 0, 1) := by decide +kernel
theorem dL_moves_361 : decode cL_moves 361 = .ok (.invokevirtual 247, 3) := by decide +kernel
theorem dL_moves_364 : decode cL_moves 364 = .ok (.iload_n 3, 1) := by decide +kernel
theorem dL_moves_365 : decode cL_moves 365 = .ok (.iconst 1, 1) := by decide +kernel
theorem dL_moves_366 : decode cL_moves 366 = .ok (.iadd, 1) := by decide +kernel
theorem dL_moves_367 : decode cL_moves 367 = .ok (.if_icmp .ne 98, 3) := by decide +kernel
theorem dL_moves_370 : decode cL_moves 370 = .ok (.aload_n 0, 1) := by decide +kernel
theorem dL_moves_371 : decode cL_moves 371 = .ok (.invokevirtual 239, 3) := by decide +kernel
theorem dL_moves_374 : decode cL_moves 374 = .ok (.iload 4, 2) := by decide +kernel
theorem dL_moves_376 : decode cL_moves 376 = .ok (.iconst 1, 1) := by decide +kernel
theorem dL_moves_377 : decode cL_moves 377 = .ok (.isub, 1) := by decide +kernel
theorem dL_moves_378 : decode cL_moves 378 = .ok (.if_icmp .ne 87, 3) := by decide +kernel
theorem dL_moves_381 : decode cL_moves 381 = .ok (.aload_n 0, 1) := by decide +kernel
theorem dL_moves_382 : decode cL_moves 382 = .ok (.iload_n 3, 1) := by decide +kernel
theorem dL_moves_383 : decode cL_moves 383 = .ok (.invokevirtual 74, 3) := by decide +kernel
theorem dL_moves_386 : decode cL_moves 386 = .ok (.ifCond .ne 79, 3) := by decide +kernel
theorem dL_moves_389 : decode cL_moves 389 = .ok (.goto 37, 3) := by decide +kernel
theorem dL_moves_392 : decode cL_moves 392 = .ok (.iload 8, 2) := by decide +kernel
theorem dL_moves_394 : decode cL_moves 394 = .ok (.iload 7, 2) := by decide +kernel
theorem dL_moves_396 : decode cL_moves 396 = .ok (.ifCond .eq 8, 3) := by decide +kernel
theorem dL_moves_399 : decode cL_moves 399 = .ok (.ldc 17, 2) := by decide +kernel
theorem dL_moves_401 : decode cL_moves 401 = .ok (.goto 5, 3) := by decide +kernel
theorem dL_moves_404 : decode cL_moves 404 = .ok (.ldc 20, 2) := by decide +kernel
theorem dL_moves_406 : decode cL_moves 406 = .ok (.if_icmp .ne 59, 3) := by decide +kernel
theorem dL_moves_409 : decode cL_moves 409 = .ok (.aload_n 0, 1) := by decide +kernel
theorem dL_moves_410 : decode cL_moves 410 = .ok (.invokevirtual 247, 3) := by decide +kernel
theorem dL_moves_413 : decode cL_moves 413 = .ok (.iload_n 3, 1) := by decide +kernel
theorem dL_moves_414 : decode cL_moves 414 = .ok (.if_icmp .ne 51, 3) := by decide +kernel
theorem dL_moves_417 : decode cL_moves 417 = .ok (.aload_n 0, 1) := by decide +kernel
theorem dL_moves_418 : decode cL_moves 418 = .ok (.invokevirtual 239, 3) := by decide +kernel
theorem dL_moves_421 : decode cL_moves 421 = .ok (.iload 4, 2) := by decide +kernel
theorem dL_moves_423 : decode cL_moves 423 = .ok (.if_icmp .ne 42, 3) := by decide +kernel
theorem dL_moves_426 : decode cL_moves 426 = .ok (.aload_n 0, 1) := by decide +kernel
theorem dL_moves_427 : decode cL_moves 427 = .ok (.invokevirtual 215, 3) := by decide +kernel
theorem dL_moves_430 : decode cL_moves 430 = .ok (.iload 5, 2) := by decide +kernel
theorem dL_moves_432 : decode cL_moves 432 = .ok (.if_icmp .ne 33, 3) := by decide +kernel
theorem dL_moves_435 : decode cL_moves 435 = .ok (.iload 9, 2) := by decide +kernel
theorem dL_moves_437 : decode cL_moves 437 = .ok (.ifCond .ne 24, 3) := by decide +kernel
theorem dL_moves_440 : decode cL_moves 440 = .ok (.iload 7, 2) := by decide +kernel
theorem dL_moves_442 : decode cL_moves 442 = .ok (.ifCond .ne 19, 3) := by decide +kernel
theorem dL_moves_445 : decode cL_moves 445 = .ok (.iload 4, 2) := by decide +kernel
theorem dL_moves_447 : decode cL_moves 447 = .ok (.ifCond .eq 14, 3) := by decide +kernel
theorem dL_moves_450 : decode cL_moves 450 = .ok (.iload_n 3, 1) := by decide +kernel
theorem dL_moves_451 : decode cL_moves 451 = .ok (.bipush 20, 2) := by decide +kernel
theorem dL_moves_453 : decode cL_moves 453 = .ok (.if_icmp .eq 8, 3) := by decide +kernel
theorem dL_moves_456 : decode cL_moves 456 = .ok (.iload 6, 2) := by decide +kernel
theorem dL_moves_458 : decode cL_moves 458 = .ok (.ifCond .le 7, 3) := by decide +kernel
theorem dL_moves_461 : decode cL_moves 461 = .ok (.iconst 1, 1) := by decide +kernel
theorem dL_moves_462 : decode cL_moves 462 = .ok (.goto 4, 3) := by decide +kernel
theorem dL_moves_466 : decode cL_moves 466 = .ok (.ireturn, 1) := by decide +kernel
theorem dL_moves_467 : decode cL_moves 467 = .ok (.iload_n 1, 1) := by decide +kernel
theorem dL_moves_468 : decode cL_moves 468 = .ok (.iconst 2, 1) := by decide +kernel
theorem dL_moves_469 : decode cL_moves 469 = .ok (.if_icmp .ne 129, 3) := by decide +kernel
theorem dL_moves_472 : decode cL_moves 472 = .ok (.aload_n 0, 1) := by decide +kernel
theorem dL_moves_473 : decode cL_moves 473 = .ok (.invokevirtual 317, 3) := by decide +kernel
theorem dL_moves_476 : decode cL_moves 476 = .ok (.istore 6, 2) := by decide +kernel
theorem dL_moves_478 : decode cL_moves 478 = .ok (.iload_n 3, 1) := by decide +kernel
theorem dL_moves_479 : decode cL_moves 479 = .ok (.ifCond .ne 8, 3) := by decide +kernel
theorem dL_moves_482 : decode cL_moves 482 = .ok (.ldc 73, 2) := by decide +kernel
theorem dL_moves_484 : decode cL_moves 484 = .ok (.goto 8, 3) := by decide +kernel
theorem dL_moves_487 : decode cL_moves 487 = .ok (.aload_n 0, 1) := by decide +kernel
theorem dL_moves_488 : decode cL_moves 488 = .ok (.iconst 0, 1) := by decide +kernel
theorem dL_moves_489 : decode cL_moves 489 = .ok (.invokevirtual 68, 3) := by decide +kernel
theorem dL_moves_492 : decode cL_moves 492 = .ok (.istore 7, 2) := by decide +kernel
theorem dL_moves_494 : decode cL_moves 494 = .ok (.aload_n 0, 1) := by decide +kernel
theorem dL_moves_495 : decode cL_moves 495 = .ok (.invokevirtual 224, 3) := by decide +kernel
theorem dL_moves_498 : decode cL_moves 498 = .ok (.istore 8, 2) := by decide +kernel
theorem dL_moves_500 : decode cL_moves 500 = .ok (.aload_n 0, 1) := by decide +kernel
theorem dL_moves_501 : decode cL_moves 501 = .ok (.invokestatic 365, 3) := by decide +kernel
theorem dL_moves_504 : decode cL_moves 504 = .ok (.istore 9, 2) := by decide +kernel
theorem dL_moves_506 : decode cL_moves 506 = .ok (.iload 9, 2) := by decide +kernel
theorem dL_moves_508 : decode cL_moves 508 = .ok (.iload 6, 2) := by decide +kernel
theorem dL_moves_510 : decode cL_moves 510 = .ok (.ifCond .le 8, 3) := by decide +kernel
theorem dL_moves_513 : decode cL_moves 513 = .ok (.ldc 20, 2) := by decide +kernel
theorem dL_moves_515 : decode cL_moves 515 = .ok (.goto 5, 3) := by decide +kernel
theorem dL_moves_518 : decode cL_moves 518 = .ok (.iload 7, 2) := by decide +kernel
theorem dL_moves_520 : decode cL_moves 520 = .ok (.if_icmp .ne 76, 3) := by decide +kernel
theorem dL_moves_523 : decode cL_moves 523 = .ok (.aload_n 0, 1) := by decide +kernel
theorem dL_moves_524 : decode cL_moves 524 = .ok (.invokevirtual 247, 3) := by decide +kernel
theorem dL_moves_527 : decode cL_moves 527 = .ok (.iload_n 3, 1) := by decide +kernel
theorem dL_moves_528 : decode cL_moves 528 = .ok (.iload 6, 2) := by decide +kernel
theorem dL_moves_530 : decode cL_moves 530 = .ok (.ifCond .le 7, 3) := by decide +kernel
theorem dL_moves_533 : decode cL_moves 533 = .ok (.iconst 0, 1) := by decide +kernel
theorem dL_moves_534 : decode cL_moves 534 = .ok (.goto 4, 3) := by decide +kernel
theorem dL_moves_537 : decode cL_moves 537 = .ok (.iconst 1, 1) := by decide +kernel
theorem dL_moves_538 : decode cL_moves 538 = .ok (.isub, 1) := by decide +kernel
theorem dL_moves_539 : decode cL_moves 539 = .ok (.if_icmp .ne 57, 3) := by decide +kernel
theorem dL_moves_542 : decode cL_moves 542 = .ok (.aload_n 0, 1) := by decide +kernel
theorem dL_moves_543 : decode cL_moves 543 = .ok (.invokevirtual 224, 3) := by decide +kernel
theorem dL_moves_546 : decode cL_moves 546 = .ok (.iload 8, 2) := by decide +kernel
theorem dL_moves_548 : decode cL_moves 548 = .ok (.iload 6, 2) := by decide +kernel
theorem dL_moves_550 : decode cL_moves 550 = .ok (.ifCond .le 7, 3) := by decide +kernel
theorem dL_moves_553 : decode cL_moves 553 = .ok (.iconst 0, 1) := by decide +kernel
theorem dL_moves_554 : decode cL_moves 554 = .ok (.goto 4, 3) := by decide +kernel
theorem dL_moves_557 : decode cL_moves 557 = .ok (.iconst 1, 1) := by decide +kernel
theorem dL_moves_558 : decode cL_moves 558 = .ok (.iadd, 1) := by decide +kernel
theorem dL_moves_559 : decode cL_moves 559 = .ok (.if_icmp .ne 37, 3) := by decide +kernel
theorem dL_moves_562 : decode cL_moves 562 = .ok (.iload 6, 2) := by decide +kernel
theorem dL_moves_564 : decode cL_moves 564 = .ok (.ifCond .gt 28, 3) := by decide +kernel
theorem dL_moves_567 : decode cL_moves 567 = .ok (.aload_n 0, 1) := by decide +kernel
theorem dL_moves_568 : decode cL_moves 568 = .ok (.invokevirtual 247, 3) := by decide +kernel
theorem dL_moves_571 : decode cL_moves 571 = .ok (.ifCond .eq 21, 3) := by decide +kernel
theorem dL_moves_574 : decode cL_moves 574 = .ok (.aload_n 0, 1) := by decide +kernel
theorem dL_moves_575 : decode cL_moves 575 = .ok (.iconst 0, 1) := by decide +kernel
theorem dL_moves_576 : decode cL_moves 576 = .ok (.invokevirtual 68, 3) := by decide +kernel
theorem dL_moves_579 : decode cL_moves 579 = .ok (.iload 7, 2) := by decide +kernel
theorem dL_moves_581 : decode cL_moves 581 = .ok (.if_icmp .ne 11, 3) := by decide +kernel
theorem dL_moves_584 : decode cL_moves 584 = .ok (.aload_n 0, 1) := by decide +kernel
theorem dL_moves_585 : decode cL_moves 585 = .ok (.invokevirtual 317, 3) := by decide +kernel
theorem dL_moves_588 : decode cL_moves 588 = .ok (.iconst 3, 1) := by decide +kernel
theorem dL_moves_589 : decode cL_moves 589 = .ok (.if_icmp .ne 7, 3) := by decide +kernel
theorem dL_moves_592 : decode cL_moves 592 = .ok (.iconst 1, 1) := by decide +kernel
theorem dL_moves_593 : decode cL_moves 593 = .ok (.goto 4, 3) := by decide +kernel
theorem dL_moves_597 : decode cL_moves 597 = .ok (.ireturn, 1) := by decide +kernel
theorem dL_moves_598 : decode cL_moves 598 = .ok (.iload_n 2, 1) := by decide +kernel
theorem dL_moves_599 : decode cL_moves 599 = .ok (.aload_n 0, 1) := by decide +kernel
theorem dL_moves_600 : decode cL_moves 600 = .ok (.invokevirtual 236, 3) := by decide +kernel
theorem dL_moves_603 : decode cL_moves 603 = .ok (.iload_n 2, 1) := by decide +kernel
theorem dL_moves_604 : decode cL_moves 604 = .ok (.bipush 9, 2) := by decide +kernel
theorem dL_moves_606 : decode cL_moves 606 = .ok (.ishr, 1) := by decide +kernel
theorem dL_moves_607 : decode cL_moves 607 = .ok (.bipush 14, 2) := by decide +kernel
theorem dL_moves_609 : decode cL_moves 609 = .ok (.invokestatic 250, 3) := by decide +kernel
theorem dL_moves_612 : decode cL_moves 612 = .ok (.ifCond .eq 10, 3) := by decide +kernel
theorem dL_moves_615 : decode cL_moves 615 = .ok (.aload_n 0, 1) := by decide +kernel
theorem dL_moves_616 : decode cL_moves 616 = .ok (.invokevirtual 236, 3) := by decide +kernel
theorem dL_moves_619 : decode cL_moves 619 = .ok (.ifCond .ne 7, 3) := by decide +kernel
theorem dL_moves_622 : decode cL_moves 622 = .ok (.iconst 1, 1) := by decide +kernel
theorem dL_moves_623 : decode cL_moves 623 = .ok (.goto 4, 3) := by decide +kernel
theorem dL_moves_626 : decode cL_moves 626 = .ok (.iconst 0, 1) := by decide +kernel
theorem dL_moves_627 : decode cL_moves 627 = .ok (.iadd, 1) := by decide +kernel
theorem dL_moves_628 : decode cL_moves 628 = .ok (.invokestatic 250, 3) := by decide +kernel
theorem dL_moves_631 : decode cL_moves 631 = .ok (.istore 6, 2) := by decide +kernel
theorem dL_moves_633 : decode cL_moves 633 = .ok (.iload 6, 2) := by decide +kernel
theorem dL_moves_635 : decode cL_moves 635 = .ok (.aload_n 0, 1) := by decide +kernel
theorem dL_moves_636 : decode cL_moves 636 = .ok (.invokevirtual 236, 3) := by decide +kernel
theorem dL_moves_639 : decode cL_moves 639 = .ok (.if_icmp .ne 7, 3) := by decide +kernel
theorem dL_moves_642 : decode cL_moves 642 = .ok (.iconst 1, 1) := by decide +kernel
theorem dL_moves_643 : decode cL_moves 643 = .ok (.goto 4, 3) := by decide +kernel
theorem dL_moves_646 : decode cL_moves 646 = .ok (.iconst 0, 1) := by decide +kernel
theorem dL_moves_647 : decode cL_moves 647 = .ok (.istore 7, 2) := by decide +kernel
theorem dL_moves_649 : decode cL_moves 649 = .ok (.iload 7, 2) := by decide +kernel
theorem dL_moves_651 : decode cL_moves 651 = .ok (.ifCond .eq 7, 3) := by decide +kernel
theorem dL_moves_654 : decode cL_moves 654 = .ok (.iconst 0, 1) := by decide +kernel
theorem dL_moves_655 : decode cL_moves 655 = .ok (.goto 9, 3) := by decide +kernel
theorem dL_moves_658 : decode cL_moves 658 = .ok (.aload_n 0, 1) := by decide +kernel
theorem dL_moves_659 : decode cL_moves 659 = .ok (.iload 6, 2) := by decide +kernel
theorem dL_moves_661 : decode cL_moves 661 = .ok (.invokevirtual 188, 3) := by decide +kernel
theorem dL_moves_664 : decode cL_moves 664 = .ok (.istore 8, 2) := by decide +kernel
theorem dL_moves_666 : decode cL_moves 666 = .ok (.iload 8, 2) := by decide +kernel
theorem dL_moves_668 : decode cL_moves 668 = .ok (.ifCond .ne 7, 3) := by decide +kernel
theorem dL_moves_671 : decode cL_moves 671 = .ok (.iconst 0, 1) := by decide +kernel
theorem dL_moves_672 : decode cL_moves 672 = .ok (.goto 9, 3) := by decide +kernel
theorem dL_moves_675 : decode cL_moves 675 = .ok (.aload_n 0, 1) := by decide +kernel
theorem dL_moves_676 : decode cL_moves 676 = .ok (.iload 6, 2) := by decide +kernel
theorem dL_moves_678 : decode cL_moves 678 = .ok (.invokevirtual 98, 3) := by decide +kernel
theorem dL_moves_681 : decode cL_moves 681 = .ok (.istore 9, 2) := by decide +kernel
theorem dL_moves_683 : decode cL_moves 683 = .ok (.aload_n 0, 1) := by decide +kernel
theorem dL_moves_684 : decode cL_moves 684 = .ok (.iload 6, 2) := by decide +kernel
theorem dL_moves_686 : decode cL_moves 686 = .ok (.invokestatic 367, 3) := by decide +kernel
theorem dL_moves_689 : decode cL_moves 689 = .ok (.istore 10, 2) := by decide +kernel
theorem dL_moves_691 : decode cL_moves 691 = .ok (.iload 7, 2) := by decide +kernel
theorem dL_moves_693 : decode cL_moves 693 = .ok (.ifCond .eq 18, 3) := by decide +kernel
theorem dL_moves_696 : decode cL_moves 696 = .ok (.iload 10, 2) := by decide +kernel
theorem dL_moves_698 : decode cL_moves 698 = .ok (.ldc 17, 2) := by decide +kernel
theorem dL_moves_700 : decode cL_moves 700 = .ok (.if_icmp .ne 7, 3) := by decide +kernel
theorem dL_moves_703 : decode cL_moves 703 = .ok (.iconst 1, 1) := by decide +kernel
theorem dL_moves_704 : decode cL_moves 704 = .ok (.goto 54, 3) := by decide +kernel
theorem dL_moves_711 : decode cL_moves 711 = .ok (.iload 10, 2) := by decide +kernel
theorem dL_moves_713 : decode cL_moves 713 = .ok (.ifCond .lt 44, 3) := by decide +kernel
theorem dL_moves_716 : decode cL_moves 716 = .ok (.aload_n 0, 1) := by decide +kernel
theorem dL_moves_717 : decode cL_moves 717 = .ok (.iload 6, 2) := by decide +kernel
theorem dL_moves_719 : decode cL_moves 719 = .ok (.invokevirtual 188, 3) := by decide +kernel
theorem dL_moves_722 : decode cL_moves 722 = .ok (.iload 8, 2) := by decide +kernel
theorem dL_moves_724 : decode cL_moves 724 = .ok (.iload 10, 2) := by decide +kernel
theorem dL_moves_726 : decode cL_moves 726 = .ok (.isub, 1) := by decide +kernel
theorem dL_moves_727 : decode cL_moves 727 = .ok (.if_icmp .ne 30, 3) := by decide +kernel
theorem dL_moves_730 : decode cL_moves 730 = .ok (.iload 8, 2) := by decide +kernel
theorem dL_moves_732 : decode cL_moves 732 = .ok (.ifCond .eq 21, 3) := by decide +kernel
theorem dL_moves_735 : decode cL_moves 735 = .ok (.iload 10, 2) := by decide +kernel
theorem dL_moves_737 : decode cL_moves 737 = .ok (.iload 8, 2) := by decide +kernel
theorem dL_moves_739 : decode cL_moves 739 = .ok (.if_icmp .ge 18, 3) := by decide +kernel
theorem dL_moves_742 : decode cL_moves 742 = .ok (.aload_n 0, 1) := by decide +kernel
theorem dL_moves_743 : decode cL_moves 743 = .ok (.iload 6, 2) := by decide +kernel
theorem dL_moves_745 : decode cL_moves 745 = .ok (.invokevirtual 98, 3) := by decide +kernel
theorem dL_moves_748 : decode cL_moves 748 = .ok (.iload 9, 2) := by decide +kernel
theorem dL_moves_750 : decode cL_moves 750 = .ok (.if_icmp .gt 7, 3) := by decide +kernel
theorem dL_moves_753 : decode cL_moves 753 = .ok (.iconst 1, 1) := by decide +kernel
theorem dL_moves_754 : decode cL_moves 754 = .ok (.goto 4, 3) := by decide +kernel
theorem dL_moves_758 : decode cL_moves 758 = .ok (.ireturn, 1) := by decide +kernel
set_option maxHeartbeats 8000000 in
set_option maxRecDepth 100000 in
theorem mL_moves (l : Launch) (hst : l.stackTraces = false) (G : gG) (da : Nat → Nat) (v : vSt) (x : gX) (o1 : Nat) (hk_o1 : kd o1 = 10) (p1 : Int32) (p2 : Int32) (ho : oL_moves o1 p1 p2 v) : NI l yL_moves cL_moves 11 .boolean (rmL_moves o1 p1 p2 v) [.ref (ga G o1), .int p1, .int p2] G da v x (kkL_moves o1 p1 p2 v) (kkL_moves o1 p1 p2 v) 1 (fL_moves o1 p1 p2 v) := by
  refine gofNI (by decide) rfl (Nat.le_of_ble_eq_true rfl) (fun p e s m args below meth c ls Q X hN hH hl E => ?_)
  have hx := X.1
  have hb := X.2.1
  have hown := X.2.2.2.1
  have hts := X.2.2.2.2.1
  have hS : va_S (gA G) s.heap s.heap [] := va_S.rf
  have hkk : kkL_moves o1 p1 p2 v = pot (fL_moves o1 p1 p2 v) - pot v + 36 := rfl
  unfold oL_moves at ho
  have hl : lv_has ls 11 [(0, .ref (ga G o1)), (1, .int p1), (2, .int p2)] := hl
  refine lv_aload_n hx hb dL_moves_0 rfl (lv_at hl 0 rfl) ?_
  have hq1 := ho.1
  have ho := ho.2
  refine k_X10_onBench X hS hH hk_o1 hq1 t_ml_VernierDrawersLaw_247 hl.1 (Nat.le_of_ble_eq_true rfl) ⟨Nat.le_of_ble_eq_true rfl, Nat.le_of_ble_eq_true rfl⟩ ⟨Nat.zero_le _, Nat.zero_le _⟩ dL_moves_1 ?_
  refine lv_istore_n (lv' := [(3, .int (fX10_onBench o1 v)), (0, .ref (ga G o1)), (1, .int p1), (2, .int p2)]) hx hb dL_moves_4 rfl hl (by decide) rfl (fun ls hl => ?_)
  refine lv_aload_n hx hb dL_moves_5 rfl (lv_at hl 1 rfl) ?_
  have hq2 := ho.1
  have ho := ho.2
  refine k_X10_toFile X hS hH hk_o1 hq2 t_ml_VernierDrawersLaw_239 hl.1 (Nat.le_of_ble_eq_true rfl) ⟨Nat.le_of_ble_eq_true rfl, Nat.le_of_ble_eq_true rfl⟩ ⟨Nat.zero_le _, Nat.zero_le _⟩ dL_moves_6 ?_
  refine lv_istore (lv' := [(4, .int (fX10_toFile o1 v)), (3, .int (fX10_onBench o1 v)), (0, .ref (ga G o1)), (1, .int p1), (2, .int p2)]) hx hb dL_moves_9 hl (by decide) rfl (fun ls hl => ?_)
  refine lv_aload_n hx hb dL_moves_11 rfl (lv_at hl 2 rfl) ?_
  have hq3 := ho.1
  have ho := ho.2
  refine k_X10_brought X hS hH hk_o1 hq3 t_ml_VernierDrawersLaw_215 hl.1 (Nat.le_of_ble_eq_true rfl) ⟨Nat.le_of_ble_eq_true rfl, Nat.le_of_ble_eq_true rfl⟩ ⟨Nat.zero_le _, Nat.zero_le _⟩ dL_moves_12 ?_
  refine lv_istore (lv' := [(5, .int (fX10_brought o1 v)), (4, .int (fX10_toFile o1 v)), (3, .int (fX10_onBench o1 v)), (0, .ref (ga G o1)), (1, .int p1), (2, .int p2)]) hx hb dL_moves_15 hl (by decide) rfl (fun ls hl => ?_)
  refine lv_iload_n hx hb dL_moves_17 rfl (lv_at hl 4 rfl) ?_
  refine lv_if_ne (tgt := 266) hx hb dL_moves_18 (by decide) (fun c4 => ?_) (fun c4 => ?_)
  · have ho := ho.2 c4
    refine lv_iload_n hx hb dL_moves_266 rfl (lv_at hl 4 rfl) ?_
    refine lv_iconst (v := 1) hx hb dL_moves_267 (by decide) ?_
    refine lv_icmp_ne (tgt := 467) hx hb dL_moves_268 (by decide) (fun c5 => ?_) (fun c5 => ?_)
    · have ho := ho.2 c5
      refine lv_iload_n hx hb dL_moves_467 rfl (lv_at hl 4 rfl) ?_
      refine lv_iconst (v := 2) hx hb dL_moves_468 (by decide) ?_
      refine lv_icmp_ne (tgt := 598) hx hb dL_moves_469 (by decide) (fun c6 => ?_) (fun c6 => ?_)
      · have ho := ho.2 c6
        refine lv_iload_n hx hb dL_moves_598 rfl (lv_at hl 5 rfl) ?_
        refine lv_aload_n hx hb dL_moves_599 rfl (lv_at hl 3 rfl) ?_
        have hq7 := ho.1
        have ho := ho.2
        refine k_X10_types X hS hH hk_o1 hq7 t_ml_VernierDrawersLaw_236 hl.1 (Nat.le_of_ble_eq_true rfl) ⟨Nat.le_of_ble_eq_true rfl, Nat.le_of_ble_eq_true rfl⟩ ⟨Nat.zero_le _, Nat.zero_le _⟩ dL_moves_600 ?_
        refine lv_iload_n hx hb dL_moves_603 rfl (lv_at hl 5 rfl) ?_
        refine lv_bipush (v := 9) hx hb dL_moves_604 (by decide) ?_
        refine lv_ishr hx hb dL_moves_606 ?_
        refine lv_bipush (v := 14) hx hb dL_moves_607 (by decide) ?_
        have hq8 := ho.1
        have ho := ho.2
        refine k_L_low X hS hq8 t_ml_VernierDrawersLaw_250 hl.1 (Nat.le_of_ble_eq_true rfl) ⟨Nat.le_of_ble_eq_true rfl, Nat.le_of_ble_eq_true rfl⟩ ⟨Nat.zero_le _, Nat.zero_le _⟩ dL_moves_609 ?_
        have K10 : ∀ (y9 : Int32) (ls : Array Slot), y9 = (if ((fL_low (p2 >>> ((9 : Int32) &&& 31)) 14) : Int32) = 0 then 1 else (if ((fX10_types o1 v) : Int32) = 0 then 1 else 0) : Int32) → lv_has ls 11 [(0, .ref (ga G o1))] → W p l e (rmL_moves o1 p1 p2 v) s m args below meth c s.heap [] 0 0 Q (F0 m 627 ls [.int y9, .int (fX10_types o1 v), .int p2]) := by
          intro y9 ls ey9 hl
          have ho := ho y9 ey9
          refine lv_iadd hx hb dL_moves_627 ?_
          have hq11 := ho.1
          have ho := ho.2
          refine k_L_low X hS hq11 t_ml_VernierDrawersLaw_250 hl.1 (Nat.le_of_ble_eq_true rfl) ⟨Nat.le_of_ble_eq_true rfl, Nat.le_of_ble_eq_true rfl⟩ ⟨Nat.zero_le _, Nat.zero_le _⟩ dL_moves_628 ?_
          refine lv_istore (lv' := [(6, .int (fL_low p2 ((fX10_types o1 v) + y9))), (0, .ref (ga G o1))]) hx hb dL_moves_631 hl (by decide) rfl (fun ls hl => ?_)
          refine lv_iload hx hb dL_moves_633 (lv_at hl 0 rfl) ?_
          refine lv_aload_n hx hb dL_moves_635 rfl (lv_at hl 1 rfl) ?_
          refine k_X10_types X hS hH hk_o1 hq7 t_ml_VernierDrawersLaw_236 hl.1 (Nat.le_of_ble_eq_true rfl) ⟨Nat.le_of_ble_eq_true rfl, Nat.le_of_ble_eq_true rfl⟩ ⟨Nat.zero_le _, Nat.zero_le _⟩ dL_moves_636 ?_
          have K13 : ∀ (y12 : Int32) (ls : Array Slot), y12 = (if ((fL_low p2 ((fX10_types o1 v) + y9)) : Int32) = (fX10_types o1 v) then 1 else 0 : Int32) → lv_has ls 11 [(6, .int (fL_low p2 ((fX10_types o1 v) + y9))), (0, .ref (ga G o1))] → W p l e (rmL_moves o1 p1 p2 v) s m args below meth c s.heap [] 0 0 Q (F0 m 647 ls [.int y12]) := by
            intro y12 ls ey12 hl
            have ho := ho y12 ey12
            refine lv_istore (lv' := [(7, .int y12), (6, .int (fL_low p2 ((fX10_types o1 v) + y9))), (0, .ref (ga G o1))]) hx hb dL_moves_647 hl (by decide) rfl (fun ls hl => ?_)
            refine lv_iload hx hb dL_moves_649 (lv_at hl 0 rfl) ?_
            have K15 : ∀ (y14 : Int32) (ls : Array Slot), y14 = (if (y12 : Int32) = 0 then ((fX10_charted o1 (fL_low p2 ((fX10_types o1 v) + y9)) v).2) else 0 : Int32) → lv_has ls 11 [(7, .int y12), (6, .int (fL_low p2 ((fX10_types o1 v) + y9))), (0, .ref (ga G o1))] → W p l e (rmL_moves o1 p1 p2 v) s m args below meth c s.heap [] 0 0 Q (F0 m 664 ls [.int y14]) := by
              intro y14 ls ey14 hl
              have ho := ho.2 y14 ey14
              refine lv_istore (lv' := [(8, .int y14), (7, .int y12), (6, .int (fL_low p2 ((fX10_types o1 v) + y9))), (0, .ref (ga G o1))]) hx hb dL_moves_664 hl (by decide) rfl (fun ls hl => ?_)
              refine lv_iload hx hb dL_moves_666 (lv_at hl 0 rfl) ?_
              have K17 : ∀ (y16 : Int32) (ls : Array Slot), y16 = (if (y14 : Int32) = 0 then 0 else ((fX10_spreadOf o1 (fL_low p2 ((fX10_types o1 v) + y9)) v).2) : Int32) → lv_has ls 11 [(8, .int y14), (7, .int y12), (6, .int (fL_low p2 ((fX10_types o1 v) + y9))), (0, .ref (ga G o1))] → W p l e (rmL_moves o1 p1 p2 v) s m args below meth c s.heap [] 0 0 Q (F0 m 681 ls [.int y16]) := by
                intro y16 ls ey16 hl
                have ho := ho.2 y16 ey16
                refine lv_istore (lv' := [(9, .int y16), (8, .int y14), (7, .int y12), (6, .int (fL_low p2 ((fX10_types o1 v) + y9))), (0, .ref (ga G o1))]) hx hb dL_moves_681 hl (by decide) rfl (fun ls hl => ?_)
                refine lv_aload_n hx hb dL_moves_683 rfl (lv_at hl 4 rfl) ?_
                refine lv_iload hx hb dL_moves_684 (lv_at hl 3 rfl) ?_
                have hq18 := ho.1
                have ho := ho.2
                have hk19 : kkL_throwOut o1 (fL_low p2 ((fX10_types o1 v) + y9)) v = pot ((fL_throwOut o1 (fL_low p2 ((fX10_types o1 v) + y9)) v).2) - pot v + 36 := rfl
                have hq20 := ho.1
                have ho := ho.2
                refine k_L_throwOut hst X hS hN hH hk_o1 hq18 t_ml_VernierDrawersLaw_367 hl.1 (Nat.le_of_ble_eq_true rfl) ⟨Nat.le_of_ble_eq_true rfl, Nat.le_of_ble_eq_true rfl⟩ ⟨(show 0 + kkL_throwOut o1 (fL_low p2 ((fX10_types o1 v) + y9)) v ≤ kkL_moves o1 p1 p2 v by omega), (show 0 + kkL_throwOut o1 (fL_low p2 ((fX10_types o1 v) + y9)) v ≤ kkL_moves o1 p1 p2 v by omega)⟩ dL_moves_686 (fun da H locs v21 ev21 hH hS => ?_)
                have ho := ho v21 ev21
                have hp22 : pot v21 = pot ((fL_throwOut o1 (fL_low p2 ((fX10_types o1 v) + y9)) v).2) := by rw [ev21]
                refine W.widen (k := ((pot v21 - pot v) + 36)) (n := ((pot v21 - pot v) + 36)) (by omega) (by omega) ?_
                refine lv_istore (lv' := [(10, .int ((fL_throwOut o1 (fL_low p2 ((fX10_types o1 v) + y9)) v).1)), (9, .int y16), (8, .int y14), (7, .int y12), (6, .int (fL_low p2 ((fX10_types o1 v) + y9))), (0, .ref (ga G o1))]) hx hb dL_moves_689 hl (by decide) rfl (fun ls hl => ?_)
                refine lv_iload hx hb dL_moves_691 (lv_at hl 3 rfl) ?_
                refine lv_if_eq (tgt := 711) hx hb dL_moves_693 (by decide) (fun c23 => ?_) (fun c23 => ?_)
                · have ho := ho.1 c23
                  refine lv_iload hx hb dL_moves_711 (lv_at hl 0 rfl) ?_
                  refine lv_if_lt (tgt := 757) hx hb dL_moves_713 (by decide) (fun c24 => ?_) (fun c24 => ?_)
                  · exact absurd c24 ho.1
                  have ho := ho.2
                  refine lv_aload_n hx hb dL_moves_716 rfl (lv_at hl 5 rfl) ?_
                  refine lv_iload hx hb dL_moves_717 (lv_at hl 4 rfl) ?_
                  have hq25 := ho.1
                  have ho := ho.2
                  have hq26 := ho.1
                  have ho := ho.2
                  refine kZ_X10_charted X hS hH hk_o1 hq25 hq26 t_ml_VernierDrawersLaw_188 hl.1 (Nat.le_of_ble_eq_true rfl) ⟨Nat.le_of_ble_eq_true rfl, Nat.le_of_ble_eq_true rfl⟩ ⟨(show ((pot v21 - pot v) + 36) ≤ kkL_moves o1 p1 p2 v by omega), (show ((pot v21 - pot v) + 36) ≤ kkL_moves o1 p1 p2 v by omega)⟩ dL_moves_719 ?_
                  refine lv_iload hx hb dL_moves_722 (lv_at hl 2 rfl) ?_
                  refine lv_iload hx hb dL_moves_724 (lv_at hl 0 rfl) ?_
                  refine lv_isub hx hb dL_moves_726 ?_
                  refine lv_icmp_ne (tgt := 757) hx hb dL_moves_727 (by decide) (fun c27 => ?_) (fun c27 => ?_)
                  · exact absurd ho.1 c27
                  have ho := ho.2
                  refine lv_iload hx hb dL_moves_730 (lv_at hl 2 rfl) ?_
                  refine lv_if_eq (tgt := 753) hx hb dL_moves_732 (by decide) (fun c28 => ?_) (fun c28 => ?_)
                  · skip
                    refine lv_iconst (v := 1) hx hb dL_moves_753 (by decide) ?_
                    refine lv_goto (tgt := 758) hx hb dL_moves_754 (by decide) ?_
                    have hHz := hH
                    have hSz := hS
                    have hFz : fL_moves o1 p1 p2 v = v21 := by
                      refine (fL_moves.eq_1 _ _ _ _).trans ?_
                      dsimp only
                      try rw [← ey9]
                      try rw [← ey12]
                      try rw [← ey14]
                      try rw [← ey16]
                      try rw [← ev21]
                      all_goals rw [if_neg c4]
                      all_goals rw [if_neg c5]
                      all_goals rw [if_neg c6]
                      all_goals rw [if_pos c23]
                      all_goals rw [if_pos c28]
                    exact E _ _ _ _ _ _ _ _ _ dL_moves_758 rfl rfl (Eq.symm hFz) hHz hSz (show ((pot v21 - pot v) + 36) ≤ kkL_moves o1 p1 p2 v by omega) (show ((pot v21 - pot v) + 36) ≤ kkL_moves o1 p1 p2 v by omega)
                  · have ho := ho c28
                    refine lv_iload hx hb dL_moves_735 (lv_at hl 0 rfl) ?_
                    refine lv_iload hx hb dL_moves_737 (lv_at hl 2 rfl) ?_
                    refine lv_icmp_ge (tgt := 757) hx hb dL_moves_739 (by decide) (fun c29 => ?_) (fun c29 => ?_)
                    · exact absurd c29 ho.1
                    have ho := ho.2
                    refine lv_aload_n hx hb dL_moves_742 rfl (lv_at hl 5 rfl) ?_
                    refine lv_iload hx hb dL_moves_743 (lv_at hl 4 rfl) ?_
                    have hq30 := ho.1
                    have ho := ho.2
                    have hq31 := ho.1
                    have ho := ho.2
                    refine kZ_X10_spreadOf X hS hH hk_o1 hq30 hq31 t_ml_VernierDrawersLaw_98 hl.1 (Nat.le_of_ble_eq_true rfl) ⟨Nat.le_of_ble_eq_true rfl, Nat.le_of_ble_eq_true rfl⟩ ⟨(show ((pot v21 - pot v) + 36) ≤ kkL_moves o1 p1 p2 v by omega), (show ((pot v21 - pot v) + 36) ≤ kkL_moves o1 p1 p2 v by omega)⟩ dL_moves_745 ?_
                    refine lv_iload hx hb dL_moves_748 (lv_at hl 1 rfl) ?_
                    refine lv_icmp_gt (tgt := 757) hx hb dL_moves_750 (by decide) (fun c32 => ?_) (fun c32 => ?_)
                    · exact absurd c32 ho
                    refine lv_iconst (v := 1) hx hb dL_moves_753 (by decide) ?_
                    refine lv_goto (tgt := 758) hx hb dL_moves_754 (by decide) ?_
                    have hHz := hH
                    have hSz := hS
                    have hFz : fL_moves o1 p1 p2 v = v21 := by
                      refine (fL_moves.eq_1 _ _ _ _).trans ?_
                      dsimp only
                      try rw [← ey9]
                      try rw [← ey12]
                      try rw [← ey14]
                      try rw [← ey16]
                      try rw [← ev21]
                      all_goals rw [if_neg c4]
                      all_goals rw [if_neg c5]
                      all_goals rw [if_neg c6]
                      all_goals rw [if_pos c23]
                      all_goals rw [if_neg c28]
                    exact E _ _ _ _ _ _ _ _ _ dL_moves_758 rfl rfl (Eq.symm hFz) hHz hSz (show ((pot v21 - pot v) + 36) ≤ kkL_moves o1 p1 p2 v by omega) (show ((pot v21 - pot v) + 36) ≤ kkL_moves o1 p1 p2 v by omega)
                · have ho := ho.2 c23
                  refine lv_iload hx hb dL_moves_696 (lv_at hl 0 rfl) ?_
                  refine lv_ldc (v := (-100102)) hx hb hown (hts _ t_con_VernierDrawersLaw_17) dL_moves_698 ?_
                  refine lv_icmp_ne (tgt := 707) hx hb dL_moves_700 (by decide) (fun c33 => ?_) (fun c33 => ?_)
                  · exact absurd ho c33
                  refine lv_iconst (v := 1) hx hb dL_moves_703 (by decide) ?_
                  refine lv_goto (tgt := 758) hx hb dL_moves_704 (by decide) ?_
                  have hHz := hH
                  have hSz := hS
                  have hFz : fL_moves o1 p1 p2 v = v21 := by
                    refine (fL_moves.eq_1 _ _ _ _).trans ?_
                    dsimp only
                    try rw [← ey9]
                    try rw [← ey12]
                    try rw [← ey14]
                    try rw [← ey16]
                    try rw [← ev21]
                    all_goals rw [if_neg c4]
                    all_goals rw [if_neg c5]
                    all_goals rw [if_neg c6]
                    all_goals rw [if_neg c23]
                  exact E _ _ _ _ _ _ _ _ _ dL_moves_758 rfl rfl (Eq.symm hFz) hHz hSz (show ((pot v21 - pot v) + 36) ≤ kkL_moves o1 p1 p2 v by omega) (show ((pot v21 - pot v) + 36) ≤ kkL_moves o1 p1 p2 v by omega)
              have ho := ho.1
              refine lv_if_ne (tgt := 675) hx hb dL_moves_668 (by decide) (fun c17 => ?_) (fun c17 => ?_)
              · have ho := ho c17
                refine lv_aload_n hx hb dL_moves_675 rfl (lv_at hl 3 rfl) ?_
                refine lv_iload hx hb dL_moves_676 (lv_at hl 2 rfl) ?_
                have hq18 := ho.1
                have ho := ho.2
                have hq19 := ho
                refine kZ_X10_spreadOf X hS hH hk_o1 hq18 hq19 t_ml_VernierDrawersLaw_98 hl.1 (Nat.le_of_ble_eq_true rfl) ⟨Nat.le_of_ble_eq_true rfl, Nat.le_of_ble_eq_true rfl⟩ ⟨Nat.zero_le _, Nat.zero_le _⟩ dL_moves_678 ?_
                have hlz := hl
                exact K17 _ _ (Eq.symm ((if_neg c17).trans rfl)) (lv_sub hlz [0, 1, 2, 3] rfl)
              · skip
                refine lv_iconst (v := 0) hx hb dL_moves_671 (by decide) ?_
                refine lv_goto (tgt := 681) hx hb dL_moves_672 (by decide) ?_
                have hlz := hl
                exact K17 _ _ (Eq.symm ((if_pos c17).trans rfl)) (lv_sub hlz [0, 1, 2, 3] rfl)
            have ho := ho.1
            refine lv_if_eq (tgt := 658) hx hb dL_moves_651 (by decide) (fun c15 => ?_) (fun c15 => ?_)
            · have ho := ho c15
              refine lv_aload_n hx hb dL_moves_658 rfl (lv_at hl 2 rfl) ?_
              refine lv_iload hx hb dL_moves_659 (lv_at hl 1 rfl) ?_
              have hq16 := ho.1
              have ho := ho.2
              have hq17 := ho
              refine kZ_X10_charted X hS hH hk_o1 hq16 hq17 t_ml_VernierDrawersLaw_188 hl.1 (Nat.le_of_ble_eq_true rfl) ⟨Nat.le_of_ble_eq_true rfl, Nat.le_of_ble_eq_true rfl⟩ ⟨Nat.zero_le _, Nat.zero_le _⟩ dL_moves_661 ?_
              have hlz := hl
              exact K15 _ _ (Eq.symm ((if_pos c15).trans rfl)) (lv_sub hlz [0, 1, 2] rfl)
            · skip
              refine lv_iconst (v := 0) hx hb dL_moves_654 (by decide) ?_
              refine lv_goto (tgt := 664) hx hb dL_moves_655 (by decide) ?_
              have hlz := hl
              exact K15 _ _ (Eq.symm ((if_neg c15).trans rfl)) (lv_sub hlz [0, 1, 2] rfl)
          refine lv_icmp_ne (tgt := 646) hx hb dL_moves_639 (by decide) (fun c13 => ?_) (fun c13 => ?_)
          · skip
            refine lv_iconst (v := 0) hx hb dL_moves_646 (by decide) ?_
            have hlz := hl
            exact K13 _ _ (Eq.symm ((if_neg c13).trans rfl)) (lv_sub hlz [0, 1] rfl)
          · skip
            refine lv_iconst (v := 1) hx hb dL_moves_642 (by decide) ?_
            refine lv_goto (tgt := 647) hx hb dL_moves_643 (by decide) ?_
            have hlz := hl
            exact K13 _ _ (Eq.symm ((if_pos c13).trans rfl)) (lv_sub hlz [0, 1] rfl)
        refine lv_if_eq (tgt := 622) hx hb dL_moves_612 (by decide) (fun c10 => ?_) (fun c10 => ?_)
        · skip
          refine lv_iconst (v := 1) hx hb dL_moves_622 (by decide) ?_
          refine lv_goto (tgt := 627) hx hb dL_moves_623 (by decide) ?_
          have hlz := hl
          exact K10 _ _ (Eq.symm ((if_pos c10).trans rfl)) (lv_sub hlz [3] rfl)
        · skip
          refine lv_aload_n hx hb dL_moves_615 rfl (lv_at hl 3 rfl) ?_
          refine k_X10_types X hS hH hk_o1 hq7 t_ml_VernierDrawersLaw_236 hl.1 (Nat.le_of_ble_eq_true rfl) ⟨Nat.le_of_ble_eq_true rfl, Nat.le_of_ble_eq_true rfl⟩ ⟨Nat.zero_le _, Nat.zero_le _⟩ dL_moves_616 ?_
          refine lv_if_ne (tgt := 626) hx hb dL_moves_619 (by decide) (fun c11 => ?_) (fun c11 => ?_)
          · skip
            refine lv_iconst (v := 0) hx hb dL_moves_626 (by decide) ?_
            have hlz := hl
            exact K10 _ _ (Eq.symm ((if_neg c10).trans ((if_neg c11).trans rfl))) (lv_sub hlz [3] rfl)
          · skip
            refine lv_iconst (v := 1) hx hb dL_moves_622 (by decide) ?_
            refine lv_goto (tgt := 627) hx hb dL_moves_623 (by decide) ?_
            have hlz := hl
            exact K10 _ _ (Eq.symm ((if_neg c10).trans ((if_pos c11).trans rfl))) (lv_sub hlz [3] rfl)
      · have ho := ho.1 c6
        refine lv_aload_n hx hb dL_moves_472 rfl (lv_at hl 3 rfl) ?_
        have hq34 := ho.1
        have ho := ho.2
        refine k_X10_whyNotPass X hS hH hk_o1 hq34 t_ml_VernierDrawersLaw_317 hl.1 (Nat.le_of_ble_eq_true rfl) ⟨Nat.le_of_ble_eq_true rfl, Nat.le_of_ble_eq_true rfl⟩ ⟨Nat.zero_le _, Nat.zero_le _⟩ dL_moves_473 ?_
        refine lv_istore (lv' := [(6, .int (fX10_whyNotPass o1 v)), (5, .int (fX10_brought o1 v)), (4, .int (fX10_toFile o1 v)), (3, .int (fX10_onBench o1 v)), (0, .ref (ga G o1)), (1, .int p1), (2, .int p2)]) hx hb dL_moves_476 hl (by decide) rfl (fun ls hl => ?_)
        refine lv_iload_n hx hb dL_moves_478 rfl (lv_at hl 3 rfl) ?_
        have K36 : ∀ (y35 : Int32) (ls : Array Slot), y35 = (if ((fX10_onBench o1 v) : Int32) = 0 then ((-100104)) else ((fX10_typeAt o1 0 v).2) : Int32) → lv_has ls 11 [(6, .int (fX10_whyNotPass o1 v)), (3, .int (fX10_onBench o1 v)), (0, .ref (ga G o1))] → W p l e (rmL_moves o1 p1 p2 v) s m args below meth c s.heap [] 0 0 Q (F0 m 492 ls [.int y35]) := by
          intro y35 ls ey35 hl
          have ho := ho.2 y35 ey35
          refine lv_istore (lv' := [(7, .int y35), (6, .int (fX10_whyNotPass o1 v)), (3, .int (fX10_onBench o1 v)), (0, .ref (ga G o1))]) hx hb dL_moves_492 hl (by decide) rfl (fun ls hl => ?_)
          refine lv_aload_n hx hb dL_moves_494 rfl (lv_at hl 3 rfl) ?_
          have hq37 := ho.1
          have ho := ho.2
          refine k_X10_unseen X hS hH hk_o1 hq37 t_ml_VernierDrawersLaw_224 hl.1 (Nat.le_of_ble_eq_true rfl) ⟨Nat.le_of_ble_eq_true rfl, Nat.le_of_ble_eq_true rfl⟩ ⟨Nat.zero_le _, Nat.zero_le _⟩ dL_moves_495 ?_
          refine lv_istore (lv' := [(8, .int (fX10_unseen o1 v)), (7, .int y35), (6, .int (fX10_whyNotPass o1 v)), (3, .int (fX10_onBench o1 v)), (0, .ref (ga G o1))]) hx hb dL_moves_498 hl (by decide) rfl (fun ls hl => ?_)
          refine lv_aload_n hx hb dL_moves_500 rfl (lv_at hl 4 rfl) ?_
          have hq38 := ho.1
          have ho := ho.2
          have hk39 : kkL_passUnseen o1 v = pot ((fL_passUnseen o1 v).2) - pot v + 36 := rfl
          have hq40 := ho.1
          have ho := ho.2
          refine k_L_passUnseen hst X hS hN hH hk_o1 hq38 t_ml_VernierDrawersLaw_365 hl.1 (Nat.le_of_ble_eq_true rfl) ⟨Nat.le_of_ble_eq_true rfl, Nat.le_of_ble_eq_true rfl⟩ ⟨(show 0 + kkL_passUnseen o1 v ≤ kkL_moves o1 p1 p2 v by omega), (show 0 + kkL_passUnseen o1 v ≤ kkL_moves o1 p1 p2 v by omega)⟩ dL_moves_501 (fun da H locs v41 ev41 hH hS => ?_)
          have ho := ho v41 ev41
          have hp42 : pot v41 = pot ((fL_passUnseen o1 v).2) := by rw [ev41]
          refine W.widen (k := ((pot v41 - pot v) + 36)) (n := ((pot v41 - pot v) + 36)) (by omega) (by omega) ?_
          refine lv_istore (lv' := [(9, .int ((fL_passUnseen o1 v).1)), (8, .int (fX10_unseen o1 v)), (7, .int y35), (6, .int (fX10_whyNotPass o1 v)), (3, .int (fX10_onBench o1 v)), (0, .ref (ga G o1))]) hx hb dL_moves_504 hl (by decide) rfl (fun ls hl => ?_)
          refine lv_iload hx hb dL_moves_506 (lv_at hl 0 rfl) ?_
          refine lv_iload hx hb dL_moves_508 (lv_at hl 3 rfl) ?_
          have K44 : ∀ (y43 : Int32) (ls : Array Slot), y43 = (if ((fX10_whyNotPass o1 v) : Int32) ≤ 0 then y35 else ((-100103)) : Int32) → lv_has ls 11 [(8, .int (fX10_unseen o1 v)), (7, .int y35), (6, .int (fX10_whyNotPass o1 v)), (3, .int (fX10_onBench o1 v)), (0, .ref (ga G o1))] → W p l e (rmL_moves o1 p1 p2 v) s m args below meth c H locs ((pot v41 - pot v) + 36) ((pot v41 - pot v) + 36) Q (F0 m 520 ls [.int y43, .int ((fL_passUnseen o1 v).1)]) := by
            intro y43 ls ey43 hl
            have ho := ho y43 ey43
            refine lv_icmp_ne (tgt := 596) hx hb dL_moves_520 (by decide) (fun c45 => ?_) (fun c45 => ?_)
            · exact absurd ho.1 c45
            have ho := ho.2
            refine lv_aload_n hx hb dL_moves_523 rfl (lv_at hl 4 rfl) ?_
            have hq46 := ho.1
            have ho := ho.2
            refine k_X10_onBench X hS hH hk_o1 hq46 t_ml_VernierDrawersLaw_247 hl.1 (Nat.le_of_ble_eq_true rfl) ⟨Nat.le_of_ble_eq_true rfl, Nat.le_of_ble_eq_true rfl⟩ ⟨(show ((pot v41 - pot v) + 36) ≤ kkL_moves o1 p1 p2 v by omega), (show ((pot v41 - pot v) + 36) ≤ kkL_moves o1 p1 p2 v by omega)⟩ dL_moves_524 ?_
            refine lv_iload_n hx hb dL_moves_527 rfl (lv_at hl 3 rfl) ?_
            refine lv_iload hx hb dL_moves_528 (lv_at hl 2 rfl) ?_
            have K48 : ∀ (y47 : Int32) (ls : Array Slot), y47 = (if ((fX10_whyNotPass o1 v) : Int32) ≤ 0 then 1 else 0 : Int32) → lv_has ls 11 [(8, .int (fX10_unseen o1 v)), (7, .int y35), (6, .int (fX10_whyNotPass o1 v)), (0, .ref (ga G o1))] → W p l e (rmL_moves o1 p1 p2 v) s m args below meth c H locs ((pot v41 - pot v) + 36) ((pot v41 - pot v) + 36) Q (F0 m 538 ls [.int y47, .int (fX10_onBench o1 v), .int (fX10_onBench o1 v41)]) := by
              intro y47 ls ey47 hl
              have ho := ho y47 ey47
              refine lv_isub hx hb dL_moves_538 ?_
              refine lv_icmp_ne (tgt := 596) hx hb dL_moves_539 (by decide) (fun c49 => ?_) (fun c49 => ?_)
              · exact absurd ho.1 c49
              have ho := ho.2
              refine lv_aload_n hx hb dL_moves_542 rfl (lv_at hl 3 rfl) ?_
              have hq50 := ho.1
              have ho := ho.2
              refine k_X10_unseen X hS hH hk_o1 hq50 t_ml_VernierDrawersLaw_224 hl.1 (Nat.le_of_ble_eq_true rfl) ⟨Nat.le_of_ble_eq_true rfl, Nat.le_of_ble_eq_true rfl⟩ ⟨(show ((pot v41 - pot v) + 36) ≤ kkL_moves o1 p1 p2 v by omega), (show ((pot v41 - pot v) + 36) ≤ kkL_moves o1 p1 p2 v by omega)⟩ dL_moves_543 ?_
              refine lv_iload hx hb dL_moves_546 (lv_at hl 0 rfl) ?_
              refine lv_iload hx hb dL_moves_548 (lv_at hl 2 rfl) ?_
              have K52 : ∀ (y51 : Int32) (ls : Array Slot), y51 = (if ((fX10_whyNotPass o1 v) : Int32) ≤ 0 then 1 else 0 : Int32) → lv_has ls 11 [(7, .int y35), (6, .int (fX10_whyNotPass o1 v)), (0, .ref (ga G o1))] → W p l e (rmL_moves o1 p1 p2 v) s m args below meth c H locs ((pot v41 - pot v) + 36) ((pot v41 - pot v) + 36) Q (F0 m 558 ls [.int y51, .int (fX10_unseen o1 v), .int (fX10_unseen o1 v41)]) := by
                intro y51 ls ey51 hl
                have ho := ho y51 ey51
                refine lv_iadd hx hb dL_moves_558 ?_
                refine lv_icmp_ne (tgt := 596) hx hb dL_moves_559 (by decide) (fun c53 => ?_) (fun c53 => ?_)
                · exact absurd ho.1 c53
                have ho := ho.2
                refine lv_iload hx hb dL_moves_562 (lv_at hl 1 rfl) ?_
                refine lv_if_gt (tgt := 592) hx hb dL_moves_564 (by decide) (fun c54 => ?_) (fun c54 => ?_)
                · skip
                  refine lv_iconst (v := 1) hx hb dL_moves_592 (by decide) ?_
                  refine lv_goto (tgt := 597) hx hb dL_moves_593 (by decide) ?_
                  have hHz := hH
                  have hSz := hS
                  have hFz : fL_moves o1 p1 p2 v = v41 := by
                    refine (fL_moves.eq_1 _ _ _ _).trans ?_
                    dsimp only
                    try rw [← ey35]
                    try rw [← ev41]
                    try rw [← ey43]
                    try rw [← ey47]
                    have dy51 : y51 = y47 := (by rw [ey51, ey47])
                    try rw [dy51] at c4
                    try rw [dy51] at c5
                    try rw [dy51] at c6
                    try rw [dy51] at c54
                    all_goals rw [if_neg c4]
                    all_goals rw [if_neg c5]
                    all_goals rw [if_pos c6]
                    all_goals rw [if_pos c54]
                  exact E _ _ _ _ _ _ _ _ _ dL_moves_597 rfl rfl (Eq.symm hFz) hHz hSz (show ((pot v41 - pot v) + 36) ≤ kkL_moves o1 p1 p2 v by omega) (show ((pot v41 - pot v) + 36) ≤ kkL_moves o1 p1 p2 v by omega)
                · have ho := ho c54
                  refine lv_aload_n hx hb dL_moves_567 rfl (lv_at hl 2 rfl) ?_
                  refine k_X10_onBench X hS hH hk_o1 hq46 t_ml_VernierDrawersLaw_247 hl.1 (Nat.le_of_ble_eq_true rfl) ⟨Nat.le_of_ble_eq_true rfl, Nat.le_of_ble_eq_true rfl⟩ ⟨(show ((pot v41 - pot v) + 36) ≤ kkL_moves o1 p1 p2 v by omega), (show ((pot v41 - pot v) + 36) ≤ kkL_moves o1 p1 p2 v by omega)⟩ dL_moves_568 ?_
                  refine lv_if_eq (tgt := 592) hx hb dL_moves_571 (by decide) (fun c55 => ?_) (fun c55 => ?_)
                  · skip
                    refine lv_iconst (v := 1) hx hb dL_moves_592 (by decide) ?_
                    refine lv_goto (tgt := 597) hx hb dL_moves_593 (by decide) ?_
                    have hHz := hH
                    have hSz := hS
                    have hFz : fL_moves o1 p1 p2 v = v41 := by
                      refine (fL_moves.eq_1 _ _ _ _).trans ?_
                      dsimp only
                      try rw [← ey35]
                      try rw [← ev41]
                      try rw [← ey43]
                      try rw [← ey47]
                      have dy51 : y51 = y47 := (by rw [ey51, ey47])
                      try rw [dy51] at c4
                      try rw [dy51] at c5
                      try rw [dy51] at c6
                      try rw [dy51] at c54
                      try rw [dy51] at c55
                      all_goals rw [if_neg c4]
                      all_goals rw [if_neg c5]
                      all_goals rw [if_pos c6]
                      all_goals rw [if_neg c54]
                      all_goals rw [if_pos c55]
                    exact E _ _ _ _ _ _ _ _ _ dL_moves_597 rfl rfl (Eq.symm hFz) hHz hSz (show ((pot v41 - pot v) + 36) ≤ kkL_moves o1 p1 p2 v by omega) (show ((pot v41 - pot v) + 36) ≤ kkL_moves o1 p1 p2 v by omega)
                  · have ho := ho c55
                    refine lv_aload_n hx hb dL_moves_574 rfl (lv_at hl 2 rfl) ?_
                    refine lv_iconst (v := 0) hx hb dL_moves_575 (by decide) ?_
                    have hq56 := ho.1
                    have ho := ho.2
                    have hq57 := ho.1
                    have ho := ho.2
                    refine kZ_X10_typeAt X hS hH hk_o1 hq56 hq57 t_ml_VernierDrawersLaw_68 hl.1 (Nat.le_of_ble_eq_true rfl) ⟨Nat.le_of_ble_eq_true rfl, Nat.le_of_ble_eq_true rfl⟩ ⟨(show ((pot v41 - pot v) + 36) ≤ kkL_moves o1 p1 p2 v by omega), (show ((pot v41 - pot v) + 36) ≤ kkL_moves o1 p1 p2 v by omega)⟩ dL_moves_576 ?_
                    refine lv_iload hx hb dL_moves_579 (lv_at hl 0 rfl) ?_
                    refine lv_icmp_ne (tgt := 592) hx hb dL_moves_581 (by decide) (fun c58 => ?_) (fun c58 => ?_)
                    · skip
                      refine lv_iconst (v := 1) hx hb dL_moves_592 (by decide) ?_
                      refine lv_goto (tgt := 597) hx hb dL_moves_593 (by decide) ?_
                      have hHz := hH
                      have hSz := hS
                      have hFz : fL_moves o1 p1 p2 v = v41 := by
                        refine (fL_moves.eq_1 _ _ _ _).trans ?_
                        dsimp only
                        try rw [← ey35]
                        try rw [← ev41]
                        try rw [← ey43]
                        try rw [← ey47]
                        have dy51 : y51 = y47 := (by rw [ey51, ey47])
                        try rw [dy51] at c4
                        try rw [dy51] at c5
                        try rw [dy51] at c6
                        try rw [dy51] at c54
                        try rw [dy51] at c55
                        try rw [dy51] at c58
                        all_goals rw [if_neg c4]
                        all_goals rw [if_neg c5]
                        all_goals rw [if_pos c6]
                        all_goals rw [if_neg c54]
                        all_goals rw [if_neg c55]
                        all_goals rw [if_neg c58]
                      exact E _ _ _ _ _ _ _ _ _ dL_moves_597 rfl rfl (Eq.symm hFz) hHz hSz (show ((pot v41 - pot v) + 36) ≤ kkL_moves o1 p1 p2 v by omega) (show ((pot v41 - pot v) + 36) ≤ kkL_moves o1 p1 p2 v by omega)
                    · have ho := ho c58
                      refine lv_aload_n hx hb dL_moves_584 rfl (lv_at hl 2 rfl) ?_
                      have hq59 := ho.1
                      have ho := ho.2
                      refine k_X10_whyNotPass X hS hH hk_o1 hq59 t_ml_VernierDrawersLaw_317 hl.1 (Nat.le_of_ble_eq_true rfl) ⟨Nat.le_of_ble_eq_true rfl, Nat.le_of_ble_eq_true rfl⟩ ⟨(show ((pot v41 - pot v) + 36) ≤ kkL_moves o1 p1 p2 v by omega), (show ((pot v41 - pot v) + 36) ≤ kkL_moves o1 p1 p2 v by omega)⟩ dL_moves_585 ?_
                      refine lv_iconst (v := 3) hx hb dL_moves_588 (by decide) ?_
                      refine lv_icmp_ne (tgt := 596) hx hb dL_moves_589 (by decide) (fun c60 => ?_) (fun c60 => ?_)
                      · exact absurd ho c60
                      refine lv_iconst (v := 1) hx hb dL_moves_592 (by decide) ?_
                      refine lv_goto (tgt := 597) hx hb dL_moves_593 (by decide) ?_
                      have hHz := hH
                      have hSz := hS
                      have hFz : fL_moves o1 p1 p2 v = v41 := by
                        refine (fL_moves.eq_1 _ _ _ _).trans ?_
                        dsimp only
                        try rw [← ey35]
                        try rw [← ev41]
                        try rw [← ey43]
                        try rw [← ey47]
                        have dy51 : y51 = y47 := (by rw [ey51, ey47])
                        try rw [dy51] at c4
                        try rw [dy51] at c5
                        try rw [dy51] at c6
                        try rw [dy51] at c54
                        try rw [dy51] at c55
                        try rw [dy51] at c58
                        all_goals rw [if_neg c4]
                        all_goals rw [if_neg c5]
                        all_goals rw [if_pos c6]
                        all_goals rw [if_neg c54]
                        all_goals rw [if_neg c55]
                        all_goals rw [if_pos c58]
                      exact E _ _ _ _ _ _ _ _ _ dL_moves_597 rfl rfl (Eq.symm hFz) hHz hSz (show ((pot v41 - pot v) + 36) ≤ kkL_moves o1 p1 p2 v by omega) (show ((pot v41 - pot v) + 36) ≤ kkL_moves o1 p1 p2 v by omega)
              refine lv_if_le (tgt := 557) hx hb dL_moves_550 (by decide) (fun c52 => ?_) (fun c52 => ?_)
              · skip
                refine lv_iconst (v := 1) hx hb dL_moves_557 (by decide) ?_
                have hlz := hl
                exact K52 _ _ (Eq.symm ((if_pos c52).trans rfl)) (lv_sub hlz [1, 2, 3] rfl)
              · skip
                refine lv_iconst (v := 0) hx hb dL_moves_553 (by decide) ?_
                refine lv_goto (tgt := 558) hx hb dL_moves_554 (by decide) ?_
                have hlz := hl
                exact K52 _ _ (Eq.symm ((if_neg c52).trans rfl)) (lv_sub hlz [1, 2, 3] rfl)
            refine lv_if_le (tgt := 537) hx hb dL_moves_530 (by decide) (fun c48 => ?_) (fun c48 => ?_)
            · skip
              refine lv_iconst (v := 1) hx hb dL_moves_537 (by decide) ?_
              have hlz := hl
              exact K48 _ _ (Eq.symm ((if_pos c48).trans rfl)) (lv_sub hlz [0, 1, 2, 4] rfl)
            · skip
              refine lv_iconst (v := 0) hx hb dL_moves_533 (by decide) ?_
              refine lv_goto (tgt := 538) hx hb dL_moves_534 (by decide) ?_
              have hlz := hl
              exact K48 _ _ (Eq.symm ((if_neg c48).trans rfl)) (lv_sub hlz [0, 1, 2, 4] rfl)
          refine lv_if_le (tgt := 518) hx hb dL_moves_510 (by decide) (fun c44 => ?_) (fun c44 => ?_)
          · skip
            refine lv_iload hx hb dL_moves_518 (lv_at hl 2 rfl) ?_
            have hlz := hl
            exact K44 _ _ (Eq.symm ((if_pos c44).trans rfl)) (lv_sub hlz [1, 2, 3, 4, 5] rfl)
          · skip
            refine lv_ldc (v := (-100103)) hx hb hown (hts _ t_con_VernierDrawersLaw_20) dL_moves_513 ?_
            refine lv_goto (tgt := 520) hx hb dL_moves_515 (by decide) ?_
            have hlz := hl
            exact K44 _ _ (Eq.symm ((if_neg c44).trans rfl)) (lv_sub hlz [1, 2, 3, 4, 5] rfl)
        have ho := ho.1
        refine lv_if_ne (tgt := 487) hx hb dL_moves_479 (by decide) (fun c36 => ?_) (fun c36 => ?_)
        · have ho := ho c36
          refine lv_aload_n hx hb dL_moves_487 rfl (lv_at hl 4 rfl) ?_
          refine lv_iconst (v := 0) hx hb dL_moves_488 (by decide) ?_
          have hq37 := ho.1
          have ho := ho.2
          have hq38 := ho
          refine kZ_X10_typeAt X hS hH hk_o1 hq37 hq38 t_ml_VernierDrawersLaw_68 hl.1 (Nat.le_of_ble_eq_true rfl) ⟨Nat.le_of_ble_eq_true rfl, Nat.le_of_ble_eq_true rfl⟩ ⟨Nat.zero_le _, Nat.zero_le _⟩ dL_moves_489 ?_
          have hlz := hl
          exact K36 _ _ (Eq.symm ((if_neg c36).trans rfl)) (lv_sub hlz [0, 3, 4] rfl)
        · skip
          refine lv_ldc (v := (-100104)) hx hb hown (hts _ t_con_VernierDrawersLaw_73) dL_moves_482 ?_
          refine lv_goto (tgt := 492) hx hb dL_moves_484 (by decide) ?_
          have hlz := hl
          exact K36 _ _ (Eq.symm ((if_pos c36).trans rfl)) (lv_sub hlz [0, 3, 4] rfl)
    · have ho := ho.1 c5
      refine lv_iload_n hx hb dL_moves_271 rfl (lv_at hl 5 rfl) ?_
      refine lv_iload_n hx hb dL_moves_272 rfl (lv_at hl 5 rfl) ?_
      refine lv_bipush (v := 9) hx hb dL_moves_273 (by decide) ?_
      refine lv_ishr hx hb dL_moves_275 ?_
      refine lv_bipush (v := 9) hx hb dL_moves_276 (by decide) ?_
      have hq61 := ho.1
      have ho := ho.2
      refine k_L_low X hS hq61 t_ml_VernierDrawersLaw_250 hl.1 (Nat.le_of_ble_eq_true rfl) ⟨Nat.le_of_ble_eq_true rfl, Nat.le_of_ble_eq_true rfl⟩ ⟨Nat.zero_le _, Nat.zero_le _⟩ dL_moves_278 ?_
      have K63 : ∀ (y62 : Int32) (ls : Array Slot), y62 = (if ((fL_low (p2 >>> ((9 : Int32) &&& 31)) 9) : Int32) = 0 then 102 else 40 : Int32) → lv_has ls 11 [(5, .int (fX10_brought o1 v)), (4, .int (fX10_toFile o1 v)), (3, .int (fX10_onBench o1 v)), (0, .ref (ga G o1))] → W p l e (rmL_moves o1 p1 p2 v) s m args below meth c s.heap [] 0 0 Q (F0 m 291 ls [.int y62, .int p2]) := by
        intro y62 ls ey62 hl
        have ho := ho y62 ey62
        have hq64 := ho.1
        have ho := ho.2
        refine k_L_low X hS hq64 t_ml_VernierDrawersLaw_250 hl.1 (Nat.le_of_ble_eq_true rfl) ⟨Nat.le_of_ble_eq_true rfl, Nat.le_of_ble_eq_true rfl⟩ ⟨Nat.zero_le _, Nat.zero_le _⟩ dL_moves_291 ?_
        refine lv_istore (lv' := [(6, .int (fL_low p2 y62)), (5, .int (fX10_brought o1 v)), (4, .int (fX10_toFile o1 v)), (3, .int (fX10_onBench o1 v)), (0, .ref (ga G o1))]) hx hb dL_moves_294 hl (by decide) rfl (fun ls hl => ?_)
        refine lv_iload hx hb dL_moves_296 (lv_at hl 0 rfl) ?_
        refine lv_iconst (v := 1) hx hb dL_moves_298 (by decide) ?_
        have K66 : ∀ (y65 : Int32) (ls : Array Slot), y65 = (if ((fL_low p2 y62) : Int32) < 1 then 1 else (if ((fL_low p2 y62) : Int32) ≤ 99 then 0 else 1) : Int32) → lv_has ls 11 [(6, .int (fL_low p2 y62)), (5, .int (fX10_brought o1 v)), (4, .int (fX10_toFile o1 v)), (3, .int (fX10_onBench o1 v)), (0, .ref (ga G o1))] → W p l e (rmL_moves o1 p1 p2 v) s m args below meth c s.heap [] 0 0 Q (F0 m 314 ls [.int y65]) := by
          intro y65 ls ey65 hl
          have ho := ho y65 ey65
          refine lv_istore (lv' := [(7, .int y65), (6, .int (fL_low p2 y62)), (5, .int (fX10_brought o1 v)), (4, .int (fX10_toFile o1 v)), (3, .int (fX10_onBench o1 v)), (0, .ref (ga G o1))]) hx hb dL_moves_314 hl (by decide) rfl (fun ls hl => ?_)
          refine lv_aload_n hx hb dL_moves_316 rfl (lv_at hl 5 rfl) ?_
          refine lv_iload hx hb dL_moves_317 (lv_at hl 1 rfl) ?_
          have hq67 := ho.1
          have ho := ho.2
          have hk68 : kkL_file o1 (fL_low p2 y62) v = pot ((fL_file o1 (fL_low p2 y62) v).2) - pot v + 36 := rfl
          have hq69 := ho.1
          have ho := ho.2
          refine k_L_file hst X hS hN hH hk_o1 hq67 t_ml_VernierDrawersLaw_363 hl.1 (Nat.le_of_ble_eq_true rfl) ⟨Nat.le_of_ble_eq_true rfl, Nat.le_of_ble_eq_true rfl⟩ ⟨(show 0 + kkL_file o1 (fL_low p2 y62) v ≤ kkL_moves o1 p1 p2 v by omega), (show 0 + kkL_file o1 (fL_low p2 y62) v ≤ kkL_moves o1 p1 p2 v by omega)⟩ dL_moves_319 (fun da H locs v70 ev70 hH hS => ?_)
          have ho := ho v70 ev70
          have hp71 : pot v70 = pot ((fL_file o1 (fL_low p2 y62) v).2) := by rw [ev70]
          refine W.widen (k := ((pot v70 - pot v) + 36)) (n := ((pot v70 - pot v) + 36)) (by omega) (by omega) ?_
          refine lv_istore (lv' := [(8, .int ((fL_file o1 (fL_low p2 y62) v).1)), (7, .int y65), (6, .int (fL_low p2 y62)), (5, .int (fX10_brought o1 v)), (4, .int (fX10_toFile o1 v)), (3, .int (fX10_onBench o1 v)), (0, .ref (ga G o1))]) hx hb dL_moves_322 hl (by decide) rfl (fun ls hl => ?_)
          refine lv_iload hx hb dL_moves_324 (lv_at hl 0 rfl) ?_
          refine lv_ldcw (v := (-100000)) hx hb hown (hts _ t_con_VernierDrawersLaw_358) dL_moves_326 ?_
          have K73 : ∀ (y72 : Int32) (ls : Array Slot), y72 = (if (((fL_file o1 (fL_low p2 y62) v).1) : Int32) ≤ (-100000) then 0 else 1 : Int32) → lv_has ls 11 [(8, .int ((fL_file o1 (fL_low p2 y62) v).1)), (7, .int y65), (6, .int (fL_low p2 y62)), (5, .int (fX10_brought o1 v)), (4, .int (fX10_toFile o1 v)), (3, .int (fX10_onBench o1 v)), (0, .ref (ga G o1))] → W p l e (rmL_moves o1 p1 p2 v) s m args below meth c H locs ((pot v70 - pot v) + 36) ((pot v70 - pot v) + 36) Q (F0 m 337 ls [.int y72]) := by
            intro y72 ls ey72 hl
            have ho := ho y72 ey72
            refine lv_istore (lv' := [(9, .int y72), (8, .int ((fL_file o1 (fL_low p2 y62) v).1)), (7, .int y65), (6, .int (fL_low p2 y62)), (5, .int (fX10_brought o1 v)), (4, .int (fX10_toFile o1 v)), (3, .int (fX10_onBench o1 v)), (0, .ref (ga G o1))]) hx hb dL_moves_337 hl (by decide) rfl (fun ls hl => ?_)
            refine lv_iload hx hb dL_moves_339 (lv_at hl 0 rfl) ?_
            have K74 : ∀  (ls : Array Slot), lv_has ls 11 [(9, .int y72), (7, .int y65), (6, .int (fL_low p2 y62)), (5, .int (fX10_brought o1 v)), (4, .int (fX10_toFile o1 v)), (3, .int (fX10_onBench o1 v)), (0, .ref (ga G o1))] → W p l e (rmL_moves o1 p1 p2 v) s m args below meth c H locs ((pot v70 - pot v) + 36) ((pot v70 - pot v) + 36) Q (F0 m 426 ls []) := by
              intro  ls  hl
              have ho := ho.2
              refine lv_aload_n hx hb dL_moves_426 rfl (lv_at hl 6 rfl) ?_
              have hq75 := ho.1
              have ho := ho.2
              refine k_X10_brought X hS hH hk_o1 hq75 t_ml_VernierDrawersLaw_215 hl.1 (Nat.le_of_ble_eq_true rfl) ⟨Nat.le_of_ble_eq_true rfl, Nat.le_of_ble_eq_true rfl⟩ ⟨(show ((pot v70 - pot v) + 36) ≤ kkL_moves o1 p1 p2 v by omega), (show ((pot v70 - pot v) + 36) ≤ kkL_moves o1 p1 p2 v by omega)⟩ dL_moves_427 ?_
              refine lv_iload hx hb dL_moves_430 (lv_at hl 3 rfl) ?_
              refine lv_icmp_ne (tgt := 465) hx hb dL_moves_432 (by decide) (fun c76 => ?_) (fun c76 => ?_)
              · exact absurd ho.1 c76
              have ho := ho.2
              refine lv_iload hx hb dL_moves_435 (lv_at hl 0 rfl) ?_
              refine lv_if_ne (tgt := 461) hx hb dL_moves_437 (by decide) (fun c77 => ?_) (fun c77 => ?_)
              · skip
                refine lv_iconst (v := 1) hx hb dL_moves_461 (by decide) ?_
                refine lv_goto (tgt := 466) hx hb dL_moves_462 (by decide) ?_
                have hHz := hH
                have hSz := hS
                have hFz : fL_moves o1 p1 p2 v = v70 := by
                  refine (fL_moves.eq_1 _ _ _ _).trans ?_
                  dsimp only
                  try rw [← ey62]
                  try rw [← ey65]
                  try rw [← ev70]
                  try rw [← ey72]
                  all_goals rw [if_neg c4]
                  all_goals rw [if_pos c5]
                  all_goals rw [if_neg c77]
                exact E _ _ _ _ _ _ _ _ _ dL_moves_466 rfl rfl (Eq.symm hFz) hHz hSz (show ((pot v70 - pot v) + 36) ≤ kkL_moves o1 p1 p2 v by omega) (show ((pot v70 - pot v) + 36) ≤ kkL_moves o1 p1 p2 v by omega)
              · have ho := ho c77
                refine lv_iload hx hb dL_moves_440 (lv_at hl 1 rfl) ?_
                refine lv_if_ne (tgt := 461) hx hb dL_moves_442 (by decide) (fun c78 => ?_) (fun c78 => ?_)
                · skip
                  refine lv_iconst (v := 1) hx hb dL_moves_461 (by decide) ?_
                  refine lv_goto (tgt := 466) hx hb dL_moves_462 (by decide) ?_
                  have hHz := hH
                  have hSz := hS
                  have hFz : fL_moves o1 p1 p2 v = v70 := by
                    refine (fL_moves.eq_1 _ _ _ _).trans ?_
                    dsimp only
                    try rw [← ey62]
                    try rw [← ey65]
                    try rw [← ev70]
                    try rw [← ey72]
                    all_goals rw [if_neg c4]
                    all_goals rw [if_pos c5]
                    all_goals rw [if_pos c77]
                    all_goals rw [if_neg c78]
                  exact E _ _ _ _ _ _ _ _ _ dL_moves_466 rfl rfl (Eq.symm hFz) hHz hSz (show ((pot v70 - pot v) + 36) ≤ kkL_moves o1 p1 p2 v by omega) (show ((pot v70 - pot v) + 36) ≤ kkL_moves o1 p1 p2 v by omega)
                · have ho := ho c78
                  refine lv_iload hx hb dL_moves_445 (lv_at hl 4 rfl) ?_
                  refine lv_if_eq (tgt := 461) hx hb dL_moves_447 (by decide) (fun c79 => ?_) (fun c79 => ?_)
                  · skip
                    refine lv_iconst (v := 1) hx hb dL_moves_461 (by decide) ?_
                    refine lv_goto (tgt := 466) hx hb dL_moves_462 (by decide) ?_
                    have hHz := hH
                    have hSz := hS
                    have hFz : fL_moves o1 p1 p2 v = v70 := by
                      refine (fL_moves.eq_1 _ _ _ _).trans ?_
                      dsimp only
                      try rw [← ey62]
                      try rw [← ey65]
                      try rw [← ev70]
                      try rw [← ey72]
                      all_goals rw [if_neg c4]
                      all_goals rw [if_pos c5]
                      all_goals rw [if_pos c77]
                      all_goals rw [if_pos c78]
                      all_goals rw [if_pos c79]
                    exact E _ _ _ _ _ _ _ _ _ dL_moves_466 rfl rfl (Eq.symm hFz) hHz hSz (show ((pot v70 - pot v) + 36) ≤ kkL_moves o1 p1 p2 v by omega) (show ((pot v70 - pot v) + 36) ≤ kkL_moves o1 p1 p2 v by omega)
                  · have ho := ho c79
                    refine lv_iload_n hx hb dL_moves_450 rfl (lv_at hl 5 rfl) ?_
                    refine lv_bipush (v := 20) hx hb dL_moves_451 (by decide) ?_
                    refine lv_icmp_eq (tgt := 461) hx hb dL_moves_453 (by decide) (fun c80 => ?_) (fun c80 => ?_)
                    · skip
                      refine lv_iconst (v := 1) hx hb dL_moves_461 (by decide) ?_
                      refine lv_goto (tgt := 466) hx hb dL_moves_462 (by decide) ?_
                      have hHz := hH
                      have hSz := hS
                      have hFz : fL_moves o1 p1 p2 v = v70 := by
                        refine (fL_moves.eq_1 _ _ _ _).trans ?_
                        dsimp only
                        try rw [← ey62]
                        try rw [← ey65]
                        try rw [← ev70]
                        try rw [← ey72]
                        all_goals rw [if_neg c4]
                        all_goals rw [if_pos c5]
                        all_goals rw [if_pos c77]
                        all_goals rw [if_pos c78]
                        all_goals rw [if_neg c79]
                        all_goals rw [if_pos c80]
                      exact E _ _ _ _ _ _ _ _ _ dL_moves_466 rfl rfl (Eq.symm hFz) hHz hSz (show ((pot v70 - pot v) + 36) ≤ kkL_moves o1 p1 p2 v by omega) (show ((pot v70 - pot v) + 36) ≤ kkL_moves o1 p1 p2 v by omega)
                    · have ho := ho c80
                      refine lv_iload hx hb dL_moves_456 (lv_at hl 2 rfl) ?_
                      refine lv_if_le (tgt := 465) hx hb dL_moves_458 (by decide) (fun c81 => ?_) (fun c81 => ?_)
                      · exact absurd c81 ho
                      refine lv_iconst (v := 1) hx hb dL_moves_461 (by decide) ?_
                      refine lv_goto (tgt := 466) hx hb dL_moves_462 (by decide) ?_
                      have hHz := hH
                      have hSz := hS
                      have hFz : fL_moves o1 p1 p2 v = v70 := by
                        refine (fL_moves.eq_1 _ _ _ _).trans ?_
                        dsimp only
                        try rw [← ey62]
                        try rw [← ey65]
                        try rw [← ev70]
                        try rw [← ey72]
                        all_goals rw [if_neg c4]
                        all_goals rw [if_pos c5]
                        all_goals rw [if_pos c77]
                        all_goals rw [if_pos c78]
                        all_goals rw [if_neg c79]
                        all_goals rw [if_neg c80]
                      exact E _ _ _ _ _ _ _ _ _ dL_moves_466 rfl rfl (Eq.symm hFz) hHz hSz (show ((pot v70 - pot v) + 36) ≤ kkL_moves o1 p1 p2 v by omega) (show ((pot v70 - pot v) + 36) ≤ kkL_moves o1 p1 p2 v by omega)
            have ho := ho.1
            refine lv_if_eq (tgt := 392) hx hb dL_moves_341 (by decide) (fun c74 => ?_) (fun c74 => ?_)
            · have ho := ho.1 c74
              refine lv_iload hx hb dL_moves_392 (lv_at hl 1 rfl) ?_
              refine lv_iload hx hb dL_moves_394 (lv_at hl 2 rfl) ?_
              have K76 : ∀ (y75 : Int32) (ls : Array Slot), y75 = (if (y65 : Int32) = 0 then ((-100103)) else ((-100102)) : Int32) → lv_has ls 11 [(9, .int y72), (7, .int y65), (6, .int (fL_low p2 y62)), (5, .int (fX10_brought o1 v)), (4, .int (fX10_toFile o1 v)), (3, .int (fX10_onBench o1 v)), (0, .ref (ga G o1))] → W p l e (rmL_moves o1 p1 p2 v) s m args below meth c H locs ((pot v70 - pot v) + 36) ((pot v70 - pot v) + 36) Q (F0 m 406 ls [.int y75, .int ((fL_file o1 (fL_low p2 y62) v).1)]) := by
                intro y75 ls ey75 hl
                have ho := ho y75 ey75
                refine lv_icmp_ne (tgt := 465) hx hb dL_moves_406 (by decide) (fun c77 => ?_) (fun c77 => ?_)
                · exact absurd ho.1 c77
                have ho := ho.2
                refine lv_aload_n hx hb dL_moves_409 rfl (lv_at hl 6 rfl) ?_
                have hq78 := ho.1
                have ho := ho.2
                refine k_X10_onBench X hS hH hk_o1 hq78 t_ml_VernierDrawersLaw_247 hl.1 (Nat.le_of_ble_eq_true rfl) ⟨Nat.le_of_ble_eq_true rfl, Nat.le_of_ble_eq_true rfl⟩ ⟨(show ((pot v70 - pot v) + 36) ≤ kkL_moves o1 p1 p2 v by omega), (show ((pot v70 - pot v) + 36) ≤ kkL_moves o1 p1 p2 v by omega)⟩ dL_moves_410 ?_
                refine lv_iload_n hx hb dL_moves_413 rfl (lv_at hl 5 rfl) ?_
                refine lv_icmp_ne (tgt := 465) hx hb dL_moves_414 (by decide) (fun c79 => ?_) (fun c79 => ?_)
                · exact absurd ho.1 c79
                have ho := ho.2
                refine lv_aload_n hx hb dL_moves_417 rfl (lv_at hl 6 rfl) ?_
                have hq80 := ho.1
                have ho := ho.2
                refine k_X10_toFile X hS hH hk_o1 hq80 t_ml_VernierDrawersLaw_239 hl.1 (Nat.le_of_ble_eq_true rfl) ⟨Nat.le_of_ble_eq_true rfl, Nat.le_of_ble_eq_true rfl⟩ ⟨(show ((pot v70 - pot v) + 36) ≤ kkL_moves o1 p1 p2 v by omega), (show ((pot v70 - pot v) + 36) ≤ kkL_moves o1 p1 p2 v by omega)⟩ dL_moves_418 ?_
                refine lv_iload hx hb dL_moves_421 (lv_at hl 4 rfl) ?_
                refine lv_icmp_ne (tgt := 465) hx hb dL_moves_423 (by decide) (fun c81 => ?_) (fun c81 => ?_)
                · exact absurd ho c81
                have hlz := hl
                replace ey75 := Eq.symm ey75
                subst ey75
                exact K74  _  (lv_sub hlz [0, 1, 2, 3, 4, 5, 6] rfl)
              refine lv_if_eq (tgt := 404) hx hb dL_moves_396 (by decide) (fun c76 => ?_) (fun c76 => ?_)
              · skip
                refine lv_ldc (v := (-100103)) hx hb hown (hts _ t_con_VernierDrawersLaw_20) dL_moves_404 ?_
                have hlz := hl
                exact K76 _ _ (Eq.symm ((if_pos c76).trans rfl)) (lv_sub hlz [0, 2, 3, 4, 5, 6, 7] rfl)
              · skip
                refine lv_ldc (v := (-100102)) hx hb hown (hts _ t_con_VernierDrawersLaw_17) dL_moves_399 ?_
                refine lv_goto (tgt := 406) hx hb dL_moves_401 (by decide) ?_
                have hlz := hl
                exact K76 _ _ (Eq.symm ((if_neg c76).trans rfl)) (lv_sub hlz [0, 2, 3, 4, 5, 6, 7] rfl)
            · have ho := ho.2 c74
              refine lv_iload hx hb dL_moves_344 (lv_at hl 2 rfl) ?_
              refine lv_if_ne (tgt := 465) hx hb dL_moves_346 (by decide) (fun c82 => ?_) (fun c82 => ?_)
              · exact absurd ho.1 c82
              have ho := ho.2
              refine lv_iload hx hb dL_moves_349 (lv_at hl 5 rfl) ?_
              refine lv_if_le (tgt := 465) hx hb dL_moves_351 (by decide) (fun c83 => ?_) (fun c83 => ?_)
              · exact absurd c83 ho.1
              have ho := ho.2
              refine lv_iload_n hx hb dL_moves_354 rfl (lv_at hl 6 rfl) ?_
              refine lv_bipush (v := 20) hx hb dL_moves_355 (by decide) ?_
              refine lv_icmp_ge (tgt := 465) hx hb dL_moves_357 (by decide) (fun c84 => ?_) (fun c84 => ?_)
              · exact absurd c84 ho.1
              have ho := ho.2
              refine lv_aload_n hx hb dL_moves_360 rfl (lv_at hl 7 rfl) ?_
              have hq85 := ho.1
              have ho := ho.2
              refine k_X10_onBench X hS hH hk_o1 hq85 t_ml_VernierDrawersLaw_247 hl.1 (Nat.le_of_ble_eq_true rfl) ⟨Nat.le_of_ble_eq_true rfl, Nat.le_of_ble_eq_true rfl⟩ ⟨(show ((pot v70 - pot v) + 36) ≤ kkL_moves o1 p1 p2 v by omega), (show ((pot v70 - pot v) + 36) ≤ kkL_moves o1 p1 p2 v by omega)⟩ dL_moves_361 ?_
              refine lv_iload_n hx hb dL_moves_364 rfl (lv_at hl 6 rfl) ?_
              refine lv_iconst (v := 1) hx hb dL_moves_365 (by decide) ?_
              refine lv_iadd hx hb dL_moves_366 ?_
              refine lv_icmp_ne (tgt := 465) hx hb dL_moves_367 (by decide) (fun c86 => ?_) (fun c86 => ?_)
              · exact absurd ho.1 c86
              have ho := ho.2
              refine lv_aload_n hx hb dL_moves_370 rfl (lv_at hl 7 rfl) ?_
              have hq87 := ho.1
              have ho := ho.2
              refine k_X10_toFile X hS hH hk_o1 hq87 t_ml_VernierDrawersLaw_239 hl.1 (Nat.le_of_ble_eq_true rfl) ⟨Nat.le_of_ble_eq_true rfl, Nat.le_of_ble_eq_true rfl⟩ ⟨(show ((pot v70 - pot v) + 36) ≤ kkL_moves o1 p1 p2 v by omega), (show ((pot v70 - pot v) + 36) ≤ kkL_moves o1 p1 p2 v by omega)⟩ dL_moves_371 ?_
              refine lv_iload hx hb dL_moves_374 (lv_at hl 5 rfl) ?_
              refine lv_iconst (v := 1) hx hb dL_moves_376 (by decide) ?_
              refine lv_isub hx hb dL_moves_377 ?_
              refine lv_icmp_ne (tgt := 465) hx hb dL_moves_378 (by decide) (fun c88 => ?_) (fun c88 => ?_)
              · exact absurd ho.1 c88
              have ho := ho.2
              refine lv_aload_n hx hb dL_moves_381 rfl (lv_at hl 7 rfl) ?_
              refine lv_iload_n hx hb dL_moves_382 rfl (lv_at hl 6 rfl) ?_
              have hq89 := ho.1
              have ho := ho.2
              have hq90 := ho.1
              have ho := ho.2
              refine kZ_X10_wasDoubted X hS hH hk_o1 hq89 hq90 t_ml_VernierDrawersLaw_74 hl.1 (Nat.le_of_ble_eq_true rfl) ⟨Nat.le_of_ble_eq_true rfl, Nat.le_of_ble_eq_true rfl⟩ ⟨(show ((pot v70 - pot v) + 36) ≤ kkL_moves o1 p1 p2 v by omega), (show ((pot v70 - pot v) + 36) ≤ kkL_moves o1 p1 p2 v by omega)⟩ dL_moves_383 ?_
              refine lv_if_ne (tgt := 465) hx hb dL_moves_386 (by decide) (fun c91 => ?_) (fun c91 => ?_)
              · exact absurd ho c91
              refine lv_goto (tgt := 426) hx hb dL_moves_389 (by decide) ?_
              have hlz := hl
              exact K74  _  (lv_sub hlz [0, 2, 3, 4, 5, 6, 7] rfl)
          refine lv_icmp_le (tgt := 336) hx hb dL_moves_329 (by decide) (fun c73 => ?_) (fun c73 => ?_)
          · skip
            refine lv_iconst (v := 0) hx hb dL_moves_336 (by decide) ?_
            have hlz := hl
            exact K73 _ _ (Eq.symm ((if_pos c73).trans rfl)) (lv_sub hlz [0, 1, 2, 3, 4, 5, 6] rfl)
          · skip
            refine lv_iconst (v := 1) hx hb dL_moves_332 (by decide) ?_
            refine lv_goto (tgt := 337) hx hb dL_moves_333 (by decide) ?_
            have hlz := hl
            exact K73 _ _ (Eq.symm ((if_neg c73).trans rfl)) (lv_sub hlz [0, 1, 2, 3, 4, 5, 6] rfl)
        refine lv_icmp_lt (tgt := 309) hx hb dL_moves_299 (by decide) (fun c66 => ?_) (fun c66 => ?_)
        · skip
          refine lv_iconst (v := 1) hx hb dL_moves_309 (by decide) ?_
          refine lv_goto (tgt := 314) hx hb dL_moves_310 (by decide) ?_
          have hlz := hl
          exact K66 _ _ (Eq.symm ((if_pos c66).trans rfl)) (lv_sub hlz [0, 1, 2, 3, 4] rfl)
        · skip
          refine lv_iload hx hb dL_moves_302 (lv_at hl 0 rfl) ?_
          refine lv_bipush (v := 99) hx hb dL_moves_304 (by decide) ?_
          refine lv_icmp_le (tgt := 313) hx hb dL_moves_306 (by decide) (fun c67 => ?_) (fun c67 => ?_)
          · skip
            refine lv_iconst (v := 0) hx hb dL_moves_313 (by decide) ?_
            have hlz := hl
            exact K66 _ _ (Eq.symm ((if_neg c66).trans ((if_pos c67).trans rfl))) (lv_sub hlz [0, 1, 2, 3, 4] rfl)
          · skip
            refine lv_iconst (v := 1) hx hb dL_moves_309 (by decide) ?_
            refine lv_goto (tgt := 314) hx hb dL_moves_310 (by decide) ?_
            have hlz := hl
            exact K66 _ _ (Eq.symm ((if_neg c66).trans ((if_neg c67).trans rfl))) (lv_sub hlz [0, 1, 2, 3, 4] rfl)
      refine lv_if_ne (tgt := 289) hx hb dL_moves_281 (by decide) (fun c63 => ?_) (fun c63 => ?_)
      · skip
        refine lv_bipush (v := 40) hx hb dL_moves_289 (by decide) ?_
        have hlz := hl
        exact K63 _ _ (Eq.symm ((if_neg c63).trans rfl)) (lv_sub hlz [0, 1, 2, 3] rfl)
      · skip
        refine lv_bipush (v := 102) hx hb dL_moves_284 (by decide) ?_
        refine lv_goto (tgt := 291) hx hb dL_moves_286 (by decide) ?_
        have hlz := hl
        exact K63 _ _ (Eq.symm ((if_pos c63).trans rfl)) (lv_sub hlz [0, 1, 2, 3] rfl)
  · have ho := ho.1 c4
    refine lv_iload_n hx hb dL_moves_21 rfl (lv_at hl 5 rfl) ?_
    refine lv_aload_n hx hb dL_moves_22 rfl (lv_at hl 3 rfl) ?_
    have hq92 := ho.1
    have ho := ho.2
    refine k_X10_types X hS hH hk_o1 hq92 t_ml_VernierDrawersLaw_236 hl.1 (Nat.le_of_ble_eq_true rfl) ⟨Nat.le_of_ble_eq_true rfl, Nat.le_of_ble_eq_true rfl⟩ ⟨Nat.zero_le _, Nat.zero_le _⟩ dL_moves_23 ?_
    refine lv_iload_n hx hb dL_moves_26 rfl (lv_at hl 5 rfl) ?_
    refine lv_bipush (v := 9) hx hb dL_moves_27 (by decide) ?_
    refine lv_ishr hx hb dL_moves_29 ?_
    refine lv_bipush (v := 14) hx hb dL_moves_30 (by decide) ?_
    have hq93 := ho.1
    have ho := ho.2
    refine k_L_low X hS hq93 t_ml_VernierDrawersLaw_250 hl.1 (Nat.le_of_ble_eq_true rfl) ⟨Nat.le_of_ble_eq_true rfl, Nat.le_of_ble_eq_true rfl⟩ ⟨Nat.zero_le _, Nat.zero_le _⟩ dL_moves_32 ?_
    have K95 : ∀ (y94 : Int32) (ls : Array Slot), y94 = (if ((fL_low (p2 >>> ((9 : Int32) &&& 31)) 14) : Int32) = 0 then 1 else (if ((fX10_types o1 v) : Int32) = 0 then 1 else 0) : Int32) → lv_has ls 11 [(5, .int (fX10_brought o1 v)), (3, .int (fX10_onBench o1 v)), (0, .ref (ga G o1)), (2, .int p2)] → W p l e (rmL_moves o1 p1 p2 v) s m args below meth c s.heap [] 0 0 Q (F0 m 50 ls [.int y94, .int (fX10_types o1 v), .int p2]) := by
      intro y94 ls ey94 hl
      have ho := ho y94 ey94
      refine lv_iadd hx hb dL_moves_50 ?_
      have hq96 := ho.1
      have ho := ho.2
      refine k_L_low X hS hq96 t_ml_VernierDrawersLaw_250 hl.1 (Nat.le_of_ble_eq_true rfl) ⟨Nat.le_of_ble_eq_true rfl, Nat.le_of_ble_eq_true rfl⟩ ⟨Nat.zero_le _, Nat.zero_le _⟩ dL_moves_51 ?_
      refine lv_istore (lv' := [(6, .int (fL_low p2 ((fX10_types o1 v) + y94))), (5, .int (fX10_brought o1 v)), (3, .int (fX10_onBench o1 v)), (0, .ref (ga G o1)), (2, .int p2)]) hx hb dL_moves_54 hl (by decide) rfl (fun ls hl => ?_)
      refine lv_iload_n hx hb dL_moves_56 rfl (lv_at hl 4 rfl) ?_
      refine lv_bipush (v := 11) hx hb dL_moves_57 (by decide) ?_
      refine lv_ishr hx hb dL_moves_59 ?_
      refine lv_bipush (v := 14) hx hb dL_moves_60 (by decide) ?_
      have hq97 := ho.1
      have ho := ho.2
      refine k_L_low X hS hq97 t_ml_VernierDrawersLaw_250 hl.1 (Nat.le_of_ble_eq_true rfl) ⟨Nat.le_of_ble_eq_true rfl, Nat.le_of_ble_eq_true rfl⟩ ⟨Nat.zero_le _, Nat.zero_le _⟩ dL_moves_62 ?_
      have K99 : ∀ (y98 : Int32) (ls : Array Slot), y98 = (if ((fL_low (p2 >>> ((11 : Int32) &&& 31)) 14) : Int32) = 0 then ((fL_low (p2 >>> ((3 : Int32) &&& 31)) 500) - (250 : Int32)) else ((fL_low (p2 >>> ((3 : Int32) &&& 31)) 121) - (60 : Int32)) : Int32) → lv_has ls 11 [(6, .int (fL_low p2 ((fX10_types o1 v) + y94))), (5, .int (fX10_brought o1 v)), (3, .int (fX10_onBench o1 v)), (0, .ref (ga G o1))] → W p l e (rmL_moves o1 p1 p2 v) s m args below meth c s.heap [] 0 0 Q (F0 m 95 ls [.int y98]) := by
        intro y98 ls ey98 hl
        have ho := ho.2 y98 ey98
        refine lv_istore (lv' := [(7, .int y98), (6, .int (fL_low p2 ((fX10_types o1 v) + y94))), (5, .int (fX10_brought o1 v)), (3, .int (fX10_onBench o1 v)), (0, .ref (ga G o1))]) hx hb dL_moves_95 hl (by decide) rfl (fun ls hl => ?_)
        refine lv_iload hx hb dL_moves_97 (lv_at hl 1 rfl) ?_
        refine lv_aload_n hx hb dL_moves_99 rfl (lv_at hl 4 rfl) ?_
        refine k_X10_types X hS hH hk_o1 hq92 t_ml_VernierDrawersLaw_236 hl.1 (Nat.le_of_ble_eq_true rfl) ⟨Nat.le_of_ble_eq_true rfl, Nat.le_of_ble_eq_true rfl⟩ ⟨Nat.zero_le _, Nat.zero_le _⟩ dL_moves_100 ?_
        have K101 : ∀ (y100 : Int32) (ls : Array Slot), y100 = (if ((fL_low p2 ((fX10_types o1 v) + y94)) : Int32) = (fX10_types o1 v) then 1 else (if (y98 : Int32) < (-200) then 1 else (if (200 : Int32) < y98 then 1 else (if (1 : Int32) ≤ (((fX10_lengthOf o1 (fL_low p2 ((fX10_types o1 v) + y94)) v).2) + y98) then 0 else 1))) : Int32) → lv_has ls 11 [(7, .int y98), (6, .int (fL_low p2 ((fX10_types o1 v) + y94))), (5, .int (fX10_brought o1 v)), (3, .int (fX10_onBench o1 v)), (0, .ref (ga G o1))] → W p l e (rmL_moves o1 p1 p2 v) s m args below meth c s.heap [] 0 0 Q (F0 m 140 ls [.int y100]) := by
          intro y100 ls ey100 hl
          have ho := ho.2 y100 ey100
          refine lv_istore (lv' := [(8, .int y100), (7, .int y98), (6, .int (fL_low p2 ((fX10_types o1 v) + y94))), (5, .int (fX10_brought o1 v)), (3, .int (fX10_onBench o1 v)), (0, .ref (ga G o1))]) hx hb dL_moves_140 hl (by decide) rfl (fun ls hl => ?_)
          refine lv_aload_n hx hb dL_moves_142 rfl (lv_at hl 5 rfl) ?_
          refine lv_iload hx hb dL_moves_143 (lv_at hl 2 rfl) ?_
          refine lv_iload hx hb dL_moves_145 (lv_at hl 1 rfl) ?_
          have hq102 := ho.1
          have ho := ho.2
          have hk103 : kkL_bring o1 (fL_low p2 ((fX10_types o1 v) + y94)) y98 v = pot ((fL_bring o1 (fL_low p2 ((fX10_types o1 v) + y94)) y98 v).2) - pot v + 36 := rfl
          have hq104 := ho.1
          have ho := ho.2
          refine k_L_bring hst X hS hN hH hk_o1 hq102 t_ml_VernierDrawersLaw_361 hl.1 (Nat.le_of_ble_eq_true rfl) ⟨Nat.le_of_ble_eq_true rfl, Nat.le_of_ble_eq_true rfl⟩ ⟨(show 0 + kkL_bring o1 (fL_low p2 ((fX10_types o1 v) + y94)) y98 v ≤ kkL_moves o1 p1 p2 v by omega), (show 0 + kkL_bring o1 (fL_low p2 ((fX10_types o1 v) + y94)) y98 v ≤ kkL_moves o1 p1 p2 v by omega)⟩ dL_moves_147 (fun da H locs v105 ev105 hH hS => ?_)
          have ho := ho v105 ev105
          have hp106 : pot v105 = pot ((fL_bring o1 (fL_low p2 ((fX10_types o1 v) + y94)) y98 v).2) := by rw [ev105]
          refine W.widen (k := ((pot v105 - pot v) + 36)) (n := ((pot v105 - pot v) + 36)) (by omega) (by omega) ?_
          refine lv_istore (lv' := [(9, .int ((fL_bring o1 (fL_low p2 ((fX10_types o1 v) + y94)) y98 v).1)), (8, .int y100), (7, .int y98), (6, .int (fL_low p2 ((fX10_types o1 v) + y94))), (5, .int (fX10_brought o1 v)), (3, .int (fX10_onBench o1 v)), (0, .ref (ga G o1))]) hx hb dL_moves_150 hl (by decide) rfl (fun ls hl => ?_)
          refine lv_iload hx hb dL_moves_152 (lv_at hl 1 rfl) ?_
          have K108 : ∀ (y107 : Int32) (ls : Array Slot), y107 = (if (y100 : Int32) = 0 then (if (20 : Int32) ≤ (fX10_onBench o1 v) then 0 else 1) else 0 : Int32) → lv_has ls 11 [(9, .int ((fL_bring o1 (fL_low p2 ((fX10_types o1 v) + y94)) y98 v).1)), (8, .int y100), (6, .int (fL_low p2 ((fX10_types o1 v) + y94))), (5, .int (fX10_brought o1 v)), (3, .int (fX10_onBench o1 v)), (0, .ref (ga G o1))] → W p l e (rmL_moves o1 p1 p2 v) s m args below meth c H locs ((pot v105 - pot v) + 36) ((pot v105 - pot v) + 36) Q (F0 m 168 ls [.int y107]) := by
            intro y107 ls ey107 hl
            have ho := ho y107 ey107
            refine lv_istore (lv' := [(10, .int y107), (9, .int ((fL_bring o1 (fL_low p2 ((fX10_types o1 v) + y94)) y98 v).1)), (8, .int y100), (6, .int (fL_low p2 ((fX10_types o1 v) + y94))), (5, .int (fX10_brought o1 v)), (3, .int (fX10_onBench o1 v)), (0, .ref (ga G o1))]) hx hb dL_moves_168 hl (by decide) rfl (fun ls hl => ?_)
            refine lv_iload hx hb dL_moves_170 (lv_at hl 1 rfl) ?_
            refine lv_iload hx hb dL_moves_172 (lv_at hl 2 rfl) ?_
            have K110 : ∀ (y109 : Int32) (ls : Array Slot), y109 = (if (y100 : Int32) = 0 then (if (y107 : Int32) = 0 then ((-100103)) else ((fX10_onBench o1 v) + (1 : Int32))) else ((-100102)) : Int32) → lv_has ls 11 [(10, .int y107), (6, .int (fL_low p2 ((fX10_types o1 v) + y94))), (5, .int (fX10_brought o1 v)), (3, .int (fX10_onBench o1 v)), (0, .ref (ga G o1))] → W p l e (rmL_moves o1 p1 p2 v) s m args below meth c H locs ((pot v105 - pot v) + 36) ((pot v105 - pot v) + 36) Q (F0 m 195 ls [.int y109, .int ((fL_bring o1 (fL_low p2 ((fX10_types o1 v) + y94)) y98 v).1)]) := by
              intro y109 ls ey109 hl
              have ho := ho y109 ey109
              refine lv_icmp_ne (tgt := 264) hx hb dL_moves_195 (by decide) (fun c111 => ?_) (fun c111 => ?_)
              · exact absurd ho.1 c111
              have ho := ho.2
              refine lv_aload_n hx hb dL_moves_198 rfl (lv_at hl 4 rfl) ?_
              have hq112 := ho.1
              have ho := ho.2
              refine k_X10_onBench X hS hH hk_o1 hq112 t_ml_VernierDrawersLaw_247 hl.1 (Nat.le_of_ble_eq_true rfl) ⟨Nat.le_of_ble_eq_true rfl, Nat.le_of_ble_eq_true rfl⟩ ⟨(show ((pot v105 - pot v) + 36) ≤ kkL_moves o1 p1 p2 v by omega), (show ((pot v105 - pot v) + 36) ≤ kkL_moves o1 p1 p2 v by omega)⟩ dL_moves_199 ?_
              refine lv_iload_n hx hb dL_moves_202 rfl (lv_at hl 3 rfl) ?_
              refine lv_iload hx hb dL_moves_203 (lv_at hl 0 rfl) ?_
              have K114 : ∀ (y113 : Int32) (ls : Array Slot), y113 = (if (y107 : Int32) = 0 then 0 else 1 : Int32) → lv_has ls 11 [(10, .int y107), (6, .int (fL_low p2 ((fX10_types o1 v) + y94))), (5, .int (fX10_brought o1 v)), (3, .int (fX10_onBench o1 v)), (0, .ref (ga G o1))] → W p l e (rmL_moves o1 p1 p2 v) s m args below meth c H locs ((pot v105 - pot v) + 36) ((pot v105 - pot v) + 36) Q (F0 m 213 ls [.int y113, .int (fX10_onBench o1 v), .int (fX10_onBench o1 v105)]) := by
                intro y113 ls ey113 hl
                have ho := ho y113 ey113
                refine lv_iadd hx hb dL_moves_213 ?_
                refine lv_icmp_ne (tgt := 264) hx hb dL_moves_214 (by decide) (fun c115 => ?_) (fun c115 => ?_)
                · exact absurd ho.1 c115
                have ho := ho.2
                refine lv_aload_n hx hb dL_moves_217 rfl (lv_at hl 4 rfl) ?_
                have hq116 := ho.1
                have ho := ho.2
                refine k_X10_brought X hS hH hk_o1 hq116 t_ml_VernierDrawersLaw_215 hl.1 (Nat.le_of_ble_eq_true rfl) ⟨Nat.le_of_ble_eq_true rfl, Nat.le_of_ble_eq_true rfl⟩ ⟨(show ((pot v105 - pot v) + 36) ≤ kkL_moves o1 p1 p2 v by omega), (show ((pot v105 - pot v) + 36) ≤ kkL_moves o1 p1 p2 v by omega)⟩ dL_moves_218 ?_
                refine lv_iload hx hb dL_moves_221 (lv_at hl 2 rfl) ?_
                refine lv_iload hx hb dL_moves_223 (lv_at hl 0 rfl) ?_
                have K118 : ∀ (y117 : Int32) (ls : Array Slot), y117 = (if (y107 : Int32) = 0 then 0 else 1 : Int32) → lv_has ls 11 [(10, .int y107), (6, .int (fL_low p2 ((fX10_types o1 v) + y94))), (3, .int (fX10_onBench o1 v)), (0, .ref (ga G o1))] → W p l e (rmL_moves o1 p1 p2 v) s m args below meth c H locs ((pot v105 - pot v) + 36) ((pot v105 - pot v) + 36) Q (F0 m 233 ls [.int y117, .int (fX10_brought o1 v), .int (fX10_brought o1 v105)]) := by
                  intro y117 ls ey117 hl
                  have ho := ho y117 ey117
                  refine lv_iadd hx hb dL_moves_233 ?_
                  refine lv_icmp_ne (tgt := 264) hx hb dL_moves_234 (by decide) (fun c119 => ?_) (fun c119 => ?_)
                  · exact absurd ho.1 c119
                  have ho := ho.2
                  refine lv_iload hx hb dL_moves_237 (lv_at hl 0 rfl) ?_
                  refine lv_if_eq (tgt := 260) hx hb dL_moves_239 (by decide) (fun c120 => ?_) (fun c120 => ?_)
                  · skip
                    refine lv_iconst (v := 1) hx hb dL_moves_260 (by decide) ?_
                    refine lv_goto (tgt := 265) hx hb dL_moves_261 (by decide) ?_
                    have hHz := hH
                    have hSz := hS
                    have hFz : fL_moves o1 p1 p2 v = v105 := by
                      refine (fL_moves.eq_1 _ _ _ _).trans ?_
                      dsimp only
                      try rw [← ey94]
                      try rw [← ey98]
                      try rw [← ey100]
                      try rw [← ev105]
                      try rw [← ey107]
                      try rw [← ey109]
                      try rw [← ey113]
                      have dy117 : y117 = y113 := (by rw [ey117, ey113])
                      try rw [dy117] at c4
                      try rw [dy117] at c120
                      all_goals rw [if_pos c4]
                      all_goals rw [if_pos c120]
                    exact E _ _ _ _ _ _ _ _ _ dL_moves_265 rfl rfl (Eq.symm hFz) hHz hSz (show ((pot v105 - pot v) + 36) ≤ kkL_moves o1 p1 p2 v by omega) (show ((pot v105 - pot v) + 36) ≤ kkL_moves o1 p1 p2 v by omega)
                  · have ho := ho c120
                    refine lv_aload_n hx hb dL_moves_242 rfl (lv_at hl 3 rfl) ?_
                    refine lv_iload_n hx hb dL_moves_243 rfl (lv_at hl 2 rfl) ?_
                    have hq121 := ho.1
                    have ho := ho.2
                    have hq122 := ho.1
                    have ho := ho.2
                    refine kZ_X10_typeAt X hS hH hk_o1 hq121 hq122 t_ml_VernierDrawersLaw_68 hl.1 (Nat.le_of_ble_eq_true rfl) ⟨Nat.le_of_ble_eq_true rfl, Nat.le_of_ble_eq_true rfl⟩ ⟨(show ((pot v105 - pot v) + 36) ≤ kkL_moves o1 p1 p2 v by omega), (show ((pot v105 - pot v) + 36) ≤ kkL_moves o1 p1 p2 v by omega)⟩ dL_moves_244 ?_
                    refine lv_iload hx hb dL_moves_247 (lv_at hl 1 rfl) ?_
                    refine lv_icmp_ne (tgt := 264) hx hb dL_moves_249 (by decide) (fun c123 => ?_) (fun c123 => ?_)
                    · exact absurd ho.1 c123
                    have ho := ho.2
                    refine lv_aload_n hx hb dL_moves_252 rfl (lv_at hl 3 rfl) ?_
                    refine lv_iload_n hx hb dL_moves_253 rfl (lv_at hl 2 rfl) ?_
                    have hq124 := ho.1
                    have ho := ho.2
                    have hq125 := ho.1
                    have ho := ho.2
                    refine kZ_X10_wasDoubted X hS hH hk_o1 hq124 hq125 t_ml_VernierDrawersLaw_74 hl.1 (Nat.le_of_ble_eq_true rfl) ⟨Nat.le_of_ble_eq_true rfl, Nat.le_of_ble_eq_true rfl⟩ ⟨(show ((pot v105 - pot v) + 36) ≤ kkL_moves o1 p1 p2 v by omega), (show ((pot v105 - pot v) + 36) ≤ kkL_moves o1 p1 p2 v by omega)⟩ dL_moves_254 ?_
                    refine lv_if_ne (tgt := 264) hx hb dL_moves_257 (by decide) (fun c126 => ?_) (fun c126 => ?_)
                    · exact absurd ho c126
                    refine lv_iconst (v := 1) hx hb dL_moves_260 (by decide) ?_
                    refine lv_goto (tgt := 265) hx hb dL_moves_261 (by decide) ?_
                    have hHz := hH
                    have hSz := hS
                    have hFz : fL_moves o1 p1 p2 v = v105 := by
                      refine (fL_moves.eq_1 _ _ _ _).trans ?_
                      dsimp only
                      try rw [← ey94]
                      try rw [← ey98]
                      try rw [← ey100]
                      try rw [← ev105]
                      try rw [← ey107]
                      try rw [← ey109]
                      try rw [← ey113]
                      have dy117 : y117 = y113 := (by rw [ey117, ey113])
                      try rw [dy117] at c4
                      try rw [dy117] at c120
                      all_goals rw [if_pos c4]
                      all_goals rw [if_neg c120]
                    exact E _ _ _ _ _ _ _ _ _ dL_moves_265 rfl rfl (Eq.symm hFz) hHz hSz (show ((pot v105 - pot v) + 36) ≤ kkL_moves o1 p1 p2 v by omega) (show ((pot v105 - pot v) + 36) ≤ kkL_moves o1 p1 p2 v by omega)
                refine lv_if_eq (tgt := 232) hx hb dL_moves_225 (by decide) (fun c118 => ?_) (fun c118 => ?_)
                · skip
                  refine lv_iconst (v := 0) hx hb dL_moves_232 (by decide) ?_
                  have hlz := hl
                  exact K118 _ _ (Eq.symm ((if_pos c118).trans rfl)) (lv_sub hlz [0, 1, 3, 4] rfl)
                · skip
                  refine lv_iconst (v := 1) hx hb dL_moves_228 (by decide) ?_
                  refine lv_goto (tgt := 233) hx hb dL_moves_229 (by decide) ?_
                  have hlz := hl
                  exact K118 _ _ (Eq.symm ((if_neg c118).trans rfl)) (lv_sub hlz [0, 1, 3, 4] rfl)
              refine lv_if_eq (tgt := 212) hx hb dL_moves_205 (by decide) (fun c114 => ?_) (fun c114 => ?_)
              · skip
                refine lv_iconst (v := 0) hx hb dL_moves_212 (by decide) ?_
                have hlz := hl
                exact K114 _ _ (Eq.symm ((if_pos c114).trans rfl)) (lv_sub hlz [0, 1, 2, 3, 4] rfl)
              · skip
                refine lv_iconst (v := 1) hx hb dL_moves_208 (by decide) ?_
                refine lv_goto (tgt := 213) hx hb dL_moves_209 (by decide) ?_
                have hlz := hl
                exact K114 _ _ (Eq.symm ((if_neg c114).trans rfl)) (lv_sub hlz [0, 1, 2, 3, 4] rfl)
            refine lv_if_eq (tgt := 182) hx hb dL_moves_174 (by decide) (fun c110 => ?_) (fun c110 => ?_)
            · skip
              refine lv_iload hx hb dL_moves_182 (lv_at hl 0 rfl) ?_
              refine lv_if_eq (tgt := 193) hx hb dL_moves_184 (by decide) (fun c111 => ?_) (fun c111 => ?_)
              · skip
                refine lv_ldc (v := (-100103)) hx hb hown (hts _ t_con_VernierDrawersLaw_20) dL_moves_193 ?_
                have hlz := hl
                exact K110 _ _ (Eq.symm ((if_pos c110).trans ((if_pos c111).trans rfl))) (lv_sub hlz [0, 3, 4, 5, 6] rfl)
              · skip
                refine lv_iload_n hx hb dL_moves_187 rfl (lv_at hl 5 rfl) ?_
                refine lv_iconst (v := 1) hx hb dL_moves_188 (by decide) ?_
                refine lv_iadd hx hb dL_moves_189 ?_
                refine lv_goto (tgt := 195) hx hb dL_moves_190 (by decide) ?_
                have hlz := hl
                exact K110 _ _ (Eq.symm ((if_pos c110).trans ((if_neg c111).trans rfl))) (lv_sub hlz [0, 3, 4, 5, 6] rfl)
            · skip
              refine lv_ldc (v := (-100102)) hx hb hown (hts _ t_con_VernierDrawersLaw_17) dL_moves_177 ?_
              refine lv_goto (tgt := 195) hx hb dL_moves_179 (by decide) ?_
              have hlz := hl
              exact K110 _ _ (Eq.symm ((if_neg c110).trans rfl)) (lv_sub hlz [0, 3, 4, 5, 6] rfl)
          refine lv_if_ne (tgt := 167) hx hb dL_moves_154 (by decide) (fun c108 => ?_) (fun c108 => ?_)
          · skip
            refine lv_iconst (v := 0) hx hb dL_moves_167 (by decide) ?_
            have hlz := hl
            exact K108 _ _ (Eq.symm ((if_neg c108).trans rfl)) (lv_sub hlz [0, 1, 3, 4, 5, 6] rfl)
          · skip
            refine lv_iload_n hx hb dL_moves_157 rfl (lv_at hl 5 rfl) ?_
            refine lv_bipush (v := 20) hx hb dL_moves_158 (by decide) ?_
            refine lv_icmp_ge (tgt := 167) hx hb dL_moves_160 (by decide) (fun c109 => ?_) (fun c109 => ?_)
            · skip
              refine lv_iconst (v := 0) hx hb dL_moves_167 (by decide) ?_
              have hlz := hl
              exact K108 _ _ (Eq.symm ((if_pos c108).trans ((if_pos c109).trans rfl))) (lv_sub hlz [0, 1, 3, 4, 5, 6] rfl)
            · skip
              refine lv_iconst (v := 1) hx hb dL_moves_163 (by decide) ?_
              refine lv_goto (tgt := 168) hx hb dL_moves_164 (by decide) ?_
              have hlz := hl
              exact K108 _ _ (Eq.symm ((if_pos c108).trans ((if_neg c109).trans rfl))) (lv_sub hlz [0, 1, 3, 4, 5, 6] rfl)
        have ho := ho.1
        refine lv_icmp_eq (tgt := 135) hx hb dL_moves_103 (by decide) (fun c101 => ?_) (fun c101 => ?_)
        · skip
          refine lv_iconst (v := 1) hx hb dL_moves_135 (by decide) ?_
          refine lv_goto (tgt := 140) hx hb dL_moves_136 (by decide) ?_
          have hlz := hl
          exact K101 _ _ (Eq.symm ((if_pos c101).trans rfl)) (lv_sub hlz [0, 1, 2, 3, 4] rfl)
        · have ho := ho c101
          refine lv_iload hx hb dL_moves_106 (lv_at hl 0 rfl) ?_
          refine lv_sipush (v := (-200)) hx hb dL_moves_108 (by decide) ?_
          refine lv_icmp_lt (tgt := 135) hx hb dL_moves_111 (by decide) (fun c102 => ?_) (fun c102 => ?_)
          · skip
            refine lv_iconst (v := 1) hx hb dL_moves_135 (by decide) ?_
            refine lv_goto (tgt := 140) hx hb dL_moves_136 (by decide) ?_
            have hlz := hl
            exact K101 _ _ (Eq.symm ((if_neg c101).trans ((if_pos c102).trans rfl))) (lv_sub hlz [0, 1, 2, 3, 4] rfl)
          · have ho := ho c102
            refine lv_iload hx hb dL_moves_114 (lv_at hl 0 rfl) ?_
            refine lv_sipush (v := 200) hx hb dL_moves_116 (by decide) ?_
            refine lv_icmp_gt (tgt := 135) hx hb dL_moves_119 (by decide) (fun c103 => ?_) (fun c103 => ?_)
            · skip
              refine lv_iconst (v := 1) hx hb dL_moves_135 (by decide) ?_
              refine lv_goto (tgt := 140) hx hb dL_moves_136 (by decide) ?_
              have hlz := hl
              exact K101 _ _ (Eq.symm ((if_neg c101).trans ((if_neg c102).trans ((if_pos c103).trans rfl)))) (lv_sub hlz [0, 1, 2, 3, 4] rfl)
            · have ho := ho c103
              refine lv_aload_n hx hb dL_moves_122 rfl (lv_at hl 4 rfl) ?_
              refine lv_iload hx hb dL_moves_123 (lv_at hl 1 rfl) ?_
              have hq104 := ho.1
              have ho := ho.2
              have hq105 := ho
              refine kZ_X10_lengthOf X hS hH hk_o1 hq104 hq105 t_ml_VernierDrawersLaw_173 hl.1 (Nat.le_of_ble_eq_true rfl) ⟨Nat.le_of_ble_eq_true rfl, Nat.le_of_ble_eq_true rfl⟩ ⟨Nat.zero_le _, Nat.zero_le _⟩ dL_moves_125 ?_
              refine lv_iload hx hb dL_moves_128 (lv_at hl 0 rfl) ?_
              refine lv_iadd hx hb dL_moves_130 ?_
              refine lv_iconst (v := 1) hx hb dL_moves_131 (by decide) ?_
              refine lv_icmp_ge (tgt := 139) hx hb dL_moves_132 (by decide) (fun c106 => ?_) (fun c106 => ?_)
              · skip
                refine lv_iconst (v := 0) hx hb dL_moves_139 (by decide) ?_
                have hlz := hl
                exact K101 _ _ (Eq.symm ((if_neg c101).trans ((if_neg c102).trans ((if_neg c103).trans ((if_pos c106).trans rfl))))) (lv_sub hlz [0, 1, 2, 3, 4] rfl)
              · skip
                refine lv_iconst (v := 1) hx hb dL_moves_135 (by decide) ?_
                refine lv_goto (tgt := 140) hx hb dL_moves_136 (by decide) ?_
                have hlz := hl
                exact K101 _ _ (Eq.symm ((if_neg c101).trans ((if_neg c102).trans ((if_neg c103).trans ((if_neg c106).trans rfl))))) (lv_sub hlz [0, 1, 2, 3, 4] rfl)
      have ho := ho.1
      refine lv_if_ne (tgt := 84) hx hb dL_moves_65 (by decide) (fun c99 => ?_) (fun c99 => ?_)
      · have ho := ho.2 c99
        refine lv_iload_n hx hb dL_moves_84 rfl (lv_at hl 4 rfl) ?_
        refine lv_iconst (v := 3) hx hb dL_moves_85 (by decide) ?_
        refine lv_ishr hx hb dL_moves_86 ?_
        refine lv_bipush (v := 121) hx hb dL_moves_87 (by decide) ?_
        have hq100 := ho
        refine k_L_low X hS hq100 t_ml_VernierDrawersLaw_250 hl.1 (Nat.le_of_ble_eq_true rfl) ⟨Nat.le_of_ble_eq_true rfl, Nat.le_of_ble_eq_true rfl⟩ ⟨Nat.zero_le _, Nat.zero_le _⟩ dL_moves_89 ?_
        refine lv_bipush (v := 60) hx hb dL_moves_92 (by decide) ?_
        refine lv_isub hx hb dL_moves_94 ?_
        have hlz := hl
        exact K99 _ _ (Eq.symm ((if_neg c99).trans rfl)) (lv_sub hlz [0, 1, 2, 3] rfl)
      · have ho := ho.1 c99
        refine lv_iload_n hx hb dL_moves_68 rfl (lv_at hl 4 rfl) ?_
        refine lv_iconst (v := 3) hx hb dL_moves_69 (by decide) ?_
        refine lv_ishr hx hb dL_moves_70 ?_
        refine lv_sipush (v := 500) hx hb dL_moves_71 (by decide) ?_
        have hq101 := ho
        refine k_L_low X hS hq101 t_ml_VernierDrawersLaw_250 hl.1 (Nat.le_of_ble_eq_true rfl) ⟨Nat.le_of_ble_eq_true rfl, Nat.le_of_ble_eq_true rfl⟩ ⟨Nat.zero_le _, Nat.zero_le _⟩ dL_moves_74 ?_
        refine lv_sipush (v := 250) hx hb dL_moves_77 (by decide) ?_
        refine lv_isub hx hb dL_moves_80 ?_
        refine lv_goto (tgt := 95) hx hb dL_moves_81 (by decide) ?_
        have hlz := hl
        exact K99 _ _ (Eq.symm ((if_pos c99).trans rfl)) (lv_sub hlz [0, 1, 2, 3] rfl)
    refine lv_if_eq (tgt := 45) hx hb dL_moves_35 (by decide) (fun c95 => ?_) (fun c95 => ?_)
    · skip
      refine lv_iconst (v := 1) hx hb dL_moves_45 (by decide) ?_
      refine lv_goto (tgt := 50) hx hb dL_moves_46 (by decide) ?_
      have hlz := hl
      exact K95 _ _ (Eq.symm ((if_pos c95).trans rfl)) (lv_sub hlz [0, 2, 3, 5] rfl)
    · skip
      refine lv_aload_n hx hb dL_moves_38 rfl (lv_at hl 3 rfl) ?_
      refine k_X10_types X hS hH hk_o1 hq92 t_ml_VernierDrawersLaw_236 hl.1 (Nat.le_of_ble_eq_true rfl) ⟨Nat.le_of_ble_eq_true rfl, Nat.le_of_ble_eq_true rfl⟩ ⟨Nat.zero_le _, Nat.zero_le _⟩ dL_moves_39 ?_
      refine lv_if_ne (tgt := 49) hx hb dL_moves_42 (by decide) (fun c96 => ?_) (fun c96 => ?_)
      · skip
        refine lv_iconst (v := 0) hx hb dL_moves_49 (by decide) ?_
        have hlz := hl
        exact K95 _ _ (Eq.symm ((if_neg c95).trans ((if_neg c96).trans rfl))) (lv_sub hlz [0, 2, 3, 5] rfl)
      · skip
        refine lv_iconst (v := 1) hx hb dL_moves_45 (by decide) ?_
        refine lv_goto (tgt := 50) hx hb dL_moves_46 (by decide) ?_
        have hlz := hl
        exact K95 _ _ (Eq.symm ((if_neg c95).trans ((if_pos c96).trans rfl))) (lv_sub hlz [0, 2, 3, 5] rfl)
theorem k_L_moves {p : Program} {l : Launch} {e : Env} {R : Room} {s : State} {m : MethodId} {args : Array Value} {below : List Frame} {meth : Method} {c : Code} {H : Heap} {locs : List Loc} {cells slots : Nat} {Q : State → Prop} {cc : ByteArray} {pc nL : Nat} {ls : Array Slot} {rest : List Value} {G : gG} {own : String} {da : Nat → Nat} {v : vSt} {x : gX} (hst : l.stackTraces = false) (X : CX G p s m args c cc nL own) (hS : va_S (gA G) s.heap H locs) (hN : NC s) (hH : Hp G da v x H) {o1 : Nat} (hk_o1 : kd o1 = 10) {p1 : Int32} {p2 : Int32} (ho : oL_moves o1 p1 p2 v) {idx : Nat} (hml : Cond.methodLink own idx yL_moves ∈ TT) (hls : ls.size = nL) (hsum : (rest.map fun v => v.category).sum ≤ 8) (hR : (rmL_moves o1 p1 p2 v).frames + 1 ≤ R.frames ∧ 8 + (11 + 11) + (rmL_moves o1 p1 p2 v).locals ≤ R.locals) (hcs : cells + (kkL_moves o1 p1 p2 v) ≤ R.cells ∧ slots + (kkL_moves o1 p1 p2 v) ≤ R.slots) (hdg : decode cc pc = .ok (.invokestatic idx, 3)) (kk : ∀ (d : Nat → Nat) (H1 : Heap) (locs1 : List Loc) (v1 : vSt), v1 = fL_moves o1 p1 p2 v → Hp G d v1 x H1 → va_S (gA G) s.heap H1 locs1 → W p l e R s m args below meth c H1 locs1 (cells + (kkL_moves o1 p1 p2 v)) (slots + (kkL_moves o1 p1 p2 v)) Q (F0 m (pc + 3) ls (.int 1 :: rest))) : W p l e R s m args below meth c H locs cells slots Q (F0 m pc ls (.int p2 :: .int p1 :: .ref (ga G o1) :: rest)) := c_mi X.2.2.2.2.2.2 (runS (k := 3) X.1 X.2.1 X.2.2.1 X.2.2.2.1 X.2.2.2.2.1 (mL_moves l hst G da v x o1 hk_o1 p1 p2 ho) pN_bl hml t_st_L_moves t_ini_VernierDrawersLaw t_code_L_moves ⟨by decide, by decide, by decide +kernel⟩ rfl rfl hR hcs (preN X hN hS hH) rfl hls rfl hsum hdg) hS kk
def fL_acts (o1 : Nat) (p1 : Int32) (p2 : Int32) (v : vSt) : vSt := if ((fX10_tools o1 v) : Int32) < 2 then (let y4 : Int32 := (if (2 : Int32) ≤ (fX10_tools o1 v) then (if (3 : Int32) ≤ (fX10_blocks o1 v) then (if (2 : Int32) ≤ (fX10_types o1 v) then ((fL_low p1 80) - (fL_low p1 80) / (6 : Int32) * (6 : Int32)) else 2) else 1) else 0 : Int32); let v9 : vSt := fL_comes o1 y4 p2 v; v9) else (if ((fX10_blocks o1 v) : Int32) < 3 then (let y13 : Int32 := (if (2 : Int32) ≤ (fX10_tools o1 v) then (if (3 : Int32) ≤ (fX10_blocks o1 v) then (if (2 : Int32) ≤ (fX10_types o1 v) then ((fL_low p1 80) - (fL_low p1 80) / (6 : Int32) * (6 : Int32)) else 2) else 1) else 0 : Int32); let v18 : vSt := fL_comes o1 y13 p2 v; v18) else (if ((fX10_types o1 v) : Int32) < 2 then (let y22 : Int32 := (if (2 : Int32) ≤ (fX10_tools o1 v) then (if (3 : Int32) ≤ (fX10_blocks o1 v) then (if (2 : Int32) ≤ (fX10_types o1 v) then ((fL_low p1 80) - (fL_low p1 80) / (6 : Int32) * (6 : Int32)) else 2) else 1) else 0 : Int32); let v27 : vSt := fL_comes o1 y22 p2 v; v27) else (if (10 : Int32) ≤ (fL_low p1 80) then (if (22 : Int32) ≤ (fL_low p1 80) then (if (44 : Int32) ≤ (fL_low p1 80) then (if (62 : Int32) ≤ (fL_low p1 80) then (if (68 : Int32) ≤ (fL_low p1 80) then (if (71 : Int32) ≤ (fL_low p1 80) then (if (73 : Int32) ≤ (fL_low p1 80) then (let v39 : vSt := fL_reads o1 p2 v; v39) else (let v44 : vSt := fL_moves o1 3 p2 v; v44)) else (let v49 : vSt := fL_moves o1 2 p2 v; v49)) else (let v54 : vSt := fL_moves o1 1 p2 v; v54)) else (let v59 : vSt := fL_judges o1 p2 v; v59)) else (let v64 : vSt := fL_moves o1 0 p2 v; v64)) else (let v69 : vSt := fL_uses o1 p2 v; v69)) else (let y71 : Int32 := (if (2 : Int32) ≤ (fX10_tools o1 v) then (if (3 : Int32) ≤ (fX10_blocks o1 v) then (if (2 : Int32) ≤ (fX10_types o1 v) then ((fL_low p1 80) - (fL_low p1 80) / (6 : Int32) * (6 : Int32)) else 2) else 1) else 0 : Int32); let v76 : vSt := fL_comes o1 y71 p2 v; v76))))
def kkL_acts (o1 : Nat) (p1 : Int32) (p2 : Int32) (v : vSt) : Nat := pot (fL_acts o1 p1 p2 v) - pot v + 144
def oL_acts (o1 : Nat) (p1 : Int32) (p2 : Int32) (v : vSt) : Prop := (oL_low p1 80) ∧ ((oX10_tools o1 v) ∧ (((((fX10_tools o1 v) : Int32) < 2) → ((((2 : Int32) ≤ (fX10_tools o1 v)) → ((oX10_blocks o1 v) ∧ (((3 : Int32) ≤ (fX10_blocks o1 v)) → (oX10_types o1 v)))) ∧ (∀ (y4 : Int32), y4 = ((if (2 : Int32) ≤ (fX10_tools o1 v) then (if (3 : Int32) ≤ (fX10_blocks o1 v) then (if (2 : Int32) ≤ (fX10_types o1 v) then ((fL_low p1 80) - (fL_low p1 80) / (6 : Int32) * (6 : Int32)) else 2) else 1) else 0 : Int32) : Int32) → ((oL_comes o1 y4 p2 v) ∧ (pot v ≤ pot v ∧ pot v ≤ pot (fL_comes o1 y4 p2 v) ∧ pot (fL_comes o1 y4 p2 v) ≤ pot (fL_acts o1 p1 p2 v)))))) ∧ (¬ (((fX10_tools o1 v) : Int32) < 2) → ((oX10_blocks o1 v) ∧ (((((fX10_blocks o1 v) : Int32) < 3) → ((((2 : Int32) ≤ (fX10_tools o1 v)) → (((3 : Int32) ≤ (fX10_blocks o1 v)) → (oX10_types o1 v))) ∧ (∀ (y13 : Int32), y13 = ((if (2 : Int32) ≤ (fX10_tools o1 v) then (if (3 : Int32) ≤ (fX10_blocks o1 v) then (if (2 : Int32) ≤ (fX10_types o1 v) then ((fL_low p1 80) - (fL_low p1 80) / (6 : Int32) * (6 : Int32)) else 2) else 1) else 0 : Int32) : Int32) → ((oL_comes o1 y13 p2 v) ∧ (pot v ≤ pot v ∧ pot v ≤ pot (fL_comes o1 y13 p2 v) ∧ pot (fL_comes o1 y13 p2 v) ≤ pot (fL_acts o1 p1 p2 v)))))) ∧ (¬ (((fX10_blocks o1 v) : Int32) < 3) → ((oX10_types o1 v) ∧ (((((fX10_types o1 v) : Int32) < 2) → ((∀ (y22 : Int32), y22 = ((if (2 : Int32) ≤ (fX10_tools o1 v) then (if (3 : Int32) ≤ (fX10_blocks o1 v) then (if (2 : Int32) ≤ (fX10_types o1 v) then ((fL_low p1 80) - (fL_low p1 80) / (6 : Int32) * (6 : Int32)) else 2) else 1) else 0 : Int32) : Int32) → ((oL_comes o1 y22 p2 v) ∧ (pot v ≤ pot v ∧ pot v ≤ pot (fL_comes o1 y22 p2 v) ∧ pot (fL_comes o1 y22 p2 v) ≤ pot (fL_acts o1 p1 p2 v)))))) ∧ (¬ (((fX10_types o1 v) : Int32) < 2) → ((((10 : Int32) ≤ (fL_low p1 80)) → ((((22 : Int32) ≤ (fL_low p1 80)) → ((((44 : Int32) ≤ (fL_low p1 80)) → ((((62 : Int32) ≤ (fL_low p1 80)) → ((((68 : Int32) ≤ (fL_low p1 80)) → ((((71 : Int32) ≤ (fL_low p1 80)) → ((((73 : Int32) ≤ (fL_low p1 80)) → ((oL_reads o1 p2 v) ∧ (pot v ≤ pot v ∧ pot v ≤ pot (fL_reads o1 p2 v) ∧ pot (fL_reads o1 p2 v) ≤ pot (fL_acts o1 p1 p2 v)))) ∧ (¬ ((73 : Int32) ≤ (fL_low p1 80)) → ((oL_moves o1 3 p2 v) ∧ (pot v ≤ pot v ∧ pot v ≤ pot (fL_moves o1 3 p2 v) ∧ pot (fL_moves o1 3 p2 v) ≤ pot (fL_acts o1 p1 p2 v)))))) ∧ (¬ ((71 : Int32) ≤ (fL_low p1 80)) → ((oL_moves o1 2 p2 v) ∧ (pot v ≤ pot v ∧ pot v ≤ pot (fL_moves o1 2 p2 v) ∧ pot (fL_moves o1 2 p2 v) ≤ pot (fL_acts o1 p1 p2 v)))))) ∧ (¬ ((68 : Int32) ≤ (fL_low p1 80)) → ((oL_moves o1 1 p2 v) ∧ (pot v ≤ pot v ∧ pot v ≤ pot (fL_moves o1 1 p2 v) ∧ pot (fL_moves o1 1 p2 v) ≤ pot (fL_acts o1 p1 p2 v)))))) ∧ (¬ ((62 : Int32) ≤ (fL_low p1 80)) → ((oL_judges o1 p2 v) ∧ (pot v ≤ pot v ∧ pot v ≤ pot (fL_judges o1 p2 v) ∧ pot (fL_judges o1 p2 v) ≤ pot (fL_acts o1 p1 p2 v)))))) ∧ (¬ ((44 : Int32) ≤ (fL_low p1 80)) → ((oL_moves o1 0 p2 v) ∧ (pot v ≤ pot v ∧ pot v ≤ pot (fL_moves o1 0 p2 v) ∧ pot (fL_moves o1 0 p2 v) ≤ pot (fL_acts o1 p1 p2 v)))))) ∧ (¬ ((22 : Int32) ≤ (fL_low p1 80)) → ((oL_uses o1 p2 v) ∧ (pot v ≤ pot v ∧ pot v ≤ pot (fL_uses o1 p2 v) ∧ pot (fL_uses o1 p2 v) ≤ pot (fL_acts o1 p1 p2 v)))))) ∧ (¬ ((10 : Int32) ≤ (fL_low p1 80)) → ((∀ (y71 : Int32), y71 = ((if (2 : Int32) ≤ (fX10_tools o1 v) then (if (3 : Int32) ≤ (fX10_blocks o1 v) then (if (2 : Int32) ≤ (fX10_types o1 v) then ((fL_low p1 80) - (fL_low p1 80) / (6 : Int32) * (6 : Int32)) else 2) else 1) else 0 : Int32) : Int32) → ((oL_comes o1 y71 p2 v) ∧ (pot v ≤ pot v ∧ pot v ≤ pot (fL_comes o1 y71 p2 v) ∧ pot (fL_comes o1 y71 p2 v) ≤ pot (fL_acts o1 p1 p2 v))))))))))))))))
abbrev rmL_acts (o1 : Nat) (p1 : Int32) (p2 : Int32) (v : vSt) : Room := { frames := 11, cells := kkL_acts o1 p1 p2 v, slots := kkL_acts o1 p1 p2 v, locals := 304 }
theorem dL_acts_0 : decode cL_acts 0 = .ok (.iload_n 1, 1) := by decide +kernel
theorem dL_acts_1 : decode cL_acts 1 = .ok (.bipush 80, 2) := by decide +kernel
theorem dL_acts_3 : decode cL_acts 3 = .ok (.invokestatic 250, 3) := by decide +kernel
theorem dL_acts_6 : decode cL_acts 6 = .ok (.istore_n 3, 1) := by decide +kernel
theorem dL_acts_7 : decode cL_acts 7 = .ok (.aload_n 0, 1) := by decide +kernel
theorem dL_acts_8 : decode cL_acts 8 = .ok (.invokevirtual 230, 3) := by decide +kernel
theorem dL_acts_11 : decode cL_acts 11 = .ok (.iconst 2, 1) := by decide +kernel
theorem dL_acts_12 : decode cL_acts 12 = .ok (.if_icmp .lt 25, 3) := by decide +kernel
theorem dL_acts_15 : decode cL_acts 15 = .ok (.aload_n 0, 1) := by decide +kernel
theorem dL_acts_16 : decode cL_acts 16 = .ok (.invokevirtual 233, 3) := by decide +kernel
theorem dL_acts_19 : decode cL_acts 19 = .ok (.iconst 3, 1) := by decide +kernel
theorem dL_acts_20 : decode cL_acts 20 = .ok (.if_icmp .lt 17, 3) := by decide +kernel
theorem dL_acts_23 : decode cL_acts 23 = .ok (.aload_n 0, 1) := by decide +kernel
theorem dL_acts_24 : decode cL_acts 24 = .ok (.invokevirtual 236, 3) := by decide +kernel
theorem dL_acts_27 : decode cL_acts 27 = .ok (.iconst 2, 1) := by decide +kernel
theorem dL_acts_28 : decode cL_acts 28 = .ok (.if_icmp .lt 9, 3) := by decide +kernel
theorem dL_acts_31 : decode cL_acts 31 = .ok (.iload_n 3, 1) := by decide +kernel
theorem dL_acts_32 : decode cL_acts 32 = .ok (.bipush 10, 2) := by decide +kernel
theorem dL_acts_34 : decode cL_acts 34 = .ok (.if_icmp .ge 49, 3) := by decide +kernel
theorem dL_acts_37 : decode cL_acts 37 = .ok (.aload_n 0, 1) := by decide +kernel
theorem dL_acts_38 : decode cL_acts 38 = .ok (.aload_n 0, 1) := by decide +kernel
theorem dL_acts_39 : decode cL_acts 39 = .ok (.invokevirtual 230, 3) := by decide +kernel
theorem dL_acts_42 : decode cL_acts 42 = .ok (.iconst 2, 1) := by decide +kernel
theorem dL_acts_43 : decode cL_acts 43 = .ok (.if_icmp .ge 7, 3) := by decide +kernel
theorem dL_acts_46 : decode cL_acts 46 = .ok (.iconst 0, 1) := by decide +kernel
theorem dL_acts_47 : decode cL_acts 47 = .ok (.goto 31, 3) := by decide +kernel
theorem dL_acts_50 : decode cL_acts 50 = .ok (.aload_n 0, 1) := by decide +kernel
theorem dL_acts_51 : decode cL_acts 51 = .ok (.invokevirtual 233, 3) := by decide +kernel
theorem dL_acts_54 : decode cL_acts 54 = .ok (.iconst 3, 1) := by decide +kernel
theorem dL_acts_55 : decode cL_acts 55 = .ok (.if_icmp .ge 7, 3) := by decide +kernel
theorem dL_acts_58 : decode cL_acts 58 = .ok (.iconst 1, 1) := by decide +kernel
theorem dL_acts_59 : decode cL_acts 59 = .ok (.goto 19, 3) := by decide +kernel
theorem dL_acts_62 : decode cL_acts 62 = .ok (.aload_n 0, 1) := by decide +kernel
theorem dL_acts_63 : decode cL_acts 63 = .ok (.invokevirtual 236, 3) := by decide +kernel
theorem dL_acts_66 : decode cL_acts 66 = .ok (.iconst 2, 1) := by decide +kernel
theorem dL_acts_67 : decode cL_acts 67 = .ok (.if_icmp .ge 7, 3) := by decide +kernel
theorem dL_acts_70 : decode cL_acts 70 = .ok (.iconst 2, 1) := by decide +kernel
theorem dL_acts_71 : decode cL_acts 71 = .ok (.goto 7, 3) := by decide +kernel
theorem dL_acts_74 : decode cL_acts 74 = .ok (.iload_n 3, 1) := by decide +kernel
theorem dL_acts_75 : decode cL_acts 75 = .ok (.bipush 6, 2) := by decide +kernel
theorem dL_acts_77 : decode cL_acts 77 = .ok (.irem, 1) := by decide +kernel
theorem dL_acts_78 : decode cL_acts 78 = .ok (.iload_n 2, 1) := by decide +kernel
theorem dL_acts_79 : decode cL_acts 79 = .ok (.invokestatic 369, 3) := by decide +kernel
theorem dL_acts_82 : decode cL_acts 82 = .ok (.ireturn, 1) := by decide +kernel
theorem dL_acts_83 : decode cL_acts 83 = .ok (.iload_n 3, 1) := by decide +kernel
theorem dL_acts_84 : decode cL_acts 84 = .ok (.bipush 22, 2) := by decide +kernel
theorem dL_acts_86 : decode cL_acts 86 = .ok (.if_icmp .ge 11, 3) := by decide +kernel
theorem dL_acts_89 : decode cL_acts 89 = .ok (.aload_n 0, 1) := by decide +kernel
theorem dL_acts_90 : decode cL_acts 90 = .ok (.iload_n 2, 1) := by decide +kernel
theorem dL_acts_91 : decode cL_acts 91 = .ok (.invokestatic 372, 3) := by decide +kernel
theorem dL_acts_94 : decode cL_acts 94 = .ok (.goto 82, 3) := by decide +kernel
theorem dL_acts_97 : decode cL_acts 97 = .ok (.iload_n 3, 1) := by decide +kernel
theorem dL_acts_98 : decode cL_acts 98 = .ok (.bipush 44, 2) := by decide +kernel
theorem dL_acts_100 : decode cL_acts 100 = .ok (.if_icmp .ge 12, 3) := by decide +kernel
theorem dL_acts_103 : decode cL_acts 103 = .ok (.aload_n 0, 1) := by decide +kernel
theorem dL_acts_104 : decode cL_acts 104 = .ok (.iconst 0, 1) := by decide +kernel
theorem dL_acts_105 : decode cL_acts 105 = .ok (.iload_n 2, 1) := by decide +kernel
theorem dL_acts_106 : decode cL_acts 106 = .ok (.invokestatic 375, 3) := by decide +kernel
theorem dL_acts_109 : decode cL_acts 109 = .ok (.goto 67, 3) := by decide +kernel
theorem dL_acts_112 : decode cL_acts 112 = .ok (.iload_n 3, 1) := by decide +kernel
theorem dL_acts_113 : decode cL_acts 113 = .ok (.bipush 62, 2) := by decide +kernel
theorem dL_acts_115 : decode cL_acts 115 = .ok (.if_icmp .ge 11, 3) := by decide +kernel
theorem dL_acts_118 : decode cL_acts 118 = .ok (.aload_n 0, 1) := by decide +kernel
theorem dL_acts_119 : decode cL_acts 119 = .ok (.iload_n 2, 1) := by decide +kernel
theorem dL_acts_120 : decode cL_acts 120 = .ok (.invokestatic 378, 3) := by decide +kernel
theorem dL_acts_123 : decode cL_acts 123 = .ok (.goto 53, 3) := by decide +kernel
theorem dL_acts_126 : decode cL_acts 126 = .ok (.iload_n 3, 1) := by decide +kernel
theorem dL_acts_127 : decode cL_acts 127 = .ok (.bipush 68, 2) := by decide +kernel
theorem dL_acts_129 : decode cL_acts 129 = .ok (.if_icmp .ge 12, 3) := by decide +kernel
theorem dL_acts_132 : decode cL_acts 132 = .ok (.aload_n 0, 1) := by decide +kernel
theorem dL_acts_133 : decode cL_acts 133 = .ok (.iconst 1, 1) := by decide +kernel
theorem dL_acts_134 : decode cL_acts 134 = .ok (.iload_n 2, 1) := by decide +kernel
theorem dL_acts_135 : decode cL_acts 135 = .ok (.invokestatic 375, 3) := by decide +kernel
theorem dL_acts_138 : decode cL_acts 138 = .ok (.goto 38, 3) := by decide +kernel
theorem dL_acts_141 : decode cL_acts 141 = .ok (.iload_n 3, 1) := by decide +kernel
theorem dL_acts_142 : decode cL_acts 142 = .ok (.bipush 71, 2) := by decide +kernel
theorem dL_acts_144 : decode cL_acts 144 = .ok (.if_icmp .ge 12, 3) := by decide +kernel
theorem dL_acts_147 : decode cL_acts 147 = .ok (.aload_n 0, 1) := by decide +kernel
theorem dL_acts_148 : decode cL_acts 148 = .ok (.iconst 2, 1) := by decide +kernel
theorem dL_acts_149 : decode cL_acts 149 = .ok (.iload_n 2, 1) := by decide +kernel
theorem dL_acts_150 : decode cL_acts 150 = .ok (.invokestatic 375, 3) := by decide +kernel
theorem dL_acts_153 : decode cL_acts 153 = .ok (.goto 23, 3) := by decide +kernel
theorem dL_acts_156 : decode cL_acts 156 = .ok (.iload_n 3, 1) := by decide +kernel
theorem dL_acts_157 : decode cL_acts 157 = .ok (.bipush 73, 2) := by decide +kernel
theorem dL_acts_159 : decode cL_acts 159 = .ok (.if_icmp .ge 12, 3) := by decide +kernel
theorem dL_acts_162 : decode cL_acts 162 = .ok (.aload_n 0, 1) := by decide +kernel
theorem dL_acts_163 : decode cL_acts 163 = .ok (.iconst 3, 1) := by decide +kernel
theorem dL_acts_164 : decode cL_acts 164 = .ok (.iload_n 2, 1) := by decide +kernel
theorem dL_acts_165 : decode cL_acts 165 = .ok (.invokestatic 375, 3) := by decide +kernel
theorem dL_acts_168 : decode cL_acts 168 = .ok (.goto 8, 3) := by decide +kernel
theorem dL_acts_171 : decode cL_acts 171 = .ok (.aload_n 0, 1) := by decide +kernel
theorem dL_acts_172 : decode cL_acts 172 = .ok (.iload_n 2, 1) := by decide +kernel
theorem dL_acts_173 : decode cL_acts 173 = .ok (.invokestatic 381, 3) := by decide +kernel
theorem dL_acts_176 : decode cL_acts 176 = .ok (.ireturn, 1) := by decide +kernel
set_option maxHeartbeats 8000000 in
set_option maxRecDepth 100000 in
theorem mL_acts (l : Launch) (hst : l.stackTraces = false) (G : gG) (da : Nat → Nat) (v : vSt) (x : gX) (o1 : Nat) (hk_o1 : kd o1 = 10) (p1 : Int32) (p2 : Int32) (ho : oL_acts o1 p1 p2 v) : NI l yL_acts cL_acts 4 .boolean (rmL_acts o1 p1 p2 v) [.ref (ga G o1), .int p1, .int p2] G da v x (kkL_acts o1 p1 p2 v) (kkL_acts o1 p1 p2 v) 1 (fL_acts o1 p1 p2 v) := by
  refine gofNI (by decide) rfl (Nat.le_of_ble_eq_true rfl) (fun p e s m args below meth c ls Q X hN hH hl E => ?_)
  have hx := X.1
  have hb := X.2.1
  have hown := X.2.2.2.1
  have hts := X.2.2.2.2.1
  have hS : va_S (gA G) s.heap s.heap [] := va_S.rf
  have hkk : kkL_acts o1 p1 p2 v = pot (fL_acts o1 p1 p2 v) - pot v + 144 := rfl
  unfold oL_acts at ho
  have hl : lv_has ls 4 [(0, .ref (ga G o1)), (1, .int p1), (2, .int p2)] := hl
  refine lv_iload_n hx hb dL_acts_0 rfl (lv_at hl 1 rfl) ?_
  refine lv_bipush (v := 80) hx hb dL_acts_1 (by decide) ?_
  have hq1 := ho.1
  have ho := ho.2
  refine k_L_low X hS hq1 t_ml_VernierDrawersLaw_250 hl.1 (Nat.le_of_ble_eq_true rfl) ⟨Nat.le_of_ble_eq_true rfl, Nat.le_of_ble_eq_true rfl⟩ ⟨Nat.zero_le _, Nat.zero_le _⟩ dL_acts_3 ?_
  refine lv_istore_n (lv' := [(3, .int (fL_low p1 80)), (0, .ref (ga G o1)), (1, .int p1), (2, .int p2)]) hx hb dL_acts_6 rfl hl (by decide) rfl (fun ls hl => ?_)
  refine lv_aload_n hx hb dL_acts_7 rfl (lv_at hl 1 rfl) ?_
  have hq2 := ho.1
  have ho := ho.2
  refine k_X10_tools X hS hH hk_o1 hq2 t_ml_VernierDrawersLaw_230 hl.1 (Nat.le_of_ble_eq_true rfl) ⟨Nat.le_of_ble_eq_true rfl, Nat.le_of_ble_eq_true rfl⟩ ⟨Nat.zero_le _, Nat.zero_le _⟩ dL_acts_8 ?_
  refine lv_iconst (v := 2) hx hb dL_acts_11 (by decide) ?_
  refine lv_icmp_lt (tgt := 37) hx hb dL_acts_12 (by decide) (fun c3 => ?_) (fun c3 => ?_)
  · have ho := ho.1 c3
    refine lv_aload_n hx hb dL_acts_37 rfl (lv_at hl 1 rfl) ?_
    refine lv_aload_n hx hb dL_acts_38 rfl (lv_at hl 1 rfl) ?_
    refine k_X10_tools X hS hH hk_o1 hq2 t_ml_VernierDrawersLaw_230 hl.1 (Nat.le_of_ble_eq_true rfl) ⟨Nat.le_of_ble_eq_true rfl, Nat.le_of_ble_eq_true rfl⟩ ⟨Nat.zero_le _, Nat.zero_le _⟩ dL_acts_39 ?_
    refine lv_iconst (v := 2) hx hb dL_acts_42 (by decide) ?_
    have K5 : ∀ (y4 : Int32) (ls : Array Slot), y4 = (if (2 : Int32) ≤ (fX10_tools o1 v) then (if (3 : Int32) ≤ (fX10_blocks o1 v) then (if (2 : Int32) ≤ (fX10_types o1 v) then ((fL_low p1 80) - (fL_low p1 80) / (6 : Int32) * (6 : Int32)) else 2) else 1) else 0 : Int32) → lv_has ls 4 [(2, .int p2)] → W p l e (rmL_acts o1 p1 p2 v) s m args below meth c s.heap [] 0 0 Q (F0 m 78 ls [.int y4, .ref (ga G o1)]) := by
      intro y4 ls ey4 hl
      have ho := ho.2 y4 ey4
      refine lv_iload_n hx hb dL_acts_78 rfl (lv_at hl 0 rfl) ?_
      have hq6 := ho.1
      have ho := ho.2
      have hk7 : kkL_comes o1 y4 p2 v = pot (fL_comes o1 y4 p2 v) - pot v + 42 := rfl
      have hq8 := ho
      refine k_L_comes hst X hS hN hH hk_o1 hq6 t_ml_VernierDrawersLaw_369 hl.1 (Nat.le_of_ble_eq_true rfl) ⟨Nat.le_of_ble_eq_true rfl, Nat.le_of_ble_eq_true rfl⟩ ⟨(show 0 + kkL_comes o1 y4 p2 v ≤ kkL_acts o1 p1 p2 v by omega), (show 0 + kkL_comes o1 y4 p2 v ≤ kkL_acts o1 p1 p2 v by omega)⟩ dL_acts_79 (fun da H locs v9 ev9 hH hS => ?_)
      have hp10 : pot v9 = pot (fL_comes o1 y4 p2 v) := by rw [ev9]
      refine W.widen (k := ((pot v9 - pot v) + 42)) (n := ((pot v9 - pot v) + 42)) (by omega) (by omega) ?_
      have hHz := hH
      have hSz := hS
      have hFz : fL_acts o1 p1 p2 v = v9 := by
        refine (fL_acts.eq_1 _ _ _ _).trans ?_
        dsimp only
        try rw [← ey4]
        try rw [← ev9]
        all_goals rw [if_pos c3]
      exact E _ _ _ _ _ _ _ _ _ dL_acts_82 rfl rfl (Eq.symm hFz) hHz hSz (show ((pot v9 - pot v) + 42) ≤ kkL_acts o1 p1 p2 v by omega) (show ((pot v9 - pot v) + 42) ≤ kkL_acts o1 p1 p2 v by omega)
    have ho := ho.1
    refine lv_icmp_ge (tgt := 50) hx hb dL_acts_43 (by decide) (fun c5 => ?_) (fun c5 => ?_)
    · have ho := ho c5
      refine lv_aload_n hx hb dL_acts_50 rfl (lv_at hl 1 rfl) ?_
      have hq6 := ho.1
      have ho := ho.2
      refine k_X10_blocks X hS hH hk_o1 hq6 t_ml_VernierDrawersLaw_233 hl.1 (Nat.le_of_ble_eq_true rfl) ⟨Nat.le_of_ble_eq_true rfl, Nat.le_of_ble_eq_true rfl⟩ ⟨Nat.zero_le _, Nat.zero_le _⟩ dL_acts_51 ?_
      refine lv_iconst (v := 3) hx hb dL_acts_54 (by decide) ?_
      refine lv_icmp_ge (tgt := 62) hx hb dL_acts_55 (by decide) (fun c7 => ?_) (fun c7 => ?_)
      · have ho := ho c7
        refine lv_aload_n hx hb dL_acts_62 rfl (lv_at hl 1 rfl) ?_
        have hq8 := ho
        refine k_X10_types X hS hH hk_o1 hq8 t_ml_VernierDrawersLaw_236 hl.1 (Nat.le_of_ble_eq_true rfl) ⟨Nat.le_of_ble_eq_true rfl, Nat.le_of_ble_eq_true rfl⟩ ⟨Nat.zero_le _, Nat.zero_le _⟩ dL_acts_63 ?_
        refine lv_iconst (v := 2) hx hb dL_acts_66 (by decide) ?_
        refine lv_icmp_ge (tgt := 74) hx hb dL_acts_67 (by decide) (fun c9 => ?_) (fun c9 => ?_)
        · skip
          refine lv_iload_n hx hb dL_acts_74 rfl (lv_at hl 0 rfl) ?_
          refine lv_bipush (v := 6) hx hb dL_acts_75 (by decide) ?_
          refine lv_irem hx hb dL_acts_77 (by decide) ?_
          have hlz := hl
          exact K5 _ _ (Eq.symm ((if_pos c5).trans ((if_pos c7).trans ((if_pos c9).trans rfl)))) (lv_sub hlz [3] rfl)
        · skip
          refine lv_iconst (v := 2) hx hb dL_acts_70 (by decide) ?_
          refine lv_goto (tgt := 78) hx hb dL_acts_71 (by decide) ?_
          have hlz := hl
          exact K5 _ _ (Eq.symm ((if_pos c5).trans ((if_pos c7).trans ((if_neg c9).trans rfl)))) (lv_sub hlz [3] rfl)
      · skip
        refine lv_iconst (v := 1) hx hb dL_acts_58 (by decide) ?_
        refine lv_goto (tgt := 78) hx hb dL_acts_59 (by decide) ?_
        have hlz := hl
        exact K5 _ _ (Eq.symm ((if_pos c5).trans ((if_neg c7).trans rfl))) (lv_sub hlz [3] rfl)
    · skip
      refine lv_iconst (v := 0) hx hb dL_acts_46 (by decide) ?_
      refine lv_goto (tgt := 78) hx hb dL_acts_47 (by decide) ?_
      have hlz := hl
      exact K5 _ _ (Eq.symm ((if_neg c5).trans rfl)) (lv_sub hlz [3] rfl)
  · have ho := ho.2 c3
    refine lv_aload_n hx hb dL_acts_15 rfl (lv_at hl 1 rfl) ?_
    have hq11 := ho.1
    have ho := ho.2
    refine k_X10_blocks X hS hH hk_o1 hq11 t_ml_VernierDrawersLaw_233 hl.1 (Nat.le_of_ble_eq_true rfl) ⟨Nat.le_of_ble_eq_true rfl, Nat.le_of_ble_eq_true rfl⟩ ⟨Nat.zero_le _, Nat.zero_le _⟩ dL_acts_16 ?_
    refine lv_iconst (v := 3) hx hb dL_acts_19 (by decide) ?_
    refine lv_icmp_lt (tgt := 37) hx hb dL_acts_20 (by decide) (fun c12 => ?_) (fun c12 => ?_)
    · have ho := ho.1 c12
      refine lv_aload_n hx hb dL_acts_37 rfl (lv_at hl 1 rfl) ?_
      refine lv_aload_n hx hb dL_acts_38 rfl (lv_at hl 1 rfl) ?_
      refine k_X10_tools X hS hH hk_o1 hq2 t_ml_VernierDrawersLaw_230 hl.1 (Nat.le_of_ble_eq_true rfl) ⟨Nat.le_of_ble_eq_true rfl, Nat.le_of_ble_eq_true rfl⟩ ⟨Nat.zero_le _, Nat.zero_le _⟩ dL_acts_39 ?_
      refine lv_iconst (v := 2) hx hb dL_acts_42 (by decide) ?_
      have K14 : ∀ (y13 : Int32) (ls : Array Slot), y13 = (if (2 : Int32) ≤ (fX10_tools o1 v) then (if (3 : Int32) ≤ (fX10_blocks o1 v) then (if (2 : Int32) ≤ (fX10_types o1 v) then ((fL_low p1 80) - (fL_low p1 80) / (6 : Int32) * (6 : Int32)) else 2) else 1) else 0 : Int32) → lv_has ls 4 [(2, .int p2)] → W p l e (rmL_acts o1 p1 p2 v) s m args below meth c s.heap [] 0 0 Q (F0 m 78 ls [.int y13, .ref (ga G o1)]) := by
        intro y13 ls ey13 hl
        have ho := ho.2 y13 ey13
        refine lv_iload_n hx hb dL_acts_78 rfl (lv_at hl 0 rfl) ?_
        have hq15 := ho.1
        have ho := ho.2
        have hk16 : kkL_comes o1 y13 p2 v = pot (fL_comes o1 y13 p2 v) - pot v + 42 := rfl
        have hq17 := ho
        refine k_L_comes hst X hS hN hH hk_o1 hq15 t_ml_VernierDrawersLaw_369 hl.1 (Nat.le_of_ble_eq_true rfl) ⟨Nat.le_of_ble_eq_true rfl, Nat.le_of_ble_eq_true rfl⟩ ⟨(show 0 + kkL_comes o1 y13 p2 v ≤ kkL_acts o1 p1 p2 v by omega), (show 0 + kkL_comes o1 y13 p2 v ≤ kkL_acts o1 p1 p2 v by omega)⟩ dL_acts_79 (fun da H locs v18 ev18 hH hS => ?_)
        have hp19 : pot v18 = pot (fL_comes o1 y13 p2 v) := by rw [ev18]
        refine W.widen (k := ((pot v18 - pot v) + 42)) (n := ((pot v18 - pot v) + 42)) (by omega) (by omega) ?_
        have hHz := hH
        have hSz := hS
        have hFz : fL_acts o1 p1 p2 v = v18 := by
          refine (fL_acts.eq_1 _ _ _ _).trans ?_
          dsimp only
          try rw [← ey13]
          try rw [← ev18]
          all_goals rw [if_neg c3]
          all_goals rw [if_pos c12]
        exact E _ _ _ _ _ _ _ _ _ dL_acts_82 rfl rfl (Eq.symm hFz) hHz hSz (show ((pot v18 - pot v) + 42) ≤ kkL_acts o1 p1 p2 v by omega) (show ((pot v18 - pot v) + 42) ≤ kkL_acts o1 p1 p2 v by omega)
      have ho := ho.1
      refine lv_icmp_ge (tgt := 50) hx hb dL_acts_43 (by decide) (fun c14 => ?_) (fun c14 => ?_)
      · have ho := ho c14
        refine lv_aload_n hx hb dL_acts_50 rfl (lv_at hl 1 rfl) ?_
        refine k_X10_blocks X hS hH hk_o1 hq11 t_ml_VernierDrawersLaw_233 hl.1 (Nat.le_of_ble_eq_true rfl) ⟨Nat.le_of_ble_eq_true rfl, Nat.le_of_ble_eq_true rfl⟩ ⟨Nat.zero_le _, Nat.zero_le _⟩ dL_acts_51 ?_
        refine lv_iconst (v := 3) hx hb dL_acts_54 (by decide) ?_
        refine lv_icmp_ge (tgt := 62) hx hb dL_acts_55 (by decide) (fun c15 => ?_) (fun c15 => ?_)
        · have ho := ho c15
          refine lv_aload_n hx hb dL_acts_62 rfl (lv_at hl 1 rfl) ?_
          have hq16 := ho
          refine k_X10_types X hS hH hk_o1 hq16 t_ml_VernierDrawersLaw_236 hl.1 (Nat.le_of_ble_eq_true rfl) ⟨Nat.le_of_ble_eq_true rfl, Nat.le_of_ble_eq_true rfl⟩ ⟨Nat.zero_le _, Nat.zero_le _⟩ dL_acts_63 ?_
          refine lv_iconst (v := 2) hx hb dL_acts_66 (by decide) ?_
          refine lv_icmp_ge (tgt := 74) hx hb dL_acts_67 (by decide) (fun c17 => ?_) (fun c17 => ?_)
          · skip
            refine lv_iload_n hx hb dL_acts_74 rfl (lv_at hl 0 rfl) ?_
            refine lv_bipush (v := 6) hx hb dL_acts_75 (by decide) ?_
            refine lv_irem hx hb dL_acts_77 (by decide) ?_
            have hlz := hl
            exact K14 _ _ (Eq.symm ((if_pos c14).trans ((if_pos c15).trans ((if_pos c17).trans rfl)))) (lv_sub hlz [3] rfl)
          · skip
            refine lv_iconst (v := 2) hx hb dL_acts_70 (by decide) ?_
            refine lv_goto (tgt := 78) hx hb dL_acts_71 (by decide) ?_
            have hlz := hl
            exact K14 _ _ (Eq.symm ((if_pos c14).trans ((if_pos c15).trans ((if_neg c17).trans rfl)))) (lv_sub hlz [3] rfl)
        · skip
          refine lv_iconst (v := 1) hx hb dL_acts_58 (by decide) ?_
          refine lv_goto (tgt := 78) hx hb dL_acts_59 (by decide) ?_
          have hlz := hl
          exact K14 _ _ (Eq.symm ((if_pos c14).trans ((if_neg c15).trans rfl))) (lv_sub hlz [3] rfl)
      · skip
        refine lv_iconst (v := 0) hx hb dL_acts_46 (by decide) ?_
        refine lv_goto (tgt := 78) hx hb dL_acts_47 (by decide) ?_
        have hlz := hl
        exact K14 _ _ (Eq.symm ((if_neg c14).trans rfl)) (lv_sub hlz [3] rfl)
    · have ho := ho.2 c12
      refine lv_aload_n hx hb dL_acts_23 rfl (lv_at hl 1 rfl) ?_
      have hq20 := ho.1
      have ho := ho.2
      refine k_X10_types X hS hH hk_o1 hq20 t_ml_VernierDrawersLaw_236 hl.1 (Nat.le_of_ble_eq_true rfl) ⟨Nat.le_of_ble_eq_true rfl, Nat.le_of_ble_eq_true rfl⟩ ⟨Nat.zero_le _, Nat.zero_le _⟩ dL_acts_24 ?_
      refine lv_iconst (v := 2) hx hb dL_acts_27 (by decide) ?_
      refine lv_icmp_lt (tgt := 37) hx hb dL_acts_28 (by decide) (fun c21 => ?_) (fun c21 => ?_)
      · have ho := ho.1 c21
        refine lv_aload_n hx hb dL_acts_37 rfl (lv_at hl 1 rfl) ?_
        refine lv_aload_n hx hb dL_acts_38 rfl (lv_at hl 1 rfl) ?_
        refine k_X10_tools X hS hH hk_o1 hq2 t_ml_VernierDrawersLaw_230 hl.1 (Nat.le_of_ble_eq_true rfl) ⟨Nat.le_of_ble_eq_true rfl, Nat.le_of_ble_eq_true rfl⟩ ⟨Nat.zero_le _, Nat.zero_le _⟩ dL_acts_39 ?_
        refine lv_iconst (v := 2) hx hb dL_acts_42 (by decide) ?_
        have K23 : ∀ (y22 : Int32) (ls : Array Slot), y22 = (if (2 : Int32) ≤ (fX10_tools o1 v) then (if (3 : Int32) ≤ (fX10_blocks o1 v) then (if (2 : Int32) ≤ (fX10_types o1 v) then ((fL_low p1 80) - (fL_low p1 80) / (6 : Int32) * (6 : Int32)) else 2) else 1) else 0 : Int32) → lv_has ls 4 [(2, .int p2)] → W p l e (rmL_acts o1 p1 p2 v) s m args below meth c s.heap [] 0 0 Q (F0 m 78 ls [.int y22, .ref (ga G o1)]) := by
          intro y22 ls ey22 hl
          have ho := ho y22 ey22
          refine lv_iload_n hx hb dL_acts_78 rfl (lv_at hl 0 rfl) ?_
          have hq24 := ho.1
          have ho := ho.2
          have hk25 : kkL_comes o1 y22 p2 v = pot (fL_comes o1 y22 p2 v) - pot v + 42 := rfl
          have hq26 := ho
          refine k_L_comes hst X hS hN hH hk_o1 hq24 t_ml_VernierDrawersLaw_369 hl.1 (Nat.le_of_ble_eq_true rfl) ⟨Nat.le_of_ble_eq_true rfl, Nat.le_of_ble_eq_true rfl⟩ ⟨(show 0 + kkL_comes o1 y22 p2 v ≤ kkL_acts o1 p1 p2 v by omega), (show 0 + kkL_comes o1 y22 p2 v ≤ kkL_acts o1 p1 p2 v by omega)⟩ dL_acts_79 (fun da H locs v27 ev27 hH hS => ?_)
          have hp28 : pot v27 = pot (fL_comes o1 y22 p2 v) := by rw [ev27]
          refine W.widen (k := ((pot v27 - pot v) + 42)) (n := ((pot v27 - pot v) + 42)) (by omega) (by omega) ?_
          have hHz := hH
          have hSz := hS
          have hFz : fL_acts o1 p1 p2 v = v27 := by
            refine (fL_acts.eq_1 _ _ _ _).trans ?_
            dsimp only
            try rw [← ey22]
            try rw [← ev27]
            all_goals rw [if_neg c3]
            all_goals rw [if_neg c12]
            all_goals rw [if_pos c21]
          exact E _ _ _ _ _ _ _ _ _ dL_acts_82 rfl rfl (Eq.symm hFz) hHz hSz (show ((pot v27 - pot v) + 42) ≤ kkL_acts o1 p1 p2 v by omega) (show ((pot v27 - pot v) + 42) ≤ kkL_acts o1 p1 p2 v by omega)
        refine lv_icmp_ge (tgt := 50) hx hb dL_acts_43 (by decide) (fun c23 => ?_) (fun c23 => ?_)
        · skip
          refine lv_aload_n hx hb dL_acts_50 rfl (lv_at hl 1 rfl) ?_
          refine k_X10_blocks X hS hH hk_o1 hq11 t_ml_VernierDrawersLaw_233 hl.1 (Nat.le_of_ble_eq_true rfl) ⟨Nat.le_of_ble_eq_true rfl, Nat.le_of_ble_eq_true rfl⟩ ⟨Nat.zero_le _, Nat.zero_le _⟩ dL_acts_51 ?_
          refine lv_iconst (v := 3) hx hb dL_acts_54 (by decide) ?_
          refine lv_icmp_ge (tgt := 62) hx hb dL_acts_55 (by decide) (fun c24 => ?_) (fun c24 => ?_)
          · skip
            refine lv_aload_n hx hb dL_acts_62 rfl (lv_at hl 1 rfl) ?_
            refine k_X10_types X hS hH hk_o1 hq20 t_ml_VernierDrawersLaw_236 hl.1 (Nat.le_of_ble_eq_true rfl) ⟨Nat.le_of_ble_eq_true rfl, Nat.le_of_ble_eq_true rfl⟩ ⟨Nat.zero_le _, Nat.zero_le _⟩ dL_acts_63 ?_
            refine lv_iconst (v := 2) hx hb dL_acts_66 (by decide) ?_
            refine lv_icmp_ge (tgt := 74) hx hb dL_acts_67 (by decide) (fun c25 => ?_) (fun c25 => ?_)
            · skip
              refine lv_iload_n hx hb dL_acts_74 rfl (lv_at hl 0 rfl) ?_
              refine lv_bipush (v := 6) hx hb dL_acts_75 (by decide) ?_
              refine lv_irem hx hb dL_acts_77 (by decide) ?_
              have hlz := hl
              exact K23 _ _ (Eq.symm ((if_pos c23).trans ((if_pos c24).trans ((if_pos c25).trans rfl)))) (lv_sub hlz [3] rfl)
            · skip
              refine lv_iconst (v := 2) hx hb dL_acts_70 (by decide) ?_
              refine lv_goto (tgt := 78) hx hb dL_acts_71 (by decide) ?_
              have hlz := hl
              exact K23 _ _ (Eq.symm ((if_pos c23).trans ((if_pos c24).trans ((if_neg c25).trans rfl)))) (lv_sub hlz [3] rfl)
          · skip
            refine lv_iconst (v := 1) hx hb dL_acts_58 (by decide) ?_
            refine lv_goto (tgt := 78) hx hb dL_acts_59 (by decide) ?_
            have hlz := hl
            exact K23 _ _ (Eq.symm ((if_pos c23).trans ((if_neg c24).trans rfl))) (lv_sub hlz [3] rfl)
        · skip
          refine lv_iconst (v := 0) hx hb dL_acts_46 (by decide) ?_
          refine lv_goto (tgt := 78) hx hb dL_acts_47 (by decide) ?_
          have hlz := hl
          exact K23 _ _ (Eq.symm ((if_neg c23).trans rfl)) (lv_sub hlz [3] rfl)
      · have ho := ho.2 c21
        refine lv_iload_n hx hb dL_acts_31 rfl (lv_at hl 0 rfl) ?_
        refine lv_bipush (v := 10) hx hb dL_acts_32 (by decide) ?_
        refine lv_icmp_ge (tgt := 83) hx hb dL_acts_34 (by decide) (fun c29 => ?_) (fun c29 => ?_)
        · have ho := ho.1 c29
          refine lv_iload_n hx hb dL_acts_83 rfl (lv_at hl 0 rfl) ?_
          refine lv_bipush (v := 22) hx hb dL_acts_84 (by decide) ?_
          refine lv_icmp_ge (tgt := 97) hx hb dL_acts_86 (by decide) (fun c30 => ?_) (fun c30 => ?_)
          · have ho := ho.1 c30
            refine lv_iload_n hx hb dL_acts_97 rfl (lv_at hl 0 rfl) ?_
            refine lv_bipush (v := 44) hx hb dL_acts_98 (by decide) ?_
            refine lv_icmp_ge (tgt := 112) hx hb dL_acts_100 (by decide) (fun c31 => ?_) (fun c31 => ?_)
            · have ho := ho.1 c31
              refine lv_iload_n hx hb dL_acts_112 rfl (lv_at hl 0 rfl) ?_
              refine lv_bipush (v := 62) hx hb dL_acts_113 (by decide) ?_
              refine lv_icmp_ge (tgt := 126) hx hb dL_acts_115 (by decide) (fun c32 => ?_) (fun c32 => ?_)
              · have ho := ho.1 c32
                refine lv_iload_n hx hb dL_acts_126 rfl (lv_at hl 0 rfl) ?_
                refine lv_bipush (v := 68) hx hb dL_acts_127 (by decide) ?_
                refine lv_icmp_ge (tgt := 141) hx hb dL_acts_129 (by decide) (fun c33 => ?_) (fun c33 => ?_)
                · have ho := ho.1 c33
                  refine lv_iload_n hx hb dL_acts_141 rfl (lv_at hl 0 rfl) ?_
                  refine lv_bipush (v := 71) hx hb dL_acts_142 (by decide) ?_
                  refine lv_icmp_ge (tgt := 156) hx hb dL_acts_144 (by decide) (fun c34 => ?_) (fun c34 => ?_)
                  · have ho := ho.1 c34
                    refine lv_iload_n hx hb dL_acts_156 rfl (lv_at hl 0 rfl) ?_
                    refine lv_bipush (v := 73) hx hb dL_acts_157 (by decide) ?_
                    refine lv_icmp_ge (tgt := 171) hx hb dL_acts_159 (by decide) (fun c35 => ?_) (fun c35 => ?_)
                    · have ho := ho.1 c35
                      refine lv_aload_n hx hb dL_acts_171 rfl (lv_at hl 1 rfl) ?_
                      refine lv_iload_n hx hb dL_acts_172 rfl (lv_at hl 3 rfl) ?_
                      have hq36 := ho.1
                      have ho := ho.2
                      have hk37 : kkL_reads o1 p2 v = pot (fL_reads o1 p2 v) - pot v + 144 := rfl
                      have hq38 := ho
                      refine k_L_reads hst X hS hN hH hk_o1 hq36 t_ml_VernierDrawersLaw_381 hl.1 (Nat.le_of_ble_eq_true rfl) ⟨Nat.le_of_ble_eq_true rfl, Nat.le_of_ble_eq_true rfl⟩ ⟨(show 0 + kkL_reads o1 p2 v ≤ kkL_acts o1 p1 p2 v by omega), (show 0 + kkL_reads o1 p2 v ≤ kkL_acts o1 p1 p2 v by omega)⟩ dL_acts_173 (fun da H locs v39 ev39 hH hS => ?_)
                      have hp40 : pot v39 = pot (fL_reads o1 p2 v) := by rw [ev39]
                      refine W.widen (k := ((pot v39 - pot v) + 144)) (n := ((pot v39 - pot v) + 144)) (by omega) (by omega) ?_
                      have hHz := hH
                      have hSz := hS
                      have hFz : fL_acts o1 p1 p2 v = v39 := by
                        refine (fL_acts.eq_1 _ _ _ _).trans ?_
                        dsimp only
                        try rw [← ev39]
                        all_goals rw [if_neg c3]
                        all_goals rw [if_neg c12]
                        all_goals rw [if_neg c21]
                        all_goals rw [if_pos c29]
                        all_goals rw [if_pos c30]
                        all_goals rw [if_pos c31]
                        all_goals rw [if_pos c32]
                        all_goals rw [if_pos c33]
                        all_goals rw [if_pos c34]
                        all_goals rw [if_pos c35]
                      exact E _ _ _ _ _ _ _ _ _ dL_acts_176 rfl rfl (Eq.symm hFz) hHz hSz (show ((pot v39 - pot v) + 144) ≤ kkL_acts o1 p1 p2 v by omega) (show ((pot v39 - pot v) + 144) ≤ kkL_acts o1 p1 p2 v by omega)
                    · have ho := ho.2 c35
                      refine lv_aload_n hx hb dL_acts_162 rfl (lv_at hl 1 rfl) ?_
                      refine lv_iconst (v := 3) hx hb dL_acts_163 (by decide) ?_
                      refine lv_iload_n hx hb dL_acts_164 rfl (lv_at hl 3 rfl) ?_
                      have hq41 := ho.1
                      have ho := ho.2
                      have hk42 : kkL_moves o1 3 p2 v = pot (fL_moves o1 3 p2 v) - pot v + 36 := rfl
                      have hq43 := ho
                      refine k_L_moves hst X hS hN hH hk_o1 hq41 t_ml_VernierDrawersLaw_375 hl.1 (Nat.le_of_ble_eq_true rfl) ⟨Nat.le_of_ble_eq_true rfl, Nat.le_of_ble_eq_true rfl⟩ ⟨(show 0 + kkL_moves o1 3 p2 v ≤ kkL_acts o1 p1 p2 v by omega), (show 0 + kkL_moves o1 3 p2 v ≤ kkL_acts o1 p1 p2 v by omega)⟩ dL_acts_165 (fun da H locs v44 ev44 hH hS => ?_)
                      have hp45 : pot v44 = pot (fL_moves o1 3 p2 v) := by rw [ev44]
                      refine W.widen (k := ((pot v44 - pot v) + 36)) (n := ((pot v44 - pot v) + 36)) (by omega) (by omega) ?_
                      refine lv_goto (tgt := 176) hx hb dL_acts_168 (by decide) ?_
                      have hHz := hH
                      have hSz := hS
                      have hFz : fL_acts o1 p1 p2 v = v44 := by
                        refine (fL_acts.eq_1 _ _ _ _).trans ?_
                        dsimp only
                        try rw [← ev44]
                        all_goals rw [if_neg c3]
                        all_goals rw [if_neg c12]
                        all_goals rw [if_neg c21]
                        all_goals rw [if_pos c29]
                        all_goals rw [if_pos c30]
                        all_goals rw [if_pos c31]
                        all_goals rw [if_pos c32]
                        all_goals rw [if_pos c33]
                        all_goals rw [if_pos c34]
                        all_goals rw [if_neg c35]
                      exact E _ _ _ _ _ _ _ _ _ dL_acts_176 rfl rfl (Eq.symm hFz) hHz hSz (show ((pot v44 - pot v) + 36) ≤ kkL_acts o1 p1 p2 v by omega) (show ((pot v44 - pot v) + 36) ≤ kkL_acts o1 p1 p2 v by omega)
                  · have ho := ho.2 c34
                    refine lv_aload_n hx hb dL_acts_147 rfl (lv_at hl 1 rfl) ?_
                    refine lv_iconst (v := 2) hx hb dL_acts_148 (by decide) ?_
                    refine lv_iload_n hx hb dL_acts_149 rfl (lv_at hl 3 rfl) ?_
                    have hq46 := ho.1
                    have ho := ho.2
                    have hk47 : kkL_moves o1 2 p2 v = pot (fL_moves o1 2 p2 v) - pot v + 36 := rfl
                    have hq48 := ho
                    refine k_L_moves hst X hS hN hH hk_o1 hq46 t_ml_VernierDrawersLaw_375 hl.1 (Nat.le_of_ble_eq_true rfl) ⟨Nat.le_of_ble_eq_true rfl, Nat.le_of_ble_eq_true rfl⟩ ⟨(show 0 + kkL_moves o1 2 p2 v ≤ kkL_acts o1 p1 p2 v by omega), (show 0 + kkL_moves o1 2 p2 v ≤ kkL_acts o1 p1 p2 v by omega)⟩ dL_acts_150 (fun da H locs v49 ev49 hH hS => ?_)
                    have hp50 : pot v49 = pot (fL_moves o1 2 p2 v) := by rw [ev49]
                    refine W.widen (k := ((pot v49 - pot v) + 36)) (n := ((pot v49 - pot v) + 36)) (by omega) (by omega) ?_
                    refine lv_goto (tgt := 176) hx hb dL_acts_153 (by decide) ?_
                    have hHz := hH
                    have hSz := hS
                    have hFz : fL_acts o1 p1 p2 v = v49 := by
                      refine (fL_acts.eq_1 _ _ _ _).trans ?_
                      dsimp only
                      try rw [← ev49]
                      all_goals rw [if_neg c3]
                      all_goals rw [if_neg c12]
                      all_goals rw [if_neg c21]
                      all_goals rw [if_pos c29]
                      all_goals rw [if_pos c30]
                      all_goals rw [if_pos c31]
                      all_goals rw [if_pos c32]
                      all_goals rw [if_pos c33]
                      all_goals rw [if_neg c34]
                    exact E _ _ _ _ _ _ _ _ _ dL_acts_176 rfl rfl (Eq.symm hFz) hHz hSz (show ((pot v49 - pot v) + 36) ≤ kkL_acts o1 p1 p2 v by omega) (show ((pot v49 - pot v) + 36) ≤ kkL_acts o1 p1 p2 v by omega)
                · have ho := ho.2 c33
                  refine lv_aload_n hx hb dL_acts_132 rfl (lv_at hl 1 rfl) ?_
                  refine lv_iconst (v := 1) hx hb dL_acts_133 (by decide) ?_
                  refine lv_iload_n hx hb dL_acts_134 rfl (lv_at hl 3 rfl) ?_
                  have hq51 := ho.1
                  have ho := ho.2
                  have hk52 : kkL_moves o1 1 p2 v = pot (fL_moves o1 1 p2 v) - pot v + 36 := rfl
                  have hq53 := ho
                  refine k_L_moves hst X hS hN hH hk_o1 hq51 t_ml_VernierDrawersLaw_375 hl.1 (Nat.le_of_ble_eq_true rfl) ⟨Nat.le_of_ble_eq_true rfl, Nat.le_of_ble_eq_true rfl⟩ ⟨(show 0 + kkL_moves o1 1 p2 v ≤ kkL_acts o1 p1 p2 v by omega), (show 0 + kkL_moves o1 1 p2 v ≤ kkL_acts o1 p1 p2 v by omega)⟩ dL_acts_135 (fun da H locs v54 ev54 hH hS => ?_)
                  have hp55 : pot v54 = pot (fL_moves o1 1 p2 v) := by rw [ev54]
                  refine W.widen (k := ((pot v54 - pot v) + 36)) (n := ((pot v54 - pot v) + 36)) (by omega) (by omega) ?_
                  refine lv_goto (tgt := 176) hx hb dL_acts_138 (by decide) ?_
                  have hHz := hH
                  have hSz := hS
                  have hFz : fL_acts o1 p1 p2 v = v54 := by
                    refine (fL_acts.eq_1 _ _ _ _).trans ?_
                    dsimp only
                    try rw [← ev54]
                    all_goals rw [if_neg c3]
                    all_goals rw [if_neg c12]
                    all_goals rw [if_neg c21]
                    all_goals rw [if_pos c29]
                    all_goals rw [if_pos c30]
                    all_goals rw [if_pos c31]
                    all_goals rw [if_pos c32]
                    all_goals rw [if_neg c33]
                  exact E _ _ _ _ _ _ _ _ _ dL_acts_176 rfl rfl (Eq.symm hFz) hHz hSz (show ((pot v54 - pot v) + 36) ≤ kkL_acts o1 p1 p2 v by omega) (show ((pot v54 - pot v) + 36) ≤ kkL_acts o1 p1 p2 v by omega)
              · have ho := ho.2 c32
                refine lv_aload_n hx hb dL_acts_118 rfl (lv_at hl 1 rfl) ?_
                refine lv_iload_n hx hb dL_acts_119 rfl (lv_at hl 3 rfl) ?_
                have hq56 := ho.1
                have ho := ho.2
                have hk57 : kkL_judges o1 p2 v = pot (fL_judges o1 p2 v) - pot v + 54 := rfl
                have hq58 := ho
                refine k_L_judges hst X hS hN hH hk_o1 hq56 t_ml_VernierDrawersLaw_378 hl.1 (Nat.le_of_ble_eq_true rfl) ⟨Nat.le_of_ble_eq_true rfl, Nat.le_of_ble_eq_true rfl⟩ ⟨(show 0 + kkL_judges o1 p2 v ≤ kkL_acts o1 p1 p2 v by omega), (show 0 + kkL_judges o1 p2 v ≤ kkL_acts o1 p1 p2 v by omega)⟩ dL_acts_120 (fun da H locs v59 ev59 hH hS => ?_)
                have hp60 : pot v59 = pot (fL_judges o1 p2 v) := by rw [ev59]
                refine W.widen (k := ((pot v59 - pot v) + 54)) (n := ((pot v59 - pot v) + 54)) (by omega) (by omega) ?_
                refine lv_goto (tgt := 176) hx hb dL_acts_123 (by decide) ?_
                have hHz := hH
                have hSz := hS
                have hFz : fL_acts o1 p1 p2 v = v59 := by
                  refine (fL_acts.eq_1 _ _ _ _).trans ?_
                  dsimp only
                  try rw [← ev59]
                  all_goals rw [if_neg c3]
                  all_goals rw [if_neg c12]
                  all_goals rw [if_neg c21]
                  all_goals rw [if_pos c29]
                  all_goals rw [if_pos c30]
                  all_goals rw [if_pos c31]
                  all_goals rw [if_neg c32]
                exact E _ _ _ _ _ _ _ _ _ dL_acts_176 rfl rfl (Eq.symm hFz) hHz hSz (show ((pot v59 - pot v) + 54) ≤ kkL_acts o1 p1 p2 v by omega) (show ((pot v59 - pot v) + 54) ≤ kkL_acts o1 p1 p2 v by omega)
            · have ho := ho.2 c31
              refine lv_aload_n hx hb dL_acts_103 rfl (lv_at hl 1 rfl) ?_
              refine lv_iconst (v := 0) hx hb dL_acts_104 (by decide) ?_
              refine lv_iload_n hx hb dL_acts_105 rfl (lv_at hl 3 rfl) ?_
              have hq61 := ho.1
              have ho := ho.2
              have hk62 : kkL_moves o1 0 p2 v = pot (fL_moves o1 0 p2 v) - pot v + 36 := rfl
              have hq63 := ho
              refine k_L_moves hst X hS hN hH hk_o1 hq61 t_ml_VernierDrawersLaw_375 hl.1 (Nat.le_of_ble_eq_true rfl) ⟨Nat.le_of_ble_eq_true rfl, Nat.le_of_ble_eq_true rfl⟩ ⟨(show 0 + kkL_moves o1 0 p2 v ≤ kkL_acts o1 p1 p2 v by omega), (show 0 + kkL_moves o1 0 p2 v ≤ kkL_acts o1 p1 p2 v by omega)⟩ dL_acts_106 (fun da H locs v64 ev64 hH hS => ?_)
              have hp65 : pot v64 = pot (fL_moves o1 0 p2 v) := by rw [ev64]
              refine W.widen (k := ((pot v64 - pot v) + 36)) (n := ((pot v64 - pot v) + 36)) (by omega) (by omega) ?_
              refine lv_goto (tgt := 176) hx hb dL_acts_109 (by decide) ?_
              have hHz := hH
              have hSz := hS
              have hFz : fL_acts o1 p1 p2 v = v64 := by
                refine (fL_acts.eq_1 _ _ _ _).trans ?_
                dsimp only
                try rw [← ev64]
                all_goals rw [if_neg c3]
                all_goals rw [if_neg c12]
                all_goals rw [if_neg c21]
                all_goals rw [if_pos c29]
                all_goals rw [if_pos c30]
                all_goals rw [if_neg c31]
              exact E _ _ _ _ _ _ _ _ _ dL_acts_176 rfl rfl (Eq.symm hFz) hHz hSz (show ((pot v64 - pot v) + 36) ≤ kkL_acts o1 p1 p2 v by omega) (show ((pot v64 - pot v) + 36) ≤ kkL_acts o1 p1 p2 v by omega)
          · have ho := ho.2 c30
            refine lv_aload_n hx hb dL_acts_89 rfl (lv_at hl 1 rfl) ?_
            refine lv_iload_n hx hb dL_acts_90 rfl (lv_at hl 3 rfl) ?_
            have hq66 := ho.1
            have ho := ho.2
            have hk67 : kkL_uses o1 p2 v = pot (fL_uses o1 p2 v) - pot v + 54 := rfl
            have hq68 := ho
            refine k_L_uses hst X hS hN hH hk_o1 hq66 t_ml_VernierDrawersLaw_372 hl.1 (Nat.le_of_ble_eq_true rfl) ⟨Nat.le_of_ble_eq_true rfl, Nat.le_of_ble_eq_true rfl⟩ ⟨(show 0 + kkL_uses o1 p2 v ≤ kkL_acts o1 p1 p2 v by omega), (show 0 + kkL_uses o1 p2 v ≤ kkL_acts o1 p1 p2 v by omega)⟩ dL_acts_91 (fun da H locs v69 ev69 hH hS => ?_)
            have hp70 : pot v69 = pot (fL_uses o1 p2 v) := by rw [ev69]
            refine W.widen (k := ((pot v69 - pot v) + 54)) (n := ((pot v69 - pot v) + 54)) (by omega) (by omega) ?_
            refine lv_goto (tgt := 176) hx hb dL_acts_94 (by decide) ?_
            have hHz := hH
            have hSz := hS
            have hFz : fL_acts o1 p1 p2 v = v69 := by
              refine (fL_acts.eq_1 _ _ _ _).trans ?_
              dsimp only
              try rw [← ev69]
              all_goals rw [if_neg c3]
              all_goals rw [if_neg c12]
              all_goals rw [if_neg c21]
              all_goals rw [if_pos c29]
              all_goals rw [if_neg c30]
            exact E _ _ _ _ _ _ _ _ _ dL_acts_176 rfl rfl (Eq.symm hFz) hHz hSz (show ((pot v69 - pot v) + 54) ≤ kkL_acts o1 p1 p2 v by omega) (show ((pot v69 - pot v) + 54) ≤ kkL_acts o1 p1 p2 v by omega)
        · have ho := ho.2 c29
          refine lv_aload_n hx hb dL_acts_37 rfl (lv_at hl 1 rfl) ?_
          refine lv_aload_n hx hb dL_acts_38 rfl (lv_at hl 1 rfl) ?_
          refine k_X10_tools X hS hH hk_o1 hq2 t_ml_VernierDrawersLaw_230 hl.1 (Nat.le_of_ble_eq_true rfl) ⟨Nat.le_of_ble_eq_true rfl, Nat.le_of_ble_eq_true rfl⟩ ⟨Nat.zero_le _, Nat.zero_le _⟩ dL_acts_39 ?_
          refine lv_iconst (v := 2) hx hb dL_acts_42 (by decide) ?_
          have K72 : ∀ (y71 : Int32) (ls : Array Slot), y71 = (if (2 : Int32) ≤ (fX10_tools o1 v) then (if (3 : Int32) ≤ (fX10_blocks o1 v) then (if (2 : Int32) ≤ (fX10_types o1 v) then ((fL_low p1 80) - (fL_low p1 80) / (6 : Int32) * (6 : Int32)) else 2) else 1) else 0 : Int32) → lv_has ls 4 [(2, .int p2)] → W p l e (rmL_acts o1 p1 p2 v) s m args below meth c s.heap [] 0 0 Q (F0 m 78 ls [.int y71, .ref (ga G o1)]) := by
            intro y71 ls ey71 hl
            have ho := ho y71 ey71
            refine lv_iload_n hx hb dL_acts_78 rfl (lv_at hl 0 rfl) ?_
            have hq73 := ho.1
            have ho := ho.2
            have hk74 : kkL_comes o1 y71 p2 v = pot (fL_comes o1 y71 p2 v) - pot v + 42 := rfl
            have hq75 := ho
            refine k_L_comes hst X hS hN hH hk_o1 hq73 t_ml_VernierDrawersLaw_369 hl.1 (Nat.le_of_ble_eq_true rfl) ⟨Nat.le_of_ble_eq_true rfl, Nat.le_of_ble_eq_true rfl⟩ ⟨(show 0 + kkL_comes o1 y71 p2 v ≤ kkL_acts o1 p1 p2 v by omega), (show 0 + kkL_comes o1 y71 p2 v ≤ kkL_acts o1 p1 p2 v by omega)⟩ dL_acts_79 (fun da H locs v76 ev76 hH hS => ?_)
            have hp77 : pot v76 = pot (fL_comes o1 y71 p2 v) := by rw [ev76]
            refine W.widen (k := ((pot v76 - pot v) + 42)) (n := ((pot v76 - pot v) + 42)) (by omega) (by omega) ?_
            have hHz := hH
            have hSz := hS
            have hFz : fL_acts o1 p1 p2 v = v76 := by
              refine (fL_acts.eq_1 _ _ _ _).trans ?_
              dsimp only
              try rw [← ey71]
              try rw [← ev76]
              all_goals rw [if_neg c3]
              all_goals rw [if_neg c12]
              all_goals rw [if_neg c21]
              all_goals rw [if_neg c29]
            exact E _ _ _ _ _ _ _ _ _ dL_acts_82 rfl rfl (Eq.symm hFz) hHz hSz (show ((pot v76 - pot v) + 42) ≤ kkL_acts o1 p1 p2 v by omega) (show ((pot v76 - pot v) + 42) ≤ kkL_acts o1 p1 p2 v by omega)
          refine lv_icmp_ge (tgt := 50) hx hb dL_acts_43 (by decide) (fun c72 => ?_) (fun c72 => ?_)
          · skip
            refine lv_aload_n hx hb dL_acts_50 rfl (lv_at hl 1 rfl) ?_
            refine k_X10_blocks X hS hH hk_o1 hq11 t_ml_VernierDrawersLaw_233 hl.1 (Nat.le_of_ble_eq_true rfl) ⟨Nat.le_of_ble_eq_true rfl, Nat.le_of_ble_eq_true rfl⟩ ⟨Nat.zero_le _, Nat.zero_le _⟩ dL_acts_51 ?_
            refine lv_iconst (v := 3) hx hb dL_acts_54 (by decide) ?_
            refine lv_icmp_ge (tgt := 62) hx hb dL_acts_55 (by decide) (fun c73 => ?_) (fun c73 => ?_)
            · skip
              refine lv_aload_n hx hb dL_acts_62 rfl (lv_at hl 1 rfl) ?_
              refine k_X10_types X hS hH hk_o1 hq20 t_ml_VernierDrawersLaw_236 hl.1 (Nat.le_of_ble_eq_true rfl) ⟨Nat.le_of_ble_eq_true rfl, Nat.le_of_ble_eq_true rfl⟩ ⟨Nat.zero_le _, Nat.zero_le _⟩ dL_acts_63 ?_
              refine lv_iconst (v := 2) hx hb dL_acts_66 (by decide) ?_
              refine lv_icmp_ge (tgt := 74) hx hb dL_acts_67 (by decide) (fun c74 => ?_) (fun c74 => ?_)
              · skip
                refine lv_iload_n hx hb dL_acts_74 rfl (lv_at hl 0 rfl) ?_
                refine lv_bipush (v := 6) hx hb dL_acts_75 (by decide) ?_
                refine lv_irem hx hb dL_acts_77 (by decide) ?_
                have hlz := hl
                exact K72 _ _ (Eq.symm ((if_pos c72).trans ((if_pos c73).trans ((if_pos c74).trans rfl)))) (lv_sub hlz [3] rfl)
              · skip
                refine lv_iconst (v := 2) hx hb dL_acts_70 (by decide) ?_
                refine lv_goto (tgt := 78) hx hb dL_acts_71 (by decide) ?_
                have hlz := hl
                exact K72 _ _ (Eq.symm ((if_pos c72).trans ((if_pos c73).trans ((if_neg c74).trans rfl)))) (lv_sub hlz [3] rfl)
            · skip
              refine lv_iconst (v := 1) hx hb dL_acts_58 (by decide) ?_
              refine lv_goto (tgt := 78) hx hb dL_acts_59 (by decide) ?_
              have hlz := hl
              exact K72 _ _ (Eq.symm ((if_pos c72).trans ((if_neg c73).trans rfl))) (lv_sub hlz [3] rfl)
          · skip
            refine lv_iconst (v := 0) hx hb dL_acts_46 (by decide) ?_
            refine lv_goto (tgt := 78) hx hb dL_acts_47 (by decide) ?_
            have hlz := hl
            exact K72 _ _ (Eq.symm ((if_neg c72).trans rfl)) (lv_sub hlz [3] rfl)
theorem k_L_acts {p : Program} {l : Launch} {e : Env} {R : Room} {s : State} {m : MethodId} {args : Array Value} {below : List Frame} {meth : Method} {c : Code} {H : Heap} {locs : List Loc} {cells slots : Nat} {Q : State → Prop} {cc : ByteArray} {pc nL : Nat} {ls : Array Slot} {rest : List Value} {G : gG} {own : String} {da : Nat → Nat} {v : vSt} {x : gX} (hst : l.stackTraces = false) (X : CX G p s m args c cc nL own) (hS : va_S (gA G) s.heap H locs) (hN : NC s) (hH : Hp G da v x H) {o1 : Nat} (hk_o1 : kd o1 = 10) {p1 : Int32} {p2 : Int32} (ho : oL_acts o1 p1 p2 v) {idx : Nat} (hml : Cond.methodLink own idx yL_acts ∈ TT) (hls : ls.size = nL) (hsum : (rest.map fun v => v.category).sum ≤ 8) (hR : (rmL_acts o1 p1 p2 v).frames + 1 ≤ R.frames ∧ 8 + (4 + 11) + (rmL_acts o1 p1 p2 v).locals ≤ R.locals) (hcs : cells + (kkL_acts o1 p1 p2 v) ≤ R.cells ∧ slots + (kkL_acts o1 p1 p2 v) ≤ R.slots) (hdg : decode cc pc = .ok (.invokestatic idx, 3)) (kk : ∀ (d : Nat → Nat) (H1 : Heap) (locs1 : List Loc) (v1 : vSt), v1 = fL_acts o1 p1 p2 v → Hp G d v1 x H1 → va_S (gA G) s.heap H1 locs1 → W p l e R s m args below meth c H1 locs1 (cells + (kkL_acts o1 p1 p2 v)) (slots + (kkL_acts o1 p1 p2 v)) Q (F0 m (pc + 3) ls (.int 1 :: rest))) : W p l e R s m args below meth c H locs cells slots Q (F0 m pc ls (.int p2 :: .int p1 :: .ref (ga G o1) :: rest)) := c_mi X.2.2.2.2.2.2 (runS (k := 3) X.1 X.2.1 X.2.2.1 X.2.2.2.1 X.2.2.2.2.1 (mL_acts l hst G da v x o1 hk_o1 p1 p2 ho) pN_bl hml t_st_L_acts t_ini_VernierDrawersLaw t_code_L_acts ⟨by decide, by decide, by decide +kernel⟩ rfl rfl hR hcs (preN X hN hS hH) rfl hls rfl hsum hdg) hS kk
