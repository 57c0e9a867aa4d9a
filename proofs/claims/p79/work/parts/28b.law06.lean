/-! the law's methods: what is used -/
def lL_uses_355 (v : vSt) (o1 : Nat) (p1 : Int32) : Nat → Int32 → Int32 → Int32
  | 0, i18, i19 => i19
  | n + 1, i18, i19 => if ((fX10_blocks o1 v) : Int32) ≤ i18 then i19 else (let y23 : Int32 := (if ((fL_low (p1 >>> ((i18 + (3 : Int32)) &&& 31)) 4) : Int32) = 0 then ((fX10_blockLength o1 i18 v).2) else 0 : Int32); lL_uses_355 v o1 p1 n (i18 + 1) (i19 + y23))
def fL_uses (o1 : Nat) (p1 : Int32) (v : vSt) : vSt := let y3 : Int32 := (if ((fL_low (p1 >>> ((9 : Int32) &&& 31)) 14) : Int32) = 0 then 1 else (if ((fX10_tools o1 v) : Int32) = 0 then 1 else 0) : Int32); let y6 : Int32 := (if ((fL_low p1 ((fX10_tools o1 v) + y3)) : Int32) = (fX10_tools o1 v) then 1 else 0 : Int32); let y8 : Int32 := (if (y6 : Int32) = 0 then ((fX10_usesOf o1 (fL_low p1 ((fX10_tools o1 v) + y3)) v).2) else 0 : Int32); let y10 : Int32 := (if (y6 : Int32) = 0 then ((fX10_wearOf o1 (fL_low p1 ((fX10_tools o1 v) + y3)) v).2) else 0 : Int32); let y12 : Int32 := (if (y6 : Int32) = 0 then ((fX10_usesLeft o1 (fL_low p1 ((fX10_tools o1 v) + y3)) v).2) else 0 : Int32); let y14 : Int32 := (if (y6 : Int32) = 0 then ((fX10_knownError o1 (fL_low p1 ((fX10_tools o1 v) + y3)) v).2) else 0 : Int32); if ((fL_low (p1 >>> ((4 : Int32) &&& 31)) 2) : Int32) = 0 then (let y88 : Int32 := (if ((fL_low (p1 >>> ((11 : Int32) &&& 31)) 9) : Int32) = 0 then 15100 else 2600 : Int32); let y91 : Int32 := (if (y6 : Int32) = 0 then (if ((fL_low (p1 >>> ((5 : Int32) &&& 31)) y88) : Int32) ≤ 15000 then 0 else 1) else 1 : Int32); let y93 : Int32 := (if (y91 : Int32) = 0 then (fL_readingFor o1 (fL_low p1 ((fX10_tools o1 v) + y3)) (fL_low (p1 >>> ((3 : Int32) &&& 31)) 3) (fL_low (p1 >>> ((5 : Int32) &&& 31)) y88) v) else ((-100104)) : Int32); let v98 : vSt := (fL_measure o1 (fL_low p1 ((fX10_tools o1 v) + y3)) (fL_low (p1 >>> ((3 : Int32) &&& 31)) 3) (fL_low (p1 >>> ((5 : Int32) &&& 31)) y88) v).2; let y100 : Int32 := (fL_measure o1 (fL_low p1 ((fX10_tools o1 v) + y3)) (fL_low (p1 >>> ((3 : Int32) &&& 31)) 3) (fL_low (p1 >>> ((5 : Int32) &&& 31)) y88) v).1; let y101 : Int32 := (if (y93 : Int32) = (-100104) then 0 else 1 : Int32); let y103 : Int32 := (if (y91 : Int32) = 0 then (if (y101 : Int32) = 0 then ((-100103)) else (y93 - y14)) else ((-100102)) : Int32); if (y6 : Int32) = 0 then (let y109 : Int32 := (if (y101 : Int32) = 0 then 0 else 1 : Int32); let y114 : Int32 := (if (y101 : Int32) = 0 then 0 else (if (y12 : Int32) ≤ 0 then 0 else 1) : Int32); let y120 : Int32 := (if (y101 : Int32) = 0 then 0 else 1 : Int32); v98) else v98) else (let y20 : Int32 := (lL_uses_355 v o1 p1 (11) 0 0); let y32 : Int32 := (if ((fL_low (p1 >>> ((11 : Int32) &&& 31)) 14) : Int32) = 0 then (fL_low p1 15100) else y20 : Int32); let y34 : Int32 := (if (y6 : Int32) = 0 then (if (y32 : Int32) < 1 then 1 else (if (y32 : Int32) ≤ 15000 then 0 else 1)) else 1 : Int32); let y36 : Int32 := (if (y34 : Int32) = 0 then (fL_stackFor o1 y32 v) else ((-100104)) : Int32); let y38 : Int32 := (if (y36 : Int32) = (-100104) then ((-100104)) else ((fX10_trueLength o1 y32 v).2) : Int32); let y40 : Int32 := (if (y38 : Int32) < 0 then 0 else (if (15000 : Int32) < y38 then 0 else 1) : Int32); let y42 : Int32 := (if (y40 : Int32) = 0 then ((-100104)) else (fL_readingFor o1 (fL_low p1 ((fX10_tools o1 v) + y3)) 0 y38 v) : Int32); let v47 : vSt := (fL_calibrate o1 (fL_low p1 ((fX10_tools o1 v) + y3)) y32 v).2; if ((-100000) : Int32) ≤ ((fL_calibrate o1 (fL_low p1 ((fX10_tools o1 v) + y3)) y32 v).1) then v47 else (let y72 : Int32 := (if (y34 : Int32) = 0 then ((-100103)) else ((-100102)) : Int32); if (y6 : Int32) = 0 then v47 else v47))
def kkL_uses (o1 : Nat) (p1 : Int32) (v : vSt) : Nat := pot (fL_uses o1 p1 v) - pot v + 54
def olL_uses_355 (v : vSt) (o1 : Nat) (p1 : Int32) : Nat → Int32 → Int32 → Prop
  | 0, _, _ => False
  | n + 1, i18, i19 => (oX10_blocks o1 v) ∧ (¬ (((fX10_blocks o1 v) : Int32) ≤ i18) → ((oL_low (p1 >>> ((i18 + (3 : Int32)) &&& 31)) 4) ∧ (((((fL_low (p1 >>> ((i18 + (3 : Int32)) &&& 31)) 4) : Int32) = 0) → ((oX10_blockLength o1 i18 v) ∧ ((fX10_blockLength o1 i18 v).1 = 0))) ∧ (∀ (y23 : Int32), y23 = ((if ((fL_low (p1 >>> ((i18 + (3 : Int32)) &&& 31)) 4) : Int32) = 0 then ((fX10_blockLength o1 i18 v).2) else 0 : Int32) : Int32) → (olL_uses_355 v o1 p1 n (i18 + 1) (i19 + y23))))))
def oL_uses (o1 : Nat) (p1 : Int32) (v : vSt) : Prop := (oX10_tools o1 v) ∧ ((oL_low (p1 >>> ((9 : Int32) &&& 31)) 14) ∧ ((∀ (y3 : Int32), y3 = ((if ((fL_low (p1 >>> ((9 : Int32) &&& 31)) 14) : Int32) = 0 then 1 else (if ((fX10_tools o1 v) : Int32) = 0 then 1 else 0) : Int32) : Int32) → ((oL_low p1 ((fX10_tools o1 v) + y3)) ∧ ((∀ (y6 : Int32), y6 = ((if ((fL_low p1 ((fX10_tools o1 v) + y3)) : Int32) = (fX10_tools o1 v) then 1 else 0 : Int32) : Int32) → ((((y6 : Int32) = 0) → ((oX10_usesOf o1 (fL_low p1 ((fX10_tools o1 v) + y3)) v) ∧ ((fX10_usesOf o1 (fL_low p1 ((fX10_tools o1 v) + y3)) v).1 = 0))) ∧ (∀ (y8 : Int32), y8 = ((if (y6 : Int32) = 0 then ((fX10_usesOf o1 (fL_low p1 ((fX10_tools o1 v) + y3)) v).2) else 0 : Int32) : Int32) → ((((y6 : Int32) = 0) → ((oX10_wearOf o1 (fL_low p1 ((fX10_tools o1 v) + y3)) v) ∧ ((fX10_wearOf o1 (fL_low p1 ((fX10_tools o1 v) + y3)) v).1 = 0))) ∧ (∀ (y10 : Int32), y10 = ((if (y6 : Int32) = 0 then ((fX10_wearOf o1 (fL_low p1 ((fX10_tools o1 v) + y3)) v).2) else 0 : Int32) : Int32) → ((((y6 : Int32) = 0) → ((oX10_usesLeft o1 (fL_low p1 ((fX10_tools o1 v) + y3)) v) ∧ ((fX10_usesLeft o1 (fL_low p1 ((fX10_tools o1 v) + y3)) v).1 = 0))) ∧ (∀ (y12 : Int32), y12 = ((if (y6 : Int32) = 0 then ((fX10_usesLeft o1 (fL_low p1 ((fX10_tools o1 v) + y3)) v).2) else 0 : Int32) : Int32) → ((((y6 : Int32) = 0) → ((oX10_knownError o1 (fL_low p1 ((fX10_tools o1 v) + y3)) v) ∧ ((fX10_knownError o1 (fL_low p1 ((fX10_tools o1 v) + y3)) v).1 = 0))) ∧ (∀ (y14 : Int32), y14 = ((if (y6 : Int32) = 0 then ((fX10_knownError o1 (fL_low p1 ((fX10_tools o1 v) + y3)) v).2) else 0 : Int32) : Int32) → ((oL_low (p1 >>> ((4 : Int32) &&& 31)) 2) ∧ (((((fL_low (p1 >>> ((4 : Int32) &&& 31)) 2) : Int32) = 0) → ((oL_low (p1 >>> ((3 : Int32) &&& 31)) 3) ∧ ((oL_low (p1 >>> ((11 : Int32) &&& 31)) 9) ∧ ((∀ (y88 : Int32), y88 = ((if ((fL_low (p1 >>> ((11 : Int32) &&& 31)) 9) : Int32) = 0 then 15100 else 2600 : Int32) : Int32) → ((oL_low (p1 >>> ((5 : Int32) &&& 31)) y88) ∧ ((∀ (y91 : Int32), y91 = ((if (y6 : Int32) = 0 then (if ((fL_low (p1 >>> ((5 : Int32) &&& 31)) y88) : Int32) ≤ 15000 then 0 else 1) else 1 : Int32) : Int32) → ((((y91 : Int32) = 0) → (oL_readingFor o1 (fL_low p1 ((fX10_tools o1 v) + y3)) (fL_low (p1 >>> ((3 : Int32) &&& 31)) 3) (fL_low (p1 >>> ((5 : Int32) &&& 31)) y88) v)) ∧ (∀ (y93 : Int32), y93 = ((if (y91 : Int32) = 0 then (fL_readingFor o1 (fL_low p1 ((fX10_tools o1 v) + y3)) (fL_low (p1 >>> ((3 : Int32) &&& 31)) 3) (fL_low (p1 >>> ((5 : Int32) &&& 31)) y88) v) else ((-100104)) : Int32) : Int32) → ((oL_measure o1 (fL_low p1 ((fX10_tools o1 v) + y3)) (fL_low (p1 >>> ((3 : Int32) &&& 31)) 3) (fL_low (p1 >>> ((5 : Int32) &&& 31)) y88) v) ∧ ((pot v ≤ pot v ∧ pot v ≤ pot ((fL_measure o1 (fL_low p1 ((fX10_tools o1 v) + y3)) (fL_low (p1 >>> ((3 : Int32) &&& 31)) 3) (fL_low (p1 >>> ((5 : Int32) &&& 31)) y88) v).2) ∧ pot ((fL_measure o1 (fL_low p1 ((fX10_tools o1 v) + y3)) (fL_low (p1 >>> ((3 : Int32) &&& 31)) 3) (fL_low (p1 >>> ((5 : Int32) &&& 31)) y88) v).2) ≤ pot (fL_uses o1 p1 v)) ∧ (∀ v98 : vSt, v98 = ((fL_measure o1 (fL_low p1 ((fX10_tools o1 v) + y3)) (fL_low (p1 >>> ((3 : Int32) &&& 31)) 3) (fL_low (p1 >>> ((5 : Int32) &&& 31)) y88) v).2) → (∀ y100 : Int32, y100 = ((fL_measure o1 (fL_low p1 ((fX10_tools o1 v) + y3)) (fL_low (p1 >>> ((3 : Int32) &&& 31)) 3) (fL_low (p1 >>> ((5 : Int32) &&& 31)) y88) v).1) → ((∀ (y101 : Int32), y101 = ((if (y93 : Int32) = (-100104) then 0 else 1 : Int32) : Int32) → ((∀ (y103 : Int32), y103 = ((if (y91 : Int32) = 0 then (if (y101 : Int32) = 0 then ((-100103)) else (y93 - y14)) else ((-100102)) : Int32) : Int32) → (((y100 : Int32) = y103) ∧ (((y6 : Int32) = 0) → ((oX10_usesOf o1 (fL_low p1 ((fX10_tools o1 v) + y3)) v98) ∧ (((fX10_usesOf o1 (fL_low p1 ((fX10_tools o1 v) + y3)) v98).1 = 0) ∧ ((∀ (y109 : Int32), y109 = ((if (y101 : Int32) = 0 then 0 else 1 : Int32) : Int32) → (((((fX10_usesOf o1 (fL_low p1 ((fX10_tools o1 v) + y3)) v98).2) : Int32) = (y8 + y109)) ∧ ((oX10_usesLeft o1 (fL_low p1 ((fX10_tools o1 v) + y3)) v98) ∧ (((fX10_usesLeft o1 (fL_low p1 ((fX10_tools o1 v) + y3)) v98).1 = 0) ∧ ((∀ (y114 : Int32), y114 = ((if (y101 : Int32) = 0 then 0 else (if (y12 : Int32) ≤ 0 then 0 else 1) : Int32) : Int32) → (((((fX10_usesLeft o1 (fL_low p1 ((fX10_tools o1 v) + y3)) v98).2) : Int32) = (y12 - y114)) ∧ ((oX10_wearOf o1 (fL_low p1 ((fX10_tools o1 v) + y3)) v98) ∧ (((fX10_wearOf o1 (fL_low p1 ((fX10_tools o1 v) + y3)) v98).1 = 0) ∧ ((¬ ((((fX10_wearOf o1 (fL_low p1 ((fX10_tools o1 v) + y3)) v98).2) : Int32) < y10)) ∧ ((∀ (y120 : Int32), y120 = ((if (y101 : Int32) = 0 then 0 else 1 : Int32) : Int32) → ((¬ (((y10 + y120) : Int32) < ((fX10_wearOf o1 (fL_low p1 ((fX10_tools o1 v) + y3)) v98).2))) ∧ ((oX10_knownError o1 (fL_low p1 ((fX10_tools o1 v) + y3)) v98) ∧ (((fX10_knownError o1 (fL_low p1 ((fX10_tools o1 v) + y3)) v98).1 = 0) ∧ (((((fX10_knownError o1 (fL_low p1 ((fX10_tools o1 v) + y3)) v98).2) : Int32) = y14)))))))))))))))))))))))))))))))))))))))) ∧ (¬ (((fL_low (p1 >>> ((4 : Int32) &&& 31)) 2) : Int32) = 0) → (olL_uses_355 v o1 p1 (11) 0 0 ∧ (∀ (y20 : Int32), y20 = ((lL_uses_355 v o1 p1 (11) 0 0) : Int32) → ((oL_low (p1 >>> ((11 : Int32) &&& 31)) 14) ∧ (((((fL_low (p1 >>> ((11 : Int32) &&& 31)) 14) : Int32) = 0) → (oL_low p1 15100)) ∧ (∀ (y32 : Int32), y32 = ((if ((fL_low (p1 >>> ((11 : Int32) &&& 31)) 14) : Int32) = 0 then (fL_low p1 15100) else y20 : Int32) : Int32) → ((∀ (y34 : Int32), y34 = ((if (y6 : Int32) = 0 then (if (y32 : Int32) < 1 then 1 else (if (y32 : Int32) ≤ 15000 then 0 else 1)) else 1 : Int32) : Int32) → ((((y34 : Int32) = 0) → (oL_stackFor o1 y32 v)) ∧ (∀ (y36 : Int32), y36 = ((if (y34 : Int32) = 0 then (fL_stackFor o1 y32 v) else ((-100104)) : Int32) : Int32) → ((¬ ((y36 : Int32) = (-100104)) → ((oX10_trueLength o1 y32 v) ∧ ((fX10_trueLength o1 y32 v).1 = 0))) ∧ (∀ (y38 : Int32), y38 = ((if (y36 : Int32) = (-100104) then ((-100104)) else ((fX10_trueLength o1 y32 v).2) : Int32) : Int32) → ((∀ (y40 : Int32), y40 = ((if (y38 : Int32) < 0 then 0 else (if (15000 : Int32) < y38 then 0 else 1) : Int32) : Int32) → ((¬ ((y40 : Int32) = 0) → (oL_readingFor o1 (fL_low p1 ((fX10_tools o1 v) + y3)) 0 y38 v)) ∧ (∀ (y42 : Int32), y42 = ((if (y40 : Int32) = 0 then ((-100104)) else (fL_readingFor o1 (fL_low p1 ((fX10_tools o1 v) + y3)) 0 y38 v) : Int32) : Int32) → ((oL_calibrate o1 (fL_low p1 ((fX10_tools o1 v) + y3)) y32 v) ∧ ((pot v ≤ pot v ∧ pot v ≤ pot ((fL_calibrate o1 (fL_low p1 ((fX10_tools o1 v) + y3)) y32 v).2) ∧ pot ((fL_calibrate o1 (fL_low p1 ((fX10_tools o1 v) + y3)) y32 v).2) ≤ pot (fL_uses o1 p1 v)) ∧ (∀ v47 : vSt, v47 = ((fL_calibrate o1 (fL_low p1 ((fX10_tools o1 v) + y3)) y32 v).2) → (((((-100000) : Int32) ≤ ((fL_calibrate o1 (fL_low p1 ((fX10_tools o1 v) + y3)) y32 v).1)) → (((y34 : Int32) = 0) ∧ ((¬ ((y36 : Int32) = (-100104))) ∧ ((¬ ((y40 : Int32) = 0) → (((((fL_calibrate o1 (fL_low p1 ((fX10_tools o1 v) + y3)) y32 v).1) : Int32) = (y42 - y32)))) ∧ ((oX10_knownError o1 (fL_low p1 ((fX10_tools o1 v) + y3)) v47) ∧ (((fX10_knownError o1 (fL_low p1 ((fX10_tools o1 v) + y3)) v47).1 = 0) ∧ (((((fX10_knownError o1 (fL_low p1 ((fX10_tools o1 v) + y3)) v47).2) : Int32) = ((fL_calibrate o1 (fL_low p1 ((fX10_tools o1 v) + y3)) y32 v).1)) ∧ ((oX10_isDue o1 (fL_low p1 ((fX10_tools o1 v) + y3)) v47) ∧ (((fX10_isDue o1 (fL_low p1 ((fX10_tools o1 v) + y3)) v47).1 = 0) ∧ (((((fX10_isDue o1 (fL_low p1 ((fX10_tools o1 v) + y3)) v47).2) : Int32) = 0) ∧ ((oX10_usesLeft o1 (fL_low p1 ((fX10_tools o1 v) + y3)) v47) ∧ (((fX10_usesLeft o1 (fL_low p1 ((fX10_tools o1 v) + y3)) v47).1 = 0) ∧ (((((fX10_usesLeft o1 (fL_low p1 ((fX10_tools o1 v) + y3)) v47).2) : Int32) = 30) ∧ ((oX10_usesOf o1 (fL_low p1 ((fX10_tools o1 v) + y3)) v47) ∧ (((fX10_usesOf o1 (fL_low p1 ((fX10_tools o1 v) + y3)) v47).1 = 0) ∧ (((((fX10_usesOf o1 (fL_low p1 ((fX10_tools o1 v) + y3)) v47).2) : Int32) = (y8 + (1 : Int32))) ∧ ((oX10_stackFor o1 y32 v47) ∧ (((fX10_stackFor o1 y32 v47).1 = 0) ∧ (((((fX10_stackFor o1 y32 v47).2) : Int32) = y36) ∧ ((oX10_trueLength o1 y32 v47) ∧ (((fX10_trueLength o1 y32 v47).1 = 0) ∧ ((¬ ((y38 : Int32) < ((fX10_trueLength o1 y32 v47).2))) ∧ ((¬ ((((fX10_trueLength o1 y32 v47).2) : Int32) < (y38 - (5 : Int32))))))))))))))))))))))))))) ∧ (¬ (((-100000) : Int32) ≤ ((fL_calibrate o1 (fL_low p1 ((fX10_tools o1 v) + y3)) y32 v).1)) → ((∀ (y72 : Int32), y72 = ((if (y34 : Int32) = 0 then ((-100103)) else ((-100102)) : Int32) : Int32) → (((((fL_calibrate o1 (fL_low p1 ((fX10_tools o1 v) + y3)) y32 v).1) : Int32) = y72) ∧ (((y42 : Int32) = (-100104)) ∧ (((y6 : Int32) = 0) → ((oX10_usesOf o1 (fL_low p1 ((fX10_tools o1 v) + y3)) v47) ∧ (((fX10_usesOf o1 (fL_low p1 ((fX10_tools o1 v) + y3)) v47).1 = 0) ∧ (((((fX10_usesOf o1 (fL_low p1 ((fX10_tools o1 v) + y3)) v47).2) : Int32) = y8) ∧ ((oX10_knownError o1 (fL_low p1 ((fX10_tools o1 v) + y3)) v47) ∧ (((fX10_knownError o1 (fL_low p1 ((fX10_tools o1 v) + y3)) v47).1 = 0) ∧ (((((fX10_knownError o1 (fL_low p1 ((fX10_tools o1 v) + y3)) v47).2) : Int32) = y14) ∧ ((oX10_usesLeft o1 (fL_low p1 ((fX10_tools o1 v) + y3)) v47) ∧ (((fX10_usesLeft o1 (fL_low p1 ((fX10_tools o1 v) + y3)) v47).1 = 0) ∧ (((((fX10_usesLeft o1 (fL_low p1 ((fX10_tools o1 v) + y3)) v47).2) : Int32) = y12))))))))))))))))))))))))))))))))))))))))))))))))))))
abbrev rmL_uses (o1 : Nat) (p1 : Int32) (v : vSt) : Room := { frames := 10, cells := kkL_uses o1 p1 v, slots := kkL_uses o1 p1 v, locals := 243 }
theorem dL_uses_0 : decode cL_uses 0 = .ok (.iload_n 1, 1) := by decide +kernel
theorem dL_uses_1 : decode cL_uses 1 = .ok (.aload_n 0, 1) := by decide +kernel
theorem dL_uses_2 : decode cL_uses 2 = .ok (.invokevirtual 230, 3) := by decide +kernel
theorem dL_uses_5 : decode cL_uses 5 = .ok (.iload_n 1, 1) := by decide +kernel
theorem dL_uses_6 : decode cL_uses 6 = .ok (.bipush 9, 2) := by decide +kernel
theorem dL_uses_8 : decode cL_uses 8 = .ok (.ishr, 1) := by decide +kernel
theorem dL_uses_9 : decode cL_uses 9 = .ok (.bipush 14, 2) := by decide +kernel
theorem dL_uses_11 : decode cL_uses 11 = .ok (.invokestatic 250, 3) := by decide +kernel
theorem dL_uses_14 : decode cL_uses 14 = .ok (.ifCond .eq 10, 3) := by decide +kernel
theorem dL_uses_17 : decode cL_uses 17 = .ok (.aload_n 0, 1) := by decide +kernel
theorem dL_uses_18 : decode cL_uses 18 = .ok (.invokevirtual 230, 3) := by decide +kernel
theorem dL_uses_21 : decode cL_uses 21 = .ok (.ifCond .ne 7, 3) := by decide +kernel
theorem dL_uses_24 : decode cL_uses 24 = .ok (.iconst 1, 1) := by decide +kernel
theorem dL_uses_25 : decode cL_uses 25 = .ok (.goto 4, 3) := by decide +kernel
theorem dL_uses_28 : decode cL_uses 28 = .ok (.iconst 0, 1) := by decide +kernel
theorem dL_uses_29 : decode cL_uses 29 = .ok (.iadd, 1) := by decide +kernel
theorem dL_uses_30 : decode cL_uses 30 = .ok (.invokestatic 250, 3) := by decide +kernel
theorem dL_uses_33 : decode cL_uses 33 = .ok (.istore_n 2, 1) := by decide +kernel
theorem dL_uses_34 : decode cL_uses 34 = .ok (.iload_n 2, 1) := by decide +kernel
theorem dL_uses_35 : decode cL_uses 35 = .ok (.aload_n 0, 1) := by decide +kernel
theorem dL_uses_36 : decode cL_uses 36 = .ok (.invokevirtual 230, 3) := by decide +kernel
theorem dL_uses_39 : decode cL_uses 39 = .ok (.if_icmp .ne 7, 3) := by decide +kernel
theorem dL_uses_42 : decode cL_uses 42 = .ok (.iconst 1, 1) := by decide +kernel
theorem dL_uses_43 : decode cL_uses 43 = .ok (.goto 4, 3) := by decide +kernel
theorem dL_uses_46 : decode cL_uses 46 = .ok (.iconst 0, 1) := by decide +kernel
theorem dL_uses_47 : decode cL_uses 47 = .ok (.istore_n 3, 1) := by decide +kernel
theorem dL_uses_48 : decode cL_uses 48 = .ok (.iload_n 3, 1) := by decide +kernel
theorem dL_uses_49 : decode cL_uses 49 = .ok (.ifCond .eq 7, 3) := by decide +kernel
theorem dL_uses_52 : decode cL_uses 52 = .ok (.iconst 0, 1) := by decide +kernel
theorem dL_uses_53 : decode cL_uses 53 = .ok (.goto 8, 3) := by decide +kernel
theorem dL_uses_56 : decode cL_uses 56 = .ok (.aload_n 0, 1) := by decide +kernel
theorem dL_uses_57 : decode cL_uses 57 = .ok (.iload_n 2, 1) := by decide +kernel
theorem dL_uses_58 : decode cL_uses 58 = .ok (.invokevirtual 128, 3) := by decide +kernel
theorem dL_uses_61 : decode cL_uses 61 = .ok (.istore 4, 2) := by decide +kernel
theorem dL_uses_63 : decode cL_uses 63 = .ok (.iload_n 3, 1) := by decide +kernel
theorem dL_uses_64 : decode cL_uses 64 = .ok (.ifCond .eq 7, 3) := by decide +kernel
theorem dL_uses_67 : decode cL_uses 67 = .ok (.iconst 0, 1) := by decide +kernel
theorem dL_uses_68 : decode cL_uses 68 = .ok (.goto 8, 3) := by decide +kernel
theorem dL_uses_71 : decode cL_uses 71 = .ok (.aload_n 0, 1) := by decide +kernel
theorem dL_uses_72 : decode cL_uses 72 = .ok (.iload_n 2, 1) := by decide +kernel
theorem dL_uses_73 : decode cL_uses 73 = .ok (.invokevirtual 131, 3) := by decide +kernel
theorem dL_uses_76 : decode cL_uses 76 = .ok (.istore 5, 2) := by decide +kernel
theorem dL_uses_78 : decode cL_uses 78 = .ok (.iload_n 3, 1) := by decide +kernel
theorem dL_uses_79 : decode cL_uses 79 = .ok (.ifCond .eq 7, 3) := by decide +kernel
theorem dL_uses_82 : decode cL_uses 82 = .ok (.iconst 0, 1) := by decide +kernel
theorem dL_uses_83 : decode cL_uses 83 = .ok (.goto 8, 3) := by decide +kernel
theorem dL_uses_86 : decode cL_uses 86 = .ok (.aload_n 0, 1) := by decide +kernel
theorem dL_uses_87 : decode cL_uses 87 = .ok (.iload_n 2, 1) := by decide +kernel
theorem dL_uses_88 : decode cL_uses 88 = .ok (.invokevirtual 137, 3) := by decide +kernel
theorem dL_uses_91 : decode cL_uses 91 = .ok (.istore 6, 2) := by decide +kernel
theorem dL_uses_93 : decode cL_uses 93 = .ok (.iload_n 3, 1) := by decide +kernel
theorem dL_uses_94 : decode cL_uses 94 = .ok (.ifCond .eq 7, 3) := by decide +kernel
theorem dL_uses_97 : decode cL_uses 97 = .ok (.iconst 0, 1) := by decide +kernel
theorem dL_uses_98 : decode cL_uses 98 = .ok (.goto 8, 3) := by decide +kernel
theorem dL_uses_101 : decode cL_uses 101 = .ok (.aload_n 0, 1) := by decide +kernel
theorem dL_uses_102 : decode cL_uses 102 = .ok (.iload_n 2, 1) := by decide +kernel
theorem dL_uses_103 : decode cL_uses 103 = .ok (.invokevirtual 134, 3) := by decide +kernel
theorem dL_uses_106 : decode cL_uses 106 = .ok (.istore 7, 2) := by decide +kernel
theorem dL_uses_108 : decode cL_uses 108 = .ok (.iload_n 1, 1) := by decide +kernel
theorem dL_uses_109 : decode cL_uses 109 = .ok (.iconst 4, 1) := by decide +kernel
theorem dL_uses_110 : decode cL_uses 110 = .ok (.ishr, 1) := by decide +kernel
theorem dL_uses_111 : decode cL_uses 111 = .ok (.iconst 2, 1) := by decide +kernel
theorem dL_uses_112 : decode cL_uses 112 = .ok (.invokestatic 250, 3) := by decide +kernel
theorem dL_uses_115 : decode cL_uses 115 = .ok (.ifCond .ne 234, 3) := by decide +kernel
theorem dL_uses_118 : decode cL_uses 118 = .ok (.iload_n 1, 1) := by decide +kernel
theorem dL_uses_119 : decode cL_uses 119 = .ok (.iconst 3, 1) := by decide +kernel
theorem dL_uses_120 : decode cL_uses 120 = .ok (.ishr, 1) := by decide +kernel
theorem dL_uses_121 : decode cL_uses 121 = .ok (.iconst 3, 1) := by decide +kernel
theorem dL_uses_122 : decode cL_uses 122 = .ok (.invokestatic 250, 3) := by decide +kernel
theorem dL_uses_125 : decode cL_uses 125 = .ok (.istore 8, 2) := by decide +kernel
theorem dL_uses_127 : decode cL_uses 127 = .ok (.iload_n 1, 1) := by decide +kernel
theorem dL_uses_128 : decode cL_uses 128 = .ok (.iconst 5, 1) := by decide +kernel
theorem dL_uses_129 : decode cL_uses 129 = .ok (.ishr, 1) := by decide +kernel
theorem dL_uses_130 : decode cL_uses 130 = .ok (.iload_n 1, 1) := by decide +kernel
theorem dL_uses_131 : decode cL_uses 131 = .ok (.bipush 11, 2) := by decide +kernel
theorem dL_uses_133 : decode cL_uses 133 = .ok (.ishr, 1) := by decide +kernel
theorem dL_uses_134 : decode cL_uses 134 = .ok (.bipush 9, 2) := by decide +kernel
theorem dL_uses_136 : decode cL_uses 136 = .ok (.invokestatic 250, 3) := by decide +kernel
theorem dL_uses_139 : decode cL_uses 139 = .ok (.ifCond .ne 9, 3) := by decide +kernel
theorem dL_uses_142 : decode cL_uses 142 = .ok (.sipush 15100, 3) := by decide +kernel
theorem dL_uses_145 : decode cL_uses 145 = .ok (.goto 6, 3) := by decide +kernel
theorem dL_uses_148 : decode cL_uses 148 = .ok (.sipush 2600, 3) := by decide +kernel
theorem dL_uses_151 : decode cL_uses 151 = .ok (.invokestatic 250, 3) := by decide +kernel
theorem dL_uses_154 : decode cL_uses 154 = .ok (.istore 9, 2) := by decide +kernel
theorem dL_uses_156 : decode cL_uses 156 = .ok (.iload_n 3, 1) := by decide +kernel
theorem dL_uses_157 : decode cL_uses 157 = .ok (.ifCond .ne 11, 3) := by decide +kernel
theorem dL_uses_160 : decode cL_uses 160 = .ok (.iload 9, 2) := by decide +kernel
theorem dL_uses_162 : decode cL_uses 162 = .ok (.sipush 15000, 3) := by decide +kernel
theorem dL_uses_165 : decode cL_uses 165 = .ok (.if_icmp .le 7, 3) := by decide +kernel
theorem dL_uses_168 : decode cL_uses 168 = .ok (.iconst 1, 1) := by decide +kernel
theorem dL_uses_169 : decode cL_uses 169 = .ok (.goto 4, 3) := by decide +kernel
theorem dL_uses_172 : decode cL_uses 172 = .ok (.iconst 0, 1) := by decide +kernel
theorem dL_uses_173 : decode cL_uses 173 = .ok (.istore 10, 2) := by decide +kernel
theorem dL_uses_175 : decode cL_uses 175 = .ok (.iload 10, 2) := by decide +kernel
theorem dL_uses_177 : decode cL_uses 177 = .ok (.ifCond .eq 8, 3) := by decide +kernel
theorem dL_uses_180 : decode cL_uses 180 = .ok (.ldc 73, 2) := by decide +kernel
theorem dL_uses_182 : decode cL_uses 182 = .ok (.goto 12, 3) := by decide +kernel
theorem dL_uses_185 : decode cL_uses 185 = .ok (.aload_n 0, 1) := by decide +kernel
theorem dL_uses_186 : decode cL_uses 186 = .ok (.iload_n 2, 1) := by decide +kernel
theorem dL_uses_187 : decode cL_uses 187 = .ok (.iload 8, 2) := by decide +kernel
theorem dL_uses_189 : decode cL_uses 189 = .ok (.iload 9, 2) := by decide +kernel
theorem dL_uses_191 : decode cL_uses 191 = .ok (.invokestatic 242, 3) := by decide +kernel
theorem dL_uses_194 : decode cL_uses 194 = .ok (.istore 11, 2) := by decide +kernel
theorem dL_uses_196 : decode cL_uses 196 = .ok (.aload_n 0, 1) := by decide +kernel
theorem dL_uses_197 : decode cL_uses 197 = .ok (.iload_n 2, 1) := by decide +kernel
theorem dL_uses_198 : decode cL_uses 198 = .ok (.iload 8, 2) := by decide +kernel
theorem dL_uses_200 : decode cL_uses 200 = .ok (.iload 9, 2) := by decide +kernel
theorem dL_uses_202 : decode cL_uses 202 = .ok (.invokestatic 354, 3) := by decide +kernel
theorem dL_uses_205 : decode cL_uses 205 = .ok (.istore 12, 2) := by decide +kernel
theorem dL_uses_207 : decode cL_uses 207 = .ok (.iload 11, 2) := by decide +kernel
theorem dL_uses_209 : decode cL_uses 209 = .ok (.ldc 73, 2) := by decide +kernel
theorem dL_uses_211 : decode cL_uses 211 = .ok (.if_icmp .eq 7, 3) := by decide +kernel
theorem dL_uses_214 : decode cL_uses 214 = .ok (.iconst 1, 1) := by decide +kernel
theorem dL_uses_215 : decode cL_uses 215 = .ok (.goto 4, 3) := by decide +kernel
theorem dL_uses_218 : decode cL_uses 218 = .ok (.iconst 0, 1) := by decide +kernel
theorem dL_uses_219 : decode cL_uses 219 = .ok (.istore 13, 2) := by decide +kernel
theorem dL_uses_221 : decode cL_uses 221 = .ok (.iload 12, 2) := by decide +kernel
theorem dL_uses_223 : decode cL_uses 223 = .ok (.iload 10, 2) := by decide +kernel
theorem dL_uses_225 : decode cL_uses 225 = .ok (.ifCond .eq 8, 3) := by decide +kernel
theorem dL_uses_228 : decode cL_uses 228 = .ok (.ldc 17, 2) := by decide +kernel
theorem dL_uses_230 : decode cL_uses 230 = .ok (.goto 18, 3) := by decide +kernel
theorem dL_uses_233 : decode cL_uses 233 = .ok (.iload 13, 2) := by decide +kernel
theorem dL_uses_235 : decode cL_uses 235 = .ok (.ifCond .eq 11, 3) := by decide +kernel
theorem dL_uses_238 : decode cL_uses 238 = .ok (.iload 11, 2) := by decide +kernel
theorem dL_uses_240 : decode cL_uses 240 = .ok (.iload 7, 2) := by decide +kernel
theorem dL_uses_242 : decode cL_uses 242 = .ok (.isub, 1) := by decide +kernel
theorem dL_uses_243 : decode cL_uses 243 = .ok (.goto 5, 3) := by decide +kernel
theorem dL_uses_246 : decode cL_uses 246 = .ok (.ldc 20, 2) := by decide +kernel
theorem dL_uses_248 : decode cL_uses 248 = .ok (.if_icmp .ne 99, 3) := by decide +kernel
theorem dL_uses_251 : decode cL_uses 251 = .ok (.iload_n 3, 1) := by decide +kernel
theorem dL_uses_252 : decode cL_uses 252 = .ok (.ifCond .ne 91, 3) := by decide +kernel
theorem dL_uses_255 : decode cL_uses 255 = .ok (.aload_n 0, 1) := by decide +kernel
theorem dL_uses_256 : decode cL_uses 256 = .ok (.iload_n 2, 1) := by decide +kernel
theorem dL_uses_257 : decode cL_uses 257 = .ok (.invokevirtual 128, 3) := by decide +kernel
theorem dL_uses_260 : decode cL_uses 260 = .ok (.iload 4, 2) := by decide +kernel
theorem dL_uses_262 : decode cL_uses 262 = .ok (.iload 13, 2) := by decide +kernel
theorem dL_uses_264 : decode cL_uses 264 = .ok (.ifCond .eq 7, 3) := by decide +kernel
theorem dL_uses_267 : decode cL_uses 267 = .ok (.iconst 1, 1) := by decide +kernel
theorem dL_uses_268 : decode cL_uses 268 = .ok (.goto 4, 3) := by decide +kernel
theorem dL_uses_271 : decode cL_uses 271 = .ok (.iconst 0, 1) := by decide +kernel
theorem dL_uses_272 : decode cL_uses 272 = .ok (.iadd, 1) := by decide +kernel
theorem dL_uses_273 : decode cL_uses 273 = .ok (.if_icmp .ne 74, 3) := by decide +kernel
theorem dL_uses_276 : decode cL_uses 276 = .ok (.aload_n 0, 1) := by decide +kernel
theorem dL_uses_277 : decode cL_uses 277 = .ok (.iload_n 2, 1) := by decide +kernel
theorem dL_uses_278 : decode cL_uses 278 = .ok (.invokevirtual 137, 3) := by decide +kernel
theorem dL_uses_281 : decode cL_uses 281 = .ok (.iload 6, 2) := by decide +kernel
theorem dL_uses_283 : decode cL_uses 283 = .ok (.iload 13, 2) := by decide +kernel
theorem dL_uses_285 : decode cL_uses 285 = .ok (.ifCond .eq 12, 3) := by decide +kernel
theorem dL_uses_288 : decode cL_uses 288 = .ok (.iload 6, 2) := by decide +kernel
theorem dL_uses_290 : decode cL_uses 290 = .ok (.ifCond .le 7, 3) := by decide +kernel
theorem dL_uses_293 : decode cL_uses 293 = .ok (.iconst 1, 1) := by decide +kernel
theorem dL_uses_294 : decode cL_uses 294 = .ok (.goto 4, 3) := by decide +kernel
theorem dL_uses_297 : decode cL_uses 297 = .ok (.iconst 0, 1) := by decide +kernel
theorem dL_uses_298 : decode cL_uses 298 = .ok (.isub, 1) := by decide +kernel
theorem dL_uses_299 : decode cL_uses 299 = .ok (.if_icmp .ne 48, 3) := by decide +kernel
theorem dL_uses_302 : decode cL_uses 302 = .ok (.aload_n 0, 1) := by decide +kernel
theorem dL_uses_303 : decode cL_uses 303 = .ok (.iload_n 2, 1) := by decide +kernel
theorem dL_uses_304 : decode cL_uses 304 = .ok (.invokevirtual 131, 3) := by decide +kernel
theorem dL_uses_307 : decode cL_uses 307 = .ok (.iload 5, 2) := by decide +kernel
theorem dL_uses_309 : decode cL_uses 309 = .ok (.if_icmp .lt 38, 3) := by decide +kernel
theorem dL_uses_312 : decode cL_uses 312 = .ok (.aload_n 0, 1) := by decide +kernel
theorem dL_uses_313 : decode cL_uses 313 = .ok (.iload_n 2, 1) := by decide +kernel
theorem dL_uses_314 : decode cL_uses 314 = .ok (.invokevirtual 131, 3) := by decide +kernel
theorem dL_uses_317 : decode cL_uses 317 = .ok (.iload 5, 2) := by decide +kernel
theorem dL_uses_319 : decode cL_uses 319 = .ok (.iload 13, 2) := by decide +kernel
theorem dL_uses_321 : decode cL_uses 321 = .ok (.ifCond .eq 7, 3) := by decide +kernel
theorem dL_uses_324 : decode cL_uses 324 = .ok (.iconst 1, 1) := by decide +kernel
theorem dL_uses_325 : decode cL_uses 325 = .ok (.goto 4, 3) := by decide +kernel
theorem dL_uses_328 : decode cL_uses 328 = .ok (.iconst 0, 1) := by decide +kernel
theorem dL_uses_329 : decode cL_uses 329 = .ok (.iadd, 1) := by decide +kernel
theorem dL_uses_330 : decode cL_uses 330 = .ok (.if_icmp .gt 17, 3) := by decide +kernel
theorem dL_uses_333 : decode cL_uses 333 = .ok (.aload_n 0, 1) := by decide +kernel
theorem dL_uses_334 : decode cL_uses 334 = .ok (.iload_n 2, 1) := by decide +kernel
theorem dL_uses_335 : decode cL_uses 335 = .ok (.invokevirtual 134, 3) := by decide +kernel
theorem dL_uses_338 : decode cL_uses 338 = .ok (.iload 7, 2) := by decide +kernel
theorem dL_uses_340 : decode cL_uses 340 = .ok (.if_icmp .ne 7, 3) := by decide +kernel
theorem dL_uses_343 : decode cL_uses 343 = .ok (.iconst 1, 1) := by decide +kernel
theorem dL_uses_344 : decode cL_uses 344 = .ok (.goto 4, 3) := by decide +kernel
theorem dL_uses_348 : decode cL_uses 348 = .ok (.ireturn, 1) := by decide +kernel
theorem dL_uses_349 : decode cL_uses 349 = .ok (.iconst 0, 1) := by decide +kernel
theorem dL_uses_350 : decode cL_uses 350 = .ok (.istore 8, 2) := by decide +kernel
theorem dL_uses_352 : decode cL_uses 352 = .ok (.iconst 0, 1) := by decide +kernel
theorem dL_uses_353 : decode cL_uses 353 = .ok (.istore 9, 2) := by decide +kernel
theorem dL_uses_355 : decode cL_uses 355 = .ok (.iload 9, 2) := by decide +kernel
theorem dL_uses_357 : decode cL_uses 357 = .ok (.aload_n 0, 1) := by decide +kernel
theorem dL_uses_358 : decode cL_uses 358 = .ok (.invokevirtual 233, 3) := by decide +kernel
theorem dL_uses_361 : decode cL_uses 361 = .ok (.if_icmp .ge 37, 3) := by decide +kernel
theorem dL_uses_364 : decode cL_uses 364 = .ok (.iload 8, 2) := by decide +kernel
theorem dL_uses_366 : decode cL_uses 366 = .ok (.iload_n 1, 1) := by decide +kernel
theorem dL_uses_367 : decode cL_uses 367 = .ok (.iload 9, 2) := by decide +kernel
theorem dL_uses_369 : decode cL_uses 369 = .ok (.iconst 3, 1) := by decide +kernel
theorem dL_uses_370 : decode cL_uses 370 = .ok (.iadd, 1) := by decide +kernel
theorem dL_uses_371 : decode cL_uses 371 = .ok (.ishr, 1) := by decide +kernel
theorem dL_uses_372 : decode cL_uses 372 = .ok (.iconst 4, 1) := by decide +kernel
theorem dL_uses_373 : decode cL_uses 373 = .ok (.invokestatic 250, 3) := by decide +kernel
theorem dL_uses_376 : decode cL_uses 376 = .ok (.ifCond .ne 12, 3) := by decide +kernel
theorem dL_uses_379 : decode cL_uses 379 = .ok (.aload_n 0, 1) := by decide +kernel
theorem dL_uses_380 : decode cL_uses 380 = .ok (.iload 9, 2) := by decide +kernel
theorem dL_uses_382 : decode cL_uses 382 = .ok (.invokevirtual 155, 3) := by decide +kernel
theorem dL_uses_385 : decode cL_uses 385 = .ok (.goto 4, 3) := by decide +kernel
theorem dL_uses_388 : decode cL_uses 388 = .ok (.iconst 0, 1) := by decide +kernel
theorem dL_uses_389 : decode cL_uses 389 = .ok (.iadd, 1) := by decide +kernel
theorem dL_uses_390 : decode cL_uses 390 = .ok (.istore 8, 2) := by decide +kernel
theorem dL_uses_392 : decode cL_uses 392 = .ok (.iinc 9 1, 3) := by decide +kernel
theorem dL_uses_395 : decode cL_uses 395 = .ok (.goto (-40), 3) := by decide +kernel
theorem dL_uses_398 : decode cL_uses 398 = .ok (.iload_n 1, 1) := by decide +kernel
theorem dL_uses_399 : decode cL_uses 399 = .ok (.bipush 11, 2) := by decide +kernel
theorem dL_uses_401 : decode cL_uses 401 = .ok (.ishr, 1) := by decide +kernel
theorem dL_uses_402 : decode cL_uses 402 = .ok (.bipush 14, 2) := by decide +kernel
theorem dL_uses_404 : decode cL_uses 404 = .ok (.invokestatic 250, 3) := by decide +kernel
theorem dL_uses_407 : decode cL_uses 407 = .ok (.ifCond .ne 13, 3) := by decide +kernel
theorem dL_uses_410 : decode cL_uses 410 = .ok (.iload_n 1, 1) := by decide +kernel
theorem dL_uses_411 : decode cL_uses 411 = .ok (.sipush 15100, 3) := by decide +kernel
theorem dL_uses_414 : decode cL_uses 414 = .ok (.invokestatic 250, 3) := by decide +kernel
theorem dL_uses_417 : decode cL_uses 417 = .ok (.goto 5, 3) := by decide +kernel
theorem dL_uses_420 : decode cL_uses 420 = .ok (.iload 8, 2) := by decide +kernel
theorem dL_uses_422 : decode cL_uses 422 = .ok (.istore 8, 2) := by decide +kernel
theorem dL_uses_424 : decode cL_uses 424 = .ok (.iload_n 3, 1) := by decide +kernel
theorem dL_uses_425 : decode cL_uses 425 = .ok (.ifCond .ne 17, 3) := by decide +kernel
theorem dL_uses_428 : decode cL_uses 428 = .ok (.iload 8, 2) := by decide +kernel
theorem dL_uses_430 : decode cL_uses 430 = .ok (.iconst 1, 1) := by decide +kernel
theorem dL_uses_431 : decode cL_uses 431 = .ok (.if_icmp .lt 11, 3) := by decide +kernel
theorem dL_uses_434 : decode cL_uses 434 = .ok (.iload 8, 2) := by decide +kernel
theorem dL_uses_436 : decode cL_uses 436 = .ok (.sipush 15000, 3) := by decide +kernel
theorem dL_uses_439 : decode cL_uses 439 = .ok (.if_icmp .le 7, 3) := by decide +kernel
theorem dL_uses_442 : decode cL_uses 442 = .ok (.iconst 1, 1) := by decide +kernel
theorem dL_uses_443 : decode cL_uses 443 = .ok (.goto 4, 3) := by decide +kernel
theorem dL_uses_446 : decode cL_uses 446 = .ok (.iconst 0, 1) := by decide +kernel
theorem dL_uses_447 : decode cL_uses 447 = .ok (.istore 9, 2) := by decide +kernel
theorem dL_uses_449 : decode cL_uses 449 = .ok (.iload 9, 2) := by decide +kernel
theorem dL_uses_451 : decode cL_uses 451 = .ok (.ifCond .eq 8, 3) := by decide +kernel
theorem dL_uses_454 : decode cL_uses 454 = .ok (.ldc 73, 2) := by decide +kernel
theorem dL_uses_456 : decode cL_uses 456 = .ok (.goto 9, 3) := by decide +kernel
theorem dL_uses_459 : decode cL_uses 459 = .ok (.aload_n 0, 1) := by decide +kernel
theorem dL_uses_460 : decode cL_uses 460 = .ok (.iload 8, 2) := by decide +kernel
theorem dL_uses_462 : decode cL_uses 462 = .ok (.invokestatic 279, 3) := by decide +kernel
theorem dL_uses_465 : decode cL_uses 465 = .ok (.istore 10, 2) := by decide +kernel
theorem dL_uses_467 : decode cL_uses 467 = .ok (.iload 10, 2) := by decide +kernel
theorem dL_uses_469 : decode cL_uses 469 = .ok (.ldc 73, 2) := by decide +kernel
theorem dL_uses_471 : decode cL_uses 471 = .ok (.if_icmp .ne 8, 3) := by decide +kernel
theorem dL_uses_474 : decode cL_uses 474 = .ok (.ldc 73, 2) := by decide +kernel
theorem dL_uses_476 : decode cL_uses 476 = .ok (.goto 9, 3) := by decide +kernel
theorem dL_uses_479 : decode cL_uses 479 = .ok (.aload_n 0, 1) := by decide +kernel
theorem dL_uses_480 : decode cL_uses 480 = .ok (.iload 8, 2) := by decide +kernel
theorem dL_uses_482 : decode cL_uses 482 = .ok (.invokevirtual 170, 3) := by decide +kernel
theorem dL_uses_485 : decode cL_uses 485 = .ok (.istore 11, 2) := by decide +kernel
theorem dL_uses_487 : decode cL_uses 487 = .ok (.iload 11, 2) := by decide +kernel
theorem dL_uses_489 : decode cL_uses 489 = .ok (.ifCond .lt 15, 3) := by decide +kernel
theorem dL_uses_492 : decode cL_uses 492 = .ok (.iload 11, 2) := by decide +kernel
theorem dL_uses_494 : decode cL_uses 494 = .ok (.sipush 15000, 3) := by decide +kernel
theorem dL_uses_497 : decode cL_uses 497 = .ok (.if_icmp .gt 7, 3) := by decide +kernel
theorem dL_uses_500 : decode cL_uses 500 = .ok (.iconst 1, 1) := by decide +kernel
theorem dL_uses_501 : decode cL_uses 501 = .ok (.goto 4, 3) := by decide +kernel
theorem dL_uses_504 : decode cL_uses 504 = .ok (.iconst 0, 1) := by decide +kernel
theorem dL_uses_505 : decode cL_uses 505 = .ok (.istore 12, 2) := by decide +kernel
theorem dL_uses_507 : decode cL_uses 507 = .ok (.iload 12, 2) := by decide +kernel
theorem dL_uses_509 : decode cL_uses 509 = .ok (.ifCond .eq 14, 3) := by decide +kernel
theorem dL_uses_512 : decode cL_uses 512 = .ok (.aload_n 0, 1) := by decide +kernel
theorem dL_uses_513 : decode cL_uses 513 = .ok (.iload_n 2, 1) := by decide +kernel
theorem dL_uses_514 : decode cL_uses 514 = .ok (.iconst 0, 1) := by decide +kernel
theorem dL_uses_515 : decode cL_uses 515 = .ok (.iload 11, 2) := by decide +kernel
theorem dL_uses_517 : decode cL_uses 517 = .ok (.invokestatic 242, 3) := by decide +kernel
theorem dL_uses_520 : decode cL_uses 520 = .ok (.goto 5, 3) := by decide +kernel
theorem dL_uses_523 : decode cL_uses 523 = .ok (.ldc 73, 2) := by decide +kernel
theorem dL_uses_525 : decode cL_uses 525 = .ok (.istore 13, 2) := by decide +kernel
theorem dL_uses_527 : decode cL_uses 527 = .ok (.aload_n 0, 1) := by decide +kernel
theorem dL_uses_528 : decode cL_uses 528 = .ok (.iload_n 2, 1) := by decide +kernel
theorem dL_uses_529 : decode cL_uses 529 = .ok (.iload 8, 2) := by decide +kernel
theorem dL_uses_531 : decode cL_uses 531 = .ok (.invokestatic 356, 3) := by decide +kernel
theorem dL_uses_534 : decode cL_uses 534 = .ok (.istore 14, 2) := by decide +kernel
theorem dL_uses_536 : decode cL_uses 536 = .ok (.iload 14, 2) := by decide +kernel
theorem dL_uses_538 : decode cL_uses 538 = .ok (.ldc_w 358, 3) := by decide +kernel
theorem dL_uses_541 : decode cL_uses 541 = .ok (.if_icmp .ge 67, 3) := by decide +kernel
theorem dL_uses_544 : decode cL_uses 544 = .ok (.iload 14, 2) := by decide +kernel
theorem dL_uses_546 : decode cL_uses 546 = .ok (.iload 9, 2) := by decide +kernel
theorem dL_uses_548 : decode cL_uses 548 = .ok (.ifCond .eq 8, 3) := by decide +kernel
theorem dL_uses_551 : decode cL_uses 551 = .ok (.ldc 17, 2) := by decide +kernel
theorem dL_uses_553 : decode cL_uses 553 = .ok (.goto 5, 3) := by decide +kernel
theorem dL_uses_556 : decode cL_uses 556 = .ok (.ldc 20, 2) := by decide +kernel
theorem dL_uses_558 : decode cL_uses 558 = .ok (.if_icmp .ne 48, 3) := by decide +kernel
theorem dL_uses_561 : decode cL_uses 561 = .ok (.iload 13, 2) := by decide +kernel
theorem dL_uses_563 : decode cL_uses 563 = .ok (.ldc 73, 2) := by decide +kernel
theorem dL_uses_565 : decode cL_uses 565 = .ok (.if_icmp .ne 41, 3) := by decide +kernel
theorem dL_uses_568 : decode cL_uses 568 = .ok (.iload_n 3, 1) := by decide +kernel
theorem dL_uses_569 : decode cL_uses 569 = .ok (.ifCond .ne 33, 3) := by decide +kernel
theorem dL_uses_572 : decode cL_uses 572 = .ok (.aload_n 0, 1) := by decide +kernel
theorem dL_uses_573 : decode cL_uses 573 = .ok (.iload_n 2, 1) := by decide +kernel
theorem dL_uses_574 : decode cL_uses 574 = .ok (.invokevirtual 128, 3) := by decide +kernel
theorem dL_uses_577 : decode cL_uses 577 = .ok (.iload 4, 2) := by decide +kernel
theorem dL_uses_579 : decode cL_uses 579 = .ok (.if_icmp .ne 27, 3) := by decide +kernel
theorem dL_uses_582 : decode cL_uses 582 = .ok (.aload_n 0, 1) := by decide +kernel
theorem dL_uses_583 : decode cL_uses 583 = .ok (.iload_n 2, 1) := by decide +kernel
theorem dL_uses_584 : decode cL_uses 584 = .ok (.invokevirtual 134, 3) := by decide +kernel
theorem dL_uses_587 : decode cL_uses 587 = .ok (.iload 7, 2) := by decide +kernel
theorem dL_uses_589 : decode cL_uses 589 = .ok (.if_icmp .ne 17, 3) := by decide +kernel
theorem dL_uses_592 : decode cL_uses 592 = .ok (.aload_n 0, 1) := by decide +kernel
theorem dL_uses_593 : decode cL_uses 593 = .ok (.iload_n 2, 1) := by decide +kernel
theorem dL_uses_594 : decode cL_uses 594 = .ok (.invokevirtual 137, 3) := by decide +kernel
theorem dL_uses_597 : decode cL_uses 597 = .ok (.iload 6, 2) := by decide +kernel
theorem dL_uses_599 : decode cL_uses 599 = .ok (.if_icmp .ne 7, 3) := by decide +kernel
theorem dL_uses_602 : decode cL_uses 602 = .ok (.iconst 1, 1) := by decide +kernel
theorem dL_uses_603 : decode cL_uses 603 = .ok (.goto 4, 3) := by decide +kernel
theorem dL_uses_607 : decode cL_uses 607 = .ok (.ireturn, 1) := by decide +kernel
theorem dL_uses_608 : decode cL_uses 608 = .ok (.iload 9, 2) := by decide +kernel
theorem dL_uses_610 : decode cL_uses 610 = .ok (.ifCond .ne 104, 3) := by decide +kernel
theorem dL_uses_613 : decode cL_uses 613 = .ok (.iload 10, 2) := by decide +kernel
theorem dL_uses_615 : decode cL_uses 615 = .ok (.ldc 73, 2) := by decide +kernel
theorem dL_uses_617 : decode cL_uses 617 = .ok (.if_icmp .eq 97, 3) := by decide +kernel
theorem dL_uses_620 : decode cL_uses 620 = .ok (.iload 12, 2) := by decide +kernel
theorem dL_uses_622 : decode cL_uses 622 = .ok (.ifCond .eq 13, 3) := by decide +kernel
theorem dL_uses_625 : decode cL_uses 625 = .ok (.iload 14, 2) := by decide +kernel
theorem dL_uses_627 : decode cL_uses 627 = .ok (.iload 13, 2) := by decide +kernel
theorem dL_uses_629 : decode cL_uses 629 = .ok (.iload 8, 2) := by decide +kernel
theorem dL_uses_631 : decode cL_uses 631 = .ok (.isub, 1) := by decide +kernel
theorem dL_uses_632 : decode cL_uses 632 = .ok (.if_icmp .ne 82, 3) := by decide +kernel
theorem dL_uses_635 : decode cL_uses 635 = .ok (.aload_n 0, 1) := by decide +kernel
theorem dL_uses_636 : decode cL_uses 636 = .ok (.iload_n 2, 1) := by decide +kernel
theorem dL_uses_637 : decode cL_uses 637 = .ok (.invokevirtual 134, 3) := by decide +kernel
theorem dL_uses_640 : decode cL_uses 640 = .ok (.iload 14, 2) := by decide +kernel
theorem dL_uses_642 : decode cL_uses 642 = .ok (.if_icmp .ne 72, 3) := by decide +kernel
theorem dL_uses_645 : decode cL_uses 645 = .ok (.aload_n 0, 1) := by decide +kernel
theorem dL_uses_646 : decode cL_uses 646 = .ok (.iload_n 2, 1) := by decide +kernel
theorem dL_uses_647 : decode cL_uses 647 = .ok (.invokevirtual 61, 3) := by decide +kernel
theorem dL_uses_650 : decode cL_uses 650 = .ok (.ifCond .ne 64, 3) := by decide +kernel
theorem dL_uses_653 : decode cL_uses 653 = .ok (.aload_n 0, 1) := by decide +kernel
theorem dL_uses_654 : decode cL_uses 654 = .ok (.iload_n 2, 1) := by decide +kernel
theorem dL_uses_655 : decode cL_uses 655 = .ok (.invokevirtual 137, 3) := by decide +kernel
theorem dL_uses_658 : decode cL_uses 658 = .ok (.bipush 30, 2) := by decide +kernel
theorem dL_uses_660 : decode cL_uses 660 = .ok (.if_icmp .ne 54, 3) := by decide +kernel
theorem dL_uses_663 : decode cL_uses 663 = .ok (.aload_n 0, 1) := by decide +kernel
theorem dL_uses_664 : decode cL_uses 664 = .ok (.iload_n 2, 1) := by decide +kernel
theorem dL_uses_665 : decode cL_uses 665 = .ok (.invokevirtual 128, 3) := by decide +kernel
theorem dL_uses_668 : decode cL_uses 668 = .ok (.iload 4, 2) := by decide +kernel
theorem dL_uses_670 : decode cL_uses 670 = .ok (.iconst 1, 1) := by decide +kernel
theorem dL_uses_671 : decode cL_uses 671 = .ok (.iadd, 1) := by decide +kernel
theorem dL_uses_672 : decode cL_uses 672 = .ok (.if_icmp .ne 42, 3) := by decide +kernel
theorem dL_uses_675 : decode cL_uses 675 = .ok (.aload_n 0, 1) := by decide +kernel
theorem dL_uses_676 : decode cL_uses 676 = .ok (.iload 8, 2) := by decide +kernel
theorem dL_uses_678 : decode cL_uses 678 = .ok (.invokevirtual 167, 3) := by decide +kernel
theorem dL_uses_681 : decode cL_uses 681 = .ok (.iload 10, 2) := by decide +kernel
theorem dL_uses_683 : decode cL_uses 683 = .ok (.if_icmp .ne 31, 3) := by decide +kernel
theorem dL_uses_686 : decode cL_uses 686 = .ok (.aload_n 0, 1) := by decide +kernel
theorem dL_uses_687 : decode cL_uses 687 = .ok (.iload 8, 2) := by decide +kernel
theorem dL_uses_689 : decode cL_uses 689 = .ok (.invokevirtual 170, 3) := by decide +kernel
theorem dL_uses_692 : decode cL_uses 692 = .ok (.iload 11, 2) := by decide +kernel
theorem dL_uses_694 : decode cL_uses 694 = .ok (.if_icmp .gt 20, 3) := by decide +kernel
theorem dL_uses_697 : decode cL_uses 697 = .ok (.aload_n 0, 1) := by decide +kernel
theorem dL_uses_698 : decode cL_uses 698 = .ok (.iload 8, 2) := by decide +kernel
theorem dL_uses_700 : decode cL_uses 700 = .ok (.invokevirtual 170, 3) := by decide +kernel
theorem dL_uses_703 : decode cL_uses 703 = .ok (.iload 11, 2) := by decide +kernel
theorem dL_uses_705 : decode cL_uses 705 = .ok (.iconst 5, 1) := by decide +kernel
theorem dL_uses_706 : decode cL_uses 706 = .ok (.isub, 1) := by decide +kernel
theorem dL_uses_707 : decode cL_uses 707 = .ok (.if_icmp .lt 7, 3) := by decide +kernel
theorem dL_uses_710 : decode cL_uses 710 = .ok (.iconst 1, 1) := by decide +kernel
theorem dL_uses_711 : decode cL_uses 711 = .ok (.goto 4, 3) := by decide +kernel
theorem dL_uses_715 : decode cL_uses 715 = .ok (.ireturn, 1) := by decide +kernel
set_option maxHeartbeats 8000000 in
set_option maxRecDepth 100000 in
theorem mL_uses (l : Launch) (hst : l.stackTraces = false) (G : gG) (da : Nat → Nat) (v : vSt) (x : gX) (o1 : Nat) (hk_o1 : kd o1 = 10) (p1 : Int32) (ho : oL_uses o1 p1 v) : NI l yL_uses cL_uses 15 .boolean (rmL_uses o1 p1 v) [.ref (ga G o1), .int p1] G da v x (kkL_uses o1 p1 v) (kkL_uses o1 p1 v) 1 (fL_uses o1 p1 v) := by
  refine gofNI (by decide) rfl (Nat.le_of_ble_eq_true rfl) (fun p e s m args below meth c ls Q X hN hH hl E => ?_)
  have hx := X.1
  have hb := X.2.1
  have hown := X.2.2.2.1
  have hts := X.2.2.2.2.1
  have hS : va_S (gA G) s.heap s.heap [] := va_S.rf
  have hkk : kkL_uses o1 p1 v = pot (fL_uses o1 p1 v) - pot v + 54 := rfl
  unfold oL_uses at ho
  have hl : lv_has ls 15 [(0, .ref (ga G o1)), (1, .int p1)] := hl
  refine lv_iload_n hx hb dL_uses_0 rfl (lv_at hl 1 rfl) ?_
  refine lv_aload_n hx hb dL_uses_1 rfl (lv_at hl 0 rfl) ?_
  have hq1 := ho.1
  have ho := ho.2
  refine k_X10_tools X hS hH hk_o1 hq1 t_ml_VernierDrawersLaw_230 hl.1 (Nat.le_of_ble_eq_true rfl) ⟨Nat.le_of_ble_eq_true rfl, Nat.le_of_ble_eq_true rfl⟩ ⟨Nat.zero_le _, Nat.zero_le _⟩ dL_uses_2 ?_
  refine lv_iload_n hx hb dL_uses_5 rfl (lv_at hl 1 rfl) ?_
  refine lv_bipush (v := 9) hx hb dL_uses_6 (by decide) ?_
  refine lv_ishr hx hb dL_uses_8 ?_
  refine lv_bipush (v := 14) hx hb dL_uses_9 (by decide) ?_
  have hq2 := ho.1
  have ho := ho.2
  refine k_L_low X hS hq2 t_ml_VernierDrawersLaw_250 hl.1 (Nat.le_of_ble_eq_true rfl) ⟨Nat.le_of_ble_eq_true rfl, Nat.le_of_ble_eq_true rfl⟩ ⟨Nat.zero_le _, Nat.zero_le _⟩ dL_uses_11 ?_
  have K4 : ∀ (y3 : Int32) (ls : Array Slot), y3 = (if ((fL_low (p1 >>> ((9 : Int32) &&& 31)) 14) : Int32) = 0 then 1 else (if ((fX10_tools o1 v) : Int32) = 0 then 1 else 0) : Int32) → lv_has ls 15 [(0, .ref (ga G o1)), (1, .int p1)] → W p l e (rmL_uses o1 p1 v) s m args below meth c s.heap [] 0 0 Q (F0 m 29 ls [.int y3, .int (fX10_tools o1 v), .int p1]) := by
    intro y3 ls ey3 hl
    have ho := ho y3 ey3
    refine lv_iadd hx hb dL_uses_29 ?_
    have hq5 := ho.1
    have ho := ho.2
    refine k_L_low X hS hq5 t_ml_VernierDrawersLaw_250 hl.1 (Nat.le_of_ble_eq_true rfl) ⟨Nat.le_of_ble_eq_true rfl, Nat.le_of_ble_eq_true rfl⟩ ⟨Nat.zero_le _, Nat.zero_le _⟩ dL_uses_30 ?_
    refine lv_istore_n (lv' := [(2, .int (fL_low p1 ((fX10_tools o1 v) + y3))), (0, .ref (ga G o1)), (1, .int p1)]) hx hb dL_uses_33 rfl hl (by decide) rfl (fun ls hl => ?_)
    refine lv_iload_n hx hb dL_uses_34 rfl (lv_at hl 0 rfl) ?_
    refine lv_aload_n hx hb dL_uses_35 rfl (lv_at hl 1 rfl) ?_
    refine k_X10_tools X hS hH hk_o1 hq1 t_ml_VernierDrawersLaw_230 hl.1 (Nat.le_of_ble_eq_true rfl) ⟨Nat.le_of_ble_eq_true rfl, Nat.le_of_ble_eq_true rfl⟩ ⟨Nat.zero_le _, Nat.zero_le _⟩ dL_uses_36 ?_
    have K7 : ∀ (y6 : Int32) (ls : Array Slot), y6 = (if ((fL_low p1 ((fX10_tools o1 v) + y3)) : Int32) = (fX10_tools o1 v) then 1 else 0 : Int32) → lv_has ls 15 [(2, .int (fL_low p1 ((fX10_tools o1 v) + y3))), (0, .ref (ga G o1)), (1, .int p1)] → W p l e (rmL_uses o1 p1 v) s m args below meth c s.heap [] 0 0 Q (F0 m 47 ls [.int y6]) := by
      intro y6 ls ey6 hl
      have ho := ho y6 ey6
      refine lv_istore_n (lv' := [(3, .int y6), (2, .int (fL_low p1 ((fX10_tools o1 v) + y3))), (0, .ref (ga G o1)), (1, .int p1)]) hx hb dL_uses_47 rfl hl (by decide) rfl (fun ls hl => ?_)
      refine lv_iload_n hx hb dL_uses_48 rfl (lv_at hl 0 rfl) ?_
      have K9 : ∀ (y8 : Int32) (ls : Array Slot), y8 = (if (y6 : Int32) = 0 then ((fX10_usesOf o1 (fL_low p1 ((fX10_tools o1 v) + y3)) v).2) else 0 : Int32) → lv_has ls 15 [(3, .int y6), (2, .int (fL_low p1 ((fX10_tools o1 v) + y3))), (0, .ref (ga G o1)), (1, .int p1)] → W p l e (rmL_uses o1 p1 v) s m args below meth c s.heap [] 0 0 Q (F0 m 61 ls [.int y8]) := by
        intro y8 ls ey8 hl
        have ho := ho.2 y8 ey8
        refine lv_istore (lv' := [(4, .int y8), (3, .int y6), (2, .int (fL_low p1 ((fX10_tools o1 v) + y3))), (0, .ref (ga G o1)), (1, .int p1)]) hx hb dL_uses_61 hl (by decide) rfl (fun ls hl => ?_)
        refine lv_iload_n hx hb dL_uses_63 rfl (lv_at hl 1 rfl) ?_
        have K11 : ∀ (y10 : Int32) (ls : Array Slot), y10 = (if (y6 : Int32) = 0 then ((fX10_wearOf o1 (fL_low p1 ((fX10_tools o1 v) + y3)) v).2) else 0 : Int32) → lv_has ls 15 [(4, .int y8), (3, .int y6), (2, .int (fL_low p1 ((fX10_tools o1 v) + y3))), (0, .ref (ga G o1)), (1, .int p1)] → W p l e (rmL_uses o1 p1 v) s m args below meth c s.heap [] 0 0 Q (F0 m 76 ls [.int y10]) := by
          intro y10 ls ey10 hl
          have ho := ho.2 y10 ey10
          refine lv_istore (lv' := [(5, .int y10), (4, .int y8), (3, .int y6), (2, .int (fL_low p1 ((fX10_tools o1 v) + y3))), (0, .ref (ga G o1)), (1, .int p1)]) hx hb dL_uses_76 hl (by decide) rfl (fun ls hl => ?_)
          refine lv_iload_n hx hb dL_uses_78 rfl (lv_at hl 2 rfl) ?_
          have K13 : ∀ (y12 : Int32) (ls : Array Slot), y12 = (if (y6 : Int32) = 0 then ((fX10_usesLeft o1 (fL_low p1 ((fX10_tools o1 v) + y3)) v).2) else 0 : Int32) → lv_has ls 15 [(5, .int y10), (4, .int y8), (3, .int y6), (2, .int (fL_low p1 ((fX10_tools o1 v) + y3))), (0, .ref (ga G o1)), (1, .int p1)] → W p l e (rmL_uses o1 p1 v) s m args below meth c s.heap [] 0 0 Q (F0 m 91 ls [.int y12]) := by
            intro y12 ls ey12 hl
            have ho := ho.2 y12 ey12
            refine lv_istore (lv' := [(6, .int y12), (5, .int y10), (4, .int y8), (3, .int y6), (2, .int (fL_low p1 ((fX10_tools o1 v) + y3))), (0, .ref (ga G o1)), (1, .int p1)]) hx hb dL_uses_91 hl (by decide) rfl (fun ls hl => ?_)
            refine lv_iload_n hx hb dL_uses_93 rfl (lv_at hl 3 rfl) ?_
            have K15 : ∀ (y14 : Int32) (ls : Array Slot), y14 = (if (y6 : Int32) = 0 then ((fX10_knownError o1 (fL_low p1 ((fX10_tools o1 v) + y3)) v).2) else 0 : Int32) → lv_has ls 15 [(6, .int y12), (5, .int y10), (4, .int y8), (3, .int y6), (2, .int (fL_low p1 ((fX10_tools o1 v) + y3))), (0, .ref (ga G o1)), (1, .int p1)] → W p l e (rmL_uses o1 p1 v) s m args below meth c s.heap [] 0 0 Q (F0 m 106 ls [.int y14]) := by
              intro y14 ls ey14 hl
              have ho := ho.2 y14 ey14
              refine lv_istore (lv' := [(7, .int y14), (6, .int y12), (5, .int y10), (4, .int y8), (3, .int y6), (2, .int (fL_low p1 ((fX10_tools o1 v) + y3))), (0, .ref (ga G o1)), (1, .int p1)]) hx hb dL_uses_106 hl (by decide) rfl (fun ls hl => ?_)
              refine lv_iload_n hx hb dL_uses_108 rfl (lv_at hl 7 rfl) ?_
              refine lv_iconst (v := 4) hx hb dL_uses_109 (by decide) ?_
              refine lv_ishr hx hb dL_uses_110 ?_
              refine lv_iconst (v := 2) hx hb dL_uses_111 (by decide) ?_
              have hq16 := ho.1
              have ho := ho.2
              refine k_L_low X hS hq16 t_ml_VernierDrawersLaw_250 hl.1 (Nat.le_of_ble_eq_true rfl) ⟨Nat.le_of_ble_eq_true rfl, Nat.le_of_ble_eq_true rfl⟩ ⟨Nat.zero_le _, Nat.zero_le _⟩ dL_uses_112 ?_
              refine lv_if_ne (tgt := 349) hx hb dL_uses_115 (by decide) (fun c17 => ?_) (fun c17 => ?_)
              · have ho := ho.2 c17
                refine lv_iconst (v := 0) hx hb dL_uses_349 (by decide) ?_
                refine lv_istore (lv' := [(8, .int 0), (7, .int y14), (6, .int y12), (5, .int y10), (4, .int y8), (3, .int y6), (2, .int (fL_low p1 ((fX10_tools o1 v) + y3))), (0, .ref (ga G o1)), (1, .int p1)]) hx hb dL_uses_350 hl (by decide) rfl (fun ls hl => ?_)
                refine lv_iconst (v := 0) hx hb dL_uses_352 (by decide) ?_
                refine lv_istore (lv' := [(9, .int 0), (8, .int 0), (7, .int y14), (6, .int y12), (5, .int y10), (4, .int y8), (3, .int y6), (2, .int (fL_low p1 ((fX10_tools o1 v) + y3))), (0, .ref (ga G o1)), (1, .int p1)]) hx hb dL_uses_353 hl (by decide) rfl (fun ls hl => ?_)
                have L21 : ∀ (n : Nat) (i18 : Int32) (i19 : Int32) (ls : Array Slot), olL_uses_355 v o1 p1 n i18 i19 → lv_has ls 15 [(9, .int i18), (8, .int i19), (7, .int y14), (6, .int y12), (4, .int y8), (3, .int y6), (2, .int (fL_low p1 ((fX10_tools o1 v) + y3))), (0, .ref (ga G o1)), (1, .int p1)] → (∀ (y20 : Int32) (ls : Array Slot), y20 = (lL_uses_355 v o1 p1 n i18 i19 : Int32) → lv_has ls 15 [(8, .int y20), (7, .int y14), (6, .int y12), (4, .int y8), (3, .int y6), (2, .int (fL_low p1 ((fX10_tools o1 v) + y3))), (0, .ref (ga G o1)), (1, .int p1)] → W p l e (rmL_uses o1 p1 v) s m args below meth c s.heap [] 0 0 Q (F0 m 398 ls [])) → W p l e (rmL_uses o1 p1 v) s m args below meth c s.heap [] 0 0 Q (F0 m 355 ls []) := by
                  clear ho
                  intro n
                  induction n with
                  | zero =>
                    intro i18 i19 ls ho
                    exact ho.elim
                  | succ n ih =>
                    intro i18 i19 ls ho hl K22
                    refine lv_iload hx hb dL_uses_355 (lv_at hl 0 rfl) ?_
                    refine lv_aload_n hx hb dL_uses_357 rfl (lv_at hl 7 rfl) ?_
                    have hq24 := ho.1
                    have ho := ho.2
                    refine k_X10_blocks X hS hH hk_o1 hq24 t_ml_VernierDrawersLaw_233 hl.1 (Nat.le_of_ble_eq_true rfl) ⟨Nat.le_of_ble_eq_true rfl, Nat.le_of_ble_eq_true rfl⟩ ⟨Nat.zero_le _, Nat.zero_le _⟩ dL_uses_358 ?_
                    refine lv_icmp_ge (tgt := 398) hx hb dL_uses_361 (by decide) (fun c25 => ?_) (fun c25 => ?_)
                    · skip
                      have hoz := ho
                      have hlz := hl
                      exact K22 _ _ (Eq.symm (((lL_uses_355.eq_2 _ _ _ _ _ _)).trans ((if_pos c25).trans rfl))) (lv_sub hlz [1, 2, 3, 4, 5, 6, 7, 8] rfl)
                    · have ho := ho c25
                      refine lv_iload hx hb dL_uses_364 (lv_at hl 1 rfl) ?_
                      refine lv_iload_n hx hb dL_uses_366 rfl (lv_at hl 8 rfl) ?_
                      refine lv_iload hx hb dL_uses_367 (lv_at hl 0 rfl) ?_
                      refine lv_iconst (v := 3) hx hb dL_uses_369 (by decide) ?_
                      refine lv_iadd hx hb dL_uses_370 ?_
                      refine lv_ishr hx hb dL_uses_371 ?_
                      refine lv_iconst (v := 4) hx hb dL_uses_372 (by decide) ?_
                      have hq26 := ho.1
                      have ho := ho.2
                      refine k_L_low X hS hq26 t_ml_VernierDrawersLaw_250 hl.1 (Nat.le_of_ble_eq_true rfl) ⟨Nat.le_of_ble_eq_true rfl, Nat.le_of_ble_eq_true rfl⟩ ⟨Nat.zero_le _, Nat.zero_le _⟩ dL_uses_373 ?_
                      have K28 : ∀ (y27 : Int32) (ls : Array Slot), y27 = (if ((fL_low (p1 >>> ((i18 + (3 : Int32)) &&& 31)) 4) : Int32) = 0 then ((fX10_blockLength o1 i18 v).2) else 0 : Int32) → lv_has ls 15 [(9, .int i18), (7, .int y14), (6, .int y12), (4, .int y8), (3, .int y6), (2, .int (fL_low p1 ((fX10_tools o1 v) + y3))), (0, .ref (ga G o1)), (1, .int p1)] → W p l e (rmL_uses o1 p1 v) s m args below meth c s.heap [] 0 0 Q (F0 m 389 ls [.int y27, .int i19]) := by
                        intro y27 ls ey27 hl
                        have ho := ho.2 y27 ey27
                        refine lv_iadd hx hb dL_uses_389 ?_
                        refine lv_istore (lv' := [(8, .int (i19 + y27)), (9, .int i18), (7, .int y14), (6, .int y12), (4, .int y8), (3, .int y6), (2, .int (fL_low p1 ((fX10_tools o1 v) + y3))), (0, .ref (ga G o1)), (1, .int p1)]) hx hb dL_uses_390 hl (by decide) rfl (fun ls hl => ?_)
                        refine lv_iinc (v := i18 + 1) (lv' := [(9, .int (i18 + 1)), (8, .int (i19 + y27)), (7, .int y14), (6, .int y12), (4, .int y8), (3, .int y6), (2, .int (fL_low p1 ((fX10_tools o1 v) + y3))), (0, .ref (ga G o1)), (1, .int p1)]) hx hb dL_uses_392 hl (k := 1) rfl rfl (by decide) rfl (fun ls hl => ?_)
                        refine lv_goto (tgt := 355) hx hb dL_uses_395 (by decide) ?_
                        have hoz := ho
                        have hlz := hl
                        replace ey27 := Eq.symm ey27
                        subst ey27
                        exact ih _ _ _ hoz (lv_sub hlz [0, 1, 2, 3, 4, 5, 6, 7, 8] rfl) (fun y20 ls q0 hl => K22 y20 ls (q0.trans (congrArg (fun z : Int32 => z) (Eq.symm (((lL_uses_355.eq_2 _ _ _ _ _ _)).trans ((if_neg c25).trans rfl))))) hl)
                      have ho := ho.1
                      refine lv_if_ne (tgt := 388) hx hb dL_uses_376 (by decide) (fun c28 => ?_) (fun c28 => ?_)
                      · skip
                        refine lv_iconst (v := 0) hx hb dL_uses_388 (by decide) ?_
                        have hlz := hl
                        exact K28 _ _ (Eq.symm ((if_neg c28).trans rfl)) (lv_sub hlz [0, 2, 3, 4, 5, 6, 7, 8] rfl)
                      · have ho := ho c28
                        refine lv_aload_n hx hb dL_uses_379 rfl (lv_at hl 7 rfl) ?_
                        refine lv_iload hx hb dL_uses_380 (lv_at hl 0 rfl) ?_
                        have hq29 := ho.1
                        have ho := ho.2
                        have hq30 := ho
                        refine kZ_X10_blockLength X hS hH hk_o1 hq29 hq30 t_ml_VernierDrawersLaw_155 hl.1 (Nat.le_of_ble_eq_true rfl) ⟨Nat.le_of_ble_eq_true rfl, Nat.le_of_ble_eq_true rfl⟩ ⟨Nat.zero_le _, Nat.zero_le _⟩ dL_uses_382 ?_
                        refine lv_goto (tgt := 389) hx hb dL_uses_385 (by decide) ?_
                        have hlz := hl
                        exact K28 _ _ (Eq.symm ((if_pos c28).trans rfl)) (lv_sub hlz [0, 2, 3, 4, 5, 6, 7, 8] rfl)
                have hol := ho.1
                refine L21 (11) 0 0 _ hol (lv_sub hl [0, 1, 2, 3, 5, 6, 7, 8, 9] rfl) (fun y20 ls ey20 hl => ?_)
                have ho := ho.2 y20 ey20
                refine lv_iload_n hx hb dL_uses_398 rfl (lv_at hl 7 rfl) ?_
                refine lv_bipush (v := 11) hx hb dL_uses_399 (by decide) ?_
                refine lv_ishr hx hb dL_uses_401 ?_
                refine lv_bipush (v := 14) hx hb dL_uses_402 (by decide) ?_
                have hq31 := ho.1
                have ho := ho.2
                refine k_L_low X hS hq31 t_ml_VernierDrawersLaw_250 hl.1 (Nat.le_of_ble_eq_true rfl) ⟨Nat.le_of_ble_eq_true rfl, Nat.le_of_ble_eq_true rfl⟩ ⟨Nat.zero_le _, Nat.zero_le _⟩ dL_uses_404 ?_
                have K33 : ∀ (y32 : Int32) (ls : Array Slot), y32 = (if ((fL_low (p1 >>> ((11 : Int32) &&& 31)) 14) : Int32) = 0 then (fL_low p1 15100) else y20 : Int32) → lv_has ls 15 [(7, .int y14), (6, .int y12), (4, .int y8), (3, .int y6), (2, .int (fL_low p1 ((fX10_tools o1 v) + y3))), (0, .ref (ga G o1))] → W p l e (rmL_uses o1 p1 v) s m args below meth c s.heap [] 0 0 Q (F0 m 422 ls [.int y32]) := by
                  intro y32 ls ey32 hl
                  have ho := ho.2 y32 ey32
                  refine lv_istore (lv' := [(8, .int y32), (7, .int y14), (6, .int y12), (4, .int y8), (3, .int y6), (2, .int (fL_low p1 ((fX10_tools o1 v) + y3))), (0, .ref (ga G o1))]) hx hb dL_uses_422 hl (by decide) rfl (fun ls hl => ?_)
                  refine lv_iload_n hx hb dL_uses_424 rfl (lv_at hl 4 rfl) ?_
                  have K35 : ∀ (y34 : Int32) (ls : Array Slot), y34 = (if (y6 : Int32) = 0 then (if (y32 : Int32) < 1 then 1 else (if (y32 : Int32) ≤ 15000 then 0 else 1)) else 1 : Int32) → lv_has ls 15 [(8, .int y32), (7, .int y14), (6, .int y12), (4, .int y8), (3, .int y6), (2, .int (fL_low p1 ((fX10_tools o1 v) + y3))), (0, .ref (ga G o1))] → W p l e (rmL_uses o1 p1 v) s m args below meth c s.heap [] 0 0 Q (F0 m 447 ls [.int y34]) := by
                    intro y34 ls ey34 hl
                    have ho := ho y34 ey34
                    refine lv_istore (lv' := [(9, .int y34), (8, .int y32), (7, .int y14), (6, .int y12), (4, .int y8), (3, .int y6), (2, .int (fL_low p1 ((fX10_tools o1 v) + y3))), (0, .ref (ga G o1))]) hx hb dL_uses_447 hl (by decide) rfl (fun ls hl => ?_)
                    refine lv_iload hx hb dL_uses_449 (lv_at hl 0 rfl) ?_
                    have K37 : ∀ (y36 : Int32) (da : Nat → Nat) (H : Heap) (locs : List Loc) (ls : Array Slot), y36 = (if (y34 : Int32) = 0 then (fL_stackFor o1 y32 v) else ((-100104)) : Int32) → Hp G da v x H → va_S (gA G) s.heap H locs → lv_has ls 15 [(9, .int y34), (8, .int y32), (7, .int y14), (6, .int y12), (4, .int y8), (3, .int y6), (2, .int (fL_low p1 ((fX10_tools o1 v) + y3))), (0, .ref (ga G o1))] → W p l e (rmL_uses o1 p1 v) s m args below meth c H locs 12 12 Q (F0 m 465 ls [.int y36]) := by
                      intro y36 da H locs ls ey36 hH hS hl
                      have ho := ho.2 y36 ey36
                      refine lv_istore (lv' := [(10, .int y36), (9, .int y34), (8, .int y32), (7, .int y14), (6, .int y12), (4, .int y8), (3, .int y6), (2, .int (fL_low p1 ((fX10_tools o1 v) + y3))), (0, .ref (ga G o1))]) hx hb dL_uses_465 hl (by decide) rfl (fun ls hl => ?_)
                      refine lv_iload hx hb dL_uses_467 (lv_at hl 0 rfl) ?_
                      refine lv_ldc (v := (-100104)) hx hb hown (hts _ t_con_VernierDrawersLaw_73) dL_uses_469 ?_
                      have K39 : ∀ (y38 : Int32) (ls : Array Slot), y38 = (if (y36 : Int32) = (-100104) then ((-100104)) else ((fX10_trueLength o1 y32 v).2) : Int32) → lv_has ls 15 [(10, .int y36), (9, .int y34), (8, .int y32), (7, .int y14), (6, .int y12), (4, .int y8), (3, .int y6), (2, .int (fL_low p1 ((fX10_tools o1 v) + y3))), (0, .ref (ga G o1))] → W p l e (rmL_uses o1 p1 v) s m args below meth c H locs 12 12 Q (F0 m 485 ls [.int y38]) := by
                        intro y38 ls ey38 hl
                        have ho := ho.2 y38 ey38
                        refine lv_istore (lv' := [(11, .int y38), (10, .int y36), (9, .int y34), (8, .int y32), (7, .int y14), (6, .int y12), (4, .int y8), (3, .int y6), (2, .int (fL_low p1 ((fX10_tools o1 v) + y3))), (0, .ref (ga G o1))]) hx hb dL_uses_485 hl (by decide) rfl (fun ls hl => ?_)
                        refine lv_iload hx hb dL_uses_487 (lv_at hl 0 rfl) ?_
                        have K41 : ∀ (y40 : Int32) (ls : Array Slot), y40 = (if (y38 : Int32) < 0 then 0 else (if (15000 : Int32) < y38 then 0 else 1) : Int32) → lv_has ls 15 [(11, .int y38), (10, .int y36), (9, .int y34), (8, .int y32), (7, .int y14), (6, .int y12), (4, .int y8), (3, .int y6), (2, .int (fL_low p1 ((fX10_tools o1 v) + y3))), (0, .ref (ga G o1))] → W p l e (rmL_uses o1 p1 v) s m args below meth c H locs 12 12 Q (F0 m 505 ls [.int y40]) := by
                          intro y40 ls ey40 hl
                          have ho := ho y40 ey40
                          refine lv_istore (lv' := [(12, .int y40), (11, .int y38), (10, .int y36), (9, .int y34), (8, .int y32), (7, .int y14), (6, .int y12), (4, .int y8), (3, .int y6), (2, .int (fL_low p1 ((fX10_tools o1 v) + y3))), (0, .ref (ga G o1))]) hx hb dL_uses_505 hl (by decide) rfl (fun ls hl => ?_)
                          refine lv_iload hx hb dL_uses_507 (lv_at hl 0 rfl) ?_
                          have K43 : ∀ (y42 : Int32) (da : Nat → Nat) (H : Heap) (locs : List Loc) (ls : Array Slot), y42 = (if (y40 : Int32) = 0 then ((-100104)) else (fL_readingFor o1 (fL_low p1 ((fX10_tools o1 v) + y3)) 0 y38 v) : Int32) → Hp G da v x H → va_S (gA G) s.heap H locs → lv_has ls 15 [(12, .int y40), (11, .int y38), (10, .int y36), (9, .int y34), (8, .int y32), (7, .int y14), (6, .int y12), (4, .int y8), (3, .int y6), (2, .int (fL_low p1 ((fX10_tools o1 v) + y3))), (0, .ref (ga G o1))] → W p l e (rmL_uses o1 p1 v) s m args below meth c H locs 18 18 Q (F0 m 525 ls [.int y42]) := by
                            intro y42 da H locs ls ey42 hH hS hl
                            have ho := ho.2 y42 ey42
                            refine lv_istore (lv' := [(13, .int y42), (12, .int y40), (11, .int y38), (10, .int y36), (9, .int y34), (8, .int y32), (7, .int y14), (6, .int y12), (4, .int y8), (3, .int y6), (2, .int (fL_low p1 ((fX10_tools o1 v) + y3))), (0, .ref (ga G o1))]) hx hb dL_uses_525 hl (by decide) rfl (fun ls hl => ?_)
                            refine lv_aload_n hx hb dL_uses_527 rfl (lv_at hl 11 rfl) ?_
                            refine lv_iload_n hx hb dL_uses_528 rfl (lv_at hl 10 rfl) ?_
                            refine lv_iload hx hb dL_uses_529 (lv_at hl 5 rfl) ?_
                            have hq44 := ho.1
                            have ho := ho.2
                            have hk45 : kkL_calibrate o1 (fL_low p1 ((fX10_tools o1 v) + y3)) y32 v = pot ((fL_calibrate o1 (fL_low p1 ((fX10_tools o1 v) + y3)) y32 v).2) - pot v + 36 := rfl
                            have hq46 := ho.1
                            have ho := ho.2
                            refine k_L_calibrate hst X hS hN hH hk_o1 hq44 t_ml_VernierDrawersLaw_356 hl.1 (Nat.le_of_ble_eq_true rfl) ⟨Nat.le_of_ble_eq_true rfl, Nat.le_of_ble_eq_true rfl⟩ ⟨(show 18 + kkL_calibrate o1 (fL_low p1 ((fX10_tools o1 v) + y3)) y32 v ≤ kkL_uses o1 p1 v by omega), (show 18 + kkL_calibrate o1 (fL_low p1 ((fX10_tools o1 v) + y3)) y32 v ≤ kkL_uses o1 p1 v by omega)⟩ dL_uses_531 (fun da H locs v47 ev47 hH hS => ?_)
                            have ho := ho v47 ev47
                            have hp48 : pot v47 = pot ((fL_calibrate o1 (fL_low p1 ((fX10_tools o1 v) + y3)) y32 v).2) := by rw [ev47]
                            refine W.widen (k := ((pot v47 - pot v) + 54)) (n := ((pot v47 - pot v) + 54)) (by omega) (by omega) ?_
                            refine lv_istore (lv' := [(14, .int ((fL_calibrate o1 (fL_low p1 ((fX10_tools o1 v) + y3)) y32 v).1)), (13, .int y42), (12, .int y40), (11, .int y38), (10, .int y36), (9, .int y34), (8, .int y32), (7, .int y14), (6, .int y12), (4, .int y8), (3, .int y6), (2, .int (fL_low p1 ((fX10_tools o1 v) + y3))), (0, .ref (ga G o1))]) hx hb dL_uses_534 hl (by decide) rfl (fun ls hl => ?_)
                            refine lv_iload hx hb dL_uses_536 (lv_at hl 0 rfl) ?_
                            refine lv_ldcw (v := (-100000)) hx hb hown (hts _ t_con_VernierDrawersLaw_358) dL_uses_538 ?_
                            refine lv_icmp_ge (tgt := 608) hx hb dL_uses_541 (by decide) (fun c49 => ?_) (fun c49 => ?_)
                            · have ho := ho.1 c49
                              refine lv_iload hx hb dL_uses_608 (lv_at hl 5 rfl) ?_
                              refine lv_if_ne (tgt := 714) hx hb dL_uses_610 (by decide) (fun c50 => ?_) (fun c50 => ?_)
                              · exact absurd ho.1 c50
                              have ho := ho.2
                              refine lv_iload hx hb dL_uses_613 (lv_at hl 4 rfl) ?_
                              refine lv_ldc (v := (-100104)) hx hb hown (hts _ t_con_VernierDrawersLaw_73) dL_uses_615 ?_
                              refine lv_icmp_eq (tgt := 714) hx hb dL_uses_617 (by decide) (fun c51 => ?_) (fun c51 => ?_)
                              · exact absurd c51 ho.1
                              have ho := ho.2
                              refine lv_iload hx hb dL_uses_620 (lv_at hl 2 rfl) ?_
                              have K52 : ∀  (ls : Array Slot), lv_has ls 15 [(14, .int ((fL_calibrate o1 (fL_low p1 ((fX10_tools o1 v) + y3)) y32 v).1)), (11, .int y38), (10, .int y36), (8, .int y32), (4, .int y8), (2, .int (fL_low p1 ((fX10_tools o1 v) + y3))), (0, .ref (ga G o1))] → W p l e (rmL_uses o1 p1 v) s m args below meth c H locs ((pot v47 - pot v) + 54) ((pot v47 - pot v) + 54) Q (F0 m 635 ls []) := by
                                intro  ls  hl
                                have ho := ho.2
                                refine lv_aload_n hx hb dL_uses_635 rfl (lv_at hl 6 rfl) ?_
                                refine lv_iload_n hx hb dL_uses_636 rfl (lv_at hl 5 rfl) ?_
                                have hq53 := ho.1
                                have ho := ho.2
                                have hq54 := ho.1
                                have ho := ho.2
                                refine kZ_X10_knownError X hS hH hk_o1 hq53 hq54 t_ml_VernierDrawersLaw_134 hl.1 (Nat.le_of_ble_eq_true rfl) ⟨Nat.le_of_ble_eq_true rfl, Nat.le_of_ble_eq_true rfl⟩ ⟨(show ((pot v47 - pot v) + 54) ≤ kkL_uses o1 p1 v by omega), (show ((pot v47 - pot v) + 54) ≤ kkL_uses o1 p1 v by omega)⟩ dL_uses_637 ?_
                                refine lv_iload hx hb dL_uses_640 (lv_at hl 0 rfl) ?_
                                refine lv_icmp_ne (tgt := 714) hx hb dL_uses_642 (by decide) (fun c55 => ?_) (fun c55 => ?_)
                                · exact absurd ho.1 c55
                                have ho := ho.2
                                refine lv_aload_n hx hb dL_uses_645 rfl (lv_at hl 6 rfl) ?_
                                refine lv_iload_n hx hb dL_uses_646 rfl (lv_at hl 5 rfl) ?_
                                have hq56 := ho.1
                                have ho := ho.2
                                have hq57 := ho.1
                                have ho := ho.2
                                refine kZ_X10_isDue X hS hH hk_o1 hq56 hq57 t_ml_VernierDrawersLaw_61 hl.1 (Nat.le_of_ble_eq_true rfl) ⟨Nat.le_of_ble_eq_true rfl, Nat.le_of_ble_eq_true rfl⟩ ⟨(show ((pot v47 - pot v) + 54) ≤ kkL_uses o1 p1 v by omega), (show ((pot v47 - pot v) + 54) ≤ kkL_uses o1 p1 v by omega)⟩ dL_uses_647 ?_
                                refine lv_if_ne (tgt := 714) hx hb dL_uses_650 (by decide) (fun c58 => ?_) (fun c58 => ?_)
                                · exact absurd ho.1 c58
                                have ho := ho.2
                                refine lv_aload_n hx hb dL_uses_653 rfl (lv_at hl 6 rfl) ?_
                                refine lv_iload_n hx hb dL_uses_654 rfl (lv_at hl 5 rfl) ?_
                                have hq59 := ho.1
                                have ho := ho.2
                                have hq60 := ho.1
                                have ho := ho.2
                                refine kZ_X10_usesLeft X hS hH hk_o1 hq59 hq60 t_ml_VernierDrawersLaw_137 hl.1 (Nat.le_of_ble_eq_true rfl) ⟨Nat.le_of_ble_eq_true rfl, Nat.le_of_ble_eq_true rfl⟩ ⟨(show ((pot v47 - pot v) + 54) ≤ kkL_uses o1 p1 v by omega), (show ((pot v47 - pot v) + 54) ≤ kkL_uses o1 p1 v by omega)⟩ dL_uses_655 ?_
                                refine lv_bipush (v := 30) hx hb dL_uses_658 (by decide) ?_
                                refine lv_icmp_ne (tgt := 714) hx hb dL_uses_660 (by decide) (fun c61 => ?_) (fun c61 => ?_)
                                · exact absurd ho.1 c61
                                have ho := ho.2
                                refine lv_aload_n hx hb dL_uses_663 rfl (lv_at hl 6 rfl) ?_
                                refine lv_iload_n hx hb dL_uses_664 rfl (lv_at hl 5 rfl) ?_
                                have hq62 := ho.1
                                have ho := ho.2
                                have hq63 := ho.1
                                have ho := ho.2
                                refine kZ_X10_usesOf X hS hH hk_o1 hq62 hq63 t_ml_VernierDrawersLaw_128 hl.1 (Nat.le_of_ble_eq_true rfl) ⟨Nat.le_of_ble_eq_true rfl, Nat.le_of_ble_eq_true rfl⟩ ⟨(show ((pot v47 - pot v) + 54) ≤ kkL_uses o1 p1 v by omega), (show ((pot v47 - pot v) + 54) ≤ kkL_uses o1 p1 v by omega)⟩ dL_uses_665 ?_
                                refine lv_iload hx hb dL_uses_668 (lv_at hl 4 rfl) ?_
                                refine lv_iconst (v := 1) hx hb dL_uses_670 (by decide) ?_
                                refine lv_iadd hx hb dL_uses_671 ?_
                                refine lv_icmp_ne (tgt := 714) hx hb dL_uses_672 (by decide) (fun c64 => ?_) (fun c64 => ?_)
                                · exact absurd ho.1 c64
                                have ho := ho.2
                                refine lv_aload_n hx hb dL_uses_675 rfl (lv_at hl 6 rfl) ?_
                                refine lv_iload hx hb dL_uses_676 (lv_at hl 3 rfl) ?_
                                have hq65 := ho.1
                                have ho := ho.2
                                have hq66 := ho.1
                                have ho := ho.2
                                refine kZ_X10_stackFor X hS hH hk_o1 hq65 hq66 t_ml_VernierDrawersLaw_167 hl.1 (Nat.le_of_ble_eq_true rfl) ⟨Nat.le_of_ble_eq_true rfl, Nat.le_of_ble_eq_true rfl⟩ ⟨(show ((pot v47 - pot v) + 54) ≤ kkL_uses o1 p1 v by omega), (show ((pot v47 - pot v) + 54) ≤ kkL_uses o1 p1 v by omega)⟩ dL_uses_678 ?_
                                refine lv_iload hx hb dL_uses_681 (lv_at hl 2 rfl) ?_
                                refine lv_icmp_ne (tgt := 714) hx hb dL_uses_683 (by decide) (fun c67 => ?_) (fun c67 => ?_)
                                · exact absurd ho.1 c67
                                have ho := ho.2
                                refine lv_aload_n hx hb dL_uses_686 rfl (lv_at hl 6 rfl) ?_
                                refine lv_iload hx hb dL_uses_687 (lv_at hl 3 rfl) ?_
                                have hq68 := ho.1
                                have ho := ho.2
                                have hq69 := ho.1
                                have ho := ho.2
                                refine kZ_X10_trueLength X hS hH hk_o1 hq68 hq69 t_ml_VernierDrawersLaw_170 hl.1 (Nat.le_of_ble_eq_true rfl) ⟨Nat.le_of_ble_eq_true rfl, Nat.le_of_ble_eq_true rfl⟩ ⟨(show ((pot v47 - pot v) + 54) ≤ kkL_uses o1 p1 v by omega), (show ((pot v47 - pot v) + 54) ≤ kkL_uses o1 p1 v by omega)⟩ dL_uses_689 ?_
                                refine lv_iload hx hb dL_uses_692 (lv_at hl 1 rfl) ?_
                                refine lv_icmp_gt (tgt := 714) hx hb dL_uses_694 (by decide) (fun c70 => ?_) (fun c70 => ?_)
                                · exact absurd c70 ho.1
                                have ho := ho.2
                                refine lv_aload_n hx hb dL_uses_697 rfl (lv_at hl 6 rfl) ?_
                                refine lv_iload hx hb dL_uses_698 (lv_at hl 3 rfl) ?_
                                refine kZ_X10_trueLength X hS hH hk_o1 hq68 hq69 t_ml_VernierDrawersLaw_170 hl.1 (Nat.le_of_ble_eq_true rfl) ⟨Nat.le_of_ble_eq_true rfl, Nat.le_of_ble_eq_true rfl⟩ ⟨(show ((pot v47 - pot v) + 54) ≤ kkL_uses o1 p1 v by omega), (show ((pot v47 - pot v) + 54) ≤ kkL_uses o1 p1 v by omega)⟩ dL_uses_700 ?_
                                refine lv_iload hx hb dL_uses_703 (lv_at hl 1 rfl) ?_
                                refine lv_iconst (v := 5) hx hb dL_uses_705 (by decide) ?_
                                refine lv_isub hx hb dL_uses_706 ?_
                                refine lv_icmp_lt (tgt := 714) hx hb dL_uses_707 (by decide) (fun c71 => ?_) (fun c71 => ?_)
                                · exact absurd c71 ho
                                refine lv_iconst (v := 1) hx hb dL_uses_710 (by decide) ?_
                                refine lv_goto (tgt := 715) hx hb dL_uses_711 (by decide) ?_
                                have hHz := hH
                                have hSz := hS
                                have hFz : fL_uses o1 p1 v = v47 := by
                                  refine (fL_uses.eq_1 _ _ _).trans ?_
                                  dsimp only
                                  try rw [← ey3]
                                  try rw [← ey6]
                                  try rw [← ey8]
                                  try rw [← ey10]
                                  try rw [← ey12]
                                  try rw [← ey14]
                                  try rw [← ey20]
                                  try rw [← ey32]
                                  try rw [← ey34]
                                  try rw [← ey36]
                                  try rw [← ey38]
                                  try rw [← ey40]
                                  try rw [← ey42]
                                  try rw [← ev47]
                                  all_goals rw [if_neg c17]
                                  all_goals rw [if_pos c49]
                                exact E _ _ _ _ _ _ _ _ _ dL_uses_715 rfl rfl (Eq.symm hFz) hHz hSz (show ((pot v47 - pot v) + 54) ≤ kkL_uses o1 p1 v by omega) (show ((pot v47 - pot v) + 54) ≤ kkL_uses o1 p1 v by omega)
                              have ho := ho.1
                              refine lv_if_eq (tgt := 635) hx hb dL_uses_622 (by decide) (fun c52 => ?_) (fun c52 => ?_)
                              · skip
                                have hlz := hl
                                exact K52  _  (lv_sub hlz [0, 3, 4, 6, 9, 11, 12] rfl)
                              · have ho := ho c52
                                refine lv_iload hx hb dL_uses_625 (lv_at hl 0 rfl) ?_
                                refine lv_iload hx hb dL_uses_627 (lv_at hl 1 rfl) ?_
                                refine lv_iload hx hb dL_uses_629 (lv_at hl 6 rfl) ?_
                                refine lv_isub hx hb dL_uses_631 ?_
                                refine lv_icmp_ne (tgt := 714) hx hb dL_uses_632 (by decide) (fun c53 => ?_) (fun c53 => ?_)
                                · exact absurd ho c53
                                have hlz := hl
                                exact K52  _  (lv_sub hlz [0, 3, 4, 6, 9, 11, 12] rfl)
                            · have ho := ho.2 c49
                              refine lv_iload hx hb dL_uses_544 (lv_at hl 0 rfl) ?_
                              refine lv_iload hx hb dL_uses_546 (lv_at hl 5 rfl) ?_
                              have K73 : ∀ (y72 : Int32) (ls : Array Slot), y72 = (if (y34 : Int32) = 0 then ((-100103)) else ((-100102)) : Int32) → lv_has ls 15 [(13, .int y42), (7, .int y14), (6, .int y12), (4, .int y8), (3, .int y6), (2, .int (fL_low p1 ((fX10_tools o1 v) + y3))), (0, .ref (ga G o1))] → W p l e (rmL_uses o1 p1 v) s m args below meth c H locs ((pot v47 - pot v) + 54) ((pot v47 - pot v) + 54) Q (F0 m 558 ls [.int y72, .int ((fL_calibrate o1 (fL_low p1 ((fX10_tools o1 v) + y3)) y32 v).1)]) := by
                                intro y72 ls ey72 hl
                                have ho := ho y72 ey72
                                refine lv_icmp_ne (tgt := 606) hx hb dL_uses_558 (by decide) (fun c74 => ?_) (fun c74 => ?_)
                                · exact absurd ho.1 c74
                                have ho := ho.2
                                refine lv_iload hx hb dL_uses_561 (lv_at hl 0 rfl) ?_
                                refine lv_ldc (v := (-100104)) hx hb hown (hts _ t_con_VernierDrawersLaw_73) dL_uses_563 ?_
                                refine lv_icmp_ne (tgt := 606) hx hb dL_uses_565 (by decide) (fun c75 => ?_) (fun c75 => ?_)
                                · exact absurd ho.1 c75
                                have ho := ho.2
                                refine lv_iload_n hx hb dL_uses_568 rfl (lv_at hl 4 rfl) ?_
                                refine lv_if_ne (tgt := 602) hx hb dL_uses_569 (by decide) (fun c76 => ?_) (fun c76 => ?_)
                                · skip
                                  refine lv_iconst (v := 1) hx hb dL_uses_602 (by decide) ?_
                                  refine lv_goto (tgt := 607) hx hb dL_uses_603 (by decide) ?_
                                  have hHz := hH
                                  have hSz := hS
                                  have hFz : fL_uses o1 p1 v = v47 := by
                                    refine (fL_uses.eq_1 _ _ _).trans ?_
                                    dsimp only
                                    try rw [← ey3]
                                    try rw [← ey6]
                                    try rw [← ey8]
                                    try rw [← ey10]
                                    try rw [← ey12]
                                    try rw [← ey14]
                                    try rw [← ey20]
                                    try rw [← ey32]
                                    try rw [← ey34]
                                    try rw [← ey36]
                                    try rw [← ey38]
                                    try rw [← ey40]
                                    try rw [← ey42]
                                    try rw [← ev47]
                                    try rw [← ey72]
                                    all_goals rw [if_neg c17]
                                    all_goals rw [if_neg c49]
                                    all_goals rw [if_neg c76]
                                  exact E _ _ _ _ _ _ _ _ _ dL_uses_607 rfl rfl (Eq.symm hFz) hHz hSz (show ((pot v47 - pot v) + 54) ≤ kkL_uses o1 p1 v by omega) (show ((pot v47 - pot v) + 54) ≤ kkL_uses o1 p1 v by omega)
                                · have ho := ho c76
                                  refine lv_aload_n hx hb dL_uses_572 rfl (lv_at hl 6 rfl) ?_
                                  refine lv_iload_n hx hb dL_uses_573 rfl (lv_at hl 5 rfl) ?_
                                  have hq77 := ho.1
                                  have ho := ho.2
                                  have hq78 := ho.1
                                  have ho := ho.2
                                  refine kZ_X10_usesOf X hS hH hk_o1 hq77 hq78 t_ml_VernierDrawersLaw_128 hl.1 (Nat.le_of_ble_eq_true rfl) ⟨Nat.le_of_ble_eq_true rfl, Nat.le_of_ble_eq_true rfl⟩ ⟨(show ((pot v47 - pot v) + 54) ≤ kkL_uses o1 p1 v by omega), (show ((pot v47 - pot v) + 54) ≤ kkL_uses o1 p1 v by omega)⟩ dL_uses_574 ?_
                                  refine lv_iload hx hb dL_uses_577 (lv_at hl 3 rfl) ?_
                                  refine lv_icmp_ne (tgt := 606) hx hb dL_uses_579 (by decide) (fun c79 => ?_) (fun c79 => ?_)
                                  · exact absurd ho.1 c79
                                  have ho := ho.2
                                  refine lv_aload_n hx hb dL_uses_582 rfl (lv_at hl 6 rfl) ?_
                                  refine lv_iload_n hx hb dL_uses_583 rfl (lv_at hl 5 rfl) ?_
                                  have hq80 := ho.1
                                  have ho := ho.2
                                  have hq81 := ho.1
                                  have ho := ho.2
                                  refine kZ_X10_knownError X hS hH hk_o1 hq80 hq81 t_ml_VernierDrawersLaw_134 hl.1 (Nat.le_of_ble_eq_true rfl) ⟨Nat.le_of_ble_eq_true rfl, Nat.le_of_ble_eq_true rfl⟩ ⟨(show ((pot v47 - pot v) + 54) ≤ kkL_uses o1 p1 v by omega), (show ((pot v47 - pot v) + 54) ≤ kkL_uses o1 p1 v by omega)⟩ dL_uses_584 ?_
                                  refine lv_iload hx hb dL_uses_587 (lv_at hl 1 rfl) ?_
                                  refine lv_icmp_ne (tgt := 606) hx hb dL_uses_589 (by decide) (fun c82 => ?_) (fun c82 => ?_)
                                  · exact absurd ho.1 c82
                                  have ho := ho.2
                                  refine lv_aload_n hx hb dL_uses_592 rfl (lv_at hl 6 rfl) ?_
                                  refine lv_iload_n hx hb dL_uses_593 rfl (lv_at hl 5 rfl) ?_
                                  have hq83 := ho.1
                                  have ho := ho.2
                                  have hq84 := ho.1
                                  have ho := ho.2
                                  refine kZ_X10_usesLeft X hS hH hk_o1 hq83 hq84 t_ml_VernierDrawersLaw_137 hl.1 (Nat.le_of_ble_eq_true rfl) ⟨Nat.le_of_ble_eq_true rfl, Nat.le_of_ble_eq_true rfl⟩ ⟨(show ((pot v47 - pot v) + 54) ≤ kkL_uses o1 p1 v by omega), (show ((pot v47 - pot v) + 54) ≤ kkL_uses o1 p1 v by omega)⟩ dL_uses_594 ?_
                                  refine lv_iload hx hb dL_uses_597 (lv_at hl 2 rfl) ?_
                                  refine lv_icmp_ne (tgt := 606) hx hb dL_uses_599 (by decide) (fun c85 => ?_) (fun c85 => ?_)
                                  · exact absurd ho c85
                                  refine lv_iconst (v := 1) hx hb dL_uses_602 (by decide) ?_
                                  refine lv_goto (tgt := 607) hx hb dL_uses_603 (by decide) ?_
                                  have hHz := hH
                                  have hSz := hS
                                  have hFz : fL_uses o1 p1 v = v47 := by
                                    refine (fL_uses.eq_1 _ _ _).trans ?_
                                    dsimp only
                                    try rw [← ey3]
                                    try rw [← ey6]
                                    try rw [← ey8]
                                    try rw [← ey10]
                                    try rw [← ey12]
                                    try rw [← ey14]
                                    try rw [← ey20]
                                    try rw [← ey32]
                                    try rw [← ey34]
                                    try rw [← ey36]
                                    try rw [← ey38]
                                    try rw [← ey40]
                                    try rw [← ey42]
                                    try rw [← ev47]
                                    try rw [← ey72]
                                    all_goals rw [if_neg c17]
                                    all_goals rw [if_neg c49]
                                    all_goals rw [if_pos c76]
                                  exact E _ _ _ _ _ _ _ _ _ dL_uses_607 rfl rfl (Eq.symm hFz) hHz hSz (show ((pot v47 - pot v) + 54) ≤ kkL_uses o1 p1 v by omega) (show ((pot v47 - pot v) + 54) ≤ kkL_uses o1 p1 v by omega)
                              refine lv_if_eq (tgt := 556) hx hb dL_uses_548 (by decide) (fun c73 => ?_) (fun c73 => ?_)
                              · skip
                                refine lv_ldc (v := (-100103)) hx hb hown (hts _ t_con_VernierDrawersLaw_20) dL_uses_556 ?_
                                have hlz := hl
                                exact K73 _ _ (Eq.symm ((if_pos c73).trans rfl)) (lv_sub hlz [1, 7, 8, 9, 10, 11, 12] rfl)
                              · skip
                                refine lv_ldc (v := (-100102)) hx hb hown (hts _ t_con_VernierDrawersLaw_17) dL_uses_551 ?_
                                refine lv_goto (tgt := 558) hx hb dL_uses_553 (by decide) ?_
                                have hlz := hl
                                exact K73 _ _ (Eq.symm ((if_neg c73).trans rfl)) (lv_sub hlz [1, 7, 8, 9, 10, 11, 12] rfl)
                          have ho := ho.1
                          refine lv_if_eq (tgt := 523) hx hb dL_uses_509 (by decide) (fun c43 => ?_) (fun c43 => ?_)
                          · skip
                            refine lv_ldc (v := (-100104)) hx hb hown (hts _ t_con_VernierDrawersLaw_73) dL_uses_523 ?_
                            refine W.widen (k := 18) (n := 18) (Nat.le_of_ble_eq_true rfl) (Nat.le_of_ble_eq_true rfl) ?_
                            have hlz := hl
                            have hHz := hH
                            have hSz := hS
                            exact K43 _ _ _ _ _ (Eq.symm ((if_pos c43).trans rfl)) hHz hSz (lv_sub hlz [0, 1, 2, 3, 4, 5, 6, 7, 8, 9, 10] rfl)
                          · have ho := ho c43
                            refine lv_aload_n hx hb dL_uses_512 rfl (lv_at hl 10 rfl) ?_
                            refine lv_iload_n hx hb dL_uses_513 rfl (lv_at hl 9 rfl) ?_
                            refine lv_iconst (v := 0) hx hb dL_uses_514 (by decide) ?_
                            refine lv_iload hx hb dL_uses_515 (lv_at hl 1 rfl) ?_
                            have hq44 := ho
                            refine k_L_readingFor hst X hS hN hH hk_o1 hq44 t_ml_VernierDrawersLaw_242 hl.1 (Nat.le_of_ble_eq_true rfl) ⟨Nat.le_of_ble_eq_true rfl, Nat.le_of_ble_eq_true rfl⟩ ⟨(show 12 + 6 ≤ kkL_uses o1 p1 v by omega), (show 12 + 6 ≤ kkL_uses o1 p1 v by omega)⟩ dL_uses_517 (fun da H locs hH hS => ?_)
                            refine W.widen (k := 18) (n := 18) (Nat.le_refl _) (Nat.le_refl _) ?_
                            refine lv_goto (tgt := 525) hx hb dL_uses_520 (by decide) ?_
                            have hlz := hl
                            have hHz := hH
                            have hSz := hS
                            exact K43 _ _ _ _ _ (Eq.symm ((if_neg c43).trans rfl)) hHz hSz (lv_sub hlz [0, 1, 2, 3, 4, 5, 6, 7, 8, 9, 10] rfl)
                        refine lv_if_lt (tgt := 504) hx hb dL_uses_489 (by decide) (fun c41 => ?_) (fun c41 => ?_)
                        · skip
                          refine lv_iconst (v := 0) hx hb dL_uses_504 (by decide) ?_
                          have hlz := hl
                          exact K41 _ _ (Eq.symm ((if_pos c41).trans rfl)) (lv_sub hlz [0, 1, 2, 3, 4, 5, 6, 7, 8, 9] rfl)
                        · skip
                          refine lv_iload hx hb dL_uses_492 (lv_at hl 0 rfl) ?_
                          refine lv_sipush (v := 15000) hx hb dL_uses_494 (by decide) ?_
                          refine lv_icmp_gt (tgt := 504) hx hb dL_uses_497 (by decide) (fun c42 => ?_) (fun c42 => ?_)
                          · skip
                            refine lv_iconst (v := 0) hx hb dL_uses_504 (by decide) ?_
                            have hlz := hl
                            exact K41 _ _ (Eq.symm ((if_neg c41).trans ((if_pos c42).trans rfl))) (lv_sub hlz [0, 1, 2, 3, 4, 5, 6, 7, 8, 9] rfl)
                          · skip
                            refine lv_iconst (v := 1) hx hb dL_uses_500 (by decide) ?_
                            refine lv_goto (tgt := 505) hx hb dL_uses_501 (by decide) ?_
                            have hlz := hl
                            exact K41 _ _ (Eq.symm ((if_neg c41).trans ((if_neg c42).trans rfl))) (lv_sub hlz [0, 1, 2, 3, 4, 5, 6, 7, 8, 9] rfl)
                      have ho := ho.1
                      refine lv_icmp_ne (tgt := 479) hx hb dL_uses_471 (by decide) (fun c39 => ?_) (fun c39 => ?_)
                      · have ho := ho c39
                        refine lv_aload_n hx hb dL_uses_479 rfl (lv_at hl 8 rfl) ?_
                        refine lv_iload hx hb dL_uses_480 (lv_at hl 2 rfl) ?_
                        have hq40 := ho.1
                        have ho := ho.2
                        have hq41 := ho
                        refine kZ_X10_trueLength X hS hH hk_o1 hq40 hq41 t_ml_VernierDrawersLaw_170 hl.1 (Nat.le_of_ble_eq_true rfl) ⟨Nat.le_of_ble_eq_true rfl, Nat.le_of_ble_eq_true rfl⟩ ⟨(show 12 ≤ kkL_uses o1 p1 v by omega), (show 12 ≤ kkL_uses o1 p1 v by omega)⟩ dL_uses_482 ?_
                        have hlz := hl
                        exact K39 _ _ (Eq.symm ((if_neg c39).trans rfl)) (lv_sub hlz [0, 1, 2, 3, 4, 5, 6, 7, 8] rfl)
                      · skip
                        refine lv_ldc (v := (-100104)) hx hb hown (hts _ t_con_VernierDrawersLaw_73) dL_uses_474 ?_
                        refine lv_goto (tgt := 485) hx hb dL_uses_476 (by decide) ?_
                        have hlz := hl
                        exact K39 _ _ (Eq.symm ((if_pos c39).trans rfl)) (lv_sub hlz [0, 1, 2, 3, 4, 5, 6, 7, 8] rfl)
                    have ho := ho.1
                    refine lv_if_eq (tgt := 459) hx hb dL_uses_451 (by decide) (fun c37 => ?_) (fun c37 => ?_)
                    · have ho := ho c37
                      refine lv_aload_n hx hb dL_uses_459 rfl (lv_at hl 7 rfl) ?_
                      refine lv_iload hx hb dL_uses_460 (lv_at hl 1 rfl) ?_
                      have hq38 := ho
                      refine k_L_stackFor hst X hS hN hH hk_o1 hq38 t_ml_VernierDrawersLaw_279 hl.1 (Nat.le_of_ble_eq_true rfl) ⟨Nat.le_of_ble_eq_true rfl, Nat.le_of_ble_eq_true rfl⟩ ⟨(show 0 + 12 ≤ kkL_uses o1 p1 v by omega), (show 0 + 12 ≤ kkL_uses o1 p1 v by omega)⟩ dL_uses_462 (fun da H locs hH hS => ?_)
                      refine W.widen (k := 12) (n := 12) (Nat.le_refl _) (Nat.le_refl _) ?_
                      have hlz := hl
                      have hHz := hH
                      have hSz := hS
                      exact K37 _ _ _ _ _ (Eq.symm ((if_pos c37).trans rfl)) hHz hSz (lv_sub hlz [0, 1, 2, 3, 4, 5, 6, 7] rfl)
                    · skip
                      refine lv_ldc (v := (-100104)) hx hb hown (hts _ t_con_VernierDrawersLaw_73) dL_uses_454 ?_
                      refine lv_goto (tgt := 465) hx hb dL_uses_456 (by decide) ?_
                      refine W.widen (k := 12) (n := 12) (Nat.le_of_ble_eq_true rfl) (Nat.le_of_ble_eq_true rfl) ?_
                      have hlz := hl
                      have hHz := hH
                      have hSz := hS
                      exact K37 _ _ _ _ _ (Eq.symm ((if_neg c37).trans rfl)) hHz hSz (lv_sub hlz [0, 1, 2, 3, 4, 5, 6, 7] rfl)
                  refine lv_if_ne (tgt := 442) hx hb dL_uses_425 (by decide) (fun c35 => ?_) (fun c35 => ?_)
                  · skip
                    refine lv_iconst (v := 1) hx hb dL_uses_442 (by decide) ?_
                    refine lv_goto (tgt := 447) hx hb dL_uses_443 (by decide) ?_
                    have hlz := hl
                    exact K35 _ _ (Eq.symm ((if_neg c35).trans rfl)) (lv_sub hlz [0, 1, 2, 3, 4, 5, 6] rfl)
                  · skip
                    refine lv_iload hx hb dL_uses_428 (lv_at hl 0 rfl) ?_
                    refine lv_iconst (v := 1) hx hb dL_uses_430 (by decide) ?_
                    refine lv_icmp_lt (tgt := 442) hx hb dL_uses_431 (by decide) (fun c36 => ?_) (fun c36 => ?_)
                    · skip
                      refine lv_iconst (v := 1) hx hb dL_uses_442 (by decide) ?_
                      refine lv_goto (tgt := 447) hx hb dL_uses_443 (by decide) ?_
                      have hlz := hl
                      exact K35 _ _ (Eq.symm ((if_pos c35).trans ((if_pos c36).trans rfl))) (lv_sub hlz [0, 1, 2, 3, 4, 5, 6] rfl)
                    · skip
                      refine lv_iload hx hb dL_uses_434 (lv_at hl 0 rfl) ?_
                      refine lv_sipush (v := 15000) hx hb dL_uses_436 (by decide) ?_
                      refine lv_icmp_le (tgt := 446) hx hb dL_uses_439 (by decide) (fun c37 => ?_) (fun c37 => ?_)
                      · skip
                        refine lv_iconst (v := 0) hx hb dL_uses_446 (by decide) ?_
                        have hlz := hl
                        exact K35 _ _ (Eq.symm ((if_pos c35).trans ((if_neg c36).trans ((if_pos c37).trans rfl)))) (lv_sub hlz [0, 1, 2, 3, 4, 5, 6] rfl)
                      · skip
                        refine lv_iconst (v := 1) hx hb dL_uses_442 (by decide) ?_
                        refine lv_goto (tgt := 447) hx hb dL_uses_443 (by decide) ?_
                        have hlz := hl
                        exact K35 _ _ (Eq.symm ((if_pos c35).trans ((if_neg c36).trans ((if_neg c37).trans rfl)))) (lv_sub hlz [0, 1, 2, 3, 4, 5, 6] rfl)
                have ho := ho.1
                refine lv_if_ne (tgt := 420) hx hb dL_uses_407 (by decide) (fun c33 => ?_) (fun c33 => ?_)
                · skip
                  refine lv_iload hx hb dL_uses_420 (lv_at hl 0 rfl) ?_
                  have hlz := hl
                  exact K33 _ _ (Eq.symm ((if_neg c33).trans rfl)) (lv_sub hlz [1, 2, 3, 4, 5, 6] rfl)
                · have ho := ho c33
                  refine lv_iload_n hx hb dL_uses_410 rfl (lv_at hl 7 rfl) ?_
                  refine lv_sipush (v := 15100) hx hb dL_uses_411 (by decide) ?_
                  have hq34 := ho
                  refine k_L_low X hS hq34 t_ml_VernierDrawersLaw_250 hl.1 (Nat.le_of_ble_eq_true rfl) ⟨Nat.le_of_ble_eq_true rfl, Nat.le_of_ble_eq_true rfl⟩ ⟨Nat.zero_le _, Nat.zero_le _⟩ dL_uses_414 ?_
                  refine lv_goto (tgt := 422) hx hb dL_uses_417 (by decide) ?_
                  have hlz := hl
                  exact K33 _ _ (Eq.symm ((if_pos c33).trans rfl)) (lv_sub hlz [1, 2, 3, 4, 5, 6] rfl)
              · have ho := ho.1 c17
                refine lv_iload_n hx hb dL_uses_118 rfl (lv_at hl 7 rfl) ?_
                refine lv_iconst (v := 3) hx hb dL_uses_119 (by decide) ?_
                refine lv_ishr hx hb dL_uses_120 ?_
                refine lv_iconst (v := 3) hx hb dL_uses_121 (by decide) ?_
                have hq86 := ho.1
                have ho := ho.2
                refine k_L_low X hS hq86 t_ml_VernierDrawersLaw_250 hl.1 (Nat.le_of_ble_eq_true rfl) ⟨Nat.le_of_ble_eq_true rfl, Nat.le_of_ble_eq_true rfl⟩ ⟨Nat.zero_le _, Nat.zero_le _⟩ dL_uses_122 ?_
                refine lv_istore (lv' := [(8, .int (fL_low (p1 >>> ((3 : Int32) &&& 31)) 3)), (7, .int y14), (6, .int y12), (5, .int y10), (4, .int y8), (3, .int y6), (2, .int (fL_low p1 ((fX10_tools o1 v) + y3))), (0, .ref (ga G o1)), (1, .int p1)]) hx hb dL_uses_125 hl (by decide) rfl (fun ls hl => ?_)
                refine lv_iload_n hx hb dL_uses_127 rfl (lv_at hl 8 rfl) ?_
                refine lv_iconst (v := 5) hx hb dL_uses_128 (by decide) ?_
                refine lv_ishr hx hb dL_uses_129 ?_
                refine lv_iload_n hx hb dL_uses_130 rfl (lv_at hl 8 rfl) ?_
                refine lv_bipush (v := 11) hx hb dL_uses_131 (by decide) ?_
                refine lv_ishr hx hb dL_uses_133 ?_
                refine lv_bipush (v := 9) hx hb dL_uses_134 (by decide) ?_
                have hq87 := ho.1
                have ho := ho.2
                refine k_L_low X hS hq87 t_ml_VernierDrawersLaw_250 hl.1 (Nat.le_of_ble_eq_true rfl) ⟨Nat.le_of_ble_eq_true rfl, Nat.le_of_ble_eq_true rfl⟩ ⟨Nat.zero_le _, Nat.zero_le _⟩ dL_uses_136 ?_
                have K89 : ∀ (y88 : Int32) (ls : Array Slot), y88 = (if ((fL_low (p1 >>> ((11 : Int32) &&& 31)) 9) : Int32) = 0 then 15100 else 2600 : Int32) → lv_has ls 15 [(8, .int (fL_low (p1 >>> ((3 : Int32) &&& 31)) 3)), (7, .int y14), (6, .int y12), (5, .int y10), (4, .int y8), (3, .int y6), (2, .int (fL_low p1 ((fX10_tools o1 v) + y3))), (0, .ref (ga G o1))] → W p l e (rmL_uses o1 p1 v) s m args below meth c s.heap [] 0 0 Q (F0 m 151 ls [.int y88, .int (p1 >>> ((5 : Int32) &&& 31))]) := by
                  intro y88 ls ey88 hl
                  have ho := ho y88 ey88
                  have hq90 := ho.1
                  have ho := ho.2
                  refine k_L_low X hS hq90 t_ml_VernierDrawersLaw_250 hl.1 (Nat.le_of_ble_eq_true rfl) ⟨Nat.le_of_ble_eq_true rfl, Nat.le_of_ble_eq_true rfl⟩ ⟨Nat.zero_le _, Nat.zero_le _⟩ dL_uses_151 ?_
                  refine lv_istore (lv' := [(9, .int (fL_low (p1 >>> ((5 : Int32) &&& 31)) y88)), (8, .int (fL_low (p1 >>> ((3 : Int32) &&& 31)) 3)), (7, .int y14), (6, .int y12), (5, .int y10), (4, .int y8), (3, .int y6), (2, .int (fL_low p1 ((fX10_tools o1 v) + y3))), (0, .ref (ga G o1))]) hx hb dL_uses_154 hl (by decide) rfl (fun ls hl => ?_)
                  refine lv_iload_n hx hb dL_uses_156 rfl (lv_at hl 6 rfl) ?_
                  have K92 : ∀ (y91 : Int32) (ls : Array Slot), y91 = (if (y6 : Int32) = 0 then (if ((fL_low (p1 >>> ((5 : Int32) &&& 31)) y88) : Int32) ≤ 15000 then 0 else 1) else 1 : Int32) → lv_has ls 15 [(9, .int (fL_low (p1 >>> ((5 : Int32) &&& 31)) y88)), (8, .int (fL_low (p1 >>> ((3 : Int32) &&& 31)) 3)), (7, .int y14), (6, .int y12), (5, .int y10), (4, .int y8), (3, .int y6), (2, .int (fL_low p1 ((fX10_tools o1 v) + y3))), (0, .ref (ga G o1))] → W p l e (rmL_uses o1 p1 v) s m args below meth c s.heap [] 0 0 Q (F0 m 173 ls [.int y91]) := by
                    intro y91 ls ey91 hl
                    have ho := ho y91 ey91
                    refine lv_istore (lv' := [(10, .int y91), (9, .int (fL_low (p1 >>> ((5 : Int32) &&& 31)) y88)), (8, .int (fL_low (p1 >>> ((3 : Int32) &&& 31)) 3)), (7, .int y14), (6, .int y12), (5, .int y10), (4, .int y8), (3, .int y6), (2, .int (fL_low p1 ((fX10_tools o1 v) + y3))), (0, .ref (ga G o1))]) hx hb dL_uses_173 hl (by decide) rfl (fun ls hl => ?_)
                    refine lv_iload hx hb dL_uses_175 (lv_at hl 0 rfl) ?_
                    have K94 : ∀ (y93 : Int32) (da : Nat → Nat) (H : Heap) (locs : List Loc) (ls : Array Slot), y93 = (if (y91 : Int32) = 0 then (fL_readingFor o1 (fL_low p1 ((fX10_tools o1 v) + y3)) (fL_low (p1 >>> ((3 : Int32) &&& 31)) 3) (fL_low (p1 >>> ((5 : Int32) &&& 31)) y88) v) else ((-100104)) : Int32) → Hp G da v x H → va_S (gA G) s.heap H locs → lv_has ls 15 [(10, .int y91), (9, .int (fL_low (p1 >>> ((5 : Int32) &&& 31)) y88)), (8, .int (fL_low (p1 >>> ((3 : Int32) &&& 31)) 3)), (7, .int y14), (6, .int y12), (5, .int y10), (4, .int y8), (3, .int y6), (2, .int (fL_low p1 ((fX10_tools o1 v) + y3))), (0, .ref (ga G o1))] → W p l e (rmL_uses o1 p1 v) s m args below meth c H locs 6 6 Q (F0 m 194 ls [.int y93]) := by
                      intro y93 da H locs ls ey93 hH hS hl
                      have ho := ho.2 y93 ey93
                      refine lv_istore (lv' := [(11, .int y93), (10, .int y91), (9, .int (fL_low (p1 >>> ((5 : Int32) &&& 31)) y88)), (8, .int (fL_low (p1 >>> ((3 : Int32) &&& 31)) 3)), (7, .int y14), (6, .int y12), (5, .int y10), (4, .int y8), (3, .int y6), (2, .int (fL_low p1 ((fX10_tools o1 v) + y3))), (0, .ref (ga G o1))]) hx hb dL_uses_194 hl (by decide) rfl (fun ls hl => ?_)
                      refine lv_aload_n hx hb dL_uses_196 rfl (lv_at hl 10 rfl) ?_
                      refine lv_iload_n hx hb dL_uses_197 rfl (lv_at hl 9 rfl) ?_
                      refine lv_iload hx hb dL_uses_198 (lv_at hl 3 rfl) ?_
                      refine lv_iload hx hb dL_uses_200 (lv_at hl 2 rfl) ?_
                      have hq95 := ho.1
                      have ho := ho.2
                      have hk96 : kkL_measure o1 (fL_low p1 ((fX10_tools o1 v) + y3)) (fL_low (p1 >>> ((3 : Int32) &&& 31)) 3) (fL_low (p1 >>> ((5 : Int32) &&& 31)) y88) v = pot ((fL_measure o1 (fL_low p1 ((fX10_tools o1 v) + y3)) (fL_low (p1 >>> ((3 : Int32) &&& 31)) 3) (fL_low (p1 >>> ((5 : Int32) &&& 31)) y88) v).2) - pot v + 36 := rfl
                      have hq97 := ho.1
                      have ho := ho.2
                      refine k_L_measure hst X hS hN hH hk_o1 hq95 t_ml_VernierDrawersLaw_354 hl.1 (Nat.le_of_ble_eq_true rfl) ⟨Nat.le_of_ble_eq_true rfl, Nat.le_of_ble_eq_true rfl⟩ ⟨(show 6 + kkL_measure o1 (fL_low p1 ((fX10_tools o1 v) + y3)) (fL_low (p1 >>> ((3 : Int32) &&& 31)) 3) (fL_low (p1 >>> ((5 : Int32) &&& 31)) y88) v ≤ kkL_uses o1 p1 v by omega), (show 6 + kkL_measure o1 (fL_low p1 ((fX10_tools o1 v) + y3)) (fL_low (p1 >>> ((3 : Int32) &&& 31)) 3) (fL_low (p1 >>> ((5 : Int32) &&& 31)) y88) v ≤ kkL_uses o1 p1 v by omega)⟩ dL_uses_202 (fun da H locs v98 ev98 hH hS => ?_)
                      have ho := ho v98 ev98
                      have hp99 : pot v98 = pot ((fL_measure o1 (fL_low p1 ((fX10_tools o1 v) + y3)) (fL_low (p1 >>> ((3 : Int32) &&& 31)) 3) (fL_low (p1 >>> ((5 : Int32) &&& 31)) y88) v).2) := by rw [ev98]
                      refine W.widen (k := ((pot v98 - pot v) + 42)) (n := ((pot v98 - pot v) + 42)) (by omega) (by omega) ?_
                      obtain ⟨y100, ey100⟩ : ∃ z : Int32, z = (fL_measure o1 (fL_low p1 ((fX10_tools o1 v) + y3)) (fL_low (p1 >>> ((3 : Int32) &&& 31)) 3) (fL_low (p1 >>> ((5 : Int32) &&& 31)) y88) v).1 := ⟨_, rfl⟩
                      rw [← ey100]
                      have ho := ho y100 ey100
                      refine lv_istore (lv' := [(12, .int y100), (11, .int y93), (10, .int y91), (9, .int (fL_low (p1 >>> ((5 : Int32) &&& 31)) y88)), (8, .int (fL_low (p1 >>> ((3 : Int32) &&& 31)) 3)), (7, .int y14), (6, .int y12), (5, .int y10), (4, .int y8), (3, .int y6), (2, .int (fL_low p1 ((fX10_tools o1 v) + y3))), (0, .ref (ga G o1))]) hx hb dL_uses_205 hl (by decide) rfl (fun ls hl => ?_)
                      refine lv_iload hx hb dL_uses_207 (lv_at hl 1 rfl) ?_
                      refine lv_ldc (v := (-100104)) hx hb hown (hts _ t_con_VernierDrawersLaw_73) dL_uses_209 ?_
                      have K102 : ∀ (y101 : Int32) (ls : Array Slot), y101 = (if (y93 : Int32) = (-100104) then 0 else 1 : Int32) → lv_has ls 15 [(12, .int y100), (11, .int y93), (10, .int y91), (7, .int y14), (6, .int y12), (5, .int y10), (4, .int y8), (3, .int y6), (2, .int (fL_low p1 ((fX10_tools o1 v) + y3))), (0, .ref (ga G o1))] → W p l e (rmL_uses o1 p1 v) s m args below meth c H locs ((pot v98 - pot v) + 42) ((pot v98 - pot v) + 42) Q (F0 m 219 ls [.int y101]) := by
                        intro y101 ls ey101 hl
                        have ho := ho y101 ey101
                        refine lv_istore (lv' := [(13, .int y101), (12, .int y100), (11, .int y93), (10, .int y91), (7, .int y14), (6, .int y12), (5, .int y10), (4, .int y8), (3, .int y6), (2, .int (fL_low p1 ((fX10_tools o1 v) + y3))), (0, .ref (ga G o1))]) hx hb dL_uses_219 hl (by decide) rfl (fun ls hl => ?_)
                        refine lv_iload hx hb dL_uses_221 (lv_at hl 1 rfl) ?_
                        refine lv_iload hx hb dL_uses_223 (lv_at hl 3 rfl) ?_
                        have K104 : ∀ (y103 : Int32) (ls : Array Slot), y103 = (if (y91 : Int32) = 0 then (if (y101 : Int32) = 0 then ((-100103)) else (y93 - y14)) else ((-100102)) : Int32) → lv_has ls 15 [(13, .int y101), (7, .int y14), (6, .int y12), (5, .int y10), (4, .int y8), (3, .int y6), (2, .int (fL_low p1 ((fX10_tools o1 v) + y3))), (0, .ref (ga G o1))] → W p l e (rmL_uses o1 p1 v) s m args below meth c H locs ((pot v98 - pot v) + 42) ((pot v98 - pot v) + 42) Q (F0 m 248 ls [.int y103, .int y100]) := by
                          intro y103 ls ey103 hl
                          have ho := ho y103 ey103
                          refine lv_icmp_ne (tgt := 347) hx hb dL_uses_248 (by decide) (fun c105 => ?_) (fun c105 => ?_)
                          · exact absurd ho.1 c105
                          have ho := ho.2
                          refine lv_iload_n hx hb dL_uses_251 rfl (lv_at hl 5 rfl) ?_
                          refine lv_if_ne (tgt := 343) hx hb dL_uses_252 (by decide) (fun c106 => ?_) (fun c106 => ?_)
                          · skip
                            refine lv_iconst (v := 1) hx hb dL_uses_343 (by decide) ?_
                            refine lv_goto (tgt := 348) hx hb dL_uses_344 (by decide) ?_
                            have hHz := hH
                            have hSz := hS
                            have hFz : fL_uses o1 p1 v = v98 := by
                              refine (fL_uses.eq_1 _ _ _).trans ?_
                              dsimp only
                              try rw [← ey3]
                              try rw [← ey6]
                              try rw [← ey8]
                              try rw [← ey10]
                              try rw [← ey12]
                              try rw [← ey14]
                              try rw [← ey88]
                              try rw [← ey91]
                              try rw [← ey93]
                              try rw [← ev98]
                              try rw [← ey100]
                              try rw [← ey101]
                              try rw [← ey103]
                              all_goals rw [if_pos c17]
                              all_goals rw [if_neg c106]
                            exact E _ _ _ _ _ _ _ _ _ dL_uses_348 rfl rfl (Eq.symm hFz) hHz hSz (show ((pot v98 - pot v) + 42) ≤ kkL_uses o1 p1 v by omega) (show ((pot v98 - pot v) + 42) ≤ kkL_uses o1 p1 v by omega)
                          · have ho := ho c106
                            refine lv_aload_n hx hb dL_uses_255 rfl (lv_at hl 7 rfl) ?_
                            refine lv_iload_n hx hb dL_uses_256 rfl (lv_at hl 6 rfl) ?_
                            have hq107 := ho.1
                            have ho := ho.2
                            have hq108 := ho.1
                            have ho := ho.2
                            refine kZ_X10_usesOf X hS hH hk_o1 hq107 hq108 t_ml_VernierDrawersLaw_128 hl.1 (Nat.le_of_ble_eq_true rfl) ⟨Nat.le_of_ble_eq_true rfl, Nat.le_of_ble_eq_true rfl⟩ ⟨(show ((pot v98 - pot v) + 42) ≤ kkL_uses o1 p1 v by omega), (show ((pot v98 - pot v) + 42) ≤ kkL_uses o1 p1 v by omega)⟩ dL_uses_257 ?_
                            refine lv_iload hx hb dL_uses_260 (lv_at hl 4 rfl) ?_
                            refine lv_iload hx hb dL_uses_262 (lv_at hl 0 rfl) ?_
                            have K110 : ∀ (y109 : Int32) (ls : Array Slot), y109 = (if (y101 : Int32) = 0 then 0 else 1 : Int32) → lv_has ls 15 [(13, .int y101), (7, .int y14), (6, .int y12), (5, .int y10), (2, .int (fL_low p1 ((fX10_tools o1 v) + y3))), (0, .ref (ga G o1))] → W p l e (rmL_uses o1 p1 v) s m args below meth c H locs ((pot v98 - pot v) + 42) ((pot v98 - pot v) + 42) Q (F0 m 272 ls [.int y109, .int y8, .int ((fX10_usesOf o1 (fL_low p1 ((fX10_tools o1 v) + y3)) v98).2)]) := by
                              intro y109 ls ey109 hl
                              have ho := ho y109 ey109
                              refine lv_iadd hx hb dL_uses_272 ?_
                              refine lv_icmp_ne (tgt := 347) hx hb dL_uses_273 (by decide) (fun c111 => ?_) (fun c111 => ?_)
                              · exact absurd ho.1 c111
                              have ho := ho.2
                              refine lv_aload_n hx hb dL_uses_276 rfl (lv_at hl 5 rfl) ?_
                              refine lv_iload_n hx hb dL_uses_277 rfl (lv_at hl 4 rfl) ?_
                              have hq112 := ho.1
                              have ho := ho.2
                              have hq113 := ho.1
                              have ho := ho.2
                              refine kZ_X10_usesLeft X hS hH hk_o1 hq112 hq113 t_ml_VernierDrawersLaw_137 hl.1 (Nat.le_of_ble_eq_true rfl) ⟨Nat.le_of_ble_eq_true rfl, Nat.le_of_ble_eq_true rfl⟩ ⟨(show ((pot v98 - pot v) + 42) ≤ kkL_uses o1 p1 v by omega), (show ((pot v98 - pot v) + 42) ≤ kkL_uses o1 p1 v by omega)⟩ dL_uses_278 ?_
                              refine lv_iload hx hb dL_uses_281 (lv_at hl 2 rfl) ?_
                              refine lv_iload hx hb dL_uses_283 (lv_at hl 0 rfl) ?_
                              have K115 : ∀ (y114 : Int32) (ls : Array Slot), y114 = (if (y101 : Int32) = 0 then 0 else (if (y12 : Int32) ≤ 0 then 0 else 1) : Int32) → lv_has ls 15 [(13, .int y101), (7, .int y14), (5, .int y10), (2, .int (fL_low p1 ((fX10_tools o1 v) + y3))), (0, .ref (ga G o1))] → W p l e (rmL_uses o1 p1 v) s m args below meth c H locs ((pot v98 - pot v) + 42) ((pot v98 - pot v) + 42) Q (F0 m 298 ls [.int y114, .int y12, .int ((fX10_usesLeft o1 (fL_low p1 ((fX10_tools o1 v) + y3)) v98).2)]) := by
                                intro y114 ls ey114 hl
                                have ho := ho y114 ey114
                                refine lv_isub hx hb dL_uses_298 ?_
                                refine lv_icmp_ne (tgt := 347) hx hb dL_uses_299 (by decide) (fun c116 => ?_) (fun c116 => ?_)
                                · exact absurd ho.1 c116
                                have ho := ho.2
                                refine lv_aload_n hx hb dL_uses_302 rfl (lv_at hl 4 rfl) ?_
                                refine lv_iload_n hx hb dL_uses_303 rfl (lv_at hl 3 rfl) ?_
                                have hq117 := ho.1
                                have ho := ho.2
                                have hq118 := ho.1
                                have ho := ho.2
                                refine kZ_X10_wearOf X hS hH hk_o1 hq117 hq118 t_ml_VernierDrawersLaw_131 hl.1 (Nat.le_of_ble_eq_true rfl) ⟨Nat.le_of_ble_eq_true rfl, Nat.le_of_ble_eq_true rfl⟩ ⟨(show ((pot v98 - pot v) + 42) ≤ kkL_uses o1 p1 v by omega), (show ((pot v98 - pot v) + 42) ≤ kkL_uses o1 p1 v by omega)⟩ dL_uses_304 ?_
                                refine lv_iload hx hb dL_uses_307 (lv_at hl 2 rfl) ?_
                                refine lv_icmp_lt (tgt := 347) hx hb dL_uses_309 (by decide) (fun c119 => ?_) (fun c119 => ?_)
                                · exact absurd c119 ho.1
                                have ho := ho.2
                                refine lv_aload_n hx hb dL_uses_312 rfl (lv_at hl 4 rfl) ?_
                                refine lv_iload_n hx hb dL_uses_313 rfl (lv_at hl 3 rfl) ?_
                                refine kZ_X10_wearOf X hS hH hk_o1 hq117 hq118 t_ml_VernierDrawersLaw_131 hl.1 (Nat.le_of_ble_eq_true rfl) ⟨Nat.le_of_ble_eq_true rfl, Nat.le_of_ble_eq_true rfl⟩ ⟨(show ((pot v98 - pot v) + 42) ≤ kkL_uses o1 p1 v by omega), (show ((pot v98 - pot v) + 42) ≤ kkL_uses o1 p1 v by omega)⟩ dL_uses_314 ?_
                                refine lv_iload hx hb dL_uses_317 (lv_at hl 2 rfl) ?_
                                refine lv_iload hx hb dL_uses_319 (lv_at hl 0 rfl) ?_
                                have K121 : ∀ (y120 : Int32) (ls : Array Slot), y120 = (if (y101 : Int32) = 0 then 0 else 1 : Int32) → lv_has ls 15 [(7, .int y14), (2, .int (fL_low p1 ((fX10_tools o1 v) + y3))), (0, .ref (ga G o1))] → W p l e (rmL_uses o1 p1 v) s m args below meth c H locs ((pot v98 - pot v) + 42) ((pot v98 - pot v) + 42) Q (F0 m 329 ls [.int y120, .int y10, .int ((fX10_wearOf o1 (fL_low p1 ((fX10_tools o1 v) + y3)) v98).2)]) := by
                                  intro y120 ls ey120 hl
                                  have ho := ho y120 ey120
                                  refine lv_iadd hx hb dL_uses_329 ?_
                                  refine lv_icmp_gt (tgt := 347) hx hb dL_uses_330 (by decide) (fun c122 => ?_) (fun c122 => ?_)
                                  · exact absurd c122 ho.1
                                  have ho := ho.2
                                  refine lv_aload_n hx hb dL_uses_333 rfl (lv_at hl 2 rfl) ?_
                                  refine lv_iload_n hx hb dL_uses_334 rfl (lv_at hl 1 rfl) ?_
                                  have hq123 := ho.1
                                  have ho := ho.2
                                  have hq124 := ho.1
                                  have ho := ho.2
                                  refine kZ_X10_knownError X hS hH hk_o1 hq123 hq124 t_ml_VernierDrawersLaw_134 hl.1 (Nat.le_of_ble_eq_true rfl) ⟨Nat.le_of_ble_eq_true rfl, Nat.le_of_ble_eq_true rfl⟩ ⟨(show ((pot v98 - pot v) + 42) ≤ kkL_uses o1 p1 v by omega), (show ((pot v98 - pot v) + 42) ≤ kkL_uses o1 p1 v by omega)⟩ dL_uses_335 ?_
                                  refine lv_iload hx hb dL_uses_338 (lv_at hl 0 rfl) ?_
                                  refine lv_icmp_ne (tgt := 347) hx hb dL_uses_340 (by decide) (fun c125 => ?_) (fun c125 => ?_)
                                  · exact absurd ho c125
                                  refine lv_iconst (v := 1) hx hb dL_uses_343 (by decide) ?_
                                  refine lv_goto (tgt := 348) hx hb dL_uses_344 (by decide) ?_
                                  have hHz := hH
                                  have hSz := hS
                                  have hFz : fL_uses o1 p1 v = v98 := by
                                    refine (fL_uses.eq_1 _ _ _).trans ?_
                                    dsimp only
                                    try rw [← ey3]
                                    try rw [← ey6]
                                    try rw [← ey8]
                                    try rw [← ey10]
                                    try rw [← ey12]
                                    try rw [← ey14]
                                    try rw [← ey88]
                                    try rw [← ey91]
                                    try rw [← ey93]
                                    try rw [← ev98]
                                    try rw [← ey100]
                                    try rw [← ey101]
                                    try rw [← ey103]
                                    try rw [← ey109]
                                    try rw [← ey114]
                                    have dy120 : y120 = y109 := (by rw [ey120, ey109])
                                    try rw [dy120] at c17
                                    try rw [dy120] at c106
                                    all_goals rw [if_pos c17]
                                    all_goals rw [if_pos c106]
                                  exact E _ _ _ _ _ _ _ _ _ dL_uses_348 rfl rfl (Eq.symm hFz) hHz hSz (show ((pot v98 - pot v) + 42) ≤ kkL_uses o1 p1 v by omega) (show ((pot v98 - pot v) + 42) ≤ kkL_uses o1 p1 v by omega)
                                refine lv_if_eq (tgt := 328) hx hb dL_uses_321 (by decide) (fun c121 => ?_) (fun c121 => ?_)
                                · skip
                                  refine lv_iconst (v := 0) hx hb dL_uses_328 (by decide) ?_
                                  have hlz := hl
                                  exact K121 _ _ (Eq.symm ((if_pos c121).trans rfl)) (lv_sub hlz [1, 3, 4] rfl)
                                · skip
                                  refine lv_iconst (v := 1) hx hb dL_uses_324 (by decide) ?_
                                  refine lv_goto (tgt := 329) hx hb dL_uses_325 (by decide) ?_
                                  have hlz := hl
                                  exact K121 _ _ (Eq.symm ((if_neg c121).trans rfl)) (lv_sub hlz [1, 3, 4] rfl)
                              refine lv_if_eq (tgt := 297) hx hb dL_uses_285 (by decide) (fun c115 => ?_) (fun c115 => ?_)
                              · skip
                                refine lv_iconst (v := 0) hx hb dL_uses_297 (by decide) ?_
                                have hlz := hl
                                exact K115 _ _ (Eq.symm ((if_pos c115).trans rfl)) (lv_sub hlz [0, 1, 3, 4, 5] rfl)
                              · skip
                                refine lv_iload hx hb dL_uses_288 (lv_at hl 2 rfl) ?_
                                refine lv_if_le (tgt := 297) hx hb dL_uses_290 (by decide) (fun c116 => ?_) (fun c116 => ?_)
                                · skip
                                  refine lv_iconst (v := 0) hx hb dL_uses_297 (by decide) ?_
                                  have hlz := hl
                                  exact K115 _ _ (Eq.symm ((if_neg c115).trans ((if_pos c116).trans rfl))) (lv_sub hlz [0, 1, 3, 4, 5] rfl)
                                · skip
                                  refine lv_iconst (v := 1) hx hb dL_uses_293 (by decide) ?_
                                  refine lv_goto (tgt := 298) hx hb dL_uses_294 (by decide) ?_
                                  have hlz := hl
                                  exact K115 _ _ (Eq.symm ((if_neg c115).trans ((if_neg c116).trans rfl))) (lv_sub hlz [0, 1, 3, 4, 5] rfl)
                            refine lv_if_eq (tgt := 271) hx hb dL_uses_264 (by decide) (fun c110 => ?_) (fun c110 => ?_)
                            · skip
                              refine lv_iconst (v := 0) hx hb dL_uses_271 (by decide) ?_
                              have hlz := hl
                              exact K110 _ _ (Eq.symm ((if_pos c110).trans rfl)) (lv_sub hlz [0, 1, 2, 3, 6, 7] rfl)
                            · skip
                              refine lv_iconst (v := 1) hx hb dL_uses_267 (by decide) ?_
                              refine lv_goto (tgt := 272) hx hb dL_uses_268 (by decide) ?_
                              have hlz := hl
                              exact K110 _ _ (Eq.symm ((if_neg c110).trans rfl)) (lv_sub hlz [0, 1, 2, 3, 6, 7] rfl)
                        refine lv_if_eq (tgt := 233) hx hb dL_uses_225 (by decide) (fun c104 => ?_) (fun c104 => ?_)
                        · skip
                          refine lv_iload hx hb dL_uses_233 (lv_at hl 0 rfl) ?_
                          refine lv_if_eq (tgt := 246) hx hb dL_uses_235 (by decide) (fun c105 => ?_) (fun c105 => ?_)
                          · skip
                            refine lv_ldc (v := (-100103)) hx hb hown (hts _ t_con_VernierDrawersLaw_20) dL_uses_246 ?_
                            have hlz := hl
                            exact K104 _ _ (Eq.symm ((if_pos c104).trans ((if_pos c105).trans rfl))) (lv_sub hlz [0, 4, 5, 6, 7, 8, 9, 10] rfl)
                          · skip
                            refine lv_iload hx hb dL_uses_238 (lv_at hl 2 rfl) ?_
                            refine lv_iload hx hb dL_uses_240 (lv_at hl 4 rfl) ?_
                            refine lv_isub hx hb dL_uses_242 ?_
                            refine lv_goto (tgt := 248) hx hb dL_uses_243 (by decide) ?_
                            have hlz := hl
                            exact K104 _ _ (Eq.symm ((if_pos c104).trans ((if_neg c105).trans rfl))) (lv_sub hlz [0, 4, 5, 6, 7, 8, 9, 10] rfl)
                        · skip
                          refine lv_ldc (v := (-100102)) hx hb hown (hts _ t_con_VernierDrawersLaw_17) dL_uses_228 ?_
                          refine lv_goto (tgt := 248) hx hb dL_uses_230 (by decide) ?_
                          have hlz := hl
                          exact K104 _ _ (Eq.symm ((if_neg c104).trans rfl)) (lv_sub hlz [0, 4, 5, 6, 7, 8, 9, 10] rfl)
                      refine lv_icmp_eq (tgt := 218) hx hb dL_uses_211 (by decide) (fun c102 => ?_) (fun c102 => ?_)
                      · skip
                        refine lv_iconst (v := 0) hx hb dL_uses_218 (by decide) ?_
                        have hlz := hl
                        exact K102 _ _ (Eq.symm ((if_pos c102).trans rfl)) (lv_sub hlz [0, 1, 2, 5, 6, 7, 8, 9, 10, 11] rfl)
                      · skip
                        refine lv_iconst (v := 1) hx hb dL_uses_214 (by decide) ?_
                        refine lv_goto (tgt := 219) hx hb dL_uses_215 (by decide) ?_
                        have hlz := hl
                        exact K102 _ _ (Eq.symm ((if_neg c102).trans rfl)) (lv_sub hlz [0, 1, 2, 5, 6, 7, 8, 9, 10, 11] rfl)
                    have ho := ho.1
                    refine lv_if_eq (tgt := 185) hx hb dL_uses_177 (by decide) (fun c94 => ?_) (fun c94 => ?_)
                    · have ho := ho c94
                      refine lv_aload_n hx hb dL_uses_185 rfl (lv_at hl 9 rfl) ?_
                      refine lv_iload_n hx hb dL_uses_186 rfl (lv_at hl 8 rfl) ?_
                      refine lv_iload hx hb dL_uses_187 (lv_at hl 2 rfl) ?_
                      refine lv_iload hx hb dL_uses_189 (lv_at hl 1 rfl) ?_
                      have hq95 := ho
                      refine k_L_readingFor hst X hS hN hH hk_o1 hq95 t_ml_VernierDrawersLaw_242 hl.1 (Nat.le_of_ble_eq_true rfl) ⟨Nat.le_of_ble_eq_true rfl, Nat.le_of_ble_eq_true rfl⟩ ⟨(show 0 + 6 ≤ kkL_uses o1 p1 v by omega), (show 0 + 6 ≤ kkL_uses o1 p1 v by omega)⟩ dL_uses_191 (fun da H locs hH hS => ?_)
                      refine W.widen (k := 6) (n := 6) (Nat.le_refl _) (Nat.le_refl _) ?_
                      have hlz := hl
                      have hHz := hH
                      have hSz := hS
                      exact K94 _ _ _ _ _ (Eq.symm ((if_pos c94).trans rfl)) hHz hSz (lv_sub hlz [0, 1, 2, 3, 4, 5, 6, 7, 8, 9] rfl)
                    · skip
                      refine lv_ldc (v := (-100104)) hx hb hown (hts _ t_con_VernierDrawersLaw_73) dL_uses_180 ?_
                      refine lv_goto (tgt := 194) hx hb dL_uses_182 (by decide) ?_
                      refine W.widen (k := 6) (n := 6) (Nat.le_of_ble_eq_true rfl) (Nat.le_of_ble_eq_true rfl) ?_
                      have hlz := hl
                      have hHz := hH
                      have hSz := hS
                      exact K94 _ _ _ _ _ (Eq.symm ((if_neg c94).trans rfl)) hHz hSz (lv_sub hlz [0, 1, 2, 3, 4, 5, 6, 7, 8, 9] rfl)
                  refine lv_if_ne (tgt := 168) hx hb dL_uses_157 (by decide) (fun c92 => ?_) (fun c92 => ?_)
                  · skip
                    refine lv_iconst (v := 1) hx hb dL_uses_168 (by decide) ?_
                    refine lv_goto (tgt := 173) hx hb dL_uses_169 (by decide) ?_
                    have hlz := hl
                    exact K92 _ _ (Eq.symm ((if_neg c92).trans rfl)) (lv_sub hlz [0, 1, 2, 3, 4, 5, 6, 7, 8] rfl)
                  · skip
                    refine lv_iload hx hb dL_uses_160 (lv_at hl 0 rfl) ?_
                    refine lv_sipush (v := 15000) hx hb dL_uses_162 (by decide) ?_
                    refine lv_icmp_le (tgt := 172) hx hb dL_uses_165 (by decide) (fun c93 => ?_) (fun c93 => ?_)
                    · skip
                      refine lv_iconst (v := 0) hx hb dL_uses_172 (by decide) ?_
                      have hlz := hl
                      exact K92 _ _ (Eq.symm ((if_pos c92).trans ((if_pos c93).trans rfl))) (lv_sub hlz [0, 1, 2, 3, 4, 5, 6, 7, 8] rfl)
                    · skip
                      refine lv_iconst (v := 1) hx hb dL_uses_168 (by decide) ?_
                      refine lv_goto (tgt := 173) hx hb dL_uses_169 (by decide) ?_
                      have hlz := hl
                      exact K92 _ _ (Eq.symm ((if_pos c92).trans ((if_neg c93).trans rfl))) (lv_sub hlz [0, 1, 2, 3, 4, 5, 6, 7, 8] rfl)
                refine lv_if_ne (tgt := 148) hx hb dL_uses_139 (by decide) (fun c89 => ?_) (fun c89 => ?_)
                · skip
                  refine lv_sipush (v := 2600) hx hb dL_uses_148 (by decide) ?_
                  have hlz := hl
                  exact K89 _ _ (Eq.symm ((if_neg c89).trans rfl)) (lv_sub hlz [0, 1, 2, 3, 4, 5, 6, 7] rfl)
                · skip
                  refine lv_sipush (v := 15100) hx hb dL_uses_142 (by decide) ?_
                  refine lv_goto (tgt := 151) hx hb dL_uses_145 (by decide) ?_
                  have hlz := hl
                  exact K89 _ _ (Eq.symm ((if_pos c89).trans rfl)) (lv_sub hlz [0, 1, 2, 3, 4, 5, 6, 7] rfl)
            have ho := ho.1
            refine lv_if_eq (tgt := 101) hx hb dL_uses_94 (by decide) (fun c15 => ?_) (fun c15 => ?_)
            · have ho := ho c15
              refine lv_aload_n hx hb dL_uses_101 rfl (lv_at hl 5 rfl) ?_
              refine lv_iload_n hx hb dL_uses_102 rfl (lv_at hl 4 rfl) ?_
              have hq16 := ho.1
              have ho := ho.2
              have hq17 := ho
              refine kZ_X10_knownError X hS hH hk_o1 hq16 hq17 t_ml_VernierDrawersLaw_134 hl.1 (Nat.le_of_ble_eq_true rfl) ⟨Nat.le_of_ble_eq_true rfl, Nat.le_of_ble_eq_true rfl⟩ ⟨Nat.zero_le _, Nat.zero_le _⟩ dL_uses_103 ?_
              have hlz := hl
              exact K15 _ _ (Eq.symm ((if_pos c15).trans rfl)) (lv_sub hlz [0, 1, 2, 3, 4, 5, 6] rfl)
            · skip
              refine lv_iconst (v := 0) hx hb dL_uses_97 (by decide) ?_
              refine lv_goto (tgt := 106) hx hb dL_uses_98 (by decide) ?_
              have hlz := hl
              exact K15 _ _ (Eq.symm ((if_neg c15).trans rfl)) (lv_sub hlz [0, 1, 2, 3, 4, 5, 6] rfl)
          have ho := ho.1
          refine lv_if_eq (tgt := 86) hx hb dL_uses_79 (by decide) (fun c13 => ?_) (fun c13 => ?_)
          · have ho := ho c13
            refine lv_aload_n hx hb dL_uses_86 rfl (lv_at hl 4 rfl) ?_
            refine lv_iload_n hx hb dL_uses_87 rfl (lv_at hl 3 rfl) ?_
            have hq14 := ho.1
            have ho := ho.2
            have hq15 := ho
            refine kZ_X10_usesLeft X hS hH hk_o1 hq14 hq15 t_ml_VernierDrawersLaw_137 hl.1 (Nat.le_of_ble_eq_true rfl) ⟨Nat.le_of_ble_eq_true rfl, Nat.le_of_ble_eq_true rfl⟩ ⟨Nat.zero_le _, Nat.zero_le _⟩ dL_uses_88 ?_
            have hlz := hl
            exact K13 _ _ (Eq.symm ((if_pos c13).trans rfl)) (lv_sub hlz [0, 1, 2, 3, 4, 5] rfl)
          · skip
            refine lv_iconst (v := 0) hx hb dL_uses_82 (by decide) ?_
            refine lv_goto (tgt := 91) hx hb dL_uses_83 (by decide) ?_
            have hlz := hl
            exact K13 _ _ (Eq.symm ((if_neg c13).trans rfl)) (lv_sub hlz [0, 1, 2, 3, 4, 5] rfl)
        have ho := ho.1
        refine lv_if_eq (tgt := 71) hx hb dL_uses_64 (by decide) (fun c11 => ?_) (fun c11 => ?_)
        · have ho := ho c11
          refine lv_aload_n hx hb dL_uses_71 rfl (lv_at hl 3 rfl) ?_
          refine lv_iload_n hx hb dL_uses_72 rfl (lv_at hl 2 rfl) ?_
          have hq12 := ho.1
          have ho := ho.2
          have hq13 := ho
          refine kZ_X10_wearOf X hS hH hk_o1 hq12 hq13 t_ml_VernierDrawersLaw_131 hl.1 (Nat.le_of_ble_eq_true rfl) ⟨Nat.le_of_ble_eq_true rfl, Nat.le_of_ble_eq_true rfl⟩ ⟨Nat.zero_le _, Nat.zero_le _⟩ dL_uses_73 ?_
          have hlz := hl
          exact K11 _ _ (Eq.symm ((if_pos c11).trans rfl)) (lv_sub hlz [0, 1, 2, 3, 4] rfl)
        · skip
          refine lv_iconst (v := 0) hx hb dL_uses_67 (by decide) ?_
          refine lv_goto (tgt := 76) hx hb dL_uses_68 (by decide) ?_
          have hlz := hl
          exact K11 _ _ (Eq.symm ((if_neg c11).trans rfl)) (lv_sub hlz [0, 1, 2, 3, 4] rfl)
      have ho := ho.1
      refine lv_if_eq (tgt := 56) hx hb dL_uses_49 (by decide) (fun c9 => ?_) (fun c9 => ?_)
      · have ho := ho c9
        refine lv_aload_n hx hb dL_uses_56 rfl (lv_at hl 2 rfl) ?_
        refine lv_iload_n hx hb dL_uses_57 rfl (lv_at hl 1 rfl) ?_
        have hq10 := ho.1
        have ho := ho.2
        have hq11 := ho
        refine kZ_X10_usesOf X hS hH hk_o1 hq10 hq11 t_ml_VernierDrawersLaw_128 hl.1 (Nat.le_of_ble_eq_true rfl) ⟨Nat.le_of_ble_eq_true rfl, Nat.le_of_ble_eq_true rfl⟩ ⟨Nat.zero_le _, Nat.zero_le _⟩ dL_uses_58 ?_
        have hlz := hl
        exact K9 _ _ (Eq.symm ((if_pos c9).trans rfl)) (lv_sub hlz [0, 1, 2, 3] rfl)
      · skip
        refine lv_iconst (v := 0) hx hb dL_uses_52 (by decide) ?_
        refine lv_goto (tgt := 61) hx hb dL_uses_53 (by decide) ?_
        have hlz := hl
        exact K9 _ _ (Eq.symm ((if_neg c9).trans rfl)) (lv_sub hlz [0, 1, 2, 3] rfl)
    refine lv_icmp_ne (tgt := 46) hx hb dL_uses_39 (by decide) (fun c7 => ?_) (fun c7 => ?_)
    · skip
      refine lv_iconst (v := 0) hx hb dL_uses_46 (by decide) ?_
      have hlz := hl
      exact K7 _ _ (Eq.symm ((if_neg c7).trans rfl)) (lv_sub hlz [0, 1, 2] rfl)
    · skip
      refine lv_iconst (v := 1) hx hb dL_uses_42 (by decide) ?_
      refine lv_goto (tgt := 47) hx hb dL_uses_43 (by decide) ?_
      have hlz := hl
      exact K7 _ _ (Eq.symm ((if_pos c7).trans rfl)) (lv_sub hlz [0, 1, 2] rfl)
  refine lv_if_eq (tgt := 24) hx hb dL_uses_14 (by decide) (fun c4 => ?_) (fun c4 => ?_)
  · skip
    refine lv_iconst (v := 1) hx hb dL_uses_24 (by decide) ?_
    refine lv_goto (tgt := 29) hx hb dL_uses_25 (by decide) ?_
    have hlz := hl
    exact K4 _ _ (Eq.symm ((if_pos c4).trans rfl)) (lv_sub hlz [0, 1] rfl)
  · skip
    refine lv_aload_n hx hb dL_uses_17 rfl (lv_at hl 0 rfl) ?_
    refine k_X10_tools X hS hH hk_o1 hq1 t_ml_VernierDrawersLaw_230 hl.1 (Nat.le_of_ble_eq_true rfl) ⟨Nat.le_of_ble_eq_true rfl, Nat.le_of_ble_eq_true rfl⟩ ⟨Nat.zero_le _, Nat.zero_le _⟩ dL_uses_18 ?_
    refine lv_if_ne (tgt := 28) hx hb dL_uses_21 (by decide) (fun c5 => ?_) (fun c5 => ?_)
    · skip
      refine lv_iconst (v := 0) hx hb dL_uses_28 (by decide) ?_
      have hlz := hl
      exact K4 _ _ (Eq.symm ((if_neg c4).trans ((if_neg c5).trans rfl))) (lv_sub hlz [0, 1] rfl)
    · skip
      refine lv_iconst (v := 1) hx hb dL_uses_24 (by decide) ?_
      refine lv_goto (tgt := 29) hx hb dL_uses_25 (by decide) ?_
      have hlz := hl
      exact K4 _ _ (Eq.symm ((if_neg c4).trans ((if_pos c5).trans rfl))) (lv_sub hlz [0, 1] rfl)
theorem k_L_uses {p : Program} {l : Launch} {e : Env} {R : Room} {s : State} {m : MethodId} {args : Array Value} {below : List Frame} {meth : Method} {c : Code} {H : Heap} {locs : List Loc} {cells slots : Nat} {Q : State → Prop} {cc : ByteArray} {pc nL : Nat} {ls : Array Slot} {rest : List Value} {G : gG} {own : String} {da : Nat → Nat} {v : vSt} {x : gX} (hst : l.stackTraces = false) (X : CX G p s m args c cc nL own) (hS : va_S (gA G) s.heap H locs) (hN : NC s) (hH : Hp G da v x H) {o1 : Nat} (hk_o1 : kd o1 = 10) {p1 : Int32} (ho : oL_uses o1 p1 v) {idx : Nat} (hml : Cond.methodLink own idx yL_uses ∈ TT) (hls : ls.size = nL) (hsum : (rest.map fun v => v.category).sum ≤ 8) (hR : (rmL_uses o1 p1 v).frames + 1 ≤ R.frames ∧ 8 + (15 + 11) + (rmL_uses o1 p1 v).locals ≤ R.locals) (hcs : cells + (kkL_uses o1 p1 v) ≤ R.cells ∧ slots + (kkL_uses o1 p1 v) ≤ R.slots) (hdg : decode cc pc = .ok (.invokestatic idx, 3)) (kk : ∀ (d : Nat → Nat) (H1 : Heap) (locs1 : List Loc) (v1 : vSt), v1 = fL_uses o1 p1 v → Hp G d v1 x H1 → va_S (gA G) s.heap H1 locs1 → W p l e R s m args below meth c H1 locs1 (cells + (kkL_uses o1 p1 v)) (slots + (kkL_uses o1 p1 v)) Q (F0 m (pc + 3) ls (.int 1 :: rest))) : W p l e R s m args below meth c H locs cells slots Q (F0 m pc ls (.int p1 :: .ref (ga G o1) :: rest)) := c_mi X.2.2.2.2.2.2 (runS (k := 2) X.1 X.2.1 X.2.2.1 X.2.2.2.1 X.2.2.2.2.1 (mL_uses l hst G da v x o1 hk_o1 p1 ho) pN_bl hml t_st_L_uses t_ini_VernierDrawersLaw t_code_L_uses ⟨by decide, by decide, by decide +kernel⟩ rfl rfl hR hcs (preN X hN hS hH) rfl hls rfl hsum hdg) hS kk
