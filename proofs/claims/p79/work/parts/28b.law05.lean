/-! the law's methods: what comes -/
def lL_comes_922 (o1 : Nat) (v13 : vSt) : Nat → Int32 → Int32 → Int32
  | 0, i15, i16 => i16
  | n + 1, i15, i16 => if ((fX10_tools o1 v13) : Int32) ≤ i15 then i16 else (let y21 : Int32 := (if (((fX10_isDue o1 i15 v13).2) : Int32) = 0 then 0 else 1 : Int32); lL_comes_922 o1 v13 n (i15 + 1) (i16 + y21))
def fL_comes (o1 : Nat) (p1 : Int32) (p2 : Int32) (v : vSt) : vSt := let y2 : Int32 := (if ((fL_low (p2 >>> ((9 : Int32) &&& 31)) 9) : Int32) = 0 then 1 else 0 : Int32); if (p1 : Int32) = 0 then (let y140 : Int32 := (if (y2 : Int32) = 0 then 5 else 6 : Int32); let y143 : Int32 := (if (y2 : Int32) = 0 then 21 else 70 : Int32); let y146 : Int32 := (if (y2 : Int32) = 0 then 10 else 35 : Int32); let y148 : Int32 := (if ((fL_low p2 y140) : Int32) = 5 then 1 else (if (((fL_low (p2 >>> ((3 : Int32) &&& 31)) y143) - y146) : Int32) < (-30) then 1 else (if (((fL_low (p2 >>> ((3 : Int32) &&& 31)) y143) - y146) : Int32) ≤ 30 then 0 else 1)) : Int32); let v153 : vSt := (fL_addTool o1 (fL_low p2 y140) ((fL_low (p2 >>> ((3 : Int32) &&& 31)) y143) - y146) v).2; let y155 : Int32 := (if (y148 : Int32) = 0 then (if ((fX10_tools o1 v) : Int32) = 6 then ((-100103)) else (fX10_tools o1 v)) else ((-100102)) : Int32); let y159 : Int32 := (if (0 : Int32) ≤ ((fL_addTool o1 (fL_low p2 y140) ((fL_low (p2 >>> ((3 : Int32) &&& 31)) y143) - y146) v).1) then 1 else 0 : Int32); if (((fL_addTool o1 (fL_low p2 y140) ((fL_low (p2 >>> ((3 : Int32) &&& 31)) y143) - y146) v).1) : Int32) < 0 then v153 else (let y180 : Int32 := (if (0 : Int32) ≤ ((30 : Int32) + ((fL_low (p2 >>> ((3 : Int32) &&& 31)) y143) - y146)) then ((fX10_readingByLooking o1 (fX10_tools o1 v) 0 30 v153).2) else ((-100104)) : Int32); v153)) else (if (p1 : Int32) = 1 then (let y108 : Int32 := (if (y2 : Int32) = 0 then ((1 : Int32) + (fL_low p2 700)) else (fL_low p2 5100) : Int32); let y110 : Int32 := (if (y2 : Int32) = 0 then 7 else 9 : Int32); let y113 : Int32 := (if (y2 : Int32) = 0 then 3 else 4 : Int32); let y115 : Int32 := (if (y108 : Int32) < 1 then 1 else (if (5000 : Int32) < y108 then 1 else (if (((fL_low (p2 >>> ((5 : Int32) &&& 31)) y110) - y113) : Int32) < (-3) then 1 else (if (((fL_low (p2 >>> ((5 : Int32) &&& 31)) y110) - y113) : Int32) ≤ 3 then 0 else 1))) : Int32); let v120 : vSt := (fL_addBlock o1 y108 ((fL_low (p2 >>> ((5 : Int32) &&& 31)) y110) - y113) v).2; let y122 : Int32 := (if (y115 : Int32) = 0 then (if ((fX10_blocks o1 v) : Int32) = 10 then ((-100103)) else (fX10_blocks o1 v)) else ((-100102)) : Int32); let y126 : Int32 := (if (0 : Int32) ≤ ((fL_addBlock o1 y108 ((fL_low (p2 >>> ((5 : Int32) &&& 31)) y110) - y113) v).1) then 1 else 0 : Int32); if (((fL_addBlock o1 y108 ((fL_low (p2 >>> ((5 : Int32) &&& 31)) y110) - y113) v).1) : Int32) < 0 then v120 else v120) else (if (p1 : Int32) = 2 then (let y64 : Int32 := (if (y2 : Int32) = 0 then ((100 : Int32) + (fL_low p2 2000)) else (fL_low p2 14200) : Int32); let y66 : Int32 := (if (y2 : Int32) = 0 then 60 else 102 : Int32); let y69 : Int32 := (if (y2 : Int32) = 0 then 60 else 102 : Int32); let y72 : Int32 := (if (y2 : Int32) = 0 then 3 else 4 : Int32); let y75 : Int32 := (if (y64 : Int32) < 100 then 1 else (if (14000 : Int32) < y64 then 1 else (if ((-(fL_low (p2 >>> ((4 : Int32) &&& 31)) y66)) : Int32) < (-99) then 1 else (if (99 : Int32) < (fL_low (p2 >>> ((7 : Int32) &&& 31)) y69) then 1 else (if ((fL_low (p2 >>> ((2 : Int32) &&& 31)) y72) : Int32) = 3 then 1 else 0)))) : Int32); let v80 : vSt := (fL_addType o1 y64 (-(fL_low (p2 >>> ((4 : Int32) &&& 31)) y66)) (fL_low (p2 >>> ((7 : Int32) &&& 31)) y69) (fL_low (p2 >>> ((2 : Int32) &&& 31)) y72) v).2; let y82 : Int32 := (fL_addType o1 y64 (-(fL_low (p2 >>> ((4 : Int32) &&& 31)) y66)) (fL_low (p2 >>> ((7 : Int32) &&& 31)) y69) (fL_low (p2 >>> ((2 : Int32) &&& 31)) y72) v).1; let y83 : Int32 := (if (y75 : Int32) = 0 then (if ((fX10_types o1 v) : Int32) = 5 then ((-100103)) else (fX10_types o1 v)) else ((-100102)) : Int32); let y87 : Int32 := (if (0 : Int32) ≤ y82 then 1 else 0 : Int32); if (y82 : Int32) < 0 then v80 else v80) else (if (p1 : Int32) = 3 then (let y46 : Int32 := (if (y2 : Int32) = 0 then ((fL_low p2 60) - (9 : Int32)) else ((fL_low p2 80) - (20 : Int32)) : Int32); let y48 : Int32 := (if (y46 : Int32) < (-10) then 1 else (if (y46 : Int32) ≤ 50 then 0 else 1) : Int32); let v54 : vSt := (fL_setWarmth o1 y46 v).2; let y56 : Int32 := (if (y48 : Int32) = 0 then (fX10_warmth o1 v) else ((-100102)) : Int32); let y60 : Int32 := (if (y48 : Int32) = 0 then y46 else (fX10_warmth o1 v) : Int32); v54) else (if (p1 : Int32) = 4 then (let y34 : Int32 := (if (y2 : Int32) = 0 then 40 else 104 : Int32); let v40 : vSt := (fL_setTolerance o1 (fL_low p2 y34) v).2; if ((fL_low p2 y34) : Int32) ≤ 99 then v40 else v40) else (let v13 : vSt := (fL_endDay o1 v).2; let y17 : Int32 := (lL_comes_922 o1 v13 (7) 0 0); let y27 : Int32 := (if ((fX10_days o1 v) : Int32) = 999 then ((-100103)) else y17 : Int32); let y31 : Int32 := (if ((fX10_days o1 v) : Int32) = 999 then 0 else 1 : Int32); v13)))))
def kkL_comes (o1 : Nat) (p1 : Int32) (p2 : Int32) (v : vSt) : Nat := pot (fL_comes o1 p1 p2 v) - pot v + 42
def olL_comes_922 (o1 : Nat) (v13 : vSt) : Nat → Int32 → Int32 → Prop
  | 0, _, _ => False
  | n + 1, i15, i16 => (oX10_tools o1 v13) ∧ (¬ (((fX10_tools o1 v13) : Int32) ≤ i15) → ((oX10_isDue o1 i15 v13) ∧ (((fX10_isDue o1 i15 v13).1 = 0) ∧ ((∀ (y21 : Int32), y21 = ((if (((fX10_isDue o1 i15 v13).2) : Int32) = 0 then 0 else 1 : Int32) : Int32) → (olL_comes_922 o1 v13 n (i15 + 1) (i16 + y21)))))))
def oL_comes (o1 : Nat) (p1 : Int32) (p2 : Int32) (v : vSt) : Prop := (oL_low (p2 >>> ((9 : Int32) &&& 31)) 9) ∧ ((∀ (y2 : Int32), y2 = ((if ((fL_low (p2 >>> ((9 : Int32) &&& 31)) 9) : Int32) = 0 then 1 else 0 : Int32) : Int32) → ((((p1 : Int32) = 0) → ((oX10_tools o1 v) ∧ ((∀ (y140 : Int32), y140 = ((if (y2 : Int32) = 0 then 5 else 6 : Int32) : Int32) → ((oL_low p2 y140) ∧ ((∀ (y143 : Int32), y143 = ((if (y2 : Int32) = 0 then 21 else 70 : Int32) : Int32) → ((oL_low (p2 >>> ((3 : Int32) &&& 31)) y143) ∧ ((∀ (y146 : Int32), y146 = ((if (y2 : Int32) = 0 then 10 else 35 : Int32) : Int32) → ((∀ (y148 : Int32), y148 = ((if ((fL_low p2 y140) : Int32) = 5 then 1 else (if (((fL_low (p2 >>> ((3 : Int32) &&& 31)) y143) - y146) : Int32) < (-30) then 1 else (if (((fL_low (p2 >>> ((3 : Int32) &&& 31)) y143) - y146) : Int32) ≤ 30 then 0 else 1)) : Int32) : Int32) → ((oL_addTool o1 (fL_low p2 y140) ((fL_low (p2 >>> ((3 : Int32) &&& 31)) y143) - y146) v) ∧ ((pot v ≤ pot v ∧ pot v ≤ pot ((fL_addTool o1 (fL_low p2 y140) ((fL_low (p2 >>> ((3 : Int32) &&& 31)) y143) - y146) v).2) ∧ pot ((fL_addTool o1 (fL_low p2 y140) ((fL_low (p2 >>> ((3 : Int32) &&& 31)) y143) - y146) v).2) ≤ pot (fL_comes o1 p1 p2 v)) ∧ (∀ v153 : vSt, v153 = ((fL_addTool o1 (fL_low p2 y140) ((fL_low (p2 >>> ((3 : Int32) &&& 31)) y143) - y146) v).2) → ((∀ (y155 : Int32), y155 = ((if (y148 : Int32) = 0 then (if ((fX10_tools o1 v) : Int32) = 6 then ((-100103)) else (fX10_tools o1 v)) else ((-100102)) : Int32) : Int32) → (((((fL_addTool o1 (fL_low p2 y140) ((fL_low (p2 >>> ((3 : Int32) &&& 31)) y143) - y146) v).1) : Int32) = y155) ∧ ((oX10_tools o1 v153) ∧ ((∀ (y159 : Int32), y159 = ((if (0 : Int32) ≤ ((fL_addTool o1 (fL_low p2 y140) ((fL_low (p2 >>> ((3 : Int32) &&& 31)) y143) - y146) v).1) then 1 else 0 : Int32) : Int32) → ((((fX10_tools o1 v153) : Int32) = ((fX10_tools o1 v) + y159)) ∧ (¬ ((((fL_addTool o1 (fL_low p2 y140) ((fL_low (p2 >>> ((3 : Int32) &&& 31)) y143) - y146) v).1) : Int32) < 0) → ((oX10_kindOf o1 (fX10_tools o1 v) v153) ∧ (((fX10_kindOf o1 (fX10_tools o1 v) v153).1 = 0) ∧ (((((fX10_kindOf o1 (fX10_tools o1 v) v153).2) : Int32) = (fL_low p2 y140)) ∧ ((oX10_usesOf o1 (fX10_tools o1 v) v153) ∧ (((fX10_usesOf o1 (fX10_tools o1 v) v153).1 = 0) ∧ ((oX10_wearOf o1 (fX10_tools o1 v) v153) ∧ (((fX10_wearOf o1 (fX10_tools o1 v) v153).1 = 0) ∧ ((oX10_knownError o1 (fX10_tools o1 v) v153) ∧ (((fX10_knownError o1 (fX10_tools o1 v) v153).1 = 0) ∧ (((((((fX10_usesOf o1 (fX10_tools o1 v) v153).2) + ((fX10_wearOf o1 (fX10_tools o1 v) v153).2)) + ((fX10_knownError o1 (fX10_tools o1 v) v153).2)) : Int32) = 0) ∧ ((oX10_usesLeft o1 (fX10_tools o1 v) v153) ∧ (((fX10_usesLeft o1 (fX10_tools o1 v) v153).1 = 0) ∧ (((((fX10_usesLeft o1 (fX10_tools o1 v) v153).2) : Int32) = 30) ∧ ((oX10_isDue o1 (fX10_tools o1 v) v153) ∧ (((fX10_isDue o1 (fX10_tools o1 v) v153).1 = 0) ∧ (((((fX10_isDue o1 (fX10_tools o1 v) v153).2) : Int32) = 0) ∧ ((oL_readingFor o1 (fX10_tools o1 v) 0 30 v153) ∧ ((((0 : Int32) ≤ ((30 : Int32) + ((fL_low (p2 >>> ((3 : Int32) &&& 31)) y143) - y146))) → ((oX10_readingByLooking o1 (fX10_tools o1 v) 0 30 v153) ∧ ((fX10_readingByLooking o1 (fX10_tools o1 v) 0 30 v153).1 = 0))) ∧ (∀ (y180 : Int32), y180 = ((if (0 : Int32) ≤ ((30 : Int32) + ((fL_low (p2 >>> ((3 : Int32) &&& 31)) y143) - y146)) then ((fX10_readingByLooking o1 (fX10_tools o1 v) 0 30 v153).2) else ((-100104)) : Int32) : Int32) → ((((fL_readingFor o1 (fX10_tools o1 v) 0 30 v153) : Int32) = y180)))))))))))))))))))))))))))))))))))))))))))) ∧ (¬ ((p1 : Int32) = 0) → ((((p1 : Int32) = 1) → ((oX10_blocks o1 v) ∧ (((((y2 : Int32) = 0) → (oL_low p2 700)) ∧ (¬ ((y2 : Int32) = 0) → (oL_low p2 5100))) ∧ (∀ (y108 : Int32), y108 = ((if (y2 : Int32) = 0 then ((1 : Int32) + (fL_low p2 700)) else (fL_low p2 5100) : Int32) : Int32) → ((∀ (y110 : Int32), y110 = ((if (y2 : Int32) = 0 then 7 else 9 : Int32) : Int32) → ((oL_low (p2 >>> ((5 : Int32) &&& 31)) y110) ∧ ((∀ (y113 : Int32), y113 = ((if (y2 : Int32) = 0 then 3 else 4 : Int32) : Int32) → ((∀ (y115 : Int32), y115 = ((if (y108 : Int32) < 1 then 1 else (if (5000 : Int32) < y108 then 1 else (if (((fL_low (p2 >>> ((5 : Int32) &&& 31)) y110) - y113) : Int32) < (-3) then 1 else (if (((fL_low (p2 >>> ((5 : Int32) &&& 31)) y110) - y113) : Int32) ≤ 3 then 0 else 1))) : Int32) : Int32) → ((oL_addBlock o1 y108 ((fL_low (p2 >>> ((5 : Int32) &&& 31)) y110) - y113) v) ∧ ((pot v ≤ pot v ∧ pot v ≤ pot ((fL_addBlock o1 y108 ((fL_low (p2 >>> ((5 : Int32) &&& 31)) y110) - y113) v).2) ∧ pot ((fL_addBlock o1 y108 ((fL_low (p2 >>> ((5 : Int32) &&& 31)) y110) - y113) v).2) ≤ pot (fL_comes o1 p1 p2 v)) ∧ (∀ v120 : vSt, v120 = ((fL_addBlock o1 y108 ((fL_low (p2 >>> ((5 : Int32) &&& 31)) y110) - y113) v).2) → ((∀ (y122 : Int32), y122 = ((if (y115 : Int32) = 0 then (if ((fX10_blocks o1 v) : Int32) = 10 then ((-100103)) else (fX10_blocks o1 v)) else ((-100102)) : Int32) : Int32) → (((((fL_addBlock o1 y108 ((fL_low (p2 >>> ((5 : Int32) &&& 31)) y110) - y113) v).1) : Int32) = y122) ∧ ((oX10_blocks o1 v120) ∧ ((∀ (y126 : Int32), y126 = ((if (0 : Int32) ≤ ((fL_addBlock o1 y108 ((fL_low (p2 >>> ((5 : Int32) &&& 31)) y110) - y113) v).1) then 1 else 0 : Int32) : Int32) → ((((fX10_blocks o1 v120) : Int32) = ((fX10_blocks o1 v) + y126)) ∧ (¬ ((((fL_addBlock o1 y108 ((fL_low (p2 >>> ((5 : Int32) &&& 31)) y110) - y113) v).1) : Int32) < 0) → ((oX10_blockLength o1 (fX10_blocks o1 v) v120) ∧ (((fX10_blockLength o1 (fX10_blocks o1 v) v120).1 = 0) ∧ (((((fX10_blockLength o1 (fX10_blocks o1 v) v120).2) : Int32) = y108) ∧ ((oX10_blockError o1 (fX10_blocks o1 v) v120) ∧ (((fX10_blockError o1 (fX10_blocks o1 v) v120).1 = 0) ∧ (((((fX10_blockError o1 (fX10_blocks o1 v) v120).2) : Int32) = ((fL_low (p2 >>> ((5 : Int32) &&& 31)) y110) - y113)) ∧ ((oX10_fewestByTrying o1 y108 v120) ∧ (((fX10_fewestByTrying o1 y108 v120).1 = 0) ∧ (((((fX10_fewestByTrying o1 y108 v120).2) : Int32) = 1)))))))))))))))))))))))))))))))) ∧ (¬ ((p1 : Int32) = 1) → ((((p1 : Int32) = 2) → ((oX10_types o1 v) ∧ (((((y2 : Int32) = 0) → (oL_low p2 2000)) ∧ (¬ ((y2 : Int32) = 0) → (oL_low p2 14200))) ∧ (∀ (y64 : Int32), y64 = ((if (y2 : Int32) = 0 then ((100 : Int32) + (fL_low p2 2000)) else (fL_low p2 14200) : Int32) : Int32) → ((∀ (y66 : Int32), y66 = ((if (y2 : Int32) = 0 then 60 else 102 : Int32) : Int32) → ((oL_low (p2 >>> ((4 : Int32) &&& 31)) y66) ∧ ((∀ (y69 : Int32), y69 = ((if (y2 : Int32) = 0 then 60 else 102 : Int32) : Int32) → ((oL_low (p2 >>> ((7 : Int32) &&& 31)) y69) ∧ ((∀ (y72 : Int32), y72 = ((if (y2 : Int32) = 0 then 3 else 4 : Int32) : Int32) → ((oL_low (p2 >>> ((2 : Int32) &&& 31)) y72) ∧ ((∀ (y75 : Int32), y75 = ((if (y64 : Int32) < 100 then 1 else (if (14000 : Int32) < y64 then 1 else (if ((-(fL_low (p2 >>> ((4 : Int32) &&& 31)) y66)) : Int32) < (-99) then 1 else (if (99 : Int32) < (fL_low (p2 >>> ((7 : Int32) &&& 31)) y69) then 1 else (if ((fL_low (p2 >>> ((2 : Int32) &&& 31)) y72) : Int32) = 3 then 1 else 0)))) : Int32) : Int32) → ((oL_addType o1 y64 (-(fL_low (p2 >>> ((4 : Int32) &&& 31)) y66)) (fL_low (p2 >>> ((7 : Int32) &&& 31)) y69) (fL_low (p2 >>> ((2 : Int32) &&& 31)) y72) v) ∧ ((pot v ≤ pot v ∧ pot v ≤ pot ((fL_addType o1 y64 (-(fL_low (p2 >>> ((4 : Int32) &&& 31)) y66)) (fL_low (p2 >>> ((7 : Int32) &&& 31)) y69) (fL_low (p2 >>> ((2 : Int32) &&& 31)) y72) v).2) ∧ pot ((fL_addType o1 y64 (-(fL_low (p2 >>> ((4 : Int32) &&& 31)) y66)) (fL_low (p2 >>> ((7 : Int32) &&& 31)) y69) (fL_low (p2 >>> ((2 : Int32) &&& 31)) y72) v).2) ≤ pot (fL_comes o1 p1 p2 v)) ∧ (∀ v80 : vSt, v80 = ((fL_addType o1 y64 (-(fL_low (p2 >>> ((4 : Int32) &&& 31)) y66)) (fL_low (p2 >>> ((7 : Int32) &&& 31)) y69) (fL_low (p2 >>> ((2 : Int32) &&& 31)) y72) v).2) → (∀ y82 : Int32, y82 = ((fL_addType o1 y64 (-(fL_low (p2 >>> ((4 : Int32) &&& 31)) y66)) (fL_low (p2 >>> ((7 : Int32) &&& 31)) y69) (fL_low (p2 >>> ((2 : Int32) &&& 31)) y72) v).1) → ((∀ (y83 : Int32), y83 = ((if (y75 : Int32) = 0 then (if ((fX10_types o1 v) : Int32) = 5 then ((-100103)) else (fX10_types o1 v)) else ((-100102)) : Int32) : Int32) → (((y82 : Int32) = y83) ∧ ((oX10_types o1 v80) ∧ ((∀ (y87 : Int32), y87 = ((if (0 : Int32) ≤ y82 then 1 else 0 : Int32) : Int32) → ((((fX10_types o1 v80) : Int32) = ((fX10_types o1 v) + y87)) ∧ (¬ ((y82 : Int32) < 0) → ((oX10_lengthOf o1 (fX10_types o1 v) v80) ∧ (((fX10_lengthOf o1 (fX10_types o1 v) v80).1 = 0) ∧ (((((fX10_lengthOf o1 (fX10_types o1 v) v80).2) : Int32) = y64) ∧ ((oX10_widthOf o1 (fX10_types o1 v) v80) ∧ (((fX10_widthOf o1 (fX10_types o1 v) v80).1 = 0) ∧ (((((fX10_widthOf o1 (fX10_types o1 v) v80).2) : Int32) = ((fL_low (p2 >>> ((7 : Int32) &&& 31)) y69) - (-(fL_low (p2 >>> ((4 : Int32) &&& 31)) y66)))) ∧ ((oX10_mannerOf o1 (fX10_types o1 v) v80) ∧ (((fX10_mannerOf o1 (fX10_types o1 v) v80).1 = 0) ∧ ((oX10_recordOf o1 (fX10_types o1 v) v80) ∧ (((fX10_recordOf o1 (fX10_types o1 v) v80).1 = 0) ∧ ((oX10_charted o1 (fX10_types o1 v) v80) ∧ (((fX10_charted o1 (fX10_types o1 v) v80).1 = 0) ∧ (((((((fX10_mannerOf o1 (fX10_types o1 v) v80).2) + ((fX10_recordOf o1 (fX10_types o1 v) v80).2)) + ((fX10_charted o1 (fX10_types o1 v) v80).2)) : Int32) = 0) ∧ ((oX10_goodUntilChange o1 (fX10_types o1 v) v80) ∧ (((fX10_goodUntilChange o1 (fX10_types o1 v) v80).1 = 0) ∧ (((((fX10_goodUntilChange o1 (fX10_types o1 v) v80).2) : Int32) = 10)))))))))))))))))))))))))))))))))))))))))))) ∧ (¬ ((p1 : Int32) = 2) → ((((p1 : Int32) = 3) → (((((y2 : Int32) = 0) → (oL_low p2 60)) ∧ (¬ ((y2 : Int32) = 0) → (oL_low p2 80))) ∧ (∀ (y46 : Int32), y46 = ((if (y2 : Int32) = 0 then ((fL_low p2 60) - (9 : Int32)) else ((fL_low p2 80) - (20 : Int32)) : Int32) : Int32) → ((∀ (y48 : Int32), y48 = ((if (y46 : Int32) < (-10) then 1 else (if (y46 : Int32) ≤ 50 then 0 else 1) : Int32) : Int32) → ((oX10_warmth o1 v) ∧ ((oL_setWarmth o1 y46 v) ∧ ((pot v ≤ pot v ∧ pot v ≤ pot ((fL_setWarmth o1 y46 v).2) ∧ pot ((fL_setWarmth o1 y46 v).2) ≤ pot (fL_comes o1 p1 p2 v)) ∧ (∀ v54 : vSt, v54 = ((fL_setWarmth o1 y46 v).2) → ((∀ (y56 : Int32), y56 = ((if (y48 : Int32) = 0 then (fX10_warmth o1 v) else ((-100102)) : Int32) : Int32) → (((((fL_setWarmth o1 y46 v).1) : Int32) = y56) ∧ ((oX10_warmth o1 v54) ∧ ((∀ (y60 : Int32), y60 = ((if (y48 : Int32) = 0 then y46 else (fX10_warmth o1 v) : Int32) : Int32) → ((((fX10_warmth o1 v54) : Int32) = y60))))))))))))))))) ∧ (¬ ((p1 : Int32) = 3) → ((((p1 : Int32) = 4) → ((∀ (y34 : Int32), y34 = ((if (y2 : Int32) = 0 then 40 else 104 : Int32) : Int32) → ((oL_low p2 y34) ∧ ((oL_setTolerance o1 (fL_low p2 y34) v) ∧ ((pot v ≤ pot v ∧ pot v ≤ pot ((fL_setTolerance o1 (fL_low p2 y34) v).2) ∧ pot ((fL_setTolerance o1 (fL_low p2 y34) v).2) ≤ pot (fL_comes o1 p1 p2 v)) ∧ (∀ v40 : vSt, v40 = ((fL_setTolerance o1 (fL_low p2 y34) v).2) → (((((fL_low p2 y34) : Int32) ≤ 99) → ((¬ ((((fL_setTolerance o1 (fL_low p2 y34) v).1) : Int32) < 0)) ∧ ((¬ ((100 : Int32) ≤ ((fL_setTolerance o1 (fL_low p2 y34) v).1)))))) ∧ (¬ (((fL_low p2 y34) : Int32) ≤ 99) → (((((fL_setTolerance o1 (fL_low p2 y34) v).1) : Int32) = (-100102)))))))))))) ∧ (¬ ((p1 : Int32) = 4) → ((oX10_days o1 v) ∧ ((oL_endDay o1 v) ∧ ((pot v ≤ pot v ∧ pot v ≤ pot ((fL_endDay o1 v).2) ∧ pot ((fL_endDay o1 v).2) ≤ pot (fL_comes o1 p1 p2 v)) ∧ (∀ v13 : vSt, v13 = ((fL_endDay o1 v).2) → (olL_comes_922 o1 v13 (7) 0 0 ∧ (∀ (y17 : Int32), y17 = ((lL_comes_922 o1 v13 (7) 0 0) : Int32) → ((∀ (y27 : Int32), y27 = ((if ((fX10_days o1 v) : Int32) = 999 then ((-100103)) else y17 : Int32) : Int32) → (((((fL_endDay o1 v).1) : Int32) = y27) ∧ ((oX10_days o1 v13) ∧ ((∀ (y31 : Int32), y31 = ((if ((fX10_days o1 v) : Int32) = 999 then 0 else 1 : Int32) : Int32) → ((((fX10_days o1 v13) : Int32) = ((fX10_days o1 v) + y31)))))))))))))))))))))))))))
abbrev rmL_comes (o1 : Nat) (p1 : Int32) (p2 : Int32) (v : vSt) : Room := { frames := 10, cells := kkL_comes o1 p1 p2 v, slots := kkL_comes o1 p1 p2 v, locals := 245 }
theorem dL_comes_0 : decode cL_comes 0 = .ok (.iload_n 2, 1) := by decide +kernel
theorem dL_comes_1 : decode cL_comes 1 = .ok (.bipush 9, 2) := by decide +kernel
theorem dL_comes_3 : decode cL_comes 3 = .ok (.ishr, 1) := by decide +kernel
theorem dL_comes_4 : decode cL_comes 4 = .ok (.bipush 9, 2) := by decide +kernel
theorem dL_comes_6 : decode cL_comes 6 = .ok (.invokestatic 250, 3) := by decide +kernel
theorem dL_comes_9 : decode cL_comes 9 = .ok (.ifCond .ne 7, 3) := by decide +kernel
theorem dL_comes_12 : decode cL_comes 12 = .ok (.iconst 1, 1) := by decide +kernel
theorem dL_comes_13 : decode cL_comes 13 = .ok (.goto 4, 3) := by decide +kernel
theorem dL_comes_16 : decode cL_comes 16 = .ok (.iconst 0, 1) := by decide +kernel
theorem dL_comes_17 : decode cL_comes 17 = .ok (.istore_n 3, 1) := by decide +kernel
theorem dL_comes_18 : decode cL_comes 18 = .ok (.iload_n 1, 1) := by decide +kernel
theorem dL_comes_19 : decode cL_comes 19 = .ok (.ifCond .ne 241, 3) := by decide +kernel
theorem dL_comes_22 : decode cL_comes 22 = .ok (.aload_n 0, 1) := by decide +kernel
theorem dL_comes_23 : decode cL_comes 23 = .ok (.invokevirtual 230, 3) := by decide +kernel
theorem dL_comes_26 : decode cL_comes 26 = .ok (.istore 4, 2) := by decide +kernel
theorem dL_comes_28 : decode cL_comes 28 = .ok (.iload_n 2, 1) := by decide +kernel
theorem dL_comes_29 : decode cL_comes 29 = .ok (.iload_n 3, 1) := by decide +kernel
theorem dL_comes_30 : decode cL_comes 30 = .ok (.ifCond .eq 8, 3) := by decide +kernel
theorem dL_comes_33 : decode cL_comes 33 = .ok (.bipush 6, 2) := by decide +kernel
theorem dL_comes_35 : decode cL_comes 35 = .ok (.goto 4, 3) := by decide +kernel
theorem dL_comes_38 : decode cL_comes 38 = .ok (.iconst 5, 1) := by decide +kernel
theorem dL_comes_39 : decode cL_comes 39 = .ok (.invokestatic 250, 3) := by decide +kernel
theorem dL_comes_42 : decode cL_comes 42 = .ok (.istore 5, 2) := by decide +kernel
theorem dL_comes_44 : decode cL_comes 44 = .ok (.iload_n 2, 1) := by decide +kernel
theorem dL_comes_45 : decode cL_comes 45 = .ok (.iconst 3, 1) := by decide +kernel
theorem dL_comes_46 : decode cL_comes 46 = .ok (.ishr, 1) := by decide +kernel
theorem dL_comes_47 : decode cL_comes 47 = .ok (.iload_n 3, 1) := by decide +kernel
theorem dL_comes_48 : decode cL_comes 48 = .ok (.ifCond .eq 8, 3) := by decide +kernel
theorem dL_comes_51 : decode cL_comes 51 = .ok (.bipush 70, 2) := by decide +kernel
theorem dL_comes_53 : decode cL_comes 53 = .ok (.goto 5, 3) := by decide +kernel
theorem dL_comes_56 : decode cL_comes 56 = .ok (.bipush 21, 2) := by decide +kernel
theorem dL_comes_58 : decode cL_comes 58 = .ok (.invokestatic 250, 3) := by decide +kernel
theorem dL_comes_61 : decode cL_comes 61 = .ok (.iload_n 3, 1) := by decide +kernel
theorem dL_comes_62 : decode cL_comes 62 = .ok (.ifCond .eq 8, 3) := by decide +kernel
theorem dL_comes_65 : decode cL_comes 65 = .ok (.bipush 35, 2) := by decide +kernel
theorem dL_comes_67 : decode cL_comes 67 = .ok (.goto 5, 3) := by decide +kernel
theorem dL_comes_70 : decode cL_comes 70 = .ok (.bipush 10, 2) := by decide +kernel
theorem dL_comes_72 : decode cL_comes 72 = .ok (.isub, 1) := by decide +kernel
theorem dL_comes_73 : decode cL_comes 73 = .ok (.istore 6, 2) := by decide +kernel
theorem dL_comes_75 : decode cL_comes 75 = .ok (.iload 5, 2) := by decide +kernel
theorem dL_comes_77 : decode cL_comes 77 = .ok (.iconst 5, 1) := by decide +kernel
theorem dL_comes_78 : decode cL_comes 78 = .ok (.if_icmp .eq 17, 3) := by decide +kernel
theorem dL_comes_81 : decode cL_comes 81 = .ok (.iload 6, 2) := by decide +kernel
theorem dL_comes_83 : decode cL_comes 83 = .ok (.bipush (-30), 2) := by decide +kernel
theorem dL_comes_85 : decode cL_comes 85 = .ok (.if_icmp .lt 10, 3) := by decide +kernel
theorem dL_comes_88 : decode cL_comes 88 = .ok (.iload 6, 2) := by decide +kernel
theorem dL_comes_90 : decode cL_comes 90 = .ok (.bipush 30, 2) := by decide +kernel
theorem dL_comes_92 : decode cL_comes 92 = .ok (.if_icmp .le 7, 3) := by decide +kernel
theorem dL_comes_95 : decode cL_comes 95 = .ok (.iconst 1, 1) := by decide +kernel
theorem dL_comes_96 : decode cL_comes 96 = .ok (.goto 4, 3) := by decide +kernel
theorem dL_comes_99 : decode cL_comes 99 = .ok (.iconst 0, 1) := by decide +kernel
theorem dL_comes_100 : decode cL_comes 100 = .ok (.istore 7, 2) := by decide +kernel
theorem dL_comes_102 : decode cL_comes 102 = .ok (.aload_n 0, 1) := by decide +kernel
theorem dL_comes_103 : decode cL_comes 103 = .ok (.iload 5, 2) := by decide +kernel
theorem dL_comes_105 : decode cL_comes 105 = .ok (.iload 6, 2) := by decide +kernel
theorem dL_comes_107 : decode cL_comes 107 = .ok (.invokestatic 341, 3) := by decide +kernel
theorem dL_comes_110 : decode cL_comes 110 = .ok (.istore 8, 2) := by decide +kernel
theorem dL_comes_112 : decode cL_comes 112 = .ok (.iload 8, 2) := by decide +kernel
theorem dL_comes_114 : decode cL_comes 114 = .ok (.iload 7, 2) := by decide +kernel
theorem dL_comes_116 : decode cL_comes 116 = .ok (.ifCond .eq 8, 3) := by decide +kernel
theorem dL_comes_119 : decode cL_comes 119 = .ok (.ldc 17, 2) := by decide +kernel
theorem dL_comes_121 : decode cL_comes 121 = .ok (.goto 17, 3) := by decide +kernel
theorem dL_comes_124 : decode cL_comes 124 = .ok (.iload 4, 2) := by decide +kernel
theorem dL_comes_126 : decode cL_comes 126 = .ok (.bipush 6, 2) := by decide +kernel
theorem dL_comes_128 : decode cL_comes 128 = .ok (.if_icmp .ne 8, 3) := by decide +kernel
theorem dL_comes_131 : decode cL_comes 131 = .ok (.ldc 20, 2) := by decide +kernel
theorem dL_comes_133 : decode cL_comes 133 = .ok (.goto 5, 3) := by decide +kernel
theorem dL_comes_136 : decode cL_comes 136 = .ok (.iload 4, 2) := by decide +kernel
theorem dL_comes_138 : decode cL_comes 138 = .ok (.if_icmp .ne 120, 3) := by decide +kernel
theorem dL_comes_141 : decode cL_comes 141 = .ok (.aload_n 0, 1) := by decide +kernel
theorem dL_comes_142 : decode cL_comes 142 = .ok (.invokevirtual 230, 3) := by decide +kernel
theorem dL_comes_145 : decode cL_comes 145 = .ok (.iload 4, 2) := by decide +kernel
theorem dL_comes_147 : decode cL_comes 147 = .ok (.iload 8, 2) := by decide +kernel
theorem dL_comes_149 : decode cL_comes 149 = .ok (.ifCond .ge 7, 3) := by decide +kernel
theorem dL_comes_152 : decode cL_comes 152 = .ok (.iconst 0, 1) := by decide +kernel
theorem dL_comes_153 : decode cL_comes 153 = .ok (.goto 4, 3) := by decide +kernel
theorem dL_comes_156 : decode cL_comes 156 = .ok (.iconst 1, 1) := by decide +kernel
theorem dL_comes_157 : decode cL_comes 157 = .ok (.iadd, 1) := by decide +kernel
theorem dL_comes_158 : decode cL_comes 158 = .ok (.if_icmp .ne 100, 3) := by decide +kernel
theorem dL_comes_161 : decode cL_comes 161 = .ok (.iload 8, 2) := by decide +kernel
theorem dL_comes_163 : decode cL_comes 163 = .ok (.ifCond .lt 91, 3) := by decide +kernel
theorem dL_comes_166 : decode cL_comes 166 = .ok (.aload_n 0, 1) := by decide +kernel
theorem dL_comes_167 : decode cL_comes 167 = .ok (.iload 4, 2) := by decide +kernel
theorem dL_comes_169 : decode cL_comes 169 = .ok (.invokevirtual 122, 3) := by decide +kernel
theorem dL_comes_172 : decode cL_comes 172 = .ok (.iload 5, 2) := by decide +kernel
theorem dL_comes_174 : decode cL_comes 174 = .ok (.if_icmp .ne 84, 3) := by decide +kernel
theorem dL_comes_177 : decode cL_comes 177 = .ok (.aload_n 0, 1) := by decide +kernel
theorem dL_comes_178 : decode cL_comes 178 = .ok (.iload 4, 2) := by decide +kernel
theorem dL_comes_180 : decode cL_comes 180 = .ok (.invokevirtual 128, 3) := by decide +kernel
theorem dL_comes_183 : decode cL_comes 183 = .ok (.aload_n 0, 1) := by decide +kernel
theorem dL_comes_184 : decode cL_comes 184 = .ok (.iload 4, 2) := by decide +kernel
theorem dL_comes_186 : decode cL_comes 186 = .ok (.invokevirtual 131, 3) := by decide +kernel
theorem dL_comes_189 : decode cL_comes 189 = .ok (.iadd, 1) := by decide +kernel
theorem dL_comes_190 : decode cL_comes 190 = .ok (.aload_n 0, 1) := by decide +kernel
theorem dL_comes_191 : decode cL_comes 191 = .ok (.iload 4, 2) := by decide +kernel
theorem dL_comes_193 : decode cL_comes 193 = .ok (.invokevirtual 134, 3) := by decide +kernel
theorem dL_comes_196 : decode cL_comes 196 = .ok (.iadd, 1) := by decide +kernel
theorem dL_comes_197 : decode cL_comes 197 = .ok (.ifCond .ne 61, 3) := by decide +kernel
theorem dL_comes_200 : decode cL_comes 200 = .ok (.aload_n 0, 1) := by decide +kernel
theorem dL_comes_201 : decode cL_comes 201 = .ok (.iload 4, 2) := by decide +kernel
theorem dL_comes_203 : decode cL_comes 203 = .ok (.invokevirtual 137, 3) := by decide +kernel
theorem dL_comes_206 : decode cL_comes 206 = .ok (.bipush 30, 2) := by decide +kernel
theorem dL_comes_208 : decode cL_comes 208 = .ok (.if_icmp .ne 50, 3) := by decide +kernel
theorem dL_comes_211 : decode cL_comes 211 = .ok (.aload_n 0, 1) := by decide +kernel
theorem dL_comes_212 : decode cL_comes 212 = .ok (.iload 4, 2) := by decide +kernel
theorem dL_comes_214 : decode cL_comes 214 = .ok (.invokevirtual 61, 3) := by decide +kernel
theorem dL_comes_217 : decode cL_comes 217 = .ok (.ifCond .ne 41, 3) := by decide +kernel
theorem dL_comes_220 : decode cL_comes 220 = .ok (.aload_n 0, 1) := by decide +kernel
theorem dL_comes_221 : decode cL_comes 221 = .ok (.iload 4, 2) := by decide +kernel
theorem dL_comes_223 : decode cL_comes 223 = .ok (.iconst 0, 1) := by decide +kernel
theorem dL_comes_224 : decode cL_comes 224 = .ok (.bipush 30, 2) := by decide +kernel
theorem dL_comes_226 : decode cL_comes 226 = .ok (.invokestatic 242, 3) := by decide +kernel
theorem dL_comes_229 : decode cL_comes 229 = .ok (.bipush 30, 2) := by decide +kernel
theorem dL_comes_231 : decode cL_comes 231 = .ok (.iload 6, 2) := by decide +kernel
theorem dL_comes_233 : decode cL_comes 233 = .ok (.iadd, 1) := by decide +kernel
theorem dL_comes_234 : decode cL_comes 234 = .ok (.ifCond .ge 8, 3) := by decide +kernel
theorem dL_comes_237 : decode cL_comes 237 = .ok (.ldc 73, 2) := by decide +kernel
theorem dL_comes_239 : decode cL_comes 239 = .ok (.goto 12, 3) := by decide +kernel
theorem dL_comes_242 : decode cL_comes 242 = .ok (.aload_n 0, 1) := by decide +kernel
theorem dL_comes_243 : decode cL_comes 243 = .ok (.iload 4, 2) := by decide +kernel
theorem dL_comes_245 : decode cL_comes 245 = .ok (.iconst 0, 1) := by decide +kernel
theorem dL_comes_246 : decode cL_comes 246 = .ok (.bipush 30, 2) := by decide +kernel
theorem dL_comes_248 : decode cL_comes 248 = .ok (.invokevirtual 143, 3) := by decide +kernel
theorem dL_comes_251 : decode cL_comes 251 = .ok (.if_icmp .ne 7, 3) := by decide +kernel
theorem dL_comes_254 : decode cL_comes 254 = .ok (.iconst 1, 1) := by decide +kernel
theorem dL_comes_255 : decode cL_comes 255 = .ok (.goto 4, 3) := by decide +kernel
theorem dL_comes_259 : decode cL_comes 259 = .ok (.ireturn, 1) := by decide +kernel
theorem dL_comes_260 : decode cL_comes 260 = .ok (.iload_n 1, 1) := by decide +kernel
theorem dL_comes_261 : decode cL_comes 261 = .ok (.iconst 1, 1) := by decide +kernel
theorem dL_comes_262 : decode cL_comes 262 = .ok (.if_icmp .ne 199, 3) := by decide +kernel
theorem dL_comes_265 : decode cL_comes 265 = .ok (.aload_n 0, 1) := by decide +kernel
theorem dL_comes_266 : decode cL_comes 266 = .ok (.invokevirtual 233, 3) := by decide +kernel
theorem dL_comes_269 : decode cL_comes 269 = .ok (.istore 4, 2) := by decide +kernel
theorem dL_comes_271 : decode cL_comes 271 = .ok (.iload_n 3, 1) := by decide +kernel
theorem dL_comes_272 : decode cL_comes 272 = .ok (.ifCond .eq 13, 3) := by decide +kernel
theorem dL_comes_275 : decode cL_comes 275 = .ok (.iload_n 2, 1) := by decide +kernel
theorem dL_comes_276 : decode cL_comes 276 = .ok (.sipush 5100, 3) := by decide +kernel
theorem dL_comes_279 : decode cL_comes 279 = .ok (.invokestatic 250, 3) := by decide +kernel
theorem dL_comes_282 : decode cL_comes 282 = .ok (.goto 12, 3) := by decide +kernel
theorem dL_comes_285 : decode cL_comes 285 = .ok (.iconst 1, 1) := by decide +kernel
theorem dL_comes_286 : decode cL_comes 286 = .ok (.iload_n 2, 1) := by decide +kernel
theorem dL_comes_287 : decode cL_comes 287 = .ok (.sipush 700, 3) := by decide +kernel
theorem dL_comes_290 : decode cL_comes 290 = .ok (.invokestatic 250, 3) := by decide +kernel
theorem dL_comes_293 : decode cL_comes 293 = .ok (.iadd, 1) := by decide +kernel
theorem dL_comes_294 : decode cL_comes 294 = .ok (.istore 5, 2) := by decide +kernel
theorem dL_comes_296 : decode cL_comes 296 = .ok (.iload_n 2, 1) := by decide +kernel
theorem dL_comes_297 : decode cL_comes 297 = .ok (.iconst 5, 1) := by decide +kernel
theorem dL_comes_298 : decode cL_comes 298 = .ok (.ishr, 1) := by decide +kernel
theorem dL_comes_299 : decode cL_comes 299 = .ok (.iload_n 3, 1) := by decide +kernel
theorem dL_comes_300 : decode cL_comes 300 = .ok (.ifCond .eq 8, 3) := by decide +kernel
theorem dL_comes_303 : decode cL_comes 303 = .ok (.bipush 9, 2) := by decide +kernel
theorem dL_comes_305 : decode cL_comes 305 = .ok (.goto 5, 3) := by decide +kernel
theorem dL_comes_308 : decode cL_comes 308 = .ok (.bipush 7, 2) := by decide +kernel
theorem dL_comes_310 : decode cL_comes 310 = .ok (.invokestatic 250, 3) := by decide +kernel
theorem dL_comes_313 : decode cL_comes 313 = .ok (.iload_n 3, 1) := by decide +kernel
theorem dL_comes_314 : decode cL_comes 314 = .ok (.ifCond .eq 7, 3) := by decide +kernel
theorem dL_comes_317 : decode cL_comes 317 = .ok (.iconst 4, 1) := by decide +kernel
theorem dL_comes_318 : decode cL_comes 318 = .ok (.goto 4, 3) := by decide +kernel
theorem dL_comes_321 : decode cL_comes 321 = .ok (.iconst 3, 1) := by decide +kernel
theorem dL_comes_322 : decode cL_comes 322 = .ok (.isub, 1) := by decide +kernel
theorem dL_comes_323 : decode cL_comes 323 = .ok (.istore 6, 2) := by decide +kernel
theorem dL_comes_325 : decode cL_comes 325 = .ok (.iload 5, 2) := by decide +kernel
theorem dL_comes_327 : decode cL_comes 327 = .ok (.iconst 1, 1) := by decide +kernel
theorem dL_comes_328 : decode cL_comes 328 = .ok (.if_icmp .lt 24, 3) := by decide +kernel
theorem dL_comes_331 : decode cL_comes 331 = .ok (.iload 5, 2) := by decide +kernel
theorem dL_comes_333 : decode cL_comes 333 = .ok (.sipush 5000, 3) := by decide +kernel
theorem dL_comes_336 : decode cL_comes 336 = .ok (.if_icmp .gt 16, 3) := by decide +kernel
theorem dL_comes_339 : decode cL_comes 339 = .ok (.iload 6, 2) := by decide +kernel
theorem dL_comes_341 : decode cL_comes 341 = .ok (.bipush (-3), 2) := by decide +kernel
theorem dL_comes_343 : decode cL_comes 343 = .ok (.if_icmp .lt 9, 3) := by decide +kernel
theorem dL_comes_346 : decode cL_comes 346 = .ok (.iload 6, 2) := by decide +kernel
theorem dL_comes_348 : decode cL_comes 348 = .ok (.iconst 3, 1) := by decide +kernel
theorem dL_comes_349 : decode cL_comes 349 = .ok (.if_icmp .le 7, 3) := by decide +kernel
theorem dL_comes_352 : decode cL_comes 352 = .ok (.iconst 1, 1) := by decide +kernel
theorem dL_comes_353 : decode cL_comes 353 = .ok (.goto 4, 3) := by decide +kernel
theorem dL_comes_356 : decode cL_comes 356 = .ok (.iconst 0, 1) := by decide +kernel
theorem dL_comes_357 : decode cL_comes 357 = .ok (.istore 7, 2) := by decide +kernel
theorem dL_comes_359 : decode cL_comes 359 = .ok (.aload_n 0, 1) := by decide +kernel
theorem dL_comes_360 : decode cL_comes 360 = .ok (.iload 5, 2) := by decide +kernel
theorem dL_comes_362 : decode cL_comes 362 = .ok (.iload 6, 2) := by decide +kernel
theorem dL_comes_364 : decode cL_comes 364 = .ok (.invokestatic 343, 3) := by decide +kernel
theorem dL_comes_367 : decode cL_comes 367 = .ok (.istore 8, 2) := by decide +kernel
theorem dL_comes_369 : decode cL_comes 369 = .ok (.iload 8, 2) := by decide +kernel
theorem dL_comes_371 : decode cL_comes 371 = .ok (.iload 7, 2) := by decide +kernel
theorem dL_comes_373 : decode cL_comes 373 = .ok (.ifCond .eq 8, 3) := by decide +kernel
theorem dL_comes_376 : decode cL_comes 376 = .ok (.ldc 17, 2) := by decide +kernel
theorem dL_comes_378 : decode cL_comes 378 = .ok (.goto 17, 3) := by decide +kernel
theorem dL_comes_381 : decode cL_comes 381 = .ok (.iload 4, 2) := by decide +kernel
theorem dL_comes_383 : decode cL_comes 383 = .ok (.bipush 10, 2) := by decide +kernel
theorem dL_comes_385 : decode cL_comes 385 = .ok (.if_icmp .ne 8, 3) := by decide +kernel
theorem dL_comes_388 : decode cL_comes 388 = .ok (.ldc 20, 2) := by decide +kernel
theorem dL_comes_390 : decode cL_comes 390 = .ok (.goto 5, 3) := by decide +kernel
theorem dL_comes_393 : decode cL_comes 393 = .ok (.iload 4, 2) := by decide +kernel
theorem dL_comes_395 : decode cL_comes 395 = .ok (.if_icmp .ne 64, 3) := by decide +kernel
theorem dL_comes_398 : decode cL_comes 398 = .ok (.aload_n 0, 1) := by decide +kernel
theorem dL_comes_399 : decode cL_comes 399 = .ok (.invokevirtual 233, 3) := by decide +kernel
theorem dL_comes_402 : decode cL_comes 402 = .ok (.iload 4, 2) := by decide +kernel
theorem dL_comes_404 : decode cL_comes 404 = .ok (.iload 8, 2) := by decide +kernel
theorem dL_comes_406 : decode cL_comes 406 = .ok (.ifCond .ge 7, 3) := by decide +kernel
theorem dL_comes_409 : decode cL_comes 409 = .ok (.iconst 0, 1) := by decide +kernel
theorem dL_comes_410 : decode cL_comes 410 = .ok (.goto 4, 3) := by decide +kernel
theorem dL_comes_413 : decode cL_comes 413 = .ok (.iconst 1, 1) := by decide +kernel
theorem dL_comes_414 : decode cL_comes 414 = .ok (.iadd, 1) := by decide +kernel
theorem dL_comes_415 : decode cL_comes 415 = .ok (.if_icmp .ne 44, 3) := by decide +kernel
theorem dL_comes_418 : decode cL_comes 418 = .ok (.iload 8, 2) := by decide +kernel
theorem dL_comes_420 : decode cL_comes 420 = .ok (.ifCond .lt 35, 3) := by decide +kernel
theorem dL_comes_423 : decode cL_comes 423 = .ok (.aload_n 0, 1) := by decide +kernel
theorem dL_comes_424 : decode cL_comes 424 = .ok (.iload 4, 2) := by decide +kernel
theorem dL_comes_426 : decode cL_comes 426 = .ok (.invokevirtual 155, 3) := by decide +kernel
theorem dL_comes_429 : decode cL_comes 429 = .ok (.iload 5, 2) := by decide +kernel
theorem dL_comes_431 : decode cL_comes 431 = .ok (.if_icmp .ne 28, 3) := by decide +kernel
theorem dL_comes_434 : decode cL_comes 434 = .ok (.aload_n 0, 1) := by decide +kernel
theorem dL_comes_435 : decode cL_comes 435 = .ok (.iload 4, 2) := by decide +kernel
theorem dL_comes_437 : decode cL_comes 437 = .ok (.invokevirtual 158, 3) := by decide +kernel
theorem dL_comes_440 : decode cL_comes 440 = .ok (.iload 6, 2) := by decide +kernel
theorem dL_comes_442 : decode cL_comes 442 = .ok (.if_icmp .ne 17, 3) := by decide +kernel
theorem dL_comes_445 : decode cL_comes 445 = .ok (.aload_n 0, 1) := by decide +kernel
theorem dL_comes_446 : decode cL_comes 446 = .ok (.iload 5, 2) := by decide +kernel
theorem dL_comes_448 : decode cL_comes 448 = .ok (.invokevirtual 164, 3) := by decide +kernel
theorem dL_comes_451 : decode cL_comes 451 = .ok (.iconst 1, 1) := by decide +kernel
theorem dL_comes_452 : decode cL_comes 452 = .ok (.if_icmp .ne 7, 3) := by decide +kernel
theorem dL_comes_455 : decode cL_comes 455 = .ok (.iconst 1, 1) := by decide +kernel
theorem dL_comes_456 : decode cL_comes 456 = .ok (.goto 4, 3) := by decide +kernel
theorem dL_comes_460 : decode cL_comes 460 = .ok (.ireturn, 1) := by decide +kernel
theorem dL_comes_461 : decode cL_comes 461 = .ok (.iload_n 1, 1) := by decide +kernel
theorem dL_comes_462 : decode cL_comes 462 = .ok (.iconst 2, 1) := by decide +kernel
theorem dL_comes_463 : decode cL_comes 463 = .ok (.if_icmp .ne 266, 3) := by decide +kernel
theorem dL_comes_466 : decode cL_comes 466 = .ok (.aload_n 0, 1) := by decide +kernel
theorem dL_comes_467 : decode cL_comes 467 = .ok (.invokevirtual 236, 3) := by decide +kernel
theorem dL_comes_470 : decode cL_comes 470 = .ok (.istore 4, 2) := by decide +kernel
theorem dL_comes_472 : decode cL_comes 472 = .ok (.iload_n 3, 1) := by decide +kernel
theorem dL_comes_473 : decode cL_comes 473 = .ok (.ifCond .eq 13, 3) := by decide +kernel
theorem dL_comes_476 : decode cL_comes 476 = .ok (.iload_n 2, 1) := by decide +kernel
theorem dL_comes_477 : decode cL_comes 477 = .ok (.sipush 14200, 3) := by decide +kernel
theorem dL_comes_480 : decode cL_comes 480 = .ok (.invokestatic 250, 3) := by decide +kernel
theorem dL_comes_483 : decode cL_comes 483 = .ok (.goto 13, 3) := by decide +kernel
theorem dL_comes_486 : decode cL_comes 486 = .ok (.bipush 100, 2) := by decide +kernel
theorem dL_comes_488 : decode cL_comes 488 = .ok (.iload_n 2, 1) := by decide +kernel
theorem dL_comes_489 : decode cL_comes 489 = .ok (.sipush 2000, 3) := by decide +kernel
theorem dL_comes_492 : decode cL_comes 492 = .ok (.invokestatic 250, 3) := by decide +kernel
theorem dL_comes_495 : decode cL_comes 495 = .ok (.iadd, 1) := by decide +kernel
theorem dL_comes_496 : decode cL_comes 496 = .ok (.istore 5, 2) := by decide +kernel
theorem dL_comes_498 : decode cL_comes 498 = .ok (.iload_n 2, 1) := by decide +kernel
theorem dL_comes_499 : decode cL_comes 499 = .ok (.iconst 4, 1) := by decide +kernel
theorem dL_comes_500 : decode cL_comes 500 = .ok (.ishr, 1) := by decide +kernel
theorem dL_comes_501 : decode cL_comes 501 = .ok (.iload_n 3, 1) := by decide +kernel
theorem dL_comes_502 : decode cL_comes 502 = .ok (.ifCond .eq 8, 3) := by decide +kernel
theorem dL_comes_505 : decode cL_comes 505 = .ok (.bipush 102, 2) := by decide +kernel
theorem dL_comes_507 : decode cL_comes 507 = .ok (.goto 5, 3) := by decide +kernel
theorem dL_comes_510 : decode cL_comes 510 = .ok (.bipush 60, 2) := by decide +kernel
theorem dL_comes_512 : decode cL_comes 512 = .ok (.invokestatic 250, 3) := by decide +kernel
theorem dL_comes_515 : decode cL_comes 515 = .ok (.ineg, 1) := by decide +kernel
theorem dL_comes_516 : decode cL_comes 516 = .ok (.istore 6, 2) := by decide +kernel
theorem dL_comes_518 : decode cL_comes 518 = .ok (.iload_n 2, 1) := by decide +kernel
theorem dL_comes_519 : decode cL_comes 519 = .ok (.bipush 7, 2) := by decide +kernel
theorem dL_comes_521 : decode cL_comes 521 = .ok (.ishr, 1) := by decide +kernel
theorem dL_comes_522 : decode cL_comes 522 = .ok (.iload_n 3, 1) := by decide +kernel
theorem dL_comes_523 : decode cL_comes 523 = .ok (.ifCond .eq 8, 3) := by decide +kernel
theorem dL_comes_526 : decode cL_comes 526 = .ok (.bipush 102, 2) := by decide +kernel
theorem dL_comes_528 : decode cL_comes 528 = .ok (.goto 5, 3) := by decide +kernel
theorem dL_comes_531 : decode cL_comes 531 = .ok (.bipush 60, 2) := by decide +kernel
theorem dL_comes_533 : decode cL_comes 533 = .ok (.invokestatic 250, 3) := by decide +kernel
theorem dL_comes_536 : decode cL_comes 536 = .ok (.istore 7, 2) := by decide +kernel
theorem dL_comes_538 : decode cL_comes 538 = .ok (.iload_n 2, 1) := by decide +kernel
theorem dL_comes_539 : decode cL_comes 539 = .ok (.iconst 2, 1) := by decide +kernel
theorem dL_comes_540 : decode cL_comes 540 = .ok (.ishr, 1) := by decide +kernel
theorem dL_comes_541 : decode cL_comes 541 = .ok (.iload_n 3, 1) := by decide +kernel
theorem dL_comes_542 : decode cL_comes 542 = .ok (.ifCond .eq 7, 3) := by decide +kernel
theorem dL_comes_545 : decode cL_comes 545 = .ok (.iconst 4, 1) := by decide +kernel
theorem dL_comes_546 : decode cL_comes 546 = .ok (.goto 4, 3) := by decide +kernel
theorem dL_comes_549 : decode cL_comes 549 = .ok (.iconst 3, 1) := by decide +kernel
theorem dL_comes_550 : decode cL_comes 550 = .ok (.invokestatic 250, 3) := by decide +kernel
theorem dL_comes_553 : decode cL_comes 553 = .ok (.istore 8, 2) := by decide +kernel
theorem dL_comes_555 : decode cL_comes 555 = .ok (.iload 5, 2) := by decide +kernel
theorem dL_comes_557 : decode cL_comes 557 = .ok (.bipush 100, 2) := by decide +kernel
theorem dL_comes_559 : decode cL_comes 559 = .ok (.if_icmp .lt 31, 3) := by decide +kernel
theorem dL_comes_562 : decode cL_comes 562 = .ok (.iload 5, 2) := by decide +kernel
theorem dL_comes_564 : decode cL_comes 564 = .ok (.sipush 14000, 3) := by decide +kernel
theorem dL_comes_567 : decode cL_comes 567 = .ok (.if_icmp .gt 23, 3) := by decide +kernel
theorem dL_comes_570 : decode cL_comes 570 = .ok (.iload 6, 2) := by decide +kernel
theorem dL_comes_572 : decode cL_comes 572 = .ok (.bipush (-99), 2) := by decide +kernel
theorem dL_comes_574 : decode cL_comes 574 = .ok (.if_icmp .lt 16, 3) := by decide +kernel
theorem dL_comes_577 : decode cL_comes 577 = .ok (.iload 7, 2) := by decide +kernel
theorem dL_comes_579 : decode cL_comes 579 = .ok (.bipush 99, 2) := by decide +kernel
theorem dL_comes_581 : decode cL_comes 581 = .ok (.if_icmp .gt 9, 3) := by decide +kernel
theorem dL_comes_584 : decode cL_comes 584 = .ok (.iload 8, 2) := by decide +kernel
theorem dL_comes_586 : decode cL_comes 586 = .ok (.iconst 3, 1) := by decide +kernel
theorem dL_comes_587 : decode cL_comes 587 = .ok (.if_icmp .ne 7, 3) := by decide +kernel
theorem dL_comes_590 : decode cL_comes 590 = .ok (.iconst 1, 1) := by decide +kernel
theorem dL_comes_591 : decode cL_comes 591 = .ok (.goto 4, 3) := by decide +kernel
theorem dL_comes_594 : decode cL_comes 594 = .ok (.iconst 0, 1) := by decide +kernel
theorem dL_comes_595 : decode cL_comes 595 = .ok (.istore 9, 2) := by decide +kernel
theorem dL_comes_597 : decode cL_comes 597 = .ok (.aload_n 0, 1) := by decide +kernel
theorem dL_comes_598 : decode cL_comes 598 = .ok (.iload 5, 2) := by decide +kernel
theorem dL_comes_600 : decode cL_comes 600 = .ok (.iload 6, 2) := by decide +kernel
theorem dL_comes_602 : decode cL_comes 602 = .ok (.iload 7, 2) := by decide +kernel
theorem dL_comes_604 : decode cL_comes 604 = .ok (.iload 8, 2) := by decide +kernel
theorem dL_comes_606 : decode cL_comes 606 = .ok (.invokestatic 345, 3) := by decide +kernel
theorem dL_comes_609 : decode cL_comes 609 = .ok (.istore 10, 2) := by decide +kernel
theorem dL_comes_611 : decode cL_comes 611 = .ok (.iload 10, 2) := by decide +kernel
theorem dL_comes_613 : decode cL_comes 613 = .ok (.iload 9, 2) := by decide +kernel
theorem dL_comes_615 : decode cL_comes 615 = .ok (.ifCond .eq 8, 3) := by decide +kernel
theorem dL_comes_618 : decode cL_comes 618 = .ok (.ldc 17, 2) := by decide +kernel
theorem dL_comes_620 : decode cL_comes 620 = .ok (.goto 16, 3) := by decide +kernel
theorem dL_comes_623 : decode cL_comes 623 = .ok (.iload 4, 2) := by decide +kernel
theorem dL_comes_625 : decode cL_comes 625 = .ok (.iconst 5, 1) := by decide +kernel
theorem dL_comes_626 : decode cL_comes 626 = .ok (.if_icmp .ne 8, 3) := by decide +kernel
theorem dL_comes_629 : decode cL_comes 629 = .ok (.ldc 20, 2) := by decide +kernel
theorem dL_comes_631 : decode cL_comes 631 = .ok (.goto 5, 3) := by decide +kernel
theorem dL_comes_634 : decode cL_comes 634 = .ok (.iload 4, 2) := by decide +kernel
theorem dL_comes_636 : decode cL_comes 636 = .ok (.if_icmp .ne 91, 3) := by decide +kernel
theorem dL_comes_639 : decode cL_comes 639 = .ok (.aload_n 0, 1) := by decide +kernel
theorem dL_comes_640 : decode cL_comes 640 = .ok (.invokevirtual 236, 3) := by decide +kernel
theorem dL_comes_643 : decode cL_comes 643 = .ok (.iload 4, 2) := by decide +kernel
theorem dL_comes_645 : decode cL_comes 645 = .ok (.iload 10, 2) := by decide +kernel
theorem dL_comes_647 : decode cL_comes 647 = .ok (.ifCond .ge 7, 3) := by decide +kernel
theorem dL_comes_650 : decode cL_comes 650 = .ok (.iconst 0, 1) := by decide +kernel
theorem dL_comes_651 : decode cL_comes 651 = .ok (.goto 4, 3) := by decide +kernel
theorem dL_comes_654 : decode cL_comes 654 = .ok (.iconst 1, 1) := by decide +kernel
theorem dL_comes_655 : decode cL_comes 655 = .ok (.iadd, 1) := by decide +kernel
theorem dL_comes_656 : decode cL_comes 656 = .ok (.if_icmp .ne 71, 3) := by decide +kernel
theorem dL_comes_659 : decode cL_comes 659 = .ok (.iload 10, 2) := by decide +kernel
theorem dL_comes_661 : decode cL_comes 661 = .ok (.ifCond .lt 62, 3) := by decide +kernel
theorem dL_comes_664 : decode cL_comes 664 = .ok (.aload_n 0, 1) := by decide +kernel
theorem dL_comes_665 : decode cL_comes 665 = .ok (.iload 4, 2) := by decide +kernel
theorem dL_comes_667 : decode cL_comes 667 = .ok (.invokevirtual 173, 3) := by decide +kernel
theorem dL_comes_670 : decode cL_comes 670 = .ok (.iload 5, 2) := by decide +kernel
theorem dL_comes_672 : decode cL_comes 672 = .ok (.if_icmp .ne 55, 3) := by decide +kernel
theorem dL_comes_675 : decode cL_comes 675 = .ok (.aload_n 0, 1) := by decide +kernel
theorem dL_comes_676 : decode cL_comes 676 = .ok (.iload 4, 2) := by decide +kernel
theorem dL_comes_678 : decode cL_comes 678 = .ok (.invokevirtual 176, 3) := by decide +kernel
theorem dL_comes_681 : decode cL_comes 681 = .ok (.iload 7, 2) := by decide +kernel
theorem dL_comes_683 : decode cL_comes 683 = .ok (.iload 6, 2) := by decide +kernel
theorem dL_comes_685 : decode cL_comes 685 = .ok (.isub, 1) := by decide +kernel
theorem dL_comes_686 : decode cL_comes 686 = .ok (.if_icmp .ne 41, 3) := by decide +kernel
theorem dL_comes_689 : decode cL_comes 689 = .ok (.aload_n 0, 1) := by decide +kernel
theorem dL_comes_690 : decode cL_comes 690 = .ok (.iload 4, 2) := by decide +kernel
theorem dL_comes_692 : decode cL_comes 692 = .ok (.invokevirtual 179, 3) := by decide +kernel
theorem dL_comes_695 : decode cL_comes 695 = .ok (.aload_n 0, 1) := by decide +kernel
theorem dL_comes_696 : decode cL_comes 696 = .ok (.iload 4, 2) := by decide +kernel
theorem dL_comes_698 : decode cL_comes 698 = .ok (.invokevirtual 182, 3) := by decide +kernel
theorem dL_comes_701 : decode cL_comes 701 = .ok (.iadd, 1) := by decide +kernel
theorem dL_comes_702 : decode cL_comes 702 = .ok (.aload_n 0, 1) := by decide +kernel
theorem dL_comes_703 : decode cL_comes 703 = .ok (.iload 4, 2) := by decide +kernel
theorem dL_comes_705 : decode cL_comes 705 = .ok (.invokevirtual 188, 3) := by decide +kernel
theorem dL_comes_708 : decode cL_comes 708 = .ok (.iadd, 1) := by decide +kernel
theorem dL_comes_709 : decode cL_comes 709 = .ok (.ifCond .ne 18, 3) := by decide +kernel
theorem dL_comes_712 : decode cL_comes 712 = .ok (.aload_n 0, 1) := by decide +kernel
theorem dL_comes_713 : decode cL_comes 713 = .ok (.iload 4, 2) := by decide +kernel
theorem dL_comes_715 : decode cL_comes 715 = .ok (.invokevirtual 86, 3) := by decide +kernel
theorem dL_comes_718 : decode cL_comes 718 = .ok (.bipush 10, 2) := by decide +kernel
theorem dL_comes_720 : decode cL_comes 720 = .ok (.if_icmp .ne 7, 3) := by decide +kernel
theorem dL_comes_723 : decode cL_comes 723 = .ok (.iconst 1, 1) := by decide +kernel
theorem dL_comes_724 : decode cL_comes 724 = .ok (.goto 4, 3) := by decide +kernel
theorem dL_comes_728 : decode cL_comes 728 = .ok (.ireturn, 1) := by decide +kernel
theorem dL_comes_729 : decode cL_comes 729 = .ok (.iload_n 1, 1) := by decide +kernel
theorem dL_comes_730 : decode cL_comes 730 = .ok (.iconst 3, 1) := by decide +kernel
theorem dL_comes_731 : decode cL_comes 731 = .ok (.if_icmp .ne 103, 3) := by decide +kernel
theorem dL_comes_734 : decode cL_comes 734 = .ok (.iload_n 3, 1) := by decide +kernel
theorem dL_comes_735 : decode cL_comes 735 = .ok (.ifCond .eq 15, 3) := by decide +kernel
theorem dL_comes_738 : decode cL_comes 738 = .ok (.iload_n 2, 1) := by decide +kernel
theorem dL_comes_739 : decode cL_comes 739 = .ok (.bipush 80, 2) := by decide +kernel
theorem dL_comes_741 : decode cL_comes 741 = .ok (.invokestatic 250, 3) := by decide +kernel
theorem dL_comes_744 : decode cL_comes 744 = .ok (.bipush 20, 2) := by decide +kernel
theorem dL_comes_746 : decode cL_comes 746 = .ok (.isub, 1) := by decide +kernel
theorem dL_comes_747 : decode cL_comes 747 = .ok (.goto 12, 3) := by decide +kernel
theorem dL_comes_750 : decode cL_comes 750 = .ok (.iload_n 2, 1) := by decide +kernel
theorem dL_comes_751 : decode cL_comes 751 = .ok (.bipush 60, 2) := by decide +kernel
theorem dL_comes_753 : decode cL_comes 753 = .ok (.invokestatic 250, 3) := by decide +kernel
theorem dL_comes_756 : decode cL_comes 756 = .ok (.bipush 9, 2) := by decide +kernel
theorem dL_comes_758 : decode cL_comes 758 = .ok (.isub, 1) := by decide +kernel
theorem dL_comes_759 : decode cL_comes 759 = .ok (.istore 4, 2) := by decide +kernel
theorem dL_comes_761 : decode cL_comes 761 = .ok (.iload 4, 2) := by decide +kernel
theorem dL_comes_763 : decode cL_comes 763 = .ok (.bipush (-10), 2) := by decide +kernel
theorem dL_comes_765 : decode cL_comes 765 = .ok (.if_icmp .lt 10, 3) := by decide +kernel
theorem dL_comes_768 : decode cL_comes 768 = .ok (.iload 4, 2) := by decide +kernel
theorem dL_comes_770 : decode cL_comes 770 = .ok (.bipush 50, 2) := by decide +kernel
theorem dL_comes_772 : decode cL_comes 772 = .ok (.if_icmp .le 7, 3) := by decide +kernel
theorem dL_comes_775 : decode cL_comes 775 = .ok (.iconst 1, 1) := by decide +kernel
theorem dL_comes_776 : decode cL_comes 776 = .ok (.goto 4, 3) := by decide +kernel
theorem dL_comes_779 : decode cL_comes 779 = .ok (.iconst 0, 1) := by decide +kernel
theorem dL_comes_780 : decode cL_comes 780 = .ok (.istore 5, 2) := by decide +kernel
theorem dL_comes_782 : decode cL_comes 782 = .ok (.aload_n 0, 1) := by decide +kernel
theorem dL_comes_783 : decode cL_comes 783 = .ok (.invokevirtual 209, 3) := by decide +kernel
theorem dL_comes_786 : decode cL_comes 786 = .ok (.istore 6, 2) := by decide +kernel
theorem dL_comes_788 : decode cL_comes 788 = .ok (.aload_n 0, 1) := by decide +kernel
theorem dL_comes_789 : decode cL_comes 789 = .ok (.iload 4, 2) := by decide +kernel
theorem dL_comes_791 : decode cL_comes 791 = .ok (.invokestatic 348, 3) := by decide +kernel
theorem dL_comes_794 : decode cL_comes 794 = .ok (.iload 5, 2) := by decide +kernel
theorem dL_comes_796 : decode cL_comes 796 = .ok (.ifCond .eq 8, 3) := by decide +kernel
theorem dL_comes_799 : decode cL_comes 799 = .ok (.ldc 17, 2) := by decide +kernel
theorem dL_comes_801 : decode cL_comes 801 = .ok (.goto 5, 3) := by decide +kernel
theorem dL_comes_804 : decode cL_comes 804 = .ok (.iload 6, 2) := by decide +kernel
theorem dL_comes_806 : decode cL_comes 806 = .ok (.if_icmp .ne 26, 3) := by decide +kernel
theorem dL_comes_809 : decode cL_comes 809 = .ok (.aload_n 0, 1) := by decide +kernel
theorem dL_comes_810 : decode cL_comes 810 = .ok (.invokevirtual 209, 3) := by decide +kernel
theorem dL_comes_813 : decode cL_comes 813 = .ok (.iload 5, 2) := by decide +kernel
theorem dL_comes_815 : decode cL_comes 815 = .ok (.ifCond .eq 8, 3) := by decide +kernel
theorem dL_comes_818 : decode cL_comes 818 = .ok (.iload 6, 2) := by decide +kernel
theorem dL_comes_820 : decode cL_comes 820 = .ok (.goto 5, 3) := by decide +kernel
theorem dL_comes_823 : decode cL_comes 823 = .ok (.iload 4, 2) := by decide +kernel
theorem dL_comes_825 : decode cL_comes 825 = .ok (.if_icmp .ne 7, 3) := by decide +kernel
theorem dL_comes_828 : decode cL_comes 828 = .ok (.iconst 1, 1) := by decide +kernel
theorem dL_comes_829 : decode cL_comes 829 = .ok (.goto 4, 3) := by decide +kernel
theorem dL_comes_833 : decode cL_comes 833 = .ok (.ireturn, 1) := by decide +kernel
theorem dL_comes_834 : decode cL_comes 834 = .ok (.iload_n 1, 1) := by decide +kernel
theorem dL_comes_835 : decode cL_comes 835 = .ok (.iconst 4, 1) := by decide +kernel
theorem dL_comes_836 : decode cL_comes 836 = .ok (.if_icmp .ne 68, 3) := by decide +kernel
theorem dL_comes_839 : decode cL_comes 839 = .ok (.iload_n 2, 1) := by decide +kernel
theorem dL_comes_840 : decode cL_comes 840 = .ok (.iload_n 3, 1) := by decide +kernel
theorem dL_comes_841 : decode cL_comes 841 = .ok (.ifCond .eq 8, 3) := by decide +kernel
theorem dL_comes_844 : decode cL_comes 844 = .ok (.bipush 104, 2) := by decide +kernel
theorem dL_comes_846 : decode cL_comes 846 = .ok (.goto 5, 3) := by decide +kernel
theorem dL_comes_849 : decode cL_comes 849 = .ok (.bipush 40, 2) := by decide +kernel
theorem dL_comes_851 : decode cL_comes 851 = .ok (.invokestatic 250, 3) := by decide +kernel
theorem dL_comes_854 : decode cL_comes 854 = .ok (.istore 4, 2) := by decide +kernel
theorem dL_comes_856 : decode cL_comes 856 = .ok (.aload_n 0, 1) := by decide +kernel
theorem dL_comes_857 : decode cL_comes 857 = .ok (.iload 4, 2) := by decide +kernel
theorem dL_comes_859 : decode cL_comes 859 = .ok (.invokestatic 350, 3) := by decide +kernel
theorem dL_comes_862 : decode cL_comes 862 = .ok (.istore 5, 2) := by decide +kernel
theorem dL_comes_864 : decode cL_comes 864 = .ok (.iload 4, 2) := by decide +kernel
theorem dL_comes_866 : decode cL_comes 866 = .ok (.bipush 99, 2) := by decide +kernel
theorem dL_comes_868 : decode cL_comes 868 = .ok (.if_icmp .le 18, 3) := by decide +kernel
theorem dL_comes_871 : decode cL_comes 871 = .ok (.iload 5, 2) := by decide +kernel
theorem dL_comes_873 : decode cL_comes 873 = .ok (.ldc 17, 2) := by decide +kernel
theorem dL_comes_875 : decode cL_comes 875 = .ok (.if_icmp .ne 7, 3) := by decide +kernel
theorem dL_comes_878 : decode cL_comes 878 = .ok (.iconst 1, 1) := by decide +kernel
theorem dL_comes_879 : decode cL_comes 879 = .ok (.goto 24, 3) := by decide +kernel
theorem dL_comes_886 : decode cL_comes 886 = .ok (.iload 5, 2) := by decide +kernel
theorem dL_comes_888 : decode cL_comes 888 = .ok (.ifCond .lt 14, 3) := by decide +kernel
theorem dL_comes_891 : decode cL_comes 891 = .ok (.iload 5, 2) := by decide +kernel
theorem dL_comes_893 : decode cL_comes 893 = .ok (.bipush 100, 2) := by decide +kernel
theorem dL_comes_895 : decode cL_comes 895 = .ok (.if_icmp .ge 7, 3) := by decide +kernel
theorem dL_comes_898 : decode cL_comes 898 = .ok (.iconst 1, 1) := by decide +kernel
theorem dL_comes_899 : decode cL_comes 899 = .ok (.goto 4, 3) := by decide +kernel
theorem dL_comes_903 : decode cL_comes 903 = .ok (.ireturn, 1) := by decide +kernel
theorem dL_comes_904 : decode cL_comes 904 = .ok (.aload_n 0, 1) := by decide +kernel
theorem dL_comes_905 : decode cL_comes 905 = .ok (.invokevirtual 212, 3) := by decide +kernel
theorem dL_comes_908 : decode cL_comes 908 = .ok (.istore 4, 2) := by decide +kernel
theorem dL_comes_910 : decode cL_comes 910 = .ok (.aload_n 0, 1) := by decide +kernel
theorem dL_comes_911 : decode cL_comes 911 = .ok (.invokestatic 352, 3) := by decide +kernel
theorem dL_comes_914 : decode cL_comes 914 = .ok (.istore 5, 2) := by decide +kernel
theorem dL_comes_916 : decode cL_comes 916 = .ok (.iconst 0, 1) := by decide +kernel
theorem dL_comes_917 : decode cL_comes 917 = .ok (.istore 6, 2) := by decide +kernel
theorem dL_comes_919 : decode cL_comes 919 = .ok (.iconst 0, 1) := by decide +kernel
theorem dL_comes_920 : decode cL_comes 920 = .ok (.istore 7, 2) := by decide +kernel
theorem dL_comes_922 : decode cL_comes 922 = .ok (.iload 7, 2) := by decide +kernel
theorem dL_comes_924 : decode cL_comes 924 = .ok (.aload_n 0, 1) := by decide +kernel
theorem dL_comes_925 : decode cL_comes 925 = .ok (.invokevirtual 230, 3) := by decide +kernel
theorem dL_comes_928 : decode cL_comes 928 = .ok (.if_icmp .ge 28, 3) := by decide +kernel
theorem dL_comes_931 : decode cL_comes 931 = .ok (.iload 6, 2) := by decide +kernel
theorem dL_comes_933 : decode cL_comes 933 = .ok (.aload_n 0, 1) := by decide +kernel
theorem dL_comes_934 : decode cL_comes 934 = .ok (.iload 7, 2) := by decide +kernel
theorem dL_comes_936 : decode cL_comes 936 = .ok (.invokevirtual 61, 3) := by decide +kernel
theorem dL_comes_939 : decode cL_comes 939 = .ok (.ifCond .eq 7, 3) := by decide +kernel
theorem dL_comes_942 : decode cL_comes 942 = .ok (.iconst 1, 1) := by decide +kernel
theorem dL_comes_943 : decode cL_comes 943 = .ok (.goto 4, 3) := by decide +kernel
theorem dL_comes_946 : decode cL_comes 946 = .ok (.iconst 0, 1) := by decide +kernel
theorem dL_comes_947 : decode cL_comes 947 = .ok (.iadd, 1) := by decide +kernel
theorem dL_comes_948 : decode cL_comes 948 = .ok (.istore 6, 2) := by decide +kernel
theorem dL_comes_950 : decode cL_comes 950 = .ok (.iinc 7 1, 3) := by decide +kernel
theorem dL_comes_953 : decode cL_comes 953 = .ok (.goto (-31), 3) := by decide +kernel
theorem dL_comes_956 : decode cL_comes 956 = .ok (.iload 5, 2) := by decide +kernel
theorem dL_comes_958 : decode cL_comes 958 = .ok (.iload 4, 2) := by decide +kernel
theorem dL_comes_960 : decode cL_comes 960 = .ok (.sipush 999, 3) := by decide +kernel
theorem dL_comes_963 : decode cL_comes 963 = .ok (.if_icmp .ne 8, 3) := by decide +kernel
theorem dL_comes_966 : decode cL_comes 966 = .ok (.ldc 20, 2) := by decide +kernel
theorem dL_comes_968 : decode cL_comes 968 = .ok (.goto 5, 3) := by decide +kernel
theorem dL_comes_971 : decode cL_comes 971 = .ok (.iload 6, 2) := by decide +kernel
theorem dL_comes_973 : decode cL_comes 973 = .ok (.if_icmp .ne 30, 3) := by decide +kernel
theorem dL_comes_976 : decode cL_comes 976 = .ok (.aload_n 0, 1) := by decide +kernel
theorem dL_comes_977 : decode cL_comes 977 = .ok (.invokevirtual 212, 3) := by decide +kernel
theorem dL_comes_980 : decode cL_comes 980 = .ok (.iload 4, 2) := by decide +kernel
theorem dL_comes_982 : decode cL_comes 982 = .ok (.iload 4, 2) := by decide +kernel
theorem dL_comes_984 : decode cL_comes 984 = .ok (.sipush 999, 3) := by decide +kernel
theorem dL_comes_987 : decode cL_comes 987 = .ok (.if_icmp .ne 7, 3) := by decide +kernel
theorem dL_comes_990 : decode cL_comes 990 = .ok (.iconst 0, 1) := by decide +kernel
theorem dL_comes_991 : decode cL_comes 991 = .ok (.goto 4, 3) := by decide +kernel
theorem dL_comes_994 : decode cL_comes 994 = .ok (.iconst 1, 1) := by decide +kernel
theorem dL_comes_995 : decode cL_comes 995 = .ok (.iadd, 1) := by decide +kernel
theorem dL_comes_996 : decode cL_comes 996 = .ok (.if_icmp .ne 7, 3) := by decide +kernel
theorem dL_comes_999 : decode cL_comes 999 = .ok (.iconst 1, 1) := by decide +kernel
theorem dL_comes_1000 : decode cL_comes 1000 = .ok (.goto 4, 3) := by decide +kernel
theorem dL_comes_1004 : decode cL_comes 1004 = .ok (.ireturn, 1) := by decide +kernel
set_option maxHeartbeats 8000000 in
set_option maxRecDepth 100000 in
theorem mL_comes (l : Launch) (hst : l.stackTraces = false) (G : gG) (da : Nat → Nat) (v : vSt) (x : gX) (o1 : Nat) (hk_o1 : kd o1 = 10) (p1 : Int32) (p2 : Int32) (ho : oL_comes o1 p1 p2 v) : NI l yL_comes cL_comes 11 .boolean (rmL_comes o1 p1 p2 v) [.ref (ga G o1), .int p1, .int p2] G da v x (kkL_comes o1 p1 p2 v) (kkL_comes o1 p1 p2 v) 1 (fL_comes o1 p1 p2 v) := by
  refine gofNI (by decide) rfl (Nat.le_of_ble_eq_true rfl) (fun p e s m args below meth c ls Q X hN hH hl E => ?_)
  have hx := X.1
  have hb := X.2.1
  have hown := X.2.2.2.1
  have hts := X.2.2.2.2.1
  have hS : va_S (gA G) s.heap s.heap [] := va_S.rf
  have hkk : kkL_comes o1 p1 p2 v = pot (fL_comes o1 p1 p2 v) - pot v + 42 := rfl
  unfold oL_comes at ho
  have hl : lv_has ls 11 [(0, .ref (ga G o1)), (1, .int p1), (2, .int p2)] := hl
  refine lv_iload_n hx hb dL_comes_0 rfl (lv_at hl 2 rfl) ?_
  refine lv_bipush (v := 9) hx hb dL_comes_1 (by decide) ?_
  refine lv_ishr hx hb dL_comes_3 ?_
  refine lv_bipush (v := 9) hx hb dL_comes_4 (by decide) ?_
  have hq1 := ho.1
  have ho := ho.2
  refine k_L_low X hS hq1 t_ml_VernierDrawersLaw_250 hl.1 (Nat.le_of_ble_eq_true rfl) ⟨Nat.le_of_ble_eq_true rfl, Nat.le_of_ble_eq_true rfl⟩ ⟨Nat.zero_le _, Nat.zero_le _⟩ dL_comes_6 ?_
  have K3 : ∀ (y2 : Int32) (ls : Array Slot), y2 = (if ((fL_low (p2 >>> ((9 : Int32) &&& 31)) 9) : Int32) = 0 then 1 else 0 : Int32) → lv_has ls 11 [(0, .ref (ga G o1)), (1, .int p1), (2, .int p2)] → W p l e (rmL_comes o1 p1 p2 v) s m args below meth c s.heap [] 0 0 Q (F0 m 17 ls [.int y2]) := by
    intro y2 ls ey2 hl
    have ho := ho y2 ey2
    refine lv_istore_n (lv' := [(3, .int y2), (0, .ref (ga G o1)), (1, .int p1), (2, .int p2)]) hx hb dL_comes_17 rfl hl (by decide) rfl (fun ls hl => ?_)
    refine lv_iload_n hx hb dL_comes_18 rfl (lv_at hl 2 rfl) ?_
    refine lv_if_ne (tgt := 260) hx hb dL_comes_19 (by decide) (fun c4 => ?_) (fun c4 => ?_)
    · have ho := ho.2 c4
      refine lv_iload_n hx hb dL_comes_260 rfl (lv_at hl 2 rfl) ?_
      refine lv_iconst (v := 1) hx hb dL_comes_261 (by decide) ?_
      refine lv_icmp_ne (tgt := 461) hx hb dL_comes_262 (by decide) (fun c5 => ?_) (fun c5 => ?_)
      · have ho := ho.2 c5
        refine lv_iload_n hx hb dL_comes_461 rfl (lv_at hl 2 rfl) ?_
        refine lv_iconst (v := 2) hx hb dL_comes_462 (by decide) ?_
        refine lv_icmp_ne (tgt := 729) hx hb dL_comes_463 (by decide) (fun c6 => ?_) (fun c6 => ?_)
        · have ho := ho.2 c6
          refine lv_iload_n hx hb dL_comes_729 rfl (lv_at hl 2 rfl) ?_
          refine lv_iconst (v := 3) hx hb dL_comes_730 (by decide) ?_
          refine lv_icmp_ne (tgt := 834) hx hb dL_comes_731 (by decide) (fun c7 => ?_) (fun c7 => ?_)
          · have ho := ho.2 c7
            refine lv_iload_n hx hb dL_comes_834 rfl (lv_at hl 2 rfl) ?_
            refine lv_iconst (v := 4) hx hb dL_comes_835 (by decide) ?_
            refine lv_icmp_ne (tgt := 904) hx hb dL_comes_836 (by decide) (fun c8 => ?_) (fun c8 => ?_)
            · have ho := ho.2 c8
              refine lv_aload_n hx hb dL_comes_904 rfl (lv_at hl 1 rfl) ?_
              have hq9 := ho.1
              have ho := ho.2
              refine k_X10_days X hS hH hk_o1 hq9 t_ml_VernierDrawersLaw_212 hl.1 (Nat.le_of_ble_eq_true rfl) ⟨Nat.le_of_ble_eq_true rfl, Nat.le_of_ble_eq_true rfl⟩ ⟨Nat.zero_le _, Nat.zero_le _⟩ dL_comes_905 ?_
              refine lv_istore (lv' := [(4, .int (fX10_days o1 v)), (3, .int y2), (0, .ref (ga G o1)), (1, .int p1), (2, .int p2)]) hx hb dL_comes_908 hl (by decide) rfl (fun ls hl => ?_)
              refine lv_aload_n hx hb dL_comes_910 rfl (lv_at hl 2 rfl) ?_
              have hq10 := ho.1
              have ho := ho.2
              have hk11 : kkL_endDay o1 v = pot ((fL_endDay o1 v).2) - pot v + 36 := rfl
              have hq12 := ho.1
              have ho := ho.2
              refine k_L_endDay hst X hS hN hH hk_o1 hq10 t_ml_VernierDrawersLaw_352 hl.1 (Nat.le_of_ble_eq_true rfl) ⟨Nat.le_of_ble_eq_true rfl, Nat.le_of_ble_eq_true rfl⟩ ⟨(show 0 + kkL_endDay o1 v ≤ kkL_comes o1 p1 p2 v by omega), (show 0 + kkL_endDay o1 v ≤ kkL_comes o1 p1 p2 v by omega)⟩ dL_comes_911 (fun da H locs v13 ev13 hH hS => ?_)
              have ho := ho v13 ev13
              have hp14 : pot v13 = pot ((fL_endDay o1 v).2) := by rw [ev13]
              refine W.widen (k := ((pot v13 - pot v) + 36)) (n := ((pot v13 - pot v) + 36)) (by omega) (by omega) ?_
              refine lv_istore (lv' := [(5, .int ((fL_endDay o1 v).1)), (4, .int (fX10_days o1 v)), (3, .int y2), (0, .ref (ga G o1)), (1, .int p1), (2, .int p2)]) hx hb dL_comes_914 hl (by decide) rfl (fun ls hl => ?_)
              refine lv_iconst (v := 0) hx hb dL_comes_916 (by decide) ?_
              refine lv_istore (lv' := [(6, .int 0), (5, .int ((fL_endDay o1 v).1)), (4, .int (fX10_days o1 v)), (3, .int y2), (0, .ref (ga G o1)), (1, .int p1), (2, .int p2)]) hx hb dL_comes_917 hl (by decide) rfl (fun ls hl => ?_)
              refine lv_iconst (v := 0) hx hb dL_comes_919 (by decide) ?_
              refine lv_istore (lv' := [(7, .int 0), (6, .int 0), (5, .int ((fL_endDay o1 v).1)), (4, .int (fX10_days o1 v)), (3, .int y2), (0, .ref (ga G o1)), (1, .int p1), (2, .int p2)]) hx hb dL_comes_920 hl (by decide) rfl (fun ls hl => ?_)
              have L18 : ∀ (n : Nat) (i15 : Int32) (i16 : Int32) (ls : Array Slot), olL_comes_922 o1 v13 n i15 i16 → lv_has ls 11 [(7, .int i15), (6, .int i16), (5, .int ((fL_endDay o1 v).1)), (4, .int (fX10_days o1 v)), (0, .ref (ga G o1))] → (∀ (y17 : Int32) (ls : Array Slot), y17 = (lL_comes_922 o1 v13 n i15 i16 : Int32) → lv_has ls 11 [(6, .int y17), (5, .int ((fL_endDay o1 v).1)), (4, .int (fX10_days o1 v)), (0, .ref (ga G o1))] → W p l e (rmL_comes o1 p1 p2 v) s m args below meth c H locs ((pot v13 - pot v) + 36) ((pot v13 - pot v) + 36) Q (F0 m 956 ls [])) → W p l e (rmL_comes o1 p1 p2 v) s m args below meth c H locs ((pot v13 - pot v) + 36) ((pot v13 - pot v) + 36) Q (F0 m 922 ls []) := by
                clear ho
                intro n
                induction n with
                | zero =>
                  intro i15 i16 ls ho
                  exact ho.elim
                | succ n ih =>
                  intro i15 i16 ls ho hl K19
                  refine lv_iload hx hb dL_comes_922 (lv_at hl 0 rfl) ?_
                  refine lv_aload_n hx hb dL_comes_924 rfl (lv_at hl 4 rfl) ?_
                  have hq21 := ho.1
                  have ho := ho.2
                  refine k_X10_tools X hS hH hk_o1 hq21 t_ml_VernierDrawersLaw_230 hl.1 (Nat.le_of_ble_eq_true rfl) ⟨Nat.le_of_ble_eq_true rfl, Nat.le_of_ble_eq_true rfl⟩ ⟨(show ((pot v13 - pot v) + 36) ≤ kkL_comes o1 p1 p2 v by omega), (show ((pot v13 - pot v) + 36) ≤ kkL_comes o1 p1 p2 v by omega)⟩ dL_comes_925 ?_
                  refine lv_icmp_ge (tgt := 956) hx hb dL_comes_928 (by decide) (fun c22 => ?_) (fun c22 => ?_)
                  · skip
                    have hoz := ho
                    have hlz := hl
                    exact K19 _ _ (Eq.symm (((lL_comes_922.eq_2 _ _ _ _ _)).trans ((if_pos c22).trans rfl))) (lv_sub hlz [1, 2, 3, 4] rfl)
                  · have ho := ho c22
                    refine lv_iload hx hb dL_comes_931 (lv_at hl 1 rfl) ?_
                    refine lv_aload_n hx hb dL_comes_933 rfl (lv_at hl 4 rfl) ?_
                    refine lv_iload hx hb dL_comes_934 (lv_at hl 0 rfl) ?_
                    have hq23 := ho.1
                    have ho := ho.2
                    have hq24 := ho.1
                    have ho := ho.2
                    refine kZ_X10_isDue X hS hH hk_o1 hq23 hq24 t_ml_VernierDrawersLaw_61 hl.1 (Nat.le_of_ble_eq_true rfl) ⟨Nat.le_of_ble_eq_true rfl, Nat.le_of_ble_eq_true rfl⟩ ⟨(show ((pot v13 - pot v) + 36) ≤ kkL_comes o1 p1 p2 v by omega), (show ((pot v13 - pot v) + 36) ≤ kkL_comes o1 p1 p2 v by omega)⟩ dL_comes_936 ?_
                    have K26 : ∀ (y25 : Int32) (ls : Array Slot), y25 = (if (((fX10_isDue o1 i15 v13).2) : Int32) = 0 then 0 else 1 : Int32) → lv_has ls 11 [(7, .int i15), (5, .int ((fL_endDay o1 v).1)), (4, .int (fX10_days o1 v)), (0, .ref (ga G o1))] → W p l e (rmL_comes o1 p1 p2 v) s m args below meth c H locs ((pot v13 - pot v) + 36) ((pot v13 - pot v) + 36) Q (F0 m 947 ls [.int y25, .int i16]) := by
                      intro y25 ls ey25 hl
                      have ho := ho y25 ey25
                      refine lv_iadd hx hb dL_comes_947 ?_
                      refine lv_istore (lv' := [(6, .int (i16 + y25)), (7, .int i15), (5, .int ((fL_endDay o1 v).1)), (4, .int (fX10_days o1 v)), (0, .ref (ga G o1))]) hx hb dL_comes_948 hl (by decide) rfl (fun ls hl => ?_)
                      refine lv_iinc (v := i15 + 1) (lv' := [(7, .int (i15 + 1)), (6, .int (i16 + y25)), (5, .int ((fL_endDay o1 v).1)), (4, .int (fX10_days o1 v)), (0, .ref (ga G o1))]) hx hb dL_comes_950 hl (k := 1) rfl rfl (by decide) rfl (fun ls hl => ?_)
                      refine lv_goto (tgt := 922) hx hb dL_comes_953 (by decide) ?_
                      have hoz := ho
                      have hlz := hl
                      replace ey25 := Eq.symm ey25
                      subst ey25
                      exact ih _ _ _ hoz (lv_sub hlz [0, 1, 2, 3, 4] rfl) (fun y17 ls q0 hl => K19 y17 ls (q0.trans (congrArg (fun z : Int32 => z) (Eq.symm (((lL_comes_922.eq_2 _ _ _ _ _)).trans ((if_neg c22).trans rfl))))) hl)
                    refine lv_if_eq (tgt := 946) hx hb dL_comes_939 (by decide) (fun c26 => ?_) (fun c26 => ?_)
                    · skip
                      refine lv_iconst (v := 0) hx hb dL_comes_946 (by decide) ?_
                      have hlz := hl
                      exact K26 _ _ (Eq.symm ((if_pos c26).trans rfl)) (lv_sub hlz [0, 2, 3, 4] rfl)
                    · skip
                      refine lv_iconst (v := 1) hx hb dL_comes_942 (by decide) ?_
                      refine lv_goto (tgt := 947) hx hb dL_comes_943 (by decide) ?_
                      have hlz := hl
                      exact K26 _ _ (Eq.symm ((if_neg c26).trans rfl)) (lv_sub hlz [0, 2, 3, 4] rfl)
              have hol := ho.1
              refine L18 (7) 0 0 _ hol (lv_sub hl [0, 1, 2, 3, 5] rfl) (fun y17 ls ey17 hl => ?_)
              have ho := ho.2 y17 ey17
              refine lv_iload hx hb dL_comes_956 (lv_at hl 1 rfl) ?_
              refine lv_iload hx hb dL_comes_958 (lv_at hl 2 rfl) ?_
              refine lv_sipush (v := 999) hx hb dL_comes_960 (by decide) ?_
              have K28 : ∀ (y27 : Int32) (ls : Array Slot), y27 = (if ((fX10_days o1 v) : Int32) = 999 then ((-100103)) else y17 : Int32) → lv_has ls 11 [(4, .int (fX10_days o1 v)), (0, .ref (ga G o1))] → W p l e (rmL_comes o1 p1 p2 v) s m args below meth c H locs ((pot v13 - pot v) + 36) ((pot v13 - pot v) + 36) Q (F0 m 973 ls [.int y27, .int ((fL_endDay o1 v).1)]) := by
                intro y27 ls ey27 hl
                have ho := ho y27 ey27
                refine lv_icmp_ne (tgt := 1003) hx hb dL_comes_973 (by decide) (fun c29 => ?_) (fun c29 => ?_)
                · exact absurd ho.1 c29
                have ho := ho.2
                refine lv_aload_n hx hb dL_comes_976 rfl (lv_at hl 1 rfl) ?_
                have hq30 := ho.1
                have ho := ho.2
                refine k_X10_days X hS hH hk_o1 hq30 t_ml_VernierDrawersLaw_212 hl.1 (Nat.le_of_ble_eq_true rfl) ⟨Nat.le_of_ble_eq_true rfl, Nat.le_of_ble_eq_true rfl⟩ ⟨(show ((pot v13 - pot v) + 36) ≤ kkL_comes o1 p1 p2 v by omega), (show ((pot v13 - pot v) + 36) ≤ kkL_comes o1 p1 p2 v by omega)⟩ dL_comes_977 ?_
                refine lv_iload hx hb dL_comes_980 (lv_at hl 0 rfl) ?_
                refine lv_iload hx hb dL_comes_982 (lv_at hl 0 rfl) ?_
                refine lv_sipush (v := 999) hx hb dL_comes_984 (by decide) ?_
                have K32 : ∀ (y31 : Int32) (ls : Array Slot), y31 = (if ((fX10_days o1 v) : Int32) = 999 then 0 else 1 : Int32) → lv_has ls 11 [] → W p l e (rmL_comes o1 p1 p2 v) s m args below meth c H locs ((pot v13 - pot v) + 36) ((pot v13 - pot v) + 36) Q (F0 m 995 ls [.int y31, .int (fX10_days o1 v), .int (fX10_days o1 v13)]) := by
                  intro y31 ls ey31 hl
                  have ho := ho y31 ey31
                  refine lv_iadd hx hb dL_comes_995 ?_
                  refine lv_icmp_ne (tgt := 1003) hx hb dL_comes_996 (by decide) (fun c33 => ?_) (fun c33 => ?_)
                  · exact absurd ho c33
                  refine lv_iconst (v := 1) hx hb dL_comes_999 (by decide) ?_
                  refine lv_goto (tgt := 1004) hx hb dL_comes_1000 (by decide) ?_
                  have hHz := hH
                  have hSz := hS
                  have hFz : fL_comes o1 p1 p2 v = v13 := by
                    refine (fL_comes.eq_1 _ _ _ _).trans ?_
                    dsimp only
                    try rw [← ey2]
                    try rw [← ev13]
                    try rw [← ey17]
                    try rw [← ey27]
                    try rw [← ey31]
                    all_goals rw [if_neg c4]
                    all_goals rw [if_neg c5]
                    all_goals rw [if_neg c6]
                    all_goals rw [if_neg c7]
                    all_goals rw [if_neg c8]
                  exact E _ _ _ _ _ _ _ _ _ dL_comes_1004 rfl rfl (Eq.symm hFz) hHz hSz (show ((pot v13 - pot v) + 36) ≤ kkL_comes o1 p1 p2 v by omega) (show ((pot v13 - pot v) + 36) ≤ kkL_comes o1 p1 p2 v by omega)
                refine lv_icmp_ne (tgt := 994) hx hb dL_comes_987 (by decide) (fun c32 => ?_) (fun c32 => ?_)
                · skip
                  refine lv_iconst (v := 1) hx hb dL_comes_994 (by decide) ?_
                  have hlz := hl
                  exact K32 _ _ (Eq.symm ((if_neg c32).trans rfl)) (lv_sub hlz [] rfl)
                · skip
                  refine lv_iconst (v := 0) hx hb dL_comes_990 (by decide) ?_
                  refine lv_goto (tgt := 995) hx hb dL_comes_991 (by decide) ?_
                  have hlz := hl
                  exact K32 _ _ (Eq.symm ((if_pos c32).trans rfl)) (lv_sub hlz [] rfl)
              refine lv_icmp_ne (tgt := 971) hx hb dL_comes_963 (by decide) (fun c28 => ?_) (fun c28 => ?_)
              · skip
                refine lv_iload hx hb dL_comes_971 (lv_at hl 0 rfl) ?_
                have hlz := hl
                exact K28 _ _ (Eq.symm ((if_neg c28).trans rfl)) (lv_sub hlz [2, 3] rfl)
              · skip
                refine lv_ldc (v := (-100103)) hx hb hown (hts _ t_con_VernierDrawersLaw_20) dL_comes_966 ?_
                refine lv_goto (tgt := 973) hx hb dL_comes_968 (by decide) ?_
                have hlz := hl
                exact K28 _ _ (Eq.symm ((if_pos c28).trans rfl)) (lv_sub hlz [2, 3] rfl)
            · have ho := ho.1 c8
              refine lv_iload_n hx hb dL_comes_839 rfl (lv_at hl 3 rfl) ?_
              refine lv_iload_n hx hb dL_comes_840 rfl (lv_at hl 0 rfl) ?_
              have K35 : ∀ (y34 : Int32) (ls : Array Slot), y34 = (if (y2 : Int32) = 0 then 40 else 104 : Int32) → lv_has ls 11 [(0, .ref (ga G o1))] → W p l e (rmL_comes o1 p1 p2 v) s m args below meth c s.heap [] 0 0 Q (F0 m 851 ls [.int y34, .int p2]) := by
                intro y34 ls ey34 hl
                have ho := ho y34 ey34
                have hq36 := ho.1
                have ho := ho.2
                refine k_L_low X hS hq36 t_ml_VernierDrawersLaw_250 hl.1 (Nat.le_of_ble_eq_true rfl) ⟨Nat.le_of_ble_eq_true rfl, Nat.le_of_ble_eq_true rfl⟩ ⟨Nat.zero_le _, Nat.zero_le _⟩ dL_comes_851 ?_
                refine lv_istore (lv' := [(4, .int (fL_low p2 y34)), (0, .ref (ga G o1))]) hx hb dL_comes_854 hl (by decide) rfl (fun ls hl => ?_)
                refine lv_aload_n hx hb dL_comes_856 rfl (lv_at hl 1 rfl) ?_
                refine lv_iload hx hb dL_comes_857 (lv_at hl 0 rfl) ?_
                have hq37 := ho.1
                have ho := ho.2
                have hk38 : kkL_setTolerance o1 (fL_low p2 y34) v = pot ((fL_setTolerance o1 (fL_low p2 y34) v).2) - pot v + 36 := rfl
                have hq39 := ho.1
                have ho := ho.2
                refine k_L_setTolerance hst X hS hN hH hk_o1 hq37 t_ml_VernierDrawersLaw_350 hl.1 (Nat.le_of_ble_eq_true rfl) ⟨Nat.le_of_ble_eq_true rfl, Nat.le_of_ble_eq_true rfl⟩ ⟨(show 0 + kkL_setTolerance o1 (fL_low p2 y34) v ≤ kkL_comes o1 p1 p2 v by omega), (show 0 + kkL_setTolerance o1 (fL_low p2 y34) v ≤ kkL_comes o1 p1 p2 v by omega)⟩ dL_comes_859 (fun da H locs v40 ev40 hH hS => ?_)
                have ho := ho v40 ev40
                have hp41 : pot v40 = pot ((fL_setTolerance o1 (fL_low p2 y34) v).2) := by rw [ev40]
                refine W.widen (k := ((pot v40 - pot v) + 36)) (n := ((pot v40 - pot v) + 36)) (by omega) (by omega) ?_
                refine lv_istore (lv' := [(5, .int ((fL_setTolerance o1 (fL_low p2 y34) v).1)), (4, .int (fL_low p2 y34)), (0, .ref (ga G o1))]) hx hb dL_comes_862 hl (by decide) rfl (fun ls hl => ?_)
                refine lv_iload hx hb dL_comes_864 (lv_at hl 1 rfl) ?_
                refine lv_bipush (v := 99) hx hb dL_comes_866 (by decide) ?_
                refine lv_icmp_le (tgt := 886) hx hb dL_comes_868 (by decide) (fun c42 => ?_) (fun c42 => ?_)
                · have ho := ho.1 c42
                  refine lv_iload hx hb dL_comes_886 (lv_at hl 0 rfl) ?_
                  refine lv_if_lt (tgt := 902) hx hb dL_comes_888 (by decide) (fun c43 => ?_) (fun c43 => ?_)
                  · exact absurd c43 ho.1
                  have ho := ho.2
                  refine lv_iload hx hb dL_comes_891 (lv_at hl 0 rfl) ?_
                  refine lv_bipush (v := 100) hx hb dL_comes_893 (by decide) ?_
                  refine lv_icmp_ge (tgt := 902) hx hb dL_comes_895 (by decide) (fun c44 => ?_) (fun c44 => ?_)
                  · exact absurd c44 ho
                  refine lv_iconst (v := 1) hx hb dL_comes_898 (by decide) ?_
                  refine lv_goto (tgt := 903) hx hb dL_comes_899 (by decide) ?_
                  have hHz := hH
                  have hSz := hS
                  have hFz : fL_comes o1 p1 p2 v = v40 := by
                    refine (fL_comes.eq_1 _ _ _ _).trans ?_
                    dsimp only
                    try rw [← ey2]
                    try rw [← ey34]
                    try rw [← ev40]
                    all_goals rw [if_neg c4]
                    all_goals rw [if_neg c5]
                    all_goals rw [if_neg c6]
                    all_goals rw [if_neg c7]
                    all_goals rw [if_pos c8]
                    all_goals rw [if_pos c42]
                  exact E _ _ _ _ _ _ _ _ _ dL_comes_903 rfl rfl (Eq.symm hFz) hHz hSz (show ((pot v40 - pot v) + 36) ≤ kkL_comes o1 p1 p2 v by omega) (show ((pot v40 - pot v) + 36) ≤ kkL_comes o1 p1 p2 v by omega)
                · have ho := ho.2 c42
                  refine lv_iload hx hb dL_comes_871 (lv_at hl 0 rfl) ?_
                  refine lv_ldc (v := (-100102)) hx hb hown (hts _ t_con_VernierDrawersLaw_17) dL_comes_873 ?_
                  refine lv_icmp_ne (tgt := 882) hx hb dL_comes_875 (by decide) (fun c45 => ?_) (fun c45 => ?_)
                  · exact absurd ho c45
                  refine lv_iconst (v := 1) hx hb dL_comes_878 (by decide) ?_
                  refine lv_goto (tgt := 903) hx hb dL_comes_879 (by decide) ?_
                  have hHz := hH
                  have hSz := hS
                  have hFz : fL_comes o1 p1 p2 v = v40 := by
                    refine (fL_comes.eq_1 _ _ _ _).trans ?_
                    dsimp only
                    try rw [← ey2]
                    try rw [← ey34]
                    try rw [← ev40]
                    all_goals rw [if_neg c4]
                    all_goals rw [if_neg c5]
                    all_goals rw [if_neg c6]
                    all_goals rw [if_neg c7]
                    all_goals rw [if_pos c8]
                    all_goals rw [if_neg c42]
                  exact E _ _ _ _ _ _ _ _ _ dL_comes_903 rfl rfl (Eq.symm hFz) hHz hSz (show ((pot v40 - pot v) + 36) ≤ kkL_comes o1 p1 p2 v by omega) (show ((pot v40 - pot v) + 36) ≤ kkL_comes o1 p1 p2 v by omega)
              refine lv_if_eq (tgt := 849) hx hb dL_comes_841 (by decide) (fun c35 => ?_) (fun c35 => ?_)
              · skip
                refine lv_bipush (v := 40) hx hb dL_comes_849 (by decide) ?_
                have hlz := hl
                exact K35 _ _ (Eq.symm ((if_pos c35).trans rfl)) (lv_sub hlz [1] rfl)
              · skip
                refine lv_bipush (v := 104) hx hb dL_comes_844 (by decide) ?_
                refine lv_goto (tgt := 851) hx hb dL_comes_846 (by decide) ?_
                have hlz := hl
                exact K35 _ _ (Eq.symm ((if_neg c35).trans rfl)) (lv_sub hlz [1] rfl)
          · have ho := ho.1 c7
            refine lv_iload_n hx hb dL_comes_734 rfl (lv_at hl 0 rfl) ?_
            have K47 : ∀ (y46 : Int32) (ls : Array Slot), y46 = (if (y2 : Int32) = 0 then ((fL_low p2 60) - (9 : Int32)) else ((fL_low p2 80) - (20 : Int32)) : Int32) → lv_has ls 11 [(0, .ref (ga G o1))] → W p l e (rmL_comes o1 p1 p2 v) s m args below meth c s.heap [] 0 0 Q (F0 m 759 ls [.int y46]) := by
              intro y46 ls ey46 hl
              have ho := ho.2 y46 ey46
              refine lv_istore (lv' := [(4, .int y46), (0, .ref (ga G o1))]) hx hb dL_comes_759 hl (by decide) rfl (fun ls hl => ?_)
              refine lv_iload hx hb dL_comes_761 (lv_at hl 0 rfl) ?_
              refine lv_bipush (v := (-10)) hx hb dL_comes_763 (by decide) ?_
              have K49 : ∀ (y48 : Int32) (ls : Array Slot), y48 = (if (y46 : Int32) < (-10) then 1 else (if (y46 : Int32) ≤ 50 then 0 else 1) : Int32) → lv_has ls 11 [(4, .int y46), (0, .ref (ga G o1))] → W p l e (rmL_comes o1 p1 p2 v) s m args below meth c s.heap [] 0 0 Q (F0 m 780 ls [.int y48]) := by
                intro y48 ls ey48 hl
                have ho := ho y48 ey48
                refine lv_istore (lv' := [(5, .int y48), (4, .int y46), (0, .ref (ga G o1))]) hx hb dL_comes_780 hl (by decide) rfl (fun ls hl => ?_)
                refine lv_aload_n hx hb dL_comes_782 rfl (lv_at hl 2 rfl) ?_
                have hq50 := ho.1
                have ho := ho.2
                refine k_X10_warmth X hS hH hk_o1 hq50 t_ml_VernierDrawersLaw_209 hl.1 (Nat.le_of_ble_eq_true rfl) ⟨Nat.le_of_ble_eq_true rfl, Nat.le_of_ble_eq_true rfl⟩ ⟨Nat.zero_le _, Nat.zero_le _⟩ dL_comes_783 ?_
                refine lv_istore (lv' := [(6, .int (fX10_warmth o1 v)), (5, .int y48), (4, .int y46), (0, .ref (ga G o1))]) hx hb dL_comes_786 hl (by decide) rfl (fun ls hl => ?_)
                refine lv_aload_n hx hb dL_comes_788 rfl (lv_at hl 3 rfl) ?_
                refine lv_iload hx hb dL_comes_789 (lv_at hl 2 rfl) ?_
                have hq51 := ho.1
                have ho := ho.2
                have hk52 : kkL_setWarmth o1 y46 v = pot ((fL_setWarmth o1 y46 v).2) - pot v + 36 := rfl
                have hq53 := ho.1
                have ho := ho.2
                refine k_L_setWarmth hst X hS hN hH hk_o1 hq51 t_ml_VernierDrawersLaw_348 hl.1 (Nat.le_of_ble_eq_true rfl) ⟨Nat.le_of_ble_eq_true rfl, Nat.le_of_ble_eq_true rfl⟩ ⟨(show 0 + kkL_setWarmth o1 y46 v ≤ kkL_comes o1 p1 p2 v by omega), (show 0 + kkL_setWarmth o1 y46 v ≤ kkL_comes o1 p1 p2 v by omega)⟩ dL_comes_791 (fun da H locs v54 ev54 hH hS => ?_)
                have ho := ho v54 ev54
                have hp55 : pot v54 = pot ((fL_setWarmth o1 y46 v).2) := by rw [ev54]
                refine W.widen (k := ((pot v54 - pot v) + 36)) (n := ((pot v54 - pot v) + 36)) (by omega) (by omega) ?_
                refine lv_iload hx hb dL_comes_794 (lv_at hl 1 rfl) ?_
                have K57 : ∀ (y56 : Int32) (ls : Array Slot), y56 = (if (y48 : Int32) = 0 then (fX10_warmth o1 v) else ((-100102)) : Int32) → lv_has ls 11 [(6, .int (fX10_warmth o1 v)), (5, .int y48), (4, .int y46), (0, .ref (ga G o1))] → W p l e (rmL_comes o1 p1 p2 v) s m args below meth c H locs ((pot v54 - pot v) + 36) ((pot v54 - pot v) + 36) Q (F0 m 806 ls [.int y56, .int ((fL_setWarmth o1 y46 v).1)]) := by
                  intro y56 ls ey56 hl
                  have ho := ho y56 ey56
                  refine lv_icmp_ne (tgt := 832) hx hb dL_comes_806 (by decide) (fun c58 => ?_) (fun c58 => ?_)
                  · exact absurd ho.1 c58
                  have ho := ho.2
                  refine lv_aload_n hx hb dL_comes_809 rfl (lv_at hl 3 rfl) ?_
                  have hq59 := ho.1
                  have ho := ho.2
                  refine k_X10_warmth X hS hH hk_o1 hq59 t_ml_VernierDrawersLaw_209 hl.1 (Nat.le_of_ble_eq_true rfl) ⟨Nat.le_of_ble_eq_true rfl, Nat.le_of_ble_eq_true rfl⟩ ⟨(show ((pot v54 - pot v) + 36) ≤ kkL_comes o1 p1 p2 v by omega), (show ((pot v54 - pot v) + 36) ≤ kkL_comes o1 p1 p2 v by omega)⟩ dL_comes_810 ?_
                  refine lv_iload hx hb dL_comes_813 (lv_at hl 1 rfl) ?_
                  have K61 : ∀ (y60 : Int32) (ls : Array Slot), y60 = (if (y48 : Int32) = 0 then y46 else (fX10_warmth o1 v) : Int32) → lv_has ls 11 [] → W p l e (rmL_comes o1 p1 p2 v) s m args below meth c H locs ((pot v54 - pot v) + 36) ((pot v54 - pot v) + 36) Q (F0 m 825 ls [.int y60, .int (fX10_warmth o1 v54)]) := by
                    intro y60 ls ey60 hl
                    have ho := ho y60 ey60
                    refine lv_icmp_ne (tgt := 832) hx hb dL_comes_825 (by decide) (fun c62 => ?_) (fun c62 => ?_)
                    · exact absurd ho c62
                    refine lv_iconst (v := 1) hx hb dL_comes_828 (by decide) ?_
                    refine lv_goto (tgt := 833) hx hb dL_comes_829 (by decide) ?_
                    have hHz := hH
                    have hSz := hS
                    have hFz : fL_comes o1 p1 p2 v = v54 := by
                      refine (fL_comes.eq_1 _ _ _ _).trans ?_
                      dsimp only
                      try rw [← ey2]
                      try rw [← ey46]
                      try rw [← ey48]
                      try rw [← ev54]
                      try rw [← ey56]
                      try rw [← ey60]
                      all_goals rw [if_neg c4]
                      all_goals rw [if_neg c5]
                      all_goals rw [if_neg c6]
                      all_goals rw [if_pos c7]
                    exact E _ _ _ _ _ _ _ _ _ dL_comes_833 rfl rfl (Eq.symm hFz) hHz hSz (show ((pot v54 - pot v) + 36) ≤ kkL_comes o1 p1 p2 v by omega) (show ((pot v54 - pot v) + 36) ≤ kkL_comes o1 p1 p2 v by omega)
                  refine lv_if_eq (tgt := 823) hx hb dL_comes_815 (by decide) (fun c61 => ?_) (fun c61 => ?_)
                  · skip
                    refine lv_iload hx hb dL_comes_823 (lv_at hl 2 rfl) ?_
                    have hlz := hl
                    exact K61 _ _ (Eq.symm ((if_pos c61).trans rfl)) (lv_sub hlz [] rfl)
                  · skip
                    refine lv_iload hx hb dL_comes_818 (lv_at hl 0 rfl) ?_
                    refine lv_goto (tgt := 825) hx hb dL_comes_820 (by decide) ?_
                    have hlz := hl
                    exact K61 _ _ (Eq.symm ((if_neg c61).trans rfl)) (lv_sub hlz [] rfl)
                refine lv_if_eq (tgt := 804) hx hb dL_comes_796 (by decide) (fun c57 => ?_) (fun c57 => ?_)
                · skip
                  refine lv_iload hx hb dL_comes_804 (lv_at hl 0 rfl) ?_
                  have hlz := hl
                  exact K57 _ _ (Eq.symm ((if_pos c57).trans rfl)) (lv_sub hlz [0, 1, 2, 3] rfl)
                · skip
                  refine lv_ldc (v := (-100102)) hx hb hown (hts _ t_con_VernierDrawersLaw_17) dL_comes_799 ?_
                  refine lv_goto (tgt := 806) hx hb dL_comes_801 (by decide) ?_
                  have hlz := hl
                  exact K57 _ _ (Eq.symm ((if_neg c57).trans rfl)) (lv_sub hlz [0, 1, 2, 3] rfl)
              refine lv_icmp_lt (tgt := 775) hx hb dL_comes_765 (by decide) (fun c49 => ?_) (fun c49 => ?_)
              · skip
                refine lv_iconst (v := 1) hx hb dL_comes_775 (by decide) ?_
                refine lv_goto (tgt := 780) hx hb dL_comes_776 (by decide) ?_
                have hlz := hl
                exact K49 _ _ (Eq.symm ((if_pos c49).trans rfl)) (lv_sub hlz [0, 1] rfl)
              · skip
                refine lv_iload hx hb dL_comes_768 (lv_at hl 0 rfl) ?_
                refine lv_bipush (v := 50) hx hb dL_comes_770 (by decide) ?_
                refine lv_icmp_le (tgt := 779) hx hb dL_comes_772 (by decide) (fun c50 => ?_) (fun c50 => ?_)
                · skip
                  refine lv_iconst (v := 0) hx hb dL_comes_779 (by decide) ?_
                  have hlz := hl
                  exact K49 _ _ (Eq.symm ((if_neg c49).trans ((if_pos c50).trans rfl))) (lv_sub hlz [0, 1] rfl)
                · skip
                  refine lv_iconst (v := 1) hx hb dL_comes_775 (by decide) ?_
                  refine lv_goto (tgt := 780) hx hb dL_comes_776 (by decide) ?_
                  have hlz := hl
                  exact K49 _ _ (Eq.symm ((if_neg c49).trans ((if_neg c50).trans rfl))) (lv_sub hlz [0, 1] rfl)
            have ho := ho.1
            refine lv_if_eq (tgt := 750) hx hb dL_comes_735 (by decide) (fun c47 => ?_) (fun c47 => ?_)
            · have ho := ho.1 c47
              refine lv_iload_n hx hb dL_comes_750 rfl (lv_at hl 3 rfl) ?_
              refine lv_bipush (v := 60) hx hb dL_comes_751 (by decide) ?_
              have hq48 := ho
              refine k_L_low X hS hq48 t_ml_VernierDrawersLaw_250 hl.1 (Nat.le_of_ble_eq_true rfl) ⟨Nat.le_of_ble_eq_true rfl, Nat.le_of_ble_eq_true rfl⟩ ⟨Nat.zero_le _, Nat.zero_le _⟩ dL_comes_753 ?_
              refine lv_bipush (v := 9) hx hb dL_comes_756 (by decide) ?_
              refine lv_isub hx hb dL_comes_758 ?_
              have hlz := hl
              exact K47 _ _ (Eq.symm ((if_pos c47).trans rfl)) (lv_sub hlz [1] rfl)
            · have ho := ho.2 c47
              refine lv_iload_n hx hb dL_comes_738 rfl (lv_at hl 3 rfl) ?_
              refine lv_bipush (v := 80) hx hb dL_comes_739 (by decide) ?_
              have hq49 := ho
              refine k_L_low X hS hq49 t_ml_VernierDrawersLaw_250 hl.1 (Nat.le_of_ble_eq_true rfl) ⟨Nat.le_of_ble_eq_true rfl, Nat.le_of_ble_eq_true rfl⟩ ⟨Nat.zero_le _, Nat.zero_le _⟩ dL_comes_741 ?_
              refine lv_bipush (v := 20) hx hb dL_comes_744 (by decide) ?_
              refine lv_isub hx hb dL_comes_746 ?_
              refine lv_goto (tgt := 759) hx hb dL_comes_747 (by decide) ?_
              have hlz := hl
              exact K47 _ _ (Eq.symm ((if_neg c47).trans rfl)) (lv_sub hlz [1] rfl)
        · have ho := ho.1 c6
          refine lv_aload_n hx hb dL_comes_466 rfl (lv_at hl 1 rfl) ?_
          have hq63 := ho.1
          have ho := ho.2
          refine k_X10_types X hS hH hk_o1 hq63 t_ml_VernierDrawersLaw_236 hl.1 (Nat.le_of_ble_eq_true rfl) ⟨Nat.le_of_ble_eq_true rfl, Nat.le_of_ble_eq_true rfl⟩ ⟨Nat.zero_le _, Nat.zero_le _⟩ dL_comes_467 ?_
          refine lv_istore (lv' := [(4, .int (fX10_types o1 v)), (3, .int y2), (0, .ref (ga G o1)), (1, .int p1), (2, .int p2)]) hx hb dL_comes_470 hl (by decide) rfl (fun ls hl => ?_)
          refine lv_iload_n hx hb dL_comes_472 rfl (lv_at hl 1 rfl) ?_
          have K65 : ∀ (y64 : Int32) (ls : Array Slot), y64 = (if (y2 : Int32) = 0 then ((100 : Int32) + (fL_low p2 2000)) else (fL_low p2 14200) : Int32) → lv_has ls 11 [(4, .int (fX10_types o1 v)), (3, .int y2), (0, .ref (ga G o1)), (2, .int p2)] → W p l e (rmL_comes o1 p1 p2 v) s m args below meth c s.heap [] 0 0 Q (F0 m 496 ls [.int y64]) := by
            intro y64 ls ey64 hl
            have ho := ho.2 y64 ey64
            refine lv_istore (lv' := [(5, .int y64), (4, .int (fX10_types o1 v)), (3, .int y2), (0, .ref (ga G o1)), (2, .int p2)]) hx hb dL_comes_496 hl (by decide) rfl (fun ls hl => ?_)
            refine lv_iload_n hx hb dL_comes_498 rfl (lv_at hl 4 rfl) ?_
            refine lv_iconst (v := 4) hx hb dL_comes_499 (by decide) ?_
            refine lv_ishr hx hb dL_comes_500 ?_
            refine lv_iload_n hx hb dL_comes_501 rfl (lv_at hl 2 rfl) ?_
            have K67 : ∀ (y66 : Int32) (ls : Array Slot), y66 = (if (y2 : Int32) = 0 then 60 else 102 : Int32) → lv_has ls 11 [(5, .int y64), (4, .int (fX10_types o1 v)), (3, .int y2), (0, .ref (ga G o1)), (2, .int p2)] → W p l e (rmL_comes o1 p1 p2 v) s m args below meth c s.heap [] 0 0 Q (F0 m 512 ls [.int y66, .int (p2 >>> ((4 : Int32) &&& 31))]) := by
              intro y66 ls ey66 hl
              have ho := ho y66 ey66
              have hq68 := ho.1
              have ho := ho.2
              refine k_L_low X hS hq68 t_ml_VernierDrawersLaw_250 hl.1 (Nat.le_of_ble_eq_true rfl) ⟨Nat.le_of_ble_eq_true rfl, Nat.le_of_ble_eq_true rfl⟩ ⟨Nat.zero_le _, Nat.zero_le _⟩ dL_comes_512 ?_
              refine lv_ineg hx hb dL_comes_515 ?_
              refine lv_istore (lv' := [(6, .int (-(fL_low (p2 >>> ((4 : Int32) &&& 31)) y66))), (5, .int y64), (4, .int (fX10_types o1 v)), (3, .int y2), (0, .ref (ga G o1)), (2, .int p2)]) hx hb dL_comes_516 hl (by decide) rfl (fun ls hl => ?_)
              refine lv_iload_n hx hb dL_comes_518 rfl (lv_at hl 5 rfl) ?_
              refine lv_bipush (v := 7) hx hb dL_comes_519 (by decide) ?_
              refine lv_ishr hx hb dL_comes_521 ?_
              refine lv_iload_n hx hb dL_comes_522 rfl (lv_at hl 3 rfl) ?_
              have K70 : ∀ (y69 : Int32) (ls : Array Slot), y69 = (if (y2 : Int32) = 0 then 60 else 102 : Int32) → lv_has ls 11 [(6, .int (-(fL_low (p2 >>> ((4 : Int32) &&& 31)) y66))), (5, .int y64), (4, .int (fX10_types o1 v)), (3, .int y2), (0, .ref (ga G o1)), (2, .int p2)] → W p l e (rmL_comes o1 p1 p2 v) s m args below meth c s.heap [] 0 0 Q (F0 m 533 ls [.int y69, .int (p2 >>> ((7 : Int32) &&& 31))]) := by
                intro y69 ls ey69 hl
                have ho := ho y69 ey69
                have hq71 := ho.1
                have ho := ho.2
                refine k_L_low X hS hq71 t_ml_VernierDrawersLaw_250 hl.1 (Nat.le_of_ble_eq_true rfl) ⟨Nat.le_of_ble_eq_true rfl, Nat.le_of_ble_eq_true rfl⟩ ⟨Nat.zero_le _, Nat.zero_le _⟩ dL_comes_533 ?_
                refine lv_istore (lv' := [(7, .int (fL_low (p2 >>> ((7 : Int32) &&& 31)) y69)), (6, .int (-(fL_low (p2 >>> ((4 : Int32) &&& 31)) y66))), (5, .int y64), (4, .int (fX10_types o1 v)), (3, .int y2), (0, .ref (ga G o1)), (2, .int p2)]) hx hb dL_comes_536 hl (by decide) rfl (fun ls hl => ?_)
                refine lv_iload_n hx hb dL_comes_538 rfl (lv_at hl 6 rfl) ?_
                refine lv_iconst (v := 2) hx hb dL_comes_539 (by decide) ?_
                refine lv_ishr hx hb dL_comes_540 ?_
                refine lv_iload_n hx hb dL_comes_541 rfl (lv_at hl 4 rfl) ?_
                have K73 : ∀ (y72 : Int32) (ls : Array Slot), y72 = (if (y2 : Int32) = 0 then 3 else 4 : Int32) → lv_has ls 11 [(7, .int (fL_low (p2 >>> ((7 : Int32) &&& 31)) y69)), (6, .int (-(fL_low (p2 >>> ((4 : Int32) &&& 31)) y66))), (5, .int y64), (4, .int (fX10_types o1 v)), (0, .ref (ga G o1))] → W p l e (rmL_comes o1 p1 p2 v) s m args below meth c s.heap [] 0 0 Q (F0 m 550 ls [.int y72, .int (p2 >>> ((2 : Int32) &&& 31))]) := by
                  intro y72 ls ey72 hl
                  have ho := ho y72 ey72
                  have hq74 := ho.1
                  have ho := ho.2
                  refine k_L_low X hS hq74 t_ml_VernierDrawersLaw_250 hl.1 (Nat.le_of_ble_eq_true rfl) ⟨Nat.le_of_ble_eq_true rfl, Nat.le_of_ble_eq_true rfl⟩ ⟨Nat.zero_le _, Nat.zero_le _⟩ dL_comes_550 ?_
                  refine lv_istore (lv' := [(8, .int (fL_low (p2 >>> ((2 : Int32) &&& 31)) y72)), (7, .int (fL_low (p2 >>> ((7 : Int32) &&& 31)) y69)), (6, .int (-(fL_low (p2 >>> ((4 : Int32) &&& 31)) y66))), (5, .int y64), (4, .int (fX10_types o1 v)), (0, .ref (ga G o1))]) hx hb dL_comes_553 hl (by decide) rfl (fun ls hl => ?_)
                  refine lv_iload hx hb dL_comes_555 (lv_at hl 3 rfl) ?_
                  refine lv_bipush (v := 100) hx hb dL_comes_557 (by decide) ?_
                  have K76 : ∀ (y75 : Int32) (ls : Array Slot), y75 = (if (y64 : Int32) < 100 then 1 else (if (14000 : Int32) < y64 then 1 else (if ((-(fL_low (p2 >>> ((4 : Int32) &&& 31)) y66)) : Int32) < (-99) then 1 else (if (99 : Int32) < (fL_low (p2 >>> ((7 : Int32) &&& 31)) y69) then 1 else (if ((fL_low (p2 >>> ((2 : Int32) &&& 31)) y72) : Int32) = 3 then 1 else 0)))) : Int32) → lv_has ls 11 [(8, .int (fL_low (p2 >>> ((2 : Int32) &&& 31)) y72)), (7, .int (fL_low (p2 >>> ((7 : Int32) &&& 31)) y69)), (6, .int (-(fL_low (p2 >>> ((4 : Int32) &&& 31)) y66))), (5, .int y64), (4, .int (fX10_types o1 v)), (0, .ref (ga G o1))] → W p l e (rmL_comes o1 p1 p2 v) s m args below meth c s.heap [] 0 0 Q (F0 m 595 ls [.int y75]) := by
                    intro y75 ls ey75 hl
                    have ho := ho y75 ey75
                    refine lv_istore (lv' := [(9, .int y75), (8, .int (fL_low (p2 >>> ((2 : Int32) &&& 31)) y72)), (7, .int (fL_low (p2 >>> ((7 : Int32) &&& 31)) y69)), (6, .int (-(fL_low (p2 >>> ((4 : Int32) &&& 31)) y66))), (5, .int y64), (4, .int (fX10_types o1 v)), (0, .ref (ga G o1))]) hx hb dL_comes_595 hl (by decide) rfl (fun ls hl => ?_)
                    refine lv_aload_n hx hb dL_comes_597 rfl (lv_at hl 6 rfl) ?_
                    refine lv_iload hx hb dL_comes_598 (lv_at hl 4 rfl) ?_
                    refine lv_iload hx hb dL_comes_600 (lv_at hl 3 rfl) ?_
                    refine lv_iload hx hb dL_comes_602 (lv_at hl 2 rfl) ?_
                    refine lv_iload hx hb dL_comes_604 (lv_at hl 1 rfl) ?_
                    have hq77 := ho.1
                    have ho := ho.2
                    have hk78 : kkL_addType o1 y64 (-(fL_low (p2 >>> ((4 : Int32) &&& 31)) y66)) (fL_low (p2 >>> ((7 : Int32) &&& 31)) y69) (fL_low (p2 >>> ((2 : Int32) &&& 31)) y72) v = pot ((fL_addType o1 y64 (-(fL_low (p2 >>> ((4 : Int32) &&& 31)) y66)) (fL_low (p2 >>> ((7 : Int32) &&& 31)) y69) (fL_low (p2 >>> ((2 : Int32) &&& 31)) y72) v).2) - pot v + 36 := rfl
                    have hq79 := ho.1
                    have ho := ho.2
                    refine k_L_addType hst X hS hN hH hk_o1 hq77 t_ml_VernierDrawersLaw_345 hl.1 (Nat.le_of_ble_eq_true rfl) ⟨Nat.le_of_ble_eq_true rfl, Nat.le_of_ble_eq_true rfl⟩ ⟨(show 0 + kkL_addType o1 y64 (-(fL_low (p2 >>> ((4 : Int32) &&& 31)) y66)) (fL_low (p2 >>> ((7 : Int32) &&& 31)) y69) (fL_low (p2 >>> ((2 : Int32) &&& 31)) y72) v ≤ kkL_comes o1 p1 p2 v by omega), (show 0 + kkL_addType o1 y64 (-(fL_low (p2 >>> ((4 : Int32) &&& 31)) y66)) (fL_low (p2 >>> ((7 : Int32) &&& 31)) y69) (fL_low (p2 >>> ((2 : Int32) &&& 31)) y72) v ≤ kkL_comes o1 p1 p2 v by omega)⟩ dL_comes_606 (fun da H locs v80 ev80 hH hS => ?_)
                    have ho := ho v80 ev80
                    have hp81 : pot v80 = pot ((fL_addType o1 y64 (-(fL_low (p2 >>> ((4 : Int32) &&& 31)) y66)) (fL_low (p2 >>> ((7 : Int32) &&& 31)) y69) (fL_low (p2 >>> ((2 : Int32) &&& 31)) y72) v).2) := by rw [ev80]
                    refine W.widen (k := ((pot v80 - pot v) + 36)) (n := ((pot v80 - pot v) + 36)) (by omega) (by omega) ?_
                    obtain ⟨y82, ey82⟩ : ∃ z : Int32, z = (fL_addType o1 y64 (-(fL_low (p2 >>> ((4 : Int32) &&& 31)) y66)) (fL_low (p2 >>> ((7 : Int32) &&& 31)) y69) (fL_low (p2 >>> ((2 : Int32) &&& 31)) y72) v).1 := ⟨_, rfl⟩
                    rw [← ey82]
                    have ho := ho y82 ey82
                    refine lv_istore (lv' := [(10, .int y82), (9, .int y75), (8, .int (fL_low (p2 >>> ((2 : Int32) &&& 31)) y72)), (7, .int (fL_low (p2 >>> ((7 : Int32) &&& 31)) y69)), (6, .int (-(fL_low (p2 >>> ((4 : Int32) &&& 31)) y66))), (5, .int y64), (4, .int (fX10_types o1 v)), (0, .ref (ga G o1))]) hx hb dL_comes_609 hl (by decide) rfl (fun ls hl => ?_)
                    refine lv_iload hx hb dL_comes_611 (lv_at hl 0 rfl) ?_
                    refine lv_iload hx hb dL_comes_613 (lv_at hl 1 rfl) ?_
                    have K84 : ∀ (y83 : Int32) (ls : Array Slot), y83 = (if (y75 : Int32) = 0 then (if ((fX10_types o1 v) : Int32) = 5 then ((-100103)) else (fX10_types o1 v)) else ((-100102)) : Int32) → lv_has ls 11 [(10, .int y82), (7, .int (fL_low (p2 >>> ((7 : Int32) &&& 31)) y69)), (6, .int (-(fL_low (p2 >>> ((4 : Int32) &&& 31)) y66))), (5, .int y64), (4, .int (fX10_types o1 v)), (0, .ref (ga G o1))] → W p l e (rmL_comes o1 p1 p2 v) s m args below meth c H locs ((pot v80 - pot v) + 36) ((pot v80 - pot v) + 36) Q (F0 m 636 ls [.int y83, .int y82]) := by
                      intro y83 ls ey83 hl
                      have ho := ho y83 ey83
                      refine lv_icmp_ne (tgt := 727) hx hb dL_comes_636 (by decide) (fun c85 => ?_) (fun c85 => ?_)
                      · exact absurd ho.1 c85
                      have ho := ho.2
                      refine lv_aload_n hx hb dL_comes_639 rfl (lv_at hl 5 rfl) ?_
                      have hq86 := ho.1
                      have ho := ho.2
                      refine k_X10_types X hS hH hk_o1 hq86 t_ml_VernierDrawersLaw_236 hl.1 (Nat.le_of_ble_eq_true rfl) ⟨Nat.le_of_ble_eq_true rfl, Nat.le_of_ble_eq_true rfl⟩ ⟨(show ((pot v80 - pot v) + 36) ≤ kkL_comes o1 p1 p2 v by omega), (show ((pot v80 - pot v) + 36) ≤ kkL_comes o1 p1 p2 v by omega)⟩ dL_comes_640 ?_
                      refine lv_iload hx hb dL_comes_643 (lv_at hl 4 rfl) ?_
                      refine lv_iload hx hb dL_comes_645 (lv_at hl 0 rfl) ?_
                      have K88 : ∀ (y87 : Int32) (ls : Array Slot), y87 = (if (0 : Int32) ≤ y82 then 1 else 0 : Int32) → lv_has ls 11 [(10, .int y82), (7, .int (fL_low (p2 >>> ((7 : Int32) &&& 31)) y69)), (6, .int (-(fL_low (p2 >>> ((4 : Int32) &&& 31)) y66))), (5, .int y64), (4, .int (fX10_types o1 v)), (0, .ref (ga G o1))] → W p l e (rmL_comes o1 p1 p2 v) s m args below meth c H locs ((pot v80 - pot v) + 36) ((pot v80 - pot v) + 36) Q (F0 m 655 ls [.int y87, .int (fX10_types o1 v), .int (fX10_types o1 v80)]) := by
                        intro y87 ls ey87 hl
                        have ho := ho y87 ey87
                        refine lv_iadd hx hb dL_comes_655 ?_
                        refine lv_icmp_ne (tgt := 727) hx hb dL_comes_656 (by decide) (fun c89 => ?_) (fun c89 => ?_)
                        · exact absurd ho.1 c89
                        have ho := ho.2
                        refine lv_iload hx hb dL_comes_659 (lv_at hl 0 rfl) ?_
                        refine lv_if_lt (tgt := 723) hx hb dL_comes_661 (by decide) (fun c90 => ?_) (fun c90 => ?_)
                        · skip
                          refine lv_iconst (v := 1) hx hb dL_comes_723 (by decide) ?_
                          refine lv_goto (tgt := 728) hx hb dL_comes_724 (by decide) ?_
                          have hHz := hH
                          have hSz := hS
                          have hFz : fL_comes o1 p1 p2 v = v80 := by
                            refine (fL_comes.eq_1 _ _ _ _).trans ?_
                            dsimp only
                            try rw [← ey2]
                            try rw [← ey64]
                            try rw [← ey66]
                            have dy69 : y69 = y66 := (by rw [ey69, ey66])
                            try rw [dy69] at ey72
                            try rw [dy69] at ey75
                            try rw [dy69] at ev80
                            try rw [dy69] at ey82
                            try rw [dy69] at ey83
                            try rw [dy69] at ey87
                            try rw [dy69] at c4
                            try rw [dy69] at c5
                            try rw [dy69] at c6
                            try rw [dy69] at c90
                            try rw [← ey72]
                            try rw [← ey75]
                            try rw [← ev80]
                            try rw [← ey82]
                            try rw [← ey83]
                            try rw [← ey87]
                            all_goals rw [if_neg c4]
                            all_goals rw [if_neg c5]
                            all_goals rw [if_pos c6]
                            all_goals rw [if_pos c90]
                          exact E _ _ _ _ _ _ _ _ _ dL_comes_728 rfl rfl (Eq.symm hFz) hHz hSz (show ((pot v80 - pot v) + 36) ≤ kkL_comes o1 p1 p2 v by omega) (show ((pot v80 - pot v) + 36) ≤ kkL_comes o1 p1 p2 v by omega)
                        · have ho := ho c90
                          refine lv_aload_n hx hb dL_comes_664 rfl (lv_at hl 5 rfl) ?_
                          refine lv_iload hx hb dL_comes_665 (lv_at hl 4 rfl) ?_
                          have hq91 := ho.1
                          have ho := ho.2
                          have hq92 := ho.1
                          have ho := ho.2
                          refine kZ_X10_lengthOf X hS hH hk_o1 hq91 hq92 t_ml_VernierDrawersLaw_173 hl.1 (Nat.le_of_ble_eq_true rfl) ⟨Nat.le_of_ble_eq_true rfl, Nat.le_of_ble_eq_true rfl⟩ ⟨(show ((pot v80 - pot v) + 36) ≤ kkL_comes o1 p1 p2 v by omega), (show ((pot v80 - pot v) + 36) ≤ kkL_comes o1 p1 p2 v by omega)⟩ dL_comes_667 ?_
                          refine lv_iload hx hb dL_comes_670 (lv_at hl 3 rfl) ?_
                          refine lv_icmp_ne (tgt := 727) hx hb dL_comes_672 (by decide) (fun c93 => ?_) (fun c93 => ?_)
                          · exact absurd ho.1 c93
                          have ho := ho.2
                          refine lv_aload_n hx hb dL_comes_675 rfl (lv_at hl 5 rfl) ?_
                          refine lv_iload hx hb dL_comes_676 (lv_at hl 4 rfl) ?_
                          have hq94 := ho.1
                          have ho := ho.2
                          have hq95 := ho.1
                          have ho := ho.2
                          refine kZ_X10_widthOf X hS hH hk_o1 hq94 hq95 t_ml_VernierDrawersLaw_176 hl.1 (Nat.le_of_ble_eq_true rfl) ⟨Nat.le_of_ble_eq_true rfl, Nat.le_of_ble_eq_true rfl⟩ ⟨(show ((pot v80 - pot v) + 36) ≤ kkL_comes o1 p1 p2 v by omega), (show ((pot v80 - pot v) + 36) ≤ kkL_comes o1 p1 p2 v by omega)⟩ dL_comes_678 ?_
                          refine lv_iload hx hb dL_comes_681 (lv_at hl 1 rfl) ?_
                          refine lv_iload hx hb dL_comes_683 (lv_at hl 2 rfl) ?_
                          refine lv_isub hx hb dL_comes_685 ?_
                          refine lv_icmp_ne (tgt := 727) hx hb dL_comes_686 (by decide) (fun c96 => ?_) (fun c96 => ?_)
                          · exact absurd ho.1 c96
                          have ho := ho.2
                          refine lv_aload_n hx hb dL_comes_689 rfl (lv_at hl 5 rfl) ?_
                          refine lv_iload hx hb dL_comes_690 (lv_at hl 4 rfl) ?_
                          have hq97 := ho.1
                          have ho := ho.2
                          have hq98 := ho.1
                          have ho := ho.2
                          refine kZ_X10_mannerOf X hS hH hk_o1 hq97 hq98 t_ml_VernierDrawersLaw_179 hl.1 (Nat.le_of_ble_eq_true rfl) ⟨Nat.le_of_ble_eq_true rfl, Nat.le_of_ble_eq_true rfl⟩ ⟨(show ((pot v80 - pot v) + 36) ≤ kkL_comes o1 p1 p2 v by omega), (show ((pot v80 - pot v) + 36) ≤ kkL_comes o1 p1 p2 v by omega)⟩ dL_comes_692 ?_
                          refine lv_aload_n hx hb dL_comes_695 rfl (lv_at hl 5 rfl) ?_
                          refine lv_iload hx hb dL_comes_696 (lv_at hl 4 rfl) ?_
                          have hq99 := ho.1
                          have ho := ho.2
                          have hq100 := ho.1
                          have ho := ho.2
                          refine kZ_X10_recordOf X hS hH hk_o1 hq99 hq100 t_ml_VernierDrawersLaw_182 hl.1 (Nat.le_of_ble_eq_true rfl) ⟨Nat.le_of_ble_eq_true rfl, Nat.le_of_ble_eq_true rfl⟩ ⟨(show ((pot v80 - pot v) + 36) ≤ kkL_comes o1 p1 p2 v by omega), (show ((pot v80 - pot v) + 36) ≤ kkL_comes o1 p1 p2 v by omega)⟩ dL_comes_698 ?_
                          refine lv_iadd hx hb dL_comes_701 ?_
                          refine lv_aload_n hx hb dL_comes_702 rfl (lv_at hl 5 rfl) ?_
                          refine lv_iload hx hb dL_comes_703 (lv_at hl 4 rfl) ?_
                          have hq101 := ho.1
                          have ho := ho.2
                          have hq102 := ho.1
                          have ho := ho.2
                          refine kZ_X10_charted X hS hH hk_o1 hq101 hq102 t_ml_VernierDrawersLaw_188 hl.1 (Nat.le_of_ble_eq_true rfl) ⟨Nat.le_of_ble_eq_true rfl, Nat.le_of_ble_eq_true rfl⟩ ⟨(show ((pot v80 - pot v) + 36) ≤ kkL_comes o1 p1 p2 v by omega), (show ((pot v80 - pot v) + 36) ≤ kkL_comes o1 p1 p2 v by omega)⟩ dL_comes_705 ?_
                          refine lv_iadd hx hb dL_comes_708 ?_
                          refine lv_if_ne (tgt := 727) hx hb dL_comes_709 (by decide) (fun c103 => ?_) (fun c103 => ?_)
                          · exact absurd ho.1 c103
                          have ho := ho.2
                          refine lv_aload_n hx hb dL_comes_712 rfl (lv_at hl 5 rfl) ?_
                          refine lv_iload hx hb dL_comes_713 (lv_at hl 4 rfl) ?_
                          have hq104 := ho.1
                          have ho := ho.2
                          have hq105 := ho.1
                          have ho := ho.2
                          refine kZ_X10_goodUntilChange X hS hH hk_o1 hq104 hq105 t_ml_VernierDrawersLaw_86 hl.1 (Nat.le_of_ble_eq_true rfl) ⟨Nat.le_of_ble_eq_true rfl, Nat.le_of_ble_eq_true rfl⟩ ⟨(show ((pot v80 - pot v) + 36) ≤ kkL_comes o1 p1 p2 v by omega), (show ((pot v80 - pot v) + 36) ≤ kkL_comes o1 p1 p2 v by omega)⟩ dL_comes_715 ?_
                          refine lv_bipush (v := 10) hx hb dL_comes_718 (by decide) ?_
                          refine lv_icmp_ne (tgt := 727) hx hb dL_comes_720 (by decide) (fun c106 => ?_) (fun c106 => ?_)
                          · exact absurd ho c106
                          refine lv_iconst (v := 1) hx hb dL_comes_723 (by decide) ?_
                          refine lv_goto (tgt := 728) hx hb dL_comes_724 (by decide) ?_
                          have hHz := hH
                          have hSz := hS
                          have hFz : fL_comes o1 p1 p2 v = v80 := by
                            refine (fL_comes.eq_1 _ _ _ _).trans ?_
                            dsimp only
                            try rw [← ey2]
                            try rw [← ey64]
                            try rw [← ey66]
                            have dy69 : y69 = y66 := (by rw [ey69, ey66])
                            try rw [dy69] at ey72
                            try rw [dy69] at ey75
                            try rw [dy69] at ev80
                            try rw [dy69] at ey82
                            try rw [dy69] at ey83
                            try rw [dy69] at ey87
                            try rw [dy69] at c4
                            try rw [dy69] at c5
                            try rw [dy69] at c6
                            try rw [dy69] at c90
                            try rw [← ey72]
                            try rw [← ey75]
                            try rw [← ev80]
                            try rw [← ey82]
                            try rw [← ey83]
                            try rw [← ey87]
                            all_goals rw [if_neg c4]
                            all_goals rw [if_neg c5]
                            all_goals rw [if_pos c6]
                            all_goals rw [if_neg c90]
                          exact E _ _ _ _ _ _ _ _ _ dL_comes_728 rfl rfl (Eq.symm hFz) hHz hSz (show ((pot v80 - pot v) + 36) ≤ kkL_comes o1 p1 p2 v by omega) (show ((pot v80 - pot v) + 36) ≤ kkL_comes o1 p1 p2 v by omega)
                      refine lv_if_ge (tgt := 654) hx hb dL_comes_647 (by decide) (fun c88 => ?_) (fun c88 => ?_)
                      · skip
                        refine lv_iconst (v := 1) hx hb dL_comes_654 (by decide) ?_
                        have hlz := hl
                        exact K88 _ _ (Eq.symm ((if_pos c88).trans rfl)) (lv_sub hlz [0, 1, 2, 3, 4, 5] rfl)
                      · skip
                        refine lv_iconst (v := 0) hx hb dL_comes_650 (by decide) ?_
                        refine lv_goto (tgt := 655) hx hb dL_comes_651 (by decide) ?_
                        have hlz := hl
                        exact K88 _ _ (Eq.symm ((if_neg c88).trans rfl)) (lv_sub hlz [0, 1, 2, 3, 4, 5] rfl)
                    refine lv_if_eq (tgt := 623) hx hb dL_comes_615 (by decide) (fun c84 => ?_) (fun c84 => ?_)
                    · skip
                      refine lv_iload hx hb dL_comes_623 (lv_at hl 6 rfl) ?_
                      refine lv_iconst (v := 5) hx hb dL_comes_625 (by decide) ?_
                      refine lv_icmp_ne (tgt := 634) hx hb dL_comes_626 (by decide) (fun c85 => ?_) (fun c85 => ?_)
                      · skip
                        refine lv_iload hx hb dL_comes_634 (lv_at hl 6 rfl) ?_
                        have hlz := hl
                        exact K84 _ _ (Eq.symm ((if_pos c84).trans ((if_neg c85).trans rfl))) (lv_sub hlz [0, 3, 4, 5, 6, 7] rfl)
                      · skip
                        refine lv_ldc (v := (-100103)) hx hb hown (hts _ t_con_VernierDrawersLaw_20) dL_comes_629 ?_
                        refine lv_goto (tgt := 636) hx hb dL_comes_631 (by decide) ?_
                        have hlz := hl
                        exact K84 _ _ (Eq.symm ((if_pos c84).trans ((if_pos c85).trans rfl))) (lv_sub hlz [0, 3, 4, 5, 6, 7] rfl)
                    · skip
                      refine lv_ldc (v := (-100102)) hx hb hown (hts _ t_con_VernierDrawersLaw_17) dL_comes_618 ?_
                      refine lv_goto (tgt := 636) hx hb dL_comes_620 (by decide) ?_
                      have hlz := hl
                      exact K84 _ _ (Eq.symm ((if_neg c84).trans rfl)) (lv_sub hlz [0, 3, 4, 5, 6, 7] rfl)
                  refine lv_icmp_lt (tgt := 590) hx hb dL_comes_559 (by decide) (fun c76 => ?_) (fun c76 => ?_)
                  · skip
                    refine lv_iconst (v := 1) hx hb dL_comes_590 (by decide) ?_
                    refine lv_goto (tgt := 595) hx hb dL_comes_591 (by decide) ?_
                    have hlz := hl
                    exact K76 _ _ (Eq.symm ((if_pos c76).trans rfl)) (lv_sub hlz [0, 1, 2, 3, 4, 5] rfl)
                  · skip
                    refine lv_iload hx hb dL_comes_562 (lv_at hl 3 rfl) ?_
                    refine lv_sipush (v := 14000) hx hb dL_comes_564 (by decide) ?_
                    refine lv_icmp_gt (tgt := 590) hx hb dL_comes_567 (by decide) (fun c77 => ?_) (fun c77 => ?_)
                    · skip
                      refine lv_iconst (v := 1) hx hb dL_comes_590 (by decide) ?_
                      refine lv_goto (tgt := 595) hx hb dL_comes_591 (by decide) ?_
                      have hlz := hl
                      exact K76 _ _ (Eq.symm ((if_neg c76).trans ((if_pos c77).trans rfl))) (lv_sub hlz [0, 1, 2, 3, 4, 5] rfl)
                    · skip
                      refine lv_iload hx hb dL_comes_570 (lv_at hl 2 rfl) ?_
                      refine lv_bipush (v := (-99)) hx hb dL_comes_572 (by decide) ?_
                      refine lv_icmp_lt (tgt := 590) hx hb dL_comes_574 (by decide) (fun c78 => ?_) (fun c78 => ?_)
                      · skip
                        refine lv_iconst (v := 1) hx hb dL_comes_590 (by decide) ?_
                        refine lv_goto (tgt := 595) hx hb dL_comes_591 (by decide) ?_
                        have hlz := hl
                        exact K76 _ _ (Eq.symm ((if_neg c76).trans ((if_neg c77).trans ((if_pos c78).trans rfl)))) (lv_sub hlz [0, 1, 2, 3, 4, 5] rfl)
                      · skip
                        refine lv_iload hx hb dL_comes_577 (lv_at hl 1 rfl) ?_
                        refine lv_bipush (v := 99) hx hb dL_comes_579 (by decide) ?_
                        refine lv_icmp_gt (tgt := 590) hx hb dL_comes_581 (by decide) (fun c79 => ?_) (fun c79 => ?_)
                        · skip
                          refine lv_iconst (v := 1) hx hb dL_comes_590 (by decide) ?_
                          refine lv_goto (tgt := 595) hx hb dL_comes_591 (by decide) ?_
                          have hlz := hl
                          exact K76 _ _ (Eq.symm ((if_neg c76).trans ((if_neg c77).trans ((if_neg c78).trans ((if_pos c79).trans rfl))))) (lv_sub hlz [0, 1, 2, 3, 4, 5] rfl)
                        · skip
                          refine lv_iload hx hb dL_comes_584 (lv_at hl 0 rfl) ?_
                          refine lv_iconst (v := 3) hx hb dL_comes_586 (by decide) ?_
                          refine lv_icmp_ne (tgt := 594) hx hb dL_comes_587 (by decide) (fun c80 => ?_) (fun c80 => ?_)
                          · skip
                            refine lv_iconst (v := 0) hx hb dL_comes_594 (by decide) ?_
                            have hlz := hl
                            exact K76 _ _ (Eq.symm ((if_neg c76).trans ((if_neg c77).trans ((if_neg c78).trans ((if_neg c79).trans ((if_neg c80).trans rfl)))))) (lv_sub hlz [0, 1, 2, 3, 4, 5] rfl)
                          · skip
                            refine lv_iconst (v := 1) hx hb dL_comes_590 (by decide) ?_
                            refine lv_goto (tgt := 595) hx hb dL_comes_591 (by decide) ?_
                            have hlz := hl
                            exact K76 _ _ (Eq.symm ((if_neg c76).trans ((if_neg c77).trans ((if_neg c78).trans ((if_neg c79).trans ((if_pos c80).trans rfl)))))) (lv_sub hlz [0, 1, 2, 3, 4, 5] rfl)
                refine lv_if_eq (tgt := 549) hx hb dL_comes_542 (by decide) (fun c73 => ?_) (fun c73 => ?_)
                · skip
                  refine lv_iconst (v := 3) hx hb dL_comes_549 (by decide) ?_
                  have hlz := hl
                  exact K73 _ _ (Eq.symm ((if_pos c73).trans rfl)) (lv_sub hlz [0, 1, 2, 3, 5] rfl)
                · skip
                  refine lv_iconst (v := 4) hx hb dL_comes_545 (by decide) ?_
                  refine lv_goto (tgt := 550) hx hb dL_comes_546 (by decide) ?_
                  have hlz := hl
                  exact K73 _ _ (Eq.symm ((if_neg c73).trans rfl)) (lv_sub hlz [0, 1, 2, 3, 5] rfl)
              refine lv_if_eq (tgt := 531) hx hb dL_comes_523 (by decide) (fun c70 => ?_) (fun c70 => ?_)
              · skip
                refine lv_bipush (v := 60) hx hb dL_comes_531 (by decide) ?_
                have hlz := hl
                exact K70 _ _ (Eq.symm ((if_pos c70).trans rfl)) (lv_sub hlz [0, 1, 2, 3, 4, 5] rfl)
              · skip
                refine lv_bipush (v := 102) hx hb dL_comes_526 (by decide) ?_
                refine lv_goto (tgt := 533) hx hb dL_comes_528 (by decide) ?_
                have hlz := hl
                exact K70 _ _ (Eq.symm ((if_neg c70).trans rfl)) (lv_sub hlz [0, 1, 2, 3, 4, 5] rfl)
            refine lv_if_eq (tgt := 510) hx hb dL_comes_502 (by decide) (fun c67 => ?_) (fun c67 => ?_)
            · skip
              refine lv_bipush (v := 60) hx hb dL_comes_510 (by decide) ?_
              have hlz := hl
              exact K67 _ _ (Eq.symm ((if_pos c67).trans rfl)) (lv_sub hlz [0, 1, 2, 3, 4] rfl)
            · skip
              refine lv_bipush (v := 102) hx hb dL_comes_505 (by decide) ?_
              refine lv_goto (tgt := 512) hx hb dL_comes_507 (by decide) ?_
              have hlz := hl
              exact K67 _ _ (Eq.symm ((if_neg c67).trans rfl)) (lv_sub hlz [0, 1, 2, 3, 4] rfl)
          have ho := ho.1
          refine lv_if_eq (tgt := 486) hx hb dL_comes_473 (by decide) (fun c65 => ?_) (fun c65 => ?_)
          · have ho := ho.1 c65
            refine lv_bipush (v := 100) hx hb dL_comes_486 (by decide) ?_
            refine lv_iload_n hx hb dL_comes_488 rfl (lv_at hl 4 rfl) ?_
            refine lv_sipush (v := 2000) hx hb dL_comes_489 (by decide) ?_
            have hq66 := ho
            refine k_L_low X hS hq66 t_ml_VernierDrawersLaw_250 hl.1 (Nat.le_of_ble_eq_true rfl) ⟨Nat.le_of_ble_eq_true rfl, Nat.le_of_ble_eq_true rfl⟩ ⟨Nat.zero_le _, Nat.zero_le _⟩ dL_comes_492 ?_
            refine lv_iadd hx hb dL_comes_495 ?_
            have hlz := hl
            exact K65 _ _ (Eq.symm ((if_pos c65).trans rfl)) (lv_sub hlz [0, 1, 2, 4] rfl)
          · have ho := ho.2 c65
            refine lv_iload_n hx hb dL_comes_476 rfl (lv_at hl 4 rfl) ?_
            refine lv_sipush (v := 14200) hx hb dL_comes_477 (by decide) ?_
            have hq67 := ho
            refine k_L_low X hS hq67 t_ml_VernierDrawersLaw_250 hl.1 (Nat.le_of_ble_eq_true rfl) ⟨Nat.le_of_ble_eq_true rfl, Nat.le_of_ble_eq_true rfl⟩ ⟨Nat.zero_le _, Nat.zero_le _⟩ dL_comes_480 ?_
            refine lv_goto (tgt := 496) hx hb dL_comes_483 (by decide) ?_
            have hlz := hl
            exact K65 _ _ (Eq.symm ((if_neg c65).trans rfl)) (lv_sub hlz [0, 1, 2, 4] rfl)
      · have ho := ho.1 c5
        refine lv_aload_n hx hb dL_comes_265 rfl (lv_at hl 1 rfl) ?_
        have hq107 := ho.1
        have ho := ho.2
        refine k_X10_blocks X hS hH hk_o1 hq107 t_ml_VernierDrawersLaw_233 hl.1 (Nat.le_of_ble_eq_true rfl) ⟨Nat.le_of_ble_eq_true rfl, Nat.le_of_ble_eq_true rfl⟩ ⟨Nat.zero_le _, Nat.zero_le _⟩ dL_comes_266 ?_
        refine lv_istore (lv' := [(4, .int (fX10_blocks o1 v)), (3, .int y2), (0, .ref (ga G o1)), (1, .int p1), (2, .int p2)]) hx hb dL_comes_269 hl (by decide) rfl (fun ls hl => ?_)
        refine lv_iload_n hx hb dL_comes_271 rfl (lv_at hl 1 rfl) ?_
        have K109 : ∀ (y108 : Int32) (ls : Array Slot), y108 = (if (y2 : Int32) = 0 then ((1 : Int32) + (fL_low p2 700)) else (fL_low p2 5100) : Int32) → lv_has ls 11 [(4, .int (fX10_blocks o1 v)), (3, .int y2), (0, .ref (ga G o1)), (2, .int p2)] → W p l e (rmL_comes o1 p1 p2 v) s m args below meth c s.heap [] 0 0 Q (F0 m 294 ls [.int y108]) := by
          intro y108 ls ey108 hl
          have ho := ho.2 y108 ey108
          refine lv_istore (lv' := [(5, .int y108), (4, .int (fX10_blocks o1 v)), (3, .int y2), (0, .ref (ga G o1)), (2, .int p2)]) hx hb dL_comes_294 hl (by decide) rfl (fun ls hl => ?_)
          refine lv_iload_n hx hb dL_comes_296 rfl (lv_at hl 4 rfl) ?_
          refine lv_iconst (v := 5) hx hb dL_comes_297 (by decide) ?_
          refine lv_ishr hx hb dL_comes_298 ?_
          refine lv_iload_n hx hb dL_comes_299 rfl (lv_at hl 2 rfl) ?_
          have K111 : ∀ (y110 : Int32) (ls : Array Slot), y110 = (if (y2 : Int32) = 0 then 7 else 9 : Int32) → lv_has ls 11 [(5, .int y108), (4, .int (fX10_blocks o1 v)), (3, .int y2), (0, .ref (ga G o1))] → W p l e (rmL_comes o1 p1 p2 v) s m args below meth c s.heap [] 0 0 Q (F0 m 310 ls [.int y110, .int (p2 >>> ((5 : Int32) &&& 31))]) := by
            intro y110 ls ey110 hl
            have ho := ho y110 ey110
            have hq112 := ho.1
            have ho := ho.2
            refine k_L_low X hS hq112 t_ml_VernierDrawersLaw_250 hl.1 (Nat.le_of_ble_eq_true rfl) ⟨Nat.le_of_ble_eq_true rfl, Nat.le_of_ble_eq_true rfl⟩ ⟨Nat.zero_le _, Nat.zero_le _⟩ dL_comes_310 ?_
            refine lv_iload_n hx hb dL_comes_313 rfl (lv_at hl 2 rfl) ?_
            have K114 : ∀ (y113 : Int32) (ls : Array Slot), y113 = (if (y2 : Int32) = 0 then 3 else 4 : Int32) → lv_has ls 11 [(5, .int y108), (4, .int (fX10_blocks o1 v)), (0, .ref (ga G o1))] → W p l e (rmL_comes o1 p1 p2 v) s m args below meth c s.heap [] 0 0 Q (F0 m 322 ls [.int y113, .int (fL_low (p2 >>> ((5 : Int32) &&& 31)) y110)]) := by
              intro y113 ls ey113 hl
              have ho := ho y113 ey113
              refine lv_isub hx hb dL_comes_322 ?_
              refine lv_istore (lv' := [(6, .int ((fL_low (p2 >>> ((5 : Int32) &&& 31)) y110) - y113)), (5, .int y108), (4, .int (fX10_blocks o1 v)), (0, .ref (ga G o1))]) hx hb dL_comes_323 hl (by decide) rfl (fun ls hl => ?_)
              refine lv_iload hx hb dL_comes_325 (lv_at hl 1 rfl) ?_
              refine lv_iconst (v := 1) hx hb dL_comes_327 (by decide) ?_
              have K116 : ∀ (y115 : Int32) (ls : Array Slot), y115 = (if (y108 : Int32) < 1 then 1 else (if (5000 : Int32) < y108 then 1 else (if (((fL_low (p2 >>> ((5 : Int32) &&& 31)) y110) - y113) : Int32) < (-3) then 1 else (if (((fL_low (p2 >>> ((5 : Int32) &&& 31)) y110) - y113) : Int32) ≤ 3 then 0 else 1))) : Int32) → lv_has ls 11 [(6, .int ((fL_low (p2 >>> ((5 : Int32) &&& 31)) y110) - y113)), (5, .int y108), (4, .int (fX10_blocks o1 v)), (0, .ref (ga G o1))] → W p l e (rmL_comes o1 p1 p2 v) s m args below meth c s.heap [] 0 0 Q (F0 m 357 ls [.int y115]) := by
                intro y115 ls ey115 hl
                have ho := ho y115 ey115
                refine lv_istore (lv' := [(7, .int y115), (6, .int ((fL_low (p2 >>> ((5 : Int32) &&& 31)) y110) - y113)), (5, .int y108), (4, .int (fX10_blocks o1 v)), (0, .ref (ga G o1))]) hx hb dL_comes_357 hl (by decide) rfl (fun ls hl => ?_)
                refine lv_aload_n hx hb dL_comes_359 rfl (lv_at hl 4 rfl) ?_
                refine lv_iload hx hb dL_comes_360 (lv_at hl 2 rfl) ?_
                refine lv_iload hx hb dL_comes_362 (lv_at hl 1 rfl) ?_
                have hq117 := ho.1
                have ho := ho.2
                have hk118 : kkL_addBlock o1 y108 ((fL_low (p2 >>> ((5 : Int32) &&& 31)) y110) - y113) v = pot ((fL_addBlock o1 y108 ((fL_low (p2 >>> ((5 : Int32) &&& 31)) y110) - y113) v).2) - pot v + 36 := rfl
                have hq119 := ho.1
                have ho := ho.2
                refine k_L_addBlock hst X hS hN hH hk_o1 hq117 t_ml_VernierDrawersLaw_343 hl.1 (Nat.le_of_ble_eq_true rfl) ⟨Nat.le_of_ble_eq_true rfl, Nat.le_of_ble_eq_true rfl⟩ ⟨(show 0 + kkL_addBlock o1 y108 ((fL_low (p2 >>> ((5 : Int32) &&& 31)) y110) - y113) v ≤ kkL_comes o1 p1 p2 v by omega), (show 0 + kkL_addBlock o1 y108 ((fL_low (p2 >>> ((5 : Int32) &&& 31)) y110) - y113) v ≤ kkL_comes o1 p1 p2 v by omega)⟩ dL_comes_364 (fun da H locs v120 ev120 hH hS => ?_)
                have ho := ho v120 ev120
                have hp121 : pot v120 = pot ((fL_addBlock o1 y108 ((fL_low (p2 >>> ((5 : Int32) &&& 31)) y110) - y113) v).2) := by rw [ev120]
                refine W.widen (k := ((pot v120 - pot v) + 36)) (n := ((pot v120 - pot v) + 36)) (by omega) (by omega) ?_
                refine lv_istore (lv' := [(8, .int ((fL_addBlock o1 y108 ((fL_low (p2 >>> ((5 : Int32) &&& 31)) y110) - y113) v).1)), (7, .int y115), (6, .int ((fL_low (p2 >>> ((5 : Int32) &&& 31)) y110) - y113)), (5, .int y108), (4, .int (fX10_blocks o1 v)), (0, .ref (ga G o1))]) hx hb dL_comes_367 hl (by decide) rfl (fun ls hl => ?_)
                refine lv_iload hx hb dL_comes_369 (lv_at hl 0 rfl) ?_
                refine lv_iload hx hb dL_comes_371 (lv_at hl 1 rfl) ?_
                have K123 : ∀ (y122 : Int32) (ls : Array Slot), y122 = (if (y115 : Int32) = 0 then (if ((fX10_blocks o1 v) : Int32) = 10 then ((-100103)) else (fX10_blocks o1 v)) else ((-100102)) : Int32) → lv_has ls 11 [(8, .int ((fL_addBlock o1 y108 ((fL_low (p2 >>> ((5 : Int32) &&& 31)) y110) - y113) v).1)), (6, .int ((fL_low (p2 >>> ((5 : Int32) &&& 31)) y110) - y113)), (5, .int y108), (4, .int (fX10_blocks o1 v)), (0, .ref (ga G o1))] → W p l e (rmL_comes o1 p1 p2 v) s m args below meth c H locs ((pot v120 - pot v) + 36) ((pot v120 - pot v) + 36) Q (F0 m 395 ls [.int y122, .int ((fL_addBlock o1 y108 ((fL_low (p2 >>> ((5 : Int32) &&& 31)) y110) - y113) v).1)]) := by
                  intro y122 ls ey122 hl
                  have ho := ho y122 ey122
                  refine lv_icmp_ne (tgt := 459) hx hb dL_comes_395 (by decide) (fun c124 => ?_) (fun c124 => ?_)
                  · exact absurd ho.1 c124
                  have ho := ho.2
                  refine lv_aload_n hx hb dL_comes_398 rfl (lv_at hl 4 rfl) ?_
                  have hq125 := ho.1
                  have ho := ho.2
                  refine k_X10_blocks X hS hH hk_o1 hq125 t_ml_VernierDrawersLaw_233 hl.1 (Nat.le_of_ble_eq_true rfl) ⟨Nat.le_of_ble_eq_true rfl, Nat.le_of_ble_eq_true rfl⟩ ⟨(show ((pot v120 - pot v) + 36) ≤ kkL_comes o1 p1 p2 v by omega), (show ((pot v120 - pot v) + 36) ≤ kkL_comes o1 p1 p2 v by omega)⟩ dL_comes_399 ?_
                  refine lv_iload hx hb dL_comes_402 (lv_at hl 3 rfl) ?_
                  refine lv_iload hx hb dL_comes_404 (lv_at hl 0 rfl) ?_
                  have K127 : ∀ (y126 : Int32) (ls : Array Slot), y126 = (if (0 : Int32) ≤ ((fL_addBlock o1 y108 ((fL_low (p2 >>> ((5 : Int32) &&& 31)) y110) - y113) v).1) then 1 else 0 : Int32) → lv_has ls 11 [(8, .int ((fL_addBlock o1 y108 ((fL_low (p2 >>> ((5 : Int32) &&& 31)) y110) - y113) v).1)), (6, .int ((fL_low (p2 >>> ((5 : Int32) &&& 31)) y110) - y113)), (5, .int y108), (4, .int (fX10_blocks o1 v)), (0, .ref (ga G o1))] → W p l e (rmL_comes o1 p1 p2 v) s m args below meth c H locs ((pot v120 - pot v) + 36) ((pot v120 - pot v) + 36) Q (F0 m 414 ls [.int y126, .int (fX10_blocks o1 v), .int (fX10_blocks o1 v120)]) := by
                    intro y126 ls ey126 hl
                    have ho := ho y126 ey126
                    refine lv_iadd hx hb dL_comes_414 ?_
                    refine lv_icmp_ne (tgt := 459) hx hb dL_comes_415 (by decide) (fun c128 => ?_) (fun c128 => ?_)
                    · exact absurd ho.1 c128
                    have ho := ho.2
                    refine lv_iload hx hb dL_comes_418 (lv_at hl 0 rfl) ?_
                    refine lv_if_lt (tgt := 455) hx hb dL_comes_420 (by decide) (fun c129 => ?_) (fun c129 => ?_)
                    · skip
                      refine lv_iconst (v := 1) hx hb dL_comes_455 (by decide) ?_
                      refine lv_goto (tgt := 460) hx hb dL_comes_456 (by decide) ?_
                      have hHz := hH
                      have hSz := hS
                      have hFz : fL_comes o1 p1 p2 v = v120 := by
                        refine (fL_comes.eq_1 _ _ _ _).trans ?_
                        dsimp only
                        try rw [← ey2]
                        try rw [← ey108]
                        try rw [← ey110]
                        try rw [← ey113]
                        try rw [← ey115]
                        try rw [← ev120]
                        try rw [← ey122]
                        try rw [← ey126]
                        all_goals rw [if_neg c4]
                        all_goals rw [if_pos c5]
                        all_goals rw [if_pos c129]
                      exact E _ _ _ _ _ _ _ _ _ dL_comes_460 rfl rfl (Eq.symm hFz) hHz hSz (show ((pot v120 - pot v) + 36) ≤ kkL_comes o1 p1 p2 v by omega) (show ((pot v120 - pot v) + 36) ≤ kkL_comes o1 p1 p2 v by omega)
                    · have ho := ho c129
                      refine lv_aload_n hx hb dL_comes_423 rfl (lv_at hl 4 rfl) ?_
                      refine lv_iload hx hb dL_comes_424 (lv_at hl 3 rfl) ?_
                      have hq130 := ho.1
                      have ho := ho.2
                      have hq131 := ho.1
                      have ho := ho.2
                      refine kZ_X10_blockLength X hS hH hk_o1 hq130 hq131 t_ml_VernierDrawersLaw_155 hl.1 (Nat.le_of_ble_eq_true rfl) ⟨Nat.le_of_ble_eq_true rfl, Nat.le_of_ble_eq_true rfl⟩ ⟨(show ((pot v120 - pot v) + 36) ≤ kkL_comes o1 p1 p2 v by omega), (show ((pot v120 - pot v) + 36) ≤ kkL_comes o1 p1 p2 v by omega)⟩ dL_comes_426 ?_
                      refine lv_iload hx hb dL_comes_429 (lv_at hl 2 rfl) ?_
                      refine lv_icmp_ne (tgt := 459) hx hb dL_comes_431 (by decide) (fun c132 => ?_) (fun c132 => ?_)
                      · exact absurd ho.1 c132
                      have ho := ho.2
                      refine lv_aload_n hx hb dL_comes_434 rfl (lv_at hl 4 rfl) ?_
                      refine lv_iload hx hb dL_comes_435 (lv_at hl 3 rfl) ?_
                      have hq133 := ho.1
                      have ho := ho.2
                      have hq134 := ho.1
                      have ho := ho.2
                      refine kZ_X10_blockError X hS hH hk_o1 hq133 hq134 t_ml_VernierDrawersLaw_158 hl.1 (Nat.le_of_ble_eq_true rfl) ⟨Nat.le_of_ble_eq_true rfl, Nat.le_of_ble_eq_true rfl⟩ ⟨(show ((pot v120 - pot v) + 36) ≤ kkL_comes o1 p1 p2 v by omega), (show ((pot v120 - pot v) + 36) ≤ kkL_comes o1 p1 p2 v by omega)⟩ dL_comes_437 ?_
                      refine lv_iload hx hb dL_comes_440 (lv_at hl 1 rfl) ?_
                      refine lv_icmp_ne (tgt := 459) hx hb dL_comes_442 (by decide) (fun c135 => ?_) (fun c135 => ?_)
                      · exact absurd ho.1 c135
                      have ho := ho.2
                      refine lv_aload_n hx hb dL_comes_445 rfl (lv_at hl 4 rfl) ?_
                      refine lv_iload hx hb dL_comes_446 (lv_at hl 2 rfl) ?_
                      have hq136 := ho.1
                      have ho := ho.2
                      have hq137 := ho.1
                      have ho := ho.2
                      refine kZ_X10_fewestByTrying X hS hH hk_o1 hq136 hq137 t_ml_VernierDrawersLaw_164 hl.1 (Nat.le_of_ble_eq_true rfl) ⟨Nat.le_of_ble_eq_true rfl, Nat.le_of_ble_eq_true rfl⟩ ⟨(show ((pot v120 - pot v) + 36) ≤ kkL_comes o1 p1 p2 v by omega), (show ((pot v120 - pot v) + 36) ≤ kkL_comes o1 p1 p2 v by omega)⟩ dL_comes_448 ?_
                      refine lv_iconst (v := 1) hx hb dL_comes_451 (by decide) ?_
                      refine lv_icmp_ne (tgt := 459) hx hb dL_comes_452 (by decide) (fun c138 => ?_) (fun c138 => ?_)
                      · exact absurd ho c138
                      refine lv_iconst (v := 1) hx hb dL_comes_455 (by decide) ?_
                      refine lv_goto (tgt := 460) hx hb dL_comes_456 (by decide) ?_
                      have hHz := hH
                      have hSz := hS
                      have hFz : fL_comes o1 p1 p2 v = v120 := by
                        refine (fL_comes.eq_1 _ _ _ _).trans ?_
                        dsimp only
                        try rw [← ey2]
                        try rw [← ey108]
                        try rw [← ey110]
                        try rw [← ey113]
                        try rw [← ey115]
                        try rw [← ev120]
                        try rw [← ey122]
                        try rw [← ey126]
                        all_goals rw [if_neg c4]
                        all_goals rw [if_pos c5]
                        all_goals rw [if_neg c129]
                      exact E _ _ _ _ _ _ _ _ _ dL_comes_460 rfl rfl (Eq.symm hFz) hHz hSz (show ((pot v120 - pot v) + 36) ≤ kkL_comes o1 p1 p2 v by omega) (show ((pot v120 - pot v) + 36) ≤ kkL_comes o1 p1 p2 v by omega)
                  refine lv_if_ge (tgt := 413) hx hb dL_comes_406 (by decide) (fun c127 => ?_) (fun c127 => ?_)
                  · skip
                    refine lv_iconst (v := 1) hx hb dL_comes_413 (by decide) ?_
                    have hlz := hl
                    exact K127 _ _ (Eq.symm ((if_pos c127).trans rfl)) (lv_sub hlz [0, 1, 2, 3, 4] rfl)
                  · skip
                    refine lv_iconst (v := 0) hx hb dL_comes_409 (by decide) ?_
                    refine lv_goto (tgt := 414) hx hb dL_comes_410 (by decide) ?_
                    have hlz := hl
                    exact K127 _ _ (Eq.symm ((if_neg c127).trans rfl)) (lv_sub hlz [0, 1, 2, 3, 4] rfl)
                refine lv_if_eq (tgt := 381) hx hb dL_comes_373 (by decide) (fun c123 => ?_) (fun c123 => ?_)
                · skip
                  refine lv_iload hx hb dL_comes_381 (lv_at hl 4 rfl) ?_
                  refine lv_bipush (v := 10) hx hb dL_comes_383 (by decide) ?_
                  refine lv_icmp_ne (tgt := 393) hx hb dL_comes_385 (by decide) (fun c124 => ?_) (fun c124 => ?_)
                  · skip
                    refine lv_iload hx hb dL_comes_393 (lv_at hl 4 rfl) ?_
                    have hlz := hl
                    exact K123 _ _ (Eq.symm ((if_pos c123).trans ((if_neg c124).trans rfl))) (lv_sub hlz [0, 2, 3, 4, 5] rfl)
                  · skip
                    refine lv_ldc (v := (-100103)) hx hb hown (hts _ t_con_VernierDrawersLaw_20) dL_comes_388 ?_
                    refine lv_goto (tgt := 395) hx hb dL_comes_390 (by decide) ?_
                    have hlz := hl
                    exact K123 _ _ (Eq.symm ((if_pos c123).trans ((if_pos c124).trans rfl))) (lv_sub hlz [0, 2, 3, 4, 5] rfl)
                · skip
                  refine lv_ldc (v := (-100102)) hx hb hown (hts _ t_con_VernierDrawersLaw_17) dL_comes_376 ?_
                  refine lv_goto (tgt := 395) hx hb dL_comes_378 (by decide) ?_
                  have hlz := hl
                  exact K123 _ _ (Eq.symm ((if_neg c123).trans rfl)) (lv_sub hlz [0, 2, 3, 4, 5] rfl)
              refine lv_icmp_lt (tgt := 352) hx hb dL_comes_328 (by decide) (fun c116 => ?_) (fun c116 => ?_)
              · skip
                refine lv_iconst (v := 1) hx hb dL_comes_352 (by decide) ?_
                refine lv_goto (tgt := 357) hx hb dL_comes_353 (by decide) ?_
                have hlz := hl
                exact K116 _ _ (Eq.symm ((if_pos c116).trans rfl)) (lv_sub hlz [0, 1, 2, 3] rfl)
              · skip
                refine lv_iload hx hb dL_comes_331 (lv_at hl 1 rfl) ?_
                refine lv_sipush (v := 5000) hx hb dL_comes_333 (by decide) ?_
                refine lv_icmp_gt (tgt := 352) hx hb dL_comes_336 (by decide) (fun c117 => ?_) (fun c117 => ?_)
                · skip
                  refine lv_iconst (v := 1) hx hb dL_comes_352 (by decide) ?_
                  refine lv_goto (tgt := 357) hx hb dL_comes_353 (by decide) ?_
                  have hlz := hl
                  exact K116 _ _ (Eq.symm ((if_neg c116).trans ((if_pos c117).trans rfl))) (lv_sub hlz [0, 1, 2, 3] rfl)
                · skip
                  refine lv_iload hx hb dL_comes_339 (lv_at hl 0 rfl) ?_
                  refine lv_bipush (v := (-3)) hx hb dL_comes_341 (by decide) ?_
                  refine lv_icmp_lt (tgt := 352) hx hb dL_comes_343 (by decide) (fun c118 => ?_) (fun c118 => ?_)
                  · skip
                    refine lv_iconst (v := 1) hx hb dL_comes_352 (by decide) ?_
                    refine lv_goto (tgt := 357) hx hb dL_comes_353 (by decide) ?_
                    have hlz := hl
                    exact K116 _ _ (Eq.symm ((if_neg c116).trans ((if_neg c117).trans ((if_pos c118).trans rfl)))) (lv_sub hlz [0, 1, 2, 3] rfl)
                  · skip
                    refine lv_iload hx hb dL_comes_346 (lv_at hl 0 rfl) ?_
                    refine lv_iconst (v := 3) hx hb dL_comes_348 (by decide) ?_
                    refine lv_icmp_le (tgt := 356) hx hb dL_comes_349 (by decide) (fun c119 => ?_) (fun c119 => ?_)
                    · skip
                      refine lv_iconst (v := 0) hx hb dL_comes_356 (by decide) ?_
                      have hlz := hl
                      exact K116 _ _ (Eq.symm ((if_neg c116).trans ((if_neg c117).trans ((if_neg c118).trans ((if_pos c119).trans rfl))))) (lv_sub hlz [0, 1, 2, 3] rfl)
                    · skip
                      refine lv_iconst (v := 1) hx hb dL_comes_352 (by decide) ?_
                      refine lv_goto (tgt := 357) hx hb dL_comes_353 (by decide) ?_
                      have hlz := hl
                      exact K116 _ _ (Eq.symm ((if_neg c116).trans ((if_neg c117).trans ((if_neg c118).trans ((if_neg c119).trans rfl))))) (lv_sub hlz [0, 1, 2, 3] rfl)
            refine lv_if_eq (tgt := 321) hx hb dL_comes_314 (by decide) (fun c114 => ?_) (fun c114 => ?_)
            · skip
              refine lv_iconst (v := 3) hx hb dL_comes_321 (by decide) ?_
              have hlz := hl
              exact K114 _ _ (Eq.symm ((if_pos c114).trans rfl)) (lv_sub hlz [0, 1, 3] rfl)
            · skip
              refine lv_iconst (v := 4) hx hb dL_comes_317 (by decide) ?_
              refine lv_goto (tgt := 322) hx hb dL_comes_318 (by decide) ?_
              have hlz := hl
              exact K114 _ _ (Eq.symm ((if_neg c114).trans rfl)) (lv_sub hlz [0, 1, 3] rfl)
          refine lv_if_eq (tgt := 308) hx hb dL_comes_300 (by decide) (fun c111 => ?_) (fun c111 => ?_)
          · skip
            refine lv_bipush (v := 7) hx hb dL_comes_308 (by decide) ?_
            have hlz := hl
            exact K111 _ _ (Eq.symm ((if_pos c111).trans rfl)) (lv_sub hlz [0, 1, 2, 3] rfl)
          · skip
            refine lv_bipush (v := 9) hx hb dL_comes_303 (by decide) ?_
            refine lv_goto (tgt := 310) hx hb dL_comes_305 (by decide) ?_
            have hlz := hl
            exact K111 _ _ (Eq.symm ((if_neg c111).trans rfl)) (lv_sub hlz [0, 1, 2, 3] rfl)
        have ho := ho.1
        refine lv_if_eq (tgt := 285) hx hb dL_comes_272 (by decide) (fun c109 => ?_) (fun c109 => ?_)
        · have ho := ho.1 c109
          refine lv_iconst (v := 1) hx hb dL_comes_285 (by decide) ?_
          refine lv_iload_n hx hb dL_comes_286 rfl (lv_at hl 4 rfl) ?_
          refine lv_sipush (v := 700) hx hb dL_comes_287 (by decide) ?_
          have hq110 := ho
          refine k_L_low X hS hq110 t_ml_VernierDrawersLaw_250 hl.1 (Nat.le_of_ble_eq_true rfl) ⟨Nat.le_of_ble_eq_true rfl, Nat.le_of_ble_eq_true rfl⟩ ⟨Nat.zero_le _, Nat.zero_le _⟩ dL_comes_290 ?_
          refine lv_iadd hx hb dL_comes_293 ?_
          have hlz := hl
          exact K109 _ _ (Eq.symm ((if_pos c109).trans rfl)) (lv_sub hlz [0, 1, 2, 4] rfl)
        · have ho := ho.2 c109
          refine lv_iload_n hx hb dL_comes_275 rfl (lv_at hl 4 rfl) ?_
          refine lv_sipush (v := 5100) hx hb dL_comes_276 (by decide) ?_
          have hq111 := ho
          refine k_L_low X hS hq111 t_ml_VernierDrawersLaw_250 hl.1 (Nat.le_of_ble_eq_true rfl) ⟨Nat.le_of_ble_eq_true rfl, Nat.le_of_ble_eq_true rfl⟩ ⟨Nat.zero_le _, Nat.zero_le _⟩ dL_comes_279 ?_
          refine lv_goto (tgt := 294) hx hb dL_comes_282 (by decide) ?_
          have hlz := hl
          exact K109 _ _ (Eq.symm ((if_neg c109).trans rfl)) (lv_sub hlz [0, 1, 2, 4] rfl)
    · have ho := ho.1 c4
      refine lv_aload_n hx hb dL_comes_22 rfl (lv_at hl 1 rfl) ?_
      have hq139 := ho.1
      have ho := ho.2
      refine k_X10_tools X hS hH hk_o1 hq139 t_ml_VernierDrawersLaw_230 hl.1 (Nat.le_of_ble_eq_true rfl) ⟨Nat.le_of_ble_eq_true rfl, Nat.le_of_ble_eq_true rfl⟩ ⟨Nat.zero_le _, Nat.zero_le _⟩ dL_comes_23 ?_
      refine lv_istore (lv' := [(4, .int (fX10_tools o1 v)), (3, .int y2), (0, .ref (ga G o1)), (1, .int p1), (2, .int p2)]) hx hb dL_comes_26 hl (by decide) rfl (fun ls hl => ?_)
      refine lv_iload_n hx hb dL_comes_28 rfl (lv_at hl 4 rfl) ?_
      refine lv_iload_n hx hb dL_comes_29 rfl (lv_at hl 1 rfl) ?_
      have K141 : ∀ (y140 : Int32) (ls : Array Slot), y140 = (if (y2 : Int32) = 0 then 5 else 6 : Int32) → lv_has ls 11 [(4, .int (fX10_tools o1 v)), (3, .int y2), (0, .ref (ga G o1)), (2, .int p2)] → W p l e (rmL_comes o1 p1 p2 v) s m args below meth c s.heap [] 0 0 Q (F0 m 39 ls [.int y140, .int p2]) := by
        intro y140 ls ey140 hl
        have ho := ho y140 ey140
        have hq142 := ho.1
        have ho := ho.2
        refine k_L_low X hS hq142 t_ml_VernierDrawersLaw_250 hl.1 (Nat.le_of_ble_eq_true rfl) ⟨Nat.le_of_ble_eq_true rfl, Nat.le_of_ble_eq_true rfl⟩ ⟨Nat.zero_le _, Nat.zero_le _⟩ dL_comes_39 ?_
        refine lv_istore (lv' := [(5, .int (fL_low p2 y140)), (4, .int (fX10_tools o1 v)), (3, .int y2), (0, .ref (ga G o1)), (2, .int p2)]) hx hb dL_comes_42 hl (by decide) rfl (fun ls hl => ?_)
        refine lv_iload_n hx hb dL_comes_44 rfl (lv_at hl 4 rfl) ?_
        refine lv_iconst (v := 3) hx hb dL_comes_45 (by decide) ?_
        refine lv_ishr hx hb dL_comes_46 ?_
        refine lv_iload_n hx hb dL_comes_47 rfl (lv_at hl 2 rfl) ?_
        have K144 : ∀ (y143 : Int32) (ls : Array Slot), y143 = (if (y2 : Int32) = 0 then 21 else 70 : Int32) → lv_has ls 11 [(5, .int (fL_low p2 y140)), (4, .int (fX10_tools o1 v)), (3, .int y2), (0, .ref (ga G o1))] → W p l e (rmL_comes o1 p1 p2 v) s m args below meth c s.heap [] 0 0 Q (F0 m 58 ls [.int y143, .int (p2 >>> ((3 : Int32) &&& 31))]) := by
          intro y143 ls ey143 hl
          have ho := ho y143 ey143
          have hq145 := ho.1
          have ho := ho.2
          refine k_L_low X hS hq145 t_ml_VernierDrawersLaw_250 hl.1 (Nat.le_of_ble_eq_true rfl) ⟨Nat.le_of_ble_eq_true rfl, Nat.le_of_ble_eq_true rfl⟩ ⟨Nat.zero_le _, Nat.zero_le _⟩ dL_comes_58 ?_
          refine lv_iload_n hx hb dL_comes_61 rfl (lv_at hl 2 rfl) ?_
          have K147 : ∀ (y146 : Int32) (ls : Array Slot), y146 = (if (y2 : Int32) = 0 then 10 else 35 : Int32) → lv_has ls 11 [(5, .int (fL_low p2 y140)), (4, .int (fX10_tools o1 v)), (0, .ref (ga G o1))] → W p l e (rmL_comes o1 p1 p2 v) s m args below meth c s.heap [] 0 0 Q (F0 m 72 ls [.int y146, .int (fL_low (p2 >>> ((3 : Int32) &&& 31)) y143)]) := by
            intro y146 ls ey146 hl
            have ho := ho y146 ey146
            refine lv_isub hx hb dL_comes_72 ?_
            refine lv_istore (lv' := [(6, .int ((fL_low (p2 >>> ((3 : Int32) &&& 31)) y143) - y146)), (5, .int (fL_low p2 y140)), (4, .int (fX10_tools o1 v)), (0, .ref (ga G o1))]) hx hb dL_comes_73 hl (by decide) rfl (fun ls hl => ?_)
            refine lv_iload hx hb dL_comes_75 (lv_at hl 1 rfl) ?_
            refine lv_iconst (v := 5) hx hb dL_comes_77 (by decide) ?_
            have K149 : ∀ (y148 : Int32) (ls : Array Slot), y148 = (if ((fL_low p2 y140) : Int32) = 5 then 1 else (if (((fL_low (p2 >>> ((3 : Int32) &&& 31)) y143) - y146) : Int32) < (-30) then 1 else (if (((fL_low (p2 >>> ((3 : Int32) &&& 31)) y143) - y146) : Int32) ≤ 30 then 0 else 1)) : Int32) → lv_has ls 11 [(6, .int ((fL_low (p2 >>> ((3 : Int32) &&& 31)) y143) - y146)), (5, .int (fL_low p2 y140)), (4, .int (fX10_tools o1 v)), (0, .ref (ga G o1))] → W p l e (rmL_comes o1 p1 p2 v) s m args below meth c s.heap [] 0 0 Q (F0 m 100 ls [.int y148]) := by
              intro y148 ls ey148 hl
              have ho := ho y148 ey148
              refine lv_istore (lv' := [(7, .int y148), (6, .int ((fL_low (p2 >>> ((3 : Int32) &&& 31)) y143) - y146)), (5, .int (fL_low p2 y140)), (4, .int (fX10_tools o1 v)), (0, .ref (ga G o1))]) hx hb dL_comes_100 hl (by decide) rfl (fun ls hl => ?_)
              refine lv_aload_n hx hb dL_comes_102 rfl (lv_at hl 4 rfl) ?_
              refine lv_iload hx hb dL_comes_103 (lv_at hl 2 rfl) ?_
              refine lv_iload hx hb dL_comes_105 (lv_at hl 1 rfl) ?_
              have hq150 := ho.1
              have ho := ho.2
              have hk151 : kkL_addTool o1 (fL_low p2 y140) ((fL_low (p2 >>> ((3 : Int32) &&& 31)) y143) - y146) v = pot ((fL_addTool o1 (fL_low p2 y140) ((fL_low (p2 >>> ((3 : Int32) &&& 31)) y143) - y146) v).2) - pot v + 36 := rfl
              have hq152 := ho.1
              have ho := ho.2
              refine k_L_addTool hst X hS hN hH hk_o1 hq150 t_ml_VernierDrawersLaw_341 hl.1 (Nat.le_of_ble_eq_true rfl) ⟨Nat.le_of_ble_eq_true rfl, Nat.le_of_ble_eq_true rfl⟩ ⟨(show 0 + kkL_addTool o1 (fL_low p2 y140) ((fL_low (p2 >>> ((3 : Int32) &&& 31)) y143) - y146) v ≤ kkL_comes o1 p1 p2 v by omega), (show 0 + kkL_addTool o1 (fL_low p2 y140) ((fL_low (p2 >>> ((3 : Int32) &&& 31)) y143) - y146) v ≤ kkL_comes o1 p1 p2 v by omega)⟩ dL_comes_107 (fun da H locs v153 ev153 hH hS => ?_)
              have ho := ho v153 ev153
              have hp154 : pot v153 = pot ((fL_addTool o1 (fL_low p2 y140) ((fL_low (p2 >>> ((3 : Int32) &&& 31)) y143) - y146) v).2) := by rw [ev153]
              refine W.widen (k := ((pot v153 - pot v) + 36)) (n := ((pot v153 - pot v) + 36)) (by omega) (by omega) ?_
              refine lv_istore (lv' := [(8, .int ((fL_addTool o1 (fL_low p2 y140) ((fL_low (p2 >>> ((3 : Int32) &&& 31)) y143) - y146) v).1)), (7, .int y148), (6, .int ((fL_low (p2 >>> ((3 : Int32) &&& 31)) y143) - y146)), (5, .int (fL_low p2 y140)), (4, .int (fX10_tools o1 v)), (0, .ref (ga G o1))]) hx hb dL_comes_110 hl (by decide) rfl (fun ls hl => ?_)
              refine lv_iload hx hb dL_comes_112 (lv_at hl 0 rfl) ?_
              refine lv_iload hx hb dL_comes_114 (lv_at hl 1 rfl) ?_
              have K156 : ∀ (y155 : Int32) (ls : Array Slot), y155 = (if (y148 : Int32) = 0 then (if ((fX10_tools o1 v) : Int32) = 6 then ((-100103)) else (fX10_tools o1 v)) else ((-100102)) : Int32) → lv_has ls 11 [(8, .int ((fL_addTool o1 (fL_low p2 y140) ((fL_low (p2 >>> ((3 : Int32) &&& 31)) y143) - y146) v).1)), (6, .int ((fL_low (p2 >>> ((3 : Int32) &&& 31)) y143) - y146)), (5, .int (fL_low p2 y140)), (4, .int (fX10_tools o1 v)), (0, .ref (ga G o1))] → W p l e (rmL_comes o1 p1 p2 v) s m args below meth c H locs ((pot v153 - pot v) + 36) ((pot v153 - pot v) + 36) Q (F0 m 138 ls [.int y155, .int ((fL_addTool o1 (fL_low p2 y140) ((fL_low (p2 >>> ((3 : Int32) &&& 31)) y143) - y146) v).1)]) := by
                intro y155 ls ey155 hl
                have ho := ho y155 ey155
                refine lv_icmp_ne (tgt := 258) hx hb dL_comes_138 (by decide) (fun c157 => ?_) (fun c157 => ?_)
                · exact absurd ho.1 c157
                have ho := ho.2
                refine lv_aload_n hx hb dL_comes_141 rfl (lv_at hl 4 rfl) ?_
                have hq158 := ho.1
                have ho := ho.2
                refine k_X10_tools X hS hH hk_o1 hq158 t_ml_VernierDrawersLaw_230 hl.1 (Nat.le_of_ble_eq_true rfl) ⟨Nat.le_of_ble_eq_true rfl, Nat.le_of_ble_eq_true rfl⟩ ⟨(show ((pot v153 - pot v) + 36) ≤ kkL_comes o1 p1 p2 v by omega), (show ((pot v153 - pot v) + 36) ≤ kkL_comes o1 p1 p2 v by omega)⟩ dL_comes_142 ?_
                refine lv_iload hx hb dL_comes_145 (lv_at hl 3 rfl) ?_
                refine lv_iload hx hb dL_comes_147 (lv_at hl 0 rfl) ?_
                have K160 : ∀ (y159 : Int32) (ls : Array Slot), y159 = (if (0 : Int32) ≤ ((fL_addTool o1 (fL_low p2 y140) ((fL_low (p2 >>> ((3 : Int32) &&& 31)) y143) - y146) v).1) then 1 else 0 : Int32) → lv_has ls 11 [(8, .int ((fL_addTool o1 (fL_low p2 y140) ((fL_low (p2 >>> ((3 : Int32) &&& 31)) y143) - y146) v).1)), (6, .int ((fL_low (p2 >>> ((3 : Int32) &&& 31)) y143) - y146)), (5, .int (fL_low p2 y140)), (4, .int (fX10_tools o1 v)), (0, .ref (ga G o1))] → W p l e (rmL_comes o1 p1 p2 v) s m args below meth c H locs ((pot v153 - pot v) + 36) ((pot v153 - pot v) + 36) Q (F0 m 157 ls [.int y159, .int (fX10_tools o1 v), .int (fX10_tools o1 v153)]) := by
                  intro y159 ls ey159 hl
                  have ho := ho y159 ey159
                  refine lv_iadd hx hb dL_comes_157 ?_
                  refine lv_icmp_ne (tgt := 258) hx hb dL_comes_158 (by decide) (fun c161 => ?_) (fun c161 => ?_)
                  · exact absurd ho.1 c161
                  have ho := ho.2
                  refine lv_iload hx hb dL_comes_161 (lv_at hl 0 rfl) ?_
                  refine lv_if_lt (tgt := 254) hx hb dL_comes_163 (by decide) (fun c162 => ?_) (fun c162 => ?_)
                  · skip
                    refine lv_iconst (v := 1) hx hb dL_comes_254 (by decide) ?_
                    refine lv_goto (tgt := 259) hx hb dL_comes_255 (by decide) ?_
                    have hHz := hH
                    have hSz := hS
                    have hFz : fL_comes o1 p1 p2 v = v153 := by
                      refine (fL_comes.eq_1 _ _ _ _).trans ?_
                      dsimp only
                      try rw [← ey2]
                      try rw [← ey140]
                      try rw [← ey143]
                      try rw [← ey146]
                      try rw [← ey148]
                      try rw [← ev153]
                      try rw [← ey155]
                      try rw [← ey159]
                      all_goals rw [if_pos c4]
                      all_goals rw [if_pos c162]
                    exact E _ _ _ _ _ _ _ _ _ dL_comes_259 rfl rfl (Eq.symm hFz) hHz hSz (show ((pot v153 - pot v) + 36) ≤ kkL_comes o1 p1 p2 v by omega) (show ((pot v153 - pot v) + 36) ≤ kkL_comes o1 p1 p2 v by omega)
                  · have ho := ho c162
                    refine lv_aload_n hx hb dL_comes_166 rfl (lv_at hl 4 rfl) ?_
                    refine lv_iload hx hb dL_comes_167 (lv_at hl 3 rfl) ?_
                    have hq163 := ho.1
                    have ho := ho.2
                    have hq164 := ho.1
                    have ho := ho.2
                    refine kZ_X10_kindOf X hS hH hk_o1 hq163 hq164 t_ml_VernierDrawersLaw_122 hl.1 (Nat.le_of_ble_eq_true rfl) ⟨Nat.le_of_ble_eq_true rfl, Nat.le_of_ble_eq_true rfl⟩ ⟨(show ((pot v153 - pot v) + 36) ≤ kkL_comes o1 p1 p2 v by omega), (show ((pot v153 - pot v) + 36) ≤ kkL_comes o1 p1 p2 v by omega)⟩ dL_comes_169 ?_
                    refine lv_iload hx hb dL_comes_172 (lv_at hl 2 rfl) ?_
                    refine lv_icmp_ne (tgt := 258) hx hb dL_comes_174 (by decide) (fun c165 => ?_) (fun c165 => ?_)
                    · exact absurd ho.1 c165
                    have ho := ho.2
                    refine lv_aload_n hx hb dL_comes_177 rfl (lv_at hl 4 rfl) ?_
                    refine lv_iload hx hb dL_comes_178 (lv_at hl 3 rfl) ?_
                    have hq166 := ho.1
                    have ho := ho.2
                    have hq167 := ho.1
                    have ho := ho.2
                    refine kZ_X10_usesOf X hS hH hk_o1 hq166 hq167 t_ml_VernierDrawersLaw_128 hl.1 (Nat.le_of_ble_eq_true rfl) ⟨Nat.le_of_ble_eq_true rfl, Nat.le_of_ble_eq_true rfl⟩ ⟨(show ((pot v153 - pot v) + 36) ≤ kkL_comes o1 p1 p2 v by omega), (show ((pot v153 - pot v) + 36) ≤ kkL_comes o1 p1 p2 v by omega)⟩ dL_comes_180 ?_
                    refine lv_aload_n hx hb dL_comes_183 rfl (lv_at hl 4 rfl) ?_
                    refine lv_iload hx hb dL_comes_184 (lv_at hl 3 rfl) ?_
                    have hq168 := ho.1
                    have ho := ho.2
                    have hq169 := ho.1
                    have ho := ho.2
                    refine kZ_X10_wearOf X hS hH hk_o1 hq168 hq169 t_ml_VernierDrawersLaw_131 hl.1 (Nat.le_of_ble_eq_true rfl) ⟨Nat.le_of_ble_eq_true rfl, Nat.le_of_ble_eq_true rfl⟩ ⟨(show ((pot v153 - pot v) + 36) ≤ kkL_comes o1 p1 p2 v by omega), (show ((pot v153 - pot v) + 36) ≤ kkL_comes o1 p1 p2 v by omega)⟩ dL_comes_186 ?_
                    refine lv_iadd hx hb dL_comes_189 ?_
                    refine lv_aload_n hx hb dL_comes_190 rfl (lv_at hl 4 rfl) ?_
                    refine lv_iload hx hb dL_comes_191 (lv_at hl 3 rfl) ?_
                    have hq170 := ho.1
                    have ho := ho.2
                    have hq171 := ho.1
                    have ho := ho.2
                    refine kZ_X10_knownError X hS hH hk_o1 hq170 hq171 t_ml_VernierDrawersLaw_134 hl.1 (Nat.le_of_ble_eq_true rfl) ⟨Nat.le_of_ble_eq_true rfl, Nat.le_of_ble_eq_true rfl⟩ ⟨(show ((pot v153 - pot v) + 36) ≤ kkL_comes o1 p1 p2 v by omega), (show ((pot v153 - pot v) + 36) ≤ kkL_comes o1 p1 p2 v by omega)⟩ dL_comes_193 ?_
                    refine lv_iadd hx hb dL_comes_196 ?_
                    refine lv_if_ne (tgt := 258) hx hb dL_comes_197 (by decide) (fun c172 => ?_) (fun c172 => ?_)
                    · exact absurd ho.1 c172
                    have ho := ho.2
                    refine lv_aload_n hx hb dL_comes_200 rfl (lv_at hl 4 rfl) ?_
                    refine lv_iload hx hb dL_comes_201 (lv_at hl 3 rfl) ?_
                    have hq173 := ho.1
                    have ho := ho.2
                    have hq174 := ho.1
                    have ho := ho.2
                    refine kZ_X10_usesLeft X hS hH hk_o1 hq173 hq174 t_ml_VernierDrawersLaw_137 hl.1 (Nat.le_of_ble_eq_true rfl) ⟨Nat.le_of_ble_eq_true rfl, Nat.le_of_ble_eq_true rfl⟩ ⟨(show ((pot v153 - pot v) + 36) ≤ kkL_comes o1 p1 p2 v by omega), (show ((pot v153 - pot v) + 36) ≤ kkL_comes o1 p1 p2 v by omega)⟩ dL_comes_203 ?_
                    refine lv_bipush (v := 30) hx hb dL_comes_206 (by decide) ?_
                    refine lv_icmp_ne (tgt := 258) hx hb dL_comes_208 (by decide) (fun c175 => ?_) (fun c175 => ?_)
                    · exact absurd ho.1 c175
                    have ho := ho.2
                    refine lv_aload_n hx hb dL_comes_211 rfl (lv_at hl 4 rfl) ?_
                    refine lv_iload hx hb dL_comes_212 (lv_at hl 3 rfl) ?_
                    have hq176 := ho.1
                    have ho := ho.2
                    have hq177 := ho.1
                    have ho := ho.2
                    refine kZ_X10_isDue X hS hH hk_o1 hq176 hq177 t_ml_VernierDrawersLaw_61 hl.1 (Nat.le_of_ble_eq_true rfl) ⟨Nat.le_of_ble_eq_true rfl, Nat.le_of_ble_eq_true rfl⟩ ⟨(show ((pot v153 - pot v) + 36) ≤ kkL_comes o1 p1 p2 v by omega), (show ((pot v153 - pot v) + 36) ≤ kkL_comes o1 p1 p2 v by omega)⟩ dL_comes_214 ?_
                    refine lv_if_ne (tgt := 258) hx hb dL_comes_217 (by decide) (fun c178 => ?_) (fun c178 => ?_)
                    · exact absurd ho.1 c178
                    have ho := ho.2
                    refine lv_aload_n hx hb dL_comes_220 rfl (lv_at hl 4 rfl) ?_
                    refine lv_iload hx hb dL_comes_221 (lv_at hl 3 rfl) ?_
                    refine lv_iconst (v := 0) hx hb dL_comes_223 (by decide) ?_
                    refine lv_bipush (v := 30) hx hb dL_comes_224 (by decide) ?_
                    have hq179 := ho.1
                    have ho := ho.2
                    refine k_L_readingFor hst X hS hN hH hk_o1 hq179 t_ml_VernierDrawersLaw_242 hl.1 (Nat.le_of_ble_eq_true rfl) ⟨Nat.le_of_ble_eq_true rfl, Nat.le_of_ble_eq_true rfl⟩ ⟨(show ((pot v153 - pot v) + 36) + 6 ≤ kkL_comes o1 p1 p2 v by omega), (show ((pot v153 - pot v) + 36) + 6 ≤ kkL_comes o1 p1 p2 v by omega)⟩ dL_comes_226 (fun da H locs hH hS => ?_)
                    refine W.widen (k := ((pot v153 - pot v) + 42)) (n := ((pot v153 - pot v) + 42)) (Nat.le_of_eq (Nat.add_assoc _ _ _)) (Nat.le_of_eq (Nat.add_assoc _ _ _)) ?_
                    refine lv_bipush (v := 30) hx hb dL_comes_229 (by decide) ?_
                    refine lv_iload hx hb dL_comes_231 (lv_at hl 1 rfl) ?_
                    refine lv_iadd hx hb dL_comes_233 ?_
                    have K181 : ∀ (y180 : Int32) (ls : Array Slot), y180 = (if (0 : Int32) ≤ ((30 : Int32) + ((fL_low (p2 >>> ((3 : Int32) &&& 31)) y143) - y146)) then ((fX10_readingByLooking o1 (fX10_tools o1 v) 0 30 v153).2) else ((-100104)) : Int32) → lv_has ls 11 [] → W p l e (rmL_comes o1 p1 p2 v) s m args below meth c H locs ((pot v153 - pot v) + 42) ((pot v153 - pot v) + 42) Q (F0 m 251 ls [.int y180, .int (fL_readingFor o1 (fX10_tools o1 v) 0 30 v153)]) := by
                      intro y180 ls ey180 hl
                      have ho := ho.2 y180 ey180
                      refine lv_icmp_ne (tgt := 258) hx hb dL_comes_251 (by decide) (fun c182 => ?_) (fun c182 => ?_)
                      · exact absurd ho c182
                      refine lv_iconst (v := 1) hx hb dL_comes_254 (by decide) ?_
                      refine lv_goto (tgt := 259) hx hb dL_comes_255 (by decide) ?_
                      have hHz := hH
                      have hSz := hS
                      have hFz : fL_comes o1 p1 p2 v = v153 := by
                        refine (fL_comes.eq_1 _ _ _ _).trans ?_
                        dsimp only
                        try rw [← ey2]
                        try rw [← ey140]
                        try rw [← ey143]
                        try rw [← ey146]
                        try rw [← ey148]
                        try rw [← ev153]
                        try rw [← ey155]
                        try rw [← ey159]
                        try rw [← ey180]
                        all_goals rw [if_pos c4]
                        all_goals rw [if_neg c162]
                      exact E _ _ _ _ _ _ _ _ _ dL_comes_259 rfl rfl (Eq.symm hFz) hHz hSz (show ((pot v153 - pot v) + 42) ≤ kkL_comes o1 p1 p2 v by omega) (show ((pot v153 - pot v) + 42) ≤ kkL_comes o1 p1 p2 v by omega)
                    have ho := ho.1
                    refine lv_if_ge (tgt := 242) hx hb dL_comes_234 (by decide) (fun c181 => ?_) (fun c181 => ?_)
                    · have ho := ho c181
                      refine lv_aload_n hx hb dL_comes_242 rfl (lv_at hl 4 rfl) ?_
                      refine lv_iload hx hb dL_comes_243 (lv_at hl 3 rfl) ?_
                      refine lv_iconst (v := 0) hx hb dL_comes_245 (by decide) ?_
                      refine lv_bipush (v := 30) hx hb dL_comes_246 (by decide) ?_
                      have hq182 := ho.1
                      have ho := ho.2
                      have hq183 := ho
                      refine kZ_X10_readingByLooking X hS hH hk_o1 hq182 hq183 t_ml_VernierDrawersLaw_143 hl.1 (Nat.le_of_ble_eq_true rfl) ⟨Nat.le_of_ble_eq_true rfl, Nat.le_of_ble_eq_true rfl⟩ ⟨(show ((pot v153 - pot v) + 42) ≤ kkL_comes o1 p1 p2 v by omega), (show ((pot v153 - pot v) + 42) ≤ kkL_comes o1 p1 p2 v by omega)⟩ dL_comes_248 ?_
                      have hlz := hl
                      exact K181 _ _ (Eq.symm ((if_pos c181).trans rfl)) (lv_sub hlz [] rfl)
                    · skip
                      refine lv_ldc (v := (-100104)) hx hb hown (hts _ t_con_VernierDrawersLaw_73) dL_comes_237 ?_
                      refine lv_goto (tgt := 251) hx hb dL_comes_239 (by decide) ?_
                      have hlz := hl
                      exact K181 _ _ (Eq.symm ((if_neg c181).trans rfl)) (lv_sub hlz [] rfl)
                refine lv_if_ge (tgt := 156) hx hb dL_comes_149 (by decide) (fun c160 => ?_) (fun c160 => ?_)
                · skip
                  refine lv_iconst (v := 1) hx hb dL_comes_156 (by decide) ?_
                  have hlz := hl
                  exact K160 _ _ (Eq.symm ((if_pos c160).trans rfl)) (lv_sub hlz [0, 1, 2, 3, 4] rfl)
                · skip
                  refine lv_iconst (v := 0) hx hb dL_comes_152 (by decide) ?_
                  refine lv_goto (tgt := 157) hx hb dL_comes_153 (by decide) ?_
                  have hlz := hl
                  exact K160 _ _ (Eq.symm ((if_neg c160).trans rfl)) (lv_sub hlz [0, 1, 2, 3, 4] rfl)
              refine lv_if_eq (tgt := 124) hx hb dL_comes_116 (by decide) (fun c156 => ?_) (fun c156 => ?_)
              · skip
                refine lv_iload hx hb dL_comes_124 (lv_at hl 4 rfl) ?_
                refine lv_bipush (v := 6) hx hb dL_comes_126 (by decide) ?_
                refine lv_icmp_ne (tgt := 136) hx hb dL_comes_128 (by decide) (fun c157 => ?_) (fun c157 => ?_)
                · skip
                  refine lv_iload hx hb dL_comes_136 (lv_at hl 4 rfl) ?_
                  have hlz := hl
                  exact K156 _ _ (Eq.symm ((if_pos c156).trans ((if_neg c157).trans rfl))) (lv_sub hlz [0, 2, 3, 4, 5] rfl)
                · skip
                  refine lv_ldc (v := (-100103)) hx hb hown (hts _ t_con_VernierDrawersLaw_20) dL_comes_131 ?_
                  refine lv_goto (tgt := 138) hx hb dL_comes_133 (by decide) ?_
                  have hlz := hl
                  exact K156 _ _ (Eq.symm ((if_pos c156).trans ((if_pos c157).trans rfl))) (lv_sub hlz [0, 2, 3, 4, 5] rfl)
              · skip
                refine lv_ldc (v := (-100102)) hx hb hown (hts _ t_con_VernierDrawersLaw_17) dL_comes_119 ?_
                refine lv_goto (tgt := 138) hx hb dL_comes_121 (by decide) ?_
                have hlz := hl
                exact K156 _ _ (Eq.symm ((if_neg c156).trans rfl)) (lv_sub hlz [0, 2, 3, 4, 5] rfl)
            refine lv_icmp_eq (tgt := 95) hx hb dL_comes_78 (by decide) (fun c149 => ?_) (fun c149 => ?_)
            · skip
              refine lv_iconst (v := 1) hx hb dL_comes_95 (by decide) ?_
              refine lv_goto (tgt := 100) hx hb dL_comes_96 (by decide) ?_
              have hlz := hl
              exact K149 _ _ (Eq.symm ((if_pos c149).trans rfl)) (lv_sub hlz [0, 1, 2, 3] rfl)
            · skip
              refine lv_iload hx hb dL_comes_81 (lv_at hl 0 rfl) ?_
              refine lv_bipush (v := (-30)) hx hb dL_comes_83 (by decide) ?_
              refine lv_icmp_lt (tgt := 95) hx hb dL_comes_85 (by decide) (fun c150 => ?_) (fun c150 => ?_)
              · skip
                refine lv_iconst (v := 1) hx hb dL_comes_95 (by decide) ?_
                refine lv_goto (tgt := 100) hx hb dL_comes_96 (by decide) ?_
                have hlz := hl
                exact K149 _ _ (Eq.symm ((if_neg c149).trans ((if_pos c150).trans rfl))) (lv_sub hlz [0, 1, 2, 3] rfl)
              · skip
                refine lv_iload hx hb dL_comes_88 (lv_at hl 0 rfl) ?_
                refine lv_bipush (v := 30) hx hb dL_comes_90 (by decide) ?_
                refine lv_icmp_le (tgt := 99) hx hb dL_comes_92 (by decide) (fun c151 => ?_) (fun c151 => ?_)
                · skip
                  refine lv_iconst (v := 0) hx hb dL_comes_99 (by decide) ?_
                  have hlz := hl
                  exact K149 _ _ (Eq.symm ((if_neg c149).trans ((if_neg c150).trans ((if_pos c151).trans rfl)))) (lv_sub hlz [0, 1, 2, 3] rfl)
                · skip
                  refine lv_iconst (v := 1) hx hb dL_comes_95 (by decide) ?_
                  refine lv_goto (tgt := 100) hx hb dL_comes_96 (by decide) ?_
                  have hlz := hl
                  exact K149 _ _ (Eq.symm ((if_neg c149).trans ((if_neg c150).trans ((if_neg c151).trans rfl)))) (lv_sub hlz [0, 1, 2, 3] rfl)
          refine lv_if_eq (tgt := 70) hx hb dL_comes_62 (by decide) (fun c147 => ?_) (fun c147 => ?_)
          · skip
            refine lv_bipush (v := 10) hx hb dL_comes_70 (by decide) ?_
            have hlz := hl
            exact K147 _ _ (Eq.symm ((if_pos c147).trans rfl)) (lv_sub hlz [0, 1, 3] rfl)
          · skip
            refine lv_bipush (v := 35) hx hb dL_comes_65 (by decide) ?_
            refine lv_goto (tgt := 72) hx hb dL_comes_67 (by decide) ?_
            have hlz := hl
            exact K147 _ _ (Eq.symm ((if_neg c147).trans rfl)) (lv_sub hlz [0, 1, 3] rfl)
        refine lv_if_eq (tgt := 56) hx hb dL_comes_48 (by decide) (fun c144 => ?_) (fun c144 => ?_)
        · skip
          refine lv_bipush (v := 21) hx hb dL_comes_56 (by decide) ?_
          have hlz := hl
          exact K144 _ _ (Eq.symm ((if_pos c144).trans rfl)) (lv_sub hlz [0, 1, 2, 3] rfl)
        · skip
          refine lv_bipush (v := 70) hx hb dL_comes_51 (by decide) ?_
          refine lv_goto (tgt := 58) hx hb dL_comes_53 (by decide) ?_
          have hlz := hl
          exact K144 _ _ (Eq.symm ((if_neg c144).trans rfl)) (lv_sub hlz [0, 1, 2, 3] rfl)
      refine lv_if_eq (tgt := 38) hx hb dL_comes_30 (by decide) (fun c141 => ?_) (fun c141 => ?_)
      · skip
        refine lv_iconst (v := 5) hx hb dL_comes_38 (by decide) ?_
        have hlz := hl
        exact K141 _ _ (Eq.symm ((if_pos c141).trans rfl)) (lv_sub hlz [0, 1, 2, 4] rfl)
      · skip
        refine lv_bipush (v := 6) hx hb dL_comes_33 (by decide) ?_
        refine lv_goto (tgt := 39) hx hb dL_comes_35 (by decide) ?_
        have hlz := hl
        exact K141 _ _ (Eq.symm ((if_neg c141).trans rfl)) (lv_sub hlz [0, 1, 2, 4] rfl)
  refine lv_if_ne (tgt := 16) hx hb dL_comes_9 (by decide) (fun c3 => ?_) (fun c3 => ?_)
  · skip
    refine lv_iconst (v := 0) hx hb dL_comes_16 (by decide) ?_
    have hlz := hl
    exact K3 _ _ (Eq.symm ((if_neg c3).trans rfl)) (lv_sub hlz [0, 1, 2] rfl)
  · skip
    refine lv_iconst (v := 1) hx hb dL_comes_12 (by decide) ?_
    refine lv_goto (tgt := 17) hx hb dL_comes_13 (by decide) ?_
    have hlz := hl
    exact K3 _ _ (Eq.symm ((if_pos c3).trans rfl)) (lv_sub hlz [0, 1, 2] rfl)
theorem k_L_comes {p : Program} {l : Launch} {e : Env} {R : Room} {s : State} {m : MethodId} {args : Array Value} {below : List Frame} {meth : Method} {c : Code} {H : Heap} {locs : List Loc} {cells slots : Nat} {Q : State → Prop} {cc : ByteArray} {pc nL : Nat} {ls : Array Slot} {rest : List Value} {G : gG} {own : String} {da : Nat → Nat} {v : vSt} {x : gX} (hst : l.stackTraces = false) (X : CX G p s m args c cc nL own) (hS : va_S (gA G) s.heap H locs) (hN : NC s) (hH : Hp G da v x H) {o1 : Nat} (hk_o1 : kd o1 = 10) {p1 : Int32} {p2 : Int32} (ho : oL_comes o1 p1 p2 v) {idx : Nat} (hml : Cond.methodLink own idx yL_comes ∈ TT) (hls : ls.size = nL) (hsum : (rest.map fun v => v.category).sum ≤ 8) (hR : (rmL_comes o1 p1 p2 v).frames + 1 ≤ R.frames ∧ 8 + (11 + 11) + (rmL_comes o1 p1 p2 v).locals ≤ R.locals) (hcs : cells + (kkL_comes o1 p1 p2 v) ≤ R.cells ∧ slots + (kkL_comes o1 p1 p2 v) ≤ R.slots) (hdg : decode cc pc = .ok (.invokestatic idx, 3)) (kk : ∀ (d : Nat → Nat) (H1 : Heap) (locs1 : List Loc) (v1 : vSt), v1 = fL_comes o1 p1 p2 v → Hp G d v1 x H1 → va_S (gA G) s.heap H1 locs1 → W p l e R s m args below meth c H1 locs1 (cells + (kkL_comes o1 p1 p2 v)) (slots + (kkL_comes o1 p1 p2 v)) Q (F0 m (pc + 3) ls (.int 1 :: rest))) : W p l e R s m args below meth c H locs cells slots Q (F0 m pc ls (.int p2 :: .int p1 :: .ref (ga G o1) :: rest)) := c_mi X.2.2.2.2.2.2 (runS (k := 3) X.1 X.2.1 X.2.2.1 X.2.2.2.1 X.2.2.2.2.1 (mL_comes l hst G da v x o1 hk_o1 p1 p2 ho) pN_bl hml t_st_L_comes t_ini_VernierDrawersLaw t_code_L_comes ⟨by decide, by decide, by decide +kernel⟩ rfl rfl hR hcs (preN X hN hS hH) rfl hls rfl hsum hdg) hS kk
