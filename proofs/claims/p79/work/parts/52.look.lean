/-! P79, PLAIN 6: what is seen of an array alone; the law's look. -/
section T52
variable {n m n' m' : Nat} {v w : vSt} {A B : Ar} {p p2 p3 x : Int32} {k t : Nat}
theorem isT_k (h7 : inn (A 203) 7) (hk : k < (A 203).toNatClampNeg) : sIsT A (Int32.ofNat k) ≠ 0 := by
  have := inn_lt h7
  have e := rn_to h7.1
  unfold sIsT
  rw [in_iff, subOne h7.1, of_ti (by omega), show (0 : Int32).toInt = 0 from rfl]
  omega
theorem isY_k (h7 : inn (A 205) 6) (hk : k < (A 205).toNatClampNeg) : sIsY A (Int32.ofNat k) ≠ 0 := by
  have := inn_lt h7
  have e := rn_to h7.1
  unfold sIsY
  rw [in_iff, subOne h7.1, of_ti (by omega), show (0 : Int32).toInt = 0 from rfl]
  omega
theorem isB_k (h7 : inn (A 204) 11) (hk : k < (A 204).toNatClampNeg) : fX11_in (Int32.ofNat k) 0 (A 204 - 1) ≠ 0 := by
  have := inn_lt h7
  have e := rn_to h7.1
  rw [in_iff, subOne h7.1, of_ti (by omega), show (0 : Int32).toInt = 0 from rfl]
  omega
theorem eT (he : eqA B A) : sIsT B p = sIsT A p := by unfold sIsT; rw [he _ (by omega)]
theorem eY (he : eqA B A) : sIsY B p = sIsY A p := by unfold sIsY; rw [he _ (by omega)]
theorem eDue (he : eqA B A) (ht : t < 6) : sDue B t = sDue A t := by unfold sDue; rw [he _ (by omega), he _ (by omega), he _ (by omega)]
theorem eStretch (he : eqA B A) : sStretch B p p2 = sStretch A p p2 := by unfold sStretch; rw [he _ (by omega)]
theorem eShown (he : eqA B A) (ht : t < 6) : sShown B t p p2 = sShown A t p p2 := by unfold sShown; rw [eStretch he, eStretch he, he _ (by omega), he _ (by omega)]
theorem eReading (he : eqA B A) (ht : t < 6) : sReading B t p p2 = sReading A t p p2 := by unfold sReading; rw [eShown he ht, he _ (by omega)]
theorem eRd (hA : inn (A 203) 7) (he : eqA B A) : gRd B p p2 p3 = gRd A p p2 p3 := by
  unfold gRd
  rw [eT he]
  by_cases h : sIsT A p = 0
  · rw [if_pos h, if_pos h]
  · rw [if_neg h, if_neg h, eReading he (inn_lt (isT_in hA h).1)]
theorem e_tools (hV : Inv n m v) (hW : Inv n' m' w) (he : eqA (w 462) (v 462)) : fX10_tools 448 w = fX10_tools 448 v := by rw [x_tools hV, x_tools hW, he _ (by omega)]
theorem e_warmth (hV : Inv n m v) (hW : Inv n' m' w) (he : eqA (w 462) (v 462)) : fX10_warmth 448 w = fX10_warmth 448 v := by rw [x_warmth hV, x_warmth hW, he _ (by omega)]
theorem e_types (hV : Inv n m v) (hW : Inv n' m' w) (he : eqA (w 462) (v 462)) : fX10_types 448 w = fX10_types 448 v := by rw [x_types hV, x_types hW, he _ (by omega)]
theorem e_onBench (hV : Inv n m v) (hW : Inv n' m' w) (he : eqA (w 462) (v 462)) : fX10_onBench 448 w = fX10_onBench 448 v := by rw [x_onBench hV, x_onBench hW, he _ (by omega)]
theorem e_toFile (hV : Inv n m v) (hW : Inv n' m' w) (he : eqA (w 462) (v 462)) : fX10_toFile 448 w = fX10_toFile 448 v := by rw [x_toFile hV, x_toFile hW, he _ (by omega)]
theorem e_days (hV : Inv n m v) (hW : Inv n' m' w) (he : eqA (w 462) (v 462)) : fX10_days 448 w = fX10_days 448 v := by rw [x_days hV, x_days hW, he _ (by omega)]
theorem e_brought (hV : Inv n m v) (hW : Inv n' m' w) (he : eqA (w 462) (v 462)) : fX10_brought 448 w = fX10_brought 448 v := by rw [x_brought hV, x_brought hW, he _ (by omega)]
theorem e_good (hV : Inv n m v) (hW : Inv n' m' w) (he : eqA (w 462) (v 462)) : fX10_good 448 w = fX10_good 448 v := by rw [x_good hV, x_good hW, he _ (by omega)]
theorem e_thrownAway (hV : Inv n m v) (hW : Inv n' m' w) (he : eqA (w 462) (v 462)) : fX10_thrownAway 448 w = fX10_thrownAway 448 v := by rw [x_thrownAway hV, x_thrownAway hW, he _ (by omega)]
theorem e_unseen (hV : Inv n m v) (hW : Inv n' m' w) (he : eqA (w 462) (v 462)) : fX10_unseen 448 w = fX10_unseen 448 v := by rw [x_unseen hV, x_unseen hW, he _ (by omega)]
theorem e_doubts (hV : Inv n m v) (hW : Inv n' m' w) (he : eqA (w 462) (v 462)) : fX10_doubts 448 w = fX10_doubts 448 v := by rw [x_doubts hV, x_doubts hW, he _ (by omega)]
theorem e_blocks (hV : Inv n m v) (hW : Inv n' m' w) (he : eqA (w 462) (v 462)) : fX10_blocks 448 w = fX10_blocks 448 v := by rw [x_blocks hV, x_blocks hW, he _ (by omega)]
theorem e_kindOf (hV : Inv n m v) (hW : Inv n' m' w) (he : eqA (w 462) (v 462)) : fX10_kindOf 448 p w = fX10_kindOf 448 p v := by
  have hT : sIsT (w 462) p = sIsT (v 462) p := eT he
  by_cases h : sIsT (v 462) p = 0
  · rw [x_kindOf0 hV h, x_kindOf0 hW (hT.trans h)]
  · have hl := inn_lt (isT_in hV.wf.1.1 h).1
    rw [x_kindOf hV h, x_kindOf hW (by rw [hT]; exact h), he _ (by omega)]
theorem e_knownError (hV : Inv n m v) (hW : Inv n' m' w) (he : eqA (w 462) (v 462)) : fX10_knownError 448 p w = fX10_knownError 448 p v := by
  have hT : sIsT (w 462) p = sIsT (v 462) p := eT he
  by_cases h : sIsT (v 462) p = 0
  · rw [x_knownError0 hV h, x_knownError0 hW (hT.trans h)]
  · have hl := inn_lt (isT_in hV.wf.1.1 h).1
    rw [x_knownError hV h, x_knownError hW (by rw [hT]; exact h), he _ (by omega)]
theorem e_wearOf (hV : Inv n m v) (hW : Inv n' m' w) (he : eqA (w 462) (v 462)) : fX10_wearOf 448 p w = fX10_wearOf 448 p v := by
  have hT : sIsT (w 462) p = sIsT (v 462) p := eT he
  by_cases h : sIsT (v 462) p = 0
  · rw [x_wearOf0 hV h, x_wearOf0 hW (hT.trans h)]
  · have hl := inn_lt (isT_in hV.wf.1.1 h).1
    rw [x_wearOf hV h, x_wearOf hW (by rw [hT]; exact h), he _ (by omega)]
theorem e_usesOf (hV : Inv n m v) (hW : Inv n' m' w) (he : eqA (w 462) (v 462)) : fX10_usesOf 448 p w = fX10_usesOf 448 p v := by
  have hT : sIsT (w 462) p = sIsT (v 462) p := eT he
  by_cases h : sIsT (v 462) p = 0
  · rw [x_usesOf0 hV h, x_usesOf0 hW (hT.trans h)]
  · have hl := inn_lt (isT_in hV.wf.1.1 h).1
    rw [x_usesOf hV h, x_usesOf hW (by rw [hT]; exact h), he _ (by omega)]
theorem e_usesLeft (hV : Inv n m v) (hW : Inv n' m' w) (he : eqA (w 462) (v 462)) : fX10_usesLeft 448 p w = fX10_usesLeft 448 p v := by
  have hT : sIsT (w 462) p = sIsT (v 462) p := eT he
  by_cases h : sIsT (v 462) p = 0
  · rw [x_usesLeft0 hV h, x_usesLeft0 hW (hT.trans h)]
  · have hl := inn_lt (isT_in hV.wf.1.1 h).1
    rw [x_usesLeft hV h, x_usesLeft hW (by rw [hT]; exact h), he _ (by omega)]
theorem e_isDue (hV : Inv n m v) (hW : Inv n' m' w) (he : eqA (w 462) (v 462)) : fX10_isDue 448 p w = fX10_isDue 448 p v := by
  have hT : sIsT (w 462) p = sIsT (v 462) p := eT he
  by_cases h : sIsT (v 462) p = 0
  · rw [x_isDue0 hV h, x_isDue0 hW (hT.trans h)]
  · have hl := inn_lt (isT_in hV.wf.1.1 h).1
    rw [x_isDue hV h, x_isDue hW (by rw [hT]; exact h), eDue he hl]
theorem e_lengthOf (hV : Inv n m v) (hW : Inv n' m' w) (he : eqA (w 462) (v 462)) : fX10_lengthOf 448 p w = fX10_lengthOf 448 p v := by
  have hT : sIsY (w 462) p = sIsY (v 462) p := eY he
  by_cases h : sIsY (v 462) p = 0
  · rw [x_lengthOf0 hV h, x_lengthOf0 hW (hT.trans h)]
  · have hl := inn_lt (isY_in hV.wf.1.2.2.1 h).1
    rw [x_lengthOf hV h, x_lengthOf hW (by rw [hT]; exact h), he _ (by omega)]
theorem e_mannerOf (hV : Inv n m v) (hW : Inv n' m' w) (he : eqA (w 462) (v 462)) : fX10_mannerOf 448 p w = fX10_mannerOf 448 p v := by
  have hT : sIsY (w 462) p = sIsY (v 462) p := eY he
  by_cases h : sIsY (v 462) p = 0
  · rw [x_mannerOf0 hV h, x_mannerOf0 hW (hT.trans h)]
  · have hl := inn_lt (isY_in hV.wf.1.2.2.1 h).1
    rw [x_mannerOf hV h, x_mannerOf hW (by rw [hT]; exact h), he _ (by omega)]
theorem e_recordOf (hV : Inv n m v) (hW : Inv n' m' w) (he : eqA (w 462) (v 462)) : fX10_recordOf 448 p w = fX10_recordOf 448 p v := by
  have hT : sIsY (w 462) p = sIsY (v 462) p := eY he
  by_cases h : sIsY (v 462) p = 0
  · rw [x_recordOf0 hV h, x_recordOf0 hW (hT.trans h)]
  · have hl := inn_lt (isY_in hV.wf.1.2.2.1 h).1
    rw [x_recordOf hV h, x_recordOf hW (by rw [hT]; exact h), he _ (by omega)]
theorem e_charted (hV : Inv n m v) (hW : Inv n' m' w) (he : eqA (w 462) (v 462)) : fX10_charted 448 p w = fX10_charted 448 p v := by
  have hT : sIsY (w 462) p = sIsY (v 462) p := eY he
  by_cases h : sIsY (v 462) p = 0
  · rw [x_charted0 hV h, x_charted0 hW (hT.trans h)]
  · have hl := inn_lt (isY_in hV.wf.1.2.2.1 h).1
    rw [x_charted hV h, x_charted hW (by rw [hT]; exact h), he _ (by omega)]
theorem e_badOf (hV : Inv n m v) (hW : Inv n' m' w) (he : eqA (w 462) (v 462)) : fX10_badOf 448 p w = fX10_badOf 448 p v := by
  have hT : sIsY (w 462) p = sIsY (v 462) p := eY he
  by_cases h : sIsY (v 462) p = 0
  · rw [x_badOf0 hV h, x_badOf0 hW (hT.trans h)]
  · have hl := inn_lt (isY_in hV.wf.1.2.2.1 h).1
    rw [x_badOf hV h, x_badOf hW (by rw [hT]; exact h), he _ (by omega)]
theorem e_widthOf (hV : Inv n m v) (hW : Inv n' m' w) (he : eqA (w 462) (v 462)) : fX10_widthOf 448 p w = fX10_widthOf 448 p v := by
  have hT : sIsY (w 462) p = sIsY (v 462) p := eY he
  by_cases h : sIsY (v 462) p = 0
  · rw [x_widthOf0 hV h, x_widthOf0 hW (hT.trans h)]
  · have hl := inn_lt (isY_in hV.wf.1.2.2.1 h).1
    rw [x_widthOf hV h, x_widthOf hW (by rw [hT]; exact h), he _ (by omega), he _ (by omega)]
theorem e_blockLength (hV : Inv n m v) (hW : Inv n' m' w) (he : eqA (w 462) (v 462)) : fX10_blockLength 448 p w = fX10_blockLength 448 p v := by
  have hT : fX11_in p 0 (w 462 204 - 1) = fX11_in p 0 (v 462 204 - 1) := by rw [he _ (by omega)]
  by_cases h : fX11_in p 0 (v 462 204 - 1) = 0
  · rw [x_blockLength0 hV h, x_blockLength0 hW (hT.trans h)]
  · have hl := inn_lt (isB_in hV h).1
    rw [x_blockLength hV h, x_blockLength hW (by rw [hT]; exact h), he _ (by omega)]
theorem e_blockError (hV : Inv n m v) (hW : Inv n' m' w) (he : eqA (w 462) (v 462)) : fX10_blockError 448 p w = fX10_blockError 448 p v := by
  have hT : fX11_in p 0 (w 462 204 - 1) = fX11_in p 0 (v 462 204 - 1) := by rw [he _ (by omega)]
  by_cases h : fX11_in p 0 (v 462 204 - 1) = 0
  · rw [x_blockError0 hV h, x_blockError0 hW (hT.trans h)]
  · have hl := inn_lt (isB_in hV h).1
    rw [x_blockError hV h, x_blockError hW (by rw [hT]; exact h), he _ (by omega)]
theorem eTa (hA : inn (A 206) 21) (he : eqA B A) : gTa B p = gTa A p := by
  unfold gTa
  rw [he 206 (by omega)]
  by_cases h1 : ¬ 0 ≤ p
  · rw [if_pos h1, if_pos h1]
  rw [if_neg h1, if_neg h1]
  by_cases h2 : ¬ p < A 206
  · rw [if_pos h2, if_pos h2]
  rw [if_neg h2, if_neg h2]
  have hp := inn_lt (lt_in (Decidable.not_not.mp h1) (Decidable.not_not.mp h2) hA).1
  rw [he _ (by omega)]
theorem eWd (hA : inn (A 206) 21) (he : eqA B A) : gWd B p = gWd A p := by
  unfold gWd
  rw [he 206 (by omega)]
  by_cases h1 : ¬ 0 ≤ p
  · rw [if_pos h1, if_pos h1]
  rw [if_neg h1, if_neg h1]
  by_cases h2 : ¬ p < A 206
  · rw [if_pos h2, if_pos h2]
  rw [if_neg h2, if_neg h2]
  have hp := inn_lt (lt_in (Decidable.not_not.mp h1) (Decidable.not_not.mp h2) hA).1
  rw [he _ (by omega)]
theorem eCa (hA : WF A) (he : eqA B A) : gCa B p p2 = gCa A p p2 := by
  unfold gCa
  rw [eY he]
  by_cases h : sIsY A p = 0
  · rw [if_pos h, if_pos h]
  have hk := isY_in hA.1.2.2.1 h
  have hl := inn_lt hk.1
  rw [if_neg h, if_neg h, he ((78 + 21 * p.toNatClampNeg + 8)) (by omega)]
  by_cases h1 : ¬ 0 ≤ p2
  · rw [if_pos h1, if_pos h1]
  rw [if_neg h1, if_neg h1]
  by_cases h2 : ¬ p2 < A ((78 + 21 * p.toNatClampNeg + 8))
  · rw [if_pos h2, if_pos h2]
  rw [if_neg h2, if_neg h2]
  have hp := inn_lt (lt_in (Decidable.not_not.mp h1) (Decidable.not_not.mp h2) (hA.2.2.2.1.1 _ hk.2).2.2.2.2.2.2.2.2.1).1
  rw [he _ (by omega)]
theorem e_typeAt (hV : Inv n m v) (hW : Inv n' m' w) (he : eqA (w 462) (v 462)) : fX10_typeAt 448 p w = fX10_typeAt 448 p v := by rw [x_typeAt hV, x_typeAt hW, eTa hV.wf.1.2.2.2.1 he]
theorem e_wasDoubted (hV : Inv n m v) (hW : Inv n' m' w) (he : eqA (w 462) (v 462)) : fX10_wasDoubted 448 p w = fX10_wasDoubted 448 p v := by rw [x_wasDoubted hV, x_wasDoubted hW, eWd hV.wf.1.2.2.2.1 he]
theorem e_chartedAt (hV : Inv n m v) (hW : Inv n' m' w) (he : eqA (w 462) (v 462)) : fX10_chartedAt 448 p p2 w = fX10_chartedAt 448 p p2 v := by rw [x_chartedAt hV, x_chartedAt hW, eCa hV.wf he]
theorem e_readingFor (hV : Inv n m v) (hW : Inv n' m' w) (he : eqA (w 462) (v 462)) : fL_readingFor 448 p p2 p3 w = fL_readingFor 448 p p2 p3 v := by rw [(w_readingFor hV).2, (w_readingFor hW).2, eRd hV.wf.1.1 he]
/-! the look is the same -/
theorem lk1 (hV : Inv n m v) (hW : Inv n' m' w) (he : eqA (w 462) (v 462)) : ∀ fl i y, lL_look_114 w 448 fl i y = lL_look_114 v 448 fl i y := by
  intro fl
  induction fl with
  | zero => intro i y; rfl
  | succ fl ih =>
    intro i y
    unfold lL_look_114
    rw [e_tools hV hW he, e_kindOf hV hW he, e_usesOf hV hW he, e_wearOf hV hW he, e_knownError hV hW he, e_usesLeft hV hW he, e_isDue hV hW he, e_readingFor hV hW he]
    dsimp only
    rw [ih]
theorem lk2 (hV : Inv n m v) (hW : Inv n' m' w) (he : eqA (w 462) (v 462)) : ∀ fl i y, lL_look_223 w 448 fl i y = lL_look_223 v 448 fl i y := by
  intro fl
  induction fl with
  | zero => intro i y; rfl
  | succ fl ih =>
    intro i y
    unfold lL_look_223
    rw [e_blocks hV hW he, e_blockLength hV hW he, e_blockError hV hW he]
    dsimp only
    rw [ih]
theorem lk3 (hV : Inv n m v) (hW : Inv n' m' w) (he : eqA (w 462) (v 462)) : ∀ fl i y, lL_look_263 w 448 fl i y = lL_look_263 v 448 fl i y := by
  intro fl
  induction fl with
  | zero => intro i y; rfl
  | succ fl ih =>
    intro i y
    unfold lL_look_263
    rw [e_onBench hV hW he, e_typeAt hV hW he, e_wasDoubted hV hW he]
    dsimp only
    rw [ih]
theorem lk4 {q : Int32} (hV : Inv n m v) (hW : Inv n' m' w) (he : eqA (w 462) (v 462)) : ∀ fl i y, lL_look_377 w 448 q fl i y = lL_look_377 v 448 q fl i y := by
  intro fl
  induction fl with
  | zero => intro i y; rfl
  | succ fl ih =>
    intro i y
    unfold lL_look_377
    rw [e_charted hV hW he, e_chartedAt hV hW he, ih]
theorem lk5 (hV : Inv n m v) (hW : Inv n' m' w) (he : eqA (w 462) (v 462)) : ∀ fl i y, lL_look_309 w 448 fl i y = lL_look_309 v 448 fl i y := by
  intro fl
  induction fl with
  | zero => intro i y; rfl
  | succ fl ih =>
    intro i y
    unfold lL_look_309
    rw [e_types hV hW he, e_lengthOf hV hW he, e_widthOf hV hW he, e_mannerOf hV hW he, e_recordOf hV hW he, e_badOf hV hW he]
    dsimp only
    rw [lk4 hV hW he, ih]
theorem look_eq (hV : Inv n m v) (hW : Inv n' m' w) (he : eqA (w 462) (v 462)) : fL_look 448 w = fL_look 448 v := by
  unfold fL_look
  rw [e_warmth hV hW he, e_days hV hW he, e_brought hV hW he, e_good hV hW he, e_thrownAway hV hW he, e_unseen hV hW he, e_doubts hV hW he, e_tools hV hW he, e_blocks hV hW he, e_types hV hW he, e_toFile hV hW he]
  dsimp only
  rw [lk1 hV hW he, lk2 hV hW he, lk3 hV hW he, lk5 hV hW he]
/-! .. and always goes through -/
theorem lo1 (hV : Inv n m v) : ∀ fl k y, k ≤ ((v 462) 203).toNatClampNeg → ((v 462) 203).toNatClampNeg < fl + k → olL_look_114 v 448 fl (Int32.ofNat k) y := by
  have h7 := hV.wf.1.1
  have l7 := inn_lt h7
  intro fl
  induction fl with
  | zero => intro k y h1 h2; omega
  | succ fl ih =>
    intro k y h1 h2
    unfold olL_look_114
    rw [x_tools hV]
    intro q
    rw [of_le h7.1 (by omega)] at q
    have hT := isT_k h7 (show k < ((v 462) 203).toNatClampNeg by omega)
    refine ⟨(t_kindOf hV).1, by rw [x_kindOf hV hT], (t_usesOf hV).1, by rw [x_usesOf hV hT], (t_wearOf hV).1, by rw [x_wearOf hV hT], (t_knownError hV).1, by rw [x_knownError hV hT], (t_usesLeft hV).1, by rw [x_usesLeft hV hT], fun _ _ => ⟨(w_readingFor hV).1, (t_isDue hV).1, by rw [x_isDue hV hT], fun _ _ _ _ => ?_⟩⟩
    rw [of_S (by omega)]
    exact ih (k + 1) _ (by omega) (by omega)
theorem lo2 (hV : Inv n m v) : ∀ fl k y, k ≤ ((v 462) 204).toNatClampNeg → ((v 462) 204).toNatClampNeg < fl + k → olL_look_223 v 448 fl (Int32.ofNat k) y := by
  have h7 := hV.wf.1.2.1
  have l7 := inn_lt h7
  intro fl
  induction fl with
  | zero => intro k y h1 h2; omega
  | succ fl ih =>
    intro k y h1 h2
    unfold olL_look_223
    rw [x_blocks hV]
    intro q
    rw [of_le h7.1 (by omega)] at q
    have hT := isB_k h7 (show k < ((v 462) 204).toNatClampNeg by omega)
    refine ⟨(t_blockLength hV).1, by rw [x_blockLength hV hT], (t_blockError hV).1, by rw [x_blockError hV hT], fun _ _ => ?_⟩
    rw [of_S (by omega)]
    exact ih (k + 1) _ (by omega) (by omega)
theorem ta_k (h7 : inn (A 206) 21) (hk : k < (A 206).toNatClampNeg) : gTa A (Int32.ofNat k) = (0, fX11_typeOf (A (183 + k))) ∧ gWd A (Int32.ofNat k) = (0, if A (183 + k) - A (183 + k) / 2 * 2 = 1 then 1 else 0) := by
  have l7 := inn_lt h7
  have e := rn_to h7.1
  have p0 : ¬ ¬ 0 ≤ Int32.ofNat k := fun q => q (by rw [Int32.le_iff_toInt_le, of_ti (by omega), show (0 : Int32).toInt = 0 from rfl]; omega)
  have p1 : ¬ ¬ Int32.ofNat k < A 206 := fun q => q (by rw [Int32.lt_iff_toInt_lt, of_ti (by omega)]; omega)
  unfold gTa gWd
  rw [if_neg p0, if_neg p0, if_neg p1, if_neg p1, to_of (by omega)]
  exact ⟨rfl, rfl⟩
theorem lo3 (hV : Inv n m v) : ∀ fl k y, k ≤ ((v 462) 206).toNatClampNeg → ((v 462) 206).toNatClampNeg < fl + k → olL_look_263 v 448 fl (Int32.ofNat k) y := by
  have h7 := hV.wf.1.2.2.2.1
  have l7 := inn_lt h7
  intro fl
  induction fl with
  | zero => intro k y h1 h2; omega
  | succ fl ih =>
    intro k y h1 h2
    unfold olL_look_263
    refine ⟨(t_onBench hV).1, ?_⟩
    rw [x_onBench hV]
    intro q
    rw [of_le h7.1 (by omega)] at q
    have hT := ta_k h7 (show k < ((v 462) 206).toNatClampNeg by omega)
    refine ⟨(t_typeAt hV).1, by rw [x_typeAt hV, hT.1], (t_wasDoubted hV).1, by rw [x_wasDoubted hV, hT.2], fun _ _ _ _ => ?_⟩
    rw [of_S (by omega)]
    exact ih (k + 1) _ (by omega) (by omega)
theorem ca_k {q : Int32} (hw : WF A) (hq : sIsY A q ≠ 0) (hk : k < (A ((78 + 21 * q.toNatClampNeg + 8))).toNatClampNeg) : gCa A q (Int32.ofNat k) = (0, A ((78 + 21 * q.toNatClampNeg + (9 + k)))) := by
  have h7 := (hw.2.2.2.1.1 _ (isY_in hw.1.2.2.1 hq).2).2.2.2.2.2.2.2.2.1
  have l7 := inn_lt h7
  have e := rn_to h7.1
  have p0 : ¬ ¬ 0 ≤ Int32.ofNat k := fun q => q (by rw [Int32.le_iff_toInt_le, of_ti (by omega), show (0 : Int32).toInt = 0 from rfl]; omega)
  have p1 : ¬ ¬ Int32.ofNat k < A ((78 + 21 * q.toNatClampNeg + 8)) := fun q => q (by rw [Int32.lt_iff_toInt_lt, of_ti (by omega)]; omega)
  unfold gCa
  rw [if_neg hq, if_neg p0, if_neg p1, to_of (by omega)]
theorem lo4 {q : Int32} (hV : Inv n m v) (hq : sIsY (v 462) q ≠ 0) : ∀ fl k y, k ≤ (v 462 ((78 + 21 * q.toNatClampNeg + 8))).toNatClampNeg → (v 462 ((78 + 21 * q.toNatClampNeg + 8))).toNatClampNeg < fl + k → olL_look_377 v 448 q fl (Int32.ofNat k) y := by
  have h7 := (hV.wf.2.2.2.1.1 _ (isY_in hV.wf.1.2.2.1 hq).2).2.2.2.2.2.2.2.2.1
  have l7 := inn_lt h7
  intro fl
  induction fl with
  | zero => intro k y h1 h2; omega
  | succ fl ih =>
    intro k y h1 h2
    unfold olL_look_377
    refine ⟨(t_charted hV).1, by rw [x_charted hV hq], ?_⟩
    rw [x_charted hV hq]
    intro g
    dsimp only at g
    rw [of_le h7.1 (by omega)] at g
    have hT := ca_k hV.wf hq (show k < (v 462 ((78 + 21 * q.toNatClampNeg + 8))).toNatClampNeg by omega)
    refine ⟨(t_chartedAt hV).1, by rw [x_chartedAt hV, hT], ?_⟩
    rw [of_S (by omega)]
    exact ih (k + 1) _ (by omega) (by omega)
theorem lo5 (hV : Inv n m v) : ∀ fl k y, k ≤ ((v 462) 205).toNatClampNeg → ((v 462) 205).toNatClampNeg < fl + k → olL_look_309 v 448 fl (Int32.ofNat k) y := by
  have h7 := hV.wf.1.2.2.1
  have l7 := inn_lt h7
  intro fl
  induction fl with
  | zero => intro k y h1 h2; omega
  | succ fl ih =>
    intro k y h1 h2
    unfold olL_look_309
    rw [x_types hV]
    intro q
    rw [of_le h7.1 (by omega)] at q
    have hT := isY_k h7 (show k < ((v 462) 205).toNatClampNeg by omega)
    have hc := inn_lt (hV.wf.2.2.2.1.1 _ (isY_in h7 hT).2).2.2.2.2.2.2.2.2.1
    refine ⟨(t_lengthOf hV).1, by rw [x_lengthOf hV hT], (t_widthOf hV).1, by rw [x_widthOf hV hT], (t_mannerOf hV).1, by rw [x_mannerOf hV hT], (t_recordOf hV).1, by rw [x_recordOf hV hT], (t_badOf hV).1, by rw [x_badOf hV hT], fun _ _ => ⟨lo4 hV hT 13 0 _ (by omega) (by omega), fun _ _ => ?_⟩⟩
    rw [of_S (by omega)]
    exact ih (k + 1) _ (by omega) (by omega)
theorem look_o (hV : Inv n m v) : oL_look 448 v := by
  have l1 := inn_lt hV.wf.1.1
  have l2 := inn_lt hV.wf.1.2.1
  have l3 := inn_lt hV.wf.1.2.2.1
  have l4 := inn_lt hV.wf.1.2.2.2.1
  exact ⟨(t_warmth hV).1, (t_days hV).1, (t_brought hV).1, (t_good hV).1, (t_thrownAway hV).1, (t_unseen hV).1, fun _ _ => ⟨(t_doubts hV).1, (t_tools hV).1, (t_blocks hV).1, (t_types hV).1, (t_toFile hV).1, fun _ _ =>
    ⟨lo1 hV 7 0 _ (by omega) (by omega), fun _ _ => ⟨lo2 hV 11 0 _ (by omega) (by omega), fun _ _ => ⟨lo3 hV 21 0 _ (by omega) (by omega), fun _ _ => lo5 hV 6 0 _ (by omega) (by omega)⟩⟩⟩⟩⟩
end T52
