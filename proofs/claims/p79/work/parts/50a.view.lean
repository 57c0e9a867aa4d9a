/-! P79, PLAIN 1: every question in closed form upon the array; what the law's wrappers answer. -/
section T50
variable {n m : Nat} {v w : vSt} {A : Ar} {z k p p2 p3 c y : Int32}
def gRd (A : Ar) (p m l : Int32) : Nat × Int32 := if sIsT A p = 0 then (1, 0) else (if fX11_isMaterial m = 0 then (1, 0) else (if fX11_in l 0 15000 = 0 then (1, 0) else (if sReading A p.toNatClampNeg m l = -1 then (3, 0) else (0, sReading A p.toNatClampNeg m l))))
def gSt (A : Ar) (p : Int32) : Nat × Int32 := if fX11_in p 1 15000 = 0 then (1, 0) else (if sStack A p = 0 then (3, 0) else (0, sStack A p))
theorem needRd (hI : Inv n m v) : fX10_needReading 448 p p2 p3 v = gRd (v 462) p p2 p3 := by
  unfold gRd fX10_needReading fX2_refusalToMeasure
  rw [c_hasTool hI.sr.1.1 hI.wf.1.1, mat_eq, in_rng, needT hI]
  try dsimp only
  by_cases h1 : sIsT (v 462) p = 0
  · rw [if_pos h1, if_pos rfl, if_pos h1]
  rw [if_neg h1, if_neg h1, if_neg h1]
  by_cases h2 : fX11_isMaterial p2 = 0
  · rw [if_pos h2, if_pos rfl, if_pos h2]
  rw [if_neg h2, if_neg h2]
  by_cases h3 : fX11_in p3 0 15000 = 0
  · rw [if_pos h3, if_pos rfl, if_pos h3]
  rw [if_neg h3, if_neg h3]
  have hT := hI.sr.tool hI.wf h1
  have er : fX2_reading (rN (v 448 0) + 1) ((((rN (v 448 0)) + 1 + 2) + 13 + p.toNatClampNeg)) p2 p3 v = sReading (v 462) p.toNatClampNeg p2 p3 := c_reading hI.sr.1.2.2.1 (mat_in h2) hT.2.1 hT.1
  rw [er]
  by_cases h4 : sReading (v 462) p.toNatClampNeg p2 p3 = -1
  · rw [if_pos h4, if_neg (by decide), if_pos rfl, if_pos h4]
  · rw [if_neg h4, if_neg (by decide), if_neg (by decide), if_pos rfl, if_neg h4]
theorem needSt (hI : Inv n m v) : fX10_needStack 448 p v = gSt (v 462) p := by
  have ec : fX2_stack (rN (v 448 0) + 1) p v = sStack (v 462) p := c_stack hI.sr.1.2.1 hI.wf.1.2.1 hI.sr.2.2.2.1
  unfold gSt fX10_needStack fX10_needStackLength
  rw [in_rng, ec]
  try dsimp only
  by_cases h1 : fX11_in p 1 15000 = 0
  · rw [if_pos h1, if_neg (by decide), if_pos h1]
  rw [if_neg h1, if_pos rfl, if_neg h1]
theorem x_kindOf (hI : Inv n m v) (h : sIsT (v 462) p ≠ 0) : fX10_kindOf 448 p v = (0, v 462 (8 * p.toNatClampNeg)) := by
  unfold fX10_kindOf
  rw [needT hI, if_neg h]
  exact Prod.ext rfl ((hI.sr.tool hI.wf h).1.1)
theorem x_kindOf0 (hI : Inv n m v) (h : sIsT (v 462) p = 0) : fX10_kindOf 448 p v = (1, 0) := by
  unfold fX10_kindOf
  rw [needT hI, if_pos h]
  rfl
theorem w_kindOf (hI : Inv n m v) : oL_kindOf 448 p v ∧ fL_kindOf 448 p v = if sIsT (v 462) p = 0 then -100102 else v 462 (8 * p.toNatClampNeg) := by
  unfold oL_kindOf fL_kindOf
  by_cases h : sIsT (v 462) p = 0
  · rw [x_kindOf0 hI h, if_pos h]
    exact ⟨⟨(t_kindOf hI).1, fun _ => rfl⟩, rfl⟩
  · rw [x_kindOf hI h, if_neg h]
    exact ⟨⟨(t_kindOf hI).1, fun q => absurd rfl q⟩, rfl⟩
theorem x_stepOf (hI : Inv n m v) (h : sIsT (v 462) p ≠ 0) : fX10_stepOf 448 p v = (0, sStep (v 462 (8 * p.toNatClampNeg))) := by
  unfold fX10_stepOf
  rw [needT hI, if_neg h]
  exact Prod.ext rfl ((hI.sr.tool hI.wf h).1.2.1)
theorem x_stepOf0 (hI : Inv n m v) (h : sIsT (v 462) p = 0) : fX10_stepOf 448 p v = (1, 0) := by
  unfold fX10_stepOf
  rw [needT hI, if_pos h]
  rfl
theorem x_knownError (hI : Inv n m v) (h : sIsT (v 462) p ≠ 0) : fX10_knownError 448 p v = (0, v 462 (8 * p.toNatClampNeg + 3)) := by
  unfold fX10_knownError
  rw [needT hI, if_neg h]
  exact Prod.ext rfl ((hI.sr.tool hI.wf h).1.2.2.2.1)
theorem x_knownError0 (hI : Inv n m v) (h : sIsT (v 462) p = 0) : fX10_knownError 448 p v = (1, 0) := by
  unfold fX10_knownError
  rw [needT hI, if_pos h]
  rfl
theorem x_wearOf (hI : Inv n m v) (h : sIsT (v 462) p ≠ 0) : fX10_wearOf 448 p v = (0, v 462 (8 * p.toNatClampNeg + 2)) := by
  unfold fX10_wearOf
  rw [needT hI, if_neg h]
  exact Prod.ext rfl ((hI.sr.tool hI.wf h).1.2.2.2.2.1)
theorem x_wearOf0 (hI : Inv n m v) (h : sIsT (v 462) p = 0) : fX10_wearOf 448 p v = (1, 0) := by
  unfold fX10_wearOf
  rw [needT hI, if_pos h]
  rfl
theorem x_usesOf (hI : Inv n m v) (h : sIsT (v 462) p ≠ 0) : fX10_usesOf 448 p v = (0, v 462 (8 * p.toNatClampNeg + 5)) := by
  unfold fX10_usesOf
  rw [needT hI, if_neg h]
  exact Prod.ext rfl ((hI.sr.tool hI.wf h).1.2.2.2.2.2.2.1)
theorem x_usesOf0 (hI : Inv n m v) (h : sIsT (v 462) p = 0) : fX10_usesOf 448 p v = (1, 0) := by
  unfold fX10_usesOf
  rw [needT hI, if_pos h]
  rfl
theorem x_usesLeft (hI : Inv n m v) (h : sIsT (v 462) p ≠ 0) : fX10_usesLeft 448 p v = (0, (if 0 < 30 - v 462 (8 * p.toNatClampNeg + 6) then 30 - v 462 (8 * p.toNatClampNeg + 6) else 0 : Int32)) := by
  unfold fX10_usesLeft
  rw [needT hI, if_neg h]
  exact Prod.ext rfl (congrArg (fun y : Int32 => (if 0 < 30 - y then 30 - y else 0 : Int32)) ((hI.sr.tool hI.wf h).1.2.2.2.2.2.2.2.1))
theorem x_usesLeft0 (hI : Inv n m v) (h : sIsT (v 462) p = 0) : fX10_usesLeft 448 p v = (1, 0) := by
  unfold fX10_usesLeft
  rw [needT hI, if_pos h]
  rfl
theorem x_isDue (hI : Inv n m v) (h : sIsT (v 462) p ≠ 0) : fX10_isDue 448 p v = (0, sDue (v 462) p.toNatClampNeg) := by
  unfold fX10_isDue
  rw [needT hI, if_neg h]
  exact Prod.ext rfl (c_due hI.sr.1.2.2.2 (hI.sr.tool hI.wf h).1)
theorem x_isDue0 (hI : Inv n m v) (h : sIsT (v 462) p = 0) : fX10_isDue 448 p v = (1, 0) := by
  unfold fX10_isDue
  rw [needT hI, if_pos h]
  rfl
theorem x_whyNotJudge (hI : Inv n m v) (h : sIsT (v 462) p ≠ 0) : fX10_whyNotJudge 448 p v = (0, sReason (v 462) p.toNatClampNeg) := by
  unfold fX10_whyNotJudge
  rw [needT hI, if_neg h]
  exact Prod.ext rfl (c_reason hI.sr hI.wf hI.cp (isT_in hI.wf.1.1 h).2)
theorem x_whyNotJudge0 (hI : Inv n m v) (h : sIsT (v 462) p = 0) : fX10_whyNotJudge 448 p v = (1, 0) := by
  unfold fX10_whyNotJudge
  rw [needT hI, if_pos h]
  rfl
theorem w_whyNotJudge (hI : Inv n m v) : oL_whyNotJudge 448 p v ∧ fL_whyNotJudge 448 p v = if sIsT (v 462) p = 0 then -100102 else sReason (v 462) p.toNatClampNeg := by
  unfold oL_whyNotJudge fL_whyNotJudge
  by_cases h : sIsT (v 462) p = 0
  · rw [x_whyNotJudge0 hI h, if_pos h]
    exact ⟨⟨(t_whyNotJudge hI).1, fun _ => rfl⟩, rfl⟩
  · rw [x_whyNotJudge hI h, if_neg h]
    exact ⟨⟨(t_whyNotJudge hI).1, fun q => absurd rfl q⟩, rfl⟩
theorem sDue01 {t : Nat} : sDue A t = 0 ∨ sDue A t = 1 := by
  unfold sDue
  split
  · exact Or.inr rfl
  · split
    · exact Or.inl rfl
    · exact Or.inr rfl
theorem w_isDue (hI : Inv n m v) : oL_isDue 448 p v ∧ fL_isDue 448 p v = if sIsT (v 462) p = 0 then -100102 else sDue (v 462) p.toNatClampNeg := by
  unfold oL_isDue fL_isDue
  by_cases h : sIsT (v 462) p = 0
  · rw [x_isDue0 hI h, if_pos h]
    exact ⟨⟨(t_isDue hI).1, fun _ => rfl⟩, rfl⟩
  · rw [x_isDue hI h, if_neg h]
    refine ⟨⟨(t_isDue hI).1, fun q => absurd rfl q⟩, ?_⟩
    dsimp only
    rw [if_pos rfl]
    rcases sDue01 (A := v 462) (t := p.toNatClampNeg) with e | e
    · rw [e, if_pos rfl]
    · rw [e, if_neg (by decide)]
theorem x_lengthOf (hI : Inv n m v) (h : sIsY (v 462) p ≠ 0) : fX10_lengthOf 448 p v = (0, v 462 ((78 + 21 * p.toNatClampNeg + 0))) := by
  unfold fX10_lengthOf
  rw [needY hI, if_neg h]
  exact Prod.ext rfl ((hI.sr.2.2.2.2.1 _ (isY_in hI.wf.1.2.2.1 h).2).1.1)
theorem x_lengthOf0 (hI : Inv n m v) (h : sIsY (v 462) p = 0) : fX10_lengthOf 448 p v = (1, 0) := by
  unfold fX10_lengthOf
  rw [needY hI, if_pos h]
  rfl
theorem w_lengthOf (hI : Inv n m v) : oL_lengthOf 448 p v ∧ fL_lengthOf 448 p v = if sIsY (v 462) p = 0 then -100102 else v 462 ((78 + 21 * p.toNatClampNeg + 0)) := by
  unfold oL_lengthOf fL_lengthOf
  by_cases h : sIsY (v 462) p = 0
  · rw [x_lengthOf0 hI h, if_pos h]
    exact ⟨⟨(t_lengthOf hI).1, fun _ => rfl⟩, rfl⟩
  · rw [x_lengthOf hI h, if_neg h]
    exact ⟨⟨(t_lengthOf hI).1, fun q => absurd rfl q⟩, rfl⟩
theorem x_mannerOf (hI : Inv n m v) (h : sIsY (v 462) p ≠ 0) : fX10_mannerOf 448 p v = (0, v 462 ((78 + 21 * p.toNatClampNeg + 4))) := by
  unfold fX10_mannerOf
  rw [needY hI, if_neg h]
  exact Prod.ext rfl ((hI.sr.2.2.2.2.1 _ (isY_in hI.wf.1.2.2.1 h).2).1.2.2.2.2.1)
theorem x_mannerOf0 (hI : Inv n m v) (h : sIsY (v 462) p = 0) : fX10_mannerOf 448 p v = (1, 0) := by
  unfold fX10_mannerOf
  rw [needY hI, if_pos h]
  rfl
theorem x_recordOf (hI : Inv n m v) (h : sIsY (v 462) p ≠ 0) : fX10_recordOf 448 p v = (0, v 462 ((78 + 21 * p.toNatClampNeg + 5))) := by
  unfold fX10_recordOf
  rw [needY hI, if_neg h]
  exact Prod.ext rfl ((hI.sr.2.2.2.2.1 _ (isY_in hI.wf.1.2.2.1 h).2).1.2.2.2.2.2.2.1)
theorem x_recordOf0 (hI : Inv n m v) (h : sIsY (v 462) p = 0) : fX10_recordOf 448 p v = (1, 0) := by
  unfold fX10_recordOf
  rw [needY hI, if_pos h]
  rfl
theorem x_charted (hI : Inv n m v) (h : sIsY (v 462) p ≠ 0) : fX10_charted 448 p v = (0, v 462 ((78 + 21 * p.toNatClampNeg + 8))) := by
  unfold fX10_charted
  rw [needY hI, if_neg h]
  exact Prod.ext rfl ((hI.sr.2.2.2.2.1 _ (isY_in hI.wf.1.2.2.1 h).2).1.2.2.2.2.2.2.2)
theorem x_charted0 (hI : Inv n m v) (h : sIsY (v 462) p = 0) : fX10_charted 448 p v = (1, 0) := by
  unfold fX10_charted
  rw [needY hI, if_pos h]
  rfl
theorem x_widthOf (hI : Inv n m v) (h : sIsY (v 462) p ≠ 0) : fX10_widthOf 448 p v = (0, v 462 ((78 + 21 * p.toNatClampNeg + 2)) - v 462 ((78 + 21 * p.toNatClampNeg + 1))) := by
  unfold fX10_widthOf
  rw [needY hI, if_neg h]
  exact Prod.ext rfl ((congrArg (fun y : Int32 => y - v ((((rN (v 448 0)) + 2 + 3) + 31 + p.toNatClampNeg)) 1) (hI.sr.2.2.2.2.1 _ (isY_in hI.wf.1.2.2.1 h).2).1.2.2.1).trans (congrArg (fun y : Int32 => v 462 ((78 + 21 * p.toNatClampNeg + 2)) - y) (hI.sr.2.2.2.2.1 _ (isY_in hI.wf.1.2.2.1 h).2).1.2.1))
theorem x_widthOf0 (hI : Inv n m v) (h : sIsY (v 462) p = 0) : fX10_widthOf 448 p v = (1, 0) := by
  unfold fX10_widthOf
  rw [needY hI, if_pos h]
  rfl
theorem x_badOf (hI : Inv n m v) (h : sIsY (v 462) p ≠ 0) : fX10_badOf 448 p v = (0, fX11_ones (v 462 ((78 + 21 * p.toNatClampNeg + 6)))) := by
  have hk := (isY_in hI.wf.1.2.2.1 h).2
  have hY := hI.sr.2.2.2.2.1 _ hk
  have hW := hI.wf.2.2.2.1.1 _ hk
  have e7 : v ((((rN (v 448 0)) + 2 + 3) + 31 + p.toNatClampNeg)) 7 = v 462 ((78 + 21 * p.toNatClampNeg + 5)) := hY.1.2.2.2.2.2.2.1
  have h5 := hW.2.2.2.2.2.1
  have l5 := inn_lt h5
  unfold fX10_badOf
  rw [needY hI, if_neg h]
  refine Prod.ext rfl ?_
  show fX4_badOfLatest ((((rN (v 448 0)) + 2 + 3) + 31 + p.toNatClampNeg)) 10 v = _
  rw [c_bad (B := v 462 ((78 + 21 * p.toNatClampNeg + 6))) (by rw [e7]; exact h5) (by rw [e7]; exact hY.2.1) (by decide), e7, show min (10 : Int32).toNatClampNeg (v 462 ((78 + 21 * p.toNatClampNeg + 5))).toNatClampNeg = (v 462 ((78 + 21 * p.toNatClampNeg + 5))).toNatClampNeg from Nat.min_eq_right (by rw [show (10 : Int32).toNatClampNeg = 10 from rfl]; omega)]
  exact (rec_at h5 hW.2.2.2.2.2.2.1).2.1
theorem x_badOf0 (hI : Inv n m v) (h : sIsY (v 462) p = 0) : fX10_badOf 448 p v = (1, 0) := by
  unfold fX10_badOf
  rw [needY hI, if_pos h]
  rfl
theorem x_blockLength (hI : Inv n m v) (h : fX11_in p 0 (v 462 204 - 1) ≠ 0) : fX10_blockLength 448 p v = (0, v 462 (48 + 3 * p.toNatClampNeg)) := by
  unfold fX10_blockLength
  rw [needB hI, if_neg h]
  exact Prod.ext rfl ((hI.sr.2.2.2.1 _ (isB_in hI h).2).1)
theorem x_blockLength0 (hI : Inv n m v) (h : fX11_in p 0 (v 462 204 - 1) = 0) : fX10_blockLength 448 p v = (1, 0) := by
  unfold fX10_blockLength
  rw [needB hI, if_pos h]
  rfl
theorem x_blockError (hI : Inv n m v) (h : fX11_in p 0 (v 462 204 - 1) ≠ 0) : fX10_blockError 448 p v = (0, v 462 (48 + 3 * p.toNatClampNeg + 1)) := by
  unfold fX10_blockError
  rw [needB hI, if_neg h]
  exact Prod.ext rfl ((hI.sr.2.2.2.1 _ (isB_in hI h).2).2.1)
theorem x_blockError0 (hI : Inv n m v) (h : fX11_in p 0 (v 462 204 - 1) = 0) : fX10_blockError 448 p v = (1, 0) := by
  unfold fX10_blockError
  rw [needB hI, if_pos h]
  rfl
theorem w_blockError (hI : Inv n m v) : oL_blockError 448 p v ∧ fL_blockError 448 p v = if fX11_in p 0 (v 462 204 - 1) = 0 then -100102 else v 462 (48 + 3 * p.toNatClampNeg + 1) := by
  unfold oL_blockError fL_blockError
  by_cases h : fX11_in p 0 (v 462 204 - 1) = 0
  · rw [x_blockError0 hI h, if_pos h]
    exact ⟨⟨(t_blockError hI).1, fun _ => rfl⟩, rfl⟩
  · rw [x_blockError hI h, if_neg h]
    exact ⟨⟨(t_blockError hI).1, fun q => absurd rfl q⟩, rfl⟩
theorem x_signalsOf (hI : Inv n m v) (h : sIsY (v 462) p ≠ 0) : fX10_signalsOf 448 p v = (0, (fX11_signalsOf 461 p v).1) := by
  have hc : (fX10_signalsOf 448 p v).1 = 0 := by
    unfold fX10_signalsOf
    rw [needY hI, if_neg h]
    rfl
  exact Prod.ext hc ((t_signalsOf (p := p) hI).2.2.2 hc)
theorem x_wouldJudge0 (hI : Inv n m v) (h : sIsT (v 462) p = 0) : fX10_wouldJudge 448 p v = (1, 0) := by
  unfold fX10_wouldJudge
  rw [needT hI, if_pos h]
  rfl
theorem sRe_ne {t : Nat} (e : sReason A t = 0) : A 206 ≠ 0 := sReason_ne (t := t) (by rw [e]; decide)
theorem x_wouldJudge (hI : Inv n m v) (h : sIsT (v 462) p ≠ 0) : fX10_wouldJudge 448 p v = if sReason (v 462) p.toNatClampNeg = 0 then (0, sJudg (v 462) p.toNatClampNeg) else (3, 0) := by
  have hp := isT_in hI.wf.1.1 h
  unfold fX10_wouldJudge
  rw [needT hI, if_neg h]
  dsimp only
  rw [if_pos rfl, c_reason hI.sr hI.wf hI.cp hp.2]
  by_cases hr : sReason (v 462) p.toNatClampNeg = 0
  · rw [if_pos hr, if_pos hr, c_measured hI.sr hI.wf hI.cp (sRe_ne hr) hp.2, c_outcome hI.sr hI.wf hI.cp (sRe_ne hr) hp.2]
  · rw [if_neg hr, if_neg hr]
theorem w_wouldJudge (hI : Inv n m v) : oL_wouldJudge 448 p v ∧ fL_wouldJudge 448 p v = if sIsT (v 462) p = 0 then -100102 else (if sReason (v 462) p.toNatClampNeg = 0 then sJudg (v 462) p.toNatClampNeg else -100104) := by
  unfold oL_wouldJudge fL_wouldJudge
  by_cases h : sIsT (v 462) p = 0
  · rw [x_wouldJudge0 hI h, if_pos h]
    exact ⟨⟨(t_wouldJudge hI).1, fun _ q => absurd rfl q⟩, rfl⟩
  · rw [x_wouldJudge hI h, if_neg h]
    by_cases hr : sReason (v 462) p.toNatClampNeg = 0
    · rw [if_pos hr, if_pos hr]
      generalize sJudg (v 462) p.toNatClampNeg = s
      exact ⟨⟨(t_wouldJudge hI).1, fun q => absurd (show (0 : Nat) = 0 from rfl) q⟩, if_pos (show (0 : Nat) = 0 from rfl)⟩
    · rw [if_neg hr, if_neg hr]
      exact ⟨⟨(t_wouldJudge hI).1, fun _ _ => rfl⟩, rfl⟩
def gSr (A : Ar) (p l : Int32) : Nat × Int32 := if fX11_isMaterial p = 0 then (1, 0) else (if fX11_in l 0 15000 = 0 then (1, 0) else (0, sStretch A p l))
theorem x_stretchOf (hI : Inv n m v) : fX10_stretchOf 448 p p2 v = gSr (v 462) p p2 := by
  unfold fX10_stretchOf gSr
  rw [mat_eq, in_rng]
  by_cases h1 : fX11_isMaterial p = 0
  · rw [if_pos h1, if_pos h1]
  rw [if_neg h1, if_neg h1]
  by_cases h2 : fX11_in p2 0 15000 = 0
  · rw [if_pos h2, if_pos h2]
  rw [if_neg h2, if_neg h2, c_stretch hI.sr.1.2.2.1 (mat_in h1)]
theorem w_stretchOf0 (hI : Inv n m v) (h : fX11_isMaterial p = 0) : oL_stretchOf 448 p p2 v ∧ fL_stretchOf 448 p p2 v = -100102 := by
  unfold oL_stretchOf fL_stretchOf
  rw [x_stretchOf hI]
  unfold gSr
  rw [if_pos h]
  exact ⟨⟨(t_stretchOf hI).1, fun _ => rfl⟩, rfl⟩
def gTa (A : Ar) (p : Int32) : Nat × Int32 := if ¬ 0 ≤ p then (1, 0) else (if ¬ p < A 206 then (3, 0) else (0, fX11_typeOf (A (183 + p.toNatClampNeg))))
def gWd (A : Ar) (p : Int32) : Nat × Int32 := if ¬ 0 ≤ p then (1, 0) else (if ¬ p < A 206 then (3, 0) else (0, if A (183 + p.toNatClampNeg) - A (183 + p.toNatClampNeg) / 2 * 2 = 1 then 1 else 0))
theorem x_typeAt (hI : Inv n m v) : fX10_typeAt 448 p v = gTa (v 462) p := by
  have e3 : v (((rN (v 448 0)) + 2 + 4)) 3 = v 462 206 := hI.sr.2.2.2.2.2.1.1
  unfold fX10_typeAt gTa
  rw [e3]
  by_cases h1 : ¬ 0 ≤ p
  · rw [np_1 h1, if_pos h1]; rfl
  rw [if_neg h1]
  have h1 := Decidable.not_not.mp h1
  by_cases h2 : ¬ p < v 462 206
  · rw [np_3 h1 h2, if_pos h2]; rfl
  rw [if_neg h2]
  have h2 := Decidable.not_not.mp h2
  have hp := lt_in h1 h2 hI.wf.1.2.2.2.1
  rw [np_0 h1 h2, if_pos rfl]
  unfold fX5_typeOfPiece
  rw [hI.cp.1.1, show rN 20 = 20 from rfl, entry_at hp.1 (by decide)]
  exact Prod.ext rfl (hI.sr.2.2.2.2.2.1.2 _ hp.2).1
theorem x_wasDoubted (hI : Inv n m v) : fX10_wasDoubted 448 p v = gWd (v 462) p := by
  have e3 : v (((rN (v 448 0)) + 2 + 4)) 3 = v 462 206 := hI.sr.2.2.2.2.2.1.1
  unfold fX10_wasDoubted gWd
  rw [e3]
  by_cases h1 : ¬ 0 ≤ p
  · rw [np_1 h1, if_pos h1]; rfl
  rw [if_neg h1]
  have h1 := Decidable.not_not.mp h1
  by_cases h2 : ¬ p < v 462 206
  · rw [np_3 h1 h2, if_pos h2]; rfl
  rw [if_neg h2]
  have h2 := Decidable.not_not.mp h2
  have hp := lt_in h1 h2 hI.wf.1.2.2.2.1
  rw [np_0 h1 h2, if_pos rfl]
  unfold fX5_doubtedPiece
  rw [hI.cp.1.2.2, show rN 20 = 20 from rfl, entry_at hp.1 (by decide), (hI.sr.2.2.2.2.2.1.2 _ hp.2).2.2]
/-- what a wrapper tells of a code and a value -/
def cw (r : Nat × Int32) : Int32 := if r.1 = 0 then r.2 else (if r.1 = 1 then -100102 else -100104)
theorem cw_eq {r : Nat × Int32} : (if r.1 = 0 then r.2 else (if r.1 = 1 then -100102 else -100104) : Int32) = cw r := rfl
theorem gTa_c : ¬ (gTa A p).1 = 0 → ¬ (gTa A p).1 = 1 → (gTa A p).1 = 3 := by
  unfold gTa
  split
  · exact fun _ q => absurd rfl q
  · split
    · exact fun _ _ => rfl
    · exact fun q => absurd rfl q
theorem gWd_c : ¬ (gWd A p).1 = 0 → ¬ (gWd A p).1 = 1 → (gWd A p).1 = 3 := by
  unfold gWd
  split
  · exact fun _ q => absurd rfl q
  · split
    · exact fun _ _ => rfl
    · exact fun q => absurd rfl q
theorem gRd_c : ¬ (gRd A p p2 p3).1 = 0 → ¬ (gRd A p p2 p3).1 = 1 → (gRd A p p2 p3).1 = 3 := by
  unfold gRd
  split
  · exact fun _ q => absurd rfl q
  · split
    · exact fun _ q => absurd rfl q
    · split
      · exact fun _ q => absurd rfl q
      · split
        · exact fun _ _ => rfl
        · exact fun q => absurd rfl q
theorem gSt_c : ¬ (gSt A p).1 = 0 → ¬ (gSt A p).1 = 1 → (gSt A p).1 = 3 := by
  unfold gSt
  split
  · exact fun _ q => absurd rfl q
  · split
    · exact fun _ _ => rfl
    · exact fun q => absurd rfl q
theorem w_typeAt (hI : Inv n m v) : oL_typeAt 448 p v ∧ fL_typeAt 448 p v = cw (gTa (v 462) p) := by
  unfold oL_typeAt fL_typeAt
  rw [x_typeAt hI]
  exact ⟨⟨(t_typeAt hI).1, gTa_c⟩, cw_eq⟩
theorem w_wasDoubted (hI : Inv n m v) : oL_wasDoubted 448 p v ∧ fL_wasDoubted 448 p v = cw (gWd (v 462) p) := by
  unfold oL_wasDoubted fL_wasDoubted
  rw [x_wasDoubted hI]
  refine ⟨⟨(t_wasDoubted hI).1, gWd_c⟩, ?_⟩
  unfold gWd cw
  split
  · rfl
  · split
    · rfl
    · split <;> rfl
theorem x_readingFor (hI : Inv n m v) : fX10_readingFor 448 p p2 p3 v = gRd (v 462) p p2 p3 := by
  unfold fX10_readingFor
  rw [needRd hI]
  by_cases h : (gRd (v 462) p p2 p3).1 = 0
  · rw [if_pos h]; exact Prod.ext h.symm rfl
  · rw [if_neg h]
    refine Prod.ext rfl ?_
    revert h
    unfold gRd
    split
    · exact fun _ => rfl
    · split
      · exact fun _ => rfl
      · split
        · exact fun _ => rfl
        · split
          · exact fun _ => rfl
          · exact fun q => absurd rfl q
theorem w_readingFor (hI : Inv n m v) : oL_readingFor 448 p p2 p3 v ∧ fL_readingFor 448 p p2 p3 v = cw (gRd (v 462) p p2 p3) := by
  unfold oL_readingFor fL_readingFor
  rw [x_readingFor hI]
  exact ⟨⟨(t_readingFor hI).1, gRd_c⟩, cw_eq⟩
theorem gRd_0 (h : (gRd A p p2 p3).1 = 0) : sIsT A p ≠ 0 ∧ fX11_isMaterial p2 ≠ 0 ∧ fX11_in p3 0 15000 ≠ 0 ∧ sReading A p.toNatClampNeg p2 p3 ≠ -1 ∧ gRd A p p2 p3 = (0, sReading A p.toNatClampNeg p2 p3) := by
  revert h
  unfold gRd
  by_cases h1 : sIsT A p = 0
  · rw [if_pos h1]; exact fun q => absurd (show (1 : Nat) = 0 from q) (by decide)
  rw [if_neg h1]
  by_cases h2 : fX11_isMaterial p2 = 0
  · rw [if_pos h2]; exact fun q => absurd (show (1 : Nat) = 0 from q) (by decide)
  rw [if_neg h2]
  by_cases h3 : fX11_in p3 0 15000 = 0
  · rw [if_pos h3]; exact fun q => absurd (show (1 : Nat) = 0 from q) (by decide)
  rw [if_neg h3]
  by_cases h4 : sReading A p.toNatClampNeg p2 p3 = -1
  · rw [if_pos h4]; exact fun q => absurd (show (3 : Nat) = 0 from q) (by decide)
  rw [if_neg h4]
  exact fun _ => ⟨h1, h2, h3, h4, rfl⟩
theorem tr_0 (hI : Inv n m v) (h : (gRd (v 462) p p2 p3).1 = 0) : fX11_toldReading 461 p p2 p3 v = (sReading (v 462) p.toNatClampNeg p2 p3, u2 v 461 8 0) := by
  have e := needRd (p := p) (p2 := p2) (p3 := p3) hI
  rcases rdg (p := p) (p2 := p2) (p3 := p3) hI with ⟨e1, e2⟩ | ⟨e1, e2⟩ | ⟨h1, e1, e2⟩
  · rw [← e, e1] at h; exact absurd (show (1 : Nat) = 0 from h) (by decide)
  · rw [← e, e1] at h; exact absurd (show (3 : Nat) = 0 from h) (by decide)
  · exact e2
theorem x_readingByLooking1 (hI : Inv n m v) (h : (gRd (v 462) p p2 p3).1 ≠ 0) : fX10_readingByLooking 448 p p2 p3 v = ((gRd (v 462) p p2 p3).1, 0) := by
  unfold fX10_readingByLooking
  rw [needRd hI, if_neg h]
theorem x_readingByLooking (hI : Inv n m v) (h : (gRd (v 462) p p2 p3).1 = 0) : fX10_readingByLooking 448 p p2 p3 v = (0, sReading (v 462) p.toNatClampNeg p2 p3) := by
  have h0 := gRd_0 h
  have hc : (fX10_readingByLooking 448 p p2 p3 v).1 = 0 := by
    unfold fX10_readingByLooking
    rw [needRd hI, if_pos h, needT hI, if_neg h0.1]
    rfl
  refine Prod.ext hc (((t_readingByLooking (p := p) (p2 := p2) (p3 := p3) hI).2.2.2 hc).trans ?_)
  unfold fX11_readingByLooking
  rw [tr_0 hI h]
theorem w_readingByLooking (hI : Inv n m v) : oL_readingByLooking 448 p p2 p3 v ∧ ((gRd (v 462) p p2 p3).1 ≠ 0 → fL_readingByLooking 448 p p2 p3 v = cw (gRd (v 462) p p2 p3)) ∧ ((gRd (v 462) p p2 p3).1 = 0 → fL_readingByLooking 448 p p2 p3 v = sReading (v 462) p.toNatClampNeg p2 p3) := by
  unfold oL_readingByLooking fL_readingByLooking
  by_cases h : (gRd (v 462) p p2 p3).1 = 0
  · rw [x_readingByLooking hI h]
    exact ⟨⟨(t_readingByLooking hI).1, fun q => absurd (show (0 : Nat) = 0 from rfl) q⟩, fun q => absurd h q, fun _ => if_pos (show (0 : Nat) = 0 from rfl)⟩
  · rw [x_readingByLooking1 hI h]
    refine ⟨⟨(t_readingByLooking hI).1, gRd_c⟩, fun _ => ?_, fun q => absurd q h⟩
    unfold cw
    rw [if_neg h, if_neg h]
theorem x_markFor1 (hI : Inv n m v) (h : (gRd (v 462) p p2 p3).1 ≠ 0) : fX10_markFor 448 p p2 p3 v = ((gRd (v 462) p p2 p3).1, 0) := by
  unfold fX10_markFor
  rw [needRd hI, if_neg h]
theorem x_markFor (hI : Inv n m v) (h : (gRd (v 462) p p2 p3).1 = 0) : fX10_markFor 448 p p2 p3 v = (0, sReading (v 462) p.toNatClampNeg p2 p3 / (if v 462 (8 * p.toNatClampNeg) = 3 then 50 else 100)) := by
  have h0 := gRd_0 h
  have hc : (fX10_markFor 448 p p2 p3 v).1 = 0 := by
    unfold fX10_markFor
    rw [needRd hI, if_pos h, needT hI, if_neg h0.1]
    rfl
  refine Prod.ext hc (((t_markFor (p := p) (p2 := p2) (p3 := p3) hI).2.2.2 hc).trans ?_)
  unfold fX11_markFor
  rw [tr_0 hI h]
  dsimp only
  rw [if_pos (show u2 v 461 8 0 461 8 ≤ 0 by rw [u2_s]; decide)]
  have hp := isT_in hI.wf.1.1 h0.1
  unfold fX11_apart
  rw [m_tool hp.1 (by decide), k462, show (0 : Int32).toNatClampNeg = 0 from rfl, Nat.add_zero]
theorem w_markFor (hI : Inv n m v) : oL_markFor 448 p p2 p3 v ∧ ((gRd (v 462) p p2 p3).1 ≠ 0 → fL_markFor 448 p p2 p3 v = cw (gRd (v 462) p p2 p3)) ∧ ((gRd (v 462) p p2 p3).1 = 0 → fL_markFor 448 p p2 p3 v = sReading (v 462) p.toNatClampNeg p2 p3 / (if v 462 (8 * p.toNatClampNeg) = 3 then 50 else 100)) := by
  unfold oL_markFor fL_markFor
  by_cases h : (gRd (v 462) p p2 p3).1 = 0
  · rw [x_markFor hI h]
    exact ⟨⟨(t_markFor hI).1, fun q => absurd (show (0 : Nat) = 0 from rfl) q⟩, fun q => absurd h q, fun _ => if_pos (show (0 : Nat) = 0 from rfl)⟩
  · rw [x_markFor1 hI h]
    refine ⟨⟨(t_markFor hI).1, gRd_c⟩, fun _ => ?_, fun q => absurd q h⟩
    unfold cw
    rw [if_neg h, if_neg h]
theorem x_lineFor1 (hI : Inv n m v) (h : (gRd (v 462) p p2 p3).1 ≠ 0) : fX10_lineFor 448 p p2 p3 v = ((gRd (v 462) p p2 p3).1, 0) := by
  unfold fX10_lineFor
  rw [needRd hI, if_neg h]
theorem x_lineFor (hI : Inv n m v) (h : (gRd (v 462) p p2 p3).1 = 0) : fX10_lineFor 448 p p2 p3 v = (0, (sReading (v 462) p.toNatClampNeg p2 p3 - sReading (v 462) p.toNatClampNeg p2 p3 / (if v 462 (8 * p.toNatClampNeg) = 3 then 50 else 100) * (if v 462 (8 * p.toNatClampNeg) = 3 then 50 else 100)) / sStep (v 462 (8 * p.toNatClampNeg))) := by
  have h0 := gRd_0 h
  have hc : (fX10_lineFor 448 p p2 p3 v).1 = 0 := by
    unfold fX10_lineFor
    rw [needRd hI, if_pos h, needT hI, if_neg h0.1]
    rfl
  refine Prod.ext hc (((t_lineFor (p := p) (p2 := p2) (p3 := p3) hI).2.2.2 hc).trans ?_)
  unfold fX11_lineFor
  rw [tr_0 hI h]
  dsimp only
  rw [if_pos (show u2 v 461 8 0 461 8 ≤ 0 by rw [u2_s]; decide)]
  have hp := isT_in hI.wf.1.1 h0.1
  unfold fX11_apart
  rw [m_tool hp.1 (by decide), m_step hp.1, k462, show (0 : Int32).toNatClampNeg = 0 from rfl, Nat.add_zero]
theorem w_lineFor (hI : Inv n m v) : oL_lineFor 448 p p2 p3 v ∧ ((gRd (v 462) p p2 p3).1 ≠ 0 → fL_lineFor 448 p p2 p3 v = cw (gRd (v 462) p p2 p3)) ∧ ((gRd (v 462) p p2 p3).1 = 0 → fL_lineFor 448 p p2 p3 v = (sReading (v 462) p.toNatClampNeg p2 p3 - sReading (v 462) p.toNatClampNeg p2 p3 / (if v 462 (8 * p.toNatClampNeg) = 3 then 50 else 100) * (if v 462 (8 * p.toNatClampNeg) = 3 then 50 else 100)) / sStep (v 462 (8 * p.toNatClampNeg))) := by
  unfold oL_lineFor fL_lineFor
  by_cases h : (gRd (v 462) p p2 p3).1 = 0
  · rw [x_lineFor hI h]
    exact ⟨⟨(t_lineFor hI).1, fun q => absurd (show (0 : Nat) = 0 from rfl) q⟩, fun q => absurd h q, fun _ => if_pos (show (0 : Nat) = 0 from rfl)⟩
  · rw [x_lineFor1 hI h]
    refine ⟨⟨(t_lineFor hI).1, gRd_c⟩, fun _ => ?_, fun q => absurd q h⟩
    unfold cw
    rw [if_neg h, if_neg h]
theorem x_offBy1 (hI : Inv n m v) (h : (gRd (v 462) p p2 p3).1 ≠ 0) : fX10_offBy 448 p p2 p3 v = ((gRd (v 462) p p2 p3).1, 0) := by
  unfold fX10_offBy
  rw [needRd hI, if_neg h]
theorem x_offBy (hI : Inv n m v) (h : (gRd (v 462) p p2 p3).1 = 0) : fX10_offBy 448 p p2 p3 v = (0, fX11_size (sReading (v 462) p.toNatClampNeg p2 p3 - v 462 (8 * p.toNatClampNeg + 3) - p3)) := by
  have h0 := gRd_0 h
  have hc : (fX10_offBy 448 p p2 p3 v).1 = 0 := by
    unfold fX10_offBy
    rw [needRd hI, if_pos h, needT hI, if_neg h0.1]
    rfl
  refine Prod.ext hc (((t_offBy (p := p) (p2 := p2) (p3 := p3) hI).2.2.2 hc).trans ?_)
  unfold fX11_offBy
  rw [tr_0 hI h]
  dsimp only
  rw [if_pos (show u2 v 461 8 0 461 8 ≤ 0 by rw [u2_s]; decide)]
  have hp := isT_in hI.wf.1.1 h0.1
  rw [m_tool hp.1 (by decide), k462]
  rfl
theorem w_offBy (hI : Inv n m v) : oL_offBy 448 p p2 p3 v ∧ ((gRd (v 462) p p2 p3).1 ≠ 0 → fL_offBy 448 p p2 p3 v = cw (gRd (v 462) p p2 p3)) ∧ ((gRd (v 462) p p2 p3).1 = 0 → fL_offBy 448 p p2 p3 v = fX11_size (sReading (v 462) p.toNatClampNeg p2 p3 - v 462 (8 * p.toNatClampNeg + 3) - p3)) := by
  unfold oL_offBy fL_offBy
  by_cases h : (gRd (v 462) p p2 p3).1 = 0
  · rw [x_offBy hI h]
    exact ⟨⟨(t_offBy hI).1, fun q => absurd (show (0 : Nat) = 0 from rfl) q⟩, fun q => absurd h q, fun _ => if_pos (show (0 : Nat) = 0 from rfl)⟩
  · rw [x_offBy1 hI h]
    refine ⟨⟨(t_offBy hI).1, gRd_c⟩, fun _ => ?_, fun q => absurd q h⟩
    unfold cw
    rw [if_neg h, if_neg h]
theorem ts_0 (hI : Inv n m v) (h : (gSt (v 462) p).1 = 0) : fX11_toldStack 461 p v = (sStack (v 462) p, u2 v 461 8 0) := by
  have e := needSt (p := p) hI
  rcases stk (p := p) hI with ⟨e1, e2⟩ | ⟨e1, e2⟩ | ⟨e1, e2⟩
  · rw [← e, e1] at h; exact absurd (show (1 : Nat) = 0 from h) (by decide)
  · rw [← e, e1] at h; exact absurd (show (3 : Nat) = 0 from h) (by decide)
  · exact e2
theorem x_stackFor1 (hI : Inv n m v) (h : (gSt (v 462) p).1 ≠ 0) : fX10_stackFor 448 p v = ((gSt (v 462) p).1, 0) := by
  unfold fX10_stackFor
  rw [needSt hI, if_neg h]
theorem x_stackFor (hI : Inv n m v) (h : (gSt (v 462) p).1 = 0) : fX10_stackFor 448 p v = (0, sStack (v 462) p) := by
  have hc : (fX10_stackFor 448 p v).1 = 0 := by
    unfold fX10_stackFor
    rw [needSt hI, if_pos h]
  refine Prod.ext hc (((t_stackFor (p := p) hI).2.2.2 hc).trans ?_)
  unfold fX11_stackFor
  rw [ts_0 hI h]
theorem w_stackFor (hI : Inv n m v) : oL_stackFor 448 p v ∧ ((gSt (v 462) p).1 ≠ 0 → fL_stackFor 448 p v = cw (gSt (v 462) p)) ∧ ((gSt (v 462) p).1 = 0 → fL_stackFor 448 p v = sStack (v 462) p) := by
  unfold oL_stackFor fL_stackFor
  by_cases h : (gSt (v 462) p).1 = 0
  · rw [x_stackFor hI h]
    exact ⟨⟨(t_stackFor hI).1, fun q => absurd (show (0 : Nat) = 0 from rfl) q⟩, fun q => absurd h q, fun _ => if_pos (show (0 : Nat) = 0 from rfl)⟩
  · rw [x_stackFor1 hI h]
    refine ⟨⟨(t_stackFor hI).1, gSt_c⟩, fun _ => ?_, fun q => absurd q h⟩
    unfold cw
    rw [if_neg h, if_neg h]
theorem x_trueLength1 (hI : Inv n m v) (h : (gSt (v 462) p).1 ≠ 0) : fX10_trueLength 448 p v = ((gSt (v 462) p).1, 0) := by
  unfold fX10_trueLength
  rw [needSt hI, if_neg h]
theorem x_trueLength (hI : Inv n m v) (h : (gSt (v 462) p).1 = 0) : fX10_trueLength 448 p v = (0, sTruly (v 462) (sStack (v 462) p)) := by
  have hc : (fX10_trueLength 448 p v).1 = 0 := by
    unfold fX10_trueLength
    rw [needSt hI, if_pos h]
  refine Prod.ext hc (((t_trueLength (p := p) hI).2.2.2 hc).trans ?_)
  unfold fX11_trueLength
  rw [ts_0 hI h]
  dsimp only
  rw [if_pos (show u2 v 461 8 0 461 8 ≤ 0 by rw [u2_s]; decide), m_truly (by rw [k462]; exact hI.wf.1.2.1), k462]
theorem w_trueLength (hI : Inv n m v) : oL_trueLength 448 p v ∧ ((gSt (v 462) p).1 ≠ 0 → fL_trueLength 448 p v = cw (gSt (v 462) p)) ∧ ((gSt (v 462) p).1 = 0 → fL_trueLength 448 p v = sTruly (v 462) (sStack (v 462) p)) := by
  unfold oL_trueLength fL_trueLength
  by_cases h : (gSt (v 462) p).1 = 0
  · rw [x_trueLength hI h]
    exact ⟨⟨(t_trueLength hI).1, fun q => absurd (show (0 : Nat) = 0 from rfl) q⟩, fun q => absurd h q, fun _ => if_pos (show (0 : Nat) = 0 from rfl)⟩
  · rw [x_trueLength1 hI h]
    refine ⟨⟨(t_trueLength hI).1, gSt_c⟩, fun _ => ?_, fun q => absurd q h⟩
    unfold cw
    rw [if_neg h, if_neg h]
theorem x_fewestByTrying1 (hI : Inv n m v) (h : (gSt (v 462) p).1 ≠ 0) : fX10_fewestByTrying 448 p v = ((gSt (v 462) p).1, 0) := by
  unfold fX10_fewestByTrying
  rw [needSt hI, if_neg h]
theorem x_fewestByTrying (hI : Inv n m v) (h : (gSt (v 462) p).1 = 0) : fX10_fewestByTrying 448 p v = (0, fX11_ones (sStack (v 462) p)) := by
  have hc : (fX10_fewestByTrying 448 p v).1 = 0 := by
    unfold fX10_fewestByTrying
    rw [needSt hI, if_pos h]
  refine Prod.ext hc (((t_fewestByTrying (p := p) hI).2.2.2 hc).trans ?_)
  unfold fX11_fewestByTrying
  rw [ts_0 hI h]
theorem w_fewestByTrying (hI : Inv n m v) : oL_fewestByTrying 448 p v ∧ ((gSt (v 462) p).1 ≠ 0 → fL_fewestByTrying 448 p v = cw (gSt (v 462) p)) ∧ ((gSt (v 462) p).1 = 0 → fL_fewestByTrying 448 p v = fX11_ones (sStack (v 462) p)) := by
  unfold oL_fewestByTrying fL_fewestByTrying
  by_cases h : (gSt (v 462) p).1 = 0
  · rw [x_fewestByTrying hI h]
    exact ⟨⟨(t_fewestByTrying hI).1, fun q => absurd (show (0 : Nat) = 0 from rfl) q⟩, fun q => absurd h q, fun _ => if_pos (show (0 : Nat) = 0 from rfl)⟩
  · rw [x_fewestByTrying1 hI h]
    refine ⟨⟨(t_fewestByTrying hI).1, gSt_c⟩, fun _ => ?_, fun q => absurd q h⟩
    unfold cw
    rw [if_neg h, if_neg h]
def gGu (A : Ar) (p : Int32) : Nat × Int32 := if sIsY A p = 0 then (1, 0) else (if A ((78 + 21 * p.toNatClampNeg + 4)) = 2 then (3, 0) else (0, (if A ((78 + 21 * p.toNatClampNeg + 4)) = 0 then 10 else 5) - sGood (A ((78 + 21 * p.toNatClampNeg + 6))) (A ((78 + 21 * p.toNatClampNeg + 5)))))
theorem gGu_c : ¬ (gGu A p).1 = 0 → ¬ (gGu A p).1 = 1 → (gGu A p).1 = 3 := by
  unfold gGu
  split
  · exact fun _ q => absurd rfl q
  · split
    · exact fun _ _ => rfl
    · exact fun q => absurd rfl q
theorem x_goodUntilChange (hI : Inv n m v) : fX10_goodUntilChange 448 p v = gGu (v 462) p := by
  unfold fX10_goodUntilChange gGu
  rw [needY hI]
  by_cases h : sIsY (v 462) p = 0
  · rw [if_pos h, if_pos h]; rfl
  have hk := isY_in hI.wf.1.2.2.1 h
  have hY := hI.sr.2.2.2.2.1 _ hk.2
  have h5 := (hI.wf.2.2.2.1.1 _ hk.2).2.2.2.2.2.1
  have e4 : v ((((rN (v 448 0)) + 2 + 3) + 31 + p.toNatClampNeg)) 4 = v 462 ((78 + 21 * p.toNatClampNeg + 4)) := hY.1.2.2.2.2.1
  have e7 : v ((((rN (v 448 0)) + 2 + 3) + 31 + p.toNatClampNeg)) 7 = v 462 ((78 + 21 * p.toNatClampNeg + 5)) := hY.1.2.2.2.2.2.2.1
  have eg : fX4_goodAtEnd ((((rN (v 448 0)) + 2 + 3) + 31 + p.toNatClampNeg)) v = sGood (v 462 ((78 + 21 * p.toNatClampNeg + 6))) (v 462 ((78 + 21 * p.toNatClampNeg + 5))) := by
    have := c_good (v := v) (r := (((rN (v 448 0)) + 2 + 3) + 31 + p.toNatClampNeg)) (B := v 462 ((78 + 21 * p.toNatClampNeg + 6))) (by rw [e7]; exact h5) (by rw [e7]; exact hY.2.1)
    rw [e7] at this
    exact this
  rw [if_neg h, if_neg h]
  dsimp only
  rw [if_pos rfl, e4, eg]
theorem w_goodUntilChange (hI : Inv n m v) : oL_goodUntilChange 448 p v ∧ fL_goodUntilChange 448 p v = cw (gGu (v 462) p) := by
  unfold oL_goodUntilChange fL_goodUntilChange
  rw [x_goodUntilChange hI]
  exact ⟨⟨(t_goodUntilChange hI).1, gGu_c⟩, cw_eq⟩
def gCa (A : Ar) (p p2 : Int32) : Nat × Int32 := if sIsY A p = 0 then (1, 0) else (if ¬ 0 ≤ p2 then (1, 0) else (if ¬ p2 < A ((78 + 21 * p.toNatClampNeg + 8)) then (3, 0) else (0, A ((78 + 21 * p.toNatClampNeg + (9 + p2.toNatClampNeg))))))
theorem gCa_c : ¬ (gCa A p p2).1 = 0 → ¬ (gCa A p p2).1 = 1 → (gCa A p p2).1 = 3 := by
  unfold gCa
  split
  · exact fun _ q => absurd rfl q
  · split
    · exact fun _ q => absurd rfl q
    · split
      · exact fun _ _ => rfl
      · exact fun q => absurd rfl q
theorem x_chartedAt (hI : Inv n m v) : fX10_chartedAt 448 p p2 v = gCa (v 462) p p2 := by
  unfold fX10_chartedAt gCa
  rw [needY hI]
  by_cases h : sIsY (v 462) p = 0
  · rw [if_pos h, if_pos h]; rfl
  have hk := isY_in hI.wf.1.2.2.1 h
  have hY := hI.sr.2.2.2.2.1 _ hk.2
  have e9 : v ((((rN (v 448 0)) + 2 + 3) + 31 + p.toNatClampNeg)) 9 = v 462 ((78 + 21 * p.toNatClampNeg + 8)) := hY.1.2.2.2.2.2.2.2
  rw [if_neg h, if_neg h]
  dsimp only
  rw [if_pos rfl, e9]
  by_cases h1 : ¬ 0 ≤ p2
  · rw [np_1 h1, if_pos h1]; rfl
  rw [if_neg h1]
  have h1 := Decidable.not_not.mp h1
  by_cases h2 : ¬ p2 < v 462 ((78 + 21 * p.toNatClampNeg + 8))
  · rw [np_3 h1 h2, if_pos h2]; rfl
  rw [if_neg h2]
  have h2 := Decidable.not_not.mp h2
  have hp := lt_in h1 h2 (hI.wf.2.2.2.1.1 _ hk.2).2.2.2.2.2.2.2.2.1
  rw [np_0 h1 h2, if_pos rfl, entry_at hp.1 (by decide)]
  exact Prod.ext rfl (hY.2.2 _ hp.2)
theorem w_chartedAt (hI : Inv n m v) : oL_chartedAt 448 p p2 v ∧ fL_chartedAt 448 p p2 v = cw (gCa (v 462) p p2) := by
  unfold oL_chartedAt fL_chartedAt
  rw [x_chartedAt hI]
  exact ⟨⟨(t_chartedAt hI).1, gCa_c⟩, cw_eq⟩
theorem x_tools (hI : Inv n m v) : fX10_tools 448 v = v 462 203 := hI.sr.1.1
theorem x_warmth (hI : Inv n m v) : fX10_warmth 448 v = v 462 208 := hI.sr.1.2.2.1
theorem x_types (hI : Inv n m v) : fX10_types 448 v = v 462 205 := hI.sr.2.1.1
theorem x_onBench (hI : Inv n m v) : fX10_onBench 448 v = v 462 206 := hI.sr.2.2.2.2.2.1.1
theorem x_toFile (hI : Inv n m v) : fX10_toFile 448 v = v 462 207 := hI.sr.2.2.2.2.2.2.1
theorem x_days (hI : Inv n m v) : fX10_days 448 v = v 462 210 := hI.sr.1.2.2.2
theorem x_brought (hI : Inv n m v) : fX10_brought 448 v = v 462 211 := hI.sr.2.1.2.2.1
theorem x_good (hI : Inv n m v) : fX10_good 448 v = v 462 212 := hI.sr.2.1.2.2.2.1
theorem x_thrownAway (hI : Inv n m v) : fX10_thrownAway 448 v = v 462 213 := hI.sr.2.1.2.2.2.2.1
theorem x_unseen (hI : Inv n m v) : fX10_unseen 448 v = v 462 214 := hI.sr.2.1.2.2.2.2.2.1
theorem x_doubts (hI : Inv n m v) : fX10_doubts 448 v = v 462 215 := hI.sr.2.1.2.2.2.2.2.2.1
theorem x_blocks (hI : Inv n m v) : fX10_blocks 448 v = v 462 204 := hI.sr.1.2.1
theorem x_broughtByPlaces (hI : Inv n m v) : fX10_broughtByPlaces 448 v = v 462 211 := by
  have ha : v 462 211 = v 462 206 + v 462 207 + v 462 212 + v 462 213 + v 462 214 := hI.2.2.2.2.2.1.2.2.1
  have h := hI.sr
  unfold fX10_broughtByPlaces
  rw [ha, h.2.2.2.2.2.1.1, h.2.2.2.2.2.2.1, h.2.1.2.2.2.1, h.2.1.2.2.2.2.1, h.2.1.2.2.2.2.2.1]
theorem x_states (hI : Inv n m v) : fX10_states 448 v = v 461 5 := hI.2.2.1.1
theorem x_whyNotPass (hI : Inv n m v) : fX10_whyNotPass 448 v = sReasonP (v 462) := c_reasonP hI.sr hI.wf hI.cp
end T50
