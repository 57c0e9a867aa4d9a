/-! THE PLAIN PART 4c: the class's first piece: reasons, measuring, judging told. -/
theorem szl {x y s : Int32} : fX11_less (fX11_size x) (fX11_size y) < s ↔ fX11_size x < s ∨ fX11_size y < s := by
  unfold fX11_less
  simp only [Int32.lt_iff_toInt_lt]
  split
  · rename_i h
    have := i_le h
    omega
  · rename_i h
    have := i_nle h
    omega
theorem ab_sz {x : Int32} : (if 0 ≤ x then x else 0 - x : Int32) = fX11_size x := by
  unfold fX11_size
  split
  · rfl
  · exact Int32.zero_sub _
section C33
variable {v : vSt} {b : Nat} {A : Ar} {p k d m : Int32}
theorem c_hasType (hr : v (b + 2) 1 = A 205) (h : inn (A 205) 6) : fX0_hasType (b + 2) k v = sIsY A k := by
  unfold fX0_hasType
  rw [hr]
  have hi := isY_iff (A := A) (k := k) h
  have h01 : sIsY A k = 0 ∨ sIsY A k = 1 := in01
  have := h.2
  have z : (0 : Int32).toInt = 0 := rfl
  have z6 : (5 : Int32).toInt = 5 := rfl
  by_cases e : sIsY A k = 0
  · rw [e]
    have e2 := mt hi.mpr (by rw [e]; simp)
    split
    · rfl
    · rename_i a1
      rw [Int32.lt_iff_toInt_lt] at a1
      rw [if_pos (by rw [Int32.le_iff_toInt_le]; omega)]
  · have e2 := hi.mp e
    rw [h01.resolve_left e, if_neg (by rw [Int32.lt_iff_toInt_lt]; omega), if_neg (by rw [Int32.le_iff_toInt_le]; omega), if_neg (by rw [Int32.le_iff_toInt_le]; omega)]
theorem entry_at {n : Nat} {f : Ar} {x : Int32} (h : inn x n) (hn : n < 2 ^ 31) : fX10_entry n f x = f x.toNatClampNeg := by
  unfold fX10_entry
  rw [if_neg (by rw [Int32.lt_iff_toInt_lt, show (0 : Int32).toInt = 0 from rfl]; have := h.1; omega), if_neg (by rw [Int32.le_iff_toInt_le, of_ti hn]; have := h.2; omega)]
/-- the first piece on the bench, as the class reads it -/
theorem SR.first (h : SR v b A) (hw : WF A) (hc : CP v b) (h0 : A 206 ≠ 0) : fX5_typeOfPiece ((b + 2 + 4)) 0 v = (fX11_typeOf (A 183)) ∧ fX5_firstDeviation ((b + 2 + 4)) v = fX11_deviationOf (A 183) ∧ fX0_typeOfFirst (b + 2) ((b + 2 + 4)) v = ((b + 2 + 3) + 31 + ((fX11_typeOf (A 183)).toNatClampNeg)) ∧ fX5_doubtedPiece ((b + 2 + 4)) 0 v = (if A 183 - A 183 / 2 * 2 = 1 then 1 else 0) := by
  obtain ⟨dd, x, q1, q2, q3, q4, q5, q6, q7, q8, q9⟩ := hw.fk h0
  obtain ⟨e1, e2, e3, e4⟩ := sub1 hw.1.2.2.2.1 h0
  have hp := h.2.2.2.2.2.1.2 0 (by omega)
  obtain ⟨⟨c4, c5, c6⟩, _⟩ := hc
  have r20 : rN 20 = 20 := rfl
  have t1 : fX5_typeOfPiece ((b + 2 + 4)) 0 v = (fX11_typeOf (A 183)) := by
    unfold fX5_typeOfPiece
    rw [c4, r20, entry_at (by decide) (by decide)]
    exact hp.1
  refine ⟨t1, ?_, ?_, ?_⟩
  · unfold fX5_firstDeviation
    rw [c5, r20, entry_at (by decide) (by decide)]
    exact hp.2.1
  · unfold fX0_typeOfFirst
    rw [t1, c_hasType h.2.1.1 hw.1.2.2.1, if_neg ((isY_iff hw.1.2.2.1).mpr ⟨q2.1, by have := rn_to q2.1; have := rn_to hw.1.2.2.1.1; omega⟩)]
  · unfold fX5_doubtedPiece
    rw [c6, r20, entry_at (by decide) (by decide)]
    have := hp.2.2
    rw [show (0 : Int32).toNatClampNeg = 0 from rfl, this]
theorem c_fR (h : SR v b A) (hw : WF A) (hc : CP v b) (h0 : A 206 ≠ 0) {t : Nat} (ht : t < (A 203).toNatClampNeg) :
    fX2_reading (b + 1) (((b + 1 + 2) + 13 + t)) (v (fX0_typeOfFirst (b + 2) ((b + 2 + 4)) v) 3) ((v (fX0_typeOfFirst (b + 2) ((b + 2 + 4)) v) 0) + (fX5_firstDeviation ((b + 2 + 4)) v)) v = sFR A t := by
  obtain ⟨f1, f2, f3, f4⟩ := h.first hw hc h0
  obtain ⟨dd, x, q1, q2, q3, q4, q5, q6, q7, q8, q9⟩ := hw.fk h0
  obtain ⟨⟨y0, y1, y2, y3, y4, y5, y7, y9⟩, _⟩ := h.2.2.2.2.1 _ q3
  rw [f2, f3, y3, y0]
  exact c_reading h.1.2.2.1 (hw.2.2.2.1.1 _ q3).2.2.2.1 (hw.2.1.1 t ht).1 (h.2.2.1 t ht)
theorem c_reason (h : SR v b A) (hw : WF A) (hc : CP v b) {t : Nat} (ht : t < (A 203).toNatClampNeg) : fX0_reasonNotToJudge (b + 2) (b + 1) (((b + 1 + 2) + 13 + t)) v = sReason A t := by
  unfold fX0_reasonNotToJudge sReason
  have hT := h.2.2.1 t ht
  rw [h.2.2.2.2.2.1.1]
  have hn := hw.1.2.2.2.1.1
  by_cases h0 : A 206 = 0
  · rw [if_neg (by rw [h0]; decide), if_pos h0]
  have hpos : (0 : Int32) < A 206 := by
    rw [Int32.lt_iff_toInt_lt, show (0 : Int32).toInt = 0 from rfl]
    have : (A 206).toInt ≠ 0 := fun e => h0 (Int32.toInt_inj.mp e)
    omega
  obtain ⟨f1, f2, f3, f4⟩ := h.first hw hc h0
  obtain ⟨dd, x, q1, q2, q3, q4, q5, q6, q7, q8, q9⟩ := hw.fk h0
  obtain ⟨⟨y0, y1, y2, y3, y4, y5, y7, y9⟩, _⟩ := h.2.2.2.2.1 _ q3
  rw [if_pos hpos, if_neg h0, c_due h.1.2.2.2 hT, c_fR h hw hc h0 ht, hT.2.1]
  unfold fX4_width
  rw [f3, y1, y2]
  by_cases hd : sDue A t = 0
  · rw [if_pos hd, if_pos hd]
    by_cases hcs : 5 * sStep (A (8 * t)) ≤ A ((78 + 21 * ((fX11_typeOf (A 183)).toNatClampNeg) + 2)) - A ((78 + 21 * ((fX11_typeOf (A 183)).toNatClampNeg) + 1))
    · rw [if_pos hcs, if_pos hcs]
      have hl : 0 ≤ sFR A t ↔ ¬ sFR A t = -1 := rd_lt
      by_cases h4 : sFR A t = -1
      · rw [if_pos h4, if_neg (fun q => hl.mp q h4)]
      · rw [if_neg h4, if_pos (hl.mpr h4)]
    · rw [if_neg hcs, if_neg hcs]
  · rw [if_neg hd, if_neg hd]
theorem c_measured (h : SR v b A) (hw : WF A) (hc : CP v b) (h0 : A 206 ≠ 0) {t : Nat} (ht : t < (A 203).toNatClampNeg) : fX0_measuredWith (b + 2) (b + 1) (((b + 1 + 2) + 13 + t)) v = sMeas A t := by
  unfold fX0_measuredWith sMeas
  obtain ⟨f1, f2, f3, f4⟩ := h.first hw hc h0
  obtain ⟨dd, x, q1, q2, q3, q4, q5, q6, q7, q8, q9⟩ := hw.fk h0
  obtain ⟨⟨y0, y1, y2, y3, y4, y5, y7, y9⟩, _⟩ := h.2.2.2.2.1 _ q3
  rw [c_fR h hw hc h0 ht, (h.2.2.1 t ht).2.2.2.1, f3, y0]
theorem c_outcome (h : SR v b A) (hw : WF A) (hc : CP v b) (h0 : A 206 ≠ 0) {t : Nat} (ht : t < (A 203).toNatClampNeg) : fX0_outcomeOf (b + 2) (sMeas A t) (((b + 1 + 2) + 13 + t)) v = sJudg A t := by
  unfold fX0_outcomeOf sJudg fX4_isNearLimit fX4_resultOf sRes
  obtain ⟨f1, f2, f3, f4⟩ := h.first hw hc h0
  obtain ⟨dd, x, q1, q2, q3, q4, q5, q6, q7, q8, q9⟩ := hw.fk h0
  obtain ⟨⟨y0, y1, y2, y3, y4, y5, y7, y9⟩, _⟩ := h.2.2.2.2.1 _ q3
  have hsz := szl (x := sMeas A t - A ((78 + 21 * ((fX11_typeOf (A 183)).toNatClampNeg) + 1))) (y := sMeas A t - A ((78 + 21 * ((fX11_typeOf (A 183)).toNatClampNeg) + 2))) (s := sStep (A (8 * t)))
  rw [f3, y1, y2, (h.2.2.1 t ht).2.1, f4, q8, ab_sz, ab_sz]
  have hx := q7
  have hx2 : x = 0 ∨ x = 1 := by
    have a := hx.1
    have c := hx.2
    have : x.toInt = 0 ∨ x.toInt = 1 := by omega
    rcases this with e | e
    · exact Or.inl (Int32.toInt_inj.mp e)
    · exact Or.inr (Int32.toInt_inj.mp e)
  by_cases hl : sStep (A (8 * t)) ≤ fX11_less (fX11_size (sMeas A t - A ((78 + 21 * ((fX11_typeOf (A 183)).toNatClampNeg) + 1)))) (fX11_size (sMeas A t - A ((78 + 21 * ((fX11_typeOf (A 183)).toNatClampNeg) + 2))))
  · rw [if_pos hl]
    have hn := mt hsz.mpr (Int32.not_lt.mpr hl)
    have n1 : ¬ fX11_size (sMeas A t - A ((78 + 21 * ((fX11_typeOf (A 183)).toNatClampNeg) + 1))) < sStep (A (8 * t)) := fun q => hn (Or.inl q)
    have n2 : ¬ fX11_size (sMeas A t - A ((78 + 21 * ((fX11_typeOf (A 183)).toNatClampNeg) + 2))) < sStep (A (8 * t)) := fun q => hn (Or.inr q)
    rw [if_neg n1, if_pos (Int32.not_lt.mp n2), if_pos rfl]
    split <;> rfl
  · rw [if_neg hl]
    have hn := hsz.mp (Int32.not_le.mp hl)
    have e : (if fX11_size (sMeas A t - A ((78 + 21 * ((fX11_typeOf (A 183)).toNatClampNeg) + 1))) < sStep (A (8 * t)) then 1 else if sStep (A (8 * t)) ≤ fX11_size (sMeas A t - A ((78 + 21 * ((fX11_typeOf (A 183)).toNatClampNeg) + 2))) then 0 else 1 : Int32) = 1 := by
      rcases hn with q | q
      · rw [if_pos q]
      · split
        · rfl
        · rw [if_neg (Int32.not_le.mpr q)]
    rw [e, if_neg (show ¬ (1 : Int32) = 0 by decide)]
    rcases hx2 with q | q <;> subst q
    · rfl
    · rfl
theorem res_b (k : Nat) (x : Int32) : -100001 < (sRes A k x).toInt := by
  unfold sRes
  split
  · split <;> decide
  · decide
theorem judg_b (t : Nat) : -100001 < (sJudg A t).toInt := by
  unfold sJudg
  split
  · exact res_b _ _
  · split
    · decide
    · exact res_b _ _
theorem c_refJ (h : SR v b A) (hw : WF A) (hc : CP v b) : fX0_refusalToJudge (b + 2) (b + 1) p v = rfc (sGoJudge A p).1 := by
  unfold fX0_refusalToJudge sGoJudge
  rw [c_hasTool h.1.1 hw.1.1]
  by_cases h1 : sIsT A p = 0
  · rw [if_pos h1, if_pos h1]; rfl
  rw [if_neg h1, if_neg h1]
  have hp := isT_in hw.1.1 h1
  rw [c_reason h hw hc hp.2]
  have hle : sReason A p.toNatClampNeg ≤ 0 ↔ sReason A p.toNatClampNeg = 0 := by
    unfold sReason
    split
    · decide
    · split
      · split
        · split <;> decide
        · decide
      · decide
  by_cases hr : sReason A p.toNatClampNeg = 0
  · rw [if_pos hr, if_pos (hle.mpr hr)]
    have hj := rfc_0 (judg_b (A := A) p.toNatClampNeg)
    dsimp only
    rw [hj]
  · rw [if_neg hr, if_neg (mt hle.mp hr)]; rfl
theorem c_reasonP (h : SR v b A) (hw : WF A) (hc : CP v b) : fX0_reasonNotToPass (b + 2) v = sReasonP A := by
  unfold fX0_reasonNotToPass sReasonP
  rw [h.2.2.2.2.2.1.1]
  have hn := hw.1.2.2.2.1.1
  by_cases h0 : A 206 = 0
  · rw [if_neg (by rw [h0]; decide), if_pos h0]
  have hpos : (0 : Int32) < A 206 := by
    rw [Int32.lt_iff_toInt_lt, show (0 : Int32).toInt = 0 from rfl]
    have : (A 206).toInt ≠ 0 := fun e => h0 (Int32.toInt_inj.mp e)
    omega
  obtain ⟨f1, f2, f3, f4⟩ := h.first hw hc h0
  obtain ⟨dd, x, q1, q2, q3, q4, q5, q6, q7, q8, q9⟩ := hw.fk h0
  obtain ⟨⟨y0, y1, y2, y3, y4, y5, y7, y9⟩, _⟩ := h.2.2.2.2.1 _ q3
  rw [if_pos hpos, if_neg h0, f3, y4, y5]
  have h7 := (hw.2.2.2.1.1 _ q3).2.2.2.2.2.2.2.1
  have e7 : A ((78 + 21 * ((fX11_typeOf (A 183)).toNatClampNeg) + 7)) = 0 ∨ A ((78 + 21 * ((fX11_typeOf (A 183)).toNatClampNeg) + 7)) = 1 := by
    have a := h7.1
    have c := h7.2
    have : (A ((78 + 21 * ((fX11_typeOf (A 183)).toNatClampNeg) + 7))).toInt = 0 ∨ (A ((78 + 21 * ((fX11_typeOf (A 183)).toNatClampNeg) + 7))).toInt = 1 := by omega
    rcases this with e | e
    · exact Or.inl (Int32.toInt_inj.mp e)
    · exact Or.inr (Int32.toInt_inj.mp e)
  rcases e7 with e | e <;> rw [e] <;> rfl
theorem c_refP (h : SR v b A) (hw : WF A) (hc : CP v b) : fX0_refusalToPass (b + 2) v = rfc (sGoPass A).1 := by
  unfold fX0_refusalToPass sGoPass
  rw [c_reasonP h hw hc]
  have hle : sReasonP A ≤ 0 ↔ sReasonP A = 0 := by
    unfold sReasonP
    split
    · decide
    · split
      · split <;> decide
      · decide
  by_cases hr : sReasonP A = 0
  · rw [if_pos hr, if_pos (hle.mpr hr)]
    have h0 : A 206 ≠ 0 := by
      intro e
      unfold sReasonP at hr
      rw [if_pos e] at hr
      exact absurd hr (by decide)
    obtain ⟨dd, x, q1, q2, q3, q4, q5, q6, q7, q8, q9⟩ := hw.fk h0
    exact (rfc_0 (by have := q2.1; show _ < ((fX11_typeOf (A 183))).toInt; omega)).symm
  · rw [if_neg hr, if_neg (mt hle.mp hr)]; rfl
theorem c_refB (h : SR v b A) (hw : WF A) : fX0_refusalToBring (b + 2) k d v = rfc (sGoBring A k d).1 := by
  unfold fX0_refusalToBring sGoBring
  rw [c_hasType h.2.1.1 hw.1.2.2.1, in_rng]
  by_cases h1 : sIsY A k = 0
  · rw [if_pos h1, if_pos h1, if_pos rfl]; rfl
  rw [if_neg h1, if_neg h1]
  by_cases h2 : fX11_in d (-200) 200 = 0
  · rw [if_pos h2, if_pos h2, if_pos rfl]; rfl
  rw [if_neg h2, if_neg h2]
  have hk := isY_in hw.1.2.2.1 h1
  obtain ⟨⟨y0, y1, y2, y3, y4, y5, y7, y9⟩, _⟩ := h.2.2.2.2.1 _ hk.2
  rw [y0, h.2.2.2.2.2.1.1]
  by_cases h3 : A ((78 + 21 * k.toNatClampNeg + 0)) + d < 1
  · rw [if_neg (Int32.not_le.mpr h3), if_pos h3, if_pos rfl]; rfl
  · rw [if_pos (Int32.not_lt.mp h3), if_neg h3, if_neg (show ¬ (1 : Int32) = 0 by decide)]
    have hn := hw.1.2.2.2.1
    by_cases h20 : A 206 = 20
    · rw [if_pos h20, h20]; rfl
    · have : (A 206).toInt ≠ 20 := fun e => h20 (Int32.toInt_inj.mp e)
      have z : (20 : Int32).toInt = 20 := rfl
      have := hn.2
      rw [if_neg h20, if_pos (by rw [Int32.lt_iff_toInt_lt]; omega)]
      refine (rfc_0 ?_).symm
      have e := (add1 hn (by decide)).1
      have := hn.1
      show _ < (A 206 + 1).toInt
      omega
end C33
