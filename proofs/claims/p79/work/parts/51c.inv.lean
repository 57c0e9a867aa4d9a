/-! P79, PLAIN 5: the invariant, kept by every call. -/
section T51c
variable {A A' B : Ar} {N t k : Nat} {m x p p1 p2 p3 p4 set : Int32}
theorem w3_use (h : W3 A) (ht : t < (A 203).toNatClampNeg) : W3 (sUse A t m) := by
  have := inn_lt h.1
  unfold W3
  rw [sUse_o (by omega), sUse_o (by omega), sUse_o (by omega)]
  exact h
theorem xi_goMeasure (h : XI N A) (hw : WF A) (hN : N < 2 ^ 30) : XI (N + 1) (sGoMeasure A p p2 p3).2 := by
  unfold sGoMeasure
  by_cases h1 : sIsT A p = 0
  · rw [if_pos h1]; exact h.mono (by omega)
  rw [if_neg h1]
  by_cases h2 : fX11_isMaterial p2 = 0
  · rw [if_pos h2]; exact h.mono (by omega)
  rw [if_neg h2]
  by_cases h3 : fX11_isLength p3 = 0
  · rw [if_pos h3]; exact h.mono (by omega)
  rw [if_neg h3]
  by_cases h4 : 0 ≤ sReading A p.toNatClampNeg p2 p3
  · rw [if_pos h4]
    exact xi_use h hw.w3 hN (isT_in hw.1.1 h1).2 (mat_in h2)
  · rw [if_neg h4]; exact h.mono (by omega)
theorem xi_goCalibrate (h : XI N A) (hw : WF A) (hN : N < 2 ^ 30) : XI (N + 1) (sGoCalibrate A p p2).2 := by
  unfold sGoCalibrate
  by_cases h1 : sIsT A p = 0
  · rw [if_pos h1]; exact h.mono (by omega)
  rw [if_neg h1]
  by_cases h2 : fX11_in p2 1 15000 = 0
  · rw [if_pos h2]; exact h.mono (by omega)
  rw [if_neg h2]
  by_cases h4 : 0 ≤ sRdC A p.toNatClampNeg p2
  · rw [if_pos h4]
    exact xi_cal h hw.w3 hN (isT_in hw.1.1 h1).2
  · rw [if_neg h4]; exact h.mono (by omega)
theorem xi_goBring (h : XI N A) (hw : WF A) : XI N (sGoBring A p p2).2 := by
  unfold sGoBring
  generalize (if sIsY A p = 0 then 0 else (if fX11_in p2 (-200) 200 = 0 then 0 else (if A ((78 + 21 * p.toNatClampNeg + 0)) + p2 < 1 then 0 else 1)) : Int32) = c
  by_cases h1 : c = 0
  · rw [if_pos h1]; exact h
  rw [if_neg h1]
  by_cases h2 : A 206 = 20
  · rw [if_pos h2]; exact h
  rw [if_neg h2]
  have h6 := hw.1.2.2.2.1
  have h20 : inn (A 206) 20 := ⟨h6.1, by
    have := h6.2
    have : (A 206).toInt ≠ 20 := fun e => h2 (Int32.toInt_inj.mp e)
    omega⟩
  exact h.ag hw.w3 ((ag_toB h20).tr (AG.st (by omega) (by omega) (fun k hk => by omega)))
theorem xi_goFile (h : XI N A) (hw : WF A) : XI N (sGoFile A p).2 := by
  unfold sGoFile
  by_cases h1 : fX11_in p 1 99 = 0
  · rw [if_pos h1]; exact h
  rw [if_neg h1]
  by_cases h2 : (if A 207 ≤ 0 then 0 else (if 20 ≤ A 206 then 0 else 1) : Int32) = 0
  · rw [if_pos h2]; exact h
  rw [if_neg h2]
  by_cases h3 : 1 ≤ A ((78 + 21 * ((fX11_typeOf (A 217))).toNatClampNeg + 0)) + ((fX11_deviationOf (A 217)) - p)
  · rw [if_pos h3]
    have h20 : ¬ 20 ≤ A 206 := fun q => h2 (by
      by_cases g : A 207 ≤ 0
      · rw [if_pos g]
      · rw [if_neg g, if_pos q])
    have h6 := hw.1.2.2.2.1
    have e6 : sLeaveQ A 206 = A 206 := by
      unfold sLeaveQ
      rw [st_n (by omega), shf_o (by omega), st_n (by omega)]
    have i20 : inn (sLeaveQ A 206) 20 := by
      rw [e6]
      refine ⟨h6.1, ?_⟩
      have := mt Int32.le_iff_toInt_le.mpr h20
      rw [show (20 : Int32).toInt = 20 from rfl] at this
      omega
    exact h.ag hw.w3 (ag_leaveQ.tr (ag_toB i20))
  · rw [if_neg h3]; exact h
theorem xi_goPass (h : XI N A) (hw : WF A) : XI N (sGoPass A).2 := by
  unfold sGoPass
  by_cases h1 : sReasonP A ≤ 0
  · rw [if_pos h1]
    have h0 : A 206 ≠ 0 := fun e0 => by
      unfold sReasonP at h1
      rw [if_pos e0] at h1
      exact absurd h1 (by decide)
    obtain ⟨dd, x, q1, q2, q3, q4⟩ := hw.fk h0
    have l := inn_lt q2
    exact h.ag hw.w3 ((ag_leave hw.1.2.2.2.1).tr ((AG.st (j := 214) (by omega) (by omega) (fun k hk => by omega)).tr (AG.st (by omega) (by omega) (fun k hk => by omega))))
  · rw [if_neg h1]; exact h
theorem xi_goDay (h : XI N A) (hw : WF A) : XI N (sGoDay A).2 := by
  unfold sGoDay
  by_cases h1 : A 210 = 999
  · rw [if_pos h1]; exact h
  · rw [if_neg h1]
    exact h.ag hw.w3 (AG.st (by omega) (by omega) (fun k hk => by omega))
theorem w3_notes (h : W3 A) (hk : k < 5) : W3 (sNotes A k x) := by
  unfold W3
  rw [sNotes_o (by omega), sNotes_o (by omega), sNotes_o (by omega)]
  exact h
theorem xi_goJudge (h : XI N A) (hw : WF A) (hN : N < 2 ^ 30) : XI (N + 1) (sGoJudge A p).2 := by
  unfold sGoJudge
  by_cases h1 : sIsT A p = 0
  · rw [if_pos h1]; exact h.mono (by omega)
  rw [if_neg h1]
  by_cases h2n : ¬ (sReason A p.toNatClampNeg ≤ 0)
  · rw [if_neg h2n]; exact h.mono (by omega)
  have h2 := Decidable.not_not.mp h2n
  rw [if_pos h2]
  have hT := isT_in hw.1.1 h1
  have lT := inn_lt hT.1
  have h0 := sReason_ne h2
  obtain ⟨dd, xx, q1, q2, q3, q4⟩ := hw.fk h0
  have lY := inn_lt q2
  have hWY := hw.2.2.2.1.1 _ q3
  generalize hk : (fX11_typeOf (A 183)).toNatClampNeg = k at *
  generalize ht : p.toNatClampNeg = t at *
  -- the first piece leaves, the tool is used
  have aL := ag_leave (A := A) hw.1.2.2.2.1
  have xL : XI N (sLeave A) := h.ag hw.w3 aL
  have wL : W3 (sLeave A) := hw.w3.ag aL
  have tL : t < ((sLeave A) 203).toNatClampNeg := by rw [aL.2.2.1]; exact hT.2
  have x1 : XI (N + 1) (sJ1 A t) := xi_use xL wL hN tL (by rw [hk]; exact hWY.2.2.2.1)
  have w1 : W3 (sJ1 A t) := w3_use wL tL
  have lv : ∀ j, j < 183 → sLeave A j = A j := fun j hj => by
    have := inn_lt hw.1.2.2.2.1
    unfold sLeave
    rw [st_n (by omega), shf_o (by omega), st_n (by omega)]
  have j1 : ∀ j, 48 ≤ j → j < 183 → sJ1 A t j = A j := fun j a b => by
    unfold sJ1
    rw [sUse_o (by omega), lv j b]
  by_cases h3 : sJudg A t = 3
  · rw [if_pos h3]
    have e206 : sJ1 A t 206 = A 206 - 1 := by
      have := inn_lt hw.1.2.2.2.1
      unfold sJ1
      rw [sUse_o (by omega)]
      unfold sLeave
      obtain ⟨s1, s2, s3, s4⟩ := sub1 hw.1.2.2.2.1 h0
      rw [st_n (by omega), shf_o (by omega), st_s]
    obtain ⟨s1, s2, s3, s4⟩ := sub1 hw.1.2.2.2.1 h0
    have i20 : inn (sJ1 A t 206) 20 := by
      rw [e206]
      have := hw.1.2.2.2.1.2
      exact ⟨s4.1, by rw [s1]; omega⟩
    exact x1.ag w1 ((ag_toB i20).tr (AG.st (by omega) (by omega) (fun k hk => by omega)))
  · rw [if_neg h3]
    have a2 : AG (sJ1 A t) (sJ2 A t) := by
      unfold sJ2
      split
      · exact ag_toQ
      · exact AG.rf
    have a5 : AG (sJ1 A t) (sJ5 A t) := a2.tr ((AG.st (j := 212) (by omega) (by omega) (fun k hk => by omega)).tr ((AG.st (j := 213) (by omega) (by omega) (fun k hk => by omega)).tr (AG.st (j := 216) (by omega) (by omega) (fun k hk => by omega))))
    have x5 : XI (N + 1) (sJ5 A t) := x1.ag w1 a5
    have w5 := w1.ag a5
    obtain ⟨M, r, b, r1, r2, r3, r4, r5, r6⟩ := rc_of hWY
    have g := a5.2.1 k lY
    have hR : RC (sJ5 A t) k M r b := ⟨r1, r2, r3, by rw [g.1, j1 _ (by omega) (by omega)]; exact r4, by rw [g.2.1, j1 _ (by omega) (by omega)]; exact r5, by rw [g.2.2, j1 _ (by omega) (by omega)]; exact r6⟩
    have kY : k < ((sJ5 A t) 205).toNatClampNeg := by
      rw [a5.2.2.2.2]
      unfold sJ1
      rw [sUse_o (by omega), aL.2.2.2.2]
      exact q3
    have hb : (if sJudg A t ≤ 0 then 0 else 1 : Int32) = 0 ∨ (if sJudg A t ≤ 0 then 0 else 1 : Int32) = 1 := by
      split
      · exact Or.inl rfl
      · exact Or.inr rfl
    have xn := xi_notes x5 w5 kY hR hb
    have wn : W3 (sNotes (sJ5 A t) k (if sJudg A t ≤ 0 then 0 else 1)) := w3_notes w5 lY
    have e8 : sNotes (sJ5 A t) k (if sJudg A t ≤ 0 then 0 else 1) ((78 + 21 * k + 8)) = A ((78 + 21 * k + 8)) := by
      rw [sNotes_o (by omega)]
      have c1 : sJ5 A t ((78 + 21 * k + 8)) = sJ1 A t ((78 + 21 * k + 8)) := by
        unfold sJ5 sJ4 sJ3
        rw [st_n (by omega), st_n (by omega), st_n (by omega)]
        unfold sJ2
        split
        · unfold sToQ
          rw [st_n (by omega), st_n (by omega)]
        · rfl
      rw [c1, j1 _ (by omega) (by omega)]
    have i13 : inn (sNotes (sJ5 A t) k (if sJudg A t ≤ 0 then 0 else 1) ((78 + 21 * k + 8))) 13 := by rw [e8]; exact hWY.2.2.2.2.2.2.2.2.1
    unfold sJ6
    rw [hk]
    exact xn.ag wn ((ag_charts lY i13).tr (AG.st (by omega) (by omega) (fun k hk => by omega)))
theorem z0t : (0 : Int32).toInt = 0 := rfl
theorem xi_addTool (h : XI N A) (hw : WF A) : XI N (rAddTool A p1 p2).2 := by
  unfold rAddTool
  by_cases h1 : fX11_in p1 0 4 = 0
  · rw [if_pos h1]; exact h
  rw [if_neg h1]
  by_cases h2 : fX11_in p2 (-30) 30 = 0
  · rw [if_pos h2]; exact h
  rw [if_neg h2]
  by_cases h3 : A 203 = 6
  · rw [if_pos h3]; exact h
  rw [if_neg h3]
  show XI N (sAddTool A p1 p2)
  have l1 := inn_lt hw.1.1
  have h36 : inn (A 203) 6 := ⟨hw.1.1.1, by
    have := hw.1.1.2
    have : (A 203).toInt ≠ 6 := fun e => h3 (Int32.toInt_inj.mp e)
    omega⟩
  have l6 := inn_lt h36
  have hk := in_iff.mp h2
  rw [show (-30 : Int32).toInt = -30 from rfl, show (30 : Int32).toInt = 30 from rfl] at hk
  have hz := hw.2.1.2
  have e203 : ((sAddTool A p1 p2) 203).toNatClampNeg = (A 203).toNatClampNeg + 1 := by
    unfold sAddTool
    rw [st_s]
    exact (add1 h36 (by omega)).2
  have g : ∀ j, j ≠ 8 * (A 203).toNatClampNeg → j ≠ 8 * (A 203).toNatClampNeg + 1 → j ≠ 8 * (A 203).toNatClampNeg + 7 → j ≠ 203 → sAddTool A p1 p2 j = A j := fun j a b c d => by unfold sAddTool; rw [st_n d, st_n c, st_n b, st_n a]
  obtain ⟨x1, x2, x3⟩ := h
  refine ⟨fun t ht => ?_, fun b hb => ?_, fun k hk => ?_⟩
  · rw [e203] at ht
    by_cases q : t = (A 203).toNatClampNeg
    · have c1 : sAddTool A p1 p2 (8 * (A 203).toNatClampNeg + 1) = p2 := by unfold sAddTool; rw [st_n (by omega), st_n (by omega), st_s]
      unfold XT
      rw [q, c1, g _ (by omega) (by omega) (by omega) (by omega), g _ (by omega) (by omega) (by omega) (by omega), g _ (by omega) (by omega) (by omega) (by omega), g _ (by omega) (by omega) (by omega) (by omega), hz _ (by omega) (by omega), hz _ (by omega) (by omega), hz _ (by omega) (by omega), hz _ (by omega) (by omega), z0t]
      omega
    · have := x1 t (by omega)
      unfold XT at *
      rw [g _ (by omega) (by omega) (by omega) (by omega), g _ (by omega) (by omega) (by omega) (by omega), g _ (by omega) (by omega) (by omega) (by omega), g _ (by omega) (by omega) (by omega) (by omega), g _ (by omega) (by omega) (by omega) (by omega)]
      exact this
  · have l2 := inn_lt hw.1.2.1
    rw [g _ (by omega) (by omega) (by omega) (by omega)] at hb
    have := x2 b hb
    unfold XB at *
    rw [g _ (by omega) (by omega) (by omega) (by omega)]
    exact this
  · have l3 := inn_lt hw.1.2.2.1
    rw [g _ (by omega) (by omega) (by omega) (by omega)] at hk
    have := x3 k hk
    unfold XY at *
    rw [g _ (by omega) (by omega) (by omega) (by omega), g _ (by omega) (by omega) (by omega) (by omega), g _ (by omega) (by omega) (by omega) (by omega)]
    exact this
theorem xi_addBlock (h : XI N A) (hw : WF A) : XI N (rAddBlock A p1 p2).2 := by
  unfold rAddBlock
  by_cases h1 : fX11_in p1 1 5000 = 0
  · rw [if_pos h1]; exact h
  rw [if_neg h1]
  by_cases h2 : fX11_in p2 (-3) 3 = 0
  · rw [if_pos h2]; exact h
  rw [if_neg h2]
  by_cases h3 : A 204 = 10
  · rw [if_pos h3]; exact h
  rw [if_neg h3]
  show XI N (sAddBlock A p1 p2)
  have l1 := inn_lt hw.1.1
  have h36 : inn (A 204) 10 := ⟨hw.1.2.1.1, by
    have := hw.1.2.1.2
    have : (A 204).toInt ≠ 10 := fun e => h3 (Int32.toInt_inj.mp e)
    omega⟩
  have l6 := inn_lt h36
  have hk := in_iff.mp h2
  rw [show (-3 : Int32).toInt = -3 from rfl, show (3 : Int32).toInt = 3 from rfl] at hk
  have e204 : ((sAddBlock A p1 p2) 204).toNatClampNeg = (A 204).toNatClampNeg + 1 := by
    unfold sAddBlock
    rw [st_s]
    exact (add1 h36 (by omega)).2
  have g : ∀ j, j ≠ 48 + 3 * (A 204).toNatClampNeg → j ≠ 48 + 3 * (A 204).toNatClampNeg + 1 → j ≠ 204 → sAddBlock A p1 p2 j = A j := fun j a b d => by unfold sAddBlock; rw [st_n d, st_n b, st_n a]
  obtain ⟨x1, x2, x3⟩ := h
  refine ⟨fun t ht => ?_, fun b hb => ?_, fun k hk => ?_⟩
  · rw [g _ (by omega) (by omega) (by omega)] at ht
    have := x1 t ht
    unfold XT at *
    rw [g _ (by omega) (by omega) (by omega), g _ (by omega) (by omega) (by omega), g _ (by omega) (by omega) (by omega), g _ (by omega) (by omega) (by omega), g _ (by omega) (by omega) (by omega)]
    exact this
  · rw [e204] at hb
    unfold XB at *
    by_cases q : b = (A 204).toNatClampNeg
    · have c1 : sAddBlock A p1 p2 (48 + 3 * (A 204).toNatClampNeg + 1) = p2 := by unfold sAddBlock; rw [st_n (by omega), st_s]
      rw [q, c1]
      omega
    · have := x2 b (by omega)
      rw [g _ (by omega) (by omega) (by omega)]
      exact this
  · have l3 := inn_lt hw.1.2.2.1
    rw [g _ (by omega) (by omega) (by omega)] at hk
    have := x3 k hk
    unfold XY at *
    rw [g _ (by omega) (by omega) (by omega), g _ (by omega) (by omega) (by omega), g _ (by omega) (by omega) (by omega)]
    exact this
theorem xi_addType (h : XI N A) (hw : WF A) : XI N (rAddType A p1 p2 p3 p4).2 := by
  unfold rAddType
  by_cases h1 : fX11_in p1 100 14000 = 0
  · rw [if_pos h1]; exact h
  rw [if_neg h1]
  by_cases h2 : fX11_in p2 (-99) 0 = 0
  · rw [if_pos h2]; exact h
  rw [if_neg h2]
  by_cases h2b : fX11_in p3 0 99 = 0
  · rw [if_pos h2b]; exact h
  rw [if_neg h2b]
  by_cases h2c : fX11_isMaterial p4 = 0
  · rw [if_pos h2c]; exact h
  rw [if_neg h2c]
  by_cases h3 : A 205 = 5
  · rw [if_pos h3]; exact h
  rw [if_neg h3]
  show XI N (sAddType A p1 p2 p3 p4)
  have l1 := inn_lt hw.1.1
  have l2 := inn_lt hw.1.2.1
  have h36 : inn (A 205) 5 := ⟨hw.1.2.2.1.1, by
    have := hw.1.2.2.1.2
    have : (A 205).toInt ≠ 5 := fun e => h3 (Int32.toInt_inj.mp e)
    omega⟩
  have l6 := inn_lt h36
  have hz := hw.2.2.2.1.2
  have e205 : ((sAddType A p1 p2 p3 p4) 205).toNatClampNeg = (A 205).toNatClampNeg + 1 := by
    unfold sAddType
    rw [st_s]
    exact (add1 h36 (by omega)).2
  have g : ∀ j, j < (78 + 21 * ((A 205).toNatClampNeg) + 0) ∨ (78 + 21 * ((A 205).toNatClampNeg) + 3) < j → j ≠ 205 → sAddType A p1 p2 p3 p4 j = A j := fun j a d => by unfold sAddType; rw [st_n d, st_n (by omega), st_n (by omega), st_n (by omega), st_n (by omega)]
  obtain ⟨x1, x2, x3⟩ := h
  refine ⟨fun t ht => ?_, fun b hb => ?_, fun k hk => ?_⟩
  · rw [g _ (by omega) (by omega)] at ht
    have := x1 t ht
    unfold XT at *
    rw [g _ (by omega) (by omega), g _ (by omega) (by omega), g _ (by omega) (by omega), g _ (by omega) (by omega), g _ (by omega) (by omega)]
    exact this
  · rw [g _ (by omega) (by omega)] at hb
    have := x2 b hb
    unfold XB at *
    rw [g _ (by omega) (by omega)]
    exact this
  · rw [e205] at hk
    unfold XY at *
    rw [g _ (by omega) (by omega), g _ (by omega) (by omega), g _ (by omega) (by omega)]
    by_cases q : k = (A 205).toNatClampNeg
    · rw [q, hz _ (by omega) (by omega), hz _ (by omega) (by omega), hz _ (by omega) (by omega)]
      decide +kernel
    · exact x3 k (by omega)
theorem xi_setWarmth (h : XI N A) (hw : WF A) : XI N (rSetWarmth A p1).2 := by
  unfold rSetWarmth
  split
  · exact h
  · exact h.ag hw.w3 (AG.st (by omega) (by omega) (fun k hk => by omega))
theorem xi_setTolerance (h : XI N A) (hw : WF A) : XI N (rSetTolerance A p1).2 := by
  unfold rSetTolerance
  split
  · exact h
  · exact h.ag hw.w3 (AG.st (by omega) (by omega) (fun k hk => by omega))
/-- the array between calls from the beginning on -/
theorem xi_exO (h : XI N A) (hw : WF A) (hN : N < 2 ^ 30) : XI (N + 1) (exO A k p p2).2 := by
  unfold exO
  split
  · exact xi_goMeasure h hw hN
  split
  · exact xi_goCalibrate h hw hN
  split
  · exact (xi_goBring h hw).mono (by omega)
  split
  · exact xi_goJudge h hw hN
  split
  · exact (xi_goFile h hw).mono (by omega)
  split
  · exact (xi_goPass h hw).mono (by omega)
  · exact (xi_goDay h hw).mono (by omega)
end T51c
