/-! P79, PLAIN 7d: XJ, kept by every call. -/
section T53d
variable {A A' B : Ar} {N t k c : Nat} {m x p p1 p2 p3 p4 set len l tol mid : Int32}
theorem sh_0 : sShown A t 0 l = l + A (8 * t + 1) - A (8 * t + 2) := by
  unfold sShown
  rw [Int32.add_assoc l, Int32.add_comm (sStretch A 0 l), ← Int32.add_assoc, Int32.add_sub_cancel]
theorem rd_st (hX : XT N A t) (hk : inn (A (8 * t)) 5) (hl : -100 ≤ l.toInt ∧ l.toInt ≤ 20000) (h : sReading A t 0 l ≠ -1) : l.toInt - 75 ≤ (sReading A t 0 l).toInt ∧ (sReading A t 0 l).toInt ≤ l.toInt + 35 := by
  obtain ⟨x1, x2, _⟩ := hX
  have e1 : (l + A (8 * t + 1)).toInt = l.toInt + (A (8 * t + 1)).toInt := ti_add (by omega)
  have hs : (sShown A t 0 l).toInt = l.toInt + (A (8 * t + 1)).toInt - (A (8 * t + 2)).toInt := by rw [sh_0, ti_sub (by rw [e1]; omega), e1]
  obtain ⟨a1, a2, s, s1, s2, _, s3⟩ := rdg_t hk h
  have c1 := rn_to a1
  have a15 : (sShown A t 0 l).toInt ≤ 15000 := Int.le_trans a2 (by split <;> decide)
  rw [s3]
  generalize (sShown A t 0 l).toNatClampNeg = c at *
  have d : (c + s / 2) / s * s ≤ c + s / 2 := Nat.div_mul_le_self _ _
  rw [of_ti (by omega)]
  rcases s2 with e | e | e | e <;> subst e <;> omega
theorem xj_goMeasure (h : XJ A) (hw : WF A) : XJ (sGoMeasure A p p2 p3).2 := by
  unfold sGoMeasure
  by_cases h1 : sIsT A p = 0
  · rw [if_pos h1]; exact h
  rw [if_neg h1]
  by_cases h2 : fX11_isMaterial p2 = 0
  · rw [if_pos h2]; exact h
  rw [if_neg h2]
  by_cases h3 : fX11_isLength p3 = 0
  · rw [if_pos h3]; exact h
  rw [if_neg h3]
  by_cases h4 : 0 ≤ sReading A p.toNatClampNeg p2 p3
  · rw [if_pos h4]
    exact xj_use h (inn_lt (isT_in hw.1.1 h1).1)
  · rw [if_neg h4]; exact h
theorem xj_goCalibrate (h : XJ A) (hX : XI N A) (hw : WF A) : XJ (sGoCalibrate A p p2).2 := by
  unfold sGoCalibrate
  by_cases h1 : sIsT A p = 0
  · rw [if_pos h1]; exact h
  rw [if_neg h1]
  by_cases h2 : fX11_in p2 1 15000 = 0
  · rw [if_pos h2]; exact h
  rw [if_neg h2]
  by_cases h4n : ¬ (0 ≤ sRdC A p.toNatClampNeg p2)
  · rw [if_neg h4n]; exact h
  have h4 := Decidable.not_not.mp h4n
  rw [if_pos h4]
  have hT := isT_in hw.1.1 h1
  have hl := in_iff.mp h2
  rw [show (1 : Int32).toInt = 1 from rfl, show (15000 : Int32).toInt = 15000 from rfl] at hl
  have h5 := i_le h4
  rw [show (0 : Int32).toInt = 0 from rfl] at h5
  have hs : sStack A p2 ≠ 0 := fun e => by
    unfold sRdC at h5
    rw [if_pos e] at h5
    exact absurd h5 (by decide)
  have hr : sRdC A p.toNatClampNeg p2 = sReading A p.toNatClampNeg 0 (sTruly A (sStack A p2)) := by unfold sRdC; rw [if_neg hs]
  have ht := tru_t hX hw.1.2.1 hl hs
  have hk := (hw.2.1.1 _ hT.2).1
  have hrd := rd_st (hX.1 _ hT.2) hk (l := sTruly A (sStack A p2)) (by omega) (fun e => by rw [hr, e] at h5; exact absurd h5 (by decide))
  rw [← hr] at hrd
  refine xj_cal h hw.w3 (inn_lt hT.1) ?_
  rw [ti_sub (by omega)]
  omega
theorem dv_piece {d : Int32} (hk : inn p 8) (hd : -15000 ≤ d.toInt ∧ d.toInt ≤ 1000) (hx : inn x 2) : dv (fX11_piece p d x) = d.toInt := by
  unfold dv
  rw [(pc_dec hk hd hx).2.1]
theorem inn20 (hn : inn (A 206) 21) (h : A 206 ≠ 20) : inn (A 206) 20 := ⟨hn.1, by
  have := hn.2
  have : (A 206).toInt ≠ 20 := fun e => h (Int32.toInt_inj.mp e)
  omega⟩
theorem xj_goBring (h : XJ A) (hw : WF A) : XJ (sGoBring A p p2).2 := by
  unfold sGoBring
  by_cases h1 : (if sIsY A p = 0 then 0 else (if fX11_in p2 (-200) 200 = 0 then 0 else (if A ((78 + 21 * p.toNatClampNeg + 0)) + p2 < 1 then 0 else 1)) : Int32) = 0
  · rw [if_pos h1]; exact h
  rw [if_neg h1]
  by_cases h2 : A 206 = 20
  · rw [if_pos h2]; exact h
  rw [if_neg h2]
  have hy : sIsY A p ≠ 0 := fun q => h1 (by rw [if_pos q])
  have hd : fX11_in p2 (-200) 200 ≠ 0 := fun q => h1 (by rw [if_neg hy, if_pos q])
  have hd := in_iff.mp hd
  rw [show (-200 : Int32).toInt = -200 from rfl, show (200 : Int32).toInt = 200 from rfl] at hd
  have hY := (isY_in hw.1.2.2.1 hy).1
  have i20 := inn20 hw.1.2.2.2.1 h2
  have hb := xj_toB (x := fX11_piece p p2 0) h hw.w3 i20 (by rw [dv_piece ⟨hY.1, by have := hY.2; omega⟩ (by omega) (by decide)]; omega)
  obtain ⟨a1, a2, a3, a4, a5, a6⟩ := tb_lo (p := fX11_piece p p2 0) i20
  refine xj_st hb (Or.inl (by omega)) (hw.w3.ag (ag_toB i20)) ?_
  rw [a2]
  have := add1 i20 (by omega)
  exact ⟨by rw [this.1]; have := i20.1; omega, by rw [this.1]; have := i20.2; omega⟩
theorem xj_goFile (h : XJ A) (hw : WF A) : XJ (sGoFile A p).2 := by
  unfold sGoFile
  by_cases h1 : fX11_in p 1 99 = 0
  · rw [if_pos h1]; exact h
  rw [if_neg h1]
  by_cases h2 : (if A 207 ≤ 0 then 0 else (if 20 ≤ A 206 then 0 else 1) : Int32) = 0
  · rw [if_pos h2]; exact h
  rw [if_neg h2]
  by_cases h3n : ¬ (1 ≤ A ((78 + 21 * ((fX11_typeOf (A 217))).toNatClampNeg + 0)) + ((fX11_deviationOf (A 217)) - p))
  · rw [if_neg h3n]; exact h
  have h3 := Decidable.not_not.mp h3n
  rw [if_pos h3]
  have h7 : ¬ A 207 ≤ 0 := fun q => h2 (by rw [if_pos q])
  have h20 : ¬ 20 ≤ A 206 := fun q => h2 (by rw [if_neg h7, if_pos q])
  have h0 : A 207 ≠ 0 := fun e => h7 (by rw [e]; decide)
  have hp := in_iff.mp h1
  rw [show (1 : Int32).toInt = 1 from rfl, show (99 : Int32).toInt = 99 from rfl] at hp
  obtain ⟨k1, k2, k3, k4⟩ := hw.qk h0
  obtain ⟨a1, a2, a3, a4, a5, a6⟩ := lq_lo hw.1.2.2.2.2.1 h0
  have e6 : sLeaveQ A 206 = A 206 := a1 _ (by omega) (by omega)
  have i20 : inn (sLeaveQ A 206) 20 := by
    rw [e6]
    refine ⟨hw.1.2.2.2.1.1, ?_⟩
    have := mt Int32.le_iff_toInt_le.mpr h20
    rw [show (20 : Int32).toInt = 20 from rfl] at this
    omega
  have hd := h.2.2.1 0 (by omega)
  have hd : -300 ≤ ((fX11_deviationOf (A 217))).toInt ∧ ((fX11_deviationOf (A 217))).toInt ≤ 200 := hd
  have es : ((fX11_deviationOf (A 217)) - p).toInt = ((fX11_deviationOf (A 217))).toInt - p.toInt := ti_sub (by omega)
  refine xj_toB (xj_leaveQ h hw.w3 hw.1.2.2.2.1 hw.1.2.2.2.2.1 h0) (hw.w3.ag ag_leaveQ) i20 ?_
  rw [dv_piece ⟨k1.1, by have := k1.2; omega⟩ (by rw [es]; omega) (by decide), es]
  omega
theorem xj_goPass (h : XJ A) (hw : WF A) : XJ (sGoPass A).2 := by
  unfold sGoPass
  by_cases h1n : ¬ (sReasonP A ≤ 0)
  · rw [if_neg h1n]; exact h
  have h1 := Decidable.not_not.mp h1n
  rw [if_pos h1]
  have h0 : A 206 ≠ 0 := fun e0 => by
    unfold sReasonP at h1
    rw [if_pos e0] at h1
    exact absurd h1 (by decide)
  obtain ⟨dd, x, q1, q2, q3, q4⟩ := hw.fk h0
  have l := inn_lt q2
  obtain ⟨a1, a2, a3, a4, a5, a6⟩ := lv_lo hw.1.2.2.2.1 h0
  obtain ⟨s1, s2, s3, s4⟩ := sub1 hw.1.2.2.2.1 h0
  have i21 : inn (sLeave A 206) 21 := by rw [a2]; exact s4
  have w1 := hw.w3.ag (ag_leave hw.1.2.2.2.1)
  have x2 := xj_st (j := 214) (x := A 214 + 1) (xj_leave h hw.w3 hw.1.2.2.2.1 h0) (Or.inl (by omega)) w1 i21
  exact xj_st x2 (Or.inr ⟨_, l, by omega⟩) (w1.ag (AG.st (by omega) (by omega) (fun k hk => by omega))) (by rw [st_n (by omega)]; exact i21)
theorem xj_goDay (h : XJ A) (hw : WF A) : XJ (sGoDay A).2 := by
  unfold sGoDay
  by_cases h1 : A 210 = 999
  · rw [if_pos h1]; exact h
  · rw [if_neg h1]
    exact xj_st h (Or.inl (by omega)) hw.w3 hw.1.2.2.2.1
theorem xj_notes (h : XJ A) (hw : W3 A) (hW : inn (A 206) 21) (hk : k < 5) : XJ (sNotes A k x) := by
  have l1 := inn_lt hw.1
  have l3 := inn_lt hw.2.2
  have l4 := inn_lt hW
  obtain ⟨h1, h2, h3, h4⟩ := h
  refine ⟨fun t ht => ?_, fun i hi => ?_, fun i hi => ?_, fun u hu i hi => ?_⟩
  · rw [sNotes_o (by omega)] at ht
    rw [sNotes_o (by omega)]; exact h1 t ht
  · rw [sNotes_o (by omega)] at hi
    rw [sNotes_o (by omega)]; exact h2 i hi
  · rw [sNotes_o (by omega)] at hi
    rw [sNotes_o (by omega)]; exact h3 i hi
  · rw [sNotes_o (by omega)] at hu
    rw [sNotes_o (by omega)]; exact h4 u hu i hi
theorem xj_charts (h : XJ A) (hw : W3 A) (hW : inn (A 206) 21) (hk : k < (A 205).toNatClampNeg) (hc : inn (A ((78 + 21 * k + 8))) 13) (hx : -1000 ≤ x.toInt ∧ x.toInt ≤ 1000) : XJ (sCharts A k x) := by
  have l1 := inn_lt hw.1
  have l3 := inn_lt hw.2.2
  have l4 := inn_lt hW
  have lc := inn_lt hc
  have hn12 : A ((78 + 21 * k + 8)) ≠ 12 → (A ((78 + 21 * k + 8))).toNatClampNeg < 12 := fun h12 => by
    have : (A ((78 + 21 * k + 8))).toNatClampNeg ≠ 12 := fun e => h12 (Int32.toInt_inj.mp (by have := rn_to hc.1; rw [show (12 : Int32).toInt = 12 from rfl]; omega))
    omega
  have g : ∀ j, (j < (78 + 21 * k + 8) ∨ (78 + 21 * k + 20) < j) → sCharts A k x j = A j := fun j hj => by
    unfold sCharts
    by_cases h12 : A ((78 + 21 * k + 8)) = 12
    · rw [if_pos h12, st_n (by omega), st_n (by omega), shf_o (by omega)]
    · have := hn12 h12
      rw [if_neg h12, st_n (by omega), st_n (by omega)]
  obtain ⟨h1, h2, h3, h4⟩ := h
  refine ⟨fun t ht => ?_, fun i hi => ?_, fun i hi => ?_, fun u hu i hi => ?_⟩
  · rw [g _ (by omega)] at ht
    rw [g _ (by omega)]; exact h1 t ht
  · rw [g _ (by omega)] at hi
    rw [g _ (by omega)]; exact h2 i hi
  · rw [g _ (by omega)] at hi
    rw [g _ (by omega)]; exact h3 i hi
  · rw [g _ (by omega)] at hu
    by_cases q : u = k
    · subst q
      unfold sCharts
      by_cases h12 : A ((78 + 21 * u + 8)) = 12
      · rw [if_pos h12, st_n (by omega)]
        by_cases qi : i = 11
        · subst qi
          rw [st_s]; exact hx
        · rw [st_n (by omega)]
          unfold shf
          rw [if_pos (by omega)]
          exact h4 u hu (i + 1) (by omega)
      · have := hn12 h12
        rw [if_neg h12, st_n (by omega)]
        by_cases qi : i = (A ((78 + 21 * u + 8))).toNatClampNeg
        · subst qi
          rw [st_s]; exact hx
        · rw [st_n (by omega)]
          exact h4 u hu i hi
    · rw [g _ (by omega)]
      exact h4 u hu i hi
/-- what is measured of the first piece -/
theorem meas_t (h : XJ A) (hX : XI N A) (hw : WF A) (hWT : WT A) (ht : t < (A 203).toNatClampNeg) (h2 : sReason A t ≤ 0) : dv (A 183) - 297 ≤ (sMeas A t).toInt ∧ (sMeas A t).toInt ≤ dv (A 183) + 257 ∧ -400 ≤ dv (A 183) ∧ dv (A 183) ≤ 200 := by
  have h0 := sReason_ne h2
  obtain ⟨dd, xx, q1, q2, q3, q4, q5, q6, q7, q8, q9⟩ := hw.fk h0
  obtain ⟨s1, s2, s3, s4⟩ := sub1 hw.1.2.2.2.1 h0
  have hd := h.2.1 0 (by omega)
  have hd : -400 ≤ dv (A 183) ∧ dv (A 183) ≤ 200 := hd
  have edv : dv (A 183) = dd.toInt := by unfold dv; rw [q4]
  have hWY := hw.2.2.2.1.1 _ q3
  have hK := h.1 t ht
  have hL := hWY.1
  have eL : (sFL A).toInt = (A ((78 + 21 * ((fX11_typeOf (A 183)).toNatClampNeg) + 0))).toInt + dd.toInt := by
    unfold sFL
    rw [q4, ti_add (by omega)]
  have hfr : sFR A t ≠ -1 := fun e => by
    unfold sReason at h2
    rw [if_neg h0] at h2
    by_cases g1 : sDue A t = 0
    · rw [if_pos g1] at h2
      by_cases g2 : 5 * sStep (A (8 * t)) ≤ A ((78 + 21 * ((fX11_typeOf (A 183)).toNatClampNeg) + 2)) - A ((78 + 21 * ((fX11_typeOf (A 183)).toNatClampNeg) + 1))
      · rw [if_pos g2, e, if_neg (by decide)] at h2
        exact absurd h2 (by decide)
      · rw [if_neg g2] at h2
        exact absurd h2 (by decide)
    · rw [if_neg g1] at h2
      exact absurd h2 (by decide)
  have hk := (hw.2.1.1 _ ht).1
  have eN := rn_to (x := sFL A) (by omega)
  have hrn := rd_near (p := A ((78 + 21 * ((fX11_typeOf (A 183)).toNatClampNeg) + 3))) (l := (sFL A).toNatClampNeg) hWT (hX.1 t ht) hk (by omega) (by rw [of_to (by omega)]; exact hfr)
  rw [of_to (by omega)] at hrn
  have hrn : ((sFL A).toNatClampNeg : Int) - 97 ≤ (sFR A t).toInt ∧ (sFR A t).toInt ≤ (sFL A).toNatClampNeg + 57 := hrn
  unfold sMeas
  have e1 : (sFR A t - A (8 * t + 3)).toInt = (sFR A t).toInt - (A (8 * t + 3)).toInt := ti_sub (by omega)
  rw [ti_sub (by rw [e1]; omega), e1]
  omega
theorem judg_1 (h : sJudg A t = 1) : (A ((78 + 21 * ((fX11_typeOf (A 183)).toNatClampNeg) + 2))).toInt < (sMeas A t).toInt := by
  have hr : ∀ k y, sRes A k y = 1 → (A ((78 + 21 * k + 2))).toInt < y.toInt := fun k y e => by
    unfold sRes at e
    by_cases g : y ≤ A ((78 + 21 * k + 2))
    · rw [if_pos g] at e
      by_cases g2 : A ((78 + 21 * k + 1)) ≤ y
      · rw [if_pos g2] at e; exact absurd e (by decide)
      · rw [if_neg g2] at e; exact absurd e (by decide)
    · exact i_nle g
  unfold sJudg at h
  by_cases g : sStep (A (8 * t)) ≤ fX11_less (fX11_size (sMeas A t - A ((78 + 21 * ((fX11_typeOf (A 183)).toNatClampNeg) + 1)))) (fX11_size (sMeas A t - A ((78 + 21 * ((fX11_typeOf (A 183)).toNatClampNeg) + 2))))
  · rw [if_pos g] at h; exact hr _ _ h
  · rw [if_neg g] at h
    by_cases g2 : A 183 - A 183 / 2 * 2 = 0
    · rw [if_pos g2] at h; exact absurd h (by decide)
    · rw [if_neg g2] at h; exact hr _ _ h
theorem res_n3 {y : Int32} : sRes A k y ≠ 3 := fun e => by
  unfold sRes at e
  split at e
  · split at e <;> exact absurd e (by decide)
  · exact absurd e (by decide)
theorem judg3e (h : sJudg A t = 3) : A 183 - A 183 / 2 * 2 = 0 := by
  unfold sJudg at h
  by_cases g : sStep (A (8 * t)) ≤ fX11_less (fX11_size (sMeas A t - A ((78 + 21 * ((fX11_typeOf (A 183)).toNatClampNeg) + 1)))) (fX11_size (sMeas A t - A ((78 + 21 * ((fX11_typeOf (A 183)).toNatClampNeg) + 2))))
  · rw [if_pos g] at h; exact absurd h res_n3
  · rw [if_neg g] at h
    by_cases g2 : A 183 - A 183 / 2 * 2 = 0
    · exact g2
    · rw [if_neg g2] at h; exact absurd h res_n3
theorem xj_goJudge (h : XJ A) (hX : XI N A) (hw : WF A) (hWT : WT A) (hQ : inn (A 207) 3200) : XJ (sGoJudge A p).2 := by
  unfold sGoJudge
  by_cases h1 : sIsT A p = 0
  · rw [if_pos h1]; exact h
  rw [if_neg h1]
  by_cases h2n : ¬ (sReason A p.toNatClampNeg ≤ 0)
  · rw [if_neg h2n]; exact h
  have h2 := Decidable.not_not.mp h2n
  rw [if_pos h2]
  have hT := isT_in hw.1.1 h1
  have lT := inn_lt hT.1
  have h0 := sReason_ne h2
  obtain ⟨dd, xx, q1, q2, q3, q4, q5, q6, q7, q8, q9⟩ := hw.fk h0
  have lY := inn_lt q2
  have hWY := hw.2.2.2.1.1 _ q3
  have hM := meas_t h hX hw hWT hT.2 h2
  have hJ1 := judg_1 (A := A) (t := p.toNatClampNeg)
  have hJ3 := judg3e (A := A) (t := p.toNatClampNeg)
  have i8 : inn ((fX11_typeOf (A 183))) 8 := ⟨q2.1, by have := q2.2; omega⟩
  obtain ⟨a1, a2, a3, a4, a5, a6⟩ := lv_lo hw.1.2.2.2.1 h0
  obtain ⟨s1, s2, s3, s4⟩ := sub1 hw.1.2.2.2.1 h0
  generalize ht : p.toNatClampNeg = t at *
  have aL := ag_leave (A := A) hw.1.2.2.2.1
  have xL := xj_leave h hw.w3 hw.1.2.2.2.1 h0
  have wL : W3 (sLeave A) := hw.w3.ag aL
  have tL : t < ((sLeave A) 203).toNatClampNeg := by rw [aL.2.2.1]; exact hT.2
  have x1 : XJ (sJ1 A t) := xj_use xL lT
  have w1 : W3 (sJ1 A t) := w3_use wL tL
  have e206 : sJ1 A t 206 = A 206 - 1 := by unfold sJ1; rw [sUse_o (by omega), a2]
  have i20 : inn (sJ1 A t 206) 20 := by
    rw [e206]
    have := hw.1.2.2.2.1.2
    exact ⟨s4.1, by rw [s1]; omega⟩
  have i21 : inn (sJ1 A t 206) 21 := ⟨i20.1, by have := i20.2; omega⟩
  by_cases h3 : sJudg A t = 3
  · rw [if_pos h3]
    have e0 := hJ3 h3
    rw [q8] at e0
    have ep : A 183 + 1 = fX11_piece ((fX11_typeOf (A 183))) dd 1 := by
      have e1 := q1
      rw [e0] at e1
      refine (congrArg (fun y : Int32 => y + 1) e1).trans ?_
      show (((dd + 20000) * 8 + (fX11_typeOf (A 183))) * 2 + 0) + 1 = ((dd + 20000) * 8 + (fX11_typeOf (A 183))) * 2 + 1
      rw [Int32.add_zero]
    have hdv : dv (A 183 + 1) = dv (A 183) := by
      rw [ep, dv_piece i8 (by omega) (by decide)]
      unfold dv
      rw [q4]
    have xb := xj_toB (x := A 183 + 1) x1 w1 i20 (by rw [hdv]; omega)
    obtain ⟨b1, b2, b3, b4, b5, b6⟩ := tb_lo (p := A 183 + 1) i20
    have := add1 i20 (by omega)
    exact xj_st xb (Or.inl (by omega)) (w1.ag (ag_toB i20)) (by rw [b2]; exact ⟨by rw [this.1]; have := i20.1; omega, by rw [this.1]; have := i20.2; omega⟩)
  · rw [if_neg h3]
    have e207 : sJ1 A t 207 = A 207 := by unfold sJ1; rw [sUse_o (by omega), a1 _ (by omega) (by omega)]
    have x2 : XJ (sJ2 A t) := by
      unfold sJ2
      by_cases g : sJudg A t = 1
      · rw [if_pos g]
        refine xj_toQ x1 w1 i21 (by rw [e207]; exact hQ) ?_
        have hu := hJ1 g
        have := hWY.2.2.1.1
        rw [q4, dv_piece i8 (by omega) (by decide)]
        have ed : dv (A 183) = dd.toInt := by unfold dv; rw [q4]
        omega
      · rw [if_neg g]; exact x1
    have a2' : AG (sJ1 A t) (sJ2 A t) := by
      unfold sJ2
      split
      · exact ag_toQ
      · exact AG.rf
    have w2 := w1.ag a2'
    have e2 : sJ2 A t 206 = sJ1 A t 206 := by
      unfold sJ2
      split
      · unfold sToQ
        rw [st_n (by omega), st_n (by omega)]
      · rfl
    have i2 : inn (sJ2 A t 206) 21 := by rw [e2]; exact i21
    have x3 : XJ (sJ3 A t) := xj_st x2 (Or.inl (by omega)) w2 i2
    have w3 : W3 (sJ3 A t) := w2.ag (AG.st (by omega) (by omega) (fun k hk => by omega))
    have i3 : inn (sJ3 A t 206) 21 := by unfold sJ3; rw [st_n (by omega)]; exact i2
    have x4 : XJ (sJ4 A t) := xj_st x3 (Or.inl (by omega)) w3 i3
    have w4 : W3 (sJ4 A t) := w3.ag (AG.st (by omega) (by omega) (fun k hk => by omega))
    have i4 : inn (sJ4 A t 206) 21 := by unfold sJ4; rw [st_n (by omega)]; exact i3
    have x5 : XJ (sJ5 A t) := xj_st x4 (Or.inl (by omega)) w4 i4
    have w5 : W3 (sJ5 A t) := w4.ag (AG.st (by omega) (by omega) (fun k hk => by omega))
    have i5 : inn (sJ5 A t 206) 21 := by unfold sJ5; rw [st_n (by omega)]; exact i4
    have xn := xj_notes (x := (if sJudg A t ≤ 0 then 0 else 1)) x5 w5 i5 lY
    have wn : W3 (sNotes (sJ5 A t) ((fX11_typeOf (A 183)).toNatClampNeg) (if sJudg A t ≤ 0 then 0 else 1)) := w3_notes w5 lY
    have inn' : inn (sNotes (sJ5 A t) ((fX11_typeOf (A 183)).toNatClampNeg) (if sJudg A t ≤ 0 then 0 else 1) 206) 21 := by rw [sNotes_o (by omega)]; exact i5
    have kY : (fX11_typeOf (A 183)).toNatClampNeg < ((sNotes (sJ5 A t) ((fX11_typeOf (A 183)).toNatClampNeg) (if sJudg A t ≤ 0 then 0 else 1)) 205).toNatClampNeg := by
      have e5 : ((sJ5 A t) 205).toNatClampNeg = (A 205).toNatClampNeg := by
        have g1 : sJ5 A t 205 = sJ2 A t 205 := by unfold sJ5 sJ4 sJ3; rw [st_n (by omega), st_n (by omega), st_n (by omega)]
        rw [g1, a2'.2.2.2.2]
        unfold sJ1
        rw [sUse_o (by omega), aL.2.2.2.2]
      rw [sNotes_o (by omega), e5]
      exact q3
    have e8 : sNotes (sJ5 A t) ((fX11_typeOf (A 183)).toNatClampNeg) (if sJudg A t ≤ 0 then 0 else 1) ((78 + 21 * ((fX11_typeOf (A 183)).toNatClampNeg) + 8)) = A ((78 + 21 * ((fX11_typeOf (A 183)).toNatClampNeg) + 8)) := by
      rw [sNotes_o (by omega)]
      have c1 : sJ5 A t ((78 + 21 * ((fX11_typeOf (A 183)).toNatClampNeg) + 8)) = sJ1 A t ((78 + 21 * ((fX11_typeOf (A 183)).toNatClampNeg) + 8)) := by
        unfold sJ5 sJ4 sJ3
        rw [st_n (by omega), st_n (by omega), st_n (by omega)]
        unfold sJ2
        split
        · unfold sToQ
          rw [st_n (by omega), st_n (by omega)]
        · rfl
      rw [c1]
      unfold sJ1
      rw [sUse_o (by omega), a1 _ (by omega) (by omega)]
    have xc := xj_charts (x := sMeas A t) xn wn inn' kY (by rw [e8]; exact hWY.2.2.2.2.2.2.2.2.1) (by omega)
    have ac := ag_charts (A := sNotes (sJ5 A t) ((fX11_typeOf (A 183)).toNatClampNeg) (if sJudg A t ≤ 0 then 0 else 1)) (x := sMeas A t) lY (by rw [e8]; exact hWY.2.2.2.2.2.2.2.2.1)
    have ic : inn (sCharts (sNotes (sJ5 A t) ((fX11_typeOf (A 183)).toNatClampNeg) (if sJudg A t ≤ 0 then 0 else 1)) ((fX11_typeOf (A 183)).toNatClampNeg) (sMeas A t) 206) 21 := by
      have lc := inn_lt hWY.2.2.2.2.2.2.2.2.1
      unfold sCharts
      rw [e8]
      split
      · rw [st_n (by omega), st_n (by omega), shf_o (by omega)]; exact inn'
      · rw [st_n (by omega), st_n (by omega)]; exact inn'
    unfold sJ6
    exact xj_st xc (Or.inr ⟨_, lY, by omega⟩) (wn.ag ac) ic
theorem xj_exO (h : XJ A) (hX : XI N A) (hw : WF A) (hWT : WT A) (hQ : inn (A 207) 3200) : XJ (exO A k p p2).2 := by
  unfold exO
  split
  · exact xj_goMeasure h hw
  split
  · exact xj_goCalibrate h hX hw
  split
  · exact xj_goBring h hw
  split
  · exact xj_goJudge h hX hw hWT hQ
  split
  · exact xj_goFile h hw
  split
  · exact xj_goPass h hw
  · exact xj_goDay h hw
theorem xj_addTool (h : XJ A) (hw : WF A) : XJ (rAddTool A p1 p2).2 := by
  unfold rAddTool
  by_cases h1 : fX11_in p1 0 4 = 0
  · rw [if_pos h1]; exact h
  rw [if_neg h1]
  by_cases h2 : fX11_in p2 (-30) 30 = 0
  · rw [if_pos h2]; exact h
  rw [if_neg h2]
  by_cases h3 : A 203 = 6
  · rw [if_pos h3]; exact h
  rw [if_neg h3]
  show XJ (sAddTool A p1 p2)
  have l1 := inn_lt hw.1.1
  have h36 : inn (A 203) 6 := ⟨hw.1.1.1, by
    have := hw.1.1.2
    have : (A 203).toInt ≠ 6 := fun e => h3 (Int32.toInt_inj.mp e)
    omega⟩
  have l6 := inn_lt h36
  have l3 := inn_lt hw.1.2.2.1
  have l4 := inn_lt hw.1.2.2.2.1
  have e203 : ((sAddTool A p1 p2) 203).toNatClampNeg = (A 203).toNatClampNeg + 1 := by
    unfold sAddTool
    rw [st_s]
    exact (add1 h36 (by omega)).2
  have g : ∀ j, j ≠ 8 * (A 203).toNatClampNeg → j ≠ 8 * (A 203).toNatClampNeg + 1 → j ≠ 8 * (A 203).toNatClampNeg + 7 → j ≠ 203 → sAddTool A p1 p2 j = A j := fun j a b c d => by unfold sAddTool; rw [st_n d, st_n c, st_n b, st_n a]
  obtain ⟨x1, x2, x3, x4⟩ := h
  refine ⟨fun t ht => ?_, fun i hi => ?_, fun i hi => ?_, fun u hu i hi => ?_⟩
  · rw [e203] at ht
    rw [g _ (by omega) (by omega) (by omega) (by omega)]
    by_cases q : t = (A 203).toNatClampNeg
    · rw [q, hw.2.1.2 _ (by omega) (by omega)]; decide
    · exact x1 t (by omega)
  · rw [g _ (by omega) (by omega) (by omega) (by omega)] at hi
    rw [g _ (by omega) (by omega) (by omega) (by omega)]; exact x2 i hi
  · rw [g _ (by omega) (by omega) (by omega) (by omega)] at hi
    rw [g _ (by omega) (by omega) (by omega) (by omega)]; exact x3 i hi
  · rw [g _ (by omega) (by omega) (by omega) (by omega)] at hu
    rw [g _ (by omega) (by omega) (by omega) (by omega)]; exact x4 u hu i hi
theorem xj_addBlock (h : XJ A) (hw : WF A) : XJ (rAddBlock A p1 p2).2 := by
  unfold rAddBlock
  by_cases h1 : fX11_in p1 1 5000 = 0
  · rw [if_pos h1]; exact h
  rw [if_neg h1]
  by_cases h2 : fX11_in p2 (-3) 3 = 0
  · rw [if_pos h2]; exact h
  rw [if_neg h2]
  by_cases h3 : A 204 = 10
  · rw [if_pos h3]; exact h
  rw [if_neg h3]
  show XJ (sAddBlock A p1 p2)
  have h36 : inn (A 204) 10 := ⟨hw.1.2.1.1, by
    have := hw.1.2.1.2
    have : (A 204).toInt ≠ 10 := fun e => h3 (Int32.toInt_inj.mp e)
    omega⟩
  have l6 := inn_lt h36
  have l1 := inn_lt hw.1.1
  have l3 := inn_lt hw.1.2.2.1
  have l4 := inn_lt hw.1.2.2.2.1
  have g : ∀ j, j < 48 ∨ 78 ≤ j → j ≠ 204 → sAddBlock A p1 p2 j = A j := fun j a d => by unfold sAddBlock; rw [st_n d, st_n (by omega), st_n (by omega)]
  obtain ⟨x1, x2, x3, x4⟩ := h
  refine ⟨fun t ht => ?_, fun i hi => ?_, fun i hi => ?_, fun u hu i hi => ?_⟩
  · rw [g _ (by omega) (by omega)] at ht
    rw [g _ (by omega) (by omega)]; exact x1 t ht
  · rw [g _ (by omega) (by omega)] at hi
    rw [g _ (by omega) (by omega)]; exact x2 i hi
  · rw [g _ (by omega) (by omega)] at hi
    rw [g _ (by omega) (by omega)]; exact x3 i hi
  · rw [g _ (by omega) (by omega)] at hu
    rw [g _ (by omega) (by omega)]; exact x4 u hu i hi
theorem xj_addType (h : XJ A) (hw : WF A) : XJ (rAddType A p1 p2 p3 p4).2 := by
  unfold rAddType
  by_cases h1 : fX11_in p1 100 14000 = 0
  · rw [if_pos h1]; exact h
  rw [if_neg h1]
  by_cases h2 : fX11_in p2 (-99) 0 = 0
  · rw [if_pos h2]; exact h
  rw [if_neg h2]
  by_cases h2b : fX11_in p3 0 99 = 0
  · rw [if_pos h2b]; exact h
  rw [if_neg h2b]
  by_cases h2c : fX11_isMaterial p4 = 0
  · rw [if_pos h2c]; exact h
  rw [if_neg h2c]
  by_cases h3 : A 205 = 5
  · rw [if_pos h3]; exact h
  rw [if_neg h3]
  show XJ (sAddType A p1 p2 p3 p4)
  have l1 := inn_lt hw.1.1
  have l4 := inn_lt hw.1.2.2.2.1
  have h36 : inn (A 205) 5 := ⟨hw.1.2.2.1.1, by
    have := hw.1.2.2.1.2
    have : (A 205).toInt ≠ 5 := fun e => h3 (Int32.toInt_inj.mp e)
    omega⟩
  have l6 := inn_lt h36
  have hz := hw.2.2.2.1.2
  have e205 : ((sAddType A p1 p2 p3 p4) 205).toNatClampNeg = (A 205).toNatClampNeg + 1 := by
    unfold sAddType
    rw [st_s]
    exact (add1 h36 (by omega)).2
  have g : ∀ j, j < (78 + 21 * ((A 205).toNatClampNeg) + 0) ∨ (78 + 21 * ((A 205).toNatClampNeg) + 3) < j → j ≠ 205 → sAddType A p1 p2 p3 p4 j = A j := fun j a d => by unfold sAddType; rw [st_n d, st_n (by omega), st_n (by omega), st_n (by omega), st_n (by omega)]
  obtain ⟨x1, x2, x3, x4⟩ := h
  refine ⟨fun t ht => ?_, fun i hi => ?_, fun i hi => ?_, fun u hu i hi => ?_⟩
  · rw [g _ (by omega) (by omega)] at ht
    rw [g _ (by omega) (by omega)]; exact x1 t ht
  · rw [g _ (by omega) (by omega)] at hi
    rw [g _ (by omega) (by omega)]; exact x2 i hi
  · rw [g _ (by omega) (by omega)] at hi
    rw [g _ (by omega) (by omega)]; exact x3 i hi
  · rw [e205] at hu
    rw [g _ (by omega) (by omega)]
    by_cases q : u = (A 205).toNatClampNeg
    · rw [q, hz _ (by omega) (by omega)]; decide
    · exact x4 u (by omega) i hi
theorem xj_setWarmth (h : XJ A) (hw : WF A) : XJ (rSetWarmth A p1).2 := by
  unfold rSetWarmth
  split
  · exact h
  · exact xj_st h (Or.inl (by omega)) hw.w3 hw.1.2.2.2.1
theorem xj_setTolerance (h : XJ A) (hw : WF A) : XJ (rSetTolerance A p1).2 := by
  unfold rSetTolerance
  split
  · exact h
  · exact xj_st h (Or.inl (by omega)) hw.w3 hw.1.2.2.2.1
theorem xj_throw (h : XJ A) (hw : WF A) (hk : k < (A 205).toNatClampNeg) (h12 : c ≤ 12) : XJ (sThrow A k c tol mid) := by
  have l1 := inn_lt hw.1.1
  have l3 := inn_lt hw.1.2.2.1
  have l4 := inn_lt hw.1.2.2.2.1
  have hl := fS_le (s := (78 + 21 * k + 9)) (tol := tol) (mid := mid) (B := A) (i := c)
  have g : ∀ j, (j < (78 + 21 * k + 8) ∨ (78 + 21 * k + 20) < j) → sThrow A k c tol mid j = A j := fun j hj => by
    unfold sThrow
    rw [st_n (by omega), zF_o (by omega), fS_o (by omega)]
  obtain ⟨x1, x2, x3, x4⟩ := h
  have hr := fS_rng (s := (78 + 21 * k + 9)) (tol := tol) (mid := mid) (B := A) (c := 12) (P := fun y => -1000 ≤ y.toInt ∧ y.toInt ≤ 1000) (fun j hj => by
    have := x4 k hk j hj
    rw [show (78 + 21 * k + 9) + j = (78 + 21 * k + (9 + j)) by omega]
    exact this) (i := c) h12
  refine ⟨fun t ht => ?_, fun i hi => ?_, fun i hi => ?_, fun u hu i hi => ?_⟩
  · rw [g _ (by omega)] at ht
    rw [g _ (by omega)]; exact x1 t ht
  · rw [g _ (by omega)] at hi
    rw [g _ (by omega)]; exact x2 i hi
  · rw [g _ (by omega)] at hi
    rw [g _ (by omega)]; exact x3 i hi
  · rw [g _ (by omega)] at hu
    by_cases q : u = k
    · subst q
      unfold sThrow
      rw [st_n (by omega)]
      by_cases q2 : (fS ((78 + 21 * u + 9)) tol mid A c).1 ≤ i ∧ i < c
      · rw [zF_i (by omega) (by omega)]; decide
      · rw [zF_o (by omega)]
        have := hr i hi
        rw [show (78 + 21 * u + 9) + i = (78 + 21 * u + (9 + i)) by omega] at this
        exact this
    · rw [g _ (by omega)]
      exact x4 u hu i hi
end T53d
