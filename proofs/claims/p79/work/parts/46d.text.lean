/-! THE PLAIN PART 17d: an order is done, by the model and by the class. -/
section T46d
variable {n m b k : Nat} {u v w : vSt} {A : Ar} {r : Int32 × Ar} {p p2 p3 c : Int32}
/-- an order is refused, or what it tells is above both refusals -/
def EP (r : Int32 × Ar) (A : Ar) : Prop := ((r.1 = -100001 ∨ r.1 = -100002) ∧ r.2 = A) ∨ -100001 < r.1.toInt
theorem ep_meas (hw : WF A) : EP (sGoMeasure A p p2 p3) A := by
  unfold sGoMeasure EP
  by_cases h1 : sIsT A p = 0
  · rw [if_pos h1]; exact Or.inl ⟨Or.inl rfl, rfl⟩
  rw [if_neg h1]
  by_cases h2 : fX11_isMaterial p2 = 0
  · rw [if_pos h2]; exact Or.inl ⟨Or.inl rfl, rfl⟩
  rw [if_neg h2]
  by_cases h3 : fX11_isLength p3 = 0
  · rw [if_pos h3]; exact Or.inl ⟨Or.inl rfl, rfl⟩
  rw [if_neg h3]
  by_cases h4 : 0 ≤ sReading A p.toNatClampNeg p2 p3
  · rw [if_pos h4]
    have hp := isT_in hw.1.1 h1
    have hk := (hw.2.1.1 _ hp.2).2
    have hr := (rd_or (A := A) (t := p.toNatClampNeg) (m := p2) (len := p3)).resolve_left (rd_lt.mp h4)
    exact Or.inr (by dsimp only; rw [ti_sub (by omega)]; omega)
  · rw [if_neg h4]; exact Or.inl ⟨Or.inr rfl, rfl⟩
theorem ep_cal (hw : WF A) : EP (sGoCalibrate A p p2) A := by
  unfold sGoCalibrate EP
  by_cases h1 : sIsT A p = 0
  · rw [if_pos h1]; exact Or.inl ⟨Or.inl rfl, rfl⟩
  rw [if_neg h1]
  by_cases h2 : fX11_in p2 1 15000 = 0
  · rw [if_pos h2]; exact Or.inl ⟨Or.inl rfl, rfl⟩
  rw [if_neg h2]
  by_cases h4 : 0 ≤ sRdC A p.toNatClampNeg p2
  · rw [if_pos h4]
    have hl := in_iff.mp h2
    rw [show (1 : Int32).toInt = 1 from rfl, show (15000 : Int32).toInt = 15000 from rfl] at hl
    have h5 := i_le h4
    rw [show (0 : Int32).toInt = 0 from rfl] at h5
    have hr : (sRdC A p.toNatClampNeg p2).toInt ≤ 15010 := by
      unfold sRdC
      split
      · decide
      · rcases rd_or (A := A) (t := p.toNatClampNeg) (m := 0) (len := sTruly A (sStack A p2)) with e | e
        · rw [e]; decide
        · exact e.2
    exact Or.inr (by dsimp only; rw [ti_sub (by omega)]; omega)
  · rw [if_neg h4]; exact Or.inl ⟨Or.inr rfl, rfl⟩
theorem ep_day (hw : WF A) : EP (sGoDay A) A := by
  unfold sGoDay EP
  by_cases h1 : A 210 = 999
  · rw [if_pos h1]; exact Or.inl ⟨Or.inr rfl, rfl⟩
  · rw [if_neg h1]
    have hN := inn_lt hw.1.1
    exact Or.inr (by have := (due_b (A := st A 210 (A 210 + 1)) (n := (A 203).toNatClampNeg) (by omega)).1; dsimp only; omega)
theorem ep_bring (hw : WF A) : EP (sGoBring A p p2) A := by
  unfold sGoBring EP
  by_cases h1 : (if sIsY A p = 0 then 0 else (if fX11_in p2 (-200) 200 = 0 then 0 else (if A ((78 + 21 * p.toNatClampNeg + 0)) + p2 < 1 then 0 else 1)) : Int32) = 0
  · rw [if_pos h1]; exact Or.inl ⟨Or.inl rfl, rfl⟩
  rw [if_neg h1]
  by_cases h2 : A 206 = 20
  · rw [if_pos h2]; exact Or.inl ⟨Or.inr rfl, rfl⟩
  · rw [if_neg h2]
    have hn := hw.1.2.2.2.1
    exact Or.inr (by dsimp only; rw [(add1 hn (by decide)).1]; have := hn.1; omega)
theorem ep_judge : EP (sGoJudge A p) A := by
  unfold sGoJudge EP
  by_cases h1 : sIsT A p = 0
  · rw [if_pos h1]; exact Or.inl ⟨Or.inl rfl, rfl⟩
  rw [if_neg h1]
  by_cases h2 : sReason A p.toNatClampNeg ≤ 0
  · rw [if_pos h2]
    refine Or.inr ?_
    rcases judg_or (A := A) p.toNatClampNeg with q | q | q | q <;> (dsimp only; rw [q]; decide)
  · rw [if_neg h2]; exact Or.inl ⟨Or.inr rfl, rfl⟩
theorem ep_file (hw : WF A) : EP (sGoFile A p) A := by
  unfold sGoFile EP
  by_cases h1 : fX11_in p 1 99 = 0
  · rw [if_pos h1]; exact Or.inl ⟨Or.inl rfl, rfl⟩
  rw [if_neg h1]
  by_cases h2 : (if A 207 ≤ 0 then 0 else (if 20 ≤ A 206 then 0 else 1) : Int32) = 0
  · rw [if_pos h2]; exact Or.inl ⟨Or.inr rfl, rfl⟩
  rw [if_neg h2]
  by_cases h3 : 1 ≤ A ((78 + 21 * ((fX11_typeOf (A 217))).toNatClampNeg + 0)) + ((fX11_deviationOf (A 217)) - p)
  · rw [if_pos h3]
    refine Or.inr ?_
    have g1 : ¬ A 207 ≤ 0 := fun q => h2 (by rw [if_pos q])
    have h0 : A 207 ≠ 0 := fun q => g1 (by rw [q]; decide)
    obtain ⟨a1, a2, a3, a4⟩ := hw.qk h0
    have hl := in_iff.mp h1
    rw [show (1 : Int32).toInt = 1 from rfl, show (99 : Int32).toInt = 99 from rfl] at hl
    dsimp only
    rw [ti_sub (by omega)]
    omega
  · rw [if_neg h3]; exact Or.inl ⟨Or.inr rfl, rfl⟩
theorem ep_pass (hw : WF A) : EP (sGoPass A) A := by
  unfold sGoPass EP
  by_cases h1 : sReasonP A ≤ 0
  · rw [if_pos h1]
    have h0 : A 206 ≠ 0 := fun e => by
      unfold sReasonP at h1
      rw [if_pos e] at h1
      exact absurd h1 (by decide)
    obtain ⟨dd, x, q1, q2, q3, q4⟩ := hw.fk h0
    have := q2.1
    exact Or.inr (by dsimp only; omega)
  · rw [if_neg h1]; exact Or.inl ⟨Or.inr rfl, rfl⟩
/-- what judging does to the bench and to the queue -/
theorem judge_r (hw : WF A) (hQ : inn (A 207) 3200) : (((sGoJudge A p).2) 207).toNatClampNeg ≤ (A 207).toNatClampNeg + 1 ∧ (((sGoJudge A p).2) 207).toNatClampNeg + (((sGoJudge A p).2) 206).toNatClampNeg ≤ (A 207).toNatClampNeg + (A 206).toNatClampNeg ∧ (sGoJudge A p).2 208 = A 208 ∧ (sGoJudge A p).2 209 = A 209 := by
  unfold sGoJudge
  by_cases h1 : sIsT A p = 0
  · rw [if_pos h1]; exact ⟨Nat.le_add_right _ _, Nat.le_refl _, rfl, rfl⟩
  rw [if_neg h1]
  by_cases h2 : ¬ sReason A p.toNatClampNeg ≤ 0
  · rw [if_neg h2]; exact ⟨Nat.le_add_right _ _, Nat.le_refl _, rfl, rfl⟩
  have h2 := Decidable.not_not.mp h2
  rw [if_pos h2]
  dsimp only
  have h0 := sReason_ne h2
  have hlt := (isT_in hw.1.1 h1).2
  have hn6 := inn_lt hw.1.1
  generalize ht : p.toNatClampNeg = t at *
  obtain ⟨l1, l2, l3, l4, l5, l6⟩ := lv_lo hw.1.2.2.2.1 h0
  obtain ⟨dd, x, q1, q2, q3, q4⟩ := hw.fk h0
  have q25 := inn_lt q2
  have j1 : ∀ j, 78 ≤ j → (j < 183 ∨ 203 ≤ j) → j ≠ 206 → sJ1 A t j = A j := fun j h0 h1 h2 => by unfold sJ1; rw [sUse_o (by omega), l1 j (by omega) h2]
  have j6 : sJ1 A t 206 = A 206 - 1 := by unfold sJ1; rw [sUse_o (by omega), l2]
  have hs := sub1 hw.1.2.2.2.1 h0
  by_cases hJ : sJudg A t = 3
  · rw [if_pos hJ]
    have hnJ : inn (sJ1 A t 206) 20 := by
      rw [j6]; exact ⟨hs.2.2.2.1, by rw [hs.1]; have := hw.1.2.2.2.1.2; omega⟩
    obtain ⟨k1, k2, k3, k4, k5, k6⟩ := tb_lo (A := sJ1 A t) (p := A 183 + 1) hnJ
    have e7 : sJD A t 207 = A 207 := by unfold sJD; rw [st_n (by omega), k1 207 (by omega) (by omega), j1 _ (by omega) (by omega) (by omega)]
    have e6 : sJD A t 206 = sJ1 A t 206 + 1 := by unfold sJD; rw [st_n (by omega), k2]
    have e9 : (sJ1 A t 206 + 1).toNatClampNeg = (sJ1 A t 206).toNatClampNeg + 1 := (add1 hnJ (by omega)).2
    have o : ∀ j, 208 ≤ j → j < 212 → sJD A t j = A j := fun j g1 g2 => by unfold sJD; rw [st_n (by omega), k1 j (by omega) (by omega), j1 _ (by omega) (by omega) (by omega)]
    rw [e7, e6, e9, j6, hs.2.2.1, o 208 (by omega) (by omega), o 209 (by omega) (by omega)]
    exact ⟨by omega, by omega, rfl, rfl⟩
  · rw [if_neg hJ]
    have hq := tq_lo (A := sJ1 A t) (p := fX11_piece ((fX11_typeOf (A 183))) (fX11_deviationOf (A 183)) 0) (by rw [j1 _ (by omega) (by omega) (by omega)]; exact hQ)
    have e2 : ∀ j, 78 ≤ j → j < 183 → sJ2 A t j = A j := fun j g1 g2 => by
      unfold sJ2
      split
      · rw [hq.1 j (by omega) (by omega), j1 _ g1 (by omega) (by omega)]
      · exact j1 _ g1 (by omega) (by omega)
    have e5 : ∀ j, j < 212 → sJ5 A t j = sJ2 A t j := fun j hj => by
      unfold sJ5 sJ4 sJ3
      rw [st_n (by omega), st_n (by omega), st_n (by omega)]
    have h8 : inn (sNotes (sJ5 A t) ((fX11_typeOf (A 183)).toNatClampNeg) (if sJudg A t ≤ 0 then 0 else 1) ((78 + 21 * ((fX11_typeOf (A 183)).toNatClampNeg) + 8))) 13 := by
      rw [sNotes_o (by omega), e5 _ (by omega), e2 _ (by omega) (by omega)]
      exact (hw.2.2.2.1.1 _ q3).2.2.2.2.2.2.2.2.1
    have e6 : ∀ j, 203 ≤ j → j < 212 → sJ6 A t j = sJ2 A t j := fun j g1 g2 => by
      unfold sJ6
      rw [st_n (by omega), ch_lo j (by omega) h8, sNotes_o (by omega), e5 _ g2]
    rw [e6 207 (by omega) (by omega), e6 206 (by omega) (by omega), e6 208 (by omega) (by omega), e6 209 (by omega) (by omega)]
    have o : ∀ j, 208 ≤ j → j < 212 → sJ2 A t j = A j := fun j g1 g2 => by
      unfold sJ2
      split
      · rw [hq.1 j (by omega) (by omega), j1 _ (by omega) (by omega) (by omega)]
      · exact j1 _ (by omega) (by omega) (by omega)
    rw [o 208 (by omega) (by omega), o 209 (by omega) (by omega)]
    have j7 : sJ1 A t 207 = A 207 := j1 _ (by omega) (by omega) (by omega)
    by_cases hJ1 : sJudg A t = 1
    · have g7 : ((sJ2 A t) 207).toNatClampNeg = ((sJ1 A t) 207).toNatClampNeg + 1 := by unfold sJ2; rw [if_pos hJ1]; exact hq.2.2.2.2.1
      have g6 : sJ2 A t 206 = sJ1 A t 206 := by unfold sJ2; rw [if_pos hJ1]; exact hq.1 206 (by omega) (by omega)
      rw [g6, j6, hs.2.2.1]
      rw [j7] at g7
      exact ⟨by omega, by omega, rfl, rfl⟩
    · have g7 : sJ2 A t = sJ1 A t := by unfold sJ2; rw [if_neg hJ1]
      rw [g7, j6, j7, hs.2.2.1]
      exact ⟨by omega, by omega, rfl, rfl⟩
theorem file_r (hw : WF A) : (((sGoFile A p).2) 207).toNatClampNeg ≤ (A 207).toNatClampNeg ∧ (((sGoFile A p).2) 207).toNatClampNeg + (((sGoFile A p).2) 206).toNatClampNeg ≤ (A 207).toNatClampNeg + (A 206).toNatClampNeg ∧ (sGoFile A p).2 208 = A 208 ∧ (sGoFile A p).2 209 = A 209 := by
  unfold sGoFile
  by_cases h1 : fX11_in p 1 99 = 0
  · rw [if_pos h1]; exact ⟨Nat.le_refl _, Nat.le_refl _, rfl, rfl⟩
  rw [if_neg h1]
  by_cases h2 : (if A 207 ≤ 0 then 0 else (if 20 ≤ A 206 then 0 else 1) : Int32) = 0
  · rw [if_pos h2]; exact ⟨Nat.le_refl _, Nat.le_refl _, rfl, rfl⟩
  rw [if_neg h2]
  by_cases h3 : 1 ≤ A ((78 + 21 * ((fX11_typeOf (A 217))).toNatClampNeg + 0)) + ((fX11_deviationOf (A 217)) - p)
  · rw [if_pos h3]
    dsimp only
    have g1 : ¬ A 207 ≤ 0 := fun q => h2 (by rw [if_pos q])
    have g2 : ¬ 20 ≤ A 206 := fun q => h2 (by rw [if_neg g1, if_pos q])
    have h0 : A 207 ≠ 0 := fun q => g1 (by rw [q]; decide)
    have hw6 := hw.1.2.2.2.1
    have hn : inn (A 206) 20 := ⟨hw6.1, by
      rw [Int32.le_iff_toInt_le, show (20 : Int32).toInt = 20 from rfl] at g2
      omega⟩
    obtain ⟨l1, l2, l3, l4, l5, l6⟩ := lq_lo hw.1.2.2.2.2.1 h0
    have hs := sub1 hw.1.2.2.2.2.1 h0
    have e6 : sLeaveQ A 206 = A 206 := l1 _ (by omega) (by omega)
    obtain ⟨k1, k2, k3, k4, k5, k6⟩ := tb_lo (A := sLeaveQ A) (p := fX11_piece ((fX11_typeOf (A 217))) ((fX11_deviationOf (A 217)) - p) 0) (by rw [e6]; exact hn)
    rw [k1 207 (by omega) (by omega), k1 208 (by omega) (by omega), k1 209 (by omega) (by omega), k5, l2, e6, hs.2.2.1, l1 208 (by omega) (by omega), l1 209 (by omega) (by omega)]
    exact ⟨by omega, by omega, rfl, rfl⟩
  · rw [if_neg h3]; exact ⟨Nat.le_refl _, Nat.le_refl _, rfl, rfl⟩
theorem pass_r (hw : WF A) : (((sGoPass A).2) 207).toNatClampNeg ≤ (A 207).toNatClampNeg ∧ (((sGoPass A).2) 207).toNatClampNeg + (((sGoPass A).2) 206).toNatClampNeg ≤ (A 207).toNatClampNeg + (A 206).toNatClampNeg ∧ (sGoPass A).2 208 = A 208 ∧ (sGoPass A).2 209 = A 209 := by
  unfold sGoPass
  by_cases h1 : sReasonP A ≤ 0
  · rw [if_pos h1]
    dsimp only
    have h0 : A 206 ≠ 0 := fun e => by
      unfold sReasonP at h1
      rw [if_pos e] at h1
      exact absurd h1 (by decide)
    obtain ⟨l1, l2, l3, l4, l5, l6⟩ := lv_lo hw.1.2.2.2.1 h0
    obtain ⟨dd, x, q1, q2, q3, q4⟩ := hw.fk h0
    have q25 := inn_lt q2
    have hs := sub1 hw.1.2.2.2.1 h0
    have o : ∀ j, 203 ≤ j → j < 212 → st (st (sLeave A) 214 (A 214 + 1)) ((78 + 21 * ((fX11_typeOf (A 183)).toNatClampNeg) + 7)) 1 j = sLeave A j := fun j g1 g2 => by rw [st_n (by omega), st_n (by omega)]
    rw [o 207 (by omega) (by omega), o 206 (by omega) (by omega), o 208 (by omega) (by omega), o 209 (by omega) (by omega), l1 207 (by omega) (by omega), l1 208 (by omega) (by omega), l1 209 (by omega) (by omega), l2, hs.2.2.1]
    exact ⟨by omega, by omega, rfl, rfl⟩
  · rw [if_neg h1]; exact ⟨Nat.le_refl _, Nat.le_refl _, rfl, rfl⟩

theorem bring_r (hw : WF A) : (((sGoBring A p p2).2) 207).toNatClampNeg ≤ (A 207).toNatClampNeg ∧ (((sGoBring A p p2).2) 207).toNatClampNeg + (((sGoBring A p p2).2) 206).toNatClampNeg ≤ (A 207).toNatClampNeg + (A 206).toNatClampNeg + 1 ∧ (sGoBring A p p2).2 208 = A 208 ∧ (sGoBring A p p2).2 209 = A 209 := by
  unfold sGoBring
  by_cases h1 : (if sIsY A p = 0 then 0 else (if fX11_in p2 (-200) 200 = 0 then 0 else (if A ((78 + 21 * p.toNatClampNeg + 0)) + p2 < 1 then 0 else 1)) : Int32) = 0
  · rw [if_pos h1]; exact ⟨Nat.le_refl _, Nat.le_add_right _ _, rfl, rfl⟩
  rw [if_neg h1]
  by_cases h20 : A 206 = 20
  · rw [if_pos h20]; exact ⟨Nat.le_refl _, Nat.le_add_right _ _, rfl, rfl⟩
  rw [if_neg h20]
  have hn := hw.1.2.2.2.1
  have hn20 : inn (A 206) 20 := ⟨hn.1, by have := hn.2; have : (A 206).toInt ≠ 20 := fun e => h20 (Int32.toInt_inj.mp e); omega⟩
  obtain ⟨l1, l2, l3, l4, l5, l6⟩ := tb_lo (A := A) (p := fX11_piece p p2 0) hn20
  dsimp only
  rw [st_n (by omega), st_n (by omega), st_n (by omega), st_n (by omega), l5, l1 207 (by omega) (by omega), l1 208 (by omega) (by omega), l1 209 (by omega) (by omega)]
  exact ⟨Nat.le_refl _, by omega, rfl, rfl⟩
theorem meas_hi (hw : WF A) {j : Nat} (hj : 48 ≤ j) : (sGoMeasure A p p2 p3).2 j = A j := by
  unfold sGoMeasure
  split
  · rfl
  · split
    · rfl
    · split
      · rfl
      · split
        · rename_i h1 _ _ _
          have := inn_lt (isT_in hw.1.1 h1).1
          exact sUse_o (by omega)
        · rfl
theorem day_lo {j : Nat} (hj : j ≠ 210) : (sGoDay A).2 j = A j := by
  unfold sGoDay
  split
  · rfl
  · exact st_n hj
/-- the order of a letter -/
def exO (A : Ar) (k : Nat) (p q : Int32) : Int32 × Ar := if k = 0 then sGoMeasure A p 0 q else (if k = 1 then sGoCalibrate A p q else (if k = 2 then sGoBring A p q else (if k = 3 then sGoJudge A p else (if k = 4 then sGoFile A p else (if k = 5 then sGoPass A else sGoDay A)))))
theorem ex_ep (hw : WF A) : EP (exO A k p p2) A := by
  unfold exO
  split
  · exact ep_meas hw
  split
  · exact ep_cal hw
  split
  · exact ep_bring hw
  split
  · exact ep_judge
  split
  · exact ep_file hw
  split
  · exact ep_pass hw
  exact ep_day hw
theorem ex_q (hw : WF A) (hQ : inn (A 207) 3200) : (((exO A k p p2).2) 207).toNatClampNeg ≤ (A 207).toNatClampNeg + (if k = 3 then 1 else 0) ∧ (((exO A k p p2).2) 207).toNatClampNeg + (((exO A k p p2).2) 206).toNatClampNeg ≤ (A 207).toNatClampNeg + (A 206).toNatClampNeg + (if k = 2 then 1 else 0) ∧ (exO A k p p2).2 208 = A 208 ∧ (exO A k p p2).2 209 = A 209 := by
  unfold exO
  by_cases h0 : k = 0
  · rw [if_pos h0, meas_hi hw (by omega), meas_hi hw (by omega), meas_hi hw (by omega), meas_hi hw (by omega)]
    exact ⟨Nat.le_add_right _ _, Nat.le_add_right _ _, rfl, rfl⟩
  rw [if_neg h0]
  by_cases h1 : k = 1
  · rw [if_pos h1, cal_o hw (by omega), cal_o hw (by omega), cal_o hw (by omega), cal_o hw (by omega)]
    exact ⟨Nat.le_add_right _ _, Nat.le_add_right _ _, rfl, rfl⟩
  rw [if_neg h1]
  by_cases h2 : k = 2
  · rw [if_pos h2, if_pos h2, if_neg (by omega)]
    exact bring_r hw
  rw [if_neg h2, if_neg h2]
  by_cases h3 : k = 3
  · rw [if_pos h3, if_pos h3]
    exact judge_r hw hQ
  rw [if_neg h3, if_neg h3]
  by_cases h4 : k = 4
  · rw [if_pos h4]; exact file_r hw
  rw [if_neg h4]
  by_cases h5 : k = 5
  · rw [if_pos h5]; exact pass_r hw
  rw [if_neg h5, day_lo (by omega), day_lo (by omega), day_lo (by omega), day_lo (by omega)]
  exact ⟨Nat.le_refl _, Nat.le_refl _, rfl, rfl⟩
theorem lk_c : (lk c = 0 → c = 109) ∧ (lk c = 1 → c = 99) ∧ (lk c = 2 → c = 112) ∧ (lk c = 3 → c = 106) ∧ (lk c = 4 → c = 102) ∧ (lk c = 5 → c = 117) ∧ (lk c = 6 → c = 100) := by
  unfold lk
  by_cases h1 : c = 109
  · rw [if_pos h1]; simp [h1]
  rw [if_neg h1]
  by_cases h2 : c = 99
  · rw [if_pos h2]; simp [h2]
  rw [if_neg h2]
  by_cases h3 : c = 112
  · rw [if_pos h3]; simp [h3]
  rw [if_neg h3]
  by_cases h4 : c = 106
  · rw [if_pos h4]; simp [h4]
  rw [if_neg h4]
  by_cases h5 : c = 102
  · rw [if_pos h5]; simp [h5]
  rw [if_neg h5]
  by_cases h6 : c = 117
  · rw [if_pos h6]; simp [h6]
  rw [if_neg h6]
  by_cases h7 : c = 100
  · rw [if_pos h7]; simp [h7]
  rw [if_neg h7]
  exact ⟨fun z => by omega, fun z => by omega, fun z => by omega, fun z => by omega, fun z => by omega, fun z => by omega, fun z => by omega⟩
theorem ex_0 : exO A 0 p p2 = sGoMeasure A p 0 p2 := by unfold exO; rw [if_pos rfl]
theorem ex_1 : exO A 1 p p2 = sGoCalibrate A p p2 := by unfold exO; rw [if_neg (by decide), if_pos rfl]
theorem ex_2 : exO A 2 p p2 = sGoBring A p p2 := by unfold exO; rw [if_neg (by decide), if_neg (by decide), if_pos rfl]
theorem ex_3 : exO A 3 p p2 = sGoJudge A p := by unfold exO; rw [if_neg (by decide), if_neg (by decide), if_neg (by decide), if_pos rfl]
theorem ex_4 : exO A 4 p p2 = sGoFile A p := by unfold exO; rw [if_neg (by decide), if_neg (by decide), if_neg (by decide), if_neg (by decide), if_pos rfl]
theorem ex_5 : exO A 5 p p2 = sGoPass A := by unfold exO; rw [if_neg (by decide), if_neg (by decide), if_neg (by decide), if_neg (by decide), if_neg (by decide), if_pos rfl]
theorem ex_6 : exO A 6 p p2 = sGoDay A := by unfold exO; rw [if_neg (by decide), if_neg (by decide), if_neg (by decide), if_neg (by decide), if_neg (by decide), if_neg (by decide)]
/-- the model does it -/
theorem m_do (hw : WF (w 462)) (hQ : inn (w 462 207) 3200) (hk : lk (w 461 13) < 7) : fX11_doesOrder 461 w = ((exO (w 462) (lk (w 461 13)) (w 461 14) (w 461 15)).1, uA w 462 (exO (w 462) (lk (w 461 13)) (w 461 14) (w 461 15)).2) ∧ oX11_doesOrder 461 w := by
  obtain ⟨c0, c1, c2, c3, c4, c5, c6⟩ := lk_c (c := w 461 13)
  unfold fX11_doesOrder oX11_doesOrder
  have hc : lk (w 461 13) = 0 ∨ lk (w 461 13) = 1 ∨ lk (w 461 13) = 2 ∨ lk (w 461 13) = 3 ∨ lk (w 461 13) = 4 ∨ lk (w 461 13) = 5 ∨ lk (w 461 13) = 6 := by omega
  rcases hc with e | e | e | e | e | e | e
  · rw [e, ex_0, c0 e]
    refine ⟨?_, ?_⟩
    · repeat rw [if_neg (by decide)]
      rw [if_pos rfl, m_goMeasure hw.1.1]
    · repeat refine ⟨fun q => absurd q (by decide), fun _ => ?_⟩
      exact ⟨fun _ => mo_goMeasure hw.1.1, fun q => absurd rfl q⟩
  · rw [e, ex_1, c1 e]
    refine ⟨?_, ?_⟩
    · rw [if_pos rfl, m_goCalibrate hw.1.1 hw.1.2.1]
    · exact ⟨fun _ => mo_goCalibrate hw.1.1 hw.1.2.1, fun q => absurd rfl q⟩
  · rw [e, ex_2, c2 e]
    refine ⟨?_, ?_⟩
    · repeat rw [if_neg (by decide)]
      rw [if_pos rfl, m_goBring hw.1.2.2.2.1 hw.1.2.2.1]
    · repeat refine ⟨fun q => absurd q (by decide), fun _ => ?_⟩
      exact ⟨fun _ => mo_goBring hw.1.2.2.2.1 hw.1.2.2.1, fun q => absurd rfl q⟩
  · rw [e, ex_3, c3 e]
    have M := m_goJudge (p := w 461 14) hw hQ
    refine ⟨?_, ?_⟩
    · repeat rw [if_neg (by decide)]
      rw [if_pos rfl, M.1]
    · repeat refine ⟨fun q => absurd q (by decide), fun _ => ?_⟩
      exact ⟨fun _ => M.2, fun q => absurd rfl q⟩
  · rw [e, ex_4, c4 e]
    have M := m_goFile (a := w 461 14) hw
    refine ⟨?_, ?_⟩
    · repeat rw [if_neg (by decide)]
      rw [if_pos rfl, M.1]
    · repeat refine ⟨fun q => absurd q (by decide), fun _ => ?_⟩
      exact ⟨fun _ => M.2, fun q => absurd rfl q⟩
  · rw [e, ex_5, c5 e]
    have M := m_goPass hw
    refine ⟨?_, ?_⟩
    · repeat rw [if_neg (by decide)]
      rw [if_pos rfl, M.1]
    · repeat refine ⟨fun q => absurd q (by decide), fun _ => ?_⟩
      exact ⟨fun _ => M.2, fun q => absurd rfl q⟩
  · rw [e, ex_6, c6 e]
    have M := m_goDay hw
    refine ⟨?_, ?_⟩
    · rw [if_neg (by decide), if_pos rfl, M.1]
    · refine ⟨fun q => absurd q (by decide), fun _ => ?_⟩
      exact ⟨fun _ => M.2, fun q => absurd rfl q⟩
/-- the class refuses it as the model does -/
theorem c_ref (h : SR v b A) (hw : WF A) (hc : CP v b) (hk : v 452 0 = Int32.ofNat k) (hk7 : k < 7) : fX7_refusalOf b 452 v = rfc (exO A k (v 452 1) (v 452 2)).1 := by
  unfold fX7_refusalOf exO
  rw [hk]
  have hcases : k = 0 ∨ k = 1 ∨ k = 2 ∨ k = 3 ∨ k = 4 ∨ k = 5 ∨ k = 6 := by omega
  rcases hcases with e | e | e | e | e | e | e <;> rw [e]
  · rw [if_pos (by decide), if_pos rfl]; exact c_refM h hw
  · rw [if_neg (by decide), if_pos (by decide), if_neg (by decide), if_pos rfl]; exact c_refC h hw
  · rw [if_neg (by decide), if_neg (by decide), if_pos (by decide), if_neg (by decide), if_neg (by decide), if_pos rfl]; exact c_refB h hw
  · rw [if_neg (by decide), if_neg (by decide), if_neg (by decide), if_pos (by decide), if_neg (by decide), if_neg (by decide), if_neg (by decide), if_pos rfl]; exact c_refJ h hw hc
  · rw [if_neg (by decide), if_neg (by decide), if_neg (by decide), if_neg (by decide), if_pos (by decide), if_neg (by decide), if_neg (by decide), if_neg (by decide), if_neg (by decide), if_pos rfl]; exact c_refF h hw hc
  · rw [if_neg (by decide), if_neg (by decide), if_neg (by decide), if_neg (by decide), if_neg (by decide), if_pos (by decide), if_neg (by decide), if_neg (by decide), if_neg (by decide), if_neg (by decide), if_neg (by decide), if_pos rfl]; exact c_refP h hw hc
  · rw [if_neg (by decide), if_neg (by decide), if_neg (by decide), if_neg (by decide), if_neg (by decide), if_neg (by decide), if_neg (by decide), if_neg (by decide), if_neg (by decide), if_neg (by decide), if_neg (by decide), if_neg (by decide)]; exact c_refD h hw
theorem po_meas (hb : kd b = 7) (h : SR v b A) (hw : WF A) (hc : CP v b) (hx : rfc (sGoMeasure A p p2 p3).1 = 0) : PO b v (fX2_measureLength (b + 1) p p2 p3 v).2 := by
  obtain ⟨z1, z2, z3, z4⟩ := c_meas (p := p) (m := p2) (len := p3) hb h hw (by rw [c_refM h hw]; exact hx)
  refine PO.of hc z3 ?_
  unfold fX2_measureLength
  by_cases h1 : fX2_hasTool (b + 1) p v = 0
  · rw [if_pos h1]; exact ⟨rfl, rfl⟩
  · rw [if_neg h1]
    have hu := (c_useOn (v := v) (q := ((b + 1 + 2) + 13 + p.toNatClampNeg)) (A := A) (t := p.toNatClampNeg) (m := p2))
    have hT : sIsT A p ≠ 0 := by rw [← c_hasTool h.1.1 hw.1.1]; exact h1
    have hm : inn p2 3 := by
      refine mat_in (fun q => ?_)
      unfold sGoMeasure at hx
      rw [if_neg hT, if_pos q] at hx
      exact rfn1 hx
    have := (hu hm (h.tool hw hT).1).2
    exact ⟨this _ (by omega), this _ (by omega)⟩
/-- .. and does it -/
theorem c_perf (hb : kd b = 7) (h : SR v b A) (hw : WF A) (ha : AC A) (hc : CP v b) (hQ : inn (A 207) 3200) (hk : v 452 0 = Int32.ofNat k) (hk7 : k < 7) (hx : rfc (exO A k (v 452 1) (v 452 2)).1 = 0) :
    SR (fX7_perform b 452 v) b (exO A k (v 452 1) (v 452 2)).2 ∧ PO b v (fX7_perform b 452 v) ∧ WF (exO A k (v 452 1) (v 452 2)).2 ∧ AC (exO A k (v 452 1) (v 452 2)).2 ∧ oX7_perform b 452 v := by
  have hkk : kkX7_perform b 452 v = pot (fX7_perform b 452 v) - pot v := rfl
  unfold oX7_perform
  rw [hkk]
  unfold fX7_perform
  unfold exO at hx ⊢
  rw [hk]
  have hcases : k = 0 ∨ k = 1 ∨ k = 2 ∨ k = 3 ∨ k = 4 ∨ k = 5 ∨ k = 6 := by omega
  rcases hcases with e | e | e | e | e | e | e <;> rw [e] at hx ⊢
  · rw [if_pos rfl] at hx
    rw [if_pos (show Int32.ofNat 0 = 0 from rfl), if_pos rfl]
    obtain ⟨z1, z2, z3, z4⟩ := c_meas (p := v 452 1) (m := 0) (len := v 452 2) hb h hw (by rw [c_refM h hw]; exact hx)
    exact ⟨z2, po_meas hb h hw hc hx, z4, ac_same ha (fun j hj => meas_hi hw (by omega)), fun q => absurd rfl q⟩
  · rw [if_neg (by decide), if_pos rfl] at hx
    rw [if_neg (by decide), if_pos (by decide), if_neg (by decide), if_pos rfl]
    obtain ⟨z1, z2, z3, z4, z5⟩ := c_cal hb h hw hc (by rw [c_refC h hw]; exact hx)
    exact ⟨z2, z3, z4, ac_same ha (fun j hj => cal_o hw (by omega)), fun _ => ⟨fun _ => z5, fun q => absurd (by decide) q⟩⟩
  · rw [if_neg (by decide), if_neg (by decide), if_pos rfl] at hx
    rw [if_neg (by decide), if_neg (by decide), if_pos (by decide), if_neg (by decide), if_neg (by decide), if_pos rfl]
    obtain ⟨z1, z2, z3, z4, z5, z6⟩ := c_bring hb h hw ha hc (by rw [c_refB h hw]; exact hx)
    exact ⟨z2, z3, z4, z5, fun _ => ⟨fun q => absurd q (by decide), fun _ => ⟨fun _ => ⟨z6, by unfold kkX0_bringPiece; dsimp only; omega⟩, fun q => absurd (by decide) q⟩⟩⟩
  · rw [if_neg (by decide), if_neg (by decide), if_neg (by decide), if_pos rfl] at hx
    rw [if_neg (by decide), if_neg (by decide), if_neg (by decide), if_pos (by decide), if_neg (by decide), if_neg (by decide), if_neg (by decide), if_pos rfl]
    obtain ⟨z1, z2, z3, z4, z5, z6⟩ := c_judge hb h hw ha hc hQ (by rw [c_refJ h hw hc]; exact hx)
    exact ⟨z2, z3, z4, z5, fun _ => ⟨fun q => absurd q (by decide), fun _ => ⟨fun q => absurd q (by decide), fun _ => ⟨fun _ => ⟨z6, by unfold kkX0_judgeFirst; dsimp only; omega⟩, fun q => absurd (by decide) q⟩⟩⟩⟩
  · rw [if_neg (by decide), if_neg (by decide), if_neg (by decide), if_neg (by decide), if_pos rfl] at hx
    rw [if_neg (by decide), if_neg (by decide), if_neg (by decide), if_neg (by decide), if_pos (by decide), if_neg (by decide), if_neg (by decide), if_neg (by decide), if_neg (by decide), if_pos rfl]
    obtain ⟨z1, z2, z3, z4, z5, z6⟩ := c_file hb h hw ha hc (by rw [c_refF h hw hc]; exact hx)
    exact ⟨z2, z3, z4, z5, fun _ => ⟨fun q => absurd q (by decide), fun _ => ⟨fun q => absurd q (by decide), fun _ => ⟨fun q => absurd q (by decide), fun _ => ⟨fun _ => ⟨z6, by unfold kkX0_fileFirst; dsimp only; omega⟩, fun q => absurd (by decide) q⟩⟩⟩⟩⟩
  · rw [if_neg (by decide), if_neg (by decide), if_neg (by decide), if_neg (by decide), if_neg (by decide), if_pos rfl] at hx
    rw [if_neg (by decide), if_neg (by decide), if_neg (by decide), if_neg (by decide), if_neg (by decide), if_pos (by decide), if_neg (by decide), if_neg (by decide), if_neg (by decide), if_neg (by decide), if_neg (by decide), if_pos rfl]
    obtain ⟨z1, z2, z3, z4, z5, z6⟩ := c_pass hb h hw ha hc (by rw [c_refP h hw hc]; exact hx)
    exact ⟨z2, z3, z4, z5, fun _ => ⟨fun q => absurd q (by decide), fun _ => ⟨fun q => absurd q (by decide), fun _ => ⟨fun q => absurd q (by decide), fun _ => ⟨fun q => absurd q (by decide), fun _ => fun _ => z6⟩⟩⟩⟩⟩
  · rw [if_neg (by decide), if_neg (by decide), if_neg (by decide), if_neg (by decide), if_neg (by decide), if_neg (by decide)] at hx
    rw [if_neg (by decide), if_neg (by decide), if_neg (by decide), if_neg (by decide), if_neg (by decide), if_neg (by decide), if_pos (by decide), if_neg (by decide), if_neg (by decide), if_neg (by decide), if_neg (by decide), if_neg (by decide), if_neg (by decide)]
    obtain ⟨z1, z2, z3, z4, z5⟩ := c_day hb h hw ha hc (by rw [c_refD h hw]; exact hx)
    exact ⟨z2, z3, z4, z5, fun _ => ⟨fun q => absurd q (by decide), fun _ => ⟨fun q => absurd q (by decide), fun _ => ⟨fun q => absurd q (by decide), fun _ => ⟨fun q => absurd q (by decide), fun _ => fun q => absurd q (by decide)⟩⟩⟩⟩⟩
end T46d
