/-! THE PLAIN PART 11c: judging, filing and passing between calls. -/
section T40c
variable {n m : Nat} {u v : vSt} {A : Ar} {r : Int32 × Ar} {p p2 p3 k : Int32}
/-- what judging does to the bench and to the queue -/
theorem judge_q (hw : WF A) (hQ : inn (A 207) 3200) : (((sGoJudge A p).2) 207).toNatClampNeg ≤ (A 207).toNatClampNeg + 1 ∧ (((sGoJudge A p).2) 207).toNatClampNeg + (((sGoJudge A p).2) 206).toNatClampNeg ≤ (A 207).toNatClampNeg + (A 206).toNatClampNeg + 1 ∧ (sGoJudge A p).2 208 = A 208 ∧ (sGoJudge A p).2 209 = A 209 := by
  unfold sGoJudge
  by_cases h1 : sIsT A p = 0
  · rw [if_pos h1]; exact ⟨Nat.le_add_right _ _, Nat.le_add_right _ _, rfl, rfl⟩
  rw [if_neg h1]
  by_cases h2 : ¬ sReason A p.toNatClampNeg ≤ 0
  · rw [if_neg h2]; exact ⟨Nat.le_add_right _ _, Nat.le_add_right _ _, rfl, rfl⟩
  have h2 := Decidable.not_not.mp h2
  rw [if_pos h2]
  dsimp only
  have h0 := sReason_ne h2
  have hlt := (isT_in hw.1.1 h1).2
  have hn6 := inn_lt hw.1.1
  generalize ht : p.toNatClampNeg = t at *
  obtain ⟨l1, l2, l3, l4, l5, l6⟩ := lv_lo hw.1.2.2.2.1 h0
  obtain ⟨dd, x, q1, q2, q3, q4⟩ := hw.fk h0
  have q25 := inn_lt q2
  have j1 : ∀ j, 78 ≤ j → (j < 183 ∨ 203 ≤ j) → j ≠ 206 → sJ1 A t j = A j := fun j h0 h1 h2 => by unfold sJ1; rw [sUse_o (by omega), l1 j (by omega) h2]
  have j6 : sJ1 A t 206 = A 206 - 1 := by unfold sJ1; rw [sUse_o (by omega), l2]
  have hs := sub1 hw.1.2.2.2.1 h0
  by_cases hJ : sJudg A t = 3
  · rw [if_pos hJ]
    have hnJ : inn (sJ1 A t 206) 20 := by
      rw [j6]; exact ⟨hs.2.2.2.1, by rw [hs.1]; have := hw.1.2.2.2.1.2; omega⟩
    obtain ⟨k1, k2, k3, k4, k5, k6⟩ := tb_lo (A := sJ1 A t) (p := A 183 + 1) hnJ
    have e7 : sJD A t 207 = A 207 := by unfold sJD; rw [st_n (by omega), k1 207 (by omega) (by omega), j1 _ (by omega) (by omega) (by omega)]
    have e6 : sJD A t 206 = sJ1 A t 206 + 1 := by unfold sJD; rw [st_n (by omega), k2]
    have e9 : (sJ1 A t 206 + 1).toNatClampNeg = (sJ1 A t 206).toNatClampNeg + 1 := (add1 hnJ (by omega)).2
    have o : ∀ j, 208 ≤ j → j < 212 → sJD A t j = A j := fun j g1 g2 => by unfold sJD; rw [st_n (by omega), k1 j (by omega) (by omega), j1 _ (by omega) (by omega) (by omega)]
    rw [e7, e6, e9, j6, hs.2.2.1, o 208 (by omega) (by omega), o 209 (by omega) (by omega)]
    exact ⟨by omega, by omega, rfl, rfl⟩
  · rw [if_neg hJ]
    have hq := tq_lo (A := sJ1 A t) (p := fX11_piece ((fX11_typeOf (A 183))) (fX11_deviationOf (A 183)) 0) (by rw [j1 _ (by omega) (by omega) (by omega)]; exact hQ)
    have e2 : ∀ j, 78 ≤ j → j < 183 → sJ2 A t j = A j := fun j g1 g2 => by
      unfold sJ2
      split
      · rw [hq.1 j (by omega) (by omega), j1 _ g1 (by omega) (by omega)]
      · exact j1 _ g1 (by omega) (by omega)
    have e5 : ∀ j, j < 212 → sJ5 A t j = sJ2 A t j := fun j hj => by
      unfold sJ5 sJ4 sJ3
      rw [st_n (by omega), st_n (by omega), st_n (by omega)]
    have h8 : inn (sNotes (sJ5 A t) ((fX11_typeOf (A 183)).toNatClampNeg) (if sJudg A t ≤ 0 then 0 else 1) ((78 + 21 * ((fX11_typeOf (A 183)).toNatClampNeg) + 8))) 13 := by
      rw [sNotes_o (by omega), e5 _ (by omega), e2 _ (by omega) (by omega)]
      exact (hw.2.2.2.1.1 _ q3).2.2.2.2.2.2.2.2.1
    have e6 : ∀ j, 203 ≤ j → j < 212 → sJ6 A t j = sJ2 A t j := fun j g1 g2 => by
      unfold sJ6
      rw [st_n (by omega), ch_lo j (by omega) h8, sNotes_o (by omega), e5 _ g2]
    rw [e6 207 (by omega) (by omega), e6 206 (by omega) (by omega), e6 208 (by omega) (by omega), e6 209 (by omega) (by omega)]
    have o : ∀ j, 208 ≤ j → j < 212 → sJ2 A t j = A j := fun j g1 g2 => by
      unfold sJ2
      split
      · rw [hq.1 j (by omega) (by omega), j1 _ (by omega) (by omega) (by omega)]
      · exact j1 _ (by omega) (by omega) (by omega)
    rw [o 208 (by omega) (by omega), o 209 (by omega) (by omega)]
    have j7 : sJ1 A t 207 = A 207 := j1 _ (by omega) (by omega) (by omega)
    by_cases hJ1 : sJudg A t = 1
    · have g7 : ((sJ2 A t) 207).toNatClampNeg = ((sJ1 A t) 207).toNatClampNeg + 1 := by unfold sJ2; rw [if_pos hJ1]; exact hq.2.2.2.2.1
      have g6 : sJ2 A t 206 = sJ1 A t 206 := by unfold sJ2; rw [if_pos hJ1]; exact hq.1 206 (by omega) (by omega)
      rw [g6, j6, hs.2.2.1]
      rw [j7] at g7
      exact ⟨by omega, by omega, rfl, rfl⟩
    · have g7 : sJ2 A t = sJ1 A t := by unfold sJ2; rw [if_neg hJ1]
      rw [g7, j6, j7, hs.2.2.1]
      exact ⟨by omega, by omega, rfl, rfl⟩
theorem file_q (hw : WF A) : (((sGoFile A p).2) 207).toNatClampNeg ≤ (A 207).toNatClampNeg + 1 ∧ (((sGoFile A p).2) 207).toNatClampNeg + (((sGoFile A p).2) 206).toNatClampNeg ≤ (A 207).toNatClampNeg + (A 206).toNatClampNeg + 1 ∧ (sGoFile A p).2 208 = A 208 ∧ (sGoFile A p).2 209 = A 209 := by
  unfold sGoFile
  by_cases h1 : fX11_in p 1 99 = 0
  · rw [if_pos h1]; exact ⟨Nat.le_add_right _ _, Nat.le_add_right _ _, rfl, rfl⟩
  rw [if_neg h1]
  by_cases h2 : (if A 207 ≤ 0 then 0 else (if 20 ≤ A 206 then 0 else 1) : Int32) = 0
  · rw [if_pos h2]; exact ⟨Nat.le_add_right _ _, Nat.le_add_right _ _, rfl, rfl⟩
  rw [if_neg h2]
  by_cases h3 : 1 ≤ A ((78 + 21 * ((fX11_typeOf (A 217))).toNatClampNeg + 0)) + ((fX11_deviationOf (A 217)) - p)
  · rw [if_pos h3]
    dsimp only
    have g1 : ¬ A 207 ≤ 0 := fun q => h2 (by rw [if_pos q])
    have g2 : ¬ 20 ≤ A 206 := fun q => h2 (by rw [if_neg g1, if_pos q])
    have h0 : A 207 ≠ 0 := fun q => g1 (by rw [q]; decide)
    have hw6 := hw.1.2.2.2.1
    have hn : inn (A 206) 20 := ⟨hw6.1, by
      rw [Int32.le_iff_toInt_le, show (20 : Int32).toInt = 20 from rfl] at g2
      omega⟩
    obtain ⟨l1, l2, l3, l4, l5, l6⟩ := lq_lo hw.1.2.2.2.2.1 h0
    have hs := sub1 hw.1.2.2.2.2.1 h0
    have e6 : sLeaveQ A 206 = A 206 := l1 _ (by omega) (by omega)
    obtain ⟨k1, k2, k3, k4, k5, k6⟩ := tb_lo (A := sLeaveQ A) (p := fX11_piece ((fX11_typeOf (A 217))) ((fX11_deviationOf (A 217)) - p) 0) (by rw [e6]; exact hn)
    rw [k1 207 (by omega) (by omega), k1 208 (by omega) (by omega), k1 209 (by omega) (by omega), k5, l2, e6, hs.2.2.1, l1 208 (by omega) (by omega), l1 209 (by omega) (by omega)]
    exact ⟨by omega, by omega, rfl, rfl⟩
  · rw [if_neg h3]; exact ⟨Nat.le_add_right _ _, Nat.le_add_right _ _, rfl, rfl⟩
theorem pass_q (hw : WF A) : (((sGoPass A).2) 207).toNatClampNeg ≤ (A 207).toNatClampNeg + 1 ∧ (((sGoPass A).2) 207).toNatClampNeg + (((sGoPass A).2) 206).toNatClampNeg ≤ (A 207).toNatClampNeg + (A 206).toNatClampNeg + 1 ∧ (sGoPass A).2 208 = A 208 ∧ (sGoPass A).2 209 = A 209 := by
  unfold sGoPass
  by_cases h1 : sReasonP A ≤ 0
  · rw [if_pos h1]
    dsimp only
    have h0 : A 206 ≠ 0 := fun e => by
      unfold sReasonP at h1
      rw [if_pos e] at h1
      exact absurd h1 (by decide)
    obtain ⟨l1, l2, l3, l4, l5, l6⟩ := lv_lo hw.1.2.2.2.1 h0
    obtain ⟨dd, x, q1, q2, q3, q4⟩ := hw.fk h0
    have q25 := inn_lt q2
    have hs := sub1 hw.1.2.2.2.1 h0
    have o : ∀ j, 203 ≤ j → j < 212 → st (st (sLeave A) 214 (A 214 + 1)) ((78 + 21 * ((fX11_typeOf (A 183)).toNatClampNeg) + 7)) 1 j = sLeave A j := fun j g1 g2 => by rw [st_n (by omega), st_n (by omega)]
    rw [o 207 (by omega) (by omega), o 206 (by omega) (by omega), o 208 (by omega) (by omega), o 209 (by omega) (by omega), l1 207 (by omega) (by omega), l1 208 (by omega) (by omega), l1 209 (by omega) (by omega), l2, hs.2.2.1]
    exact ⟨by omega, by omega, rfl, rfl⟩
  · rw [if_neg h1]; exact ⟨Nat.le_add_right _ _, Nat.le_add_right _ _, rfl, rfl⟩
theorem eo_judge : EO (sGoJudge A p) A := by
  unfold sGoJudge EO
  by_cases h1 : sIsT A p = 0
  · rw [if_pos h1]; exact Or.inl ⟨Or.inl rfl, rfl⟩
  rw [if_neg h1]
  by_cases h2 : sReason A p.toNatClampNeg ≤ 0
  · rw [if_pos h2]
    refine Or.inr ?_
    rcases judg_or (A := A) p.toNatClampNeg with q | q | q | q <;> (dsimp only; rw [q]; decide)
  · rw [if_neg h2]; exact Or.inl ⟨Or.inr rfl, rfl⟩
theorem eo_file (hw : WF A) : EO (sGoFile A p) A := by
  unfold sGoFile EO
  by_cases h1 : fX11_in p 1 99 = 0
  · rw [if_pos h1]; exact Or.inl ⟨Or.inl rfl, rfl⟩
  rw [if_neg h1]
  by_cases h2 : (if A 207 ≤ 0 then 0 else (if 20 ≤ A 206 then 0 else 1) : Int32) = 0
  · rw [if_pos h2]; exact Or.inl ⟨Or.inr rfl, rfl⟩
  rw [if_neg h2]
  by_cases h3 : 1 ≤ A ((78 + 21 * ((fX11_typeOf (A 217))).toNatClampNeg + 0)) + ((fX11_deviationOf (A 217)) - p)
  · rw [if_pos h3]
    refine Or.inr (rfc_0 ?_)
    have g1 : ¬ A 207 ≤ 0 := fun q => h2 (by rw [if_pos q])
    have h0 : A 207 ≠ 0 := fun q => g1 (by rw [q]; decide)
    obtain ⟨a1, a2, a3, a4⟩ := hw.qk h0
    have hl := in_iff.mp h1
    rw [show (1 : Int32).toInt = 1 from rfl, show (99 : Int32).toInt = 99 from rfl] at hl
    dsimp only
    rw [ti_sub (by omega)]
    omega
  · rw [if_neg h3]; exact Or.inl ⟨Or.inr rfl, rfl⟩
theorem eo_pass (hw : WF A) : EO (sGoPass A) A := by
  unfold sGoPass EO
  by_cases h1 : sReasonP A ≤ 0
  · rw [if_pos h1]
    have h0 : A 206 ≠ 0 := fun e => by
      unfold sReasonP at h1
      rw [if_pos e] at h1
      exact absurd h1 (by decide)
    obtain ⟨dd, x, q1, q2, q3, q4⟩ := hw.fk h0
    have := q2.1
    exact Or.inr (rfc_0 (by dsimp only; omega))
  · rw [if_neg h1]; exact Or.inl ⟨Or.inr rfl, rfl⟩
theorem qv_step {A' : Ar} (hI : Inv n m v) (h : (A' 207).toNatClampNeg ≤ ((v 462) 207).toNatClampNeg + 1 ∧ (A' 207).toNatClampNeg + (A' 206).toNatClampNeg ≤ ((v 462) 207).toNatClampNeg + ((v 462) 206).toNatClampNeg + 1 ∧ A' 208 = v 462 208 ∧ A' 209 = v 462 209) : QVp (n + 1) m v A' := by
  obtain ⟨_, _, _, _, ⟨_, x4, x5, _⟩, hN, _⟩ := hI
  exact ⟨QB.step hN.2.2.2.1 x4 x5 h.1 h.2.1, hN.2.2.2.2.cg h.2.2.1 h.2.2.2⟩
theorem Inv.q3200 (hI : Inv n m v) (hn : n ≤ 3192) : inn (v 462 207) 3200 := by
  have h := QB.lt hI.2.2.2.2.2.1.2.2.2.1 hn
  have hq := hI.2.2.2.2.2.1.2.1.1.2.2.2.2.1
  exact ⟨hq.1, by have := rn_to hq.1; omega⟩
theorem t_judge (hI : Inv n m v) (hn : n ≤ 3192) : oX10_judge 448 p v ∧ oX11_judge 461 p (fX10_judge 448 p v).2.2 ∧
    OKC n v (fX10_judge 448 p v).1 (fX10_judge 448 p v).2.1 (fX10_judge 448 p v).2.2 (fX11_judge 461 p (fX10_judge 448 p v).2.2).1 (fX11_judge 461 p (fX10_judge 448 p v).2.2).2 Int32.ofNat := by
  have hN := hI.2.2.2.2.2.1
  have hb := hI.1.1.1
  have hw := hN.2.1
  have hc := hI.2.1 _ hb
  have hQ := hI.q3200 hn
  have hE := eo_judge (A := v 462) (p := p)
  have hgo : ∀ w : vSt, w 462 = v 462 → fX11_goJudge 461 p w = ((sGoJudge (v 462) p).1, uA w 462 (sGoJudge (v 462) p).2) := fun w e => by
    have := (m_goJudge (v := w) (p := p) (by rw [e]; exact hw) (by rw [e]; exact hQ)).1
    rw [e] at this; exact this
  have hog : ∀ w : vSt, w 462 = v 462 → oX11_goJudge 461 p w := fun w e => (m_goJudge (by rw [e]; exact hw) (by rw [e]; exact hQ)).2
  have hr := c_refJ (p := p) hN.1 hw hc
  have hbe : ∀ w : vSt, fX11_begins 461 w 462 = w 462 := fun w => m_begins.1 _ (by decide) (by decide)
  unfold oX10_judge kkX10_judge fX10_judge oX11_judge fX11_judge
  rw [hr]
  by_cases hx : rfc (sGoJudge (v 462) p).1 = 0
  · rw [if_pos (ref_0.mpr hx)]
    obtain ⟨q1, q2, q3, q4, q5, q6⟩ := hI.rec
    have hr6 := c_refJ (p := p) q2 hw q3
    obtain ⟨z1, z2, hP, z4, z5, z6⟩ := c_judge hb q2 hw hN.2.2.1 q3 hQ (by rw [hr6]; exact hx)
    have G := gc7 (k := 2) (cc := Int32.ofNat) hI hE hgo hx hP z2 z4 z5 z1 (qv_step hI (judge_q hw hQ)) rfl
    simp only [q1]
    refine ⟨⟨hb, by omega, fun _ => ⟨q4, ?_, fun v6 e6 => by
      rw [e6, q1]
      refine ⟨hb, z6, ?_⟩
      unfold kkX10_recordState kkX0_judgeFirst
      have := hP.mono hb
      omega⟩⟩, ⟨m_begins.2.2.2.2, fun v2 e2 => ⟨hog _ (by rw [e2, hbe, (u461 hP hI).1]), fun v4 e4 => by rw [e4, e2]; exact G.1⟩⟩, G.2⟩
    unfold kkX10_recordState
    have := hP.mono hb
    omega
  · have h0 : ¬ fX10_refuse (rfc (sGoJudge (v 462) p).1) v = 0 := fun q => hx (ref_0.mp q)
    rw [if_neg h0]
    have G := gc7F (k := 2) (cc := Int32.ofNat) (z := 0) hI hE hgo hx h0 (ref_1 hx).2
    exact ⟨⟨hb, by omega, fun q => absurd q h0⟩, ⟨m_begins.2.2.2.2, fun v2 e2 => ⟨hog _ (by rw [e2, hbe]), fun v4 e4 => by rw [e4, e2]; exact G.1⟩⟩, G.2⟩
theorem t_file (hI : Inv n m v) : oX10_file 448 p v ∧ oX11_file 461 p (fX10_file 448 p v).2.2 ∧
    OKC n v (fX10_file 448 p v).1 (fX10_file 448 p v).2.1 (fX10_file 448 p v).2.2 (fX11_file 461 p (fX10_file 448 p v).2.2).1 (fX11_file 461 p (fX10_file 448 p v).2.2).2 Int32.ofNat := by
  have hN := hI.2.2.2.2.2.1
  have hb := hI.1.1.1
  have hw := hN.2.1
  have hc := hI.2.1 _ hb
  have hE := eo_file (A := v 462) (p := p) hw
  have hgo : ∀ w : vSt, w 462 = v 462 → fX11_goFile 461 p w = ((sGoFile (v 462) p).1, uA w 462 (sGoFile (v 462) p).2) := fun w e => by
    have := (m_goFile (v := w) (a := p) (by rw [e]; exact hw)).1
    rw [e] at this; exact this
  have hog : ∀ w : vSt, w 462 = v 462 → oX11_goFile 461 p w := fun w e => (m_goFile (by rw [e]; exact hw)).2
  have hr := c_refF (a := p) hN.1 hw hc
  have hbe : ∀ w : vSt, fX11_begins 461 w 462 = w 462 := fun w => m_begins.1 _ (by decide) (by decide)
  unfold oX10_file kkX10_file fX10_file oX11_file fX11_file
  rw [hr]
  by_cases hx : rfc (sGoFile (v 462) p).1 = 0
  · rw [if_pos (ref_0.mpr hx)]
    obtain ⟨q1, q2, q3, q4, q5, q6⟩ := hI.rec
    have hr6 := c_refF (a := p) q2 hw q3
    obtain ⟨z1, z2, hP, z4, z5, z6⟩ := c_file hb q2 hw hN.2.2.1 q3 (by rw [hr6]; exact hx)
    have G := gc7 (k := 2) (cc := Int32.ofNat) hI hE hgo hx hP z2 z4 z5 z1 (qv_step hI (file_q hw)) rfl
    simp only [q1]
    refine ⟨⟨hb, by omega, fun _ => ⟨q4, ?_, fun v6 e6 => by
      rw [e6, q1]
      refine ⟨hb, z6, ?_⟩
      unfold kkX10_recordState kkX0_fileFirst
      have := hP.mono hb
      omega⟩⟩, ⟨m_begins.2.2.2.2, fun v2 e2 => ⟨hog _ (by rw [e2, hbe, (u461 hP hI).1]), fun v4 e4 => by rw [e4, e2]; exact G.1⟩⟩, G.2⟩
    unfold kkX10_recordState
    have := hP.mono hb
    omega
  · have h0 : ¬ fX10_refuse (rfc (sGoFile (v 462) p).1) v = 0 := fun q => hx (ref_0.mp q)
    rw [if_neg h0]
    have G := gc7F (k := 2) (cc := Int32.ofNat) (z := 0) hI hE hgo hx h0 (ref_1 hx).2
    exact ⟨⟨hb, by omega, fun q => absurd q h0⟩, ⟨m_begins.2.2.2.2, fun v2 e2 => ⟨hog _ (by rw [e2, hbe]), fun v4 e4 => by rw [e4, e2]; exact G.1⟩⟩, G.2⟩
theorem t_passUnseen (hI : Inv n m v) : oX10_passUnseen 448 v ∧ oX11_passUnseen 461 (fX10_passUnseen 448 v).2.2 ∧ ((fX10_passUnseen 448 v).1 = 0 ∨ (fX10_passUnseen 448 v).1 = 2) ∧
    OKC n v (fX10_passUnseen 448 v).1 (fX10_passUnseen 448 v).2.1 (fX10_passUnseen 448 v).2.2 (fX11_passUnseen 461 (fX10_passUnseen 448 v).2.2).1 (fX11_passUnseen 461 (fX10_passUnseen 448 v).2.2).2 cc1 := by
  have hN := hI.2.2.2.2.2.1
  have hb := hI.1.1.1
  have hw := hN.2.1
  have hc := hI.2.1 _ hb
  have hE := eo_pass hw
  have hgo : ∀ w : vSt, w 462 = v 462 → fX11_goPass 461 w = ((sGoPass (v 462)).1, uA w 462 (sGoPass (v 462)).2) := fun w e => by
    have := (m_goPass (v := w) (by rw [e]; exact hw)).1
    rw [e] at this; exact this
  have hog : ∀ w : vSt, w 462 = v 462 → oX11_goPass 461 w := fun w e => (m_goPass (by rw [e]; exact hw)).2
  have hr := c_refP hN.1 hw hc
  have hbe : ∀ w : vSt, fX11_begins 461 w 462 = w 462 := fun w => m_begins.1 _ (by decide) (by decide)
  have hn1 : rfc (sGoPass (v 462)).1 ≠ 0 → (sGoPass (v 462)).1 ≠ -100001 := fun hx e => by
    unfold sGoPass at e hx
    by_cases h1 : sReasonP (v 462) ≤ 0
    · rw [if_pos h1] at e hx
      dsimp only at e hx
      have h0 : v 462 206 ≠ 0 := fun e => by
        unfold sReasonP at h1
        rw [if_pos e] at h1
        exact absurd h1 (by decide)
      obtain ⟨dd, x, q1, q2, q3, q4⟩ := hw.fk h0
      have := q2.1
      exact hx (rfc_0 (by omega))
    · rw [if_neg h1] at e
      exact absurd (show (-100002 : Int32) = -100001 from e) (by decide)
  unfold oX10_passUnseen kkX10_passUnseen fX10_passUnseen oX11_passUnseen fX11_passUnseen
  rw [hr]
  by_cases hx : rfc (sGoPass (v 462)).1 = 0
  · rw [if_pos (ref_0.mpr hx)]
    obtain ⟨q1, q2, q3, q4, q5, q6⟩ := hI.rec
    have hr6 := c_refP q2 hw q3
    obtain ⟨z1, z2, hP, z4, z5, z6⟩ := c_pass hb q2 hw hN.2.2.1 q3 (by rw [hr6]; exact hx)
    have G := gc7 (k := 1) (cc := cc1) hI hE hgo hx hP z2 z4 z5 z1 (qv_step hI (pass_q hw)) rfl
    simp only [q1]
    refine ⟨⟨hb, by omega, fun _ => ⟨q4, ?_, fun v6 e6 => by rw [e6, q1]; exact ⟨hb, z6⟩⟩⟩, ⟨m_begins.2.2.2.2, fun v2 e2 => ⟨hog _ (by rw [e2, hbe, (u461 hP hI).1]), fun v4 e4 => by rw [e4, e2]; exact G.1⟩⟩, Or.inl trivial, G.2⟩
    unfold kkX10_recordState
    have := hP.mono hb
    omega
  · have h0 : ¬ fX10_refuse (rfc (sGoPass (v 462)).1) v = 0 := fun q => hx (ref_0.mp q)
    rw [if_neg h0]
    have h2 := ref_2 (v := v) hx (hn1 hx)
    have G := gc7F (k := 1) (cc := cc1) (z := 0) (code := fX10_refuse (rfc (sGoPass (v 462)).1) v) hI hE hgo hx h0 (by rw [h2.2, h2.1]; rfl)
    have G1 := G.1
    have G2 := G.2
    dsimp only at G1 G2 ⊢
    refine ⟨⟨hb, by omega, fun q => absurd q h0⟩, ⟨m_begins.2.2.2.2, fun v2 e2 => ⟨hog _ (by rw [e2, hbe]), fun v4 e4 => ?_⟩⟩, Or.inr h2.1, ?_⟩
    · rw [e4, e2]; exact G1
    · exact G2
end T40c
