/-! THE PLAIN PART 6c: judging performed. -/
def sMove (A : Ar) (J : Int32) : Ar :=
  if J = 0 then st (sLeave A) 212 (sLeave A 212 + 1) else if J = 1 then sToQ (sLeave A) (fX11_piece ((fX11_typeOf (A 183))) (fX11_deviationOf (A 183)) 0)
  else if J = 2 then st (sLeave A) 213 (sLeave A 213 + 1) else st (sToB (sLeave A) (fX11_piece ((fX11_typeOf (A 183))) (fX11_deviationOf (A 183)) 1)) 215 (sToB (sLeave A) (fX11_piece ((fX11_typeOf (A 183))) (fX11_deviationOf (A 183)) 1) 215 + 1)
theorem sUse_lv {A : Ar} {t : Nat} {m : Int32} (ht : t < 6) (hn : inn (A 206) 21) : sLeave (sUse A t m) = sUse (sLeave A) t m := by
  have hN := inn_lt hn
  have e206 : sUse A t m 206 = A 206 := sUse_o (by omega)
  funext j
  by_cases hj : j < 48
  · have e : ∀ (B : Ar), B 206 = A 206 → ∀ i, i < 48 → sLeave B i = B i := by
      intro B hB i hi
      unfold sLeave
      rw [hB, st_n (by omega), shf_o (by omega), st_n (by omega)]
    rw [e _ e206 j hj]
    unfold sUse
    rw [e A rfl j hj, e A rfl (8 * t + 4) (by omega)]
  · rw [sUse_o (A := sLeave A) (by omega)]
    simp only [sLeave, st, shf, e206]
    by_cases h1 : j = 183 + ((A 206).toNatClampNeg - 1)
    · rw [if_pos h1, if_pos h1]
    · rw [if_neg h1, if_neg h1]
      by_cases h2 : 183 ≤ j ∧ j < 183 + ((A 206).toNatClampNeg - 1)
      · rw [if_pos h2, if_pos h2, if_neg (by omega), if_neg (by omega), sUse_o (by omega)]
      · rw [if_neg h2, if_neg h2]
        by_cases h3 : j = 206
        · rw [if_pos h3, if_pos h3]
        · rw [if_neg h3, if_neg h3, sUse_o (by omega)]
section P35c
variable {v : vSt} {b : Nat} {A : Ar} {p k d a J : Int32}
theorem c_move (hb : kd b = 7) (h : SR v b A) (hw : WF A) (hc : CP v b) (h0 : A 206 ≠ 0) (hQ : inn (A 207) 3200) (hJ : J = 0 ∨ J = 1 ∨ J = 2 ∨ J = 3) :
    SR (fX0_moveFirst (b + 2) J v) b (sMove A J) ∧ PO b v (fX0_moveFirst (b + 2) J v) ∧ WF (sMove A J) ∧ oX0_moveFirst (b + 2) J v := by
  obtain ⟨f1, f2, f3, f4⟩ := h.first hw hc h0
  obtain ⟨dd, x, q1, q2, q3, q4, q5, q6, q7, q8, q9⟩ := hw.fk h0
  obtain ⟨s1, s2, s3⟩ := h.leave hb hw hc h0
  have hw2 := hw.leave h0
  obtain ⟨l1, l2, l3, l4, l5, l6⟩ := lv_lo hw.1.2.2.2.1 h0
  have hPV : ∀ y : Int32, inn y 2 → PV (sLeave A) (fX11_piece ((fX11_typeOf (A 183))) (fX11_deviationOf (A 183)) y) := fun y hy =>
    PV.cg (A := A) (fun j _ h _ _ => l1 j (by omega) (by omega)) (l1 _ (by omega) (by omega)) hw.1.2.2.1 ⟨(fX11_typeOf (A 183)), fX11_deviationOf (A 183), y, rfl, ⟨q2.1, by have := rn_to q2.1; have := rn_to hw.1.2.2.1.1; omega⟩, by rw [q4]; exact q5, by rw [q4]; exact q6, hy, by rw [q4]; exact q9⟩
  have hk8 : inn ((fX11_typeOf (A 183))) 8 := ⟨q2.1, by have := q2.2; omega⟩
  have hd : -15000 ≤ (fX11_deviationOf (A 183)).toInt ∧ (fX11_deviationOf (A 183)).toInt ≤ 1000 := by rw [q4]; omega
  unfold fX0_moveFirst sMove oX0_moveFirst
  simp only []
  have hm := s2.mono hb
  rcases hJ with rfl | rfl | rfl | rfl
  · rw [if_pos rfl, if_pos rfl, s1.2.1.2.2.2.1]
    exact ⟨SR.acc hb s1 hw2 (by omega), s2.tr (PO.acc s2.2.1), hw2.acc (by omega), s3, fun _ _ q => absurd rfl q⟩
  · rw [if_neg (show ¬ (1 : Int32) = 0 by decide), if_neg (show ¬ (1 : Int32) = 0 by decide), if_pos rfl, if_pos rfl, f1, f2]
    have e207 : sLeave A 207 = A 207 := l1 _ (by omega) (by omega)
    obtain ⟨t1, t2, t3⟩ := s1.toQ hb hw2 s2.2.1 (t := (fX11_typeOf (A 183))) (d := fX11_deviationOf (A 183)) (x := 0) (by rw [e207]; exact hQ) hk8 hd
    refine ⟨t1, s2.tr t2, hw2.toQ (by rw [e207]; exact hQ) (hPV 0 (by decide)), s3, fun v2 e2 _ => ⟨fun _ => ⟨by rw [e2]; exact t3, ?_⟩, fun q => absurd rfl q⟩⟩
    rw [e2]
    unfold kkX5_putLast kkX0_moveFirst fX0_moveFirst
    simp only []
    rw [if_neg (show ¬ (1 : Int32) = 0 by decide), if_pos trivial, f1, f2]
    omega
  · rw [if_neg (show ¬ (2 : Int32) = 0 by decide), if_neg (show ¬ (2 : Int32) = 0 by decide), if_neg (show ¬ (2 : Int32) = 1 by decide), if_neg (show ¬ (2 : Int32) = 1 by decide), if_pos rfl, if_pos rfl, s1.2.1.2.2.2.2.1]
    exact ⟨SR.acc hb s1 hw2 (by omega), s2.tr (PO.acc s2.2.1), hw2.acc (by omega), s3, fun _ _ _ => ⟨fun q => absurd q (by decide), fun _ q => absurd rfl q⟩⟩
  · rw [if_neg (show ¬ (3 : Int32) = 0 by decide), if_neg (show ¬ (3 : Int32) = 0 by decide), if_neg (show ¬ (3 : Int32) = 1 by decide), if_neg (show ¬ (3 : Int32) = 1 by decide), if_neg (show ¬ (3 : Int32) = 2 by decide), if_neg (show ¬ (3 : Int32) = 2 by decide), f1, f2]
    have hs := sub1 hw.1.2.2.2.1 h0
    have hn20 : inn (sLeave A 206) 20 := by rw [l2]; exact ⟨hs.2.2.2.1, by rw [hs.1]; have := hw.1.2.2.2.1.2; omega⟩
    obtain ⟨t1, t2, t3, t4, t5⟩ := s1.toB hb hw2 s2.2.1 (t := (fX11_typeOf (A 183))) (d := fX11_deviationOf (A 183)) (x := 1) hn20 hk8 hd
    have t1 : SR (fX5_putLast ((b + 2 + 4)) ((fX11_typeOf (A 183))) (fX11_deviationOf (A 183)) 1 (fX5_dropFirst ((b + 2 + 4)) v)) b (sToB (sLeave A) (fX11_piece ((fX11_typeOf (A 183))) (fX11_deviationOf (A 183)) 1)) := t1
    have hw3 := hw2.toB hn20 (hPV 1 (by decide))
    rw [t1.2.1.2.2.2.2.2.2.1]
    refine ⟨SR.acc hb t1 hw3 (by omega), (s2.tr t2).tr (PO.acc t2.2.1), hw3.acc (by omega), s3, fun v2 e2 _ => ⟨fun q => absurd q (by decide), fun _ _ => ⟨by rw [e2]; exact t3, ?_⟩⟩⟩
    rw [e2]
    unfold kkX5_putLast kkX0_moveFirst fX0_moveFirst
    simp only []
    rw [if_neg (show ¬ (3 : Int32) = 0 by decide), if_neg (show ¬ (3 : Int32) = 1 by decide), if_neg (show ¬ (3 : Int32) = 2 by decide), f1, f2]
    have hm2 := (PO.acc (v := fX5_putLast ((b + 2 + 4)) ((fX11_typeOf (A 183))) (fX11_deviationOf (A 183)) 1 (fX5_dropFirst ((b + 2 + 4)) v)) (b := b) (f := 9) (y := fX5_putLast ((b + 2 + 4)) ((fX11_typeOf (A 183))) (fX11_deviationOf (A 183)) 1 (fX5_dropFirst ((b + 2 + 4)) v) (b + 2) 9 + 1) t2.2.1).mono hb
    omega
theorem judg_or (t : Nat) : sJudg A t = 0 ∨ sJudg A t = 1 ∨ sJudg A t = 2 ∨ sJudg A t = 3 := by
  have hr : ∀ k x, sRes A k x = 0 ∨ sRes A k x = 1 ∨ sRes A k x = 2 ∨ sRes A k x = 3 := by
    intro k x
    unfold sRes
    split
    · split
      · exact Or.inl rfl
      · exact Or.inr (Or.inr (Or.inl rfl))
    · exact Or.inr (Or.inl rfl)
  unfold sJudg
  split
  · exact hr _ _
  · split
    · exact Or.inr (Or.inr (Or.inr rfl))
    · exact hr _ _
theorem judg_3 {t : Nat} (h : sJudg A t = 3) : A 183 - A 183 / 2 * 2 = 0 := by
  have hr : ∀ k x, sRes A k x ≠ 3 := by
    intro k x
    unfold sRes
    split
    · split <;> decide
    · decide
  unfold sJudg at h
  split at h
  · exact absurd h (hr _ _)
  · split at h
    · assumption
    · exact absurd h (hr _ _)
/-- what comes of a move, behind the use of the tool, in the model's order -/
theorem mv_J {t : Nat} (hw : WF A) (h0 : A 206 ≠ 0) (ht : t < 6) : (sJudg A t ≠ 3 → st (sMove (sUse A t (A ((78 + 21 * ((fX11_typeOf (A 183)).toNatClampNeg) + 3)))) (sJudg A t)) 216 (sMove (sUse A t (A ((78 + 21 * ((fX11_typeOf (A 183)).toNatClampNeg) + 3)))) (sJudg A t) 216 + 1) = sJ5 A t) ∧ (sJudg A t = 3 → sMove (sUse A t (A ((78 + 21 * ((fX11_typeOf (A 183)).toNatClampNeg) + 3)))) 3 = sJD A t) := by
  have e1 : sLeave (sUse A t (A ((78 + 21 * ((fX11_typeOf (A 183)).toNatClampNeg) + 3)))) = sJ1 A t := sUse_lv ht hw.1.2.2.2.1
  have e183 : sUse A t (A ((78 + 21 * ((fX11_typeOf (A 183)).toNatClampNeg) + 3))) 183 = A 183 := sUse_o (by omega)
  have z : ∀ x : Int32, x + 0 = x := Int32.add_zero
  constructor
  · intro hn
    unfold sMove sJ5 sJ4 sJ3 sJ2
    rw [e1, e183]
    rcases judg_or (A := A) t with hJ | hJ | hJ | hJ
    · rw [hJ]
      simp only [if_true, if_neg (show ¬ (0 : Int32) = 1 by decide), if_neg (show ¬ (0 : Int32) = 2 by decide), z, st_id]
    · rw [hJ]
      simp only [if_true, if_neg (show ¬ (1 : Int32) = 0 by decide), if_neg (show ¬ (1 : Int32) = 2 by decide), z, st_id]
    · rw [hJ]
      simp only [if_true, if_neg (show ¬ (2 : Int32) = 0 by decide), if_neg (show ¬ (2 : Int32) = 1 by decide), z, st_id]
    · exact absurd hJ hn
  · intro hJ
    obtain ⟨dd, x, q1, q2, q3, q4, q5, q6, q7, q8, q9⟩ := hw.fk h0
    have hx0 : x = 0 := by rw [← q8]; exact judg_3 hJ
    have ep : fX11_piece ((fX11_typeOf (A 183))) (fX11_deviationOf (A 183)) 1 = A 183 + 1 := by
      rw [q4]
      conv => rhs; rw [q1, hx0]
      unfold fX11_piece
      rw [z]
    unfold sMove sJD
    rw [e1, e183, if_neg (show ¬ (3 : Int32) = 0 by decide), if_neg (show ¬ (3 : Int32) = 1 by decide), if_neg (show ¬ (3 : Int32) = 2 by decide), ep]
theorem meas_b {t : Nat} (hw : WF A) (h0 : A 206 ≠ 0) (ht : t < (A 203).toNatClampNeg) (hr : 0 ≤ (sFR A t).toInt) : -50000 ≤ (sMeas A t).toInt ∧ (sMeas A t).toInt ≤ 50000 := by
  obtain ⟨dd, x, q1, q2, q3, q4, q5, q6, q7, q8, q9⟩ := hw.fk h0
  have wl := (hw.2.2.2.1.1 _ q3).1
  have wk := (hw.2.1.1 t ht).2
  have hrd : (sFR A t).toInt ≤ 15010 := by
    rcases rd_or (A := A) (t := t) (m := A ((78 + 21 * ((fX11_typeOf (A 183)).toNatClampNeg) + 3))) (len := sFL A) with e | e
    · have e : sFR A t = -1 := e
      rw [e]; decide
    · exact e.2
  unfold sMeas
  have e1 : (sFR A t - A (8 * t + 3)).toInt = (sFR A t).toInt - (A (8 * t + 3)).toInt := ti_sub (by omega)
  rw [ti_sub (by omega), e1]
  omega
theorem c_judge (hb : kd b = 7) (h : SR v b A) (hw : WF A) (ha : AC A) (hc : CP v b) (hQ : inn (A 207) 3200) (hr : fX0_refusalToJudge (b + 2) (b + 1) p v = 0) :
    (fX0_judgeFirst (b + 2) (b + 1) p v).1 = (sGoJudge A p).1 ∧ SR (fX0_judgeFirst (b + 2) (b + 1) p v).2 b (sGoJudge A p).2 ∧ PO b v (fX0_judgeFirst (b + 2) (b + 1) p v).2 ∧ WF (sGoJudge A p).2 ∧ AC (sGoJudge A p).2 ∧ oX0_judgeFirst (b + 2) (b + 1) p v := by
  rw [c_refJ h hw hc] at hr
  unfold sGoJudge at hr ⊢
  by_cases h1 : sIsT A p = 0
  · rw [if_pos h1] at hr; exact rfn1 hr
  rw [if_neg h1] at hr ⊢
  by_cases h2 : ¬ sReason A p.toNatClampNeg ≤ 0
  · rw [if_neg h2] at hr; exact rfn2 hr
  have h2 := Decidable.not_not.mp h2
  rw [if_pos h2]
  have h0 := sReason_ne h2
  obtain ⟨hT, hkd, hp, hlt⟩ := h.tool hw h1
  have hp6 := inn_lt hp
  generalize ht : p.toNatClampNeg = t at *
  have hfr : 0 ≤ (sFR A t).toInt := by
    unfold sReason at h2
    rw [if_neg h0] at h2
    split at h2
    · split at h2
      · split at h2
        · rename_i q; exact i_le q
        · exact absurd h2 (by decide)
      · exact absurd h2 (by decide)
    · exact absurd h2 (by decide)
  obtain ⟨f1, f2, f3, f4⟩ := h.first hw hc h0
  obtain ⟨dd, x, q1, q2, q3, q4, q5, q6, q7, q8, q9⟩ := hw.fk h0
  have q25 := inn_lt q2
  obtain ⟨⟨y0, y1, y2, y3, y4, y5, y7, y9⟩, _⟩ := h.2.2.2.2.1 _ q3
  have hm := (hw.2.2.2.1.1 _ q3).2.2.2.1
  have hu := h.use hb hw hlt hm
  have hu2 := c_useOn (v := v) (q := ((b + 1 + 2) + 13 + t)) hm hT
  have hP1 : PO b v (fX8_useOn (((b + 1 + 2) + 13 + t)) (A ((78 + 21 * ((fX11_typeOf (A 183)).toNatClampNeg) + 3))) v) := PO.of hc hu.2 ⟨hu2.2 _ (by omega), hu2.2 _ (by omega)⟩
  have hw1 := hw.use (m := A ((78 + 21 * ((fX11_typeOf (A 183)).toNatClampNeg) + 3))) hlt
  have e206 : sUse A t (A ((78 + 21 * ((fX11_typeOf (A 183)).toNatClampNeg) + 3))) 206 = A 206 := sUse_o (by omega)
  have e207 : sUse A t (A ((78 + 21 * ((fX11_typeOf (A 183)).toNatClampNeg) + 3))) 207 = A 207 := sUse_o (by omega)
  obtain ⟨m1, m2, m3, m4⟩ := c_move hb hu.1 hw1 hP1.2.1 (by rw [e206]; exact h0) (by rw [e207]; exact hQ) (judg_or (A := A) t)
  have hmv := mv_J hw h0 hp6
  have hM := c_measured h hw hc h0 hlt
  have hO := c_outcome h hw hc h0 hlt
  -- the account
  obtain ⟨l1, l2, l3, l4, l5, l6⟩ := lv_lo hw.1.2.2.2.1 h0
  have a0 : A 211 = A 206 + A 207 + A 212 + A 213 + A 214 := ha
  have j1 : ∀ j, 203 ≤ j → j ≠ 206 → sJ1 A t j = A j := fun j h1 h2 => by unfold sJ1; rw [sUse_o (by omega), l1 j (by omega) h2]
  have j6 : sJ1 A t 206 = A 206 - 1 := by unfold sJ1; rw [sUse_o (by omega), l2]
  unfold fX0_judgeFirst oX0_judgeFirst
  rw [c_hasTool h.1.1 hw.1.1, if_neg h1]
  simp only [ht]
  rw [hM, hO, f3, y3]
  by_cases hJ : sJudg A t = 3
  · rw [if_pos hJ]
    rw [hJ] at m1 m2 m3 m4 ⊢
    rw [hmv.2 hJ] at m1 m3
    refine ⟨rfl, by rw [if_pos rfl]; exact m1, hP1.tr m2, by rw [if_pos rfl]; exact m3, ?_, fun _ => ⟨i_in hp.1 hp.2, fun y3' e3 v4 e4 => ?_⟩⟩
    · rw [if_pos rfl]
      have hnJ : inn (sJ1 A t 206) 20 := by
        have hs := sub1 hw.1.2.2.2.1 h0
        rw [j6]; exact ⟨hs.2.2.2.1, by rw [hs.1]; have := hw.1.2.2.2.1.2; omega⟩
      obtain ⟨k1, k2, k3, k4, k5, k6⟩ := tb_lo (A := sJ1 A t) (p := A 183 + 1) hnJ
      show WFa _
      unfold WFa sJD
      rw [st_n (by omega), st_n (by omega), st_n (by omega), st_n (by omega), st_n (by omega), st_n (by omega), k2, k1 211 (by omega) (by omega), k1 207 (by omega) (by omega), k1 212 (by omega) (by omega), k1 213 (by omega) (by omega), k1 214 (by omega) (by omega), j6, j1 _ (by omega) (by omega), j1 _ (by omega) (by omega), j1 _ (by omega) (by omega), j1 _ (by omega) (by omega), j1 _ (by omega) (by omega), a0]
      grind
    · subst e3 e4
      refine ⟨m4, ?_, fun v7 e7 q => absurd rfl q⟩
      unfold kkX0_moveFirst kkX0_judgeFirst fX0_judgeFirst
      rw [c_hasTool h.1.1 hw.1.1, if_neg h1]
      simp only [ht]
      rw [hM, hO, f3, y3, hJ, if_pos rfl]
      have := hP1.mono hb
      dsimp only
      omega
  · rw [if_neg hJ]
    have eJ5 := hmv.1 hJ
    have hw9 : WF (sJ5 A t) := by rw [← eJ5]; exact m3.acc (by omega)
    have hS9 : SR (u2 (fX0_moveFirst (b + 2) (sJudg A t) (fX8_useOn (((b + 1 + 2) + 13 + t)) (A ((78 + 21 * ((fX11_typeOf (A 183)).toNatClampNeg) + 3))) v)) (b + 2) 10 (fX0_moveFirst (b + 2) (sJudg A t) (fX8_useOn (((b + 1 + 2) + 13 + t)) (A ((78 + 21 * ((fX11_typeOf (A 183)).toNatClampNeg) + 3))) v) (b + 2) 10 + 1)) b (sJ5 A t) := by
      rw [← eJ5, m1.2.1.2.2.2.2.2.2.2]
      exact SR.acc hb m1 m3 (by omega)
    have hyE : (if sJudg A t ≤ 0 then 0 else 1 : Int32) = (if sJudg A t = 0 then 0 else 1) := by
      rcases judg_or (A := A) t with q | q | q | q <;> rw [q] <;> rfl
    have e205 : sJ5 A t 205 = A 205 := by
      have hq := tq_lo (A := sJ1 A t) (p := fX11_piece ((fX11_typeOf (A 183))) (fX11_deviationOf (A 183)) 0) (by rw [j1 _ (by omega) (by omega)]; exact hQ)
      unfold sJ5 sJ4 sJ3 sJ2
      rw [st_n (by omega), st_n (by omega), st_n (by omega)]
      split
      · rw [hq.1 _ (by omega) (by omega), j1 _ (by omega) (by omega)]
      · rw [j1 _ (by omega) (by omega)]
    have hPd := PO.acc (v := fX0_moveFirst (b + 2) (sJudg A t) (fX8_useOn (((b + 1 + 2) + 13 + t)) (A ((78 + 21 * ((fX11_typeOf (A 183)).toNatClampNeg) + 3))) v)) (b := b) (f := 10) (y := fX0_moveFirst (b + 2) (sJudg A t) (fX8_useOn (((b + 1 + 2) + 13 + t)) (A ((78 + 21 * ((fX11_typeOf (A 183)).toNatClampNeg) + 3))) v) (b + 2) 10 + 1) m2.2.1
    obtain ⟨t1, t2, t3, t4, t5, t6⟩ := c_take hb hS9 hw9 (k := (fX11_typeOf (A 183)).toNatClampNeg) (bad := if sJudg A t = 0 then 0 else 1) (x := sMeas A t) (by rw [e205]; exact q3) (ite_inn (by decide) (by decide)) (meas_b hw h0 hlt hfr)
    have hPt : PO b _ _ := PO.of (v' := fX4_takeResult (((b + 2 + 3) + 31 + ((fX11_typeOf (A 183)).toNatClampNeg))) (sMeas A t) (if sJudg A t = 0 then 0 else 1) (u2 (fX0_moveFirst (b + 2) (sJudg A t) (fX8_useOn (((b + 1 + 2) + 13 + t)) (A ((78 + 21 * ((fX11_typeOf (A 183)).toNatClampNeg) + 3))) v)) (b + 2) 10 (fX0_moveFirst (b + 2) (sJudg A t) (fX8_useOn (((b + 1 + 2) + 13 + t)) (A ((78 + 21 * ((fX11_typeOf (A 183)).toNatClampNeg) + 3))) v) (b + 2) 10 + 1))) hPd.2.1 (fun q hq => t2 q (by omega) (by omega) (by omega)) ⟨t2 _ (by omega) (by omega) (by omega), t2 _ (by omega) (by omega) (by omega)⟩
    have e6 : sTake (sJ5 A t) ((fX11_typeOf (A 183)).toNatClampNeg) (if sJudg A t = 0 then 0 else 1) (sMeas A t) = sJ6 A t := by
      rw [← hyE]; rfl
    rw [e6] at t1 t4 t5 t6
    rw [if_neg hJ]
    have hw6 : WF (sJ6 A t) := hw9.setY (t := (fX11_typeOf (A 183)).toNatClampNeg) (by rw [e205]; exact q3) t5 t6 t4
    have hPa := ((hP1.tr m2).tr hPd).tr hPt
    refine ⟨?_, ?_, ?_, ?_, ?_, fun _ => ⟨i_in hp.1 hp.2, fun y3' e3 v4 e4 => ?_⟩⟩
    · dsimp only
    · exact t1
    · exact hPa
    · exact hw6
    · show WFa _
      have hq := tq_lo (A := sJ1 A t) (p := fX11_piece ((fX11_typeOf (A 183))) (fX11_deviationOf (A 183)) 0) (by rw [j1 _ (by omega) (by omega)]; exact hQ)
      unfold WFa
      rw [t5 211 (by omega), t5 206 (by omega), t5 207 (by omega), t5 212 (by omega), t5 213 (by omega), t5 214 (by omega)]
      unfold sJ5 sJ4 sJ3 sJ2
      rcases judg_or (A := A) t with q | q | q | q
      · rw [q]
        simp only [if_true, if_neg (show ¬ (0 : Int32) = 1 by decide), if_neg (show ¬ (0 : Int32) = 2 by decide), Int32.add_zero, st_id]
        rw [st_n (by omega), st_n (by omega), st_n (by omega), st_n (by omega), st_n (by omega), st_n (by omega), st_n (by omega), st_s, st_n (by omega), st_n (by omega), st_n (by omega), st_n (by omega), j6, j1 211 (by omega) (by omega), j1 207 (by omega) (by omega), j1 212 (by omega) (by omega), j1 213 (by omega) (by omega), j1 214 (by omega) (by omega), a0]
        grind
      · rw [q]
        simp only [if_true, if_neg (show ¬ (1 : Int32) = 0 by decide), if_neg (show ¬ (1 : Int32) = 2 by decide), Int32.add_zero, st_id]
        rw [st_n (by omega), st_n (by omega), st_n (by omega), st_n (by omega), st_n (by omega), st_n (by omega), hq.2.1, hq.1 211 (by omega) (by omega), hq.1 206 (by omega) (by omega), hq.1 212 (by omega) (by omega), hq.1 213 (by omega) (by omega), hq.1 214 (by omega) (by omega), j6, j1 211 (by omega) (by omega), j1 207 (by omega) (by omega), j1 212 (by omega) (by omega), j1 213 (by omega) (by omega), j1 214 (by omega) (by omega), a0]
        grind
      · rw [q]
        simp only [if_true, if_neg (show ¬ (2 : Int32) = 0 by decide), if_neg (show ¬ (2 : Int32) = 1 by decide), Int32.add_zero, st_id]
        rw [st_n (by omega), st_n (by omega), st_n (by omega), st_n (by omega), st_n (by omega), st_n (by omega), st_n (by omega), st_n (by omega), st_n (by omega), st_s, st_n (by omega), st_n (by omega), j6, j1 211 (by omega) (by omega), j1 207 (by omega) (by omega), j1 212 (by omega) (by omega), j1 213 (by omega) (by omega), j1 214 (by omega) (by omega), a0]
        grind
      · exact absurd q hJ
    · rw [e3, e4]
      refine ⟨m4, ?_, fun v7 e7 _ v9 e9 y10 e10 => ?_⟩
      · unfold kkX0_moveFirst kkX0_judgeFirst fX0_judgeFirst
        rw [c_hasTool h.1.1 hw.1.1, if_neg h1]
        simp only [ht]
        rw [hM, hO, f3, y3, if_neg hJ]
        have k1 := hP1.mono hb
        have k2 := (hPd.tr hPt).mono hb
        dsimp only
        omega
      · rw [e10, e9, e7]
        exact t3
end P35c
