/-! THE PLAIN PART 11b: calibrating, days, bringing, passing between calls. -/
section T40b
variable {n m : Nat} {u v : vSt} {A : Ar} {r : Int32 × Ar} {p p2 p3 k : Int32}
theorem cal_o {j : Nat} (hw : WF A) (hj : 78 ≤ j) : (sGoCalibrate A p p2).2 j = A j := by
  have hN := inn_lt hw.1.2.1
  unfold sGoCalibrate
  split
  · rfl
  · split
    · rfl
    · split
      · rename_i h1 _ _
        have := inn_lt (isT_in hw.1.1 h1).1
        unfold sCal
        dsimp only
        rw [sUseBN_o (by omega), st_n (by omega), st_n (by omega), st_n (by omega), sUse_o (by omega)]
      · rfl
theorem eo_cal (hw : WF A) : EO (sGoCalibrate A p p2) A := by
  unfold sGoCalibrate EO
  by_cases h1 : sIsT A p = 0
  · rw [if_pos h1]; exact Or.inl ⟨Or.inl rfl, rfl⟩
  rw [if_neg h1]
  by_cases h2 : fX11_in p2 1 15000 = 0
  · rw [if_pos h2]; exact Or.inl ⟨Or.inl rfl, rfl⟩
  rw [if_neg h2]
  by_cases h4 : 0 ≤ sRdC A p.toNatClampNeg p2
  · rw [if_pos h4]
    have hl := in_iff.mp h2
    rw [show (1 : Int32).toInt = 1 from rfl, show (15000 : Int32).toInt = 15000 from rfl] at hl
    have h5 := i_le h4
    rw [show (0 : Int32).toInt = 0 from rfl] at h5
    have hr : (sRdC A p.toNatClampNeg p2).toInt ≤ 15010 := by
      unfold sRdC
      split
      · decide
      · rcases rd_or (A := A) (t := p.toNatClampNeg) (m := 0) (len := sTruly A (sStack A p2)) with e | e
        · rw [e]; decide
        · exact e.2
    exact Or.inr (rfc_0 (by dsimp only; rw [ti_sub (by omega)]; omega))
  · rw [if_neg h4]; exact Or.inl ⟨Or.inr rfl, rfl⟩
theorem ac_same {A' : Ar} (h : AC A) (hs : ∀ j, 206 ≤ j → A' j = A j) : AC A' := by
  show WFa _
  unfold WFa
  rw [hs _ (by omega), hs _ (by omega), hs _ (by omega), hs _ (by omega), hs _ (by omega), hs _ (by omega)]
  exact h
theorem t_calibrate (hI : Inv n m v) : oX10_calibrate 448 p p2 v ∧ oX11_calibrate 461 p p2 (fX10_calibrate 448 p p2 v).2.2 ∧
    OKC n v (fX10_calibrate 448 p p2 v).1 (fX10_calibrate 448 p p2 v).2.1 (fX10_calibrate 448 p p2 v).2.2 (fX11_calibrate 461 p p2 (fX10_calibrate 448 p p2 v).2.2).1 (fX11_calibrate 461 p p2 (fX10_calibrate 448 p p2 v).2.2).2 Int32.ofNat := by
  have hN := hI.2.2.2.2.2.1
  have hb := hI.1.1.1
  have hw := hN.2.1
  have hE := eo_cal (p := p) (p2 := p2) hw
  have hgo : ∀ w : vSt, w 462 = v 462 → fX11_goCalibrate 461 p p2 w = ((sGoCalibrate (v 462) p p2).1, uA w 462 (sGoCalibrate (v 462) p p2).2) := fun w e => by
    have := m_goCalibrate (v := w) (p := p) (len := p2) (by rw [e]; exact hw.1.1) (by rw [e]; exact hw.1.2.1)
    rw [e] at this; exact this
  have hog : ∀ w : vSt, w 462 = v 462 → oX11_goCalibrate 461 p p2 w := fun w e => mo_goCalibrate (by rw [e]; exact hw.1.1) (by rw [e]; exact hw.1.2.1)
  have hr := c_refC (p := p) (len := p2) hN.1 hw
  have hbe : ∀ w : vSt, fX11_begins 461 w 462 = w 462 := fun w => m_begins.1 _ (by decide) (by decide)
  have hhd : 0 ≤ (v (rN (v 448 0) + 1) 2).toInt ∧ (v (rN (v 448 0) + 1) 2).toInt ≤ 6 ∧ 0 ≤ (v (rN (v 448 0) + 1) 3).toInt ∧ (v (rN (v 448 0) + 1) 3).toInt ≤ 10 := by
    rw [hN.1.1.1, hN.1.1.2.1]
    have h1 := hw.1.1
    have h2 := hw.1.2.1
    exact ⟨h1.1, by omega, h2.1, by omega⟩
  unfold oX10_calibrate kkX10_calibrate fX10_calibrate oX11_calibrate fX11_calibrate
  rw [hr]
  by_cases hx : rfc (sGoCalibrate (v 462) p p2).1 = 0
  · rw [if_pos (ref_0.mpr hx)]
    obtain ⟨q1, q2, q3, q4, q5, q6⟩ := hI.rec
    have hr6 := c_refC (p := p) (len := p2) q2 hw
    obtain ⟨z1, z2, hP, z4, z5⟩ := c_cal hb q2 hw q3 (by rw [hr6]; exact hx)
    have G := gc7 (k := 2) (cc := Int32.ofNat) hI hE hgo hx hP z2 z4 (ac_same hN.2.2.1 (fun j hj => cal_o hw (by omega))) z1 (qv_same hI (cal_o hw (by omega)) (cal_o hw (by omega)) (cal_o hw (by omega)) (cal_o hw (by omega))) rfl
    simp only [q1]
    refine ⟨⟨hb, hhd, by omega, fun _ => ⟨q4, ?_, fun v6 e6 => by rw [e6, q1]; exact ⟨hb, z5⟩⟩⟩, ⟨m_begins.2.2.2.2, fun v2 e2 => ⟨hog _ (by rw [e2, hbe, (u461 hP hI).1]), fun v4 e4 => by rw [e4, e2]; exact G.1⟩⟩, G.2⟩
    unfold kkX10_recordState
    have := hP.mono hb
    omega
  · have h0 : ¬ fX10_refuse (rfc (sGoCalibrate (v 462) p p2).1) v = 0 := fun q => hx (ref_0.mp q)
    rw [if_neg h0]
    have G := gc7F (k := 2) (cc := Int32.ofNat) (z := 0) hI hE hgo hx h0 (ref_1 hx).2
    exact ⟨⟨hb, hhd, by omega, fun q => absurd q h0⟩, ⟨m_begins.2.2.2.2, fun v2 e2 => ⟨hog _ (by rw [e2, hbe]), fun v4 e4 => by rw [e4, e2]; exact G.1⟩⟩, G.2⟩
theorem eo_day (hw : WF A) : EO (sGoDay A) A := by
  unfold sGoDay EO
  by_cases h1 : A 210 = 999
  · rw [if_pos h1]; exact Or.inl ⟨Or.inr rfl, rfl⟩
  · rw [if_neg h1]
    have hN := inn_lt hw.1.1
    exact Or.inr (rfc_0 (by have := (due_b (A := st A 210 (A 210 + 1)) (n := (A 203).toNatClampNeg) (by omega)).1; dsimp only; omega))
theorem ref_2 {x : Int32} (h : rfc x ≠ 0) (h2 : x ≠ -100001) : fX10_refuse (rfc x) v = 2 ∧ (if x = -100001 then (1 : Int32) else 1) = 1 := by
  unfold fX10_refuse
  rcases rfc_or x with q | ⟨e, q⟩ | ⟨e, q⟩
  · exact absurd q h
  · exact absurd e h2
  · rw [q, e]; decide
/-- the code where one exception alone is caught -/
def cc1 (c : Nat) : Int32 := if c = 0 then 0 else 1
theorem t_endDay (hI : Inv n m v) : oX10_endDay 448 v ∧ oX11_endDay 461 (fX10_endDay 448 v).2.2 ∧ ((fX10_endDay 448 v).1 = 0 ∨ (fX10_endDay 448 v).1 = 2) ∧
    OKC n v (fX10_endDay 448 v).1 (fX10_endDay 448 v).2.1 (fX10_endDay 448 v).2.2 (fX11_endDay 461 (fX10_endDay 448 v).2.2).1 (fX11_endDay 461 (fX10_endDay 448 v).2.2).2 cc1 := by
  have hN := hI.2.2.2.2.2.1
  have hb := hI.1.1.1
  have hw := hN.2.1
  have hE := eo_day hw
  have hgo : ∀ w : vSt, w 462 = v 462 → fX11_goDay 461 w = ((sGoDay (v 462)).1, uA w 462 (sGoDay (v 462)).2) := fun w e => by
    have := (m_goDay (v := w) (by rw [e]; exact hw)).1
    rw [e] at this; exact this
  have hog : ∀ w : vSt, w 462 = v 462 → oX11_goDay 461 w := fun w e => (m_goDay (by rw [e]; exact hw)).2
  have hr := c_refD hN.1 hw
  have hbe : ∀ w : vSt, fX11_begins 461 w 462 = w 462 := fun w => m_begins.1 _ (by decide) (by decide)
  have hs : ∀ j, j ≠ 210 → (sGoDay (v 462)).2 j = v 462 j := fun j hj => by
    unfold sGoDay
    split
    · rfl
    · exact st_n hj
  have hn1 : (sGoDay (v 462)).1 ≠ -100001 := fun e => by
    unfold sGoDay at e
    split at e
    · exact absurd (show (-100002 : Int32) = -100001 from e) (by decide)
    · have hN := inn_lt hw.1.1
      have := (due_b (A := st (v 462) 210 (v 462 210 + 1)) (n := ((v 462) 203).toNatClampNeg) (by omega)).1
      dsimp only at e
      rw [e] at this
      exact absurd this (by decide)
  unfold oX10_endDay kkX10_endDay fX10_endDay oX11_endDay fX11_endDay
  rw [hr]
  by_cases hx : rfc (sGoDay (v 462)).1 = 0
  · rw [if_pos (ref_0.mpr hx)]
    obtain ⟨q1, q2, q3, q4, q5, q6⟩ := hI.rec
    have hr6 := c_refD q2 hw
    obtain ⟨z1, z2, hP, z4, z5⟩ := c_day hb q2 hw hN.2.2.1 q3 (by rw [hr6]; exact hx)
    have G := gc7 (k := 1) (cc := cc1) hI hE hgo hx hP z2 z4 z5 z1 (qv_same hI (hs _ (by omega)) (hs _ (by omega)) (hs _ (by omega)) (hs _ (by omega))) rfl
    have q8 : rN (u2 (fX10_recordState 448 v) (rN (v 448 0) + 1) 5 (fX10_recordState 448 v (rN (v 448 0) + 1) 5 + 1) 448 0) = rN (v 448 0) := by
      have l := kd7 hb
      rw [u2_r (by omega), q1]
    simp only [q1, q8]
    refine ⟨⟨hb, by omega, fun _ => ⟨q4, ?_, fun v6 e6 => ⟨by rw [e6, q1]; exact hb, fun v8 e8 => ?_⟩⟩⟩, ⟨m_begins.2.2.2.2, fun v2 e2 => ⟨hog _ (by rw [e2, hbe, (u461 hP hI).1]), fun v4 e4 => by rw [e4, e2]; exact G.1⟩⟩, Or.inl trivial, G.2⟩
    · unfold kkX10_recordState
      have := hP.mono hb
      omega
    · rw [e6, q1] at e8
      rw [e8, q8]
      refine ⟨hb, ?_⟩
      rw [z2.1.1, z2.1.2.1]
      have h1 := z4.1.1
      have h2 := z4.1.2.1
      exact ⟨h1.1, by omega, h2.1, by omega⟩
  · have h0 : ¬ fX10_refuse (rfc (sGoDay (v 462)).1) v = 0 := fun q => hx (ref_0.mp q)
    rw [if_neg h0]
    have h2 := ref_2 (v := v) hx hn1
    have G := gc7F (k := 1) (cc := cc1) (z := 0) (code := fX10_refuse (rfc (sGoDay (v 462)).1) v) hI hE hgo hx h0 (by rw [h2.2, h2.1]; rfl)
    have G1 := G.1
    have G2 := G.2
    dsimp only at G1 G2 ⊢
    refine ⟨⟨hb, by omega, fun q => absurd q h0⟩, ⟨m_begins.2.2.2.2, fun v2 e2 => ⟨hog _ (by rw [e2, hbe]), fun v4 e4 => ?_⟩⟩, Or.inr h2.1, ?_⟩
    · rw [e4, e2]; exact G1
    · exact G2
theorem eo_bring (hw : WF A) : EO (sGoBring A p p2) A := by
  unfold sGoBring EO
  by_cases h1 : (if sIsY A p = 0 then 0 else (if fX11_in p2 (-200) 200 = 0 then 0 else (if A ((78 + 21 * p.toNatClampNeg + 0)) + p2 < 1 then 0 else 1)) : Int32) = 0
  · rw [if_pos h1]; exact Or.inl ⟨Or.inl rfl, rfl⟩
  rw [if_neg h1]
  by_cases h2 : A 206 = 20
  · rw [if_pos h2]; exact Or.inl ⟨Or.inr rfl, rfl⟩
  · rw [if_neg h2]
    have hn := hw.1.2.2.2.1
    exact Or.inr (rfc_0 (by dsimp only; rw [(add1 hn (by decide)).1]; have := hn.1; omega))
theorem t_bring (hI : Inv n m v) : oX10_bring 448 p p2 v ∧ oX11_bring 461 p p2 (fX10_bring 448 p p2 v).2.2 ∧
    OKC n v (fX10_bring 448 p p2 v).1 (fX10_bring 448 p p2 v).2.1 (fX10_bring 448 p p2 v).2.2 (fX11_bring 461 p p2 (fX10_bring 448 p p2 v).2.2).1 (fX11_bring 461 p p2 (fX10_bring 448 p p2 v).2.2).2 Int32.ofNat := by
  have hN := hI.2.2.2.2.2.1
  have hb := hI.1.1.1
  have hw := hN.2.1
  have hE := eo_bring (p := p) (p2 := p2) hw
  have hgo : ∀ w : vSt, w 462 = v 462 → fX11_goBring 461 p p2 w = ((sGoBring (v 462) p p2).1, uA w 462 (sGoBring (v 462) p p2).2) := fun w e => by
    have := m_goBring (v := w) (k := p) (d := p2) (by rw [e]; exact hw.1.2.2.2.1) (by rw [e]; exact hw.1.2.2.1)
    rw [e] at this; exact this
  have hog : ∀ w : vSt, w 462 = v 462 → oX11_goBring 461 p p2 w := fun w e => mo_goBring (by rw [e]; exact hw.1.2.2.2.1) (by rw [e]; exact hw.1.2.2.1)
  have hr := c_refB (k := p) (d := p2) hN.1 hw
  have hbe : ∀ w : vSt, fX11_begins 461 w 462 = w 462 := fun w => m_begins.1 _ (by decide) (by decide)
  unfold oX10_bring kkX10_bring fX10_bring oX11_bring fX11_bring
  rw [hr]
  by_cases hx : rfc (sGoBring (v 462) p p2).1 = 0
  · rw [if_pos (ref_0.mpr hx)]
    obtain ⟨q1, q2, q3, q4, q5, q6⟩ := hI.rec
    have hr6 := c_refB (k := p) (d := p2) q2 hw
    obtain ⟨z1, z2, hP, z4, z5, z6⟩ := c_bring hb q2 hw hN.2.2.1 q3 (by rw [hr6]; exact hx)
    have hQ : QVp (n + 1) m v (sGoBring (v 462) p p2).2 := by
      obtain ⟨_, _, _, _, ⟨_, x4, x5, _⟩, hN, _⟩ := hI
      have hs : (((sGoBring (v 462) p p2).2) 207).toNatClampNeg = ((v 462) 207).toNatClampNeg ∧ (((sGoBring (v 462) p p2).2) 206).toNatClampNeg ≤ ((v 462) 206).toNatClampNeg + 1 ∧ (sGoBring (v 462) p p2).2 208 = v 462 208 ∧ (sGoBring (v 462) p p2).2 209 = v 462 209 := by
        unfold sGoBring
        by_cases h1 : (if sIsY (v 462) p = 0 then 0 else (if fX11_in p2 (-200) 200 = 0 then 0 else (if v 462 ((78 + 21 * p.toNatClampNeg + 0)) + p2 < 1 then 0 else 1)) : Int32) = 0
        · rw [if_pos h1]; exact ⟨rfl, Nat.le_add_right _ _, rfl, rfl⟩
        rw [if_neg h1]
        by_cases h20 : v 462 206 = 20
        · rw [if_pos h20]; exact ⟨rfl, Nat.le_add_right _ _, rfl, rfl⟩
        rw [if_neg h20]
        have hn := hw.1.2.2.2.1
        have hn20 : inn (v 462 206) 20 := ⟨hn.1, by have := hn.2; have : (v 462 206).toInt ≠ 20 := fun e => h20 (Int32.toInt_inj.mp e); omega⟩
        obtain ⟨l1, l2, l3, l4, l5, l6⟩ := tb_lo (A := v 462) (p := fX11_piece p p2 0) hn20
        dsimp only
        rw [st_n (by omega), st_n (by omega), st_n (by omega), st_n (by omega), l5, l1 207 (by omega) (by omega), l1 208 (by omega) (by omega), l1 209 (by omega) (by omega)]
        exact ⟨rfl, Nat.le_refl _, rfl, rfl⟩
      exact ⟨QB.step hN.2.2.2.1 x4 x5 (by omega) (by omega), hN.2.2.2.2.cg hs.2.2.1 hs.2.2.2⟩
    have G := gc7 (k := 2) (cc := Int32.ofNat) hI hE hgo hx hP z2 z4 z5 z1 hQ rfl
    simp only [q1]
    refine ⟨⟨hb, by omega, fun _ => ⟨q4, ?_, fun v6 e6 => by
      rw [e6, q1]
      refine ⟨hb, z6, ?_⟩
      unfold kkX10_recordState kkX0_bringPiece
      have := hP.mono hb
      omega⟩⟩, ⟨m_begins.2.2.2.2, fun v2 e2 => ⟨hog _ (by rw [e2, hbe, (u461 hP hI).1]), fun v4 e4 => by rw [e4, e2]; exact G.1⟩⟩, G.2⟩
    unfold kkX10_recordState
    have := hP.mono hb
    omega
  · have h0 : ¬ fX10_refuse (rfc (sGoBring (v 462) p p2).1) v = 0 := fun q => hx (ref_0.mp q)
    rw [if_neg h0]
    have G := gc7F (k := 2) (cc := Int32.ofNat) (z := 0) hI hE hgo hx h0 (ref_1 hx).2
    exact ⟨⟨hb, by omega, fun q => absurd q h0⟩, ⟨m_begins.2.2.2.2, fun v2 e2 => ⟨hog _ (by rw [e2, hbe]), fun v4 e4 => by rw [e4, e2]; exact G.1⟩⟩, G.2⟩
end T40b
