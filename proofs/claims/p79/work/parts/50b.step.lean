/-! P79, PLAIN 2: every change that is recorded, from its orders' plain forms. -/
section T50b
variable {n m : Nat} {u v w v4 : vSt} {A A' : Ar} {r : Int32 × Ar} {z k p p1 p2 p3 p4 : Int32} {code : Nat}
theorem cco_0 (hc : code = 0 ∨ code = 1 ∨ code = 2) (h : Int32.ofNat code = 0) : code = 0 := by
  rcases hc with q | q | q
  · exact q
  · rw [q] at h; exact absurd h (by decide)
  · rw [q] at h; exact absurd h (by decide)
theorem ref_c {x : Int32} : fX10_refuse (rfc x) v = 0 ∨ fX10_refuse (rfc x) v = 1 ∨ fX10_refuse (rfc x) v = 2 := by
  unfold fX10_refuse
  rcases rfc_or x with q | ⟨_, q⟩ | ⟨_, q⟩ <;> rw [q] <;> decide
theorem cc1_0 (h : cc1 code = 0) : code = 0 := by
  unfold cc1 at h
  by_cases q : code = 0
  · exact q
  · rw [if_neg q] at h; exact absurd h (by decide)
theorem refuse_c {y : Int32} : fX10_refuse y v = 0 ∨ fX10_refuse y v = 1 ∨ fX10_refuse y v = 2 := by
  unfold fX10_refuse
  split
  · exact Or.inr (Or.inl rfl)
  · split
    · exact Or.inr (Or.inr rfl)
    · exact Or.inl rfl
theorem c2_measure : (fX10_measure 448 p1 p2 p3 v).1 = 0 ∨ (fX10_measure 448 p1 p2 p3 v).1 = 1 ∨ (fX10_measure 448 p1 p2 p3 v).1 = 2 := by
  unfold fX10_measure
  dsimp only
  generalize hy : fX10_refuse _ v = y
  have h : y = 0 ∨ y = 1 ∨ y = 2 := by rw [← hy]; exact refuse_c
  by_cases h0 : y = 0
  · rw [if_pos h0]; exact Or.inl rfl
  · rw [if_neg h0]; exact h
theorem c2_calibrate : (fX10_calibrate 448 p1 p2 v).1 = 0 ∨ (fX10_calibrate 448 p1 p2 v).1 = 1 ∨ (fX10_calibrate 448 p1 p2 v).1 = 2 := by
  unfold fX10_calibrate
  dsimp only
  generalize hy : fX10_refuse _ v = y
  have h : y = 0 ∨ y = 1 ∨ y = 2 := by rw [← hy]; exact refuse_c
  by_cases h0 : y = 0
  · rw [if_pos h0]; exact Or.inl rfl
  · rw [if_neg h0]; exact h
theorem c2_bring : (fX10_bring 448 p1 p2 v).1 = 0 ∨ (fX10_bring 448 p1 p2 v).1 = 1 ∨ (fX10_bring 448 p1 p2 v).1 = 2 := by
  unfold fX10_bring
  dsimp only
  generalize hy : fX10_refuse _ v = y
  have h : y = 0 ∨ y = 1 ∨ y = 2 := by rw [← hy]; exact refuse_c
  by_cases h0 : y = 0
  · rw [if_pos h0]; exact Or.inl rfl
  · rw [if_neg h0]; exact h
theorem c2_judge : (fX10_judge 448 p1 v).1 = 0 ∨ (fX10_judge 448 p1 v).1 = 1 ∨ (fX10_judge 448 p1 v).1 = 2 := by
  unfold fX10_judge
  dsimp only
  generalize hy : fX10_refuse _ v = y
  have h : y = 0 ∨ y = 1 ∨ y = 2 := by rw [← hy]; exact refuse_c
  by_cases h0 : y = 0
  · rw [if_pos h0]; exact Or.inl rfl
  · rw [if_neg h0]; exact h
theorem c2_file : (fX10_file 448 p1 v).1 = 0 ∨ (fX10_file 448 p1 v).1 = 1 ∨ (fX10_file 448 p1 v).1 = 2 := by
  unfold fX10_file
  dsimp only
  generalize hy : fX10_refuse _ v = y
  have h : y = 0 ∨ y = 1 ∨ y = 2 := by rw [← hy]; exact refuse_c
  by_cases h0 : y = 0
  · rw [if_pos h0]; exact Or.inl rfl
  · rw [if_neg h0]; exact h
theorem c2_addBlock : (fX10_addBlock 448 p1 p2 v).1 = 0 ∨ (fX10_addBlock 448 p1 p2 v).1 = 1 ∨ (fX10_addBlock 448 p1 p2 v).1 = 2 := by
  unfold fX10_addBlock
  by_cases h : fX10_inRange p1 1 5000 = 0
  · rw [if_pos h]; exact Or.inr (Or.inl rfl)
  rw [if_neg h]
  clear h
  by_cases h : fX10_inRange p2 (-3) 3 = 0
  · rw [if_pos h]; exact Or.inr (Or.inl rfl)
  rw [if_neg h]
  clear h
  by_cases h : v (rN (v 448 0) + 1) 3 < 10
  · rw [if_pos h]; exact Or.inl rfl
  · rw [if_neg h]; exact Or.inr (Or.inr rfl)
theorem c2_addType : (fX10_addType 448 p1 p2 p3 p4 v).1 = 0 ∨ (fX10_addType 448 p1 p2 p3 p4 v).1 = 1 ∨ (fX10_addType 448 p1 p2 p3 p4 v).1 = 2 := by
  unfold fX10_addType
  by_cases h : fX10_inRange p1 100 14000 = 0
  · rw [if_pos h]; exact Or.inr (Or.inl rfl)
  rw [if_neg h]
  clear h
  by_cases h : fX10_inRange p2 (-99) 0 = 0
  · rw [if_pos h]; exact Or.inr (Or.inl rfl)
  rw [if_neg h]
  clear h
  by_cases h : fX10_inRange p3 0 99 = 0
  · rw [if_pos h]; exact Or.inr (Or.inl rfl)
  rw [if_neg h]
  clear h
  by_cases h : fX10_isMaterial p4 = 0
  · rw [if_pos h]; exact Or.inr (Or.inl rfl)
  rw [if_neg h]
  clear h
  by_cases h : v (rN (v 448 0) + 2) 1 < 5
  · rw [if_pos h]; exact Or.inl rfl
  · rw [if_neg h]; exact Or.inr (Or.inr rfl)
theorem c2_setWarmth : (fX10_setWarmth 448 p1 v).1 = 0 ∨ (fX10_setWarmth 448 p1 v).1 = 1 := by
  unfold fX10_setWarmth
  by_cases h : fX10_inRange p1 (-10) 50 = 0
  · rw [if_pos h]; exact Or.inr rfl
  · rw [if_neg h]; exact Or.inl rfl
theorem c2_setTolerance : (fX10_setTolerance 448 p1 v).1 = 0 ∨ (fX10_setTolerance 448 p1 v).1 = 1 := by
  unfold fX10_setTolerance
  by_cases h : fX10_inRange p1 0 99 = 0
  · rw [if_pos h]; exact Or.inr rfl
  · rw [if_neg h]; exact Or.inl rfl
theorem c2_addTool : (fX10_addTool 448 p1 p2 v).1 = 0 ∨ (fX10_addTool 448 p1 p2 v).1 = 1 ∨ (fX10_addTool 448 p1 p2 v).1 = 2 := by
  unfold fX10_addTool
  split
  · exact Or.inr (Or.inl rfl)
  · split
    · exact Or.inr (Or.inl rfl)
    · split
      · exact Or.inl rfl
      · exact Or.inr (Or.inr rfl)
/-- the model's world behind a change that is recorded, seen from before -/
def CHM (v w : vSt) (A' : Ar) : Prop :=
  w 462 = A' ∧ (w 461 3 = v 461 3 ∧ w 461 7 = v 461 7) ∧ w 464 = v 464 ∧ w 466 = v 466 ∧
  (v 461 5 = 4 → w 461 5 = 4 ∧ (∀ i, i < 3 → eqA (sl w i) (sl v (i + 1))) ∧ eqA (sl w 3) (v 462)) ∧
  (inn (v 461 5) 4 → w 461 5 = v 461 5 + 1 ∧ (∀ i, i < (v 461 5).toNatClampNeg → eqA (sl w i) (sl v i)) ∧ eqA (sl w (v 461 5).toNatClampNeg) (v 462))
/-- .. and behind one that is refused, or that only asks -/
def SAM (v w : vSt) : Prop := eqA (w 462) (v 462) ∧ (w 461 3 = v 461 3 ∧ w 461 5 = v 461 5 ∧ w 461 7 = v 461 7) ∧ w 464 = v 464 ∧ w 465 = v 465 ∧ w 466 = v 466
theorem SAM.rf : SAM v v := ⟨eqA.rf, ⟨rfl, rfl, rfl⟩, rfl, rfl, rfl⟩
theorem gM_id (h : ∀ q, q < 461 → u q = w q) : gM w u = u := by
  funext q
  by_cases hq : q < 461
  · rw [gM_lo hq, h q hq]
  · rw [gM_hi hq]
theorem mSu.gMi (h : mSu v4 w A') : gM v4 w = w := gM_id fun q hq => h.1 q (by omega) (by omega) (by omega) (by omega)
theorem mFa.gMi (h : mFa v4 w k) : gM v4 w = w := gM_id fun q hq => h.1 q (by omega) (by omega)
theorem mSu.chm (h : mSu v4 w A') (hi : ∀ q, 453 ≤ q → v4 q = v q) : CHM v w A' := by
  obtain ⟨h1, h2, ⟨h3, h4, h5⟩, h6, h7⟩ := h
  have sE : ∀ i, sl v4 i = sl v i := fun i => by unfold sl; rw [hi _ (by omega)]
  rw [hi 461 (by omega)] at h3 h4 h6 h7
  rw [hi 462 (by omega)] at h6 h7
  refine ⟨h2, ⟨h3, h4⟩, by rw [h1 _ (by decide) (by decide) (by decide) (by decide), hi _ (by omega)], by rw [h1 _ (by decide) (by decide) (by decide) (by decide), hi _ (by omega)], fun q => ?_, fun q => ?_⟩
  · obtain ⟨a, b, c⟩ := h6 q
    exact ⟨a, fun i hi => by rw [← sE]; exact b i hi, c⟩
  · obtain ⟨a, b, c⟩ := h7 q
    exact ⟨a, fun i hi => by rw [← sE]; exact b i hi, c⟩
theorem mFa.sam (h : mFa v4 w k) (hi : ∀ q, 453 ≤ q → v4 q = v q) : SAM v w := by
  obtain ⟨h1, h2, h3, h4, h5⟩ := h
  rw [hi 461 (by omega)] at h2 h3 h4
  have g : ∀ q, 462 ≤ q → q ≠ 463 → w q = v q := fun q a b => by rw [h1 q (by omega) b, hi q (by omega)]
  exact ⟨by rw [g 462 (by omega) (by omega)]; exact eqA.rf, ⟨h2, h3, h4⟩, g _ (by omega) (by omega), g _ (by omega) (by omega), g _ (by omega) (by omega)⟩
/-- a wrapper of a change, told by what the change does to the array -/
def STP (n : Nat) (v : vSt) (f : Int32 × vSt) (r : Int32 × Ar) : Prop :=
  pot v ≤ pot f.2 ∧ (∃ m', Inv (n + 1) m' f.2) ∧ (rfc r.1 = 0 → f.1 = r.1 ∧ CHM v f.2 r.2) ∧ (rfc r.1 ≠ 0 → f.1 = (if r.1 = -100001 then -100102 else -100103) ∧ SAM v f.2)
theorem st3 {mr : Int32 × vSt} (hO : OKC n v code z v4 mr.1 mr.2 Int32.ofNat) (hc : code = 0 ∨ code = 1 ∨ code = 2) (h1 : rfc r.1 = 0 → ∃ w, mr = (r.1, w) ∧ mSu v4 w r.2) (h0 : rfc r.1 ≠ 0 → ∃ w, mr = (0, w) ∧ mFa v4 w (if r.1 = -100001 then 1 else 2)) :
    STP n v (if code = 0 then (z, gM v4 mr.2) else (if code = 1 then (-100102, gM v4 mr.2) else (-100103, gM v4 mr.2))) r := by
  obtain ⟨o1, o2, o3, o4, o5, o6⟩ := hO
  by_cases hx : rfc r.1 = 0
  · obtain ⟨w, e, hm⟩ := h1 hx
    rw [e] at o3 o4 o5 o6 ⊢
    dsimp only at o3 o4 o5 o6 ⊢
    have c0 : code = 0 := cco_0 hc (by rw [← o4]; exact hm.2.2.1.2.2)
    rw [if_pos c0, hm.gMi]
    exact ⟨by rw [o3]; exact o2, o6, fun _ => ⟨o5 c0, hm.chm o1⟩, fun q => absurd hx q⟩
  · obtain ⟨w, e, hm⟩ := h0 hx
    rw [e] at o3 o4 o5 o6 ⊢
    dsimp only at o3 o4 o5 o6 ⊢
    have e8 := hm.2.2.2.2
    rw [o4] at e8
    rw [hm.gMi]
    rcases hc with q | q | q
    · rw [q] at e8
      by_cases g : r.1 = -100001
      · rw [if_pos g] at e8; exact absurd e8 (by decide)
      · rw [if_neg g] at e8; exact absurd e8 (by decide)
    · rw [q] at e8 ⊢
      by_cases g : r.1 = -100001
      · rw [if_neg (by decide), if_pos rfl]
        exact ⟨by rw [o3]; exact o2, o6, fun q => absurd q hx, fun _ => ⟨(if_pos g).symm, hm.sam o1⟩⟩
      · rw [if_neg g] at e8; exact absurd e8 (by decide)
    · rw [q] at e8 ⊢
      by_cases g : r.1 = -100001
      · rw [if_pos g] at e8; exact absurd e8 (by decide)
      · rw [if_neg (by decide), if_neg (by decide)]
        exact ⟨by rw [o3]; exact o2, o6, fun q => absurd q hx, fun _ => ⟨(if_neg g).symm, hm.sam o1⟩⟩
/-- .. that throws only for its arguments -/
theorem stB {mr : Int32 × vSt} (hO : OKC n v code z v4 mr.1 mr.2 Int32.ofNat) (hc : code = 0 ∨ code = 1) (h1 : rfc r.1 = 0 → ∃ w, mr = (r.1, w) ∧ mSu v4 w r.2) (h0 : rfc r.1 ≠ 0 → r.1 = -100001 ∧ ∃ w, mr = (0, w) ∧ mFa v4 w 1) :
    STP n v (if code = 0 then (z, gM v4 mr.2) else (-100102, gM v4 mr.2)) r := by
  have h := st3 (r := r) hO (hc.imp id Or.inl) h1 (fun q => by rw [if_pos (h0 q).1]; exact (h0 q).2)
  rcases hc with q | q
  · rw [if_pos q] at h ⊢; exact h
  · rw [if_neg (by omega), if_pos q] at h
    rw [if_neg (by omega)]; exact h
/-- .. that throws only for its state -/
theorem stN {mr : Int32 × vSt} (hO : OKC n v code z v4 mr.1 mr.2 cc1) (hc : code = 0 ∨ code = 2) (h1 : rfc r.1 = 0 → ∃ w, mr = (r.1, w) ∧ mSu v4 w r.2) (h0 : rfc r.1 ≠ 0 → r.1 ≠ -100001 ∧ ∃ w, mr = (0, w) ∧ mFa v4 w 1) :
    STP n v (if code = 0 then (z, gM v4 mr.2) else (-100103, gM v4 mr.2)) r := by
  obtain ⟨o1, o2, o3, o4, o5, o6⟩ := hO
  by_cases hx : rfc r.1 = 0
  · obtain ⟨w, e, hm⟩ := h1 hx
    rw [e] at o3 o4 o5 o6 ⊢
    dsimp only at o3 o4 o5 o6 ⊢
    have c0 : code = 0 := cc1_0 (by rw [← o4]; exact hm.2.2.1.2.2)
    rw [if_pos c0, hm.gMi]
    exact ⟨by rw [o3]; exact o2, o6, fun _ => ⟨o5 c0, hm.chm o1⟩, fun q => absurd hx q⟩
  · obtain ⟨g, w, e, hm⟩ := h0 hx
    rw [e] at o3 o4 o5 o6 ⊢
    dsimp only at o3 o4 o5 o6 ⊢
    have e8 := hm.2.2.2.2
    rw [o4] at e8
    rw [hm.gMi]
    rcases hc with q | q
    · rw [q] at e8; exact absurd e8 (by decide)
    · rw [q, if_neg (by decide)]
      exact ⟨by rw [o3]; exact o2, o6, fun q => absurd q hx, fun _ => ⟨(if_neg g).symm, hm.sam o1⟩⟩
theorem Inv.u4 (hI : Inv n m v) (hi : ∀ q, 453 ≤ q → u q = v q) : u 462 = v 462 ∧ inn (u 461 5) 5 := ⟨hi _ (by omega), by rw [hi _ (by omega)]; exact hI.2.2.1.2⟩
theorem m_measure (hI : Inv n m v) (hu : u 462 = v 462 ∧ inn (u 461 5) 5) : (rfc (sGoMeasure (v 462) p p2 p3).1 = 0 → ∃ w, fX11_measure 461 p p2 p3 u = ((sGoMeasure (v 462) p p2 p3).1, w) ∧ mSu u w (sGoMeasure (v 462) p p2 p3).2) ∧ (rfc (sGoMeasure (v 462) p p2 p3).1 ≠ 0 → ∃ w, fX11_measure 461 p p2 p3 u = (0, w) ∧ mFa u w (if (sGoMeasure (v 462) p p2 p3).1 = -100001 then 1 else 2)) := by
  have hw := hI.wf
  have hgo : ∀ w : vSt, w 462 = v 462 → fX11_goMeasure 461 p p2 p3 w = ((sGoMeasure (v 462) p p2 p3).1, uA w 462 (sGoMeasure (v 462) p p2 p3).2) := fun w e => by
    have := m_goMeasure (v := w) (p := p) (m := p2) (len := p3) (by rw [e]; exact hw.1.1)
    rw [e] at this; exact this
  have G := gm (k := 2) (eo_meas (p := p) (p2 := p2) (p3 := p3) hw) hu.1 hu.2 hgo
  refine ⟨fun hx => ?_, fun hx => ?_⟩
  · obtain ⟨w, e, hm, _⟩ := G.1 hx
    refine ⟨w, ?_, hm⟩
    unfold fX11_measure
    dsimp only
    rw [e]
  · obtain ⟨w, e, hm, _⟩ := G.2 hx
    refine ⟨w, ?_, hm⟩
    unfold fX11_measure
    dsimp only
    rw [e]
theorem s_measure (hI : Inv n m v) : oL_measure 448 p p2 p3 v ∧ STP n v (fL_measure 448 p p2 p3 v) (sGoMeasure (v 462) p p2 p3) := by
  obtain ⟨o1, o2, o3⟩ := t_measure (p := p) (p2 := p2) (p3 := p3) hI
  have hcd := c2_measure (p1 := p) (p2 := p2) (p3 := p3) (v := v)
  have hm := m_measure (p := p) (p2 := p2) (p3 := p3) hI (hI.u4 o3.1)
  refine ⟨⟨o1, ?_, fun h0 v4 _ h1 => (hcd.resolve_left h0).resolve_left h1⟩, ?_⟩
  · unfold kkL_measure fL_measure kkX10_measure
    rcases hcd with h | h | h
    · rw [if_pos h]; dsimp only; rw [pot_gM]; omega
    · rw [if_neg (by rw [h]; decide)]; dsimp only; rw [if_pos h]; dsimp only; rw [pot_gM]; omega
    · rw [if_neg (by rw [h]; decide)]; dsimp only; rw [if_neg (by rw [h]; decide)]; dsimp only; rw [pot_gM]; omega
  · exact st3 o3 hcd hm.1 hm.2
theorem m_calibrate (hI : Inv n m v) (hu : u 462 = v 462 ∧ inn (u 461 5) 5) : (rfc (sGoCalibrate (v 462) p p2).1 = 0 → ∃ w, fX11_calibrate 461 p p2 u = ((sGoCalibrate (v 462) p p2).1, w) ∧ mSu u w (sGoCalibrate (v 462) p p2).2) ∧ (rfc (sGoCalibrate (v 462) p p2).1 ≠ 0 → ∃ w, fX11_calibrate 461 p p2 u = (0, w) ∧ mFa u w (if (sGoCalibrate (v 462) p p2).1 = -100001 then 1 else 2)) := by
  have hw := hI.wf
  have hgo : ∀ w : vSt, w 462 = v 462 → fX11_goCalibrate 461 p p2 w = ((sGoCalibrate (v 462) p p2).1, uA w 462 (sGoCalibrate (v 462) p p2).2) := fun w e => by
    have := m_goCalibrate (v := w) (p := p) (len := p2) (by rw [e]; exact hw.1.1) (by rw [e]; exact hw.1.2.1)
    rw [e] at this; exact this
  have G := gm (k := 2) (eo_cal (p := p) (p2 := p2) hw) hu.1 hu.2 hgo
  refine ⟨fun hx => ?_, fun hx => ?_⟩
  · obtain ⟨w, e, hm, _⟩ := G.1 hx
    refine ⟨w, ?_, hm⟩
    unfold fX11_calibrate
    dsimp only
    rw [e]
  · obtain ⟨w, e, hm, _⟩ := G.2 hx
    refine ⟨w, ?_, hm⟩
    unfold fX11_calibrate
    dsimp only
    rw [e]
theorem s_calibrate (hI : Inv n m v) : oL_calibrate 448 p p2 v ∧ STP n v (fL_calibrate 448 p p2 v) (sGoCalibrate (v 462) p p2) := by
  obtain ⟨o1, o2, o3⟩ := t_calibrate (p := p) (p2 := p2) hI
  have hcd := c2_calibrate (p1 := p) (p2 := p2) (v := v)
  have hm := m_calibrate (p := p) (p2 := p2) hI (hI.u4 o3.1)
  refine ⟨⟨o1, ?_, fun h0 v4 _ h1 => (hcd.resolve_left h0).resolve_left h1⟩, ?_⟩
  · unfold kkL_calibrate fL_calibrate kkX10_calibrate
    rcases hcd with h | h | h
    · rw [if_pos h]; dsimp only; rw [pot_gM]; omega
    · rw [if_neg (by rw [h]; decide)]; dsimp only; rw [if_pos h]; dsimp only; rw [pot_gM]; omega
    · rw [if_neg (by rw [h]; decide)]; dsimp only; rw [if_neg (by rw [h]; decide)]; dsimp only; rw [pot_gM]; omega
  · exact st3 o3 hcd hm.1 hm.2
theorem m_bring (hI : Inv n m v) (hu : u 462 = v 462 ∧ inn (u 461 5) 5) : (rfc (sGoBring (v 462) p p2).1 = 0 → ∃ w, fX11_bring 461 p p2 u = ((sGoBring (v 462) p p2).1, w) ∧ mSu u w (sGoBring (v 462) p p2).2) ∧ (rfc (sGoBring (v 462) p p2).1 ≠ 0 → ∃ w, fX11_bring 461 p p2 u = (0, w) ∧ mFa u w (if (sGoBring (v 462) p p2).1 = -100001 then 1 else 2)) := by
  have hw := hI.wf
  have hgo : ∀ w : vSt, w 462 = v 462 → fX11_goBring 461 p p2 w = ((sGoBring (v 462) p p2).1, uA w 462 (sGoBring (v 462) p p2).2) := fun w e => by
    have := m_goBring (v := w) (k := p) (d := p2) (by rw [e]; exact hw.1.2.2.2.1) (by rw [e]; exact hw.1.2.2.1)
    rw [e] at this; exact this
  have G := gm (k := 2) (eo_bring (p := p) (p2 := p2) hw) hu.1 hu.2 hgo
  refine ⟨fun hx => ?_, fun hx => ?_⟩
  · obtain ⟨w, e, hm, _⟩ := G.1 hx
    refine ⟨w, ?_, hm⟩
    unfold fX11_bring
    dsimp only
    rw [e]
  · obtain ⟨w, e, hm, _⟩ := G.2 hx
    refine ⟨w, ?_, hm⟩
    unfold fX11_bring
    dsimp only
    rw [e]
theorem s_bring (hI : Inv n m v) : oL_bring 448 p p2 v ∧ STP n v (fL_bring 448 p p2 v) (sGoBring (v 462) p p2) := by
  obtain ⟨o1, o2, o3⟩ := t_bring (p := p) (p2 := p2) hI
  have hcd := c2_bring (p1 := p) (p2 := p2) (v := v)
  have hm := m_bring (p := p) (p2 := p2) hI (hI.u4 o3.1)
  refine ⟨⟨o1, ?_, fun h0 v4 _ h1 => (hcd.resolve_left h0).resolve_left h1⟩, ?_⟩
  · unfold kkL_bring fL_bring kkX10_bring
    rcases hcd with h | h | h
    · rw [if_pos h]; dsimp only; rw [pot_gM]; omega
    · rw [if_neg (by rw [h]; decide)]; dsimp only; rw [if_pos h]; dsimp only; rw [pot_gM]; omega
    · rw [if_neg (by rw [h]; decide)]; dsimp only; rw [if_neg (by rw [h]; decide)]; dsimp only; rw [pot_gM]; omega
  · exact st3 o3 hcd hm.1 hm.2
theorem m_judge (hI : Inv n m v) (hn : n ≤ 3192) (hu : u 462 = v 462 ∧ inn (u 461 5) 5) : (rfc (sGoJudge (v 462) p).1 = 0 → ∃ w, fX11_judge 461 p u = ((sGoJudge (v 462) p).1, w) ∧ mSu u w (sGoJudge (v 462) p).2) ∧ (rfc (sGoJudge (v 462) p).1 ≠ 0 → ∃ w, fX11_judge 461 p u = (0, w) ∧ mFa u w (if (sGoJudge (v 462) p).1 = -100001 then 1 else 2)) := by
  have hw := hI.wf
  have hQ := hI.q3200 hn
  have hgo : ∀ w : vSt, w 462 = v 462 → fX11_goJudge 461 p w = ((sGoJudge (v 462) p).1, uA w 462 (sGoJudge (v 462) p).2) := fun w e => by
    have := (m_goJudge (v := w) (p := p) (by rw [e]; exact hw) (by rw [e]; exact hQ)).1
    rw [e] at this; exact this
  have G := gm (k := 2) (eo_judge (A := v 462) (p := p)) hu.1 hu.2 hgo
  refine ⟨fun hx => ?_, fun hx => ?_⟩
  · obtain ⟨w, e, hm, _⟩ := G.1 hx
    refine ⟨w, ?_, hm⟩
    unfold fX11_judge
    dsimp only
    rw [e]
  · obtain ⟨w, e, hm, _⟩ := G.2 hx
    refine ⟨w, ?_, hm⟩
    unfold fX11_judge
    dsimp only
    rw [e]
theorem s_judge (hI : Inv n m v) (hn : n ≤ 3192) : oL_judge 448 p v ∧ STP n v (fL_judge 448 p v) (sGoJudge (v 462) p) := by
  obtain ⟨o1, o2, o3⟩ := t_judge (p := p) hI hn
  have hcd := c2_judge (p1 := p) (v := v)
  have hm := m_judge (p := p) hI hn (hI.u4 o3.1)
  refine ⟨⟨o1, ?_, fun h0 v4 _ h1 => (hcd.resolve_left h0).resolve_left h1⟩, ?_⟩
  · unfold kkL_judge fL_judge kkX10_judge
    rcases hcd with h | h | h
    · rw [if_pos h]; dsimp only; rw [pot_gM]; omega
    · rw [if_neg (by rw [h]; decide)]; dsimp only; rw [if_pos h]; dsimp only; rw [pot_gM]; omega
    · rw [if_neg (by rw [h]; decide)]; dsimp only; rw [if_neg (by rw [h]; decide)]; dsimp only; rw [pot_gM]; omega
  · exact st3 o3 hcd hm.1 hm.2
theorem m_file (hI : Inv n m v) (hu : u 462 = v 462 ∧ inn (u 461 5) 5) : (rfc (sGoFile (v 462) p).1 = 0 → ∃ w, fX11_file 461 p u = ((sGoFile (v 462) p).1, w) ∧ mSu u w (sGoFile (v 462) p).2) ∧ (rfc (sGoFile (v 462) p).1 ≠ 0 → ∃ w, fX11_file 461 p u = (0, w) ∧ mFa u w (if (sGoFile (v 462) p).1 = -100001 then 1 else 2)) := by
  have hw := hI.wf
  have hgo : ∀ w : vSt, w 462 = v 462 → fX11_goFile 461 p w = ((sGoFile (v 462) p).1, uA w 462 (sGoFile (v 462) p).2) := fun w e => by
    have := (m_goFile (v := w) (a := p) (by rw [e]; exact hw)).1
    rw [e] at this; exact this
  have G := gm (k := 2) (eo_file (p := p) hw) hu.1 hu.2 hgo
  refine ⟨fun hx => ?_, fun hx => ?_⟩
  · obtain ⟨w, e, hm, _⟩ := G.1 hx
    refine ⟨w, ?_, hm⟩
    unfold fX11_file
    dsimp only
    rw [e]
  · obtain ⟨w, e, hm, _⟩ := G.2 hx
    refine ⟨w, ?_, hm⟩
    unfold fX11_file
    dsimp only
    rw [e]
theorem s_file (hI : Inv n m v) : oL_file 448 p v ∧ STP n v (fL_file 448 p v) (sGoFile (v 462) p) := by
  obtain ⟨o1, o2, o3⟩ := t_file (p := p) hI
  have hcd := c2_file (p1 := p) (v := v)
  have hm := m_file (p := p) hI (hI.u4 o3.1)
  refine ⟨⟨o1, ?_, fun h0 v4 _ h1 => (hcd.resolve_left h0).resolve_left h1⟩, ?_⟩
  · unfold kkL_file fL_file kkX10_file
    rcases hcd with h | h | h
    · rw [if_pos h]; dsimp only; rw [pot_gM]; omega
    · rw [if_neg (by rw [h]; decide)]; dsimp only; rw [if_pos h]; dsimp only; rw [pot_gM]; omega
    · rw [if_neg (by rw [h]; decide)]; dsimp only; rw [if_neg (by rw [h]; decide)]; dsimp only; rw [pot_gM]; omega
  · exact st3 o3 hcd hm.1 hm.2
theorem day_ne (hw : WF A) : (sGoDay A).1 ≠ -100001 := fun e => by
  rcases ep_day hw with h | h
  · have h2 := congrFun h.2 210
    by_cases q : A 210 = 999
    · have e1 : (sGoDay A).1 = -100002 := by unfold sGoDay; rw [if_pos q]
      rw [e1] at e
      exact absurd e (by decide)
    · have e1 : (sGoDay A).2 210 = A 210 + 1 := by unfold sGoDay; rw [if_neg q]; dsimp only; rw [st_s]
      rw [e1] at h2
      have h3 := congrArg Int32.toInt h2
      have hr := fb_rngX (A 210)
      rw [Int32.toInt_add, Int.bmod_def, show (1 : Int32).toInt = 1 from rfl] at h3
      split at h3 <;> omega
  · rw [e] at h; exact absurd h (by decide)
theorem pass_ne (hw : WF A) : (sGoPass A).1 ≠ -100001 := fun e => by
  by_cases q : sReasonP A ≤ 0
  · have e1 : (sGoPass A).1 = (fX11_typeOf (A 183)) := by unfold sGoPass; rw [if_pos q]
    have h0 : A 206 ≠ 0 := fun e0 => by
      unfold sReasonP at q
      rw [if_pos e0] at q
      exact absurd q (by decide)
    obtain ⟨dd, x, q1, q2, q3, q4⟩ := hw.fk h0
    rw [e1] at e
    rw [e] at q2
    exact absurd q2.1 (by decide)
  · have e1 : (sGoPass A).1 = -100002 := by unfold sGoPass; rw [if_neg q]
    rw [e1] at e
    exact absurd e (by decide)
theorem m_endDay (hI : Inv n m v) (hu : u 462 = v 462 ∧ inn (u 461 5) 5) : (rfc (sGoDay (v 462)).1 = 0 → ∃ w, fX11_endDay 461 u = ((sGoDay (v 462)).1, w) ∧ mSu u w (sGoDay (v 462)).2) ∧ (rfc (sGoDay (v 462)).1 ≠ 0 → ∃ w, fX11_endDay 461 u = (0, w) ∧ mFa u w (if (sGoDay (v 462)).1 = -100001 then 1 else 1)) := by
  have hw := hI.wf
  have hgo : ∀ w : vSt, w 462 = v 462 → fX11_goDay 461 w = ((sGoDay (v 462)).1, uA w 462 (sGoDay (v 462)).2) := fun w e => by
    have := (m_goDay (v := w) (by rw [e]; exact hw)).1
    rw [e] at this; exact this
  have G := gm (k := 1) (eo_day hw) hu.1 hu.2 hgo
  refine ⟨fun hx => ?_, fun hx => ?_⟩
  · obtain ⟨w, e, hm, _⟩ := G.1 hx
    refine ⟨w, ?_, hm⟩
    unfold fX11_endDay
    dsimp only
    rw [e]
  · obtain ⟨w, e, hm, _⟩ := G.2 hx
    refine ⟨w, ?_, hm⟩
    unfold fX11_endDay
    dsimp only
    rw [e]
theorem s_endDay (hI : Inv n m v) : oL_endDay 448 v ∧ STP n v (fL_endDay 448 v) (sGoDay (v 462)) := by
  obtain ⟨o1, o2, hcd, o3⟩ := t_endDay hI
  have hm := m_endDay hI (hI.u4 o3.1)
  have hne : (sGoDay (v 462)).1 ≠ -100001 := day_ne hI.wf
  refine ⟨⟨o1, ?_, fun h0 v4 _ => hcd.resolve_left h0⟩, ?_⟩
  · unfold kkL_endDay fL_endDay kkX10_endDay
    rcases hcd with h | h
    · rw [if_pos h]; dsimp only; rw [pot_gM]; omega
    · rw [if_neg (by rw [h]; decide)]; dsimp only; rw [pot_gM]; omega
  · exact stN o3 hcd hm.1 (fun q => ⟨hne, by have := hm.2 q; rw [if_neg hne] at this; exact this⟩)
theorem m_passUnseen (hI : Inv n m v) (hu : u 462 = v 462 ∧ inn (u 461 5) 5) : (rfc (sGoPass (v 462)).1 = 0 → ∃ w, fX11_passUnseen 461 u = ((sGoPass (v 462)).1, w) ∧ mSu u w (sGoPass (v 462)).2) ∧ (rfc (sGoPass (v 462)).1 ≠ 0 → ∃ w, fX11_passUnseen 461 u = (0, w) ∧ mFa u w (if (sGoPass (v 462)).1 = -100001 then 1 else 1)) := by
  have hw := hI.wf
  have hgo : ∀ w : vSt, w 462 = v 462 → fX11_goPass 461 w = ((sGoPass (v 462)).1, uA w 462 (sGoPass (v 462)).2) := fun w e => by
    have := (m_goPass (v := w) (by rw [e]; exact hw)).1
    rw [e] at this; exact this
  have G := gm (k := 1) (eo_pass hw) hu.1 hu.2 hgo
  refine ⟨fun hx => ?_, fun hx => ?_⟩
  · obtain ⟨w, e, hm, _⟩ := G.1 hx
    refine ⟨w, ?_, hm⟩
    unfold fX11_passUnseen
    dsimp only
    rw [e]
  · obtain ⟨w, e, hm, _⟩ := G.2 hx
    refine ⟨w, ?_, hm⟩
    unfold fX11_passUnseen
    dsimp only
    rw [e]
theorem s_passUnseen (hI : Inv n m v) : oL_passUnseen 448 v ∧ STP n v (fL_passUnseen 448 v) (sGoPass (v 462)) := by
  obtain ⟨o1, o2, hcd, o3⟩ := t_passUnseen hI
  have hm := m_passUnseen hI (hI.u4 o3.1)
  have hne : (sGoPass (v 462)).1 ≠ -100001 := pass_ne hI.wf
  refine ⟨⟨o1, ?_, fun h0 v4 _ => hcd.resolve_left h0⟩, ?_⟩
  · unfold kkL_passUnseen fL_passUnseen kkX10_passUnseen
    rcases hcd with h | h
    · rw [if_pos h]; dsimp only; rw [pot_gM]; omega
    · rw [if_neg (by rw [h]; decide)]; dsimp only; rw [pot_gM]; omega
  · exact stN o3 hcd hm.1 (fun q => ⟨hne, by have := hm.2 q; rw [if_neg hne] at this; exact this⟩)
/-! what sets or adds -/
def rAddTool (A : Ar) (p1 p2 : Int32) : Int32 × Ar := if fX11_in p1 0 4 = 0 then (-100001, A) else (if fX11_in p2 (-30) 30 = 0 then (-100001, A) else (if A 203 = 6 then (-100002, A) else (A 203, sAddTool A p1 p2)))
def rAddBlock (A : Ar) (p1 p2 : Int32) : Int32 × Ar := if fX11_in p1 1 5000 = 0 then (-100001, A) else (if fX11_in p2 (-3) 3 = 0 then (-100001, A) else (if A 204 = 10 then (-100002, A) else (A 204, sAddBlock A p1 p2)))
def rAddType (A : Ar) (p1 p2 p3 p4 : Int32) : Int32 × Ar := if fX11_in p1 100 14000 = 0 then (-100001, A) else (if fX11_in p2 (-99) 0 = 0 then (-100001, A) else (if fX11_in p3 0 99 = 0 then (-100001, A) else (if fX11_isMaterial p4 = 0 then (-100001, A) else (if A 205 = 5 then (-100002, A) else (A 205, sAddType A p1 p2 p3 p4)))))
def rSetWarmth (A : Ar) (p1 : Int32) : Int32 × Ar := if fX11_in p1 (-10) 50 = 0 then (-100001, A) else (A 208, st A 208 p1)
def rSetTolerance (A : Ar) (p1 : Int32) : Int32 × Ar := if fX11_in p1 0 99 = 0 then (-100001, A) else (A 209, st A 209 p1)
/-- a refusal of the model, without an order -/
theorem mb_ref {x : Int32} (hx : x = 1 ∨ x = 2) : fX11_fails 461 x (fX11_begins 461 u) = (0, u2 (fX11_begins 461 u) 461 8 x) ∧ mFa u (u2 (fX11_begins 461 u) 461 8 x) x := ⟨rfl, m_ref⟩
theorem mb_suc {x y : Int32} {W : vSt} (hc : inn (u 461 5) 5) (hx : rfc x = 0) (hW : W = uA (fX11_begins 461 u) 462 A') : ∃ w, fX11_ends 461 x 2 W = (x, w) ∧ mSu u w A' := by
  obtain ⟨w, e, hm, _⟩ := m_endsS (u := u) (k := 2) (A' := A') (x := x) hc hx
  exact ⟨w, by rw [hW]; exact e, hm⟩
theorem rfc_n1 : rfc (-100001) = 1 := by decide
theorem rfc_n2 : rfc (-100002) = 2 := by decide
theorem m_addTool (hI : Inv n m v) (hu : u 462 = v 462 ∧ inn (u 461 5) 5) : (rfc (rAddTool (v 462) p1 p2).1 = 0 → ∃ w, fX11_addTool 461 p1 p2 u = ((rAddTool (v 462) p1 p2).1, w) ∧ mSu u w (rAddTool (v 462) p1 p2).2) ∧ (rfc (rAddTool (v 462) p1 p2).1 ≠ 0 → ∃ w, fX11_addTool 461 p1 p2 u = (0, w) ∧ mFa u w (if (rAddTool (v 462) p1 p2).1 = -100001 then 1 else 2)) := by
  have hw := hI.wf
  have hW : fX11_begins 461 u 462 = v 462 := by rw [m_begins.1 _ (by decide) (by decide)]; exact hu.1
  unfold rAddTool fX11_addTool
  dsimp only
  by_cases h : fX11_in p1 0 4 = 0
  · rw [if_pos h, if_pos h]
    exact ⟨fun q => rfn1 q, fun _ => ⟨_, rfl, (show mFa u _ 1 from m_ref)⟩⟩
  rw [if_neg h, if_neg h]
  clear h
  by_cases h : fX11_in p2 (-30) 30 = 0
  · rw [if_pos h, if_pos h]
    exact ⟨fun q => rfn1 q, fun _ => ⟨_, rfl, (show mFa u _ 1 from m_ref)⟩⟩
  rw [if_neg h, if_neg h]
  clear h
  simp only [Int32.reduceToNatClampNeg]
  rw [hW]
  by_cases h : v 462 203 = 6
  · rw [if_pos h, if_pos h]
    exact ⟨fun q => rfn2 q, fun _ => ⟨_, rfl, (show mFa u _ 2 from m_ref)⟩⟩
  rw [if_neg h, if_neg h]
  have h7 := hw.1.1
  have h36 : inn (v 462 203) 6 := ⟨h7.1, by
    have := h7.2
    have : (v 462 203).toInt ≠ 6 := fun e => h (Int32.toInt_inj.mp e)
    omega⟩
  have hN6 := inn_lt h36
  have h0 : rfc (v 462 203) = 0 := rfc_0 (by have := h36.1; omega)
  generalize hWW : fX11_begins 461 u = W at *
  have e1 : fX11_sets 461 (v 462 203) 0 p1 W = uA W 462 (st (v 462) (8 * ((v 462) 203).toNatClampNeg) p1) := by rw [m_sets h36 (by decide), hW]; rfl
  have e2 : ∀ X : Ar, fX11_sets 461 (v 462 203) 1 p2 (uA W 462 X) = uA W 462 (st X (8 * ((v 462) 203).toNatClampNeg + 1) p2) := fun X => by rw [m_sets h36 (by decide), uA_s, uu]; rfl
  have e3 : ∀ X : Ar, ∀ y, fX11_sets 461 (v 462 203) 7 y (uA W 462 X) = uA W 462 (st X (8 * ((v 462) 203).toNatClampNeg + 7) y) := fun X y => by rw [m_sets h36 (by decide), uA_s, uu]; rfl
  have e4 : ∀ X : Ar, ∀ y, u2 (uA W 462 X) 462 203 y = uA W 462 (st X 203 y) := fun X y => by rw [w2, uA_s, uu]
  refine ⟨fun _ => ?_, fun q => absurd h0 q⟩
  refine mb_suc (y := 0) hu.2 h0 ?_
  rw [hWW, e1, e2, uA_s, e3, e4, uA_s]
  unfold sAddTool
  rw [st_n (show (210 : Nat) ≠ _ by omega), st_n (show (210 : Nat) ≠ _ by omega), st_n (show (203 : Nat) ≠ _ by omega), st_n (show (203 : Nat) ≠ _ by omega), st_n (show (203 : Nat) ≠ _ by omega)]
theorem m_addBlock (hI : Inv n m v) (hu : u 462 = v 462 ∧ inn (u 461 5) 5) : (rfc (rAddBlock (v 462) p1 p2).1 = 0 → ∃ w, fX11_addBlock 461 p1 p2 u = ((rAddBlock (v 462) p1 p2).1, w) ∧ mSu u w (rAddBlock (v 462) p1 p2).2) ∧ (rfc (rAddBlock (v 462) p1 p2).1 ≠ 0 → ∃ w, fX11_addBlock 461 p1 p2 u = (0, w) ∧ mFa u w (if (rAddBlock (v 462) p1 p2).1 = -100001 then 1 else 2)) := by
  have hw := hI.wf
  have hW : fX11_begins 461 u 462 = v 462 := by rw [m_begins.1 _ (by decide) (by decide)]; exact hu.1
  unfold rAddBlock fX11_addBlock
  dsimp only
  by_cases h : fX11_in p1 1 5000 = 0
  · rw [if_pos h, if_pos h]
    exact ⟨fun q => rfn1 q, fun _ => ⟨_, rfl, (show mFa u _ 1 from m_ref)⟩⟩
  rw [if_neg h, if_neg h]
  clear h
  by_cases h : fX11_in p2 (-3) 3 = 0
  · rw [if_pos h, if_pos h]
    exact ⟨fun q => rfn1 q, fun _ => ⟨_, rfl, (show mFa u _ 1 from m_ref)⟩⟩
  rw [if_neg h, if_neg h]
  clear h
  simp only [Int32.reduceToNatClampNeg]
  rw [hW]
  by_cases h : v 462 204 = 10
  · rw [if_pos h, if_pos h]
    exact ⟨fun q => rfn2 q, fun _ => ⟨_, rfl, (show mFa u _ 2 from m_ref)⟩⟩
  rw [if_neg h, if_neg h]
  have h7 := hw.1.2.1
  have h36 : inn (v 462 204) 10 := ⟨h7.1, by
    have := h7.2
    have : (v 462 204).toInt ≠ 10 := fun e => h (Int32.toInt_inj.mp e)
    omega⟩
  have hN6 := inn_lt h36
  have n0 := rn_to h36.1
  have h0 : rfc (v 462 204) = 0 := rfc_0 (by have := h36.1; omega)
  have i0 : (48 + 3 * v 462 204 + 0).toNatClampNeg = 48 + 3 * ((v 462) 204).toNatClampNeg := ixB h36 (by decide)
  have i1 : (48 + 3 * v 462 204 + 1).toNatClampNeg = 48 + 3 * ((v 462) 204).toNatClampNeg + 1 := ixB h36 (by decide)
  generalize hWW : fX11_begins 461 u = W at *
  have e4 : ∀ X : Ar, ∀ j y, u2 (uA W 462 X) 462 j y = uA W 462 (st X j y) := fun X j y => by rw [w2, uA_s, uu]
  refine ⟨fun _ => ?_, fun q => absurd h0 q⟩
  refine mb_suc (y := 0) hu.2 h0 ?_
  rw [hWW, i0, i1, w2 (v := W), e4, e4, uA_s, hW]
  unfold sAddBlock
  rw [st_n (show (204 : Nat) ≠ _ by omega), st_n (show (204 : Nat) ≠ _ by omega)]
theorem m_addType (hI : Inv n m v) (hu : u 462 = v 462 ∧ inn (u 461 5) 5) : (rfc (rAddType (v 462) p1 p2 p3 p4).1 = 0 → ∃ w, fX11_addType 461 p1 p2 p3 p4 u = ((rAddType (v 462) p1 p2 p3 p4).1, w) ∧ mSu u w (rAddType (v 462) p1 p2 p3 p4).2) ∧ (rfc (rAddType (v 462) p1 p2 p3 p4).1 ≠ 0 → ∃ w, fX11_addType 461 p1 p2 p3 p4 u = (0, w) ∧ mFa u w (if (rAddType (v 462) p1 p2 p3 p4).1 = -100001 then 1 else 2)) := by
  have hw := hI.wf
  have hW : fX11_begins 461 u 462 = v 462 := by rw [m_begins.1 _ (by decide) (by decide)]; exact hu.1
  unfold rAddType fX11_addType
  dsimp only
  by_cases h : fX11_in p1 100 14000 = 0
  · rw [if_pos h, if_pos h]
    exact ⟨fun q => rfn1 q, fun _ => ⟨_, rfl, (show mFa u _ 1 from m_ref)⟩⟩
  rw [if_neg h, if_neg h]
  clear h
  by_cases h : fX11_in p2 (-99) 0 = 0
  · rw [if_pos h, if_pos h]
    exact ⟨fun q => rfn1 q, fun _ => ⟨_, rfl, (show mFa u _ 1 from m_ref)⟩⟩
  rw [if_neg h, if_neg h]
  clear h
  by_cases h : fX11_in p3 0 99 = 0
  · rw [if_pos h, if_pos h]
    exact ⟨fun q => rfn1 q, fun _ => ⟨_, rfl, (show mFa u _ 1 from m_ref)⟩⟩
  rw [if_neg h, if_neg h]
  clear h
  by_cases h : fX11_isMaterial p4 = 0
  · rw [if_pos h, if_pos h]
    exact ⟨fun q => rfn1 q, fun _ => ⟨_, rfl, (show mFa u _ 1 from m_ref)⟩⟩
  rw [if_neg h, if_neg h]
  clear h
  simp only [Int32.reduceToNatClampNeg]
  rw [hW]
  by_cases h : v 462 205 = 5
  · rw [if_pos h, if_pos h]
    exact ⟨fun q => rfn2 q, fun _ => ⟨_, rfl, (show mFa u _ 2 from m_ref)⟩⟩
  rw [if_neg h, if_neg h]
  have h7 := hw.1.2.2.1
  have h36 : inn (v 462 205) 5 := ⟨h7.1, by
    have := h7.2
    have : (v 462 205).toInt ≠ 5 := fun e => h (Int32.toInt_inj.mp e)
    omega⟩
  have hN6 := inn_lt h36
  have h0 : rfc (v 462 205) = 0 := rfc_0 (by have := h36.1; omega)
  generalize hWW : fX11_begins 461 u = W at *
  have e1 : fX11_lays 461 (v 462 205) 0 p1 W = uA W 462 (st (v 462) ((78 + 21 * (((v 462) 205).toNatClampNeg) + 0)) p1) := by rw [m_lays h36 (by decide), hW]; rfl
  have e2 : ∀ X : Ar, fX11_lays 461 (v 462 205) 1 p2 (uA W 462 X) = uA W 462 (st X ((78 + 21 * (((v 462) 205).toNatClampNeg) + 1)) p2) := fun X => by rw [m_lays h36 (by decide), uA_s, uu]; rfl
  have e3 : ∀ X : Ar, fX11_lays 461 (v 462 205) 2 p3 (uA W 462 X) = uA W 462 (st X ((78 + 21 * (((v 462) 205).toNatClampNeg) + 2)) p3) := fun X => by rw [m_lays h36 (by decide), uA_s, uu]; rfl
  have e3b : ∀ X : Ar, fX11_lays 461 (v 462 205) 3 p4 (uA W 462 X) = uA W 462 (st X ((78 + 21 * (((v 462) 205).toNatClampNeg) + 3)) p4) := fun X => by rw [m_lays h36 (by decide), uA_s, uu]; rfl
  have e4 : ∀ X : Ar, ∀ y, u2 (uA W 462 X) 462 205 y = uA W 462 (st X 205 y) := fun X y => by rw [w2, uA_s, uu]
  refine ⟨fun _ => ?_, fun q => absurd h0 q⟩
  refine mb_suc (y := 0) hu.2 h0 ?_
  rw [hWW, e1, e2, e3, e3b, e4, uA_s]
  unfold sAddType
  rw [st_n (show (205 : Nat) ≠ _ by omega), st_n (show (205 : Nat) ≠ _ by omega), st_n (show (205 : Nat) ≠ _ by omega), st_n (show (205 : Nat) ≠ _ by omega)]
theorem m_setWarmth (hI : Inv n m v) (hu : u 462 = v 462 ∧ inn (u 461 5) 5) : (rfc (rSetWarmth (v 462) p1).1 = 0 → ∃ w, fX11_setWarmth 461 p1 u = ((rSetWarmth (v 462) p1).1, w) ∧ mSu u w (rSetWarmth (v 462) p1).2) ∧ (rfc (rSetWarmth (v 462) p1).1 ≠ 0 → ∃ w, fX11_setWarmth 461 p1 u = (0, w) ∧ mFa u w (if (rSetWarmth (v 462) p1).1 = -100001 then 1 else 2)) := by
  have hw := hI.wf
  have hW : fX11_begins 461 u 462 = v 462 := by rw [m_begins.1 _ (by decide) (by decide)]; exact hu.1
  unfold rSetWarmth fX11_setWarmth
  dsimp only
  by_cases h : fX11_in p1 (-10) 50 = 0
  · rw [if_pos h, if_pos h]
    exact ⟨fun q => rfn1 q, fun _ => ⟨_, rfl, (show mFa u _ 1 from m_ref)⟩⟩
  rw [if_neg h, if_neg h]
  clear h
  simp only [Int32.reduceToNatClampNeg]
  rw [hW]
  have hT : WT (v 462) := hI.2.2.2.2.2.1.2.2.2.2
  have h0 : rfc (v 462 208) = 0 := rfc_0 (by have := hT.1.1; omega)
  refine ⟨fun _ => ?_, fun q => absurd h0 q⟩
  refine mb_suc (y := 0) hu.2 h0 ?_
  rw [w2, hW]
theorem m_setTolerance (hI : Inv n m v) (hu : u 462 = v 462 ∧ inn (u 461 5) 5) : (rfc (rSetTolerance (v 462) p1).1 = 0 → ∃ w, fX11_setTolerance 461 p1 u = ((rSetTolerance (v 462) p1).1, w) ∧ mSu u w (rSetTolerance (v 462) p1).2) ∧ (rfc (rSetTolerance (v 462) p1).1 ≠ 0 → ∃ w, fX11_setTolerance 461 p1 u = (0, w) ∧ mFa u w (if (rSetTolerance (v 462) p1).1 = -100001 then 1 else 2)) := by
  have hw := hI.wf
  have hW : fX11_begins 461 u 462 = v 462 := by rw [m_begins.1 _ (by decide) (by decide)]; exact hu.1
  unfold rSetTolerance fX11_setTolerance
  dsimp only
  by_cases h : fX11_in p1 0 99 = 0
  · rw [if_pos h, if_pos h]
    exact ⟨fun q => rfn1 q, fun _ => ⟨_, rfl, (show mFa u _ 1 from m_ref)⟩⟩
  rw [if_neg h, if_neg h]
  clear h
  simp only [Int32.reduceToNatClampNeg]
  rw [hW]
  have hT : WT (v 462) := hI.2.2.2.2.2.1.2.2.2.2
  have h0 : rfc (v 462 209) = 0 := rfc_0 (by have := hT.2.1; omega)
  refine ⟨fun _ => ?_, fun q => absurd h0 q⟩
  refine mb_suc (y := 0) hu.2 h0 ?_
  rw [w2, hW]
theorem s_addTool (hI : Inv n m v) : oL_addTool 448 p1 p2 v ∧ STP n v (fL_addTool 448 p1 p2 v) (rAddTool (v 462) p1 p2) := by
  obtain ⟨o1, o2, o3⟩ := t_addTool (p1 := p1) (p2 := p2) hI
  have hcd := c2_addTool (p1 := p1) (p2 := p2) (v := v)
  have hm := m_addTool (p1 := p1) (p2 := p2) hI (hI.u4 o3.1)
  refine ⟨⟨o1, ?_, fun h0 v4 _ h1 => (hcd.resolve_left h0).resolve_left h1⟩, ?_⟩
  · unfold kkL_addTool fL_addTool kkX10_addTool
    rcases hcd with h | h | h
    · rw [if_pos h]; dsimp only; rw [pot_gM]; omega
    · rw [if_neg (by rw [h]; decide)]; dsimp only; rw [if_pos h]; dsimp only; rw [pot_gM]; omega
    · rw [if_neg (by rw [h]; decide)]; dsimp only; rw [if_neg (by rw [h]; decide)]; dsimp only; rw [pot_gM]; omega
  · exact st3 o3 hcd hm.1 hm.2
theorem s_addBlock (hI : Inv n m v) : oL_addBlock 448 p1 p2 v ∧ STP n v (fL_addBlock 448 p1 p2 v) (rAddBlock (v 462) p1 p2) := by
  obtain ⟨o1, o2, o3⟩ := t_addBlock (p1 := p1) (p2 := p2) hI
  have hcd := c2_addBlock (p1 := p1) (p2 := p2) (v := v)
  have hm := m_addBlock (p1 := p1) (p2 := p2) hI (hI.u4 o3.1)
  refine ⟨⟨o1, ?_, fun h0 v4 _ h1 => (hcd.resolve_left h0).resolve_left h1⟩, ?_⟩
  · unfold kkL_addBlock fL_addBlock kkX10_addBlock
    rcases hcd with h | h | h
    · rw [if_pos h]; dsimp only; rw [pot_gM]; omega
    · rw [if_neg (by rw [h]; decide)]; dsimp only; rw [if_pos h]; dsimp only; rw [pot_gM]; omega
    · rw [if_neg (by rw [h]; decide)]; dsimp only; rw [if_neg (by rw [h]; decide)]; dsimp only; rw [pot_gM]; omega
  · exact st3 o3 hcd hm.1 hm.2
theorem s_addType (hI : Inv n m v) : oL_addType 448 p1 p2 p3 p4 v ∧ STP n v (fL_addType 448 p1 p2 p3 p4 v) (rAddType (v 462) p1 p2 p3 p4) := by
  obtain ⟨o1, o2, o3⟩ := t_addType (p1 := p1) (p2 := p2) (p3 := p3) (p4 := p4) hI
  have hcd := c2_addType (p1 := p1) (p2 := p2) (p3 := p3) (p4 := p4) (v := v)
  have hm := m_addType (p1 := p1) (p2 := p2) (p3 := p3) (p4 := p4) hI (hI.u4 o3.1)
  refine ⟨⟨o1, ?_, fun h0 v4 _ h1 => (hcd.resolve_left h0).resolve_left h1⟩, ?_⟩
  · unfold kkL_addType fL_addType kkX10_addType
    rcases hcd with h | h | h
    · rw [if_pos h]; dsimp only; rw [pot_gM]; omega
    · rw [if_neg (by rw [h]; decide)]; dsimp only; rw [if_pos h]; dsimp only; rw [pot_gM]; omega
    · rw [if_neg (by rw [h]; decide)]; dsimp only; rw [if_neg (by rw [h]; decide)]; dsimp only; rw [pot_gM]; omega
  · exact st3 o3 hcd hm.1 hm.2
theorem s_setWarmth (hI : Inv n m v) : oL_setWarmth 448 p1 v ∧ STP n v (fL_setWarmth 448 p1 v) (rSetWarmth (v 462) p1) := by
  obtain ⟨o1, o2, o3⟩ := t_setWarmth (p1 := p1) hI
  have hcd := c2_setWarmth (p1 := p1) (v := v)
  have hm := m_setWarmth (p1 := p1) hI (hI.u4 o3.1)
  have hb : rfc (rSetWarmth (v 462) p1).1 ≠ 0 → (rSetWarmth (v 462) p1).1 = -100001 := fun hx => by
    rcases rfc_or (rSetWarmth (v 462) p1).1 with q | ⟨q, _⟩ | ⟨q, _⟩
    · exact absurd q hx
    · exact q
    · unfold rSetWarmth at q ⊢
      by_cases h : fX11_in p1 (-10) 50 = 0
      · rw [if_pos h]
      · rw [if_neg h] at q
        have hT : WT (v 462) := hI.2.2.2.2.2.1.2.2.2.2
        have e := congrArg Int32.toInt q
        dsimp only at e
        rw [show (-100002 : Int32).toInt = -100002 from rfl] at e
        have := hT.1.1
        have := hT.2.1
        omega
  refine ⟨⟨o1, ?_, fun h0 v4 _ => hcd.resolve_left h0⟩, ?_⟩
  · unfold kkL_setWarmth fL_setWarmth kkX10_setWarmth
    rcases hcd with h | h
    · rw [if_pos h]; dsimp only; rw [pot_gM]; omega
    · rw [if_neg (by rw [h]; decide)]; dsimp only; rw [pot_gM]; omega
  · exact stB o3 hcd hm.1 (fun q => ⟨hb q, by have := hm.2 q; rw [if_pos (hb q)] at this; exact this⟩)
theorem s_setTolerance (hI : Inv n m v) : oL_setTolerance 448 p1 v ∧ STP n v (fL_setTolerance 448 p1 v) (rSetTolerance (v 462) p1) := by
  obtain ⟨o1, o2, o3⟩ := t_setTolerance (p1 := p1) hI
  have hcd := c2_setTolerance (p1 := p1) (v := v)
  have hm := m_setTolerance (p1 := p1) hI (hI.u4 o3.1)
  have hb : rfc (rSetTolerance (v 462) p1).1 ≠ 0 → (rSetTolerance (v 462) p1).1 = -100001 := fun hx => by
    rcases rfc_or (rSetTolerance (v 462) p1).1 with q | ⟨q, _⟩ | ⟨q, _⟩
    · exact absurd q hx
    · exact q
    · unfold rSetTolerance at q ⊢
      by_cases h : fX11_in p1 0 99 = 0
      · rw [if_pos h]
      · rw [if_neg h] at q
        have hT : WT (v 462) := hI.2.2.2.2.2.1.2.2.2.2
        have e := congrArg Int32.toInt q
        dsimp only at e
        rw [show (-100002 : Int32).toInt = -100002 from rfl] at e
        have := hT.1.1
        have := hT.2.1
        omega
  refine ⟨⟨o1, ?_, fun h0 v4 _ => hcd.resolve_left h0⟩, ?_⟩
  · unfold kkL_setTolerance fL_setTolerance kkX10_setTolerance
    rcases hcd with h | h
    · rw [if_pos h]; dsimp only; rw [pot_gM]; omega
    · rw [if_neg (by rw [h]; decide)]; dsimp only; rw [pot_gM]; omega
  · exact stB o3 hcd hm.1 (fun q => ⟨hb q, by have := hm.2 q; rw [if_pos (hb q)] at this; exact this⟩)
end T50b
