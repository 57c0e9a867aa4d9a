/-! THE PLAIN PART 12c: questions about places, records. -/
section T41c
variable {n m : Nat} {v w : vSt} {A : Ar} {z k p p2 c y : Int32}
theorem np_1 (h : ¬ 0 ≤ p) {x : Int32} : fX10_needPlace p x v = 1 := by unfold fX10_needPlace; rw [if_neg h]
theorem np_3 {x : Int32} (h : 0 ≤ p) (h2 : ¬ p < x) : fX10_needPlace p x v = 3 := by unfold fX10_needPlace; rw [if_pos h, if_neg h2]
theorem np_0 {x : Int32} (h : 0 ≤ p) (h2 : p < x) : fX10_needPlace p x v = 0 := by unfold fX10_needPlace; rw [if_pos h, if_pos h2]
theorem nle0 (h : ¬ 0 ≤ p) : p < 0 := by
  rw [Int32.le_iff_toInt_le] at h
  rw [Int32.lt_iff_toInt_lt]
  omega
theorem nlt0 (h : 0 ≤ p) : ¬ p < 0 := by
  rw [Int32.le_iff_toInt_le] at h
  rw [Int32.lt_iff_toInt_lt]
  omega
theorem nltL {x : Int32} (h : ¬ p < x) : x ≤ p := by
  rw [Int32.lt_iff_toInt_lt] at h
  rw [Int32.le_iff_toInt_le]
  omega
theorem ltL {x : Int32} (h : p < x) : ¬ x ≤ p := by
  rw [Int32.lt_iff_toInt_lt] at h
  rw [Int32.le_iff_toInt_le]
  omega
theorem lt_in {x : Int32} {N : Nat} (h0 : 0 ≤ p) (h : p < x) (hx : inn x (N + 1)) : inn p N ∧ p.toNatClampNeg < x.toNatClampNeg := by
  have h0 := i_le h0
  rw [show (0 : Int32).toInt = 0 from rfl] at h0
  rw [Int32.lt_iff_toInt_lt] at h
  have a := rn_to h0
  have b := rn_to hx.1
  have := hx.2
  exact ⟨⟨h0, by omega⟩, by omega⟩
theorem pa_1 (h : ¬ 0 ≤ p) : fX11_pieceAt 461 p v = (0, u2 v 461 8 1) := by
  unfold fX11_pieceAt
  rw [if_pos (nle0 h)]
  dsimp only
  rw [asks_0 rfl]
  rfl
theorem pa_3 (h : 0 ≤ p) (h2 : ¬ p < v 462 206) : fX11_pieceAt 461 p v = (0, u2 (u2 v 461 8 0) 461 8 2) := by
  unfold fX11_pieceAt
  rw [if_neg (nlt0 h)]
  dsimp only
  rw [asks_1 (by decide)]
  dsimp only
  rw [if_neg (by decide), if_pos (show u2 v 461 8 0 462 (206 : Int32).toNatClampNeg ≤ p by rw [k462]; exact nltL h2)]
  rfl
theorem add_i {p : Int32} {k j : Nat} (h : inn p k) (hk : k ≤ 4000) (hj : j ≤ 4000) : (Int32.ofNat j + p).toNatClampNeg = j + p.toNatClampNeg ∧ (Int32.ofNat j + p).toInt = j + p.toInt := by
  have a := rn_to h.1
  have hl := inn_lt h
  have e : (Int32.ofNat j + p).toInt = j + p.toInt := by rw [ti_add (by rw [of_ti (by omega)]; omega), of_ti (by omega)]
  exact ⟨rn_of (by omega), e⟩
theorem pa_0 (h : 0 ≤ p) (h2 : p < v 462 206) (hn : inn (v 462 206) 21) : fX11_pieceAt 461 p v = (v 462 (183 + p.toNatClampNeg), u2 v 461 8 0) := by
  unfold fX11_pieceAt
  rw [if_neg (nlt0 h)]
  dsimp only
  rw [asks_1 (by decide)]
  dsimp only
  have e := (add_i (j := 183) (lt_in h h2 hn).1 (by decide) (by decide)).1
  rw [show (Int32.ofNat 183) = (183 : Int32) from rfl] at e
  rw [if_neg (by decide), if_neg (show ¬ u2 v 461 8 0 462 (206 : Int32).toNatClampNeg ≤ p by rw [k462]; exact ltL h2), k462, e]
theorem pa_o (hI : Inv n m v) : oX11_pieceAt 461 p v := by
  intro y1 e1
  refine ⟨asks_o ?_, fun v4 e4 h => ⟨vL (by decide), fun h2 => ?_⟩⟩
  · rw [e1]
    split
    · exact Or.inl rfl
    · exact Or.inr rfl
  · rw [show (206 : Int32).toNatClampNeg = 206 from rfl, e4, ak462] at h2
    have h1 : 0 ≤ p := Decidable.byContradiction fun q => h (by rw [e1, if_pos (nle0 q), asks_0 rfl])
    have h3 : p < v 462 206 := Decidable.byContradiction fun q => h2 (nltL q)
    have hp := lt_in h1 h3 hI.wf.1.2.2.2.1
    have e := (add_i (j := 183) hp.1 (by decide) (by decide)).2
    rw [show (Int32.ofNat 183) = (183 : Int32) from rfl] at e
    have := hp.1.1
    have := hp.1.2
    exact vL ⟨by rw [e]; omega, by rw [e]; omega⟩
theorem t_typeAt (hI : Inv n m v) : oX10_typeAt 448 p v ∧ oX11_typeAt 461 p v ∧ OQ v (fX10_typeAt 448 p v).1 (fX10_typeAt 448 p v).2 (fX11_typeAt 461 p v) (cc3 (fX10_typeAt 448 p v).1) := by
  refine ⟨hI.1.1.1, pa_o hI, ?_⟩
  have e3 : v (((rN (v 448 0)) + 2 + 4)) 3 = v 462 206 := hI.sr.2.2.2.2.2.1.1
  unfold fX10_typeAt fX11_typeAt
  rw [e3]
  by_cases h1 : ¬ 0 ≤ p
  · rw [np_1 h1, pa_1 h1]
    exact ⟨qs_u2, fun q => absurd (show (1 : Nat) = 0 from q) (by decide)⟩
  have h1 := Decidable.not_not.mp h1
  by_cases h2 : ¬ p < v 462 206
  · rw [np_3 h1 h2, pa_3 h1 h2]
    exact ⟨qs_uu, fun q => absurd (show (3 : Nat) = 0 from q) (by decide)⟩
  have h2 := Decidable.not_not.mp h2
  have hp := lt_in h1 h2 hI.wf.1.2.2.2.1
  rw [np_0 h1 h2, pa_0 h1 h2 hI.wf.1.2.2.2.1, if_pos rfl]
  refine ⟨qs_u2, fun _ => ?_⟩
  dsimp only
  unfold fX5_typeOfPiece
  rw [hI.cp.1.1, show rN 20 = 20 from rfl, entry_at hp.1 (by decide)]
  exact (hI.sr.2.2.2.2.2.1.2 _ hp.2).1
theorem t_wasDoubted (hI : Inv n m v) : oX10_wasDoubted 448 p v ∧ oX11_wasDoubted 461 p v ∧ OQ v (fX10_wasDoubted 448 p v).1 (fX10_wasDoubted 448 p v).2 (fX11_wasDoubted 461 p v) (cc3 (fX10_wasDoubted 448 p v).1) := by
  refine ⟨hI.1.1.1, pa_o hI, ?_⟩
  have e3 : v (((rN (v 448 0)) + 2 + 4)) 3 = v 462 206 := hI.sr.2.2.2.2.2.1.1
  unfold fX10_wasDoubted fX11_wasDoubted
  rw [e3]
  by_cases h1 : ¬ 0 ≤ p
  · rw [np_1 h1, pa_1 h1]
    dsimp only
    rw [if_neg (show ¬ (1 : Nat) = 0 by decide), if_neg (show ¬ (0 : Int32) - 0 / 2 * 2 = 1 by decide)]
    exact ⟨qs_u2, fun q => absurd (show (1 : Nat) = 0 from q) (by decide)⟩
  have h1 := Decidable.not_not.mp h1
  by_cases h2 : ¬ p < v 462 206
  · rw [np_3 h1 h2, pa_3 h1 h2]
    dsimp only
    rw [if_neg (show ¬ (3 : Nat) = 0 by decide), if_neg (show ¬ (0 : Int32) - 0 / 2 * 2 = 1 by decide)]
    exact ⟨qs_uu, fun q => absurd (show (3 : Nat) = 0 from q) (by decide)⟩
  have h2 := Decidable.not_not.mp h2
  have hp := lt_in h1 h2 hI.wf.1.2.2.2.1
  rw [np_0 h1 h2, pa_0 h1 h2 hI.wf.1.2.2.2.1, if_pos rfl]
  dsimp only
  have ed : fX5_doubtedPiece (rN (v 448 0) + 2 + 4) p v = (if v 462 (183 + p.toNatClampNeg) - v 462 (183 + p.toNatClampNeg) / 2 * 2 = 1 then 1 else 0) := by
    unfold fX5_doubtedPiece
    rw [hI.cp.1.2.2, show rN 20 = 20 from rfl, entry_at hp.1 (by decide), (hI.sr.2.2.2.2.2.1.2 _ hp.2).2.2]
  rw [ed]
  by_cases h3 : v 462 (183 + p.toNatClampNeg) - v 462 (183 + p.toNatClampNeg) / 2 * 2 = 1
  · rw [if_pos h3, if_pos h3]; exact ⟨qs_u2, fun _ => rfl⟩
  · rw [if_neg h3, if_neg h3]; exact ⟨qs_u2, fun _ => rfl⟩
theorem t_badOf (hI : Inv n m v) : oX10_badOf 448 p v ∧ oX11_badOf 461 p v ∧ OQ v (fX10_badOf 448 p v).1 (fX10_badOf 448 p v).2 (fX11_badOf 461 p v) (Int32.ofNat (fX10_badOf 448 p v).1) := by
  refine ⟨needY_o hI, ⟨⟨mo_isType, asksY, fun v3 e3 h => mo_of (isY_in hI.wf.1.2.2.1 ?_).1 (by decide)⟩, fun _ _ => ones_o _⟩, ?_⟩
  · exact fun q => h q
  have key : fX11_badOf 461 p v = if (fX11_asks 461 (fX11_isType 461 p v) v).1 = 0 then (fX11_ones 0, (fX11_asks 461 (fX11_isType 461 p v) v).2) else (fX11_ones (fX11_of 461 p 6 (fX11_asks 461 (fX11_isType 461 p v) v).2), (fX11_asks 461 (fX11_isType 461 p v) v).2) := by
    unfold fX11_badOf fX11_toldOfType
    dsimp only
    by_cases h : (fX11_asks 461 (fX11_isType 461 p v) v).1 = 0
    · rw [if_pos h, if_pos h]
    · rw [if_neg h, if_neg h]
  have e0 : fX11_ones 0 = 0 := by decide +kernel
  rw [e0] at key
  refine q_type (p := p) (F := fun r => fX4_badOfLatest r 10 v) hI key fun h => ?_
  rw [m_of (isY_in hI.wf.1.2.2.1 h).1 (by decide), ak462]
  have hk := (isY_in hI.wf.1.2.2.1 h).2
  have hY := hI.sr.2.2.2.2.1 _ hk
  have hW := hI.wf.2.2.2.1.1 _ hk
  have e7 : v ((((rN (v 448 0)) + 2 + 3) + 31 + p.toNatClampNeg)) 7 = v 462 ((78 + 21 * p.toNatClampNeg + 5)) := hY.1.2.2.2.2.2.2.1
  have h5 := hW.2.2.2.2.2.1
  have l5 := inn_lt h5
  rw [c_bad (B := v 462 ((78 + 21 * p.toNatClampNeg + 6))) (by rw [e7]; exact h5) (by rw [e7]; exact hY.2.1) (by decide), e7, show min (10 : Int32).toNatClampNeg (v 462 ((78 + 21 * p.toNatClampNeg + 5))).toNatClampNeg = (v 462 ((78 + 21 * p.toNatClampNeg + 5))).toNatClampNeg from Nat.min_eq_right (by rw [show (10 : Int32).toNatClampNeg = 10 from rfl]; omega)]
  exact (rec_at h5 hW.2.2.2.2.2.2.1).2.1
theorem t_chartedAt (hI : Inv n m v) : oX10_chartedAt 448 p p2 v ∧ oX11_chartedAt 461 p p2 v ∧ OQ v (fX10_chartedAt 448 p p2 v).1 (fX10_chartedAt 448 p p2 v).2 (fX11_chartedAt 461 p p2 v) (cc3 (fX10_chartedAt 448 p p2 v).1) := by
  have hL : ∀ w : vSt, w 462 = v 462 → sIsY (v 462) p ≠ 0 → fX11_of 461 p 8 w = v 462 ((78 + 21 * p.toNatClampNeg + 8)) := fun w e h => by
    rw [m_of (isY_in hI.wf.1.2.2.1 h).1 (by decide), e]; rfl
  have hi9 : ∀ x : Int32, inn x 12 → (9 + x).toNatClampNeg = 9 + x.toNatClampNeg ∧ inn (9 + x) 21 := fun x hx => by
    have e := add_i (j := 9) hx (by decide) (by decide)
    rw [show (Int32.ofNat 9) = (9 : Int32) from rfl] at e
    have := hx.1
    have := hx.2
    exact ⟨e.1, by rw [e.2]; omega, by rw [e.2]; omega⟩
  -- what the model asks of the chart
  have C0 : sIsY (v 462) p = 0 → fX11_asksChart 461 p p2 v = (0, u2 v 461 8 1) := fun h => by
    unfold fX11_asksChart
    rw [show fX11_isType 461 p v = sIsY (v 462) p from rfl, if_pos h]
    dsimp only
    rw [asks_0 rfl]
    rfl
  have C1 : sIsY (v 462) p ≠ 0 → ¬ 0 ≤ p2 → fX11_asksChart 461 p p2 v = (0, u2 v 461 8 1) := fun h h1 => by
    unfold fX11_asksChart
    rw [show fX11_isType 461 p v = sIsY (v 462) p from rfl, if_neg h, if_pos (nle0 h1)]
    dsimp only
    rw [asks_0 rfl]
    rfl
  have C3 : sIsY (v 462) p ≠ 0 → 0 ≤ p2 → ¬ p2 < v 462 ((78 + 21 * p.toNatClampNeg + 8)) → fX11_asksChart 461 p p2 v = (0, u2 (u2 v 461 8 0) 461 8 2) := fun h h1 h2 => by
    unfold fX11_asksChart
    rw [show fX11_isType 461 p v = sIsY (v 462) p from rfl, if_neg h, if_neg (nlt0 h1)]
    dsimp only
    rw [asks_1 (by decide)]
    dsimp only
    rw [if_neg (by decide), hL _ k462 h, if_pos (nltL h2), u2_s, if_neg (by decide)]
  have C4 : sIsY (v 462) p ≠ 0 → 0 ≤ p2 → p2 < v 462 ((78 + 21 * p.toNatClampNeg + 8)) → fX11_asksChart 461 p p2 v = (1, u2 (u2 v 461 8 0) 461 8 0) := fun h h1 h2 => by
    unfold fX11_asksChart
    rw [show fX11_isType 461 p v = sIsY (v 462) p from rfl, if_neg h, if_neg (nlt0 h1)]
    dsimp only
    rw [asks_1 (by decide)]
    dsimp only
    rw [if_neg (by decide), hL _ k462 h, if_neg (ltL h2), u2_s, if_pos rfl]
  have kk : u2 (u2 v 461 8 0) 461 8 0 462 = v 462 := by rw [u2_r (by decide), u2_r (by decide)]
  refine ⟨needY_o hI, ⟨⟨mo_isType, fun y2 e2 => ⟨asks_o ?_, fun v5 e5 h => ?_⟩⟩, fun v2 e2 h => ?_⟩, ?_⟩
  · rw [e2]
    split
    · exact Or.inl rfl
    · split
      · exact Or.inl rfl
      · exact Or.inr rfl
  · have hy : sIsY (v 462) p ≠ 0 := fun q => h (by rw [e2, show fX11_isType 461 p v = sIsY (v 462) p from rfl, if_pos q, asks_0 rfl])
    exact mo_of (isY_in hI.wf.1.2.2.1 hy).1 (by decide)
  · by_cases hy : sIsY (v 462) p = 0
    · exact absurd (by rw [C0 hy]) h
    by_cases h1 : ¬ 0 ≤ p2
    · exact absurd (by rw [C1 hy h1]) h
    have h1 := Decidable.not_not.mp h1
    by_cases h2 : ¬ p2 < v 462 ((78 + 21 * p.toNatClampNeg + 8))
    · exact absurd (by rw [C3 hy h1 h2]) h
    have h2 := Decidable.not_not.mp h2
    have hk := isY_in hI.wf.1.2.2.1 hy
    exact mo_of hk.1 (hi9 _ (lt_in h1 h2 (hI.wf.2.2.2.1.1 _ hk.2).2.2.2.2.2.2.2.2.1).1).2
  · unfold fX10_chartedAt fX11_chartedAt
    rw [needY hI]
    by_cases hy : sIsY (v 462) p = 0
    · rw [C0 hy, if_pos hy]
      exact ⟨qs_u2, fun q => absurd (show (1 : Nat) = 0 from q) (by decide)⟩
    have hk := isY_in hI.wf.1.2.2.1 hy
    have hY := hI.sr.2.2.2.2.1 _ hk.2
    have e9 : v ((((rN (v 448 0)) + 2 + 3) + 31 + p.toNatClampNeg)) 9 = v 462 ((78 + 21 * p.toNatClampNeg + 8)) := hY.1.2.2.2.2.2.2.2
    rw [if_neg hy]
    dsimp only
    rw [if_pos rfl, e9]
    by_cases h1 : ¬ 0 ≤ p2
    · rw [C1 hy h1, np_1 h1]
      exact ⟨qs_u2, fun q => absurd (show (1 : Nat) = 0 from q) (by decide)⟩
    have h1 := Decidable.not_not.mp h1
    by_cases h2 : ¬ p2 < v 462 ((78 + 21 * p.toNatClampNeg + 8))
    · rw [C3 hy h1 h2, np_3 h1 h2]
      exact ⟨qs_uu, fun q => absurd (show (3 : Nat) = 0 from q) (by decide)⟩
    have h2 := Decidable.not_not.mp h2
    have hp := lt_in h1 h2 (hI.wf.2.2.2.1.1 _ hk.2).2.2.2.2.2.2.2.2.1
    rw [C4 hy h1 h2, np_0 h1 h2, if_pos rfl]
    dsimp only
    rw [if_neg (by decide)]
    refine ⟨qs_uu, fun _ => ?_⟩
    dsimp only
    unfold fX11_onChart
    rw [m_of hk.1 (hi9 _ hp.1).2, kk, (hi9 _ hp.1).1, entry_at hp.1 (by decide)]
    exact hY.2.2 _ hp.2
end T41c
