/-! THE PLAIN PART 13g: more questions' cases with two exceptions. -/
section T42g
variable {n m : Nat} {v v4 v7 : vSt} {x : gX} {z b p p1 p2 p3 p4 : Int32} {code c0 : Nat} {cc : Nat → Int32} {P : Prop} {fL : Int32 × vSt × gX}
theorem np_c {y : Int32} : fX10_needPlace p y v = 0 ∨ fX10_needPlace p y v = 1 ∨ fX10_needPlace p y v = 3 := by
  unfold fX10_needPlace
  by_cases h : 0 ≤ p
  · rw [if_pos h]
    by_cases h2 : p < y
    · rw [if_pos h2]; exact Or.inl rfl
    · rw [if_neg h2]; exact Or.inr (Or.inr rfl)
  · rw [if_neg h]; exact Or.inr (Or.inl rfl)

theorem c3_typeAt : (fX10_typeAt 448 p v).1 = 0 ∨ (fX10_typeAt 448 p v).1 = 1 ∨ (fX10_typeAt 448 p v).1 = 3 := by
  unfold fX10_typeAt
  by_cases h : fX10_needPlace p (v (rN (v 448 0) + 2 + 4) 3) v = 0
  · rw [if_pos h]; exact Or.inl rfl
  · rw [if_neg h]; exact np_c (v := v)
theorem LQ_typeAt (hI : Inv n m v) : LQ n m v (oL_typeAt 448 p 468 v x) (fL_typeAt 448 p 468 v x) (oX11_typeAt 461 p) (fX11_typeAt 461 p) := by
  obtain ⟨o1, o2, ok⟩ := t_typeAt (p := p) hI
  have hcd := c3_typeAt (p := p) (v := v)
  have e : (fL_typeAt 448 p 468 v x).2.1 = v ∧ (fL_typeAt 448 p 468 v x).1 = cc3 (fX10_typeAt 448 p v).1 ∧ ((fX10_typeAt 448 p v).1 = 0 → (fL_typeAt 448 p 468 v x).2.2 = xu x 468 (0 : Int32).toNatClampNeg ((fX10_typeAt 448 p v).2).toInt64) := by
    unfold fL_typeAt
    dsimp only
    rcases hcd with h | h | h
    · rw [if_pos h]; exact ⟨rfl, by rw [h]; rfl, fun _ => rfl⟩
    · rw [if_neg (by rw [h]; decide), if_pos h]; exact ⟨rfl, by rw [h]; rfl, fun q => absurd q (by rw [h]; decide)⟩
    · rw [if_neg (by rw [h]; decide), if_neg (by rw [h]; decide)]; exact ⟨rfl, by rw [h]; rfl, fun q => absurd q (by rw [h]; decide)⟩
  exact LQ.mk (cc := cc3) hI e ok (cc3_0 hcd) ⟨o1, fun h0 h1 => (hcd.resolve_left h0).resolve_left h1⟩ o2

theorem c3_wouldJudge : (fX10_wouldJudge 448 p v).1 = 0 ∨ (fX10_wouldJudge 448 p v).1 = 1 ∨ (fX10_wouldJudge 448 p v).1 = 3 := by
  unfold fX10_wouldJudge
  rcases nT_c (p := p) (v := v) with q | q
  · rw [if_pos q]
    by_cases h : fX0_reasonNotToJudge (rN (v 448 0) + 2) (rN (v 448 0) + 1) (fX10_needTool 448 p v).2 v = 0
    · rw [if_pos h]; exact Or.inl rfl
    · rw [if_neg h]; exact Or.inr (Or.inr rfl)
  · rw [if_neg (by rw [q]; decide)]; exact Or.inr (Or.inl q)
theorem LQ_wouldJudge (hI : Inv n m v) : LQ n m v (oL_wouldJudge 448 p 468 v x) (fL_wouldJudge 448 p 468 v x) (oX11_wouldJudge 461 p) (fX11_wouldJudge 461 p) := by
  obtain ⟨o1, o2, ok⟩ := t_wouldJudge (p := p) hI
  have hcd := c3_wouldJudge (p := p) (v := v)
  have e : (fL_wouldJudge 448 p 468 v x).2.1 = v ∧ (fL_wouldJudge 448 p 468 v x).1 = cc3 (fX10_wouldJudge 448 p v).1 ∧ ((fX10_wouldJudge 448 p v).1 = 0 → (fL_wouldJudge 448 p 468 v x).2.2 = xu x 468 (0 : Int32).toNatClampNeg ((fX10_wouldJudge 448 p v).2).toInt64) := by
    unfold fL_wouldJudge
    dsimp only
    rcases hcd with h | h | h
    · rw [if_pos h]; exact ⟨rfl, by rw [h]; rfl, fun _ => rfl⟩
    · rw [if_neg (by rw [h]; decide), if_pos h]; exact ⟨rfl, by rw [h]; rfl, fun q => absurd q (by rw [h]; decide)⟩
    · rw [if_neg (by rw [h]; decide), if_neg (by rw [h]; decide)]; exact ⟨rfl, by rw [h]; rfl, fun q => absurd q (by rw [h]; decide)⟩
  exact LQ.mk (cc := cc3) hI e ok (cc3_0 hcd) ⟨o1, fun h0 h1 => (hcd.resolve_left h0).resolve_left h1⟩ o2

theorem c3_chartedAt : (fX10_chartedAt 448 p p2 v).1 = 0 ∨ (fX10_chartedAt 448 p p2 v).1 = 1 ∨ (fX10_chartedAt 448 p p2 v).1 = 3 := by
  unfold fX10_chartedAt
  rcases nY_c (p := p) (v := v) with q | q
  · rw [if_pos q]
    by_cases h : fX10_needPlace p2 (v (fX10_needType 448 p v).2 9) v = 0
    · rw [if_pos h]; exact Or.inl rfl
    · rw [if_neg h]; exact np_c (v := v)
  · rw [if_neg (by rw [q]; decide)]; exact Or.inr (Or.inl q)
theorem LQ_chartedAt (hI : Inv n m v) : LQ n m v (oL_chartedAt 448 p p2 468 v x) (fL_chartedAt 448 p p2 468 v x) (oX11_chartedAt 461 p p2) (fX11_chartedAt 461 p p2) := by
  obtain ⟨o1, o2, ok⟩ := t_chartedAt (p := p) (p2 := p2) hI
  have hcd := c3_chartedAt (p := p) (p2 := p2) (v := v)
  have e : (fL_chartedAt 448 p p2 468 v x).2.1 = v ∧ (fL_chartedAt 448 p p2 468 v x).1 = cc3 (fX10_chartedAt 448 p p2 v).1 ∧ ((fX10_chartedAt 448 p p2 v).1 = 0 → (fL_chartedAt 448 p p2 468 v x).2.2 = xu x 468 (0 : Int32).toNatClampNeg ((fX10_chartedAt 448 p p2 v).2).toInt64) := by
    unfold fL_chartedAt
    dsimp only
    rcases hcd with h | h | h
    · rw [if_pos h]; exact ⟨rfl, by rw [h]; rfl, fun _ => rfl⟩
    · rw [if_neg (by rw [h]; decide), if_pos h]; exact ⟨rfl, by rw [h]; rfl, fun q => absurd q (by rw [h]; decide)⟩
    · rw [if_neg (by rw [h]; decide), if_neg (by rw [h]; decide)]; exact ⟨rfl, by rw [h]; rfl, fun q => absurd q (by rw [h]; decide)⟩
  exact LQ.mk (cc := cc3) hI e ok (cc3_0 hcd) ⟨o1, fun h0 h1 => (hcd.resolve_left h0).resolve_left h1⟩ o2

theorem c3_goodUntilChange : (fX10_goodUntilChange 448 p v).1 = 0 ∨ (fX10_goodUntilChange 448 p v).1 = 1 ∨ (fX10_goodUntilChange 448 p v).1 = 3 := by
  unfold fX10_goodUntilChange
  rcases nY_c (p := p) (v := v) with q | q
  · rw [if_pos q]
    by_cases h : v (fX10_needType 448 p v).2 4 = 2
    · rw [if_pos h]; exact Or.inr (Or.inr rfl)
    · rw [if_neg h]; exact Or.inl rfl
  · rw [if_neg (by rw [q]; decide)]; exact Or.inr (Or.inl q)
theorem LQ_goodUntilChange (hI : Inv n m v) : LQ n m v (oL_goodUntilChange 448 p 468 v x) (fL_goodUntilChange 448 p 468 v x) (oX11_goodUntilChange 461 p) (fX11_goodUntilChange 461 p) := by
  obtain ⟨o1, o2, ok⟩ := t_goodUntilChange (p := p) hI
  have hcd := c3_goodUntilChange (p := p) (v := v)
  have e : (fL_goodUntilChange 448 p 468 v x).2.1 = v ∧ (fL_goodUntilChange 448 p 468 v x).1 = cc3 (fX10_goodUntilChange 448 p v).1 ∧ ((fX10_goodUntilChange 448 p v).1 = 0 → (fL_goodUntilChange 448 p 468 v x).2.2 = xu x 468 (0 : Int32).toNatClampNeg ((fX10_goodUntilChange 448 p v).2).toInt64) := by
    unfold fL_goodUntilChange
    dsimp only
    rcases hcd with h | h | h
    · rw [if_pos h]; exact ⟨rfl, by rw [h]; rfl, fun _ => rfl⟩
    · rw [if_neg (by rw [h]; decide), if_pos h]; exact ⟨rfl, by rw [h]; rfl, fun q => absurd q (by rw [h]; decide)⟩
    · rw [if_neg (by rw [h]; decide), if_neg (by rw [h]; decide)]; exact ⟨rfl, by rw [h]; rfl, fun q => absurd q (by rw [h]; decide)⟩
  exact LQ.mk (cc := cc3) hI e ok (cc3_0 hcd) ⟨o1, fun h0 h1 => (hcd.resolve_left h0).resolve_left h1⟩ o2

end T42g
