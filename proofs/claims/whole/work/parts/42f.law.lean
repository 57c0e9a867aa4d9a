/-! THE PLAIN PART 13f: the questions' cases with two exceptions. -/
section T42f
variable {n m : Nat} {v v4 v7 : vSt} {x : gX} {z b p p1 p2 p3 p4 : Int32} {code c0 : Nat} {cc : Nat → Int32} {P : Prop} {fL : Int32 × vSt × gX}
theorem nR_c (hI : Inv n m v) : (fX10_needReading 448 p p2 p3 v).1 = 0 ∨ (fX10_needReading 448 p p2 p3 v).1 = 1 ∨ (fX10_needReading 448 p p2 p3 v).1 = 3 := by
  rcases rdg (p := p) (p2 := p2) (p3 := p3) hI with ⟨e1, _⟩ | ⟨e1, _⟩ | ⟨_, e1, _⟩ <;> rw [e1] <;> simp
theorem nS_c (hI : Inv n m v) : (fX10_needStack 448 p v).1 = 0 ∨ (fX10_needStack 448 p v).1 = 1 ∨ (fX10_needStack 448 p v).1 = 3 := by
  rcases stk (p := p) hI with ⟨e1, _⟩ | ⟨e1, _⟩ | ⟨e1, _⟩ <;> rw [e1] <;> simp

theorem c3_readingFor (hI : Inv n m v) : (fX10_readingFor 448 p p2 p3 v).1 = 0 ∨ (fX10_readingFor 448 p p2 p3 v).1 = 1 ∨ (fX10_readingFor 448 p p2 p3 v).1 = 3 := by
  unfold fX10_readingFor
  by_cases h : (fX10_needReading 448 p p2 p3 v).1 = 0
  · rw [if_pos h]; exact Or.inl rfl
  · rw [if_neg h]; exact nR_c hI
theorem LQ_readingFor (hI : Inv n m v) : LQ n m v (oL_readingFor 448 p p2 p3 468 v x) (fL_readingFor 448 p p2 p3 468 v x) (oX11_readingFor 461 p p2 p3) (fX11_readingFor 461 p p2 p3) := by
  obtain ⟨o1, o2, ok⟩ := t_readingFor (p := p) (p2 := p2) (p3 := p3) hI
  have hcd := c3_readingFor (p := p) (p2 := p2) (p3 := p3) hI
  have e : (fL_readingFor 448 p p2 p3 468 v x).2.1 = v ∧ (fL_readingFor 448 p p2 p3 468 v x).1 = cc3 (fX10_readingFor 448 p p2 p3 v).1 ∧ ((fX10_readingFor 448 p p2 p3 v).1 = 0 → (fL_readingFor 448 p p2 p3 468 v x).2.2 = xu x 468 (0 : Int32).toNatClampNeg ((fX10_readingFor 448 p p2 p3 v).2).toInt64) := by
    unfold fL_readingFor
    dsimp only
    rcases hcd with h | h | h
    · rw [if_pos h]; exact ⟨rfl, by rw [h]; rfl, fun _ => rfl⟩
    · rw [if_neg (by rw [h]; decide), if_pos h]; exact ⟨rfl, by rw [h]; rfl, fun q => absurd q (by rw [h]; decide)⟩
    · rw [if_neg (by rw [h]; decide), if_neg (by rw [h]; decide)]; exact ⟨rfl, by rw [h]; rfl, fun q => absurd q (by rw [h]; decide)⟩
  exact LQ.mk (cc := cc3) hI e ok (cc3_0 hcd) ⟨o1, fun h0 h1 => (hcd.resolve_left h0).resolve_left h1⟩ o2

theorem c3_markFor (hI : Inv n m v) : (fX10_markFor 448 p p2 p3 v).1 = 0 ∨ (fX10_markFor 448 p p2 p3 v).1 = 1 ∨ (fX10_markFor 448 p p2 p3 v).1 = 3 := by
  unfold fX10_markFor
  by_cases h : (fX10_needReading 448 p p2 p3 v).1 = 0
  · rw [if_pos h]
    rcases nT_c (p := p) (v := v) with q | q
    · rw [if_pos q]; exact Or.inl rfl
    · rw [if_neg (by rw [q]; decide)]; exact Or.inr (Or.inl q)
  · rw [if_neg h]; exact nR_c hI
theorem LQ_markFor (hI : Inv n m v) : LQ n m v (oL_markFor 448 p p2 p3 468 v x) (fL_markFor 448 p p2 p3 468 v x) (oX11_markFor 461 p p2 p3) (fX11_markFor 461 p p2 p3) := by
  obtain ⟨o1, o2, ok⟩ := t_markFor (p := p) (p2 := p2) (p3 := p3) hI
  have hcd := c3_markFor (p := p) (p2 := p2) (p3 := p3) hI
  have e : (fL_markFor 448 p p2 p3 468 v x).2.1 = v ∧ (fL_markFor 448 p p2 p3 468 v x).1 = cc3 (fX10_markFor 448 p p2 p3 v).1 ∧ ((fX10_markFor 448 p p2 p3 v).1 = 0 → (fL_markFor 448 p p2 p3 468 v x).2.2 = xu x 468 (0 : Int32).toNatClampNeg ((fX10_markFor 448 p p2 p3 v).2).toInt64) := by
    unfold fL_markFor
    dsimp only
    rcases hcd with h | h | h
    · rw [if_pos h]; exact ⟨rfl, by rw [h]; rfl, fun _ => rfl⟩
    · rw [if_neg (by rw [h]; decide), if_pos h]; exact ⟨rfl, by rw [h]; rfl, fun q => absurd q (by rw [h]; decide)⟩
    · rw [if_neg (by rw [h]; decide), if_neg (by rw [h]; decide)]; exact ⟨rfl, by rw [h]; rfl, fun q => absurd q (by rw [h]; decide)⟩
  exact LQ.mk (cc := cc3) hI e ok (cc3_0 hcd) ⟨o1, fun h0 h1 => (hcd.resolve_left h0).resolve_left h1⟩ o2

theorem c3_lineFor (hI : Inv n m v) : (fX10_lineFor 448 p p2 p3 v).1 = 0 ∨ (fX10_lineFor 448 p p2 p3 v).1 = 1 ∨ (fX10_lineFor 448 p p2 p3 v).1 = 3 := by
  unfold fX10_lineFor
  by_cases h : (fX10_needReading 448 p p2 p3 v).1 = 0
  · rw [if_pos h]
    rcases nT_c (p := p) (v := v) with q | q
    · rw [if_pos q]; exact Or.inl rfl
    · rw [if_neg (by rw [q]; decide)]; exact Or.inr (Or.inl q)
  · rw [if_neg h]; exact nR_c hI
theorem LQ_lineFor (hI : Inv n m v) : LQ n m v (oL_lineFor 448 p p2 p3 468 v x) (fL_lineFor 448 p p2 p3 468 v x) (oX11_lineFor 461 p p2 p3) (fX11_lineFor 461 p p2 p3) := by
  obtain ⟨o1, o2, ok⟩ := t_lineFor (p := p) (p2 := p2) (p3 := p3) hI
  have hcd := c3_lineFor (p := p) (p2 := p2) (p3 := p3) hI
  have e : (fL_lineFor 448 p p2 p3 468 v x).2.1 = v ∧ (fL_lineFor 448 p p2 p3 468 v x).1 = cc3 (fX10_lineFor 448 p p2 p3 v).1 ∧ ((fX10_lineFor 448 p p2 p3 v).1 = 0 → (fL_lineFor 448 p p2 p3 468 v x).2.2 = xu x 468 (0 : Int32).toNatClampNeg ((fX10_lineFor 448 p p2 p3 v).2).toInt64) := by
    unfold fL_lineFor
    dsimp only
    rcases hcd with h | h | h
    · rw [if_pos h]; exact ⟨rfl, by rw [h]; rfl, fun _ => rfl⟩
    · rw [if_neg (by rw [h]; decide), if_pos h]; exact ⟨rfl, by rw [h]; rfl, fun q => absurd q (by rw [h]; decide)⟩
    · rw [if_neg (by rw [h]; decide), if_neg (by rw [h]; decide)]; exact ⟨rfl, by rw [h]; rfl, fun q => absurd q (by rw [h]; decide)⟩
  exact LQ.mk (cc := cc3) hI e ok (cc3_0 hcd) ⟨o1, fun h0 h1 => (hcd.resolve_left h0).resolve_left h1⟩ o2

theorem c3_offBy (hI : Inv n m v) : (fX10_offBy 448 p p2 p3 v).1 = 0 ∨ (fX10_offBy 448 p p2 p3 v).1 = 1 ∨ (fX10_offBy 448 p p2 p3 v).1 = 3 := by
  unfold fX10_offBy
  by_cases h : (fX10_needReading 448 p p2 p3 v).1 = 0
  · rw [if_pos h]
    rcases nT_c (p := p) (v := v) with q | q
    · rw [if_pos q]; exact Or.inl rfl
    · rw [if_neg (by rw [q]; decide)]; exact Or.inr (Or.inl q)
  · rw [if_neg h]; exact nR_c hI
theorem LQ_offBy (hI : Inv n m v) : LQ n m v (oL_offBy 448 p p2 p3 468 v x) (fL_offBy 448 p p2 p3 468 v x) (oX11_offBy 461 p p2 p3) (fX11_offBy 461 p p2 p3) := by
  obtain ⟨o1, o2, ok⟩ := t_offBy (p := p) (p2 := p2) (p3 := p3) hI
  have hcd := c3_offBy (p := p) (p2 := p2) (p3 := p3) hI
  have e : (fL_offBy 448 p p2 p3 468 v x).2.1 = v ∧ (fL_offBy 448 p p2 p3 468 v x).1 = cc3 (fX10_offBy 448 p p2 p3 v).1 ∧ ((fX10_offBy 448 p p2 p3 v).1 = 0 → (fL_offBy 448 p p2 p3 468 v x).2.2 = xu x 468 (0 : Int32).toNatClampNeg ((fX10_offBy 448 p p2 p3 v).2).toInt64) := by
    unfold fL_offBy
    dsimp only
    rcases hcd with h | h | h
    · rw [if_pos h]; exact ⟨rfl, by rw [h]; rfl, fun _ => rfl⟩
    · rw [if_neg (by rw [h]; decide), if_pos h]; exact ⟨rfl, by rw [h]; rfl, fun q => absurd q (by rw [h]; decide)⟩
    · rw [if_neg (by rw [h]; decide), if_neg (by rw [h]; decide)]; exact ⟨rfl, by rw [h]; rfl, fun q => absurd q (by rw [h]; decide)⟩
  exact LQ.mk (cc := cc3) hI e ok (cc3_0 hcd) ⟨o1, fun h0 h1 => (hcd.resolve_left h0).resolve_left h1⟩ o2

theorem c3_stackFor (hI : Inv n m v) : (fX10_stackFor 448 p v).1 = 0 ∨ (fX10_stackFor 448 p v).1 = 1 ∨ (fX10_stackFor 448 p v).1 = 3 := by
  unfold fX10_stackFor
  by_cases h : (fX10_needStack 448 p v).1 = 0
  · rw [if_pos h]; exact Or.inl rfl
  · rw [if_neg h]; exact nS_c hI
theorem LQ_stackFor (hI : Inv n m v) : LQ n m v (oL_stackFor 448 p 468 v x) (fL_stackFor 448 p 468 v x) (oX11_stackFor 461 p) (fX11_stackFor 461 p) := by
  obtain ⟨o1, o2, ok⟩ := t_stackFor (p := p) hI
  have hcd := c3_stackFor (p := p) hI
  have e : (fL_stackFor 448 p 468 v x).2.1 = v ∧ (fL_stackFor 448 p 468 v x).1 = cc3 (fX10_stackFor 448 p v).1 ∧ ((fX10_stackFor 448 p v).1 = 0 → (fL_stackFor 448 p 468 v x).2.2 = xu x 468 (0 : Int32).toNatClampNeg ((fX10_stackFor 448 p v).2).toInt64) := by
    unfold fL_stackFor
    dsimp only
    rcases hcd with h | h | h
    · rw [if_pos h]; exact ⟨rfl, by rw [h]; rfl, fun _ => rfl⟩
    · rw [if_neg (by rw [h]; decide), if_pos h]; exact ⟨rfl, by rw [h]; rfl, fun q => absurd q (by rw [h]; decide)⟩
    · rw [if_neg (by rw [h]; decide), if_neg (by rw [h]; decide)]; exact ⟨rfl, by rw [h]; rfl, fun q => absurd q (by rw [h]; decide)⟩
  exact LQ.mk (cc := cc3) hI e ok (cc3_0 hcd) ⟨o1, fun h0 h1 => (hcd.resolve_left h0).resolve_left h1⟩ o2

theorem c3_trueLength (hI : Inv n m v) : (fX10_trueLength 448 p v).1 = 0 ∨ (fX10_trueLength 448 p v).1 = 1 ∨ (fX10_trueLength 448 p v).1 = 3 := by
  unfold fX10_trueLength
  by_cases h : (fX10_needStack 448 p v).1 = 0
  · rw [if_pos h]; exact Or.inl rfl
  · rw [if_neg h]; exact nS_c hI
theorem LQ_trueLength (hI : Inv n m v) : LQ n m v (oL_trueLength 448 p 468 v x) (fL_trueLength 448 p 468 v x) (oX11_trueLength 461 p) (fX11_trueLength 461 p) := by
  obtain ⟨o1, o2, ok⟩ := t_trueLength (p := p) hI
  have hcd := c3_trueLength (p := p) hI
  have e : (fL_trueLength 448 p 468 v x).2.1 = v ∧ (fL_trueLength 448 p 468 v x).1 = cc3 (fX10_trueLength 448 p v).1 ∧ ((fX10_trueLength 448 p v).1 = 0 → (fL_trueLength 448 p 468 v x).2.2 = xu x 468 (0 : Int32).toNatClampNeg ((fX10_trueLength 448 p v).2).toInt64) := by
    unfold fL_trueLength
    dsimp only
    rcases hcd with h | h | h
    · rw [if_pos h]; exact ⟨rfl, by rw [h]; rfl, fun _ => rfl⟩
    · rw [if_neg (by rw [h]; decide), if_pos h]; exact ⟨rfl, by rw [h]; rfl, fun q => absurd q (by rw [h]; decide)⟩
    · rw [if_neg (by rw [h]; decide), if_neg (by rw [h]; decide)]; exact ⟨rfl, by rw [h]; rfl, fun q => absurd q (by rw [h]; decide)⟩
  exact LQ.mk (cc := cc3) hI e ok (cc3_0 hcd) ⟨o1, fun h0 h1 => (hcd.resolve_left h0).resolve_left h1⟩ o2

theorem c3_fewestByTrying (hI : Inv n m v) : (fX10_fewestByTrying 448 p v).1 = 0 ∨ (fX10_fewestByTrying 448 p v).1 = 1 ∨ (fX10_fewestByTrying 448 p v).1 = 3 := by
  unfold fX10_fewestByTrying
  by_cases h : (fX10_needStack 448 p v).1 = 0
  · rw [if_pos h]; exact Or.inl rfl
  · rw [if_neg h]; exact nS_c hI
theorem LQ_fewestByTrying (hI : Inv n m v) : LQ n m v (oL_fewestByTrying 448 p 468 v x) (fL_fewestByTrying 448 p 468 v x) (oX11_fewestByTrying 461 p) (fX11_fewestByTrying 461 p) := by
  obtain ⟨o1, o2, ok⟩ := t_fewestByTrying (p := p) hI
  have hcd := c3_fewestByTrying (p := p) hI
  have e : (fL_fewestByTrying 448 p 468 v x).2.1 = v ∧ (fL_fewestByTrying 448 p 468 v x).1 = cc3 (fX10_fewestByTrying 448 p v).1 ∧ ((fX10_fewestByTrying 448 p v).1 = 0 → (fL_fewestByTrying 448 p 468 v x).2.2 = xu x 468 (0 : Int32).toNatClampNeg ((fX10_fewestByTrying 448 p v).2).toInt64) := by
    unfold fL_fewestByTrying
    dsimp only
    rcases hcd with h | h | h
    · rw [if_pos h]; exact ⟨rfl, by rw [h]; rfl, fun _ => rfl⟩
    · rw [if_neg (by rw [h]; decide), if_pos h]; exact ⟨rfl, by rw [h]; rfl, fun q => absurd q (by rw [h]; decide)⟩
    · rw [if_neg (by rw [h]; decide), if_neg (by rw [h]; decide)]; exact ⟨rfl, by rw [h]; rfl, fun q => absurd q (by rw [h]; decide)⟩
  exact LQ.mk (cc := cc3) hI e ok (cc3_0 hcd) ⟨o1, fun h0 h1 => (hcd.resolve_left h0).resolve_left h1⟩ o2

end T42f
