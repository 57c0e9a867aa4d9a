/-! THE PLAIN PART 13: from an answer to what the law says of it. -/
section T42
variable {n m : Nat} {v v4 v7 : vSt} {x : gX} {z b p p2 p3 : Int32} {code : Nat} {cc : Nat → Int32} {P : Prop} {fL : Int32 × vSt × gX}
theorem lg_self (a : Int64) : lg_cmp a a = 0 := by
  unfold lg_cmp
  simp
theorem law_tail (hP : P) (h8 : v7 461 8 = cc code) (hz : code = 0 → z = b) (h0 : cc code = 0 → code = 0) (e1 : fL.1 = cc code) (e0 : code = 0 → fL.2.2 = xu x 468 (0 : Int32).toNatClampNeg z.toInt64) :
    ∀ x5 : gX, x5 = fL.2.2 → (((fX11_thrown 461 v7 : Int32) = fL.1 → (((fL.1 : Int32) = 0 → (((lg_cmp (x5.1 468 (0 : Int32).toNatClampNeg) (b.toInt64) : Int32) = 0 → P) ∧ (¬ (lg_cmp (x5.1 468 (0 : Int32).toNatClampNeg) (b.toInt64) : Int32) = 0 → False))) ∧ (¬ (fL.1 : Int32) = 0 → P))) ∧ (¬ (fX11_thrown 461 v7 : Int32) = fL.1 → False)) := by
  intro x5 e5
  have ht : (fX11_thrown 461 v7 : Int32) = fL.1 := by rw [e1, ← h8]; rfl
  refine ⟨fun _ => ⟨fun hc => ?_, fun _ => hP⟩, fun q => absurd ht q⟩
  have hc0 := h0 (by rw [← e1]; exact hc)
  have hl : lg_cmp (x5.1 468 (0 : Int32).toNatClampNeg) b.toInt64 = 0 := by
    rw [e5, e0 hc0, ← hz hc0]
    have : (xu x 468 (0 : Int32).toNatClampNeg z.toInt64).1 468 (0 : Int32).toNatClampNeg = z.toInt64 := by unfold xu; simp
    rw [this]
    exact lg_self _
  exact ⟨fun _ => hP, fun q => absurd hl q⟩
theorem cc1_0 (h : cc1 code = 0) : code = 0 := by
  unfold cc1 at h
  by_cases q : code = 0
  · exact q
  · rw [if_neg q] at h; exact absurd h (by decide)
theorem cc3_0 (hc : code = 0 ∨ code = 1 ∨ code = 3) (h : cc3 code = 0) : code = 0 := by
  rcases hc with q | q | q
  · exact q
  · rw [q] at h; exact absurd h (by decide)
  · rw [q] at h; exact absurd h (by decide)
theorem cco_0 (hc : code = 0 ∨ code = 1 ∨ code = 2) (h : Int32.ofNat code = 0) : code = 0 := by
  rcases hc with q | q | q
  · exact q
  · rw [q] at h; exact absurd h (by decide)
  · rw [q] at h; exact absurd h (by decide)
/-- the codes of a question about a tool, a type, a block -/
theorem nT_c : (fX10_needTool 448 p v).1 = 0 ∨ (fX10_needTool 448 p v).1 = 1 := by
  unfold fX10_needTool
  by_cases h : fX2_hasTool (rN (v 448 0) + 1) p v = 0
  · rw [if_pos h]; exact Or.inr rfl
  · rw [if_neg h]; exact Or.inl rfl
theorem nY_c : (fX10_needType 448 p v).1 = 0 ∨ (fX10_needType 448 p v).1 = 1 := by
  unfold fX10_needType
  by_cases h : fX0_hasType (rN (v 448 0) + 2) p v = 0
  · rw [if_pos h]; exact Or.inr rfl
  · rw [if_neg h]; exact Or.inl rfl
theorem ref_c {x : Int32} : fX10_refuse (rfc x) v = 0 ∨ fX10_refuse (rfc x) v = 1 ∨ fX10_refuse (rfc x) v = 2 := by
  unfold fX10_refuse
  rcases rfc_or x with q | ⟨_, q⟩ | ⟨_, q⟩ <;> rw [q] <;> decide
/-- the law's case of kindOf, as a pattern for the questions -/
theorem L_kindOf (hI : Inv n m v) {c0 : Nat} (hc : c0 + 6 ≤ 601024) :
    oL_kindOf 448 p 468 v x ∧ oX11_kindOf 461 p (fL_kindOf 448 p 468 v x).2.1 ∧ (fL_kindOf 448 p 468 v x).2.1 = v ∧ (fL_kindOf 448 p 468 v x).1 = Int32.ofNat (fX10_kindOf 448 p v).1 ∧ Inv (n + 1) m (fX11_kindOf 461 p v).2 := by
  obtain ⟨o1, o2, hS, hz⟩ := t_kindOf (p := p) hI
  have hcd : (fX10_kindOf 448 p v).1 = 0 ∨ (fX10_kindOf 448 p v).1 = 1 := by
    unfold fX10_kindOf
    rcases nT_c (p := p) (v := v) with h | h
    · rw [if_pos h]; exact Or.inl rfl
    · rw [if_neg (by rw [h]; decide)]; exact Or.inr h
  have e : (fL_kindOf 448 p 468 v x).2.1 = v ∧ (fL_kindOf 448 p 468 v x).1 = Int32.ofNat (fX10_kindOf 448 p v).1 := by
    unfold fL_kindOf
    rcases hcd with h | h
    · rw [if_pos h]; exact ⟨rfl, by rw [h]; rfl⟩
    · rw [if_neg (by rw [h]; decide)]; exact ⟨rfl, by rw [h]; rfl⟩
  exact ⟨⟨o1, fun h => hcd.resolve_left h⟩, by rw [e.1]; exact o2, e.1, e.2, hI.asked hS⟩
end T42
