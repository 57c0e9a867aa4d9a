/-! THE PLAIN PART 13b: the law's case of a change, as a pattern. -/
section T42b
variable {n m : Nat} {v v4 v7 : vSt} {x : gX} {z b p p1 p2 p3 : Int32} {code : Nat} {cc : Nat → Int32} {P : Prop} {fL : Int32 × vSt × gX}
theorem c_addTool : (fX10_addTool 448 p1 p2 v).1 = 0 ∨ (fX10_addTool 448 p1 p2 v).1 = 1 ∨ (fX10_addTool 448 p1 p2 v).1 = 2 := by
  unfold fX10_addTool
  by_cases h1 : fX10_inRange p1 0 (5 - 1) = 0
  · rw [if_pos h1]; exact Or.inr (Or.inl rfl)
  rw [if_neg h1]
  by_cases h2 : fX10_inRange p2 (-30) 30 = 0
  · rw [if_pos h2]; exact Or.inr (Or.inl rfl)
  rw [if_neg h2]
  by_cases h3 : v (rN (v 448 0) + 1) 2 < 6
  · rw [if_pos h3]; exact Or.inl rfl
  · rw [if_neg h3]; exact Or.inr (Or.inr rfl)
/-- all that olc of a change asks, out of OKC -/
theorem L_addTool (hI : Inv n m v) {c0 : Nat} (hc : c0 + (pot (fX10_addTool 448 p1 p2 v).2.2 - pot v + 36) ≤ 601024) :
    oL_addTool 448 p1 p2 468 v x ∧ c0 ≤ 601024 ∧ c0 + kkL_addTool 448 p1 p2 468 v x ≤ 601024 ∧ (fL_addTool 448 p1 p2 468 v x).2.1 = (fX10_addTool 448 p1 p2 v).2.2 ∧
    oX11_addTool 461 p1 p2 (fL_addTool 448 p1 p2 468 v x).2.1 ∧
    (∀ P : Prop, P → ∀ x5 : gX, x5 = (fL_addTool 448 p1 p2 468 v x).2.2 → (((fX11_thrown 461 (fX11_addTool 461 p1 p2 (fL_addTool 448 p1 p2 468 v x).2.1).2 : Int32) = (fL_addTool 448 p1 p2 468 v x).1 → ((((fL_addTool 448 p1 p2 468 v x).1 : Int32) = 0 → (((lg_cmp (x5.1 468 (0 : Int32).toNatClampNeg) ((fX11_addTool 461 p1 p2 (fL_addTool 448 p1 p2 468 v x).2.1).1.toInt64) : Int32) = 0 → P) ∧ (¬ (lg_cmp (x5.1 468 (0 : Int32).toNatClampNeg) ((fX11_addTool 461 p1 p2 (fL_addTool 448 p1 p2 468 v x).2.1).1.toInt64) : Int32) = 0 → False))) ∧ (¬ ((fL_addTool 448 p1 p2 468 v x).1 : Int32) = 0 → P))) ∧ (¬ (fX11_thrown 461 (fX11_addTool 461 p1 p2 (fL_addTool 448 p1 p2 468 v x).2.1).2 : Int32) = (fL_addTool 448 p1 p2 468 v x).1 → False))) ∧
    (∃ m', Inv (n + 1) m' (fX11_addTool 461 p1 p2 (fL_addTool 448 p1 p2 468 v x).2.1).2) ∧ pot (fX11_addTool 461 p1 p2 (fL_addTool 448 p1 p2 468 v x).2.1).2 = pot (fX10_addTool 448 p1 p2 v).2.2 := by
  obtain ⟨o1, o2, k1, k2, k3, k4, k5⟩ := t_addTool (p1 := p1) (p2 := p2) hI
  have hcd := c_addTool (p1 := p1) (p2 := p2) (v := v)
  have e : (fL_addTool 448 p1 p2 468 v x).2.1 = (fX10_addTool 448 p1 p2 v).2.2 ∧ (fL_addTool 448 p1 p2 468 v x).1 = Int32.ofNat (fX10_addTool 448 p1 p2 v).1 ∧ ((fX10_addTool 448 p1 p2 v).1 = 0 → (fL_addTool 448 p1 p2 468 v x).2.2 = xu x 468 (0 : Int32).toNatClampNeg ((fX10_addTool 448 p1 p2 v).2.1).toInt64) := by
    unfold fL_addTool
    dsimp only
    rcases hcd with h | h | h
    · rw [if_pos h]; exact ⟨rfl, by rw [h]; rfl, fun _ => rfl⟩
    · rw [if_neg (by rw [h]; decide), if_pos h]; exact ⟨rfl, by rw [h]; rfl, fun q => absurd q (by rw [h]; decide)⟩
    · rw [if_neg (by rw [h]; decide), if_neg (by rw [h]; decide)]; exact ⟨rfl, by rw [h]; rfl, fun q => absurd q (by rw [h]; decide)⟩
  have ek : kkL_addTool 448 p1 p2 468 v x = pot (fX10_addTool 448 p1 p2 v).2.2 - pot v + 36 := by unfold kkL_addTool; rw [e.1]
  refine ⟨⟨o1, ?_, fun h0 v4 _ h1 => (hcd.resolve_left h0).resolve_left h1⟩, by omega, by rw [ek]; exact hc, e.1, by rw [e.1]; exact o2, fun P hP => ?_, ?_, ?_⟩
  · rw [ek]; unfold kkX10_addTool; omega
  · rw [e.1]
    exact law_tail (cc := Int32.ofNat) hP k3 k4 (cco_0 hcd) e.2.1 e.2.2
  · rw [e.1]; exact k5
  · rw [e.1]; exact k2
end T42b
