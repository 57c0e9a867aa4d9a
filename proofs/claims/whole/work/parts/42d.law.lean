/-! THE PLAIN PART 13d: more changes' cases. -/
section T42d
variable {n m : Nat} {v v4 v7 : vSt} {x : gX} {z b p p1 p2 p3 p4 : Int32} {code c0 : Nat} {cc : Nat → Int32} {P : Prop} {fL : Int32 × vSt × gX}
theorem c2_type : (fX10_type 448 p1 v).1 = 0 ∨ (fX10_type 448 p1 v).1 = 1 ∨ (fX10_type 448 p1 v).1 = 2 := by
  unfold fX10_type
  by_cases h : fX10_inRange p1 32 126 = 0
  · rw [if_pos h]; exact Or.inr (Or.inl rfl)
  rw [if_neg h]
  clear h
  by_cases h : v 448 6 < 60
  · rw [if_pos h]; exact Or.inl rfl
  · rw [if_neg h]; exact Or.inr (Or.inr rfl)

theorem LC_type (hI : Inv n m v) (hc : c0 + kkL_type 448 p1 468 v x ≤ 601024) : LC n v (oL_type 448 p1 468 v x) (kkL_type 448 p1 468 v x) (fL_type 448 p1 468 v x) (oX11_type 461 p1) (fX11_type 461 p1) c0 := by
  obtain ⟨o1, o2, ok⟩ := t_type (p1 := p1) hI
  have hcd := c2_type (p1 := p1) (v := v)
  have e : (fL_type 448 p1 468 v x).2.1 = (fX10_type 448 p1 v).2.2 ∧ (fL_type 448 p1 468 v x).1 = Int32.ofNat (fX10_type 448 p1 v).1 ∧ ((fX10_type 448 p1 v).1 = 0 → (fL_type 448 p1 468 v x).2.2 = xu x 468 (0 : Int32).toNatClampNeg ((fX10_type 448 p1 v).2.1).toInt64) := by
    unfold fL_type
    dsimp only
    rcases hcd with h | h | h
    · rw [if_pos h]; exact ⟨rfl, by rw [h]; rfl, fun _ => rfl⟩
    · rw [if_neg (by rw [h]; decide), if_pos h]; exact ⟨rfl, by rw [h]; rfl, fun q => absurd q (by rw [h]; decide)⟩
    · rw [if_neg (by rw [h]; decide), if_neg (by rw [h]; decide)]; exact ⟨rfl, by rw [h]; rfl, fun q => absurd q (by rw [h]; decide)⟩
  have ek : kkL_type 448 p1 468 v x = pot (fX10_type 448 p1 v).2.2 - pot v + 36 := by unfold kkL_type; rw [e.1]
  exact LC.mk (cc := Int32.ofNat) e ok (cco_0 hcd) ⟨o1, by rw [ek]; unfold kkX10_type; omega, fun h0 v4 _ h1 => (hcd.resolve_left h0).resolve_left h1⟩ o2 ek hc

theorem LC_endDay (hI : Inv n m v) (hc : c0 + kkL_endDay 448 468 v x ≤ 601024) : LC n v (oL_endDay 448 468 v x) (kkL_endDay 448 468 v x) (fL_endDay 448 468 v x) (oX11_endDay 461) (fX11_endDay 461) c0 := by
  obtain ⟨o1, o2, hcd, ok⟩ := t_endDay hI
  have e : (fL_endDay 448 468 v x).2.1 = (fX10_endDay 448 v).2.2 ∧ (fL_endDay 448 468 v x).1 = cc1 (fX10_endDay 448 v).1 ∧ ((fX10_endDay 448 v).1 = 0 → (fL_endDay 448 468 v x).2.2 = xu x 468 (0 : Int32).toNatClampNeg ((fX10_endDay 448 v).2.1).toInt64) := by
    unfold fL_endDay
    dsimp only
    rcases hcd with h | h
    · rw [if_pos h]; exact ⟨rfl, by rw [h]; rfl, fun _ => rfl⟩
    · rw [if_neg (by rw [h]; decide)]; exact ⟨rfl, by rw [h]; rfl, fun q => absurd q (by rw [h]; decide)⟩
  have ek : kkL_endDay 448 468 v x = pot (fX10_endDay 448 v).2.2 - pot v + 36 := by unfold kkL_endDay; rw [e.1]
  exact LC.mk (cc := cc1) e ok cc1_0 ⟨o1, by rw [ek]; unfold kkX10_endDay; omega, fun h0 v4 _ => hcd.resolve_left h0⟩ o2 ek hc

theorem LC_passUnseen (hI : Inv n m v) (hc : c0 + kkL_passUnseen 448 468 v x ≤ 601024) : LC n v (oL_passUnseen 448 468 v x) (kkL_passUnseen 448 468 v x) (fL_passUnseen 448 468 v x) (oX11_passUnseen 461) (fX11_passUnseen 461) c0 := by
  obtain ⟨o1, o2, hcd, ok⟩ := t_passUnseen hI
  have e : (fL_passUnseen 448 468 v x).2.1 = (fX10_passUnseen 448 v).2.2 ∧ (fL_passUnseen 448 468 v x).1 = cc1 (fX10_passUnseen 448 v).1 ∧ ((fX10_passUnseen 448 v).1 = 0 → (fL_passUnseen 448 468 v x).2.2 = xu x 468 (0 : Int32).toNatClampNeg ((fX10_passUnseen 448 v).2.1).toInt64) := by
    unfold fL_passUnseen
    dsimp only
    rcases hcd with h | h
    · rw [if_pos h]; exact ⟨rfl, by rw [h]; rfl, fun _ => rfl⟩
    · rw [if_neg (by rw [h]; decide)]; exact ⟨rfl, by rw [h]; rfl, fun q => absurd q (by rw [h]; decide)⟩
  have ek : kkL_passUnseen 448 468 v x = pot (fX10_passUnseen 448 v).2.2 - pot v + 36 := by unfold kkL_passUnseen; rw [e.1]
  exact LC.mk (cc := cc1) e ok cc1_0 ⟨o1, by rw [ek]; unfold kkX10_passUnseen; omega, fun h0 v4 _ => hcd.resolve_left h0⟩ o2 ek hc

theorem LC_goBack (hI : Inv n m v) (hc : c0 + kkL_goBack 448 468 v x ≤ 601024) : LC n v (oL_goBack 448 468 v x) (kkL_goBack 448 468 v x) (fL_goBack 448 468 v x) (oX11_goBack 461) (fX11_goBack 461) c0 := by
  obtain ⟨o1, o2, hcd, ok⟩ := t_goBack hI
  have e : (fL_goBack 448 468 v x).2.1 = (fX10_goBack 448 v).2.2 ∧ (fL_goBack 448 468 v x).1 = cc1 (fX10_goBack 448 v).1 ∧ ((fX10_goBack 448 v).1 = 0 → (fL_goBack 448 468 v x).2.2 = xu x 468 (0 : Int32).toNatClampNeg ((fX10_goBack 448 v).2.1).toInt64) := by
    unfold fL_goBack
    dsimp only
    rcases hcd with h | h
    · rw [if_pos h]; exact ⟨rfl, by rw [h]; rfl, fun _ => rfl⟩
    · rw [if_neg (by rw [h]; decide)]; exact ⟨rfl, by rw [h]; rfl, fun q => absurd q (by rw [h]; decide)⟩
  have ek : kkL_goBack 448 468 v x = pot (fX10_goBack 448 v).2.2 - pot v + 36 := by unfold kkL_goBack; rw [e.1]
  exact LC.mk (cc := cc1) e ok cc1_0 ⟨o1, by rw [ek]; unfold kkX10_goBack; omega, fun h0 v4 _ => hcd.resolve_left h0⟩ o2 ek hc

theorem LC_undo (hI : Inv n m v) (hc : c0 + kkL_undo 448 468 v x ≤ 601024) : LC n v (oL_undo 448 468 v x) (kkL_undo 448 468 v x) (fL_undo 448 468 v x) (oX11_undo 461) (fX11_undo 461) c0 := by
  obtain ⟨o1, o2, hcd, ok⟩ := t_undo hI
  have e : (fL_undo 448 468 v x).2.1 = (fX10_undo 448 v).2.2 ∧ (fL_undo 448 468 v x).1 = cc1 (fX10_undo 448 v).1 ∧ ((fX10_undo 448 v).1 = 0 → (fL_undo 448 468 v x).2.2 = xu x 468 (0 : Int32).toNatClampNeg ((fX10_undo 448 v).2.1).toInt64) := by
    unfold fL_undo
    dsimp only
    rcases hcd with h | h
    · rw [if_pos h]; exact ⟨rfl, by rw [h]; rfl, fun _ => rfl⟩
    · rw [if_neg (by rw [h]; decide)]; exact ⟨rfl, by rw [h]; rfl, fun q => absurd q (by rw [h]; decide)⟩
  have ek : kkL_undo 448 468 v x = pot (fX10_undo 448 v).2.2 - pot v + 36 := by unfold kkL_undo; rw [e.1]
  exact LC.mk (cc := cc1) e ok cc1_0 ⟨o1, by rw [ek]; unfold kkX10_undo; omega, fun h0 v4 _ => hcd.resolve_left h0⟩ o2 ek hc

theorem c2_setWarmth : (fX10_setWarmth 448 p1 v).1 = 0 ∨ (fX10_setWarmth 448 p1 v).1 = 1 := by
  unfold fX10_setWarmth
  by_cases h : fX10_inRange p1 (-10) 50 = 0
  · rw [if_pos h]; exact Or.inr rfl
  · rw [if_neg h]; exact Or.inl rfl
theorem LC_setWarmth (hI : Inv n m v) (hc : c0 + kkL_setWarmth 448 p1 468 v x ≤ 601024) : LC n v (oL_setWarmth 448 p1 468 v x) (kkL_setWarmth 448 p1 468 v x) (fL_setWarmth 448 p1 468 v x) (oX11_setWarmth 461 p1) (fX11_setWarmth 461 p1) c0 := by
  obtain ⟨o1, o2, ok⟩ := t_setWarmth (p1 := p1) hI
  have hcd := c2_setWarmth (p1 := p1) (v := v)
  have e : (fL_setWarmth 448 p1 468 v x).2.1 = (fX10_setWarmth 448 p1 v).2.2 ∧ (fL_setWarmth 448 p1 468 v x).1 = Int32.ofNat (fX10_setWarmth 448 p1 v).1 ∧ ((fX10_setWarmth 448 p1 v).1 = 0 → (fL_setWarmth 448 p1 468 v x).2.2 = xu x 468 (0 : Int32).toNatClampNeg ((fX10_setWarmth 448 p1 v).2.1).toInt64) := by
    unfold fL_setWarmth
    dsimp only
    rcases hcd with h | h
    · rw [if_pos h]; exact ⟨rfl, by rw [h]; rfl, fun _ => rfl⟩
    · rw [if_neg (by rw [h]; decide)]; exact ⟨rfl, by rw [h]; rfl, fun q => absurd q (by rw [h]; decide)⟩
  have ek : kkL_setWarmth 448 p1 468 v x = pot (fX10_setWarmth 448 p1 v).2.2 - pot v + 36 := by unfold kkL_setWarmth; rw [e.1]
  exact LC.mk (cc := Int32.ofNat) e ok (cco_0 (hcd.imp id Or.inl)) ⟨o1, by rw [ek]; unfold kkX10_setWarmth; omega, fun h0 v4 _ => hcd.resolve_left h0⟩ o2 ek hc

theorem c2_setTolerance : (fX10_setTolerance 448 p1 v).1 = 0 ∨ (fX10_setTolerance 448 p1 v).1 = 1 := by
  unfold fX10_setTolerance
  by_cases h : fX10_inRange p1 0 99 = 0
  · rw [if_pos h]; exact Or.inr rfl
  · rw [if_neg h]; exact Or.inl rfl
theorem LC_setTolerance (hI : Inv n m v) (hc : c0 + kkL_setTolerance 448 p1 468 v x ≤ 601024) : LC n v (oL_setTolerance 448 p1 468 v x) (kkL_setTolerance 448 p1 468 v x) (fL_setTolerance 448 p1 468 v x) (oX11_setTolerance 461 p1) (fX11_setTolerance 461 p1) c0 := by
  obtain ⟨o1, o2, ok⟩ := t_setTolerance (p1 := p1) hI
  have hcd := c2_setTolerance (p1 := p1) (v := v)
  have e : (fL_setTolerance 448 p1 468 v x).2.1 = (fX10_setTolerance 448 p1 v).2.2 ∧ (fL_setTolerance 448 p1 468 v x).1 = Int32.ofNat (fX10_setTolerance 448 p1 v).1 ∧ ((fX10_setTolerance 448 p1 v).1 = 0 → (fL_setTolerance 448 p1 468 v x).2.2 = xu x 468 (0 : Int32).toNatClampNeg ((fX10_setTolerance 448 p1 v).2.1).toInt64) := by
    unfold fL_setTolerance
    dsimp only
    rcases hcd with h | h
    · rw [if_pos h]; exact ⟨rfl, by rw [h]; rfl, fun _ => rfl⟩
    · rw [if_neg (by rw [h]; decide)]; exact ⟨rfl, by rw [h]; rfl, fun q => absurd q (by rw [h]; decide)⟩
  have ek : kkL_setTolerance 448 p1 468 v x = pot (fX10_setTolerance 448 p1 v).2.2 - pot v + 36 := by unfold kkL_setTolerance; rw [e.1]
  exact LC.mk (cc := Int32.ofNat) e ok (cco_0 (hcd.imp id Or.inl)) ⟨o1, by rw [ek]; unfold kkX10_setTolerance; omega, fun h0 v4 _ => hcd.resolve_left h0⟩ o2 ek hc
end T42d
