/-! THE PLAIN PART 13c: the changes' cases of the law. -/
/-- what a case of the law asks of a change, and the state behind it -/
def LC (n : Nat) (v : vSt) (oL : Prop) (kkL : Nat) (fL : Int32 × vSt × gX) (o11 : vSt → Prop) (f11 : vSt → Int32 × vSt) (c0 : Nat) : Prop :=
  oL ∧ c0 ≤ 601024 ∧ c0 + kkL ≤ 601024 ∧ o11 fL.2.1 ∧
  (∀ P : Prop, P → ∀ x5 : gX, x5 = fL.2.2 → (((fX11_thrown 461 (f11 fL.2.1).2 : Int32) = fL.1 → (((fL.1 : Int32) = 0 → (((lg_cmp (x5.1 468 (0 : Int32).toNatClampNeg) ((f11 fL.2.1).1.toInt64) : Int32) = 0 → P) ∧ (¬ (lg_cmp (x5.1 468 (0 : Int32).toNatClampNeg) ((f11 fL.2.1).1.toInt64) : Int32) = 0 → False))) ∧ (¬ (fL.1 : Int32) = 0 → P))) ∧ (¬ (fX11_thrown 461 (f11 fL.2.1).2 : Int32) = fL.1 → False))) ∧
  (∃ m', Inv (n + 1) m' (f11 fL.2.1).2) ∧ pot v + kkL = pot (f11 fL.2.1).2 + 36
section T42c
variable {n m : Nat} {v v4 v7 : vSt} {x : gX} {z b p p1 p2 p3 p4 : Int32} {code c0 : Nat} {cc : Nat → Int32} {P : Prop} {fL : Int32 × vSt × gX}
theorem LC.mk {oL : Prop} {kkL : Nat} {o11 : vSt → Prop} {f11 : vSt → Int32 × vSt} (e : fL.2.1 = v4 ∧ fL.1 = cc code ∧ (code = 0 → fL.2.2 = xu x 468 (0 : Int32).toNatClampNeg z.toInt64)) (ok : OKC n v code z v4 (f11 v4).1 (f11 v4).2 cc) (h0 : cc code = 0 → code = 0)
    (hoL : oL) (ho : o11 v4) (ek : kkL = pot v4 - pot v + 36) (hc : c0 + kkL ≤ 601024) : LC n v oL kkL fL o11 f11 c0 := by
  obtain ⟨k1, k2, k3, k4, k5⟩ := ok
  obtain ⟨e1, e2, e3⟩ := e
  refine ⟨hoL, by omega, hc, by rw [e1]; exact ho, fun P hP => ?_, by rw [e1]; exact k5, by rw [e1, k2, ek]; omega⟩
  rw [e1]
  exact law_tail (cc := cc) hP k3 k4 h0 e2 e3
theorem refuse_c {y : Int32} : fX10_refuse y v = 0 ∨ fX10_refuse y v = 1 ∨ fX10_refuse y v = 2 := by
  unfold fX10_refuse
  split
  · exact Or.inr (Or.inl rfl)
  · split
    · exact Or.inr (Or.inr rfl)
    · exact Or.inl rfl

theorem c2_measure : (fX10_measure 448 p1 p2 p3 v).1 = 0 ∨ (fX10_measure 448 p1 p2 p3 v).1 = 1 ∨ (fX10_measure 448 p1 p2 p3 v).1 = 2 := by
  unfold fX10_measure
  dsimp only
  generalize hy : fX10_refuse _ v = y
  have h : y = 0 ∨ y = 1 ∨ y = 2 := by rw [← hy]; exact refuse_c
  by_cases h0 : y = 0
  · rw [if_pos h0]; exact Or.inl rfl
  · rw [if_neg h0]; exact h

theorem L_measure (hI : Inv n m v) (hc : c0 + kkL_measure 448 p1 p2 p3 468 v x ≤ 601024) : LC n v (oL_measure 448 p1 p2 p3 468 v x) (kkL_measure 448 p1 p2 p3 468 v x) (fL_measure 448 p1 p2 p3 468 v x) (oX11_measure 461 p1 p2 p3) (fX11_measure 461 p1 p2 p3) c0 := by
  obtain ⟨o1, o2, ok⟩ := t_measure (p := p1) (p2 := p2) (p3 := p3) hI
  have hcd := c2_measure (p1 := p1) (p2 := p2) (p3 := p3) (v := v)
  have e : (fL_measure 448 p1 p2 p3 468 v x).2.1 = (fX10_measure 448 p1 p2 p3 v).2.2 ∧ (fL_measure 448 p1 p2 p3 468 v x).1 = Int32.ofNat (fX10_measure 448 p1 p2 p3 v).1 ∧ ((fX10_measure 448 p1 p2 p3 v).1 = 0 → (fL_measure 448 p1 p2 p3 468 v x).2.2 = xu x 468 (0 : Int32).toNatClampNeg ((fX10_measure 448 p1 p2 p3 v).2.1).toInt64) := by
    unfold fL_measure
    dsimp only
    rcases hcd with h | h | h
    · rw [if_pos h]; exact ⟨rfl, by rw [h]; rfl, fun _ => rfl⟩
    · rw [if_neg (by rw [h]; decide), if_pos h]; exact ⟨rfl, by rw [h]; rfl, fun q => absurd q (by rw [h]; decide)⟩
    · rw [if_neg (by rw [h]; decide), if_neg (by rw [h]; decide)]; exact ⟨rfl, by rw [h]; rfl, fun q => absurd q (by rw [h]; decide)⟩
  have ek : kkL_measure 448 p1 p2 p3 468 v x = pot (fX10_measure 448 p1 p2 p3 v).2.2 - pot v + 36 := by unfold kkL_measure; rw [e.1]
  exact LC.mk (cc := Int32.ofNat) e ok (cco_0 hcd) ⟨o1, by rw [ek]; unfold kkX10_measure; omega, fun h0 v4 _ h1 => (hcd.resolve_left h0).resolve_left h1⟩ o2 ek hc

theorem c2_calibrate : (fX10_calibrate 448 p1 p2 v).1 = 0 ∨ (fX10_calibrate 448 p1 p2 v).1 = 1 ∨ (fX10_calibrate 448 p1 p2 v).1 = 2 := by
  unfold fX10_calibrate
  dsimp only
  generalize hy : fX10_refuse _ v = y
  have h : y = 0 ∨ y = 1 ∨ y = 2 := by rw [← hy]; exact refuse_c
  by_cases h0 : y = 0
  · rw [if_pos h0]; exact Or.inl rfl
  · rw [if_neg h0]; exact h

theorem L_calibrate (hI : Inv n m v) (hc : c0 + kkL_calibrate 448 p1 p2 468 v x ≤ 601024) : LC n v (oL_calibrate 448 p1 p2 468 v x) (kkL_calibrate 448 p1 p2 468 v x) (fL_calibrate 448 p1 p2 468 v x) (oX11_calibrate 461 p1 p2) (fX11_calibrate 461 p1 p2) c0 := by
  obtain ⟨o1, o2, ok⟩ := t_calibrate (p := p1) (p2 := p2) hI
  have hcd := c2_calibrate (p1 := p1) (p2 := p2) (v := v)
  have e : (fL_calibrate 448 p1 p2 468 v x).2.1 = (fX10_calibrate 448 p1 p2 v).2.2 ∧ (fL_calibrate 448 p1 p2 468 v x).1 = Int32.ofNat (fX10_calibrate 448 p1 p2 v).1 ∧ ((fX10_calibrate 448 p1 p2 v).1 = 0 → (fL_calibrate 448 p1 p2 468 v x).2.2 = xu x 468 (0 : Int32).toNatClampNeg ((fX10_calibrate 448 p1 p2 v).2.1).toInt64) := by
    unfold fL_calibrate
    dsimp only
    rcases hcd with h | h | h
    · rw [if_pos h]; exact ⟨rfl, by rw [h]; rfl, fun _ => rfl⟩
    · rw [if_neg (by rw [h]; decide), if_pos h]; exact ⟨rfl, by rw [h]; rfl, fun q => absurd q (by rw [h]; decide)⟩
    · rw [if_neg (by rw [h]; decide), if_neg (by rw [h]; decide)]; exact ⟨rfl, by rw [h]; rfl, fun q => absurd q (by rw [h]; decide)⟩
  have ek : kkL_calibrate 448 p1 p2 468 v x = pot (fX10_calibrate 448 p1 p2 v).2.2 - pot v + 36 := by unfold kkL_calibrate; rw [e.1]
  exact LC.mk (cc := Int32.ofNat) e ok (cco_0 hcd) ⟨o1, by rw [ek]; unfold kkX10_calibrate; omega, fun h0 v4 _ h1 => (hcd.resolve_left h0).resolve_left h1⟩ o2 ek hc

theorem c2_bring : (fX10_bring 448 p1 p2 v).1 = 0 ∨ (fX10_bring 448 p1 p2 v).1 = 1 ∨ (fX10_bring 448 p1 p2 v).1 = 2 := by
  unfold fX10_bring
  dsimp only
  generalize hy : fX10_refuse _ v = y
  have h : y = 0 ∨ y = 1 ∨ y = 2 := by rw [← hy]; exact refuse_c
  by_cases h0 : y = 0
  · rw [if_pos h0]; exact Or.inl rfl
  · rw [if_neg h0]; exact h

theorem L_bring (hI : Inv n m v) (hc : c0 + kkL_bring 448 p1 p2 468 v x ≤ 601024) : LC n v (oL_bring 448 p1 p2 468 v x) (kkL_bring 448 p1 p2 468 v x) (fL_bring 448 p1 p2 468 v x) (oX11_bring 461 p1 p2) (fX11_bring 461 p1 p2) c0 := by
  obtain ⟨o1, o2, ok⟩ := t_bring (p := p1) (p2 := p2) hI
  have hcd := c2_bring (p1 := p1) (p2 := p2) (v := v)
  have e : (fL_bring 448 p1 p2 468 v x).2.1 = (fX10_bring 448 p1 p2 v).2.2 ∧ (fL_bring 448 p1 p2 468 v x).1 = Int32.ofNat (fX10_bring 448 p1 p2 v).1 ∧ ((fX10_bring 448 p1 p2 v).1 = 0 → (fL_bring 448 p1 p2 468 v x).2.2 = xu x 468 (0 : Int32).toNatClampNeg ((fX10_bring 448 p1 p2 v).2.1).toInt64) := by
    unfold fL_bring
    dsimp only
    rcases hcd with h | h | h
    · rw [if_pos h]; exact ⟨rfl, by rw [h]; rfl, fun _ => rfl⟩
    · rw [if_neg (by rw [h]; decide), if_pos h]; exact ⟨rfl, by rw [h]; rfl, fun q => absurd q (by rw [h]; decide)⟩
    · rw [if_neg (by rw [h]; decide), if_neg (by rw [h]; decide)]; exact ⟨rfl, by rw [h]; rfl, fun q => absurd q (by rw [h]; decide)⟩
  have ek : kkL_bring 448 p1 p2 468 v x = pot (fX10_bring 448 p1 p2 v).2.2 - pot v + 36 := by unfold kkL_bring; rw [e.1]
  exact LC.mk (cc := Int32.ofNat) e ok (cco_0 hcd) ⟨o1, by rw [ek]; unfold kkX10_bring; omega, fun h0 v4 _ h1 => (hcd.resolve_left h0).resolve_left h1⟩ o2 ek hc

theorem c2_judge : (fX10_judge 448 p1 v).1 = 0 ∨ (fX10_judge 448 p1 v).1 = 1 ∨ (fX10_judge 448 p1 v).1 = 2 := by
  unfold fX10_judge
  dsimp only
  generalize hy : fX10_refuse _ v = y
  have h : y = 0 ∨ y = 1 ∨ y = 2 := by rw [← hy]; exact refuse_c
  by_cases h0 : y = 0
  · rw [if_pos h0]; exact Or.inl rfl
  · rw [if_neg h0]; exact h

theorem L_judge (hI : Inv n m v) (hn : n ≤ 512) (hc : c0 + kkL_judge 448 p1 468 v x ≤ 601024) : LC n v (oL_judge 448 p1 468 v x) (kkL_judge 448 p1 468 v x) (fL_judge 448 p1 468 v x) (oX11_judge 461 p1) (fX11_judge 461 p1) c0 := by
  obtain ⟨o1, o2, ok⟩ := t_judge (p := p1) hI hn
  have hcd := c2_judge (p1 := p1) (v := v)
  have e : (fL_judge 448 p1 468 v x).2.1 = (fX10_judge 448 p1 v).2.2 ∧ (fL_judge 448 p1 468 v x).1 = Int32.ofNat (fX10_judge 448 p1 v).1 ∧ ((fX10_judge 448 p1 v).1 = 0 → (fL_judge 448 p1 468 v x).2.2 = xu x 468 (0 : Int32).toNatClampNeg ((fX10_judge 448 p1 v).2.1).toInt64) := by
    unfold fL_judge
    dsimp only
    rcases hcd with h | h | h
    · rw [if_pos h]; exact ⟨rfl, by rw [h]; rfl, fun _ => rfl⟩
    · rw [if_neg (by rw [h]; decide), if_pos h]; exact ⟨rfl, by rw [h]; rfl, fun q => absurd q (by rw [h]; decide)⟩
    · rw [if_neg (by rw [h]; decide), if_neg (by rw [h]; decide)]; exact ⟨rfl, by rw [h]; rfl, fun q => absurd q (by rw [h]; decide)⟩
  have ek : kkL_judge 448 p1 468 v x = pot (fX10_judge 448 p1 v).2.2 - pot v + 36 := by unfold kkL_judge; rw [e.1]
  exact LC.mk (cc := Int32.ofNat) e ok (cco_0 hcd) ⟨o1, by rw [ek]; unfold kkX10_judge; omega, fun h0 v4 _ h1 => (hcd.resolve_left h0).resolve_left h1⟩ o2 ek hc

theorem c2_file : (fX10_file 448 p1 v).1 = 0 ∨ (fX10_file 448 p1 v).1 = 1 ∨ (fX10_file 448 p1 v).1 = 2 := by
  unfold fX10_file
  dsimp only
  generalize hy : fX10_refuse _ v = y
  have h : y = 0 ∨ y = 1 ∨ y = 2 := by rw [← hy]; exact refuse_c
  by_cases h0 : y = 0
  · rw [if_pos h0]; exact Or.inl rfl
  · rw [if_neg h0]; exact h

theorem L_file (hI : Inv n m v) (hc : c0 + kkL_file 448 p1 468 v x ≤ 601024) : LC n v (oL_file 448 p1 468 v x) (kkL_file 448 p1 468 v x) (fL_file 448 p1 468 v x) (oX11_file 461 p1) (fX11_file 461 p1) c0 := by
  obtain ⟨o1, o2, ok⟩ := t_file (p := p1) hI
  have hcd := c2_file (p1 := p1) (v := v)
  have e : (fL_file 448 p1 468 v x).2.1 = (fX10_file 448 p1 v).2.2 ∧ (fL_file 448 p1 468 v x).1 = Int32.ofNat (fX10_file 448 p1 v).1 ∧ ((fX10_file 448 p1 v).1 = 0 → (fL_file 448 p1 468 v x).2.2 = xu x 468 (0 : Int32).toNatClampNeg ((fX10_file 448 p1 v).2.1).toInt64) := by
    unfold fL_file
    dsimp only
    rcases hcd with h | h | h
    · rw [if_pos h]; exact ⟨rfl, by rw [h]; rfl, fun _ => rfl⟩
    · rw [if_neg (by rw [h]; decide), if_pos h]; exact ⟨rfl, by rw [h]; rfl, fun q => absurd q (by rw [h]; decide)⟩
    · rw [if_neg (by rw [h]; decide), if_neg (by rw [h]; decide)]; exact ⟨rfl, by rw [h]; rfl, fun q => absurd q (by rw [h]; decide)⟩
  have ek : kkL_file 448 p1 468 v x = pot (fX10_file 448 p1 v).2.2 - pot v + 36 := by unfold kkL_file; rw [e.1]
  exact LC.mk (cc := Int32.ofNat) e ok (cco_0 hcd) ⟨o1, by rw [ek]; unfold kkX10_file; omega, fun h0 v4 _ h1 => (hcd.resolve_left h0).resolve_left h1⟩ o2 ek hc

theorem c2_addBlock : (fX10_addBlock 448 p1 p2 v).1 = 0 ∨ (fX10_addBlock 448 p1 p2 v).1 = 1 ∨ (fX10_addBlock 448 p1 p2 v).1 = 2 := by
  unfold fX10_addBlock
  by_cases h : fX10_inRange p1 1 5000 = 0
  · rw [if_pos h]; exact Or.inr (Or.inl rfl)
  rw [if_neg h]
  clear h
  by_cases h : fX10_inRange p2 (-3) 3 = 0
  · rw [if_pos h]; exact Or.inr (Or.inl rfl)
  rw [if_neg h]
  clear h
  by_cases h : v (rN (v 448 0) + 1) 3 < 10
  · rw [if_pos h]; exact Or.inl rfl
  · rw [if_neg h]; exact Or.inr (Or.inr rfl)

theorem L_addBlock (hI : Inv n m v) (hc : c0 + kkL_addBlock 448 p1 p2 468 v x ≤ 601024) : LC n v (oL_addBlock 448 p1 p2 468 v x) (kkL_addBlock 448 p1 p2 468 v x) (fL_addBlock 448 p1 p2 468 v x) (oX11_addBlock 461 p1 p2) (fX11_addBlock 461 p1 p2) c0 := by
  obtain ⟨o1, o2, ok⟩ := t_addBlock (p1 := p1) (p2 := p2) hI
  have hcd := c2_addBlock (p1 := p1) (p2 := p2) (v := v)
  have e : (fL_addBlock 448 p1 p2 468 v x).2.1 = (fX10_addBlock 448 p1 p2 v).2.2 ∧ (fL_addBlock 448 p1 p2 468 v x).1 = Int32.ofNat (fX10_addBlock 448 p1 p2 v).1 ∧ ((fX10_addBlock 448 p1 p2 v).1 = 0 → (fL_addBlock 448 p1 p2 468 v x).2.2 = xu x 468 (0 : Int32).toNatClampNeg ((fX10_addBlock 448 p1 p2 v).2.1).toInt64) := by
    unfold fL_addBlock
    dsimp only
    rcases hcd with h | h | h
    · rw [if_pos h]; exact ⟨rfl, by rw [h]; rfl, fun _ => rfl⟩
    · rw [if_neg (by rw [h]; decide), if_pos h]; exact ⟨rfl, by rw [h]; rfl, fun q => absurd q (by rw [h]; decide)⟩
    · rw [if_neg (by rw [h]; decide), if_neg (by rw [h]; decide)]; exact ⟨rfl, by rw [h]; rfl, fun q => absurd q (by rw [h]; decide)⟩
  have ek : kkL_addBlock 448 p1 p2 468 v x = pot (fX10_addBlock 448 p1 p2 v).2.2 - pot v + 36 := by unfold kkL_addBlock; rw [e.1]
  exact LC.mk (cc := Int32.ofNat) e ok (cco_0 hcd) ⟨o1, by rw [ek]; unfold kkX10_addBlock; omega, fun h0 v4 _ h1 => (hcd.resolve_left h0).resolve_left h1⟩ o2 ek hc

theorem c2_addType : (fX10_addType 448 p1 p2 p3 p4 v).1 = 0 ∨ (fX10_addType 448 p1 p2 p3 p4 v).1 = 1 ∨ (fX10_addType 448 p1 p2 p3 p4 v).1 = 2 := by
  unfold fX10_addType
  by_cases h : fX10_inRange p1 100 14000 = 0
  · rw [if_pos h]; exact Or.inr (Or.inl rfl)
  rw [if_neg h]
  clear h
  by_cases h : fX10_inRange p2 (-99) 0 = 0
  · rw [if_pos h]; exact Or.inr (Or.inl rfl)
  rw [if_neg h]
  clear h
  by_cases h : fX10_inRange p3 0 99 = 0
  · rw [if_pos h]; exact Or.inr (Or.inl rfl)
  rw [if_neg h]
  clear h
  by_cases h : fX10_isMaterial p4 = 0
  · rw [if_pos h]; exact Or.inr (Or.inl rfl)
  rw [if_neg h]
  clear h
  by_cases h : v (rN (v 448 0) + 2) 1 < 5
  · rw [if_pos h]; exact Or.inl rfl
  · rw [if_neg h]; exact Or.inr (Or.inr rfl)

theorem L_addType (hI : Inv n m v) (hc : c0 + kkL_addType 448 p1 p2 p3 p4 468 v x ≤ 601024) : LC n v (oL_addType 448 p1 p2 p3 p4 468 v x) (kkL_addType 448 p1 p2 p3 p4 468 v x) (fL_addType 448 p1 p2 p3 p4 468 v x) (oX11_addType 461 p1 p2 p3 p4) (fX11_addType 461 p1 p2 p3 p4) c0 := by
  obtain ⟨o1, o2, ok⟩ := t_addType (p1 := p1) (p2 := p2) (p3 := p3) (p4 := p4) hI
  have hcd := c2_addType (p1 := p1) (p2 := p2) (p3 := p3) (p4 := p4) (v := v)
  have e : (fL_addType 448 p1 p2 p3 p4 468 v x).2.1 = (fX10_addType 448 p1 p2 p3 p4 v).2.2 ∧ (fL_addType 448 p1 p2 p3 p4 468 v x).1 = Int32.ofNat (fX10_addType 448 p1 p2 p3 p4 v).1 ∧ ((fX10_addType 448 p1 p2 p3 p4 v).1 = 0 → (fL_addType 448 p1 p2 p3 p4 468 v x).2.2 = xu x 468 (0 : Int32).toNatClampNeg ((fX10_addType 448 p1 p2 p3 p4 v).2.1).toInt64) := by
    unfold fL_addType
    dsimp only
    rcases hcd with h | h | h
    · rw [if_pos h]; exact ⟨rfl, by rw [h]; rfl, fun _ => rfl⟩
    · rw [if_neg (by rw [h]; decide), if_pos h]; exact ⟨rfl, by rw [h]; rfl, fun q => absurd q (by rw [h]; decide)⟩
    · rw [if_neg (by rw [h]; decide), if_neg (by rw [h]; decide)]; exact ⟨rfl, by rw [h]; rfl, fun q => absurd q (by rw [h]; decide)⟩
  have ek : kkL_addType 448 p1 p2 p3 p4 468 v x = pot (fX10_addType 448 p1 p2 p3 p4 v).2.2 - pot v + 36 := by unfold kkL_addType; rw [e.1]
  exact LC.mk (cc := Int32.ofNat) e ok (cco_0 hcd) ⟨o1, by rw [ek]; unfold kkX10_addType; omega, fun h0 v4 _ h1 => (hcd.resolve_left h0).resolve_left h1⟩ o2 ek hc

end T42c
