/-! THE PLAIN PART 18a: the changes' cases of the law, without the room. -/
/-- what a case of the law asks of a change, and the state behind it -/
def LC0 (n : Nat) (v : vSt) (oL : Prop) (kkL : Nat) (fL : Int32 × vSt × gX) (o11 : vSt → Prop) (f11 : vSt → Int32 × vSt) : Prop :=
  oL ∧ o11 fL.2.1 ∧
  (∀ P : Prop, P → ∀ x5 : gX, x5 = fL.2.2 → (((fX11_thrown 461 (f11 fL.2.1).2 : Int32) = fL.1 → (((fL.1 : Int32) = 0 → (((lg_cmp (x5.1 468 (0 : Int32).toNatClampNeg) ((f11 fL.2.1).1.toInt64) : Int32) = 0 → P) ∧ (¬ (lg_cmp (x5.1 468 (0 : Int32).toNatClampNeg) ((f11 fL.2.1).1.toInt64) : Int32) = 0 → False))) ∧ (¬ (fL.1 : Int32) = 0 → P))) ∧ (¬ (fX11_thrown 461 (f11 fL.2.1).2 : Int32) = fL.1 → False))) ∧
  (∃ m', Inv (n + 1) m' (f11 fL.2.1).2) ∧ pot v + kkL = pot (f11 fL.2.1).2 + 36
section T47a
variable {n m : Nat} {v v4 v7 : vSt} {x : gX} {z b p p1 p2 p3 p4 : Int32} {code c0 : Nat} {cc : Nat → Int32} {P : Prop} {fL : Int32 × vSt × gX}
theorem LC0.mk {oL : Prop} {kkL : Nat} {o11 : vSt → Prop} {f11 : vSt → Int32 × vSt} (e : fL.2.1 = v4 ∧ fL.1 = cc code ∧ (code = 0 → fL.2.2 = xu x 468 (0 : Int32).toNatClampNeg z.toInt64)) (ok : OKC n v code z v4 (f11 v4).1 (f11 v4).2 cc) (h0 : cc code = 0 → code = 0)
    (hoL : oL) (ho : o11 v4) (ek : kkL = pot v4 - pot v + 36) : LC0 n v oL kkL fL o11 f11 := by
  obtain ⟨k1, k2, k3, k4, k5⟩ := ok
  obtain ⟨e1, e2, e3⟩ := e
  refine ⟨hoL, by rw [e1]; exact ho, fun P hP => ?_, by rw [e1]; exact k5, by rw [e1, k2, ek]; omega⟩
  rw [e1]
  exact law_tail (cc := cc) hP k3 k4 h0 e2 e3
theorem L0_measure (hI : Inv n m v) : LC0 n v (oL_measure 448 p1 p2 p3 468 v x) (kkL_measure 448 p1 p2 p3 468 v x) (fL_measure 448 p1 p2 p3 468 v x) (oX11_measure 461 p1 p2 p3) (fX11_measure 461 p1 p2 p3) := by
  obtain ⟨o1, o2, ok⟩ := t_measure (p := p1) (p2 := p2) (p3 := p3) hI
  have hcd := c2_measure (p1 := p1) (p2 := p2) (p3 := p3) (v := v)
  have e : (fL_measure 448 p1 p2 p3 468 v x).2.1 = (fX10_measure 448 p1 p2 p3 v).2.2 ∧ (fL_measure 448 p1 p2 p3 468 v x).1 = Int32.ofNat (fX10_measure 448 p1 p2 p3 v).1 ∧ ((fX10_measure 448 p1 p2 p3 v).1 = 0 → (fL_measure 448 p1 p2 p3 468 v x).2.2 = xu x 468 (0 : Int32).toNatClampNeg ((fX10_measure 448 p1 p2 p3 v).2.1).toInt64) := by
    unfold fL_measure
    dsimp only
    rcases hcd with h | h | h
    · rw [if_pos h]; exact ⟨rfl, by rw [h]; rfl, fun _ => rfl⟩
    · rw [if_neg (by rw [h]; decide), if_pos h]; exact ⟨rfl, by rw [h]; rfl, fun q => absurd q (by rw [h]; decide)⟩
    · rw [if_neg (by rw [h]; decide), if_neg (by rw [h]; decide)]; exact ⟨rfl, by rw [h]; rfl, fun q => absurd q (by rw [h]; decide)⟩
  have ek : kkL_measure 448 p1 p2 p3 468 v x = pot (fX10_measure 448 p1 p2 p3 v).2.2 - pot v + 36 := by unfold kkL_measure; rw [e.1]
  exact LC0.mk (cc := Int32.ofNat) e ok (cco_0 hcd) ⟨o1, by rw [ek]; unfold kkX10_measure; omega, fun h0 v4 _ h1 => (hcd.resolve_left h0).resolve_left h1⟩ o2 ek
theorem L0_calibrate (hI : Inv n m v) : LC0 n v (oL_calibrate 448 p1 p2 468 v x) (kkL_calibrate 448 p1 p2 468 v x) (fL_calibrate 448 p1 p2 468 v x) (oX11_calibrate 461 p1 p2) (fX11_calibrate 461 p1 p2) := by
  obtain ⟨o1, o2, ok⟩ := t_calibrate (p := p1) (p2 := p2) hI
  have hcd := c2_calibrate (p1 := p1) (p2 := p2) (v := v)
  have e : (fL_calibrate 448 p1 p2 468 v x).2.1 = (fX10_calibrate 448 p1 p2 v).2.2 ∧ (fL_calibrate 448 p1 p2 468 v x).1 = Int32.ofNat (fX10_calibrate 448 p1 p2 v).1 ∧ ((fX10_calibrate 448 p1 p2 v).1 = 0 → (fL_calibrate 448 p1 p2 468 v x).2.2 = xu x 468 (0 : Int32).toNatClampNeg ((fX10_calibrate 448 p1 p2 v).2.1).toInt64) := by
    unfold fL_calibrate
    dsimp only
    rcases hcd with h | h | h
    · rw [if_pos h]; exact ⟨rfl, by rw [h]; rfl, fun _ => rfl⟩
    · rw [if_neg (by rw [h]; decide), if_pos h]; exact ⟨rfl, by rw [h]; rfl, fun q => absurd q (by rw [h]; decide)⟩
    · rw [if_neg (by rw [h]; decide), if_neg (by rw [h]; decide)]; exact ⟨rfl, by rw [h]; rfl, fun q => absurd q (by rw [h]; decide)⟩
  have ek : kkL_calibrate 448 p1 p2 468 v x = pot (fX10_calibrate 448 p1 p2 v).2.2 - pot v + 36 := by unfold kkL_calibrate; rw [e.1]
  exact LC0.mk (cc := Int32.ofNat) e ok (cco_0 hcd) ⟨o1, by rw [ek]; unfold kkX10_calibrate; omega, fun h0 v4 _ h1 => (hcd.resolve_left h0).resolve_left h1⟩ o2 ek
theorem L0_bring (hI : Inv n m v) : LC0 n v (oL_bring 448 p1 p2 468 v x) (kkL_bring 448 p1 p2 468 v x) (fL_bring 448 p1 p2 468 v x) (oX11_bring 461 p1 p2) (fX11_bring 461 p1 p2) := by
  obtain ⟨o1, o2, ok⟩ := t_bring (p := p1) (p2 := p2) hI
  have hcd := c2_bring (p1 := p1) (p2 := p2) (v := v)
  have e : (fL_bring 448 p1 p2 468 v x).2.1 = (fX10_bring 448 p1 p2 v).2.2 ∧ (fL_bring 448 p1 p2 468 v x).1 = Int32.ofNat (fX10_bring 448 p1 p2 v).1 ∧ ((fX10_bring 448 p1 p2 v).1 = 0 → (fL_bring 448 p1 p2 468 v x).2.2 = xu x 468 (0 : Int32).toNatClampNeg ((fX10_bring 448 p1 p2 v).2.1).toInt64) := by
    unfold fL_bring
    dsimp only
    rcases hcd with h | h | h
    · rw [if_pos h]; exact ⟨rfl, by rw [h]; rfl, fun _ => rfl⟩
    · rw [if_neg (by rw [h]; decide), if_pos h]; exact ⟨rfl, by rw [h]; rfl, fun q => absurd q (by rw [h]; decide)⟩
    · rw [if_neg (by rw [h]; decide), if_neg (by rw [h]; decide)]; exact ⟨rfl, by rw [h]; rfl, fun q => absurd q (by rw [h]; decide)⟩
  have ek : kkL_bring 448 p1 p2 468 v x = pot (fX10_bring 448 p1 p2 v).2.2 - pot v + 36 := by unfold kkL_bring; rw [e.1]
  exact LC0.mk (cc := Int32.ofNat) e ok (cco_0 hcd) ⟨o1, by rw [ek]; unfold kkX10_bring; omega, fun h0 v4 _ h1 => (hcd.resolve_left h0).resolve_left h1⟩ o2 ek
theorem L0_judge (hI : Inv n m v) (hn : n ≤ 512) : LC0 n v (oL_judge 448 p1 468 v x) (kkL_judge 448 p1 468 v x) (fL_judge 448 p1 468 v x) (oX11_judge 461 p1) (fX11_judge 461 p1) := by
  obtain ⟨o1, o2, ok⟩ := t_judge (p := p1) hI hn
  have hcd := c2_judge (p1 := p1) (v := v)
  have e : (fL_judge 448 p1 468 v x).2.1 = (fX10_judge 448 p1 v).2.2 ∧ (fL_judge 448 p1 468 v x).1 = Int32.ofNat (fX10_judge 448 p1 v).1 ∧ ((fX10_judge 448 p1 v).1 = 0 → (fL_judge 448 p1 468 v x).2.2 = xu x 468 (0 : Int32).toNatClampNeg ((fX10_judge 448 p1 v).2.1).toInt64) := by
    unfold fL_judge
    dsimp only
    rcases hcd with h | h | h
    · rw [if_pos h]; exact ⟨rfl, by rw [h]; rfl, fun _ => rfl⟩
    · rw [if_neg (by rw [h]; decide), if_pos h]; exact ⟨rfl, by rw [h]; rfl, fun q => absurd q (by rw [h]; decide)⟩
    · rw [if_neg (by rw [h]; decide), if_neg (by rw [h]; decide)]; exact ⟨rfl, by rw [h]; rfl, fun q => absurd q (by rw [h]; decide)⟩
  have ek : kkL_judge 448 p1 468 v x = pot (fX10_judge 448 p1 v).2.2 - pot v + 36 := by unfold kkL_judge; rw [e.1]
  exact LC0.mk (cc := Int32.ofNat) e ok (cco_0 hcd) ⟨o1, by rw [ek]; unfold kkX10_judge; omega, fun h0 v4 _ h1 => (hcd.resolve_left h0).resolve_left h1⟩ o2 ek
theorem L0_file (hI : Inv n m v) : LC0 n v (oL_file 448 p1 468 v x) (kkL_file 448 p1 468 v x) (fL_file 448 p1 468 v x) (oX11_file 461 p1) (fX11_file 461 p1) := by
  obtain ⟨o1, o2, ok⟩ := t_file (p := p1) hI
  have hcd := c2_file (p1 := p1) (v := v)
  have e : (fL_file 448 p1 468 v x).2.1 = (fX10_file 448 p1 v).2.2 ∧ (fL_file 448 p1 468 v x).1 = Int32.ofNat (fX10_file 448 p1 v).1 ∧ ((fX10_file 448 p1 v).1 = 0 → (fL_file 448 p1 468 v x).2.2 = xu x 468 (0 : Int32).toNatClampNeg ((fX10_file 448 p1 v).2.1).toInt64) := by
    unfold fL_file
    dsimp only
    rcases hcd with h | h | h
    · rw [if_pos h]; exact ⟨rfl, by rw [h]; rfl, fun _ => rfl⟩
    · rw [if_neg (by rw [h]; decide), if_pos h]; exact ⟨rfl, by rw [h]; rfl, fun q => absurd q (by rw [h]; decide)⟩
    · rw [if_neg (by rw [h]; decide), if_neg (by rw [h]; decide)]; exact ⟨rfl, by rw [h]; rfl, fun q => absurd q (by rw [h]; decide)⟩
  have ek : kkL_file 448 p1 468 v x = pot (fX10_file 448 p1 v).2.2 - pot v + 36 := by unfold kkL_file; rw [e.1]
  exact LC0.mk (cc := Int32.ofNat) e ok (cco_0 hcd) ⟨o1, by rw [ek]; unfold kkX10_file; omega, fun h0 v4 _ h1 => (hcd.resolve_left h0).resolve_left h1⟩ o2 ek
theorem L0_addBlock (hI : Inv n m v) : LC0 n v (oL_addBlock 448 p1 p2 468 v x) (kkL_addBlock 448 p1 p2 468 v x) (fL_addBlock 448 p1 p2 468 v x) (oX11_addBlock 461 p1 p2) (fX11_addBlock 461 p1 p2) := by
  obtain ⟨o1, o2, ok⟩ := t_addBlock (p1 := p1) (p2 := p2) hI
  have hcd := c2_addBlock (p1 := p1) (p2 := p2) (v := v)
  have e : (fL_addBlock 448 p1 p2 468 v x).2.1 = (fX10_addBlock 448 p1 p2 v).2.2 ∧ (fL_addBlock 448 p1 p2 468 v x).1 = Int32.ofNat (fX10_addBlock 448 p1 p2 v).1 ∧ ((fX10_addBlock 448 p1 p2 v).1 = 0 → (fL_addBlock 448 p1 p2 468 v x).2.2 = xu x 468 (0 : Int32).toNatClampNeg ((fX10_addBlock 448 p1 p2 v).2.1).toInt64) := by
    unfold fL_addBlock
    dsimp only
    rcases hcd with h | h | h
    · rw [if_pos h]; exact ⟨rfl, by rw [h]; rfl, fun _ => rfl⟩
    · rw [if_neg (by rw [h]; decide), if_pos h]; exact ⟨rfl, by rw [h]; rfl, fun q => absurd q (by rw [h]; decide)⟩
    · rw [if_neg (by rw [h]; decide), if_neg (by rw [h]; decide)]; exact ⟨rfl, by rw [h]; rfl, fun q => absurd q (by rw [h]; decide)⟩
  have ek : kkL_addBlock 448 p1 p2 468 v x = pot (fX10_addBlock 448 p1 p2 v).2.2 - pot v + 36 := by unfold kkL_addBlock; rw [e.1]
  exact LC0.mk (cc := Int32.ofNat) e ok (cco_0 hcd) ⟨o1, by rw [ek]; unfold kkX10_addBlock; omega, fun h0 v4 _ h1 => (hcd.resolve_left h0).resolve_left h1⟩ o2 ek
theorem L0_addType (hI : Inv n m v) : LC0 n v (oL_addType 448 p1 p2 p3 p4 468 v x) (kkL_addType 448 p1 p2 p3 p4 468 v x) (fL_addType 448 p1 p2 p3 p4 468 v x) (oX11_addType 461 p1 p2 p3 p4) (fX11_addType 461 p1 p2 p3 p4) := by
  obtain ⟨o1, o2, ok⟩ := t_addType (p1 := p1) (p2 := p2) (p3 := p3) (p4 := p4) hI
  have hcd := c2_addType (p1 := p1) (p2 := p2) (p3 := p3) (p4 := p4) (v := v)
  have e : (fL_addType 448 p1 p2 p3 p4 468 v x).2.1 = (fX10_addType 448 p1 p2 p3 p4 v).2.2 ∧ (fL_addType 448 p1 p2 p3 p4 468 v x).1 = Int32.ofNat (fX10_addType 448 p1 p2 p3 p4 v).1 ∧ ((fX10_addType 448 p1 p2 p3 p4 v).1 = 0 → (fL_addType 448 p1 p2 p3 p4 468 v x).2.2 = xu x 468 (0 : Int32).toNatClampNeg ((fX10_addType 448 p1 p2 p3 p4 v).2.1).toInt64) := by
    unfold fL_addType
    dsimp only
    rcases hcd with h | h | h
    · rw [if_pos h]; exact ⟨rfl, by rw [h]; rfl, fun _ => rfl⟩
    · rw [if_neg (by rw [h]; decide), if_pos h]; exact ⟨rfl, by rw [h]; rfl, fun q => absurd q (by rw [h]; decide)⟩
    · rw [if_neg (by rw [h]; decide), if_neg (by rw [h]; decide)]; exact ⟨rfl, by rw [h]; rfl, fun q => absurd q (by rw [h]; decide)⟩
  have ek : kkL_addType 448 p1 p2 p3 p4 468 v x = pot (fX10_addType 448 p1 p2 p3 p4 v).2.2 - pot v + 36 := by unfold kkL_addType; rw [e.1]
  exact LC0.mk (cc := Int32.ofNat) e ok (cco_0 hcd) ⟨o1, by rw [ek]; unfold kkX10_addType; omega, fun h0 v4 _ h1 => (hcd.resolve_left h0).resolve_left h1⟩ o2 ek
theorem L0_type (hI : Inv n m v) : LC0 n v (oL_type 448 p1 468 v x) (kkL_type 448 p1 468 v x) (fL_type 448 p1 468 v x) (oX11_type 461 p1) (fX11_type 461 p1) := by
  obtain ⟨o1, o2, ok⟩ := t_type (p1 := p1) hI
  have hcd := c2_type (p1 := p1) (v := v)
  have e : (fL_type 448 p1 468 v x).2.1 = (fX10_type 448 p1 v).2.2 ∧ (fL_type 448 p1 468 v x).1 = Int32.ofNat (fX10_type 448 p1 v).1 ∧ ((fX10_type 448 p1 v).1 = 0 → (fL_type 448 p1 468 v x).2.2 = xu x 468 (0 : Int32).toNatClampNeg ((fX10_type 448 p1 v).2.1).toInt64) := by
    unfold fL_type
    dsimp only
    rcases hcd with h | h | h
    · rw [if_pos h]; exact ⟨rfl, by rw [h]; rfl, fun _ => rfl⟩
    · rw [if_neg (by rw [h]; decide), if_pos h]; exact ⟨rfl, by rw [h]; rfl, fun q => absurd q (by rw [h]; decide)⟩
    · rw [if_neg (by rw [h]; decide), if_neg (by rw [h]; decide)]; exact ⟨rfl, by rw [h]; rfl, fun q => absurd q (by rw [h]; decide)⟩
  have ek : kkL_type 448 p1 468 v x = pot (fX10_type 448 p1 v).2.2 - pot v + 36 := by unfold kkL_type; rw [e.1]
  exact LC0.mk (cc := Int32.ofNat) e ok (cco_0 hcd) ⟨o1, by rw [ek]; unfold kkX10_type; omega, fun h0 v4 _ h1 => (hcd.resolve_left h0).resolve_left h1⟩ o2 ek
theorem L0_endDay (hI : Inv n m v) : LC0 n v (oL_endDay 448 468 v x) (kkL_endDay 448 468 v x) (fL_endDay 448 468 v x) (oX11_endDay 461) (fX11_endDay 461) := by
  obtain ⟨o1, o2, hcd, ok⟩ := t_endDay hI
  have e : (fL_endDay 448 468 v x).2.1 = (fX10_endDay 448 v).2.2 ∧ (fL_endDay 448 468 v x).1 = cc1 (fX10_endDay 448 v).1 ∧ ((fX10_endDay 448 v).1 = 0 → (fL_endDay 448 468 v x).2.2 = xu x 468 (0 : Int32).toNatClampNeg ((fX10_endDay 448 v).2.1).toInt64) := by
    unfold fL_endDay
    dsimp only
    rcases hcd with h | h
    · rw [if_pos h]; exact ⟨rfl, by rw [h]; rfl, fun _ => rfl⟩
    · rw [if_neg (by rw [h]; decide)]; exact ⟨rfl, by rw [h]; rfl, fun q => absurd q (by rw [h]; decide)⟩
  have ek : kkL_endDay 448 468 v x = pot (fX10_endDay 448 v).2.2 - pot v + 36 := by unfold kkL_endDay; rw [e.1]
  exact LC0.mk (cc := cc1) e ok cc1_0 ⟨o1, by rw [ek]; unfold kkX10_endDay; omega, fun h0 v4 _ => hcd.resolve_left h0⟩ o2 ek
theorem L0_passUnseen (hI : Inv n m v) : LC0 n v (oL_passUnseen 448 468 v x) (kkL_passUnseen 448 468 v x) (fL_passUnseen 448 468 v x) (oX11_passUnseen 461) (fX11_passUnseen 461) := by
  obtain ⟨o1, o2, hcd, ok⟩ := t_passUnseen hI
  have e : (fL_passUnseen 448 468 v x).2.1 = (fX10_passUnseen 448 v).2.2 ∧ (fL_passUnseen 448 468 v x).1 = cc1 (fX10_passUnseen 448 v).1 ∧ ((fX10_passUnseen 448 v).1 = 0 → (fL_passUnseen 448 468 v x).2.2 = xu x 468 (0 : Int32).toNatClampNeg ((fX10_passUnseen 448 v).2.1).toInt64) := by
    unfold fL_passUnseen
    dsimp only
    rcases hcd with h | h
    · rw [if_pos h]; exact ⟨rfl, by rw [h]; rfl, fun _ => rfl⟩
    · rw [if_neg (by rw [h]; decide)]; exact ⟨rfl, by rw [h]; rfl, fun q => absurd q (by rw [h]; decide)⟩
  have ek : kkL_passUnseen 448 468 v x = pot (fX10_passUnseen 448 v).2.2 - pot v + 36 := by unfold kkL_passUnseen; rw [e.1]
  exact LC0.mk (cc := cc1) e ok cc1_0 ⟨o1, by rw [ek]; unfold kkX10_passUnseen; omega, fun h0 v4 _ => hcd.resolve_left h0⟩ o2 ek
theorem L0_goBack (hI : Inv n m v) : LC0 n v (oL_goBack 448 468 v x) (kkL_goBack 448 468 v x) (fL_goBack 448 468 v x) (oX11_goBack 461) (fX11_goBack 461) := by
  obtain ⟨o1, o2, hcd, ok⟩ := t_goBack hI
  have e : (fL_goBack 448 468 v x).2.1 = (fX10_goBack 448 v).2.2 ∧ (fL_goBack 448 468 v x).1 = cc1 (fX10_goBack 448 v).1 ∧ ((fX10_goBack 448 v).1 = 0 → (fL_goBack 448 468 v x).2.2 = xu x 468 (0 : Int32).toNatClampNeg ((fX10_goBack 448 v).2.1).toInt64) := by
    unfold fL_goBack
    dsimp only
    rcases hcd with h | h
    · rw [if_pos h]; exact ⟨rfl, by rw [h]; rfl, fun _ => rfl⟩
    · rw [if_neg (by rw [h]; decide)]; exact ⟨rfl, by rw [h]; rfl, fun q => absurd q (by rw [h]; decide)⟩
  have ek : kkL_goBack 448 468 v x = pot (fX10_goBack 448 v).2.2 - pot v + 36 := by unfold kkL_goBack; rw [e.1]
  exact LC0.mk (cc := cc1) e ok cc1_0 ⟨o1, by rw [ek]; unfold kkX10_goBack; omega, fun h0 v4 _ => hcd.resolve_left h0⟩ o2 ek
theorem L0_undo (hI : Inv n m v) : LC0 n v (oL_undo 448 468 v x) (kkL_undo 448 468 v x) (fL_undo 448 468 v x) (oX11_undo 461) (fX11_undo 461) := by
  obtain ⟨o1, o2, hcd, ok⟩ := t_undo hI
  have e : (fL_undo 448 468 v x).2.1 = (fX10_undo 448 v).2.2 ∧ (fL_undo 448 468 v x).1 = cc1 (fX10_undo 448 v).1 ∧ ((fX10_undo 448 v).1 = 0 → (fL_undo 448 468 v x).2.2 = xu x 468 (0 : Int32).toNatClampNeg ((fX10_undo 448 v).2.1).toInt64) := by
    unfold fL_undo
    dsimp only
    rcases hcd with h | h
    · rw [if_pos h]; exact ⟨rfl, by rw [h]; rfl, fun _ => rfl⟩
    · rw [if_neg (by rw [h]; decide)]; exact ⟨rfl, by rw [h]; rfl, fun q => absurd q (by rw [h]; decide)⟩
  have ek : kkL_undo 448 468 v x = pot (fX10_undo 448 v).2.2 - pot v + 36 := by unfold kkL_undo; rw [e.1]
  exact LC0.mk (cc := cc1) e ok cc1_0 ⟨o1, by rw [ek]; unfold kkX10_undo; omega, fun h0 v4 _ => hcd.resolve_left h0⟩ o2 ek
theorem L0_setWarmth (hI : Inv n m v) : LC0 n v (oL_setWarmth 448 p1 468 v x) (kkL_setWarmth 448 p1 468 v x) (fL_setWarmth 448 p1 468 v x) (oX11_setWarmth 461 p1) (fX11_setWarmth 461 p1) := by
  obtain ⟨o1, o2, ok⟩ := t_setWarmth (p1 := p1) hI
  have hcd := c2_setWarmth (p1 := p1) (v := v)
  have e : (fL_setWarmth 448 p1 468 v x).2.1 = (fX10_setWarmth 448 p1 v).2.2 ∧ (fL_setWarmth 448 p1 468 v x).1 = Int32.ofNat (fX10_setWarmth 448 p1 v).1 ∧ ((fX10_setWarmth 448 p1 v).1 = 0 → (fL_setWarmth 448 p1 468 v x).2.2 = xu x 468 (0 : Int32).toNatClampNeg ((fX10_setWarmth 448 p1 v).2.1).toInt64) := by
    unfold fL_setWarmth
    dsimp only
    rcases hcd with h | h
    · rw [if_pos h]; exact ⟨rfl, by rw [h]; rfl, fun _ => rfl⟩
    · rw [if_neg (by rw [h]; decide)]; exact ⟨rfl, by rw [h]; rfl, fun q => absurd q (by rw [h]; decide)⟩
  have ek : kkL_setWarmth 448 p1 468 v x = pot (fX10_setWarmth 448 p1 v).2.2 - pot v + 36 := by unfold kkL_setWarmth; rw [e.1]
  exact LC0.mk (cc := Int32.ofNat) e ok (cco_0 (hcd.imp id Or.inl)) ⟨o1, by rw [ek]; unfold kkX10_setWarmth; omega, fun h0 v4 _ => hcd.resolve_left h0⟩ o2 ek
theorem L0_setTolerance (hI : Inv n m v) : LC0 n v (oL_setTolerance 448 p1 468 v x) (kkL_setTolerance 448 p1 468 v x) (fL_setTolerance 448 p1 468 v x) (oX11_setTolerance 461 p1) (fX11_setTolerance 461 p1) := by
  obtain ⟨o1, o2, ok⟩ := t_setTolerance (p1 := p1) hI
  have hcd := c2_setTolerance (p1 := p1) (v := v)
  have e : (fL_setTolerance 448 p1 468 v x).2.1 = (fX10_setTolerance 448 p1 v).2.2 ∧ (fL_setTolerance 448 p1 468 v x).1 = Int32.ofNat (fX10_setTolerance 448 p1 v).1 ∧ ((fX10_setTolerance 448 p1 v).1 = 0 → (fL_setTolerance 448 p1 468 v x).2.2 = xu x 468 (0 : Int32).toNatClampNeg ((fX10_setTolerance 448 p1 v).2.1).toInt64) := by
    unfold fL_setTolerance
    dsimp only
    rcases hcd with h | h
    · rw [if_pos h]; exact ⟨rfl, by rw [h]; rfl, fun _ => rfl⟩
    · rw [if_neg (by rw [h]; decide)]; exact ⟨rfl, by rw [h]; rfl, fun q => absurd q (by rw [h]; decide)⟩
  have ek : kkL_setTolerance 448 p1 468 v x = pot (fX10_setTolerance 448 p1 v).2.2 - pot v + 36 := by unfold kkL_setTolerance; rw [e.1]
  exact LC0.mk (cc := Int32.ofNat) e ok (cco_0 (hcd.imp id Or.inl)) ⟨o1, by rw [ek]; unfold kkX10_setTolerance; omega, fun h0 v4 _ => hcd.resolve_left h0⟩ o2 ek
theorem L0_addTool (hI : Inv n m v) : LC0 n v (oL_addTool 448 p1 p2 468 v x) (kkL_addTool 448 p1 p2 468 v x) (fL_addTool 448 p1 p2 468 v x) (oX11_addTool 461 p1 p2) (fX11_addTool 461 p1 p2) := by
  obtain ⟨o1, o2, ok⟩ := t_addTool (p1 := p1) (p2 := p2) hI
  have hcd := c_addTool (p1 := p1) (p2 := p2) (v := v)
  have e : (fL_addTool 448 p1 p2 468 v x).2.1 = (fX10_addTool 448 p1 p2 v).2.2 ∧ (fL_addTool 448 p1 p2 468 v x).1 = Int32.ofNat (fX10_addTool 448 p1 p2 v).1 ∧ ((fX10_addTool 448 p1 p2 v).1 = 0 → (fL_addTool 448 p1 p2 468 v x).2.2 = xu x 468 (0 : Int32).toNatClampNeg ((fX10_addTool 448 p1 p2 v).2.1).toInt64) := by
    unfold fL_addTool
    dsimp only
    rcases hcd with h | h | h
    · rw [if_pos h]; exact ⟨rfl, by rw [h]; rfl, fun _ => rfl⟩
    · rw [if_neg (by rw [h]; decide), if_pos h]; exact ⟨rfl, by rw [h]; rfl, fun q => absurd q (by rw [h]; decide)⟩
    · rw [if_neg (by rw [h]; decide), if_neg (by rw [h]; decide)]; exact ⟨rfl, by rw [h]; rfl, fun q => absurd q (by rw [h]; decide)⟩
  have ek : kkL_addTool 448 p1 p2 468 v x = pot (fX10_addTool 448 p1 p2 v).2.2 - pot v + 36 := by unfold kkL_addTool; rw [e.1]
  exact LC0.mk (cc := Int32.ofNat) e ok (cco_0 hcd) ⟨o1, by rw [ek]; unfold kkX10_addTool; omega, fun h0 v4 _ h1 => (hcd.resolve_left h0).resolve_left h1⟩ o2 ek
theorem c2_throwOut : (fX10_throwOut 448 p v).1 = 0 ∨ (fX10_throwOut 448 p v).1 = 1 := by
  unfold fX10_throwOut
  dsimp only
  rcases nY_c (p := p) (v := v) with h | h
  · rw [if_pos h]; exact Or.inl rfl
  · rw [if_neg (by rw [h]; decide)]; exact Or.inr h
theorem L0_throwOut (hI : Inv n m v) : LC0 n v (oL_throwOut 448 p 468 v x) (kkL_throwOut 448 p 468 v x) (fL_throwOut 448 p 468 v x) (oX11_throwOut 461 p) (fX11_throwOut 461 p) := by
  obtain ⟨o1, o2, ok⟩ := t_throwOut (p := p) hI
  have hcd := c2_throwOut (p := p) (v := v)
  have e : (fL_throwOut 448 p 468 v x).2.1 = (fX10_throwOut 448 p v).2.2 ∧ (fL_throwOut 448 p 468 v x).1 = Int32.ofNat (fX10_throwOut 448 p v).1 ∧ ((fX10_throwOut 448 p v).1 = 0 → (fL_throwOut 448 p 468 v x).2.2 = xu x 468 (0 : Int32).toNatClampNeg ((fX10_throwOut 448 p v).2.1).toInt64) := by
    unfold fL_throwOut
    dsimp only
    rcases hcd with h | h
    · rw [if_pos h]; exact ⟨rfl, by rw [h]; rfl, fun _ => rfl⟩
    · rw [if_neg (by rw [h]; decide)]; exact ⟨rfl, by rw [h]; rfl, fun q => absurd q (by rw [h]; decide)⟩
  have ek : kkL_throwOut 448 p 468 v x = pot (fX10_throwOut 448 p v).2.2 - pot v + 36 := by unfold kkL_throwOut; rw [e.1]
  exact LC0.mk (cc := Int32.ofNat) e ok (cco_0 (hcd.imp id Or.inl)) ⟨o1, by rw [ek]; unfold kkX10_throwOut; omega, fun h0 v4 _ => hcd.resolve_left h0⟩ o2 ek
theorem nC_c (hI : Inv n m v) : (fX10_needChart 448 p v).1 = 0 ∨ (fX10_needChart 448 p v).1 = 1 ∨ (fX10_needChart 448 p v).1 = 3 := by
  rcases chart3 (p := p) hI with ⟨e, _⟩ | ⟨e, _⟩ | ⟨c, _, _, _, _, _, _, e, _⟩ <;> rw [e]
  · exact Or.inr (Or.inl rfl)
  · exact Or.inr (Or.inr rfl)
  · exact Or.inl rfl
theorem okc_q {w : vSt} {f : Int32 × vSt} {z : Int32} (hI : Inv n m v) (h : OQ v code z f (cc code)) : OKC n v code z v f.1 f.2 cc := ⟨Nat.le_refl _, h.1.pot, h.1.2.2, h.2, m, hI.asked h.1⟩
theorem L0_middleOf (hI : Inv n m v) : LC0 n v (oL_middleOf 448 p 468 v x) (kkL_middleOf 448 p 468 v x) (fL_middleOf 448 p 468 v x) (oX11_middleOf 461 p) (fX11_middleOf 461 p) := by
  obtain ⟨o1, o2, ok, ev⟩ := t_middleOf (p := p) hI
  have hcd : (fX10_middleOf 448 p v).1 = 0 ∨ (fX10_middleOf 448 p v).1 = 1 ∨ (fX10_middleOf 448 p v).1 = 3 := by
    unfold fX10_middleOf
    dsimp only
    rcases nC_c (p := p) hI with h | h
    · rw [if_pos h]; exact Or.inl rfl
    · rw [if_neg (by rcases h with h | h <;> rw [h] <;> decide)]; exact Or.inr h
  have e : (fL_middleOf 448 p 468 v x).2.1 = v ∧ (fL_middleOf 448 p 468 v x).1 = cc3 (fX10_middleOf 448 p v).1 ∧ ((fX10_middleOf 448 p v).1 = 0 → (fL_middleOf 448 p 468 v x).2.2 = xu x 468 (0 : Int32).toNatClampNeg ((fX10_middleOf 448 p v).2.1).toInt64) := by
    unfold fL_middleOf
    dsimp only
    rw [ev]
    rcases hcd with h | h | h
    · rw [if_pos h]; exact ⟨rfl, by rw [h]; rfl, fun _ => rfl⟩
    · rw [if_neg (by rw [h]; decide), if_pos h]; exact ⟨rfl, by rw [h]; rfl, fun q => absurd q (by rw [h]; decide)⟩
    · rw [if_neg (by rw [h]; decide), if_neg (by rw [h]; decide)]; exact ⟨rfl, by rw [h]; rfl, fun q => absurd q (by rw [h]; decide)⟩
  have ek : kkL_middleOf 448 p 468 v x = pot v - pot v + 36 := by unfold kkL_middleOf; rw [e.1]
  exact LC0.mk (cc := cc3) e (okc_q (w := v) hI ok) (cc3_0 hcd) ⟨o1, by rw [ek]; unfold kkX10_middleOf; rw [ev]; omega, fun h0 v4 _ h1 => (hcd.resolve_left h0).resolve_left h1⟩ o2 ek
theorem L0_middleByTaking (hI : Inv n m v) : LC0 n v (oL_middleByTaking 448 p 468 v x) (kkL_middleByTaking 448 p 468 v x) (fL_middleByTaking 448 p 468 v x) (oX11_middleByTaking 461 p) (fX11_middleByTaking 461 p) := by
  obtain ⟨o1, o2, ok, ev⟩ := t_middleByTaking (p := p) hI
  have hcd : (fX10_middleByTaking 448 p v).1 = 0 ∨ (fX10_middleByTaking 448 p v).1 = 1 ∨ (fX10_middleByTaking 448 p v).1 = 3 := by
    unfold fX10_middleByTaking
    dsimp only
    rcases nC_c (p := p) hI with h | h
    · rw [if_pos h]; exact Or.inl rfl
    · rw [if_neg (by rcases h with h | h <;> rw [h] <;> decide)]; exact Or.inr h
  have e : (fL_middleByTaking 448 p 468 v x).2.1 = v ∧ (fL_middleByTaking 448 p 468 v x).1 = cc3 (fX10_middleByTaking 448 p v).1 ∧ ((fX10_middleByTaking 448 p v).1 = 0 → (fL_middleByTaking 448 p 468 v x).2.2 = xu x 468 (0 : Int32).toNatClampNeg ((fX10_middleByTaking 448 p v).2.1).toInt64) := by
    unfold fL_middleByTaking
    dsimp only
    rw [ev]
    rcases hcd with h | h | h
    · rw [if_pos h]; exact ⟨rfl, by rw [h]; rfl, fun _ => rfl⟩
    · rw [if_neg (by rw [h]; decide), if_pos h]; exact ⟨rfl, by rw [h]; rfl, fun q => absurd q (by rw [h]; decide)⟩
    · rw [if_neg (by rw [h]; decide), if_neg (by rw [h]; decide)]; exact ⟨rfl, by rw [h]; rfl, fun q => absurd q (by rw [h]; decide)⟩
  have ek : kkL_middleByTaking 448 p 468 v x = pot v - pot v + 36 := by unfold kkL_middleByTaking; rw [e.1]
  exact LC0.mk (cc := cc3) e (okc_q (w := v) hI ok) (cc3_0 hcd) ⟨o1, by rw [ek]; unfold kkX10_middleByTaking; rw [ev]; omega, fun h0 v4 _ h1 => (hcd.resolve_left h0).resolve_left h1⟩ o2 ek
theorem L0_faultPosition (hI : Inv n m v) (hn : n ≤ 511) : LC0 n v (oL_faultPosition 448 468 v x) (kkL_faultPosition 448 468 v x) (fL_faultPosition 448 468 v x) (oX11_faultPosition 461) (fX11_faultPosition 461) := by
  obtain ⟨o1, o2, hcd, ok⟩ := t_faultPosition hI hn
  have e : (fL_faultPosition 448 468 v x).2.1 = (fX10_faultPosition 448 v).2.2 ∧ (fL_faultPosition 448 468 v x).1 = cc1 (fX10_faultPosition 448 v).1 ∧ ((fX10_faultPosition 448 v).1 = 0 → (fL_faultPosition 448 468 v x).2.2 = xu x 468 (0 : Int32).toNatClampNeg ((fX10_faultPosition 448 v).2.1).toInt64) := by
    unfold fL_faultPosition
    dsimp only
    rcases hcd with h | h
    · rw [if_pos h]; exact ⟨rfl, by rw [h]; rfl, fun _ => rfl⟩
    · rw [if_neg (by rw [h]; decide)]; exact ⟨rfl, by rw [h]; rfl, fun q => absurd q (by rw [h]; decide)⟩
  have ek : kkL_faultPosition 448 468 v x = pot (fX10_faultPosition 448 v).2.2 - pot v + 36 := by unfold kkL_faultPosition; rw [e.1]
  exact LC0.mk (cc := cc1) e ok cc1_0 ⟨o1, by rw [ek]; unfold kkX10_faultPosition; omega, fun h0 v4 _ => hcd.resolve_left h0⟩ o2 ek
theorem L0_faultReason (hI : Inv n m v) (hn : n ≤ 511) : LC0 n v (oL_faultReason 448 468 v x) (kkL_faultReason 448 468 v x) (fL_faultReason 448 468 v x) (oX11_faultReason 461) (fX11_faultReason 461) := by
  obtain ⟨o1, o2, hcd, ok⟩ := t_faultReason hI hn
  have e : (fL_faultReason 448 468 v x).2.1 = (fX10_faultReason 448 v).2.2 ∧ (fL_faultReason 448 468 v x).1 = cc1 (fX10_faultReason 448 v).1 ∧ ((fX10_faultReason 448 v).1 = 0 → (fL_faultReason 448 468 v x).2.2 = xu x 468 (0 : Int32).toNatClampNeg ((fX10_faultReason 448 v).2.1).toInt64) := by
    unfold fL_faultReason
    dsimp only
    rcases hcd with h | h
    · rw [if_pos h]; exact ⟨rfl, by rw [h]; rfl, fun _ => rfl⟩
    · rw [if_neg (by rw [h]; decide)]; exact ⟨rfl, by rw [h]; rfl, fun q => absurd q (by rw [h]; decide)⟩
  have ek : kkL_faultReason 448 468 v x = pot (fX10_faultReason 448 v).2.2 - pot v + 36 := by unfold kkL_faultReason; rw [e.1]
  exact LC0.mk (cc := cc1) e ok cc1_0 ⟨o1, by rw [ek]; unfold kkX10_faultReason; omega, fun h0 v4 _ => hcd.resolve_left h0⟩ o2 ek
theorem L0_faultCause (hI : Inv n m v) (hn : n ≤ 511) : LC0 n v (oL_faultCause 448 468 v x) (kkL_faultCause 448 468 v x) (fL_faultCause 448 468 v x) (oX11_faultCause 461) (fX11_faultCause 461) := by
  obtain ⟨o1, o2, hcd, ok⟩ := t_faultCause hI hn
  have e : (fL_faultCause 448 468 v x).2.1 = (fX10_faultCause 448 v).2.2 ∧ (fL_faultCause 448 468 v x).1 = cc1 (fX10_faultCause 448 v).1 ∧ ((fX10_faultCause 448 v).1 = 0 → (fL_faultCause 448 468 v x).2.2 = xu x 468 (0 : Int32).toNatClampNeg ((fX10_faultCause 448 v).2.1).toInt64) := by
    unfold fL_faultCause
    dsimp only
    rcases hcd with h | h
    · rw [if_pos h]; exact ⟨rfl, by rw [h]; rfl, fun _ => rfl⟩
    · rw [if_neg (by rw [h]; decide)]; exact ⟨rfl, by rw [h]; rfl, fun q => absurd q (by rw [h]; decide)⟩
  have ek : kkL_faultCause 448 468 v x = pot (fX10_faultCause 448 v).2.2 - pot v + 36 := by unfold kkL_faultCause; rw [e.1]
  exact LC0.mk (cc := cc1) e ok cc1_0 ⟨o1, by rw [ek]; unfold kkX10_faultCause; omega, fun h0 v4 _ => hcd.resolve_left h0⟩ o2 ek
theorem L0_play (hI : Inv n m v) (hn : n ≤ 511) : LC0 n v (oL_play 448 468 v x) (kkL_play 448 468 v x) (fL_play 448 468 v x) (oX11_play 461) (fX11_play 461) := by
  obtain ⟨o1, o2, hcd, ok⟩ := t_play hI hn
  have e : (fL_play 448 468 v x).2.1 = (fX10_play 448 v).2.2 ∧ (fL_play 448 468 v x).1 = cc1 (fX10_play 448 v).1 ∧ ((fX10_play 448 v).1 = 0 → (fL_play 448 468 v x).2.2 = xu x 468 (0 : Int32).toNatClampNeg ((fX10_play 448 v).2.1).toInt64) := by
    unfold fL_play
    dsimp only
    rcases hcd with h | h
    · rw [if_pos h]; exact ⟨rfl, by rw [h]; rfl, fun _ => rfl⟩
    · rw [if_neg (by rw [h]; decide)]; exact ⟨rfl, by rw [h]; rfl, fun q => absurd q (by rw [h]; decide)⟩
  have ek : kkL_play 448 468 v x = pot (fX10_play 448 v).2.2 - pot v + 36 := by unfold kkL_play; rw [e.1]
  exact LC0.mk (cc := cc1) e ok cc1_0 ⟨o1, by rw [ek]; unfold kkX10_play; omega, fun h0 v4 _ => hcd.resolve_left h0⟩ o2 ek
end T47a
