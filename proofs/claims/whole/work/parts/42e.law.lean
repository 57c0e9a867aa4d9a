/-! THE PLAIN PART 13e: the questions' cases of the law. -/
/-- what a case of the law asks of a question, and the state behind it -/
def LQ (n m : Nat) (v : vSt) (oL : Prop) (fL : Int32 × vSt × gX) (o11 : vSt → Prop) (f11 : vSt → Int32 × vSt) : Prop :=
  oL ∧ fL.2.1 = v ∧ o11 v ∧
  (∀ P : Prop, P → ∀ x5 : gX, x5 = fL.2.2 → (((fX11_thrown 461 (f11 v).2 : Int32) = fL.1 → (((fL.1 : Int32) = 0 → (((lg_cmp (x5.1 468 (0 : Int32).toNatClampNeg) ((f11 v).1.toInt64) : Int32) = 0 → P) ∧ (¬ (lg_cmp (x5.1 468 (0 : Int32).toNatClampNeg) ((f11 v).1.toInt64) : Int32) = 0 → False))) ∧ (¬ (fL.1 : Int32) = 0 → P))) ∧ (¬ (fX11_thrown 461 (f11 v).2 : Int32) = fL.1 → False))) ∧
  Inv (n + 1) m (f11 v).2 ∧ pot (f11 v).2 = pot v
section T42e
variable {n m : Nat} {v v4 v7 : vSt} {x : gX} {z b p p1 p2 p3 p4 : Int32} {code c0 : Nat} {cc : Nat → Int32} {P : Prop} {fL : Int32 × vSt × gX}
theorem LQ.mk {oL : Prop} {o11 : vSt → Prop} {f11 : vSt → Int32 × vSt} (hI : Inv n m v) (e : fL.2.1 = v ∧ fL.1 = cc code ∧ (code = 0 → fL.2.2 = xu x 468 (0 : Int32).toNatClampNeg z.toInt64)) (ok : OQ v code z (f11 v) (cc code)) (h0 : cc code = 0 → code = 0)
    (hoL : oL) (ho : o11 v) : LQ n m v oL fL o11 f11 :=
  ⟨hoL, e.1, ho, fun _ hP => law_tail (cc := cc) hP ok.1.2.2 ok.2 h0 e.2.1 e.2.2, hI.asked ok.1, ok.1.pot⟩
theorem nB_c : (fX10_needBlock 448 p v).1 = 0 ∨ (fX10_needBlock 448 p v).1 = 1 := by
  unfold fX10_needBlock
  by_cases h : fX2_hasBlock (rN (v 448 0) + 1) p v = 0
  · rw [if_pos h]; exact Or.inr rfl
  · rw [if_neg h]; exact Or.inl rfl

theorem c2_kindOf : (fX10_kindOf 448 p v).1 = 0 ∨ (fX10_kindOf 448 p v).1 = 1 := by
  unfold fX10_kindOf
  rcases nT_c (p := p) (v := v) with h | h
  · rw [if_pos h]; exact Or.inl rfl
  · rw [if_neg (by rw [h]; decide)]; exact Or.inr h
theorem LQ_kindOf (hI : Inv n m v) : LQ n m v (oL_kindOf 448 p 468 v x) (fL_kindOf 448 p 468 v x) (oX11_kindOf 461 p) (fX11_kindOf 461 p) := by
  obtain ⟨o1, o2, ok⟩ := t_kindOf (p := p) hI
  have hcd := c2_kindOf (p := p) (v := v)
  have e : (fL_kindOf 448 p 468 v x).2.1 = v ∧ (fL_kindOf 448 p 468 v x).1 = Int32.ofNat (fX10_kindOf 448 p v).1 ∧ ((fX10_kindOf 448 p v).1 = 0 → (fL_kindOf 448 p 468 v x).2.2 = xu x 468 (0 : Int32).toNatClampNeg ((fX10_kindOf 448 p v).2).toInt64) := by
    unfold fL_kindOf
    dsimp only
    rcases hcd with h | h
    · rw [if_pos h]; exact ⟨rfl, by rw [h]; rfl, fun _ => rfl⟩
    · rw [if_neg (by rw [h]; decide)]; exact ⟨rfl, by rw [h]; rfl, fun q => absurd q (by rw [h]; decide)⟩
  exact LQ.mk (cc := Int32.ofNat) hI e ok (cco_0 (hcd.imp id Or.inl)) ⟨o1, fun h0 => hcd.resolve_left h0⟩ o2

theorem c2_stepOf : (fX10_stepOf 448 p v).1 = 0 ∨ (fX10_stepOf 448 p v).1 = 1 := by
  unfold fX10_stepOf
  rcases nT_c (p := p) (v := v) with h | h
  · rw [if_pos h]; exact Or.inl rfl
  · rw [if_neg (by rw [h]; decide)]; exact Or.inr h
theorem LQ_stepOf (hI : Inv n m v) : LQ n m v (oL_stepOf 448 p 468 v x) (fL_stepOf 448 p 468 v x) (oX11_stepOf 461 p) (fX11_stepOf 461 p) := by
  obtain ⟨o1, o2, ok⟩ := t_stepOf (p := p) hI
  have hcd := c2_stepOf (p := p) (v := v)
  have e : (fL_stepOf 448 p 468 v x).2.1 = v ∧ (fL_stepOf 448 p 468 v x).1 = Int32.ofNat (fX10_stepOf 448 p v).1 ∧ ((fX10_stepOf 448 p v).1 = 0 → (fL_stepOf 448 p 468 v x).2.2 = xu x 468 (0 : Int32).toNatClampNeg ((fX10_stepOf 448 p v).2).toInt64) := by
    unfold fL_stepOf
    dsimp only
    rcases hcd with h | h
    · rw [if_pos h]; exact ⟨rfl, by rw [h]; rfl, fun _ => rfl⟩
    · rw [if_neg (by rw [h]; decide)]; exact ⟨rfl, by rw [h]; rfl, fun q => absurd q (by rw [h]; decide)⟩
  exact LQ.mk (cc := Int32.ofNat) hI e ok (cco_0 (hcd.imp id Or.inl)) ⟨o1, fun h0 => hcd.resolve_left h0⟩ o2

theorem c2_usesOf : (fX10_usesOf 448 p v).1 = 0 ∨ (fX10_usesOf 448 p v).1 = 1 := by
  unfold fX10_usesOf
  rcases nT_c (p := p) (v := v) with h | h
  · rw [if_pos h]; exact Or.inl rfl
  · rw [if_neg (by rw [h]; decide)]; exact Or.inr h
theorem LQ_usesOf (hI : Inv n m v) : LQ n m v (oL_usesOf 448 p 468 v x) (fL_usesOf 448 p 468 v x) (oX11_usesOf 461 p) (fX11_usesOf 461 p) := by
  obtain ⟨o1, o2, ok⟩ := t_usesOf (p := p) hI
  have hcd := c2_usesOf (p := p) (v := v)
  have e : (fL_usesOf 448 p 468 v x).2.1 = v ∧ (fL_usesOf 448 p 468 v x).1 = Int32.ofNat (fX10_usesOf 448 p v).1 ∧ ((fX10_usesOf 448 p v).1 = 0 → (fL_usesOf 448 p 468 v x).2.2 = xu x 468 (0 : Int32).toNatClampNeg ((fX10_usesOf 448 p v).2).toInt64) := by
    unfold fL_usesOf
    dsimp only
    rcases hcd with h | h
    · rw [if_pos h]; exact ⟨rfl, by rw [h]; rfl, fun _ => rfl⟩
    · rw [if_neg (by rw [h]; decide)]; exact ⟨rfl, by rw [h]; rfl, fun q => absurd q (by rw [h]; decide)⟩
  exact LQ.mk (cc := Int32.ofNat) hI e ok (cco_0 (hcd.imp id Or.inl)) ⟨o1, fun h0 => hcd.resolve_left h0⟩ o2

theorem c2_wearOf : (fX10_wearOf 448 p v).1 = 0 ∨ (fX10_wearOf 448 p v).1 = 1 := by
  unfold fX10_wearOf
  rcases nT_c (p := p) (v := v) with h | h
  · rw [if_pos h]; exact Or.inl rfl
  · rw [if_neg (by rw [h]; decide)]; exact Or.inr h
theorem LQ_wearOf (hI : Inv n m v) : LQ n m v (oL_wearOf 448 p 468 v x) (fL_wearOf 448 p 468 v x) (oX11_wearOf 461 p) (fX11_wearOf 461 p) := by
  obtain ⟨o1, o2, ok⟩ := t_wearOf (p := p) hI
  have hcd := c2_wearOf (p := p) (v := v)
  have e : (fL_wearOf 448 p 468 v x).2.1 = v ∧ (fL_wearOf 448 p 468 v x).1 = Int32.ofNat (fX10_wearOf 448 p v).1 ∧ ((fX10_wearOf 448 p v).1 = 0 → (fL_wearOf 448 p 468 v x).2.2 = xu x 468 (0 : Int32).toNatClampNeg ((fX10_wearOf 448 p v).2).toInt64) := by
    unfold fL_wearOf
    dsimp only
    rcases hcd with h | h
    · rw [if_pos h]; exact ⟨rfl, by rw [h]; rfl, fun _ => rfl⟩
    · rw [if_neg (by rw [h]; decide)]; exact ⟨rfl, by rw [h]; rfl, fun q => absurd q (by rw [h]; decide)⟩
  exact LQ.mk (cc := Int32.ofNat) hI e ok (cco_0 (hcd.imp id Or.inl)) ⟨o1, fun h0 => hcd.resolve_left h0⟩ o2

theorem c2_knownError : (fX10_knownError 448 p v).1 = 0 ∨ (fX10_knownError 448 p v).1 = 1 := by
  unfold fX10_knownError
  rcases nT_c (p := p) (v := v) with h | h
  · rw [if_pos h]; exact Or.inl rfl
  · rw [if_neg (by rw [h]; decide)]; exact Or.inr h
theorem LQ_knownError (hI : Inv n m v) : LQ n m v (oL_knownError 448 p 468 v x) (fL_knownError 448 p 468 v x) (oX11_knownError 461 p) (fX11_knownError 461 p) := by
  obtain ⟨o1, o2, ok⟩ := t_knownError (p := p) hI
  have hcd := c2_knownError (p := p) (v := v)
  have e : (fL_knownError 448 p 468 v x).2.1 = v ∧ (fL_knownError 448 p 468 v x).1 = Int32.ofNat (fX10_knownError 448 p v).1 ∧ ((fX10_knownError 448 p v).1 = 0 → (fL_knownError 448 p 468 v x).2.2 = xu x 468 (0 : Int32).toNatClampNeg ((fX10_knownError 448 p v).2).toInt64) := by
    unfold fL_knownError
    dsimp only
    rcases hcd with h | h
    · rw [if_pos h]; exact ⟨rfl, by rw [h]; rfl, fun _ => rfl⟩
    · rw [if_neg (by rw [h]; decide)]; exact ⟨rfl, by rw [h]; rfl, fun q => absurd q (by rw [h]; decide)⟩
  exact LQ.mk (cc := Int32.ofNat) hI e ok (cco_0 (hcd.imp id Or.inl)) ⟨o1, fun h0 => hcd.resolve_left h0⟩ o2

theorem c2_usesLeft : (fX10_usesLeft 448 p v).1 = 0 ∨ (fX10_usesLeft 448 p v).1 = 1 := by
  unfold fX10_usesLeft
  rcases nT_c (p := p) (v := v) with h | h
  · rw [if_pos h]; exact Or.inl rfl
  · rw [if_neg (by rw [h]; decide)]; exact Or.inr h
theorem LQ_usesLeft (hI : Inv n m v) : LQ n m v (oL_usesLeft 448 p 468 v x) (fL_usesLeft 448 p 468 v x) (oX11_usesLeft 461 p) (fX11_usesLeft 461 p) := by
  obtain ⟨o1, o2, ok⟩ := t_usesLeft (p := p) hI
  have hcd := c2_usesLeft (p := p) (v := v)
  have e : (fL_usesLeft 448 p 468 v x).2.1 = v ∧ (fL_usesLeft 448 p 468 v x).1 = Int32.ofNat (fX10_usesLeft 448 p v).1 ∧ ((fX10_usesLeft 448 p v).1 = 0 → (fL_usesLeft 448 p 468 v x).2.2 = xu x 468 (0 : Int32).toNatClampNeg ((fX10_usesLeft 448 p v).2).toInt64) := by
    unfold fL_usesLeft
    dsimp only
    rcases hcd with h | h
    · rw [if_pos h]; exact ⟨rfl, by rw [h]; rfl, fun _ => rfl⟩
    · rw [if_neg (by rw [h]; decide)]; exact ⟨rfl, by rw [h]; rfl, fun q => absurd q (by rw [h]; decide)⟩
  exact LQ.mk (cc := Int32.ofNat) hI e ok (cco_0 (hcd.imp id Or.inl)) ⟨o1, fun h0 => hcd.resolve_left h0⟩ o2

theorem c2_whyNotJudge : (fX10_whyNotJudge 448 p v).1 = 0 ∨ (fX10_whyNotJudge 448 p v).1 = 1 := by
  unfold fX10_whyNotJudge
  rcases nT_c (p := p) (v := v) with h | h
  · rw [if_pos h]; exact Or.inl rfl
  · rw [if_neg (by rw [h]; decide)]; exact Or.inr h
theorem LQ_whyNotJudge (hI : Inv n m v) : LQ n m v (oL_whyNotJudge 448 p 468 v x) (fL_whyNotJudge 448 p 468 v x) (oX11_whyNotJudge 461 p) (fX11_whyNotJudge 461 p) := by
  obtain ⟨o1, o2, ok⟩ := t_whyNotJudge (p := p) hI
  have hcd := c2_whyNotJudge (p := p) (v := v)
  have e : (fL_whyNotJudge 448 p 468 v x).2.1 = v ∧ (fL_whyNotJudge 448 p 468 v x).1 = Int32.ofNat (fX10_whyNotJudge 448 p v).1 ∧ ((fX10_whyNotJudge 448 p v).1 = 0 → (fL_whyNotJudge 448 p 468 v x).2.2 = xu x 468 (0 : Int32).toNatClampNeg ((fX10_whyNotJudge 448 p v).2).toInt64) := by
    unfold fL_whyNotJudge
    dsimp only
    rcases hcd with h | h
    · rw [if_pos h]; exact ⟨rfl, by rw [h]; rfl, fun _ => rfl⟩
    · rw [if_neg (by rw [h]; decide)]; exact ⟨rfl, by rw [h]; rfl, fun q => absurd q (by rw [h]; decide)⟩
  exact LQ.mk (cc := Int32.ofNat) hI e ok (cco_0 (hcd.imp id Or.inl)) ⟨o1, fun h0 => hcd.resolve_left h0⟩ o2

theorem c2_lengthOf : (fX10_lengthOf 448 p v).1 = 0 ∨ (fX10_lengthOf 448 p v).1 = 1 := by
  unfold fX10_lengthOf
  rcases nY_c (p := p) (v := v) with h | h
  · rw [if_pos h]; exact Or.inl rfl
  · rw [if_neg (by rw [h]; decide)]; exact Or.inr h
theorem LQ_lengthOf (hI : Inv n m v) : LQ n m v (oL_lengthOf 448 p 468 v x) (fL_lengthOf 448 p 468 v x) (oX11_lengthOf 461 p) (fX11_lengthOf 461 p) := by
  obtain ⟨o1, o2, ok⟩ := t_lengthOf (p := p) hI
  have hcd := c2_lengthOf (p := p) (v := v)
  have e : (fL_lengthOf 448 p 468 v x).2.1 = v ∧ (fL_lengthOf 448 p 468 v x).1 = Int32.ofNat (fX10_lengthOf 448 p v).1 ∧ ((fX10_lengthOf 448 p v).1 = 0 → (fL_lengthOf 448 p 468 v x).2.2 = xu x 468 (0 : Int32).toNatClampNeg ((fX10_lengthOf 448 p v).2).toInt64) := by
    unfold fL_lengthOf
    dsimp only
    rcases hcd with h | h
    · rw [if_pos h]; exact ⟨rfl, by rw [h]; rfl, fun _ => rfl⟩
    · rw [if_neg (by rw [h]; decide)]; exact ⟨rfl, by rw [h]; rfl, fun q => absurd q (by rw [h]; decide)⟩
  exact LQ.mk (cc := Int32.ofNat) hI e ok (cco_0 (hcd.imp id Or.inl)) ⟨o1, fun h0 => hcd.resolve_left h0⟩ o2

theorem c2_mannerOf : (fX10_mannerOf 448 p v).1 = 0 ∨ (fX10_mannerOf 448 p v).1 = 1 := by
  unfold fX10_mannerOf
  rcases nY_c (p := p) (v := v) with h | h
  · rw [if_pos h]; exact Or.inl rfl
  · rw [if_neg (by rw [h]; decide)]; exact Or.inr h
theorem LQ_mannerOf (hI : Inv n m v) : LQ n m v (oL_mannerOf 448 p 468 v x) (fL_mannerOf 448 p 468 v x) (oX11_mannerOf 461 p) (fX11_mannerOf 461 p) := by
  obtain ⟨o1, o2, ok⟩ := t_mannerOf (p := p) hI
  have hcd := c2_mannerOf (p := p) (v := v)
  have e : (fL_mannerOf 448 p 468 v x).2.1 = v ∧ (fL_mannerOf 448 p 468 v x).1 = Int32.ofNat (fX10_mannerOf 448 p v).1 ∧ ((fX10_mannerOf 448 p v).1 = 0 → (fL_mannerOf 448 p 468 v x).2.2 = xu x 468 (0 : Int32).toNatClampNeg ((fX10_mannerOf 448 p v).2).toInt64) := by
    unfold fL_mannerOf
    dsimp only
    rcases hcd with h | h
    · rw [if_pos h]; exact ⟨rfl, by rw [h]; rfl, fun _ => rfl⟩
    · rw [if_neg (by rw [h]; decide)]; exact ⟨rfl, by rw [h]; rfl, fun q => absurd q (by rw [h]; decide)⟩
  exact LQ.mk (cc := Int32.ofNat) hI e ok (cco_0 (hcd.imp id Or.inl)) ⟨o1, fun h0 => hcd.resolve_left h0⟩ o2

theorem c2_recordOf : (fX10_recordOf 448 p v).1 = 0 ∨ (fX10_recordOf 448 p v).1 = 1 := by
  unfold fX10_recordOf
  rcases nY_c (p := p) (v := v) with h | h
  · rw [if_pos h]; exact Or.inl rfl
  · rw [if_neg (by rw [h]; decide)]; exact Or.inr h
theorem LQ_recordOf (hI : Inv n m v) : LQ n m v (oL_recordOf 448 p 468 v x) (fL_recordOf 448 p 468 v x) (oX11_recordOf 461 p) (fX11_recordOf 461 p) := by
  obtain ⟨o1, o2, ok⟩ := t_recordOf (p := p) hI
  have hcd := c2_recordOf (p := p) (v := v)
  have e : (fL_recordOf 448 p 468 v x).2.1 = v ∧ (fL_recordOf 448 p 468 v x).1 = Int32.ofNat (fX10_recordOf 448 p v).1 ∧ ((fX10_recordOf 448 p v).1 = 0 → (fL_recordOf 448 p 468 v x).2.2 = xu x 468 (0 : Int32).toNatClampNeg ((fX10_recordOf 448 p v).2).toInt64) := by
    unfold fL_recordOf
    dsimp only
    rcases hcd with h | h
    · rw [if_pos h]; exact ⟨rfl, by rw [h]; rfl, fun _ => rfl⟩
    · rw [if_neg (by rw [h]; decide)]; exact ⟨rfl, by rw [h]; rfl, fun q => absurd q (by rw [h]; decide)⟩
  exact LQ.mk (cc := Int32.ofNat) hI e ok (cco_0 (hcd.imp id Or.inl)) ⟨o1, fun h0 => hcd.resolve_left h0⟩ o2

theorem c2_charted : (fX10_charted 448 p v).1 = 0 ∨ (fX10_charted 448 p v).1 = 1 := by
  unfold fX10_charted
  rcases nY_c (p := p) (v := v) with h | h
  · rw [if_pos h]; exact Or.inl rfl
  · rw [if_neg (by rw [h]; decide)]; exact Or.inr h
theorem LQ_charted (hI : Inv n m v) : LQ n m v (oL_charted 448 p 468 v x) (fL_charted 448 p 468 v x) (oX11_charted 461 p) (fX11_charted 461 p) := by
  obtain ⟨o1, o2, ok⟩ := t_charted (p := p) hI
  have hcd := c2_charted (p := p) (v := v)
  have e : (fL_charted 448 p 468 v x).2.1 = v ∧ (fL_charted 448 p 468 v x).1 = Int32.ofNat (fX10_charted 448 p v).1 ∧ ((fX10_charted 448 p v).1 = 0 → (fL_charted 448 p 468 v x).2.2 = xu x 468 (0 : Int32).toNatClampNeg ((fX10_charted 448 p v).2).toInt64) := by
    unfold fL_charted
    dsimp only
    rcases hcd with h | h
    · rw [if_pos h]; exact ⟨rfl, by rw [h]; rfl, fun _ => rfl⟩
    · rw [if_neg (by rw [h]; decide)]; exact ⟨rfl, by rw [h]; rfl, fun q => absurd q (by rw [h]; decide)⟩
  exact LQ.mk (cc := Int32.ofNat) hI e ok (cco_0 (hcd.imp id Or.inl)) ⟨o1, fun h0 => hcd.resolve_left h0⟩ o2

theorem c2_widthOf : (fX10_widthOf 448 p v).1 = 0 ∨ (fX10_widthOf 448 p v).1 = 1 := by
  unfold fX10_widthOf
  rcases nY_c (p := p) (v := v) with h | h
  · rw [if_pos h]; exact Or.inl rfl
  · rw [if_neg (by rw [h]; decide)]; exact Or.inr h
theorem LQ_widthOf (hI : Inv n m v) : LQ n m v (oL_widthOf 448 p 468 v x) (fL_widthOf 448 p 468 v x) (oX11_widthOf 461 p) (fX11_widthOf 461 p) := by
  obtain ⟨o1, o2, ok⟩ := t_widthOf (p := p) hI
  have hcd := c2_widthOf (p := p) (v := v)
  have e : (fL_widthOf 448 p 468 v x).2.1 = v ∧ (fL_widthOf 448 p 468 v x).1 = Int32.ofNat (fX10_widthOf 448 p v).1 ∧ ((fX10_widthOf 448 p v).1 = 0 → (fL_widthOf 448 p 468 v x).2.2 = xu x 468 (0 : Int32).toNatClampNeg ((fX10_widthOf 448 p v).2).toInt64) := by
    unfold fL_widthOf
    dsimp only
    rcases hcd with h | h
    · rw [if_pos h]; exact ⟨rfl, by rw [h]; rfl, fun _ => rfl⟩
    · rw [if_neg (by rw [h]; decide)]; exact ⟨rfl, by rw [h]; rfl, fun q => absurd q (by rw [h]; decide)⟩
  exact LQ.mk (cc := Int32.ofNat) hI e ok (cco_0 (hcd.imp id Or.inl)) ⟨o1, fun h0 => hcd.resolve_left h0⟩ o2

theorem c2_badOf : (fX10_badOf 448 p v).1 = 0 ∨ (fX10_badOf 448 p v).1 = 1 := by
  unfold fX10_badOf
  rcases nY_c (p := p) (v := v) with h | h
  · rw [if_pos h]; exact Or.inl rfl
  · rw [if_neg (by rw [h]; decide)]; exact Or.inr h
theorem LQ_badOf (hI : Inv n m v) : LQ n m v (oL_badOf 448 p 468 v x) (fL_badOf 448 p 468 v x) (oX11_badOf 461 p) (fX11_badOf 461 p) := by
  obtain ⟨o1, o2, ok⟩ := t_badOf (p := p) hI
  have hcd := c2_badOf (p := p) (v := v)
  have e : (fL_badOf 448 p 468 v x).2.1 = v ∧ (fL_badOf 448 p 468 v x).1 = Int32.ofNat (fX10_badOf 448 p v).1 ∧ ((fX10_badOf 448 p v).1 = 0 → (fL_badOf 448 p 468 v x).2.2 = xu x 468 (0 : Int32).toNatClampNeg ((fX10_badOf 448 p v).2).toInt64) := by
    unfold fL_badOf
    dsimp only
    rcases hcd with h | h
    · rw [if_pos h]; exact ⟨rfl, by rw [h]; rfl, fun _ => rfl⟩
    · rw [if_neg (by rw [h]; decide)]; exact ⟨rfl, by rw [h]; rfl, fun q => absurd q (by rw [h]; decide)⟩
  exact LQ.mk (cc := Int32.ofNat) hI e ok (cco_0 (hcd.imp id Or.inl)) ⟨o1, fun h0 => hcd.resolve_left h0⟩ o2

theorem c2_blockLength : (fX10_blockLength 448 p v).1 = 0 ∨ (fX10_blockLength 448 p v).1 = 1 := by
  unfold fX10_blockLength
  rcases nB_c (p := p) (v := v) with h | h
  · rw [if_pos h]; exact Or.inl rfl
  · rw [if_neg (by rw [h]; decide)]; exact Or.inr h
theorem LQ_blockLength (hI : Inv n m v) : LQ n m v (oL_blockLength 448 p 468 v x) (fL_blockLength 448 p 468 v x) (oX11_blockLength 461 p) (fX11_blockLength 461 p) := by
  obtain ⟨o1, o2, ok⟩ := t_blockLength (p := p) hI
  have hcd := c2_blockLength (p := p) (v := v)
  have e : (fL_blockLength 448 p 468 v x).2.1 = v ∧ (fL_blockLength 448 p 468 v x).1 = Int32.ofNat (fX10_blockLength 448 p v).1 ∧ ((fX10_blockLength 448 p v).1 = 0 → (fL_blockLength 448 p 468 v x).2.2 = xu x 468 (0 : Int32).toNatClampNeg ((fX10_blockLength 448 p v).2).toInt64) := by
    unfold fL_blockLength
    dsimp only
    rcases hcd with h | h
    · rw [if_pos h]; exact ⟨rfl, by rw [h]; rfl, fun _ => rfl⟩
    · rw [if_neg (by rw [h]; decide)]; exact ⟨rfl, by rw [h]; rfl, fun q => absurd q (by rw [h]; decide)⟩
  exact LQ.mk (cc := Int32.ofNat) hI e ok (cco_0 (hcd.imp id Or.inl)) ⟨o1, fun h0 => hcd.resolve_left h0⟩ o2

theorem c2_blockError : (fX10_blockError 448 p v).1 = 0 ∨ (fX10_blockError 448 p v).1 = 1 := by
  unfold fX10_blockError
  rcases nB_c (p := p) (v := v) with h | h
  · rw [if_pos h]; exact Or.inl rfl
  · rw [if_neg (by rw [h]; decide)]; exact Or.inr h
theorem LQ_blockError (hI : Inv n m v) : LQ n m v (oL_blockError 448 p 468 v x) (fL_blockError 448 p 468 v x) (oX11_blockError 461 p) (fX11_blockError 461 p) := by
  obtain ⟨o1, o2, ok⟩ := t_blockError (p := p) hI
  have hcd := c2_blockError (p := p) (v := v)
  have e : (fL_blockError 448 p 468 v x).2.1 = v ∧ (fL_blockError 448 p 468 v x).1 = Int32.ofNat (fX10_blockError 448 p v).1 ∧ ((fX10_blockError 448 p v).1 = 0 → (fL_blockError 448 p 468 v x).2.2 = xu x 468 (0 : Int32).toNatClampNeg ((fX10_blockError 448 p v).2).toInt64) := by
    unfold fL_blockError
    dsimp only
    rcases hcd with h | h
    · rw [if_pos h]; exact ⟨rfl, by rw [h]; rfl, fun _ => rfl⟩
    · rw [if_neg (by rw [h]; decide)]; exact ⟨rfl, by rw [h]; rfl, fun q => absurd q (by rw [h]; decide)⟩
  exact LQ.mk (cc := Int32.ofNat) hI e ok (cco_0 (hcd.imp id Or.inl)) ⟨o1, fun h0 => hcd.resolve_left h0⟩ o2

end T42e
