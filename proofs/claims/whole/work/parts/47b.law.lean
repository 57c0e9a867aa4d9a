/-! THE PLAIN PART 18b: the questions' cases of the law that were wanting. -/
/-- a question that is answered yes or no -/
def LB (n m : Nat) (v : vSt) (oL : Prop) (fL : Int32 × vSt × gX) (o11 : vSt → Prop) (f11 : vSt → Int32 × vSt) : Prop :=
  oL ∧ fL.2.1 = v ∧ o11 v ∧
  (∀ P : Prop, P → ∀ x5 : gX, x5 = fL.2.2 → (((fX11_thrown 461 (f11 v).2 : Int32) = fL.1 → (((fL.1 : Int32) = 0 → ((((f11 v).1 : Int32) = 0 → (((lg_cmp (x5.1 468 (0 : Int32).toNatClampNeg) 0 : Int32) = 0 → P) ∧ (¬ (lg_cmp (x5.1 468 (0 : Int32).toNatClampNeg) 0 : Int32) = 0 → False))) ∧ (¬ ((f11 v).1 : Int32) = 0 → (((lg_cmp (x5.1 468 (0 : Int32).toNatClampNeg) 1 : Int32) = 0 → P) ∧ (¬ (lg_cmp (x5.1 468 (0 : Int32).toNatClampNeg) 1 : Int32) = 0 → False))))) ∧ (¬ (fL.1 : Int32) = 0 → P))) ∧ (¬ (fX11_thrown 461 (f11 v).2 : Int32) = fL.1 → False))) ∧
  Inv (n + 1) m (f11 v).2 ∧ pot (f11 v).2 = pot v
/-- a question that is answered by a float -/
def LF (n m : Nat) (v : vSt) (oL : Prop) (fL : Int32 × vSt × gX) (o11 : vSt → Prop) (f11 : vSt → UInt32 × vSt) : Prop :=
  oL ∧ fL.2.1 = v ∧ o11 v ∧
  (∀ P : Prop, P → ∀ x5 : gX, x5 = fL.2.2 → (((fX11_thrown 461 (f11 v).2 : Int32) = fL.1 → (((fL.1 : Int32) = 0 → ((vf_n64 (FP.f2d ((f11 v).1))) ∧ (((Op.cmpValue (FP.dcmp (x5.2 (0 : Int32).toNatClampNeg) (FP.f2d ((f11 v).1))) .l : Int32) = 0 → P) ∧ (¬ (Op.cmpValue (FP.dcmp (x5.2 (0 : Int32).toNatClampNeg) (FP.f2d ((f11 v).1))) .l : Int32) = 0 → False)))) ∧ (¬ (fL.1 : Int32) = 0 → P))) ∧ (¬ (fX11_thrown 461 (f11 v).2 : Int32) = fL.1 → False))) ∧
  Inv (n + 1) m (f11 v).2 ∧ pot (f11 v).2 = pot v
section T47b
variable {n m : Nat} {v v4 v7 : vSt} {x : gX} {z b p p1 p2 p3 p4 : Int32} {code c0 : Nat} {cc : Nat → Int32} {P : Prop} {fL : Int32 × vSt × gX}
theorem LB.mk {oL : Prop} {o11 : vSt → Prop} {f11 : vSt → Int32 × vSt} (hI : Inv n m v) (e : fL.2.1 = v ∧ fL.1 = cc code ∧ (code = 0 → fL.2.2 = xu x 468 (0 : Int32).toNatClampNeg (if z = 0 then 0 else 1))) (ok : OQ v code z (f11 v) (cc code)) (h0 : cc code = 0 → code = 0)
    (hoL : oL) (ho : o11 v) : LB n m v oL fL o11 f11 := by
  refine ⟨hoL, e.1, ho, fun P hP x5 e5 => ?_, hI.asked ok.1, ok.1.pot⟩
  have ht : (fX11_thrown 461 (f11 v).2 : Int32) = fL.1 := by rw [e.2.1, ← ok.1.2.2]; rfl
  refine ⟨fun _ => ⟨fun hc => ?_, fun _ => hP⟩, fun q => absurd ht q⟩
  have hc0 := h0 (by rw [← e.2.1]; exact hc)
  have hz := ok.2 hc0
  have ex : x5.1 468 (0 : Int32).toNatClampNeg = if z = 0 then 0 else 1 := by
    rw [e5, e.2.2 hc0]
    unfold xu
    simp
  rw [ex, hz]
  refine ⟨fun q => ?_, fun q => ?_⟩
  · rw [if_pos q]
    exact ⟨fun _ => hP, fun r => absurd (lg_self _) r⟩
  · rw [if_neg q]
    exact ⟨fun _ => hP, fun r => absurd (lg_self _) r⟩
theorem LF.mk {z : UInt32} {oL : Prop} {o11 : vSt → Prop} {f11 : vSt → UInt32 × vSt} (hI : Inv n m v) (e : fL.2.1 = v ∧ fL.1 = cc code ∧ (code = 0 → fL.2.2 = xd x (0 : Int32).toNatClampNeg (FP.f2d z))) (ok : OF v code z (f11 v) (cc code)) (h0 : cc code = 0 → code = 0)
    (hoL : oL) (ho : o11 v) : LF n m v oL fL o11 f11 := by
  refine ⟨hoL, e.1, ho, fun P hP x5 e5 => ?_, hI.asked ok.1, ok.1.pot⟩
  have ht : (fX11_thrown 461 (f11 v).2 : Int32) = fL.1 := by rw [e.2.1, ← ok.1.2.2]; rfl
  refine ⟨fun _ => ⟨fun hc => ?_, fun _ => hP⟩, fun q => absurd ht q⟩
  have hc0 := h0 (by rw [← e.2.1]; exact hc)
  obtain ⟨hz, hv⟩ := ok.2 hc0
  have ex : x5.2 (0 : Int32).toNatClampNeg = FP.f2d z := by
    rw [e5, e.2.2 hc0]
    unfold xd
    simp
  have hv2 := f2_n hv
  rw [ex, ← hz]
  exact ⟨hv2, fun _ => hP, fun r => absurd (dc_0 hv2) r⟩
theorem LQ_stretchOf (hI : Inv n m v) : LQ n m v (oL_stretchOf 448 p p2 468 v x) (fL_stretchOf 448 p p2 468 v x) (oX11_stretchOf 461 p p2) (fX11_stretchOf 461 p p2) := by
  obtain ⟨o1, o2, ok⟩ := t_stretchOf (p := p) (p2 := p2) hI
  have hcd : (fX10_stretchOf 448 p p2 v).1 = 0 ∨ (fX10_stretchOf 448 p p2 v).1 = 1 := by
    unfold fX10_stretchOf
    repeat' split
    all_goals first | exact Or.inl rfl | exact Or.inr rfl
  have e : (fL_stretchOf 448 p p2 468 v x).2.1 = v ∧ (fL_stretchOf 448 p p2 468 v x).1 = Int32.ofNat (fX10_stretchOf 448 p p2 v).1 ∧ ((fX10_stretchOf 448 p p2 v).1 = 0 → (fL_stretchOf 448 p p2 468 v x).2.2 = xu x 468 (0 : Int32).toNatClampNeg ((fX10_stretchOf 448 p p2 v).2).toInt64) := by
    unfold fL_stretchOf
    dsimp only
    rcases hcd with h | h
    · rw [if_pos h]; exact ⟨rfl, by rw [h]; rfl, fun _ => rfl⟩
    · rw [if_neg (by rw [h]; decide)]; exact ⟨rfl, by rw [h]; rfl, fun q => absurd q (by rw [h]; decide)⟩
  exact LQ.mk (cc := Int32.ofNat) hI e ok (cco_0 (hcd.imp id Or.inl)) ⟨o1, fun h0 => hcd.resolve_left h0⟩ o2
theorem LQ_bestTool (hI : Inv n m v) : LQ n m v (oL_bestTool 448 468 v x) (fL_bestTool 448 468 v x) (oX11_bestTool 461) (fX11_bestTool 461) := by
  obtain ⟨o1, o2, hcd, ok⟩ := t_bestTool hI
  have e : (fL_bestTool 448 468 v x).2.1 = v ∧ (fL_bestTool 448 468 v x).1 = cc1 (fX10_bestTool 448 v).1 ∧ ((fX10_bestTool 448 v).1 = 0 → (fL_bestTool 448 468 v x).2.2 = xu x 468 (0 : Int32).toNatClampNeg ((fX10_bestTool 448 v).2).toInt64) := by
    unfold fL_bestTool
    dsimp only
    rcases hcd with h | h
    · rw [if_pos h]; exact ⟨rfl, by rw [h]; rfl, fun _ => rfl⟩
    · rw [if_neg (by rw [h]; decide)]; exact ⟨rfl, by rw [h]; rfl, fun q => absurd q (by rw [h]; decide)⟩
  exact LQ.mk (cc := cc1) hI e ok cc1_0 ⟨o1, fun h0 => hcd.resolve_left h0⟩ o2
theorem LQ_signalsOf (hI : Inv n m v) : LQ n m v (oL_signalsOf 448 p 468 v x) (fL_signalsOf 448 p 468 v x) (oX11_signalsOf 461 p) (fX11_signalsOf 461 p) := by
  obtain ⟨o1, o2, ok⟩ := t_signalsOf (p := p) hI
  have hcd : (fX10_signalsOf 448 p v).1 = 0 ∨ (fX10_signalsOf 448 p v).1 = 1 := by
    unfold fX10_signalsOf
    rcases nY_c (p := p) (v := v) with h | h
    · rw [if_pos h]; exact Or.inl rfl
    · rw [if_neg (by rw [h]; decide)]; exact Or.inr h
  have e : (fL_signalsOf 448 p 468 v x).2.1 = v ∧ (fL_signalsOf 448 p 468 v x).1 = Int32.ofNat (fX10_signalsOf 448 p v).1 ∧ ((fX10_signalsOf 448 p v).1 = 0 → (fL_signalsOf 448 p 468 v x).2.2 = xu x 468 (0 : Int32).toNatClampNeg ((fX10_signalsOf 448 p v).2).toInt64) := by
    unfold fL_signalsOf
    dsimp only
    rcases hcd with h | h
    · rw [if_pos h]; exact ⟨rfl, by rw [h]; rfl, fun _ => rfl⟩
    · rw [if_neg (by rw [h]; decide)]; exact ⟨rfl, by rw [h]; rfl, fun q => absurd q (by rw [h]; decide)⟩
  exact LQ.mk (cc := Int32.ofNat) hI e ok (cco_0 (hcd.imp id Or.inl)) ⟨o1, fun h0 => hcd.resolve_left h0⟩ o2
theorem LQ_readingByLooking (hI : Inv n m v) : LQ n m v (oL_readingByLooking 448 p p2 p3 468 v x) (fL_readingByLooking 448 p p2 p3 468 v x) (oX11_readingByLooking 461 p p2 p3) (fX11_readingByLooking 461 p p2 p3) := by
  obtain ⟨o1, o2, ok⟩ := t_readingByLooking (p := p) (p2 := p2) (p3 := p3) hI
  have hcd : (fX10_readingByLooking 448 p p2 p3 v).1 = 0 ∨ (fX10_readingByLooking 448 p p2 p3 v).1 = 1 ∨ (fX10_readingByLooking 448 p p2 p3 v).1 = 3 := by
    unfold fX10_readingByLooking
    rcases rdg (p := p) (p2 := p2) (p3 := p3) hI with ⟨e, _⟩ | ⟨e, _⟩ | ⟨_, e, _⟩ <;> rw [e]
    · exact Or.inr (Or.inl rfl)
    · exact Or.inr (Or.inr rfl)
    · rw [if_pos rfl]
      rcases nT_c (p := p) (v := v) with h | h
      · rw [if_pos h]; exact Or.inl rfl
      · rw [if_neg (by rw [h]; decide)]; exact Or.inr (Or.inl h)
  have e : (fL_readingByLooking 448 p p2 p3 468 v x).2.1 = v ∧ (fL_readingByLooking 448 p p2 p3 468 v x).1 = cc3 (fX10_readingByLooking 448 p p2 p3 v).1 ∧ ((fX10_readingByLooking 448 p p2 p3 v).1 = 0 → (fL_readingByLooking 448 p p2 p3 468 v x).2.2 = xu x 468 (0 : Int32).toNatClampNeg ((fX10_readingByLooking 448 p p2 p3 v).2).toInt64) := by
    unfold fL_readingByLooking
    dsimp only
    rcases hcd with h | h | h
    · rw [if_pos h]; exact ⟨rfl, by rw [h]; rfl, fun _ => rfl⟩
    · rw [if_neg (by rw [h]; decide), if_pos h]; exact ⟨rfl, by rw [h]; rfl, fun q => absurd q (by rw [h]; decide)⟩
    · rw [if_neg (by rw [h]; decide), if_neg (by rw [h]; decide)]; exact ⟨rfl, by rw [h]; rfl, fun q => absurd q (by rw [h]; decide)⟩
  exact LQ.mk (cc := cc3) hI e ok (cc3_0 hcd) ⟨o1, fun h0 h1 => (hcd.resolve_left h0).resolve_left h1⟩ o2
theorem LQ_spreadOf (hI : Inv n m v) : LQ n m v (oL_spreadOf 448 p 468 v x) (fL_spreadOf 448 p 468 v x) (oX11_spreadOf 461 p) (fX11_spreadOf 461 p) := by
  obtain ⟨o1, o2, ok⟩ := t_spreadOf (p := p) hI
  have hcd : (fX10_spreadOf 448 p v).1 = 0 ∨ (fX10_spreadOf 448 p v).1 = 1 ∨ (fX10_spreadOf 448 p v).1 = 3 := by
    unfold fX10_spreadOf
    rcases nC_c (p := p) hI with h | h
    · rw [if_pos h]; exact Or.inl rfl
    · rw [if_neg (by rcases h with h | h <;> rw [h] <;> decide)]; exact Or.inr h
  have e : (fL_spreadOf 448 p 468 v x).2.1 = v ∧ (fL_spreadOf 448 p 468 v x).1 = cc3 (fX10_spreadOf 448 p v).1 ∧ ((fX10_spreadOf 448 p v).1 = 0 → (fL_spreadOf 448 p 468 v x).2.2 = xu x 468 (0 : Int32).toNatClampNeg ((fX10_spreadOf 448 p v).2).toInt64) := by
    unfold fL_spreadOf
    dsimp only
    rcases hcd with h | h | h
    · rw [if_pos h]; exact ⟨rfl, by rw [h]; rfl, fun _ => rfl⟩
    · rw [if_neg (by rw [h]; decide), if_pos h]; exact ⟨rfl, by rw [h]; rfl, fun q => absurd q (by rw [h]; decide)⟩
    · rw [if_neg (by rw [h]; decide), if_neg (by rw [h]; decide)]; exact ⟨rfl, by rw [h]; rfl, fun q => absurd q (by rw [h]; decide)⟩
  exact LQ.mk (cc := cc3) hI e ok (cc3_0 hcd) ⟨o1, fun h0 h1 => (hcd.resolve_left h0).resolve_left h1⟩ o2
theorem LQ_fewestBlocks (hI : Inv n m v) : LQ n m v (oL_fewestBlocks 448 p 468 v x) (fL_fewestBlocks 448 p 468 v x) (oX11_fewestBlocks 461 p) (fX11_fewestBlocks 461 p) := by
  obtain ⟨o1, o2, ok⟩ := t_fewestBlocks (p := p) hI x
  have hcd : (fX10_fewestBlocks 448 p v x).1 = 0 ∨ (fX10_fewestBlocks 448 p v x).1 = 1 ∨ (fX10_fewestBlocks 448 p v x).1 = 3 := by
    unfold fX10_fewestBlocks fX10_needStackLength
    dsimp only
    by_cases h1 : fX10_inRange p 1 15000 = 0
    · rw [if_pos h1, if_neg (by decide)]; exact Or.inr (Or.inl rfl)
    · rw [if_neg h1, if_pos rfl]
      split
      · exact Or.inr (Or.inr rfl)
      · exact Or.inl rfl
  have e : (fL_fewestBlocks 448 p 468 v x).2.1 = v ∧ (fL_fewestBlocks 448 p 468 v x).1 = cc3 (fX10_fewestBlocks 448 p v x).1 ∧ ((fX10_fewestBlocks 448 p v x).1 = 0 → (fL_fewestBlocks 448 p 468 v x).2.2 = xu (fX10_fewestBlocks 448 p v x).2.2 468 (0 : Int32).toNatClampNeg ((fX10_fewestBlocks 448 p v x).2.1).toInt64) := by
    unfold fL_fewestBlocks
    dsimp only
    rcases hcd with h | h | h
    · rw [if_pos h]; exact ⟨rfl, by rw [h]; rfl, fun _ => rfl⟩
    · rw [if_neg (by rw [h]; decide), if_pos h]; exact ⟨rfl, by rw [h]; rfl, fun q => absurd q (by rw [h]; decide)⟩
    · rw [if_neg (by rw [h]; decide), if_neg (by rw [h]; decide)]; exact ⟨rfl, by rw [h]; rfl, fun q => absurd q (by rw [h]; decide)⟩
  exact LQ.mk (cc := cc3) hI e ok (cc3_0 hcd) ⟨o1, fun h0 x3 _ h1 => (hcd.resolve_left h0).resolve_left h1⟩ o2
theorem LB_isDue (hI : Inv n m v) : LB n m v (oL_isDue 448 p 468 v x) (fL_isDue 448 p 468 v x) (oX11_isDue 461 p) (fX11_isDue 461 p) := by
  obtain ⟨o1, o2, ok⟩ := t_isDue (p := p) hI
  have hcd : (fX10_isDue 448 p v).1 = 0 ∨ (fX10_isDue 448 p v).1 = 1 := by
    unfold fX10_isDue
    rcases nT_c (p := p) (v := v) with h | h
    · rw [if_pos h]; exact Or.inl rfl
    · rw [if_neg (by rw [h]; decide)]; exact Or.inr h
  have e : (fL_isDue 448 p 468 v x).2.1 = v ∧ (fL_isDue 448 p 468 v x).1 = Int32.ofNat (fX10_isDue 448 p v).1 ∧ ((fX10_isDue 448 p v).1 = 0 → (fL_isDue 448 p 468 v x).2.2 = xu x 468 (0 : Int32).toNatClampNeg (if (fX10_isDue 448 p v).2 = 0 then 0 else 1)) := by
    unfold fL_isDue
    dsimp only
    rcases hcd with h | h
    · rw [if_pos h]
      by_cases z : (fX10_isDue 448 p v).2 = 0
      · rw [if_pos z, if_pos z]; exact ⟨rfl, by rw [h]; rfl, fun _ => rfl⟩
      · rw [if_neg z, if_neg z]; exact ⟨rfl, by rw [h]; rfl, fun _ => rfl⟩
    · rw [if_neg (by rw [h]; decide)]; exact ⟨rfl, by rw [h]; rfl, fun q => absurd q (by rw [h]; decide)⟩
  exact LB.mk (cc := Int32.ofNat) hI e ok (cco_0 (hcd.imp id Or.inl)) ⟨o1, fun h0 => hcd.resolve_left h0⟩ o2
theorem LB_wasDoubted (hI : Inv n m v) : LB n m v (oL_wasDoubted 448 p 468 v x) (fL_wasDoubted 448 p 468 v x) (oX11_wasDoubted 461 p) (fX11_wasDoubted 461 p) := by
  obtain ⟨o1, o2, ok⟩ := t_wasDoubted (p := p) hI
  have hcd : (fX10_wasDoubted 448 p v).1 = 0 ∨ (fX10_wasDoubted 448 p v).1 = 1 ∨ (fX10_wasDoubted 448 p v).1 = 3 := by
    unfold fX10_wasDoubted
    by_cases h : fX10_needPlace p (v (rN (v 448 0) + 2 + 4) 3) v = 0
    · rw [if_pos h]; exact Or.inl rfl
    · rw [if_neg h]; exact np_c (v := v)
  have e : (fL_wasDoubted 448 p 468 v x).2.1 = v ∧ (fL_wasDoubted 448 p 468 v x).1 = cc3 (fX10_wasDoubted 448 p v).1 ∧ ((fX10_wasDoubted 448 p v).1 = 0 → (fL_wasDoubted 448 p 468 v x).2.2 = xu x 468 (0 : Int32).toNatClampNeg (if (fX10_wasDoubted 448 p v).2 = 0 then 0 else 1)) := by
    unfold fL_wasDoubted
    dsimp only
    rcases hcd with h | h | h
    · rw [if_pos h]
      by_cases z : (fX10_wasDoubted 448 p v).2 = 0
      · rw [if_pos z, if_pos z]; exact ⟨rfl, by rw [h]; rfl, fun _ => rfl⟩
      · rw [if_neg z, if_neg z]; exact ⟨rfl, by rw [h]; rfl, fun _ => rfl⟩
    · rw [if_neg (by rw [h]; decide), if_pos h]; exact ⟨rfl, by rw [h]; rfl, fun q => absurd q (by rw [h]; decide)⟩
    · rw [if_neg (by rw [h]; decide), if_neg (by rw [h]; decide)]; exact ⟨rfl, by rw [h]; rfl, fun q => absurd q (by rw [h]; decide)⟩
  exact LB.mk (cc := cc3) hI e ok (cc3_0 hcd) ⟨o1, fun h0 h1 => (hcd.resolve_left h0).resolve_left h1⟩ o2
theorem LF_meanOf (hI : Inv n m v) : LF n m v (oL_meanOf 448 p 469 v x) (fL_meanOf 448 p 469 v x) (oX11_meanOf 461 p) (fX11_meanOf 461 p) := by
  obtain ⟨o1, o2, ok⟩ := t_meanOf (p := p) hI
  have hcd : (fX10_meanOf 448 p v).1 = 0 ∨ (fX10_meanOf 448 p v).1 = 1 ∨ (fX10_meanOf 448 p v).1 = 3 := by
    unfold fX10_meanOf
    rcases nC_c (p := p) hI with h | h
    · rw [if_pos h]; exact Or.inl rfl
    · rw [if_neg (by rcases h with h | h <;> rw [h] <;> decide)]; exact Or.inr h
  have e : (fL_meanOf 448 p 469 v x).2.1 = v ∧ (fL_meanOf 448 p 469 v x).1 = cc3 (fX10_meanOf 448 p v).1 ∧ ((fX10_meanOf 448 p v).1 = 0 → (fL_meanOf 448 p 469 v x).2.2 = xd x (0 : Int32).toNatClampNeg (FP.f2d (fX10_meanOf 448 p v).2)) := by
    unfold fL_meanOf
    dsimp only
    rcases hcd with h | h | h
    · rw [if_pos h]; exact ⟨rfl, by rw [h]; rfl, fun _ => rfl⟩
    · rw [if_neg (by rw [h]; decide), if_pos h]; exact ⟨rfl, by rw [h]; rfl, fun q => absurd q (by rw [h]; decide)⟩
    · rw [if_neg (by rw [h]; decide), if_neg (by rw [h]; decide)]; exact ⟨rfl, by rw [h]; rfl, fun q => absurd q (by rw [h]; decide)⟩
  exact LF.mk (cc := cc3) hI e ok (cc3_0 hcd) ⟨o1, fun h0 => f2_n (ok.2 h0).2, fun h0 h1 => (hcd.resolve_left h0).resolve_left h1⟩ o2
theorem LF_goodShare (hI : Inv n m v) : LF n m v (oL_goodShare 448 469 v x) (fL_goodShare 448 469 v x) (oX11_goodShare 461) (fX11_goodShare 461) := by
  obtain ⟨o1, o2, ok⟩ := t_goodShare hI
  have hcd : (fX10_goodShare 448 v).1 = 0 ∨ (fX10_goodShare 448 v).1 = 3 := by
    unfold fX10_goodShare
    split
    · exact Or.inl rfl
    · exact Or.inr rfl
  have e : (fL_goodShare 448 469 v x).2.1 = v ∧ (fL_goodShare 448 469 v x).1 = cc1 (fX10_goodShare 448 v).1 ∧ ((fX10_goodShare 448 v).1 = 0 → (fL_goodShare 448 469 v x).2.2 = xd x (0 : Int32).toNatClampNeg (FP.f2d (fX10_goodShare 448 v).2)) := by
    unfold fL_goodShare
    dsimp only
    rcases hcd with h | h
    · rw [if_pos h]; exact ⟨rfl, by rw [h]; rfl, fun _ => rfl⟩
    · rw [if_neg (by rw [h]; decide)]; exact ⟨rfl, by rw [h]; rfl, fun q => absurd q (by rw [h]; decide)⟩
  exact LF.mk (cc := cc1) hI e ok cc1_0 ⟨o1, fun h0 => f2_n (ok.2 h0).2, fun h0 => hcd.resolve_left h0⟩ o2
end T47b
