/-! THE PLAIN PART 12e: questions about stacks; how many good until a change. -/
section T41e
variable {n m : Nat} {v w : vSt} {A : Ar} {z k p p2 p3 c y : Int32}
def STK (v : vSt) (p : Int32) : Prop :=
  (fX10_needStack 448 p v = (1, 0) ∧ fX11_toldStack 461 p v = (0, u2 v 461 8 1)) ∨
  (fX10_needStack 448 p v = (3, 0) ∧ fX11_toldStack 461 p v = (0, u2 (u2 v 461 8 0) 461 8 2)) ∨
  (fX10_needStack 448 p v = (0, sStack (v 462) p) ∧ fX11_toldStack 461 p v = (sStack (v 462) p, u2 v 461 8 0))
theorem stk (hI : Inv n m v) : STK v p := by
  have ec : fX2_stack (rN (v 448 0) + 1) p v = sStack (v 462) p := c_stack hI.sr.1.2.1 hI.wf.1.2.1 hI.sr.2.2.2.1
  have em : fX11_stack 461 p (u2 v 461 8 0) = sStack (v 462) p := by
    rw [m_stack, k462]
    rfl
  unfold STK fX10_needStack fX11_toldStack fX10_needStackLength
  rw [in_rng, ec]
  dsimp only
  by_cases h1 : fX11_in p 1 15000 = 0
  · refine Or.inl ⟨?_, ?_⟩
    · rw [if_pos h1, if_neg (by decide)]
    · rw [asks_0 h1, if_pos h1]
  rw [if_neg h1, asks_1 h1, if_neg h1, if_pos rfl]
  dsimp only
  rw [em]
  by_cases h2 : sStack (v 462) p = 0
  · rw [if_pos h2, if_pos h2]
    exact Or.inr (Or.inl ⟨rfl, rfl⟩)
  · rw [if_neg h2, if_neg h2]
    exact Or.inr (Or.inr ⟨rfl, rfl⟩)
theorem hhd (hI : Inv n m v) : 0 ≤ (v (rN (v 448 0) + 1) 2).toInt ∧ (v (rN (v 448 0) + 1) 2).toInt ≤ 6 ∧ 0 ≤ (v (rN (v 448 0) + 1) 3).toInt ∧ (v (rN (v 448 0) + 1) 3).toInt ≤ 10 := by
  rw [hI.sr.1.1, hI.sr.1.2.1]
  have h1 := hI.wf.1.1
  have h2 := hI.wf.1.2.1
  exact ⟨h1.1, by have := h1.2; omega, h2.1, by have := h2.2; omega⟩
theorem stk_o10 (hI : Inv n m v) : oX10_needStack 448 p v := fun _ => ⟨hI.1.1.1, hhd hI⟩
theorem stk_o11 (hI : Inv n m v) : oX11_toldStack 461 p v := ⟨asks_o in01, fun v2 e2 _ => mo_stack (by rw [e2, ak462]; exact hI.wf.1.2.1)⟩
theorem t_stackFor (hI : Inv n m v) : oX10_stackFor 448 p v ∧ oX11_stackFor 461 p v ∧ OQ v (fX10_stackFor 448 p v).1 (fX10_stackFor 448 p v).2 (fX11_stackFor 461 p v) (cc3 (fX10_stackFor 448 p v).1) := by
  refine ⟨stk_o10 hI, stk_o11 hI, ?_⟩
  unfold fX10_stackFor fX11_stackFor
  rcases stk (p := p) hI with ⟨e1, e2⟩ | ⟨e1, e2⟩ | ⟨e1, e2⟩
  · rw [e1, e2, if_neg (show ¬ (1 : Nat) = 0 by decide)]
    exact ⟨qs_u2, fun q => absurd (show (1 : Nat) = 0 from q) (by decide)⟩
  · rw [e1, e2, if_neg (show ¬ (3 : Nat) = 0 by decide)]
    exact ⟨qs_uu, fun q => absurd (show (3 : Nat) = 0 from q) (by decide)⟩
  · rw [e1, e2, if_pos rfl]
    exact ⟨qs_u2, fun _ => rfl⟩
theorem t_trueLength (hI : Inv n m v) : oX10_trueLength 448 p v ∧ oX11_trueLength 461 p v ∧ OQ v (fX10_trueLength 448 p v).1 (fX10_trueLength 448 p v).2 (fX11_trueLength 461 p v) (cc3 (fX10_trueLength 448 p v).1) := by
  refine ⟨⟨hI.1.1.1, stk_o10 hI, fun _ => hhd hI⟩, ⟨stk_o11 hI, fun v2 e2 h0 => ?_⟩, ?_⟩
  · rcases stk (p := p) hI with ⟨g1, g2⟩ | ⟨g1, g2⟩ | ⟨g1, g2⟩
    · rw [e2, g2] at h0
      have h0 : u2 v 461 8 1 461 8 ≤ 0 := h0
      rw [u2_s] at h0; exact absurd h0 (by decide)
    · rw [e2, g2] at h0
      have h0 : u2 (u2 v 461 8 0) 461 8 2 461 8 ≤ 0 := h0
      rw [u2_s] at h0; exact absurd h0 (by decide)
    · rw [e2, g2]
      dsimp only
      exact mo_truly (by rw [k462]; exact hI.wf.1.2.1)
  unfold fX10_trueLength fX11_trueLength
  rcases stk (p := p) hI with ⟨e1, e2⟩ | ⟨e1, e2⟩ | ⟨e1, e2⟩
  · rw [e1, e2, if_neg (show ¬ (1 : Nat) = 0 by decide)]
    dsimp only
    rw [if_neg (show ¬ u2 v 461 8 1 461 8 ≤ 0 by rw [u2_s]; decide)]
    exact ⟨qs_u2, fun q => absurd (show (1 : Nat) = 0 from q) (by decide)⟩
  · rw [e1, e2, if_neg (show ¬ (3 : Nat) = 0 by decide)]
    dsimp only
    rw [if_neg (show ¬ u2 (u2 v 461 8 0) 461 8 2 461 8 ≤ 0 by rw [u2_s]; decide)]
    exact ⟨qs_uu, fun q => absurd (show (3 : Nat) = 0 from q) (by decide)⟩
  · rw [e1, e2, if_pos rfl]
    dsimp only
    rw [if_pos (show u2 v 461 8 0 461 8 ≤ 0 by rw [u2_s]; decide), m_truly (by rw [k462]; exact hI.wf.1.2.1), k462, c_truly hI.sr.1.2.1 hI.wf.1.2.1 hI.sr.2.2.2.1 (stack_in hI.wf.1.2.1)]
    exact ⟨qs_u2, fun _ => rfl⟩
theorem gu_l (hp : inn p 5) : ∀ f i, lX11_goodUntilChange_32 461 p w f i = sGL (w 462 ((78 + 21 * p.toNatClampNeg + 6))) (w 462 ((78 + 21 * p.toNatClampNeg + 5))) f i := by
  have e5 : fX11_of 461 p 5 w = w 462 ((78 + 21 * p.toNatClampNeg + 5)) := by rw [m_of hp (by decide)]; rfl
  have e6 : fX11_of 461 p 6 w = w 462 ((78 + 21 * p.toNatClampNeg + 6)) := by rw [m_of hp (by decide)]; rfl
  intro f
  induction f with
  | zero => intro i; rfl
  | succ f ih =>
    intro i
    unfold lX11_goodUntilChange_32 sGL
    rw [e5, e6, ih]
theorem gu_o (hp : inn p 5) (h5 : inn (w 462 ((78 + 21 * p.toNatClampNeg + 5))) 11) : olX11_goodUntilChange_32 461 p w ((w 462 ((78 + 21 * p.toNatClampNeg + 5))).toNatClampNeg + 1) 0 := by
  have e5 : fX11_of 461 p 5 w = w 462 ((78 + 21 * p.toNatClampNeg + 5)) := by rw [m_of hp (by decide)]; rfl
  have hl := inn_lt h5
  have key : ∀ f k, k ≤ (w 462 ((78 + 21 * p.toNatClampNeg + 5))).toNatClampNeg → (w 462 ((78 + 21 * p.toNatClampNeg + 5))).toNatClampNeg + 1 ≤ f + k → olX11_goodUntilChange_32 461 p w f (Int32.ofNat k) := by
    intro f
    induction f with
    | zero => intro k h1 h2; omega
    | succ f ih =>
      intro k h1 h2
      unfold olX11_goodUntilChange_32
      refine ⟨mo_of hp (by decide), fun hn => ⟨mo_of hp (by decide), fun _ => ?_⟩⟩
      rw [e5, of_le h5.1 (by omega)] at hn
      rw [of_S (by omega)]
      exact ih (k + 1) (by omega) (by omega)
  exact key _ 0 (by omega) (by omega)
theorem t_goodUntilChange (hI : Inv n m v) : oX10_goodUntilChange 448 p v ∧ oX11_goodUntilChange 461 p v ∧ OQ v (fX10_goodUntilChange 448 p v).1 (fX10_goodUntilChange 448 p v).2 (fX11_goodUntilChange 461 p v) (cc3 (fX10_goodUntilChange 448 p v).1) := by
  refine ⟨needY_o hI, ⟨mo_isType, asksY, fun v3 e3 h => ?_⟩, ?_⟩
  · have h : sIsY (v 462) p ≠ 0 := fun q => h q
    have hk := isY_in hI.wf.1.2.2.1 h
    have e462 : v3 462 = v 462 := by rw [e3]; exact ak462
    have e5 : fX11_of 461 p 5 v3 = v 462 ((78 + 21 * p.toNatClampNeg + 5)) := by rw [m_of hk.1 (by decide), e462]; rfl
    have h5 := (hI.wf.2.2.2.1.1 _ hk.2).2.2.2.2.2.1
    refine ⟨mo_of hk.1 (by decide), fun _ => ?_⟩
    rw [e5, fu0, ← e462]
    exact gu_o hk.1 (by rw [e462]; exact h5)
  · unfold fX10_goodUntilChange fX11_goodUntilChange
    rw [needY hI, show fX11_isType 461 p v = sIsY (v 462) p from rfl]
    by_cases h : sIsY (v 462) p = 0
    · rw [asks_0 h, if_pos h, if_neg (by decide)]
      dsimp only
      rw [if_pos h]
      exact ⟨qs_u2, fun q => absurd q (by decide)⟩
    have hk := isY_in hI.wf.1.2.2.1 h
    have hY := hI.sr.2.2.2.2.1 _ hk.2
    have h5 := (hI.wf.2.2.2.1.1 _ hk.2).2.2.2.2.2.1
    have e4 : v ((((rN (v 448 0)) + 2 + 3) + 31 + p.toNatClampNeg)) 4 = v 462 ((78 + 21 * p.toNatClampNeg + 4)) := hY.1.2.2.2.2.1
    have e7 : v ((((rN (v 448 0)) + 2 + 3) + 31 + p.toNatClampNeg)) 7 = v 462 ((78 + 21 * p.toNatClampNeg + 5)) := hY.1.2.2.2.2.2.2.1
    have m4 : fX11_of 461 p 4 (u2 v 461 8 0) = v 462 ((78 + 21 * p.toNatClampNeg + 4)) := by rw [m_of hk.1 (by decide), k462]; rfl
    have m5 : fX11_of 461 p 5 (u2 v 461 8 0) = v 462 ((78 + 21 * p.toNatClampNeg + 5)) := by rw [m_of hk.1 (by decide), k462]; rfl
    have eg : fX4_goodAtEnd ((((rN (v 448 0)) + 2 + 3) + 31 + p.toNatClampNeg)) v = sGood (v 462 ((78 + 21 * p.toNatClampNeg + 6))) (v 462 ((78 + 21 * p.toNatClampNeg + 5))) := by
      have := c_good (v := v) (r := (((rN (v 448 0)) + 2 + 3) + 31 + p.toNatClampNeg)) (B := v 462 ((78 + 21 * p.toNatClampNeg + 6))) (by rw [e7]; exact h5) (by rw [e7]; exact hY.2.1)
      rw [e7] at this
      exact this
    rw [asks_1 h, if_neg h, if_pos rfl]
    dsimp only
    rw [if_neg h, e4, m4, m5, eg, fu0, gu_l hk.1, k462]
    by_cases h2 : v 462 ((78 + 21 * p.toNatClampNeg + 4)) = 2
    · rw [if_pos h2, if_pos h2]
      exact ⟨qs_uu, fun q => absurd q (by decide)⟩
    rw [if_neg h2, if_neg h2]
    by_cases h3 : v 462 ((78 + 21 * p.toNatClampNeg + 4)) = 0
    · rw [if_pos h3, if_pos h3]
      exact ⟨qs_u2, fun _ => rfl⟩
    · rw [if_neg h3, if_neg h3]
      exact ⟨qs_u2, fun _ => rfl⟩
end T41e
