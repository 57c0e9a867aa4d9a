/-! THE PLAIN PART 12d: questions about readings. -/
section T41d
variable {n m : Nat} {v w : vSt} {A : Ar} {z k p p2 p3 c y : Int32}
/-- what is asked before a reading, and what it answers: both sides -/
def RDG (v : vSt) (p p2 p3 : Int32) : Prop :=
  (fX10_needReading 448 p p2 p3 v = (1, 0) ∧ fX11_toldReading 461 p p2 p3 v = (0, u2 v 461 8 1)) ∨
  (fX10_needReading 448 p p2 p3 v = (3, 0) ∧ fX11_toldReading 461 p p2 p3 v = (0, u2 (u2 v 461 8 0) 461 8 2)) ∨
  (sIsT (v 462) p ≠ 0 ∧ fX10_needReading 448 p p2 p3 v = (0, sReading (v 462) p.toNatClampNeg p2 p3) ∧ fX11_toldReading 461 p p2 p3 v = (sReading (v 462) p.toNatClampNeg p2 p3, u2 v 461 8 0))
theorem rdg (hI : Inv n m v) : RDG v p p2 p3 := by
  unfold RDG fX10_needReading fX11_toldReading fX2_refusalToMeasure
  rw [c_hasTool hI.sr.1.1 hI.wf.1.1, mat_eq, in_rng, needT hI, show fX11_isTool 461 p v = sIsT (v 462) p from rfl, show fX11_isLength p3 = fX11_in p3 0 15000 from rfl]
  dsimp only
  by_cases h1 : sIsT (v 462) p = 0
  · refine Or.inl ⟨?_, ?_⟩
    · rw [if_pos h1, if_pos rfl]
    · rw [if_pos h1, asks_0 rfl]
      rfl
  rw [if_neg h1, if_neg h1, if_neg h1]
  by_cases h2 : fX11_isMaterial p2 = 0
  · refine Or.inl ⟨?_, ?_⟩
    · rw [if_pos h2, if_pos rfl]
    · rw [if_pos h2, asks_0 rfl]
      rfl
  rw [if_neg h2, if_neg h2]
  by_cases h3 : fX11_in p3 0 15000 = 0
  · refine Or.inl ⟨?_, ?_⟩
    · rw [if_pos h3, if_pos rfl]
    · rw [if_pos h3, asks_0 rfl]
      rfl
  rw [if_neg h3, if_neg h3]
  have hT := hI.sr.tool hI.wf h1
  have er : fX2_reading (rN (v 448 0) + 1) ((((rN (v 448 0)) + 1 + 2) + 13 + p.toNatClampNeg)) p2 p3 v = sReading (v 462) p.toNatClampNeg p2 p3 := c_reading hI.sr.1.2.2.1 (mat_in h2) hT.2.1 hT.1
  rw [er, asks_1 (by decide)]
  dsimp only
  rw [m_reading hT.2.2.1, k462]
  by_cases h4 : sReading (v 462) p.toNatClampNeg p2 p3 = -1
  · refine Or.inr (Or.inl ⟨?_, ?_⟩)
    · rw [if_pos h4, if_neg (by decide), if_pos rfl]
    · rw [if_neg (by decide), if_neg (fun q => rd_lt.mp q h4)]
      rfl
  · refine Or.inr (Or.inr ⟨h1, ?_, ?_⟩)
    · rw [if_neg h4, if_neg (by decide), if_neg (by decide), if_pos rfl]
    · rw [if_neg (by decide), if_pos (rd_lt.mpr h4)]
theorem rdg_o10 (hI : Inv n m v) : oX10_needReading 448 p p2 p3 v := ⟨hI.1.1.1, fun _ _ => needT_o hI⟩
theorem rdg_o11 (hI : Inv n m v) : oX11_toldReading 461 p p2 p3 v := by
  refine ⟨mo_isTool, fun y2 e2 => ⟨asks_o ?_, fun v5 e5 h => ?_⟩⟩
  · rw [e2]
    split
    · exact Or.inl rfl
    · split
      · exact Or.inl rfl
      · split
        · exact Or.inl rfl
        · exact Or.inr rfl
  · have hy : sIsT (v 462) p ≠ 0 := fun q => h (by rw [e2, show fX11_isTool 461 p v = sIsT (v 462) p from rfl, if_pos q, asks_0 rfl])
    exact mo_reading (isT_in hI.wf.1.1 hy).1
theorem t_readingFor (hI : Inv n m v) : oX10_readingFor 448 p p2 p3 v ∧ oX11_readingFor 461 p p2 p3 v ∧ OQ v (fX10_readingFor 448 p p2 p3 v).1 (fX10_readingFor 448 p p2 p3 v).2 (fX11_readingFor 461 p p2 p3 v) (cc3 (fX10_readingFor 448 p p2 p3 v).1) := by
  refine ⟨rdg_o10 hI, rdg_o11 hI, ?_⟩
  unfold fX10_readingFor fX11_readingFor
  rcases rdg (p := p) (p2 := p2) (p3 := p3) hI with ⟨e1, e2⟩ | ⟨e1, e2⟩ | ⟨h1, e1, e2⟩
  · rw [e1, e2, if_neg (show ¬ (1 : Nat) = 0 by decide)]
    exact ⟨qs_u2, fun q => absurd (show (1 : Nat) = 0 from q) (by decide)⟩
  · rw [e1, e2, if_neg (show ¬ (3 : Nat) = 0 by decide)]
    exact ⟨qs_uu, fun q => absurd (show (3 : Nat) = 0 from q) (by decide)⟩
  · rw [e1, e2, if_pos rfl]
    exact ⟨qs_u2, fun _ => rfl⟩
theorem tbM_at : ∀ k, k < 5 → fX10_entry 5 tbM (Int32.ofNat k) = (if Int32.ofNat k = 3 then 50 else 100) := by decide
theorem tbM_5 {x : Int32} (h : inn x 5) : fX10_entry 5 tbM x = (if x = 3 then 50 else 100) := by
  have e : x = Int32.ofNat x.toNatClampNeg := Int32.toInt_inj.mp (by
    have := rn_to h.1
    have := h.2
    rw [of_ti (by omega)]
    omega)
  have hl := inn_lt h
  rw [e]
  exact tbM_at _ hl
theorem stp_pos {x : Int32} : 0 < sStep x ∧ ¬ sStep x = 0 := by
  unfold sStep
  split
  · decide
  · split
    · decide
    · split <;> decide
theorem ap_pos {x : Int32} : (0 : Int32) < (if x = 3 then 50 else 100) ∧ ¬ (if x = 3 then 50 else 100 : Int32) = 0 := by
  split <;> decide
/-- the three questions that ask a reading and then a tool -/
theorem q_read {F : Nat → Int32 → Int32} {G : Int32 → vSt → Int32} (hI : Inv n m v) (hG : sIsT (v 462) p ≠ 0 → ∀ x, F ((((rN (v 448 0)) + 1 + 2) + 13 + p.toNatClampNeg)) x = G x (u2 v 461 8 0)) :
    OQ v (if (fX10_needReading 448 p p2 p3 v).1 = 0 then (if (fX10_needTool 448 p v).1 = 0 then (0, F (fX10_needTool 448 p v).2 (fX10_needReading 448 p p2 p3 v).2) else ((fX10_needTool 448 p v).1, 0)) else ((fX10_needReading 448 p p2 p3 v).1, 0) : Nat × Int32).1
      (if (fX10_needReading 448 p p2 p3 v).1 = 0 then (if (fX10_needTool 448 p v).1 = 0 then (0, F (fX10_needTool 448 p v).2 (fX10_needReading 448 p p2 p3 v).2) else ((fX10_needTool 448 p v).1, 0)) else ((fX10_needReading 448 p p2 p3 v).1, 0) : Nat × Int32).2
      (if (fX11_toldReading 461 p p2 p3 v).2 461 8 ≤ 0 then (G (fX11_toldReading 461 p p2 p3 v).1 (fX11_toldReading 461 p p2 p3 v).2, (fX11_toldReading 461 p p2 p3 v).2) else (0, (fX11_toldReading 461 p p2 p3 v).2))
      (cc3 (if (fX10_needReading 448 p p2 p3 v).1 = 0 then (if (fX10_needTool 448 p v).1 = 0 then (0, F (fX10_needTool 448 p v).2 (fX10_needReading 448 p p2 p3 v).2) else ((fX10_needTool 448 p v).1, 0)) else ((fX10_needReading 448 p p2 p3 v).1, 0) : Nat × Int32).1) := by
  rcases rdg (p := p) (p2 := p2) (p3 := p3) hI with ⟨e1, e2⟩ | ⟨e1, e2⟩ | ⟨h1, e1, e2⟩
  · rw [e1, e2, if_neg (show ¬ (1 : Nat) = 0 by decide)]
    dsimp only
    rw [if_neg (show ¬ u2 v 461 8 1 461 8 ≤ 0 by rw [u2_s]; decide)]
    exact ⟨qs_u2, fun q => absurd (show (1 : Nat) = 0 from q) (by decide)⟩
  · rw [e1, e2, if_neg (show ¬ (3 : Nat) = 0 by decide)]
    dsimp only
    rw [if_neg (show ¬ u2 (u2 v 461 8 0) 461 8 2 461 8 ≤ 0 by rw [u2_s]; decide)]
    exact ⟨qs_uu, fun q => absurd (show (3 : Nat) = 0 from q) (by decide)⟩
  · rw [e1, e2, needT hI, if_neg h1, if_pos rfl, if_pos rfl]
    dsimp only
    rw [if_pos (show u2 v 461 8 0 461 8 ≤ 0 by rw [u2_s]; decide)]
    exact ⟨qs_u2, fun _ => hG h1 _⟩
theorem rd_o (hI : Inv n m v) {P : vSt → Prop} (h : sIsT (v 462) p ≠ 0 → P (u2 v 461 8 0)) : ∀ v2 : vSt, v2 = (fX11_toldReading 461 p p2 p3 v).2 → v2 461 8 ≤ 0 → P v2 := by
  intro v2 e h0
  rcases rdg (p := p) (p2 := p2) (p3 := p3) hI with ⟨e1, e2⟩ | ⟨e1, e2⟩ | ⟨h1, e1, e2⟩
  · rw [e, e2] at h0
    have h0 : u2 v 461 8 1 461 8 ≤ 0 := h0
    rw [u2_s] at h0; exact absurd h0 (by decide)
  · rw [e, e2] at h0
    have h0 : u2 (u2 v 461 8 0) 461 8 2 461 8 ≤ 0 := h0
    rw [u2_s] at h0; exact absurd h0 (by decide)
  · rw [e, e2]; exact h h1
theorem t_markFor (hI : Inv n m v) : oX10_markFor 448 p p2 p3 v ∧ oX11_markFor 461 p p2 p3 v ∧ OQ v (fX10_markFor 448 p p2 p3 v).1 (fX10_markFor 448 p p2 p3 v).2 (fX11_markFor 461 p p2 p3 v) (cc3 (fX10_markFor 448 p p2 p3 v).1) := by
  have ha : sIsT (v 462) p ≠ 0 → fX11_apart 461 p (u2 v 461 8 0) = (if v 462 (8 * p.toNatClampNeg) = 3 then 50 else 100) := fun h => by
    unfold fX11_apart
    rw [m_tool (isT_in hI.wf.1.1 h).1 (by decide), k462]
    rfl
  refine ⟨⟨rdg_o10 hI, fun _ => needT_o hI⟩, ⟨rdg_o11 hI, rd_o hI fun h => ⟨mo_tool (isT_in hI.wf.1.1 h).1 (by decide), by rw [ha h]; exact ap_pos.2⟩⟩, ?_⟩
  refine q_read (F := fun r x => fX8_markAt r x v) (G := fun x v2 => x / fX11_apart 461 p v2) hI (fun h x => ?_)
  have hT := hI.sr.tool hI.wf h
  have e0 : v ((((rN (v 448 0)) + 1 + 2) + 13 + p.toNatClampNeg)) 0 = v 462 (8 * p.toNatClampNeg) := hT.1.1
  rw [ha h]
  show fX8_markAt _ x v = _
  unfold fX8_markAt
  rw [e0, tbM_5 hT.2.1, if_pos ap_pos.1]
theorem t_lineFor (hI : Inv n m v) : oX10_lineFor 448 p p2 p3 v ∧ oX11_lineFor 461 p p2 p3 v ∧ OQ v (fX10_lineFor 448 p p2 p3 v).1 (fX10_lineFor 448 p p2 p3 v).2 (fX11_lineFor 461 p p2 p3 v) (cc3 (fX10_lineFor 448 p p2 p3 v).1) := by
  have ha : sIsT (v 462) p ≠ 0 → fX11_apart 461 p (u2 v 461 8 0) = (if v 462 (8 * p.toNatClampNeg) = 3 then 50 else 100) := fun h => by
    unfold fX11_apart
    rw [m_tool (isT_in hI.wf.1.1 h).1 (by decide), k462]
    rfl
  have hs : sIsT (v 462) p ≠ 0 → fX11_step 461 p (u2 v 461 8 0) = sStep (v 462 (8 * p.toNatClampNeg)) := fun h => by
    rw [m_step (isT_in hI.wf.1.1 h).1, k462]
  refine ⟨⟨rdg_o10 hI, fun _ => needT_o hI⟩, ⟨rdg_o11 hI, rd_o hI fun h => ⟨mo_tool (isT_in hI.wf.1.1 h).1 (by decide), by rw [ha h]; exact ap_pos.2, mo_step (isT_in hI.wf.1.1 h).1, by rw [hs h]; exact stp_pos.2⟩⟩, ?_⟩
  refine q_read (F := fun r x => fX8_lineAt r x v) (G := fun x v2 => (x - x / fX11_apart 461 p v2 * fX11_apart 461 p v2) / fX11_step 461 p v2) hI (fun h x => ?_)
  have hT := hI.sr.tool hI.wf h
  have e0 : v ((((rN (v 448 0)) + 1 + 2) + 13 + p.toNatClampNeg)) 0 = v 462 (8 * p.toNatClampNeg) := hT.1.1
  have e1 : v ((((rN (v 448 0)) + 1 + 2) + 13 + p.toNatClampNeg)) 1 = sStep (v 462 (8 * p.toNatClampNeg)) := hT.1.2.1
  rw [ha h, hs h]
  show fX8_lineAt _ x v = _
  unfold fX8_lineAt fX8_markAt
  rw [e0, e1, tbM_5 hT.2.1, if_pos ap_pos.1, if_pos stp_pos.1]
theorem t_offBy (hI : Inv n m v) : oX10_offBy 448 p p2 p3 v ∧ oX11_offBy 461 p p2 p3 v ∧ OQ v (fX10_offBy 448 p p2 p3 v).1 (fX10_offBy 448 p p2 p3 v).2 (fX11_offBy 461 p p2 p3 v) (cc3 (fX10_offBy 448 p p2 p3 v).1) := by
  refine ⟨⟨rdg_o10 hI, fun _ => needT_o hI⟩, ⟨rdg_o11 hI, rd_o hI fun h => mo_tool (isT_in hI.wf.1.1 h).1 (by decide)⟩, ?_⟩
  refine q_read (F := fun r x => (if 0 ≤ (x - v r 3) - p3 then (x - v r 3) - p3 else 0 - ((x - v r 3) - p3) : Int32)) (G := fun x v2 => fX11_size ((x - fX11_tool 461 p 3 v2) - p3)) hI (fun h x => ?_)
  have hT := hI.sr.tool hI.wf h
  have e3 : v ((((rN (v 448 0)) + 1 + 2) + 13 + p.toNatClampNeg)) 3 = v 462 (8 * p.toNatClampNeg + 3) := hT.1.2.2.2.1
  rw [m_tool (isT_in hI.wf.1.1 h).1 (by decide), k462]
  show (if 0 ≤ (x - v ((((rN (v 448 0)) + 1 + 2) + 13 + p.toNatClampNeg)) 3) - p3 then (x - v ((((rN (v 448 0)) + 1 + 2) + 13 + p.toNatClampNeg)) 3) - p3 else 0 - ((x - v ((((rN (v 448 0)) + 1 + 2) + 13 + p.toNatClampNeg)) 3) - p3) : Int32) = fX11_size (x - v 462 (8 * p.toNatClampNeg + 3) - p3)
  rw [e3]
  exact ab_sz
end T41d
