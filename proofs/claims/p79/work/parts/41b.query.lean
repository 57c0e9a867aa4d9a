/-! THE PLAIN PART 12b: more questions. -/
section T41b
variable {n m : Nat} {v w : vSt} {A : Ar} {z k p p2 c y : Int32}
theorem hasB (hI : Inv n m v) : fX2_hasBlock (rN (v 448 0) + 1) p v = 0 ↔ fX11_in p 0 (v 462 204 - 1) = 0 := by
  have hn := hI.wf.1.2.1
  have z0 : (0 : Int32).toInt = 0 := rfl
  have z10 : (10 : Int32).toInt = 10 := rfl
  have h0 := hn.1
  have h11 := hn.2
  have s1 := subOne h0
  unfold fX2_hasBlock
  rw [show v (rN (v 448 0) + 1) 3 = v 462 204 from hI.sr.1.2.1]
  by_cases h : fX11_in p 0 (v 462 204 - 1) = 0
  · refine ⟨fun _ => h, fun _ => ?_⟩
    by_cases a : p < 0
    · rw [if_pos a]
    by_cases b : v 462 204 ≤ p
    · rw [if_neg a, if_pos b]
    · have a2 := i_nlt a
      have b2 := i_nle b
      exact absurd h (in_iff.mpr ⟨a2, by omega⟩)
  · refine ⟨fun q => ?_, fun q => absurd q h⟩
    have hh := in_iff.mp h
    rw [if_neg (fun a => by have := i_lt a; omega), if_neg (fun a => by have := i_le a; omega), if_neg (fun a => by have := i_le a; omega)] at q
    exact absurd q (by decide)
theorem needB (hI : Inv n m v) : fX10_needBlock 448 p v = if fX11_in p 0 (v 462 204 - 1) = 0 then (1, 0) else (0, (((rN (v 448 0)) + 1 + 3) + 20 + p.toNatClampNeg)) := by
  unfold fX10_needBlock
  by_cases h : fX11_in p 0 (v 462 204 - 1) = 0
  · rw [if_pos h, if_pos ((hasB hI).mpr h)]
  · rw [if_neg h, if_neg (mt (hasB hI).mp h)]
theorem isB_in (hI : Inv n m v) (h : fX11_in p 0 (v 462 204 - 1) ≠ 0) : inn p 10 ∧ p.toNatClampNeg < ((v 462) 204).toNatClampNeg := by
  have hn := hI.wf.1.2.1
  have h := in_iff.mp h
  rw [subOne hn.1, show (0 : Int32).toInt = 0 from rfl] at h
  have h1 := rn_to h.1
  have h2 := rn_to hn.1
  have := hn.2
  exact ⟨⟨by omega, by omega⟩, by omega⟩
theorem needB_o (hI : Inv n m v) : oX10_needBlock 448 p v ∧ ((fX10_needBlock 448 p v).1 = 0 → kd (fX10_needBlock 448 p v).2 = 1) := by
  refine ⟨⟨hI.1.1.1, fun h => ?_⟩, fun h => ?_⟩
  · have := (isB_in hI (mt (hasB hI).mpr h)).1
    exact i_in this.1 this.2
  · rw [needB hI] at h ⊢
    by_cases h1 : fX11_in p 0 (v 462 204 - 1) = 0
    · rw [if_pos h1] at h; exact absurd h (by decide)
    · rw [if_neg h1]
      exact kdB hI.1.1.1 (inn_lt (isB_in hI h1).1)
theorem q_block {F : Nat → Int32} {f : Int32} {mr : Int32 × vSt} (hI : Inv n m v) (hm : mr = if (fX11_asks 461 (fX11_in p 0 (v 462 204 - 1)) v).1 = 0 then (0, (fX11_asks 461 (fX11_in p 0 (v 462 204 - 1)) v).2) else (f, (fX11_asks 461 (fX11_in p 0 (v 462 204 - 1)) v).2))
    (h1 : fX11_in p 0 (v 462 204 - 1) ≠ 0 → F ((((rN (v 448 0)) + 1 + 3) + 20 + p.toNatClampNeg)) = f) :
    OQ v (if (fX10_needBlock 448 p v).1 = 0 then (0, F (fX10_needBlock 448 p v).2) else ((fX10_needBlock 448 p v).1, 0) : Nat × Int32).1 (if (fX10_needBlock 448 p v).1 = 0 then (0, F (fX10_needBlock 448 p v).2) else ((fX10_needBlock 448 p v).1, 0) : Nat × Int32).2 mr (Int32.ofNat (if (fX10_needBlock 448 p v).1 = 0 then (0, F (fX10_needBlock 448 p v).2) else ((fX10_needBlock 448 p v).1, 0) : Nat × Int32).1) := by
  rw [needB hI, hm]
  by_cases h : fX11_in p 0 (v 462 204 - 1) = 0
  · rw [asks_0 h, if_pos h, if_pos h]
    exact ⟨qs_u2, fun q => absurd (show (1 : Nat) = 0 from q) (by decide)⟩
  · rw [asks_1 h, if_neg h, if_neg h]
    exact ⟨qs_u2, fun _ => h1 h⟩
theorem t_blockLength (hI : Inv n m v) : oX10_blockLength 448 p v ∧ oX11_blockLength 461 p v ∧ OQ v (fX10_blockLength 448 p v).1 (fX10_blockLength 448 p v).2 (fX11_blockLength 461 p v) (Int32.ofNat (fX10_blockLength 448 p v).1) := by
  refine ⟨needB_o hI, ⟨vL (by decide), asks_o in01, fun v3 e3 h => mo_block (isB_in hI ?_).1 (by decide)⟩, q_block (p := p) (F := fun r => v r 0) hI rfl fun h => ?_⟩
  · exact fun q => h q
  · rw [m_block (isB_in hI h).1 (by decide), ak462]
    exact (hI.sr.2.2.2.1 _ (isB_in hI h).2).1
theorem t_blockError (hI : Inv n m v) : oX10_blockError 448 p v ∧ oX11_blockError 461 p v ∧ OQ v (fX10_blockError 448 p v).1 (fX10_blockError 448 p v).2 (fX11_blockError 461 p v) (Int32.ofNat (fX10_blockError 448 p v).1) := by
  refine ⟨needB_o hI, ⟨vL (by decide), asks_o in01, fun v3 e3 h => mo_block (isB_in hI ?_).1 (by decide)⟩, q_block (p := p) (F := fun r => v r 1) hI rfl fun h => ?_⟩
  · exact fun q => h q
  · rw [m_block (isB_in hI h).1 (by decide), ak462]
    exact (hI.sr.2.2.2.1 _ (isB_in hI h).2).2.1
/-- the codes of the law where a third exception is told as the second -/
def cc3 (c : Nat) : Int32 := if c = 3 then 2 else Int32.ofNat c
theorem t_wouldJudge (hI : Inv n m v) : oX10_wouldJudge 448 p v ∧ oX11_wouldJudge 461 p v ∧ OQ v (fX10_wouldJudge 448 p v).1 (fX10_wouldJudge 448 p v).2 (fX11_wouldJudge 461 p v) (cc3 (fX10_wouldJudge 448 p v).1) := by
  have hk : ∀ w : vSt, w 462 = v 462 → w 462 206 ≠ 0 → inn ((fX11_typeOf ((w 462) 183))) 5 := fun w e h0 => by
    rw [e] at h0 ⊢
    obtain ⟨d, x, q1, q2, _⟩ := hI.wf.fk h0
    exact q2
  have hle : ∀ t, sReason (v 462) t = 0 → v 462 206 ≠ 0 := fun t e => sReason_ne (t := t) (by rw [e]; decide)
  refine ⟨⟨(needT_o hI).1, fun q => ⟨(needT_o hI).2 q, hI.1.1.1⟩⟩, ⟨mo_isTool, asksT, fun v3 e3 h => ?_⟩, ?_⟩
  · have h : sIsT (v 462) p ≠ 0 := fun q => h q
    have e462 : v3 462 = v 462 := by rw [e3]; exact ak462
    have hp := isT_in hI.wf.1.1 h
    refine ⟨mo_reasonNot hp.1 (hk _ e462), fun hr => ?_⟩
    rw [m_reasonNot hp.1 (hk _ e462), e462] at hr
    have h0 := hle _ hr
    exact mo_judgement hp.1 (hk _ e462 (by rw [e462]; exact h0))
  · unfold fX10_wouldJudge fX11_wouldJudge
    rw [needT hI, show fX11_isTool 461 p v = sIsT (v 462) p from rfl]
    by_cases h : sIsT (v 462) p = 0
    · rw [asks_0 h, if_pos h, if_neg (by decide)]
      dsimp only
      rw [if_pos h]
      exact ⟨qs_u2, fun q => absurd q (by decide)⟩
    · have hp := isT_in hI.wf.1.1 h
      rw [asks_1 h, if_neg h, if_pos rfl]
      dsimp only
      rw [if_neg h, c_reason hI.sr hI.wf hI.cp hp.2, m_reasonNot hp.1 (hk _ k462), k462]
      by_cases hr : sReason (v 462) p.toNatClampNeg = 0
      · have h0 := hle _ hr
        rw [if_pos hr, if_pos hr, c_measured hI.sr hI.wf hI.cp h0 hp.2, c_outcome hI.sr hI.wf hI.cp h0 hp.2, m_judgement hp.1 (hk _ k462 (by rw [k462]; exact h0)), k462]
        exact ⟨qs_u2, fun _ => rfl⟩
      · rw [if_neg hr, if_neg hr]
        exact ⟨qs_uu, fun q => absurd q (by decide)⟩
theorem t_stretchOf (hI : Inv n m v) : oX10_stretchOf 448 p p2 v ∧ oX11_stretchOf 461 p p2 v ∧ OQ v (fX10_stretchOf 448 p p2 v).1 (fX10_stretchOf 448 p p2 v).2 (fX11_stretchOf 461 p p2 v) (Int32.ofNat (fX10_stretchOf 448 p p2 v).1) := by
  refine ⟨fun _ _ => hI.1.1.1, fun y1 e1 => ⟨asks_o ?_, fun _ _ _ _ _ => vL (by decide)⟩, ?_⟩
  · rw [e1]
    split
    · exact Or.inl rfl
    · split
      · exact Or.inl rfl
      · exact Or.inr rfl
  unfold fX10_stretchOf fX11_stretchOf
  rw [mat_eq, in_rng, show fX11_isLength p2 = fX11_in p2 0 15000 from rfl]
  dsimp only
  by_cases h1 : fX11_isMaterial p = 0
  · rw [if_pos h1, if_pos h1, asks_0 rfl]
    dsimp only
    rw [if_pos rfl]
    exact ⟨qs_u2, fun q => absurd q (by decide)⟩
  rw [if_neg h1, if_neg h1]
  by_cases h2 : fX11_in p2 0 15000 = 0
  · rw [if_pos h2, if_pos h2, asks_0 rfl]
    dsimp only
    rw [if_pos rfl]
    exact ⟨qs_u2, fun q => absurd q (by decide)⟩
  rw [if_neg h2, if_neg h2, asks_1 (by decide)]
  dsimp only
  rw [if_neg (by decide), m_stretch, k462, c_stretch hI.sr.1.2.2.1 (mat_in h1)]
  exact ⟨qs_u2, fun _ => rfl⟩
end T41b
