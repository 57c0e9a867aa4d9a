/-! P79, PLAIN 10: what always holds. -/
section T56a
variable {n m N : Nat} {v w : vSt} {A B : Ar} {p p2 p3 x y a : Int32} {k t c i : Nat}
theorem why_t : (sReason A t = 1 ∧ A 206 = 0) ∨ (A 206 ≠ 0 ∧ sReason A t = 2 ∧ sDue A t ≠ 0) ∨ (A 206 ≠ 0 ∧ sReason A t = 3 ∧ sDue A t = 0 ∧ ¬ 5 * sStep (A (8 * t)) ≤ A ((78 + 21 * ((fX11_typeOf (A 183)).toNatClampNeg) + 2)) - A ((78 + 21 * ((fX11_typeOf (A 183)).toNatClampNeg) + 1))) ∨
    (A 206 ≠ 0 ∧ sReason A t = 4 ∧ sDue A t = 0) ∨ (A 206 ≠ 0 ∧ sReason A t = 0 ∧ sDue A t = 0) := by
  unfold sReason
  by_cases h0 : A 206 = 0
  · rw [if_pos h0]; exact Or.inl ⟨rfl, h0⟩
  rw [if_neg h0]
  by_cases h1n : ¬ (sDue A t = 0)
  · rw [if_neg h1n]; exact Or.inr (Or.inl ⟨h0, rfl, h1n⟩)
  have h1 := Decidable.not_not.mp h1n
  rw [if_pos h1]
  by_cases h2n : ¬ (5 * sStep (A (8 * t)) ≤ A ((78 + 21 * ((fX11_typeOf (A 183)).toNatClampNeg) + 2)) - A ((78 + 21 * ((fX11_typeOf (A 183)).toNatClampNeg) + 1)))
  · rw [if_neg h2n]; exact Or.inr (Or.inr (Or.inl ⟨h0, rfl, h1, h2n⟩))
  have h2 := Decidable.not_not.mp h2n
  rw [if_pos h2]
  by_cases h3 : 0 ≤ sFR A t
  · rw [if_pos h3]; exact Or.inr (Or.inr (Or.inr (Or.inr ⟨h0, rfl, h1⟩)))
  · rw [if_neg h3]; exact Or.inr (Or.inr (Or.inr (Or.inl ⟨h0, rfl, h1⟩)))
theorem judg_4 : sJudg A t = 0 ∨ sJudg A t = 1 ∨ sJudg A t = 2 ∨ sJudg A t = 3 := by
  have hr : ∀ k y, sRes A k y = 0 ∨ sRes A k y = 1 ∨ sRes A k y = 2 ∨ sRes A k y = 3 := fun k y => by
    unfold sRes
    split
    · split
      · exact Or.inl rfl
      · exact Or.inr (Or.inr (Or.inl rfl))
    · exact Or.inr (Or.inl rfl)
  unfold sJudg
  split
  · exact hr _ _
  · split
    · exact Or.inr (Or.inr (Or.inr rfl))
    · exact hr _ _
theorem ta_0 (hn : inn (A 206) 21) (h0 : A 206 ≠ 0) : gTa A 0 = (0, fX11_typeOf (A 183)) ∧ gWd A 0 = (0, if A 183 - A 183 / 2 * 2 = 1 then 1 else 0) := by
  obtain ⟨s1, s2, s3, s4⟩ := sub1 hn h0
  have := ta_k (k := 0) hn (by omega)
  exact this
theorem neT {t u : Nat} (ht : t < 100) (hu : u < 100) : Int32.ofNat t = Int32.ofNat u ↔ t = u := ⟨fun e => by have := congrArg Int32.toInt e; rw [of_ti (by omega), of_ti (by omega)] at this; omega, fun e => by rw [e]⟩
theorem neN (ht : t < 100) : Int32.ofNat t ≠ -100104 := fun e => by
  have := congrArg Int32.toInt e
  rw [of_ti (by omega), show (-100104 : Int32).toInt = -100104 from rfl] at this
  omega
/-- the law's best tool so far, as BR tells it -/
def bTl (x : Int32) : Int32 := if x = -100104 then -1 else x
theorem hd_t (hV : Inv n m v) (hX : XI N (v 462)) (hN : N < 2 ^ 30) : ∀ fl t y, t ≤ ((v 462) 203).toNatClampNeg → ((v 462) 203).toNatClampNeg < fl + t → (y = -100104 ∨ ∃ s, s < t ∧ y = Int32.ofNat s) → BR (bF (v 462)) (bG (v 462)) 0 t (bTl y) →
    olL_holds_255 v 448 x fl (Int32.ofNat t) y ∧ ((lL_holds_255 v 448 fl (Int32.ofNat t) y = -100104 ∨ ∃ s, s < ((v 462) 203).toNatClampNeg ∧ lL_holds_255 v 448 fl (Int32.ofNat t) y = Int32.ofNat s) ∧ BR (bF (v 462)) (bG (v 462)) 0 (((v 462) 203).toNatClampNeg) (bTl (lL_holds_255 v 448 fl (Int32.ofNat t) y))) := by
  have h7 := hV.wf.1.1
  have l7 := inn_lt h7
  have h6 := hV.wf.1.2.2.2.1
  intro fl
  induction fl with
  | zero => intro t y h1 h2; omega
  | succ fl ih =>
    intro t y h1 h2 hy hB
    unfold olL_holds_255 lL_holds_255
    rw [x_tools hV]
    by_cases q : v 462 203 ≤ Int32.ofNat t
    · rw [if_pos q]
      have q2 := q
      rw [of_le h7.1 (by omega)] at q
      have : t = ((v 462) 203).toNatClampNeg := by omega
      subst this
      exact ⟨fun g => absurd q2 g, hy, hB⟩
    · rw [if_neg q]
      rw [of_le h7.1 (by omega)] at q
      have ht : t < ((v 462) 203).toNatClampNeg := by omega
      have hT := isT_k h7 ht
      have tn : (Int32.ofNat t).toNatClampNeg = t := to_of (by omega)
      rw [x_whyNotJudge hV hT, x_isDue hV hT, x_stepOf hV hT, x_onBench hV, x_wouldJudge hV hT, (w_wouldJudge hV).2, if_neg hT, x_typeAt hV, x_wasDoubted hV, tn]
      dsimp only
      -- the step of the best so far
      have hyT : ∀ s, s < t → y = Int32.ofNat s → fX10_stepOf 448 y v = (0, sStep (v 462 (8 * s))) := fun s hs e => by
        rw [e, x_stepOf hV (isT_k h7 (by omega)), to_of (by omega)]
      -- the new best
      have hNew : (∀ Y, Y = (if sReason (v 462) t = 0 then (if y = -100104 then Int32.ofNat t else (if (fX10_stepOf 448 y v).2 ≤ sStep (v 462 (8 * t)) then y else Int32.ofNat t)) else y : Int32) → ((Y = -100104 ∨ ∃ s, s < t + 1 ∧ Y = Int32.ofNat s) ∧ BR (bF (v 462)) (bG (v 462)) 0 (t + 1) (bTl Y))) := by
        intro Y eY
        by_cases g1 : sReason (v 462) t = 0
        · rw [if_pos g1] at eY
          by_cases g2 : y = -100104
          · rw [if_pos g2] at eY
            rw [eY]
            refine ⟨Or.inr ⟨t, by omega, rfl⟩, ?_⟩
            rw [g2, show bTl (-100104) = -1 by unfold bTl; rw [if_pos rfl]] at hB
            have e1 : bTl (Int32.ofNat t) = Int32.ofNat t := by unfold bTl; rw [if_neg (neN (by omega))]
            rw [e1]
            have hno : ∀ u, u < t → ¬ bF (v 462) u := by
              rcases hB with ⟨_, h⟩ | ⟨u, u1, u2, u3, _⟩
              · exact fun u hu => h u (Nat.zero_le _) hu
              · exfalso
                have := congrArg Int32.toInt u3
                rw [of_ti (by omega), show (-1 : Int32).toInt = -1 from rfl] at this
                omega
            exact Or.inr ⟨t, Nat.zero_le _, by omega, rfl, g1, fun u _ hu hf => absurd hf (hno u hu), fun u hu hu2 _ => by have : u = t := (by omega); subst this; exact Int.le_refl _⟩
          · rw [if_neg g2] at eY
            obtain ⟨s, s1, s2⟩ := hy.resolve_left g2
            rw [hyT s s1 s2] at eY
            dsimp only at eY
            have eB : bTl y = Int32.ofNat s := by unfold bTl; rw [if_neg g2, s2]
            rw [eB] at hB
            by_cases g3 : sStep (v 462 (8 * s)) ≤ sStep (v 462 (8 * t))
            · rw [if_pos g3] at eY
              rw [eY, eB]
              exact ⟨Or.inr ⟨s, by omega, s2⟩, BR.skipR (by omega) hB (fun _ => ⟨s, s1, rfl, i_le g3⟩)⟩
            · rw [if_neg g3] at eY
              have g3 := i_nle g3
              rw [eY]
              refine ⟨Or.inr ⟨t, by omega, rfl⟩, ?_⟩
              have e1 : bTl (Int32.ofNat t) = Int32.ofNat t := by unfold bTl; rw [if_neg (neN (by omega))]
              rw [e1]
              rcases hB with ⟨e, _⟩ | ⟨u, u1, u2, u3, u4, u5, u6⟩
              · exfalso
                have := congrArg Int32.toInt e
                rw [of_ti (by omega), show (-1 : Int32).toInt = -1 from rfl] at this
                omega
              · have : s = u := (neT (by omega) (by omega)).mp u3
                subst this
                refine Or.inr ⟨t, Nat.zero_le _, by omega, rfl, g1, fun z _ hz hf => ?_, fun z hz hz2 _ => by have : z = t := (by omega); subst this; exact Int.le_refl _⟩
                have g3' : (bG (v 462) t).toInt < (bG (v 462) s).toInt := g3
                rcases Nat.lt_or_ge z s with hzs | hzs
                · have := u5 z (Nat.zero_le _) hzs hf; omega
                · have := u6 z hzs hz hf; omega
        · rw [if_neg g1] at eY
          rw [eY]
          refine ⟨hy.imp id (fun ⟨s, s1, s2⟩ => ⟨s, by omega, s2⟩), ?_⟩
          exact BR.skipR (by omega) hB (fun hf => absurd hf g1)
      have hN1 := hNew _ rfl
      have r := ih (t + 1) _ (by omega) (by omega) hN1.1 hN1.2
      have hnn : (0 : Int32).toInt = 0 := rfl
      refine ⟨fun _ => ⟨(t_whyNotJudge hV).1, rfl, fun _ g2 => ?_, fun y51 e51 => ⟨tool_o hV hX hN ht, fun y55 e55 y57 e57 => ⟨?_, fun g => ?_, fun g => ?_, fun g => ?_, (w_wouldJudge hV).1, fun y64 e64 y66 e66 => ⟨?_, fun g => ?_, ?_⟩⟩⟩⟩, ?_⟩
      · obtain ⟨s, s1, s2⟩ := hy.resolve_left g2
        exact ⟨(t_stepOf hV).1, rfl, (t_stepOf hV).1, by rw [hyT s s1 s2]⟩
      · rw [e55, e57]
        rcases why_t (A := v 462) (t := t) with ⟨a, b⟩ | ⟨a, b, _⟩ | ⟨a, b, _⟩ | ⟨a, b, _⟩ | ⟨a, b, _⟩
        · rw [if_pos a, if_pos b]
        · rw [if_neg (by rw [b]; decide), if_neg a]
        · rw [if_neg (by rw [b]; decide), if_neg a]
        · rw [if_neg (by rw [b]; decide), if_neg a]
        · rw [if_neg (by rw [b]; decide), if_neg a]
      · rcases why_t (A := v 462) (t := t) with ⟨a, b⟩ | ⟨a, b, c⟩ | ⟨a, b, _⟩ | ⟨a, b, _⟩ | ⟨a, b, _⟩
        · rw [a] at g; exact absurd g (by decide)
        · exact ⟨(t_isDue hV).1, rfl, c⟩
        · rw [b] at g; exact absurd g (by decide)
        · rw [b] at g; exact absurd g (by decide)
        · rw [b] at g; exact absurd g (by decide)
      · rcases why_t (A := v 462) (t := t) with ⟨a, b⟩ | ⟨a, b, c⟩ | ⟨a, b, c, d⟩ | ⟨a, b, _⟩ | ⟨a, b, _⟩
        · rw [a] at g; exact absurd g (by decide)
        · rw [b] at g; exact absurd g (by decide)
        · obtain ⟨dd, xx, q1, q2, q3, q4⟩ := hV.wf.fk a
          have hYk : sIsY (v 462) ((fX11_typeOf ((v 462) 183))) ≠ 0 := by
            rw [isY_iff hV.wf.1.2.2.1]
            have := rn_to hV.wf.1.2.2.1.1
            have := rn_to q2.1
            exact ⟨q2.1, by omega⟩
          rw [(ta_0 h6 a).1]
          dsimp only
          rw [x_widthOf hV hYk]
          exact ⟨(t_stepOf hV).1, rfl, (t_typeAt hV).1, rfl, (t_widthOf hV).1, rfl, d⟩
        · rw [b] at g; exact absurd g (by decide)
        · rw [b] at g; exact absurd g (by decide)
      · rcases why_t (A := v 462) (t := t) with ⟨a, b⟩ | ⟨a, b, c⟩ | ⟨a, b, c, d⟩ | ⟨a, b, c⟩ | ⟨a, b, _⟩
        · rw [a] at g; exact absurd g (by decide)
        · rw [b] at g; exact absurd g (by decide)
        · rw [b] at g; exact absurd g (by decide)
        · exact ⟨(t_isDue hV).1, rfl, c⟩
        · rw [b] at g; exact absurd g (by decide)
      · rw [e64, e66]
        by_cases g : sReason (v 462) t = 0
        · rw [if_pos g, if_pos (show sReason (v 462) t ≤ 0 by rw [g]; decide), if_neg]
          rcases judg_4 (A := v 462) (t := t) with e | e | e | e <;> rw [e] <;> decide
        · rw [if_neg g, if_pos rfl, if_neg]
          rcases why_t (A := v 462) (t := t) with ⟨a, b⟩ | ⟨a, b, c⟩ | ⟨a, b, c, d⟩ | ⟨a, b, c⟩ | ⟨a, b, _⟩
          · rw [a]; decide
          · rw [b]; decide
          · rw [b]; decide
          · rw [b]; decide
          · exact absurd b g
      · have hr : v 462 206 ≠ 0 ∧ sReason (v 462) t = 0 := by
          rcases why_t (A := v 462) (t := t) with ⟨a, b⟩ | ⟨a, b, c⟩ | ⟨a, b, c, d⟩ | ⟨a, b, c⟩ | ⟨a, b, _⟩
          · rw [a] at g; exact absurd (by decide) g
          · rw [b] at g; exact absurd (by decide) g
          · rw [b] at g; exact absurd (by decide) g
          · rw [b] at g; exact absurd (by decide) g
          · exact ⟨a, b⟩
        rw [(ta_0 h6 hr.1).2, if_pos hr.2]
        dsimp only
        refine ⟨(t_wasDoubted hV).1, rfl, fun z => ⟨(t_wouldJudge hV).1, rfl, fun z3 => ?_⟩⟩
        rcases judg_4 (A := v 462) (t := t) with e | e | e | e
        · rw [e] at z3; exact absurd z3 (by decide)
        · rw [e] at z3; exact absurd z3 (by decide)
        · rw [e] at z3; exact absurd z3 (by decide)
        · have e0 := judg3e e
          rw [e0, if_neg (by decide)] at z
          exact z rfl
      · rw [of_S (by omega), e51]
        exact r.1
      · rw [of_S (by omega)]
        exact r.2
theorem hd_y (hV : Inv n m v) (hX : XI N (v 462)) (hJ : XJ (v 462)) : ∀ fl k, k ≤ ((v 462) 205).toNatClampNeg → ((v 462) 205).toNatClampNeg < fl + k → olL_holds_467 v 448 fl (Int32.ofNat k) := by
  have h7 := hV.wf.1.2.2.1
  have l7 := inn_lt h7
  intro fl
  induction fl with
  | zero => intro k h1 h2; omega
  | succ fl ih =>
    intro k h1 h2
    unfold olL_holds_467
    rw [x_types hV]
    intro q
    rw [of_le h7.1 (by omega)] at q
    have hk : k < ((v 462) 205).toNatClampNeg := by omega
    have hy := isY_k h7 hk
    have hL := (hV.wf.2.2.2.1.1 _ hk).1
    rw [x_lengthOf hV hy, to_of (by omega)]
    dsimp only
    refine ⟨chart_o hV hX hJ hk, (t_lengthOf hV).1, rfl, fun z => ?_, fun z => ?_, ?_⟩
    · have := i_lt z
      rw [show (100 : Int32).toInt = 100 from rfl] at this
      omega
    · have := i_lt z
      rw [show (14000 : Int32).toInt = 14000 from rfl] at this
      omega
    · rw [of_S (by omega)]
      exact ih (k + 1) (by omega) (by omega)
theorem hd_b (hV : Inv n m v) : ∀ fl k y, k ≤ ((v 462) 204).toNatClampNeg → ((v 462) 204).toNatClampNeg < fl + k → olL_holds_543 v 448 x fl (Int32.ofNat k) y := by
  have h7 := hV.wf.1.2.1
  have l7 := inn_lt h7
  intro fl
  induction fl with
  | zero => intro k y h1 h2; omega
  | succ fl ih =>
    intro k y h1 h2
    unfold olL_holds_543
    rw [x_blocks hV]
    intro q
    rw [of_le h7.1 (by omega)] at q
    have hT := isB_k h7 (show k < ((v 462) 204).toNatClampNeg by omega)
    refine ⟨low_o (by decide), fun _ => ⟨(t_blockLength hV).1, by rw [x_blockLength hV hT]⟩, fun _ _ => ?_⟩
    rw [of_S (by omega)]
    exact ih (k + 1) _ (by omega) (by omega)
end T56a
