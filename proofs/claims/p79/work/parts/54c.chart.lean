/-! P79, PLAIN 8b: the law's look at a chart, all of it. -/
section T54c
variable {n m N : Nat} {v w : vSt} {A B : Ar} {p p2 p3 x y a : Int32} {k t c i : Nat} {f : Ar}
/-- the signals of a chart, by their bits -/
theorem sig_v (hV : Inv n m v) (hy : sIsY (v 462) p ≠ 0) (hC : CF v p c (v ((((rN (v 448 0)) + 2 + 3) + 31 + p.toNatClampNeg) + 10))) (e8 : v 462 ((78 + 21 * p.toNatClampNeg + 8)) = Int32.ofNat c) (f : Ar) (hf : f = v ((((rN (v 448 0)) + 2 + 3) + 31 + p.toNatClampNeg) + 10)) :
    ∃ S1 M8 : Int32, (fX11_signalsOf 461 p v).1 = (if c = 0 then 0 else S1 + (if 6 ≤ c ∧ (fc (upB f) (c - 5) 5 = 5 ∨ fc (dnB f) (c - 5) 5 = 5) then 2 else 0) + (if 7 ≤ c ∧ (fc (poB f) (c - 7) 7 = 7 ∨ fc (neB f) (c - 7) 7 = 7) then 4 else 0) + M8) ∧ (S1 = 0 ∨ S1 = 1) ∧ (M8 = 0 ∨ M8 = 8) ∧ (c < 3 → M8 = 0) := by
  subst hf
  obtain ⟨c', h12, e9, e8', hw, ho⟩ := cfacts hV hy
  have ecc : c' = c := by
    rw [e8] at e8'
    have := congrArg Int32.toInt e8'
    rw [of_ti (by have := hC.1; omega), of_ti (by omega)] at this
    omega
  subst ecc
  have hk := isY_in hV.wf.1.2.2.1 hy
  have hY := hV.sr.2.2.2.2.1 _ hk.2
  have hW := hV.wf.2.2.2.1.1 _ hk.2
  have hf : ∀ j, j < c' → -50000 ≤ (v ((((rN (v 448 0)) + 2 + 3) + 31 + p.toNatClampNeg) + 10) j).toInt ∧ (v ((((rN (v 448 0)) + 2 + 3) + 31 + p.toNatClampNeg) + 10) j).toInt ≤ 50000 := fun j hj => by
    rw [hY.2.2 j (by rw [e8, to_of (by omega)]; exact hj)]
    exact hW.2.2.2.2.2.2.2.2.2 j (by omega)
  have e := k462 (v := v) (k := 0)
  have a1 := fun h6 : 6 ≤ c' => (on_m (K := 5) (side := 1) (ob := 1) h12 (by rw [if_neg (by decide)]; omega) (Or.inl rfl) hf (ho _) (hw _ e).1 (hw _ e).2).2
  have a2 := fun h6 : 6 ≤ c' => (on_m (K := 5) (side := -1) (ob := 1) h12 (by rw [if_neg (by decide)]; omega) (Or.inr rfl) hf (ho _) (hw _ e).1 (hw _ e).2).2
  have a3 := fun h6 : 7 ≤ c' => (on_m (K := 7) (side := 1) (ob := 0) h12 (by rw [if_pos (by decide)]; omega) (Or.inl rfl) hf (ho _) (hw _ e).1 (hw _ e).2).2
  have a4 := fun h6 : 7 ≤ c' => (on_m (K := 7) (side := -1) (ob := 0) h12 (by rw [if_pos (by decide)]; omega) (Or.inr rfl) hf (ho _) (hw _ e).1 (hw _ e).2).2
  rw [on_up] at a1
  rw [on_dn] at a2
  rw [on_po] at a3
  rw [on_ne] at a4
  rw [show Int32.ofNat 5 = (5 : Int32) from rfl] at a1 a2
  rw [show Int32.ofNat 7 = (7 : Int32) from rfl] at a3 a4
  have l6 := oflt (k := c') (n := 6) (by omega) (by omega)
  have l7 := oflt (k := c') (n := 7) (by omega) (by omega)
  have l3 := oflt (k := c') (n := 3) (by omega) (by omega)
  rw [show Int32.ofNat 6 = (6 : Int32) from rfl] at l6
  rw [show Int32.ofNat 7 = (7 : Int32) from rfl] at l7
  rw [show Int32.ofNat 3 = (3 : Int32) from rfl] at l3
  have z0 : Int32.ofNat c' = 0 ↔ c' = 0 := ⟨fun q => by have := congrArg Int32.toInt q; rw [of_ti (by omega), show (0 : Int32).toInt = 0 from rfl] at this; omega, fun q => by rw [q]; rfl⟩
  unfold fX11_signalsOf
  rw [show fX11_isType 461 p v = sIsY (v 462) p from rfl, asks_1 hy]
  dsimp only
  rw [if_neg hy, (hw _ e).1]
  by_cases h0 : c' = 0
  · rw [if_pos (z0.mpr h0)]
    exact ⟨0, 0, by rw [if_pos h0], Or.inl rfl, Or.inl rfl, fun _ => rfl⟩
  rw [if_neg (mt z0.mp h0)]
  have m2 : (if Int32.ofNat c' < 6 then 0 else (if fX11_onSide 461 p 5 1 1 (u2 v 461 8 0) = 5 then 2 else (if fX11_onSide 461 p 5 (-1) 1 (u2 v 461 8 0) = 5 then 2 else 0)) : Int32) = (if 6 ≤ c' ∧ (fc (upB (v ((((rN (v 448 0)) + 2 + 3) + 31 + p.toNatClampNeg) + 10))) (c' - 5) 5 = 5 ∨ fc (dnB (v ((((rN (v 448 0)) + 2 + 3) + 31 + p.toNatClampNeg) + 10))) (c' - 5) 5 = 5) then 2 else 0) := by
    by_cases q6 : c' < 6
    · rw [if_pos (l6.mpr q6), if_neg (by omega)]
    rw [if_neg (mt l6.mp q6), a1 (by omega), a2 (by omega)]
    have b1 := fc_le (P := upB (v ((((rN (v 448 0)) + 2 + 3) + 31 + p.toNatClampNeg) + 10))) (s := c' - 5) (n := 5)
    have b2 := fc_le (P := dnB (v ((((rN (v 448 0)) + 2 + 3) + 31 + p.toNatClampNeg) + 10))) (s := c' - 5) (n := 5)
    have g1 := eqN (N := 5) b1 (by decide)
    have g2 := eqN (N := 5) b2 (by decide)
    rw [show Int32.ofNat 5 = (5 : Int32) from rfl] at g1 g2
    by_cases t1 : fc (upB (v ((((rN (v 448 0)) + 2 + 3) + 31 + p.toNatClampNeg) + 10))) (c' - 5) 5 = 5
    · rw [if_pos (g1.mpr t1), if_pos ⟨by omega, Or.inl t1⟩]
    rw [if_neg (mt g1.mp t1)]
    by_cases t2 : fc (dnB (v ((((rN (v 448 0)) + 2 + 3) + 31 + p.toNatClampNeg) + 10))) (c' - 5) 5 = 5
    · rw [if_pos (g2.mpr t2), if_pos ⟨by omega, Or.inr t2⟩]
    · rw [if_neg (mt g2.mp t2), if_neg (fun q => q.2.elim t1 t2)]
  have m4 : (if Int32.ofNat c' < 7 then 0 else (if fX11_onSide 461 p 7 1 0 (u2 v 461 8 0) = 7 then 4 else (if fX11_onSide 461 p 7 (-1) 0 (u2 v 461 8 0) = 7 then 4 else 0)) : Int32) = (if 7 ≤ c' ∧ (fc (poB (v ((((rN (v 448 0)) + 2 + 3) + 31 + p.toNatClampNeg) + 10))) (c' - 7) 7 = 7 ∨ fc (neB (v ((((rN (v 448 0)) + 2 + 3) + 31 + p.toNatClampNeg) + 10))) (c' - 7) 7 = 7) then 4 else 0) := by
    by_cases q6 : c' < 7
    · rw [if_pos (l7.mpr q6), if_neg (by omega)]
    rw [if_neg (mt l7.mp q6), a3 (by omega), a4 (by omega)]
    have b1 := fc_le (P := poB (v ((((rN (v 448 0)) + 2 + 3) + 31 + p.toNatClampNeg) + 10))) (s := c' - 7) (n := 7)
    have b2 := fc_le (P := neB (v ((((rN (v 448 0)) + 2 + 3) + 31 + p.toNatClampNeg) + 10))) (s := c' - 7) (n := 7)
    have g1 := eqN (N := 7) b1 (by decide)
    have g2 := eqN (N := 7) b2 (by decide)
    rw [show Int32.ofNat 7 = (7 : Int32) from rfl] at g1 g2
    by_cases t1 : fc (poB (v ((((rN (v 448 0)) + 2 + 3) + 31 + p.toNatClampNeg) + 10))) (c' - 7) 7 = 7
    · rw [if_pos (g1.mpr t1), if_pos ⟨by omega, Or.inl t1⟩]
    rw [if_neg (mt g1.mp t1)]
    by_cases t2 : fc (neB (v ((((rN (v 448 0)) + 2 + 3) + 31 + p.toNatClampNeg) + 10))) (c' - 7) 7 = 7
    · rw [if_pos (g2.mpr t2), if_pos ⟨by omega, Or.inr t2⟩]
    · rw [if_neg (mt g2.mp t2), if_neg (fun q => q.2.elim t1 t2)]
  rw [m2, m4]
  generalize hS : (if fX11_of 461 p 2 (u2 v 461 8 0) < fX11_onChart 461 p (Int32.ofNat c' - 1) (u2 v 461 8 0) then 1 else (if fX11_of 461 p 1 (u2 v 461 8 0) ≤ fX11_onChart 461 p (Int32.ofNat c' - 1) (u2 v 461 8 0) then 0 else 1) : Int32) = S1
  have hS1 : S1 = 0 ∨ S1 = 1 := by
    rw [← hS]
    split
    · exact Or.inr rfl
    · split
      · exact Or.inl rfl
      · exact Or.inr rfl
  by_cases q3 : c' < 3
  · rw [if_pos (l3.mpr q3)]
    exact ⟨S1, 0, by first | rfl | rw [if_neg h0], hS1, Or.inl rfl, fun _ => rfl⟩
  rw [if_neg (mt l3.mp q3)]
  split
  · exact ⟨S1, 8, by first | rfl | rw [if_neg h0], hS1, Or.inr rfl, fun q => absurd q q3⟩
  · split
    · exact ⟨S1, 0, by first | rfl | rw [if_neg h0], hS1, Or.inl rfl, fun _ => rfl⟩
    · exact ⟨S1, 8, by first | rfl | rw [if_neg h0], hS1, Or.inr rfl, fun q => absurd q q3⟩
/-- the middle, both ways; the spread; the mean -/
theorem mid_v (hV : Inv n m v) (hy : sIsY (v 462) p ≠ 0) (hC : CF v p c (v ((((rN (v 448 0)) + 2 + 3) + 31 + p.toNatClampNeg) + 10))) (h0 : 0 < c) (f : Ar) (hf : f = v ((((rN (v 448 0)) + 2 + 3) + 31 + p.toNatClampNeg) + 10)) :
    (∃ a, fX10_middleOf 448 p v = (0, a, v) ∧ fX10_middleByTaking 448 p v = (0, a, v) ∧ OS f c (c / 2) a) ∧
    (∃ lo hi, fX10_spreadOf 448 p v = (0, hi - lo) ∧ ((∃ j, j < c ∧ f j = lo) ∧ ∀ j, j < c → lo.toInt ≤ (f j).toInt) ∧ ((∃ j, j < c ∧ f j = hi) ∧ ∀ j, j < c → (f j).toInt ≤ hi.toInt)) ∧
    fX10_meanOf 448 p v = (0, FP.fdiv (FP.i2f (suI f c)) (FP.i2f (Int32.ofNat c))) := by
  subst hf
  obtain ⟨h12, c1, c2⟩ := hC
  have t1 := t_middleOf (p := p) hV
  have t2 := t_middleByTaking (p := p) hV
  rcases chart3 (p := p) hV with ⟨e1, e2⟩ | ⟨e1, e2⟩ | ⟨c', h0', h12', hy', e9, hw, hof, e1, e2⟩
  · have : fX10_needChart 448 p v = _ := e1
    unfold fX10_needChart at this
    rw [needY hV, if_neg hy] at this
    dsimp only at this
    rw [if_pos rfl] at this
    split at this
    · exact absurd (show (0 : Nat) = 1 from congrArg Prod.fst this) (by decide)
    · exact absurd (show (3 : Nat) = 1 from congrArg Prod.fst this) (by decide)
  · -- an empty chart is no case
    have hc9 : v ((((rN (v 448 0)) + 2 + 3) + 31 + p.toNatClampNeg)) 9 = Int32.ofNat c := by
      have hk := isY_in hV.wf.1.2.2.1 hy
      have hY := hV.sr.2.2.2.2.1 _ hk.2
      have e9 : v ((((rN (v 448 0)) + 2 + 3) + 31 + p.toNatClampNeg)) 9 = v 462 ((78 + 21 * p.toNatClampNeg + 8)) := hY.1.2.2.2.2.2.2.2
      rw [x_charted hV hy] at c1
      rw [e9]
      exact (congrArg Prod.snd c1)
    have : fX10_needChart 448 p v = _ := e1
    unfold fX10_needChart at this
    rw [needY hV, if_neg hy] at this
    dsimp only at this
    rw [if_pos rfl, hc9, if_pos (by rw [Int32.lt_iff_toInt_lt, of_ti (by omega), show (0 : Int32).toInt = 0 from rfl]; omega)] at this
    exact absurd (show (0 : Nat) = 3 from congrArg Prod.fst this) (by decide)
  · have ecc : c' = c := by
      have hk := isY_in hV.wf.1.2.2.1 hy
      have hY := hV.sr.2.2.2.2.1 _ hk.2
      have e9' : v ((((rN (v 448 0)) + 2 + 3) + 31 + p.toNatClampNeg)) 9 = v 462 ((78 + 21 * p.toNatClampNeg + 8)) := hY.1.2.2.2.2.2.2.2
      rw [x_charted hV hy] at c1
      have := (e9.symm.trans e9').trans (congrArg Prod.snd c1)
      have := congrArg Int32.toInt this
      rw [of_ti (by omega), of_ti (by omega)] at this
      omega
    subst ecc
    have hm := mid_c h0 h12 (v ((((rN (v 448 0)) + 2 + 3) + 31 + p.toNatClampNeg) + 10))
    have hm2 := midL_c h0 h12 (v ((((rN (v 448 0)) + 2 + 3) + 31 + p.toNatClampNeg) + 10))
    have o1 : OS (v ((((rN (v 448 0)) + 2 + 3) + 31 + p.toNatClampNeg) + 10)) c' (c' / 2) (fX4_middleInOrder ((((rN (v 448 0)) + 2 + 3) + 31 + p.toNatClampNeg)) v).1 := by
      unfold fX4_middleInOrder
      dsimp only
      rw [e9]
      exact hm
    have o2 : OS (v ((((rN (v 448 0)) + 2 + 3) + 31 + p.toNatClampNeg) + 10)) c' (c' / 2) (fX4_middleLeft ((((rN (v 448 0)) + 2 + 3) + 31 + p.toNatClampNeg)) v).1 := by
      unfold fX4_middleLeft
      dsimp only
      rw [e9]
      exact hm2.2
    have eq : (fX4_middleLeft ((((rN (v 448 0)) + 2 + 3) + 31 + p.toNatClampNeg)) v).1 = (fX4_middleInOrder ((((rN (v 448 0)) + 2 + 3) + 31 + p.toNatClampNeg)) v).1 := o1.uq o2.2.1 o2.2.2
    have m1 : fX10_middleOf 448 p v = (0, (fX4_middleInOrder ((((rN (v 448 0)) + 2 + 3) + 31 + p.toNatClampNeg)) v).1, v) := by
      have hv := t1.2.2.2
      have h : fX10_middleOf 448 p v = (0, (fX4_middleInOrder ((((rN (v 448 0)) + 2 + 3) + 31 + p.toNatClampNeg)) v).1, (fX4_middleInOrder ((((rN (v 448 0)) + 2 + 3) + 31 + p.toNatClampNeg)) v).2) := by
        unfold fX10_middleOf
        rw [e1]
        rfl
      rw [h] at hv
      rw [h]
      exact Prod.ext rfl (Prod.ext rfl hv)
    have m2 : fX10_middleByTaking 448 p v = (0, (fX4_middleLeft ((((rN (v 448 0)) + 2 + 3) + 31 + p.toNatClampNeg)) v).1, v) := by
      have hv := t2.2.2.2
      have h : fX10_middleByTaking 448 p v = (0, (fX4_middleLeft ((((rN (v 448 0)) + 2 + 3) + 31 + p.toNatClampNeg)) v).1, (fX4_middleLeft ((((rN (v 448 0)) + 2 + 3) + 31 + p.toNatClampNeg)) v).2) := by
        unfold fX10_middleByTaking
        rw [e1]
        rfl
      rw [h] at hv
      rw [h]
      exact Prod.ext rfl (Prod.ext rfl hv)
    obtain ⟨a1, q1, a2, a3, a4⟩ := le_t h12 (v ((((rN (v 448 0)) + 2 + 3) + 31 + p.toNatClampNeg) + 10)) h0
    obtain ⟨b1, q2, b2, b3, b4⟩ := gr_t h12 (v ((((rN (v 448 0)) + 2 + 3) + 31 + p.toNatClampNeg) + 10)) h0
    refine ⟨⟨_, m1, by rw [m2, eq], o1⟩, ⟨v ((((rN (v 448 0)) + 2 + 3) + 31 + p.toNatClampNeg) + 10) q1, v ((((rN (v 448 0)) + 2 + 3) + 31 + p.toNatClampNeg) + 10) q2, ?_, ⟨⟨q1, a3, rfl⟩, a4⟩, ⟨⟨q2, b3, rfl⟩, b4⟩⟩, ?_⟩
    · unfold fX10_spreadOf
      rw [e1]
      refine Prod.ext rfl ?_
      show fX4_spread _ v = _
      unfold fX4_spread
      rw [e9, a2, b2, entry_at (inn_of (show q1 < 12 by omega) (by decide)) (by decide), entry_at (inn_of (show q2 < 12 by omega) (by decide)) (by decide), to_of (by omega), to_of (by omega)]
    · have hn0 : Int32.ofNat c' ≠ 0 := fun q => by
        have := congrArg Int32.toInt q
        rw [of_ti (by omega), show Int32.toInt 0 = 0 from rfl] at this
        omega
      have L : ∀ fl i, i ≤ c' → c' < fl + i → lX4_chartSum_4 v ((((rN (v 448 0)) + 2 + 3) + 31 + p.toNatClampNeg)) fl (Int32.ofNat i) (suI (v ((((rN (v 448 0)) + 2 + 3) + 31 + p.toNatClampNeg) + 10)) i) = suI (v ((((rN (v 448 0)) + 2 + 3) + 31 + p.toNatClampNeg) + 10)) c' := by
        intro fl
        induction fl with
        | zero => intro i h1 h2; omega
        | succ fl ih =>
          intro i h1 h2
          unfold lX4_chartSum_4
          rw [e9]
          have hle := ofle (k := c') (n := i) (by omega) (by omega)
          by_cases q : c' ≤ i
          · rw [if_pos (hle.mpr q), show i = c' by omega]
          · rw [if_neg (mt hle.mp q), of_S (by omega), entry_at (inn_of (show i < 12 by omega) (by decide)) (by decide), to_of (by omega)]
            exact ih (i + 1) (by omega) (by omega)
      unfold fX10_meanOf
      rw [e1]
      refine Prod.ext rfl ?_
      show fX10_share (fX4_chartSum ((((rN (v 448 0)) + 2 + 3) + 31 + p.toNatClampNeg)) v) (v ((((rN (v 448 0)) + 2 + 3) + 31 + p.toNatClampNeg)) 9) v = _
      have es : fX4_chartSum ((((rN (v 448 0)) + 2 + 3) + 31 + p.toNatClampNeg)) v = suI (v ((((rN (v 448 0)) + 2 + 3) + 31 + p.toNatClampNeg) + 10)) c' := by
        unfold fX4_chartSum
        rw [e9]
        exact L _ 0 (by omega) (by rw [of_ti (by omega), show Int32.toInt 0 = 0 from rfl]; omega)
      rw [es, e9]
      unfold fX10_share
      rw [if_neg hn0]
end T54c
