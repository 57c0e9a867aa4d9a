/-! THE PLAIN PART 14e: the signals. -/
section T43e
variable {n m : Nat} {v w : vSt} {A : Ar} {z k p p2 p3 y : Int32} {f : Ar} {lo up : Int32}
theorem on_up : onB (1 : Int32).toInt (decide ((1 : Int32) ≠ 0)) f = upB f := by
  funext j
  unfold onB upB
  rw [if_pos (by decide), show (1 : Int32).toInt = 1 from rfl]
  exact decide_eq_decide.mpr (by omega)
theorem on_dn : onB (-1 : Int32).toInt (decide ((1 : Int32) ≠ 0)) f = dnB f := by
  funext j
  unfold onB dnB
  rw [if_pos (by decide), show (-1 : Int32).toInt = -1 from rfl]
  exact decide_eq_decide.mpr (by omega)
theorem on_po : onB (1 : Int32).toInt (decide ((0 : Int32) ≠ 0)) f = poB f := by
  funext j
  unfold onB poB
  rw [if_neg (by decide), show (1 : Int32).toInt = 1 from rfl]
  exact decide_eq_decide.mpr (by omega)
theorem on_ne : onB (-1 : Int32).toInt (decide ((0 : Int32) ≠ 0)) f = neB f := by
  funext j
  unfold onB neB
  rw [if_neg (by decide), show (-1 : Int32).toInt = -1 from rfl]
  exact decide_eq_decide.mpr (by omega)
theorem fa_1 : faB 1 lo up f = hiB up f := by funext j; unfold faB; rw [if_neg (by decide)]
theorem fa_0 : faB 0 lo up f = loB lo f := by funext j; unfold faB; rw [if_pos rfl]
theorem eqN {x N : Nat} (hx : x ≤ N) (hN : N < 2 ^ 30) : Int32.ofNat x = Int32.ofNat N ↔ x = N := ⟨fun q => by have := congrArg Int32.toInt q; rw [of_ti (by omega), of_ti (by omega)] at this; omega, fun q => by rw [q]⟩
theorem t_signalsOf (hI : Inv n m v) : oX10_signalsOf 448 p v ∧ oX11_signalsOf 461 p v ∧ OQ v (fX10_signalsOf 448 p v).1 (fX10_signalsOf 448 p v).2 (fX11_signalsOf 461 p v) (Int32.ofNat (fX10_signalsOf 448 p v).1) := by
  have hA : oX11_isType 461 p v ∧ oX11_asks 461 (fX11_isType 461 p v) v := ⟨mo_isType, asksY⟩
  unfold oX10_signalsOf oX11_signalsOf fX10_signalsOf fX11_signalsOf
  have hkd := needY_o (p := p) hI
  rw [needY hI] at hkd ⊢
  rw [show fX11_isType 461 p v = sIsY (v 462) p from rfl] at hA ⊢
  by_cases hy : sIsY (v 462) p = 0
  · rw [if_pos hy, asks_0 hy]
    dsimp only
    rw [if_pos hy]
    exact ⟨⟨hkd.1, fun q => absurd (show (1 : Nat) = 0 from q) (by decide)⟩, ⟨hA.1, by rw [← show fX11_isType 461 p v = sIsY (v 462) p from rfl]; exact asksY, fun v3 _ q => absurd hy q⟩, ⟨qs_u2, fun q => absurd (show (1 : Nat) = 0 from q) (by decide)⟩⟩
  rw [if_neg hy] at hkd ⊢
  rw [asks_1 hy]
  dsimp only
  obtain ⟨c, h12, e9, e8, hw, ho⟩ := cfacts hI hy
  have hk := isY_in hI.wf.1.2.2.1 hy
  have hY := hI.sr.2.2.2.2.1 _ hk.2
  have hW := hI.wf.2.2.2.1.1 _ hk.2
  have r1 : v ((((rN (v 448 0)) + 2 + 3) + 31 + p.toNatClampNeg)) 1 = v 462 ((78 + 21 * p.toNatClampNeg + 1)) := hY.1.2.1
  have r2 : v ((((rN (v 448 0)) + 2 + 3) + 31 + p.toNatClampNeg)) 2 = v 462 ((78 + 21 * p.toNatClampNeg + 2)) := hY.1.2.2.1
  have o1 : ∀ w : vSt, w 462 = v 462 → fX11_of 461 p 1 w = v ((((rN (v 448 0)) + 2 + 3) + 31 + p.toNatClampNeg)) 1 ∧ oX11_of 461 p 1 w := fun w e => ⟨by rw [m_of hk.1 (by decide), e, r1]; rfl, mo_of hk.1 (by decide)⟩
  have o2 : ∀ w : vSt, w 462 = v 462 → fX11_of 461 p 2 w = v ((((rN (v 448 0)) + 2 + 3) + 31 + p.toNatClampNeg)) 2 ∧ oX11_of 461 p 2 w := fun w e => ⟨by rw [m_of hk.1 (by decide), e, r2]; rfl, mo_of hk.1 (by decide)⟩
  have hf : ∀ j, j < c → -50000 ≤ (v ((((rN (v 448 0)) + 2 + 3) + 31 + p.toNatClampNeg) + 10) j).toInt ∧ (v ((((rN (v 448 0)) + 2 + 3) + 31 + p.toNatClampNeg) + 10) j).toInt ≤ 50000 := fun j hj => by
    rw [hY.2.2 j (by rw [e8, to_of (by omega)]; exact hj)]
    exact hW.2.2.2.2.2.2.2.2.2 j (by omega)
  have hu : -50000 ≤ (v ((((rN (v 448 0)) + 2 + 3) + 31 + p.toNatClampNeg)) 2).toInt ∧ (v ((((rN (v 448 0)) + 2 + 3) + 31 + p.toNatClampNeg)) 2).toInt ≤ 50000 := by
    rw [r2]; have := hW.2.2.1; exact ⟨by have := this.1; omega, by have := this.2; omega⟩
  have hl : -50000 ≤ (v ((((rN (v 448 0)) + 2 + 3) + 31 + p.toNatClampNeg)) 1).toInt ∧ (v ((((rN (v 448 0)) + 2 + 3) + 31 + p.toNatClampNeg)) 1).toInt ≤ 50000 := by
    rw [r1]; have := hW.2.1; omega
  have e5 : ∀ w : vSt, w 462 = v 462 → 6 ≤ c → (oX11_onSide 461 p 5 1 1 w ∧ fX11_onSide 461 p 5 1 1 w = Int32.ofNat (fc (upB (v ((((rN (v 448 0)) + 2 + 3) + 31 + p.toNatClampNeg) + 10))) (c - 5) 5)) ∧ (oX11_onSide 461 p 5 (-1) 1 w ∧ fX11_onSide 461 p 5 (-1) 1 w = Int32.ofNat (fc (dnB (v ((((rN (v 448 0)) + 2 + 3) + 31 + p.toNatClampNeg) + 10))) (c - 5) 5)) := fun w e h6 => by
    have a1 := on_m (K := 5) (side := 1) (ob := 1) h12 (by rw [if_neg (by decide)]; omega) (Or.inl rfl) hf (ho w) (hw w e).1 (hw w e).2
    have a2 := on_m (K := 5) (side := -1) (ob := 1) h12 (by rw [if_neg (by decide)]; omega) (Or.inr rfl) hf (ho w) (hw w e).1 (hw w e).2
    rw [on_up] at a1
    rw [on_dn] at a2
    exact ⟨a1, a2⟩
  have e7 : ∀ w : vSt, w 462 = v 462 → 7 ≤ c → (oX11_onSide 461 p 7 1 0 w ∧ fX11_onSide 461 p 7 1 0 w = Int32.ofNat (fc (poB (v ((((rN (v 448 0)) + 2 + 3) + 31 + p.toNatClampNeg) + 10))) (c - 7) 7)) ∧ (oX11_onSide 461 p 7 (-1) 0 w ∧ fX11_onSide 461 p 7 (-1) 0 w = Int32.ofNat (fc (neB (v ((((rN (v 448 0)) + 2 + 3) + 31 + p.toNatClampNeg) + 10))) (c - 7) 7)) := fun w e h6 => by
    have a1 := on_m (K := 7) (side := 1) (ob := 0) h12 (by rw [if_pos (by decide)]; omega) (Or.inl rfl) hf (ho w) (hw w e).1 (hw w e).2
    have a2 := on_m (K := 7) (side := -1) (ob := 0) h12 (by rw [if_pos (by decide)]; omega) (Or.inr rfl) hf (ho w) (hw w e).1 (hw w e).2
    rw [on_po] at a1
    rw [on_ne] at a2
    exact ⟨a1, a2⟩
  have e3 : ∀ w : vSt, w 462 = v 462 → 3 ≤ c → (oX11_farOut 461 p 1 w ∧ fX11_farOut 461 p 1 w = Int32.ofNat (fc (hiB (v ((((rN (v 448 0)) + 2 + 3) + 31 + p.toNatClampNeg)) 2) (v ((((rN (v 448 0)) + 2 + 3) + 31 + p.toNatClampNeg) + 10))) (c - 3) 3)) ∧ (oX11_farOut 461 p 0 w ∧ fX11_farOut 461 p 0 w = Int32.ofNat (fc (loB (v ((((rN (v 448 0)) + 2 + 3) + 31 + p.toNatClampNeg)) 1) (v ((((rN (v 448 0)) + 2 + 3) + 31 + p.toNatClampNeg) + 10))) (c - 3) 3)) := fun w e h6 => by
    have a1 := fo_m (ab := 1) h12 h6 hf hu hl (o1 w e) (o2 w e) (ho w) (hw w e).1 (hw w e).2
    have a2 := fo_m (ab := 0) h12 h6 hf hu hl (o1 w e) (o2 w e) (ho w) (hw w e).1 (hw w e).2
    rw [fa_1] at a1
    rw [fa_0] at a2
    exact ⟨a1, a2⟩
  have l6 := oflt (k := c) (n := 6) (by omega) (by omega)
  have l7 := oflt (k := c) (n := 7) (by omega) (by omega)
  have l3 := oflt (k := c) (n := 3) (by omega) (by omega)
  rw [show Int32.ofNat 6 = (6 : Int32) from rfl] at l6
  rw [show Int32.ofNat 7 = (7 : Int32) from rfl] at l7
  rw [show Int32.ofNat 3 = (3 : Int32) from rfl] at l3
  have z0 : Int32.ofNat c = 0 ↔ c = 0 := ⟨fun q => by have := congrArg Int32.toInt q; rw [of_ti (by omega), show (0 : Int32).toInt = 0 from rfl] at this; omega, fun q => by rw [q]; rfl⟩
  refine ⟨⟨hkd.1, fun _ => hkd.2 rfl⟩, ⟨hA.1, by rw [← show fX11_isType 461 p v = sIsY (v 462) p from rfl]; exact asksY, fun v3 e3' _ => ?_⟩, ?_⟩
  · have e : v3 462 = v 462 := by rw [e3']; exact k462
    rw [(hw v3 e).1]
    refine ⟨ho _, fun h0 => ?_⟩
    have h0 := mt z0.mpr h0
    rw [ofn1' (by omega) (by omega)]
    refine ⟨((hw v3 e).2 _ (by omega)).2, (o2 v3 e).2, fun _ => (o1 v3 e).2, fun y9 _ => ⟨fun q => ?_, fun y11 _ => ⟨fun q => ?_, fun y13 _ => fun q => ?_⟩⟩⟩
    · exact ⟨(e5 v3 e (by have := mt l6.mpr q; omega)).1.1, fun _ => (e5 v3 e (by have := mt l6.mpr q; omega)).2.1⟩
    · exact ⟨(e7 v3 e (by have := mt l7.mpr q; omega)).1.1, fun _ => (e7 v3 e (by have := mt l7.mpr q; omega)).2.1⟩
    · exact ⟨(e3 v3 e (by have := mt l3.mpr q; omega)).1.1, fun _ => (e3 v3 e (by have := mt l3.mpr q; omega)).2.1⟩
  · rw [if_pos (show (0 : Nat) = 0 from rfl), if_neg hy, (hw _ k462).1]
    unfold fX4_signals
    rw [e9]
    by_cases h0 : c = 0
    · rw [if_pos (z0.mpr h0), h0, if_neg (by decide)]
      exact ⟨qs_u2, fun _ => rfl⟩
    have p0 : (0 : Int32) < Int32.ofNat c := by rw [Int32.lt_iff_toInt_lt, of_ti (by omega), show (0 : Int32).toInt = 0 from rfl]; omega
    rw [if_neg (mt z0.mp h0), if_pos p0]
    have f0 := fe_t (r := (((rN (v 448 0)) + 2 + 3) + 31 + p.toNatClampNeg)) (k := 0) h12 e9 (by omega)
    rw [show Int32.ofNat 0 = (0 : Int32) from rfl, show c - 1 - 0 = c - 1 by omega] at f0
    rw [f0, ofn1' (by omega) (by omega), ((hw _ k462).2 _ (by omega)).1, (o1 _ k462).1, (o2 _ k462).1]
    generalize hS1 : (if v ((((rN (v 448 0)) + 2 + 3) + 31 + p.toNatClampNeg)) 2 < v ((((rN (v 448 0)) + 2 + 3) + 31 + p.toNatClampNeg) + 10) (c - 1) then 1 else (if v ((((rN (v 448 0)) + 2 + 3) + 31 + p.toNatClampNeg)) 1 ≤ v ((((rN (v 448 0)) + 2 + 3) + 31 + p.toNatClampNeg) + 10) (c - 1) then 0 else 1) : Int32) = S1
    rw [show (0 : Int32) + 1 = 1 from rfl, hS1]
    dsimp only
    obtain ⟨⟨_, s1⟩, ⟨_, s2⟩⟩ : (True ∧ (6 ≤ c → fX11_onSide 461 p 5 1 1 (u2 v 461 8 0) = Int32.ofNat (fc (upB (v ((((rN (v 448 0)) + 2 + 3) + 31 + p.toNatClampNeg) + 10))) (c - 5) 5))) ∧ (True ∧ (6 ≤ c → fX11_onSide 461 p 5 (-1) 1 (u2 v 461 8 0) = Int32.ofNat (fc (dnB (v ((((rN (v 448 0)) + 2 + 3) + 31 + p.toNatClampNeg) + 10))) (c - 5) 5))) := ⟨⟨trivial, fun h => (e5 _ k462 h).1.2⟩, ⟨trivial, fun h => (e5 _ k462 h).2.2⟩⟩
    have a6 : (if Int32.ofNat c < 6 then S1 else (if fX4_goesOneWay ((((rN (v 448 0)) + 2 + 3) + 31 + p.toNatClampNeg)) 6 v = 0 then S1 else S1 + 2) : Int32) =
        S1 + (if Int32.ofNat c < 6 then 0 else (if fX11_onSide 461 p 5 1 1 (u2 v 461 8 0) = 5 then 2 else (if fX11_onSide 461 p 5 (-1) 1 (u2 v 461 8 0) = 5 then 2 else 0)) : Int32) := by
      by_cases q6 : c < 6
      · rw [if_pos (l6.mpr q6), if_pos (l6.mpr q6), Int32.add_zero]
      rw [if_neg (mt l6.mp q6), if_neg (mt l6.mp q6), s1 (by omega), s2 (by omega), gw_c h12 e9 (by omega)]
      have b1 := fc_le (P := upB (v ((((rN (v 448 0)) + 2 + 3) + 31 + p.toNatClampNeg) + 10))) (s := c - 5) (n := 5)
      have b2 := fc_le (P := dnB (v ((((rN (v 448 0)) + 2 + 3) + 31 + p.toNatClampNeg) + 10))) (s := c - 5) (n := 5)
      have g1 := eqN (N := 5) b1 (by decide)
      have g2 := eqN (N := 5) b2 (by decide)
      rw [show Int32.ofNat 5 = (5 : Int32) from rfl] at g1 g2
      by_cases t1 : fc (upB (v ((((rN (v 448 0)) + 2 + 3) + 31 + p.toNatClampNeg) + 10))) (c - 5) 5 = 5
      · rw [if_pos (g1.mpr t1), if_pos (Or.inl t1), if_neg (by decide)]
      rw [if_neg (mt g1.mp t1)]
      by_cases t2 : fc (dnB (v ((((rN (v 448 0)) + 2 + 3) + 31 + p.toNatClampNeg) + 10))) (c - 5) 5 = 5
      · rw [if_pos (g2.mpr t2), if_pos (Or.inr t2), if_neg (by decide)]
      rw [if_neg (mt g2.mp t2), if_neg (show ¬ (fc (upB (v ((((rN (v 448 0)) + 2 + 3) + 31 + p.toNatClampNeg) + 10))) (c - 5) 5 = 5 ∨ fc (dnB (v ((((rN (v 448 0)) + 2 + 3) + 31 + p.toNatClampNeg) + 10))) (c - 5) 5 = 5) from fun q => q.elim t1 t2), if_pos rfl, Int32.add_zero]
    rw [a6]
    generalize (if Int32.ofNat c < 6 then 0 else (if fX11_onSide 461 p 5 1 1 (u2 v 461 8 0) = 5 then 2 else (if fX11_onSide 461 p 5 (-1) 1 (u2 v 461 8 0) = 5 then 2 else 0)) : Int32) = M1
    have s3 : 7 ≤ c → fX11_onSide 461 p 7 1 0 (u2 v 461 8 0) = Int32.ofNat (fc (poB (v ((((rN (v 448 0)) + 2 + 3) + 31 + p.toNatClampNeg) + 10))) (c - 7) 7) := fun h => (e7 _ k462 h).1.2
    have s4 : 7 ≤ c → fX11_onSide 461 p 7 (-1) 0 (u2 v 461 8 0) = Int32.ofNat (fc (neB (v ((((rN (v 448 0)) + 2 + 3) + 31 + p.toNatClampNeg) + 10))) (c - 7) 7) := fun h => (e7 _ k462 h).2.2
    have a7 : (if Int32.ofNat c < 7 then S1 + M1 else (if fX4_isOnOneSide ((((rN (v 448 0)) + 2 + 3) + 31 + p.toNatClampNeg)) 7 v = 0 then S1 + M1 else S1 + M1 + 4) : Int32) =
        S1 + M1 + (if Int32.ofNat c < 7 then 0 else (if fX11_onSide 461 p 7 1 0 (u2 v 461 8 0) = 7 then 4 else (if fX11_onSide 461 p 7 (-1) 0 (u2 v 461 8 0) = 7 then 4 else 0)) : Int32) := by
      by_cases q6 : c < 7
      · rw [if_pos (l7.mpr q6), if_pos (l7.mpr q6), Int32.add_zero]
      rw [if_neg (mt l7.mp q6), if_neg (mt l7.mp q6), s3 (by omega), s4 (by omega), os_c h12 e9 (by omega)]
      have b1 := fc_le (P := poB (v ((((rN (v 448 0)) + 2 + 3) + 31 + p.toNatClampNeg) + 10))) (s := c - 7) (n := 7)
      have b2 := fc_le (P := neB (v ((((rN (v 448 0)) + 2 + 3) + 31 + p.toNatClampNeg) + 10))) (s := c - 7) (n := 7)
      have g1 := eqN (N := 7) b1 (by decide)
      have g2 := eqN (N := 7) b2 (by decide)
      rw [show Int32.ofNat 7 = (7 : Int32) from rfl] at g1 g2
      by_cases t1 : fc (poB (v ((((rN (v 448 0)) + 2 + 3) + 31 + p.toNatClampNeg) + 10))) (c - 7) 7 = 7
      · rw [if_pos (g1.mpr t1), if_pos (Or.inl t1), if_neg (by decide)]
      rw [if_neg (mt g1.mp t1)]
      by_cases t2 : fc (neB (v ((((rN (v 448 0)) + 2 + 3) + 31 + p.toNatClampNeg) + 10))) (c - 7) 7 = 7
      · rw [if_pos (g2.mpr t2), if_pos (Or.inr t2), if_neg (by decide)]
      rw [if_neg (mt g2.mp t2), if_neg (show ¬ (fc (poB (v ((((rN (v 448 0)) + 2 + 3) + 31 + p.toNatClampNeg) + 10))) (c - 7) 7 = 7 ∨ fc (neB (v ((((rN (v 448 0)) + 2 + 3) + 31 + p.toNatClampNeg) + 10))) (c - 7) 7 = 7) from fun q => q.elim t1 t2), if_pos rfl, Int32.add_zero]
    rw [a7]
    generalize (if Int32.ofNat c < 7 then 0 else (if fX11_onSide 461 p 7 1 0 (u2 v 461 8 0) = 7 then 4 else (if fX11_onSide 461 p 7 (-1) 0 (u2 v 461 8 0) = 7 then 4 else 0)) : Int32) = M2
    generalize S1 + M1 + M2 = S
    by_cases q3 : c < 3
    · rw [if_pos (l3.mpr q3), if_pos (l3.mpr q3)]
      exact ⟨qs_u2, fun _ => (Int32.add_zero S).symm⟩
    rw [if_neg (mt l3.mp q3), if_neg (mt l3.mp q3), (e3 _ k462 (by omega)).1.2, (e3 _ k462 (by omega)).2.2, fo_c h12 e9 (by omega) hf hu hl]
    have b1 := fc_le (P := hiB (v ((((rN (v 448 0)) + 2 + 3) + 31 + p.toNatClampNeg)) 2) (v ((((rN (v 448 0)) + 2 + 3) + 31 + p.toNatClampNeg) + 10))) (s := c - 3) (n := 3)
    have b2 := fc_le (P := loB (v ((((rN (v 448 0)) + 2 + 3) + 31 + p.toNatClampNeg)) 1) (v ((((rN (v 448 0)) + 2 + 3) + 31 + p.toNatClampNeg) + 10))) (s := c - 3) (n := 3)
    have g1 := ofle (k := 2) (n := fc (hiB (v ((((rN (v 448 0)) + 2 + 3) + 31 + p.toNatClampNeg)) 2) (v ((((rN (v 448 0)) + 2 + 3) + 31 + p.toNatClampNeg) + 10))) (c - 3) 3) (by omega) (by omega)
    have g2 := oflt (k := fc (loB (v ((((rN (v 448 0)) + 2 + 3) + 31 + p.toNatClampNeg)) 1) (v ((((rN (v 448 0)) + 2 + 3) + 31 + p.toNatClampNeg) + 10))) (c - 3) 3) (n := 2) (by omega) (by omega)
    rw [show Int32.ofNat 2 = (2 : Int32) from rfl] at g1 g2
    by_cases t1 : 2 ≤ fc (hiB (v ((((rN (v 448 0)) + 2 + 3) + 31 + p.toNatClampNeg)) 2) (v ((((rN (v 448 0)) + 2 + 3) + 31 + p.toNatClampNeg) + 10))) (c - 3) 3
    · rw [if_pos (g1.mpr t1), if_pos (Or.inl t1), if_neg (by decide)]
      exact ⟨qs_u2, fun _ => rfl⟩
    rw [if_neg (mt g1.mp t1)]
    by_cases t2 : 2 ≤ fc (loB (v ((((rN (v 448 0)) + 2 + 3) + 31 + p.toNatClampNeg)) 1) (v ((((rN (v 448 0)) + 2 + 3) + 31 + p.toNatClampNeg) + 10))) (c - 3) 3
    · rw [if_neg (mt g2.mp (by omega)), if_pos (Or.inr t2), if_neg (by decide)]
      exact ⟨qs_u2, fun _ => rfl⟩
    rw [if_pos (g2.mpr (by omega)), if_neg (show ¬ (2 ≤ fc (hiB (v ((((rN (v 448 0)) + 2 + 3) + 31 + p.toNatClampNeg)) 2) (v ((((rN (v 448 0)) + 2 + 3) + 31 + p.toNatClampNeg) + 10))) (c - 3) 3 ∨ 2 ≤ fc (loB (v ((((rN (v 448 0)) + 2 + 3) + 31 + p.toNatClampNeg)) 1) (v ((((rN (v 448 0)) + 2 + 3) + 31 + p.toNatClampNeg) + 10))) (c - 3) 3) from fun q => q.elim t1 t2), if_pos rfl]
    exact ⟨qs_u2, fun _ => (Int32.add_zero S).symm⟩
end T43e
