/-! P79, PLAIN 10b: what always holds, all of it. -/
section T56b
variable {n m N : Nat} {v w : vSt} {A B : Ar} {p p2 p3 x y a : Int32} {k t c i : Nat}
theorem in_n0 {z : Int32} (h : 0 ≤ z.toInt) : fX11_in z 0 (z - 1) = 0 := by
  rw [in_iff0, subOne h]
  omega
theorem in_m1 {z : Int32} (h : 0 ≤ z.toInt) : fX11_in (-1) 0 (z - 1) = 0 := by
  rw [in_iff0, show (-1 : Int32).toInt = -1 from rfl, show (0 : Int32).toInt = 0 from rfl]
  omega
/-- the degrees between the warmth and 20 -/
theorem dg_i (hW : WT A) : (if 20 ≤ A 208 then A 208 - 20 else 20 - A 208 : Int32) = Int32.ofNat (dgW A) := by
  have hW := hW.1
  have e20 : (20 : Int32).toInt = 20 := rfl
  apply Int32.toInt_inj.mp
  unfold dgW
  by_cases g : 20 ≤ A 208
  · have g2 := i_le g
    rw [e20] at g2
    rw [if_pos g, if_pos g2, of_ti (by omega), ti_sub (b := 20) (by rw [e20]; omega), e20]
    omega
  · have g2 := i_nle g
    rw [e20] at g2
    rw [if_neg g, if_neg (by omega), of_ti (by omega), ti_sub (a := 20) (by rw [e20]; omega), e20]
    omega
theorem holds_o (hV : Inv n m v) (hX : XI N (v 462)) (hJ : XJ (v 462)) (hN : N < 2 ^ 30) : oL_holds 448 x v := by
  have c1 := hV.wf.1.1
  have c2 := hV.wf.1.2.1
  have c3 := hV.wf.1.2.2.1
  have c4 := hV.wf.1.2.2.2.1
  have l1 := inn_lt c1
  have l2 := inn_lt c2
  have l3 := inn_lt c3
  have hWT : WT (v 462) := hV.2.2.2.2.2.1.2.2.2.2
  have ha : v 462 211 = v 462 206 + v 462 207 + v 462 212 + v 462 213 + v 462 214 := hV.2.2.2.2.2.1.2.2.1
  have hst := hV.2.2.1.2
  have z0 : (0 : Int32).toInt = 0 := rfl
  have nT0 : sIsT (v 462) (v 462 203) = 0 := in_n0 c1.1
  have nTm : sIsT (v 462) (-1) = 0 := in_m1 c1.1
  have nY0 : sIsY (v 462) (v 462 205) = 0 := in_n0 c3.1
  have nYm : sIsY (v 462) (-1) = 0 := in_m1 c3.1
  have nB0 : fX11_in (v 462 204) 0 (v 462 204 - 1) = 0 := in_n0 c2.1
  have hmid : oL_middleOf 448 (-1) v ∧ fL_middleOf 448 (-1) v = -100102 := by
    have h : fX10_middleOf 448 (-1) v = (1, 0, v) := by
      unfold fX10_middleOf fX10_needChart
      rw [needY hV, if_pos nYm]
      rfl
    unfold oL_middleOf fL_middleOf
    rw [h]
    exact ⟨⟨(t_middleOf hV).1, fun _ q => absurd rfl q⟩, rfl⟩
  have hRd : gRd (v 462) (v 462 203) 0 0 = (1, 0) := by unfold gRd; rw [if_pos nT0]
  have hSt : gSt (v 462) 0 = (1, 0) := by unfold gSt; rw [if_pos (by decide)]
  have hTm : gTa (v 462) (-1) = (1, 0) := by unfold gTa; rw [if_pos (by decide)]
  have p6 : ¬ ¬ 0 ≤ v 462 206 := fun q => q (by rw [Int32.le_iff_toInt_le, z0]; exact c4.1)
  have hTn : gTa (v 462) (v 462 206) = (3, 0) := by unfold gTa; rw [if_neg p6, if_pos (fun q => by have := i_lt q; omega)]
  have hWn : gWd (v 462) (v 462 206) = (3, 0) := by unfold gWd; rw [if_neg p6, if_pos (fun q => by have := i_lt q; omega)]
  have T := hd_t (x := x) hV hX hN 7 0 (-100104) (by omega) (by omega) (Or.inl rfl) (Or.inl ⟨by unfold bTl; rw [if_pos rfl], fun t _ q => absurd q (Nat.not_lt_zero _)⟩)
  have zi : Int32.ofNat 0 = (0 : Int32) := rfl
  rw [zi] at T
  unfold oL_holds
  rw [x_brought hV, x_broughtByPlaces hV, x_onBench hV, x_toFile hV, x_good hV, x_thrownAway hV, x_unseen hV, x_tools hV, x_blocks hV, x_types hV, x_states hV, x_whyNotPass hV, x_typeAt hV, x_stretchOf hV, x_warmth hV]
  refine ⟨(t_brought hV).1, (t_broughtByPlaces hV).1, rfl, (t_onBench hV).1, (t_toFile hV).1, (t_good hV).1, (t_thrownAway hV).1, (t_unseen hV).1, ha, fun q => by have := i_lt q; have := c4.1; omega, fun q => by have := i_lt q; rw [show (20 : Int32).toInt = 20 from rfl] at this; have := c4.2; omega,
    (t_tools hV).1, fun q => by have := i_lt q; rw [show (6 : Int32).toInt = 6 from rfl] at this; have := c1.2; omega, (t_blocks hV).1, fun q => by have := i_lt q; rw [show (10 : Int32).toInt = 10 from rfl] at this; have := c2.2; omega, (t_types hV).1, fun q => by have := i_lt q; rw [show (5 : Int32).toInt = 5 from rfl] at this; have := c3.2; omega,
    fun q => by have := i_lt q; have := hst.1; omega, fun q => by have := i_lt q; rw [show (4 : Int32).toInt = 4 from rfl] at this; have := hst.2; omega,
    (w_kindOf hV).1, by rw [(w_kindOf hV).2, if_pos nT0], (w_isDue hV).1, by rw [(w_isDue hV).2, if_pos nTm], (w_readingFor hV).1, by rw [(w_readingFor hV).2, hRd]; rfl, (w_blockError hV).1, by rw [(w_blockError hV).2, if_pos nB0], (w_stackFor hV).1, by rw [(w_stackFor hV).2.1 (by rw [hSt]; decide), hSt]; rfl,
    (w_lengthOf hV).1, by rw [(w_lengthOf hV).2, if_pos nY0], hmid.1, hmid.2, (w_typeAt hV).1, by rw [(w_typeAt hV).2, hTm]; rfl, (w_typeAt hV).1, by rw [(w_typeAt hV).2, hTn]; rfl, (w_wasDoubted hV).1, by rw [(w_wasDoubted hV).2, hWn]; rfl, (w_stretchOf0 hV (by decide)).1, (w_stretchOf0 hV (by decide)).2, (w_whyNotJudge hV).1, by rw [(w_whyNotJudge hV).2, if_pos nT0],
    T.1, fun y46 e46 => ⟨hd_y hV hX hJ 6 0 (by omega) (by omega), (t_whyNotPass hV).1, low_o (by decide), hd_b hV 11 0 _ (by omega) (by omega), fun y95 e95 => ⟨?_, ?_, fun y108 e108 y110 e110 => ⟨?_, fun q y114 e114 => ?_, fun y114 e114 => ⟨?_, low_o (by decide), low_o (by decide), fun y120 e120 => ?_⟩⟩⟩⟩⟩
  · -- the best tool
    unfold oL_bestTool
    exact ⟨(t_bestTool hV).1, fun q => (t_bestTool hV).2.2.1.resolve_left q⟩
  · rw [← e46] at T
    have hb := (bt_c hV).eq T.2.2
    unfold fL_bestTool fX10_bestTool
    rw [hb]
    rcases T.2.1 with e | ⟨s, s1, s2⟩
    · rw [e, show bTl (-100104) = -1 by unfold bTl; rw [if_pos rfl], if_neg (by decide)]
    · have e1 : bTl y46 = y46 := by unfold bTl; rw [if_neg (by rw [s2]; exact neN (by omega))]
      have hp : (0 : Int32) ≤ y46 := by rw [s2, Int32.le_iff_toInt_le, of_ti (by omega), z0]; omega
      have ep : (if 0 ≤ y46 then (0, y46) else (3, 0) : Nat × Int32) = (0, y46) := if_pos hp
      rw [e1, ep]
      exact if_pos rfl
  · -- why the first may not pass
    rw [e108, e110]
    unfold sReasonP
    by_cases h0 : v 462 206 = 0
    · rw [if_pos h0, if_pos h0]; rfl
    · rw [if_neg h0, if_neg h0]
      by_cases g : v 462 ((78 + 21 * ((fX11_typeOf ((v 462) 183)).toNatClampNeg) + 4)) = 2
      · rw [if_pos g]
        by_cases g2 : v 462 ((78 + 21 * ((fX11_typeOf ((v 462) 183)).toNatClampNeg) + 7)) = 1
        · rw [if_pos g2, if_neg (by decide)]
        · rw [if_neg g2, if_neg (by decide)]
      · rw [if_neg g, if_neg (by decide)]
  · have h0 : v 462 206 ≠ 0 := fun e => q (by unfold sReasonP; rw [if_pos e])
    obtain ⟨dd, xx, q1, q2, q3, q4⟩ := hV.wf.fk h0
    have hYk : sIsY (v 462) ((fX11_typeOf ((v 462) 183))) ≠ 0 := by
      rw [isY_iff c3]
      have := rn_to c3.1
      have := rn_to q2.1
      exact ⟨q2.1, by omega⟩
    rw [(ta_0 c4 h0).1]
    dsimp only
    rw [x_mannerOf hV hYk]
    refine ⟨(t_typeAt hV).1, rfl, (t_mannerOf hV).1, rfl, fun y120 e120 => ?_⟩
    rw [e114, e120]
    unfold sReasonP
    rw [if_neg h0]
    dsimp only
    by_cases g : v 462 ((78 + 21 * ((fX11_typeOf ((v 462) 183)).toNatClampNeg) + 4)) = 2
    · rw [if_pos g, if_pos g]
      by_cases g2 : v 462 ((78 + 21 * ((fX11_typeOf ((v 462) 183)).toNatClampNeg) + 7)) = 1
      · rw [if_pos g2, if_neg (by decide)]
      · rw [if_neg g2, if_neg (by decide)]
    · rw [if_neg g, if_neg g, if_pos rfl]
  · refine stack_o hV ?_
    rw [e114, in_iff, show (1 : Int32).toInt = 1 from rfl, show (15000 : Int32).toInt = 15000 from rfl]
    by_cases g1 : y95 < 1
    · rw [if_pos g1]; decide
    · rw [if_neg g1]
      by_cases g2 : y95 ≤ 15000
      · rw [if_pos g2]
        have g1 := mt Int32.lt_iff_toInt_lt.mpr g1
        have g2 := i_le g2
        rw [show (1 : Int32).toInt = 1 from rfl] at g1
        rw [show (15000 : Int32).toInt = 15000 from rfl] at g2
        omega
      · rw [if_neg g2]; decide
  · -- stretches
    have hm3 : inn (fL_low x 3) 3 := low_n (k := 3) rfl (by decide)
    have hl : inn (fL_low (x >>> ((5 : Int32) &&& 31)) 15001) 15001 := low_n (k := 15001) rfl (by decide)
    have hmat : fX11_isMaterial (fL_low x 3) ≠ 0 := by
      show fX11_in _ 0 2 ≠ 0
      rw [in_iff, z0, show (2 : Int32).toInt = 2 from rfl]
      exact ⟨hm3.1, by have := hm3.2; omega⟩
    have hlen : fX11_in (fL_low (x >>> ((5 : Int32) &&& 31)) 15001) 0 15000 ≠ 0 := by
      rw [in_iff, z0, show (15000 : Int32).toInt = 15000 from rfl]
      exact ⟨hl.1, by have := hl.2; omega⟩
    have hG : gSr (v 462) (fL_low x 3) (fL_low (x >>> ((5 : Int32) &&& 31)) 15001) = (0, sStretch (v 462) (fL_low x 3) (fL_low (x >>> ((5 : Int32) &&& 31)) 15001)) := by unfold gSr; rw [if_neg hmat, if_neg hlen]
    rw [hG]
    dsimp only
    have ll := inn_lt hl
    have S := str_t (p := fL_low x 3) (l := (fL_low (x >>> ((5 : Int32) &&& 31)) 15001).toNatClampNeg) hWT (by omega)
    rw [of_to hl.1] at S
    have hd : dgW (v 462) ≤ 30 := by have := hWT.1; unfold dgW; split <;> omega
    have e120 : y120 = Int32.ofNat (mtn (fL_low x 3)) := e120.trans mtn_i
    have hmt := mtn_le (m := fL_low x 3)
    refine ⟨(t_stretchOf hV).1, rfl, fun y124 e124 => ⟨(t_warmth hV).1, fun y127 e127 => ⟨?_, fun q z => ?_, fun q z => ?_⟩⟩⟩
    · have e127 : y127 = Int32.ofNat (dgW (v 462)) := e127.trans (dg_i hWT)
      have eL : fL_low (x >>> ((5 : Int32) &&& 31)) 15001 = Int32.ofNat (fL_low (x >>> ((5 : Int32) &&& 31)) 15001).toNatClampNeg := (of_to hl.1).symm
      generalize (fL_low (x >>> ((5 : Int32) &&& 31)) 15001).toNatClampNeg = l at *
      generalize mtn (fL_low x 3) = M at *
      generalize dgW (v 462) = D at *
      have b1 : l * M ≤ 15000 * 23 := Nat.mul_le_mul (by omega) hmt.2
      have b2 : l * M * D ≤ 15000 * 23 * 30 := Nat.mul_le_mul b1 hd
      rw [e120, e127, eL, of_mul, of_mul]
      apply Int32.toInt_inj.mp
      rw [ti_div (by rw [of_ti (by omega)]; omega) (by decide), of_ti (by omega), show (1000000 : Int32).toInt = 1000000 from rfl, e124]
      by_cases g : 0 ≤ sStretch (v 462) (fL_low x 3) (fL_low (x >>> ((5 : Int32) &&& 31)) 15001)
      · rw [if_pos g]
        have g := i_le g
        rw [z0] at g
        rcases le20 (v 462 208).toInt with h | h
        · rw [S.1 h]; omega
        · have := S.2 h; rw [this] at g ⊢; omega
      · rw [if_neg g]
        have g := i_nle g
        rw [z0] at g
        rcases le20 (v 462 208).toInt with h | h
        · have := S.1 h; rw [this] at g; omega
        · have := S.2 h
          rw [Int32.toInt_neg, this, Int.bmod_def]
          split <;> omega
    · have q := i_lt q
      rw [show (20 : Int32).toInt = 20 from rfl] at q
      have z := i_lt z
      rw [S.2 q, z0] at z
      omega
    · have q := mt Int32.lt_iff_toInt_lt.mpr q
      rw [show (20 : Int32).toInt = 20 from rfl] at q
      have z := i_lt z
      rw [S.1 (by omega), z0] at z
      omega
end T56b
