/-! P79, PLAIN 8c: the law's look at a chart holds. -/
section T54d
variable {n m N : Nat} {v w : vSt} {A B : Ar} {p p2 p3 x y a : Int32} {k t c i : Nat} {f : Ar}
/-- an empty chart -/
theorem mid_0 (hV : Inv n m v) (hy : sIsY (v 462) p ≠ 0) (e8 : v 462 ((78 + 21 * p.toNatClampNeg + 8)) = 0) : fX10_middleOf 448 p v = (3, 0, v) ∧ fX10_middleByTaking 448 p v = (3, 0, v) ∧ fX10_spreadOf 448 p v = (3, 0) ∧ fX10_meanOf 448 p v = (3, FP.fconst0) := by
  have hk := isY_in hV.wf.1.2.2.1 hy
  have hY := hV.sr.2.2.2.2.1 _ hk.2
  have e9' : v ((((rN (v 448 0)) + 2 + 3) + 31 + p.toNatClampNeg)) 9 = v 462 ((78 + 21 * p.toNatClampNeg + 8)) := hY.1.2.2.2.2.2.2.2
  have h : fX10_needChart 448 p v = (3, 0) := by
    unfold fX10_needChart
    rw [needY hV, if_neg hy]
    dsimp only
    rw [if_pos rfl, e9', e8, if_neg (by decide)]
  unfold fX10_middleOf fX10_middleByTaking fX10_spreadOf fX10_meanOf
  rw [h]
  exact ⟨rfl, rfl, rfl, rfl⟩
theorem chart_o (hV : Inv n m v) (hX : XI N (v 462)) (hJ : XJ (v 462)) (hk : k < ((v 462) 205).toNatClampNeg) : oL_chart 448 (Int32.ofNat k) v := by
  have h7 := hV.wf.1.2.2.1
  have l7 := inn_lt h7
  have hy := isY_k h7 hk
  have kn : (Int32.ofNat k).toNatClampNeg = k := to_of (by omega)
  have hW := hV.wf.2.2.2.1.1 _ hk
  obtain ⟨M, r, b, r1, r2, r3, r4, r5, r6⟩ := rc_of hW
  have hok := hX.2.2 k hk
  unfold XY at hok
  rw [r4, r5, r6] at hok
  obtain ⟨g1, g2, g3, g4⟩ := rec_law M r1 r r2 b r3 hok
  obtain ⟨c, hC, e8, hj⟩ := cf_of hV hy
  have hC0 := hC
  obtain ⟨h12, c1, c2⟩ := hC0
  have hS := sig_v hV hy hC e8 _ rfl
  have hM := fun h0 => mid_v hV hy hC h0 _ rfl
  have LL := ch_l hV hC 13 0 (by omega) (by omega)
  have LM := fun a hm => ch_m (a := a) (v0 := v) hV hC hm 13 0 (by omega) (by omega)
  have hbnd : ∀ j, j < c → -9000 ≤ (v ((((rN (v 448 0)) + 2 + 3) + 31 + (Int32.ofNat k).toNatClampNeg) + 10) j).toInt ∧ (v ((((rN (v 448 0)) + 2 + 3) + 31 + (Int32.ofNat k).toNatClampNeg) + 10) j).toInt ≤ 9000 := fun j hj' => by
    rw [hj j hj', kn]
    have := hJ.2.2.2 k hk j (by omega)
    omega
  generalize v ((((rN (v 448 0)) + 2 + 3) + 31 + (Int32.ofNat k).toNatClampNeg) + 10) = f at *
  have z0 : (0 : Int32).toInt = 0 := rfl
  have zi : Int32.ofNat 0 = (0 : Int32) := rfl
  have hcz : Int32.ofNat c = 0 ↔ c = 0 := ⟨fun q => by have := congrArg Int32.toInt q; rw [of_ti (by omega), z0] at this; omega, fun q => by rw [q]; rfl⟩
  have q0 : ∀ x, ct (qN c f) 0 = 0 ∧ ct (qP c f) 0 = 0 ∧ ct (qD c f) 0 = 0 ∧ ct (qU c f) 0 = 0 ∧ suI f 0 = 0 ∧ mxI f 0 = -9999 ∧ mnI f 0 = 9999 ∧ cn (eqB x) f 0 = 0 ∧ cn (ltB x) f 0 = 0 := fun x => ⟨rfl, rfl, rfl, rfl, rfl, rfl, rfl, rfl, rfl⟩
  rw [(q0 0).1, (q0 0).2.1, (q0 0).2.2.1, (q0 0).2.2.2.1, (q0 0).2.2.2.2.1, (q0 0).2.2.2.2.2.1, (q0 0).2.2.2.2.2.2.1, zi] at LL
  have hG : gGu (v 462) (Int32.ofNat k) = if Int32.ofNat M = 2 then (3, 0) else (0, gUC (Int32.ofNat M) (Int32.ofNat r) (Int32.ofNat b)) := by
    unfold gGu
    rw [if_neg hy, kn, r4, r5, r6]
    rfl
  unfold oL_chart
  rw [c1, x_recordOf hV hy, x_badOf hV hy, x_mannerOf hV hy, x_widthOf hV hy, x_signalsOf hV hy, x_goodUntilChange hV, hG, kn, r4, r5, r6]
  have tc : (Int32.ofNat c).toInt = c := of_ti (by omega)
  have hw1 : (v 462 ((78 + 21 * k + 2)) - v 462 ((78 + 21 * k + 1))).toInt = (v 462 ((78 + 21 * k + 2))).toInt - (v 462 ((78 + 21 * k + 1))).toInt := ti_sub (by have := hW.2.1; have := hW.2.2.1.1; have := hW.2.2.1.2; omega)
  dsimp only
  refine ⟨(t_charted hV).1, rfl, fun q => by have := i_lt q; omega, fun q => by have := i_lt q; rw [show (12 : Int32).toInt = 12 from rfl] at this; omega, (t_recordOf hV).1, rfl, fun q => by have := i_lt q; rw [of_ti (by omega), show (10 : Int32).toInt = 10 from rfl] at this; omega, (t_badOf hV).1, rfl,
    fun q => ?_, fun q => ?_, (t_mannerOf hV).1, rfl, fun q => by have := i_lt q; rw [of_ti (by omega)] at this; omega, fun q => by have := i_lt q; rw [of_ti (by omega), show (2 : Int32).toInt = 2 from rfl] at this; omega, (t_widthOf hV).1, rfl, fun q => ?_, fun q => ?_, (w_chartedAt hV).1, ?_, (w_chartedAt hV).1, ?_, ⟨fun q => ?_, fun q => ?_⟩, LL.1, ?_⟩
  · have := i_lt q; have := i_le g4; omega
  · have := i_lt q; have := i_le g3; omega
  · have := i_lt q
    have := hW.2.1.2
    have := hW.2.2.1.1
    omega
  · have := i_lt q
    rw [show (198 : Int32).toInt = 198 from rfl] at this
    have := hW.2.1.1
    have := hW.2.2.1.2
    omega
  · rw [(w_chartedAt hV).2]
    unfold gCa
    rw [kn] at e8
    rw [if_neg hy, if_neg (fun q => q (by rw [Int32.le_iff_toInt_le, tc, z0]; omega)), kn, e8, if_pos (fun q => by have := i_lt q; omega)]
    rfl
  · rw [(w_chartedAt hV).2]
    unfold gCa
    rw [if_neg hy, if_pos (by decide)]
    rfl
  · refine ⟨(w_goodUntilChange hV).1, ?_, g2 q⟩
    rw [(w_goodUntilChange hV).2, hG, if_pos q]
    rfl
  · obtain ⟨u1, u2, u3⟩ := g1 q
    rw [if_neg q]
    dsimp only
    refine ⟨(t_goodUntilChange hV).1, rfl, fun z => ?_, fun y28 e28 => ⟨fun z => ?_, fun z y32 e32 => ?_⟩⟩
    · have := i_lt z; have := i_le u1; omega
    · rw [e28] at z
      have := i_lt z
      have := i_le u2
      omega
    · have := i_nle (show ¬ (1 : Int32) ≤ fX11_ones (Int32.ofNat b) from fun g => z (by
        have := i_le g
        rw [show (1 : Int32).toInt = 1 from rfl] at this
        rw [Int32.lt_iff_toInt_lt, z0]; omega))
      rw [show (1 : Int32).toInt = 1 from rfl] at this
      rw [e32]
      exact u3 (by rw [Int32.le_iff_toInt_le, z0]; omega)
  intro y33 y34 y35 y36 y37 y38 y39 e33 e34 e35 e36 e37 e38 e39
  rw [LL.2] at e33 e34 e35 e36 e37 e38 e39
  dsimp only at e33 e34 e35 e36 e37 e38 e39
  obtain ⟨S1, M8, s0, s1, s2, s3⟩ := hS
  -- the signals, small
  have hsig : ∃ m2 m4 : Bool, (fX11_signalsOf 461 (Int32.ofNat k) v).1 = (if c = 0 then 0 else S1 + (if m2 = true then 2 else 0) + (if m4 = true then 4 else 0) + M8) ∧ (m2 = true ↔ 6 ≤ c ∧ (fc (upB f) (c - 5) 5 = 5 ∨ fc (dnB f) (c - 5) 5 = 5)) ∧ (m4 = true ↔ 7 ≤ c ∧ (fc (poB f) (c - 7) 7 = 7 ∨ fc (neB f) (c - 7) 7 = 7)) :=
    ⟨decide (6 ≤ c ∧ (fc (upB f) (c - 5) 5 = 5 ∨ fc (dnB f) (c - 5) 5 = 5)), decide (7 ≤ c ∧ (fc (poB f) (c - 7) 7 = 7 ∨ fc (neB f) (c - 7) 7 = 7)), by rw [s0]; simp only [decide_eq_true_eq], by simp only [decide_eq_true_eq], by simp only [decide_eq_true_eq]⟩
  obtain ⟨m2, m4, es, i2, i4⟩ := hsig
  rw [es]
  have hall : ∀ s : Int32, (s = 0 ∨ s = 1) → ∀ m : Int32, (m = 0 ∨ m = 8) → ∀ a b : Bool, (¬ s + (if a = true then 2 else 0) + (if b = true then 4 else 0) + m < 0) ∧ (¬ 16 ≤ s + (if a = true then 2 else 0) + (if b = true then 4 else 0) + m) ∧
      (((s + (if a = true then 2 else 0) + (if b = true then 4 else 0) + m) >>> ((1 : Int32) &&& 31)) &&& (1 : Int32) = if a = true then 1 else 0) ∧ (((s + (if a = true then 2 else 0) + (if b = true then 4 else 0) + m) >>> ((2 : Int32) &&& 31)) &&& (1 : Int32) = if b = true then 1 else 0) ∧ (m = 0 → ¬ 8 ≤ s + (if a = true then 2 else 0) + (if b = true then 4 else 0) + m) := by
    intro s hs m hm a b
    rcases hs with e | e <;> rcases hm with e' | e' <;> subst e <;> subst e' <;> cases a <;> cases b <;> decide
  have hz := hall S1 s1 M8 s2 m2 m4
  have l5 := ofle (k := c) (n := 5) (by omega) (by omega)
  have l6 := ofle (k := c) (n := 6) (by omega) (by omega)
  rw [show Int32.ofNat 5 = (5 : Int32) from rfl] at l5
  rw [show Int32.ofNat 6 = (6 : Int32) from rfl] at l6
  have eqn : ∀ (q K : Nat), q ≤ 12 → K ≤ 12 → (Int32.ofNat q = Int32.ofNat K ↔ q = K) := fun q K h1 h2 => ⟨fun e => by have := congrArg Int32.toInt e; rw [of_ti (by omega), of_ti (by omega)] at this; omega, fun e => by rw [e]⟩
  have t1 := ct_le (Q := qN c f) (i := c)
  have t2 := ct_le (Q := qP c f) (i := c)
  have t3 := ct_le (Q := qD c f) (i := c)
  have t4 := ct_le (Q := qU c f) (i := c)
  refine ⟨(t_signalsOf hV).1, rfl, fun q => ?_, fun q => ?_, fun y65 e65 => ⟨?_, fun y68 e68 => ⟨?_, fun q => ?_, ⟨fun q => ?_, fun q => ?_⟩⟩⟩⟩
  · by_cases h0 : c = 0
    · rw [if_pos h0] at q; exact absurd q (by decide)
    · rw [if_neg h0] at q; exact hz.1 q
  · by_cases h0 : c = 0
    · rw [if_pos h0] at q; exact absurd q (by decide)
    · rw [if_neg h0] at q; exact hz.2.1 q
  · rw [e65]
    by_cases h5 : c ≤ 5
    · rw [if_pos (l5.mpr h5)]
      by_cases h0 : c = 0
      · rw [if_pos h0]; decide
      · rw [if_neg h0, hz.2.2.1]
        have : ¬ m2 = true := fun e => by have := (i2.mp e).1; omega
        rw [if_neg this]
    · rw [if_neg (mt l5.mp h5), if_neg (show ¬ c = 0 by omega), hz.2.2.1, e36, e35, qU_c (by omega), qD_c (by omega)]
      have b1 := fc_le (P := upB f) (s := c - 5) (n := 5)
      have b2 := fc_le (P := dnB f) (s := c - 5) (n := 5)
      have n1 := eqn (fc (upB f) (c - 5) 5) 5 (by omega) (by omega)
      have n2 := eqn (fc (dnB f) (c - 5) 5) 5 (by omega) (by omega)
      rw [show Int32.ofNat 5 = (5 : Int32) from rfl] at n1 n2
      by_cases t1 : fc (upB f) (c - 5) 5 = 5
      · rw [if_pos (n1.mpr t1), if_pos (i2.mpr ⟨by omega, Or.inl t1⟩)]
      · rw [if_neg (mt n1.mp t1)]
        by_cases t2 : fc (dnB f) (c - 5) 5 = 5
        · rw [if_pos (n2.mpr t2), if_pos (i2.mpr ⟨by omega, Or.inr t2⟩)]
        · rw [if_neg (mt n2.mp t2), if_neg (fun e => (i2.mp e).2.elim t1 t2)]
  · rw [e68]
    by_cases h6 : c ≤ 6
    · rw [if_pos (l6.mpr h6)]
      by_cases h0 : c = 0
      · rw [if_pos h0]; decide
      · rw [if_neg h0, hz.2.2.2.1]
        have : ¬ m4 = true := fun e => by have := (i4.mp e).1; omega
        rw [if_neg this]
    · rw [if_neg (mt l6.mp h6), if_neg (show ¬ c = 0 by omega), hz.2.2.2.1, e34, e33, qP_c (by omega), qN_c (by omega)]
      have b1 := fc_le (P := poB f) (s := c - 7) (n := 7)
      have b2 := fc_le (P := neB f) (s := c - 7) (n := 7)
      have n1 := eqn (fc (poB f) (c - 7) 7) 7 (by omega) (by omega)
      have n2 := eqn (fc (neB f) (c - 7) 7) 7 (by omega) (by omega)
      rw [show Int32.ofNat 7 = (7 : Int32) from rfl] at n1 n2
      by_cases t1 : fc (poB f) (c - 7) 7 = 7
      · rw [if_pos (n1.mpr t1), if_pos (i4.mpr ⟨by omega, Or.inl t1⟩)]
      · rw [if_neg (mt n1.mp t1)]
        by_cases t2 : fc (neB f) (c - 7) 7 = 7
        · rw [if_pos (n2.mpr t2), if_pos (i4.mpr ⟨by omega, Or.inr t2⟩)]
        · rw [if_neg (mt n2.mp t2), if_neg (fun e => (i4.mp e).2.elim t1 t2)]
  · -- short charts
    have h3 : c < 3 := by
      have := mt Int32.lt_iff_toInt_lt.mpr q
      rw [tc, show (2 : Int32).toInt = 2 from rfl] at this
      omega
    by_cases h0 : c = 0
    · rw [if_pos h0]; decide
    · rw [if_neg h0]; exact hz.2.2.2.2 (s3 h3)
  · -- nothing charted
    have h0 := hcz.mp q
    have e80 : v 462 ((78 + 21 * (Int32.ofNat k).toNatClampNeg + 8)) = 0 := by rw [e8, h0]; rfl
    obtain ⟨f1, f2, f3, f4⟩ := mid_0 hV hy e80
    have w1 : oL_middleOf 448 (Int32.ofNat k) v ∧ fL_middleOf 448 (Int32.ofNat k) v = -100104 := by
      unfold oL_middleOf fL_middleOf
      rw [f1]
      exact ⟨⟨(t_middleOf hV).1, fun _ _ => rfl⟩, rfl⟩
    have w2 : oL_middleByTaking 448 (Int32.ofNat k) v ∧ fL_middleByTaking 448 (Int32.ofNat k) v = -100104 := by
      unfold oL_middleByTaking fL_middleByTaking
      rw [f2]
      exact ⟨⟨(t_middleByTaking hV).1, fun _ _ => rfl⟩, rfl⟩
    have w3 : oL_spreadOf 448 (Int32.ofNat k) v ∧ fL_spreadOf 448 (Int32.ofNat k) v = -100104 := by
      unfold oL_spreadOf fL_spreadOf
      rw [f3]
      exact ⟨⟨(t_spreadOf hV).1, fun _ _ => rfl⟩, rfl⟩
    have w4 : oL_meanOf 448 (Int32.ofNat k) v ∧ fL_meanOf 448 (Int32.ofNat k) v = 3351479296 := by
      unfold oL_meanOf fL_meanOf
      rw [f4]
      exact ⟨⟨(t_meanOf hV).1, fun _ _ => rfl⟩, rfl⟩
    rw [if_pos h0, w4.2]
    exact ⟨rfl, w1.1, w1.2, w2.1, w2.2, w3.1, w3.2, w4.1, fc_0 (by unfold vf_n32; decide)⟩
  · -- a chart with something upon it
    have h0 : c ≠ 0 := fun e => q (hcz.mpr e)
    obtain ⟨⟨a, f1, f2, hOS⟩, ⟨lo, hi, f3, ⟨⟨j1, k1, k2⟩, k3⟩, ⟨⟨j2, k4, k5⟩, k6⟩⟩, f4⟩ := hM (by omega)
    have LM := LM a f1
    rw [(q0 a).2.2.2.2.2.2.2.1, (q0 a).2.2.2.2.2.2.2.2, zi] at LM
    have hn0 : Int32.ofNat c ≠ 0 := fun e => h0 (hcz.mp e)
    have hv := fd_n (a := suI f c) hn0
    have w4 : oL_meanOf 448 (Int32.ofNat k) v ∧ fL_meanOf 448 (Int32.ofNat k) v = FP.fdiv (FP.i2f (suI f c)) (FP.i2f (Int32.ofNat c)) := by
      unfold oL_meanOf fL_meanOf
      rw [f4]
      exact ⟨⟨(t_meanOf hV).1, fun q => absurd rfl q⟩, rfl⟩
    rw [f1, f2, f3, w4.2]
    have u1 := cn_le (P := eqB a) (f := f) (n := c)
    have u2 := cn_le (P := ltB a) (f := f) (n := c)
    have u3 := cn_split (a := a) (f := f) (n := c)
    have hh := half_n (c := c) (by omega)
    refine ⟨(t_middleOf hV).1, rfl, LM.1, fun y78 y79 e78 e79 => ?_⟩
    rw [LM.2] at e78 e79
    dsimp only at e78 e79
    refine ⟨fun z => ?_, fun z => ?_, fun z => ?_, (t_middleByTaking hV).1, rfl, rfl, (t_spreadOf hV).1, rfl, ?_, w4.1, ?_, ?_⟩
    · rw [e78] at z
      have z := i_le z
      rw [of_ti (by omega), z0] at z
      obtain ⟨⟨j, j1, j2⟩, _⟩ := hOS
      have := cn_pos (P := eqB a) (f := f) j1 (by unfold eqB; rw [j2]; exact decide_eq_true rfl)
      omega
    · rw [e79, hh] at z
      have z := i_lt z
      rw [of_ti (by omega), of_ti (by omega)] at z
      have := hOS.2.1
      omega
    · rw [e78, e79, hh, of_add] at z
      have z := i_le z
      rw [of_ti (by omega), of_ti (by omega)] at z
      have := hOS.2.2
      omega
    · rw [e38, e39]
      have hx := (mx_t (f := f) (i := c) hbnd).resolve_left (fun e => h0 e.1)
      have hn := (mn_t (f := f) (i := c) hbnd).resolve_left (fun e => h0 e.1)
      obtain ⟨⟨j, x1, x2⟩, x3⟩ := hx
      obtain ⟨⟨j', n1, n2⟩, n3⟩ := hn
      have ehi : hi = mxI f c := Int32.toInt_inj.mp (by
        have a1 := k6 j x1
        have a2 := x3 j2 k4
        rw [k5] at a2
        rw [← x2] at a1
        omega)
      have elo : lo = mnI f c := Int32.toInt_inj.mp (by
        have a1 := k3 j' n1
        have a2 := n3 j1 k1
        rw [k2] at a2
        rw [← n2] at a1
        omega)
      rw [ehi, elo]
    · rw [e37]; exact hv
    · rw [e37]; exact fc_0 hv
end T54d
