/-! THE PLAIN PART 10c: a change, from one state between calls to the next. -/
section T39c
variable {n m : Nat} {v v10 w : vSt} {A' : Ar}
theorem Inv.change (hI : Inv n m v) (hP : PO (rN (v 448 0)) (fX10_recordState 448 v) v10) (hS : SR v10 (rN (v 448 0)) A') (hW : WF A') (hAC : AC A') (hQ : QVp (n + 1) m v A') (hm : mSu v10 w A') : Inv (n + 1) m w ∧ oX10_recordState 448 v ∧ pot v ≤ pot (fX10_recordState 448 v) := by
  obtain ⟨hR, hC, ⟨c1, c2⟩, ⟨k1, k2⟩, ⟨⟨x1, x2, x3⟩, x4, x5, x6⟩, hN, hH, hK⟩ := hI
  obtain ⟨d, ⟨d1, d2, d3, d4⟩, r1, r2, r3, r4, r5, r6, r7, r8⟩ := c_record hR hC (by rw [c1]; exact c2) hN.1 hN.2.1
  refine ⟨?_, r8, r4⟩
  obtain ⟨⟨n1, n2⟩, ⟨t1, t2⟩, hh, hnt, hhn, hhh⟩ := hR
  have ln := kd7 n1
  have ld := kd7 d1
  have lt := kd7 t1
  obtain ⟨m1, m2, ⟨m3, m4, m5⟩, m6, m7⟩ := hm
  -- above the blocks
  have v10hi : ∀ q, 448 ≤ q → v10 q = fX10_recordState 448 v q := fun q hq => hP.1 q (by omega)
  have v10top : ∀ q, 450 ≤ q → v10 q = v q := fun q hq => by rw [v10hi q (by omega), r1 q (by omega) (by omega) (by omega)]
  have w448 : ∀ f, f ≠ 2 → w 448 f = v 448 f := fun f hf => by rw [m1 _ (by decide) (by decide) (by decide) (by decide), v10hi _ (by omega), r2 f hf]
  have w449 : w 449 = fX10_recordState 448 v 449 := by rw [m1 _ (by decide) (by decide) (by decide) (by decide), v10hi _ (by omega)]
  have w4482 : w 448 2 = fX10_recordState 448 v 448 2 := by rw [m1 _ (by decide) (by decide) (by decide) (by decide), v10hi _ (by omega)]
  have wtop : ∀ q, 450 ≤ q → q ≠ 461 → q ≠ 462 → q ≠ 463 → q ≠ 465 → w q = v q := fun q h1 h2 h3 h4 h5 => by rw [m1 q h2 h3 h4 h5, v10top q h1]
  have e461 : v10 461 = v 461 := v10top _ (by omega)
  rw [e461] at m3 m4 m6 m7
  have sE : ∀ i, sl v10 i = sl v i := fun i => by unfold sl; rw [v10top _ (by omega)]
  have e462 : v10 462 = v 462 := v10top _ (by omega)
  rw [e462] at m6 m7
  -- the blocks
  have wb : ∀ q, q < 448 → w q = v10 q := fun q hq => m1 q (by omega) (by omega) (by omega) (by omega)
  have wo : ∀ b, kd b = 7 → b ≠ rN (v 448 0) → b ≠ d → ∀ q, b ≤ q → q < b + 64 → w q = v q := fun b hb h1 h2 q q1 q2 => by
    have lb := kd7 hb
    rw [wb q (by omega), hP.1 q (by omega), r1 q (by omega) (by omega) (by omega)]
  have wd : ∀ q, d ≤ q → q < d + 64 → w q = fX10_recordState 448 v q := fun q q1 q2 => by
    rw [wb q (by omega), hP.1 q (by omega)]
  have wn : ∀ q, rN (v 448 0) ≤ q → q < rN (v 448 0) + 64 → w q = v10 q := fun q q1 q2 => wb q (by omega)
  have wtx : w 461 7 = v 461 7 ∧ w 466 = v 466 := ⟨m4, wtop _ (by omega) (by omega) (by omega) (by omega) (by omega)⟩
  have eTL : TL w = TL v := by unfold TL; rw [m4]
  have qvE : ∀ k B, QVp k m v B → QVp k m w B := fun k B h => by unfold QVp at *; rw [eTL, wtx.2]; exact h
  have hd0 : LIV (n + 1) m w d (v 462) := by
    have h := hN.up (Nat.le_trans x4 x5)
    exact ⟨r5.fr d1 wd ⟨hN.2.1.1.1, hN.2.1.1.2.1, hN.2.1.1.2.2.1⟩, h.2.1, h.2.2.1, qvE _ _ h.2.2.2⟩
  have hCw : ∀ b, kd b = 7 → CP w b := fun b hb => by
    have lb := kd7 hb
    by_cases h1 : b = rN (v 448 0)
    · subst h1; exact hP.2.1.fr ⟨wn _ (by omega) (by omega), wn _ (by omega) (by omega)⟩
    · by_cases h2 : b = d
      · subst h2; exact r3.fr ⟨wd _ (by omega) (by omega), wd _ (by omega) (by omega)⟩
      · exact (hC b hb).fr ⟨wo b hb h1 h2 _ (by omega) (by omega), wo b hb h1 h2 _ (by omega) (by omega)⟩
  have e0 : rN (w 448 0) = rN (v 448 0) := by rw [w448 0 (by decide)]
  have e451 : rN (w 451 0) = rN (v 451 0) := by rw [wtop 451 (by omega) (by omega) (by omega) (by omega) (by omega)]
  have hTX : TX w := ⟨by rw [w448 6 (by decide), m4]; exact x1, by rw [m4]; exact x2, fun i hi => by
    rw [eTL] at hi
    rw [wtx.2, wtop 450 (by omega) (by omega) (by omega) (by omega) (by omega)]
    exact x3 i hi⟩
  have hNw : LIV (n + 1) m w (rN (w 448 0)) (w 462) := by
    rw [e0, m2]
    exact ⟨hS.fr n1 wn ⟨hW.1.1, hW.1.2.1, hW.1.2.2.1⟩, hW, hAC, qvE _ _ hQ⟩
  have hKw : w 461 3 = 1 → LIV (n + 1) m w 320 (w 464) := fun h => by
    rw [m3] at h
    rw [wtop 464 (by omega) (by omega) (by omega) (by omega) (by omega)]
    exact ((hK h).up (Nat.le_trans x4 x5)).fr (by decide) (wo 320 (by decide) (by omega) (by omega)) wtx eqA.rf
  by_cases h4 : v 461 5 = 4
  · obtain ⟨a1, a2, a3, a4⟩ := r6 (by rw [c1]; exact h4)
    obtain ⟨b1, b2, b3⟩ := m6 h4
    have g0 : rN (w 449 0) = rN (v 449 1) := by rw [w449]; exact a2 0 (by omega)
    have g1 : rN (w 449 1) = rN (v 449 2) := by rw [w449]; exact a2 1 (by omega)
    have g2 : rN (w 449 2) = rN (v 449 3) := by rw [w449]; exact a2 2 (by omega)
    have g3 : rN (w 449 3) = rN (v 449 0) := by rw [w449]; exact a3
    have per : ∀ i, i < 4 → ∃ j, j < 4 ∧ rN (w 449 i) = rN (v 449 j) ∧ j = (i + 1) % 4 := fun i hi => by
      have : i = 0 ∨ i = 1 ∨ i = 2 ∨ i = 3 := by omega
      rcases this with rfl | rfl | rfl | rfl
      · exact ⟨1, by omega, g0, rfl⟩
      · exact ⟨2, by omega, g1, rfl⟩
      · exact ⟨3, by omega, g2, rfl⟩
      · exact ⟨0, by omega, g3, rfl⟩
    refine ⟨⟨by rw [e0]; exact ⟨n1, n2⟩, by rw [e451]; exact ⟨t1, t2⟩, fun i hi => ?_, by rw [e0, e451]; exact hnt, fun i hi => ?_, fun i j hi hj hij => ?_⟩, hCw, ⟨by rw [w4482, a1, b1], by rw [b1]; decide⟩, ⟨by rw [w448 4 (by decide), m3]; exact k1, by rw [m3]; exact k2⟩, ⟨hTX, by rw [eTL]; exact x4, by omega, x6⟩, hNw, fun i hi => ?_, hKw⟩
    · obtain ⟨j, j1, j2, _⟩ := per i hi
      rw [j2]; exact hh j j1
    · obtain ⟨j, j1, j2, _⟩ := per i hi
      rw [j2, e0, e451]; exact hhn j j1
    · obtain ⟨i', i1, i2, i3⟩ := per i hi
      obtain ⟨j', j1, j2, j3⟩ := per j hj
      rw [i2, j2]
      exact hhh i' j' i1 j1 (by omega)
    · rw [b1] at hi
      have hi : i < 4 := hi
      by_cases hi3 : i = 3
      · subst hi3
        rw [g3, ← a4]
        exact ⟨hd0.1.ext hd0.2.1 b3, hd0.2.1.ext b3, hd0.2.2.1.ext b3, QB.cg hd0.2.2.2.1 (by rw [b3 _ (by omega)]) (by rw [b3 _ (by omega)]), hd0.2.2.2.2.cg (b3 _ (by omega)) (b3 _ (by omega))⟩
      · have e := b2 i (by omega)
        rw [sE] at e
        obtain ⟨j, j1, j2, j3⟩ := per i hi
        have j4 : j = i + 1 := by omega
        subst j4
        rw [j2]
        have hb := (hh _ j1).1
        have hne : rN (v 449 (i + 1)) ≠ d := by rw [a4]; exact hhh _ _ j1 (by omega) (by omega)
        exact ((hH (i + 1) (by rw [h4]; exact j1)).up (Nat.le_trans x4 x5)).fr hb (wo _ hb (hhn _ j1).1 hne) wtx e
  · have h44 : inn (v 461 5) 4 := ⟨c2.1, by
      have := c2.2
      have : (v 461 5).toInt ≠ 4 := fun e => h4 (Int32.toInt_inj.mp e)
      omega⟩
    have hl := inn_lt h44
    obtain ⟨a1, a2, a3⟩ := r7 (by rw [c1]; exact h44)
    obtain ⟨b1, b2, b3⟩ := m7 h44
    obtain ⟨s1, s2⟩ := add1 h44 (by omega)
    have g : ∀ i, w 449 i = v 449 i := fun i => by rw [w449, a2]
    rw [c1] at a3
    refine ⟨⟨by rw [e0]; exact ⟨n1, n2⟩, by rw [e451]; exact ⟨t1, t2⟩, fun i hi => by rw [g]; exact hh i hi, by rw [e0, e451]; exact hnt, fun i hi => by rw [g, e0, e451]; exact hhn i hi, fun i j hi hj hij => by rw [g, g]; exact hhh i j hi hj hij⟩, hCw, ⟨by rw [w4482, a1, b1, c1], by rw [b1]; exact ⟨by have := h44.1; omega, by have := h44.2; omega⟩⟩, ⟨by rw [w448 4 (by decide), m3]; exact k1, by rw [m3]; exact k2⟩, ⟨hTX, by rw [eTL]; exact x4, by omega, x6⟩, hNw, fun i hi => ?_, hKw⟩
    rw [b1, s2] at hi
    rw [g]
    by_cases hic : i = (v 461 5).toNatClampNeg
    · rw [hic, ← a3]
      exact ⟨hd0.1.ext hd0.2.1 b3, hd0.2.1.ext b3, hd0.2.2.1.ext b3, QB.cg hd0.2.2.2.1 (by rw [b3 _ (by omega)]) (by rw [b3 _ (by omega)]), hd0.2.2.2.2.cg (b3 _ (by omega)) (b3 _ (by omega))⟩
    · have e := b2 i (by omega)
      rw [sE] at e
      have hb := (hh i (by omega)).1
      have hne : rN (v 449 i) ≠ d := by rw [a3]; exact hhh _ _ (by omega) hl hic
      exact ((hH i (by omega)).up (Nat.le_trans x4 x5)).fr hb (wo _ hb (hhn i (by omega)).1 hne) wtx e
/-- a call that is refused changes only what the model calls 'thrown' and 'before' -/
theorem Inv.refused {k : Int32} (hI : Inv n m v) (hm : mFa v w k) : Inv (n + 1) m w := by
  obtain ⟨hR, hC, ⟨c1, c2⟩, ⟨k1, k2⟩, ⟨⟨x1, x2, x3⟩, x4, x5, x6⟩, hN, hH, hK⟩ := hI
  obtain ⟨m1, m2, m3, m4, m5⟩ := hm
  have e448 : w 448 = v 448 := m1 _ (by decide) (by decide)
  have e449 : w 449 = v 449 := m1 _ (by decide) (by decide)
  have e451 : w 451 = v 451 := m1 _ (by decide) (by decide)
  have e450 : w 450 = v 450 := m1 _ (by decide) (by decide)
  have e466 : w 466 = v 466 := m1 _ (by decide) (by decide)
  have e462 : w 462 = v 462 := m1 _ (by decide) (by decide)
  have e464 : w 464 = v 464 := m1 _ (by decide) (by decide)
  have sE : ∀ i, sl w i = sl v i := fun i => by unfold sl; rw [m1 465 (by decide) (by decide)]
  have eTL : TL w = TL v := by unfold TL; rw [m4]
  have hb : ∀ b, kd b = 7 → ∀ q, b ≤ q → q < b + 64 → w q = v q := fun b hb q h1 h2 => by have := kd7 hb; exact m1 q (by omega) (by omega)
  have hl := Nat.le_trans x4 x5
  refine ⟨by unfold RB; rw [e448, e449, e451]; exact hR, fun b hk => by have := kd7 hk; exact (hC b hk).fr ⟨hb b hk _ (by omega) (by omega), hb b hk _ (by omega) (by omega)⟩, ⟨by rw [e448, m3]; exact c1, by rw [m3]; exact c2⟩, ⟨by rw [e448, m2]; exact k1, by rw [m2]; exact k2⟩, ⟨⟨by rw [e448, m4]; exact x1, by rw [m4]; exact x2, fun i hi => by rw [eTL] at hi; rw [e450, e466]; exact x3 i hi⟩, by rw [eTL]; exact x4, by omega, x6⟩, ?_, fun i hi => ?_, fun h => ?_⟩
  · rw [e448, e462]
    exact (hN.up hl).fr hR.1.1 (hb _ hR.1.1) ⟨m4, e466⟩ eqA.rf
  · rw [m3] at hi
    rw [e449, sE]
    have hi4 : i < 4 := by have := inn_lt c2; omega
    exact ((hH i hi).up hl).fr (hR.2.2.1 i hi4).1 (hb _ (hR.2.2.1 i hi4).1) ⟨m4, e466⟩ eqA.rf
  · rw [m2] at h
    rw [e464]
    exact ((hK h).up hl).fr (by decide) (hb _ (by decide)) ⟨m4, e466⟩ eqA.rf
end T39c
