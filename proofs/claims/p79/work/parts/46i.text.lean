/-! THE PLAIN PART 17i: what holds behind a run. -/
section T46i
variable {n m len : Nat} {u v w v10 : vSt} {A A' A0 T T' : Ar} {c : Int32}
theorem Inv.swap (hI : Inv n m v) (g448 : ∀ f, f ≠ 0 → v10 448 f = fX10_recordState 448 v 448 f) (g0 : rN (v10 448 0) = rN (v 451 0)) (g1 : rN (v10 451 0) = rN (v 448 0)) (gq : ∀ q, q ≠ 448 → q ≠ 451 → v10 q = fX10_recordState 448 v q) (hS : SR v (rN (v 451 0)) A') (hW : WF A') (hAC : AC A') (hQ : QVp (n + 1) m v A') (hm : mSu v10 w A') : Inv (n + 1) m w ∧ oX10_recordState 448 v ∧ pot v ≤ pot (fX10_recordState 448 v) := by
  obtain ⟨hR, hC, ⟨c1, c2⟩, ⟨k1, k2⟩, ⟨⟨x1, x2, x3⟩, x4, x5, x6⟩, hN, hH, hK⟩ := hI
  obtain ⟨d, ⟨d1, d2, d3, d4⟩, r1, r2, r3, r4, r5, r6, r7, r8⟩ := c_record hR hC (by rw [c1]; exact c2) hN.1 hN.2.1
  refine ⟨?_, r8, r4⟩
  obtain ⟨⟨n1, n2⟩, ⟨t1, t2⟩, hh, hnt, hhn, hhh⟩ := hR
  have ln := kd7 n1
  have ld := kd7 d1
  have lt := kd7 t1
  obtain ⟨m1, m2, ⟨m3, m4, m5⟩, m6, m7⟩ := hm
  have v10top : ∀ q, 450 ≤ q → q ≠ 451 → v10 q = v q := fun q hq h2 => by rw [gq q (by omega) h2, r1 q (by omega) (by omega) (by omega)]
  have w448 : ∀ f, f ≠ 2 → f ≠ 0 → w 448 f = v 448 f := fun f hf h0 => by rw [m1 _ (by decide) (by decide) (by decide) (by decide), g448 f h0, r2 f hf]
  have w449 : w 449 = fX10_recordState 448 v 449 := by rw [m1 _ (by decide) (by decide) (by decide) (by decide), gq _ (by omega) (by omega)]
  have w4482 : w 448 2 = fX10_recordState 448 v 448 2 := by rw [m1 _ (by decide) (by decide) (by decide) (by decide), g448 2 (by omega)]
  have wtop : ∀ q, 450 ≤ q → q ≠ 451 → q ≠ 461 → q ≠ 462 → q ≠ 463 → q ≠ 465 → w q = v q := fun q h1 h0 h2 h3 h4 h5 => by rw [m1 q h2 h3 h4 h5, v10top q h1 h0]
  have e461 : v10 461 = v 461 := v10top _ (by omega) (by omega)
  rw [e461] at m3 m4 m6 m7
  have sE : ∀ i, sl v10 i = sl v i := fun i => by unfold sl; rw [v10top _ (by omega) (by omega)]
  have e462 : v10 462 = v 462 := v10top _ (by omega) (by omega)
  rw [e462] at m6 m7
  -- the blocks
  have wb : ∀ q, q < 448 → w q = fX10_recordState 448 v q := fun q hq => by rw [m1 q (by omega) (by omega) (by omega) (by omega), gq q (by omega) (by omega)]
  have wo : ∀ b, kd b = 7 → b ≠ d → ∀ q, b ≤ q → q < b + 64 → w q = v q := fun b hb h2 q q1 q2 => by
    have lb := kd7 hb
    rw [wb q (by omega), r1 q (by omega) (by omega) (by omega)]
  have wd : ∀ q, d ≤ q → q < d + 64 → w q = fX10_recordState 448 v q := fun q q1 q2 => wb q (by omega)
  have wtx : w 461 7 = v 461 7 ∧ w 466 = v 466 := ⟨m4, wtop _ (by omega) (by omega) (by omega) (by omega) (by omega) (by omega)⟩
  have eTL : TL w = TL v := by unfold TL; rw [m4]
  have qvE : ∀ k B, QVp k m v B → QVp k m w B := fun k B h => by unfold QVp at *; rw [eTL, wtx.2]; exact h
  have hd0 : LIV (n + 1) m w d (v 462) := by
    have h := hN.up (Nat.le_trans x4 x5)
    exact ⟨r5.fr d1 wd ⟨hN.2.1.1.1, hN.2.1.1.2.1, hN.2.1.1.2.2.1⟩, h.2.1, h.2.2.1, qvE _ _ h.2.2.2⟩
  have hCw : ∀ b, kd b = 7 → CP w b := fun b hb => by
    have lb := kd7 hb
    by_cases h2 : b = d
    · subst h2; exact r3.fr ⟨wd _ (by omega) (by omega), wd _ (by omega) (by omega)⟩
    · exact (hC b hb).fr ⟨wo b hb h2 _ (by omega) (by omega), wo b hb h2 _ (by omega) (by omega)⟩
  have e0 : rN (w 448 0) = rN (v 451 0) := by rw [m1 448 (by omega) (by omega) (by omega) (by omega)]; exact g0
  have e451 : rN (w 451 0) = rN (v 448 0) := by rw [m1 451 (by omega) (by omega) (by omega) (by omega)]; exact g1
  have hTX : TX w := ⟨by rw [w448 6 (by decide) (by decide), m4]; exact x1, by rw [m4]; exact x2, fun i hi => by
    rw [eTL] at hi
    rw [wtx.2, wtop 450 (by omega) (by omega) (by omega) (by omega) (by omega) (by omega)]
    exact x3 i hi⟩
  have hNw : LIV (n + 1) m w (rN (w 448 0)) (w 462) := by
    rw [e0, m2]
    exact ⟨hS.fr t1 (wo _ t1 (fun e => d4 e.symm)) ⟨hW.1.1, hW.1.2.1, hW.1.2.2.1⟩, hW, hAC, qvE _ _ hQ⟩
  have hKw : w 461 3 = 1 → LIV (n + 1) m w 320 (w 464) := fun h => by
    rw [m3] at h
    rw [wtop 464 (by omega) (by omega) (by omega) (by omega) (by omega) (by omega)]
    exact ((hK h).up (Nat.le_trans x4 x5)).fr (by decide) (wo 320 (by decide) (by omega)) wtx eqA.rf
  by_cases h4 : v 461 5 = 4
  · obtain ⟨a1, a2, a3, a4⟩ := r6 (by rw [c1]; exact h4)
    obtain ⟨b1, b2, b3⟩ := m6 h4
    have g0 : rN (w 449 0) = rN (v 449 1) := by rw [w449]; exact a2 0 (by omega)
    have g1 : rN (w 449 1) = rN (v 449 2) := by rw [w449]; exact a2 1 (by omega)
    have g2 : rN (w 449 2) = rN (v 449 3) := by rw [w449]; exact a2 2 (by omega)
    have g3 : rN (w 449 3) = rN (v 449 0) := by rw [w449]; exact a3
    have per : ∀ i, i < 4 → ∃ j, j < 4 ∧ rN (w 449 i) = rN (v 449 j) ∧ j = (i + 1) % 4 := fun i hi => by
      have : i = 0 ∨ i = 1 ∨ i = 2 ∨ i = 3 := by omega
      rcases this with rfl | rfl | rfl | rfl
      · exact ⟨1, by omega, g0, rfl⟩
      · exact ⟨2, by omega, g1, rfl⟩
      · exact ⟨3, by omega, g2, rfl⟩
      · exact ⟨0, by omega, g3, rfl⟩
    refine ⟨⟨by rw [e0]; exact ⟨t1, t2⟩, by rw [e451]; exact ⟨n1, n2⟩, fun i hi => ?_, by rw [e0, e451]; exact hnt.symm, fun i hi => ?_, fun i j hi hj hij => ?_⟩, hCw, ⟨by rw [w4482, a1, b1], by rw [b1]; decide⟩, ⟨by rw [w448 4 (by decide) (by decide), m3]; exact k1, by rw [m3]; exact k2⟩, ⟨hTX, by rw [eTL]; exact x4, by omega, x6⟩, hNw, fun i hi => ?_, hKw⟩
    · obtain ⟨j, j1, j2, _⟩ := per i hi
      rw [j2]; exact hh j j1
    · obtain ⟨j, j1, j2, _⟩ := per i hi
      rw [j2, e0, e451]; exact ⟨(hhn j j1).2, (hhn j j1).1⟩
    · obtain ⟨i', i1, i2, i3⟩ := per i hi
      obtain ⟨j', j1, j2, j3⟩ := per j hj
      rw [i2, j2]
      exact hhh i' j' i1 j1 (by omega)
    · rw [b1] at hi
      have hi : i < 4 := hi
      by_cases hi3 : i = 3
      · subst hi3
        rw [g3, ← a4]
        exact ⟨hd0.1.ext hd0.2.1 b3, hd0.2.1.ext b3, hd0.2.2.1.ext b3, QB.cg hd0.2.2.2.1 (by rw [b3 _ (by omega)]) (by rw [b3 _ (by omega)]), hd0.2.2.2.2.cg (b3 _ (by omega)) (b3 _ (by omega))⟩
      · have e := b2 i (by omega)
        rw [sE] at e
        obtain ⟨j, j1, j2, j3⟩ := per i hi
        have j4 : j = i + 1 := by omega
        subst j4
        rw [j2]
        have hb := (hh _ j1).1
        have hne : rN (v 449 (i + 1)) ≠ d := by rw [a4]; exact hhh _ _ j1 (by omega) (by omega)
        exact ((hH (i + 1) (by rw [h4]; exact j1)).up (Nat.le_trans x4 x5)).fr hb (wo _ hb hne) wtx e
  · have h44 : inn (v 461 5) 4 := ⟨c2.1, by
      have := c2.2
      have : (v 461 5).toInt ≠ 4 := fun e => h4 (Int32.toInt_inj.mp e)
      omega⟩
    have hl := inn_lt h44
    obtain ⟨a1, a2, a3⟩ := r7 (by rw [c1]; exact h44)
    obtain ⟨b1, b2, b3⟩ := m7 h44
    obtain ⟨s1, s2⟩ := add1 h44 (by omega)
    have g : ∀ i, w 449 i = v 449 i := fun i => by rw [w449, a2]
    rw [c1] at a3
    refine ⟨⟨by rw [e0]; exact ⟨t1, t2⟩, by rw [e451]; exact ⟨n1, n2⟩, fun i hi => by rw [g]; exact hh i hi, by rw [e0, e451]; exact hnt.symm, fun i hi => by rw [g, e0, e451]; exact ⟨(hhn i hi).2, (hhn i hi).1⟩, fun i j hi hj hij => by rw [g, g]; exact hhh i j hi hj hij⟩, hCw, ⟨by rw [w4482, a1, b1, c1], by rw [b1]; exact ⟨by have := h44.1; omega, by have := h44.2; omega⟩⟩, ⟨by rw [w448 4 (by decide) (by decide), m3]; exact k1, by rw [m3]; exact k2⟩, ⟨hTX, by rw [eTL]; exact x4, by omega, x6⟩, hNw, fun i hi => ?_, hKw⟩
    rw [b1, s2] at hi
    rw [g]
    by_cases hic : i = (v 461 5).toNatClampNeg
    · rw [hic, ← a3]
      exact ⟨hd0.1.ext hd0.2.1 b3, hd0.2.1.ext b3, hd0.2.2.1.ext b3, QB.cg hd0.2.2.2.1 (by rw [b3 _ (by omega)]) (by rw [b3 _ (by omega)]), hd0.2.2.2.2.cg (b3 _ (by omega)) (b3 _ (by omega))⟩
    · have e := b2 i (by omega)
      rw [sE] at e
      have hb := (hh i (by omega)).1
      have hne : rN (v 449 i) ≠ d := by rw [a3]; exact hhh _ _ (by omega) hl hic
      exact ((hH i (by omega)).up (Nat.le_trans x4 x5)).fr hb (wo _ hb hne) wtx e
theorem Inv.trial (hI : Inv n m v) (n1q : ∀ q, (q < rN (v 451 0) ∨ rN (v 451 0) + 64 ≤ q) → q ≠ 451 → q ≠ 452 → q ≠ 461 → q ≠ 462 → q ≠ 463 → w q = v q) (h451 : w 451 0 = v 451 0) (hCb : CP w (rN (v 451 0))) (hA : eqA (w 462) (v 462)) (m2' : ∀ f, f < 8 → w 461 f = v 461 f) : Inv n m w := by
  obtain ⟨hR, hC, ⟨c1, c2⟩, ⟨k1, k2⟩, ⟨⟨x1, x2, x3⟩, x4, x5, x6⟩, hN, hH, hK⟩ := hI
  have m2 := m2' 3 (by decide)
  have m3 := m2' 5 (by decide)
  have m4 := m2' 7 (by decide)
  have lT := kd7 hR.2.1.1
  have m1 : ∀ q, (q < rN (v 451 0) ∨ rN (v 451 0) + 64 ≤ q) → q ≠ 451 → q ≠ 452 → q ≠ 461 → q ≠ 462 → q ≠ 463 → w q = v q := n1q
  have e448 : w 448 = v 448 := m1 _ (by omega) (by decide) (by decide) (by decide) (by decide) (by decide)
  have e449 : w 449 = v 449 := m1 _ (by omega) (by decide) (by decide) (by decide) (by decide) (by decide)
  have e450 : w 450 = v 450 := m1 _ (by omega) (by decide) (by decide) (by decide) (by decide) (by decide)
  have e466 : w 466 = v 466 := m1 _ (by omega) (by decide) (by decide) (by decide) (by decide) (by decide)
  have e464 : w 464 = v 464 := m1 _ (by omega) (by decide) (by decide) (by decide) (by decide) (by decide)
  have sE : ∀ i, sl w i = sl v i := fun i => by unfold sl; rw [m1 465 (by omega) (by decide) (by decide) (by decide) (by decide) (by decide)]
  have eTL : TL w = TL v := by unfold TL; rw [m4]
  have hb : ∀ b, kd b = 7 → b ≠ rN (v 451 0) → ∀ q, b ≤ q → q < b + 64 → w q = v q := fun b hb hne q h1 h2 => by have := kd7 hb; exact m1 q (by omega) (by omega) (by omega) (by omega) (by omega) (by omega)
  have hl := Nat.le_trans x4 x5
  refine ⟨by unfold RB; rw [e448, e449, h451]; exact hR, fun b hk => by
    have := kd7 hk
    by_cases e : b = rN (v 451 0)
    · rw [e]; exact hCb
    · exact (hC b hk).fr ⟨hb b hk e _ (by omega) (by omega), hb b hk e _ (by omega) (by omega)⟩, ⟨by rw [e448, m3]; exact c1, by rw [m3]; exact c2⟩, ⟨by rw [e448, m2]; exact k1, by rw [m2]; exact k2⟩, ⟨⟨by rw [e448, m4]; exact x1, by rw [m4]; exact x2, fun i hi => by rw [eTL] at hi; rw [e450, e466]; exact x3 i hi⟩, by rw [eTL]; exact x4, x5, x6⟩, ?_, fun i hi => ?_, fun h => ?_⟩
  · rw [e448]
    exact hN.fr hR.1.1 (hb _ hR.1.1 hR.2.2.2.1) ⟨m4, e466⟩ hA
  · rw [m3] at hi
    rw [e449, sE]
    have hi4 : i < 4 := by have := inn_lt c2; omega
    exact (hH i hi).fr (hR.2.2.1 i hi4).1 (hb _ (hR.2.2.1 i hi4).1 (hR.2.2.2.2.1 i hi4).2) ⟨m4, e466⟩ eqA.rf
  · rw [m2] at h
    rw [e464]
    exact (hK h).fr (by decide) (hb _ (by decide) (fun e => hR.2.1.2 e.symm)) ⟨m4, e466⟩ eqA.rf

/-- one call more -/
theorem Inv.up (hI : Inv n m v) (hn : 0 ≤ n) : Inv (n + 1) m v := by
  obtain ⟨hR, hC, c1, k1, ⟨x1, x4, x5, x6⟩, hN, hH, hK⟩ := hI
  have hl := Nat.le_trans x4 x5
  exact ⟨hR, hC, c1, k1, ⟨x1, x4, by omega, x6⟩, hN.up hl, fun i hi => (hH i hi).up hl, fun h => (hK h).up hl⟩
theorem dg_cg (h : ∀ i, i < len → T' i = T i) : ∀ {f p : Nat} {a : Int32}, dg T' len f p a = dg T len f p a
  | 0, _, _ => rfl
  | f + 1, p, a => by
    unfold dg
    by_cases q : p < len
    · rw [h p q]
      by_cases q2 : p < len ∧ isD (T p)
      · rw [if_pos q2, if_pos q2]; exact dg_cg h
      · rw [if_neg q2, if_neg q2]
    · rw [if_neg (fun z => q z.1), if_neg (fun z => q z.1)]
theorem sg_cg (h : ∀ i, i < len → T' i = T i) {s : Bool × Nat} : sg T' len c s = sg T len c s := by
  unfold sg
  by_cases q : s.2 < len
  · rw [h _ q]
  · rw [if_neg (fun z => q z.2.1), if_neg (fun z => q z.2.1)]
theorem nu_cg (h : ∀ i, i < len → T' i = T i) {s : Bool × Nat} : nu T' len s = nu T len s := by
  unfold nu
  rw [dg_cg h]
theorem run_cg (h : ∀ i, i < len → T' i = T i) : ∀ {f : Nat} {A : Ar} {pos k : Nat}, runP T' len f A pos k = runP T len f A pos k
  | 0, _, _, _ => rfl
  | f + 1, A, pos, k => by
    unfold runP
    by_cases q : len ≤ pos
    · rw [if_pos q, if_pos q]
    have e := h pos (by omega)
    have e1 : pN1 T' len pos = pN1 T len pos := by unfold pN1 pS0; rw [e, nu_cg h]
    have e2 : pN2 T' len pos = pN2 T len pos := by unfold pN2; rw [e, e1, sg_cg h, nu_cg h]
    have e3 : pE T' len pos = pE T len pos := by unfold pE; rw [e2, sg_cg h]
    have e4 : oAt T' len A pos = oAt T len A pos := by unfold oAt; rw [e, e1, e2]
    rw [if_neg q, if_neg q, e3, e4, run_cg h]
theorem rq_cg (h : ∀ i, i < len → T' i = T i) (hq : RQ T len A0) : RQ T' len A0 := by
  intro pos cj Q W h1 h2 h3 h4
  rw [cP_cg pos (fun j hj => h j (by omega))] at h2 h4
  exact hq pos cj Q W h1 h2 h3 h4
theorem ri_cg (h : ∀ i, i < len → T' i = T i) {pos : Nat} (hR : RI T' len A0 A pos) : RI T len A0 A pos := by
  obtain ⟨h1, h2, h3, h4, h5, cj, h6, h7, h8⟩ := hR
  rw [cP_cg pos (fun j hj => h j (by omega))] at h6 h8
  exact ⟨h1, h2, h3, h4, h5, cj, h6, h7, h8⟩
theorem cP_up {i j : Nat} (h : i ≤ j) : cP T i ≤ cP T j := by
  induction j with
  | zero => rw [show i = 0 by omega]; exact Nat.le_refl _
  | succ j ih =>
    by_cases e : i = j + 1
    · rw [e]; exact Nat.le_refl _
    · have := ih (by omega)
      show cP T i ≤ cP T j + _
      omega
/-- the queue's bound gives room for every run -/
theorem QB.rq {n m : Nat} (h : QB n m len (cP T len) A0) (hn : n ≤ 3150) (hl : len ≤ m) (_hm : m ≤ n) (h60 : m ≤ 60) : RQ T len A0 := by
  intro pos cj Q W h1 h2 h3 h4
  have h : (A0 207).toNatClampNeg ≤ n := h
  omega
/-- .. and holds behind a whole run -/
theorem QB.run {n m : Nat} (h : QB n m len (cP T len) A0) (hl : len ≤ m) (_hm : m ≤ n) (h60 : m ≤ 60) (hR : RI T len A0 A len) : QB (n + 20) m len (cP T len) A := by
  obtain ⟨_, _, _, _, _, cj, h6, h7, h8⟩ := hR
  have h : (A0 207).toNatClampNeg ≤ n := h
  show (A 207).toNatClampNeg ≤ n + 20
  omega
theorem Inv.up1 {n m0 : Nat} {v : vSt} (hI : Inv n m0 v) : Inv (n + 1) m0 v := hI.refused (k := v 461 8) ⟨fun q _ _ => rfl, rfl, rfl, rfl, rfl⟩
theorem Inv.upTo {n m0 : Nat} {v : vSt} (hI : Inv n m0 v) : ∀ k, Inv (n + k) m0 v
  | 0 => hI
  | k + 1 => (hI.upTo k).up1
end T46i
