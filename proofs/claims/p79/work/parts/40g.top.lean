/-! THE PLAIN PART 11g: keeping, going back, undoing. -/
section T40g
variable {n m m' : Nat} {u v w : vSt} {A A' : Ar} {z k p p1 p2 : Int32}
theorem qv_tl {j : Nat} (e7 : w 461 7 = v 461 7) (e466 : w 466 = v 466) (h : QVp j m v A) : QVp j m w A := by
  unfold QVp TL at *
  rw [e7, e466]
  exact h
theorem t_keep (hI : Inv n m v) : oX10_keep 448 v ∧ oX11_keep 461 (fX10_keep 448 v).2 ∧
    OKC n v 0 (fX10_keep 448 v).1 (fX10_keep 448 v).2 (fX11_keep 461 (fX10_keep 448 v).2).1 (fX11_keep 461 (fX10_keep 448 v).2).2 Int32.ofNat := by
  obtain ⟨hR, hC, ⟨c1, c2⟩, ⟨k1, k2⟩, ⟨⟨x1, x2, x3⟩, x4, x5, x6⟩, hN, hH, hK⟩ := hI
  have hb := hR.1.1
  have hn0 := kd7 hb
  have ln := Nat.le_trans x4 x5
  obtain ⟨s1, hP, s3⟩ := c_copy (b := 320) (by decide) hb (Ne.symm hR.1.2) hN.1 hN.2.1 (hC 320 (by decide)) (hC _ hb)
  have hm := hP.mono (by decide)
  unfold oX10_keep kkX10_keep fX10_keep oX11_keep fX11_keep
  dsimp only
  unfold kkX7_copyFrom
  generalize fX7_copyFrom 320 (rN (v 448 0)) v = v4 at *
  have r4 : ∀ q, (q < 320 ∨ 384 ≤ q) → v4 q = v q := fun q hq => hP.1 q (by omega)
  have e0 : rN (u2 v4 448 4 1 448 0) = rN (v 448 0) := by rw [u2_q, if_neg (by decide), r4 _ (by omega)]
  rw [e0]
  generalize hv5 : u2 v4 448 4 1 = v5 at *
  have r5 : ∀ q, q ≠ 448 → v5 q = v4 q := fun q hq => by rw [← hv5, u2_r hq]
  have e448 : ∀ f, f ≠ 4 → v5 448 f = v 448 f := fun f hf => by rw [← hv5, u2_q, if_neg (by omega), r4 _ (by omega)]
  have e4484 : v5 448 4 = 1 := by rw [← hv5, u2_s]
  have hz : v5 (rN (v 448 0) + 2 + 4) 3 = v 462 206 := by
    have l := hR.1.2
    rw [r5 _ (by omega), r4 _ (by omega)]
    exact hN.1.2.2.2.2.2.1.1
  have mc := m_copies (v := u2 (u2 v5 461 8 0) 461 3 1) (o1 := 462) (o2 := 464) (s := 0) (d := 0) (by decide) (by decide) (by decide)
  rw [show (Int32.ofNat 0) = (0 : Int32) from rfl] at mc
  rw [mc.1]
  simp only [Int32.reduceToNatClampNeg]
  have i462 : u2 (u2 v5 461 8 0) 461 3 1 462 = v 462 := by rw [u2_r (by decide), u2_r (by decide), r5 _ (by decide), r4 _ (by omega)]
  generalize hw : uA (u2 (u2 v5 461 8 0) 461 3 1) 464 (va_cpy (u2 (u2 v5 461 8 0) 461 3 1 462) (u2 (u2 v5 461 8 0) 461 3 1 464) 0 0 3417) = w
  have w0 : ∀ q, q ≠ 461 → q ≠ 464 → w q = v5 q := fun q a b => by rw [← hw, uA_n b, u2_r a, u2_r a]
  have w461 : ∀ f, f ≠ 3 → f ≠ 8 → w 461 f = v 461 f := fun f a b => by rw [← hw, uA_n (by decide), u2_q, if_neg (by omega), u2_q, if_neg (by omega), r5 _ (by decide), r4 _ (by omega)]
  have w3 : w 461 3 = 1 := by rw [← hw, uA_n (by decide), u2_s]
  have w8 : w 461 8 = 0 := by rw [← hw, uA_n (by decide), u2_q, if_neg (by decide), u2_s]
  have w464 : eqA (w 464) (v 462) := fun j hj => by rw [← hw, uA_s, cpy_0 hj, i462]
  have wb : ∀ q, q < 448 → w q = v4 q := fun q hq => by rw [w0 q (by omega) (by omega), r5 q (by omega)]
  have wt : ∀ q, 449 ≤ q → q ≠ 461 → q ≠ 464 → w q = v q := fun q a b c => by rw [w0 q b c, r5 q (by omega), r4 q (by omega)]
  have w448 : ∀ f, f ≠ 4 → w 448 f = v 448 f := fun f hf => by rw [w0 _ (by decide) (by decide)]; exact e448 f hf
  have wo : ∀ b, kd b = 7 → b ≠ 320 → ∀ q, b ≤ q → q < b + 64 → w q = v q := fun b hb h q q1 q2 => by
    have := kd7 hb
    rw [wb q (by omega), r4 q (by omega)]
  have hpw : pot w = pot v5 := pot_cg (fun q hq => by rw [w0 q (fun e => by rw [e] at hq; exact absurd hq (by decide)) (fun e => by rw [e] at hq; exact absurd hq (by decide))])
  have hp5 : pot v5 = pot v4 := pot_cg (fun q hq => by rw [r5 q (fun e => by rw [e] at hq; exact absurd hq (by decide))])
  have e466 : w 466 = v 466 := wt _ (by decide) (by decide) (by decide)
  have e7 : w 461 7 = v 461 7 := w461 7 (by decide) (by decide)
  have eTL : TL w = TL v := by unfold TL; rw [e7]
  have e00 : rN (w 448 0) = rN (v 448 0) := by rw [w448 0 (by decide)]
  refine ⟨⟨hb, s3, by rw [hp5]; omega, fun v4' e4 v5' e5 => ?_⟩, fun v1 e1 v2 e2 => ⟨?_, fun _ _ => vL (by decide)⟩, fun q hq => by rw [r5 q (by omega), r4 q (by omega)], by rw [hp5]; exact hm, hpw, w8, fun _ => ?_, m, ?_⟩
  · rw [e5, e4, hv5, e448 0 (by decide)]; exact hb
  · rw [e2, e1]; exact mc.2
  · rw [hz, ← i462, ← hw, uA_n (by decide)]
  · show Inv (n + 1) m w
    refine ⟨by unfold RB; rw [e00, wt 449 (by decide) (by decide) (by decide), wt 451 (by decide) (by decide) (by decide)]; exact hR, fun b hk => ?_, ⟨by rw [w448 2 (by decide), w461 5 (by decide) (by decide)]; exact c1, by rw [w461 5 (by decide) (by decide)]; exact c2⟩, ⟨by rw [w0 _ (by decide) (by decide), e4484, w3], by rw [w3]; decide⟩, ⟨⟨by rw [w448 6 (by decide), e7]; exact x1, by rw [e7]; exact x2, fun i hi => by rw [eTL] at hi; rw [wt 450 (by decide) (by decide) (by decide), e466]; exact x3 i hi⟩, by rw [eTL]; exact x4, by omega, x6⟩, ?_, fun i hi => ?_, fun _ => ?_⟩
    · have l := kd7 hk
      by_cases h : b = 320
      · subst h
        exact hP.2.1.fr ⟨wb _ (by omega), wb _ (by omega)⟩
      · exact (hC b hk).fr ⟨wo b hk h _ (by omega) (by omega), wo b hk h _ (by omega) (by omega)⟩
    · rw [e00, wt 462 (by decide) (by decide) (by decide)]
      exact (hN.up ln).fr hb (wo _ hb hR.1.2) ⟨e7, e466⟩ eqA.rf
    · rw [w461 5 (by decide) (by decide)] at hi
      have hi4 : i < 4 := by have := inn_lt c2; omega
      have sE : sl w i = sl v i := by unfold sl; rw [wt 465 (by decide) (by decide) (by decide)]
      rw [wt 449 (by decide) (by decide) (by decide), sE]
      exact ((hH i hi).up ln).fr (hR.2.2.1 i hi4).1 (wo _ (hR.2.2.1 i hi4).1 (hR.2.2.1 i hi4).2) ⟨e7, e466⟩ eqA.rf
    · have h := hN.up ln
      exact ⟨(s1.fr (by decide) (fun q _ _ => wb q (by omega)) ⟨hN.2.1.1.1, hN.2.1.1.2.1, hN.2.1.1.2.2.1⟩).ext hN.2.1 w464, hN.2.1.ext w464, hN.2.2.1.ext w464, qv_tl e7 e466 ⟨QB.cg h.2.2.2.1 (by rw [w464 _ (by omega)]) (by rw [w464 _ (by omega)]), h.2.2.2.2.cg (w464 _ (by omega)) (w464 _ (by omega))⟩⟩
theorem t_goBack (hI : Inv n m v) : oX10_goBack 448 v ∧ oX11_goBack 461 (fX10_goBack 448 v).2.2 ∧ ((fX10_goBack 448 v).1 = 0 ∨ (fX10_goBack 448 v).1 = 2) ∧
    OKC n v (fX10_goBack 448 v).1 (fX10_goBack 448 v).2.1 (fX10_goBack 448 v).2.2 (fX11_goBack 461 (fX10_goBack 448 v).2.2).1 (fX11_goBack 461 (fX10_goBack 448 v).2.2).2 cc1 := by
  have hI0 := hI
  obtain ⟨hR, hC, ⟨c1, c2⟩, ⟨k1, k2⟩, ⟨⟨x1, x2, x3⟩, x4, x5, x6⟩, hN, hH, hK⟩ := hI
  have hb := hR.1.1
  have hbg : ∀ u : vSt, fX11_begins 461 u 461 3 = u 461 3 := fun u => m_begins.2.1 3 (by decide)
  unfold oX10_goBack kkX10_goBack fX10_goBack oX11_goBack fX11_goBack
  rw [k1]
  by_cases h1 : v 461 3 = 0
  · rw [if_pos h1]
    dsimp only
    rw [hbg, if_pos h1]
    exact ⟨⟨fun _ => kk36, fun q => absurd h1 q⟩, ⟨m_begins.2.2.2.2, fun v2 e2 q => absurd (by rw [e2, hbg]; exact h1) q⟩, Or.inr rfl, gcR hI0 (by decide) (by decide)⟩
  rw [if_neg h1]
  have h3 : v 461 3 = 1 := Int32.toInt_inj.mp (by
    have a := k2.1
    have b := k2.2
    have : (v 461 3).toInt ≠ 0 := fun e => h1 (Int32.toInt_inj.mp e)
    show _ = (1 : Int)
    omega)
  obtain ⟨q1, q2, q3, q4, q5, q6⟩ := hI0.rec
  obtain ⟨d, ⟨d1, d2, d3, d4⟩, r1, r2, r3, r4, r5, r6, r7, r8⟩ := c_record hR hC (by rw [c1]; exact c2) hN.1 hN.2.1
  have ld := kd7 d1
  have lb := kd7 hb
  have hK1 := hK h3
  have hb3 : ∀ q, 320 ≤ q → q < 384 → fX10_recordState 448 v q = v q := fun q a b => r1 q (by omega) (by omega) (by omega)
  have hS3 : SR (fX10_recordState 448 v) 320 (v 464) := hK1.1.fr (by decide) (fun q a b => hb3 q a (by omega)) ⟨hK1.2.1.1.1, hK1.2.1.1.2.1, hK1.2.1.1.2.2.1⟩
  have hC3 : CP (fX10_recordState 448 v) 320 := (hC 320 (by decide)).fr ⟨hb3 _ (by omega) (by omega), hb3 _ (by omega) (by omega)⟩
  obtain ⟨s1, hP, s3⟩ := c_copy (s := 320) hb (by decide) hR.1.2 hS3 hK1.2.1 q3 hC3
  have hm := hP.mono hb
  have hu := u461 hP hI0
  dsimp only
  rw [q1]
  unfold kkX7_copyFrom
  have r4' : ∀ q, (q < rN (v 448 0) ∨ rN (v 448 0) + 64 ≤ q) → fX7_copyFrom (rN (v 448 0)) 320 (fX10_recordState 448 v) q = fX10_recordState 448 v q := hP.1
  generalize hv8 : fX7_copyFrom (rN (v 448 0)) 320 (fX10_recordState 448 v) = v8 at *
  have e0 : rN (v8 448 0) = rN (v 448 0) := by rw [r4' _ (by omega), q1]
  rw [e0, hbg, hu.2, if_neg h1]
  have i464 : fX11_begins 461 v8 464 = v 464 := by rw [m_begins.1 _ (by decide) (by decide), r4' _ (by omega), r1 _ (by decide) (by decide) (by omega)]
  have mc := m_copies (v := fX11_begins 461 v8) (o1 := 464) (o2 := 462) (s := 0) (d := 0) (by decide) (by decide) (by decide)
  rw [show (Int32.ofNat 0) = (0 : Int32) from rfl] at mc
  rw [mc.1, i464]
  generalize hA : va_cpy (v 464) (fX11_begins 461 v8 462) 0 0 3417 = A'
  have eA : eqA A' (v 464) := fun j hj => by rw [← hA, cpy_0 hj]
  obtain ⟨w, e, hmS, ho⟩ := m_endsS (u := v8) (k := 1) (A' := A') (x := 0) (by rw [hu.2]; exact c2) (by decide)
  have ew : fX11_records 461 (uA (fX11_begins 461 v8) 462 A') = w := by
    unfold fX11_ends at e
    rw [if_neg (by decide), if_neg (by decide)] at e
    exact (Prod.mk.inj e).2
  have hrec : oX11_records 461 (uA (fX11_begins 461 v8) 462 A') := (m_records (by rw [uA_n (by decide), m_begins.2.1 5 (by decide), hu.2]; exact c2)).2.2.1
  have hup := hK1.up (Nat.le_trans x4 x5)
  obtain ⟨i1, i2, i3⟩ := hI0.change hP (s1.ext hK1.2.1 eA) (hK1.2.1.ext eA) (hK1.2.2.1.ext eA) ⟨QB.cg hup.2.2.2.1 (by rw [eA _ (by omega)]) (by rw [eA _ (by omega)]), hup.2.2.2.2.cg (eA _ (by omega)) (eA _ (by omega))⟩ hmS
  rw [ew]
  simp only [Int32.reduceToNatClampNeg]
  refine ⟨⟨fun q => absurd q h1, fun _ => ⟨q4, ?_, fun v4 e4 => ?_⟩⟩, ⟨m_begins.2.2.2.2, fun v2 e2 _ => ⟨by rw [e2]; exact mc.2, fun v5 e5 => ⟨?_, fun _ _ => vL (by decide)⟩⟩⟩, Or.inl trivial, hiq hP hI0, Nat.le_trans q5 hm, hmS.pot, hmS.2.2.1.2.2, fun _ => ?_, m, i1⟩
  · unfold kkX10_recordState
    omega
  · rw [e4, q1]
    refine ⟨hb, s3, ?_, fun v8' e8 => ?_⟩
    · rw [hv8]
      unfold kkX10_recordState
      omega
    · rw [e8, hv8, e0]; exact hb
  · rw [e5, e2, mc.1, i464, hA]
    exact hrec
  · rw [hmS.2.1, eA _ (by omega)]
    exact s1.2.2.2.2.2.1.1
theorem t_undo (hI : Inv n m v) : oX10_undo 448 v ∧ oX11_undo 461 (fX10_undo 448 v).2.2 ∧ ((fX10_undo 448 v).1 = 0 ∨ (fX10_undo 448 v).1 = 2) ∧
    OKC n v (fX10_undo 448 v).1 (fX10_undo 448 v).2.1 (fX10_undo 448 v).2.2 (fX11_undo 461 (fX10_undo 448 v).2.2).1 (fX11_undo 461 (fX10_undo 448 v).2.2).2 cc1 := by
  have hI0 := hI
  obtain ⟨hR, hC, ⟨c1, c2⟩, ⟨k1, k2⟩, ⟨⟨x1, x2, x3⟩, x4, x5, x6⟩, hN, hH, hK⟩ := hI
  have hb := hR.1.1
  have ln := Nat.le_trans x4 x5
  have q5 : ∀ u : vSt, ∀ y, u2 u 461 8 y 461 5 = u 461 5 := fun u y => by rw [u2_q, if_neg (by decide)]
  unfold oX10_undo kkX10_undo fX10_undo oX11_undo fX11_undo
  rw [c1]
  by_cases h1 : v 461 5 ≤ 0
  · have h0 : v 461 5 = 0 := Int32.toInt_inj.mp (by
      have := i_le h1
      have := c2.1
      rw [show (0 : Int32).toInt = 0 from rfl] at *
      omega)
    rw [if_pos h1]
    dsimp only
    rw [q5, if_pos h0]
    exact ⟨⟨fun _ => kk36, fun q => absurd h1 q⟩, fun v1 e1 q => absurd (by rw [e1, q5]; exact h0) q, Or.inr rfl, gcR8 hI0 (by decide) (by decide)⟩
  have h4 : v 461 5 ≤ 4 := by
    rw [Int32.le_iff_toInt_le, show (4 : Int32).toInt = 4 from rfl]
    have := c2.2
    omega
  have h0 : ¬ v 461 5 = 0 := fun e => h1 (by rw [e]; decide)
  rw [if_neg h1, if_pos h4]
  obtain ⟨s1, s2, s3, s4⟩ := sub1 c2 h0
  have s5 : inn (v 461 5 - 1) 4 := ⟨s4.1, by rw [s1]; have := c2.2; omega⟩
  have s6 := inn_lt s5
  have e448 : u2 v 448 2 (v 461 5 - 1) 448 2 = v 461 5 - 1 := u2_s
  have e4480 : u2 v 448 2 (v 461 5 - 1) 448 0 = v 448 0 := by rw [u2_q, if_neg (by decide)]
  have e449 : u2 v 448 2 (v 461 5 - 1) 449 = v 449 := u2_r (by decide)
  dsimp only
  rw [e448, e4480, e449]
  generalize hc : (v 461 5 - 1).toNatClampNeg = c at *
  have hcl : c < (v 461 5).toNatClampNeg := by omega
  have hHc := hH c hcl
  have hkc := hR.2.2.1 c s6
  generalize hv9 : u2 (u2 (u2 v 448 2 (v 461 5 - 1)) 449 c (Int32.ofNat (rN (v 448 0)))) 448 0 (Int32.ofNat (rN (v 449 c))) = v9
  have r9 : ∀ q, q ≠ 448 → q ≠ 449 → v9 q = v q := fun q a b => by rw [← hv9, u2_r a, u2_r b, u2_r a]
  have e9c : v9 448 2 = v 461 5 - 1 := by rw [← hv9, u2_q, if_neg (by decide), u2_r (by decide), u2_s]
  have e90 : rN (v9 448 0) = rN (v 449 c) := by rw [← hv9, u2_s, rN_on (kd_lt (by rw [hkc.1]; decide))]
  have e9f : ∀ f, f ≠ 0 → f ≠ 2 → v9 448 f = v 448 f := fun f a b => by rw [← hv9, u2_q, if_neg (by omega), u2_r (by decide), u2_q, if_neg (by omega)]
  have e9h : rN (v9 449 c) = rN (v 448 0) := by rw [← hv9, u2_r (by decide), u2_s, rN_on (kd_lt (by rw [hb]; decide))]
  have e9o : ∀ i, i ≠ c → v9 449 i = v 449 i := fun i hi => by rw [← hv9, u2_r (by decide), u2_q, if_neg (by omega), u2_r (by decide)]
  rw [e9c, q5, r9 461 (by decide) (by decide), if_neg h0]
  have e5 : u2 (u2 v9 461 8 0) 461 5 (v 461 5 - 1) 461 5 = v 461 5 - 1 := u2_s
  rw [e5]
  have eI : 3417 * (v 461 5 - 1) = Int32.ofNat (3417 * c) := by
    have e := rn_to s5.1
    have h2 := s5.2
    refine Int32.toInt_inj.mp ?_
    rw [of_ti (by omega), ti_mul (by rw [show (3417 : Int32).toInt = 3417 from rfl]; omega), show (3417 : Int32).toInt = 3417 from rfl]
    omega
  have mc := m_copies (v := u2 (u2 v9 461 8 0) 461 5 (v 461 5 - 1)) (o1 := 465) (o2 := 462) (s := 3417 * c) (d := 0) (by decide) (by rw [show mlen 465 = 13668 from rfl]; omega) (by decide)
  rw [show (Int32.ofNat 0) = (0 : Int32) from rfl] at mc
  rw [eI, mc.1]
  have i465 : u2 (u2 v9 461 8 0) 461 5 (v 461 5 - 1) 465 = v 465 := by rw [u2_r (by decide), u2_r (by decide), r9 _ (by decide) (by decide)]
  generalize hw : uA (u2 (u2 v9 461 8 0) 461 5 (v 461 5 - 1)) 462 (va_cpy (u2 (u2 v9 461 8 0) 461 5 (v 461 5 - 1) 465) (u2 (u2 v9 461 8 0) 461 5 (v 461 5 - 1) 462) (3417 * c) 0 3417) = w
  have w0 : ∀ q, q ≠ 461 → q ≠ 462 → w q = v9 q := fun q a b => by rw [← hw, uA_n b, u2_r a, u2_r a]
  have w461 : ∀ f, f ≠ 5 → f ≠ 8 → w 461 f = v 461 f := fun f a b => by rw [← hw, uA_n (by decide), u2_q, if_neg (by omega), u2_q, if_neg (by omega), r9 _ (by decide) (by decide)]
  have w5 : w 461 5 = v 461 5 - 1 := by rw [← hw, uA_n (by decide), u2_s]
  have w8 : w 461 8 = 0 := by rw [← hw, uA_n (by decide), u2_q, if_neg (by decide), u2_s]
  have w462 : eqA (w 462) (sl v c) := fun j hj => by
    rw [← hw, uA_s, i465]
    unfold va_cpy sl
    rw [if_pos (by omega)]
    congr 1
  have wr : ∀ q, q ≠ 448 → q ≠ 449 → q ≠ 461 → q ≠ 462 → w q = v q := fun q a b c d => by rw [w0 q c d, r9 q a b]
  have wo : ∀ b, kd b = 7 → ∀ q, b ≤ q → q < b + 64 → w q = v q := fun b hb q q1 q2 => by
    have := kd7 hb
    exact wr q (by omega) (by omega) (by omega) (by omega)
  have hpw : pot w = pot v9 := pot_cg (fun q hq => by rw [w0 q (fun e => by rw [e] at hq; exact absurd hq (by decide)) (fun e => by rw [e] at hq; exact absurd hq (by decide))])
  have hp9 : pot v9 = pot v := pot_cg (fun q hq => by rw [r9 q (fun e => by rw [e] at hq; exact absurd hq (by decide)) (fun e => by rw [e] at hq; exact absurd hq (by decide))])
  have e466 : w 466 = v 466 := wr _ (by decide) (by decide) (by decide) (by decide)
  have e7 : w 461 7 = v 461 7 := w461 7 (by decide) (by decide)
  have eTL : TL w = TL v := by unfold TL; rw [e7]
  have g0 : rN (w 448 0) = rN (v 449 c) := by rw [w0 _ (by decide) (by decide), e90]
  have g449 : w 449 = v9 449 := w0 _ (by decide) (by decide)
  have g448 : ∀ f, f ≠ 0 → f ≠ 2 → w 448 f = v 448 f := fun f a b => by rw [w0 _ (by decide) (by decide), e9f f a b]
  have hh : ∀ i, i < 4 → ∃ b, rN (w 449 i) = b ∧ (i = c ∧ b = rN (v 448 0) ∨ i ≠ c ∧ b = rN (v 449 i)) := fun i _ => by
    by_cases h : i = c
    · exact ⟨_, rfl, Or.inl ⟨h, by rw [g449, h, e9h]⟩⟩
    · exact ⟨_, rfl, Or.inr ⟨h, by rw [g449, e9o i h]⟩⟩
  obtain ⟨⟨n1, n2⟩, ⟨t1, t2⟩, hh4, hnt, hhn, hhh⟩ := hR
  refine ⟨⟨fun q => absurd q h1, fun _ => ⟨fun _ v4 e4 => ?_, fun q => absurd h4 q⟩⟩, fun v1 e1 _ v3 e3 => ?_, Or.inl rfl, fun q hq => r9 q (by omega) (by omega), Nat.le_of_eq hp9.symm, hpw, w8, fun _ => ?_, m, ?_⟩
  · rw [e4, e448, e449, hc, e4480]
    exact ⟨i_in s5.1 s5.2, hkc.1, hb⟩
  · rw [e3, e1, q5, r9 461 (by decide) (by decide), e5, eI]
    exact mc.2
  · rw [w5]
  · show Inv (n + 1) m w
    have e451 : w 451 = v 451 := wr _ (by decide) (by decide) (by decide) (by decide)
    refine ⟨⟨by rw [g0]; exact hkc, by rw [e451]; exact ⟨t1, t2⟩, fun i hi => ?_, by rw [g0, e451]; exact (hhn c s6).2, fun i hi => ?_, fun i j hi hj hij => ?_⟩, fun b hk => ?_, ⟨by rw [w0 _ (by decide) (by decide), e9c, w5], by rw [w5]; exact s4⟩, ⟨by rw [g448 4 (by decide) (by decide), w461 3 (by decide) (by decide)]; exact k1, by rw [w461 3 (by decide) (by decide)]; exact k2⟩, ⟨⟨by rw [g448 6 (by decide) (by decide), e7]; exact x1, by rw [e7]; exact x2, fun i hi => by rw [eTL] at hi; rw [wr 450 (by decide) (by decide) (by decide) (by decide), e466]; exact x3 i hi⟩, by rw [eTL]; exact x4, by omega, x6⟩, ?_, fun i hi => ?_, fun h => ?_⟩
    · obtain ⟨b, e, h⟩ := hh i hi
      rw [e]
      rcases h with ⟨_, h⟩ | ⟨_, h⟩ <;> rw [h]
      · exact ⟨n1, n2⟩
      · exact hh4 i hi
    · obtain ⟨b, e, h⟩ := hh i hi
      rw [e, g0, e451]
      rcases h with ⟨_, h⟩ | ⟨h2, h⟩ <;> rw [h]
      · exact ⟨Ne.symm (hhn c s6).1, hnt⟩
      · exact ⟨hhh i c hi s6 h2, (hhn i hi).2⟩
    · obtain ⟨b, e, h⟩ := hh i hi
      obtain ⟨b', e', h'⟩ := hh j hj
      rw [e, e']
      rcases h with ⟨h2, h⟩ | ⟨h2, h⟩ <;> rcases h' with ⟨h2', h'⟩ | ⟨h2', h'⟩ <;> rw [h, h']
      · omega
      · exact Ne.symm (hhn j hj).1
      · exact (hhn i hi).1
      · exact hhh i j hi hj hij
    · have := kd7 hk
      exact (hC b hk).fr ⟨wo b hk _ (by omega) (by omega), wo b hk _ (by omega) (by omega)⟩
    · rw [g0]
      exact (hHc.up ln).fr hkc.1 (wo _ hkc.1) ⟨e7, e466⟩ w462
    · rw [w5, hc] at hi
      have sE : sl w i = sl v i := by unfold sl; rw [wr 465 (by decide) (by decide) (by decide) (by decide)]
      rw [g449, e9o i (by omega), sE]
      exact ((hH i (by omega)).up ln).fr (hh4 i (by omega)).1 (wo _ (hh4 i (by omega)).1) ⟨e7, e466⟩ eqA.rf
    · rw [w461 3 (by decide) (by decide)] at h
      rw [wr 464 (by decide) (by decide) (by decide) (by decide)]
      exact ((hK h).up ln).fr (by decide) (wo _ (by decide)) ⟨e7, e466⟩ eqA.rf
end T40g
