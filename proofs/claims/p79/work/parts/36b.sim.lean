/-! THE PLAIN PART 7b: new blocks and types. -/
section N36b
variable {v : vSt} {b : Nat} {A : Ar} {p1 p2 p3 p4 x : Int32}
theorem c_putBlock (hb : kd b = 7) (h : SR v b A) (hw : WF A) (ha : AC A) (hc : CP v b) (hn : inn (A 204) 10) (hk : 1 ≤ p1.toInt ∧ p1.toInt ≤ 5000) :
    (fX2_putBlock (b + 1) p1 p2 v).1 = A 204 ∧ SR (fX2_putBlock (b + 1) p1 p2 v).2 b (sAddBlock A p1 p2) ∧ PO b v (fX2_putBlock (b + 1) p1 p2 v).2 ∧ WF (sAddBlock A p1 p2) ∧ AC (sAddBlock A p1 p2) := by
  have hN := inn_lt hn
  obtain ⟨a1, a2⟩ := add1 hn (by omega)
  have n0 := rn_to hn.1
  have hz := hw.2.2.1.2
  have h6 : ¬ (10 : Int32) ≤ v (b + 1) 3 := by rw [h.1.2.1, Int32.le_iff_toInt_le, show (10 : Int32).toInt = 10 from rfl]; have := hn.2; omega
  have eT : ∀ j, j ≠ 204 → j ≠ 48 + 3 * (A 204).toNatClampNeg → j ≠ 48 + 3 * (A 204).toNatClampNeg + 1 → sAddBlock A p1 p2 j = A j := fun j h1 h2 h3 => by unfold sAddBlock; rw [st_n h1, st_n h3, st_n h2]
  have e203 : sAddBlock A p1 p2 204 = A 204 + 1 := st_s
  have t0 : sAddBlock A p1 p2 (48 + 3 * (A 204).toNatClampNeg) = p1 := by unfold sAddBlock; rw [st_n (by omega), st_n (by omega), st_s]
  have t1 : sAddBlock A p1 p2 (48 + 3 * (A 204).toNatClampNeg + 1) = p2 := by unfold sAddBlock; rw [st_n (by omega), st_s]
  have t2 : sAddBlock A p1 p2 (48 + 3 * (A 204).toNatClampNeg + 2) = 0 := by rw [eT _ (by omega) (by omega) (by omega)]; exact hz _ (by omega) (by omega)
  have hbr : ∀ q, q ≠ ((b + 1 + 3) + 20 + ((A 204).toNatClampNeg)) → fX1_begin (((b + 1 + 3) + 20 + ((A 204).toNatClampNeg))) p1 p2 v q = v q := fun q hq => by simp only [fX1_begin]; rw [u2_r hq, u2_r hq, u2_r hq]
  have hvr : ∀ q, q ≠ ((b + 1 + 3) + 20 + ((A 204).toNatClampNeg)) → q ≠ b + 1 → u2 (fX1_begin (((b + 1 + 3) + 20 + ((A 204).toNatClampNeg))) p1 p2 v) (b + 1) 3 (A 204 + 1) q = v q := fun q h1 h2 => by rw [u2_r h2, hbr q h1]
  unfold fX2_putBlock
  rw [if_neg h6]
  simp only []
  rw [h.1.2.1, hbr (b + 1) (by omega), h.1.2.1]
  obtain ⟨k1, k2, k3, k4, k5, k6, k7⟩ := h
  obtain ⟨⟨c1, c2, c3, c4, c5, c6⟩, w2, w3, w4, w5, w6⟩ := hw
  refine ⟨rfl, ⟨?_, k2.cg (hvr _ (by omega) (by omega)) ⟨eT _ (by omega) (by omega) (by omega), eT _ (by omega) (by omega) (by omega), fun j _ _ => eT _ (by omega) (by omega) (by omega)⟩, k3.cg c1 (eT _ (by omega) (by omega) (by omega)) (fun i _ => hvr _ (by omega) (by omega)) (fun j _ => eT _ (by omega) (by omega) (by omega)), ?_, k5.cg c3 w4 (eT _ (by omega) (by omega) (by omega)) (fun i _ => ⟨hvr _ (by omega) (by omega), hvr _ (by omega) (by omega), hvr _ (by omega) (by omega)⟩) (fun j _ _ => eT _ (by omega) (by omega) (by omega)), SR.cgW hb k6 c4 (fun q hq => hvr _ (by omega) (by omega)) ⟨eT _ (by omega) (by omega) (by omega), fun j _ _ => eT _ (by omega) (by omega) (by omega)⟩, SR.cgF hb k7 c5 (fun q hq => hvr _ (by omega) (by omega)) ⟨eT _ (by omega) (by omega) (by omega), fun j _ _ => eT _ (by omega) (by omega) (by omega)⟩⟩, PO.of hc (fun q hq => hvr q (by omega) (by omega)) ⟨hvr _ (by omega) (by omega), hvr _ (by omega) (by omega)⟩, ?_, ?_⟩
  · unfold SRd
    rw [e203, eT 203 (by omega) (by omega) (by omega), eT 208 (by omega) (by omega) (by omega), eT 210 (by omega) (by omega) (by omega)]
    simp only [u2_q]
    exact ⟨by rw [if_neg (by omega), hbr _ (by omega)]; exact k1.1, by simp, by rw [if_neg (by omega), hbr _ (by omega)]; exact k1.2.2.1, by rw [if_neg (by omega), hbr _ (by omega)]; exact k1.2.2.2⟩
  · intro u hu
    rw [e203, a2] at hu
    rw [u2_r (by omega)]
    by_cases hut : u = (A 204).toNatClampNeg
    · subst hut
      unfold bR
      rw [t0, t1, t2]
      simp [fX1_begin, u2_q]
    · rw [hbr _ (by omega)]
      obtain ⟨b0, b1, b2⟩ := k4 u (by omega)
      unfold bR
      rw [eT _ (by omega) (by omega) (by omega), eT _ (by omega) (by omega) (by omega), eT _ (by omega) (by omega) (by omega)]
      exact ⟨b0, b1, b2⟩
  · have hP : ∀ p, PV A p → PV (sAddBlock A p1 p2) p := fun p hp => PV.cg (fun j _ _ _ _ => eT _ (by omega) (by omega) (by omega)) (eT _ (by omega) (by omega) (by omega)) c3 hp
    have nw := inn_lt c4
    have nt := inn_lt c1
    refine ⟨⟨by rw [eT _ (by omega) (by omega) (by omega)]; exact c1, by rw [e203]; exact ⟨by have := hn.1; omega, by have := hn.2; omega⟩, by rw [eT _ (by omega) (by omega) (by omega)]; exact c3, by rw [eT _ (by omega) (by omega) (by omega)]; exact c4, by rw [eT _ (by omega) (by omega) (by omega)]; exact c5, by rw [eT _ (by omega) (by omega) (by omega)]; exact c6⟩, ?_, ?_, ?_, ?_, ?_⟩
    · unfold WFt
      rw [eT 203 (by omega) (by omega) (by omega)]
      exact ⟨fun u hu => by rw [eT _ (by omega) (by omega) (by omega), eT _ (by omega) (by omega) (by omega)]; exact w2.1 u hu, fun j g1 g2 => by rw [eT _ (by omega) (by omega) (by omega)]; exact w2.2 j g1 g2⟩
    · unfold WFb
      rw [e203, a2]
      refine ⟨fun u hu => ?_, fun j g1 g2 => by rw [eT j (by omega) (by omega) (by omega)]; exact w3.2 j (by omega) g2⟩
      by_cases hut : u = (A 204).toNatClampNeg
      · subst hut
        rw [t0]
        exact hk
      · rw [eT _ (by omega) (by omega) (by omega)]
        exact w3.1 u (by omega)
    · unfold WFy
      rw [eT 205 (by omega) (by omega) (by omega)]
      have n3 := inn_lt c3
      have hx : ∀ j, 78 ≤ j → j < 183 → sAddBlock A p1 p2 j = A j := fun j g1 g2 => eT _ (by omega) (by omega) (by omega)
      refine ⟨fun u hu => ?_, fun j g1 g2 => by rw [hx _ (by omega) g2]; exact w4.2 j g1 g2⟩
      unfold WY
      rw [hx ((78 + 21 * u + 0)) (by omega) (by omega), hx ((78 + 21 * u + 1)) (by omega) (by omega), hx ((78 + 21 * u + 2)) (by omega) (by omega), hx ((78 + 21 * u + 3)) (by omega) (by omega), hx ((78 + 21 * u + 4)) (by omega) (by omega), hx ((78 + 21 * u + 5)) (by omega) (by omega), hx ((78 + 21 * u + 6)) (by omega) (by omega), hx ((78 + 21 * u + 7)) (by omega) (by omega), hx ((78 + 21 * u + 8)) (by omega) (by omega)]
      obtain ⟨g1, g2, g3, g4, g5, g6, g7, g8, g9, g10⟩ := w4.1 u hu
      exact ⟨g1, g2, g3, g4, g5, g6, g7, g8, g9, fun i hi => by rw [hx _ (by omega) (by omega)]; exact g10 i hi⟩
    · unfold WFw
      rw [eT 206 (by omega) (by omega) (by omega)]
      exact fun i hi => by rw [eT _ (by omega) (by omega) (by omega)]; exact hP _ (w5 i hi)
    · unfold WFq
      rw [eT 207 (by omega) (by omega) (by omega)]
      exact fun i hi => by rw [eT _ (by omega) (by omega) (by omega)]; exact hP _ (w6 i hi)
  · show WFa _
    unfold WFa
    rw [eT _ (by omega) (by omega) (by omega), eT _ (by omega) (by omega) (by omega), eT _ (by omega) (by omega) (by omega), eT _ (by omega) (by omega) (by omega), eT _ (by omega) (by omega) (by omega), eT _ (by omega) (by omega) (by omega)]
    exact ha
theorem c_putType (hb : kd b = 7) (h : SR v b A) (hw : WF A) (ha : AC A) (hc : CP v b) (hn : inn (A 205) 5) (hl : 100 ≤ p1.toInt ∧ p1.toInt ≤ 14000) (hlo : -99 ≤ p2.toInt ∧ p2.toInt ≤ 0) (hup : inn p3 100) (hmt : inn p4 3) :
    (fX0_putType (b + 2) p1 p2 p3 p4 v).1 = A 205 ∧ SR (fX0_putType (b + 2) p1 p2 p3 p4 v).2 b (sAddType A p1 p2 p3 p4) ∧ PO b v (fX0_putType (b + 2) p1 p2 p3 p4 v).2 ∧ WF (sAddType A p1 p2 p3 p4) ∧ AC (sAddType A p1 p2 p3 p4) ∧ oX0_putType (b + 2) p1 p2 p3 p4 v := by
  have hN := inn_lt hn
  obtain ⟨a1, a2⟩ := add1 hn (by omega)
  have n0 := rn_to hn.1
  have hz := hw.2.2.2.1.2
  have h6 : ¬ (5 : Int32) ≤ v (b + 2) 1 := by rw [h.2.1.1, Int32.le_iff_toInt_le, show (5 : Int32).toInt = 5 from rfl]; have := hn.2; omega
  have eT : ∀ j, j ≠ 205 → (j < (78 + 21 * ((A 205).toNatClampNeg) + 0) ∨ (78 + 21 * ((A 205).toNatClampNeg) + 4) ≤ j) → sAddType A p1 p2 p3 p4 j = A j := fun j h1 h2 => by unfold sAddType; rw [st_n h1, st_n (by omega), st_n (by omega), st_n (by omega), st_n (by omega)]
  have e203 : sAddType A p1 p2 p3 p4 205 = A 205 + 1 := st_s
  have t0 : sAddType A p1 p2 p3 p4 ((78 + 21 * ((A 205).toNatClampNeg) + 0)) = p1 := by unfold sAddType; rw [st_n (by omega), st_n (by omega), st_n (by omega), st_n (by omega), st_s]
  have t1 : sAddType A p1 p2 p3 p4 ((78 + 21 * ((A 205).toNatClampNeg) + 1)) = p2 := by unfold sAddType; rw [st_n (by omega), st_n (by omega), st_n (by omega), st_s]
  have t2 : sAddType A p1 p2 p3 p4 ((78 + 21 * ((A 205).toNatClampNeg) + 2)) = p3 := by unfold sAddType; rw [st_n (by omega), st_n (by omega), st_s]
  have t3 : sAddType A p1 p2 p3 p4 ((78 + 21 * ((A 205).toNatClampNeg) + 3)) = p4 := by unfold sAddType; rw [st_n (by omega), st_s]
  have tz : ∀ c, c < 21 → 4 ≤ c → sAddType A p1 p2 p3 p4 ((78 + 21 * ((A 205).toNatClampNeg) + c)) = 0 := fun c h1 h2 => by rw [eT _ (by omega) (by omega)]; exact hz _ (by omega) (by omega)
  have hbr : ∀ q, q ≠ ((b + 2 + 3) + 31 + ((A 205).toNatClampNeg)) → fX4_begin (((b + 2 + 3) + 31 + ((A 205).toNatClampNeg))) p1 p2 p3 p4 v q = v q := fun q hq => by simp only [fX4_begin]; rw [u2_r hq, u2_r hq, u2_r hq, u2_r hq, u2_r hq, u2_r hq, u2_r hq, u2_r hq]
  have hvr : ∀ q, q ≠ ((b + 2 + 3) + 31 + ((A 205).toNatClampNeg)) → q ≠ b + 2 → u2 (fX4_begin (((b + 2 + 3) + 31 + ((A 205).toNatClampNeg))) p1 p2 p3 p4 v) (b + 2) 1 (A 205 + 1) q = v q := fun q h1 h2 => by rw [u2_r h2, hbr q h1]
  have ho : oX0_putType (b + 2) p1 p2 p3 p4 v := fun _ => by rw [h.2.1.1]; exact i_in hn.1 (by have := hn.2; omega)
  unfold fX0_putType
  rw [if_neg h6]
  simp only []
  rw [h.2.1.1, hbr (b + 2) (by omega), h.2.1.1]
  obtain ⟨k1, k2, k3, k4, k5, k6, k7⟩ := h
  obtain ⟨⟨c1, c2, c3, c4, c5, c6⟩, w2, w3, w4, w5, w6⟩ := hw
  refine ⟨rfl, ⟨k1.cg (hvr _ (by omega) (by omega)) ⟨eT _ (by omega) (by omega), eT _ (by omega) (by omega), eT _ (by omega) (by omega), eT _ (by omega) (by omega)⟩, ?_, k3.cg c1 (eT _ (by omega) (by omega)) (fun i _ => hvr _ (by omega) (by omega)) (fun j _ => eT _ (by omega) (by omega)), k4.cg c2 (eT _ (by omega) (by omega)) (fun i _ => hvr _ (by omega) (by omega)) (fun j _ _ => eT _ (by omega) (by omega)), ?_, SR.cgW hb k6 c4 (fun q hq => hvr _ (by omega) (by omega)) ⟨eT _ (by omega) (by omega), fun j _ _ => eT _ (by omega) (by omega)⟩, SR.cgF hb k7 c5 (fun q hq => hvr _ (by omega) (by omega)) ⟨eT _ (by omega) (by omega), fun j _ _ => eT _ (by omega) (by omega)⟩⟩, PO.of hc (fun q hq => hvr q (by omega) (by omega)) ⟨hvr _ (by omega) (by omega), hvr _ (by omega) (by omega)⟩, ?_, ?_, ho⟩
  · unfold SRe
    rw [e203, eT 209 (by omega) (by omega), eT 211 (by omega) (by omega), eT 212 (by omega) (by omega), eT 213 (by omega) (by omega), eT 214 (by omega) (by omega), eT 215 (by omega) (by omega), eT 216 (by omega) (by omega)]
    simp only [u2_q]
    obtain ⟨q1, q2, q3, q4, q5, q6, q7, q8⟩ := k2
    rw [hbr (b + 2) (by omega)]
    simp [q2, q3, q4, q5, q6, q7, q8]
  · intro u hu
    rw [e203, a2] at hu
    rw [u2_r (by omega), u2_r (by omega), u2_r (by omega)]
    by_cases hut : u = (A 205).toNatClampNeg
    · subst hut
      unfold yR
      rw [t0, t1, t2, t3, tz 4 (by omega) (by omega), tz 5 (by omega) (by omega), tz 6 (by omega) (by omega), tz 7 (by omega) (by omega), tz 8 (by omega) (by omega)]
      refine ⟨by simp [fX4_begin, u2_q], fun i hi => absurd hi (by show ¬ i < 0; omega), fun i hi => absurd hi (by show ¬ i < 0; omega)⟩
    · rw [hbr _ (by omega), hbr _ (by omega), hbr _ (by omega)]
      exact (k5 u (by omega)).cg rfl rfl rfl (w4.1 u (by omega)).2.2.2.2.2.2.2.2.1 (fun j hj => eT _ (by omega) (by omega))
  · have hP : ∀ p, PV A p → PV (sAddType A p1 p2 p3 p4) p := fun p hp => by
      obtain ⟨t, d, x, q1, q2, q3, q4, q5, q6⟩ := hp
      have := inn_lt q2
      exact ⟨t, d, x, q1, by rw [e203, a2]; exact ⟨q2.1, by have := q2.2; omega⟩, q3, q4, q5, by rw [eT _ (by omega) (by omega)]; exact q6⟩
    have nw := inn_lt c4
    have nt := inn_lt c1
    have nb := inn_lt c2
    refine ⟨⟨by rw [eT _ (by omega) (by omega)]; exact c1, by rw [eT _ (by omega) (by omega)]; exact c2, by rw [e203]; exact ⟨by have := hn.1; omega, by have := hn.2; omega⟩, by rw [eT _ (by omega) (by omega)]; exact c4, by rw [eT _ (by omega) (by omega)]; exact c5, by rw [eT _ (by omega) (by omega)]; exact c6⟩, ?_, ?_, ?_, ?_, ?_⟩
    · unfold WFt
      rw [eT 203 (by omega) (by omega)]
      exact ⟨fun u hu => by rw [eT _ (by omega) (by omega), eT _ (by omega) (by omega)]; exact w2.1 u hu, fun j g1 g2 => by rw [eT _ (by omega) (by omega)]; exact w2.2 j g1 g2⟩
    · unfold WFb
      rw [eT 204 (by omega) (by omega)]
      exact ⟨fun u hu => by rw [eT _ (by omega) (by omega)]; exact w3.1 u hu, fun j g1 g2 => by rw [eT _ (by omega) (by omega)]; exact w3.2 j g1 g2⟩
    · unfold WFy
      rw [e203, a2]
      refine ⟨fun u hu => ?_, fun j g1 g2 => by rw [eT _ (by omega) (by omega)]; exact w4.2 j (by omega) g2⟩
      by_cases hut : u = (A 205).toNatClampNeg
      · subst hut
        unfold WY
        rw [t0, t1, t2, t3, tz 4 (by omega) (by omega), tz 5 (by omega) (by omega), tz 6 (by omega) (by omega), tz 7 (by omega) (by omega), tz 8 (by omega) (by omega)]
        exact ⟨hl, hlo, hup, hmt, by decide, by decide, by decide, by decide, by decide, fun i hi => by rw [tz _ (by omega) (by omega)]; exact ⟨by decide, by decide⟩⟩
      · have hx : ∀ c, c < 21 → sAddType A p1 p2 p3 p4 ((78 + 21 * u + c)) = A ((78 + 21 * u + c)) := fun c hc => eT _ (by omega) (by omega)
        unfold WY
        rw [hx 0 (by omega), hx 1 (by omega), hx 2 (by omega), hx 3 (by omega), hx 4 (by omega), hx 5 (by omega), hx 6 (by omega), hx 7 (by omega), hx 8 (by omega)]
        obtain ⟨g1, g2, g3, g4, g5, g6, g7, g8, g9, g10⟩ := w4.1 u (by omega)
        exact ⟨g1, g2, g3, g4, g5, g6, g7, g8, g9, fun i hi => by rw [hx _ (by omega)]; exact g10 i hi⟩
    · unfold WFw
      rw [eT 206 (by omega) (by omega)]
      exact fun i hi => by rw [eT _ (by omega) (by omega)]; exact hP _ (w5 i hi)
    · unfold WFq
      rw [eT 207 (by omega) (by omega)]
      exact fun i hi => by rw [eT _ (by omega) (by omega)]; exact hP _ (w6 i hi)
  · show WFa _
    unfold WFa
    rw [eT _ (by omega) (by omega), eT _ (by omega) (by omega), eT _ (by omega) (by omega), eT _ (by omega) (by omega), eT _ (by omega) (by omega), eT _ (by omega) (by omega)]
    exact ha
end N36b
