/-! THE PLAIN PART 7: new tools, blocks, types; warmth, tolerance, days. -/
def sAddTool (A : Ar) (kind err : Int32) : Ar := st (st (st (st A (8 * (A 203).toNatClampNeg) kind) (8 * (A 203).toNatClampNeg + 1) err) (8 * (A 203).toNatClampNeg + 7) (A 210)) 203 (A 203 + 1)
def sAddBlock (A : Ar) (len err : Int32) : Ar := st (st (st A (48 + 3 * (A 204).toNatClampNeg) len) (48 + 3 * (A 204).toNatClampNeg + 1) err) 204 (A 204 + 1)
def sAddType (A : Ar) (len lo up mat : Int32) : Ar := st (st (st (st (st A ((78 + 21 * ((A 205).toNatClampNeg) + 0)) len) ((78 + 21 * ((A 205).toNatClampNeg) + 1)) lo) ((78 + 21 * ((A 205).toNatClampNeg) + 2)) up) ((78 + 21 * ((A 205).toNatClampNeg) + 3)) mat) 205 (A 205 + 1)
section N36
variable {v : vSt} {b : Nat} {A : Ar} {p1 p2 p3 p4 x : Int32}
theorem SR.hdr (hb : kd b = 7) (h : SR v b A) (hw : WF A) {f j : Nat} (hfj : (f = 4 ∧ j = 208) ∨ (f = 5 ∧ j = 210)) : SR (u2 v (b + 1) f x) b (st A j x) ∧ PO b v (u2 v (b + 1) f x) ∨ ¬ CP v b := by
  by_cases hc : CP v b
  · left
    have hr : ∀ q, q ≠ b + 1 → u2 v (b + 1) f x q = v q := fun q hq => u2_r hq
    have hA : ∀ i, i ≠ j → st A j x i = A i := fun i hi => st_n hi
    refine ⟨SR.setE hb h hw ?_ (h.2.1.cg (hr _ (by omega)) ⟨hA _ (by omega), hA _ (by omega), fun i _ _ => hA _ (by omega)⟩)
      (SR.cgW hb h.2.2.2.2.2.1 hw.1.2.2.2.1 (fun q hq => hr q (by omega)) ⟨hA _ (by omega), fun i _ _ => hA _ (by omega)⟩)
      (SR.cgF hb h.2.2.2.2.2.2 hw.1.2.2.2.2.1 (fun q hq => hr q (by omega)) ⟨hA _ (by omega), fun i _ _ => hA _ (by omega)⟩)
      (fun q _ _ => hr q (by omega)) ⟨hA _ (by omega), hA _ (by omega), hA _ (by omega)⟩ (fun i hi => hA _ (by omega)), PO.of hc (Fr.u (by omega)) ⟨hr _ (by omega), hr _ (by omega)⟩⟩
    obtain ⟨e1, e2, e3, e4⟩ := h.1
    unfold SRd
    simp only [u2_q]
    rcases hfj with ⟨rfl, rfl⟩ | ⟨rfl, rfl⟩
    · exact ⟨by rw [if_neg (by omega), hA _ (by omega)]; exact e1, by rw [if_neg (by omega), hA _ (by omega)]; exact e2, by simp [st_s], by rw [if_neg (by omega), hA _ (by omega)]; exact e4⟩
    · exact ⟨by rw [if_neg (by omega), hA _ (by omega)]; exact e1, by rw [if_neg (by omega), hA _ (by omega)]; exact e2, by rw [if_neg (by omega), hA _ (by omega)]; exact e3, by simp [st_s]⟩
  · exact Or.inr hc
theorem WF.hdr (hw : WF A) {j : Nat} (hj : j = 208 ∨ (j = 210 ∧ inn x 1000)) : WF (st A j x) := by
  have hnW := inn_lt hw.1.2.2.2.1
  refine hw.cgE (fun i hi => st_n (by omega)) ⟨st_n (by omega), st_n (by omega), st_n (by omega)⟩ ⟨by rw [st_n (by omega)]; exact hw.1.2.2.2.1, by rw [st_n (by omega)]; exact hw.1.2.2.2.2.1, ?_⟩ (fun i hi => ?_) (fun i hi => ?_)
  · rcases hj with rfl | ⟨rfl, h⟩
    · rw [st_n (by omega)]; exact hw.1.2.2.2.2.2
    · rw [st_s]; exact h
  · rw [st_n (show 206 ≠ j by omega)] at hi
    rw [st_n (by omega)]; exact hw.2.2.2.2.1 i hi
  · rw [st_n (show 207 ≠ j by omega)] at hi
    rw [st_n (by omega)]; exact hw.2.2.2.2.2 i hi
theorem c_countDue (hD : v (b + 1) 2 = A 203) (h5 : v (b + 1) 5 = A 210) (hn : inn (A 203) 7) (hT : SRt v b A) : fX2_countDue (b + 1) v = sDueN A ((A 203).toNatClampNeg) := by
  have hN := inn_lt hn
  have key : ∀ (n k : Nat), k ≤ (A 203).toNatClampNeg → (A 203).toNatClampNeg + 1 ≤ n + k → lX2_countDue_4 v (b + 1) n (Int32.ofNat k) (sDueN A k) = sDueN A ((A 203).toNatClampNeg) := by
    intro n
    induction n with
    | zero => intro k h1 h2; omega
    | succ n ih =>
      intro k h1 h2
      unfold lX2_countDue_4
      have ofl : (v (b + 1) 2 ≤ Int32.ofNat k) ↔ (A 203).toNatClampNeg ≤ k := by rw [hD]; exact of_le hn.1 (by omega)
      by_cases hk : (A 203).toNatClampNeg ≤ k
      · rw [if_pos (ofl.mpr hk), show k = (A 203).toNatClampNeg by omega]
      · rw [if_neg (mt ofl.mp hk), if_neg (ncap6 (k := k) (by omega)), ← ih (k + 1) (by omega) (by omega), of_S (by omega), to_of (by omega)]
        simp only []
        congr 1
        have ed := c_due (v := v) (r := b + 1) h5 (hT k (by omega))
        rw [ed, show sDueN A (k + 1) = sDueN A k + (if sDue A k = 0 then 0 else 1) from rfl]
        by_cases hd : sDue A k = 0
        · rw [if_pos hd, if_pos hd, Int32.add_zero]
        · rw [if_neg hd, if_neg hd]
  unfold fX2_countDue
  rw [hD, fu0]
  exact key _ 0 (by omega) (by omega)
theorem due_b {n : Nat} (h : n ≤ 6) : 0 ≤ (sDueN A n).toInt ∧ (sDueN A n).toInt ≤ n := by
  induction n with
  | zero => exact ⟨by show 0 ≤ (0 : Int32).toInt; decide, by show (0 : Int32).toInt ≤ 0; decide⟩
  | succ n ih =>
    have := ih (by omega)
    show 0 ≤ (sDueN A n + (if sDue A n = 0 then 0 else 1)).toInt ∧ (sDueN A n + (if sDue A n = 0 then 0 else 1)).toInt ≤ _
    by_cases hd : sDue A n = 0
    · rw [if_pos hd, Int32.add_zero]; omega
    · rw [if_neg hd, ti_add (by rw [show (1 : Int32).toInt = 1 from rfl]; omega), show (1 : Int32).toInt = 1 from rfl]; omega
theorem c_refD (h : SR v b A) (hw : WF A) : fX2_refusalToEndDay (b + 1) v = rfc (sGoDay A).1 := by
  unfold fX2_refusalToEndDay sGoDay
  rw [h.1.2.2.2]
  have h2 := hw.1.2.2.2.2.2
  have z : (999 : Int32).toInt = 999 := rfl
  by_cases h9 : A 210 = 999
  · rw [if_pos h9, h9]; rfl
  · have : (A 210).toInt ≠ 999 := fun e => h9 (Int32.toInt_inj.mp e)
    have hN := inn_lt hw.1.1
    rw [if_neg h9, if_pos (by rw [Int32.lt_iff_toInt_lt]; have := h2.2; omega)]
    have hj : rfc (sDueN (st A 210 (A 210 + 1)) ((A 203).toNatClampNeg)) = 0 := rfc_0 (by have := (due_b (A := st A 210 (A 210 + 1)) (n := (A 203).toNatClampNeg) (by omega)).1; omega)
    dsimp only
    rw [hj]
/-- a day ends (the answer is told by countDue behind it) -/
theorem c_day (hb : kd b = 7) (h : SR v b A) (hw : WF A) (ha : AC A) (hc : CP v b) (hr : fX2_refusalToEndDay (b + 1) v = 0) :
    fX2_countDue (b + 1) (u2 v (b + 1) 5 (v (b + 1) 5 + 1)) = (sGoDay A).1 ∧ SR (u2 v (b + 1) 5 (v (b + 1) 5 + 1)) b (sGoDay A).2 ∧ PO b v (u2 v (b + 1) 5 (v (b + 1) 5 + 1)) ∧ WF (sGoDay A).2 ∧ AC (sGoDay A).2 := by
  rw [c_refD h hw] at hr
  unfold sGoDay at hr ⊢
  by_cases h9 : A 210 = 999
  · rw [if_pos h9] at hr; exact rfn2 hr
  rw [if_neg h9, h.1.2.2.2]
  have h2 := hw.1.2.2.2.2.2
  have h99 : (A 210).toInt ≠ 999 := fun e => h9 (Int32.toInt_inj.mp e)
  have e1 := (add1 h2 (by omega)).1
  have hin : inn (A 210 + 1) 1000 := ⟨by have := h2.1; omega, by have := h2.2; omega⟩
  have hs := (SR.hdr hb h hw (x := A 210 + 1) (f := 5) (j := 210) (Or.inr ⟨rfl, rfl⟩)).resolve_right (fun q => q hc)
  have hw2 := hw.hdr (x := A 210 + 1) (j := 210) (Or.inr ⟨rfl, hin⟩)
  refine ⟨?_, hs.1, hs.2, hw2, ?_⟩
  · rw [c_countDue hs.1.1.1 hs.1.1.2.2.2 hw2.1.1 hs.1.2.2.1, st_n (by omega)]
  · show WFa _
    unfold WFa
    dsimp only
    rw [st_n (by omega), st_n (by omega), st_n (by omega), st_n (by omega), st_n (by omega), st_n (by omega)]
    exact ha
theorem bg_step : ∀ k, k < 5 → (if fX10_entry 5 tbL (Int32.ofNat k) = 0 then 1 else fX10_entry 5 tbM (Int32.ofNat k) / fX10_entry 5 tbL (Int32.ofNat k) : Int32) = sStep (Int32.ofNat k) := by decide +kernel
theorem c_putTool (hb : kd b = 7) (h : SR v b A) (hw : WF A) (ha : AC A) (hc : CP v b) (hn : inn (A 203) 6) (hk : inn p1 5) :
    (fX2_putTool (b + 1) p1 p2 v).1 = A 203 ∧ SR (fX2_putTool (b + 1) p1 p2 v).2 b (sAddTool A p1 p2) ∧ PO b v (fX2_putTool (b + 1) p1 p2 v).2 ∧ WF (sAddTool A p1 p2) ∧ AC (sAddTool A p1 p2) := by
  have hN := inn_lt hn
  obtain ⟨a1, a2⟩ := add1 hn (by omega)
  have n0 := rn_to hn.1
  have hz := hw.2.1.2
  have h6 : ¬ (6 : Int32) ≤ v (b + 1) 2 := by rw [h.1.1, Int32.le_iff_toInt_le, show (6 : Int32).toInt = 6 from rfl]; have := hn.2; omega
  have hst : (if fX10_entry 5 tbL p1 = 0 then 1 else fX10_entry 5 tbM p1 / fX10_entry 5 tbL p1 : Int32) = sStep p1 := by
    have := bg_step _ (inn_lt hk)
    rw [of_to hk.1] at this
    exact this
  have eT : ∀ j, j < 203 → j ≠ 8 * (A 203).toNatClampNeg → j ≠ 8 * (A 203).toNatClampNeg + 1 → j ≠ 8 * (A 203).toNatClampNeg + 7 → sAddTool A p1 p2 j = A j := fun j h1 h2 h3 h4 => by unfold sAddTool; rw [st_n (by omega), st_n (by omega), st_n (by omega), st_n (by omega)]
  have eH : ∀ j, 203 < j → sAddTool A p1 p2 j = A j := fun j h1 => by unfold sAddTool; rw [st_n (by omega), st_n (by omega), st_n (by omega), st_n (by omega)]
  have e203 : sAddTool A p1 p2 203 = A 203 + 1 := st_s
  have t0 : sAddTool A p1 p2 (8 * (A 203).toNatClampNeg) = p1 := by unfold sAddTool; rw [st_n (by omega), st_n (by omega), st_n (by omega), st_s]
  have t1 : sAddTool A p1 p2 (8 * (A 203).toNatClampNeg + 1) = p2 := by unfold sAddTool; rw [st_n (by omega), st_n (by omega), st_s]
  have t7 : sAddTool A p1 p2 (8 * (A 203).toNatClampNeg + 7) = A 210 := by unfold sAddTool; rw [st_n (by omega), st_s]
  have tz : ∀ c, c < 7 → 2 ≤ c → sAddTool A p1 p2 (8 * (A 203).toNatClampNeg + c) = 0 := fun c h1 h2 => by rw [eT _ (by omega) (by omega) (by omega) (by omega)]; exact hz _ (by omega) (by omega)
  have hbr : ∀ q, q ≠ ((b + 1 + 2) + 13 + ((A 203).toNatClampNeg)) → fX8_begin (((b + 1 + 2) + 13 + ((A 203).toNatClampNeg))) p1 p2 (A 210) v q = v q := fun q hq => by simp only [fX8_begin]; rw [u2_r hq, u2_r hq, u2_r hq, u2_r hq, u2_r hq, u2_r hq, u2_r hq, u2_r hq, u2_r hq]
  have hvr : ∀ q, q ≠ ((b + 1 + 2) + 13 + ((A 203).toNatClampNeg)) → q ≠ b + 1 → u2 (fX8_begin (((b + 1 + 2) + 13 + ((A 203).toNatClampNeg))) p1 p2 (A 210) v) (b + 1) 2 (A 203 + 1) q = v q := fun q h1 h2 => by rw [u2_r h2, hbr q h1]
  unfold fX2_putTool
  rw [if_neg h6]
  simp only []
  rw [h.1.1, h.1.2.2.2, hbr (b + 1) (by omega), h.1.1]
  obtain ⟨k1, k2, k3, k4, k5, k6, k7⟩ := h
  obtain ⟨⟨c1, c2, c3, c4, c5, c6⟩, w2, w3, w4, w5, w6⟩ := hw
  refine ⟨rfl, ⟨?_, k2.cg (hvr _ (by omega) (by omega)) ⟨eH _ (by omega), eH _ (by omega), fun j _ _ => eH _ (by omega)⟩, ?_, k4.cg c2 (eH _ (by omega)) (fun i _ => hvr _ (by omega) (by omega)) (fun j _ _ => eT _ (by omega) (by omega) (by omega) (by omega)), k5.cg c3 w4 (eH _ (by omega)) (fun i _ => ⟨hvr _ (by omega) (by omega), hvr _ (by omega) (by omega), hvr _ (by omega) (by omega)⟩) (fun j _ _ => eT _ (by omega) (by omega) (by omega) (by omega)), SR.cgW hb k6 c4 (fun q hq => hvr _ (by omega) (by omega)) ⟨eH _ (by omega), fun j _ _ => eT _ (by omega) (by omega) (by omega) (by omega)⟩, SR.cgF hb k7 c5 (fun q hq => hvr _ (by omega) (by omega)) ⟨eH _ (by omega), fun j _ _ => eH _ (by omega)⟩⟩, PO.of hc (fun q hq => hvr q (by omega) (by omega)) ⟨hvr _ (by omega) (by omega), hvr _ (by omega) (by omega)⟩, ?_, ?_⟩
  · unfold SRd
    simp only [u2_q, e203, eH 204 (by omega), eH 208 (by omega), eH 210 (by omega)]
    exact ⟨if_pos trivial, by rw [if_neg (by omega), hbr _ (by omega)]; exact k1.2.1, by rw [if_neg (by omega), hbr _ (by omega)]; exact k1.2.2.1, by rw [if_neg (by omega), hbr _ (by omega)]; exact k1.2.2.2⟩
  · intro u hu
    rw [e203, a2] at hu
    rw [u2_r (by omega)]
    by_cases hut : u = (A 203).toNatClampNeg
    · subst hut
      unfold tR
      rw [t0, t1, t7, tz 2 (by omega) (by omega), tz 3 (by omega) (by omega), tz 4 (by omega) (by omega), tz 5 (by omega) (by omega), tz 6 (by omega) (by omega), ← hst]
      simp [fX8_begin, u2_q]
    · rw [hbr _ (by omega)]
      obtain ⟨b0, b1, b2, b3, b4, b5, b6, b7, b8⟩ := k3 u (by omega)
      unfold tR
      rw [eT _ (by omega) (by omega) (by omega) (by omega), eT _ (by omega) (by omega) (by omega) (by omega), eT _ (by omega) (by omega) (by omega) (by omega), eT _ (by omega) (by omega) (by omega) (by omega), eT _ (by omega) (by omega) (by omega) (by omega), eT _ (by omega) (by omega) (by omega) (by omega), eT _ (by omega) (by omega) (by omega) (by omega), eT _ (by omega) (by omega) (by omega) (by omega)]
      exact ⟨b0, b1, b2, b3, b4, b5, b6, b7, b8⟩
  · have hP : ∀ p, PV A p → PV (sAddTool A p1 p2) p := fun p hp => PV.cg (fun j _ _ _ _ => eT _ (by omega) (by omega) (by omega) (by omega)) (eH _ (by omega)) c3 hp
    have nw := inn_lt c4
    refine ⟨⟨by rw [e203]; exact ⟨by have := hn.1; omega, by have := hn.2; omega⟩, by rw [eH _ (by omega)]; exact c2, by rw [eH _ (by omega)]; exact c3, by rw [eH _ (by omega)]; exact c4, by rw [eH _ (by omega)]; exact c5, by rw [eH _ (by omega)]; exact c6⟩, ?_, ?_, ?_, ?_, ?_⟩
    · unfold WFt
      rw [e203, a2]
      refine ⟨fun u hu => ?_, fun j g1 g2 => by rw [eT j (by omega) (by omega) (by omega) (by omega)]; exact w2.2 j (by omega) g2⟩
      by_cases hut : u = (A 203).toNatClampNeg
      · subst hut
        rw [t0, tz 3 (by omega) (by omega)]
        exact ⟨hk, by decide, by decide⟩
      · rw [eT _ (by omega) (by omega) (by omega) (by omega), eT _ (by omega) (by omega) (by omega) (by omega)]
        exact w2.1 u (by omega)
    · unfold WFb
      rw [eH 204 (by omega)]
      have n2 := inn_lt c2
      exact ⟨fun u hu => by rw [eT _ (by omega) (by omega) (by omega) (by omega)]; exact w3.1 u hu, fun j g1 g2 => by rw [eT _ (by omega) (by omega) (by omega) (by omega)]; exact w3.2 j g1 g2⟩
    · unfold WFy
      rw [eH 205 (by omega)]
      have n3 := inn_lt c3
      have hx : ∀ j, 78 ≤ j → j < 183 → sAddTool A p1 p2 j = A j := fun j g1 g2 => eT _ (by omega) (by omega) (by omega) (by omega)
      refine ⟨fun u hu => ?_, fun j g1 g2 => by rw [hx _ (by omega) g2]; exact w4.2 j g1 g2⟩
      unfold WY
      rw [hx ((78 + 21 * u + 0)) (by omega) (by omega), hx ((78 + 21 * u + 1)) (by omega) (by omega), hx ((78 + 21 * u + 2)) (by omega) (by omega), hx ((78 + 21 * u + 3)) (by omega) (by omega), hx ((78 + 21 * u + 4)) (by omega) (by omega), hx ((78 + 21 * u + 5)) (by omega) (by omega), hx ((78 + 21 * u + 6)) (by omega) (by omega), hx ((78 + 21 * u + 7)) (by omega) (by omega), hx ((78 + 21 * u + 8)) (by omega) (by omega)]
      obtain ⟨g1, g2, g3, g4, g5, g6, g7, g8, g9, g10⟩ := w4.1 u hu
      exact ⟨g1, g2, g3, g4, g5, g6, g7, g8, g9, fun i hi => by rw [hx _ (by omega) (by omega)]; exact g10 i hi⟩
    · unfold WFw
      rw [eH 206 (by omega)]
      exact fun i hi => by rw [eT _ (by omega) (by omega) (by omega) (by omega)]; exact hP _ (w5 i hi)
    · unfold WFq
      rw [eH 207 (by omega)]
      exact fun i hi => by rw [eH _ (by omega)]; exact hP _ (w6 i hi)
  · show WFa _
    unfold WFa
    rw [eH _ (by omega), eH _ (by omega), eH _ (by omega), eH _ (by omega), eH _ (by omega), eH _ (by omega)]
    exact ha
end N36
