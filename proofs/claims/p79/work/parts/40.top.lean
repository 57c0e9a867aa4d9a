/-! THE PLAIN PART 11: the changes that are orders too. -/
section T40
variable {n m : Nat} {u v : vSt} {A : Ar} {r : Int32 × Ar} {p p2 p3 k : Int32}
theorem rfc_or (x : Int32) : rfc x = 0 ∨ (x = -100001 ∧ rfc x = 1) ∨ (x = -100002 ∧ rfc x = 2) := by
  unfold rfc
  by_cases h : x = -100001
  · rw [if_pos h]; exact Or.inr (Or.inl ⟨h, rfl⟩)
  · rw [if_neg h]
    by_cases h2 : x = -100002
    · rw [if_pos h2]; exact Or.inr (Or.inr ⟨h2, rfl⟩)
    · rw [if_neg h2]; exact Or.inl rfl
theorem gm {go : vSt → Int32 × vSt} (hE : EO r A) (hu : u 462 = A) (hc : inn (u 461 5) 5) (hgo : ∀ w, w 462 = A → go w = (r.1, uA w 462 r.2)) :
    (rfc r.1 = 0 → ∃ w, fX11_ends 461 (go (fX11_begins 461 u)).1 k (go (fX11_begins 461 u)).2 = (r.1, w) ∧ mSu u w r.2 ∧ oX11_ends 461 (go (fX11_begins 461 u)).1 k (go (fX11_begins 461 u)).2) ∧
    (rfc r.1 ≠ 0 → ∃ w, fX11_ends 461 (go (fX11_begins 461 u)).1 k (go (fX11_begins 461 u)).2 = (0, w) ∧ mFa u w (if r.1 = -100001 then 1 else k) ∧ oX11_ends 461 (go (fX11_begins 461 u)).1 k (go (fX11_begins 461 u)).2) := by
  have hb : fX11_begins 461 u 462 = A := by rw [m_begins.1 _ (by decide) (by decide)]; exact hu
  rw [hgo _ hb]
  constructor
  · intro hx
    exact m_endsS hc hx
  · intro hx
    rcases hE with ⟨h1, h2⟩ | h
    · have hE2 : uA (fX11_begins 461 u) 462 r.2 = fX11_begins 461 u := by rw [h2, ← hb, uI]
      dsimp only
      rw [hE2]
      exact m_endsF h1
    · exact absurd h hx
theorem QB.step {len a : Nat} {A' : Ar} (h : QB n m len a A) (_hl : len ≤ m) (_hm : m ≤ n) (h1 : (A' 207).toNatClampNeg ≤ (A 207).toNatClampNeg + 1) (_h2 : (A' 207).toNatClampNeg + (A' 206).toNatClampNeg ≤ (A 207).toNatClampNeg + (A 206).toNatClampNeg + 1) : QB (n + 1) m len a A' := by
  have h : (A 207).toNatClampNeg ≤ n := h
  show (A' 207).toNatClampNeg ≤ n + 1
  omega
theorem QB.lt {len a : Nat} (h : QB n m len a A) (hn : n ≤ 3192) : (A 207).toNatClampNeg ≤ 3192 := Nat.le_trans h hn
/-- what a change's answer shows: the code, the value, the world behind both -/
def OKC (n : Nat) (v : vSt) (code : Nat) (z : Int32) (v4 : vSt) (b : Int32) (v7 : vSt) (cc : Nat → Int32) : Prop :=
  (∀ q, 453 ≤ q → v4 q = v q) ∧ pot v ≤ pot v4 ∧ pot v7 = pot v4 ∧ v7 461 8 = cc code ∧ (code = 0 → z = b) ∧ ∃ m', Inv (n + 1) m' v7
theorem mSu.pot {w : vSt} {A' : Ar} (h : mSu u w A') : pot w = pot u := pot_cg (fun q hq => by
  rw [h.1 q (fun e => by rw [e] at hq; exact absurd hq (by decide)) (fun e => by rw [e] at hq; exact absurd hq (by decide)) (fun e => by rw [e] at hq; exact absurd hq (by decide)) (fun e => by rw [e] at hq; exact absurd hq (by decide))])
theorem mFa.pot {w : vSt} (h : mFa u w k) : pot w = pot u := pot_cg (fun q hq => by
  rw [h.1 q (fun e => by rw [e] at hq; exact absurd hq (by decide)) (fun e => by rw [e] at hq; exact absurd hq (by decide))])
theorem u461 {v10 : vSt} (hP : PO (rN (v 448 0)) (fX10_recordState 448 v) v10) (hI : Inv n m v) : v10 462 = v 462 ∧ v10 461 = v 461 := by
  obtain ⟨hR, hC, ⟨c1, c2⟩, _, _, hN, _⟩ := hI
  obtain ⟨d, ⟨d1, d2, d3, d4⟩, r1, _⟩ := c_record hR hC (by rw [c1]; exact c2) hN.1 hN.2.1
  have l1 := kd7 hR.1.1
  have l2 := kd7 d1
  exact ⟨by rw [hP.1 _ (by omega), r1 _ (by decide) (by decide) (by omega)], by rw [hP.1 _ (by omega), r1 _ (by decide) (by decide) (by omega)]⟩
theorem hiq {v10 : vSt} (hP : PO (rN (v 448 0)) (fX10_recordState 448 v) v10) (hI : Inv n m v) : ∀ q, 453 ≤ q → v10 q = v q := by
  obtain ⟨hR, hC, ⟨c1, c2⟩, _, _, hN, _⟩ := hI
  obtain ⟨d, ⟨d1, d2, d3, d4⟩, r1, _⟩ := c_record hR hC (by rw [c1]; exact c2) hN.1 hN.2.1
  have l1 := kd7 hR.1.1
  have l2 := kd7 d1
  exact fun q hq => by rw [hP.1 _ (by omega), r1 _ (by omega) (by omega) (by omega)]
/-- the state now, behind the record of it -/
theorem Inv.rec (hI : Inv n m v) : rN (fX10_recordState 448 v 448 0) = rN (v 448 0) ∧ SR (fX10_recordState 448 v) (rN (v 448 0)) (v 462) ∧ CP (fX10_recordState 448 v) (rN (v 448 0)) ∧ oX10_recordState 448 v ∧ pot v ≤ pot (fX10_recordState 448 v) ∧ fX10_recordState 448 v (rN (v 448 0) + 2) = v (rN (v 448 0) + 2) := by
  obtain ⟨hR, hC, ⟨c1, c2⟩, _, _, hN, _⟩ := hI
  obtain ⟨d, ⟨d1, d2, d3, d4⟩, r1, r2, r3, r4, r5, r6, r7, r8⟩ := c_record hR hC (by rw [c1]; exact c2) hN.1 hN.2.1
  have l1 := kd7 hR.1.1
  have l2 := kd7 d1
  have hq : ∀ q, rN (v 448 0) ≤ q → q < rN (v 448 0) + 64 → fX10_recordState 448 v q = v q := fun q h1 h2 => r1 q (by omega) (by omega) (by omega)
  exact ⟨by rw [r2 0 (by decide)], hN.1.fr hR.1.1 hq ⟨hN.2.1.1.1, hN.2.1.1.2.1, hN.2.1.1.2.2.1⟩, (hC _ hR.1.1).fr ⟨hq _ (by omega) (by omega), hq _ (by omega) (by omega)⟩, r8, r4, hq _ (by omega) (by omega)⟩
/-- the common end of the seven: r what the order does, v8 the class's world behind it -/
theorem gc7 {go : vSt → Int32 × vSt} {v8 : vSt} {z : Int32} {cc : Nat → Int32} (hI : Inv n m v) (hE : EO r (v 462)) (hgo : ∀ w, w 462 = v 462 → go w = (r.1, uA w 462 r.2)) (hx : rfc r.1 = 0)
    (hP : PO (rN (v 448 0)) (fX10_recordState 448 v) v8) (hS : SR v8 (rN (v 448 0)) r.2) (hW : WF r.2) (hA : AC r.2) (hz : z = r.1) (hQ : QVp (n + 1) m v r.2) (h0 : cc 0 = 0) :
    oX11_ends 461 (go (fX11_begins 461 v8)).1 k (go (fX11_begins 461 v8)).2 ∧ OKC n v 0 z v8 (fX11_ends 461 (go (fX11_begins 461 v8)).1 k (go (fX11_begins 461 v8)).2).1 (fX11_ends 461 (go (fX11_begins 461 v8)).1 k (go (fX11_begins 461 v8)).2).2 cc := by
  have hu := u461 hP hI
  obtain ⟨w, e, hm, ho⟩ := (gm (k := k) hE hu.1 (by rw [hu.2]; exact hI.2.2.1.2) hgo).1 hx
  obtain ⟨i1, i2, i3⟩ := hI.change hP hS hW hA hQ hm
  rw [e]
  exact ⟨ho, hiq hP hI, Nat.le_trans i3 (hP.mono hI.1.1.1), hm.pot, by rw [h0]; exact hm.2.2.1.2.2, fun _ => hz, m, i1⟩
theorem gc7F {go : vSt → Int32 × vSt} {z : Int32} {cc : Nat → Int32} {code : Nat} (hI : Inv n m v) (hE : EO r (v 462)) (hgo : ∀ w, w 462 = v 462 → go w = (r.1, uA w 462 r.2)) (hx : rfc r.1 ≠ 0) (hcode : code ≠ 0) (hcc : cc code = if r.1 = -100001 then 1 else k) :
    oX11_ends 461 (go (fX11_begins 461 v)).1 k (go (fX11_begins 461 v)).2 ∧ OKC n v code z v (fX11_ends 461 (go (fX11_begins 461 v)).1 k (go (fX11_begins 461 v)).2).1 (fX11_ends 461 (go (fX11_begins 461 v)).1 k (go (fX11_begins 461 v)).2).2 cc := by
  obtain ⟨w, e, hm, ho⟩ := (gm (k := k) hE rfl hI.2.2.1.2 hgo).2 hx
  rw [e]
  exact ⟨ho, fun _ _ => rfl, Nat.le_refl _, hm.pot, by rw [hcc]; exact hm.2.2.2.2, fun q => absurd q hcode, m, hI.refused hm⟩
theorem ref_0 {x : Int32} : fX10_refuse (rfc x) v = 0 ↔ rfc x = 0 := by
  unfold fX10_refuse
  rcases rfc_or x with h | ⟨_, h⟩ | ⟨_, h⟩ <;> rw [h] <;> decide
theorem ref_1 {x : Int32} (h : rfc x ≠ 0) : fX10_refuse (rfc x) v ≠ 0 ∧ ((Int32.ofNat (fX10_refuse (rfc x) v) : Int32) = if x = -100001 then 1 else 2) := by
  unfold fX10_refuse
  rcases rfc_or x with q | ⟨e, q⟩ | ⟨e, q⟩
  · exact absurd q h
  · rw [q, e]; decide
  · rw [q, e]; decide
theorem eo_meas (hw : WF A) : EO (sGoMeasure A p p2 p3) A := by
  unfold sGoMeasure EO
  by_cases h1 : sIsT A p = 0
  · rw [if_pos h1]; exact Or.inl ⟨Or.inl rfl, rfl⟩
  rw [if_neg h1]
  by_cases h2 : fX11_isMaterial p2 = 0
  · rw [if_pos h2]; exact Or.inl ⟨Or.inl rfl, rfl⟩
  rw [if_neg h2]
  by_cases h3 : fX11_isLength p3 = 0
  · rw [if_pos h3]; exact Or.inl ⟨Or.inl rfl, rfl⟩
  rw [if_neg h3]
  by_cases h4 : 0 ≤ sReading A p.toNatClampNeg p2 p3
  · rw [if_pos h4]
    have hp := isT_in hw.1.1 h1
    have hk := (hw.2.1.1 _ hp.2).2
    have hr := (rd_or (A := A) (t := p.toNatClampNeg) (m := p2) (len := p3)).resolve_left (rd_lt.mp h4)
    exact Or.inr (rfc_0 (by dsimp only; rw [ti_sub (by omega)]; omega))
  · rw [if_neg h4]; exact Or.inl ⟨Or.inr rfl, rfl⟩
theorem qv_same {A' : Ar} (hI : Inv n m v) (e6 : A' 206 = v 462 206) (e7 : A' 207 = v 462 207) (e8 : A' 208 = v 462 208) (e9 : A' 209 = v 462 209) : QVp (n + 1) m v A' := by
  obtain ⟨_, _, _, _, ⟨_, x4, x5, _⟩, hN, _⟩ := hI
  exact ⟨QB.step hN.2.2.2.1 x4 x5 (by rw [e7]; omega) (by rw [e6, e7]; omega), hN.2.2.2.2.cg e8 e9⟩
/-- measure -/
theorem t_measure (hI : Inv n m v) : oX10_measure 448 p p2 p3 v ∧ oX11_measure 461 p p2 p3 (fX10_measure 448 p p2 p3 v).2.2 ∧
    OKC n v (fX10_measure 448 p p2 p3 v).1 (fX10_measure 448 p p2 p3 v).2.1 (fX10_measure 448 p p2 p3 v).2.2 (fX11_measure 461 p p2 p3 (fX10_measure 448 p p2 p3 v).2.2).1 (fX11_measure 461 p p2 p3 (fX10_measure 448 p p2 p3 v).2.2).2 Int32.ofNat := by
  have hN := hI.2.2.2.2.2.1
  have hb := hI.1.1.1
  have hE := eo_meas (p := p) (p2 := p2) (p3 := p3) hN.2.1
  have hgo : ∀ w : vSt, w 462 = v 462 → fX11_goMeasure 461 p p2 p3 w = ((sGoMeasure (v 462) p p2 p3).1, uA w 462 (sGoMeasure (v 462) p p2 p3).2) := fun w e => by
    have := m_goMeasure (v := w) (p := p) (m := p2) (len := p3) (by rw [e]; exact hN.2.1.1.1)
    rw [e] at this; exact this
  have hog : ∀ w : vSt, w 462 = v 462 → oX11_goMeasure 461 p p2 p3 w := fun w e => mo_goMeasure (by rw [e]; exact hN.2.1.1.1)
  have hr := c_refM (p := p) (m := p2) (len := p3) hN.1 hN.2.1
  have hbe : ∀ w : vSt, fX11_begins 461 w 462 = w 462 := fun w => m_begins.1 _ (by decide) (by decide)
  unfold oX10_measure kkX10_measure fX10_measure oX11_measure fX11_measure
  rw [hr]
  by_cases hx : rfc (sGoMeasure (v 462) p p2 p3).1 = 0
  · rw [if_pos (ref_0.mpr hx)]
    obtain ⟨q1, q2, q3, q4, q5, q6⟩ := hI.rec
    have hr6 := c_refM (p := p) (m := p2) (len := p3) q2 hN.2.1
    obtain ⟨z1, z2, z3, z4⟩ := c_meas hb q2 hN.2.1 (by rw [hr6]; exact hx)
    have hP : PO (rN (v 448 0)) (fX10_recordState 448 v) (fX2_measureLength (rN (v 448 0) + 1) p p2 p3 (fX10_recordState 448 v)).2 := PO.of q3 z3 (by
      unfold fX2_measureLength
      by_cases h1 : fX2_hasTool (rN (v 448 0) + 1) p (fX10_recordState 448 v) = 0
      · rw [if_pos h1]; exact ⟨rfl, rfl⟩
      · rw [if_neg h1]
        have hu := (c_useOn (v := fX10_recordState 448 v) (q := (((rN (v 448 0)) + 1 + 2) + 13 + p.toNatClampNeg)) (A := v 462) (t := p.toNatClampNeg) (m := p2))
        have hT : sIsT (v 462) p ≠ 0 := by rw [← c_hasTool q2.1.1 hN.2.1.1.1]; exact h1
        have hm : inn p2 3 := by
          refine mat_in (fun q => ?_)
          unfold sGoMeasure at hx
          rw [if_neg hT, if_pos q] at hx
          exact rfn1 hx
        have := (hu hm (q2.tool hN.2.1 hT).1).2
        exact ⟨this _ (by omega), this _ (by omega)⟩)
    have hA4 : AC (sGoMeasure (v 462) p p2 p3).2 ∧ QVp (n + 1) m v (sGoMeasure (v 462) p p2 p3).2 := by
      have hs : ∀ j, 48 ≤ j → (sGoMeasure (v 462) p p2 p3).2 j = v 462 j := by
        intro j hj
        unfold sGoMeasure
        split
        · rfl
        · split
          · rfl
          · split
            · rfl
            · split
              · rename_i h1 _ _ _
                have := inn_lt (isT_in hN.2.1.1.1 h1).1
                exact sUse_o (by omega)
              · rfl
      refine ⟨?_, qv_same hI (hs _ (by omega)) (hs _ (by omega)) (hs _ (by omega)) (hs _ (by omega))⟩
      show WFa _
      unfold WFa
      rw [hs _ (by omega), hs _ (by omega), hs _ (by omega), hs _ (by omega), hs _ (by omega), hs _ (by omega)]
      exact hN.2.2.1
    have G := gc7 (k := 2) (cc := Int32.ofNat) hI hE hgo hx hP z2 z4 hA4.1 z1 hA4.2 rfl
    simp only [q1]
    refine ⟨⟨hb, by omega, fun _ => ⟨q4, ?_, fun v6 e6 => by rw [e6, q1]; exact hb⟩⟩, ⟨m_begins.2.2.2.2, fun v2 e2 => ⟨hog _ (by rw [e2, hbe, (u461 hP hI).1]), fun v4 e4 => by rw [e4, e2]; exact G.1⟩⟩, G.2⟩
    unfold kkX10_recordState
    have := hP.mono hb
    omega
  · have h0 : ¬ fX10_refuse (rfc (sGoMeasure (v 462) p p2 p3).1) v = 0 := fun q => hx (ref_0.mp q)
    rw [if_neg h0]
    have G := gc7F (k := 2) (cc := Int32.ofNat) (z := 0) hI hE hgo hx h0 (ref_1 hx).2
    exact ⟨⟨hb, by omega, fun q => absurd q h0⟩, ⟨m_begins.2.2.2.2, fun v2 e2 => ⟨hog _ (by rw [e2, hbe]), fun v4 e4 => by rw [e4, e2]; exact G.1⟩⟩, G.2⟩
end T40
