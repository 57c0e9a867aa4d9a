/-! THE PLAIN PART 2c: tools and blocks: refusals, measuring, calibrating, days. -/
def sIsT (A : Ar) (p : Int32) : Int32 := fX11_in p 0 (A 203 - 1)
theorem m_isTool {v : vSt} {p : Int32} : fX11_isTool 461 p v = sIsT (v 462) p := rfl
theorem mo_isTool {v : vSt} {p : Int32} : oX11_isTool 461 p v := vL (by decide)
theorem in_iff {p a c : Int32} : fX11_in p a c ≠ 0 ↔ a.toInt ≤ p.toInt ∧ p.toInt ≤ c.toInt := by
  unfold fX11_in
  simp only [Int32.lt_iff_toInt_lt]
  split
  · simp; omega
  · split
    · simp; omega
    · simp; omega
theorem in_iff0 {p a c : Int32} : fX11_in p a c = 0 ↔ ¬ (a.toInt ≤ p.toInt ∧ p.toInt ≤ c.toInt) := by
  rw [← in_iff]
  exact Decidable.not_not.symm
theorem in01 {p a c : Int32} : fX11_in p a c = 0 ∨ fX11_in p a c = 1 := by
  unfold fX11_in
  split
  · exact Or.inl rfl
  · split
    · exact Or.inl rfl
    · exact Or.inr rfl
theorem in_rng {p a c : Int32} : fX10_inRange p a c = fX11_in p a c := rfl
theorem subOne {x : Int32} (h : 0 ≤ x.toInt) : (x - 1).toInt = x.toInt - 1 := ti_sub (b := 1) (by have := fb_rngX x; rw [show (1 : Int32).toInt = 1 from rfl]; omega)
theorem isT_iff {A : Ar} {p : Int32} (h : inn (A 203) 7) : sIsT A p ≠ 0 ↔ 0 ≤ p.toInt ∧ p.toInt < (A 203).toInt := by
  unfold sIsT
  rw [in_iff, subOne h.1, show (0 : Int32).toInt = 0 from rfl]
  omega
theorem isT_in {A : Ar} {p : Int32} (h : inn (A 203) 7) (hp : sIsT A p ≠ 0) : inn p 6 ∧ p.toNatClampNeg < (A 203).toNatClampNeg := by
  have := (isT_iff h).mp hp
  have h1 := rn_to this.1
  have h2 := rn_to h.1
  have := h.2
  exact ⟨⟨by omega, by omega⟩, by omega⟩
theorem c_hasTool {v : vSt} {r : Nat} {A : Ar} {p : Int32} (hr : v r 2 = A 203) (h : inn (A 203) 7) : fX2_hasTool r p v = sIsT A p := by
  unfold fX2_hasTool
  rw [hr]
  have hi := isT_iff (A := A) (p := p) h
  have h01 : sIsT A p = 0 ∨ sIsT A p = 1 := in01
  have := h.2
  have z : (0 : Int32).toInt = 0 := rfl
  have z6 : (6 : Int32).toInt = 6 := rfl
  by_cases e : sIsT A p = 0
  · rw [e]
    have e2 := mt hi.mpr (by rw [e]; simp)
    split
    · rfl
    · rename_i a1
      rw [Int32.lt_iff_toInt_lt] at a1
      rw [if_pos (by rw [Int32.le_iff_toInt_le]; omega)]
  · have e2 := hi.mp e
    rw [h01.resolve_left e, if_neg (by rw [Int32.lt_iff_toInt_lt]; omega), if_neg (by rw [Int32.le_iff_toInt_le]; omega), if_neg (by rw [Int32.le_iff_toInt_le]; omega)]
theorem mat_eq (m : Int32) : fX10_isMaterial m = fX11_isMaterial m := rfl
theorem mat_in {m : Int32} (h : fX11_isMaterial m ≠ 0) : inn m 3 := by
  have := in_iff.mp h
  rw [show (0 : Int32).toInt = 0 from rfl, show (2 : Int32).toInt = 2 from rfl] at this
  exact ⟨this.1, by omega⟩
theorem ti_div {a b : Int32} (ha : 0 ≤ a.toInt) (hb : 0 < b.toInt) : (a / b).toInt = a.toInt / b.toInt := by
  have h1 := fb_rngX a
  rw [Int32.toInt_div, Int.tdiv_eq_ediv_of_nonneg ha]
  have h2 : 0 ≤ a.toInt / b.toInt := Int.ediv_nonneg ha (by omega)
  have h3 : a.toInt / b.toInt ≤ a.toInt := Int.ediv_le_self _ ha
  rw [Int.bmod_def]
  split <;> omega
theorem rd_aux {x s : Int32} (hx : 0 ≤ x.toInt ∧ x.toInt ≤ 15000) (hs : s = 10 ∨ s = 5 ∨ s = 2 ∨ s = 1) : 0 ≤ ((x + s / 2) / s * s).toInt ∧ ((x + s / 2) / s * s).toInt ≤ 15010 := by
  rcases hs with h | h | h | h <;> subst h
  · have e1 : (x + 10 / 2 : Int32).toInt = x.toInt + 5 := ti_add (b := 5) (by rw [show (5 : Int32).toInt = 5 from rfl]; omega)
    have e2 : ((x + 10 / 2 : Int32) / 10).toInt = (x.toInt + 5) / 10 := by rw [ti_div (by omega) (by decide), e1]; rfl
    have e3 : ((x + 10 / 2 : Int32) / 10 * 10).toInt = (x.toInt + 5) / 10 * 10 := by rw [ti_mul (by rw [e2, show (10 : Int32).toInt = 10 from rfl]; omega), e2]; rfl
    rw [e3]; omega
  · have e1 : (x + 5 / 2 : Int32).toInt = x.toInt + 2 := ti_add (b := 2) (by rw [show (2 : Int32).toInt = 2 from rfl]; omega)
    have e2 : ((x + 5 / 2 : Int32) / 5).toInt = (x.toInt + 2) / 5 := by rw [ti_div (by omega) (by decide), e1]; rfl
    have e3 : ((x + 5 / 2 : Int32) / 5 * 5).toInt = (x.toInt + 2) / 5 * 5 := by rw [ti_mul (by rw [e2, show (5 : Int32).toInt = 5 from rfl]; omega), e2]; rfl
    rw [e3]; omega
  · have e1 : (x + 2 / 2 : Int32).toInt = x.toInt + 1 := ti_add (b := 1) (by rw [show (1 : Int32).toInt = 1 from rfl]; omega)
    have e2 : ((x + 2 / 2 : Int32) / 2).toInt = (x.toInt + 1) / 2 := by rw [ti_div (by omega) (by decide), e1]; rfl
    have e3 : ((x + 2 / 2 : Int32) / 2 * 2).toInt = (x.toInt + 1) / 2 * 2 := by rw [ti_mul (by rw [e2, show (2 : Int32).toInt = 2 from rfl]; omega), e2]; rfl
    rw [e3]; omega
  · have e1 : (x + 1 / 2 : Int32).toInt = x.toInt := by rw [show (1 / 2 : Int32) = 0 from rfl]; simp
    have e2 : ((x + 1 / 2 : Int32) / 1).toInt = x.toInt := by rw [ti_div (by omega) (by decide), e1, show (1 : Int32).toInt = 1 from rfl]; omega
    have e3 : ((x + 1 / 2 : Int32) / 1 * 1).toInt = x.toInt := by rw [ti_mul (by rw [e2, show (1 : Int32).toInt = 1 from rfl]; omega), e2, show (1 : Int32).toInt = 1 from rfl]; omega
    rw [e3]; omega
theorem step4 (k : Int32) : sStep k = 10 ∨ sStep k = 5 ∨ sStep k = 2 ∨ sStep k = 1 := by
  unfold sStep
  split
  · simp
  · split
    · simp
    · split <;> simp
theorem rd_or {A : Ar} {t : Nat} {m len : Int32} : sReading A t m len = -1 ∨ (0 ≤ (sReading A t m len).toInt ∧ (sReading A t m len).toInt ≤ 15010) := by
  unfold sReading
  split
  · exact Or.inl rfl
  · rename_i h1
    by_cases h2 : (if 3 ≤ A (8 * t) then 2500 else 15000) < sShown A t m len
    · rw [if_pos h2]; exact Or.inl rfl
    · rw [if_neg h2]
      rw [Int32.lt_iff_toInt_lt] at h1 h2
      refine Or.inr (rd_aux ⟨by have : (0 : Int32).toInt = 0 := rfl; omega, ?_⟩ (step4 _))
      have : (if 3 ≤ A (8 * t) then 2500 else 15000 : Int32).toInt ≤ 15000 := by split <;> decide
      omega
theorem rd_lt {A : Ar} {t : Nat} {m len : Int32} : (0 ≤ sReading A t m len) ↔ ¬ sReading A t m len = -1 := by
  rw [Int32.le_iff_toInt_le, show (0 : Int32).toInt = 0 from rfl]
  rcases rd_or (A := A) (t := t) (m := m) (len := len) with h | h
  · rw [h]; decide
  · constructor
    · intro _ e; rw [e] at h; exact absurd h.1 (by decide)
    · intro _; exact h.1
def sGoMeasure (A : Ar) (p m len : Int32) : Int32 × Ar :=
  if sIsT A p = 0 then (-100001, A) else if fX11_isMaterial m = 0 then (-100001, A) else if fX11_isLength len = 0 then (-100001, A)
  else if 0 ≤ sReading A p.toNatClampNeg m len then (sReading A p.toNatClampNeg m len - A (8 * p.toNatClampNeg + 3), sUse A p.toNatClampNeg m) else (-100002, A)
theorem sUse_o {A : Ar} {t : Nat} {m : Int32} {j : Nat} (h : j ≠ 8 * t + 2 ∧ j ≠ 8 * t + 4 ∧ j ≠ 8 * t + 5 ∧ j ≠ 8 * t + 6) : sUse A t m j = A j := by
  unfold sUse
  rw [if_neg h.2.2.1, if_neg h.2.2.2, if_neg h.2.1, if_neg h.1]
theorem m_goMeasure {v : vSt} {p m len : Int32} (h : inn (v 462 203) 7) : fX11_goMeasure 461 p m len v = ((sGoMeasure (v 462) p m len).1, uA v 462 (sGoMeasure (v 462) p m len).2) := by
  unfold fX11_goMeasure sGoMeasure
  simp only [m_isTool]
  by_cases h1 : sIsT (v 462) p = 0
  · rw [if_pos h1, if_pos h1, uI]
  rw [if_neg h1, if_neg h1]
  by_cases h2 : fX11_isMaterial m = 0
  · rw [if_pos h2, if_pos h2, uI]
  rw [if_neg h2, if_neg h2]
  by_cases h3 : fX11_isLength len = 0
  · rw [if_pos h3, if_pos h3, uI]
  rw [if_neg h3, if_neg h3]
  have hp := (isT_in h h1).1
  rw [m_reading hp]
  by_cases h4 : 0 ≤ sReading (v 462) p.toNatClampNeg m len
  · rw [if_pos h4, if_pos h4, m_uses hp, m_tool hp (by decide), uA_s]
    simp only [Int32.reduceToNatClampNeg]
    rw [sUse_o (by omega)]
  · rw [if_neg h4, if_neg h4, uI]
theorem mo_goMeasure {v : vSt} {p m len : Int32} (h : inn (v 462 203) 7) : oX11_goMeasure 461 p m len v := by
  unfold oX11_goMeasure
  refine ⟨mo_isTool, fun h1 _ _ => ?_⟩
  have hp := (isT_in h h1).1
  exact ⟨mo_reading hp, fun _ => ⟨mo_uses hp, fun _ _ => mo_tool hp (by decide)⟩⟩
/-- the code of what an order tells -/
def rfc (x : Int32) : Int32 := if x = -100001 then 1 else if x = -100002 then 2 else 0
theorem rfc_1 : rfc (-100001) = 1 := rfl
theorem rfc_2 : rfc (-100002) = 2 := rfl
theorem rfn1 {P : Prop} {B : Ar} (h : rfc ((-100001 : Int32), B).1 = 0) : P := absurd h (by show ¬ rfc (-100001) = 0; decide)
theorem rfn2 {P : Prop} {B : Ar} (h : rfc ((-100002 : Int32), B).1 = 0) : P := absurd h (by show ¬ rfc (-100002) = 0; decide)
theorem rfc_0 {x : Int32} (h : -100001 < x.toInt) : rfc x = 0 := by
  unfold rfc
  rw [if_neg (fun e => by rw [e] at h; exact absurd h (by decide)), if_neg (fun e => by rw [e] at h; exact absurd h (by decide))]
section C31
variable {v : vSt} {b : Nat} {A : Ar} {p m len : Int32}
theorem SR.tool (h : SR v b A) (hw : WF A) (hp : sIsT A p ≠ 0) : tR (v (((b + 1 + 2) + 13 + p.toNatClampNeg))) A p.toNatClampNeg ∧ inn (A (8 * p.toNatClampNeg)) 5 ∧ inn p 6 ∧ p.toNatClampNeg < (A 203).toNatClampNeg :=
  have e := isT_in hw.1.1 hp
  ⟨h.2.2.1 _ e.2, (hw.2.1.1 _ e.2).1, e.1, e.2⟩
theorem c_refM (h : SR v b A) (hw : WF A) : fX2_refusalToMeasure (b + 1) p m len v = rfc (sGoMeasure A p m len).1 := by
  unfold fX2_refusalToMeasure sGoMeasure
  rw [c_hasTool h.1.1 hw.1.1, mat_eq, in_rng]
  by_cases h1 : sIsT A p = 0
  · rw [if_pos h1, if_pos h1]; rfl
  rw [if_neg h1, if_neg h1]
  by_cases h2 : fX11_isMaterial m = 0
  · rw [if_pos h2, if_pos h2]; rfl
  rw [if_neg h2, if_neg h2]
  by_cases h3 : fX11_isLength len = 0
  · rw [if_pos h3, show fX11_in len 0 15000 = 0 from h3, if_pos rfl]; rfl
  rw [if_neg h3, if_neg (show ¬ fX11_in len 0 15000 = 0 from h3)]
  obtain ⟨hT, hk, hp, hlt⟩ := h.tool hw h1
  rw [c_reading h.1.2.2.1 (mat_in h2) hk hT]
  by_cases h4 : sReading A p.toNatClampNeg m len = -1
  · rw [if_pos h4, if_neg (fun q => rd_lt.mp q h4)]; rfl
  · rw [if_neg h4, if_pos (rd_lt.mpr h4)]
    refine (rfc_0 ?_).symm
    have hr := rd_or (A := A) (t := p.toNatClampNeg) (m := m) (len := len)
    have hkn := (hw.2.1.1 _ hlt).2
    have := hr.resolve_left h4
    show _ < (sReading A p.toNatClampNeg m len - A (8 * p.toNatClampNeg + 3)).toInt
    rw [ti_sub (by omega)]
    omega
theorem sUse_1 {t : Nat} : sUse A t m (8 * t) = A (8 * t) ∧ sUse A t m (8 * t + 1) = A (8 * t + 1) ∧ sUse A t m (8 * t + 3) = A (8 * t + 3) ∧ sUse A t m (8 * t + 7) = A (8 * t + 7) := ⟨sUse_o (by omega), sUse_o (by omega), sUse_o (by omega), sUse_o (by omega)⟩
theorem SR.use (hb : kd b = 7) (h : SR v b A) (hw : WF A) {t : Nat} (ht : t < (A 203).toNatClampNeg) (hm : inn m 3) : SR (fX8_useOn (((b + 1 + 2) + 13 + t)) m v) b (sUse A t m) ∧ Fr b v (fX8_useOn (((b + 1 + 2) + 13 + t)) m v) := by
  have hn := inn_lt hw.1.1
  have hu := c_useOn (v := v) (q := ((b + 1 + 2) + 13 + t)) hm (h.2.2.1 t ht)
  exact ⟨h.setT hb hw (t := t) (by omega) hu.2 (fun j hj => sUse_o (by omega)) hu.1, fun q hq => hu.2 q (by omega)⟩
theorem WF.setT {A' : Ar} {t : Nat} (hw : WF A) (ht : t < (A 203).toNatClampNeg) (hA : ∀ j, (j < 8 * t ∨ 8 * t + 8 ≤ j) → A' j = A j) (hT : inn (A' (8 * t)) 5 ∧ -15000 ≤ (A' (8 * t + 3)).toInt ∧ (A' (8 * t + 3)).toInt ≤ 16000) : WF A' := by
  obtain ⟨c, w2, w3, w4, w5, w6⟩ := hw
  have hn := inn_lt c.1
  have ht6 : t < 6 := by omega
  have e0 : ∀ j, 48 ≤ j → A' j = A j := fun j hj => hA j (by omega)
  unfold WF WFc WFt WFb WFy WFw WFq WY PV
  rw [e0 203 (by omega), e0 204 (by omega), e0 205 (by omega), e0 206 (by omega), e0 207 (by omega), e0 210 (by omega)]
  refine ⟨c, ⟨fun u hu => ?_, fun j h1 h2 => by rw [hA j (by omega)]; exact w2.2 j h1 h2⟩, ⟨fun u hu => by rw [e0 _ (by omega)]; exact w3.1 u hu, fun j h1 h2 => by rw [e0 _ (by omega)]; exact w3.2 j h1 h2⟩, ⟨fun u hu => ?_, fun j h1 h2 => by rw [e0 _ (by omega)]; exact w4.2 j h1 h2⟩, fun i hi => ?_, fun i hi => ?_⟩
  · by_cases e : u = t
    · subst e; exact hT
    · rw [hA _ (by omega), hA _ (by omega)]; exact w2.1 u hu
  · rw [e0 _ (by omega), e0 _ (by omega), e0 _ (by omega), e0 _ (by omega), e0 _ (by omega), e0 _ (by omega), e0 _ (by omega), e0 _ (by omega), e0 _ (by omega)]
    obtain ⟨a1, a2, a3, a4, a5, a6, a7, a8, a9, a10⟩ := w4.1 u hu
    exact ⟨a1, a2, a3, a4, a5, a6, a7, a8, a9, fun i hi => by rw [e0 _ (by omega)]; exact a10 i hi⟩
  · rw [e0 _ (by omega)]
    obtain ⟨a, d, x, q1, q2, q3, q4, q5, q6⟩ := w5 i hi
    exact ⟨a, d, x, q1, q2, q3, q4, q5, by rw [e0 _ (by omega)]; exact q6⟩
  · rw [e0 _ (by omega)]
    obtain ⟨a, d, x, q1, q2, q3, q4, q5, q6⟩ := w6 i hi
    exact ⟨a, d, x, q1, q2, q3, q4, q5, by rw [e0 _ (by omega)]; exact q6⟩
theorem WF.use (hw : WF A) {t : Nat} (ht : t < (A 203).toNatClampNeg) : WF (sUse A t m) :=
  hw.setT ht (fun j hj => sUse_o (by omega)) (by rw [sUse_1.1, sUse_1.2.2.1]; exact hw.2.1.1 t ht)
/-- measuring: what the class does where it isn't refused -/
theorem c_meas (hb : kd b = 7) (h : SR v b A) (hw : WF A) (hr : fX2_refusalToMeasure (b + 1) p m len v = 0) :
    (fX2_measureLength (b + 1) p m len v).1 = (sGoMeasure A p m len).1 ∧ SR (fX2_measureLength (b + 1) p m len v).2 b (sGoMeasure A p m len).2 ∧ Fr b v (fX2_measureLength (b + 1) p m len v).2 ∧ WF (sGoMeasure A p m len).2 := by
  rw [c_refM h hw] at hr
  unfold sGoMeasure at hr ⊢
  by_cases h1 : sIsT A p = 0
  · rw [if_pos h1] at hr; exact rfn1 hr
  rw [if_neg h1] at hr ⊢
  by_cases h2 : fX11_isMaterial m = 0
  · rw [if_pos h2] at hr; exact rfn1 hr
  rw [if_neg h2] at hr ⊢
  by_cases h3 : fX11_isLength len = 0
  · rw [if_pos h3] at hr; exact rfn1 hr
  rw [if_neg h3] at hr ⊢
  by_cases h4 : 0 ≤ sReading A p.toNatClampNeg m len
  · rw [if_pos h4]
    obtain ⟨hT, hk, hp, hlt⟩ := h.tool hw h1
    have hu := h.use hb hw hlt (mat_in h2)
    unfold fX2_measureLength
    rw [c_hasTool h.1.1 hw.1.1, if_neg h1]
    refine ⟨?_, hu.1, hu.2, hw.use hlt⟩
    show fX2_reading (b + 1) (((b + 1 + 2) + 13 + p.toNatClampNeg)) m len v - v (((b + 1 + 2) + 13 + p.toNatClampNeg)) 3 = _
    rw [c_reading h.1.2.2.1 (mat_in h2) hk hT, hT.2.2.2.1]
  · rw [if_neg h4] at hr; exact rfn2 hr
end C31
