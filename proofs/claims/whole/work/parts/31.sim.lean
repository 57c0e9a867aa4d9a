/-! the class's tools against the array -/
theorem inn3 {m : Int32} (h : inn m 3) : m = 0 ∨ m = 1 ∨ m = 2 := by
  simp only [← Int32.toInt_inj, Int32.reduceToInt]
  omega
theorem inn5 {m : Int32} (h : inn m 5) : m = 0 ∨ m = 1 ∨ m = 2 ∨ m = 3 ∨ m = 4 := by
  simp only [← Int32.toInt_inj, Int32.reduceToInt]
  omega
def tR (R : Ar) (A : Ar) (t : Nat) : Prop := R 0 = A (8 * t) ∧ R 1 = sStep (A (8 * t)) ∧ R 2 = A (8 * t + 1) ∧ R 3 = A (8 * t + 3) ∧ R 4 = A (8 * t + 2) ∧ R 5 = A (8 * t + 4) ∧ R 6 = A (8 * t + 5) ∧ R 7 = A (8 * t + 6) ∧ R 8 = A (8 * t + 7)
section CL
variable {v : vSt} {r q t : Nat} {A : Ar} {m len : Int32}
theorem c_stretch (hD : v r 4 = A 208) (hm : inn m 3) : fX2_stretch r m len v = sStretch A m len := by
  unfold fX2_stretch sStretch
  rw [hD]
  rcases inn3 hm with h | h | h <;> subst h <;> rfl
theorem c_shown (hD : v r 4 = A 208) (hm : inn m 3) (hT : tR (v q) A t) : fX2_shown r q m len v = sShown A t m len := by
  unfold fX2_shown sShown
  rw [c_stretch hD hm, c_stretch hD (by decide), hT.2.2.1, hT.2.2.2.2.1]
theorem c_can {x : Int32} (hk : inn (A (8 * t)) 5) (hT : tR (v q) A t) : fX8_canShow q x v = if x < 0 then 0 else (if (if 3 ≤ A (8 * t) then 2500 else 15000) < x then 0 else 1) := by
  unfold fX8_canShow fX10_inRange fX10_entry
  rw [hT.1]
  rcases inn5 hk with h | h | h | h | h <;> rw [h] <;> rfl
theorem c_reading (hD : v r 4 = A 208) (hm : inn m 3) (hk : inn (A (8 * t)) 5) (hT : tR (v q) A t) : fX2_reading r q m len v = sReading A t m len := by
  unfold fX2_reading sReading
  rw [c_shown hD hm hT, c_can hk hT]
  unfold fX8_nearestMultiple
  rw [hT.2.1]
  rcases inn5 hk with h | h | h | h | h <;> rw [h] <;> simp only [sStep] <;> grind
theorem c_due (hD : v r 5 = A 210) (hT : tR (v q) A t) : fX8_dueOn q (v r 5) v = sDue A t := by
  unfold fX8_dueOn sDue
  rw [hD, hT.2.2.2.2.2.2.2.1, hT.2.2.2.2.2.2.2.2]
theorem c_useOn (hm : inn m 3) (hT : tR (v q) A t) : tR (fX8_useOn q m v q) (sUse A t m) t ∧ ∀ q', q' ≠ q → fX8_useOn q m v q' = v q' := by
  have e : fX10_entry 3 tbR m = 3 - m := by
    rcases inn3 hm with h | h | h <;> subst h <;> rfl
  refine ⟨?_, fun q' hq => ?_⟩
  · unfold tR at *
    simp only [fX8_useOn, e, ite_ap2, ite_ap1, u2, sUse]
    grind
  · funext k
    simp only [fX8_useOn, ite_ap2, ite_ap1, u2]
    grind
end CL
