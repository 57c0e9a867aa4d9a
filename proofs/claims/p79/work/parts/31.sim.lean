/-! THE PLAIN PART 2: the class's block against the array: tools, blocks. -/
theorem inn3 {m : Int32} (h : inn m 3) : m = 0 ∨ m = 1 ∨ m = 2 := by
  simp only [← Int32.toInt_inj, Int32.reduceToInt]
  omega
theorem inn5 {m : Int32} (h : inn m 5) : m = 0 ∨ m = 1 ∨ m = 2 ∨ m = 3 ∨ m = 4 := by
  simp only [← Int32.toInt_inj, Int32.reduceToInt]
  omega
def tR (R : Ar) (A : Ar) (t : Nat) : Prop := R 0 = A (8 * t) ∧ R 1 = sStep (A (8 * t)) ∧ R 2 = A (8 * t + 1) ∧ R 3 = A (8 * t + 3) ∧ R 4 = A (8 * t + 2) ∧ R 5 = A (8 * t + 4) ∧ R 6 = A (8 * t + 5) ∧ R 7 = A (8 * t + 6) ∧ R 8 = A (8 * t + 7)
def bR (R : Ar) (A : Ar) (i : Nat) : Prop := R 0 = A (48 + 3 * i) ∧ R 1 = A (48 + 3 * i + 1) ∧ R 2 = A (48 + 3 * i + 2)
def yR (R B C : Ar) (A : Ar) (k : Nat) : Prop :=
  (R 0 = A ((78 + 21 * k + 0)) ∧ R 1 = A ((78 + 21 * k + 1)) ∧ R 2 = A ((78 + 21 * k + 2)) ∧ R 3 = A ((78 + 21 * k + 3)) ∧ R 4 = A ((78 + 21 * k + 4)) ∧ R 5 = A ((78 + 21 * k + 7)) ∧ R 7 = A ((78 + 21 * k + 5)) ∧ R 9 = A ((78 + 21 * k + 8))) ∧
  (∀ i, i < (A ((78 + 21 * k + 5))).toNatClampNeg → B ((A ((78 + 21 * k + 5))).toNatClampNeg - 1 - i) = bt (A ((78 + 21 * k + 6))) i) ∧ (∀ i, i < (A ((78 + 21 * k + 8))).toNatClampNeg → C i = A ((78 + 21 * k + (9 + i))))
def pR (T D X A : Ar) (s n : Nat) : Prop := ∀ i, i < n → T i = fX11_typeOf (A (s + i)) ∧ D i = fX11_deviationOf (A (s + i)) ∧ X i = A (s + i) - A (s + i) / 2 * 2
abbrev rT (b t : Nat) : Nat := (b + 1 + 2) + 13 + t
abbrev rB (b i : Nat) : Nat := (b + 1 + 3) + 20 + i
abbrev rY (b k : Nat) : Nat := (b + 2 + 3) + 31 + k
abbrev rW (b : Nat) : Nat := b + 2 + 4
abbrev rF (b : Nat) : Nat := b + 2 + 5
def SRd (v : vSt) (b : Nat) (A : Ar) : Prop := v (b + 1) 2 = A 203 ∧ v (b + 1) 3 = A 204 ∧ v (b + 1) 4 = A 208 ∧ v (b + 1) 5 = A 210
def SRe (v : vSt) (b : Nat) (A : Ar) : Prop := v (b + 2) 1 = A 205 ∧ v (b + 2) 4 = A 209 ∧ v (b + 2) 5 = A 211 ∧ v (b + 2) 6 = A 212 ∧ v (b + 2) 7 = A 213 ∧ v (b + 2) 8 = A 214 ∧ v (b + 2) 9 = A 215 ∧ v (b + 2) 10 = A 216
def SRw (v : vSt) (b : Nat) (A : Ar) : Prop := v ((b + 2 + 4)) 3 = A 206 ∧ pR (v (chP ((b + 2 + 4)))) (v (chP ((b + 2 + 4)) + 1)) (v (chP ((b + 2 + 4)) + 2)) A 183 ((A 206).toNatClampNeg)
def SRf (v : vSt) (b : Nat) (A : Ar) : Prop := v ((b + 2 + 5)) 3 = A 207 ∧ pR (v (chP ((b + 2 + 5)))) (v (chP ((b + 2 + 5)) + 1)) (v (chP ((b + 2 + 5)) + 2)) A 217 ((A 207).toNatClampNeg)
def SRt (v : vSt) (b : Nat) (A : Ar) : Prop := ∀ t, t < (A 203).toNatClampNeg → tR (v (((b + 1 + 2) + 13 + t))) A t
def SRb (v : vSt) (b : Nat) (A : Ar) : Prop := ∀ i, i < (A 204).toNatClampNeg → bR (v (((b + 1 + 3) + 20 + i))) A i
def SRy (v : vSt) (b : Nat) (A : Ar) : Prop := ∀ k, k < (A 205).toNatClampNeg → yR (v (((b + 2 + 3) + 31 + k))) (v (((b + 2 + 3) + 31 + k) + 5)) (v (((b + 2 + 3) + 31 + k) + 10)) A k
def SR (v : vSt) (b : Nat) (A : Ar) : Prop := SRd v b A ∧ SRe v b A ∧ SRt v b A ∧ SRb v b A ∧ SRy v b A ∧ SRw v b A ∧ SRf v b A
/-- the room of the queues of a block -/
def CP (v : vSt) (b : Nat) : Prop := (v ((b + 2 + 4)) 4 = 20 ∧ v ((b + 2 + 4)) 5 = 20 ∧ v ((b + 2 + 4)) 6 = 20) ∧ (20 ≤ (v ((b + 2 + 5)) 4).toInt ∧ (v ((b + 2 + 5)) 4).toInt ≤ 6400 ∧ v ((b + 2 + 5)) 5 = v ((b + 2 + 5)) 4 ∧ v ((b + 2 + 5)) 6 = v ((b + 2 + 5)) 4 ∧ (v ((b + 2 + 5)) 3).toInt ≤ (v ((b + 2 + 5)) 4).toInt)
/-- nothing but a block has changed -/
def Fr (b : Nat) (v v' : vSt) : Prop := ∀ q, (q < b ∨ b + 64 ≤ q) → v' q = v q
theorem Fr.rf {b : Nat} {v : vSt} : Fr b v v := fun _ _ => rfl
theorem Fr.tr {b : Nat} {v v' v'' : vSt} (h : Fr b v v') (h' : Fr b v' v'') : Fr b v v'' := fun q hq => (h' q hq).trans (h q hq)
theorem Fr.u {b q k : Nat} {y : Int32} {v : vSt} (h : b ≤ q ∧ q < b + 64) : Fr b v (u2 v q k y) := fun r hr => u2_r (by omega)
theorem Fr.a {b q : Nat} {f : Ar} {v : vSt} (h : b ≤ q ∧ q < b + 64) : Fr b v (uA v q f) := fun r hr => uA_n (by omega)
theorem chW {b : Nat} (h : kd b = 7) : chP ((b + 2 + 4)) = b + 8 := by
  unfold chP
  rw [if_pos (kc_0_5 (kc_7_0 h))]
theorem chF {b : Nat} (h : kd b = 7) : chP ((b + 2 + 5)) = b + 11 := by
  have e : kd ((b + 2 + 5)) = 15 := (by decide +kernel : ∀ r, r < 470 → kd r = 7 → kd (r + 2 + 5) = 15) b (kd_lt (by rw [h]; decide)) h
  unfold chP
  rw [if_neg (by rw [e]; decide)]
/-- the relation looks at the block alone -/
theorem SR.fr {v v' : vSt} {b : Nat} {A : Ar} (hb : kd b = 7) (h : SR v b A) (he : ∀ q, b ≤ q → q < b + 64 → v' q = v q) (hc : inn (A 203) 7 ∧ inn (A 204) 11 ∧ inn (A 205) 6) : SR v' b A := by
  obtain ⟨h1, h2, h3, h4, h5, h6, h7⟩ := h
  have c1 := inn_lt hc.1
  have c2 := inn_lt hc.2.1
  have c3 := inn_lt hc.2.2
  refine ⟨?_, ?_, fun t ht => ?_, fun t ht => ?_, fun t ht => ?_, ?_, ?_⟩
  · unfold SRd; rw [he (b + 1) (by omega) (by omega)]; exact h1
  · unfold SRe; rw [he (b + 2) (by omega) (by omega)]; exact h2
  · rw [he _ (by omega) (by omega)]; exact h3 t ht
  · rw [he _ (by omega) (by omega)]; exact h4 t ht
  · rw [he _ (by omega) (by omega), he _ (by omega) (by omega), he _ (by omega) (by omega)]; exact h5 t ht
  · unfold SRw; rw [he ((b + 2 + 4)) (by omega) (by omega), he _ (by rw [chW hb]; omega) (by rw [chW hb]; omega), he _ (by rw [chW hb]; omega) (by rw [chW hb]; omega), he _ (by rw [chW hb]; omega) (by rw [chW hb]; omega)]; exact h6
  · unfold SRf; rw [he ((b + 2 + 5)) (by omega) (by omega), he _ (by rw [chF hb]; omega) (by rw [chF hb]; omega), he _ (by rw [chF hb]; omega) (by rw [chF hb]; omega), he _ (by rw [chF hb]; omega) (by rw [chF hb]; omega)]; exact h7
theorem CP.fr {v v' : vSt} {b : Nat} (h : CP v b) (he : v' ((b + 2 + 4)) = v ((b + 2 + 4)) ∧ v' ((b + 2 + 5)) = v ((b + 2 + 5))) : CP v' b := by
  unfold CP
  rw [he.1, he.2]
  exact h
section CL
variable {v : vSt} {r q t : Nat} {A : Ar} {m len : Int32}
theorem c_stretch (hD : v r 4 = A 208) (hm : inn m 3) : fX2_stretch r m len v = sStretch A m len := by
  unfold fX2_stretch sStretch
  rw [hD]
  rcases inn3 hm with h | h | h <;> subst h <;> rfl
theorem c_shown (hD : v r 4 = A 208) (hm : inn m 3) (hT : tR (v q) A t) : fX2_shown r q m len v = sShown A t m len := by
  unfold fX2_shown sShown
  rw [c_stretch hD hm, c_stretch hD (by decide), hT.2.2.1, hT.2.2.2.2.1]
theorem c_can {x : Int32} (hk : inn (A (8 * t)) 5) (hT : tR (v q) A t) : fX8_canShow q x v = if x < 0 then 0 else (if (if 3 ≤ A (8 * t) then 2500 else 15000) < x then 0 else 1) := by
  unfold fX8_canShow fX10_inRange fX10_entry
  rw [hT.1]
  rcases inn5 hk with h | h | h | h | h <;> rw [h] <;> rfl
theorem c_reading (hD : v r 4 = A 208) (hm : inn m 3) (hk : inn (A (8 * t)) 5) (hT : tR (v q) A t) : fX2_reading r q m len v = sReading A t m len := by
  unfold fX2_reading sReading
  rw [c_shown hD hm hT, c_can hk hT]
  unfold fX8_nearestMultiple
  rw [hT.2.1]
  rcases inn5 hk with h | h | h | h | h <;> rw [h] <;> simp only [sStep] <;> grind
theorem c_due (hD : v r 5 = A 210) (hT : tR (v q) A t) : fX8_dueOn q (v r 5) v = sDue A t := by
  unfold fX8_dueOn sDue
  rw [hD, hT.2.2.2.2.2.2.2.1, hT.2.2.2.2.2.2.2.2]
theorem u2_q {v : vSt} {r k j : Nat} {y : Int32} : u2 v r k y r j = if j = k then y else v r j := by
  unfold u2
  simp
theorem mn40 {x : Int32} : (if x < 40 then x else 40 : Int32) = if x ≤ 40 then x else 40 := by
  by_cases h : x < 40
  · rw [if_pos h, if_pos (Int32.le_of_lt h)]
  · rw [if_neg h]
    by_cases h2 : x ≤ 40
    · rw [if_pos h2]
      refine Int32.toInt_inj.mp ?_
      have := i_nlt h
      have := i_le h2
      omega
    · rw [if_neg h2]
theorem c_useOn (hm : inn m 3) (hT : tR (v q) A t) : tR (fX8_useOn q m v q) (sUse A t m) t ∧ ∀ q', q' ≠ q → fX8_useOn q m v q' = v q' := by
  have e : fX10_entry 3 tbR m = 3 - m := by
    rcases inn3 hm with h | h | h <;> subst h <;> rfl
  have e3 : ∀ x : Int32, x + (3 - m) = x + 3 - m := by intro x; grind
  refine ⟨?_, fun q' hq => ?_⟩
  · obtain ⟨a0, a1, a2, a3, a4, a5, a6, a7, a8⟩ := hT
    have s0 : sUse A t m (8 * t) = A (8 * t) := by simp [sUse]
    have s1 : sUse A t m (8 * t + 1) = A (8 * t + 1) := by simp [sUse]
    have s3 : sUse A t m (8 * t + 3) = A (8 * t + 3) := by simp [sUse]
    have s7 : sUse A t m (8 * t + 7) = A (8 * t + 7) := by simp [sUse]
    have s5 : sUse A t m (8 * t + 5) = A (8 * t + 5) + 1 := by simp [sUse]
    have s6 : sUse A t m (8 * t + 6) = A (8 * t + 6) + 1 := by simp [sUse]
    have s4 : sUse A t m (8 * t + 4) = if A (8 * t + 4) + 3 - m < 20 then A (8 * t + 4) + 3 - m else A (8 * t + 4) + 3 - m - 20 := by simp [sUse]
    have s2 : sUse A t m (8 * t + 2) = if A (8 * t + 4) + 3 - m < 20 then A (8 * t + 2) else (if A (8 * t + 2) + 1 ≤ 40 then A (8 * t + 2) + 1 else 40) := by simp [sUse]
    unfold tR
    rw [s0, s1, s2, s3, s4, s5, s6, s7]
    simp only [fX8_useOn, e, ite_ap2, ite_ap1, u2_q, Nat.reduceEqDiff, if_true, if_false, a0, a1, a2, a3, a4, a5, a6, a7, a8, e3, mn40]
    by_cases hc : A (8 * t + 4) + 3 - m < 20
    · simp [hc]
    · simp [hc]
  · simp only [fX8_useOn]
    split
    · rw [u2_r hq, u2_r hq, u2_r hq]
    · rw [u2_r hq, u2_r hq, u2_r hq, u2_r hq, u2_r hq]
end CL
