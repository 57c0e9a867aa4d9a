/-! THE PLAIN PART 3b: a piece leaves a queue, a piece comes. -/
theorem pot_cg {v v' : vSt} (hf : ∀ q, (kd q = 5 ∨ kd q = 15) → v' q 4 = v q 4) : pot v' = pot v := by
  unfold pot
  rw [hf 6 (by decide), hf 7 (by decide), hf 70 (by decide), hf 71 (by decide), hf 134 (by decide), hf 135 (by decide), hf 198 (by decide), hf 199 (by decide), hf 262 (by decide), hf 263 (by decide), hf 326 (by decide), hf 327 (by decide), hf 390 (by decide), hf 391 (by decide)]
theorem row_kd {q : Nat} (hq : kd q = 5 ∨ kd q = 15) : ∀ e, e < 3 → kd (chP q + e) = 23 := by
  have : ∀ r, r < 470 → (kd r = 5 ∨ kd r = 15) → ∀ e, e < 3 → kd (chP r + e) = 23 := by decide +kernel
  exact this q (kd_lt (by rcases hq with h | h <;> rw [h] <;> decide)) hq
theorem ch_or (q : Nat) : chP q = q + 2 ∨ chP q = q + 4 := by
  unfold chP
  split
  · exact Or.inl rfl
  · exact Or.inr rfl
theorem cpy_1 {g : Ar} {m i : Nat} (h : i < m) : va_cpy g g 1 0 m i = g (i + 1) := by
  unfold va_cpy
  rw [if_pos ⟨Nat.zero_le _, by omega⟩]
  congr 1
  omega
theorem cpy_0 {g f : Ar} {m i : Nat} (h : i < m) : va_cpy g f 0 0 m i = g i := by
  unfold va_cpy
  rw [if_pos ⟨Nat.zero_le _, by omega⟩]
  congr 1
  omega
section Q32b
variable {v v3 : vSt} {b q : Nat} {A : Ar} {p1 p2 p3 : Int32}
theorem c_drop (hn : 1 ≤ (v q 3).toInt) (hm : (v q 3).toInt ≤ (v q 4).toInt) (h5 : v q 5 = v q 4) (h6 : v q 6 = v q 4) :
    (∀ r, r ≠ q → (r < chP q ∨ chP q + 3 ≤ r) → fX5_dropFirst q v r = v r) ∧ (∀ f, f ≠ 3 → fX5_dropFirst q v q f = v q f) ∧ fX5_dropFirst q v q 3 = v q 3 - 1 ∧
    (∀ e i : Nat, e < 3 → (i : Int) + 1 < (v q 3).toInt → fX5_dropFirst q v (chP q + e) i = v (chP q + e) (i + 1)) ∧ oX5_dropFirst q v := by
  have hc := ch_or q
  have h0 : (0 : Int32) < v q 3 := by rw [Int32.lt_iff_toInt_lt, show (0 : Int32).toInt = 0 from rfl]; omega
  have e1 : (v q 3 - 1).toInt = (v q 3).toInt - 1 := subOne (by omega)
  have em : ((v q 3 - 1).toNatClampNeg : Int) = (v q 3).toInt - 1 := by rw [← rn_to (by omega), e1]
  have ef : fX5_dropFirst q v = uA (uA (uA (u2 v q 3 (v q 3 - 1)) (chP q) (va_cpy (v (chP q)) (v (chP q)) 1 0 (v q 3 - 1).toNatClampNeg)) (chP q + 1) (va_cpy (v (chP q + 1)) (v (chP q + 1)) 1 0 (v q 3 - 1).toNatClampNeg)) (chP q + 2) (va_cpy (v (chP q + 2)) (v (chP q + 2)) 1 0 (v q 3 - 1).toNatClampNeg) := by
    unfold fX5_dropFirst
    rw [if_pos h0]
    simp only []
    rw [uA_n (show chP q + 2 ≠ chP q + 1 by omega), uA_n (show chP q + 2 ≠ chP q by omega), uA_n (show chP q + 1 ≠ chP q by omega), uA_n (show q ≠ chP q + 1 by omega), uA_n (show q ≠ chP q by omega), u2_r (show chP q + 2 ≠ q by omega), u2_r (show chP q + 1 ≠ q by omega), u2_r (show chP q ≠ q by omega), u2_s]
    rfl
  refine ⟨fun r h1 h2 => ?_, fun f hf => ?_, ?_, fun e i he hi => ?_, ?_⟩
  · rw [ef, uA_n (by omega), uA_n (by omega), uA_n (by omega), u2_r h1]
  · rw [ef, uA_n (by omega), uA_n (by omega), uA_n (by omega), u2_q, if_neg hf]
  · rw [ef, uA_n (by omega), uA_n (by omega), uA_n (by omega), u2_q, if_pos rfl]
  · have he : e = 0 ∨ e = 1 ∨ e = 2 := by omega
    rcases he with rfl | rfl | rfl
    · rw [ef, uA_n (by omega), uA_n (by omega), Nat.add_zero, uA_s, cpy_1 (by omega)]
    · rw [ef, uA_n (by omega), uA_s, cpy_1 (by omega)]
    · rw [ef, uA_s, cpy_1 (by omega)]
  · unfold oX5_dropFirst
    have z : (1 : Int32).toInt = 1 := rfl
    have z0 : (0 : Int32).toInt = 0 := rfl
    have cr : (rN (v q 4) : Int) = (v q 4).toInt := i_rN (by omega)
    intro _ v2 e2
    have a3 : v2 q 3 = v q 3 - 1 := by rw [e2, u2_s]
    have a4 : v2 q 4 = v q 4 := by rw [e2, u2_q, if_neg (by omega)]
    have a5 : v2 q 5 = v q 5 := by rw [e2, u2_q, if_neg (by omega)]
    have a6 : v2 q 6 = v q 6 := by rw [e2, u2_q, if_neg (by omega)]
    refine ⟨?_, fun v4 e4 => ?_⟩
    · rw [a3, a4]; exact ⟨by omega, by omega, by omega, by omega, by omega⟩
    have b4 : v4 q = v2 q := by rw [e4, uA_n (by omega)]
    refine ⟨?_, fun v6 e6 => ?_⟩
    · rw [b4, a3, a5, h5]; exact ⟨by omega, by omega, by omega, by omega, by omega⟩
    have b6 : v6 q = v2 q := by rw [e6, uA_n (by omega), b4]
    rw [b6, a3, a6, h6]; exact ⟨by omega, by omega, by omega, by omega, by omega⟩
theorem c_put (hq : kd q = 5 ∨ kd q = 15) (e3 : v3 = fX5_makeRoom q (v q 3 + 1) v) (ho : oX5_makeRoom q (v q 3 + 1) v) (hpm : pot v ≤ pot v3) (hn : 0 ≤ (v3 q 3).toInt ∧ (v3 q 3).toInt < (v3 q 4).toInt) (h5 : v3 q 5 = v3 q 4) (h6 : v3 q 6 = v3 q 4) :
    (∀ r, r ≠ q → (r < chP q ∨ chP q + 3 ≤ r) → fX5_putLast q p1 p2 p3 v r = v3 r) ∧ (∀ f, f ≠ 3 → fX5_putLast q p1 p2 p3 v q f = v3 q f) ∧ fX5_putLast q p1 p2 p3 v q 3 = v3 q 3 + 1 ∧
    (∀ e i : Nat, e < 3 → i ≠ (v3 q 3).toNatClampNeg → fX5_putLast q p1 p2 p3 v (chP q + e) i = v3 (chP q + e) i) ∧
    fX5_putLast q p1 p2 p3 v (chP q) (v3 q 3).toNatClampNeg = p1 ∧ fX5_putLast q p1 p2 p3 v (chP q + 1) (v3 q 3).toNatClampNeg = p2 ∧ fX5_putLast q p1 p2 p3 v (chP q + 2) (v3 q 3).toNatClampNeg = (if p3 = 0 then 0 else 1) ∧
    oX5_putLast q p1 p2 p3 v ∧ pot (fX5_putLast q p1 p2 p3 v) = pot v3 := by
  have hc := ch_or q
  have cr : (rN (v3 q 4) : Int) = (v3 q 4).toInt := i_rN (by omega)
  have hnl : ¬ Int32.ofNat (rN (v3 q 4)) ≤ v3 q 3 := by rw [ofrN (by omega), Int32.le_iff_toInt_le]; omega
  have ef : fX5_putLast q p1 p2 p3 v = u2 (u2 (u2 (u2 v3 (chP q) (v3 q 3).toNatClampNeg p1) (chP q + 1) (v3 q 3).toNatClampNeg p2) (chP q + 2) (v3 q 3).toNatClampNeg (if p3 = 0 then 0 else 1)) q 3 (v3 q 3 + 1) := by
    unfold fX5_putLast
    rw [← e3]
    simp only []
    rw [if_neg hnl]
    rw [u2_r (show q ≠ chP q + 2 by omega), u2_r (show q ≠ chP q + 1 by omega), u2_r (show q ≠ chP q by omega)]
  have hpot : pot (fX5_putLast q p1 p2 p3 v) = pot v3 := by
    refine pot_cg (fun r hr => ?_)
    have hk := row_kd hq
    rw [ef]
    by_cases e : r = q
    · subst e
      rw [u2_q, if_neg (by omega), u2_r (by omega), u2_r (by omega), u2_r (by omega)]
    · have h0 : kd (chP q) = 23 := hk 0 (by omega)
      have h1 := hk 1 (by omega)
      have h2 := hk 2 (by omega)
      have ne : ∀ k, kd k = 23 → r ≠ k := fun k hk e => by rw [e, hk] at hr; rcases hr with h | h <;> exact absurd h (by decide)
      rw [u2_r e, u2_r (ne _ h2), u2_r (ne _ h1), u2_r (ne _ h0)]
  refine ⟨fun r h1 h2 => ?_, fun f hf => ?_, ?_, fun e i he hi => ?_, ?_, ?_, ?_, ?_, hpot⟩
  · rw [ef, u2_r h1, u2_r (by omega), u2_r (by omega), u2_r (by omega)]
  · rw [ef, u2_q, if_neg hf, u2_r (by omega), u2_r (by omega), u2_r (by omega)]
  · rw [ef, u2_s]
  · have he : e = 0 ∨ e = 1 ∨ e = 2 := by omega
    rcases he with rfl | rfl | rfl
    · rw [ef, u2_r (by omega), u2_r (by omega), u2_r (by omega), Nat.add_zero, u2_q, if_neg hi]
    · rw [ef, u2_r (by omega), u2_r (by omega), u2_q, if_neg hi, u2_r (by omega)]
    · rw [ef, u2_r (by omega), u2_q, if_neg hi, u2_r (by omega), u2_r (by omega)]
  · rw [ef, u2_r (by omega), u2_r (by omega), u2_r (by omega), u2_s]
  · rw [ef, u2_r (by omega), u2_r (by omega), u2_s]
  · rw [ef, u2_r (by omega), u2_s]
  · unfold oX5_putLast
    refine ⟨ho, ?_, fun v3' e3' => ?_⟩
    · unfold kkX5_makeRoom kkX5_putLast
      rw [hpot, ← e3]
      omega
    · rw [← e3] at e3'
      subst e3'
      intro _
      refine ⟨i_in hn.1 (by omega), fun v6 e6 => ⟨?_, fun v8 e8 _ _ => ?_⟩⟩
      · rw [e6, u2_r (show q ≠ chP q by omega), h5]; exact i_in hn.1 (by omega)
      · rw [e8, u2_r (show q ≠ chP q + 1 by omega), e6, u2_r (show q ≠ chP q by omega), h6]; exact i_in hn.1 (by omega)
end Q32b
