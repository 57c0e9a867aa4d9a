/-! THE PLAIN PART 5c: a result comes into record and chart. -/
section R34c
variable {v : vSt} {b r k : Nat} {A : Ar} {x bad : Int32}
theorem ch_lo : ∀ j, (j < (78 + 21 * k + 8) ∨ (78 + 21 * k + 21) ≤ j) → inn (A ((78 + 21 * k + 8))) 13 → sCharts A k x j = A j := by
  intro j hj h
  have hB := inn_lt h
  unfold sCharts
  by_cases h12 : A ((78 + 21 * k + 8)) = 12
  · rw [if_pos h12, st_n (by omega), st_n (by omega), shf_o (by omega)]
  · have : (A ((78 + 21 * k + 8))).toInt ≠ 12 := fun e => h12 (Int32.toInt_inj.mp e)
    have e := rn_to h.1
    rw [if_neg h12, st_n (by omega), st_n (by omega)]
theorem ch_at (h : inn (A ((78 + 21 * k + 8))) 13) :
    (A ((78 + 21 * k + 8)) = 12 ∧ sCharts A k x ((78 + 21 * k + 8)) = 12 ∧ (∀ i, i < 11 → sCharts A k x ((78 + 21 * k + (9 + i))) = A ((78 + 21 * k + (9 + (i + 1))))) ∧ sCharts A k x ((78 + 21 * k + (9 + 11))) = x) ∨
    (inn (A ((78 + 21 * k + 8))) 12 ∧ sCharts A k x ((78 + 21 * k + 8)) = A ((78 + 21 * k + 8)) + 1 ∧ (∀ i, i < 12 → i ≠ (A ((78 + 21 * k + 8))).toNatClampNeg → sCharts A k x ((78 + 21 * k + (9 + i))) = A ((78 + 21 * k + (9 + i)))) ∧ sCharts A k x ((78 + 21 * k + (9 + (A ((78 + 21 * k + 8))).toNatClampNeg))) = x) := by
  have hB := inn_lt h
  unfold sCharts
  by_cases h12 : A ((78 + 21 * k + 8)) = 12
  · left
    refine ⟨h12, by rw [if_pos h12, st_s], fun i hi => ?_, ?_⟩
    · rw [if_pos h12, st_n (by omega), st_n (by omega)]
      unfold shf
      rw [if_pos (by omega)]
      congr 1
    · rw [if_pos h12, st_n (by omega)]
      exact st_s
  · right
    have h9 : (A ((78 + 21 * k + 8))).toInt ≠ 12 := fun e => h12 (Int32.toInt_inj.mp e)
    have e := rn_to h.1
    refine ⟨⟨h.1, by have := h.2; omega⟩, by rw [if_neg h12, st_s], fun i hi hne => ?_, ?_⟩
    · rw [if_neg h12, st_n (by omega), st_n (by omega)]
    · rw [if_neg h12, st_n (by omega), st_s]
theorem nx_at {B y : Int32} (hB : 0 ≤ B.toInt ∧ B.toInt < 1024) (hy : inn y 2) : 0 ≤ (nxB B y).toInt ∧ (nxB B y).toInt < 1024 ∧ (B.toInt < 512 → (nxB B y).toInt = 2 * B.toInt + y.toInt) ∧ bt (nxB B y) 0 = y ∧ ∀ i, i < 9 → bt (nxB B y) (i + 1) = bt B i := by
  have eB := rn_to hB.1
  have ey := rn_to hy.1
  have := nx_bits B.toNatClampNeg (by omega) y.toNatClampNeg (by have := hy.2; omega)
  rw [of_to hB.1, of_to hy.1] at this
  obtain ⟨a1, a2, a3, a4, a5⟩ := this
  exact ⟨a1, a2, fun h => by rw [a3 (by omega), eB, ey], a4, a5⟩
theorem rec_at {B n : Int32} (hn : inn n 11) (hB : 0 ≤ B.toInt ∧ B.toInt < 2 ^ n.toNatClampNeg) : sbN B (min 5 n.toNatClampNeg) = fX11_ones (B &&& 31) ∧ sbN B n.toNatClampNeg = fX11_ones B ∧ (sGood B n < 10 ↔ ¬ (n = 10 ∧ B = 0)) ∧ (sGood B n < 5 ↔ ¬ (5 ≤ n ∧ B &&& 31 = 0)) := by
  have eB := rn_to hB.1
  have hl := inn_lt hn
  have h2 : B.toNatClampNeg < 2 ^ n.toNatClampNeg := by
    have := hB.2
    rw [eB] at this
    exact_mod_cast this
  obtain ⟨a1, a2, a3, a4⟩ := rec_bits n.toNatClampNeg hl B.toNatClampNeg h2
  rw [of_to hB.1] at a1 a2 a3 a4
  rw [of_to hn.1] at a3 a4
  have en := rn_to hn.1
  refine ⟨a1, a2, a3.trans (not_congr ?_), a4.trans (not_congr ?_)⟩
  · refine and_congr ⟨fun h => Int32.toInt_inj.mp (by rw [en, h]; rfl), fun h => by rw [h]; rfl⟩ ⟨fun h => Int32.toInt_inj.mp (by rw [eB, h]; rfl), fun h => by rw [h]; rfl⟩
  · refine and_congr ?_ Iff.rfl
    rw [Int32.le_iff_toInt_le, show (5 : Int32).toInt = 5 from rfl]
    omega
/-- the record behind one more result -/
theorem c_rec {R : Ar} {n B y : Int32} (hn : inn n 11) (hB : 0 ≤ B.toInt ∧ B.toInt < 2 ^ n.toNatClampNeg) (hy : inn y 2) (hr : ∀ i, i < n.toNatClampNeg → R (n.toNatClampNeg - 1 - i) = bt B i) :
    (fX10_append 10 R n y).1 = fX11_less 10 (n + 1) ∧ inn (fX11_less 10 (n + 1)) 11 ∧ (0 ≤ (nxB B y).toInt ∧ (nxB B y).toInt < 2 ^ (fX11_less 10 (n + 1)).toNatClampNeg) ∧
    (∀ i, i < (fX11_less 10 (n + 1)).toNatClampNeg → (fX10_append 10 R n y).2 ((fX11_less 10 (n + 1)).toNatClampNeg - 1 - i) = bt (nxB B y) i) ∧ oX10_append 10 R n y := by
  have hl := inn_lt hn
  have e0 := rn_to hn.1
  have h10 : (2 : Int) ^ n.toNatClampNeg ≤ 1024 := by
    have : ∀ k, k < 11 → (2 : Int) ^ k ≤ 1024 := by decide
    exact this _ hl
  obtain ⟨b1, b2, b3, b4, b5⟩ := nx_at (B := B) (y := y) (by omega) hy
  by_cases hc : n = 10
  · subst hc
    obtain ⟨a1, a2⟩ := ap_eq (f := R) (x := y) (n := 10) (by omega)
    have a1 : fX10_append 10 R 10 y = ((10 : Int32), upd (va_cpy R R 1 0 (10 - 1)) (10 - 1) y) := a1
    have l10 : fX11_less 10 (10 + 1) = 10 := rfl
    rw [l10, a1]
    refine ⟨rfl, by decide, ⟨b1, by rw [show (2 : Int) ^ (10 : Int32).toNatClampNeg = 1024 from rfl]; exact b2⟩, fun i hi => ?_, a2⟩
    have hi : i < 10 := hi
    dsimp only
    rw [show (10 : Int32).toNatClampNeg = 10 from rfl]
    by_cases h0 : i = 0
    · subst h0
      rw [b4]
      exact upd_s
    · rw [upd_n (by omega), cpy_1 (by omega), show i = (i - 1) + 1 by omega, b5 (i - 1) (by omega), show 10 - 1 - (i - 1 + 1) + 1 = 10 - 1 - (i - 1) by omega]
      exact hr (i - 1) (by show i - 1 < 10; omega)
  · have h10' : inn n 10 := ⟨hn.1, by have := hn.2; have : n.toInt ≠ 10 := fun e => hc (Int32.toInt_inj.mp e); omega⟩
    have hl10 := inn_lt h10'
    obtain ⟨a1, a2⟩ := ap_lt (f := R) (x := y) (n := 10) (by omega) h10'
    obtain ⟨c1, c2⟩ := add1 h10' (by omega)
    have lle : fX11_less 10 (n + 1) = n + 1 := by
      unfold fX11_less
      rw [if_pos (by rw [Int32.le_iff_toInt_le, c1, show (10 : Int32).toInt = 10 from rfl]; have := h10'.2; omega)]
    have h512 : (2 : Int) ^ n.toNatClampNeg ≤ 512 := by
      have : ∀ k, k < 10 → (2 : Int) ^ k ≤ 512 := by decide
      exact this _ hl10
    rw [lle, a1]
    refine ⟨rfl, ⟨by omega, by have := h10'.2; omega⟩, ⟨b1, ?_⟩, fun i hi => ?_, a2⟩
    · rw [c2, b3 (by omega), Int.pow_succ]
      have := hy.2
      omega
    · rw [c2] at hi ⊢
      dsimp only
      by_cases h0 : i = 0
      · subst h0
        rw [b4, show n.toNatClampNeg + 1 - 1 - 0 = n.toNatClampNeg by omega]
        exact upd_s
      · rw [upd_n (by omega), show i = (i - 1) + 1 by omega, b5 (i - 1) (by omega), show n.toNatClampNeg + 1 - 1 - (i - 1 + 1) = n.toNatClampNeg - 1 - (i - 1) by omega]
        exact hr (i - 1) (by omega)
end R34c
