/-! P79, PLAIN 7b: how far pieces, charts and known errors are off. -/
def dv (x : Int32) : Int := (fX11_deviationOf x).toInt
def XJ (A : Ar) : Prop :=
  (∀ t, t < (A 203).toNatClampNeg → -200 ≤ (A (8 * t + 3)).toInt ∧ (A (8 * t + 3)).toInt ≤ 200) ∧ (∀ i, i < (A 206).toNatClampNeg → -400 ≤ dv (A (183 + i)) ∧ dv (A (183 + i)) ≤ 200) ∧
  (∀ i, i < (A 207).toNatClampNeg → -300 ≤ dv (A (217 + i)) ∧ dv (A (217 + i)) ≤ 200) ∧ (∀ k, k < (A 205).toNatClampNeg → ∀ j, j < 12 → -1000 ≤ (A ((78 + 21 * k + (9 + j)))).toInt ∧ (A ((78 + 21 * k + (9 + j)))).toInt ≤ 1000)
section T53b
variable {A A' B : Ar} {N t k : Nat} {m x p p1 p2 p3 p4 set len : Int32}
set_option maxRecDepth 100000 in
theorem bt_01 : ∀ s, s < 1024 → ∀ k, k < 10 → bt (Int32.ofNat s) k = 0 ∨ bt (Int32.ofNat s) k = 1 := by decide +kernel
/-- what a stack is: its lengths make the length, and it has at most five blocks -/
theorem stk_p (hn : inn (A 204) 11) (h : sStack A len ≠ 0) : ∃ s : Nat, sStack A len = Int32.ofNat s ∧ s < 2 ^ (A 204).toNatClampNeg ∧ sSum A (sStack A len) 0 = len ∧ (fX11_ones (sStack A len)).toInt ≤ 5 := by
  have hS := sh_le hn
  have l7 := inn_lt hn
  have key : ∀ (n k : Nat) (x y : Int32), k ≤ 2 ^ (A 204).toNatClampNeg → x.toInt ≤ 6 → (y = 0 ∨ ∃ s : Nat, y = Int32.ofNat s ∧ s < 2 ^ (A 204).toNatClampNeg ∧ sSum A y 0 = len ∧ (fX11_ones y).toInt ≤ 5) →
      (lX11_stack_8 (wA A) 461 len n (Int32.ofNat k) x y = 0 ∨ ∃ s : Nat, lX11_stack_8 (wA A) 461 len n (Int32.ofNat k) x y = Int32.ofNat s ∧ s < 2 ^ (A 204).toNatClampNeg ∧ sSum A (lX11_stack_8 (wA A) 461 len n (Int32.ofNat k) x y) 0 = len ∧ (fX11_ones (lX11_stack_8 (wA A) 461 len n (Int32.ofNat k) x y)).toInt ≤ 5) := by
    intro n
    induction n with
    | zero => intro k x y _ _ h; exact h
    | succ n ih =>
      intro k x y h1 hx hy
      unfold lX11_stack_8
      by_cases hk : (1 <<< ((wA A) 462 (204 : Int32).toNatClampNeg &&& 31) : Int32) ≤ Int32.ofNat k
      · rw [if_pos hk]; exact hy
      · rw [if_neg hk]
        have hk : ¬ (1 <<< (A 204 &&& 31) : Int32) ≤ Int32.ofNat k := hk
        have hk2 := i_nle hk
        rw [hS.2.1, of_ti (by have := hS.2.2; omega)] at hk2
        have hk3 : k < 2 ^ (A 204).toNatClampNeg := by exact_mod_cast hk2
        have ms : fX11_sum 461 (Int32.ofNat k) 0 (wA A) = sSum A (Int32.ofNat k) 0 := by rw [m_sum (v := wA A) hn (by decide)]; rfl
        rw [ms, of_S (by have := hS.2.2; omega)]
        dsimp only
        by_cases g2 : x ≤ fX11_ones (Int32.ofNat k)
        · rw [if_pos g2, if_pos rfl, if_pos rfl]
          exact ih (k + 1) _ _ (by omega) hx hy
        · rw [if_neg g2]
          by_cases g1 : sSum A (Int32.ofNat k) 0 = len
          · rw [if_pos g1, if_neg (by decide), if_neg (by decide)]
            have g2 := i_nle g2
            exact ih (k + 1) _ _ (by omega) (by omega) (Or.inr ⟨k, rfl, hk3, g1, by omega⟩)
          · rw [if_neg g1, if_pos rfl, if_pos rfl]
            exact ih (k + 1) _ _ (by omega) hx hy
  have := key ((Int32.toInt (1 <<< ((wA A) 462 (204 : Int32).toNatClampNeg &&& 31)) - Int32.toInt 1).toNat + 1) 1 6 0 Nat.one_le_two_pow (by decide) (Or.inl rfl)
  have eS : lX11_stack_8 (wA A) 461 len ((Int32.toInt (1 <<< ((wA A) 462 (204 : Int32).toNatClampNeg &&& 31)) - Int32.toInt 1).toNat + 1) (Int32.ofNat 1) 6 0 = sStack A len := rfl
  rw [eS] at this
  exact this.resolve_left h
theorem sk_ones0 (hn : inn (A 204) 11) (hk : k < 2 ^ (A 204).toNatClampNeg) : sbN (Int32.ofNat k) ((A 204).toNatClampNeg) = fX11_ones (Int32.ofNat k) := by
  have l := inn_lt hn
  have h10 : 2 ^ (A 204).toNatClampNeg ≤ 1024 := (sh_le hn).2.2
  exact (rec_at (B := Int32.ofNat k) hn ⟨by rw [of_ti (by omega)]; omega, by rw [of_ti (by omega)]; exact_mod_cast hk⟩).2.1
/-- the errors of some blocks together -/
theorem er_t {s : Nat} (hB : ∀ b, b < (A 204).toNatClampNeg → XB A b) (hn : (A 204).toNatClampNeg ≤ 10) (hs : s < 1024) : ∀ k, k ≤ (A 204).toNatClampNeg → 0 ≤ (sbN (Int32.ofNat s) k).toInt ∧ (sbN (Int32.ofNat s) k).toInt ≤ k ∧ -9 * (sbN (Int32.ofNat s) k).toInt ≤ (sSumN A (Int32.ofNat s) 1 k).toInt ∧ (sSumN A (Int32.ofNat s) 1 k).toInt ≤ 3 * (sbN (Int32.ofNat s) k).toInt := by
  intro k
  induction k with
  | zero =>
    intro _
    have e1 : sbN (Int32.ofNat s) 0 = 0 := rfl
    have e2 : sSumN A (Int32.ofNat s) 1 0 = 0 := rfl
    rw [e1, e2]
    exact ⟨by decide, by decide, by decide, by decide⟩
  | succ k ih =>
    intro hk
    obtain ⟨a1, a2, a3, a4⟩ := ih (by omega)
    have hx := hB k (by omega)
    unfold XB at hx
    have es : sSumN A (Int32.ofNat s) 1 (k + 1) = sSumN A (Int32.ofNat s) 1 k + (if bt (Int32.ofNat s) k = 1 then A (48 + 3 * k + 1) else 0) := rfl
    have eb : sbN (Int32.ofNat s) (k + 1) = sbN (Int32.ofNat s) k + bt (Int32.ofNat s) k := rfl
    rw [es, eb]
    rcases bt_01 s hs k (by omega) with g | g
    · rw [g, if_neg (by decide), Int32.add_zero, Int32.add_zero]
      exact ⟨a1, by omega, a3, a4⟩
    · rw [g, if_pos rfl]
      have e1 : (sbN (Int32.ofNat s) k + 1).toInt = (sbN (Int32.ofNat s) k).toInt + 1 := ti_add (b := 1) (by rw [i1t]; omega)
      have e2 : (sSumN A (Int32.ofNat s) 1 k + A (48 + 3 * k + 1)).toInt = (sSumN A (Int32.ofNat s) 1 k).toInt + (A (48 + 3 * k + 1)).toInt := ti_add (by omega)
      rw [e1, e2]
      omega
/-- the true length of a stack is near its length -/
theorem tru_t (hX : XI N A) (hn : inn (A 204) 11) (hl : 1 ≤ len.toInt ∧ len.toInt ≤ 15000) (h : sStack A len ≠ 0) : len.toInt - 45 ≤ (sTruly A (sStack A len)).toInt ∧ (sTruly A (sStack A len)).toInt ≤ len.toInt + 17 := by
  obtain ⟨s, e, hs, h0, h5⟩ := stk_p hn h
  have l7 := inn_lt hn
  have h10 : 2 ^ (A 204).toNatClampNeg ≤ 1024 := (sh_le hn).2.2
  have E := er_t (s := s) hX.2.1 (by omega) (by omega) ((A 204).toNatClampNeg) (Nat.le_refl _)
  rw [sk_ones0 hn hs] at E
  rw [e] at h0 h5 ⊢
  unfold sTruly
  rw [h0]
  have ee : sSum A (Int32.ofNat s) 1 = sSumN A (Int32.ofNat s) 1 ((A 204).toNatClampNeg) := rfl
  rw [← ee] at E
  have e1 : (len + sSum A (Int32.ofNat s) 1).toInt = len.toInt + (sSum A (Int32.ofNat s) 1).toInt := ti_add (by omega)
  have hd : ((fX11_ones (Int32.ofNat s) - 1) / 2).toInt = 0 ∨ ((fX11_ones (Int32.ofNat s) - 1) / 2).toInt = 1 ∨ ((fX11_ones (Int32.ofNat s) - 1) / 2).toInt = 2 := by
    have hall : ∀ i, i < 6 → ((Int32.ofNat i - 1) / 2 : Int32).toInt = 0 ∨ ((Int32.ofNat i - 1) / 2 : Int32).toInt = 1 ∨ ((Int32.ofNat i - 1) / 2 : Int32).toInt = 2 := by decide
    have := hall (fX11_ones (Int32.ofNat s)).toNatClampNeg (by have := rn_to E.1; omega)
    rw [of_to E.1] at this
    exact this
  rw [ti_add (by rw [e1]; omega), e1]
  omega
theorem str_b {l : Nat} (hW : WT A) (hl : l ≤ 15000) : -11 ≤ (sStretch A p (Int32.ofNat l)).toInt ∧ (sStretch A p (Int32.ofNat l)).toInt ≤ 11 := by
  have s1 := str_t (p := p) hW hl
  have hm := mtn_le (m := p)
  have hWW := hW.1
  have hd : dgW A ≤ 30 := by unfold dgW; split <;> omega
  have b1 : l * mtn p * dgW A ≤ 15000 * 23 * 30 := Nat.mul_le_mul (Nat.mul_le_mul hl hm.2) hd
  rcases le20 (A 208).toInt with h | h
  · rw [s1.1 h]; omega
  · rw [s1.2 h]; omega
/-- a reading is near the length -/
theorem rd_near {l : Nat} (hW : WT A) (hX : XT N A t) (hk : inn (A (8 * t)) 5) (hl : l ≤ 15000) (h : sReading A t p (Int32.ofNat l) ≠ -1) :
    (l : Int) - 97 ≤ (sReading A t p (Int32.ofNat l)).toInt ∧ (sReading A t p (Int32.ofNat l)).toInt ≤ l + 57 := by
  have hs := shown_t (p := p) hW hX hl
  have b1 := str_b (p := p) hW hl
  have b2 := str_b (p := 0) hW hl
  obtain ⟨x1, x2, _⟩ := hX
  obtain ⟨a1, a2, s, s1, s2, _, s3⟩ := rdg_t hk h
  have c1 := rn_to a1
  have a15 : (sShown A t p (Int32.ofNat l)).toInt ≤ 15000 := Int.le_trans a2 (by split <;> decide)
  rw [s3]
  generalize (sShown A t p (Int32.ofNat l)).toNatClampNeg = c at *
  have d : (c + s / 2) / s * s ≤ c + s / 2 := Nat.div_mul_le_self _ _
  rw [of_ti (by omega)]
  rcases s2 with e | e | e | e <;> subst e <;> omega
/-- .. and on steel it is nearer -/
theorem rd_steel {l : Nat} (hW : WT A) (hX : XT N A t) (hk : inn (A (8 * t)) 5) (hl : l ≤ 15000) (h : sReading A t 0 (Int32.ofNat l) ≠ -1) :
    (l : Int) - 75 ≤ (sReading A t 0 (Int32.ofNat l)).toInt ∧ (sReading A t 0 (Int32.ofNat l)).toInt ≤ l + 35 := by
  have hs := shown_t (p := 0) hW hX hl
  obtain ⟨x1, x2, _⟩ := hX
  obtain ⟨a1, a2, s, s1, s2, _, s3⟩ := rdg_t hk h
  have c1 := rn_to a1
  have a15 : (sShown A t 0 (Int32.ofNat l)).toInt ≤ 15000 := Int.le_trans a2 (by split <;> decide)
  rw [s3]
  generalize (sShown A t 0 (Int32.ofNat l)).toNatClampNeg = c at *
  have d : (c + s / 2) / s * s ≤ c + s / 2 := Nat.div_mul_le_self _ _
  rw [of_ti (by omega)]
  rcases s2 with e | e | e | e <;> subst e <;> omega
end T53b
