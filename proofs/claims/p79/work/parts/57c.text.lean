/-! P79, PLAIN 11c: the law types its orders. -/
section T57c
variable {n m N : Nat} {v w v0 : vSt} {x p y : Int32}
theorem low_le {q : Int32} (h : 0 < q.toInt) : 0 ≤ (fL_low x q).toInt ∧ (fL_low x q).toInt < q.toInt := low_t h
theorem nd1 {a : Nat} (h : a < 10) : nd a = 1 := by unfold nd; rw [if_pos (by omega), if_pos (by omega), if_pos (by omega), if_pos h]
theorem nd2 {a : Nat} (h : a < 100) : nd a ≤ 2 := by unfold nd; rw [if_pos (by omega), if_pos (by omega), if_pos h]; split <;> omega
theorem nd4 {a : Nat} (h : a < 10000) : nd a ≤ 4 := by unfold nd; rw [if_pos h]; split <;> split <;> split <;> omega
/-- which order -/
theorem act_t {z : Int32} : ∃ K : Nat, K < 7 ∧ (if (3 : Int32) ≤ z then (if (5 : Int32) ≤ z then (if (11 : Int32) ≤ z then (if (17 : Int32) ≤ z then (if (18 : Int32) ≤ z then (if (19 : Int32) ≤ z then 6 else 5) else 4) else 3) else 2) else 1) else 0 : Int32) = Int32.ofNat K := by
  split
  · split
    · split
      · split
        · split
          · split
            · exact ⟨6, by decide, rfl⟩
            · exact ⟨5, by decide, rfl⟩
          · exact ⟨4, by decide, rfl⟩
        · exact ⟨3, by decide, rfl⟩
      · exact ⟨2, by decide, rfl⟩
    · exact ⟨1, by decide, rfl⟩
  · exact ⟨0, by decide, rfl⟩
theorem eK {K J : Nat} (h : K < 100) (hJ : J < 100) : Int32.ofNat K = Int32.ofNat J ↔ K = J := neT h hJ
/-- one order is typed -/
theorem rd_1 (hI : Inv n m w) (hn : 60 ≤ n) {i : Nat} (hl : TL w ≤ 8 * i) (hi : i < 7) :
      ∀ y11 : Int32, y11 = ((if ((fL_low (x >>> ((22 : Int32) &&& 31)) 9) : Int32) = 0 then 1 else 0 : Int32) : Int32) →
      ∀ y13 : Int32, y13 = ((if (3 : Int32) ≤ (fL_low (x >>> (((1 : Int32) + ((2 : Int32) * (Int32.ofNat i))) &&& 31)) 20) then (if (5 : Int32) ≤ (fL_low (x >>> (((1 : Int32) + ((2 : Int32) * (Int32.ofNat i))) &&& 31)) 20) then (if (11 : Int32) ≤ (fL_low (x >>> (((1 : Int32) + ((2 : Int32) * (Int32.ofNat i))) &&& 31)) 20) then (if (17 : Int32) ≤ (fL_low (x >>> (((1 : Int32) + ((2 : Int32) * (Int32.ofNat i))) &&& 31)) 20) then (if (18 : Int32) ≤ (fL_low (x >>> (((1 : Int32) + ((2 : Int32) * (Int32.ofNat i))) &&& 31)) 20) then (if (19 : Int32) ≤ (fL_low (x >>> (((1 : Int32) + ((2 : Int32) * (Int32.ofNat i))) &&& 31)) 20) then 6 else 5) else 4) else 3) else 2) else 1) else 0 : Int32) : Int32) →
      ∀ y15 : Int32, y15 = ((if (y13 : Int32) = 2 then (fX10_types 448 w) else (fX10_tools 448 w) : Int32) : Int32) →
      ∀ y17 : Int32, y17 = ((if (y13 : Int32) = 4 then ((1 : Int32) + (fL_low ((x >>> (((1 : Int32) + ((2 : Int32) * (Int32.ofNat i))) &&& 31)) >>> ((2 : Int32) &&& 31)) 30)) else (let y19 : Int32 := (if (y11 : Int32) = 0 then (if (y15 : Int32) = 0 then 7 else y15) else 7 : Int32); fL_low ((x >>> (((1 : Int32) + ((2 : Int32) * (Int32.ofNat i))) &&& 31)) >>> ((2 : Int32) &&& 31)) y19) : Int32) : Int32) →
      ∀ y19 : Int32, y19 = ((if (y13 : Int32) = 0 then (fL_low ((x >>> (((1 : Int32) + ((2 : Int32) * (Int32.ofNat i))) &&& 31)) >>> ((4 : Int32) &&& 31)) 2600) else (if (y13 : Int32) = 1 then (if ((fX10_blocks 448 w) : Int32) = 0 then 100 else ((fX10_blockLength 448 (fL_low ((x >>> (((1 : Int32) + ((2 : Int32) * (Int32.ofNat i))) &&& 31)) >>> ((4 : Int32) &&& 31)) (fX10_blocks 448 w)) w).2)) else (let y22 : Int32 := (if (y11 : Int32) = 0 then 70 else 250 : Int32); fL_low ((x >>> (((1 : Int32) + ((2 : Int32) * (Int32.ofNat i))) &&& 31)) >>> ((4 : Int32) &&& 31)) y22)) : Int32) : Int32) →
      ∀ y21 : Int32, y21 = ((if (y13 : Int32) = 0 then 109 else (if (y13 : Int32) = 1 then 99 else (if (y13 : Int32) = 2 then 112 else (if (y13 : Int32) = 3 then 106 else (if (y13 : Int32) = 4 then 102 else (if (y13 : Int32) = 5 then 117 else 100))))) : Int32) : Int32) →
      ∀ v25 : vSt, v25 = ((fX10_type 448 y21 w).2.2) →
      ∀ v26 : vSt, v26 = (gM v25 (fX11_type 461 y21 v25).2) →
      ∀ v28 : vSt, v28 = ((if (4 : Int32) < y13 then v26 else (let v31 : vSt := fL_number 448 y17 v26; v31) : vSt) : vSt) →
      ∀ v30 : vSt, v30 = ((if (2 : Int32) < y13 then v28 else (let y33 : Int32 := (if ((fL_low (x >>> ((23 : Int32) &&& 31)) 11) : Int32) = 0 then 46 else 44 : Int32); let v37 : vSt := (fX10_type 448 y33 v28).2.2; let v38 : vSt := gM v37 (fX11_type 461 y33 v37).2; let v41 : vSt := fL_number 448 y19 v38; v41) : vSt) : vSt) →
      ∀ y32 : Int32, y32 = ((if ((Int32.ofNat i) : Int32) = ((fL_low x 7) - (1 : Int32)) then (if ((fL_low (x >>> ((26 : Int32) &&& 31)) 7) : Int32) = 0 then 46 else 59) else 59 : Int32) : Int32) →
      ∀ v36 : vSt, v36 = ((fX10_type 448 y32 v30).2.2) →
      ∀ v37 : vSt, v37 = (gM v36 (fX11_type 461 y32 v36).2) →
      (oX10_type 448 y21 w ∧ (fX10_type 448 y21 w).1 = 0 ∧ (¬ (fX10_type 448 y21 w).2.1 ≤ 0)) ∧ (¬ (4 : Int32) < y13 → oL_number 448 y17 v26) ∧
      (¬ (2 : Int32) < y13 → ∀ y33 : Int32, y33 = ((if ((fL_low (x >>> ((23 : Int32) &&& 31)) 11) : Int32) = 0 then 46 else 44 : Int32) : Int32) → (oX10_type 448 y33 v28 ∧ (fX10_type 448 y33 v28).1 = 0 ∧ ∀ v37' : vSt, v37' = (fX10_type 448 y33 v28).2.2 → ∀ v38 : vSt, v38 = gM v37' (fX11_type 461 y33 v37').2 → ((¬ (fX10_type 448 y33 v28).2.1 ≤ 0) ∧ oL_number 448 y19 v38))) ∧
      (oX10_type 448 y32 v30 ∧ (fX10_type 448 y32 v30).1 = 0 ∧ (¬ (fX10_type 448 y32 v30).2.1 ≤ 0)) ∧ ∃ d s t, TTy n w v37 d s t ∧ d ≤ 8 ∧ (t = 0 → s = 1) := by
  intro y11 ey11 y13 ey13 y15 ey15 y17 ey17 y19 ey19 y21 ey21 v25 ev25 v26 ev26 v28 ev28 v30 ev30 y32 ey32 v36 ev36 v37 ev37
  have z0 : (0 : Int32).toInt = 0 := rfl
  obtain ⟨K, hK, eK0⟩ := act_t (z := fL_low (x >>> (((1 : Int32) + ((2 : Int32) * (Int32.ofNat i))) &&& 31)) 20)
  have ey13 : y13 = Int32.ofNat K := ey13.trans eK0
  clear eK0
  have k2 : y13 = 2 ↔ K = 2 := by rw [ey13]; exact eK (J := 2) (by omega) (by decide)
  have k4 : y13 = 4 ↔ K = 4 := by rw [ey13]; exact eK (J := 4) (by omega) (by decide)
  have k0 : y13 = 0 ↔ K = 0 := by rw [ey13]; exact eK (J := 0) (by omega) (by decide)
  have k1 : y13 = 1 ↔ K = 1 := by rw [ey13]; exact eK (J := 1) (by omega) (by decide)
  have g4 : (4 : Int32) < y13 ↔ 4 < K := by rw [ey13]; exact oflt (k := 4) (n := K) (by decide) (by omega)
  have g2 : (2 : Int32) < y13 ↔ 2 < K := by rw [ey13]; exact oflt (k := 2) (n := K) (by decide) (by omega)
  have c1 := hI.wf.1.1
  have c2 := hI.wf.1.2.1
  have c3 := hI.wf.1.2.2.1
  -- the numbers
  have hA : ∃ a : Nat, y17 = Int32.ofNat a ∧ a < 100 ∧ (K ≠ 4 → a < 10) := by
    by_cases q : y13 = 4
    · rw [if_pos q] at ey17
      have := low_le (x := (x >>> (((1 : Int32) + ((2 : Int32) * (Int32.ofNat i))) &&& 31)) >>> ((2 : Int32) &&& 31)) (q := 30) (by decide)
      rw [show (30 : Int32).toInt = 30 from rfl] at this
      have e := (of_to this.1)
      have l := rn_to this.1
      refine ⟨1 + (fL_low ((x >>> (((1 : Int32) + ((2 : Int32) * (Int32.ofNat i))) &&& 31)) >>> ((2 : Int32) &&& 31)) 30).toNatClampNeg, ?_, by omega, fun h => absurd (k4.mp q) h⟩
      rw [ey17, ← of_add, e]
      rfl
    · rw [if_neg q] at ey17
      have hb : 0 < (if y11 = 0 then (if y15 = 0 then 7 else y15) else 7 : Int32).toInt ∧ (if y11 = 0 then (if y15 = 0 then 7 else y15) else 7 : Int32).toInt ≤ 7 := by
        split
        · split
          · decide
          · rename_i h1 h2
            rw [ey15] at h2 ⊢
            by_cases q2 : y13 = 2
            · rw [if_pos q2, x_types hI] at h2 ⊢
              have : (w 462 205).toInt ≠ 0 := fun e => h2 (Int32.toInt_inj.mp e)
              have := c3.1
              have := c3.2
              omega
            · rw [if_neg q2, x_tools hI] at h2 ⊢
              have : (w 462 203).toInt ≠ 0 := fun e => h2 (Int32.toInt_inj.mp e)
              have := c1.1
              have := c1.2
              omega
        · decide
      have := low_le (x := (x >>> (((1 : Int32) + ((2 : Int32) * (Int32.ofNat i))) &&& 31)) >>> ((2 : Int32) &&& 31)) (q := (if y11 = 0 then (if y15 = 0 then 7 else y15) else 7 : Int32)) hb.1
      have l := rn_to this.1
      refine ⟨(fL_low ((x >>> (((1 : Int32) + ((2 : Int32) * (Int32.ofNat i))) &&& 31)) >>> ((2 : Int32) &&& 31)) (if y11 = 0 then (if y15 = 0 then 7 else y15) else 7 : Int32)).toNatClampNeg, ?_, by omega, fun _ => by omega⟩
      rw [ey17]
      exact (of_to this.1).symm
  obtain ⟨a, eA, a100, a10⟩ := hA
  have hB : ∃ b : Nat, y19 = Int32.ofNat b ∧ b < 10000 := by
    have fin : ∀ z : Int32, 0 ≤ z.toInt ∧ z.toInt < 10000 → ∃ b : Nat, z = Int32.ofNat b ∧ b < 10000 := fun z hz => ⟨z.toNatClampNeg, (of_to hz.1).symm, by have := rn_to hz.1; omega⟩
    rw [ey19]
    by_cases q0 : y13 = 0
    · rw [if_pos q0]
      have := low_le (x := (x >>> (((1 : Int32) + ((2 : Int32) * (Int32.ofNat i))) &&& 31)) >>> ((4 : Int32) &&& 31)) (q := 2600) (by decide)
      rw [show (2600 : Int32).toInt = 2600 from rfl] at this
      exact fin _ ⟨this.1, by omega⟩
    rw [if_neg q0]
    by_cases q1 : y13 = 1
    · rw [if_pos q1, x_blocks hI]
      by_cases qb : w 462 204 = 0
      · rw [if_pos qb]
        exact ⟨100, rfl, by decide⟩
      · rw [if_neg qb]
        have b0 : 0 < (w 462 204).toInt := by
          have : (w 462 204).toInt ≠ 0 := fun e => qb (Int32.toInt_inj.mp e)
          have := c2.1
          omega
        have := low_le (x := (x >>> (((1 : Int32) + ((2 : Int32) * (Int32.ofNat i))) &&& 31)) >>> ((4 : Int32) &&& 31)) (q := w 462 204) b0
        have hB : fX11_in (fL_low ((x >>> (((1 : Int32) + ((2 : Int32) * (Int32.ofNat i))) &&& 31)) >>> ((4 : Int32) &&& 31)) (w 462 204)) 0 (w 462 204 - 1) ≠ 0 := by
          rw [in_iff, subOne c2.1, z0]
          omega
        rw [x_blockLength hI hB]
        have hb := hI.wf.2.2.1.1 _ (isB_in hI hB).2
        exact fin _ ⟨by have := hb.1; show 0 ≤ (w 462 (48 + 3 * _)).toInt; omega, by have := hb.2; show (w 462 (48 + 3 * _)).toInt < 10000; omega⟩
    rw [if_neg q1]
    have hb : 0 < (if y11 = 0 then 70 else 250 : Int32).toInt ∧ (if y11 = 0 then 70 else 250 : Int32).toInt ≤ 250 := by split <;> decide
    have := low_le (x := (x >>> (((1 : Int32) + ((2 : Int32) * (Int32.ofNat i))) &&& 31)) >>> ((4 : Int32) &&& 31)) (q := (if y11 = 0 then 70 else 250 : Int32)) hb.1
    dsimp only
    exact fin _ ⟨this.1, by omega⟩
  obtain ⟨b, eB, b4⟩ := hB
  have hC : (32 ≤ y21.toInt ∧ y21.toInt ≤ 126) ∧ y21 ≠ 59 ∧ y21 ≠ 46 := by
    rw [ey21]
    repeat' (first | (split) | decide)
  clear ey11 ey15 ey17 ey19 ey21
  subst eA eB
  have A1 := ty_s (p := y21) hI hn hC.1 (by omega)
  rw [← ev25, ← ev26, if_neg hC.2.1, if_neg hC.2.2] at A1
  obtain ⟨m1, I1⟩ := A1.2.2.2.i
  have L1 := A1.2.2.2.2.2.2.1
  have nA := nd2 a100
  -- the first number
  have B1 : (¬ (4 : Int32) < y13 → oL_number 448 (Int32.ofNat a) v26) ∧ TTy n v26 v28 (if 4 < K then 0 else nd a) 0 0 := by
    by_cases q : 4 < K
    · rw [if_pos (g4.mpr q)] at ev28
      rw [if_pos q, ev28]
      exact ⟨fun g => absurd (g4.mpr q) g, TTy.rf I1⟩
    · rw [if_neg (mt g4.mp q)] at ev28
      have r := nu_s (a := a) I1 hn (by omega) (by omega)
      rw [if_neg q, ev28]
      exact ⟨fun _ => r.1, r.2⟩
  obtain ⟨m2, I2⟩ := B1.2.i
  have L2 := B1.2.2.2.2.1
  have nB := nd4 b4
  have nA1 : K ≠ 4 → nd a = 1 := fun h => nd1 (a10 h)
  -- the second
  have C1 : (¬ (2 : Int32) < y13 → ∀ y33 : Int32, y33 = ((if ((fL_low (x >>> ((23 : Int32) &&& 31)) 11) : Int32) = 0 then 46 else 44 : Int32) : Int32) → (oX10_type 448 y33 v28 ∧ (fX10_type 448 y33 v28).1 = 0 ∧ ∀ v37' : vSt, v37' = (fX10_type 448 y33 v28).2.2 → ∀ v38 : vSt, v38 = gM v37' (fX11_type 461 y33 v37').2 → ((¬ (fX10_type 448 y33 v28).2.1 ≤ 0) ∧ oL_number 448 (Int32.ofNat b) v38))) ∧
      ∃ e t, TTy n v28 v30 e 0 t ∧ e ≤ (if 2 < K then 0 else 1 + nd b) := by
    by_cases q : 2 < K
    · rw [if_pos (g2.mpr q)] at ev30
      rw [if_pos q, ev30]
      exact ⟨fun g => absurd (g2.mpr q) g, 0, 0, TTy.rf I2, Nat.le_refl _⟩
    · rw [if_neg (mt g2.mp q)] at ev30
      rw [if_neg q]
      have hl4 : TL v28 = TL w + 1 + nd a := by rw [L2, L1, if_neg (by omega)]
      have a1 := nA1 (by omega)
      have hc : ∀ y33 : Int32, y33 = ((if ((fL_low (x >>> ((23 : Int32) &&& 31)) 11) : Int32) = 0 then 46 else 44 : Int32) : Int32) → (32 ≤ y33.toInt ∧ y33.toInt ≤ 126) ∧ y33 ≠ 59 := fun y33 e33 => by
        rw [e33]
        split <;> decide
      have one : ∀ y33 : Int32, (32 ≤ y33.toInt ∧ y33.toInt ≤ 126) ∧ y33 ≠ 59 → (oX10_type 448 y33 v28 ∧ (fX10_type 448 y33 v28).1 = 0 ∧ (¬ (fX10_type 448 y33 v28).2.1 ≤ 0)) ∧ oL_number 448 (Int32.ofNat b) (gM (fX10_type 448 y33 v28).2.2 (fX11_type 461 y33 (fX10_type 448 y33 v28).2.2).2) ∧
          TTy n v28 (fL_number 448 (Int32.ofNat b) (gM (fX10_type 448 y33 v28).2.2 (fX11_type 461 y33 (fX10_type 448 y33 v28).2.2).2)) (1 + nd b) 0 (if y33 = 46 then 1 else 0) := fun y33 h33 => by
        obtain ⟨s1, s2, s3, s4⟩ := ty_s (p := y33) I2 hn h33.1 (by omega)
        rw [if_neg h33.2] at s4
        obtain ⟨m3, I3⟩ := s4.i
        have L3 := s4.2.2.2.1
        have r := nu_s (a := b) I3 hn (by omega) (by omega)
        have tt := s4.tr r.2
        rw [Nat.add_zero, Nat.add_zero] at tt
        exact ⟨⟨s1, s2, s3⟩, r.1, tt⟩
      refine ⟨fun _ y33 e33 => ?_, ?_⟩
      · have o := one y33 (hc y33 e33)
        exact ⟨o.1.1, o.1.2.1, fun v37' e37 v38 e38 => ⟨o.1.2.2, by rw [e38, e37]; exact o.2.1⟩⟩
      · have o := one _ (hc _ rfl)
        exact ⟨_, _, by rw [ev30]; exact o.2.2, Nat.le_refl _⟩
  obtain ⟨C0, e, t, C2, C3⟩ := C1
  obtain ⟨m4, I4⟩ := C2.i
  have L4 := C2.2.2.2.1
  have hlast : TL v30 < 60 ∧ 1 + (if 4 < K then 0 else nd a) + e ≤ 7 := by
    have hK2 : 2 < K ∨ ¬ 2 < K := by omega
    rcases hK2 with q | q
    · rw [if_pos q] at C3
      by_cases q4 : 4 < K
      · rw [if_pos q4] at L2 ⊢; omega
      · rw [if_neg q4] at L2 ⊢; omega
    · rw [if_neg q] at C3
      have := nA1 (by omega)
      rw [if_neg (show ¬ 4 < K by omega)] at L2 ⊢
      omega
  have h32 : (32 ≤ y32.toInt ∧ y32.toInt ≤ 126) ∧ ((y32 = 59 ∧ y32 ≠ 46) ∨ (y32 = 46 ∧ y32 ≠ 59)) := by
    rw [ey32]
    split
    · split
      · exact ⟨by decide, Or.inr ⟨rfl, by decide⟩⟩
      · exact ⟨by decide, Or.inl ⟨rfl, by decide⟩⟩
    · exact ⟨by decide, Or.inl ⟨rfl, by decide⟩⟩
  obtain ⟨s1, s2, s3, s4⟩ := ty_s (p := y32) I4 hn h32.1 hlast.1
  rw [← ev36, ← ev37] at s4
  have tt := (((A1.2.2.2).tr B1.2).tr C2).tr s4
  refine ⟨⟨A1.1, A1.2.1, A1.2.2.1⟩, B1.1, C0, ⟨s1, s2, s3⟩, _, _, _, tt, by omega, fun ht => ?_⟩
  rcases h32.2 with ⟨q1, q2⟩ | ⟨q1, q2⟩
  · rw [if_pos q1]
  · rw [if_pos q1] at ht; omega
theorem rd_l (hn : 60 ≤ n) (h0 : TL v0 = 0) : ∀ fl i w d s t, i ≤ (fL_low x 7).toNatClampNeg → (fL_low x 7).toNatClampNeg < fl + i → TTy n v0 w d s t → d ≤ 8 * i → (t = 0 → s = i) →
    olL_reads_23 448 x fl (Int32.ofNat i) w ∧ ∃ d s t, TTy n v0 (lL_reads_23 448 x fl (Int32.ofNat i) w) d s t ∧ d ≤ 48 ∧ (t = 0 → s = (fL_low x 7).toNatClampNeg) := by
  have hL : inn (fL_low x 7) 7 := low_n (k := 7) rfl (by decide)
  have lL := inn_lt hL
  intro fl
  induction fl with
  | zero => intro i w d s t h1 h2; omega
  | succ fl ih =>
    intro i w d s t h1 h2 hT hd hs
    obtain ⟨m', hI⟩ := hT.i
    unfold olL_reads_23 lL_reads_23
    by_cases q : fL_low x 7 ≤ Int32.ofNat i
    · rw [if_pos q]
      have q2 := q
      rw [of_le hL.1 (by omega)] at q
      exact ⟨fun g => absurd q2 g, d, s, t, hT, by omega, fun h => by have := hs h; omega⟩
    · rw [if_neg q]
      rw [of_le hL.1 (by omega)] at q
      have lw : TL w = d := by have := hT.2.2.2.1; omega
      have R := rd_1 (x := x) (i := i) hI hn (by omega) (by omega)
      have step : ∀ W, (∃ d s t, TTy n w W d s t ∧ d ≤ 8 ∧ (t = 0 → s = 1)) → olL_reads_23 448 x fl (Int32.ofNat i + 1) W ∧ ∃ d s t, TTy n v0 (lL_reads_23 448 x fl (Int32.ofNat i + 1) W) d s t ∧ d ≤ 48 ∧ (t = 0 → s = (fL_low x 7).toNatClampNeg) := fun W hW => by
        obtain ⟨d', s', t', h1', h2', h3'⟩ := hW
        rw [of_S (by omega)]
        exact ih (i + 1) W (d + d') (s + s') (t + t') (by omega) (by omega) (hT.tr h1') (by omega) (fun h => by have := hs (by omega); have := h3' (by omega); omega)
      refine ⟨fun _ => ⟨low_o (by decide), low_o (by decide), fun y11 e11 y13 e13 => ⟨⟨fun _ => (t_types hI).1, fun _ => (t_tools hI).1⟩, fun y15 e15 => ⟨⟨fun _ => low_o (by decide), fun _ y19 e19 => ?_⟩, fun y17 e17 => ⟨⟨fun _ => low_o (by decide), fun _ => ⟨fun _ => ⟨(t_blocks hI).1, fun qb => ?_⟩, fun _ y22 e22 => ?_⟩⟩, fun y19 e19 y21 e21 => ?_⟩⟩⟩⟩, ?_⟩
      · intro z
        rw [e19] at z
        split at z
        · split at z
          · exact absurd z (by decide)
          · rename_i g1 g2; exact g2 z
        · exact absurd z (by decide)
      · have c2 := hI.wf.1.2.1
        rw [x_blocks hI] at qb ⊢
        have b0 : 0 < (w 462 204).toInt := by
          have : (w 462 204).toInt ≠ 0 := fun e => qb (Int32.toInt_inj.mp e)
          have := c2.1
          omega
        have := low_le (x := (x >>> (((1 : Int32) + ((2 : Int32) * (Int32.ofNat i))) &&& 31)) >>> ((4 : Int32) &&& 31)) (q := w 462 204) b0
        have hB : fX11_in (fL_low ((x >>> (((1 : Int32) + ((2 : Int32) * (Int32.ofNat i))) &&& 31)) >>> ((4 : Int32) &&& 31)) (w 462 204)) 0 (w 462 204 - 1) ≠ 0 := by
          rw [in_iff, subOne c2.1, show (0 : Int32).toInt = 0 from rfl]
          omega
        exact ⟨qb, (t_blockLength hI).1, by rw [x_blockLength hI hB]⟩
      · intro z
        rw [e22] at z
        split at z <;> exact absurd z (by decide)
      · have R := R y11 e11 y13 e13 y15 e15 y17 e17 y19 e19 y21 e21 _ rfl _ rfl _ rfl _ rfl _ rfl _ rfl _ rfl
        refine ⟨R.1.1, R.1.2.1, fun v25 e25 v26 e26 => ⟨R.1.2.2, fun g => ?_, fun v28 e28 => ⟨fun g => ⟨low_o (by decide), fun y33 e33 => ?_⟩, fun v30 e30 => ⟨fun _ => low_o (by decide), fun y32 e32 => ?_⟩⟩⟩⟩
        · rw [e26, e25]; exact R.2.1 g
        · rw [e28, e26, e25]; exact R.2.2.1 g y33 e33
        · rw [e30, e28, e26, e25, e32]
          exact ⟨R.2.2.2.1.1, R.2.2.2.1.2.1, fun v36 e36 v37 e37 => ⟨R.2.2.2.1.2.2, by rw [e37, e36]; exact (step _ R.2.2.2.2).1⟩⟩
      · exact (step _ (R _ rfl _ rfl _ rfl _ rfl _ rfl _ rfl _ rfl _ rfl _ rfl _ rfl _ rfl _ rfl _ rfl).2.2.2.2).2
end T57c
