/-! P79, PLAIN 7: small numbers out of any; readings; the law's look at a tool. -/
section T53
variable {n m N : Nat} {v w : vSt} {A B : Ar} {p p2 p3 x y : Int32} {k t : Nat}
theorem cw_0 {y : Int32} : cw (0, y) = y := if_pos rfl
theorem cw_3 {y : Int32} : cw (3, y) = -100104 := rfl
theorem le20 (x : Int) : 20 ≤ x ∨ x < 20 := by omega
theorem and_nn {x : Int32} : 0 ≤ (x &&& 2147483647).toInt := by
  have h : (x &&& 2147483647).toBitVec.msb = false := by
    rw [Int32.toBitVec_and, BitVec.msb_and, show (2147483647 : Int32).toBitVec.msb = false by decide, Bool.and_false]
  show 0 ≤ (x &&& 2147483647).toBitVec.toInt
  rw [BitVec.toInt_eq_toNat_of_msb h]
  exact Int.natCast_nonneg _
theorem low_t (hq : 0 < y.toInt) : 0 ≤ (fL_low x y).toInt ∧ (fL_low x y).toInt < y.toInt := by
  unfold fL_low
  have h0 := and_nn (x := x)
  generalize x &&& 2147483647 = a at *
  have ha := fb_rngX a
  have hy := fb_rngX y
  have ed := ti_div h0 hq
  have e1 := Int.emod_add_mul_ediv a.toInt y.toInt
  have e2 := Int.emod_nonneg a.toInt (show y.toInt ≠ 0 by omega)
  have e3 := Int.emod_lt_of_pos a.toInt hq
  have e4 : 0 ≤ a.toInt / y.toInt := Int.ediv_nonneg h0 (by omega)
  have e5 : 0 ≤ y.toInt * (a.toInt / y.toInt) := Int.mul_nonneg (by omega) e4
  rw [Int.mul_comm] at e1 e5
  have em : (a / y * y).toInt = a.toInt / y.toInt * y.toInt := by rw [ti_mul (by rw [ed]; omega), ed]
  have es : (a - a / y * y).toInt = a.toInt - a.toInt / y.toInt * y.toInt := by rw [ti_sub (by rw [em]; omega), em]
  rw [es]
  omega
theorem low_o (h : ¬ y = 0) : oL_low x y := h
theorem low_n {q : Int32} {k : Nat} (h : q.toInt = (k : Int)) (hk : 0 < k) : inn (fL_low x q) k := by
  have := low_t (x := x) (y := q) (by omega)
  exact ⟨this.1, by omega⟩
def dgW (A : Ar) : Nat := if 20 ≤ (A 208).toInt then ((A 208).toInt - 20).toNat else (20 - (A 208).toInt).toNat
def mtn (m : Int32) : Nat := if m = 0 then 12 else (if m = 1 then 19 else 23)
theorem mtn_le {m : Int32} : 12 ≤ mtn m ∧ mtn m ≤ 23 := by
  unfold mtn
  split
  · omega
  · split <;> omega
theorem mtn_i {m : Int32} : (if m = 0 then 12 else (if m = 1 then 19 else 23) : Int32) = Int32.ofNat (mtn m) := by
  unfold mtn
  split
  · rfl
  · split <;> rfl
theorem tdiv_t {a : Int32} (h : -2147483648 < a.toInt) : (a / 1000000).toInt = a.toInt.tdiv 1000000 := by
  rw [Int32.toInt_div, show (1000000 : Int32).toInt = 1000000 from rfl]
  have h2 := fb_rngX a
  have : -2147483648 < a.toInt.tdiv 1000000 ∧ a.toInt.tdiv 1000000 < 2147483648 := by
    rcases Int.le_total 0 a.toInt with q | q
    · rw [Int.tdiv_eq_ediv_of_nonneg q]; omega
    · have e : a.toInt = -(-a.toInt) := by omega
      rw [e, Int.neg_tdiv, Int.tdiv_eq_ediv_of_nonneg (by omega)]; omega
  rw [Int.bmod_def]
  split <;> omega
/-- a stretch, in numbers -/
theorem str_t {l : Nat} (hW : WT A) (hl : l ≤ 15000) : (20 ≤ (A 208).toInt → (sStretch A p (Int32.ofNat l)).toInt = ((l * mtn p * dgW A / 1000000 : Nat) : Int)) ∧ ((A 208).toInt < 20 → (sStretch A p (Int32.ofNat l)).toInt = -((l * mtn p * dgW A / 1000000 : Nat) : Int)) := by
  have hm := mtn_le (m := p)
  have hW := hW.1
  have hd : dgW A ≤ 30 := by unfold dgW; split <;> omega
  have hlm : l * mtn p ≤ 15000 * 23 := Nat.mul_le_mul hl hm.2
  have hlmd : l * mtn p * dgW A ≤ 15000 * 23 * 30 := Nat.mul_le_mul hlm hd
  have e1 : (Int32.ofNat l * Int32.ofNat (mtn p)).toInt = ((l * mtn p : Nat) : Int) := by rw [of_mul, of_ti (by omega)]
  have e2 : (A 208 - 20).toInt = (A 208).toInt - 20 := ti_sub (b := 20) (by rw [show (20 : Int32).toInt = 20 from rfl]; omega)
  have e3 : (Int32.ofNat l * Int32.ofNat (mtn p) * (A 208 - 20)).toInt = ((l * mtn p : Nat) : Int) * ((A 208).toInt - 20) ∧ (20 ≤ (A 208).toInt → ((l * mtn p : Nat) : Int) * ((A 208).toInt - 20) = ((l * mtn p * dgW A : Nat) : Int)) ∧ ((A 208).toInt < 20 → ((l * mtn p : Nat) : Int) * ((A 208).toInt - 20) = -((l * mtn p * dgW A : Nat) : Int)) := by
    have g1 : 20 ≤ (A 208).toInt → ((l * mtn p : Nat) : Int) * ((A 208).toInt - 20) = ((l * mtn p * dgW A : Nat) : Int) := fun h => by
      have : ((dgW A : Nat) : Int) = (A 208).toInt - 20 := by unfold dgW; rw [if_pos h]; omega
      rw [Int.natCast_mul (l * mtn p), this]
    have g2 : (A 208).toInt < 20 → ((l * mtn p : Nat) : Int) * ((A 208).toInt - 20) = -((l * mtn p * dgW A : Nat) : Int) := fun h => by
      have : ((dgW A : Nat) : Int) = 20 - (A 208).toInt := by unfold dgW; rw [if_neg (by omega)]; omega
      rw [Int.natCast_mul (l * mtn p), this, ← Int.mul_neg]
      congr 1
      omega
    refine ⟨?_, g1, g2⟩
    rw [ti_mul (by
      rw [e1, e2]
      rcases le20 (A 208).toInt with h | h
      · rw [g1 h]; omega
      · rw [g2 h]; omega), e1, e2]
  unfold sStretch
  rw [mtn_i]
  refine ⟨fun h => ?_, fun h => ?_⟩
  · rw [tdiv_t (by rw [e3.1, e3.2.1 h]; omega), e3.1, e3.2.1 h, Int.tdiv_eq_ediv_of_nonneg (by omega)]
    omega
  · rw [tdiv_t (by rw [e3.1, e3.2.2 h]; omega), e3.1, e3.2.2 h, Int.neg_tdiv, Int.tdiv_eq_ediv_of_nonneg (by omega)]
    omega
/-- what is shown grows with the length -/
theorem shown_t {l : Nat} (hW : WT A) (hX : XT N A t) (hl : l ≤ 15000) : (sShown A t p (Int32.ofNat l)).toInt = l + (sStretch A p (Int32.ofNat l)).toInt + (A (8 * t + 1)).toInt - (sStretch A 0 (Int32.ofNat l)).toInt - (A (8 * t + 2)).toInt := by
  have s1 := str_t (p := p) hW hl
  have s2 := str_t (p := 0) hW hl
  have hm := mtn_le (m := p)
  have hm0 := mtn_le (m := 0)
  have hWW := hW.1
  have hd : dgW A ≤ 30 := by unfold dgW; split <;> omega
  have b1 : l * mtn p * dgW A ≤ 15000 * 23 * 30 := Nat.mul_le_mul (Nat.mul_le_mul hl hm.2) hd
  have b2 : l * mtn 0 * dgW A ≤ 15000 * 23 * 30 := Nat.mul_le_mul (Nat.mul_le_mul hl hm0.2) hd
  obtain ⟨x1, x2, _⟩ := hX
  have r1 : -11 ≤ (sStretch A p (Int32.ofNat l)).toInt ∧ (sStretch A p (Int32.ofNat l)).toInt ≤ 11 := by
    rcases le20 (A 208).toInt with h | h
    · rw [s1.1 h]; omega
    · rw [s1.2 h]; omega
  have r2 : -11 ≤ (sStretch A 0 (Int32.ofNat l)).toInt ∧ (sStretch A 0 (Int32.ofNat l)).toInt ≤ 11 := by
    rcases le20 (A 208).toInt with h | h
    · rw [s2.1 h]; omega
    · rw [s2.2 h]; omega
  unfold sShown
  have e1 : (Int32.ofNat l + sStretch A p (Int32.ofNat l)).toInt = l + (sStretch A p (Int32.ofNat l)).toInt := by rw [ti_add (by rw [of_ti (by omega)]; omega), of_ti (by omega)]
  have e2 : (Int32.ofNat l + sStretch A p (Int32.ofNat l) + A (8 * t + 1)).toInt = l + (sStretch A p (Int32.ofNat l)).toInt + (A (8 * t + 1)).toInt := by rw [ti_add (by rw [e1]; omega), e1]
  have e3 : (Int32.ofNat l + sStretch A p (Int32.ofNat l) + A (8 * t + 1) - sStretch A 0 (Int32.ofNat l)).toInt = l + (sStretch A p (Int32.ofNat l)).toInt + (A (8 * t + 1)).toInt - (sStretch A 0 (Int32.ofNat l)).toInt := by rw [ti_sub (by rw [e2]; omega), e2]
  rw [ti_sub (by rw [e3]; omega), e3]
theorem q_mono {l l' K : Nat} (h : l < l') (h2 : l' ≤ l + 40) (hK : K ≤ 690) : l * K / 1000000 ≤ l' * K / 1000000 ∧ l' * K / 1000000 ≤ l * K / 1000000 + 1 := by
  obtain ⟨d, e⟩ := Nat.exists_eq_add_of_lt h
  have : (d + 1) * K ≤ 40 * 690 := Nat.mul_le_mul (by omega) hK
  have e2 : l' * K = l * K + (d + 1) * K := by rw [← Nat.add_mul]; congr 1
  rw [e2]
  omega
theorem shown_mono {l l' : Nat} (hW : WT A) (hX : XT N A t) (hl : l < l') (h40 : l' ≤ l + 40) (h15 : l' ≤ 15000) : (sShown A t p (Int32.ofNat l)).toInt ≤ (sShown A t p (Int32.ofNat l')).toInt := by
  rw [shown_t hW hX (by omega), shown_t hW hX h15]
  have hd : dgW A ≤ 30 := by have := hW.1; unfold dgW; split <;> omega
  have K1 : mtn p * dgW A ≤ 690 := Nat.le_trans (Nat.mul_le_mul mtn_le.2 hd) (by decide)
  have K0 : mtn 0 * dgW A ≤ 690 := Nat.le_trans (Nat.mul_le_mul mtn_le.2 hd) (by decide)
  have a1 := q_mono hl h40 K1
  have a0 := q_mono hl h40 K0
  have s1 := str_t (p := p) hW (show l ≤ 15000 by omega)
  have s0 := str_t (p := 0) hW (show l ≤ 15000 by omega)
  have s1' := str_t (p := p) hW h15
  have s0' := str_t (p := 0) hW h15
  simp only [Nat.mul_assoc] at s1 s0 s1' s0'
  rcases le20 (A 208).toInt with h | h
  · rw [s1.1 h, s0.1 h, s1'.1 h, s0'.1 h]; omega
  · rw [s1.2 h, s0.2 h, s1'.2 h, s0'.2 h]; omega
/-- a reading, where there is one -/
theorem rdg_t {m l : Int32} (hk : inn (A (8 * t)) 5) (h : sReading A t m l ≠ -1) : 0 ≤ (sShown A t m l).toInt ∧ (sShown A t m l).toInt ≤ (if 3 ≤ A (8 * t) then 2500 else 15000) ∧
    ∃ s : Nat, sStep (A (8 * t)) = Int32.ofNat s ∧ (s = 10 ∨ s = 5 ∨ s = 2 ∨ s = 1) ∧ (3 ≤ A (8 * t) → s = 1) ∧ sReading A t m l = Int32.ofNat (((sShown A t m l).toNatClampNeg + s / 2) / s * s) := by
  unfold sReading at h ⊢
  by_cases h1 : sShown A t m l < 0
  · rw [if_pos h1] at h; exact absurd rfl h
  rw [if_neg h1] at h ⊢
  by_cases h2 : (if 3 ≤ A (8 * t) then 2500 else 15000) < sShown A t m l
  · rw [if_pos h2] at h; exact absurd rfl h
  rw [if_neg h2]
  have g1 := mt Int32.lt_iff_toInt_lt.mpr h1
  have g2 := mt Int32.lt_iff_toInt_lt.mpr h2
  rw [show (0 : Int32).toInt = 0 from rfl] at g1
  have g3 : (sShown A t m l).toInt ≤ (if 3 ≤ A (8 * t) then 2500 else 15000 : Int) := by
    by_cases q : 3 ≤ A (8 * t)
    · rw [if_pos q] at g2 ⊢; rw [show (2500 : Int32).toInt = 2500 from rfl] at g2; omega
    · rw [if_neg q] at g2 ⊢; rw [show (15000 : Int32).toInt = 15000 from rfl] at g2; omega
  have g15 : (sShown A t m l).toInt ≤ 15000 := by
    refine Int.le_trans g3 ?_
    split <;> decide
  refine ⟨by omega, g3, ?_⟩
  have e0 := rn_to (show 0 ≤ (sShown A t m l).toInt by omega)
  have eS : sShown A t m l = Int32.ofNat (sShown A t m l).toNatClampNeg := (of_to (by omega)).symm
  generalize (sShown A t m l).toNatClampNeg = c at *
  have key : ∀ s : Nat, (s = 10 ∨ s = 5 ∨ s = 2 ∨ s = 1) → (sShown A t m l + Int32.ofNat s / 2) / Int32.ofNat s * Int32.ofNat s = Int32.ofNat ((c + s / 2) / s * s) := fun s hs => by
    have hs2 : Int32.ofNat s / 2 = Int32.ofNat (s / 2) := half_n (by omega)
    have hd : (Int32.ofNat (c + s / 2) / Int32.ofNat s : Int32) = Int32.ofNat ((c + s / 2) / s) := by
      apply Int32.toInt_inj.mp
      have : (c + s / 2) / s ≤ c + s / 2 := Nat.div_le_self _ _
      rw [ti_div (by rw [of_ti (by omega)]; omega) (by rw [of_ti (by omega)]; omega), of_ti (by omega), of_ti (by omega), of_ti (by omega)]
      rfl
    rw [eS, hs2, of_add, hd, of_mul]
  rcases inn5 hk with e | e | e | e | e
  · exact ⟨10, by rw [e]; rfl, Or.inl rfl, fun q => absurd q (by rw [e]; decide), by rw [show sStep (A (8 * t)) = Int32.ofNat 10 by rw [e]; rfl]; exact key 10 (Or.inl rfl)⟩
  · exact ⟨5, by rw [e]; rfl, Or.inr (Or.inl rfl), fun q => absurd q (by rw [e]; decide), by rw [show sStep (A (8 * t)) = Int32.ofNat 5 by rw [e]; rfl]; exact key 5 (Or.inr (Or.inl rfl))⟩
  · exact ⟨2, by rw [e]; rfl, Or.inr (Or.inr (Or.inl rfl)), fun q => absurd q (by rw [e]; decide), by rw [show sStep (A (8 * t)) = Int32.ofNat 2 by rw [e]; rfl]; exact key 2 (Or.inr (Or.inr (Or.inl rfl)))⟩
  · exact ⟨1, by rw [e]; rfl, Or.inr (Or.inr (Or.inr rfl)), fun _ => rfl, by rw [show sStep (A (8 * t)) = Int32.ofNat 1 by rw [e]; rfl]; exact key 1 (Or.inr (Or.inr (Or.inr rfl)))⟩
  · exact ⟨1, by rw [e]; rfl, Or.inr (Or.inr (Or.inr rfl)), fun _ => rfl, by rw [show sStep (A (8 * t)) = Int32.ofNat 1 by rw [e]; rfl]; exact key 1 (Or.inr (Or.inr (Or.inr rfl)))⟩
theorem read_mono {l l' : Nat} (hW : WT A) (hX : XT N A t) (hk : inn (A (8 * t)) 5) (hl : l < l') (h40 : l' ≤ l + 40) (h15 : l' ≤ 15000) (h1 : sReading A t p (Int32.ofNat l) ≠ -1) (h2 : sReading A t p (Int32.ofNat l') ≠ -1) : ¬ sReading A t p (Int32.ofNat l') < sReading A t p (Int32.ofNat l) := by
  have hm := shown_mono (p := p) hW hX hl h40 h15
  obtain ⟨a1, a2, s, s1, s2, _, s3⟩ := rdg_t hk h1
  obtain ⟨b1, b2, s', t1, t2, _, t3⟩ := rdg_t hk h2
  have es : s' = s := by
    have e := congrArg Int32.toInt (s1.symm.trans t1)
    rw [of_ti (by omega), of_ti (by omega)] at e
    omega
  subst es
  have u1 : (sShown A t p (Int32.ofNat l)).toInt ≤ 15000 := Int.le_trans a2 (by split <;> decide)
  have u2 : (sShown A t p (Int32.ofNat l')).toInt ≤ 15000 := Int.le_trans b2 (by split <;> decide)
  have c1 := rn_to a1
  have c2 := rn_to b1
  rw [s3, t3, Int32.lt_iff_toInt_lt]
  generalize (sShown A t p (Int32.ofNat l)).toNatClampNeg = c at *
  generalize (sShown A t p (Int32.ofNat l')).toNatClampNeg = c' at *
  have d1 : (c + s' / 2) / s' * s' ≤ c + s' / 2 := Nat.div_mul_le_self _ _
  have d2 : (c' + s' / 2) / s' * s' ≤ c' + s' / 2 := Nat.div_mul_le_self _ _
  rw [of_ti (by omega), of_ti (by omega)]
  have : (c + s' / 2) / s' * s' ≤ (c' + s' / 2) / s' * s' := Nat.mul_le_mul_right _ (Nat.div_le_div_right (by omega))
  omega
/-- the law's look at a tool -/
theorem tool_o (hV : Inv n m v) (hX : XI N (v 462)) (hN : N < 2 ^ 30) (ht : t < ((v 462) 203).toNatClampNeg) : oL_tool 448 (Int32.ofNat t) x v := by
  have h7 := hV.wf.1.1
  have l7 := inn_lt h7
  have hT := isT_k h7 ht
  have tn : (Int32.ofNat t).toNatClampNeg = t := to_of (by omega)
  have hXT := hX.1 t ht
  have hWT : WT (v 462) := hV.2.2.2.2.2.1.2.2.2.2
  have hk := (hV.wf.2.1.1 t ht).1
  unfold oL_tool
  rw [x_kindOf hV hT, x_stepOf hV hT, x_usesOf hV hT, x_wearOf hV hT, x_usesLeft hV hT, x_isDue hV hT, x_knownError hV hT, tn]
  have hm3 : inn (fL_low x 3) 3 := low_n (k := 3) rfl (by decide)
  have hmat : fX11_isMaterial (fL_low x 3) ≠ 0 := by
    show fX11_in _ 0 2 ≠ 0
    rw [in_iff, show (0 : Int32).toInt = 0 from rfl, show (2 : Int32).toInt = 2 from rfl]
    exact ⟨hm3.1, by have := hm3.2; omega⟩
  refine ⟨(t_kindOf hV).1, rfl, (t_stepOf hV).1, rfl, fun y5 e5 => ⟨low_o (by decide), low_o (by decide), ⟨fun _ => low_o (by decide), fun _ => low_o (by decide)⟩, fun y9 e9 => ?_⟩⟩
  have h9 : inn y9 15001 := by
    rw [e9]
    split
    · exact low_n (k := 15001) rfl (by decide)
    · have := low_n (x := x >>> ((5 : Int32) &&& 31)) (q := 2600) (k := 2600) rfl (by decide)
      exact ⟨this.1, by have := this.2; omega⟩
  clear e9
  have hin : ∀ l : Int32, inn l 15001 → fX11_in l 0 15000 ≠ 0 := fun l h => by
    rw [in_iff, show (0 : Int32).toInt = 0 from rfl, show (15000 : Int32).toInt = 15000 from rfl]
    exact ⟨h.1, by have := h.2; omega⟩
  have hg : ∀ l : Int32, inn l 15001 → gRd (v 462) (Int32.ofNat t) (fL_low x 3) l = if sReading (v 462) t (fL_low x 3) l = -1 then (3, 0) else (0, sReading (v 462) t (fL_low x 3) l) := fun l h => by
    unfold gRd
    rw [if_neg hT, if_neg hmat, if_neg (hin l h), tn]
  have hG := hg y9 h9
  have hF := (w_readingFor (p := Int32.ofNat t) (p2 := fL_low x 3) (p3 := y9) hV).2
  have k0 : (0 : Int32).toInt = 0 := rfl
  have kk0 := hk.1
  have kk5 := hk.2
  dsimp only
  refine ⟨(w_readingFor hV).1, fun q => by have := i_lt q; omega, fun q => by have := i_le q; rw [show (5 : Int32).toInt = 5 from rfl] at this; omega, fun y14 e14 => ⟨by rw [e14]; unfold sStep; rfl, (w_readingByLooking hV).1, ?_, (t_usesOf hV).1, rfl, fun q => ?_, (t_wearOf hV).1, rfl, fun q => ?_, fun q => ?_, (t_usesLeft hV).1, rfl, fun q => ?_, fun q => ?_, fun q => ?_, fun q => ?_, fun q => ?_⟩⟩
  · by_cases h0 : (gRd (v 462) (Int32.ofNat t) (fL_low x 3) y9).1 = 0
    · rw [(w_readingByLooking hV).2.2 h0, hF, (gRd_0 h0).2.2.2.2, cw_0]
    · rw [(w_readingByLooking hV).2.1 h0, hF]
  · have := i_lt q
    have := hXT.2.2.2.1.1
    omega
  · have := i_lt q
    have := hXT.2.1.1
    omega
  · have := i_lt q
    rw [show (40 : Int32).toInt = 40 from rfl] at this
    have := hXT.2.1.2
    omega
  · have s0 := hXT.2.2.2.2
    have e : (30 - v 462 (8 * t + 6)).toInt = 30 - (v 462 (8 * t + 6)).toInt := ti_sub (a := 30) (by rw [show (30 : Int32).toInt = 30 from rfl]; omega)
    have := i_lt q
    split at this
    · rename_i g
      have := i_lt g
      omega
    · omega
  · have s0 := hXT.2.2.2.2
    have e : (30 - v 462 (8 * t + 6)).toInt = 30 - (v 462 (8 * t + 6)).toInt := ti_sub (a := 30) (by rw [show (30 : Int32).toInt = 30 from rfl]; omega)
    have := i_lt q
    rw [show (30 : Int32).toInt = 30 from rfl] at this
    split at this
    · omega
    · omega
  · refine ⟨(t_isDue hV).1, rfl, fun z => ?_⟩
    have s0 := hXT.2.2.2.2
    have e : (30 - v 462 (8 * t + 6)).toInt = 30 - (v 462 (8 * t + 6)).toInt := ti_sub (a := 30) (by rw [show (30 : Int32).toInt = 30 from rfl]; omega)
    have g : ¬ 0 < 30 - v 462 (8 * t + 6) := fun g => q (by rw [if_pos g]; exact g)
    have g2 := mt Int32.lt_iff_toInt_lt.mpr g
    have g3 : (30 : Int32) ≤ v 462 (8 * t + 6) := Int32.le_iff_toInt_le.mpr (by rw [show (30 : Int32).toInt = 30 from rfl]; omega)
    unfold sDue at z
    rw [if_pos g3] at z
    exact absurd z (by decide)
  · -- there is no reading
    have h0 : (gRd (v 462) (Int32.ofNat t) (fL_low x 3) y9).1 ≠ 0 := fun h0 => by
      rw [hF, (gRd_0 h0).2.2.2.2, tn, cw_0] at q
      have q2 := q
      rcases rd_or (A := v 462) (t := t) (m := fL_low x 3) (len := y9) with e | e
      · rw [e] at q2; exact absurd q2 (by decide)
      · rw [q2] at e; exact absurd e.1 (by decide)
    rw [hF] at q
    exact ⟨(w_markFor hV).1, ((w_markFor hV).2.1 h0).trans q, (w_lineFor hV).1, ((w_lineFor hV).2.1 h0).trans q, (w_offBy hV).1, ((w_offBy hV).2.1 h0).trans q⟩
  · -- there is one
    have h1 : sReading (v 462) t (fL_low x 3) y9 ≠ -1 := fun e => q (by
      rw [hF, hG, if_pos e, cw_3])
    have h0 : (gRd (v 462) (Int32.ofNat t) (fL_low x 3) y9).1 = 0 := by rw [hG, if_neg h1]
    have eF : fL_readingFor 448 (Int32.ofNat t) (fL_low x 3) y9 v = sReading (v 462) t (fL_low x 3) y9 := by rw [hF, hG, if_neg h1, cw_0]
    rw [eF, x_markFor hV h0, x_lineFor hV h0, x_offBy hV h0, tn]
    obtain ⟨a1, a2, s, s1, s2, s4, s3⟩ := rdg_t hk h1
    have c0 := rn_to a1
    have a15 : (sShown (v 462) t (fL_low x 3) y9).toInt ≤ 15000 := Int.le_trans a2 (by split <;> decide)
    have hrd := (rd_or (A := v 462) (t := t) (m := fL_low x 3) (len := y9)).resolve_left h1
    have y5n : ¬ y5 = 0 := by
      rw [e5]
      split <;> decide
    have e5' : y5 = (if v 462 (8 * t) = 3 then 50 else 100) := e5
    refine ⟨(t_knownError hV).1, rfl, fun z => by have := i_lt z; omega, ⟨(t_kindOf hV).1, by rw [x_kindOf hV hT]⟩, fun z => ?_, fun z => ?_, ?_, (t_markFor hV).1, rfl, y5n, by rw [e5'], (t_lineFor hV).1, rfl, by rw [e5'], (t_offBy hV).1, rfl, fun y49 e49 => ⟨?_, low_o (by decide), fun _ => (w_readingFor hV).1, fun y53 e53 z => ?_⟩⟩
    · -- not beyond the tool's most
      have z := i_lt z
      unfold fL_most at z
      rw [x_kindOf hV hT, tn] at z
      dsimp only at z
      generalize (sShown (v 462) t (fL_low x 3) y9).toNatClampNeg = c at *
      rw [s3, of_ti (by have : (c + s / 2) / s * s ≤ c + s / 2 := Nat.div_mul_le_self _ _; omega)] at z
      have d : (c + s / 2) / s * s ≤ c + s / 2 := Nat.div_mul_le_self _ _
      by_cases g : 3 ≤ v 462 (8 * t)
      · rw [if_pos g] at z a2
        rw [show (2500 : Int32).toInt = 2500 from rfl] at z
        have := s4 g
        subst this
        omega
      · rw [if_neg g] at z a2
        rw [show (15000 : Int32).toInt = 15000 from rfl] at z
        rcases s2 with e | e | e | e <;> subst e <;> omega
    · -- the step is not 0
      rw [s1] at z
      have := congrArg Int32.toInt z
      rw [of_ti (by omega), k0] at this
      omega
    · -- a multiple of the step
      rw [s1, s3]
      generalize (sShown (v 462) t (fL_low x 3) y9).toNatClampNeg = c at *
      have d : (c + s / 2) / s * s ≤ c + s / 2 := Nat.div_mul_le_self _ _
      have hd : (Int32.ofNat ((c + s / 2) / s * s) / Int32.ofNat s : Int32) = Int32.ofNat ((c + s / 2) / s) := by
        apply Int32.toInt_inj.mp
        have : (c + s / 2) / s ≤ c + s / 2 := Nat.div_le_self _ _
        rw [ti_div (by rw [of_ti (by omega)]; omega) (by rw [of_ti (by omega)]; omega), of_ti (by omega), of_ti (by omega), of_ti (by omega)]
        rw [← Int.natCast_ediv, Nat.mul_div_cancel _ (by omega)]
      rw [hd, of_mul]
      exact Int32.sub_self _
    · rw [e49]
      unfold fX11_size
      rfl
    · -- the next length
      intro hlt
      have hlow : inn (fL_low (x >>> ((7 : Int32) &&& 31)) 40) 40 := low_n (k := 40) rfl (by decide)
      have y9e := rn_to h9.1
      have le := rn_to hlow.1
      have h92 := h9.2
      have hl2 := hlow.2
      have en : y9 + (1 : Int32) + fL_low (x >>> ((7 : Int32) &&& 31)) 40 = Int32.ofNat (y9.toNatClampNeg + 1 + (fL_low (x >>> ((7 : Int32) &&& 31)) 40).toNatClampNeg) := by
        rw [← of_add, ← of_add, of_to h9.1, of_to hlow.1]
        rfl
      rw [en] at e53
      have ey : y9 = Int32.ofNat y9.toNatClampNeg := (of_to h9.1).symm
      generalize (fL_low (x >>> ((7 : Int32) &&& 31)) 40).toNatClampNeg = d at *
      generalize y9.toNatClampNeg = c at *
      have hle := ofle (k := c + 1 + d) (n := 15000) (by omega) (by omega)
      rw [show Int32.ofNat 15000 = (15000 : Int32) from rfl] at hle
      by_cases g : c + 1 + d ≤ 15000
      · rw [if_pos (hle.mpr g)] at e53
        have i' : inn (Int32.ofNat (c + 1 + d)) 15001 := inn_of (by omega) (by decide)
        have eF' := (w_readingFor (p := Int32.ofNat t) (p2 := fL_low x 3) (p3 := Int32.ofNat (c + 1 + d)) hV).2
        rw [eF', hg _ i'] at e53
        by_cases h2 : sReading (v 462) t (fL_low x 3) (Int32.ofNat (c + 1 + d)) = -1
        · rw [if_pos h2] at e53
          exact z (e53.trans cw_3)
        · rw [if_neg h2] at e53
          have e53 : y53 = sReading (v 462) t (fL_low x 3) (Int32.ofNat (c + 1 + d)) := e53.trans cw_0
          rw [e53] at hlt
          rw [ey] at hlt h1
          exact read_mono hWT hXT hk (by omega) (by omega) g h1 h2 hlt
      · rw [if_neg (mt hle.mp g)] at e53
        exact z e53
end T53
