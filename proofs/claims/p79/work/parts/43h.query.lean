/-! THE PLAIN PART 14h: the reading by looking at which line is nearest. -/
section T43h
variable {n m : Nat} {v w : vSt} {A : Ar} {z k p p2 p3 y : Int32} {s L D x r : Nat}
def KD (k : Int32) (s L D : Nat) : Prop := (k = 0 ∧ s = 10 ∧ L = 10 ∧ D = 100) ∨ (k = 1 ∧ s = 5 ∧ L = 20 ∧ D = 100) ∨ (k = 2 ∧ s = 2 ∧ L = 50 ∧ D = 100) ∨ (k = 3 ∧ s = 1 ∧ L = 50 ∧ D = 50) ∨ (k = 4 ∧ s = 1 ∧ L = 100 ∧ D = 100)
theorem kd_all (h : inn k 5) : ∃ s L D, KD k s L D := by
  rcases inn5 h with e | e | e | e | e
  · exact ⟨10, 10, 100, Or.inl ⟨e, rfl, rfl, rfl⟩⟩
  · exact ⟨5, 20, 100, Or.inr (Or.inl ⟨e, rfl, rfl, rfl⟩)⟩
  · exact ⟨2, 50, 100, Or.inr (Or.inr (Or.inl ⟨e, rfl, rfl, rfl⟩))⟩
  · exact ⟨1, 50, 50, Or.inr (Or.inr (Or.inr (Or.inl ⟨e, rfl, rfl, rfl⟩)))⟩
  · exact ⟨1, 100, 100, Or.inr (Or.inr (Or.inr (Or.inr ⟨e, rfl, rfl, rfl⟩)))⟩
theorem KD.at (h : KD k s L D) : fX10_entry 5 tbL k = Int32.ofNat L ∧ fX10_entry 5 tbM k = Int32.ofNat D ∧ sStep k = Int32.ofNat s := by
  rcases h with ⟨e1, e2, e3, e4⟩ | ⟨e1, e2, e3, e4⟩ | ⟨e1, e2, e3, e4⟩ | ⟨e1, e2, e3, e4⟩ | ⟨e1, e2, e3, e4⟩ <;> rw [e1, e2, e3, e4] <;> exact ⟨by decide, by decide, by decide⟩
theorem KD.nn (h : KD k s L D) : s * L = D ∧ 1 ≤ s ∧ s ≤ 10 ∧ 1 ≤ L ∧ L ≤ 100 ∧ 50 ≤ D ∧ D ≤ 100 := by
  rcases h with ⟨e1, e2, e3, e4⟩ | ⟨e1, e2, e3, e4⟩ | ⟨e1, e2, e3, e4⟩ | ⟨e1, e2, e3, e4⟩ | ⟨e1, e2, e3, e4⟩ <;> rw [e2, e3, e4] <;> decide
/-- the nearest multiple, of two as near the greater -/
def nR (s x : Nat) : Nat := (x + s / 2) / s * s
theorem of_mul {a b : Nat} : Int32.ofNat a * Int32.ofNat b = Int32.ofNat (a * b) := (Int32.ofNat_mul a b).symm
theorem of_add {a b : Nat} : Int32.ofNat a + Int32.ofNat b = Int32.ofNat (a + b) := (Int32.ofNat_add a b).symm
theorem ab_t {a x : Nat} (ha : a < 2 ^ 30) (hx : x < 2 ^ 30) : (if 0 ≤ Int32.ofNat a - Int32.ofNat x then Int32.ofNat a - Int32.ofNat x else 0 - (Int32.ofNat a - Int32.ofNat x) : Int32).toInt = if x ≤ a then (a : Int) - x else (x : Int) - a := by
  have e : (Int32.ofNat a - Int32.ofNat x).toInt = (a : Int) - x := by rw [ti_sub (by rw [of_ti (by omega), of_ti (by omega)]; omega), of_ti (by omega), of_ti (by omega)]
  by_cases h : x ≤ a
  · rw [if_pos h, if_pos (by rw [Int32.le_iff_toInt_le, e, show Int32.toInt 0 = 0 from rfl]; omega), e]
  · rw [if_neg h, if_neg (by rw [Int32.le_iff_toInt_le, e, show Int32.toInt 0 = 0 from rfl]; omega), ti_sub (by rw [e, show Int32.toInt 0 = 0 from rfl]; omega), e, show Int32.toInt 0 = 0 from rfl]
    omega
/-- one line is looked at -/
theorem nl_1 (h : KD k s L D) {j J c : Nat} (hx : x ≤ 15000) (hJ : J = j ∨ J = j + 1) (hj : s * J ≤ 100000) (hc : c = min (nR s x) (s * j)) :
    (if (if 0 ≤ Int32.ofNat c - Int32.ofNat x then Int32.ofNat c - Int32.ofNat x else 0 - (Int32.ofNat c - Int32.ofNat x) : Int32) < (if 0 ≤ Int32.ofNat (s * J) - Int32.ofNat x then Int32.ofNat (s * J) - Int32.ofNat x else 0 - (Int32.ofNat (s * J) - Int32.ofNat x) : Int32) then Int32.ofNat c else Int32.ofNat (s * J) : Int32) = Int32.ofNat (min (nR s x) (s * J)) := by
  have hb : s * j ≤ s * J := Nat.mul_le_mul_left _ (by omega)
  have hR : nR s x ≤ x + s / 2 := Nat.div_mul_le_self _ _
  have h10 := h.nn
  have hcb : c < 2 ^ 30 := by omega
  have key : (if x ≤ c then (c : Int) - x else (x : Int) - c) < (if x ≤ s * J then ((s * J : Nat) : Int) - x else (x : Int) - (s * J : Nat)) ↔ nR s x < s * J := by
    unfold nR at hc ⊢
    rcases h with ⟨e1, e2, e3, e4⟩ | ⟨e1, e2, e3, e4⟩ | ⟨e1, e2, e3, e4⟩ | ⟨e1, e2, e3, e4⟩ | ⟨e1, e2, e3, e4⟩ <;> rw [e2] at hc hb ⊢ <;> (split <;> split <;> omega)
  rw [← ab_t hcb (show x < 2 ^ 30 by omega), ← ab_t (show s * J < 2 ^ 30 by omega) (show x < 2 ^ 30 by omega), ← Int32.lt_iff_toInt_lt] at key
  by_cases q : nR s x < s * J
  · rw [if_pos (key.mpr q), Nat.min_eq_left (by omega)]
    congr 1
    rw [hc]
    unfold nR at q ⊢
    rcases h with ⟨e1, e2, e3, e4⟩ | ⟨e1, e2, e3, e4⟩ | ⟨e1, e2, e3, e4⟩ | ⟨e1, e2, e3, e4⟩ | ⟨e1, e2, e3, e4⟩ <;> rw [e2] at q ⊢ <;> omega
  · rw [if_neg (mt key.mp q), Nat.min_eq_right (by omega)]
theorem nl_in (h : KD k s L D) (h0 : v r 0 = k) (h1 : v r 1 = Int32.ofNat s) (hx : x ≤ 15000) {mk : Nat} (hm : mk ≤ 400) : ∀ fl l j, l ≤ L → L < fl + l → (mk * L + l = j ∨ mk * L + l = j + 1) → (l = L → mk * L + l = j + 1) →
    olX8_nearestLine_51 v r (Int32.ofNat x) (Int32.ofNat mk) fl (Int32.ofNat l) (Int32.ofNat (min (nR s x) (s * j))) ∧
    lX8_nearestLine_51 v r (Int32.ofNat x) (Int32.ofNat mk) fl (Int32.ofNat l) (Int32.ofNat (min (nR s x) (s * j))) = Int32.ofNat (min (nR s x) (s * (mk * L + L - 1))) := by
  obtain ⟨k1, k2, k3⟩ := h.at
  obtain ⟨n1, n2, n3, n4, n5, n6, n7⟩ := h.nn
  intro fl
  induction fl with
  | zero => intro l j h1 h2; omega
  | succ fl ih =>
    intro l j a1 a2 a3 a4
    unfold lX8_nearestLine_51 olX8_nearestLine_51
    rw [h0, k1, k2, h1]
    have e1 := ofle (k := L) (n := l) (by omega) (by omega)
    by_cases hl : L ≤ l
    · rw [if_pos (e1.mpr hl)]
      have := a4 (by omega)
      exact ⟨fun q => absurd (e1.mpr hl) q, by rw [show mk * L + L - 1 = j by omega]⟩
    have hv : mk * D + l * s = s * (mk * L + l) := by
      rw [← n1, Nat.mul_add, Nat.mul_comm l s, ← Nat.mul_assoc, ← Nat.mul_assoc, Nat.mul_comm mk s]
    have hbd : s * (mk * L + l) ≤ 100000 := by
      rw [← hv]
      have b1 : mk * D ≤ 400 * 100 := Nat.mul_le_mul hm n7
      have b2 : l * s ≤ 100 * 10 := Nat.mul_le_mul (by omega) n3
      omega
    rw [if_neg (mt e1.mp hl), of_mul, of_mul, of_add, hv, of_S (by omega), nl_1 h hx a3 hbd rfl]
    have rr := ih (l + 1) (mk * L + l) (by omega) (by omega) (Or.inr (by omega)) (fun _ => by omega)
    dsimp only
    exact ⟨fun _ y7 e7 => by rw [e7]; exact rr.1, rr.2⟩
theorem nl_t (h : KD k s L D) (h0 : v r 0 = k) (h1 : v r 1 = Int32.ofNat s) (hx : x ≤ 15000) : oX8_nearestLine r (Int32.ofNat x) v ∧ fX8_nearestLine r (Int32.ofNat x) v = Int32.ofNat (nR s x) := by
  obtain ⟨k1, k2, k3⟩ := h.at
  obtain ⟨n1, n2, n3, n4, n5, n6, n7⟩ := h.nn
  have hmk : fX8_markAt r (Int32.ofNat x) v = Int32.ofNat (x / D) := by
    unfold fX8_markAt
    rw [h0, k2, if_pos (by rw [Int32.lt_iff_toInt_lt, of_ti (by omega), show Int32.toInt 0 = 0 from rfl]; omega)]
    apply Int32.toInt_inj.mp
    have : x / D ≤ x := Nat.div_le_self _ _
    rw [ti_div (by rw [of_ti (by omega)]; omega) (by rw [of_ti (by omega)]; omega), of_ti (by omega), of_ti (by omega), of_ti (by omega)]
    rfl
  have hxD : x / D ≤ 300 := by
    have : x / D ≤ 15000 / 50 := Nat.div_le_div hx n6 (by decide)
    omega
  unfold fX8_nearestLine oX8_nearestLine
  rw [hmk, h0, k2, of_mul]
  have hs : x / D * D = s * (x / D * L) := by
    generalize x / D = q
    rw [← n1, Nat.mul_left_comm]
  have hR0 : min (nR s x) (s * (x / D * L)) = s * (x / D * L) := by
    rw [← hs]
    refine Nat.min_eq_right ?_
    unfold nR
    rcases h with ⟨e1, e2, e3, e4⟩ | ⟨e1, e2, e3, e4⟩ | ⟨e1, e2, e3, e4⟩ | ⟨e1, e2, e3, e4⟩ | ⟨e1, e2, e3, e4⟩ <;> rw [e2, e4] <;> omega
  have hRn : min (nR s x) (s * ((x / D + 1) * L + L - 1)) = nR s x := by
    refine Nat.min_eq_left ?_
    unfold nR
    rcases h with ⟨e1, e2, e3, e4⟩ | ⟨e1, e2, e3, e4⟩ | ⟨e1, e2, e3, e4⟩ | ⟨e1, e2, e3, e4⟩ | ⟨e1, e2, e3, e4⟩ <;> rw [e2, e3, e4] <;> omega
  have r1 := nl_in h h0 h1 hx (mk := x / D) (by omega) ((Int32.toInt (Int32.ofNat L) - Int32.toInt 0).toNat + 1) 0 (x / D * L) (by omega) (by rw [of_ti (by omega), show Int32.toInt 0 = 0 from rfl]; omega) (Or.inl rfl) (fun e => by omega)
  have r2 := nl_in h h0 h1 hx (mk := x / D + 1) (by omega) ((Int32.toInt (Int32.ofNat L) - Int32.toInt 0).toNat + 1) 0 (x / D * L + L - 1) (by omega) (by rw [of_ti (by omega), show Int32.toInt 0 = 0 from rfl]; omega) (Or.inr (by rw [Nat.add_mul]; omega)) (fun e => by omega)
  rw [hR0, ← hs] at r1
  rw [hRn] at r2
  rw [show Int32.ofNat 0 = (0 : Int32) from rfl] at r1 r2
  have c1 := oflt (k := x / D + 1) (n := x / D) (by omega) (by omega)
  have c2 := oflt (k := x / D + 1) (n := x / D + 1) (by omega) (by omega)
  have c3 := oflt (k := x / D + 1) (n := x / D + 1 + 1) (by omega) (by omega)
  unfold lX8_nearestLine_39 olX8_nearestLine_39
  rw [hmk, h0, k1, of_S (by omega), if_neg (mt c1.mp (by omega)), r1.2]
  dsimp only
  unfold lX8_nearestLine_39 olX8_nearestLine_39
  rw [hmk, h0, k1, of_S (show x / D + 1 < 2 ^ 31 by omega), if_neg (mt c2.mp (by omega)), r2.2]
  dsimp only
  unfold lX8_nearestLine_39 olX8_nearestLine_39
  rw [hmk, h0, k1, of_S (show x / D + 1 < 2 ^ 31 by omega), of_S (show x / D + 1 + 1 < 2 ^ 31 by omega), if_pos (c3.mpr (by omega))]
  exact ⟨fun _ => ⟨r1.1, fun y6 e6 => fun _ => ⟨by rw [e6]; exact r2.1, fun y6' e6' => fun q => absurd (c3.mpr (by omega)) q⟩⟩, rfl⟩
theorem t_readingByLooking (hI : Inv n m v) : oX10_readingByLooking 448 p p2 p3 v ∧ oX11_readingByLooking 461 p p2 p3 v ∧ OQ v (fX10_readingByLooking 448 p p2 p3 v).1 (fX10_readingByLooking 448 p p2 p3 v).2 (fX11_readingByLooking 461 p p2 p3 v) (cc3 (fX10_readingByLooking 448 p p2 p3 v).1) := by
  unfold oX10_readingByLooking oX11_readingByLooking fX10_readingByLooking fX11_readingByLooking
  have ho := rdg_o10 (p := p) (p2 := p2) (p3 := p3) hI
  have ho1 := rdg_o11 (p := p) (p2 := p2) (p3 := p3) hI
  rcases rdg (p := p) (p2 := p2) (p3 := p3) hI with ⟨e1, e2⟩ | ⟨e1, e2⟩ | ⟨h1, e1, e2⟩
  · rw [e1, e2, if_neg (show ¬ (1 : Nat) = 0 by decide)]
    exact ⟨⟨ho, fun q => absurd (show (1 : Nat) = 0 from q) (by decide)⟩, ho1, qs_u2, fun q => absurd (show (1 : Nat) = 0 from q) (by decide)⟩
  · rw [e1, e2, if_neg (show ¬ (3 : Nat) = 0 by decide)]
    exact ⟨⟨ho, fun q => absurd (show (3 : Nat) = 0 from q) (by decide)⟩, ho1, qs_uu, fun q => absurd (show (3 : Nat) = 0 from q) (by decide)⟩
  have hTo := needT_o (p := p) hI
  rw [e1, e2, if_pos rfl]
  rw [needT hI, if_neg h1] at hTo ⊢
  dsimp only at hTo ⊢
  rw [if_pos rfl]
  have hT := hI.sr.tool hI.wf h1
  have e0 : v ((((rN (v 448 0)) + 1 + 2) + 13 + p.toNatClampNeg)) 0 = v 462 (8 * p.toNatClampNeg) := hT.1.1
  have e1' : v ((((rN (v 448 0)) + 1 + 2) + 13 + p.toNatClampNeg)) 1 = sStep (v 462 (8 * p.toNatClampNeg)) := hT.1.2.1
  obtain ⟨s, L, D, hK⟩ := kd_all hT.2.1
  -- what the asking tells
  have hne : fX11_isMaterial p2 ≠ 0 ∧ sReading (v 462) p.toNatClampNeg p2 p3 ≠ -1 := by
    have e := congrArg Prod.fst e1
    unfold fX10_needReading fX2_refusalToMeasure at e
    rw [c_hasTool hI.sr.1.1 hI.wf.1.1, mat_eq, in_rng, if_neg h1] at e
    by_cases h2 : fX11_isMaterial p2 = 0
    · rw [if_pos h2, if_pos rfl] at e; exact absurd e (show ¬ (1 : Nat) = 0 by decide)
    rw [if_neg h2] at e
    by_cases h3 : fX11_in p3 0 15000 = 0
    · rw [if_pos h3, if_pos rfl] at e; exact absurd e (show ¬ (1 : Nat) = 0 by decide)
    have er : fX2_reading (rN (v 448 0) + 1) ((((rN (v 448 0)) + 1 + 2) + 13 + p.toNatClampNeg)) p2 p3 v = sReading (v 462) p.toNatClampNeg p2 p3 := c_reading hI.sr.1.2.2.1 (mat_in h2) hT.2.1 hT.1
    rw [if_neg h3, er] at e
    refine ⟨h2, fun h4 => ?_⟩
    rw [if_pos h4, if_neg (show ¬ (2 : Int32) = 1 by decide), if_pos rfl] at e
    exact absurd e (show ¬ (3 : Nat) = 0 by decide)
  have hsh : fX2_shown (rN (v 448 0) + 1) ((((rN (v 448 0)) + 1 + 2) + 13 + p.toNatClampNeg)) p2 p3 v = sShown (v 462) p.toNatClampNeg p2 p3 := c_shown hI.sr.1.2.2.1 (mat_in hne.1) hT.1
  rw [hsh]
  have hr := hne.2
  unfold sReading at hr ⊢
  by_cases g1 : sShown (v 462) p.toNatClampNeg p2 p3 < 0
  · rw [if_pos g1] at hr; exact absurd rfl hr
  rw [if_neg g1] at hr ⊢
  by_cases g2 : (if 3 ≤ v 462 (8 * p.toNatClampNeg) then 2500 else 15000) < sShown (v 462) p.toNatClampNeg p2 p3
  · rw [if_pos g2] at hr; exact absurd rfl hr
  rw [if_neg g2]
  have hx : 0 ≤ (sShown (v 462) p.toNatClampNeg p2 p3).toInt ∧ (sShown (v 462) p.toNatClampNeg p2 p3).toInt ≤ 15000 := by
    rw [Int32.lt_iff_toInt_lt, show Int32.toInt 0 = 0 from rfl] at g1
    rw [Int32.lt_iff_toInt_lt] at g2
    refine ⟨by omega, ?_⟩
    by_cases q : 3 ≤ v 462 (8 * p.toNatClampNeg)
    · rw [if_pos q, show Int32.toInt 2500 = 2500 from rfl] at g2; omega
    · rw [if_neg q, show Int32.toInt 15000 = 15000 from rfl] at g2; omega
  generalize sShown (v 462) p.toNatClampNeg p2 p3 = X at *
  have hX := rn_to hx.1
  have eX : X = Int32.ofNat X.toNatClampNeg := (of_to hx.1).symm
  generalize X.toNatClampNeg = x at *
  obtain ⟨n1, n2, n3, n4, n5, n6, n7⟩ := hK.nn
  have NL := nl_t (x := x) hK e0 (by rw [e1']; exact hK.at.2.2) (by omega)
  rw [eX]
  refine ⟨⟨ho, fun _ => ⟨hTo.1, fun _ => ⟨hTo.2 rfl, hI.1.1.1, NL.1⟩⟩⟩, ho1, qs_u2, fun _ => ?_⟩
  dsimp only
  rw [NL.2, hK.at.2.2]
  apply Int32.toInt_inj.mp
  have b0 : nR s x ≤ x + s / 2 := Nat.div_mul_le_self _ _
  have d1 : (Int32.ofNat s / 2).toInt = ((s / 2 : Nat) : Int) := by rw [ti_div (by rw [of_ti (by omega)]; omega) (by decide), of_ti (by omega)]; rfl
  have d2 : (Int32.ofNat x + Int32.ofNat s / 2).toInt = ((x + s / 2 : Nat) : Int) := by rw [ti_add (by rw [of_ti (by omega), d1]; omega), of_ti (by omega), d1]; omega
  have d3 : ((Int32.ofNat x + Int32.ofNat s / 2) / Int32.ofNat s).toInt = (((x + s / 2) / s : Nat) : Int) := by rw [ti_div (by rw [d2]; omega) (by rw [of_ti (by omega)]; omega), d2, of_ti (by omega)]; rfl
  have d4 : (((x + s / 2) / s : Nat) : Int) * (s : Int) = ((nR s x : Nat) : Int) := by unfold nR; push_cast; rfl
  rw [ti_mul (by rw [d3, of_ti (by omega), d4]; omega), d3, of_ti (by omega), of_ti (by omega), d4]
end T43h
