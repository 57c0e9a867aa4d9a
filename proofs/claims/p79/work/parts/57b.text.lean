/-! P79, PLAIN 11b: a letter and a number are typed. -/
section T57b
variable {T A A0 : Ar} {len b pos k n m N f d d' s s' t t' : Nat} {a c p q y : Int32} {u v w W : vSt}
/-- but for the text nothing has changed -/
def KE (v w : vSt) : Prop := w 462 = v 462 ∧ w 464 = v 464 ∧ w 465 = v 465 ∧ ∀ f, f ≠ 7 → f ≠ 8 → w 461 f = v 461 f
/-- so many letters have been typed, so many signs, so many dots -/
def TTy (n : Nat) (v w : vSt) (d s t : Nat) : Prop :=
  pot w = pot v ∧ (∃ m', Inv n m' w) ∧ KE v w ∧ TL w = TL v + d ∧ cC 59 (w 466) (TL w) = cC 59 (v 466) (TL v) + s ∧ cC 46 (w 466) (TL w) = cC 46 (v 466) (TL v) + t
theorem TTy.rf (hI : Inv n m v) : TTy n v v 0 0 0 := ⟨rfl, ⟨m, hI⟩, ⟨rfl, rfl, rfl, fun _ _ _ => rfl⟩, rfl, rfl, rfl⟩
theorem TTy.tr (h : TTy n v w d s t) (h' : TTy n w W d' s' t') : TTy n v W (d + d') (s + s') (t + t') := by
  obtain ⟨a1, a2, ⟨a3, a4, a5, a6⟩, a7, a8, a9⟩ := h
  obtain ⟨b1, b2, ⟨b3, b4, b5, b6⟩, b7, b8, b9⟩ := h'
  exact ⟨b1.trans a1, b2, ⟨b3.trans a3, b4.trans a4, b5.trans a5, fun f h1 h2 => (b6 f h1 h2).trans (a6 f h1 h2)⟩, by omega, by omega, by omega⟩
theorem ty_lo : ∀ q, q < 461 → (fX11_type 461 p u).2 q = u q := fun q hq => by
  unfold fX11_type
  dsimp only
  split
  · show u2 (u2 u 461 8 0) 461 8 1 q = u q
    rw [u2_r (by omega), u2_r (by omega)]
  · split
    · show u2 (u2 u 461 8 0) 461 8 2 q = u q
      rw [u2_r (by omega), u2_r (by omega)]
    · show u2 (u2 (u2 u 461 8 0) 466 _ p) 461 7 _ q = u q
      rw [u2_r (by omega), u2_r (by omega), u2_r (by omega)]
/-- one letter is typed -/
theorem ty_s (hI : Inv n m v) (hn : 60 ≤ n) (hp : 32 ≤ p.toInt ∧ p.toInt ≤ 126) (hl : TL v < 60) : oX10_type 448 p v ∧ (fX10_type 448 p v).1 = 0 ∧ (¬ (fX10_type 448 p v).2.1 ≤ 0) ∧
    TTy n v (gM (fX10_type 448 p v).2.2 (fX11_type 461 p (fX10_type 448 p v).2.2).2) 1 (if p = 59 then 1 else 0) (if p = 46 then 1 else 0) := by
  obtain ⟨o1, o2, h⟩ := t_type (p1 := p) hI
  obtain ⟨t1, t2, t3⟩ := tl_of hI
  have hc : (fX10_type 448 p v).1 = 0 := by
    have h1 : ¬ fX10_inRange p 32 126 = 0 := by
      rw [in_rng]
      exact in_iff.mpr ⟨by rw [show (32 : Int32).toInt = 32 from rfl]; exact hp.1, by rw [show (126 : Int32).toInt = 126 from rfl]; exact hp.2⟩
    have h2 : v 448 6 < 60 := by rw [t1, Int32.lt_iff_toInt_lt, of_ti (by omega), show (60 : Int32).toInt = 60 from rfl]; omega
    unfold fX10_type
    rw [if_neg h1, if_pos h2]
  obtain ⟨e1, e2, e3, e4, e5, e6, e7⟩ := h hc hn
  have hg : gM (fX10_type 448 p v).2.2 (fX11_type 461 p (fX10_type 448 p v).2.2).2 = (fX11_type 461 p (fX10_type 448 p v).2.2).2 := gM_id ty_lo
  have hT : TL (fX11_type 461 p (fX10_type 448 p v).2.2).2 = TL v + 1 := by
    unfold TL
    rw [e6, t2, of_S (by omega), to_of (by omega), to_of (by omega)]
  have hlen : (v 461 7).toNatClampNeg = TL v := rfl
  rw [hlen] at e7
  have hC : ∀ c, cC c ((fX11_type 461 p (fX10_type 448 p v).2.2).2 466) (TL v + 1) = cC c (v 466) (TL v) + (if p = c then 1 else 0) := fun c => by
    show cC c _ (TL v) + (if (fX11_type 461 p (fX10_type 448 p v).2.2).2 466 (TL v) = c then 1 else 0) = _
    rw [e7, if_pos rfl, cC_cg (fun j hj => by rw [e7, if_neg (by omega)])]
  have hpot : pot (gM (fX10_type 448 p v).2.2 (fX11_type 461 p (fX10_type 448 p v).2.2).2) = pot v := by rw [pot_gM]; exact e2
  rw [hg] at hpot ⊢
  refine ⟨o1, hc, fun q => ?_, hpot, e3, ⟨e4 _ (by decide) (by decide) (by decide) (by decide), e4 _ (by decide) (by decide) (by decide) (by decide), e4 _ (by decide) (by decide) (by decide) (by decide), e5⟩, hT, by rw [hT]; exact hC 59, by rw [hT]; exact hC 46⟩
  rw [e1, t2, of_S (by omega)] at q
  have := i_le q
  rw [of_ti (by omega), show (0 : Int32).toInt = 0 from rfl] at this
  omega
theorem TTy.i (h : TTy n v w d s t) : ∃ m', Inv n m' w := h.2.1
/-- one stage of a number: a digit, or none -/
theorem stg {P : Prop} [Decidable P] (hI : Inv n m v) (hn : 60 ≤ n) (hp : 48 ≤ p.toInt ∧ p.toInt ≤ 57) (hl : ¬ P → TL v < 60) :
    (¬ P → (oX10_type 448 p v ∧ ((fX10_type 448 p v).1 = 0 ∧ (∀ v5 : vSt, v5 = (fX10_type 448 p v).2.2 → (∀ v6 : vSt, v6 = gM v5 (fX11_type 461 p v5).2 → (¬ ((fX10_type 448 p v).2.1 : Int32) ≤ 0)))))) ∧
    TTy n v (if P then v else (let v5 : vSt := (fX10_type 448 p v).2.2; let v6 : vSt := gM v5 (fX11_type 461 p v5).2; v6)) (if P then 0 else 1) 0 0 := by
  by_cases h : P
  · rw [if_pos h, if_pos h]
    exact ⟨fun q => absurd h q, TTy.rf hI⟩
  · rw [if_neg h, if_neg h]
    obtain ⟨a1, a2, a3, a4⟩ := ty_s (p := p) hI hn (by omega) (hl h)
    have n1 : ¬ p = 59 := fun e => by rw [e] at hp; exact absurd hp.2 (by decide)
    have n2 : ¬ p = 46 := fun e => by rw [e] at hp; exact absurd hp.1 (by decide)
    rw [if_neg n1, if_neg n2] at a4
    exact ⟨fun _ => ⟨a1, a2, fun _ _ _ _ => a3⟩, a4⟩
theorem dv_n {a b : Nat} (ha : a < 2 ^ 30) (hb : b < 2 ^ 30) (h0 : 0 < b) : Int32.ofNat a / Int32.ofNat b = Int32.ofNat (a / b) := by
  have := Nat.div_le_self a b
  apply Int32.toInt_inj.mp
  rw [ti_div (by rw [of_ti (by omega)]; omega) (by rw [of_ti (by omega)]; omega), of_ti (by omega), of_ti (by omega), of_ti (by omega)]
  rfl
theorem md_n {a : Nat} (ha : a < 2 ^ 20) : (48 : Int32) + (Int32.ofNat a - Int32.ofNat a / 10 * 10) = Int32.ofNat (48 + a % 10) := by
  have h1 := dv_n (a := a) (b := 10) (by omega) (by decide) (by decide)
  rw [show Int32.ofNat 10 = (10 : Int32) from rfl] at h1
  have e1 : (Int32.ofNat (a / 10) * 10).toInt = (a / 10 * 10 : Nat) := by
    rw [show (10 : Int32) = Int32.ofNat 10 from rfl, of_mul, of_ti (by omega)]
  apply Int32.toInt_inj.mp
  have e2 : (Int32.ofNat a - Int32.ofNat (a / 10) * 10).toInt = (a % 10 : Nat) := by
    rw [ti_sub (by rw [e1, of_ti (by omega)]; omega), e1, of_ti (by omega)]
    omega
  rw [h1, ti_add (by rw [e2, show (48 : Int32).toInt = 48 from rfl]; omega), e2, of_ti (by omega), show (48 : Int32).toInt = 48 from rfl]
  omega
theorem lt_n {a b : Nat} (ha : a < 2 ^ 30) (hb : b < 2 ^ 30) : (Int32.ofNat a < Int32.ofNat b) ↔ a < b := oflt (by omega) (by omega)
def nd (a : Nat) : Nat := (if a < 10000 then 0 else 1) + (if a < 1000 then 0 else 1) + (if a < 100 then 0 else 1) + (if a < 10 then 0 else 1) + 1
/-- a number is typed -/
theorem nu_s (hI : Inv n m v) (hn : 60 ≤ n) {a : Nat} (ha : a < 100000) (hl : TL v + nd a ≤ 60) : oL_number 448 (Int32.ofNat a) v ∧ TTy n v (fL_number 448 (Int32.ofNat a) v) (nd a) 0 0 := by
  have hd := fun (q : Nat) (hq : q < 100000) => md_n (a := q) (by omega)
  have d4 := dv_n (a := a) (b := 10000) (by omega) (by decide) (by decide)
  have d3 := dv_n (a := a) (b := 1000) (by omega) (by decide) (by decide)
  have d2 := dv_n (a := a) (b := 100) (by omega) (by decide) (by decide)
  have d1 := dv_n (a := a) (b := 10) (by omega) (by decide) (by decide)
  rw [show Int32.ofNat 10000 = (10000 : Int32) from rfl] at d4
  rw [show Int32.ofNat 1000 = (1000 : Int32) from rfl] at d3
  rw [show Int32.ofNat 100 = (100 : Int32) from rfl] at d2
  rw [show Int32.ofNat 10 = (10 : Int32) from rfl] at d1
  have p4 : (48 : Int32) + Int32.ofNat (a / 10000) = Int32.ofNat (48 + a / 10000) := by rw [show (48 : Int32) = Int32.ofNat 48 from rfl, of_add]
  have p3 := hd (a / 1000) (by omega)
  have p2 := hd (a / 100) (by omega)
  have p1 := hd (a / 10) (by omega)
  have p0 := hd a (by omega)
  have q4 : (48 : Int32) + Int32.ofNat a / 10000 = Int32.ofNat (48 + a / 10000) := by rw [d4]; exact p4
  have q3 : (48 : Int32) + (Int32.ofNat a / 1000 - Int32.ofNat a / 1000 / 10 * 10) = Int32.ofNat (48 + a / 1000 % 10) := by rw [d3]; exact p3
  have q2 : (48 : Int32) + (Int32.ofNat a / 100 - Int32.ofNat a / 100 / 10 * 10) = Int32.ofNat (48 + a / 100 % 10) := by rw [d2]; exact p2
  have q1 : (48 : Int32) + (Int32.ofNat a / 10 - Int32.ofNat a / 10 / 10 * 10) = Int32.ofNat (48 + a / 10 % 10) := by rw [d1]; exact p1
  have r : ∀ q : Nat, q < 10 → 48 ≤ (Int32.ofNat (48 + q)).toInt ∧ (Int32.ofNat (48 + q)).toInt ≤ 57 := fun q hq => by rw [of_ti (by omega)]; omega
  have c4 := lt_n (a := a) (b := 10000) (by omega) (by decide)
  have c3 := lt_n (a := a) (b := 1000) (by omega) (by decide)
  have c2 := lt_n (a := a) (b := 100) (by omega) (by decide)
  have c1 := lt_n (a := a) (b := 10) (by omega) (by decide)
  rw [show Int32.ofNat 10000 = (10000 : Int32) from rfl] at c4
  rw [show Int32.ofNat 1000 = (1000 : Int32) from rfl] at c3
  rw [show Int32.ofNat 100 = (100 : Int32) from rfl] at c2
  rw [show Int32.ofNat 10 = (10 : Int32) from rfl] at c1
  have e4 : (if Int32.ofNat a < 10000 then 0 else 1 : Nat) = if a < 10000 then 0 else 1 := by simp only [c4]
  have e3 : (if Int32.ofNat a < 1000 then 0 else 1 : Nat) = if a < 1000 then 0 else 1 := by simp only [c3]
  have e2 : (if Int32.ofNat a < 100 then 0 else 1 : Nat) = if a < 100 then 0 else 1 := by simp only [c2]
  have e1 : (if Int32.ofNat a < 10 then 0 else 1 : Nat) = if a < 10 then 0 else 1 := by simp only [c1]
  unfold nd at hl
  unfold oL_number fL_number
  rw [q4, q3, q2, q1, p0]
  -- stage by stage
  have S4 := stg (P := Int32.ofNat a < 10000) (p := Int32.ofNat (48 + a / 10000)) hI hn (r _ (by omega)) (fun g => by have := mt c4.mpr g; rw [if_neg this] at hl; omega)
  rw [e4] at S4
  generalize hv4 : (if Int32.ofNat a < 10000 then v else (let v5 : vSt := (fX10_type 448 (Int32.ofNat (48 + a / 10000)) v).2.2; let v6 : vSt := gM v5 (fX11_type 461 (Int32.ofNat (48 + a / 10000)) v5).2; v6)) = v4 at *
  obtain ⟨m4, I4⟩ := S4.2.i
  have L4 := S4.2.2.2.2.1
  have S3 := stg (P := Int32.ofNat a < 1000) (p := Int32.ofNat (48 + a / 1000 % 10)) I4 hn (r _ (by omega)) (fun g => by have := mt c3.mpr g; rw [L4]; rw [if_neg this] at hl; omega)
  rw [e3] at S3
  generalize hv3 : (if Int32.ofNat a < 1000 then v4 else (let v5 : vSt := (fX10_type 448 (Int32.ofNat (48 + a / 1000 % 10)) v4).2.2; let v6 : vSt := gM v5 (fX11_type 461 (Int32.ofNat (48 + a / 1000 % 10)) v5).2; v6)) = v3 at *
  obtain ⟨m3, I3⟩ := S3.2.i
  have L3 := S3.2.2.2.2.1
  have S2 := stg (P := Int32.ofNat a < 100) (p := Int32.ofNat (48 + a / 100 % 10)) I3 hn (r _ (by omega)) (fun g => by have := mt c2.mpr g; rw [L3, L4]; rw [if_neg this] at hl; omega)
  rw [e2] at S2
  generalize hv2 : (if Int32.ofNat a < 100 then v3 else (let v5 : vSt := (fX10_type 448 (Int32.ofNat (48 + a / 100 % 10)) v3).2.2; let v6 : vSt := gM v5 (fX11_type 461 (Int32.ofNat (48 + a / 100 % 10)) v5).2; v6)) = v2 at *
  obtain ⟨m2, I2⟩ := S2.2.i
  have L2 := S2.2.2.2.2.1
  have S1 := stg (P := Int32.ofNat a < 10) (p := Int32.ofNat (48 + a / 10 % 10)) I2 hn (r _ (by omega)) (fun g => by have := mt c1.mpr g; rw [L2, L3, L4]; rw [if_neg this] at hl; omega)
  rw [e1] at S1
  generalize hv1 : (if Int32.ofNat a < 10 then v2 else (let v5 : vSt := (fX10_type 448 (Int32.ofNat (48 + a / 10 % 10)) v2).2.2; let v6 : vSt := gM v5 (fX11_type 461 (Int32.ofNat (48 + a / 10 % 10)) v5).2; v6)) = v1 at *
  obtain ⟨m1, I1⟩ := S1.2.i
  have L1 := S1.2.2.2.2.1
  have S0 := stg (P := False) (p := Int32.ofNat (48 + a % 10)) I1 hn (r _ (by omega)) (fun _ => by rw [L1, L2, L3, L4]; omega)
  rw [if_neg (fun h => h), if_neg (fun h => h)] at S0
  have O0 := S0.1 (fun h => h)
  have TTT := (((S4.2.tr S3.2).tr S2.2).tr S1.2).tr S0.2
  refine ⟨⟨S4.1, fun x4 h4 => ?_⟩, ?_⟩
  · have h4 : x4 = v4 := by first | exact h4 | exact h4.trans hv4
    rw [h4]
    refine ⟨S3.1, fun x3 h3 => ?_⟩
    have h3 : x3 = v3 := by first | exact h3 | exact h3.trans hv3
    rw [h3]
    refine ⟨S2.1, fun x2 h2 => ?_⟩
    have h2 : x2 = v2 := by first | exact h2 | exact h2.trans hv2
    rw [h2]
    refine ⟨S1.1, fun x1 h1 => ?_⟩
    have h1 : x1 = v1 := by first | exact h1 | exact h1.trans hv1
    rw [h1]
    exact O0
  · subst hv1 hv2 hv3 hv4
    exact TTT
end T57b
