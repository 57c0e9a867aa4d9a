/-! THE PLAIN PART 14d: the signals: loops of the class and of the model. -/
section T43d
variable {P Q : Nat → Bool} {f g : Ar} {n k c j q r s t : Nat} {a b y p : Int32} {v w : vSt}
/-- how many of K from s on -/
def fc (P : Nat → Bool) (s : Nat) : Nat → Nat
  | 0 => 0
  | n + 1 => fc P s n + (if P (s + n) = true then 1 else 0)
/-- how many of K from t down -/
def rc (P : Nat → Bool) (t : Nat) : Nat → Nat
  | 0 => 0
  | n + 1 => rc P t n + (if P (t - n) = true then 1 else 0)
theorem fc_fr : ∀ {n : Nat}, fc P s (n + 1) = (if P s = true then 1 else 0) + fc P (s + 1) n
  | 0 => by show fc P s 0 + (if P (s + 0) = true then 1 else 0) = _; rw [Nat.add_zero]; exact Nat.add_comm _ _
  | n + 1 => by
    show fc P s (n + 1) + (if P (s + (n + 1)) = true then 1 else 0) = _ + (fc P (s + 1) n + (if P (s + 1 + n) = true then 1 else 0))
    rw [fc_fr (n := n), show s + 1 + n = s + (n + 1) by omega]
    omega
theorem rc_fc : ∀ {n : Nat}, n ≤ t + 1 → rc P t n = fc P (t + 1 - n) n
  | 0, _ => rfl
  | n + 1, h => by
    show rc P t n + _ = _
    rw [rc_fc (n := n) (by omega), show t + 1 - (n + 1) = t - n by omega, fc_fr, show t - n + 1 = t + 1 - n by omega]
    omega
theorem fc_le : ∀ {n : Nat}, fc P s n ≤ n
  | 0 => Nat.le_refl _
  | n + 1 => by
    show fc P s n + _ ≤ n + 1
    have := fc_le (n := n)
    split <;> omega
theorem rc_le : ∀ {n : Nat}, rc P t n ≤ n
  | 0 => Nat.le_refl _
  | n + 1 => by
    show rc P t n + _ ≤ n + 1
    have := rc_le (n := n)
    split <;> omega
def upB (f : Ar) (j : Nat) : Bool := decide ((f (j - 1)).toInt < (f j).toInt)
def dnB (f : Ar) (j : Nat) : Bool := decide ((f j).toInt < (f (j - 1)).toInt)
def poB (f : Ar) (j : Nat) : Bool := decide (0 < (f j).toInt)
def neB (f : Ar) (j : Nat) : Bool := decide ((f j).toInt < 0)
def hiB (u : Int32) (f : Ar) (j : Nat) : Bool := decide (2 * u.toInt < 3 * (f j).toInt)
def loB (u : Int32) (f : Ar) (j : Nat) : Bool := decide (3 * (f j).toInt < 2 * u.toInt)
theorem ad_i {P : Prop} [Decidable P] {B : Bool} {n : Nat} (h : P ↔ ¬ B = true) (hn : n < 2 ^ 30) : Int32.ofNat n + (if P then 0 else 1 : Int32) = Int32.ofNat (n + (if B = true then 1 else 0)) := by
  by_cases hB : B = true
  · rw [if_neg (fun q => h.mp q hB), if_pos hB, of_S (by omega)]
  · rw [if_pos (h.mpr hB), if_neg hB, Int32.add_zero]; rfl
theorem fe_t (h12 : c ≤ 12) (e9 : v r 9 = Int32.ofNat c) (hk : k < c) : fX4_fromEnd r (Int32.ofNat k) v = v (r + 10) (c - 1 - k) := by
  unfold fX4_fromEnd
  have e : Int32.ofNat c - 1 - Int32.ofNat k = Int32.ofNat (c - 1 - k) := by
    rw [ofn1' (by omega) (by omega)]
    apply Int32.toInt_inj.mp
    rw [of_ti (by omega), ti_sub (by rw [of_ti (by omega), of_ti (by omega)]; omega), of_ti (by omega), of_ti (by omega)]
    omega
  rw [e9, e, entry_at (inn_of (by omega) (by decide)) (by decide), to_of (by omega)]
theorem cmp_t {x y : Int32} : (fJ6_compare_7cf53 x y ≤ 0 ↔ x.toInt ≤ y.toInt) ∧ (0 ≤ fJ6_compare_7cf53 x y ↔ y.toInt ≤ x.toInt) := by
  unfold fJ6_compare_7cf53
  by_cases h1 : y ≤ x
  · have h1' := Int32.le_iff_toInt_le.mp h1
    rw [if_pos h1]
    by_cases h2 : x = y
    · rw [if_pos h2, h2]
      exact ⟨⟨fun _ => Int.le_refl _, fun _ => by decide⟩, ⟨fun _ => Int.le_refl _, fun _ => by decide⟩⟩
    · have h3 : x.toInt ≠ y.toInt := fun e => h2 (Int32.toInt_inj.mp e)
      rw [if_neg h2]
      exact ⟨⟨fun q => absurd q (by decide), fun q => by omega⟩, ⟨fun _ => by omega, fun _ => by decide⟩⟩
  · have h1' := mt Int32.le_iff_toInt_le.mpr h1
    rw [if_neg h1]
    exact ⟨⟨fun _ => by omega, fun _ => by decide⟩, ⟨fun q => absurd q (by decide), fun q => by omega⟩⟩
theorem gw_c (h12 : c ≤ 12) (e9 : v r 9 = Int32.ofNat c) (h6 : 6 ≤ c) : fX4_goesOneWay r 6 v = if fc (upB (v (r + 10))) (c - 5) 5 = 5 ∨ fc (dnB (v (r + 10))) (c - 5) 5 = 5 then 1 else 0 := by
  have key : ∀ fl k, k ≤ 5 → 5 < fl + k → lX4_goesOneWay_7 v r 6 fl (Int32.ofNat k) (Int32.ofNat (rc (dnB (v (r + 10))) (c - 1) k)) (Int32.ofNat (rc (upB (v (r + 10))) (c - 1) k)) = (Int32.ofNat (rc (dnB (v (r + 10))) (c - 1) 5), Int32.ofNat (rc (upB (v (r + 10))) (c - 1) 5)) := by
    intro fl
    induction fl with
    | zero => intro k h1 h2; omega
    | succ fl ih =>
      intro k h1 h2
      unfold lX4_goesOneWay_7
      have e1 := ofle (k := 5) (n := k) (by omega) (by omega)
      rw [show (6 : Int32) - 1 = Int32.ofNat 5 from by decide]
      by_cases hk : 5 ≤ k
      · rw [if_pos (e1.mpr hk), show k = 5 by omega]
      rw [if_neg (mt e1.mp hk), of_S (by omega), fe_t h12 e9 (by omega), fe_t h12 e9 (by omega)]
      have b1 := rc_le (P := dnB (v (r + 10))) (t := c - 1) (n := k)
      have b2 := rc_le (P := upB (v (r + 10))) (t := c - 1) (n := k)
      have eU := ad_i (P := fJ6_compare_7cf53 (v (r + 10) (c - 1 - k)) (v (r + 10) (c - 1 - (k + 1))) ≤ 0) (B := upB (v (r + 10)) (c - 1 - k)) (n := rc (upB (v (r + 10))) (c - 1) k) (by
        rw [cmp_t.1]; unfold upB; rw [decide_eq_true_iff, show c - 1 - k - 1 = c - 1 - (k + 1) by omega]; omega) (by omega)
      have eD := ad_i (P := 0 ≤ fJ6_compare_7cf53 (v (r + 10) (c - 1 - k)) (v (r + 10) (c - 1 - (k + 1)))) (B := dnB (v (r + 10)) (c - 1 - k)) (n := rc (dnB (v (r + 10))) (c - 1) k) (by
        rw [cmp_t.2]; unfold dnB; rw [decide_eq_true_iff, show c - 1 - k - 1 = c - 1 - (k + 1) by omega]; omega) (by omega)
      dsimp only
      rw [eU, eD]
      exact ih (k + 1) (by omega) (by omega)
  unfold fX4_goesOneWay
  rw [show (0 : Int32) = Int32.ofNat 0 from rfl]
  have kk := key ((Int32.toInt ((6 : Int32) - 1) - Int32.toInt (Int32.ofNat 0)).toNat + 1) 0 (by omega) (by decide)
  rw [show rc (dnB (v (r + 10))) (c - 1) 0 = 0 from rfl, show rc (upB (v (r + 10))) (c - 1) 0 = 0 from rfl] at kk
  rw [kk]
  dsimp only
  rw [rc_fc (by omega), rc_fc (by omega), show c - 1 + 1 - 5 = c - 5 by omega, show (6 : Int32) - 1 = Int32.ofNat 5 from by decide]
  have b1 := fc_le (P := dnB (v (r + 10))) (s := c - 5) (n := 5)
  have b2 := fc_le (P := upB (v (r + 10))) (s := c - 5) (n := 5)
  have g1 : ∀ {x : Nat}, x ≤ 5 → (Int32.ofNat x = Int32.ofNat 5 ↔ x = 5) := fun {x} hx => ⟨fun q => by have := congrArg Int32.toInt q; rw [of_ti (by omega), of_ti (by omega)] at this; omega, fun q => by rw [q]⟩
  by_cases q1 : fc (upB (v (r + 10))) (c - 5) 5 = 5
  · rw [if_pos ((g1 b2).mpr q1), if_pos (Or.inl q1)]
  · rw [if_neg (mt (g1 b2).mp q1)]
    by_cases q2 : fc (dnB (v (r + 10))) (c - 5) 5 = 5
    · rw [if_pos ((g1 b1).mpr q2), if_pos (Or.inr q2)]
    · rw [if_neg (mt (g1 b1).mp q2), if_neg (fun q => q.elim q1 q2)]
theorem os_c (h12 : c ≤ 12) (e9 : v r 9 = Int32.ofNat c) (h7 : 7 ≤ c) : fX4_isOnOneSide r 7 v = if fc (poB (v (r + 10))) (c - 7) 7 = 7 ∨ fc (neB (v (r + 10))) (c - 7) 7 = 7 then 1 else 0 := by
  have key : ∀ fl k, k ≤ 7 → 7 < fl + k → lX4_isOnOneSide_7 v r 7 fl (Int32.ofNat k) (Int32.ofNat (rc (neB (v (r + 10))) (c - 1) k)) (Int32.ofNat (rc (poB (v (r + 10))) (c - 1) k)) = (Int32.ofNat (rc (neB (v (r + 10))) (c - 1) 7), Int32.ofNat (rc (poB (v (r + 10))) (c - 1) 7)) := by
    intro fl
    induction fl with
    | zero => intro k h1 h2; omega
    | succ fl ih =>
      intro k h1 h2
      unfold lX4_isOnOneSide_7
      have e1 := ofle (k := 7) (n := k) (by omega) (by omega)
      rw [show (7 : Int32) = Int32.ofNat 7 from rfl]
      by_cases hk : 7 ≤ k
      · rw [if_pos (e1.mpr hk), show k = 7 by omega]
      rw [if_neg (mt e1.mp hk), of_S (by omega), fe_t h12 e9 (by omega)]
      have b1 := rc_le (P := neB (v (r + 10))) (t := c - 1) (n := k)
      have b2 := rc_le (P := poB (v (r + 10))) (t := c - 1) (n := k)
      have eU := ad_i (P := v (r + 10) (c - 1 - k) ≤ 0) (B := poB (v (r + 10)) (c - 1 - k)) (n := rc (poB (v (r + 10))) (c - 1) k) (by
        unfold poB; rw [decide_eq_true_iff, Int32.le_iff_toInt_le, show Int32.toInt 0 = 0 from rfl]; omega) (by omega)
      have eD := ad_i (P := 0 ≤ v (r + 10) (c - 1 - k)) (B := neB (v (r + 10)) (c - 1 - k)) (n := rc (neB (v (r + 10))) (c - 1) k) (by
        unfold neB; rw [decide_eq_true_iff, Int32.le_iff_toInt_le, show Int32.toInt 0 = 0 from rfl]; omega) (by omega)
      dsimp only
      rw [eU, eD]
      exact ih (k + 1) (by omega) (by omega)
  unfold fX4_isOnOneSide
  rw [show (0 : Int32) = Int32.ofNat 0 from rfl]
  have kk := key ((Int32.toInt (7 : Int32) - Int32.toInt (Int32.ofNat 0)).toNat + 1) 0 (by omega) (by decide)
  rw [show rc (neB (v (r + 10))) (c - 1) 0 = 0 from rfl, show rc (poB (v (r + 10))) (c - 1) 0 = 0 from rfl] at kk
  rw [kk]
  dsimp only
  rw [rc_fc (by omega), rc_fc (by omega), show c - 1 + 1 - 7 = c - 7 by omega, show (7 : Int32) = Int32.ofNat 7 from by decide]
  have b1 := fc_le (P := neB (v (r + 10))) (s := c - 7) (n := 7)
  have b2 := fc_le (P := poB (v (r + 10))) (s := c - 7) (n := 7)
  have g1 : ∀ {x : Nat}, x ≤ 7 → (Int32.ofNat x = Int32.ofNat 7 ↔ x = 7) := fun {x} hx => ⟨fun q => by have := congrArg Int32.toInt q; rw [of_ti (by omega), of_ti (by omega)] at this; omega, fun q => by rw [q]⟩
  by_cases q1 : fc (poB (v (r + 10))) (c - 7) 7 = 7
  · rw [if_pos ((g1 b2).mpr q1), if_pos (Or.inl q1)]
  · rw [if_neg (mt (g1 b2).mp q1)]
    by_cases q2 : fc (neB (v (r + 10))) (c - 7) 7 = 7
    · rw [if_pos ((g1 b1).mpr q2), if_pos (Or.inr q2)]
    · rw [if_neg (mt (g1 b1).mp q2), if_neg (fun q => q.elim q1 q2)]
theorem m3_t {x : Int32} (h : -50000 ≤ x.toInt ∧ x.toInt ≤ 50000) : (x * 3).toInt = 3 * x.toInt ∧ (3 * x).toInt = 3 * x.toInt ∧ (x * 2).toInt = 2 * x.toInt ∧ (2 * x).toInt = 2 * x.toInt := by
  refine ⟨?_, ?_, ?_, ?_⟩ <;> rw [ti_mul (by first | rw [show Int32.toInt 3 = 3 from rfl]; omega | rw [show Int32.toInt 2 = 2 from rfl]; omega)]
  · rw [show Int32.toInt 3 = 3 from rfl]; omega
  · rw [show Int32.toInt 3 = 3 from rfl]
  · rw [show Int32.toInt 2 = 2 from rfl]; omega
  · rw [show Int32.toInt 2 = 2 from rfl]
theorem fo_c (h12 : c ≤ 12) (e9 : v r 9 = Int32.ofNat c) (h3 : 3 ≤ c) (hf : ∀ j, j < c → -50000 ≤ (v (r + 10) j).toInt ∧ (v (r + 10) j).toInt ≤ 50000) (hu : -50000 ≤ (v r 2).toInt ∧ (v r 2).toInt ≤ 50000) (hl : -50000 ≤ (v r 1).toInt ∧ (v r 1).toInt ≤ 50000) :
    fX4_isFarOut r 3 v = if 2 ≤ fc (hiB (v r 2) (v (r + 10))) (c - 3) 3 ∨ 2 ≤ fc (loB (v r 1) (v (r + 10))) (c - 3) 3 then 1 else 0 := by
  have key : ∀ fl k, k ≤ 3 → 3 < fl + k → lX4_isFarOut_7 v r 3 fl (Int32.ofNat k) (Int32.ofNat (rc (loB (v r 1) (v (r + 10))) (c - 1) k)) (Int32.ofNat (rc (hiB (v r 2) (v (r + 10))) (c - 1) k)) = (Int32.ofNat (rc (loB (v r 1) (v (r + 10))) (c - 1) 3), Int32.ofNat (rc (hiB (v r 2) (v (r + 10))) (c - 1) 3)) := by
    intro fl
    induction fl with
    | zero => intro k h1 h2; omega
    | succ fl ih =>
      intro k h1 h2
      unfold lX4_isFarOut_7
      have e1 := ofle (k := 3) (n := k) (by omega) (by omega)
      by_cases hk : 3 ≤ k
      · rw [if_pos (show (3 : Int32) ≤ Int32.ofNat k from e1.mpr hk), show k = 3 by omega]
      rw [if_neg (show ¬ (3 : Int32) ≤ Int32.ofNat k from mt e1.mp hk), of_S (by omega), fe_t h12 e9 (by omega)]
      have b1 := rc_le (P := loB (v r 1) (v (r + 10))) (t := c - 1) (n := k)
      have b2 := rc_le (P := hiB (v r 2) (v (r + 10))) (t := c - 1) (n := k)
      have x1 := m3_t (hf (c - 1 - k) (by omega))
      have x2 := m3_t hu
      have x3 := m3_t hl
      have eU := ad_i (P := v (r + 10) (c - 1 - k) * 3 ≤ v r 2 * 2) (B := hiB (v r 2) (v (r + 10)) (c - 1 - k)) (n := rc (hiB (v r 2) (v (r + 10))) (c - 1) k) (by
        unfold hiB; rw [decide_eq_true_iff, Int32.le_iff_toInt_le, x1.1, x2.2.2.1]; omega) (by omega)
      have eD := ad_i (P := v r 1 * 2 ≤ v (r + 10) (c - 1 - k) * 3) (B := loB (v r 1) (v (r + 10)) (c - 1 - k)) (n := rc (loB (v r 1) (v (r + 10))) (c - 1) k) (by
        unfold loB; rw [decide_eq_true_iff, Int32.le_iff_toInt_le, x1.1, x3.2.2.1]; omega) (by omega)
      dsimp only
      rw [eU, eD]
      exact ih (k + 1) (by omega) (by omega)
  unfold fX4_isFarOut
  have kk := key ((Int32.toInt (3 : Int32) - Int32.toInt (Int32.ofNat 0)).toNat + 1) 0 (by omega) (by decide)
  rw [show rc (loB (v r 1) (v (r + 10))) (c - 1) 0 = 0 from rfl, show rc (hiB (v r 2) (v (r + 10))) (c - 1) 0 = 0 from rfl, show Int32.ofNat 0 = (0 : Int32) from rfl] at kk
  rw [kk]
  dsimp only
  rw [rc_fc (by omega), rc_fc (by omega), show c - 1 + 1 - 3 = c - 3 by omega]
  have b1 := fc_le (P := loB (v r 1) (v (r + 10))) (s := c - 3) (n := 3)
  have b2 := fc_le (P := hiB (v r 2) (v (r + 10))) (s := c - 3) (n := 3)
  have g1 := ofle (k := 2) (n := fc (hiB (v r 2) (v (r + 10))) (c - 3) 3) (by omega) (by omega)
  have g2 := oflt (k := fc (loB (v r 1) (v (r + 10))) (c - 3) 3) (n := 2) (by omega) (by omega)
  by_cases q1 : 2 ≤ fc (hiB (v r 2) (v (r + 10))) (c - 3) 3
  · rw [if_pos (show (2 : Int32) ≤ _ from g1.mpr q1), if_pos (Or.inl q1)]
  · rw [if_neg (show ¬ (2 : Int32) ≤ _ from mt g1.mp q1)]
    by_cases q2 : 2 ≤ fc (loB (v r 1) (v (r + 10))) (c - 3) 3
    · rw [if_neg (show ¬ _ < (2 : Int32) from mt g2.mp (by omega)), if_pos (Or.inr q2)]
    · rw [if_pos (show _ < (2 : Int32) from g2.mpr (by omega)), if_neg (fun q => q.elim q1 q2)]
-- the model's
def onB (side : Int) (before : Bool) (f : Ar) (j : Nat) : Bool := decide (0 < side * ((f j).toInt - if before = true then (f (j - 1)).toInt else 0))
theorem on_m {K : Nat} {side ob : Int32} (h12 : c ≤ 12) (hK : K + (if ob = 0 then 0 else 1) ≤ c) (hs : side = 1 ∨ side = -1) (hf : ∀ j, j < c → -50000 ≤ (f j).toInt ∧ (f j).toInt ≤ 50000)
    (ho : oX11_of 461 p 8 w) (h8 : fX11_of 461 p 8 w = Int32.ofNat c) (hc : ∀ j, j < c → fX11_onChart 461 p (Int32.ofNat j) w = f j ∧ oX11_onChart 461 p (Int32.ofNat j) w) :
    oX11_onSide 461 p (Int32.ofNat K) side ob w ∧ fX11_onSide 461 p (Int32.ofNat K) side ob w = Int32.ofNat (fc (onB side.toInt (decide (ob ≠ 0)) f) (c - K) K) := by
  have hK' : K ≤ c := by split at hK <;> omega
  have key : ∀ fl i, i ≤ K → K < fl + i → olX11_onSide_18 w 461 p side ob fl (Int32.ofNat (c - K + i)) (Int32.ofNat (fc (onB side.toInt (decide (ob ≠ 0)) f) (c - K) i)) ∧
      lX11_onSide_18 w 461 p side ob fl (Int32.ofNat (c - K + i)) (Int32.ofNat (fc (onB side.toInt (decide (ob ≠ 0)) f) (c - K) i)) = Int32.ofNat (fc (onB side.toInt (decide (ob ≠ 0)) f) (c - K) K) := by
    intro fl
    induction fl with
    | zero => intro i h1 h2; omega
    | succ fl ih =>
      intro i h1 h2
      unfold lX11_onSide_18 olX11_onSide_18
      rw [h8]
      have e1 := ofle (k := c) (n := c - K + i) (by omega) (by omega)
      by_cases hi : K ≤ i
      · rw [if_pos (e1.mpr (by omega))]
        exact ⟨fun q => absurd (e1.mpr (by omega)) q, by rw [show i = K by omega]⟩
      have b1 := fc_le (P := onB side.toInt (decide (ob ≠ 0)) f) (s := c - K) (n := i)
      have hj := hc (c - K + i) (by omega)
      have hjf := hf (c - K + i) (by omega)
      rw [if_neg (mt e1.mp (by omega)), hj.1, of_S (by omega)]
      have eb : (if ob = 0 then 0 else fX11_onChart 461 p (Int32.ofNat (c - K + i) - 1) w : Int32).toInt = (if decide (ob ≠ 0) = true then (f (c - K + i - 1)).toInt else 0) ∧ -50000 ≤ (if decide (ob ≠ 0) = true then (f (c - K + i - 1)).toInt else 0) ∧ (if decide (ob ≠ 0) = true then (f (c - K + i - 1)).toInt else 0) ≤ 50000 ∧ (¬ ob = 0 → oX11_onChart 461 p (Int32.ofNat (c - K + i) - 1) w) := by
        by_cases hb : ob = 0
        · rw [if_pos hb, if_neg (show ¬ decide (ob ≠ 0) = true by simp [hb])]
          exact ⟨rfl, by omega, by omega, fun q => absurd hb q⟩
        · rw [if_neg hb] at hK
          have h4 := hc (c - K + i - 1) (by omega)
          have h5 := hf (c - K + i - 1) (by omega)
          rw [if_neg hb, if_pos (show decide (ob ≠ 0) = true by simp [hb]), ofn1' (by omega) (by omega), h4.1]
          exact ⟨rfl, h5.1, h5.2, fun _ => h4.2⟩
      generalize hy6 : (if ob = 0 then 0 else fX11_onChart 461 p (Int32.ofNat (c - K + i) - 1) w : Int32) = y6 at *
      obtain ⟨eb1, eb2, eb3, eb4⟩ := eb
      have ed : (f (c - K + i) - y6).toInt = (f (c - K + i)).toInt - y6.toInt := ti_sub (by omega)
      have em : (side * (f (c - K + i) - y6)).toInt = side.toInt * ((f (c - K + i)).toInt - y6.toInt) := by
        rcases hs with e | e
        · rw [e, ti_mul (by rw [ed, show Int32.toInt 1 = 1 from rfl]; omega), ed]
        · rw [e, ti_mul (by rw [ed, show Int32.toInt (-1) = -1 from rfl]; omega), ed]
      have eU := ad_i (P := side * (f (c - K + i) - y6) ≤ 0) (B := onB side.toInt (decide (ob ≠ 0)) f (c - K + i)) (n := fc (onB side.toInt (decide (ob ≠ 0)) f) (c - K) i) (by
        unfold onB; rw [decide_eq_true_iff, Int32.le_iff_toInt_le, em, ← eb1, show Int32.toInt 0 = 0 from rfl]; exact Int.not_lt.symm) (by omega)
      dsimp only
      rw [eU]
      have rr := ih (i + 1) (by omega) (by omega)
      exact ⟨fun _ => ⟨hj.2, eb4, fun z6 f6 z8 f8 => by rw [f8, f6, eU]; exact rr.1⟩, rr.2⟩
  unfold oX11_onSide fX11_onSide
  have e : Int32.ofNat c - Int32.ofNat K = Int32.ofNat (c - K) := by
    apply Int32.toInt_inj.mp
    rw [of_ti (by omega), ti_sub (by rw [of_ti (by omega), of_ti (by omega)]; omega), of_ti (by omega), of_ti (by omega)]
    omega
  rw [h8, e]
  have kk := key ((Int32.toInt (Int32.ofNat c) - Int32.toInt (Int32.ofNat (c - K))).toNat + 1) 0 (by omega) (by rw [of_ti (by omega), of_ti (by omega)]; omega)
  exact ⟨⟨ho, kk.1⟩, kk.2⟩
def faB (ab : Int32) (lo up : Int32) (f : Ar) (j : Nat) : Bool := if ab = 0 then loB lo f j else hiB up f j
theorem fo_m {ab lo up : Int32} (h12 : c ≤ 12) (h3 : 3 ≤ c) (hf : ∀ j, j < c → -50000 ≤ (f j).toInt ∧ (f j).toInt ≤ 50000) (hu : -50000 ≤ up.toInt ∧ up.toInt ≤ 50000) (hl : -50000 ≤ lo.toInt ∧ lo.toInt ≤ 50000)
    (h1 : fX11_of 461 p 1 w = lo ∧ oX11_of 461 p 1 w) (h2 : fX11_of 461 p 2 w = up ∧ oX11_of 461 p 2 w)
    (ho : oX11_of 461 p 8 w) (h8 : fX11_of 461 p 8 w = Int32.ofNat c) (hc : ∀ j, j < c → fX11_onChart 461 p (Int32.ofNat j) w = f j ∧ oX11_onChart 461 p (Int32.ofNat j) w) :
    oX11_farOut 461 p ab w ∧ fX11_farOut 461 p ab w = Int32.ofNat (fc (faB ab lo up f) (c - 3) 3) := by
  have key : ∀ fl i, i ≤ 3 → 3 < fl + i → olX11_farOut_20 w 461 p ab fl (Int32.ofNat (c - 3 + i)) (Int32.ofNat (fc (faB ab lo up f) (c - 3) i)) ∧
      lX11_farOut_20 w 461 p ab fl (Int32.ofNat (c - 3 + i)) (Int32.ofNat (fc (faB ab lo up f) (c - 3) i)) = Int32.ofNat (fc (faB ab lo up f) (c - 3) 3) := by
    intro fl
    induction fl with
    | zero => intro i h1 h2; omega
    | succ fl ih =>
      intro i a1 a2
      unfold lX11_farOut_20 olX11_farOut_20
      rw [h8]
      have e1 := ofle (k := c) (n := c - 3 + i) (by omega) (by omega)
      by_cases hi : 3 ≤ i
      · rw [if_pos (e1.mpr (by omega))]
        exact ⟨fun q => absurd (e1.mpr (by omega)) q, by rw [show i = 3 by omega]⟩
      have b1 := fc_le (P := faB ab lo up f) (s := c - 3) (n := i)
      have hj := hc (c - 3 + i) (by omega)
      have x1 := m3_t (hf (c - 3 + i) (by omega))
      have x2 := m3_t hu
      have x3 := m3_t hl
      rw [if_neg (mt e1.mp (by omega)), hj.1, of_S (by omega), h1.1, h2.1]
      have eU : Int32.ofNat (fc (faB ab lo up f) (c - 3) i) + (if (if ab = 0 then (if 2 * lo ≤ 3 * f (c - 3 + i) then 0 else 1) else (if 3 * f (c - 3 + i) ≤ 2 * up then 0 else 1) : Int32) = 0 then 0 else 1 : Int32) = Int32.ofNat (fc (faB ab lo up f) (c - 3) (i + 1)) := by
        refine ad_i (B := faB ab lo up f (c - 3 + i)) ?_ (by omega)
        unfold faB loB hiB
        by_cases hb : ab = 0
        · rw [if_pos hb, if_pos hb, decide_eq_true_iff]
          by_cases hq : 2 * lo ≤ 3 * f (c - 3 + i)
          · rw [if_pos hq]
            rw [Int32.le_iff_toInt_le, x1.2.1, x3.2.2.2] at hq
            exact ⟨fun _ => by omega, fun _ => rfl⟩
          · rw [if_neg hq]
            rw [Int32.le_iff_toInt_le, x1.2.1, x3.2.2.2] at hq
            exact ⟨fun q => absurd q (by decide), fun q => absurd (by omega) q⟩
        · rw [if_neg hb, if_neg hb, decide_eq_true_iff]
          by_cases hq : 3 * f (c - 3 + i) ≤ 2 * up
          · rw [if_pos hq]
            rw [Int32.le_iff_toInt_le, x1.2.1, x2.2.2.2] at hq
            exact ⟨fun _ => by omega, fun _ => rfl⟩
          · rw [if_neg hq]
            rw [Int32.le_iff_toInt_le, x1.2.1, x2.2.2.2] at hq
            exact ⟨fun q => absurd q (by decide), fun q => absurd (by omega) q⟩
      dsimp only
      rw [eU]
      have rr := ih (i + 1) (by omega) (by omega)
      exact ⟨fun _ => ⟨hj.2, ⟨fun _ => h1.2, fun _ => h2.2⟩, fun z6 f6 z8 f8 => by rw [f8, f6, eU]; exact rr.1⟩, rr.2⟩
  unfold oX11_farOut fX11_farOut
  have e : fX11_more 0 (Int32.ofNat c - 3) = Int32.ofNat (c - 3) := by
    have e : Int32.ofNat c - 3 = Int32.ofNat (c - 3) := by
      apply Int32.toInt_inj.mp
      rw [of_ti (by omega), ti_sub (by rw [of_ti (by omega), show Int32.toInt 3 = 3 from rfl]; omega), of_ti (by omega), show Int32.toInt 3 = 3 from rfl]
      omega
    unfold fX11_more
    rw [e]
    have l := ofle (k := c - 3) (n := 0) (by omega) (by omega)
    by_cases h0 : c - 3 = 0
    · rw [h0]; rfl
    · rw [if_neg (show ¬ _ ≤ (0 : Int32) from mt l.mp (by omega))]
  rw [h8, e]
  have kk := key ((Int32.toInt (Int32.ofNat c) - Int32.toInt (Int32.ofNat (c - 3))).toNat + 1) 0 (by omega) (by rw [of_ti (by omega), of_ti (by omega)]; omega)
  exact ⟨⟨ho, kk.1⟩, kk.2⟩
end T43d
