/-! THE PLAIN PART 16e: how many lengths can be stacked. -/
section T45e
variable {x x0 : gX} {q L n m k len i j b o s t N M c a : Nat} {v u w : vSt} {A : Ar} {p : Int32} {l : Nat → Nat} {P Q : Nat → Bool}
/-- a question that also uses the row of what is stacked -/
def QS7 (v w : vSt) (k : Int32) : Prop := (∀ q, q ≠ 461 → q ≠ 467 → w q = v q) ∧ (∀ f, f ≠ 8 → w 461 f = v 461 f) ∧ w 461 8 = k
theorem Inv.asked7 {k : Int32} (hI : Inv n m v) (hm : QS7 v w k) : Inv (n + 1) m w := by
  obtain ⟨hR, hC, ⟨c1, c2⟩, ⟨k1, k2⟩, ⟨⟨x1, x2, x3⟩, x4, x5, x6⟩, hN, hH, hK⟩ := hI
  obtain ⟨m1, m2', m5⟩ := hm
  have m2 := m2' 3 (by decide)
  have m3 := m2' 5 (by decide)
  have m4 := m2' 7 (by decide)
  have e448 : w 448 = v 448 := m1 _ (by decide) (by decide)
  have e449 : w 449 = v 449 := m1 _ (by decide) (by decide)
  have e451 : w 451 = v 451 := m1 _ (by decide) (by decide)
  have e450 : w 450 = v 450 := m1 _ (by decide) (by decide)
  have e466 : w 466 = v 466 := m1 _ (by decide) (by decide)
  have e462 : w 462 = v 462 := m1 _ (by decide) (by decide)
  have e464 : w 464 = v 464 := m1 _ (by decide) (by decide)
  have sE : ∀ i, sl w i = sl v i := fun i => by unfold sl; rw [m1 465 (by decide) (by decide)]
  have eTL : TL w = TL v := by unfold TL; rw [m4]
  have hb : ∀ b, kd b = 7 → ∀ q, b ≤ q → q < b + 64 → w q = v q := fun b hb q h1 h2 => by have := kd7 hb; exact m1 q (by omega) (by omega)
  have hl := Nat.le_trans x4 x5
  refine ⟨by unfold RB; rw [e448, e449, e451]; exact hR, fun b hk => by have := kd7 hk; exact (hC b hk).fr ⟨hb b hk _ (by omega) (by omega), hb b hk _ (by omega) (by omega)⟩, ⟨by rw [e448, m3]; exact c1, by rw [m3]; exact c2⟩, ⟨by rw [e448, m2]; exact k1, by rw [m2]; exact k2⟩, ⟨⟨by rw [e448, m4]; exact x1, by rw [m4]; exact x2, fun i hi => by rw [eTL] at hi; rw [e450, e466]; exact x3 i hi⟩, by rw [eTL]; exact x4, by omega, x6⟩, ?_, fun i hi => ?_, fun h => ?_⟩
  · rw [e448, e462]
    exact (hN.up hl).fr hR.1.1 (hb _ hR.1.1) ⟨m4, e466⟩ eqA.rf
  · rw [m3] at hi
    rw [e449, sE]
    have hi4 : i < 4 := by have := inn_lt c2; omega
    exact ((hH i hi).up hl).fr (hR.2.2.1 i hi4).1 (hb _ (hR.2.2.1 i hi4).1) ⟨m4, e466⟩ eqA.rf
  · rw [m2] at h
    rw [e464]
    exact ((hK h).up hl).fr (by decide) (hb _ (by decide)) ⟨m4, e466⟩ eqA.rf
theorem fc_cg : ∀ {n : Nat}, (∀ i, i < n → P (s + i) = Q (s + i)) → fc P s n = fc Q s n
  | 0, _ => rfl
  | n + 1, h => by
    show fc P s n + _ = fc Q s n + _
    rw [fc_cg (n := n) (fun i hi => h i (by omega)), h n (by omega)]
theorem fc_ad : ∀ {b : Nat}, fc P s (a + b) = fc P s a + fc P (s + a) b
  | 0 => rfl
  | b + 1 => by
    show fc P s (a + b) + (if P (s + (a + b)) = true then 1 else 0) = fc P s a + (fc P (s + a) b + (if P (s + a + b) = true then 1 else 0))
    rw [fc_ad (b := b), show s + a + b = s + (a + b) by omega]
    omega
theorem fc_0 : ∀ {n : Nat}, (∀ i, i < n → P (s + i) = false) → fc P s n = 0
  | 0, _ => rfl
  | n + 1, h => by
    show fc P s n + _ = 0
    rw [fc_0 (n := n) (fun i hi => h i (by omega)), h n (by omega), if_neg (by decide)]
theorem fc_in : ∀ {n : Nat}, s ≤ j → j < s + n → P j = false → fc (fun L => P L || decide (L = j)) s n = fc P s n + 1
  | 0, h1, h2, _ => by omega
  | n + 1, h1, h2, h => by
    show fc (fun L => P L || decide (L = j)) s n + (if (P (s + n) || decide (s + n = j)) = true then 1 else 0) = fc P s n + (if P (s + n) = true then 1 else 0) + 1
    by_cases e : s + n = j
    · rw [fc_cg (Q := P) (n := n) (fun i hi => by show (P (s + i) || decide (s + i = j)) = P (s + i); rw [decide_eq_false (show ¬ s + i = j by omega), Bool.or_false]), e, h, decide_eq_true (show j = j from rfl)]
      rfl
    · rw [fc_in (n := n) h1 (by omega) h, decide_eq_false e, Bool.or_false]
      omega
theorem pop_fc {r : Nat} : ∀ {M : Nat}, (∀ i, i < M → r.testBit i = P (s + i)) → pop M r = fc P s M
  | 0, _ => rfl
  | M + 1, h => by
    show pop M r + _ = fc P s M + _
    rw [pop_fc (M := M) (fun i hi => h i (by omega)), h M (by omega)]
-- the class: words are joined, bits are counted
def anB (x : gX) (L : Nat) : Bool := bit x 456 L || (bit x 457 L || (bit x 458 L || (bit x 459 L || bit x 460 L)))
def orN (x : gX) (w : Nat) : Nat → Int64
  | 0 => 0
  | n + 1 => orN x w n ||| x.1 (455 + (n + 1)) w
theorem cl16 (hw : a < 235) : ∀ fl n, n ≤ 5 → 5 < fl + n → olX6_countLengths_16 x (Int32.ofNat a) fl (Int32.ofNat (n + 1)) (orN x a n) ∧ lX6_countLengths_16 x (Int32.ofNat a) fl (Int32.ofNat (n + 1)) (orN x a n) = orN x a 5 := by
  intro fl
  induction fl with
  | zero => intro n a1 a2; omega
  | succ fl ih =>
    intro n a1 a2
    unfold lX6_countLengths_16 olX6_countLengths_16
    have e1 := ofle (k := 6) (n := n + 1) (by omega) (by omega)
    rw [show Int32.ofNat 6 = (6 : Int32) from rfl] at e1
    by_cases hn : 6 ≤ n + 1
    · rw [if_pos (e1.mpr hn)]
      exact ⟨fun z => absurd (e1.mpr hn) z, by rw [show n = 5 by omega]⟩
    rw [if_neg (mt e1.mp hn), to_of (by omega), to_of (by omega), of_S (by omega)]
    have rr := ih (n + 1) (by omega) (by omega)
    have v1 : vp_in (Int32.ofNat (n + 1)) 6 := by have := inn_of (show n + 1 < 6 by omega) (by decide); exact i_in this.1 this.2
    have v2 : vp_in (Int32.ofNat a) 235 := by have := inn_of hw (by decide); exact i_in this.1 this.2
    exact ⟨fun _ => ⟨v1, v2, rr.1⟩, rr.2⟩
theorem or_an (hi : i < 64) : (orN x a 5).toBitVec.getLsbD i = anB x (64 * a + i) := by
  have hz : (0 : Int64).toBitVec.getLsbD i = false := BitVec.getLsbD_zero
  show ((((((0 : Int64) ||| x.1 456 a) ||| x.1 457 a) ||| x.1 458 a) ||| x.1 459 a) ||| x.1 460 a).toBitVec.getLsbD i = _
  rw [or_b, or_b, or_b, or_b, or_b, hz]
  unfold anB bit
  rw [show (64 * a + i) / 64 = a by omega, show (64 * a + i) % 64 = i by omega]
  simp only [Bool.false_or, Bool.or_assoc]
theorem cl4 : ∀ fl b, b ≤ 235 → 235 < fl + b → olX6_countLengths_4 x fl (Int32.ofNat b) (Int32.ofNat (fc (anB x) 0 (64 * b))) ∧ lX6_countLengths_4 x fl (Int32.ofNat b) (Int32.ofNat (fc (anB x) 0 (64 * b))) = Int32.ofNat (fc (anB x) 0 15040) := by
  intro fl
  induction fl with
  | zero => intro n a1 a2; omega
  | succ fl ih =>
    intro b a1 a2
    unfold lX6_countLengths_4 olX6_countLengths_4
    have e1 := ofle (k := 235) (n := b) (by omega) (by omega)
    rw [show Int32.ofNat 235 = (235 : Int32) from rfl] at e1
    by_cases hn : 235 ≤ b
    · rw [if_pos (e1.mpr hn)]
      exact ⟨fun z => absurd (e1.mpr hn) z, by rw [show b = 235 by omega]⟩
    obtain ⟨r1, r2⟩ := cl16 (x := x) (a := b) (by omega) ((Int32.toInt 6 - Int32.toInt 1).toNat + 1) 0 (by omega) (by decide)
    have r1 : olX6_countLengths_16 x (Int32.ofNat b) ((Int32.toInt 6 - Int32.toInt 1).toNat + 1) 1 0 := r1
    have r2 : lX6_countLengths_16 x (Int32.ofNat b) ((Int32.toInt 6 - Int32.toInt 1).toNat + 1) 1 0 = orN x b 5 := r2
    have ep : pop 64 (wN (orN x b 5)) = fc (anB x) (64 * b) 64 := pop_fc (fun i hi => by
      rw [← or_an hi]
      rfl)
    have ec : Int32.ofNat (fc (anB x) 0 (64 * b)) + Int32.ofNat (pop 64 (wN (orN x b 5))) = Int32.ofNat (fc (anB x) 0 (64 * (b + 1))) := by
      rw [of_add, ep, show 64 * (b + 1) = 64 * b + 64 by omega, fc_ad, Nat.zero_add]
    rw [if_neg (mt e1.mp hn), r2, of_S (by omega)]
    have rr := ih (b + 1) (by omega) (by omega)
    dsimp only
    rw [bc64, ec]
    exact ⟨fun _ => ⟨r1, fun y6 e6 => by rw [e6, bc64, ec]; exact rr.1⟩, rr.2⟩
-- the model: sets are marked
def mS (l : Nat → Nat) (N : Nat) : Nat → Nat → Bool
  | 0, _ => false
  | s + 1, L => mS l N s L || (decide (1 ≤ s) && decide (pop 10 s ≤ 5) && decide (L = smL l N s))
theorem mS_t : ∀ {s : Nat}, mS l N s L = true ↔ ∃ u, 1 ≤ u ∧ u < s ∧ pop 10 u ≤ 5 ∧ smL l N u = L
  | 0 => ⟨fun h => absurd (show false = true from h) (by decide), fun ⟨u, _, h, _⟩ => by omega⟩
  | s + 1 => by
    show (mS l N s L || (decide (1 ≤ s) && decide (pop 10 s ≤ 5) && decide (L = smL l N s))) = true ↔ _
    rw [Bool.or_eq_true, Bool.and_eq_true, Bool.and_eq_true, decide_eq_true_iff, decide_eq_true_iff, decide_eq_true_iff, mS_t (s := s)]
    constructor
    · rintro (⟨u, h1, h2, h3⟩ | ⟨⟨h1, h2⟩, h3⟩)
      · exact ⟨u, h1, by omega, h3⟩
      · exact ⟨s, h1, by omega, h2, h3.symm⟩
    · rintro ⟨u, h1, h2, h3, h4⟩
      by_cases e : u = s
      · rw [e] at h1 h3 h4; exact Or.inr ⟨⟨h1, h3⟩, h4.symm⟩
      · exact Or.inl ⟨u, h1, by omega, h3, h4⟩
theorem st7 : ∀ fl j (z : Int32) (w : vSt), z = Int32.ofNat j → j ≤ 15001 → 15001 < fl + j → (∀ i, i < j → w 467 i = 0) →
    olX11_stackable_7 fl z w ∧ (∀ q, q ≠ 467 → lX11_stackable_7 fl z w q = w q) ∧ ∀ i, i < 15001 → lX11_stackable_7 fl z w 467 i = 0 := by
  intro fl
  induction fl with
  | zero => intro j z w hz a1 a2; omega
  | succ fl ih =>
    intro j z w hz a1 a2 h
    rw [hz]
    unfold lX11_stackable_7 olX11_stackable_7
    have e1 := oflt (k := 15000) (n := j) (by omega) (by omega)
    rw [show Int32.ofNat 15000 = (15000 : Int32) from rfl] at e1
    by_cases hj : 15000 < j
    · rw [if_pos (e1.mpr hj)]
      exact ⟨fun y => absurd (e1.mpr hj) y, fun _ _ => rfl, fun i hi => h i (by omega)⟩
    rw [if_neg (mt e1.mp hj), to_of (by omega), of_S (by omega)]
    have rr := ih (j + 1) _ (u2 w 467 j 0) rfl (by omega) (by omega) (fun i hi => by
      rw [u2_q]
      by_cases e : i = j
      · rw [if_pos e]
      · rw [if_neg e]; exact h i (by omega))
    refine ⟨fun _ => ⟨by have := inn_of (show j < 15001 by omega) (by decide); exact i_in this.1 this.2, fun v6 e6 => by rw [e6]; exact rr.1⟩, fun q hq => ?_, rr.2.2⟩
    rw [rr.2.1 q hq, u2_r hq]
theorem st31 (hw : WF (v 462)) : ∀ fl s (w : vSt), 1 ≤ s → s ≤ 2 ^ ((v 462) 204).toNatClampNeg → 2 ^ ((v 462) 204).toNatClampNeg < fl + s → (∀ q, q ≠ 467 → w q = v q) → (∀ i, i < 15001 → w 467 i = if mS (bL (v 462)) (((v 462) 204).toNatClampNeg) s i = true then 1 else 0) →
    olX11_stackable_31 461 fl (Int32.ofNat s) (Int32.ofNat (fc (mS (bL (v 462)) (((v 462) 204).toNatClampNeg) s) 0 15001)) w ∧
    (lX11_stackable_31 461 fl (Int32.ofNat s) (Int32.ofNat (fc (mS (bL (v 462)) (((v 462) 204).toNatClampNeg) s) 0 15001)) w).1 = Int32.ofNat (fc (mS (bL (v 462)) (((v 462) 204).toNatClampNeg) (2 ^ ((v 462) 204).toNatClampNeg)) 0 15001) ∧
    (∀ q, q ≠ 467 → (lX11_stackable_31 461 fl (Int32.ofNat s) (Int32.ofNat (fc (mS (bL (v 462)) (((v 462) 204).toNatClampNeg) s) 0 15001)) w).2 q = v q) := by
  have hsh := sh_le hw.1.2.1
  have h1024 : 2 ^ ((v 462) 204).toNatClampNeg ≤ 1024 := hsh.2.2
  have esh : (1 <<< (v 462 204 &&& 31) : Int32) = Int32.ofNat (2 ^ ((v 462) 204).toNatClampNeg) := by
    apply Int32.toInt_inj.mp
    rw [hsh.2.1, of_ti (by omega)]
    exact (Int.natCast_pow 2 _).symm
  intro fl
  induction fl with
  | zero => intro s w a1 a2 a3; omega
  | succ fl ih =>
    intro s w a1 a2 a3 hq h7
    unfold lX11_stackable_31 olX11_stackable_31
    have h462 : w 462 = v 462 := hq 462 (by decide)
    rw [show (204 : Int32).toNatClampNeg = 204 from rfl, h462, esh]
    have e1 := ofle (k := 2 ^ ((v 462) 204).toNatClampNeg) (n := s) (by omega) (by omega)
    by_cases hs : 2 ^ ((v 462) 204).toNatClampNeg ≤ s
    · rw [if_pos (e1.mpr hs)]
      exact ⟨⟨vL (by decide), fun y => absurd (e1.mpr hs) y⟩, by rw [show s = 2 ^ ((v 462) 204).toNatClampNeg by omega], hq⟩
    have esum : fX11_sum 461 (Int32.ofNat s) 0 w = Int32.ofNat (smL (bL (v 462)) (((v 462) 204).toNatClampNeg) s) := by
      rw [m_sumS (by rw [h462]; exact hw) (by omega), h462]
    have osum : oX11_sum 461 (Int32.ofNat s) 0 w := mo_sum (by rw [h462]; exact hw.1.2.1) (by decide)
    have hp := pop_le (s := s) (b := 10)
    have hsm := smL_le (l := bL (v 462)) (s := s) (M := ((v 462) 204).toNatClampNeg) (fun i hi => by
      have := (hw.2.2.1.1 i hi).2
      have h1 := (hw.2.2.1.1 i hi).1
      have := rn_to (x := v 462 (48 + 3 * i)) (by omega)
      show (v 462 (48 + 3 * i)).toNatClampNeg ≤ 5000
      omega)
    have hB10 := inn_lt hw.1.2.1
    have e5 := oflt (k := 5) (n := pop 10 s) (by omega) (by omega)
    have e15 := oflt (k := 15000) (n := smL (bL (v 462)) (((v 462) 204).toNatClampNeg) s) (by omega) (by omega)
    rw [show Int32.ofNat 5 = (5 : Int32) from rfl] at e5
    rw [show Int32.ofNat 15000 = (15000 : Int32) from rfl] at e15
    rw [if_neg (mt e1.mp hs), ones_t s (by omega), esum, of_S (k := s) (by omega), to_of (by omega)]
    have hfl := fc_le (P := mS (bL (v 462)) (((v 462) 204).toNatClampNeg) s) (s := 0) (n := 15001)
    -- nothing new
    have same : (∀ L, L < 15001 → mS (bL (v 462)) (((v 462) 204).toNatClampNeg) (s + 1) L = mS (bL (v 462)) (((v 462) 204).toNatClampNeg) s L) → olX11_stackable_31 461 fl (Int32.ofNat (s + 1)) (Int32.ofNat (fc (mS (bL (v 462)) (((v 462) 204).toNatClampNeg) s) 0 15001)) w ∧
        (lX11_stackable_31 461 fl (Int32.ofNat (s + 1)) (Int32.ofNat (fc (mS (bL (v 462)) (((v 462) 204).toNatClampNeg) s) 0 15001)) w).1 = Int32.ofNat (fc (mS (bL (v 462)) (((v 462) 204).toNatClampNeg) (2 ^ ((v 462) 204).toNatClampNeg)) 0 15001) ∧
        (∀ q, q ≠ 467 → (lX11_stackable_31 461 fl (Int32.ofNat (s + 1)) (Int32.ofNat (fc (mS (bL (v 462)) (((v 462) 204).toNatClampNeg) s) 0 15001)) w).2 q = v q) := fun hm => by
      have rr := ih (s + 1) w (by omega) (by omega) (by omega) hq (fun i hi => by rw [hm i hi]; exact h7 i hi)
      rw [fc_cg (Q := mS (bL (v 462)) (((v 462) 204).toNatClampNeg) s) (fun i hi => by rw [Nat.zero_add]; exact hm i hi)] at rr
      exact rr
    have stepS : ∀ L, mS (bL (v 462)) (((v 462) 204).toNatClampNeg) (s + 1) L = (mS (bL (v 462)) (((v 462) 204).toNatClampNeg) s L || (decide (1 ≤ s) && decide (pop 10 s ≤ 5) && decide (L = smL (bL (v 462)) (((v 462) 204).toNatClampNeg) s))) := fun L => rfl
    by_cases c1 : 5 < pop 10 s
    · have S := same (fun L hL => by rw [stepS, decide_eq_false (show ¬ pop 10 s ≤ 5 by omega), Bool.and_false, Bool.false_and, Bool.or_false])
      rw [if_pos (e5.mpr c1)]
      dsimp only
      rw [if_pos rfl]
      exact ⟨⟨vL (by decide), fun _ => ⟨osum, ones_o _, fun y14 e14 => ⟨fun q => absurd e14 q, fun y16 v17 e16 e17 => by rw [e16, e17, e14, if_pos rfl]; exact S.1⟩⟩⟩, S.2⟩
    rw [if_neg (mt e5.mp c1)]
    by_cases c2 : 15000 < smL (bL (v 462)) (((v 462) 204).toNatClampNeg) s
    · have S := same (fun L hL => by rw [stepS, decide_eq_false (show ¬ L = smL (bL (v 462)) (((v 462) 204).toNatClampNeg) s by omega), Bool.and_false, Bool.or_false])
      rw [if_pos (e15.mpr c2)]
      dsimp only
      rw [if_pos rfl]
      exact ⟨⟨vL (by decide), fun _ => ⟨osum, ones_o _, fun y14 e14 => ⟨fun q => absurd e14 q, fun y16 v17 e16 e17 => by rw [e16, e17, e14, if_pos rfl]; exact S.1⟩⟩⟩, S.2⟩
    rw [if_neg (mt e15.mp c2)]
    dsimp only
    have n10 : ¬ (1 : Int32) = 0 := by decide
    rw [if_neg n10]
    have vin : vp_in (Int32.ofNat (smL (bL (v 462)) (((v 462) 204).toNatClampNeg) s)) 15001 := by have := inn_of (show smL (bL (v 462)) (((v 462) 204).toNatClampNeg) s < 15001 by omega) (by decide); exact i_in this.1 this.2
    by_cases c3 : mS (bL (v 462)) (((v 462) 204).toNatClampNeg) s (smL (bL (v 462)) (((v 462) 204).toNatClampNeg) s) = true
    · have z : ¬ w 467 (smL (bL (v 462)) (((v 462) 204).toNatClampNeg) s) = 0 := by rw [h7 _ (by omega), if_pos c3]; decide
      have S := same (fun L hL => by
        rw [stepS]
        by_cases e : L = smL (bL (v 462)) (((v 462) 204).toNatClampNeg) s
        · rw [e, c3, Bool.true_or]
        · rw [decide_eq_false e, Bool.and_false, Bool.or_false])
      rw [if_neg z]
      dsimp only
      exact ⟨⟨vL (by decide), fun _ => ⟨osum, ones_o _, fun y14 e14 => ⟨fun _ => vin, fun y16 v17 e16 e17 => by rw [e16, e17, e14, if_neg n10]; exact S.1⟩⟩⟩, S.2⟩
    · have c3f := Bool.eq_false_iff.mpr c3
      have z : w 467 (smL (bL (v 462)) (((v 462) 204).toNatClampNeg) s) = 0 := by rw [h7 _ (by omega), if_neg c3]
      have ef : mS (bL (v 462)) (((v 462) 204).toNatClampNeg) (s + 1) = fun L => mS (bL (v 462)) (((v 462) 204).toNatClampNeg) s L || decide (L = smL (bL (v 462)) (((v 462) 204).toNatClampNeg) s) := by
        funext L
        rw [stepS, decide_eq_true a1, decide_eq_true (show pop 10 s ≤ 5 by omega), Bool.true_and, Bool.true_and]
      have ec : fc (mS (bL (v 462)) (((v 462) 204).toNatClampNeg) (s + 1)) 0 15001 = fc (mS (bL (v 462)) (((v 462) 204).toNatClampNeg) s) 0 15001 + 1 := by
        rw [ef]; exact fc_in (Nat.zero_le _) (by omega) c3f
      have S := ih (s + 1) (u2 w 467 (smL (bL (v 462)) (((v 462) 204).toNatClampNeg) s) 1) (by omega) (by omega) (by omega) (fun q h => by rw [u2_r h]; exact hq q h) (fun i hi => by
        have ei : mS (bL (v 462)) (((v 462) 204).toNatClampNeg) (s + 1) i = (mS (bL (v 462)) (((v 462) 204).toNatClampNeg) s i || decide (i = smL (bL (v 462)) (((v 462) 204).toNatClampNeg) s)) := congrFun ef i
        rw [u2_q]
        by_cases e : i = smL (bL (v 462)) (((v 462) 204).toNatClampNeg) s
        · rw [decide_eq_true e, Bool.or_true] at ei
          rw [if_pos e, if_pos ei]
        · rw [decide_eq_false e, Bool.or_false] at ei
          rw [if_neg e, ei]; exact h7 i hi)
      rw [ec] at S
      rw [if_pos z, of_S (by omega)]
      dsimp only
      exact ⟨⟨vL (by decide), fun _ => ⟨osum, ones_o _, fun y14 e14 => ⟨fun _ => vin, fun y16 v17 e16 e17 => by rw [e16, e17, e14, if_neg n10]; exact S.1⟩⟩⟩, S.2⟩
theorem pop_nz : ∀ {N u : Nat}, 1 ≤ u → u < 2 ^ N → 1 ≤ pop N u := by
  intro N u h1 h2
  by_cases z : pop N u = 0
  · exfalso
    have hz : ∀ i, i < N → u.testBit i = false := by
      have : ∀ M, pop M u = 0 → ∀ i, i < M → u.testBit i = false := by
        intro M
        induction M with
        | zero => intro _ i hi; omega
        | succ M ih =>
          intro h i hi
          have h : pop M u + (if u.testBit M = true then 1 else 0) = 0 := h
          by_cases zt : u.testBit M = true
          · rw [if_pos zt] at h; omega
          · rw [if_neg zt] at h
            by_cases e : i = M
            · rw [e]; exact Bool.eq_false_iff.mpr zt
            · exact ih (by omega) i (by omega)
      exact this N z
    have : u = 0 := Nat.eq_of_testBit_eq (fun i => by
      rw [Nat.zero_testBit]
      by_cases hi : i < N
      · exact hz i hi
      · exact Nat.testBit_lt_two_pow (Nat.lt_of_lt_of_le h2 (Nat.pow_le_pow_right (by decide) (by omega))))
    omega
  · omega
theorem an_mS (hx : ∀ n, n < 6 → ∀ L, L < 15040 → bit x (455 + n) L = (decide (L ≤ 15000) && TB l N n L)) (hN : N ≤ 10) (hL : L < 15001) : anB x L = mS l N (2 ^ N) L := by
  have h : ∀ n, n < 6 → bit x (455 + n) L = TB l N n L := fun n hn => by
    rw [hx n hn L (by omega), decide_eq_true (show L ≤ 15000 by omega), Bool.true_and]
  have e : anB x L = (TB l N 1 L || (TB l N 2 L || (TB l N 3 L || (TB l N 4 L || TB l N 5 L)))) := by
    unfold anB
    rw [h 1 (by omega), h 2 (by omega), h 3 (by omega), h 4 (by omega), h 5 (by omega)]
  rw [e, Bool.eq_iff_iff, mS_t]
  constructor
  · intro h
    have : ∃ n, 1 ≤ n ∧ n ≤ 5 ∧ TB l N n L = true := by
      simp only [Bool.or_eq_true] at h
      rcases h with h | h | h | h | h
      · exact ⟨1, by omega, by omega, h⟩
      · exact ⟨2, by omega, by omega, h⟩
      · exact ⟨3, by omega, by omega, h⟩
      · exact ⟨4, by omega, by omega, h⟩
      · exact ⟨5, by omega, by omega, h⟩
    obtain ⟨n, h1, h2, h3⟩ := this
    obtain ⟨u, u1, u2, u3⟩ := TB_s.mp h3
    refine ⟨u, ?_, u1, by rw [pop_10 u1 hN]; omega, u3⟩
    by_cases z : u = 0
    · rw [z] at u2
      have : ∀ M, pop M 0 = 0 := by
        intro M
        induction M with
        | zero => rfl
        | succ M ih =>
          show pop M 0 + (if Nat.testBit 0 M = true then 1 else 0) = 0
          rw [ih, Nat.zero_testBit]
          rfl
      rw [this] at u2
      omega
    · omega
  · rintro ⟨u, h1, h2, h3, h4⟩
    rw [pop_10 h2 hN] at h3
    have hn := pop_nz h1 h2
    have hT : TB l N (pop N u) L = true := TB_s.mpr ⟨u, h2, rfl, h4⟩
    generalize pop N u = n at *
    simp only [Bool.or_eq_true]
    have : n = 1 ∨ n = 2 ∨ n = 3 ∨ n = 4 ∨ n = 5 := by omega
    rcases this with e | e | e | e | e <;> rw [e] at hT
    · exact Or.inl hT
    · exact Or.inr (Or.inl hT)
    · exact Or.inr (Or.inr (Or.inl hT))
    · exact Or.inr (Or.inr (Or.inr (Or.inl hT)))
    · exact Or.inr (Or.inr (Or.inr (Or.inr hT)))
theorem t_stackable (hI : Inv n m v) (x : gX) : oX10_stackable 448 v x ∧ oX11_stackable 461 v ∧ QS7 v (fX11_stackable 461 v).2 0 ∧ (fX10_stackable 448 v x).1 = (fX11_stackable 461 v).1 := by
  obtain ⟨T1, T2⟩ := tab_t hI x
  have hN : ((v 462) 204).toNatClampNeg ≤ 10 := by have := inn_lt hI.wf.1.2.1; omega
  have C := cl4 (x := fX6_fill 453 (rN (v 448 0) + 1) v x) ((Int32.toInt 235 - Int32.toInt 0).toNat + 1) 0 (by omega) (by rw [show Int32.toInt 235 = 235 from rfl, show Int32.toInt 0 = 0 from rfl]; omega)
  obtain ⟨s1, s2, s3⟩ := st7 15002 0 0 (u2 v 461 8 0) rfl (by omega) (by omega) (fun i hi => by omega)
  have hsh := sh_le hI.wf.1.2.1
  have e2 : (1 <<< (v 462 204 &&& 31) : Int32).toInt = ((2 ^ ((v 462) 204).toNatClampNeg : Nat) : Int) := by rw [hsh.2.1]; exact (Int.natCast_pow 2 _).symm
  have hpos : 0 < 2 ^ ((v 462) 204).toNatClampNeg := Nat.two_pow_pos _
  have M := st31 (v := u2 v 461 8 0) (by rw [k462']; exact hI.wf) ((Int32.toInt (1 <<< (v 462 204 &&& 31) : Int32) - Int32.toInt 1).toNat + 1) 1 (lX11_stackable_7 15002 0 (u2 v 461 8 0)) (Nat.le_refl _) (by rw [k462']; omega) (by rw [k462', e2, show Int32.toInt 1 = 1 from rfl]; omega) s2 (fun i hi => by
    rw [s3 i hi, if_neg (show ¬ mS _ _ 1 i = true from by
      show ¬ (false || (decide (1 ≤ 0) && _ && _)) = true
      simp)])
  rw [k462', fc_0 (n := 15001) (fun i _ => by
      show (false || (decide (1 ≤ 0) && _ && _)) = false
      simp)] at M
  have e4 : lX11_stackable_7 15002 0 (u2 v 461 8 0) 462 = v 462 := by rw [s2 462 (by decide), k462']
  obtain ⟨m1, m2, m3⟩ := M
  have m1 : olX11_stackable_31 461 ((Int32.toInt (1 <<< (v 462 204 &&& 31) : Int32) - Int32.toInt 1).toNat + 1) 1 0 (lX11_stackable_7 15002 0 (u2 v 461 8 0)) := m1
  have m2 : (lX11_stackable_31 461 ((Int32.toInt (1 <<< (v 462 204 &&& 31) : Int32) - Int32.toInt 1).toNat + 1) 1 0 (lX11_stackable_7 15002 0 (u2 v 461 8 0))).1 = _ := m2
  have m3 : ∀ q, q ≠ 467 → (lX11_stackable_31 461 ((Int32.toInt (1 <<< (v 462 204 &&& 31) : Int32) - Int32.toInt 1).toNat + 1) 1 0 (lX11_stackable_7 15002 0 (u2 v 461 8 0))).2 q = u2 v 461 8 0 q := m3
  unfold oX10_stackable oX11_stackable fX10_stackable fX11_stackable
  rw [show (204 : Int32).toNatClampNeg = 204 from rfl]
  dsimp only
  rw [e4, m2]
  refine ⟨⟨hI.1.1.1, T1, fun x3 e3 => ?_⟩, fun v1 e1 => ⟨by rw [e1]; exact s1, fun v4 e4' => by rw [e4', e1, e4]; exact m1⟩, ⟨fun q h1 h2 => ?_, fun f hf => ?_, ?_⟩, ?_⟩
  · rw [e3]; exact C.1
  · rw [m3 q h2, u2_r h1]
  · rw [m3 461 (by decide), u2_q, if_neg hf]
  · rw [m3 461 (by decide), u2_q, if_pos rfl]
  · unfold fX6_countLengths
    dsimp only
    have C2 : lX6_countLengths_4 (fX6_fill 453 (rN (v 448 0) + 1) v x) ((Int32.toInt 235 - Int32.toInt 0).toNat + 1) 0 0 = Int32.ofNat (fc (anB (fX6_fill 453 (rN (v 448 0) + 1) v x)) 0 15040) := C.2
    have h : ∀ i, i < 39 → anB (fX6_fill 453 (rN (v 448 0) + 1) v x) (0 + 15001 + i) = false := fun i hi => by
      have h : ∀ n, n < 6 → bit (fX6_fill 453 (rN (v 448 0) + 1) v x) (455 + n) (0 + 15001 + i) = false := fun n hn => by
        rw [T2 n hn _ (by omega), decide_eq_false (show ¬ 0 + 15001 + i ≤ 15000 by omega), Bool.false_and]
      unfold anB
      rw [h 1 (by omega), h 2 (by omega), h 3 (by omega), h 4 (by omega), h 5 (by omega)]
      rfl
    have ec : fc (anB (fX6_fill 453 (rN (v 448 0) + 1) v x)) 0 (15001 + 39) = fc (mS (bL (v 462)) (((v 462) 204).toNatClampNeg) (2 ^ ((v 462) 204).toNatClampNeg)) 0 15001 := by
      rw [fc_ad, fc_0 (n := 39) h, Nat.add_zero]
      exact fc_cg (fun i hi => by rw [Nat.zero_add]; exact an_mS T2 hN hi)
    rw [C2, show 15040 = 15001 + 39 from rfl, ec]
end T45e
