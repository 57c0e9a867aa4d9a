/-! THE PLAIN PART 16b: the table, and which lengths so many blocks make. -/
section T45b
variable {x x0 : gX} {q q1 q2 L n m k len w i j b o : Nat} {v : vSt} {a : Int64} {A : Ar} {p : Int32} {P : Nat → Bool}
/-- whether n of the first b blocks make the length L -/
def TB (l : Nat → Nat) : Nat → Nat → Nat → Bool
  | 0, n, L => decide (n = 0) && decide (L = 0)
  | b + 1, 0, L => TB l b 0 L
  | b + 1, n + 1, L => TB l b (n + 1) L || (decide (l b ≤ L) && TB l b n (L - l b))
theorem i0 : Int32.ofNat 0 = (0 : Int32) := rfl
theorem TB_S {l : Nat → Nat} (h : 1 ≤ j) : TB l (b + 1) j L = (TB l b j L || (decide (l b ≤ L) && TB l b (j - 1) (L - l b))) := by
  cases j with
  | zero => omega
  | succ j => rfl
theorem z0_l : ∀ fl j (s : Int32) (x : gX), s = Int32.ofNat j → j ≤ 235 → 235 < fl + j → (∀ i, i < j → x.1 q i = 0) →
    olJ7_fill_d0a16_6 q 0 fl s x ∧ (∀ i, i < 235 → (lJ7_fill_d0a16_6 q 0 fl s x).1 q i = 0) ∧ (∀ q', q' ≠ q → (lJ7_fill_d0a16_6 q 0 fl s x).1 q' = x.1 q') ∧ (lJ7_fill_d0a16_6 q 0 fl s x).2 = x.2 := by
  intro fl
  induction fl with
  | zero => intro j s x hs a1 a2; omega
  | succ fl ih =>
    intro j s x hs a1 a2 hx
    rw [hs]
    unfold lJ7_fill_d0a16_6 olJ7_fill_d0a16_6
    have e1 := ofle (k := 235) (n := j) (by omega) (by omega)
    rw [show Int32.ofNat 235 = (235 : Int32) from rfl] at e1
    by_cases hj : 235 ≤ j
    · rw [if_pos (e1.mpr hj)]
      exact ⟨fun z => absurd (e1.mpr hj) z, fun i hi => hx i (by omega), fun _ _ => rfl, rfl⟩
    have rr := ih (j + 1) _ (xu x q j 0) rfl (by omega) (by omega) (fun i hi => by
      show (if q = q ∧ i = j then 0 else x.1 q i) = 0
      by_cases z : i = j
      · rw [if_pos ⟨rfl, z⟩]
      · rw [if_neg (fun y => z y.2)]; exact hx i (by omega))
    rw [if_neg (mt e1.mp hj), to_of (by omega), of_S (by omega)]
    dsimp only
    refine ⟨fun _ => ⟨by have := inn_of (show j < 235 by omega) (by decide); exact i_in this.1 this.2, fun x5 e5 => by rw [e5]; exact rr.1⟩, rr.2.1, fun q' hq' => ?_, rr.2.2.2⟩
    rw [rr.2.2.1 q' hq']
    funext i
    exact if_neg (fun y => hq' y.1)
theorem z0_t : oJ7_fill_d0a16 q 0 v x ∧ (∀ i, i < 235 → (fJ7_fill_d0a16 q 0 v x).1 q i = 0) ∧ (∀ q', q' ≠ q → (fJ7_fill_d0a16 q 0 v x).1 q' = x.1 q') ∧ (fJ7_fill_d0a16 q 0 v x).2 = x.2 := by
  have h := z0_l (q := q) ((Int32.toInt 235 - Int32.toInt 0).toNat + 1) 0 0 x rfl (by omega) (by rw [show Int32.toInt 235 = 235 from rfl, show Int32.toInt 0 = 0 from rfl]; omega) (fun i h => by omega)
  unfold oJ7_fill_d0a16 fJ7_fill_d0a16
  dsimp only
  exact h
theorem fl2 : ∀ fl j (s : Int32) (x : gX), s = Int32.ofNat j → j ≤ 6 → 6 < fl + j → (∀ n, n < j → ∀ i, i < 235 → x.1 (455 + n) i = 0) →
    olX6_fill_2 v fl s x ∧ (∀ n, n < 6 → ∀ i, i < 235 → (lX6_fill_2 v fl s x).1 (455 + n) i = 0) ∧ (∀ q', (q' < 455 ∨ 461 ≤ q') → (lX6_fill_2 v fl s x).1 q' = x.1 q') ∧ (lX6_fill_2 v fl s x).2 = x.2 := by
  intro fl
  induction fl with
  | zero => intro j s x hs a1 a2; omega
  | succ fl ih =>
    intro j s x hs a1 a2 hx
    rw [hs]
    unfold lX6_fill_2 olX6_fill_2
    have e1 := ofle (k := 6) (n := j) (by omega) (by omega)
    rw [show Int32.ofNat 6 = (6 : Int32) from rfl] at e1
    by_cases hj : 6 ≤ j
    · rw [if_pos (e1.mpr hj)]
      exact ⟨fun z => absurd (e1.mpr hj) z, fun n hn => hx n (by omega), fun _ _ => rfl, rfl⟩
    obtain ⟨z1, z2, z3, z4⟩ := z0_t (q := 455 + j) (v := v) (x := x)
    have rr := ih (j + 1) _ (fJ7_fill_d0a16 (455 + j) 0 v x) rfl (by omega) (by omega) (fun n hn i hi => by
      by_cases z : n = j
      · have h0 := z2 i hi
        rw [z]
        generalize fJ7_fill_d0a16 (455 + j) 0 v x = y at h0 ⊢
        exact h0
      · rw [z3 _ (by omega)]; exact hx n (by omega) i hi)
    rw [if_neg (mt e1.mp hj), to_of (by omega), of_S (by omega)]
    dsimp only
    refine ⟨fun _ => ⟨by have := inn_of (show j < 6 by omega) (by decide); exact i_in this.1 this.2, z1, fun x5 e5 => by rw [e5]; exact rr.1⟩, rr.2.1, fun q' hq' => ?_, by rw [rr.2.2.2, z4]⟩
    rw [rr.2.2.1 q' hq', z3 _ (by omega)]
/-- one block is put to the rows, the most blocks first -/
theorem fl48 {l : Nat → Nat} (hv : v (((o + 3) + 20) + b) 0 = Int32.ofNat (l b)) (hl : l b ≤ 15000) (hb : b < 10) : ∀ fl j (x : gX), j ≤ 5 → j < fl →
    (∀ n, n < 6 → ∀ L, L < 15040 → bit x (455 + n) L = (decide (L ≤ 15000) && (if n ≤ j then TB l b n L else TB l (b + 1) n L))) →
    olX6_fill_48 v o (Int32.ofNat b) fl (Int32.ofNat j) x ∧ (∀ n, n < 6 → ∀ L, L < 15040 → bit (lX6_fill_48 v o (Int32.ofNat b) fl (Int32.ofNat j) x) (455 + n) L = (decide (L ≤ 15000) && TB l (b + 1) n L)) ∧
    (∀ q', (q' < 455 ∨ 461 ≤ q') → (lX6_fill_48 v o (Int32.ofNat b) fl (Int32.ofNat j) x).1 q' = x.1 q') ∧ (lX6_fill_48 v o (Int32.ofNat b) fl (Int32.ofNat j) x).2 = x.2 := by
  intro fl
  induction fl with
  | zero => intro j x a1 a2; omega
  | succ fl ih =>
    intro j x a1 a2 hx
    unfold lX6_fill_48 olX6_fill_48
    have e1 := ofle (k := j) (n := 0) (by omega) (by omega)
    rw [i0] at e1
    by_cases hj : j ≤ 0
    · rw [if_pos (e1.mpr hj)]
      refine ⟨fun z => absurd (e1.mpr hj) z, fun n hn L hL => ?_, fun _ _ => rfl, rfl⟩
      rw [hx n hn L hL]
      by_cases z : n ≤ j
      · rw [if_pos z, show n = 0 by omega]; rfl
      · rw [if_neg z]
    rw [if_neg (mt e1.mp hj), ofn1' (by omega) (by omega), ofn1 (by omega) (by omega), to_of (by omega), to_of (show j < 2 ^ 31 by omega), to_of (show b < 2 ^ 31 by omega), hv]
    obtain ⟨p1, p2, p3, p4⟩ := ps_t (q1 := 455 + (j - 1)) (q2 := 455 + j) (v := v) (x := x) (by omega) hl
    have rr := ih (j - 1) (fX6_putShifted (455 + (j - 1)) (455 + j) (Int32.ofNat (l b)) v x) (by omega) (by omega) (fun n hn L hL => by
      by_cases z : n = j
      · rw [z, p4 L hL, if_neg (by omega), hx j (by omega) L hL, if_pos (Nat.le_refl _)]
        by_cases zL : L ≤ 15000
        · rw [decide_eq_true zL, Bool.true_and, Bool.true_and, Bool.true_and, TB_S (by omega)]
          congr 1
          by_cases zl : l b ≤ L
          · rw [hx (j - 1) (by omega) (L - l b) (by omega), if_pos (by omega), decide_eq_true (show L - l b ≤ 15000 by omega), Bool.true_and]
          · rw [decide_eq_false zl, Bool.false_and, Bool.false_and]
        · rw [decide_eq_false zL, Bool.false_and, Bool.false_and]
      · have : bit (fX6_putShifted (455 + (j - 1)) (455 + j) (Int32.ofNat (l b)) v x) (455 + n) L = bit x (455 + n) L := by
          unfold bit
          rw [p3 _ (by omega)]
        rw [this, hx n hn L hL]
        by_cases z2 : n ≤ j
        · rw [if_pos z2, if_pos (by omega)]
        · rw [if_neg z2, if_neg (by omega)])
    dsimp only
    have vi : ∀ {n N : Nat}, n < N → N ≤ 10 → vp_in (Int32.ofNat n) N := fun {n N} h h2 => by have := inn_of h (by omega); exact i_in this.1 this.2
    refine ⟨fun _ => ⟨vi (by omega) (by omega), vi (by omega) (by omega), vi hb (by omega), p1, fun x18 e18 => by rw [e18]; exact rr.1⟩, rr.2.1, fun q' hq' => ?_, by rw [rr.2.2.2, p2]⟩
    rw [rr.2.2.1 q' hq', p3 _ (by omega)]
theorem fl38 {l : Nat → Nat} {N : Nat} (hN : v o 3 = Int32.ofNat N) (hv : ∀ b, b < N → v (((o + 3) + 20) + b) 0 = Int32.ofNat (l b) ∧ l b ≤ 15000) (h10 : N ≤ 10) : ∀ fl b (s : Int32) (x : gX), s = Int32.ofNat b → b ≤ N → N < fl + b →
    (∀ n, n < 6 → ∀ L, L < 15040 → bit x (455 + n) L = (decide (L ≤ 15000) && TB l b n L)) →
    olX6_fill_38 v o fl s x ∧ (∀ n, n < 6 → ∀ L, L < 15040 → bit (lX6_fill_38 v o fl s x) (455 + n) L = (decide (L ≤ 15000) && TB l N n L)) ∧
    (∀ q', (q' < 455 ∨ 461 ≤ q') → (lX6_fill_38 v o fl s x).1 q' = x.1 q') ∧ (lX6_fill_38 v o fl s x).2 = x.2 := by
  intro fl
  induction fl with
  | zero => intro j s x hs a1 a2; omega
  | succ fl ih =>
    intro b s x hs a1 a2 hx
    rw [hs]
    unfold lX6_fill_38 olX6_fill_38
    rw [hN]
    have e1 := ofle (k := N) (n := b) (by omega) (by omega)
    by_cases hb : N ≤ b
    · rw [if_pos (e1.mpr hb)]
      rw [show b = N by omega] at hx
      exact ⟨fun z => absurd (e1.mpr hb) z, hx, fun _ _ => rfl, rfl⟩
    obtain ⟨r1, r2, r3, r4⟩ := fl48 (o := o) (v := v) (l := l) (b := b) (hv b (by omega)).1 (hv b (by omega)).2 (by omega) 7 5 x (by omega) (by omega) (fun n hn L hL => by rw [hx n hn L hL, if_pos (by omega)])
    rw [show Int32.ofNat 5 = (5 : Int32) from rfl] at r1 r2 r3 r4
    rw [if_neg (mt e1.mp hb), if_neg (ncap10 (k := b) (by omega)), of_S (by omega)]
    dsimp only
    generalize lX6_fill_48 v o (Int32.ofNat b) 7 5 x = x13 at *
    have rr := ih (b + 1) _ x13 rfl (by omega) (by omega) r2
    exact ⟨fun _ _ => ⟨r1, fun x13' e13 => by rw [e13]; exact rr.1⟩, rr.2.1, fun q' hq' => by rw [rr.2.2.1 q' hq', r3 q' hq'], by rw [rr.2.2.2, r4]⟩
theorem fill_t {l : Nat → Nat} {N : Nat} (hN : v o 3 = Int32.ofNat N) (hv : ∀ b, b < N → v (((o + 3) + 20) + b) 0 = Int32.ofNat (l b) ∧ l b ≤ 15000) (h10 : N ≤ 10) :
    oX6_fill 453 o v x ∧ (∀ n, n < 6 → ∀ L, L < 15040 → bit (fX6_fill 453 o v x) (455 + n) L = (decide (L ≤ 15000) && TB l N n L)) ∧
    (∀ q', (q' < 455 ∨ 461 ≤ q') → (fX6_fill 453 o v x).1 q' = x.1 q') ∧ (fX6_fill 453 o v x).2 = x.2 := by
  obtain ⟨r1, r2, r3, r4⟩ := fl2 (v := v) ((Int32.toInt 6 - Int32.toInt 0).toNat + 1) 0 0 x rfl (by omega) (by decide) (fun n h => by omega)
  unfold oX6_fill fX6_fill
  dsimp only
  rw [hN]
  generalize lX6_fill_2 v ((Int32.toInt 6 - Int32.toInt 0).toNat + 1) 0 x = x3 at *
  rw [show 455 + (0 : Int32).toNatClampNeg = 455 from rfl, show (0 : Int32).toNatClampNeg = 0 from rfl]
  have hz : ∀ i, (0 : Int64).toBitVec.getLsbD i = false := fun i => BitVec.getLsbD_zero
  have h1 : ∀ i, i < 64 → (1 : Int64).toBitVec.getLsbD i = decide (i = 0) := by decide
  obtain ⟨s1, s2, s3, s4⟩ := fl38 (v := v) (o := o) (l := l) hN hv h10 ((Int32.toInt (Int32.ofNat N) - Int32.toInt 0).toNat + 1) 0 0 (xu x3 455 0 1) rfl (by omega) (by rw [of_ti (by omega), show Int32.toInt 0 = 0 from rfl]; omega) (fun n hn L hL => by
    show (if 455 + n = 455 ∧ L / 64 = 0 then (1 : Int64) else x3.1 (455 + n) (L / 64)).toBitVec.getLsbD (L % 64) = (decide (L ≤ 15000) && (decide (n = 0) && decide (L = 0)))
    by_cases z : 455 + n = 455 ∧ L / 64 = 0
    · rw [if_pos z, h1 _ (by omega), decide_eq_true (show n = 0 by omega), decide_eq_true (show L ≤ 15000 by omega)]
      simp only [Bool.true_and]
      exact decide_eq_decide.mpr (by omega)
    · rw [if_neg z, r2 n hn _ (by omega), hz]
      symm
      rw [Bool.and_eq_false_iff]
      right
      rw [Bool.and_eq_false_iff]
      by_cases z2 : n = 0
      · right; exact decide_eq_false (fun e => z ⟨by omega, by omega⟩)
      · left; exact decide_eq_false z2)
  refine ⟨⟨r1, fun x3' e3 x7 e7 => ?_⟩, s2, fun q' hq' => ?_, by rw [s4]; exact r4⟩
  · rw [e7, e3]; exact s1
  · rw [s3 q' hq', ← r3 q' hq']
    funext i
    exact if_neg (fun y => by have := y.1; omega)
-- the sets
def pop : Nat → Nat → Nat
  | 0, _ => 0
  | b + 1, s => pop b s + (if s.testBit b = true then 1 else 0)
def smL (l : Nat → Nat) : Nat → Nat → Nat
  | 0, _ => 0
  | b + 1, s => smL l b s + (if s.testBit b = true then l b else 0)
theorem pop_cg {s t : Nat} : ∀ {b : Nat}, (∀ i, i < b → s.testBit i = t.testBit i) → pop b s = pop b t
  | 0, _ => rfl
  | b + 1, h => by
    show pop b s + _ = pop b t + _
    rw [pop_cg (b := b) (fun i hi => h i (by omega)), h b (by omega)]
theorem smL_cg {l : Nat → Nat} {s t : Nat} : ∀ {b : Nat}, (∀ i, i < b → s.testBit i = t.testBit i) → smL l b s = smL l b t
  | 0, _ => rfl
  | b + 1, h => by
    show smL l b s + _ = smL l b t + _
    rw [smL_cg (b := b) (fun i hi => h i (by omega)), h b (by omega)]
theorem pop_le {s : Nat} : ∀ {b : Nat}, pop b s ≤ b
  | 0 => Nat.le_refl _
  | b + 1 => by
    show pop b s + _ ≤ b + 1
    have := pop_le (s := s) (b := b)
    split <;> omega
theorem TB_s {l : Nat → Nat} : ∀ {b n L : Nat}, TB l b n L = true ↔ ∃ s, s < 2 ^ b ∧ pop b s = n ∧ smL l b s = L
  | 0, n, L => by
    show (decide (n = 0) && decide (L = 0)) = true ↔ _
    rw [Bool.and_eq_true, decide_eq_true_iff, decide_eq_true_iff]
    refine ⟨fun h => ⟨0, by decide, h.1.symm, h.2.symm⟩, fun ⟨s, _, h1, h2⟩ => ⟨h1.symm, h2.symm⟩⟩
  | b + 1, n, L => by
    have e2 : 2 ^ (b + 1) = 2 * 2 ^ b := by rw [Nat.pow_succ]; omega
    -- a set without the block b, a set with it
    have lo : ∀ s, s < 2 ^ b → pop (b + 1) s = pop b s ∧ smL l (b + 1) s = smL l b s := fun s hs => by
      have ht : s.testBit b = false := Nat.testBit_lt_two_pow hs
      refine ⟨?_, ?_⟩
      · show pop b s + _ = _
        rw [ht, if_neg (by decide), Nat.add_zero]
      · show smL l b s + _ = _
        rw [ht, if_neg (by decide), Nat.add_zero]
    have hi : ∀ s, s < 2 ^ b → pop (b + 1) (2 ^ b + s) = pop b s + 1 ∧ smL l (b + 1) (2 ^ b + s) = smL l b s + l b := fun s hs => by
      have ht : (2 ^ b + s).testBit b = true := by
        rw [Nat.testBit_two_pow_add_eq, Nat.testBit_lt_two_pow hs]; rfl
      have hc : ∀ i, i < b → (2 ^ b + s).testBit i = s.testBit i := fun i hi => Nat.testBit_two_pow_add_gt hi s
      refine ⟨?_, ?_⟩
      · show pop b (2 ^ b + s) + _ = _
        rw [ht, if_pos rfl, pop_cg hc]
      · show smL l b (2 ^ b + s) + _ = _
        rw [ht, if_pos rfl, smL_cg hc]
    have step : (∃ s, s < 2 ^ (b + 1) ∧ pop (b + 1) s = n ∧ smL l (b + 1) s = L) ↔ (∃ s, s < 2 ^ b ∧ pop b s = n ∧ smL l b s = L) ∨ (1 ≤ n ∧ l b ≤ L ∧ ∃ s, s < 2 ^ b ∧ pop b s = n - 1 ∧ smL l b s = L - l b) := by
      constructor
      · rintro ⟨s, h1, h2, h3⟩
        by_cases hs : s < 2 ^ b
        · left
          rw [(lo s hs).1] at h2
          rw [(lo s hs).2] at h3
          exact ⟨s, hs, h2, h3⟩
        · right
          have es : s = 2 ^ b + (s - 2 ^ b) := by omega
          have hs' : s - 2 ^ b < 2 ^ b := by omega
          rw [es] at h2 h3
          rw [(hi _ hs').1] at h2
          rw [(hi _ hs').2] at h3
          exact ⟨by omega, by omega, s - 2 ^ b, hs', by omega, by omega⟩
      · rintro (⟨s, h1, h2, h3⟩ | ⟨h0, hL, s, h1, h2, h3⟩)
        · exact ⟨s, by omega, by rw [(lo s h1).1]; exact h2, by rw [(lo s h1).2]; exact h3⟩
        · exact ⟨2 ^ b + s, by omega, by rw [(hi s h1).1]; omega, by rw [(hi s h1).2]; omega⟩
    rw [step]
    cases n with
    | zero =>
      show TB l b 0 L = true ↔ _
      rw [TB_s (b := b) (n := 0) (L := L)]
      exact ⟨Or.inl, fun h => h.elim id (fun h => by omega)⟩
    | succ n =>
      show (TB l b (n + 1) L || (decide (l b ≤ L) && TB l b n (L - l b))) = true ↔ _
      rw [Bool.or_eq_true, Bool.and_eq_true, decide_eq_true_iff, TB_s (b := b) (n := n + 1) (L := L), TB_s (b := b) (n := n) (L := L - l b), Nat.add_sub_cancel]
      exact ⟨fun h => h.elim Or.inl (fun h => Or.inr ⟨by omega, h⟩), fun h => h.elim Or.inl (fun h => Or.inr h.2)⟩
end T45b
