/-! THE PLAIN PART 16a: a row's lengths are shifted into the next row. -/
section T45a
variable {x x0 : gX} {q q1 q2 L n m k len w i j : Nat} {v : vSt} {a : Int64}
def bit (x : gX) (q L : Nat) : Bool := (x.1 q (L / 64)).toBitVec.getLsbD (L % 64)
theorem sh_n : ∀ k, k < 64 → (((Int32.ofNat k).toInt64 &&& 63).toBitVec.smod 64).toNat = k := by decide
theorem sr_n : ∀ k, k < 64 → (((Int32.ofNat k).toInt64.toUInt64 &&& Int64.toUInt64 63).toBitVec % 64).toNat = k := by decide
theorem lsl_b (hk : k < 64) : (lsl a (Int32.ofNat k)).toBitVec.getLsbD i = (decide (i < 64) && !decide (i < k) && a.toBitVec.getLsbD (i - k)) := by
  show (a.toBitVec <<< (((Int32.ofNat k).toInt64 &&& 63).toBitVec.smod 64).toNat).getLsbD i = _
  rw [sh_n k hk, BitVec.getLsbD_shiftLeft]
theorem lsr_b (hk : k < 64) : (lsr a (Int32.ofNat k)).toBitVec.getLsbD i = a.toBitVec.getLsbD (k + i) := by
  show (a.toBitVec >>> (((Int32.ofNat k).toInt64.toUInt64 &&& Int64.toUInt64 63).toBitVec % 64).toNat).getLsbD i = _
  rw [sr_n k hk, BitVec.getLsbD_ushiftRight]
theorem or_b {a b : Int64} : (a ||| b).toBitVec.getLsbD i = (a.toBitVec.getLsbD i || b.toBitVec.getLsbD i) := BitVec.getLsbD_or
theorem and_b {a b : Int64} : (a &&& b).toBitVec.getLsbD i = (a.toBitVec.getLsbD i && b.toBitVec.getLsbD i) := BitVec.getLsbD_and
def shW (x0 : gX) (q1 W B j : Nat) : Int64 := if B = 0 then lsl (x0.1 q1 (j - W)) (Int32.ofNat B) else (if j = W then lsl (x0.1 q1 (j - W)) (Int32.ofNat B) else lsl (x0.1 q1 (j - W)) (Int32.ofNat B) ||| lsr (x0.1 q1 (j - W - 1)) (Int32.ofNat (64 - B)))
theorem shW_b (hB : len % 64 = k) (hW : len / 64 = w) (hj : w ≤ j) (hi : i < 64) : (shW x0 q1 w k j).toBitVec.getLsbD i = (decide (len ≤ 64 * j + i) && bit x0 q1 (64 * j + i - len)) := by
  unfold shW bit
  have hlen : len = 64 * w + k := by omega
  have hk : k < 64 := by omega
  by_cases h1 : k ≤ i
  · have e1 : (64 * j + i - len) / 64 = j - w := by omega
    have e2 : (64 * j + i - len) % 64 = i - k := by omega
    have e3 : decide (len ≤ 64 * j + i) = true := decide_eq_true (by omega)
    have e4 : (lsl (x0.1 q1 (j - w)) (Int32.ofNat k)).toBitVec.getLsbD i = (x0.1 q1 (j - w)).toBitVec.getLsbD (i - k) := by
      rw [lsl_b hk, decide_eq_true hi, decide_eq_false (show ¬ i < k by omega)]
      simp
    rw [e1, e2, e3, Bool.true_and]
    by_cases h0 : k = 0
    · rw [if_pos h0, e4]
    rw [if_neg h0]
    by_cases h2 : j = w
    · rw [if_pos h2, e4]
    rw [if_neg h2, or_b, e4, lsr_b (by omega)]
    have : (x0.1 q1 (j - w - 1)).toBitVec.getLsbD (64 - k + i) = false := BitVec.getLsbD_of_ge _ _ (by omega)
    rw [this, Bool.or_false]
  · have h0 : k ≠ 0 := by omega
    have e4 : (lsl (x0.1 q1 (j - w)) (Int32.ofNat k)).toBitVec.getLsbD i = false := by
      rw [lsl_b hk, decide_eq_true (show i < k by omega)]
      simp
    rw [if_neg h0]
    by_cases h2 : j = w
    · rw [if_pos h2, e4, decide_eq_false (show ¬ len ≤ 64 * j + i by omega), Bool.false_and]
    · rw [if_neg h2, or_b, e4, lsr_b (by omega), Bool.false_or, decide_eq_true (show len ≤ 64 * j + i by omega), Bool.true_and]
      rw [show (64 * j + i - len) / 64 = j - w - 1 by omega, show (64 * j + i - len) % 64 = 64 - k + i by omega]
/-- the loop over the words -/
theorem ps_l (hq : q1 ≠ q2) (hW : len / 64 = w) (hB : len % 64 = k) (hw : w ≤ 235) (h1 : Int32.ofNat len / 64 = Int32.ofNat w) (h2 : Int32.ofNat len - Int32.ofNat len / 64 * 64 = Int32.ofNat k) : ∀ fl j (x : gX), w ≤ j → j ≤ 235 → 235 < fl + j →
    (∀ q i, x.1 q i = if q = q2 ∧ w ≤ i ∧ i < j then x0.1 q2 i ||| shW x0 q1 w k i else x0.1 q i) → x.2 = x0.2 →
    olX6_putShifted_14 q1 q2 (Int32.ofNat len) fl (Int32.ofNat j) x ∧
    (∀ q i, (lX6_putShifted_14 q1 q2 (Int32.ofNat len) fl (Int32.ofNat j) x).1 q i = if q = q2 ∧ w ≤ i ∧ i < 235 then x0.1 q2 i ||| shW x0 q1 w k i else x0.1 q i) ∧ (lX6_putShifted_14 q1 q2 (Int32.ofNat len) fl (Int32.ofNat j) x).2 = x0.2 := by
  have hk : k < 64 := by omega
  intro fl
  induction fl with
  | zero => intro j x a1 a2 a3; omega
  | succ fl ih =>
    intro j x a1 a2 a3 hx hx2
    unfold lX6_putShifted_14 olX6_putShifted_14
    rw [h2, h1]
    have e1 := ofle (k := 235) (n := j) (by omega) (by omega)
    rw [show Int32.ofNat 235 = (235 : Int32) from rfl] at e1
    by_cases hj : 235 ≤ j
    · rw [if_pos (e1.mpr hj)]
      refine ⟨fun z => absurd (e1.mpr hj) z, ?_, hx2⟩
      rw [show j = 235 by omega] at hx
      exact hx
    have es : Int32.ofNat j - Int32.ofNat w = Int32.ofNat (j - w) := by
      apply Int32.toInt_inj.mp
      rw [of_ti (by omega), ti_sub (by rw [of_ti (by omega), of_ti (by omega)]; omega), of_ti (by omega), of_ti (by omega)]
      omega
    have e64 : (64 : Int32) - Int32.ofNat k = Int32.ofNat (64 - k) := by
      apply Int32.toInt_inj.mp
      rw [of_ti (by omega), ti_sub (by rw [of_ti (by omega), show Int32.toInt 64 = 64 from rfl]; omega), of_ti (by omega), show Int32.toInt 64 = 64 from rfl]
      omega
    have x1 : ∀ i, x.1 q1 i = x0.1 q1 i := fun i => by rw [hx, if_neg (fun z => hq z.1)]
    have x2 : x.1 q2 j = x0.1 q2 j := by rw [hx, if_neg (fun z => by omega)]
    have ek : Int32.ofNat k ≤ 0 ↔ k = 0 := by
      have := ofle (k := k) (n := 0) (by omega) (by omega)
      rw [show Int32.ofNat 0 = (0 : Int32) from rfl] at this
      rw [this]; omega
    have ej : Int32.ofNat j ≤ Int32.ofNat w ↔ j = w := by rw [ofle (by omega) (by omega)]; omega
    have eY : (if Int32.ofNat k ≤ 0 then lsl (x.1 q1 (Int32.ofNat j - Int32.ofNat w).toNatClampNeg) (Int32.ofNat k) else (if Int32.ofNat j ≤ Int32.ofNat w then lsl (x.1 q1 (Int32.ofNat j - Int32.ofNat w).toNatClampNeg) (Int32.ofNat k) else lsl (x.1 q1 (Int32.ofNat j - Int32.ofNat w).toNatClampNeg) (Int32.ofNat k) ||| lsr (x.1 q1 (Int32.ofNat j - Int32.ofNat w - 1).toNatClampNeg) (64 - Int32.ofNat k))) = shW x0 q1 w k j := by
      unfold shW
      rw [es, to_of (by omega), e64, x1]
      by_cases z0 : k = 0
      · rw [if_pos (ek.mpr z0), if_pos z0]
      rw [if_neg (mt ek.mp z0), if_neg z0]
      by_cases z1 : j = w
      · rw [if_pos (ej.mpr z1), if_pos z1]
      rw [if_neg (mt ej.mp z1), if_neg z1, ofn1' (by omega) (by omega), to_of (by omega), x1]
    have vi : ∀ {n : Nat}, n < 235 → vp_in (Int32.ofNat n) 235 := fun {n} h => by have := inn_of h (by decide); exact i_in this.1 this.2
    have rr := ih (j + 1) (xu x q2 j (x0.1 q2 j ||| shW x0 q1 w k j)) (by omega) (by omega) (by omega) (fun q i => by
      show (if q = q2 ∧ i = j then _ else x.1 q i) = _
      by_cases z : q = q2 ∧ i = j
      · rw [if_pos z, if_pos ⟨z.1, by omega, by omega⟩, z.2]
      · rw [if_neg z, hx]
        by_cases z2 : q = q2 ∧ w ≤ i ∧ i < j
        · rw [if_pos z2, if_pos ⟨z2.1, by omega, by omega⟩]
        · rw [if_neg z2, if_neg (fun z3 => z2 ⟨z3.1, z3.2.1, by
            have : i ≠ j := fun e => z ⟨z3.1, e⟩
            omega⟩)]) hx2
    rw [if_neg (mt e1.mp hj)]
    dsimp only
    rw [eY, to_of (show j < 2 ^ 31 by omega), x2, of_S (by omega)]
    refine ⟨fun _ => ⟨by rw [es]; exact vi (by omega), fun z0 z1 => ?_, fun y5 e5 => ⟨vi (by omega), fun x8 e8 => ?_⟩⟩, rr.2⟩
    · have := mt ej.mpr z1
      rw [es, ofn1' (by omega) (by omega)]
      exact vi (by omega)
    · rw [e8, e5]
      exact rr.1
theorem mask_b : ∀ i, i < 64 → (33554431 : Int64).toBitVec.getLsbD i = decide (i < 25) := by decide
/-- all the lengths of a row, each longer by len -/
theorem ps_t (hq : q1 ≠ q2) (hlen : len ≤ 15000) : oX6_putShifted q1 q2 (Int32.ofNat len) v x ∧ (fX6_putShifted q1 q2 (Int32.ofNat len) v x).2 = x.2 ∧ (∀ q, q ≠ q2 → (fX6_putShifted q1 q2 (Int32.ofNat len) v x).1 q = x.1 q) ∧
    ∀ L, L < 15040 → bit (fX6_putShifted q1 q2 (Int32.ofNat len) v x) q2 L = (decide (L ≤ 15000) && (bit x q2 L || (decide (len ≤ L) && bit x q1 (L - len)))) := by
  have h1 : Int32.ofNat len / 64 = Int32.ofNat (len / 64) := by
    apply Int32.toInt_inj.mp
    rw [ti_div (by rw [of_ti (by omega)]; omega) (by decide), of_ti (by omega), of_ti (by omega)]
    rfl
  have h2 : Int32.ofNat len - Int32.ofNat len / 64 * 64 = Int32.ofNat (len % 64) := by
    rw [h1]
    apply Int32.toInt_inj.mp
    have e : (Int32.ofNat (len / 64) * 64).toInt = ((len / 64 * 64 : Nat) : Int) := by
      rw [ti_mul (by rw [of_ti (by omega), show Int32.toInt 64 = 64 from rfl]; omega), of_ti (by omega), show Int32.toInt 64 = 64 from rfl]
      omega
    rw [ti_sub (by rw [e, of_ti (by omega)]; omega), e, of_ti (by omega), of_ti (by omega)]
    omega
  have P := ps_l (x0 := x) hq rfl rfl (by omega) h1 h2 ((Int32.toInt 235 - Int32.toInt (Int32.ofNat (len / 64))).toNat + 1) (len / 64) x (Nat.le_refl _) (by omega) (by rw [of_ti (by omega), show Int32.toInt 235 = 235 from rfl]; omega) (fun q i => by rw [if_neg (fun z => by omega)]) rfl
  unfold oX6_putShifted fX6_putShifted
  rw [h1]
  dsimp only
  generalize lX6_putShifted_14 q1 q2 (Int32.ofNat len) ((Int32.toInt 235 - Int32.toInt (Int32.ofNat (len / 64))).toNat + 1) (Int32.ofNat (len / 64)) x = x3 at P
  obtain ⟨p1, p2, p3⟩ := P
  refine ⟨p1, p3, fun q hq' => ?_, fun L hL => ?_⟩
  · funext i
    show (if q = q2 ∧ i = _ then _ else x3.1 q i) = _
    rw [if_neg (fun z => hq' z.1), p2, if_neg (fun z => hq' z.1)]
  · -- a bit of a word of x3
    have b3 : (x3.1 q2 (L / 64)).toBitVec.getLsbD (L % 64) = (bit x q2 L || (decide (len ≤ L) && bit x q1 (L - len))) := by
      rw [p2]
      by_cases z : len / 64 ≤ L / 64
      · rw [if_pos ⟨rfl, z, by omega⟩, or_b, shW_b rfl rfl z (by omega), show 64 * (L / 64) + L % 64 = L by omega]
        rfl
      · rw [if_neg (fun y => z y.2.1), decide_eq_false (show ¬ len ≤ L by omega), Bool.false_and, Bool.or_false]
        rfl
    show (if q2 = q2 ∧ L / 64 = (234 : Int32).toNatClampNeg then (x3.1 q2 (234 : Int32).toNatClampNeg) &&& (33554431 : Int64) else x3.1 q2 (L / 64)).toBitVec.getLsbD (L % 64) = _
    rw [show (234 : Int32).toNatClampNeg = 234 from rfl]
    by_cases z : L / 64 = 234
    · rw [if_pos ⟨rfl, z⟩, and_b, mask_b _ (by omega), ← z, b3, Bool.and_comm]
      congr 1
      exact decide_eq_decide.mpr (by omega)
    · rw [if_neg (fun y => z y.2), b3, decide_eq_true (show L ≤ 15000 by omega), Bool.true_and]
end T45a
