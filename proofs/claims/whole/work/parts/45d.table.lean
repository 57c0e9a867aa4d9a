/-! THE PLAIN PART 16d: the bits of a word are counted. -/
section T45d
variable {n k b r c d i m a : Nat} {w : Int64}
def mk8 (c : Nat) : Nat → Nat
  | 0 => 0
  | k + 1 => c + 256 * mk8 c k
theorem and_sp (ha : a < 256) (hc : c < 256) : (a + 256 * r) &&& (c + 256 * m) = (a &&& c) + 256 * (r &&& m) := by
  have hac : a &&& c < 2 ^ 8 := Nat.lt_of_le_of_lt Nat.and_le_left ha
  apply Nat.eq_of_testBit_eq
  intro i
  rw [Nat.testBit_and, Nat.add_comm a, Nat.add_comm c, Nat.add_comm (a &&& c), show (256 : Nat) = 2 ^ 8 from rfl, Nat.testBit_two_pow_mul_add _ ha, Nat.testBit_two_pow_mul_add _ hc, Nat.testBit_two_pow_mul_add _ hac]
  by_cases h : i < 8
  · rw [if_pos h, if_pos h, if_pos h, Nat.testBit_and]
  · rw [if_neg h, if_neg h, if_neg h, Nat.testBit_and]
def bA (k n : Nat) : Nat := n - ((n / 2) &&& mk8 85 k)
def bB (k y : Nat) : Nat := (y &&& mk8 51 k) + ((y / 4) &&& mk8 51 k)
def bZ (k y : Nat) : Nat := (y + y / 16) &&& mk8 15 k
theorem cA : ∀ b, b < 256 → ∀ e, e < 2 → (b / 2 + 128 * e) &&& 85 = (b / 2) &&& 85 := by decide +kernel
theorem cB : ∀ b, b < 256 → ∀ e, e < 4 → (b / 4 + 64 * e) &&& 51 = (b / 4) &&& 51 := by decide +kernel
theorem cZ : ∀ d, d < 69 → ∀ e, e < 5 → (d + d / 16 + 16 * e) &&& 15 = (d + d / 16) &&& 15 := by decide +kernel
def a1 (b : Nat) : Nat := b - ((b / 2) &&& 85)
def b1 (c : Nat) : Nat := (c &&& 51) + ((c / 4) &&& 51)
theorem cV : ∀ b, b < 256 → b1 (a1 b) < 69 ∧ b1 (a1 b) % 16 ≤ 4 ∧ (b1 (a1 b) + b1 (a1 b) / 16) &&& 15 = pop 8 b ∧ pop 8 b ≤ 8 := by decide +kernel
theorem bA_S (hb : b < 256) : bA (k + 1) (b + 256 * r) = a1 b + 256 * bA k r := by
  have e : (b + 256 * r) / 2 = (b / 2 + 128 * (r % 2)) + 256 * (r / 2) := by omega
  have hl : (b / 2) &&& 85 ≤ b / 2 := Nat.and_le_left
  have hr : (r / 2) &&& mk8 85 k ≤ r / 2 := Nat.and_le_left
  show b + 256 * r - (((b + 256 * r) / 2) &&& (85 + 256 * mk8 85 k)) = (b - ((b / 2) &&& 85)) + 256 * (r - ((r / 2) &&& mk8 85 k))
  rw [e, and_sp (by omega) (by omega), cA b hb _ (by omega)]
  omega
theorem bB_S (hc : c < 256) : bB (k + 1) (c + 256 * r) = b1 c + 256 * bB k r := by
  have e : (c + 256 * r) / 4 = (c / 4 + 64 * (r % 4)) + 256 * (r / 4) := by omega
  show ((c + 256 * r) &&& (51 + 256 * mk8 51 k)) + (((c + 256 * r) / 4) &&& (51 + 256 * mk8 51 k)) = ((c &&& 51) + ((c / 4) &&& 51)) + 256 * ((r &&& mk8 51 k) + ((r / 4) &&& mk8 51 k))
  rw [e, and_sp hc (by omega), and_sp (by omega) (by omega), cB c hc _ (by omega)]
  omega
theorem bZ_S (hd : d < 69) (hr : r % 16 ≤ 4) : bZ (k + 1) (d + 256 * r) = ((d + d / 16) &&& 15) + 256 * bZ k r := by
  have e : (d + 256 * r) + (d + 256 * r) / 16 = (d + d / 16 + 16 * (r % 16)) + 256 * (r + r / 16) := by omega
  show ((d + 256 * r) + (d + 256 * r) / 16) &&& (15 + 256 * mk8 15 k) = _ + 256 * ((r + r / 16) &&& mk8 15 k)
  rw [e, and_sp (by omega) (by omega), cZ d hd _ (by omega)]
def pS : Nat → Nat → Nat
  | 0, _ => 0
  | k + 1, n => pop 8 (n % 256) + 256 * pS k (n / 256)
def pTn : Nat → Nat → Nat
  | 0, _ => 0
  | k + 1, n => pop 8 (n % 256) + pTn k (n / 256)
theorem bV : ∀ {k n : Nat}, bB k (bA k n) % 16 ≤ 4 ∧ bZ k (bB k (bA k n)) = pS k n
  | 0, n => by
    have e0 : bB 0 (bA 0 n) = 0 := by
      show (bA 0 n &&& 0) + ((bA 0 n / 4) &&& 0) = 0
      rw [Nat.and_zero, Nat.and_zero]
    rw [e0]
    exact ⟨by decide, rfl⟩
  | k + 1, n => by
    have hn : n = n % 256 + 256 * (n / 256) := by omega
    obtain ⟨h1, h2⟩ := bV (k := k) (n := n / 256)
    obtain ⟨v1, v2, v3, v4⟩ := cV (n % 256) (by omega)
    have ha : a1 (n % 256) < 256 := by
      show n % 256 - _ < 256
      omega
    have e : bB (k + 1) (bA (k + 1) n) = b1 (a1 (n % 256)) + 256 * bB k (bA k (n / 256)) := by
      have e2 := bA_S (k := k) (b := n % 256) (r := n / 256) (by omega)
      rw [← hn] at e2
      rw [e2, bB_S ha]
    rw [e]
    refine ⟨by omega, ?_⟩
    rw [bZ_S v1 h1, v3, h2]
    rfl
theorem pop_hi {M : Nat} : pop (8 + M) n = pop 8 n + pop M (n / 256) := by
  induction M with
  | zero => rfl
  | succ M ih =>
    show pop (8 + M) n + (if n.testBit (8 + M) = true then 1 else 0) = pop 8 n + (pop M (n / 256) + (if (n / 256).testBit M = true then 1 else 0))
    rw [ih, show (n / 256).testBit M = n.testBit (8 + M) from by rw [show (256 : Nat) = 2 ^ 8 from rfl, Nat.testBit_div_two_pow, Nat.add_comm]]
    omega
theorem pop_pT : ∀ {k n : Nat}, pop (8 * k) n = pTn k n
  | 0, n => rfl
  | k + 1, n => by
    rw [show 8 * (k + 1) = 8 + 8 * k by omega, pop_hi, pop_pT (k := k)]
    show pop 8 n + _ = pop 8 (n % 256) + _
    rw [pop_cg (s := n) (t := n % 256) (b := 8) (fun i hi => by rw [show (256 : Nat) = 2 ^ 8 from rfl, Nat.testBit_mod_two_pow, decide_eq_true hi, Bool.true_and])]
theorem sum8 : (pS 8 n + pS 8 n / 256 + (pS 8 n + pS 8 n / 256) / 65536 + (pS 8 n + pS 8 n / 256 + (pS 8 n + pS 8 n / 256) / 65536) / 4294967296) % 128 = pop 64 n ∧ pS 8 n < 9 * 2 ^ 56 := by
  rw [show (64 : Nat) = 8 * 8 from rfl, pop_pT]
  have h : ∀ m, pop 8 m ≤ 8 := fun m => pop_le
  have h0 := h (n % 256)
  have h1 := h (n / 256 % 256)
  have h2 := h (n / 256 / 256 % 256)
  have h3 := h (n / 256 / 256 / 256 % 256)
  have h4 := h (n / 256 / 256 / 256 / 256 % 256)
  have h5 := h (n / 256 / 256 / 256 / 256 / 256 % 256)
  have h6 := h (n / 256 / 256 / 256 / 256 / 256 / 256 % 256)
  have h7 := h (n / 256 / 256 / 256 / 256 / 256 / 256 / 256 % 256)
  simp only [pS, pTn]
  generalize pop 8 (n % 256) = p0 at *
  generalize pop 8 (n / 256 % 256) = p1 at *
  generalize pop 8 (n / 256 / 256 % 256) = p2 at *
  generalize pop 8 (n / 256 / 256 / 256 % 256) = p3 at *
  generalize pop 8 (n / 256 / 256 / 256 / 256 % 256) = p4 at *
  generalize pop 8 (n / 256 / 256 / 256 / 256 / 256 % 256) = p5 at *
  generalize pop 8 (n / 256 / 256 / 256 / 256 / 256 / 256 % 256) = p6 at *
  generalize pop 8 (n / 256 / 256 / 256 / 256 / 256 / 256 / 256 % 256) = p7 at *
  obtain ⟨e6, h6e⟩ : ∃ e, e = p6 + 256 * (p7 + 256 * 0) := ⟨_, rfl⟩
  obtain ⟨e5, h5e⟩ : ∃ e, e = p5 + 256 * e6 := ⟨_, rfl⟩
  obtain ⟨e4, h4e⟩ : ∃ e, e = p4 + 256 * e5 := ⟨_, rfl⟩
  obtain ⟨e3, h3e⟩ : ∃ e, e = p3 + 256 * e4 := ⟨_, rfl⟩
  obtain ⟨e2, h2e⟩ : ∃ e, e = p2 + 256 * e3 := ⟨_, rfl⟩
  obtain ⟨e1, h1e⟩ : ∃ e, e = p1 + 256 * e2 := ⟨_, rfl⟩
  rw [← h6e, ← h5e, ← h4e, ← h3e, ← h2e, ← h1e]
  have d1 : (p0 + 256 * e1) / 256 = e1 := by omega
  rw [d1]
  have d2 : (p0 + 256 * e1 + e1) / 65536 = e2 + e3 := by
    have : p0 + 256 * e1 + e1 = (p0 + p1 + 256 * (p1 + p2)) + 65536 * (e2 + e3) := by omega
    rw [this]
    omega
  rw [d2]
  have d3 : (p0 + 256 * e1 + e1 + (e2 + e3)) / 4294967296 = e4 + e5 + (e6 + p7) := by
    have : p0 + 256 * e1 + e1 + (e2 + e3) = (p0 + p1 + p2 + p3 + 256 * (p1 + p2 + p3 + p4) + 65536 * (p2 + p3 + p4 + p5) + 16777216 * (p3 + p4 + p5 + p6)) + 4294967296 * (e4 + e5 + (e6 + p7)) := by omega
    rw [this]
    omega
  rw [d3]
  have d4 : p0 + 256 * e1 + e1 + (e2 + e3) + (e4 + e5 + (e6 + p7)) = (p0 + p1 + p2 + p3 + p4 + p5 + p6 + p7) + 128 * (2 * e1 + 2 * e2 + 2 * e3 + 2 * e4 + 2 * e5 + 2 * e6 + 2 * p7) := by omega
  rw [d4]
  have d5 : p0 + 256 * e1 < 9 * 2 ^ 56 := by omega
  refine ⟨?_, d5⟩
  omega
-- the same upon longs
def wN (w : Int64) : Nat := w.toBitVec.toNat
theorem wN_lt : wN w < 2 ^ 64 := w.toBitVec.isLt
theorem wN_and {a b : Int64} : wN (a &&& b) = wN a &&& wN b := BitVec.toNat_and ..
theorem wN_add {a b : Int64} (h : wN a + wN b < 2 ^ 64) : wN (a + b) = wN a + wN b := by
  show (a.toBitVec + b.toBitVec).toNat = _
  rw [BitVec.toNat_add]
  exact Nat.mod_eq_of_lt h
theorem wN_sub {a b : Int64} (h : wN b ≤ wN a) : wN (a - b) = wN a - wN b := by
  show (a.toBitVec - b.toBitVec).toNat = _
  exact BitVec.toNat_sub_of_le h
theorem wN_lsr {k : Nat} (hk : k < 64) : wN (lsr w (Int32.ofNat k)) = wN w / 2 ^ k := by
  show (w.toBitVec >>> (((Int32.ofNat k).toInt64.toUInt64 &&& Int64.toUInt64 63).toBitVec % 64).toNat).toNat = _
  rw [sr_n k hk, BitVec.toNat_ushiftRight, Nat.shiftRight_eq_div_pow]
  rfl
theorem wN_7 : ((w.toInt32) &&& 127 : Int32) = Int32.ofNat (wN w % 128) := by
  apply Int32.toBitVec_inj.mp
  apply BitVec.eq_of_toNat_eq
  have e : (w.toInt32).toBitVec.toNat = wN w % 2 ^ 32 := by
    show (w.toBitVec.signExtend 32).toNat = _
    rw [BitVec.signExtend_eq_setWidth_of_le _ (by decide), BitVec.toNat_setWidth]
    rfl
  show ((w.toInt32).toBitVec &&& (127 : Int32).toBitVec).toNat = (BitVec.ofNat 32 (wN w % 128)).toNat
  rw [BitVec.toNat_and, e, show (127 : Int32).toBitVec.toNat = 2 ^ 7 - 1 from rfl, Nat.and_two_pow_sub_one_eq_mod, BitVec.toNat_ofNat]
  omega
theorem bc64 : fJ13_bitCount_95d88 w = Int32.ofNat (pop 64 (wN w)) := by
  have m5 : wN 6148914691236517205 = mk8 85 8 := by decide
  have m3 : wN 3689348814741910323 = mk8 51 8 := by decide
  have m0 : wN 1085102592571150095 = mk8 15 8 := by decide
  have q1 : (1 : Int32) = Int32.ofNat 1 := rfl
  have q2 : (2 : Int32) = Int32.ofNat 2 := rfl
  have q4 : (4 : Int32) = Int32.ofNat 4 := rfl
  have q8 : (8 : Int32) = Int32.ofNat 8 := rfl
  have q16 : (16 : Int32) = Int32.ofNat 16 := rfl
  have q32 : (32 : Int32) = Int32.ofNat 32 := rfl
  have hw := wN_lt (w := w)
  unfold fJ13_bitCount_95d88
  -- the first three steps
  have sA : wN (w - ((lsr w 1) &&& 6148914691236517205)) = bA 8 (wN w) := by
    have e : wN ((lsr w 1) &&& 6148914691236517205) = (wN w / 2) &&& mk8 85 8 := by rw [wN_and, m5, q1, wN_lsr (by decide)]
    have h : (wN w / 2) &&& mk8 85 8 ≤ wN w / 2 := Nat.and_le_left
    rw [wN_sub (by rw [e]; omega), e]
    rfl
  generalize w - ((lsr w 1) &&& 6148914691236517205) = wa at *
  have bb : ∀ x y : Nat, x &&& mk8 51 8 ≤ mk8 51 8 := fun x _ => Nat.and_le_right
  have sB : wN ((wa &&& 3689348814741910323) + ((lsr wa 2) &&& 3689348814741910323)) = bB 8 (bA 8 (wN w)) := by
    have e1 : wN (wa &&& 3689348814741910323) = bA 8 (wN w) &&& mk8 51 8 := by rw [wN_and, m3, sA]
    have e2 : wN ((lsr wa 2) &&& 3689348814741910323) = (bA 8 (wN w) / 4) &&& mk8 51 8 := by rw [wN_and, m3, q2, wN_lsr (by decide), sA]
    have h1 := bb (bA 8 (wN w)) 0
    have h2 := bb (bA 8 (wN w) / 4) 0
    have h3 : mk8 51 8 = 3689348814741910323 := by decide
    rw [wN_add (by rw [e1, e2]; omega), e1, e2]
    rfl
  have hBl : bB 8 (bA 8 (wN w)) ≤ 2 * 3689348814741910323 := by
    have h1 := bb (bA 8 (wN w)) 0
    have h2 := bb (bA 8 (wN w) / 4) 0
    have h3 : mk8 51 8 = 3689348814741910323 := by decide
    show (bA 8 (wN w) &&& mk8 51 8) + ((bA 8 (wN w) / 4) &&& mk8 51 8) ≤ _
    omega
  generalize (wa &&& 3689348814741910323) + ((lsr wa 2) &&& 3689348814741910323) = y1 at *
  dsimp only
  have sZ : wN ((y1 + lsr y1 4) &&& 1085102592571150095) = pS 8 (wN w) := by
    have e1 : wN (lsr y1 4) = bB 8 (bA 8 (wN w)) / 16 := by rw [q4, wN_lsr (by decide), sB]
    rw [wN_and, m0, wN_add (by rw [e1, sB]; omega), e1, sB, ← bV.2]
    rfl
  generalize (y1 + lsr y1 4) &&& 1085102592571150095 = z at *
  obtain ⟨s1, s2⟩ := sum8 (n := wN w)
  have e1 : wN (lsr z 8) = pS 8 (wN w) / 256 := by rw [q8, wN_lsr (by decide), sZ]
  have s3 : wN (z + lsr z 8) = pS 8 (wN w) + pS 8 (wN w) / 256 := by rw [wN_add (by rw [e1, sZ]; omega), e1, sZ]
  generalize z + lsr z 8 = y2 at *
  have e2 : wN (lsr y2 16) = (pS 8 (wN w) + pS 8 (wN w) / 256) / 65536 := by rw [q16, wN_lsr (by decide), s3]
  have s4 : wN (y2 + lsr y2 16) = pS 8 (wN w) + pS 8 (wN w) / 256 + (pS 8 (wN w) + pS 8 (wN w) / 256) / 65536 := by rw [wN_add (by rw [e2, s3]; omega), e2, s3]
  generalize y2 + lsr y2 16 = y3 at *
  have e3 : wN (lsr y3 32) = (pS 8 (wN w) + pS 8 (wN w) / 256 + (pS 8 (wN w) + pS 8 (wN w) / 256) / 65536) / 4294967296 := by rw [q32, wN_lsr (by decide), s4]
  rw [wN_7, wN_add (by rw [e3, s4]; omega), e3, s4, s1]
end T45d
