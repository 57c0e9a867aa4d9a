/-! THE PLAIN PART 1d: bits, by trying all. -/
set_option maxRecDepth 100000 in
theorem bc_ones : ∀ k, k < 1024 → fJ6_bitCount_0f7a4 (Int32.ofNat k) = fX11_ones (Int32.ofNat k) := by decide +kernel
def sbN (B : Int32) : Nat → Int32
  | 0 => 0
  | i + 1 => sbN B i + bt B i
def sGL (B n : Int32) : Nat → Int32 → Int32
  | 0, i => i
  | f + 1, i => if n ≤ i then i else (if (B >>> (i &&& 31)) &&& 1 = 0 then sGL B n f (i + 1) else i)
def sGood (B n : Int32) : Int32 := sGL B n (n.toNatClampNeg + 1) 0
def nxB (B y : Int32) : Int32 := (B * 2 + y) - (B * 2 + y) / 1024 * 1024
set_option maxRecDepth 100000 in
theorem rec_bits : ∀ n, n < 11 → ∀ B, B < 2 ^ n → sbN (Int32.ofNat B) (min 5 n) = fX11_ones (Int32.ofNat B &&& 31) ∧ sbN (Int32.ofNat B) n = fX11_ones (Int32.ofNat B) ∧
    (sGood (Int32.ofNat B) (Int32.ofNat n) < 10 ↔ ¬ (n = 10 ∧ B = 0)) ∧ (sGood (Int32.ofNat B) (Int32.ofNat n) < 5 ↔ ¬ (5 ≤ n ∧ Int32.ofNat B &&& 31 = 0)) := by decide +kernel
set_option maxRecDepth 100000 in
theorem nx_bits : ∀ B, B < 1024 → ∀ y, y < 2 → 0 ≤ (nxB (Int32.ofNat B) (Int32.ofNat y)).toInt ∧ (nxB (Int32.ofNat B) (Int32.ofNat y)).toInt < 1024 ∧ (B < 512 → (nxB (Int32.ofNat B) (Int32.ofNat y)).toInt = 2 * B + y) ∧
    bt (nxB (Int32.ofNat B) (Int32.ofNat y)) 0 = Int32.ofNat y ∧ ∀ i, i < 9 → bt (nxB (Int32.ofNat B) (Int32.ofNat y)) (i + 1) = bt (Int32.ofNat B) i := by decide +kernel
