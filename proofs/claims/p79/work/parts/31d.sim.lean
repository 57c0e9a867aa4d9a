/-! THE PLAIN PART 2d: blocks, stacks, calibrating, days. -/
theorem bc_in {x : Int32} (h : inn x 1024) : fJ6_bitCount_0f7a4 x = fX11_ones x := by
  have := bc_ones _ (inn_lt h)
  rw [of_to h.1] at this
  exact this
theorem isIn_0 {set : Int32} {k : Nat} : fX2_isIn set (Int32.ofNat k) = 0 ↔ ¬ bt set k = 1 := by
  unfold fX2_isIn
  by_cases h : bt set k = 1
  · rw [if_pos h]; simp [h]
  · rw [if_neg h]; simp [h]
def sStack (A : Ar) (len : Int32) : Int32 := fX11_stack 461 len (wA A)
section C31d
variable {v : vSt} {b : Nat} {A : Ar} {p m len set : Int32}
theorem c_lenSet (hD : v (b + 1) 3 = A 204) (hn : inn (A 204) 11) (hB : SRb v b A) : fX2_lengthOfSet (b + 1) set v = sSum A set 0 := by
  have hN := inn_lt hn
  have key : ∀ (n k : Nat) (acc : Int32), k ≤ (A 204).toNatClampNeg → (A 204).toNatClampNeg + 1 ≤ n + k → lX2_lengthOfSet_4 v (b + 1) set n (Int32.ofNat k) (acc + sSumN A set 0 k) = acc + sSumN A set 0 ((A 204).toNatClampNeg) := by
    intro n
    induction n with
    | zero => intro k acc h1 h2; omega
    | succ n ih =>
      intro k acc h1 h2
      unfold lX2_lengthOfSet_4
      have ofl : (v (b + 1) 3 ≤ Int32.ofNat k) ↔ (A 204).toNatClampNeg ≤ k := by rw [hD]; exact of_le hn.1 (by omega)
      by_cases hk : (A 204).toNatClampNeg ≤ k
      · rw [if_pos (ofl.mpr hk), show k = (A 204).toNatClampNeg by omega]
      · rw [if_neg (mt ofl.mp hk), if_neg (ncap10 (k := k) (by omega)), ← ih (k + 1) acc (by omega) (by omega), of_S (by omega), to_of (by omega)]
        simp only []
        congr 1
        rw [show sSumN A set 0 (k + 1) = sSumN A set 0 k + (if bt set k = 1 then A (48 + 3 * k + 0) else 0) from rfl]
        by_cases hbt : bt set k = 1
        · rw [if_neg (fun q => isIn_0.mp q hbt), if_pos hbt, (hB k (by omega)).1, Int32.add_assoc]
          rfl
        · rw [if_pos (isIn_0.mpr hbt), if_neg hbt, Int32.add_zero]
  have e := key ((A 204).toNatClampNeg + 1) 0 0 (by omega) (by omega)
  rw [show sSumN A set 0 0 = 0 from rfl, Int32.zero_add, Int32.zero_add] at e
  unfold fX2_lengthOfSet
  rw [hD, fu0]
  exact e
theorem c_truly (hD : v (b + 1) 3 = A 204) (hn : inn (A 204) 11) (hB : SRb v b A) (hs : inn set 1024) : fX2_trueLengthOf (b + 1) set v = sTruly A set := by
  have hN := inn_lt hn
  have key : ∀ (n k : Nat) (acc : Int32), k ≤ (A 204).toNatClampNeg → (A 204).toNatClampNeg + 1 ≤ n + k → lX2_trueLengthOf_8 v (b + 1) set n (Int32.ofNat k) (acc + sSumN A set 1 k) = acc + sSumN A set 1 ((A 204).toNatClampNeg) := by
    intro n
    induction n with
    | zero => intro k acc h1 h2; omega
    | succ n ih =>
      intro k acc h1 h2
      unfold lX2_trueLengthOf_8
      have ofl : (v (b + 1) 3 ≤ Int32.ofNat k) ↔ (A 204).toNatClampNeg ≤ k := by rw [hD]; exact of_le hn.1 (by omega)
      by_cases hk : (A 204).toNatClampNeg ≤ k
      · rw [if_pos (ofl.mpr hk), show k = (A 204).toNatClampNeg by omega]
      · rw [if_neg (mt ofl.mp hk), if_neg (ncap10 (k := k) (by omega)), ← ih (k + 1) acc (by omega) (by omega), of_S (by omega), to_of (by omega)]
        simp only []
        congr 1
        rw [show sSumN A set 1 (k + 1) = sSumN A set 1 k + (if bt set k = 1 then A (48 + 3 * k + 1) else 0) from rfl]
        by_cases hbt : bt set k = 1
        · rw [if_neg (fun q => isIn_0.mp q hbt), if_pos hbt, (hB k (by omega)).2.1, Int32.add_assoc]
        · rw [if_pos (isIn_0.mpr hbt), if_neg hbt, Int32.add_zero]
  have e := key ((A 204).toNatClampNeg + 1) 0 (sSum A set 0) (by omega) (by omega)
  rw [show sSumN A set 1 0 = 0 from rfl, Int32.add_zero] at e
  unfold fX2_trueLengthOf sTruly
  rw [hD, fu0, c_lenSet hD hn hB, bc_in hs]
  simp only []
  rw [show (0 : Int32) = Int32.ofNat 0 from rfl, e]
  rfl
theorem c_stack (hD : v (b + 1) 3 = A 204) (hn : inn (A 204) 11) (hB : SRb v b A) : fX2_stack (b + 1) len v = sStack A len := by
  have hS := sh_le hn
  have key : ∀ (n k : Nat) (x y : Int32), k ≤ 1024 → lX2_stack_16 v (b + 1) len n (Int32.ofNat k) x y = lX11_stack_8 (wA A) 461 len n (Int32.ofNat k) x y := by
    intro n
    induction n with
    | zero => intro k x y _; rfl
    | succ n ih =>
      intro k x y h1
      unfold lX2_stack_16 lX11_stack_8
      rw [hD]
      by_cases hk : (1 <<< (A 204 &&& 31) : Int32) ≤ Int32.ofNat k
      · have hk0 : (1 <<< ((wA A) 462 (204 : Int32).toNatClampNeg &&& 31) : Int32) ≤ Int32.ofNat k := hk
        rw [if_pos hk, if_pos hk0]
      · have hk0 : ¬ (1 <<< ((wA A) 462 (204 : Int32).toNatClampNeg &&& 31) : Int32) ≤ Int32.ofNat k := hk
        rw [if_neg hk, if_neg hk0]
        have hk2 := i_nle hk
        rw [hS.2.1, of_ti (by omega)] at hk2
        have hk3 : k < 2 ^ (A 204).toNatClampNeg := by exact_mod_cast hk2
        have hk4 : k < 1024 := by have : 2 ^ (A 204).toNatClampNeg ≤ 1024 := hS.2.2; omega
        rw [of_S (by omega), bc_in (of_in hk4 (by decide)), c_lenSet hD hn hB, m_sum (v := wA A) hn (by decide), wA_462]
        simp only [Int32.reduceToNatClampNeg]
        by_cases h3 : x ≤ fX11_ones (Int32.ofNat k)
        · simp only [if_pos h3, if_true]
          exact ih (k + 1) _ _ (by omega)
        · simp only [if_neg h3]
          by_cases h4 : sSum A (Int32.ofNat k) 0 = len
          · simp only [if_pos h4]
            exact ih (k + 1) _ _ (by omega)
          · simp only [if_neg h4, if_true]
            exact ih (k + 1) _ _ (by omega)
  unfold fX2_stack sStack fX11_stack
  rw [hD]
  exact key _ 1 _ _ (by omega)
theorem ite_inn {c : Prop} [Decidable c] {x y : Int32} {n : Nat} (hx : inn x n) (hy : inn y n) : inn (if c then x else y) n := by split <;> assumption
theorem stack_in (hn : inn (A 204) 11) : inn (sStack A len) 1024 := by
  have hS := sh_le hn
  have key : ∀ (n k : Nat) (x y : Int32), k ≤ 1024 → inn y 1024 → inn (lX11_stack_8 (wA A) 461 len n (Int32.ofNat k) x y) 1024 := by
    intro n
    induction n with
    | zero => intro k x y _ h; exact h
    | succ n ih =>
      intro k x y h1 hy
      unfold lX11_stack_8
      by_cases hk : (1 <<< ((wA A) 462 (204 : Int32).toNatClampNeg &&& 31) : Int32) ≤ Int32.ofNat k
      · rw [if_pos hk]; exact hy
      · rw [if_neg hk]
        have hk : ¬ (1 <<< (A 204 &&& 31) : Int32) ≤ Int32.ofNat k := hk
        have hk2 := i_nle hk
        rw [hS.2.1, of_ti (by omega)] at hk2
        have hk3 : k < 2 ^ (A 204).toNatClampNeg := by exact_mod_cast hk2
        have hk4 : k < 1024 := by have : 2 ^ (A 204).toNatClampNeg ≤ 1024 := hS.2.2; omega
        rw [of_S (by omega)]
        exact ih (k + 1) _ _ (by omega) (ite_inn hy (of_in hk4 (by decide)))
  unfold sStack fX11_stack
  exact key _ 1 _ _ (by omega) (by decide)
def sRdC (A : Ar) (t : Nat) (len : Int32) : Int32 := if sStack A len = 0 then -1 else sReading A t 0 (sTruly A (sStack A len))
def sCal (A : Ar) (t : Nat) (set e : Int32) : Ar := sUseBN (st (st (st (sUse A t 0) (8 * t + 3) e) (8 * t + 6) 0) (8 * t + 7) (A 210)) set ((A 204).toNatClampNeg)
def sGoCalibrate (A : Ar) (p len : Int32) : Int32 × Ar :=
  if sIsT A p = 0 then (-100001, A) else if fX11_in len 1 15000 = 0 then (-100001, A)
  else if 0 ≤ sRdC A p.toNatClampNeg len then (sRdC A p.toNatClampNeg len - len, sCal A p.toNatClampNeg (sStack A len) (sRdC A p.toNatClampNeg len - len)) else (-100002, A)
theorem sUseBN_st {B : Ar} {set x : Int32} {j : Nat} (hj : j < 48 ∨ 78 ≤ j) : ∀ {n : Nat}, n ≤ 10 → sUseBN (st B j x) set n = st (sUseBN B set n) j x
  | 0, _ => rfl
  | n + 1, h => by
    have ih := sUseBN_st (B := B) (set := set) (x := x) hj (n := n) (by omega)
    show sUseB1 (sUseBN (st B j x) set n) set n = st (sUseB1 (sUseBN B set n) set n) j x
    rw [ih]
    unfold sUseB1
    by_cases hb : bt set n = 1
    · rw [if_pos hb, if_pos hb, st_n (show 48 + 3 * n + 2 ≠ j by omega), st_n (show 48 + 3 * n + 1 ≠ j by omega)]
      funext i
      unfold st
      by_cases h1 : i = 48 + 3 * n + 1
      · rw [if_pos h1, if_neg (show i ≠ j by omega), if_pos h1]
      · rw [if_neg h1, if_neg h1]
        by_cases h2 : i = 48 + 3 * n + 2
        · rw [if_pos h2, if_neg (show i ≠ j by omega), if_pos h2]
        · rw [if_neg h2, if_neg h2]
    · rw [if_neg hb, if_neg hb]
theorem m_goCalibrate (h : inn (v 462 203) 7) (hn : inn (v 462 204) 11) : fX11_goCalibrate 461 p len v = ((sGoCalibrate (v 462) p len).1, uA v 462 (sGoCalibrate (v 462) p len).2) := by
  unfold fX11_goCalibrate sGoCalibrate
  simp only [m_isTool]
  by_cases h1 : sIsT (v 462) p = 0
  · rw [if_pos h1, if_pos h1, uI]
  rw [if_neg h1, if_neg h1]
  by_cases h2 : fX11_in len 1 15000 = 0
  · rw [if_pos h2, if_pos h2, uI]
  rw [if_neg h2, if_neg h2]
  have hp := (isT_in h h1).1
  have hp6 := inn_lt hp
  have hN := inn_lt hn
  have e1 : fX11_stack 461 len v = sStack (v 462) len := m_stack
  have e2 : (if fX11_stack 461 len v = 0 then -1 else fX11_reading 461 p 0 (fX11_truly 461 (fX11_stack 461 len v) v) v) = sRdC (v 462) p.toNatClampNeg len := by
    rw [e1, m_truly hn, m_reading hp]
    rfl
  rw [e2, e1]
  by_cases h4 : 0 ≤ sRdC (v 462) p.toNatClampNeg len
  · rw [if_pos h4, if_pos h4]
    have h204 : sUse (v 462) p.toNatClampNeg 0 204 = v 462 204 := sUse_o (by omega)
    have hn2 : inn ((uA v 462 (sUse (v 462) p.toNatClampNeg 0)) 462 204) 11 := by rw [uA_s, h204]; exact hn
    rw [m_uses hp, m_usesBlocks hn2, uA_s, uu, m_sets hp (show inn 3 8 by decide), uA_s, uu, m_sets hp (show inn 6 8 by decide), uA_s, uu, m_sets hp (show inn 7 8 by decide), uA_s, uu]
    simp only [Int32.reduceToNatClampNeg, uA_s]
    rw [st_n (show 210 ≠ 8 * p.toNatClampNeg + 6 by omega), st_n (show 210 ≠ 8 * p.toNatClampNeg + 3 by omega), h204, sUseBN_o (j := 210) (by omega), sUse_o (j := 210) (by omega)]
    unfold sCal
    rw [sUseBN_st (by omega) (by omega), sUseBN_st (by omega) (by omega), sUseBN_st (by omega) (by omega)]
  · rw [if_neg h4, if_neg h4, uI]
theorem mo_goCalibrate (h : inn (v 462 203) 7) (hn : inn (v 462 204) 11) : oX11_goCalibrate 461 p len v := by
  unfold oX11_goCalibrate
  refine ⟨mo_isTool, fun h1 _ => ?_⟩
  have hp := (isT_in h h1).1
  refine ⟨mo_stack hn, fun _ => ⟨mo_truly hn, mo_reading hp⟩, fun _ _ _ => ⟨mo_uses hp, fun v9 e9 => ⟨mo_usesBlocks ?_, fun _ _ => ⟨mo_sets hp (by decide), fun _ _ => ⟨mo_sets hp (by decide), fun _ _ => ⟨vL (by decide), mo_sets hp (by decide)⟩⟩⟩⟩⟩⟩
  have hp6 := inn_lt hp
  rw [e9, m_uses hp, uA_s, sUse_o (by omega)]
  exact hn
theorem c_refC (h : SR v b A) (hw : WF A) : fX2_refusalToCalibrate (b + 1) p len v = rfc (sGoCalibrate A p len).1 := by
  have hn := hw.1.2.1
  unfold fX2_refusalToCalibrate sGoCalibrate
  rw [c_hasTool h.1.1 hw.1.1, in_rng, c_stack h.1.2.1 hn h.2.2.2.1]
  by_cases h1 : sIsT A p = 0
  · rw [if_pos h1, if_pos h1]; rfl
  rw [if_neg h1, if_neg h1]
  by_cases h2 : fX11_in len 1 15000 = 0
  · rw [if_pos h2, if_pos h2]; rfl
  rw [if_neg h2, if_neg h2]
  obtain ⟨hT, hk, hp, hlt⟩ := h.tool hw h1
  unfold sRdC
  by_cases h3 : sStack A len = 0
  · simp only [if_pos h3]; rfl
  rw [if_neg h3]
  simp only [if_neg h3]
  rw [c_truly h.1.2.1 hn h.2.2.2.1 (stack_in hn), c_reading h.1.2.2.1 (by decide) hk hT]
  by_cases h4 : sReading A p.toNatClampNeg 0 (sTruly A (sStack A len)) = -1
  · rw [if_pos h4, if_neg (fun q => rd_lt.mp q h4)]; rfl
  · rw [if_neg h4, if_pos (rd_lt.mpr h4)]
    refine (rfc_0 ?_).symm
    have hr := (rd_or (A := A) (t := p.toNatClampNeg) (m := 0) (len := sTruly A (sStack A len))).resolve_left h4
    have hl := in_iff.mp h2
    rw [show (1 : Int32).toInt = 1 from rfl, show (15000 : Int32).toInt = 15000 from rfl] at hl
    show _ < (sReading A p.toNatClampNeg 0 (sTruly A (sStack A len)) - len).toInt
    rw [ti_sub (by omega)]
    omega
end C31d
