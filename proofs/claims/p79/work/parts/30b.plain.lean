/-! THE PLAIN PART 1b: the model's loops. -/
theorem of_to {x : Int32} (h : 0 ≤ x.toInt) : Int32.ofNat x.toNatClampNeg = x := by
  refine Int32.toInt_inj.mp ?_
  have h1 := rn_to h
  have h2 := fb_rngX x
  rw [Int32.toInt_ofNat_of_lt (by omega), h1]
theorem to_of {k : Nat} (h : k < 2 ^ 31) : (Int32.ofNat k).toNatClampNeg = k := rn_of (Int32.toInt_ofNat_of_lt h)
theorem of_ti {k : Nat} (h : k < 2 ^ 31) : (Int32.ofNat k).toInt = (k : Int) := Int32.toInt_ofNat_of_lt h
theorem of_in {k n : Nat} (h : k < n) (hn : n ≤ 2 ^ 31) : inn (Int32.ofNat k) n := ⟨by rw [of_ti (by omega)]; omega, by rw [of_ti (by omega)]; omega⟩
theorem of_S {k : Nat} (h : k + 1 < 2 ^ 31) : Int32.ofNat k + 1 = Int32.ofNat (k + 1) := by
  refine Int32.toInt_inj.mp ?_
  rw [ti_add (by rw [of_ti (by omega), show (1 : Int32).toInt = 1 from rfl]; omega), of_ti (by omega), of_ti h, show (1 : Int32).toInt = 1 from rfl]
  omega
/-- a loop's second test, against the length of its row -/
theorem ncap {c : Int32} {k : Nat} (h : k < c.toInt.toNat) : ¬ c ≤ Int32.ofNat k := by
  have h2 : c.toInt < 2 ^ 31 := Int32.toInt_lt c
  rw [Int32.le_iff_toInt_le, of_ti (by omega)]
  omega
theorem ncap5 {k : Nat} (h : k < 5) : ¬ (5 : Int32) ≤ Int32.ofNat k := ncap h
theorem ncap6 {k : Nat} (h : k < 6) : ¬ (6 : Int32) ≤ Int32.ofNat k := ncap h
theorem ncap10 {k : Nat} (h : k < 10) : ¬ (10 : Int32) ≤ Int32.ofNat k := ncap h
theorem ncap12 {k : Nat} (h : k < 12) : ¬ (12 : Int32) ≤ Int32.ofNat k := ncap h
theorem of_le {x : Int32} {k : Nat} (hx : 0 ≤ x.toInt) (hk : k < 2 ^ 31) : x ≤ Int32.ofNat k ↔ x.toNatClampNeg ≤ k := by
  rw [Int32.le_iff_toInt_le, of_ti hk]
  have := rn_to hx
  omega
theorem fu0 {x : Int32} : (Int32.toInt x - Int32.toInt 0).toNat + 1 = x.toNatClampNeg + 1 := by
  show (Int32.toInt x - 0).toNat + 1 = x.toInt.toNat + 1
  rw [Int.sub_zero]
abbrev bt (set : Int32) (k : Nat) : Int32 := (set >>> (Int32.ofNat k &&& 31)) &&& 1
abbrev nT (A : Ar) : Nat := (A 203).toNatClampNeg
abbrev nB (A : Ar) : Nat := (A 204).toNatClampNeg
abbrev nY (A : Ar) : Nat := (A 205).toNatClampNeg
abbrev nW (A : Ar) : Nat := (A 206).toNatClampNeg
abbrev nQ (A : Ar) : Nat := (A 207).toNatClampNeg
def sSumN (A : Ar) (set : Int32) (c : Nat) : Nat → Int32
  | 0 => 0
  | k + 1 => sSumN A set c k + (if bt set k = 1 then A (48 + 3 * k + c) else 0)
def sSum (A : Ar) (set : Int32) (c : Nat) : Int32 := sSumN A set c ((A 204).toNatClampNeg)
def sTruly (A : Ar) (set : Int32) : Int32 := sSum A set 0 + sSum A set 1 + (fX11_ones set - 1) / 2
def sUseB1 (B : Ar) (set : Int32) (k : Nat) : Ar :=
  if bt set k = 1 then st (st B (48 + 3 * k + 2) (B (48 + 3 * k + 2) + 1)) (48 + 3 * k + 1) (if B (48 + 3 * k + 2) + 1 - (B (48 + 3 * k + 2) + 1) / 10 * 10 = 0 then fX11_more (-9) (B (48 + 3 * k + 1) - 1) else B (48 + 3 * k + 1)) else B
def sUseBN (A : Ar) (set : Int32) : Nat → Ar
  | 0 => A
  | k + 1 => sUseB1 (sUseBN A set k) set k
theorem sUseBN_o {A : Ar} {set : Int32} {j : Nat} : ∀ {n : Nat}, (j < 48 ∨ 48 + 3 * n ≤ j) → sUseBN A set n j = A j
  | 0, _ => rfl
  | n + 1, h => by
    have ih := sUseBN_o (A := A) (set := set) (j := j) (n := n) (by omega)
    unfold sUseBN sUseB1
    split
    · rw [st_n (by omega), st_n (by omega), ih]
    · exact ih
def sDueN (A : Ar) : Nat → Int32
  | 0 => 0
  | k + 1 => sDueN A k + (if sDue A k = 0 then 0 else 1)
section M30B
variable {v : vSt} {set c : Int32}
theorem ones_o (x : Int32) : oX11_ones x := by
  have h : ∀ (n k : Nat) (acc : Int32), k ≤ 10 → 11 ≤ n + k → olX11_ones_4 x n (Int32.ofNat k) acc := by
    intro n
    induction n with
    | zero => intro k acc h1 h2; omega
    | succ n ih =>
      intro k acc h1 h2 h3
      have h4 : k < 10 := by
        refine Decidable.byContradiction (fun q => h3 ?_)
        exact (of_le (by decide) (by omega)).mpr (by show 10 ≤ k; omega)
      rw [of_S (by omega)]
      exact ih (k + 1) _ (by omega) (by omega)
  exact h 11 0 0 (by omega) (by omega)
theorem m_sum (h : inn (v 462 204) 11) (hc : inn c 3) : fX11_sum 461 set c v = sSum (v 462) set c.toNatClampNeg := by
  have hB : ((v 462) 204).toNatClampNeg < 11 := inn_lt h
  have key : ∀ (n k : Nat) (acc : Int32), k ≤ ((v 462) 204).toNatClampNeg → ((v 462) 204).toNatClampNeg + 1 ≤ n + k → lX11_sum_5 v 461 set c n (Int32.ofNat k) (acc + sSumN (v 462) set c.toNatClampNeg k) = acc + sSumN (v 462) set c.toNatClampNeg (((v 462) 204).toNatClampNeg) := by
    intro n
    induction n with
    | zero => intro k acc h1 h2; omega
    | succ n ih =>
      intro k acc h1 h2
      unfold lX11_sum_5
      simp only [Int32.reduceToNatClampNeg]
      have ofl : (v 462 204 ≤ Int32.ofNat k) ↔ ((v 462) 204).toNatClampNeg ≤ k := of_le h.1 (by omega)
      by_cases hk : ((v 462) 204).toNatClampNeg ≤ k
      · have e : k = ((v 462) 204).toNatClampNeg := by omega
        rw [if_pos (ofl.mpr hk), e]
      · rw [if_neg (mt ofl.mp hk)]
        have e := ih (k + 1) acc (by omega) (by omega)
        rw [of_S (by omega), m_block (of_in (n := 10) (by omega) (by decide)) hc, to_of (by omega)]
        rw [← e, show sSumN (v 462) set c.toNatClampNeg (k + 1) = sSumN (v 462) set c.toNatClampNeg k + (if bt set k = 1 then v 462 (48 + 3 * k + c.toNatClampNeg) else 0) from rfl, Int32.add_assoc]
  have e := key (((v 462) 204).toNatClampNeg + 1) 0 0 (by omega) (by omega)
  have e0 : ∀ (x : Int32), 0 + x = x := by intro x; simp
  rw [e0, e0] at e
  unfold fX11_sum
  simp only [Int32.reduceToNatClampNeg]
  rw [fu0]
  exact e
theorem mo_sum (h : inn (v 462 204) 11) (hc : inn c 3) : oX11_sum 461 set c v := by
  have hB : ((v 462) 204).toNatClampNeg < 11 := inn_lt h
  have key : ∀ (n k : Nat) (acc : Int32), k ≤ ((v 462) 204).toNatClampNeg → ((v 462) 204).toNatClampNeg + 1 ≤ n + k → olX11_sum_5 v 461 set c n (Int32.ofNat k) acc := by
    intro n
    induction n with
    | zero => intro k acc h1 h2; omega
    | succ n ih =>
      intro k acc h1 h2
      unfold olX11_sum_5
      simp only [Int32.reduceToNatClampNeg]
      have ofl : (v 462 204 ≤ Int32.ofNat k) ↔ ((v 462) 204).toNatClampNeg ≤ k := of_le h.1 (by omega)
      refine ⟨vL (by decide), fun hk => have hk := mt ofl.mpr hk; ⟨fun _ => mo_block (of_in (by omega) (by decide)) hc, fun _ _ => ?_⟩⟩
      rw [of_S (by omega)]
      exact ih (k + 1) _ (by omega) (by omega)
  unfold oX11_sum
  simp only [Int32.reduceToNatClampNeg]
  rw [fu0]
  exact key (((v 462) 204).toNatClampNeg + 1) 0 0 (by omega) (by omega)
theorem m_truly (h : inn (v 462 204) 11) : fX11_truly 461 set v = sTruly (v 462) set := by
  unfold fX11_truly sTruly
  rw [m_sum h (by decide), m_sum h (by decide)]
  rfl
theorem mo_truly (h : inn (v 462 204) 11) : oX11_truly 461 set v := ⟨mo_sum h (by decide), mo_sum h (by decide), ones_o _⟩
theorem sh_le {x : Int32} (h : inn x 11) : 0 < (1 <<< (x &&& 31) : Int32).toInt ∧ (1 <<< (x &&& 31) : Int32).toInt = 2 ^ x.toNatClampNeg ∧ 2 ^ x.toNatClampNeg ≤ 1024 := by
  have hB := inn_lt h
  have : ∀ k, k < 11 → 0 < (1 <<< (Int32.ofNat k &&& 31) : Int32).toInt ∧ (1 <<< (Int32.ofNat k &&& 31) : Int32).toInt = 2 ^ k ∧ 2 ^ k ≤ 1024 := by decide
  have e := this _ hB
  rw [of_to h.1] at e
  exact e
theorem m_stack {len : Int32} : fX11_stack 461 len v = fX11_stack 461 len (wA (v 462)) := by
  have hs : ∀ i, fX11_sum 461 i 0 v = fX11_sum 461 i 0 (wA (v 462)) := by
    intro i
    have key : ∀ (n : Nat) (k acc : Int32), lX11_sum_5 v 461 i 0 n k acc = lX11_sum_5 (wA (v 462)) 461 i 0 n k acc := by
      intro n
      induction n with
      | zero => intros; rfl
      | succ n ih => intro k acc; unfold lX11_sum_5; simp only [ih]; rfl
    unfold fX11_sum
    simp only [key]
    rfl
  have key : ∀ (n : Nat) (k a b : Int32), lX11_stack_8 v 461 len n k a b = lX11_stack_8 (wA (v 462)) 461 len n k a b := by
    intro n
    induction n with
    | zero => intros; rfl
    | succ n ih => intro k a b; unfold lX11_stack_8; simp only [ih, hs]; rfl
  unfold fX11_stack
  simp only [key]
  rfl
theorem mo_stack {len : Int32} (h : inn (v 462 204) 11) : oX11_stack 461 len v := by
  have hS := sh_le h
  have hS3 : 2 ^ ((v 462) 204).toNatClampNeg ≤ 1024 := hS.2.2
  have key : ∀ (n k : Nat) (a b : Int32), k ≤ 1024 → 2 ^ ((v 462) 204).toNatClampNeg + 1 ≤ n + k → 1 ≤ n → olX11_stack_8 v 461 len n (Int32.ofNat k) a b := by
    intro n
    induction n with
    | zero => intro k a b h1 h2 h3; omega
    | succ n ih =>
      intro k a b h1 h2 _
      unfold olX11_stack_8
      simp only [Int32.reduceToNatClampNeg]
      refine ⟨vL (by decide), fun hk => ⟨ones_o _, fun _ => mo_sum h (by decide), fun _ _ _ _ _ _ => ?_⟩⟩
      have hk := i_nle hk
      rw [hS.2.1, of_ti (by omega)] at hk
      have hk2 : k < 2 ^ ((v 462) 204).toNatClampNeg := by exact_mod_cast hk
      rw [of_S (by omega)]
      exact ih (k + 1) _ _ (by omega) (by omega) (by omega)
  unfold oX11_stack
  simp only [Int32.reduceToNatClampNeg]
  refine key _ 1 _ _ (by decide) ?_ (by omega)
  rw [hS.2.1, show Int32.toInt 1 = 1 from rfl]
  have : (2 ^ (v 462 204).toNatClampNeg : Int) = ((2 ^ ((v 462) 204).toNatClampNeg : Nat) : Int) := by exact_mod_cast rfl
  rw [this]
  omega
theorem m_usesBlocks (h : inn (v 462 204) 11) : fX11_usesBlocks 461 set v = uA v 462 (sUseBN (v 462) set (((v 462) 204).toNatClampNeg)) := by
  have hB : ((v 462) 204).toNatClampNeg < 11 := inn_lt h
  have key : ∀ (n k : Nat), k ≤ ((v 462) 204).toNatClampNeg → ((v 462) 204).toNatClampNeg + 1 ≤ n + k → lX11_usesBlocks_2 set n (Int32.ofNat k) (uA v 462 (sUseBN (v 462) set k)) = uA v 462 (sUseBN (v 462) set (((v 462) 204).toNatClampNeg)) := by
    intro n
    induction n with
    | zero => intro k h1 h2; omega
    | succ n ih =>
      intro k h1 h2
      unfold lX11_usesBlocks_2
      simp only [Int32.reduceToNatClampNeg, uA_s]
      have ofl : (v 462 204 ≤ Int32.ofNat k) ↔ ((v 462) 204).toNatClampNeg ≤ k := of_le h.1 (by omega)
      rw [sUseBN_o (j := 204) (by omega)]
      by_cases hk : ((v 462) 204).toNatClampNeg ≤ k
      · have e : k = ((v 462) 204).toNatClampNeg := by omega
        rw [if_pos (ofl.mpr hk), e]
      · rw [if_neg (mt ofl.mp hk)]
        have e := ih (k + 1) (by omega) (by omega)
        rw [← e, of_S (by omega)]
        congr 1
        have i2 : ((48 + 3 * Int32.ofNat k) + 2 : Int32).toNatClampNeg = 48 + 3 * k + 2 := by rw [ixB (of_in (by omega) (by decide)) (by decide), to_of (by omega)]; rfl
        have i1 : ((48 + 3 * Int32.ofNat k) + 1 : Int32).toNatClampNeg = 48 + 3 * k + 1 := by rw [ixB (of_in (by omega) (by decide)) (by decide), to_of (by omega)]; rfl
        rw [i1, i2]
        conv => rhs; unfold sUseBN sUseB1
        simp only [w2, uA_s, uu, ite_uA, st_s]
        split
        · rw [st_n (show 48 + 3 * k + 1 ≠ 48 + 3 * k + 2 by omega)]
        · rfl
  unfold fX11_usesBlocks
  simp only [Int32.reduceToNatClampNeg]
  rw [fu0]
  have e := key (((v 462) 204).toNatClampNeg + 1) 0 (by omega) (by omega)
  rw [show sUseBN (v 462) set 0 = v 462 from rfl, uI] at e
  exact e
theorem mo_usesBlocks (h : inn (v 462 204) 11) : oX11_usesBlocks 461 set v := by
  have key : ∀ (n k : Nat) (w : vSt), inn (w 462 204) 11 → k ≤ ((w 462) 204).toNatClampNeg → ((w 462) 204).toNatClampNeg + 1 ≤ n + k → olX11_usesBlocks_2 set n (Int32.ofNat k) w := by
    intro n
    induction n with
    | zero => intro k w h0 h1 h2; omega
    | succ n ih =>
      intro k w h0 h1 h2
      have hB : ((w 462) 204).toNatClampNeg < 11 := inn_lt h0
      unfold olX11_usesBlocks_2
      simp only [Int32.reduceToNatClampNeg]
      have ofl : (w 462 204 ≤ Int32.ofNat k) ↔ ((w 462) 204).toNatClampNeg ≤ k := of_le h0.1 (by omega)
      refine ⟨vL (by decide), fun hk => ?_⟩
      have hk := mt ofl.mpr hk
      have hi : inn (Int32.ofNat k) 10 := of_in (by omega) (by decide)
      refine ⟨fun _ => ⟨vB hi (by decide), fun _ _ => ⟨⟨fun _ => vB hi (by decide), fun _ => vB hi (by decide)⟩, fun _ _ => vB hi (by decide)⟩⟩, fun v5 e5 => ?_⟩
      rw [of_S (by omega)]
      have i2 : ((48 + 3 * Int32.ofNat k) + 2 : Int32).toNatClampNeg = 48 + 3 * k + 2 := by rw [ixB hi (by decide), to_of (by omega)]; rfl
      have i1 : ((48 + 3 * Int32.ofNat k) + 1 : Int32).toNatClampNeg = 48 + 3 * k + 1 := by rw [ixB hi (by decide), to_of (by omega)]; rfl
      have e204 : v5 462 204 = w 462 204 := by
        rw [e5, i1, i2]
        split
        · rw [u2_n (by omega), u2_n (by omega)]
        · rfl
      refine ih (k + 1) v5 ?_ ?_ ?_
      · rw [e204]; exact h0
      · show k + 1 ≤ (v5 462 204).toNatClampNeg
        rw [e204]
        show k + 1 ≤ ((w 462) 204).toNatClampNeg
        omega
      · show (v5 462 204).toNatClampNeg + 1 ≤ _
        rw [e204]
        show ((w 462) 204).toNatClampNeg + 1 ≤ _
        omega
  unfold oX11_usesBlocks
  simp only [Int32.reduceToNatClampNeg]
  rw [fu0]
  exact key (((v 462) 204).toNatClampNeg + 1) 0 v h (by omega) (by omega)
theorem m_goDayL (h : inn (v 462 203) 7) : lX11_goDay_33 461 v ((v 462 203).toNatClampNeg + 1) 0 0 = sDueN (v 462) (((v 462) 203).toNatClampNeg) := by
  have hB : ((v 462) 203).toNatClampNeg < 7 := inn_lt h
  have key : ∀ (n k : Nat), k ≤ ((v 462) 203).toNatClampNeg → ((v 462) 203).toNatClampNeg + 1 ≤ n + k → lX11_goDay_33 461 v n (Int32.ofNat k) (sDueN (v 462) k) = sDueN (v 462) (((v 462) 203).toNatClampNeg) := by
    intro n
    induction n with
    | zero => intro k h1 h2; omega
    | succ n ih =>
      intro k h1 h2
      unfold lX11_goDay_33
      simp only [Int32.reduceToNatClampNeg]
      have ofl : (v 462 203 ≤ Int32.ofNat k) ↔ ((v 462) 203).toNatClampNeg ≤ k := of_le h.1 (by omega)
      by_cases hk : ((v 462) 203).toNatClampNeg ≤ k
      · have e : k = ((v 462) 203).toNatClampNeg := by omega
        rw [if_pos (ofl.mpr hk), e]
      · rw [if_neg (mt ofl.mp hk), ← ih (k + 1) (by omega) (by omega), of_S (by omega), m_due (of_in (by omega) (by decide)), to_of (by omega)]
        rfl
  exact key (((v 462) 203).toNatClampNeg + 1) 0 (by omega) (by omega)
theorem mo_goDayL (h : inn (v 462 203) 7) : olX11_goDay_33 461 v ((v 462 203).toNatClampNeg + 1) 0 0 := by
  have hB : ((v 462) 203).toNatClampNeg < 7 := inn_lt h
  have key : ∀ (n k : Nat) (acc : Int32), k ≤ ((v 462) 203).toNatClampNeg → ((v 462) 203).toNatClampNeg + 1 ≤ n + k → olX11_goDay_33 461 v n (Int32.ofNat k) acc := by
    intro n
    induction n with
    | zero => intro k acc h1 h2; omega
    | succ n ih =>
      intro k acc h1 h2
      unfold olX11_goDay_33
      simp only [Int32.reduceToNatClampNeg]
      have ofl : (v 462 203 ≤ Int32.ofNat k) ↔ ((v 462) 203).toNatClampNeg ≤ k := of_le h.1 (by omega)
      refine ⟨vL (by decide), fun hk => have hk := mt ofl.mpr hk; ⟨mo_due (of_in (by omega) (by decide)), fun _ _ => ?_⟩⟩
      rw [of_S (by omega)]
      exact ih (k + 1) _ (by omega) (by omega)
  exact key (((v 462) 203).toNatClampNeg + 1) 0 0 (by omega) (by omega)
end M30B
