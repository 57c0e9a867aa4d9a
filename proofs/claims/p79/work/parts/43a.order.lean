/-! THE PLAIN PART 12h: what stands at a place in order. -/
section T41h
variable {P Q : Int32 → Bool} {f g : Ar} {n k c j : Nat} {a b y : Int32}
/-- how many of the first n entries are so -/
def cn (P : Int32 → Bool) (f : Ar) : Nat → Nat
  | 0 => 0
  | n + 1 => cn P f n + (if P (f n) = true then 1 else 0)
def ltB (a : Int32) : Int32 → Bool := fun x => decide (x.toInt < a.toInt)
def leB (a : Int32) : Int32 → Bool := fun x => decide (x.toInt ≤ a.toInt)
theorem cn_cg : ∀ {n : Nat}, (∀ j, j < n → f j = g j) → cn P f n = cn P g n
  | 0, _ => rfl
  | n + 1, h => by
    show cn P f n + _ = cn P g n + _
    rw [cn_cg (n := n) (fun j hj => h j (by omega)), h n (by omega)]
theorem cn_upd : ∀ {n : Nat}, k < n → cn P (upd f k y) n + (if P (f k) = true then 1 else 0) = cn P f n + (if P y = true then 1 else 0)
  | 0, h => by omega
  | n + 1, h => by
    show cn P (upd f k y) n + (if P (upd f k y n) = true then 1 else 0) + _ = cn P f n + _ + _
    by_cases e : k = n
    · rw [e, upd_s, cn_cg (n := n) (g := f) (fun j hj => upd_n (by omega))]
      omega
    · have := cn_upd (n := n) (show k < n by omega)
      rw [upd_n (show n ≠ k by omega)]
      omega
theorem cn_le : ∀ {n : Nat}, cn P f n ≤ n
  | 0 => Nat.le_refl _
  | n + 1 => by
    show cn P f n + _ ≤ n + 1
    have := cn_le (n := n)
    split <;> omega
theorem cn_mono (h : ∀ x, P x = true → Q x = true) : ∀ {n : Nat}, cn P f n ≤ cn Q f n
  | 0 => Nat.le_refl _
  | n + 1 => by
    show cn P f n + _ ≤ cn Q f n + _
    have := cn_mono h (n := n)
    by_cases e : P (f n) = true
    · rw [if_pos e, if_pos (h _ e)]; omega
    · rw [if_neg e]; split <;> omega
theorem cn_pos : ∀ {n : Nat}, j < n → P (f j) = true → 0 < cn P f n
  | 0, h, _ => by omega
  | n + 1, h, hp => by
    show 0 < cn P f n + _
    by_cases e : j = n
    · rw [← e, if_pos hp]; omega
    · have := cn_pos (n := n) (show j < n by omega) hp
      omega
theorem cn_ex : ∀ {n : Nat}, 0 < cn P f n → ∃ j, j < n ∧ P (f j) = true
  | 0, h => absurd h (Nat.lt_irrefl _)
  | n + 1, h => by
    by_cases e : P (f n) = true
    · exact ⟨n, by omega, e⟩
    · have h2 : 0 < cn P f n + (if P (f n) = true then 1 else 0) := h
      rw [if_neg e] at h2
      obtain ⟨j, h3, h4⟩ := cn_ex (n := n) (by omega)
      exact ⟨j, by omega, h4⟩
/-- none of the entries from k on is so -/
theorem cn_lo : ∀ {n : Nat}, (∀ j, k ≤ j → j < n → P (f j) = false) → cn P f n ≤ k
  | 0, _ => Nat.zero_le _
  | n + 1, h => by
    show cn P f n + _ ≤ k
    by_cases e : k ≤ n
    · have := cn_lo (n := n) (fun j a b => h j a (by omega))
      rw [h n e (by omega)]
      simpa using this
    · have := cn_le (P := P) (f := f) (n := n)
      split <;> omega
/-- all of the first k are so -/
theorem cn_hi : ∀ {n k : Nat}, k ≤ n → (∀ j, j < k → P (f j) = true) → k ≤ cn P f n
  | 0, k, h, _ => h
  | n + 1, k, h, hp => by
    show k ≤ cn P f n + _
    by_cases e : k = n + 1
    · have := cn_hi (k := n) (n := n) (Nat.le_refl _) (fun j hj => hp j (by omega))
      rw [hp n (by omega), if_pos rfl]
      omega
    · have := cn_hi (k := k) (n := n) (by omega) hp
      omega
/-- a is what stands at place k in the order of the first c -/
def OS (f : Ar) (c k : Nat) (a : Int32) : Prop := (∃ j, j < c ∧ f j = a) ∧ cn (ltB a) f c ≤ k ∧ k < cn (leB a) f c
theorem OS.uq (h : OS f c k a) (h1 : cn (ltB b) f c ≤ k) (h2 : k < cn (leB b) f c) : b = a := by
  by_cases e : a.toInt < b.toInt
  · have := cn_mono (P := leB a) (Q := ltB b) (f := f) (n := c) (fun x hx => by
      have hx := of_decide_eq_true hx
      exact decide_eq_true (by omega))
    have := h.2.2
    omega
  by_cases e2 : b.toInt < a.toInt
  · have := cn_mono (P := leB b) (Q := ltB a) (f := f) (n := c) (fun x hx => by
      have hx := of_decide_eq_true hx
      exact decide_eq_true (by omega))
    have := h.2.1
    omega
  exact Int32.toInt_inj.mp (by omega)
theorem OS.cg (h : OS f c k a) (he : ∀ j, j < c → g j = f j) : OS g c k a := by
  obtain ⟨⟨j, h1, h2⟩, h3, h4⟩ := h
  exact ⟨⟨j, h1, by rw [he j h1]; exact h2⟩, by rw [cn_cg he]; exact h3, by rw [cn_cg he]; exact h4⟩
/-- an order: the entry of the place -/
theorem os_sorted (hk : k < c) (hs : ∀ i j, i ≤ j → j < c → (f i).toInt ≤ (f j).toInt) : OS f c k (f k) :=
  ⟨⟨k, hk, rfl⟩, cn_lo (fun j h1 h2 => decide_eq_false (by have := hs k j h1 h2; omega)), by
    have := cn_hi (k := k + 1) (n := c) (P := leB (f k)) (f := f) (by omega) (fun j hj => decide_eq_true (hs j k (by omega) hk))
    omega⟩
/-- the same entries in another order -/
theorem OS.pm (h : OS f c k a) (he : ∀ P, cn P g c = cn P f c) : OS g c k a := by
  obtain ⟨⟨j, h1, h2⟩, h3, h4⟩ := h
  refine ⟨?_, by rw [he]; exact h3, by rw [he]; exact h4⟩
  have := cn_pos (P := fun x => decide (x = a)) (f := f) (n := c) h1 (decide_eq_true h2)
  rw [← he] at this
  obtain ⟨i, h5, h6⟩ := cn_ex this
  exact ⟨i, h5, of_decide_eq_true h6⟩
-- the sorting
theorem ofn1 (h : k < 2 ^ 31) (hk : 0 < k) : Int32.ofNat k + (-1) = Int32.ofNat (k - 1) := by
  apply Int32.toInt_inj.mp
  rw [of_ti (by omega), ti_add (by rw [of_ti h, show (-1 : Int32).toInt = -1 from rfl]; omega), of_ti h, show (-1 : Int32).toInt = -1 from rfl]
  omega
theorem ofn1' (h : k < 2 ^ 31) (hk : 0 < k) : Int32.ofNat k - 1 = Int32.ofNat (k - 1) := by
  apply Int32.toInt_inj.mp
  rw [of_ti (by omega), ti_sub (by rw [of_ti h, show (1 : Int32).toInt = 1 from rfl]; omega), of_ti h, show (1 : Int32).toInt = 1 from rfl]
  omega
/-- the inner loop: the entry moves down to where it belongs -/
theorem so_in {i : Nat} (hi : i < 12) (g2 : Ar) : ∀ fl p (g7 : Ar), p ≤ i → p < fl →
    (∀ P, cn P (upd g7 p (g2 i)) 12 = cn P g2 12) → (∀ x y, x ≤ y → y ≤ i → x ≠ p → y ≠ p → (g7 x).toInt ≤ (g7 y).toInt) → (∀ y, p < y → y ≤ i → (g2 i).toInt < (g7 y).toInt) →
    (∀ y, i < y → g7 y = g2 y) →
    olX4_sort_20 12 (Int32.ofNat i) g2 fl (Int32.ofNat p) g7 ∧
    ∃ q g9, lX4_sort_20 (Int32.ofNat i) g2 fl (Int32.ofNat p) g7 = (Int32.ofNat q, g9) ∧ q ≤ i ∧ (∀ P, cn P (upd g9 q (g2 i)) 12 = cn P g2 12) ∧
      (∀ x y, x ≤ y → y ≤ i → (upd g9 q (g2 i) x).toInt ≤ (upd g9 q (g2 i) y).toInt) ∧ (∀ y, i < y → g9 y = g2 y) := by
  intro fl
  induction fl with
  | zero => intro p g7 h1 h2; omega
  | succ fl ih =>
    intro p g7 h1 h2 hc hs hb hr
    unfold lX4_sort_20 olX4_sort_20
    by_cases hp : p = 0
    · rw [hp, if_pos (by decide)]
      refine ⟨fun q => absurd (by decide) q, 0, g7, rfl, by omega, by rw [← hp]; exact hc, fun x y hxy hy => ?_, hr⟩
      by_cases ex : x = 0
      · by_cases ey : y = 0
        · rw [ex, ey]; exact Int.le_refl _
        · rw [ex, upd_s, upd_n ey]
          have := hb y (by omega) hy
          omega
      · rw [upd_n ex, upd_n (show y ≠ 0 by omega)]
        exact hs x y hxy hy (by omega) (by omega)
    have h0 : ¬ Int32.ofNat p ≤ 0 := by
      rw [Int32.le_iff_toInt_le, of_ti (by omega), show (0 : Int32).toInt = 0 from rfl]; omega
    rw [if_neg h0, ofn1' (by omega) (by omega), to_of (show p - 1 < 2 ^ 31 by omega), to_of (show i < 2 ^ 31 by omega), ofn1 (by omega) (by omega), to_of (show p < 2 ^ 31 by omega)]
    have hin : vp_in (Int32.ofNat (p - 1)) 12 := i_in (by rw [of_ti (by omega)]; omega) (by rw [of_ti (by omega)]; omega)
    have hin2 : vp_in (Int32.ofNat p) 12 := i_in (by rw [of_ti (by omega)]; omega) (by rw [of_ti (by omega)]; omega)
    by_cases hg : g7 (p - 1) ≤ g2 i
    · rw [if_pos hg]
      refine ⟨fun _ => ⟨hin, fun q => absurd hg q⟩, p, g7, rfl, h1, hc, fun x y hxy hy => ?_, hr⟩
      rw [Int32.le_iff_toInt_le] at hg
      by_cases ex : x = p
      · by_cases ey : y = p
        · rw [ex, ey]; exact Int.le_refl _
        · rw [ex, upd_s, upd_n ey]
          have := hb y (by omega) hy
          omega
      · by_cases ey : y = p
        · rw [ey, upd_s, upd_n ex]
          have := hs x (p - 1) (by omega) (by omega) ex (by omega)
          omega
        · rw [upd_n ex, upd_n ey]
          exact hs x y hxy hy ex ey
    · rw [if_neg hg]
      rw [Int32.le_iff_toInt_le] at hg
      have r := ih (p - 1) (upd g7 p (g7 (p - 1))) (by omega) (by omega) (fun P => ?_) ?_ ?_ ?_
      · refine ⟨fun _ => ⟨hin, fun _ => ⟨hin2, fun g12 e => by rw [e]; exact r.1⟩⟩, r.2⟩
      · have e1 := cn_upd (P := P) (f := upd g7 p (g7 (p - 1))) (k := p - 1) (y := g2 i) (n := 12) (by omega)
        have e2 := cn_upd (P := P) (f := g7) (k := p) (y := g7 (p - 1)) (n := 12) (by omega)
        have e3 := cn_upd (P := P) (f := g7) (k := p) (y := g2 i) (n := 12) (by omega)
        have e4 := hc P
        rw [upd_n (show p - 1 ≠ p by omega)] at e1
        omega
      · intro x y hxy hy hx hy2
        by_cases ex : x = p
        · by_cases ey : y = p
          · rw [ex, ey]; exact Int.le_refl _
          · rw [ex, upd_s, upd_n ey]
            exact hs (p - 1) y (by omega) hy (by omega) ey
        · by_cases ey : y = p
          · rw [ey, upd_s, upd_n ex]
            exact hs x (p - 1) (by omega) (by omega) ex (by omega)
          · rw [upd_n ex, upd_n ey]
            exact hs x y hxy hy ex ey
      · intro y h3 h4
        by_cases ey : y = p
        · rw [ey, upd_s]; omega
        · rw [upd_n ey]; exact hb y (by omega) h4
      · intro y h3
        rw [upd_n (by omega)]
        exact hr y h3
theorem cn_sp : ∀ {n : Nat}, c ≤ n → (∀ j, c ≤ j → j < n → f j = g j) → cn P f n + cn P g c = cn P g n + cn P f c
  | 0, h, _ => by rw [show c = 0 by omega]; exact Nat.add_comm _ _
  | n + 1, h, he => by
    by_cases e : c = n + 1
    · rw [e]; exact Nat.add_comm _ _
    · have := cn_sp (n := n) (by omega) (fun j a b => he j a (by omega))
      show cn P f n + _ + cn P g c = cn P g n + _ + cn P f c
      rw [he n (by omega) (by omega)]
      omega
theorem so_out (hc : c ≤ 12) (f : Ar) : ∀ fl i (g : Ar), 0 < i → (i ≤ c ∨ c = 0 ∧ 0 < fl ∧ i = 1) → c < fl + i → (∀ P, cn P g 12 = cn P f 12) → (∀ x y, x ≤ y → y < i → y < c → (g x).toInt ≤ (g y).toInt) → (∀ y, c ≤ y → g y = f y) →
    olX4_sort_2 12 (Int32.ofNat c) fl (Int32.ofNat i) g ∧ ∃ g', lX4_sort_2 12 (Int32.ofNat c) fl (Int32.ofNat i) g = g' ∧ (∀ P, cn P g' 12 = cn P f 12) ∧ (∀ x y, x ≤ y → y < c → (g' x).toInt ≤ (g' y).toInt) ∧ (∀ y, c ≤ y → g' y = f y) := by
  intro fl
  induction fl with
  | zero =>
    intro i g h0 hi h1 h2 h3 h4
    exact absurd h1 (by omega)
  | succ fl ih =>
    intro i g h0 hi h1 h2 h3 h4
    unfold lX4_sort_2 olX4_sort_2
    have e1 : Int32.ofNat c ≤ Int32.ofNat i ↔ c ≤ i := by rw [Int32.le_iff_toInt_le, of_ti (by omega), of_ti (by omega)]; omega
    by_cases hci : c ≤ i
    · rw [if_pos (e1.mpr hci)]
      exact ⟨fun q => absurd (e1.mpr hci) q, g, rfl, h2, fun x y a b => h3 x y a (by omega) b, h4⟩
    have hni : ¬ 12 ≤ i := by omega
    have e2 : Int32.ofNat 12 ≤ Int32.ofNat i ↔ 12 ≤ i := by rw [Int32.le_iff_toInt_le, of_ti (by omega), of_ti (by omega)]; omega
    rw [if_neg (mt e1.mp hci), if_neg (mt e2.mp hni)]
    obtain ⟨r1, q, g9, r2, r3, r4, r5, r6⟩ := so_in (show i < 12 by omega) g 13 i g (Nat.le_refl _) (by omega) (fun P => by
      have := cn_upd (P := P) (f := g) (k := i) (y := g i) (n := 12) (by omega)
      omega) (fun x y a b c1 d => h3 x y a (by omega) (by omega)) (fun y a b => by omega) (fun y _ => rfl)
    rw [r2]
    dsimp only
    rw [to_of (show q < 2 ^ 31 by omega), to_of (show i < 2 ^ 31 by omega), of_S (by omega)]
    have hin : vp_in (Int32.ofNat i) 12 := i_in (by rw [of_ti (by omega)]; omega) (by rw [of_ti (by omega)]; omega)
    have hin2 : vp_in (Int32.ofNat q) 12 := i_in (by rw [of_ti (by omega)]; omega) (by rw [of_ti (by omega)]; omega)
    have r := ih (i + 1) (upd g9 q (g i)) (by omega) (by omega) (by omega) (fun P => (r4 P).trans (h2 P)) (fun x y a b d => r5 x y a (by omega)) (fun y a => by rw [upd_n (by omega), r6 y (by omega)]; exact h4 y a)
    refine ⟨fun _ _ => ⟨hin, r1, fun y8 g9' e8 e9 => ?_⟩, r.2⟩
    rw [e8, e9]
    refine ⟨hin2, fun g14 e => ?_⟩
    rw [e, to_of (show q < 2 ^ 31 by omega)]
    exact r.1
theorem sort_t (hc : c ≤ 12) (f : Ar) : oX4_sort 12 f (Int32.ofNat c) ∧ (∀ P, cn P (fX4_sort 12 f (Int32.ofNat c)) c = cn P f c) ∧ (∀ x y, x ≤ y → y < c → (fX4_sort 12 f (Int32.ofNat c) x).toInt ≤ (fX4_sort 12 f (Int32.ofNat c) y).toInt) := by
  have r := so_out hc f ((Int32.toInt (Int32.ofNat c) - Int32.toInt 1).toNat + 1) 1 f (by omega) (by omega) (by rw [of_ti (by omega), show Int32.toInt 1 = 1 from rfl]; omega) (fun _ => rfl) (fun x y a b _ => by rw [show x = y by omega]; exact Int.le_refl _) (fun _ _ => rfl)
  obtain ⟨r1, g, r2, r3, r4, r5⟩ := r
  rw [show Int32.ofNat 1 = (1 : Int32) from rfl] at r1 r2
  unfold oX4_sort fX4_sort
  dsimp only
  rw [r2]
  refine ⟨r1, fun P => ?_, r4⟩
  have := cn_sp (P := P) (f := g) (g := f) hc (fun j a _ => r5 j a)
  have := r3 P
  omega
theorem half_n (h12 : c ≤ 4000) : Int32.ofNat c / 2 = Int32.ofNat (c / 2) := by
  apply Int32.toInt_inj.mp
  rw [ti_div (by rw [of_ti (by omega)]; omega) (by decide), of_ti (by omega), of_ti (by omega)]
  rfl
/-- the class's middle -/
theorem mid_c (hc : 0 < c) (h12 : c ≤ 12) (f : Ar) : OS f c (c / 2) (fX10_entry 12 (fX4_sort 12 f (Int32.ofNat c)) (Int32.ofNat c / 2)) := by
  have r := sort_t h12 f
  have e : Int32.ofNat c / 2 = Int32.ofNat (c / 2) := by
    apply Int32.toInt_inj.mp
    rw [ti_div (by rw [of_ti (by omega)]; omega) (by decide), of_ti (by omega), of_ti (by omega)]
    rfl
  rw [e, entry_at ⟨by rw [of_ti (by omega)]; omega, by rw [of_ti (by omega)]; omega⟩ (by decide), to_of (by omega)]
  exact (os_sorted (show c / 2 < c by omega) r.2.2).pm (fun P => (r.2.1 P).symm)
end T41h
