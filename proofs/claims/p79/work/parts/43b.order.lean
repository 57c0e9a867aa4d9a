/-! THE PLAIN PART 14b: the class takes and sorts, the model counts. -/
section T41i
variable {P Q : Int32 → Bool} {f g : Ar} {n k c j q : Nat} {a b y p : Int32} {w : vSt}
theorem inn_of (h : k < n) (hn : n ≤ 2 ^ 31) : inn (Int32.ofNat k) n := ⟨by rw [of_ti (by omega)]; omega, by rw [of_ti (by omega)]; omega⟩
theorem ofle (hk : k < 2 ^ 31) (hn : n < 2 ^ 31) : Int32.ofNat k ≤ Int32.ofNat n ↔ k ≤ n := by rw [Int32.le_iff_toInt_le, of_ti hk, of_ti hn]; omega
theorem oflt (hk : k < 2 ^ 31) (hn : n < 2 ^ 31) : Int32.ofNat k < Int32.ofNat n ↔ k < n := by rw [Int32.lt_iff_toInt_lt, of_ti hk, of_ti hn]; omega
theorem cn_one : ∀ {n : Nat}, q < n → cn P f n + (if P (f q) = true then 0 else 1) ≤ n
  | 0, h => by omega
  | n + 1, h => by
    show cn P f n + _ + _ ≤ n + 1
    by_cases e : q = n
    · have := cn_le (P := P) (f := f) (n := n)
      rw [e]; split <;> omega
    · have := cn_one (n := n) (show q < n by omega)
      split <;> omega
theorem os_last (hq : q < c) (h : ∀ j, j < c → (f j).toInt ≤ (f q).toInt) : OS f c (c - 1) (f q) := by
  refine ⟨⟨q, hq, rfl⟩, ?_, ?_⟩
  · have := cn_one (P := ltB (f q)) (f := f) hq
    rw [if_neg (show ¬ ltB (f q) (f q) = true from fun e => by have := of_decide_eq_true e; omega)] at this
    omega
  · have := cn_hi (P := leB (f q)) (f := f) (Nat.le_refl c) (fun j hj => decide_eq_true (h j hj))
    omega
theorem os_first (hq : q < c) (h : ∀ j, j < c → (f q).toInt ≤ (f j).toInt) : OS f c 0 (f q) :=
  ⟨⟨q, hq, rfl⟩, cn_lo (fun j _ hj => decide_eq_false (by have := h j hj; omega)), cn_pos hq (decide_eq_true (Int.le_refl _))⟩
-- the places of the least and of the greatest
theorem le_t (h12 : c ≤ 12) (f : Ar) (h0 : 0 < c) : oX4_placeOfLeast 12 f (Int32.ofNat c) ∧ ∃ q, fX4_placeOfLeast 12 f (Int32.ofNat c) = Int32.ofNat q ∧ q < c ∧ ∀ j, j < c → (f q).toInt ≤ (f j).toInt := by
  have key : ∀ fl i q, 0 < i → i ≤ c → c < fl + i → q < i → (∀ j, j < i → (f q).toInt ≤ (f j).toInt) → olX4_placeOfLeast_4 12 f (Int32.ofNat c) fl (Int32.ofNat i) (Int32.ofNat q) ∧
      ∃ q', lX4_placeOfLeast_4 12 f (Int32.ofNat c) fl (Int32.ofNat i) (Int32.ofNat q) = Int32.ofNat q' ∧ q' < c ∧ ∀ j, j < c → (f q').toInt ≤ (f j).toInt := by
    intro fl
    induction fl with
    | zero => intro i q h1 h2 h3; omega
    | succ fl ih =>
      intro i q h1 h2 h3 h4 h5
      unfold lX4_placeOfLeast_4 olX4_placeOfLeast_4
      have e1 := ofle (k := c) (n := i) (by omega) (by omega)
      by_cases hc : c ≤ i
      · rw [if_pos (e1.mpr hc)]
        exact ⟨fun x => absurd (e1.mpr hc) x, q, rfl, by omega, fun j hj => h5 j (by omega)⟩
      rw [if_neg (mt e1.mp hc), entry_at (inn_of (show q < 12 by omega) (by decide)) (by decide), entry_at (inn_of (show i < 12 by omega) (by decide)) (by decide), to_of (by omega), to_of (by omega), of_S (by omega)]
      by_cases hl : f q ≤ f i
      · rw [if_pos hl]
        dsimp only
        rw [Int32.le_iff_toInt_le] at hl
        have r := ih (i + 1) q (by omega) (by omega) (by omega) (by omega) (fun j hj => by
          by_cases e : j = i
          · rw [e]; exact hl
          · exact h5 j (by omega))
        exact ⟨fun _ y4 e => by rw [e]; exact r.1, r.2⟩
      · rw [if_neg hl]
        dsimp only
        rw [Int32.le_iff_toInt_le] at hl
        have r := ih (i + 1) i (by omega) (by omega) (by omega) (by omega) (fun j hj => by
          by_cases e : j = i
          · rw [e]; exact Int.le_refl _
          · have := h5 j (by omega); omega)
        exact ⟨fun _ y4 e => by rw [e]; exact r.1, r.2⟩
  unfold oX4_placeOfLeast fX4_placeOfLeast
  exact key _ 1 0 (by omega) (by omega) (by rw [of_ti (by omega), show Int32.toInt 1 = 1 from rfl]; omega) (by omega) (fun j hj => by rw [show j = 0 by omega]; exact Int.le_refl _)
theorem gr_t (h12 : c ≤ 12) (f : Ar) (h0 : 0 < c) : oX4_placeOfGreatest 12 f (Int32.ofNat c) ∧ ∃ q, fX4_placeOfGreatest 12 f (Int32.ofNat c) = Int32.ofNat q ∧ q < c ∧ ∀ j, j < c → (f j).toInt ≤ (f q).toInt := by
  have key : ∀ fl i q, 0 < i → i ≤ c → c < fl + i → q < i → (∀ j, j < i → (f j).toInt ≤ (f q).toInt) → olX4_placeOfGreatest_4 12 f (Int32.ofNat c) fl (Int32.ofNat i) (Int32.ofNat q) ∧
      ∃ q', lX4_placeOfGreatest_4 12 f (Int32.ofNat c) fl (Int32.ofNat i) (Int32.ofNat q) = Int32.ofNat q' ∧ q' < c ∧ ∀ j, j < c → (f j).toInt ≤ (f q').toInt := by
    intro fl
    induction fl with
    | zero => intro i q h1 h2 h3; omega
    | succ fl ih =>
      intro i q h1 h2 h3 h4 h5
      unfold lX4_placeOfGreatest_4 olX4_placeOfGreatest_4
      have e1 := ofle (k := c) (n := i) (by omega) (by omega)
      by_cases hc : c ≤ i
      · rw [if_pos (e1.mpr hc)]
        exact ⟨fun x => absurd (e1.mpr hc) x, q, rfl, by omega, fun j hj => h5 j (by omega)⟩
      rw [if_neg (mt e1.mp hc), entry_at (inn_of (show q < 12 by omega) (by decide)) (by decide), entry_at (inn_of (show i < 12 by omega) (by decide)) (by decide), to_of (by omega), to_of (by omega), of_S (by omega)]
      by_cases hl : f i ≤ f q
      · rw [if_pos hl]
        dsimp only
        rw [Int32.le_iff_toInt_le] at hl
        have r := ih (i + 1) q (by omega) (by omega) (by omega) (by omega) (fun j hj => by
          by_cases e : j = i
          · rw [e]; exact hl
          · exact h5 j (by omega))
        exact ⟨fun _ y4 e => by rw [e]; exact r.1, r.2⟩
      · rw [if_neg hl]
        dsimp only
        rw [Int32.le_iff_toInt_le] at hl
        have r := ih (i + 1) i (by omega) (by omega) (by omega) (by omega) (fun j hj => by
          by_cases e : j = i
          · rw [e]; exact Int.le_refl _
          · have := h5 j (by omega); omega)
        exact ⟨fun _ y4 e => by rw [e]; exact r.1, r.2⟩
  unfold oX4_placeOfGreatest fX4_placeOfGreatest
  exact key _ 1 0 (by omega) (by omega) (by rw [of_ti (by omega), show Int32.toInt 1 = 1 from rfl]; omega) (by omega) (fun j hj => by rw [show j = 0 by omega]; exact Int.le_refl _)
-- one is taken away
theorem take_t (h12 : c ≤ 12) (f : Ar) (hq : q < c) : oX4_take 12 f (Int32.ofNat q) (Int32.ofNat c) ∧
    (∀ P, cn P (fX4_take 12 f (Int32.ofNat q) (Int32.ofNat c)) (c - 1) + (if P (f q) = true then 1 else 0) = cn P f c) := by
  have key : ∀ fl i (g : Ar), q ≤ i → i ≤ c - 1 → c - 1 < fl + i → (∀ j, i ≤ j → g j = f j) → (∀ P, cn P g i + (if P (f q) = true then 1 else 0) = cn P f (i + 1)) →
      olX4_take_6 12 (Int32.ofNat c) fl (Int32.ofNat i) g ∧ ∃ g', lX4_take_6 12 (Int32.ofNat c) fl (Int32.ofNat i) g = g' ∧ ∀ P, cn P g' (c - 1) + (if P (f q) = true then 1 else 0) = cn P f c := by
    intro fl
    induction fl with
    | zero => intro i g h1 h2 h3; omega
    | succ fl ih =>
      intro i g h1 h2 h3 h4 h5
      unfold lX4_take_6 olX4_take_6
      rw [ofn1' (by omega) (by omega), show Int32.ofNat 12 - 1 = Int32.ofNat 11 from by decide]
      have e1 := ofle (k := c - 1) (n := i) (by omega) (by omega)
      have e2 := ofle (k := 11) (n := i) (by omega) (by omega)
      by_cases hc : c - 1 ≤ i
      · rw [if_pos (e1.mpr hc)]
        refine ⟨fun x => absurd (e1.mpr hc) x, g, rfl, fun P => ?_⟩
        have := h5 P
        rw [show i + 1 = c by omega, show i = c - 1 by omega] at this
        exact this
      rw [if_neg (mt e1.mp hc), if_neg (mt e2.mp (by omega)), of_S (by omega), to_of (by omega), to_of (by omega)]
      dsimp only
      have r := ih (i + 1) (upd g i (g (i + 1))) (by omega) (by omega) (by omega) (fun j hj => by rw [upd_n (by omega)]; exact h4 j (by omega)) (fun P => by
        show cn P (upd g i (g (i + 1))) i + (if P (upd g i (g (i + 1)) i) = true then 1 else 0) + _ = cn P f (i + 1) + (if P (f (i + 1)) = true then 1 else 0)
        rw [upd_s, cn_cg (n := i) (g := g) (fun j hj => upd_n (by omega)), h4 (i + 1) (by omega)]
        have := h5 P
        omega)
      exact ⟨fun _ _ => ⟨by have := inn_of (show i + 1 < 12 by omega) (by decide); exact i_in this.1 this.2, by have := inn_of (show i < 12 by omega) (by decide); exact i_in this.1 this.2, fun g7 e => by rw [e]; exact r.1⟩, r.2⟩
  have e0 : (if (0 : Int32) < Int32.ofNat q then Int32.ofNat q else 0 : Int32) = Int32.ofNat q := by
    by_cases h : q = 0
    · rw [h]; rfl
    · rw [if_pos (show (0 : Int32) < Int32.ofNat q by rw [Int32.lt_iff_toInt_lt, of_ti (by omega), show Int32.toInt 0 = 0 from rfl]; omega)]
  unfold oX4_take fX4_take
  rw [e0]
  dsimp only
  obtain ⟨r1, g', r2, r3⟩ := key ((Int32.toInt (Int32.ofNat c - 1) - Int32.toInt (Int32.ofNat q)).toNat + 1) q f (Nat.le_refl _) (by omega) (by rw [ofn1' (by omega) (by omega), of_ti (by omega), of_ti (by omega)]; omega) (fun _ _ => rfl) (fun P => rfl)
  rw [r2]
  exact ⟨r1, r3⟩
/-- the least and the greatest are taken away, and again, until one or two are left -/
theorem ml_t : ∀ fl l (g : Ar), 0 < l → l ≤ 12 → l ≤ 2 * fl →
    olX4_middleLeft_16 fl (Int32.ofNat l) g ∧ ∃ l' g', lX4_middleLeft_16 fl (Int32.ofNat l) g = (Int32.ofNat l', g') ∧ (l' = 1 ∨ l' = 2) ∧ ∀ a, OS g' l' (l' / 2) a → OS g l (l / 2) a := by
  intro fl
  induction fl with
  | zero => intro l g h1 h2 h3; omega
  | succ fl ih =>
    intro l g h1 h2 h3
    unfold lX4_middleLeft_16 olX4_middleLeft_16
    have e1 := ofle (k := l) (n := 2) (by omega) (by omega)
    rw [show Int32.ofNat 2 = (2 : Int32) from rfl] at e1
    by_cases hl : l ≤ 2
    · rw [if_pos (e1.mpr hl)]
      exact ⟨fun x => absurd (e1.mpr hl) x, l, g, rfl, by omega, fun a h => h⟩
    obtain ⟨a1, q1, a2, a3, a4⟩ := le_t h2 g h1
    have t1 := take_t h2 g a3
    obtain ⟨b1, q2, b2, b3, b4⟩ := gr_t (c := l - 1) (by omega) (fX4_take 12 g (Int32.ofNat q1) (Int32.ofNat l)) (by omega)
    have t2 := take_t (c := l - 1) (by omega) (fX4_take 12 g (Int32.ofNat q1) (Int32.ofNat l)) b3
    have e2 : Int32.ofNat l + (-2) = Int32.ofNat (l - 2) := by
      apply Int32.toInt_inj.mp
      rw [of_ti (by omega), ti_add (by rw [of_ti (by omega), show (-2 : Int32).toInt = -2 from rfl]; omega), of_ti (by omega), show (-2 : Int32).toInt = -2 from rfl]
      omega
    rw [if_neg (mt e1.mp hl), a2, ofn1' (by omega) (by omega), e2]
    dsimp only
    rw [b2]
    obtain ⟨r1, l', g', r2, r3, r4⟩ := ih (l - 2) (fX4_take 12 (fX4_take 12 g (Int32.ofNat q1) (Int32.ofNat l)) (Int32.ofNat q2) (Int32.ofNat (l - 1))) (by omega) (by omega) (by omega)
    refine ⟨fun _ => ⟨a1, t1.1, fun g7 e7 => ?_⟩, l', g', r2, r3, fun a ha => ?_⟩
    · rw [e7, b2]
      refine ⟨b1, t2.1, fun g10 e10 => ?_⟩
      rw [e10]
      exact r1
    · have h5 := r4 a ha
      have hm := h5.1
      obtain ⟨j, hj, ej⟩ := h5.1
      have c1 := t1.2
      have c2 := t2.2
      have c3 : ∀ P, cn P (fX4_take 12 (fX4_take 12 g (Int32.ofNat q1) (Int32.ofNat l)) (Int32.ofNat q2) (Int32.ofNat (l - 1))) (l - 2) + (if P (fX4_take 12 g (Int32.ofNat q1) (Int32.ofNat l) q2) = true then 1 else 0) + (if P (g q1) = true then 1 else 0) = cn P g l := fun P => by
        have := c1 P
        have := c2 P
        rw [show l - 1 - 1 = l - 2 by omega] at this
        omega
      generalize hg2 : fX4_take 12 g (Int32.ofNat q1) (Int32.ofNat l) = g2 at *
      generalize hg3 : fX4_take 12 g2 (Int32.ofNat q2) (Int32.ofNat (l - 1)) = g3 at *
      -- a is among the rest, and so among all
      have m2 : 0 < cn (fun x => decide (x = a)) g3 (l - 2) := cn_pos hj (decide_eq_true ej)
      have m1 : 0 < cn (fun x => decide (x = a)) g2 (l - 1) := by
        have := c2 (fun x => decide (x = a))
        rw [show l - 1 - 1 = l - 2 by omega] at this
        omega
      have m0 : 0 < cn (fun x => decide (x = a)) g l := by
        have := c1 (fun x => decide (x = a))
        omega
      obtain ⟨i1, i2, i3⟩ := cn_ex m1
      obtain ⟨k1, k2, k3⟩ := cn_ex m0
      have i3 : g2 i1 = a := of_decide_eq_true i3
      have k3 : g k1 = a := of_decide_eq_true k3
      have hgr := b4 i1 i2
      rw [i3] at hgr
      have hle := a4 k1 k2
      rw [k3] at hle
      refine ⟨⟨k1, k2, k3⟩, ?_, ?_⟩
      · have := c3 (ltB a)
        have h6 := h5.2.1
        rw [if_neg (show ¬ ltB a (g2 q2) = true from fun e => by have := of_decide_eq_true e; omega)] at this
        have h7 : (if ltB a (g q1) = true then 1 else 0 : Nat) ≤ 1 := by split <;> omega
        omega
      · have := c3 (leB a)
        have h6 := h5.2.2
        rw [if_pos (show leB a (g q1) = true from decide_eq_true hle)] at this
        omega
theorem midL_c (h0 : 0 < c) (h12 : c ≤ 12) (f : Ar) : (olX4_middleLeft_16 13 (Int32.ofNat c) f ∧ ∀ (y4 : Int32) (g5 : Nat → Int32), y4 = (lX4_middleLeft_16 13 (Int32.ofNat c) f).1 → g5 = (lX4_middleLeft_16 13 (Int32.ofNat c) f).2 → oX4_placeOfGreatest 12 g5 y4) ∧
    OS f c (c / 2) (fX10_entry 12 (lX4_middleLeft_16 13 (Int32.ofNat c) f).2 (fX4_placeOfGreatest 12 (lX4_middleLeft_16 13 (Int32.ofNat c) f).2 (lX4_middleLeft_16 13 (Int32.ofNat c) f).1)) := by
  obtain ⟨r1, l', g', r2, r3, r4⟩ := ml_t 13 c f h0 h12 (by omega)
  rw [r2]
  dsimp only
  obtain ⟨b1, q2, b2, b3, b4⟩ := gr_t (c := l') (by omega) g' (by omega)
  refine ⟨⟨r1, fun y4 g5 e1 e2 => by rw [e1, e2]; exact b1⟩, r4 _ ?_⟩
  rw [b2, entry_at (inn_of (show q2 < 12 by omega) (by decide)) (by decide), to_of (by omega)]
  have := os_last b3 b4
  rw [show l' / 2 = l' - 1 by omega]
  exact this
-- the model's
theorem io_in (i1 : Int32) (h12 : c ≤ 12) (h8 : fX11_of 461 p 8 w = Int32.ofNat c) (hc : ∀ j, j < c → fX11_onChart 461 p (Int32.ofNat j) w = f j ∧ oX11_onChart 461 p (Int32.ofNat j) w) (h1 : oX11_onChart 461 p i1 w) :
    ∀ fl j, j ≤ c → c < fl + j → olX11_inOrder_26 w 461 p i1 fl (Int32.ofNat j) (Int32.ofNat (cn (leB (fX11_onChart 461 p i1 w)) f j)) (Int32.ofNat (cn (ltB (fX11_onChart 461 p i1 w)) f j)) ∧
      lX11_inOrder_26 w 461 p i1 fl (Int32.ofNat j) (Int32.ofNat (cn (leB (fX11_onChart 461 p i1 w)) f j)) (Int32.ofNat (cn (ltB (fX11_onChart 461 p i1 w)) f j)) = (Int32.ofNat (cn (leB (fX11_onChart 461 p i1 w)) f c), Int32.ofNat (cn (ltB (fX11_onChart 461 p i1 w)) f c)) := by
  intro fl
  induction fl with
  | zero => intro j a b; omega
  | succ fl ih =>
    intro j h2 h3
    unfold lX11_inOrder_26 olX11_inOrder_26
    rw [h8]
    have e1 := ofle (k := c) (n := j) (by omega) (by omega)
    by_cases hcj : c ≤ j
    · rw [if_pos (e1.mpr hcj)]
      exact ⟨fun q => absurd (e1.mpr hcj) q, by rw [show j = c by omega]⟩
    rw [if_neg (mt e1.mp hcj), (hc j (by omega)).1, of_S (by omega)]
    generalize hx : fX11_onChart 461 p i1 w = x at *
    have eL : Int32.ofNat (cn (leB x) f j) + (if x < f j then 0 else 1 : Int32) = Int32.ofNat (cn (leB x) f (j + 1)) := by
      show _ = Int32.ofNat (cn (leB x) f j + (if leB x (f j) = true then 1 else 0))
      have hb := cn_le (P := leB x) (f := f) (n := j)
      by_cases q : x < f j
      · rw [if_pos q, if_neg (fun e => by have := of_decide_eq_true e; rw [Int32.lt_iff_toInt_lt] at q; omega)]
        rw [Int32.add_zero]; rfl
      · rw [if_neg q, if_pos (show leB x (f j) = true from decide_eq_true (by rw [Int32.lt_iff_toInt_lt] at q; omega)), of_S (by omega)]
    have eT : Int32.ofNat (cn (ltB x) f j) + (if x ≤ f j then 0 else 1 : Int32) = Int32.ofNat (cn (ltB x) f (j + 1)) := by
      show _ = Int32.ofNat (cn (ltB x) f j + (if ltB x (f j) = true then 1 else 0))
      have hb := cn_le (P := ltB x) (f := f) (n := j)
      by_cases q : x ≤ f j
      · rw [if_pos q, if_neg (fun e => by have := of_decide_eq_true e; rw [Int32.le_iff_toInt_le] at q; omega)]
        rw [Int32.add_zero]; rfl
      · rw [if_neg q, if_pos (show ltB x (f j) = true from decide_eq_true (by rw [Int32.le_iff_toInt_le] at q; omega)), of_S (by omega)]
    have r := ih (j + 1) (by omega) (by omega)
    dsimp only
    rw [eL, eT]
    exact ⟨fun _ => ⟨(hc j (by omega)).2, h1, fun y11 e11 y13 e13 => by rw [e11, e13, eL, eT]; exact r.1⟩, r.2⟩
theorem io_t (h12 : c ≤ 12) (ho : oX11_of 461 p 8 w) (h8 : fX11_of 461 p 8 w = Int32.ofNat c) (hc : ∀ j, j < c → fX11_onChart 461 p (Int32.ofNat j) w = f j ∧ oX11_onChart 461 p (Int32.ofNat j) w) :
    oX11_inOrder 461 p (Int32.ofNat k) w ∧ (k < 2 ^ 31 → OS f c k a → fX11_inOrder 461 p (Int32.ofNat k) w = a) := by
  have key : ∀ fl i (x : Int32), i ≤ c → c < fl + i → olX11_inOrder_5 w 461 p (Int32.ofNat k) fl (Int32.ofNat i) x ∧
      (k < 2 ^ 31 → OS f c k a → ((∃ j, j < i ∧ f j = a) → x = a) → lX11_inOrder_5 w 461 p (Int32.ofNat k) fl (Int32.ofNat i) x = a) := by
    intro fl
    induction fl with
    | zero => intro i x h1 h2; omega
    | succ fl ih =>
      intro i x h1 h2
      unfold lX11_inOrder_5 olX11_inOrder_5
      rw [h8]
      have e1 := ofle (k := c) (n := i) (by omega) (by omega)
      by_cases hci : c ≤ i
      · rw [if_pos (e1.mpr hci)]
        exact ⟨⟨ho, fun q => absurd (e1.mpr hci) q⟩, fun _ hO hx => by
          obtain ⟨j, h3, h4⟩ := hO.1
          exact hx ⟨j, by omega, h4⟩⟩
      have hci' := hc i (by omega)
      have r26 := io_in (f := f) (Int32.ofNat i) h12 h8 hc hci'.2 ((Int32.toInt (Int32.ofNat c) - Int32.toInt 0).toNat + 1) 0 (by omega) (by rw [of_ti (by omega), show Int32.toInt 0 = 0 from rfl]; omega)
      rw [hci'.1] at r26
      rw [show Int32.ofNat 0 = (0 : Int32) from rfl, show Int32.ofNat (cn (leB (f i)) f 0) = (0 : Int32) from rfl, show Int32.ofNat (cn (ltB (f i)) f 0) = (0 : Int32) from rfl] at r26
      rw [if_neg (mt e1.mp hci), r26.2, hci'.1, of_S (by omega)]
      dsimp only
      refine ⟨⟨ho, fun _ => ⟨r26.1, fun y8 y9 e8 e9 => ⟨fun _ _ => hci'.2, fun y15 e15 => (ih (i + 1) y15 (by omega) (by omega)).1⟩⟩⟩, fun hk hO hx => ?_⟩
      refine (ih (i + 1) _ (by omega) (by omega)).2 hk hO fun hj => ?_
      have b1 := cn_le (P := ltB (f i)) (f := f) (n := c)
      have b2 := cn_le (P := leB (f i)) (f := f) (n := c)
      have f1 := oflt (k := k) (n := cn (ltB (f i)) f c) hk (by omega)
      have f2 := ofle (k := cn (leB (f i)) f c) (n := k) (by omega) hk
      by_cases ea : f i = a
      · rw [ea]
        rw [ea] at f1 f2
        rw [if_neg (mt f1.mp (by have := hO.2.1; omega)), if_neg (mt f2.mp (by have := hO.2.2; omega))]
      · have hx : x = a := hx (by
          obtain ⟨j, h3, h4⟩ := hj
          exact ⟨j, by
            have : j ≠ i := fun e => ea (by rw [← e]; exact h4)
            omega, h4⟩)
        by_cases g1 : k < cn (ltB (f i)) f c
        · rw [if_pos (f1.mpr g1)]; exact hx
        rw [if_neg (mt f1.mp g1)]
        by_cases g2 : cn (leB (f i)) f c ≤ k
        · rw [if_pos (f2.mpr g2)]; exact hx
        exact absurd (hO.uq (b := f i) (by omega) (by omega)) ea
  unfold oX11_inOrder fX11_inOrder
  dsimp only
  rw [h8]
  have hf : c < ((Int32.toInt (Int32.ofNat c) - Int32.toInt 0).toNat + 1) + 0 := by rw [of_ti (by omega), show Int32.toInt 0 = 0 from rfl]; omega
  exact ⟨(key _ 0 0 (by omega) hf).1, fun hk hO => (key _ 0 0 (by omega) hf).2 hk hO (fun ⟨j, h, _⟩ => by omega)⟩
end T41i
