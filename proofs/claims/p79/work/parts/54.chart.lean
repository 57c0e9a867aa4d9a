/-! P79, PLAIN 8: the law's look at a chart. -/
section T54
variable {n m : Nat} {v w : vSt} {A B : Ar} {p p2 p3 x y a : Int32} {k t c i : Nat} {f : Ar}
theorem fc_0 {a : UInt32} (h : vf_n32 a) : Op.cmpValue (FP.fcmp a a) .l = 0 := by
  have e : FP.fcmp a a = some .eq := by
    show FP.Core.order (FP.Core.decode FP.Core.b32 a.toNat) (FP.Core.decode FP.Core.b32 a.toNat) = some .eq
    have hc : ∀ i : Int, compare i i = .eq := fun i => by simp
    rcases dn32 h with ⟨s, e⟩ | ⟨s, c, q, e⟩
    · rw [e]
      show some (compare (FP.Core.signed s 1) (FP.Core.signed s 1)) = _
      rw [hc]
    · rw [e]
      show some (compare (FP.Core.signed s (FP.Core.inUnits c q (min q q))) (FP.Core.signed s (FP.Core.inUnits c q (min q q)))) = _
      rw [hc]
  rw [e]
  rfl
def ct (Q : Nat → Bool) : Nat → Nat
  | 0 => 0
  | i + 1 => ct Q i + (if Q i = true then 1 else 0)
theorem ct_le {Q : Nat → Bool} : ∀ {i : Nat}, ct Q i ≤ i
  | 0 => Nat.le_refl _
  | i + 1 => by
    have := ct_le (Q := Q) (i := i)
    unfold ct
    split <;> omega
/-- what counts only from a place on -/
theorem ct_fc {Q R : Nat → Bool} {s : Nat} (h1 : ∀ j, j < s → Q j = false) (h2 : ∀ j, s ≤ j → Q j = R j) : ∀ {i : Nat}, (i ≤ s → ct Q i = 0) ∧ ct Q (s + i) = fc R s i := by
  have h0 : ∀ {i : Nat}, i ≤ s → ct Q i = 0 := by
    intro i
    induction i with
    | zero => intro _; rfl
    | succ i ih =>
      intro hi
      unfold ct
      rw [ih (by omega), h1 i (by omega)]
      rfl
  intro i
  refine ⟨h0, ?_⟩
  induction i with
  | zero => exact h0 (Nat.le_refl _)
  | succ i ih =>
    show ct Q (s + i) + (if Q (s + i) = true then 1 else 0) = _
    rw [ih, h2 _ (by omega)]
    rfl
def suI (f : Ar) : Nat → Int32
  | 0 => 0
  | i + 1 => suI f i + f i
def mxI (f : Ar) : Nat → Int32
  | 0 => -9999
  | i + 1 => if f i ≤ mxI f i then mxI f i else f i
def mnI (f : Ar) : Nat → Int32
  | 0 => 9999
  | i + 1 => if mnI f i ≤ f i then mnI f i else f i
theorem mx_t : ∀ {i : Nat}, (∀ j, j < i → -9000 ≤ (f j).toInt ∧ (f j).toInt ≤ 9000) → (i = 0 ∧ mxI f i = -9999) ∨ ((∃ j, j < i ∧ mxI f i = f j) ∧ ∀ j, j < i → (f j).toInt ≤ (mxI f i).toInt)
  | 0, _ => Or.inl ⟨rfl, rfl⟩
  | i + 1, h => by
    have hi := h i (by omega)
    refine Or.inr ?_
    unfold mxI
    rcases mx_t (i := i) (fun j hj => h j (by omega)) with ⟨e0, e⟩ | ⟨⟨j, j1, j2⟩, j3⟩
    · subst e0
      rw [e, if_neg (fun q => by have := i_le q; rw [show (-9999 : Int32).toInt = -9999 from rfl] at this; omega)]
      exact ⟨⟨0, by omega, rfl⟩, fun j hj => by have : j = 0 := (by omega); subst this; exact Int.le_refl _⟩
    · by_cases q : f i ≤ mxI f i
      · rw [if_pos q]
        exact ⟨⟨j, by omega, j2⟩, fun l hl => by
          by_cases g : l = i
          · subst g; exact i_le q
          · exact j3 l (by omega)⟩
      · rw [if_neg q]
        have q := i_nle q
        exact ⟨⟨i, by omega, rfl⟩, fun l hl => by
          by_cases g : l = i
          · subst g; exact Int.le_refl _
          · have := j3 l (by omega); omega⟩
theorem mn_t : ∀ {i : Nat}, (∀ j, j < i → -9000 ≤ (f j).toInt ∧ (f j).toInt ≤ 9000) → (i = 0 ∧ mnI f i = 9999) ∨ ((∃ j, j < i ∧ mnI f i = f j) ∧ ∀ j, j < i → (mnI f i).toInt ≤ (f j).toInt)
  | 0, _ => Or.inl ⟨rfl, rfl⟩
  | i + 1, h => by
    have hi := h i (by omega)
    refine Or.inr ?_
    unfold mnI
    rcases mn_t (i := i) (fun j hj => h j (by omega)) with ⟨e0, e⟩ | ⟨⟨j, j1, j2⟩, j3⟩
    · subst e0
      rw [e, if_neg (fun q => by have := i_le q; rw [show (9999 : Int32).toInt = 9999 from rfl] at this; omega)]
      exact ⟨⟨0, by omega, rfl⟩, fun j hj => by have : j = 0 := (by omega); subst this; exact Int.le_refl _⟩
    · by_cases q : mnI f i ≤ f i
      · rw [if_pos q]
        exact ⟨⟨j, by omega, j2⟩, fun l hl => by
          by_cases g : l = i
          · subst g; exact i_le q
          · exact j3 l (by omega)⟩
      · rw [if_neg q]
        have q := i_nle q
        exact ⟨⟨i, by omega, rfl⟩, fun l hl => by
          by_cases g : l = i
          · subst g; exact Int.le_refl _
          · have := j3 l (by omega); omega⟩
def qU (c : Nat) (f : Ar) (j : Nat) : Bool := decide (c < j + 6) && (decide (0 < j) && upB f j)
def qD (c : Nat) (f : Ar) (j : Nat) : Bool := decide (c < j + 6) && (decide (0 < j) && dnB f j)
def qP (c : Nat) (f : Ar) (j : Nat) : Bool := decide (c < j + 8) && poB f j
def qN (c : Nat) (f : Ar) (j : Nat) : Bool := decide (c < j + 8) && neB f j
theorem qU_c (h : 6 ≤ c) : ct (qU c f) c = fc (upB f) (c - 5) 5 := by
  have := (ct_fc (Q := qU c f) (R := upB f) (s := c - 5) (fun j hj => by unfold qU; rw [decide_eq_false (by omega)]; rfl) (fun j hj => by unfold qU; rw [decide_eq_true (by omega), decide_eq_true (by omega)]; rfl) (i := 5)).2
  rw [show c - 5 + 5 = c by omega] at this
  exact this
theorem qD_c (h : 6 ≤ c) : ct (qD c f) c = fc (dnB f) (c - 5) 5 := by
  have := (ct_fc (Q := qD c f) (R := dnB f) (s := c - 5) (fun j hj => by unfold qD; rw [decide_eq_false (by omega)]; rfl) (fun j hj => by unfold qD; rw [decide_eq_true (by omega), decide_eq_true (by omega)]; rfl) (i := 5)).2
  rw [show c - 5 + 5 = c by omega] at this
  exact this
theorem qP_c (h : 7 ≤ c) : ct (qP c f) c = fc (poB f) (c - 7) 7 := by
  have := (ct_fc (Q := qP c f) (R := poB f) (s := c - 7) (fun j hj => by unfold qP; rw [decide_eq_false (by omega)]; rfl) (fun j hj => by unfold qP; rw [decide_eq_true (by omega)]; rfl) (i := 7)).2
  rw [show c - 7 + 7 = c by omega] at this
  exact this
theorem qN_c (h : 7 ≤ c) : ct (qN c f) c = fc (neB f) (c - 7) 7 := by
  have := (ct_fc (Q := qN c f) (R := neB f) (s := c - 7) (fun j hj => by unfold qN; rw [decide_eq_false (by omega)]; rfl) (fun j hj => by unfold qN; rw [decide_eq_true (by omega)]; rfl) (i := 7)).2
  rw [show c - 7 + 7 = c by omega] at this
  exact this
theorem of_if {P : Prop} [Decidable P] {Q : Bool} {k : Nat} (h : P ↔ Q = false) (hk : k < 1000) : Int32.ofNat k + (if P then 0 else 1 : Int32) = Int32.ofNat (k + (if Q = true then 1 else 0)) := by
  by_cases q : P
  · rw [if_pos q, h.mp q, Int32.add_zero]; rfl
  · have : Q = true := by
      cases Q
      · exact absurd (h.mpr rfl) q
      · rfl
    rw [if_neg q, this, if_pos rfl, of_S (by omega)]
/-- the chart of a type: its length, its values as the law asks for them -/
def CF (v : vSt) (p : Int32) (c : Nat) (f : Ar) : Prop := c ≤ 12 ∧ fX10_charted 448 p v = (0, Int32.ofNat c) ∧ ∀ j, j < c → fX10_chartedAt 448 p (Int32.ofNat j) v = (0, f j)
theorem cf_of (hV : Inv n m v) (hy : sIsY (v 462) p ≠ 0) : ∃ c, CF v p c (v ((((rN (v 448 0)) + 2 + 3) + 31 + p.toNatClampNeg) + 10)) ∧ v 462 ((78 + 21 * p.toNatClampNeg + 8)) = Int32.ofNat c ∧ ∀ j, j < c → v ((((rN (v 448 0)) + 2 + 3) + 31 + p.toNatClampNeg) + 10) j = v 462 ((78 + 21 * p.toNatClampNeg + (9 + j))) := by
  obtain ⟨c, h12, e9, e8, hw, ho⟩ := cfacts hV hy
  have hk := isY_in hV.wf.1.2.2.1 hy
  have hY := hV.sr.2.2.2.2.1 _ hk.2
  have ec : (v 462 ((78 + 21 * p.toNatClampNeg + 8))).toNatClampNeg = c := by rw [e8, to_of (by omega)]
  have hj : ∀ j, j < c → v ((((rN (v 448 0)) + 2 + 3) + 31 + p.toNatClampNeg) + 10) j = v 462 ((78 + 21 * p.toNatClampNeg + (9 + j))) := fun j hj => hY.2.2 j (by rw [ec]; exact hj)
  exact ⟨c, ⟨h12, by rw [x_charted hV hy, e8], fun j hj' => by rw [x_chartedAt hV, ca_k hV.wf hy (by rw [ec]; exact hj'), hj j hj']⟩, e8, hj⟩
theorem ch_l (hV : Inv n m v) (hC : CF v p c f) : ∀ fl i, i ≤ c → c < fl + i →
    olL_chart_236 v 448 p fl (Int32.ofNat i) (Int32.ofNat (ct (qN c f) i)) (Int32.ofNat (ct (qP c f) i)) (Int32.ofNat (ct (qD c f) i)) (Int32.ofNat (ct (qU c f) i)) (suI f i) (mxI f i) (mnI f i) ∧
    lL_chart_236 v 448 p fl (Int32.ofNat i) (Int32.ofNat (ct (qN c f) i)) (Int32.ofNat (ct (qP c f) i)) (Int32.ofNat (ct (qD c f) i)) (Int32.ofNat (ct (qU c f) i)) (suI f i) (mxI f i) (mnI f i) =
      (Int32.ofNat (ct (qN c f) c), Int32.ofNat (ct (qP c f) c), Int32.ofNat (ct (qD c f) c), Int32.ofNat (ct (qU c f) c), suI f c, mxI f c, mnI f c) := by
  obtain ⟨h12, c1, c2⟩ := hC
  intro fl
  induction fl with
  | zero => intro i h1 h2; omega
  | succ fl ih =>
    intro i h1 h2
    unfold olL_chart_236 lL_chart_236
    rw [c1]
    dsimp only
    have hle := ofle (k := c) (n := i) (by omega) (by omega)
    by_cases q : c ≤ i
    · rw [if_pos (hle.mpr q)]
      have : i = c := by omega
      subst this
      exact ⟨fun g => absurd (hle.mpr q) g, rfl⟩
    · rw [if_neg (mt hle.mp q)]
      have e6 : (Int32.ofNat c - 6).toInt = (c : Int) - 6 := by rw [ti_sub (b := 6) (by rw [of_ti (by omega), show (6 : Int32).toInt = 6 from rfl]; omega), of_ti (by omega)]; rfl
      have e8 : (Int32.ofNat c - 8).toInt = (c : Int) - 8 := by rw [ti_sub (b := 8) (by rw [of_ti (by omega), show (8 : Int32).toInt = 8 from rfl]; omega), of_ti (by omega)]; rfl
      have l6 : Int32.ofNat i ≤ Int32.ofNat c - 6 ↔ i + 6 ≤ c := by rw [Int32.le_iff_toInt_le, e6, of_ti (by omega)]; omega
      have l8 : Int32.ofNat i ≤ Int32.ofNat c - 8 ↔ i + 8 ≤ c := by rw [Int32.le_iff_toInt_le, e8, of_ti (by omega)]; omega
      have l0 : Int32.ofNat i ≤ 0 ↔ i = 0 := by rw [Int32.le_iff_toInt_le, of_ti (by omega), show (0 : Int32).toInt = 0 from rfl]; omega
      have hprev : ¬ Int32.ofNat i ≤ Int32.ofNat c - 6 → ¬ Int32.ofNat i ≤ 0 → fX10_chartedAt 448 p (Int32.ofNat i - 1) v = (0, f (i - 1)) := fun _ g => by
        have : i ≠ 0 := fun e => g (l0.mpr e)
        rw [ofn1' (by omega) (by omega)]
        exact c2 _ (by omega)
      have r := ih (i + 1) (by omega) (by omega)
      have t1 := ct_le (Q := qN c f) (i := i)
      have t2 := ct_le (Q := qP c f) (i := i)
      have t3 := ct_le (Q := qD c f) (i := i)
      have t4 := ct_le (Q := qU c f) (i := i)
      have y41 : Int32.ofNat (ct (qU c f) i) + (if Int32.ofNat i ≤ Int32.ofNat c - 6 then 0 else (if Int32.ofNat i ≤ 0 then 0 else (if (fX10_chartedAt 448 p (Int32.ofNat i) v).2 ≤ (fX10_chartedAt 448 p (Int32.ofNat i - 1) v).2 then 0 else 1)) : Int32) = Int32.ofNat (ct (qU c f) (i + 1)) := by
        have key : (if Int32.ofNat i ≤ Int32.ofNat c - 6 then 0 else (if Int32.ofNat i ≤ 0 then 0 else (if (fX10_chartedAt 448 p (Int32.ofNat i) v).2 ≤ (fX10_chartedAt 448 p (Int32.ofNat i - 1) v).2 then 0 else 1)) : Int32) = if qU c f i = false then 0 else 1 := by
          unfold qU
          by_cases g1 : Int32.ofNat i ≤ Int32.ofNat c - 6
          · rw [if_pos g1, decide_eq_false (by have := l6.mp g1; omega), Bool.false_and, if_pos rfl]
          · rw [if_neg g1, decide_eq_true (by have := mt l6.mpr g1; omega), Bool.true_and]
            by_cases g2 : Int32.ofNat i ≤ 0
            · rw [if_pos g2, decide_eq_false (by have := l0.mp g2; omega), Bool.false_and, if_pos rfl]
            · rw [if_neg g2, decide_eq_true (by have := mt l0.mpr g2; omega), Bool.true_and, hprev g1 g2, c2 i (by omega)]
              unfold upB
              by_cases g3 : f i ≤ f (i - 1)
              · rw [if_pos g3, decide_eq_false (by have := i_le g3; omega), if_pos rfl]
              · rw [if_neg g3, decide_eq_true (by have := i_nle g3; omega), if_neg (by decide)]
        rw [key]
        exact of_if Iff.rfl (by omega)
      have y43 : Int32.ofNat (ct (qD c f) i) + (if Int32.ofNat i ≤ Int32.ofNat c - 6 then 0 else (if Int32.ofNat i ≤ 0 then 0 else (if (fX10_chartedAt 448 p (Int32.ofNat i - 1) v).2 ≤ (fX10_chartedAt 448 p (Int32.ofNat i) v).2 then 0 else 1)) : Int32) = Int32.ofNat (ct (qD c f) (i + 1)) := by
        have key : (if Int32.ofNat i ≤ Int32.ofNat c - 6 then 0 else (if Int32.ofNat i ≤ 0 then 0 else (if (fX10_chartedAt 448 p (Int32.ofNat i - 1) v).2 ≤ (fX10_chartedAt 448 p (Int32.ofNat i) v).2 then 0 else 1)) : Int32) = if qD c f i = false then 0 else 1 := by
          unfold qD
          by_cases g1 : Int32.ofNat i ≤ Int32.ofNat c - 6
          · rw [if_pos g1, decide_eq_false (by have := l6.mp g1; omega), Bool.false_and, if_pos rfl]
          · rw [if_neg g1, decide_eq_true (by have := mt l6.mpr g1; omega), Bool.true_and]
            by_cases g2 : Int32.ofNat i ≤ 0
            · rw [if_pos g2, decide_eq_false (by have := l0.mp g2; omega), Bool.false_and, if_pos rfl]
            · rw [if_neg g2, decide_eq_true (by have := mt l0.mpr g2; omega), Bool.true_and, hprev g1 g2, c2 i (by omega)]
              unfold dnB
              by_cases g3 : f (i - 1) ≤ f i
              · rw [if_pos g3, decide_eq_false (by have := i_le g3; omega), if_pos rfl]
              · rw [if_neg g3, decide_eq_true (by have := i_nle g3; omega), if_neg (by decide)]
        rw [key]
        exact of_if Iff.rfl (by omega)
      have y45 : Int32.ofNat (ct (qP c f) i) + (if Int32.ofNat i ≤ Int32.ofNat c - 8 then 0 else (if (fX10_chartedAt 448 p (Int32.ofNat i) v).2 ≤ 0 then 0 else 1) : Int32) = Int32.ofNat (ct (qP c f) (i + 1)) := by
        have key : (if Int32.ofNat i ≤ Int32.ofNat c - 8 then 0 else (if (fX10_chartedAt 448 p (Int32.ofNat i) v).2 ≤ 0 then 0 else 1) : Int32) = if qP c f i = false then 0 else 1 := by
          unfold qP
          by_cases g1 : Int32.ofNat i ≤ Int32.ofNat c - 8
          · rw [if_pos g1, decide_eq_false (by have := l8.mp g1; omega), Bool.false_and, if_pos rfl]
          · rw [if_neg g1, decide_eq_true (by have := mt l8.mpr g1; omega), Bool.true_and, c2 i (by omega)]
            unfold poB
            by_cases g3 : f i ≤ 0
            · rw [if_pos g3, decide_eq_false (by have := i_le g3; rw [show (0 : Int32).toInt = 0 from rfl] at this; omega), if_pos rfl]
            · rw [if_neg g3, decide_eq_true (by have := i_nle g3; rw [show (0 : Int32).toInt = 0 from rfl] at this; omega), if_neg (by decide)]
        rw [key]
        exact of_if Iff.rfl (by omega)
      have y47 : Int32.ofNat (ct (qN c f) i) + (if Int32.ofNat i ≤ Int32.ofNat c - 8 then 0 else (if 0 ≤ (fX10_chartedAt 448 p (Int32.ofNat i) v).2 then 0 else 1) : Int32) = Int32.ofNat (ct (qN c f) (i + 1)) := by
        have key : (if Int32.ofNat i ≤ Int32.ofNat c - 8 then 0 else (if 0 ≤ (fX10_chartedAt 448 p (Int32.ofNat i) v).2 then 0 else 1) : Int32) = if qN c f i = false then 0 else 1 := by
          unfold qN
          by_cases g1 : Int32.ofNat i ≤ Int32.ofNat c - 8
          · rw [if_pos g1, decide_eq_false (by have := l8.mp g1; omega), Bool.false_and, if_pos rfl]
          · rw [if_neg g1, decide_eq_true (by have := mt l8.mpr g1; omega), Bool.true_and, c2 i (by omega)]
            unfold neB
            by_cases g3 : 0 ≤ f i
            · rw [if_pos g3, decide_eq_false (by have := i_le g3; rw [show (0 : Int32).toInt = 0 from rfl] at this; omega), if_pos rfl]
            · rw [if_neg g3, decide_eq_true (by have := i_nle g3; rw [show (0 : Int32).toInt = 0 from rfl] at this; omega), if_neg (by decide)]
        rw [key]
        exact of_if Iff.rfl (by omega)
      refine ⟨fun _ => ⟨(t_chartedAt hV).1, by rw [c2 i (by omega)], fun y37 e37 y39 e39 => ⟨fun g1 g2 => ⟨(t_chartedAt hV).1, by rw [hprev g1 g2]⟩, fun y41' e41 => ⟨fun g1 g2 => ⟨(t_chartedAt hV).1, by rw [hprev g1 g2]⟩, fun y43' e43 y45' e45 y47' e47 => ?_⟩⟩⟩, ?_⟩
      · rw [e41, e43, e45, e47, y41, y43, y45, y47, e37, e39, c2 i (by omega), of_S (by omega)]
        exact r.1
      · rw [y41, y43, y45, y47, c2 i (by omega), of_S (by omega)]
        exact r.2
def eqB (a : Int32) : Int32 → Bool := fun x => decide (x = a)
theorem cn_split : ∀ {n : Nat}, cn (leB a) f n = cn (ltB a) f n + cn (eqB a) f n
  | 0 => rfl
  | n + 1 => by
    have ih := cn_split (n := n)
    have hb : (if leB a (f n) = true then 1 else 0) = (if ltB a (f n) = true then 1 else 0) + (if eqB a (f n) = true then 1 else 0) := by
      unfold leB ltB eqB
      by_cases g : f n = a
      · rw [g, decide_eq_true (Int.le_refl _), decide_eq_false (Int.lt_irrefl _), decide_eq_true rfl]
        rfl
      · have : (f n).toInt ≠ a.toInt := fun e => g (Int32.toInt_inj.mp e)
        by_cases g2 : (f n).toInt < a.toInt
        · rw [decide_eq_true (by omega), decide_eq_true g2, decide_eq_false g]
          rfl
        · rw [decide_eq_false (by omega), decide_eq_false g2, decide_eq_false g]
          rfl
    show cn (leB a) f n + (if leB a (f n) = true then 1 else 0) = cn (ltB a) f n + (if ltB a (f n) = true then 1 else 0) + (cn (eqB a) f n + (if eqB a (f n) = true then 1 else 0))
    rw [ih, hb]
    omega
theorem ch_m (hV : Inv n m v) (hC : CF v p c f) {v0 : vSt} (hm : fX10_middleOf 448 p v = (0, a, v0)) : ∀ fl i, i ≤ c → c < fl + i →
    olL_chart_607 v 448 p fl (Int32.ofNat i) (Int32.ofNat (cn (eqB a) f i)) (Int32.ofNat (cn (ltB a) f i)) ∧ lL_chart_607 v 448 p fl (Int32.ofNat i) (Int32.ofNat (cn (eqB a) f i)) (Int32.ofNat (cn (ltB a) f i)) = (Int32.ofNat (cn (eqB a) f c), Int32.ofNat (cn (ltB a) f c)) := by
  obtain ⟨h12, c1, c2⟩ := hC
  intro fl
  induction fl with
  | zero => intro i h1 h2; omega
  | succ fl ih =>
    intro i h1 h2
    unfold olL_chart_607 lL_chart_607
    rw [c1, hm]
    dsimp only
    have hle := ofle (k := c) (n := i) (by omega) (by omega)
    by_cases q : c ≤ i
    · rw [if_pos (hle.mpr q)]
      have : i = c := by omega
      subst this
      exact ⟨fun g => absurd (hle.mpr q) g, rfl⟩
    · rw [if_neg (mt hle.mp q)]
      have r := ih (i + 1) (by omega) (by omega)
      have t1 := cn_le (P := eqB a) (f := f) (n := i)
      have t2 := cn_le (P := ltB a) (f := f) (n := i)
      have y81 : Int32.ofNat (cn (ltB a) f i) + (if a ≤ f i then 0 else 1 : Int32) = Int32.ofNat (cn (ltB a) f (i + 1)) := by
        refine of_if (Q := ltB a (f i)) ?_ (by omega)
        unfold ltB
        rw [Int32.le_iff_toInt_le, decide_eq_false_iff_not]
        omega
      have y83 : Int32.ofNat (cn (eqB a) f i) + (if f i = a then 1 else 0 : Int32) = Int32.ofNat (cn (eqB a) f (i + 1)) := by
        have e : (if f i = a then 1 else 0 : Int32) = if ¬ f i = a then 0 else 1 := by
          by_cases g : f i = a
          · rw [if_pos g, if_neg (fun h => h g)]
          · rw [if_neg g, if_pos g]
        rw [e]
        refine of_if (Q := eqB a (f i)) ?_ (by omega)
        unfold eqB
        rw [decide_eq_false_iff_not]
      refine ⟨fun _ => ⟨(t_chartedAt hV).1, by rw [c2 i (by omega)], fun y1 e1 y2 e2 => ?_⟩, ?_⟩
      · rw [e1, e2, c2 i (by omega), y81, y83, of_S (by omega)]
        exact r.1
      · rw [c2 i (by omega), y81, y83, of_S (by omega)]
        exact r.2
end T54
