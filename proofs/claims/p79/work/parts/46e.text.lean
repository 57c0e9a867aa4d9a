/-! THE PLAIN PART 17e: a run of the text, apart from both worlds. -/
section T46e
variable {T A A0 : Ar} {len b pos k n m cj : Nat} {a c p q : Int32} {s : Bool × Nat}
theorem sg_t (h : (sg T len c s).1 = true) : s.1 = true ∧ s.2 < len ∧ T s.2 = c ∧ sg T len c s = (true, s.2 + 1) := by
  by_cases z : s.1 = true ∧ s.2 < len ∧ T s.2 = c
  · exact ⟨z.1, z.2.1, z.2.2, if_pos z⟩
  · unfold sg at h
    rw [if_neg z] at h
    exact absurd (show false = true from h) (by decide)
theorem nu_t (hs : s.2 ≤ len) (h : (nu T len s).1.1 = true) : s.1 = true ∧ s.2 < (nu T len s).1.2 ∧ ∀ i, s.2 ≤ i → i < (nu T len s).1.2 → isD (T i) := by
  by_cases z : s.1 = true
  · have e : nu T len s = ((decide (s.2 < (dg T len 5 s.2 0).1), (dg T len 5 s.2 0).1), (dg T len 5 s.2 0).2) := if_pos z
    rw [e] at h ⊢
    have h : decide (s.2 < (dg T len 5 s.2 0).1) = true := h
    exact ⟨z, of_decide_eq_true h, (dg_t hs).2.2.2⟩
  · have e : nu T len s = ((false, s.2), 0) := if_neg z
    rw [e] at h
    exact absurd (show false = true from h) (by decide)
theorem nD {x : Int32} (h : isD x) : x ≠ 112 := fun e => by
  rw [e] at h
  exact absurd h.2 (by decide)
/-- what an order's text is like -/
theorem pOk (hb : b < len) (h : (pE T len b).1 = true) : lk (T b) < 7 ∧ b < (pE T len b).2 ∧ (lk (T b) = 2 → b + 5 ≤ (pE T len b).2) ∧ (lk (T b) = 3 → b + 3 ≤ (pE T len b).2) ∧ ∀ i, b < i → i < (pE T len b).2 → T i ≠ 112 := by
  obtain ⟨s1, s2, s3, s4⟩ := sg_t h
  have e59 : T (pN2 T len b).1.2 = 59 := s3
  have n59 : (59 : Int32) ≠ 112 := by decide
  have n44 : (44 : Int32) ≠ 112 := by decide
  have eE : (pE T len b).2 = (pN2 T len b).1.2 + 1 := by
    show (sg T len 59 (pN2 T len b).1).2 = _
    rw [s4]
  rw [eE]
  have h0 : pN1 T len b = (pS0 T b, 0) ∧ 5 ≤ lk (T b) ∧ lk (T b) ≤ 6 ∨ pN1 T len b = nu T len (pS0 T b) ∧ ¬ (5 ≤ lk (T b) ∧ lk (T b) ≤ 6) := by
    unfold pN1
    by_cases z : 5 ≤ lk (T b) ∧ lk (T b) ≤ 6
    · rw [if_pos z]; exact Or.inl ⟨rfl, z⟩
    · rw [if_neg z]; exact Or.inr ⟨rfl, z⟩
  have l0 := s0_le (T := T) hb
  have l1 := n1_le (T := T) hb
  have l2 := sg_le (T := T) (c := 44) (s := (pN1 T len b).1) l1.2
  -- the first number was read
  have F : (pN1 T len b).1.1 = true → lk (T b) < 7 ∧ b + 1 ≤ (pN1 T len b).1.2 ∧ (lk (T b) ≤ 4 → b + 2 ≤ (pN1 T len b).1.2) ∧ ∀ i, b < i → i < (pN1 T len b).1.2 → T i ≠ 112 := fun h1 => by
    rcases h0 with ⟨e, z⟩ | ⟨e, z⟩
    · have h7 : lk (T b) < 7 := by omega
      have es : pS0 T b = (true, b + 1) := if_pos h7
      rw [e]
      show _ ∧ b + 1 ≤ (pS0 T b).2 ∧ (_ → b + 2 ≤ (pS0 T b).2) ∧ ∀ i, b < i → i < (pS0 T b).2 → _
      rw [es]
      exact ⟨h7, Nat.le_refl _, fun q => by omega, fun i i1 i2 => by have i2 : i < b + 1 := i2; omega⟩
    · rw [e] at h1 ⊢
      obtain ⟨t1, t2, t3⟩ := nu_t l0.2 h1
      have h7 : lk (T b) < 7 := by
        by_cases q : lk (T b) < 7
        · exact q
        · have : pS0 T b = (false, b) := if_neg q
          rw [this] at t1
          exact absurd (show false = true from t1) (by decide)
      have es : pS0 T b = (true, b + 1) := if_pos h7
      rw [es] at t2 t3 ⊢
      have t2 : b + 1 < (nu T len (true, b + 1)).1.2 := t2
      exact ⟨h7, by omega, fun _ => by omega, fun i i1 i2 => nD (t3 i i1 i2)⟩
  by_cases k2 : lk (T b) ≤ 2
  · have e2 : pN2 T len b = nu T len (sg T len 44 (pN1 T len b).1) := by unfold pN2; rw [if_pos k2]
    rw [e2] at s1 e59 ⊢
    obtain ⟨t1, t2, t3⟩ := nu_t l2.2 s1
    obtain ⟨g1, g2, g3, g4⟩ := sg_t t1
    obtain ⟨f1, f2, f3, f4⟩ := F g1
    rw [g4] at t2 t3 e59 ⊢
    have t2 : (pN1 T len b).1.2 + 1 < (nu T len (true, (pN1 T len b).1.2 + 1)).1.2 := t2
    have := f3 (by omega)
    refine ⟨f1, by omega, fun _ => by omega, fun z => by omega, fun i i1 i2 => ?_⟩
    by_cases z1 : i < (pN1 T len b).1.2
    · exact f4 i i1 z1
    by_cases z2 : i = (pN1 T len b).1.2
    · rw [z2, g3]; exact n44
    by_cases z3 : i < (nu T len (true, (pN1 T len b).1.2 + 1)).1.2
    · exact nD (t3 i (by show (pN1 T len b).1.2 + 1 ≤ i; omega) z3)
    · rw [show i = (nu T len (true, (pN1 T len b).1.2 + 1)).1.2 by omega, e59]; exact n59
  · have e2 : (pN2 T len b).1 = (pN1 T len b).1 := by unfold pN2; rw [if_neg k2]
    rw [e2] at s1 e59 ⊢
    obtain ⟨f1, f2, f3, f4⟩ := F s1
    refine ⟨f1, by omega, fun z => by omega, fun z => by have := f3 (by omega); omega, fun i i1 i2 => ?_⟩
    by_cases z1 : i < (pN1 T len b).1.2
    · exact f4 i i1 z1
    · rw [show i = (pN1 T len b).1.2 by omega, e59]; exact n59
theorem cP_ex {e : Nat} (hb : b < e) (h : ∀ i, b < i → i < e → T i ≠ 112) : cP T e = cP T b + (if T b = 112 then 1 else 0) := by
  induction e with
  | zero => omega
  | succ e ih =>
    show cP T e + _ = _
    by_cases z : b = e
    · rw [z]
    · rw [ih (by omega) (fun i i1 i2 => h i i1 (by omega)), if_neg (h e (by omega) (by omega)), Nat.add_zero]
theorem ex_cg {p' q' : Int32} (h1 : k ≤ 4 → p = p') (h2 : k ≤ 2 → q = q') : exO A k p q = exO A k p' q' := by
  unfold exO
  by_cases k0 : k = 0
  · rw [if_pos k0, if_pos k0, h1 (by omega), h2 (by omega)]
  rw [if_neg k0, if_neg k0]
  by_cases k1 : k = 1
  · rw [if_pos k1, if_pos k1, h1 (by omega), h2 (by omega)]
  rw [if_neg k1, if_neg k1]
  by_cases k2 : k = 2
  · rw [if_pos k2, if_pos k2, h1 (by omega), h2 (by omega)]
  rw [if_neg k2, if_neg k2]
  by_cases k3 : k = 3
  · rw [if_pos k3, if_pos k3, h1 (by omega)]
  rw [if_neg k3, if_neg k3]
  by_cases k4 : k = 4
  · rw [if_pos k4, if_pos k4, h1 (by omega)]
  rw [if_neg k4, if_neg k4]
/-- the order at a position -/
def oAt (T : Ar) (len : Nat) (A : Ar) (pos : Nat) : Int32 × Ar := exO A (lk (T pos)) (pN1 T len pos).2 (pN2 T len pos).2
/-- the run: the state, the position, how many orders, the fault's reason and cause -/
def runP (T : Ar) (len : Nat) : Nat → Ar → Nat → Nat → Ar × Nat × Nat × Int32 × Int32
  | 0, A, pos, k => (A, pos, k, 0, 0)
  | f + 1, A, pos, k => if len ≤ pos then (A, pos, k, 0, 0) else (if (pE T len pos).1 = true then (if rfc (oAt T len A pos).1 = 0 then runP T len f (oAt T len A pos).2 (pE T len pos).2 (k + 1) else (A, pos, k, 2, rfc (oAt T len A pos).1)) else (A, pos, k, 1, Int32.ofNat ((pE T len pos).2 - pos)))
/-- what holds of the state on the way, A0 the state at the beginning -/
def RI (T : Ar) (len : Nat) (A0 A : Ar) (pos : Nat) : Prop :=
  pos ≤ len ∧ WF A ∧ AC A ∧ A 208 = A0 208 ∧ A 209 = A0 209 ∧ ∃ cj, 5 * cP T pos + 3 * cj ≤ pos ∧ (A 207).toNatClampNeg ≤ (A0 207).toNatClampNeg + cj ∧ (A 207).toNatClampNeg + (A 206).toNatClampNeg ≤ (A0 207).toNatClampNeg + (A0 206).toNatClampNeg + cP T pos
/-- the queue has room, however far the run has come -/
def RQ (T : Ar) (len : Nat) (A0 : Ar) : Prop := ∀ pos cj Q W, pos ≤ len → 5 * cP T pos + 3 * cj ≤ pos → Q ≤ (A0 207).toNatClampNeg + cj → Q + W ≤ (A0 207).toNatClampNeg + (A0 206).toNatClampNeg + cP T pos → Q ≤ 3199
theorem RI.qq (h : RI T len A0 A pos) (hq : RQ T len A0) : inn (A 207) 3200 := by
  obtain ⟨h1, h2, h3, h4, h5, cj, h6, h7, h8⟩ := h
  have := hq pos cj _ _ h1 h6 h7 h8
  have hn := h2.1.2.2.2.2.1
  have := rn_to hn.1
  exact ⟨hn.1, by omega⟩
theorem RI.step (h : RI T len A0 A pos) (hq : RQ T len A0) (hp : pos < len) (hE : (pE T len pos).1 = true) (hW : WF (oAt T len A pos).2) (hA : AC (oAt T len A pos).2) : RI T len A0 (oAt T len A pos).2 (pE T len pos).2 := by
  have h207 := h.qq hq
  obtain ⟨h1, h2, h3, h4, h5, cj, h6, h7, h8⟩ := h
  obtain ⟨o1, o2, o3, o4, o5⟩ := pOk hp hE
  have ec := cP_ex o2 o5
  obtain ⟨x1, x2, x3, x4⟩ := ex_q (k := lk (T pos)) (p := (pN1 T len pos).2) (p2 := (pN2 T len pos).2) h2 h207
  have hl := (pE_le (T := T) hp).2
  refine ⟨hl, hW, hA, x3.trans h4, x4.trans h5, cj + (if lk (T pos) = 3 then 1 else 0), ?_, ?_, ?_⟩
  · rw [ec]
    by_cases z2 : lk (T pos) = 2
    · have := lk_c.2.2.1 z2
      rw [if_pos this, if_neg (by omega)]
      have := o3 z2
      omega
    · have n112 : ¬ T pos = 112 := fun e => z2 (by rw [e]; decide)
      rw [if_neg n112]
      by_cases z3 : lk (T pos) = 3
      · rw [if_pos z3]; have := o4 z3; omega
      · rw [if_neg z3]; omega
  · have x1 : (((oAt T len A pos).2) 207).toNatClampNeg ≤ (A 207).toNatClampNeg + (if lk (T pos) = 3 then 1 else 0) := x1
    omega
  · have x2 : (((oAt T len A pos).2) 207).toNatClampNeg + (((oAt T len A pos).2) 206).toNatClampNeg ≤ (A 207).toNatClampNeg + (A 206).toNatClampNeg + (if lk (T pos) = 2 then 1 else 0) := x2
    rw [ec]
    by_cases z2 : lk (T pos) = 2
    · have := lk_c.2.2.1 z2
      rw [if_pos this]
      rw [if_pos z2] at x2
      omega
    · have n112 : ¬ T pos = 112 := fun e => z2 (by rw [e]; decide)
      rw [if_neg n112]
      rw [if_neg z2] at x2
      omega
end T46e
