/-! THE PLAIN PART 17a: an order's text; the model reads it. -/
theorem i0 : Int32.ofNat 0 = (0 : Int32) := rfl
section T46a
variable {T : Ar} {len b p f n : Nat} {a c y : Int32} {u w v : vSt} {ok : Bool}
abbrev isD (x : Int32) : Prop := 48 ≤ x.toInt ∧ x.toInt ≤ 57
/-- at most so many digits: where they end, and what they tell -/
def dg (T : Ar) (len : Nat) : Nat → Nat → Int32 → Nat × Int32
  | 0, p, a => (p, a)
  | f + 1, p, a => if p < len ∧ isD (T p) then dg T len f (p + 1) ((10 * a + T p) - 48) else (p, a)
theorem dg_t : ∀ {f p : Nat} {a : Int32}, p ≤ len → p ≤ (dg T len f p a).1 ∧ (dg T len f p a).1 ≤ len ∧ (dg T len f p a).1 ≤ p + f ∧ ∀ i, p ≤ i → i < (dg T len f p a).1 → isD (T i)
  | 0, p, a, h => ⟨Nat.le_refl _, h, Nat.le_refl _, fun i h1 h2 => by
    have h2 : i < p := h2
    omega⟩
  | f + 1, p, a, h => by
    unfold dg
    by_cases q : p < len ∧ isD (T p)
    · rw [if_pos q]
      obtain ⟨h1, h2, h3, h4⟩ := dg_t (f := f) (p := p + 1) (a := (10 * a + T p) - 48) q.1
      refine ⟨by omega, h2, by omega, fun i i1 i2 => ?_⟩
      by_cases e : i = p
      · rw [e]; exact q.2
      · exact h4 i (by omega) i2
    · rw [if_neg q]
      exact ⟨Nat.le_refl _, h, by show p ≤ p + (f + 1); omega, fun i h1 h2 => by
        have h2 : i < p := h2
        omega⟩
/-- the letter's number -/
def lk (c : Int32) : Nat := if c = 109 then 0 else (if c = 99 then 1 else (if c = 112 then 2 else (if c = 106 then 3 else (if c = 102 then 4 else (if c = 117 then 5 else (if c = 100 then 6 else 7))))))
def sg (T : Ar) (len : Nat) (c : Int32) (s : Bool × Nat) : Bool × Nat := if s.1 = true ∧ s.2 < len ∧ T s.2 = c then (true, s.2 + 1) else (false, s.2)
def nu (T : Ar) (len : Nat) (s : Bool × Nat) : (Bool × Nat) × Int32 := if s.1 = true then ((decide (s.2 < (dg T len 5 s.2 0).1), (dg T len 5 s.2 0).1), (dg T len 5 s.2 0).2) else ((false, s.2), 0)
def pS0 (T : Ar) (b : Nat) : Bool × Nat := if lk (T b) < 7 then (true, b + 1) else (false, b)
def pN1 (T : Ar) (len b : Nat) : (Bool × Nat) × Int32 := if 5 ≤ lk (T b) ∧ lk (T b) ≤ 6 then (pS0 T b, 0) else nu T len (pS0 T b)
def pN2 (T : Ar) (len b : Nat) : (Bool × Nat) × Int32 := if lk (T b) ≤ 2 then nu T len (sg T len 44 (pN1 T len b).1) else ((pN1 T len b).1, 0)
/-- an order: whether it is one, where it ends or breaks off -/
def pE (T : Ar) (len b : Nat) : Bool × Nat := sg T len 59 (pN2 T len b).1
theorem sg_le {s : Bool × Nat} (h : s.2 ≤ len) : s.2 ≤ (sg T len c s).2 ∧ (sg T len c s).2 ≤ len := by
  unfold sg
  by_cases q : s.1 = true ∧ s.2 < len ∧ T s.2 = c
  · rw [if_pos q]; exact ⟨Nat.le_succ _, q.2.1⟩
  · rw [if_neg q]; exact ⟨Nat.le_refl _, h⟩
theorem nu_le {s : Bool × Nat} (h : s.2 ≤ len) : s.2 ≤ (nu T len s).1.2 ∧ (nu T len s).1.2 ≤ len := by
  unfold nu
  by_cases q : s.1 = true
  · rw [if_pos q]; exact ⟨(dg_t h).1, (dg_t h).2.1⟩
  · rw [if_neg q]; exact ⟨Nat.le_refl _, h⟩
theorem s0_le (h : b < len) : b ≤ (pS0 T b).2 ∧ (pS0 T b).2 ≤ len := by
  unfold pS0
  split
  · exact ⟨Nat.le_succ _, h⟩
  · exact ⟨Nat.le_refl _, by show b ≤ len; omega⟩
theorem n1_le (h : b < len) : b ≤ (pN1 T len b).1.2 ∧ (pN1 T len b).1.2 ≤ len := by
  have h0 := s0_le (T := T) h
  unfold pN1
  split
  · exact h0
  · have := nu_le (T := T) (s := pS0 T b) h0.2
    exact ⟨by omega, this.2⟩
theorem n2_le (h : b < len) : b ≤ (pN2 T len b).1.2 ∧ (pN2 T len b).1.2 ≤ len := by
  have h0 := n1_le (T := T) h
  unfold pN2
  split
  · have h1 := sg_le (T := T) (c := 44) (s := (pN1 T len b).1) h0.2
    have := nu_le (T := T) (s := sg T len 44 (pN1 T len b).1) h1.2
    exact ⟨by omega, this.2⟩
  · exact h0
theorem pE_le (h : b < len) : b ≤ (pE T len b).2 ∧ (pE T len b).2 ≤ len := by
  have h0 := n2_le (T := T) h
  have := sg_le (T := T) (c := 59) (s := (pN2 T len b).1) h0.2
  exact ⟨by unfold pE; omega, this.2⟩
-- the model
/-- the model's world in the midst of an order -/
def MS (u w : vSt) (s : Bool × Nat) : Prop := (∀ q, q ≠ 461 → w q = u q) ∧ (∀ f, f ≠ 10 → f ≠ 12 → w 461 f = u 461 f) ∧ w 461 10 = Int32.ofNat s.2 ∧ w 461 12 = if s.1 = true then 1 else 0
theorem MS.u2 {s : Bool × Nat} {k : Nat} (h : MS u w s) (h1 : k ≠ 10) (h2 : k ≠ 12) : MS (u2 u 461 k y) (u2 w 461 k y) s :=
  ⟨fun q hq => by rw [u2_r hq, u2_r hq]; exact h.1 q hq, fun f f1 f2 => by
    rw [u2_q, u2_q]
    split
    · rfl
    · exact h.2.1 f f1 f2, by rw [u2_q, if_neg (by omega)]; exact h.2.2.1, by rw [u2_q, if_neg (by omega)]; exact h.2.2.2⟩
theorem m_here {s : Bool × Nat} (h : MS u w s) (hl : u 461 7 = Int32.ofNat len) (hs : s.2 ≤ len) (h60 : len ≤ 60) : fX11_here 461 w = (if len ≤ s.2 then 0 else u 466 s.2) ∧ oX11_here 461 w := by
  have h7 : w 461 7 = Int32.ofNat len := by rw [h.2.1 7 (by decide) (by decide)]; exact hl
  unfold fX11_here oX11_here
  rw [h7, h.2.2.1, h.1 466 (by decide), to_of (by omega)]
  have e := ofle (k := len) (n := s.2) (by omega) (by omega)
  by_cases q : len ≤ s.2
  · rw [if_pos (e.mpr q), if_pos q]
    exact ⟨rfl, fun z => absurd (e.mpr q) z⟩
  · rw [if_neg (mt e.mp q), if_neg q]
    exact ⟨rfl, fun _ => by have := inn_of (show s.2 < 60 by omega) (by decide); exact i_in this.1 this.2⟩
theorem takes_o : oX11_takes 461 y w := by
  intro y1 e
  rw [e]
  split
  · exact Or.inl rfl
  · split
    · exact Or.inl rfl
    · exact Or.inr rfl
theorem m_takes {s : Bool × Nat} (h : MS u w s) (hs : s.2 < 2 ^ 30) : MS u (fX11_takes 461 y w) (if s.1 = true ∧ y ≠ 0 then (true, s.2 + 1) else (false, s.2)) := by
  unfold fX11_takes
  rw [h.2.2.2]
  have n10 : ¬ (1 : Int32) = 0 := by decide
  have key : ∀ k : Int32, ∀ t : Bool × Nat, k = (if t.1 = true then 1 else 0) → Int32.ofNat s.2 + k = Int32.ofNat t.2 → MS u (u2 (u2 w 461 12 k) 461 10 (Int32.ofNat s.2 + k)) t := fun k t e1 e2 =>
    ⟨fun q hq => by rw [u2_r hq, u2_r hq]; exact h.1 q hq, fun f f1 f2 => by rw [u2_q, if_neg f1, u2_q, if_neg f2]; exact h.2.1 f f1 f2, by rw [u2_q, if_pos rfl]; exact e2, by rw [u2_q, if_neg (by decide), u2_q, if_pos rfl]; exact e1⟩
  have key2 : ∀ k : Int32, (k = 0 ∨ k = 1) → ∀ t : Bool × Nat, k = (if t.1 = true then 1 else 0) → Int32.ofNat s.2 + k = Int32.ofNat t.2 →
      MS u (u2 (u2 w 461 12 k) 461 10 (u2 w 461 12 k 461 10 + (if u2 w 461 12 k 461 12 = 0 then 0 else 1))) t := fun k hk t e1 e2 => by
    have a1 : u2 w 461 12 k 461 10 = Int32.ofNat s.2 := by rw [u2_q, if_neg (by decide)]; exact h.2.2.1
    have a2 : u2 w 461 12 k 461 12 = k := by rw [u2_q, if_pos rfl]
    rw [a1, a2]
    rcases hk with e | e
    · rw [e] at e1 e2 ⊢
      rw [if_pos rfl]; exact key 0 t e1 e2
    · rw [e] at e1 e2 ⊢
      rw [if_neg n10]; exact key 1 t e1 e2
  dsimp only
  by_cases q1 : s.1 = true
  · rw [if_pos q1, if_neg n10]
    by_cases q2 : y = 0
    · rw [if_pos q2, if_neg (show ¬ (s.1 = true ∧ y ≠ 0) from fun z => z.2 q2)]
      exact key2 0 (Or.inl rfl) (false, s.2) rfl (Int32.add_zero _)
    · rw [if_neg q2, if_pos (show s.1 = true ∧ y ≠ 0 from ⟨q1, q2⟩)]
      exact key2 1 (Or.inr rfl) (true, s.2 + 1) rfl (of_S (by omega))
  · rw [if_neg q1, if_pos (show (0 : Int32) = 0 from rfl), if_neg (show ¬ (s.1 = true ∧ y ≠ 0) from fun z => q1 z.1)]
    exact key2 0 (Or.inl rfl) (false, s.2) rfl (Int32.add_zero _)
theorem m_sign {s : Bool × Nat} (h : MS u w s) (hl : u 461 7 = Int32.ofNat len) (hs : s.2 ≤ len) (h60 : len ≤ 60) (hc : c ≠ 0) : MS u (fX11_takes 461 (if fX11_here 461 w = c then 1 else 0) w) (sg (u 466) len c s) ∧ oX11_here 461 w := by
  obtain ⟨e, ho⟩ := m_here h hl hs h60
  refine ⟨?_, ho⟩
  have r := m_takes (y := if fX11_here 461 w = c then 1 else 0) h (by omega)
  have es : sg (u 466) len c s = (if s.1 = true ∧ (if fX11_here 461 w = c then 1 else 0 : Int32) ≠ 0 then (true, s.2 + 1) else (false, s.2)) := by
    unfold sg
    rw [e]
    by_cases q : len ≤ s.2
    · rw [if_pos q, if_neg (fun z => by omega), if_neg (show ¬ (0 : Int32) = c from fun z => hc z.symm), if_neg (fun z => z.2 rfl)]
    · rw [if_neg q]
      by_cases q2 : u 466 s.2 = c
      · rw [if_pos q2]
        by_cases q3 : s.1 = true
        · rw [if_pos ⟨q3, by omega, q2⟩, if_pos ⟨q3, by decide⟩]
        · rw [if_neg (fun z => q3 z.1), if_neg (fun z => q3 z.1)]
      · rw [if_neg q2, if_neg (fun z => q2 z.2.2), if_neg (fun z => z.2 rfl)]
  rw [es]
  exact r
/-- the digits, one after the other -/
theorem m_digits (hl : u 461 7 = Int32.ofNat len) (h60 : len ≤ 60) : ∀ fl k p (a : Int32) (w : vSt), k ≤ 5 → 5 < fl + k → p ≤ len → MS u w (true, p) →
    olX11_takesNumber_4 461 fl (Int32.ofNat k) a w ∧ ∃ w', lX11_takesNumber_4 461 fl (Int32.ofNat k) a w = (Int32.ofNat (k + ((dg (u 466) len (5 - k) p a).1 - p)), (dg (u 466) len (5 - k) p a).2, w') ∧ MS u w' (true, (dg (u 466) len (5 - k) p a).1) := by
  intro fl
  induction fl with
  | zero => intro k p a w h1 h2; omega
  | succ fl ih =>
    intro k p a w h1 h2 h3 h
    have n10 : ¬ (1 : Int32) = 0 := by decide
    have e12 : w 461 12 = 1 := h.2.2.2
    unfold lX11_takesNumber_4 olX11_takesNumber_4
    rw [e12, if_neg n10]
    have e5 := ofle (k := 5) (n := k) (by omega) (by omega)
    rw [show Int32.ofNat 5 = (5 : Int32) from rfl] at e5
    by_cases hk : 5 ≤ k
    · rw [if_pos (e5.mpr hk), show 5 - k = 0 by omega]
      exact ⟨fun _ z => absurd (e5.mpr hk) z, w, by show _ = (Int32.ofNat (k + (p - p)), a, w); rw [Nat.sub_self, Nat.add_zero], h⟩
    obtain ⟨eh, oh⟩ := m_here h hl h3 h60
    rw [if_neg (mt e5.mp hk), eh, show 5 - k = (5 - (k + 1)) + 1 by omega]
    unfold dg
    dsimp only
    by_cases hd : p < len ∧ isD (u 466 p)
    · have hin : ¬ fX11_in (if len ≤ p then 0 else u 466 p) 48 57 = 0 := in_iff.mpr (by rw [if_neg (by omega)]; exact hd.2)
      rw [if_neg hin, if_pos hd, if_neg (show ¬ len ≤ p by omega), of_S (by omega)]
      have hd' := dg_t (T := u 466) (len := len) (f := 5 - (k + 1)) (p := p + 1) (a := (10 * a + u 466 p) - 48) hd.1
      have hw : MS u (u2 w 461 10 (w 461 10 + 1)) (true, p + 1) := ⟨fun q hq => by rw [u2_r hq]; exact h.1 q hq, fun f f1 f2 => by rw [u2_q, if_neg f1]; exact h.2.1 f f1 f2, by
        have e10 : w 461 10 = Int32.ofNat p := h.2.2.1
        rw [u2_q, if_pos rfl, e10]; exact of_S (by omega), by rw [u2_q, if_neg (by decide)]; exact e12⟩
      obtain ⟨r1, w', r2, r3⟩ := ih (k + 1) (p + 1) ((10 * a + u 466 p) - 48) _ (by omega) (by omega) hd.1 hw
      refine ⟨fun _ _ => ⟨oh, fun _ v8 e8 => by rw [e8]; exact r1⟩, w', ?_, r3⟩
      rw [r2, show k + 1 + ((dg (u 466) len (5 - (k + 1)) (p + 1) (10 * a + u 466 p - 48)).1 - (p + 1)) = k + ((dg (u 466) len (5 - (k + 1)) (p + 1) (10 * a + u 466 p - 48)).1 - p) by omega]
    · have hin : fX11_in (if len ≤ p then 0 else u 466 p) 48 57 = 0 := by
        by_cases z : fX11_in (if len ≤ p then 0 else u 466 p) 48 57 = 0
        · exact z
        · have := in_iff.mp z
          by_cases q : len ≤ p
          · rw [if_pos q] at this; exact absurd this.1 (by decide)
          · rw [if_neg q] at this; exact absurd ⟨by omega, this⟩ hd
      rw [if_pos hin, if_neg hd]
      exact ⟨fun _ _ => ⟨oh, fun z => absurd hin z⟩, w, by dsimp only; rw [Nat.sub_self, Nat.add_zero], h⟩
theorem m_num {s : Bool × Nat} (h : MS u w s) (hl : u 461 7 = Int32.ofNat len) (hs : s.2 ≤ len) (h60 : len ≤ 60) : (fX11_takesNumber 461 w).1 = (nu (u 466) len s).2 ∧ MS u (fX11_takesNumber 461 w).2 (nu (u 466) len s).1 ∧ oX11_takesNumber 461 w := by
  have n10 : ¬ (1 : Int32) = 0 := by decide
  have ho9 : ∀ (y4 : Int32) (y5 : Int32) (v6 : vSt), y4 = ((lX11_takesNumber_4 461 (6) 0 0 w) : Int32 × Int32 × vSt).1 → y5 = ((lX11_takesNumber_4 461 (6) 0 0 w) : Int32 × Int32 × vSt).2.1 → v6 = ((lX11_takesNumber_4 461 (6) 0 0 w) : Int32 × Int32 × vSt).2.2 → ((∀ (y9 : Int32), y9 = ((if ((v6 461 12) : Int32) = 0 then 0 else (if (y4 : Int32) ≤ 0 then 0 else 1) : Int32) : Int32) → (((y9 : Int32) = 0 ∨ (y9 : Int32) = 1)))) := by
    intro y4 y5 v6 _ _ _ y9 e
    rw [e]
    split
    · exact Or.inl rfl
    · split
      · exact Or.inl rfl
      · exact Or.inr rfl
  unfold fX11_takesNumber oX11_takesNumber nu
  by_cases q : s.1 = true
  · have h' : MS u w (true, s.2) := by rw [← q]; exact h
    obtain ⟨r1, w', r2, r3⟩ := m_digits hl h60 6 0 s.2 0 w (by omega) (by omega) hs h'
    have r1 : olX11_takesNumber_4 461 6 0 0 w := r1
    have r2 : lX11_takesNumber_4 461 6 0 0 w = (Int32.ofNat (0 + ((dg (u 466) len 5 s.2 0).1 - s.2)), (dg (u 466) len 5 s.2 0).2, w') := r2
    have r3 : MS u w' (true, (dg (u 466) len 5 s.2 0).1) := r3
    have hd := dg_t (T := u 466) (len := len) (f := 5) (p := s.2) (a := 0) hs
    rw [if_pos q]
    refine ⟨by rw [r2], ?_, r1, ho9⟩
    rw [r2]
    dsimp only
    have e12 : w' 461 12 = 1 := r3.2.2.2
    have e0 := ofle (k := 0 + ((dg (u 466) len 5 s.2 0).1 - s.2)) (n := 0) (by omega) (by omega)
    rw [i0] at e0
    have ek : (if w' 461 12 = 0 then 0 else (if Int32.ofNat (0 + ((dg (u 466) len 5 s.2 0).1 - s.2)) ≤ 0 then 0 else 1) : Int32) = if decide (s.2 < (dg (u 466) len 5 s.2 0).1) = true then 1 else 0 := by
      rw [e12, if_neg n10]
      by_cases z : s.2 < (dg (u 466) len 5 s.2 0).1
      · rw [if_neg (mt e0.mp (by omega)), if_pos (decide_eq_true z)]
      · rw [if_pos (e0.mpr (by omega)), if_neg (show ¬ decide (s.2 < (dg (u 466) len 5 s.2 0).1) = true by simpa using z)]
    rw [ek]
    exact ⟨fun q hq => by rw [u2_r hq]; exact r3.1 q hq, fun f f1 f2 => by rw [u2_q, if_neg f2]; exact r3.2.1 f f1 f2, by rw [u2_q, if_neg (by decide)]; exact r3.2.2.1, by rw [u2_q, if_pos rfl]⟩
  · have e12 : w 461 12 = 0 := by rw [h.2.2.2, if_neg q]
    have r2 : lX11_takesNumber_4 461 6 0 0 w = (0, 0, w) := by
      unfold lX11_takesNumber_4
      rw [if_pos e12]
    have r1 : olX11_takesNumber_4 461 6 0 0 w := by
      unfold olX11_takesNumber_4
      exact fun z => absurd e12 z
    rw [if_neg q]
    refine ⟨by rw [r2], ?_, r1, ho9⟩
    rw [r2]
    dsimp only
    rw [if_pos e12]
    exact ⟨fun q hq => by rw [u2_r hq]; exact h.1 q hq, fun f f1 f2 => by rw [u2_q, if_neg f2]; exact h.2.1 f f1 f2, by rw [u2_q, if_neg (by decide)]; exact h.2.2.1, by rw [u2_q, if_pos rfl]; rfl⟩
theorem lk_y : ((if c = 117 then 1 else (if c = 100 then 1 else 0) : Int32) = 0 ↔ ¬ (5 ≤ lk c ∧ lk c ≤ 6)) ∧ ((if c = 109 then 1 else (if c = 99 then 1 else (if c = 112 then 1 else 0)) : Int32) = 0 ↔ ¬ lk c ≤ 2) := by
  unfold lk
  by_cases h1 : c = 109
  · subst h1; decide
  by_cases h2 : c = 99
  · subst h2; decide
  by_cases h3 : c = 112
  · subst h3; decide
  by_cases h4 : c = 106
  · subst h4; decide
  by_cases h5 : c = 102
  · subst h5; decide
  by_cases h6 : c = 117
  · subst h6; decide
  by_cases h7 : c = 100
  · subst h7; decide
  rw [if_neg h6, if_neg h7, if_neg h1, if_neg h2, if_neg h3, if_neg h1, if_neg h2, if_neg h3, if_neg h4, if_neg h5, if_neg h6, if_neg h7]
  exact ⟨⟨fun _ => by omega, fun _ => rfl⟩, ⟨fun _ => by omega, fun _ => rfl⟩⟩
theorem lk_9 : ((if (if c = 117 then 1 else (if c = 100 then 1 else 0) : Int32) = 0 then (if (if c = 109 then 1 else (if c = 99 then 1 else (if c = 112 then 1 else 0)) : Int32) = 0 then (if c = 106 then 1 else (if c = 102 then 1 else 0)) else 1) else 1 : Int32) = 0 ↔ ¬ lk c < 7) := by
  unfold lk
  by_cases h1 : c = 109
  · subst h1; decide
  by_cases h2 : c = 99
  · subst h2; decide
  by_cases h3 : c = 112
  · subst h3; decide
  by_cases h4 : c = 106
  · subst h4; decide
  by_cases h5 : c = 102
  · subst h5; decide
  by_cases h6 : c = 117
  · subst h6; decide
  by_cases h7 : c = 100
  · subst h7; decide
  rw [if_neg h6, if_neg h7, if_neg h1, if_neg h2, if_neg h3, if_pos rfl, if_pos rfl, if_neg h4, if_neg h5, if_neg h1, if_neg h2, if_neg h3, if_neg h4, if_neg h5, if_neg h6, if_neg h7]
  exact ⟨fun _ => by omega, fun _ => rfl⟩
end T46a
