/-! THE PLAIN PART 12f: the best tool; the fewest by trying. -/
section T41f
variable {n m : Nat} {v w : vSt} {A : Ar} {z k p p2 p3 c y : Int32}
theorem t_fewestByTrying (hI : Inv n m v) : oX10_fewestByTrying 448 p v ∧ oX11_fewestByTrying 461 p v ∧ OQ v (fX10_fewestByTrying 448 p v).1 (fX10_fewestByTrying 448 p v).2 (fX11_fewestByTrying 461 p v) (cc3 (fX10_fewestByTrying 448 p v).1) := by
  refine ⟨stk_o10 hI, ⟨stk_o11 hI, fun _ _ => ones_o _⟩, ?_⟩
  unfold fX10_fewestByTrying fX11_fewestByTrying
  rcases stk (p := p) hI with ⟨e1, e2⟩ | ⟨e1, e2⟩ | ⟨e1, e2⟩
  · rw [e1, e2, if_neg (show ¬ (1 : Nat) = 0 by decide)]
    exact ⟨qs_u2, fun q => absurd (show (1 : Nat) = 0 from q) (by decide)⟩
  · rw [e1, e2, if_neg (show ¬ (3 : Nat) = 0 by decide)]
    exact ⟨qs_uu, fun q => absurd (show (3 : Nat) = 0 from q) (by decide)⟩
  · rw [e1, e2, if_pos rfl]
    exact ⟨qs_u2, fun _ => bc_in (stack_in hI.wf.1.2.1)⟩
/-- the first of the least among those that may, between a and b -/
def BR (f : Nat → Prop) (g : Nat → Int32) (a b : Nat) (r : Int32) : Prop :=
  (r = -1 ∧ ∀ t, a ≤ t → t < b → ¬ f t) ∨ ∃ t, a ≤ t ∧ t < b ∧ r = Int32.ofNat t ∧ f t ∧ (∀ u, a ≤ u → u < t → f u → (g t).toInt < (g u).toInt) ∧ (∀ u, t ≤ u → u < b → f u → (g t).toInt ≤ (g u).toInt)
theorem BR.eq {f : Nat → Prop} {g : Nat → Int32} {a b : Nat} {r r' : Int32} (h : BR f g a b r) (h' : BR f g a b r') : r = r' := by
  rcases h with ⟨e, h1⟩ | ⟨t, t1, t2, t3, t4, t5, t6⟩ <;> rcases h' with ⟨e', h1'⟩ | ⟨s, s1, s2, s3, s4, s5, s6⟩
  · rw [e, e']
  · exact absurd s4 (h1 s s1 s2)
  · exact absurd t4 (h1' t t1 t2)
  · have : t = s := by
      rcases Nat.lt_trichotomy t s with q | q | q
      · have a1 := s5 t t1 q t4
        have a2 := t6 s (by omega) s2 s4
        omega
      · exact q
      · have a1 := t5 s s1 q s4
        have a2 := s6 t (by omega) t2 t4
        omega
    rw [t3, s3, this]
theorem BR.skipR {f : Nat → Prop} {g : Nat → Int32} {a b : Nat} {r : Int32} (hb : b < 100) (h : BR f g a b r) (hn : f b → ∃ t, t < b ∧ r = Int32.ofNat t ∧ (g t).toInt ≤ (g b).toInt) : BR f g a (b + 1) r := by
  rcases h with ⟨e, h1⟩ | ⟨t, t1, t2, t3, t4, t5, t6⟩
  · refine Or.inl ⟨e, fun t q1 q2 => ?_⟩
    by_cases q : t = b
    · intro hf
      obtain ⟨s, s2, s3, s5⟩ := hn (by rw [← q]; exact hf)
      rw [e] at s3
      have h0 : (-1 : Int32).toInt = (s : Int) := by rw [s3, of_ti (by omega)]
      rw [show (-1 : Int32).toInt = -1 from rfl] at h0
      omega
    · exact h1 t q1 (by omega)
  · refine Or.inr ⟨t, t1, by omega, t3, t4, t5, fun u q1 q2 hf => ?_⟩
    by_cases q : u = b
    · rw [q] at hf ⊢
      obtain ⟨s, s2, s3, s5⟩ := hn hf
      have e : (Int32.ofNat s).toNatClampNeg = (Int32.ofNat t).toNatClampNeg := by rw [← s3, ← t3]
      rw [to_of (by omega), to_of (by omega)] at e
      rw [← e]; exact s5
    · exact t6 u q1 (by omega) hf
theorem BR.takeR {f : Nat → Prop} {g : Nat → Int32} {a b : Nat} {r : Int32} (hb : b < 100) (ha : a ≤ b) (h : BR f g a b r) (hf : f b) (hn : ∀ t, t < b → r = Int32.ofNat t → (g b).toInt < (g t).toInt) : BR f g a (b + 1) (Int32.ofNat b) := by
  refine Or.inr ⟨b, ha, by omega, rfl, hf, fun u q1 q2 hu => ?_, fun u q1 q2 hu => by rw [show u = b by omega]; exact Int.le_refl _⟩
  rcases h with ⟨e, h1⟩ | ⟨t, t1, t2, t3, t4, t5, t6⟩
  · exact absurd hu (h1 u q1 q2)
  · have := hn t t2 t3
    by_cases q : u < t
    · have := t5 u q1 q hu; omega
    · have := t6 u (by omega) q2 hu; omega
theorem BR.skipL {f : Nat → Prop} {g : Nat → Int32} {a b : Nat} {r : Int32} (hb : b < 100) (h : BR f g (a + 1) b r) (hn : f a → ∃ t, t < b ∧ r = Int32.ofNat t ∧ (g t).toInt < (g a).toInt) : BR f g a b r := by
  rcases h with ⟨e, h1⟩ | ⟨t, t1, t2, t3, t4, t5, t6⟩
  · refine Or.inl ⟨e, fun t q1 q2 => ?_⟩
    by_cases q : t = a
    · intro hf
      obtain ⟨s, s2, s3, s5⟩ := hn (by rw [← q]; exact hf)
      rw [e] at s3
      have h0 : (-1 : Int32).toInt = (s : Int) := by rw [s3, of_ti (by omega)]
      rw [show (-1 : Int32).toInt = -1 from rfl] at h0
      omega
    · exact h1 t (by omega) q2
  · refine Or.inr ⟨t, by omega, t2, t3, t4, fun u q1 q2 hf => ?_, t6⟩
    by_cases q : u = a
    · rw [q] at hf ⊢
      obtain ⟨s, s2, s3, s5⟩ := hn hf
      have e : (Int32.ofNat s).toNatClampNeg = (Int32.ofNat t).toNatClampNeg := by rw [← s3, ← t3]
      rw [to_of (by omega), to_of (by omega)] at e
      rw [← e]; exact s5
    · exact t5 u (by omega) q2 hf
theorem BR.takeL {f : Nat → Prop} {g : Nat → Int32} {a b : Nat} {r : Int32} (ha : a < b) (h : BR f g (a + 1) b r) (hf : f a) (hn : ∀ t, t < b → r = Int32.ofNat t → (g a).toInt ≤ (g t).toInt) : BR f g a b (Int32.ofNat a) := by
  refine Or.inr ⟨a, Nat.le_refl _, ha, rfl, hf, fun u q1 q2 hu => absurd q1 (by omega), fun u q1 q2 hu => ?_⟩
  by_cases q0 : u = a
  · rw [q0]; exact Int.le_refl _
  rcases h with ⟨e, h1⟩ | ⟨t, t1, t2, t3, t4, t5, t6⟩
  · exact absurd hu (h1 u (by omega) q2)
  · have := hn t t2 t3
    by_cases q : u < t
    · have := t5 u (by omega) q hu; omega
    · have := t6 u (by omega) q2 hu; omega
theorem BR.neg {f : Nat → Prop} {g : Nat → Int32} {a b : Nat} {r : Int32} (hb : b < 100) (h : BR f g a b r) : (r < 0 ∧ r = -1) ∨ ∃ t, a ≤ t ∧ t < b ∧ r = Int32.ofNat t ∧ ¬ r < 0 := by
  rcases h with ⟨e, h1⟩ | ⟨t, t1, t2, t3, t4⟩
  · exact Or.inl ⟨by rw [e]; decide, e⟩
  · exact Or.inr ⟨t, t1, t2, t3, by rw [t3, Int32.lt_iff_toInt_lt, of_ti (by omega), show (0 : Int32).toInt = 0 from rfl]; omega⟩
end T41f
