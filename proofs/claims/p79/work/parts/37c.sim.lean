/-! THE PLAIN PART 8c: a whole block copied. -/
section R37c
variable {v : vSt} {b s : Nat} {A : Ar}
theorem q_out {b q : Nat} (hb : kd b = 7) (hq : kd q = 5 ∨ kd q = 15) (h : b ≤ q ∧ q < b + 64) : q = (b + 2 + 4) ∨ q = (b + 2 + 5) := by
  have h7 := kd7 hb
  have : ∀ i, i < 7 → ∀ e, e < 64 → (kd (64 * i + e) = 5 ∨ kd (64 * i + e) = 15) → (e = 6 ∨ e = 7) := by decide +kernel
  have h2 := this (b / 64) (by omega) (q - b) (by omega) (by rw [show 64 * (b / 64) + (q - b) = q by omega]; exact hq)
  omega
theorem c_copy (hb : kd b = 7) (hs : kd s = 7) (hne : b ≠ s) (h : SR v s A) (hw : WF A) (hcb : CP v b) (hcs : CP v s) :
    SR (fX7_copyFrom b s v) b A ∧ PO b v (fX7_copyFrom b s v) ∧ oX7_copyFrom b s v := by
  have hap := kd_ap hb hs hne
  obtain ⟨v2, e2, o2, D1, D2, D3, D4⟩ := c_copyD hb hs hne h hw
  have hcWb := chW hb
  have hcFb := chF hb
  have hcWs := chW hs
  have hcFs := chF hs
  have n5 := inn_lt hw.1.2.2.1
  have t5 := of_to hw.1.2.2.1.1
  have i5 := rn_to hw.1.2.2.1.1
  obtain ⟨y1, y4, y5, y6, y7, y8, y9, y10⟩ := h.2.1
  -- the source in v2
  have s2 : ∀ q, s ≤ q → q < s + 64 → v2 q = v q := fun q h1 h2 => D4 q (by omega) (by omega)
  -- the types
  have h05 : ∀ t, t < (A 205).toNatClampNeg → u2 v2 (b + 2) 1 (A 205) (((s + 2 + 3) + 31 + t)) 5 = 0 ∨ u2 v2 (b + 2) 1 (A 205) (((s + 2 + 3) + 31 + t)) 5 = 1 := by
    intro t ht
    rw [u2_r (by omega), s2 _ (by omega) (by omega), (h.2.2.2.2.1 t ht).1.2.2.2.2.2.1]
    have h7 := (hw.2.2.2.1.1 t ht).2.2.2.2.2.2.2.1
    have : (A ((78 + 21 * t + 7))).toInt = 0 ∨ (A ((78 + 21 * t + 7))).toInt = 1 := by have := h7.1; have := h7.2; omega
    rcases this with e | e
    · exact Or.inl (Int32.toInt_inj.mp e)
    · exact Or.inr (Int32.toInt_inj.mp e)
  obtain ⟨l1, l2, l3, l4⟩ := cpl_type (b := b) (s := s) hap (N := (A 205).toNatClampNeg) (by omega) ((A 205).toNatClampNeg + 1) 0 (u2 v2 (b + 2) 1 (A 205)) (by rw [u2_s, t5]) (by omega) (by omega) h05
  have ev4 : ∃ v4, v4 = lX0_copyFrom_18 (b + 2) (s + 2) ((A 205).toNatClampNeg + 1) (Int32.ofNat 0) (u2 v2 (b + 2) 1 (A 205)) := ⟨_, rfl⟩
  obtain ⟨v4, ev4⟩ := ev4
  rw [← ev4] at l1 l2
  have ev4' : lX0_copyFrom_18 (b + 2) (s + 2) ((A 205).toNatClampNeg + 1) 0 (u2 v2 (b + 2) 1 (A 205)) = v4 := ev4.symm
  have f4 : ∀ q, q ≠ b + 2 → (q < ((b + 2 + 3) + 31 + 0) ∨ ((b + 2 + 3) + 31 + 15) ≤ q) → v4 q = v2 q := fun q h1 h2 => (l1 q h2).trans (u2_r h1)
  have f4s : ∀ q, s ≤ q → q < s + 64 → v4 q = v q := fun q h1 h2 => (f4 q (by omega) (by omega)).trans (s2 q h1 h2)
  have f4b : ∀ q, b ≤ q → q < b + 14 → q ≠ b + 1 → q ≠ b + 2 → v4 q = v q := fun q h1 h2 h3 h4 => (f4 q h4 (by omega)).trans (D4 q h3 (by omega))
  have p24 : pot v4 = pot v2 := pot_cg (fun q hq => by
    by_cases hq2 : b ≤ q ∧ q < b + 64
    · rcases q_out hb hq hq2 with e | e <;> subst e <;> rw [f4 _ (by omega) (by omega)]
    · rw [f4 _ (by omega) (by omega)])
  have p2 : pot v2 = pot v := pot_cg (fun q hq => by
    by_cases hq2 : b ≤ q ∧ q < b + 64
    · rcases q_out hb hq hq2 with e | e <;> subst e <;> rw [D4 _ (by omega) (by omega)]
    · rw [D4 _ (by omega) (by omega)])
  -- the bench's queue
  obtain ⟨⟨c4, c5, c6⟩, cF⟩ := hcb
  obtain ⟨⟨g4, g5, g6⟩, gF⟩ := hcs
  have z20 : (20 : Int32).toInt = 20 := rfl
  have w3s : v4 ((s + 2 + 4)) 3 = A 206 := by rw [f4s _ (by omega) (by omega)]; exact h.2.2.2.2.2.1.1
  have hn6 := hw.1.2.2.2.1
  have w4b : v4 ((b + 2 + 4)) = v ((b + 2 + 4)) := f4b _ (by omega) (by omega) (by omega) (by omega)
  have w4s : v4 ((s + 2 + 4)) = v ((s + 2 + 4)) := f4s _ (by omega) (by omega)
  obtain ⟨r1, r2⟩ := mr_no (v := v4) (q := (b + 2 + 4)) (w := v4 ((s + 2 + 4)) 3) (by rw [w4b, c4]; decide) (by rw [w3s, w4b, c4, z20]; have := hn6.2; omega)
  obtain ⟨q1, q2, q3, q4, q5, q6⟩ := cp_queue (v := v4) (v3 := v4) (q := (b + 2 + 4)) (o := (s + 2 + 4)) (Or.inl (kdW hb)) (Or.inl (kdW hs)) (by omega) r1.symm r2 (Nat.le_refl _) (fun _ _ _ => rfl) (by rw [w3s, w4b, c4, z20]; exact ⟨hn6.1, by have := hn6.2; omega⟩) (by rw [w4b, c4, c5]) (by rw [w4b, c4, c6]) (by rw [w3s, w4s, g4, z20]; have := hn6.2; omega) (by rw [w4s, g4, g5]) (by rw [w4s, g4, g6])
  obtain ⟨v10, ev10⟩ : ∃ v10, v10 = fX5_copyFrom ((b + 2 + 4)) ((s + 2 + 4)) v4 := ⟨_, rfl⟩
  rw [← ev10] at q1 q2 q3 q4 q6
  rw [hcWb] at q1 q4
  rw [w3s] at q3 q4
  rw [hcWs] at q4
  have f10 : ∀ q, q ≠ (b + 2 + 4) → (q < b + 8 ∨ b + 11 ≤ q) → v10 q = v4 q := fun q h1 h2 => q1 q h1 (by omega)
  have f10s : ∀ q, s ≤ q → q < s + 64 → v10 q = v q := fun q h1 h2 => (f10 q (by omega) (by omega)).trans (f4s q h1 h2)
  have F10b : v10 ((b + 2 + 5)) = v ((b + 2 + 5)) := (f10 _ (by omega) (by omega)).trans (f4b _ (by omega) (by omega) (by omega) (by omega))
  have W10b : ∀ f, f ≠ 3 → v10 ((b + 2 + 4)) f = v ((b + 2 + 4)) f := fun f hf => (q2 f hf).trans (by rw [w4b])
  -- the queue of those to be filed
  have w3f : v10 ((s + 2 + 5)) 3 = A 207 := by rw [f10s _ (by omega) (by omega)]; exact h.2.2.2.2.2.2.1
  have hn7 := hw.1.2.2.2.2.1
  have hc10 : CP v10 b := by
    unfold CP
    rw [W10b 4 (by omega), W10b 5 (by omega), W10b 6 (by omega), F10b]
    exact ⟨⟨c4, c5, c6⟩, cF⟩
  obtain ⟨v3, m1, m2, m3, m4, m5', m6, m7, m8, m9⟩ := mr_f (v := v10) (w := v10 ((s + 2 + 5)) 3) hb hc10 (by rw [w3f]; exact ⟨hn7.1, by have := hn7.2; omega⟩)
  obtain ⟨hcw, k0, k1, k5, k6, k7⟩ := m4
  have F10s : v10 ((s + 2 + 5)) = v ((s + 2 + 5)) := f10s _ (by omega) (by omega)
  obtain ⟨u1, u2', u3, u4, u5, u6⟩ := cp_queue (v := v10) (v3 := v3) (q := (b + 2 + 5)) (o := (s + 2 + 5)) (Or.inr (kdF hb)) (Or.inr (kdF hs)) (by omega) m1 m8 m9 (fun r h1 h2 => m2 r (by omega) (by omega)) ⟨by rw [w3f]; exact hn7.1, m6⟩ k5 k6 (by rw [F10s]; exact gF.2.2.2.2) (by rw [F10s]; exact gF.2.2.1) (by rw [F10s]; exact gF.2.2.2.1)
  obtain ⟨v13, ev13⟩ : ∃ v13, v13 = fX5_copyFrom ((b + 2 + 5)) ((s + 2 + 5)) v10 := ⟨_, rfl⟩
  rw [← ev13] at u1 u2' u3 u4 u6
  rw [hcFb] at u1 u4
  rw [w3f] at u3 u4
  rw [hcFs] at u4
  have f13 : ∀ q, q ≠ (b + 2 + 5) → (q < b + 11 ∨ b + 14 ≤ q) → v13 q = v10 q := fun q h1 h2 => (u1 q h1 (by omega)).trans (m2 q h1 h2)
  have B13 : v13 (s + 2) = v (s + 2) := (f13 _ (by omega) (by omega)).trans (f10s _ (by omega) (by omega))
  have hbs : ∀ (w : vSt) k y, u2 w (b + 2) k y (s + 2) = w (s + 2) := fun w k y => u2_r (by omega)
  have e42 : v2 (s + 2) 1 = A 205 := by rw [s2 _ (by omega) (by omega)]; exact y1
  have ef : fX7_copyFrom b s v = u2 (u2 (u2 (u2 (u2 (u2 (u2 v13 (b + 2) 4 (A 209)) (b + 2) 5 (A 211)) (b + 2) 6 (A 212)) (b + 2) 7 (A 213)) (b + 2) 8 (A 214)) (b + 2) 9 (A 215)) (b + 2) 10 (A 216) := by
    unfold fX7_copyFrom fX0_copyFrom
    simp only [← e2, e42, u2_s, fu0, ev4']
    rw [show b + 2 + 4 = (b + 2 + 4) from rfl, show s + 2 + 4 = (s + 2 + 4) from rfl, show b + 2 + 5 = (b + 2 + 5) from rfl, show s + 2 + 5 = (s + 2 + 5) from rfl]
    rw [← ev10, ← ev13]
    simp only [hbs, B13, y4, y5, y6, y7, y8, y9, y10]
  have fE : ∀ q, q ≠ b + 2 → fX7_copyFrom b s v q = v13 q := fun q hq => by rw [ef, u2_r hq, u2_r hq, u2_r hq, u2_r hq, u2_r hq, u2_r hq, u2_r hq]
  have hpf : pot (fX7_copyFrom b s v) = pot v13 := pot_cg (fun q hq => by
    have hk0 : kd (b + 2) = 0 := kc_7_0 hb
    rw [fE q (fun e => by rw [e, hk0] at hq; rcases hq with h | h <;> exact absurd h (by decide))])
  have fO : ∀ q, q ≠ b + 2 → q ≠ (b + 2 + 4) → q ≠ (b + 2 + 5) → (q < b + 8 ∨ b + 14 ≤ q) → fX7_copyFrom b s v q = v4 q := fun q h1 h2 h3 h4 => by rw [fE q h1, f13 q h3 (by omega), f10 q h2 (by omega)]
  have gW : ∀ f, f ≠ 3 → fX7_copyFrom b s v ((b + 2 + 4)) f = v ((b + 2 + 4)) f := fun f hf => by rw [fE _ (by omega), f13 _ (by omega) (by omega), W10b f hf]
  have gF4 : fX7_copyFrom b s v ((b + 2 + 5)) 4 = v3 ((b + 2 + 5)) 4 := by rw [fE _ (by omega), u2' 4 (by omega)]
  refine ⟨⟨?_, ?_, fun t ht => ?_, fun t ht => ?_, fun t ht => ?_, ?_, ?_⟩, ⟨fun q hq => ?_, ?_, ?_, ?_⟩, o2, fun v2' e2' => ?_⟩
  · unfold SRd
    rw [fO _ (by omega) (by omega) (by omega) (by omega), f4 _ (by omega) (by omega)]
    exact D1
  · unfold SRe
    rw [ef]
    simp only [u2_q]
    rw [f13 _ (by omega) (by omega), f10 _ (by omega) (by omega), l1 _ (by omega), u2_s]
    simp
  · have := inn_lt hw.1.1
    rw [fO _ (by omega) (by omega) (by omega) (by omega), f4 _ (by omega) (by omega)]
    exact D2 t ht
  · have := inn_lt hw.1.2.1
    rw [fO _ (by omega) (by omega) (by omega) (by omega), f4 _ (by omega) (by omega)]
    exact D3 t ht
  · rw [fO _ (by omega) (by omega) (by omega) (by omega), fO _ (by omega) (by omega) (by omega) (by omega), fO _ (by omega) (by omega) (by omega) (by omega)]
    obtain ⟨j1, j2, j3⟩ := l2 t (by omega) ht
    have e1 : u2 v2 (b + 2) 1 (A 205) (((s + 2 + 3) + 31 + t)) = v (((s + 2 + 3) + 31 + t)) := by rw [u2_r (by omega), s2 _ (by omega) (by omega)]
    have e5 : u2 v2 (b + 2) 1 (A 205) (((s + 2 + 3) + 31 + t) + 5) = v (((s + 2 + 3) + 31 + t) + 5) := by rw [u2_r (by omega), s2 _ (by omega) (by omega)]
    have e10 : u2 v2 (b + 2) 1 (A 205) (((s + 2 + 3) + 31 + t) + 10) = v (((s + 2 + 3) + 31 + t) + 10) := by rw [u2_r (by omega), s2 _ (by omega) (by omega)]
    rw [e1] at j1
    rw [e5] at j2
    rw [e10] at j3
    obtain ⟨⟨z0, z1, z2, z3, z4, z5, z7, z9⟩, zB, zC⟩ := h.2.2.2.2.1 t ht
    obtain ⟨w0, w1, w2, w3, w4, w5, w6, w7, w8, w9⟩ := hw.2.2.2.1.1 t ht
    have b5 := inn_lt w5
    have b8 := inn_lt w8
    unfold yR
    rw [j1 0 (by omega), j1 1 (by omega), j1 2 (by omega), j1 3 (by omega), j1 4 (by omega), j1 5 (by omega), j1 7 (by omega), j1 9 (by omega)]
    exact ⟨⟨z0, z1, z2, z3, z4, z5, z7, z9⟩, fun i hi => by rw [j2 _ (by omega)]; exact zB i hi, fun i hi => by rw [j3 _ (by omega)]; exact zC i hi⟩
  · unfold SRw
    refine ⟨by rw [fE _ (by omega), f13 _ (by omega) (by omega), q3], fun i hi => ?_⟩
    have hp := h.2.2.2.2.2.1.2 i hi
    have hi6 := rn_to hn6.1
    rw [hcWb, fE _ (by omega), fE _ (by omega), fE _ (by omega), f13 _ (by omega) (by omega), f13 _ (by omega) (by omega), f13 _ (by omega) (by omega), show b + 8 = b + 8 + 0 from rfl, q4 0 i (by omega) (by omega), q4 1 i (by omega) (by omega), q4 2 i (by omega) (by omega), f4s _ (by omega) (by omega), f4s _ (by omega) (by omega), f4s _ (by omega) (by omega)]
    rw [hcWs] at hp
    exact hp
  · unfold SRf
    refine ⟨by rw [fE _ (by omega), u3], fun i hi => ?_⟩
    have hp := h.2.2.2.2.2.2.2 i hi
    have hi7 := rn_to hn7.1
    rw [hcFb, fE _ (by omega), fE _ (by omega), fE _ (by omega), show b + 11 = b + 11 + 0 from rfl, u4 0 i (by omega) (by omega), u4 1 i (by omega) (by omega), u4 2 i (by omega) (by omega), f10s _ (by omega) (by omega), f10s _ (by omega) (by omega), f10s _ (by omega) (by omega)]
    rw [hcFs] at hp
    exact hp
  · rw [fO q (by omega) (by omega) (by omega) (by omega), f4 q (by omega) (by omega), D4 q (by omega) (by omega)]
  · unfold CP
    rw [gW 4 (by omega), gW 5 (by omega), gW 6 (by omega), gF4, fE ((b + 2 + 5)) (by omega), u2' 5 (by omega), u2' 6 (by omega), u3, ← w3f]
    exact ⟨⟨c4, c5, c6⟩, k0, k1, k5, k6, m6⟩
  · rw [gW 4 (by omega)]; exact Nat.le_refl _
  · rw [gF4]
    have a1 : (rN (v ((b + 2 + 5)) 4) : Int) = (v ((b + 2 + 5)) 4).toInt := i_rN (by omega)
    have a2 : (rN (v3 ((b + 2 + 5)) 4) : Int) = (v3 ((b + 2 + 5)) 4).toInt := i_rN (by omega)
    rw [F10b] at m5'
    omega
  · rw [← e2] at e2'
    subst e2'
    have hk0 : pot (fX0_copyFrom (b + 2) (s + 2) v2') = pot v13 := by
      rw [← hpf]
      unfold fX7_copyFrom
      simp only [← e2]
    refine ⟨?_, ?_⟩
    · unfold oX0_copyFrom
      intro v1 e1
      rw [e42] at e1
      rw [e1, u2_s, fu0]
      refine ⟨l4, fun v4' e4' => ?_⟩
      rw [ev4'] at e4'
      subst e4'
      refine ⟨q5, ?_, fun v10' e10' => ?_⟩
      · unfold kkX5_copyFrom kkX0_copyFrom
        rw [hk0, show fX5_copyFrom (b + 2 + 4) (s + 2 + 4) v4' = v10 from ev10.symm]
        omega
      · have e10'' : v10' = v10 := e10'.trans ev10.symm
        subst e10''
        refine ⟨u5, ?_⟩
        unfold kkX5_copyFrom kkX0_copyFrom
        rw [hk0, show fX5_copyFrom (b + 2 + 4) (s + 2 + 4) v4' = v10' from ev10.symm, show fX5_copyFrom (b + 2 + 5) (s + 2 + 5) v10' = v13 from ev13.symm]
        omega
    · unfold kkX0_copyFrom kkX7_copyFrom
      rw [hk0, hpf]
      omega
end R37c
