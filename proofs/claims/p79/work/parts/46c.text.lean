/-! THE PLAIN PART 17c: the class reads an order. -/
section T46c
variable {T : Ar} {len b p f n pos : Nat} {a c y : Int32} {u w v : vSt} {s : Bool × Nat}
theorem sg_f (h : s.1 = false) : sg T len c s = (false, s.2) := if_neg (fun z => by rw [h] at z; exact absurd z.1 (by decide))
theorem nu_f (h : s.1 = false) : nu T len s = ((false, s.2), 0) := if_neg (fun z => by rw [h] at z; exact absurd z (by decide))
def CW (u w : vSt) (pos : Nat) : Prop := (∀ q, q ≠ 452 → w q = u q) ∧ (∀ f, f ≠ 3 → f ≠ 5 → w 452 f = u 452 f) ∧ w 452 3 = Int32.ofNat pos
theorem CW.u2 {k : Nat} (h : CW u w pos) (h1 : k ≠ 3) : CW (u2 u 452 k y) (u2 w 452 k y) pos :=
  ⟨fun q hq => by rw [u2_r hq, u2_r hq]; exact h.1 q hq, fun f f1 f2 => by
    rw [u2_q, u2_q]
    split
    · rfl
    · exact h.2.1 f f1 f2, by rw [u2_q, if_neg (by omega)]; exact h.2.2⟩
theorem c_sign (h : CW u w pos) (hs : pos ≤ len) (h60 : len ≤ 60) : (fX3_readSign 452 450 (Int32.ofNat len) c w).1 = (if (sg (u 450) len c (true, pos)).1 = true then 1 else 0) ∧ CW u (fX3_readSign 452 450 (Int32.ofNat len) c w).2 (sg (u 450) len c (true, pos)).2 ∧ oX3_readSign 452 450 (Int32.ofNat len) c w := by
  unfold fX3_readSign oX3_readSign sg
  rw [h.2.2, h.1 450 (by decide), to_of (by omega)]
  have e := ofle (k := len) (n := pos) (by omega) (by omega)
  by_cases q : len ≤ pos
  · rw [if_pos (e.mpr q), if_neg (show ¬ ((true, pos).1 = true ∧ (true, pos).2 < len ∧ u 450 (true, pos).2 = c) from fun z => by have z1 : pos < len := z.2.1; omega)]
    exact ⟨rfl, h, fun z => absurd (e.mpr q) z⟩
  · have vi : vp_in (Int32.ofNat pos) 60 := by have := inn_of (show pos < 60 by omega) (by decide); exact i_in this.1 this.2
    rw [if_neg (mt e.mp q)]
    by_cases q2 : u 450 pos = c
    · rw [if_pos q2, if_pos (show (true, pos).1 = true ∧ (true, pos).2 < len ∧ u 450 (true, pos).2 = c from ⟨rfl, by show pos < len; omega, q2⟩), of_S (by omega)]
      exact ⟨rfl, ⟨fun q hq => by show u2 _ _ _ _ q = _; rw [u2_r hq]; exact h.1 q hq, fun f f1 f2 => by show u2 _ _ _ _ _ f = _; rw [u2_q, if_neg f1]; exact h.2.1 f f1 f2, by show u2 w 452 3 (Int32.ofNat (pos + 1)) 452 3 = Int32.ofNat (pos + 1); rw [u2_q, if_pos rfl]⟩, fun _ => vi⟩
    · rw [if_neg q2, if_neg (show ¬ ((true, pos).1 = true ∧ (true, pos).2 < len ∧ u 450 (true, pos).2 = c) from fun z => q2 z.2.2)]
      exact ⟨rfl, h, fun _ => vi⟩
theorem c_digits (h60 : len ≤ 60) : ∀ fl k p (a : Int32) (w : vSt), k ≤ 5 → 5 < fl + k → p ≤ len → CW u w p → w 452 5 = a →
    olX3_readDigits_7 452 450 (Int32.ofNat len) fl (Int32.ofNat k) w ∧ ∃ w', lX3_readDigits_7 452 450 (Int32.ofNat len) fl (Int32.ofNat k) w = (Int32.ofNat (k + ((dg (u 450) len (5 - k) p a).1 - p)), w') ∧ CW u w' (dg (u 450) len (5 - k) p a).1 ∧ w' 452 5 = (dg (u 450) len (5 - k) p a).2 := by
  intro fl
  induction fl with
  | zero => intro k p a w h1 h2; omega
  | succ fl ih =>
    intro k p a w h1 h2 h3 h ha
    unfold lX3_readDigits_7 olX3_readDigits_7
    have e5 := ofle (k := 5) (n := k) (by omega) (by omega)
    rw [show Int32.ofNat 5 = (5 : Int32) from rfl] at e5
    by_cases hk : 5 ≤ k
    · rw [if_pos (e5.mpr hk), show 5 - k = 0 by omega]
      exact ⟨fun z => absurd (e5.mpr hk) z, w, by show _ = (Int32.ofNat (k + (p - p)), w); rw [Nat.sub_self, Nat.add_zero], h, ha⟩
    rw [if_neg (mt e5.mp hk), h.2.2, to_of (by omega), h.1 450 (by decide), show 5 - k = (5 - (k + 1)) + 1 by omega]
    have e := ofle (k := len) (n := p) (by omega) (by omega)
    unfold dg
    by_cases hp : len ≤ p
    · rw [if_pos (e.mpr hp), if_neg (show ¬ (p < len ∧ isD (u 450 p)) from fun z => by omega)]
      exact ⟨fun _ z => absurd (e.mpr hp) z, w, by dsimp only; rw [Nat.sub_self, Nat.add_zero], h, ha⟩
    have vi : vp_in (Int32.ofNat p) 60 := by have := inn_of (show p < 60 by omega) (by decide); exact i_in this.1 this.2
    rw [if_neg (mt e.mp hp), in_rng]
    by_cases hd : isD (u 450 p)
    · have hin : ¬ fX11_in (u 450 p) 48 57 = 0 := in_iff.mpr hd
      rw [if_neg hin, if_pos (show p < len ∧ isD (u 450 p) from ⟨by omega, hd⟩), of_S (by omega)]
      have hd' := dg_t (T := u 450) (len := len) (f := 5 - (k + 1)) (p := p + 1) (a := (10 * a + u 450 p) - 48) (by omega)
      have ev : w 452 5 * 10 + (u 450 p - 48) = (10 * a + u 450 p) - 48 := by rw [ha]; grind
      have hw : CW u (u2 (u2 w 452 5 (w 452 5 * 10 + (u 450 p - 48))) 452 3 (u2 w 452 5 (w 452 5 * 10 + (u 450 p - 48)) 452 3 + 1)) (p + 1) := ⟨fun q hq => by rw [u2_r hq, u2_r hq]; exact h.1 q hq, fun f f1 f2 => by rw [u2_q, if_neg f1, u2_q, if_neg f2]; exact h.2.1 f f1 f2, by
        rw [u2_q, if_pos rfl, u2_q, if_neg (by decide), h.2.2]; exact of_S (by omega)⟩
      obtain ⟨r1, w', r2, r3⟩ := ih (k + 1) (p + 1) ((10 * a + u 450 p) - 48) _ (by omega) (by omega) (by omega) hw (by rw [u2_q, if_neg (by decide), u2_q, if_pos rfl]; exact ev)
      refine ⟨fun _ _ => ⟨vi, fun _ v8 e8 v9 e9 => by rw [e9, e8]; exact r1⟩, w', ?_, r3⟩
      rw [← show k + 1 + ((dg (u 450) len (5 - (k + 1)) (p + 1) (10 * a + u 450 p - 48)).1 - (p + 1)) = k + ((dg (u 450) len (5 - (k + 1)) (p + 1) (10 * a + u 450 p - 48)).1 - p) by omega]
      exact r2
    · have hin : fX11_in (u 450 p) 48 57 = 0 := in_iff0.mpr hd
      rw [if_pos hin, if_neg (show ¬ (p < len ∧ isD (u 450 p)) from fun z => hd z.2)]
      exact ⟨fun _ _ => ⟨vi, fun z => absurd hin z⟩, w, by dsimp only; rw [Nat.sub_self, Nat.add_zero], h, ha⟩
theorem c_num (h : CW u w pos) (hs : pos ≤ len) (h60 : len ≤ 60) : (fX3_readDigits 452 450 (Int32.ofNat len) w).1 = (if (nu (u 450) len (true, pos)).1.1 = true then 1 else 0) ∧ CW u (fX3_readDigits 452 450 (Int32.ofNat len) w).2 (nu (u 450) len (true, pos)).1.2 ∧ (fX3_readDigits 452 450 (Int32.ofNat len) w).2 452 5 = (nu (u 450) len (true, pos)).2 ∧ oX3_readDigits 452 450 (Int32.ofNat len) w := by
  have hw : CW u (u2 w 452 5 0) pos := ⟨fun q hq => by rw [u2_r hq]; exact h.1 q hq, fun f f1 f2 => by rw [u2_q, if_neg f2]; exact h.2.1 f f1 f2, by rw [u2_q, if_neg (by decide)]; exact h.2.2⟩
  obtain ⟨r1, w', r2, r3, r4⟩ := c_digits h60 6 0 pos 0 _ (by omega) (by omega) hs hw (by rw [u2_q, if_pos rfl])
  have r1 : olX3_readDigits_7 452 450 (Int32.ofNat len) 6 0 (u2 w 452 5 0) := r1
  have r2 : lX3_readDigits_7 452 450 (Int32.ofNat len) 6 0 (u2 w 452 5 0) = (Int32.ofNat (0 + ((dg (u 450) len 5 pos 0).1 - pos)), w') := r2
  have hd := dg_t (T := u 450) (len := len) (f := 5) (p := pos) (a := 0) hs
  have e0 := ofle (k := 0 + ((dg (u 450) len 5 pos 0).1 - pos)) (n := 0) (by omega) (by omega)
  rw [i0] at e0
  have en : nu (u 450) len (true, pos) = ((decide (pos < (dg (u 450) len 5 pos 0).1), (dg (u 450) len 5 pos 0).1), (dg (u 450) len 5 pos 0).2) := rfl
  unfold fX3_readDigits oX3_readDigits
  rw [en]
  dsimp only
  rw [r2]
  dsimp only
  by_cases z : pos < (dg (u 450) len 5 pos 0).1
  · rw [if_neg (mt e0.mp (by omega)), if_pos (decide_eq_true z)]
    exact ⟨rfl, r3, r4, fun v1 e1 => by rw [e1]; exact r1⟩
  · rw [if_pos (e0.mpr (by omega)), if_neg (show ¬ decide (pos < (dg (u 450) len 5 pos 0).1) = true by simpa using z)]
    exact ⟨rfl, r3, r4, fun v1 e1 => by rw [e1]; exact r1⟩
theorem ix_t : ∀ k, k < 127 → fJ0_indexOf_0f7a4 (Int32.ofNat k) = if lk (Int32.ofNat k) < 7 then Int32.ofNat (lk (Int32.ofNat k)) else -1 := by decide +kernel
theorem ix_o : oJ0_indexOf_0f7a4 c := by
  intro _ _ _
  exact ⟨by decide, by decide⟩
theorem ent_t : ∀ k, k < 7 → fX10_entry 7 tbO (Int32.ofNat k) = if k ≤ 2 then 2 else (if k ≤ 4 then 1 else 0) := by decide
theorem c_rW (h : CW v v b) (hb : b < len) (h60 : len ≤ 60) (hc : 32 ≤ (v 450 b).toInt ∧ (v 450 b).toInt ≤ 126) :
    oX3_readWhole 452 450 (Int32.ofNat len) v ∧ (fX3_readWhole 452 450 (Int32.ofNat len) v).1 = (if (pE (v 450) len b).1 = true then 1 else 0) ∧ (∀ q, q ≠ 452 → (fX3_readWhole 452 450 (Int32.ofNat len) v).2 q = v q) ∧
    (fX3_readWhole 452 450 (Int32.ofNat len) v).2 452 3 = Int32.ofNat (pE (v 450) len b).2 ∧ (fX3_readWhole 452 450 (Int32.ofNat len) v).2 452 4 = v 452 4 ∧
    ((pE (v 450) len b).1 = true → lk (v 450 b) < 7 ∧ (fX3_readWhole 452 450 (Int32.ofNat len) v).2 452 0 = Int32.ofNat (lk (v 450 b)) ∧ (lk (v 450 b) ≤ 4 → (fX3_readWhole 452 450 (Int32.ofNat len) v).2 452 1 = (pN1 (v 450) len b).2) ∧ (lk (v 450 b) ≤ 2 → (fX3_readWhole 452 450 (Int32.ofNat len) v).2 452 2 = (pN2 (v 450) len b).2)) := by
  have hix : fJ0_indexOf_0f7a4 (v 450 b) = if lk (v 450 b) < 7 then Int32.ofNat (lk (v 450 b)) else -1 := by
    have e := rn_to (x := v 450 b) (by omega)
    have := ix_t (v 450 b).toNatClampNeg (by omega)
    rw [of_to (by omega)] at this
    exact this
  have n10 : ¬ (1 : Int32) = 0 := by decide
  have e1 := ofle (k := len) (n := b) (by omega) (by omega)
  have vi : vp_in (Int32.ofNat b) 60 := by have := inn_of (show b < 60 by omega) (by decide); exact i_in this.1 this.2
  unfold oX3_readWhole fX3_readWhole
  rw [h.2.2, if_neg (mt e1.mp (by omega)), to_of (by omega), hix]
  dsimp only
  by_cases h7 : lk (v 450 b) < 7
  · have l0 : (0 : Int32) ≤ Int32.ofNat (lk (v 450 b)) := by rw [Int32.le_iff_toInt_le, of_ti (by omega), show Int32.toInt 0 = 0 from rfl]; omega
    have es0 : pS0 (v 450) b = (true, b + 1) := if_pos h7
    rw [if_pos h7]
    have a0 : u2 v 452 0 (Int32.ofNat (lk (v 450 b))) 452 0 = Int32.ofNat (lk (v 450 b)) := by rw [u2_q, if_pos rfl]
    have a3 : u2 v 452 0 (Int32.ofNat (lk (v 450 b))) 452 3 = Int32.ofNat b := by rw [u2_q, if_neg (by decide)]; exact h.2.2
    rw [a0, if_pos l0, a3, of_S (by omega)]
    generalize hU0 : u2 v 452 0 (Int32.ofNat (lk (v 450 b))) = U0 at a0 a3 ⊢
    have fU : ∀ q, q ≠ 452 → U0 q = v q := fun q hq => by rw [← hU0, u2_r hq]
    have fU2 : ∀ f, f ≠ 0 → U0 452 f = v 452 f := fun f hf => by rw [← hU0, u2_q, if_neg hf]
    have eT : U0 450 = v 450 := fU 450 (by decide)
    have hM5 : CW U0 (u2 U0 452 3 (Int32.ofNat (b + 1))) (b + 1) := ⟨fun q hq => u2_r hq, fun f f1 f2 => by rw [u2_q, if_neg f1], by rw [u2_q, if_pos rfl]⟩
    have e5o : ∀ v5 : vSt, v5 = u2 U0 452 3 (U0 452 3 + 1) → v5 = u2 U0 452 3 (Int32.ofNat (b + 1)) := fun v5 e => by rw [e, a3, of_S (by omega)]
    generalize hV5 : u2 U0 452 3 (Int32.ofNat (b + 1)) = V5 at hM5 e5o ⊢
    have a5 : V5 452 0 = Int32.ofNat (lk (v 450 b)) := by rw [hM5.2.1 0 (by decide) (by decide)]; exact a0
    -- what is asked, once the world behind the letter is named
    have wrap : ∀ R : vSt → Prop, R V5 → (¬ (Int32.ofNat len ≤ Int32.ofNat b) → vp_in (Int32.ofNat b) 60 ∧ oJ0_indexOf_0f7a4 (v 450 b)) ∧ (∀ (y1 : Int32), y1 = Int32.ofNat (lk (v 450 b)) → ∀ v3 : vSt, v3 = u2 v 452 0 y1 → (0 : Int32) ≤ v3 452 0 → ∀ v5 : vSt, v5 = u2 v3 452 3 (v3 452 3 + 1) → R v5) := fun R hR =>
      ⟨fun _ => ⟨vi, ix_o⟩, fun y1 ey v3 e3 _ v5 e5 => by
        rw [ey] at e3
        rw [hU0] at e3
        rw [e3] at e5
        rw [e5o v5 e5]; exact hR⟩
    by_cases k5 : 5 ≤ lk (v 450 b)
    · have en1 : pN1 (v 450) len b = ((true, b + 1), 0) := by
        unfold pN1
        rw [if_pos ⟨k5, by omega⟩, es0]
      have en2 : pN2 (v 450) len b = ((true, b + 1), 0) := by
        unfold pN2
        rw [if_neg (by omega), en1]
      have ee : pE (v 450) len b = sg (v 450) len 59 (true, b + 1) := by unfold pE; rw [en2]
      obtain ⟨t1, t2, t3⟩ := c_sign (c := 59) hM5 (by omega) h60
      rw [eT, ← ee] at t1 t2
      have z0 : fX10_entry 7 tbO (V5 452 0) ≤ 0 := by rw [a5, ent_t _ h7, if_neg (by omega), if_neg (by omega)]; decide
      have z1 : fX10_entry 7 tbO (V5 452 0) ≤ 1 := by rw [a5, ent_t _ h7, if_neg (by omega), if_neg (by omega)]; decide
      rw [if_pos z0, if_pos z1]
      refine ⟨wrap (fun v5 => _) ⟨fun _ => ⟨fun _ => ⟨t3, fun v9 e9 => by rw [t1]; split <;> simp⟩, fun z => absurd z1 z⟩, fun z => absurd z0 z⟩, t1, fun q hq => by rw [t2.1 q hq, fU q hq], t2.2.2, by rw [t2.2.1 4 (by decide) (by decide), fU2 4 (by decide)], fun _ => ⟨h7, by rw [t2.2.1 0 (by decide) (by decide)]; exact a0, fun z => by omega, fun z => by omega⟩⟩
    have k4 : lk (v 450 b) ≤ 4 := by omega
    have en1 : pN1 (v 450) len b = nu (v 450) len (true, b + 1) := by
      unfold pN1
      rw [if_neg (fun z => k5 z.1), es0]
    have hE0 : ¬ fX10_entry 7 tbO (V5 452 0) ≤ 0 := by
      rw [a5, ent_t _ h7]
      by_cases z : lk (v 450 b) ≤ 2
      · rw [if_pos z]; decide
      · rw [if_neg z, if_pos k4]; decide
    have hE1 : fX10_entry 7 tbO (V5 452 0) ≤ 1 ↔ ¬ lk (v 450 b) ≤ 2 := by
      rw [a5, ent_t _ h7]
      by_cases z : lk (v 450 b) ≤ 2
      · rw [if_pos z]; exact ⟨fun q => absurd q (by decide), fun q => absurd z q⟩
      · rw [if_neg z, if_pos k4]; exact ⟨fun _ => z, fun _ => by decide⟩
    rw [if_neg hE0]
    obtain ⟨d1, d2, d3, d4⟩ := c_num hM5 (by omega) h60
    rw [eT, ← en1] at d1 d2 d3
    have l1 := n1_le (T := v 450) hb
    generalize hV22 : (fX3_readDigits 452 450 (Int32.ofNat len) V5).2 = V22 at d2 d3 ⊢
    by_cases c1 : (pN1 (v 450) len b).1.1 = true
    · rw [if_pos c1] at d1
      rw [d1, if_neg n10]
      have es1 : (pN1 (v 450) len b).1 = (true, (pN1 (v 450) len b).1.2) := by rw [← c1]
      have hM24 := CW.u2 (k := 1) (y := V22 452 5) d2 (by decide)
      have eT24 : u2 U0 452 1 (V22 452 5) 450 = v 450 := by rw [u2_r (by decide)]; exact eT
      have a24 : u2 U0 452 1 (V22 452 5) 452 1 = (pN1 (v 450) len b).2 := by rw [u2_q, if_pos rfl]; exact d3
      have f24 : ∀ f, f ≠ 0 → f ≠ 1 → u2 U0 452 1 (V22 452 5) 452 f = v 452 f := fun f z0 z1 => by rw [u2_q, if_neg z1]; exact fU2 f z0
      have f240 : u2 U0 452 1 (V22 452 5) 452 0 = Int32.ofNat (lk (v 450 b)) := by rw [u2_q, if_neg (by decide)]; exact a0
      have q24 : ∀ q, q ≠ 452 → u2 U0 452 1 (V22 452 5) q = v q := fun q hq => by rw [u2_r hq]; exact fU q hq
      generalize u2 U0 452 1 (V22 452 5) = U24 at *
      generalize hV24 : u2 V22 452 1 (V22 452 5) = V24 at hM24 ⊢
      by_cases k2 : lk (v 450 b) ≤ 2
      · rw [if_neg (fun z => hE1.mp z k2)]
        have en2 : pN2 (v 450) len b = nu (v 450) len (sg (v 450) len 44 (pN1 (v 450) len b).1) := by
          unfold pN2
          rw [if_pos k2]
        obtain ⟨s1, s2, s3⟩ := c_sign (c := 44) hM24 l1.2 h60
        rw [eT24, ← es1] at s1 s2
        have l2 := sg_le (T := v 450) (c := 44) (s := (pN1 (v 450) len b).1) l1.2
        generalize hV30 : (fX3_readSign 452 450 (Int32.ofNat len) 44 V24).2 = V30 at s2 ⊢
        by_cases c2 : (sg (v 450) len 44 (pN1 (v 450) len b).1).1 = true
        · rw [if_pos c2] at s1
          rw [s1, if_neg n10]
          have es2 : sg (v 450) len 44 (pN1 (v 450) len b).1 = (true, (sg (v 450) len 44 (pN1 (v 450) len b).1).2) := by rw [← c2]
          obtain ⟨g1, g2, g3, g4⟩ := c_num s2 l2.2 h60
          rw [eT24, ← es2, ← en2] at g1 g2 g3
          have l3 := n2_le (T := v 450) hb
          generalize hV33 : (fX3_readDigits 452 450 (Int32.ofNat len) V30).2 = V33 at g2 g3 ⊢
          by_cases c3 : (pN2 (v 450) len b).1.1 = true
          · rw [if_pos c3] at g1
            rw [g1, if_neg n10]
            have es3 : (pN2 (v 450) len b).1 = (true, (pN2 (v 450) len b).1.2) := by rw [← c3]
            have hM35 := CW.u2 (k := 2) (y := V33 452 5) g2 (by decide)
            have ee : pE (v 450) len b = sg (v 450) len 59 (pN2 (v 450) len b).1 := rfl
            obtain ⟨t1, t2, t3⟩ := c_sign (c := 59) hM35 l3.2 h60
            rw [u2_r (show 450 ≠ 452 by decide), eT24, ← es3, ← ee] at t1 t2
            refine ⟨wrap (fun v5 => _) ⟨fun z => absurd z hE0, fun _ => ⟨d4, fun v22 e22 _ v24 e24 => ?_⟩⟩, t1, fun q hq => by rw [t2.1 q hq, u2_r hq, q24 q hq], t2.2.2, by rw [t2.2.1 4 (by decide) (by decide), u2_q, if_neg (by decide), f24 4 (by decide) (by decide)], fun _ => ⟨h7, by rw [t2.2.1 0 (by decide) (by decide), u2_q, if_neg (by decide)]; exact f240, fun _ => by rw [t2.2.1 1 (by decide) (by decide), u2_q, if_neg (by decide)]; exact a24, fun _ => by rw [t2.2.1 2 (by decide) (by decide), u2_q, if_pos rfl]; exact g3⟩⟩
            rw [hV22] at e22
            rw [e22, hV24] at e24
            rw [e24]
            refine ⟨fun z => absurd k2 (hE1.mp z), fun _ => ⟨s3, fun v30 e30 _ => ?_⟩⟩
            rw [hV30] at e30
            rw [e30]
            refine ⟨g4, fun v33 e33 _ v35 e35 => ?_⟩
            rw [hV33] at e33
            rw [e33] at e35
            rw [e35]
            exact ⟨t3, fun v37 e37 => by rw [t1]; split <;> simp⟩
          · rw [if_neg c3] at g1
            have c3f := Bool.eq_false_iff.mpr c3
            have ee : pE (v 450) len b = (false, (pN2 (v 450) len b).1.2) := sg_f c3f
            rw [g1, if_pos rfl, ee]
            refine ⟨wrap (fun v5 => _) ⟨fun z => absurd z hE0, fun _ => ⟨d4, fun v22 e22 _ v24 e24 => ?_⟩⟩, rfl, fun q hq => by show V33 q = _; rw [g2.1 q hq, q24 q hq], g2.2.2, by show V33 452 4 = _; rw [g2.2.1 4 (by decide) (by decide), f24 4 (by decide) (by decide)], fun z => absurd (show false = true from z) (by decide)⟩
            rw [hV22] at e22
            rw [e22, hV24] at e24
            rw [e24]
            refine ⟨fun z => absurd k2 (hE1.mp z), fun _ => ⟨s3, fun v30 e30 _ => ?_⟩⟩
            rw [hV30] at e30
            rw [e30]
            exact ⟨g4, fun v33 e33 z => absurd g1 z⟩
        · rw [if_neg c2] at s1
          have c2f := Bool.eq_false_iff.mpr c2
          have ee : pE (v 450) len b = (false, (sg (v 450) len 44 (pN1 (v 450) len b).1).2) := by
            unfold pE
            rw [en2, nu_f c2f]
            exact sg_f rfl
          rw [s1, if_pos rfl, ee]
          refine ⟨wrap (fun v5 => _) ⟨fun z => absurd z hE0, fun _ => ⟨d4, fun v22 e22 _ v24 e24 => ?_⟩⟩, rfl, fun q hq => by show V30 q = _; rw [s2.1 q hq, q24 q hq], s2.2.2, by show V30 452 4 = _; rw [s2.2.1 4 (by decide) (by decide), f24 4 (by decide) (by decide)], fun z => absurd (show false = true from z) (by decide)⟩
          rw [hV22] at e22
          rw [e22, hV24] at e24
          rw [e24]
          exact ⟨fun z => absurd k2 (hE1.mp z), fun _ => ⟨s3, fun v30 e30 z => absurd s1 z⟩⟩
      · rw [if_pos (hE1.mpr k2)]
        have en2 : pN2 (v 450) len b = ((pN1 (v 450) len b).1, 0) := by
          unfold pN2
          rw [if_neg k2]
        have ee : pE (v 450) len b = sg (v 450) len 59 (pN1 (v 450) len b).1 := by unfold pE; rw [en2]
        obtain ⟨t1, t2, t3⟩ := c_sign (c := 59) hM24 l1.2 h60
        rw [eT24, ← es1, ← ee] at t1 t2
        refine ⟨wrap (fun v5 => _) ⟨fun z => absurd z hE0, fun _ => ⟨d4, fun v22 e22 _ v24 e24 => ?_⟩⟩, t1, fun q hq => by rw [t2.1 q hq, q24 q hq], t2.2.2, by rw [t2.2.1 4 (by decide) (by decide), f24 4 (by decide) (by decide)], fun _ => ⟨h7, by rw [t2.2.1 0 (by decide) (by decide)]; exact f240, fun _ => by rw [t2.2.1 1 (by decide) (by decide)]; exact a24, fun z => absurd z k2⟩⟩
        rw [hV22] at e22
        rw [e22, hV24] at e24
        rw [e24]
        exact ⟨fun _ => ⟨t3, fun v27 e27 => by rw [t1]; split <;> simp⟩, fun z => absurd (hE1.mpr k2) z⟩
    · rw [if_neg c1] at d1
      have c1f := Bool.eq_false_iff.mpr c1
      have ee : pE (v 450) len b = (false, (pN1 (v 450) len b).1.2) := by
        unfold pE pN2
        by_cases k2 : lk (v 450 b) ≤ 2
        · rw [if_pos k2, sg_f c1f, nu_f rfl]; exact sg_f rfl
        · rw [if_neg k2]; exact sg_f c1f
      rw [d1, if_pos rfl, ee]
      exact ⟨wrap (fun v5 => _) ⟨fun z => absurd z hE0, fun _ => ⟨d4, fun v22 e22 z => absurd d1 z⟩⟩, rfl, fun q hq => by show V22 q = _; rw [d2.1 q hq, fU q hq], d2.2.2, by show V22 452 4 = _; rw [d2.2.1 4 (by decide) (by decide), fU2 4 (by decide)], fun z => absurd (show false = true from z) (by decide)⟩
  · have es0 : pS0 (v 450) b = (false, b) := if_neg h7
    have ee : pE (v 450) len b = (false, b) := by
      unfold pE pN2 pN1
      rw [es0, if_neg (show ¬ lk (v 450 b) ≤ 2 by omega), if_neg (show ¬ (5 ≤ lk (v 450 b) ∧ lk (v 450 b) ≤ 6) by omega), nu_f rfl]
      exact sg_f rfl
    rw [if_neg h7]
    have a0 : u2 v 452 0 (-1) 452 0 = -1 := by rw [u2_q, if_pos rfl]
    have nl : ¬ (0 : Int32) ≤ -1 := by decide
    rw [a0, if_neg nl, ee]
    exact ⟨⟨fun _ => ⟨vi, ix_o⟩, fun y1 ey v3 e3 z => absurd (by rw [e3, ey, a0] at z; exact z) nl⟩, rfl, fun q hq => by show u2 v 452 0 (-1) q = _; rw [u2_r hq], by show u2 v 452 0 (-1) 452 3 = Int32.ofNat b; rw [u2_q, if_neg (by decide)]; exact h.2.2, by show u2 v 452 0 (-1) 452 4 = _; rw [u2_q, if_neg (by decide)], fun z => absurd (show false = true from z) (by decide)⟩
end T46c
