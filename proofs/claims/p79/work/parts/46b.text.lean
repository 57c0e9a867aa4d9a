/-! THE PLAIN PART 17b: an order is read, by the model and by the class. -/
section T46b
variable {T : Ar} {len b p f n : Nat} {a c y : Int32} {u w v : vSt} {ok : Bool}
theorem m_tO (hl : w 461 7 = Int32.ofNat len) (h10 : w 461 10 = Int32.ofNat b) (hb : b < len) (h60 : len ≤ 60) :
    oX11_takesOrder 461 w ∧ (∀ q, q ≠ 461 → fX11_takesOrder 461 w q = w q) ∧ (∀ f, (f < 10 ∨ 16 ≤ f) → fX11_takesOrder 461 w 461 f = w 461 f) ∧ fX11_takesOrder 461 w 461 10 = Int32.ofNat (pE (w 466) len b).2 ∧ fX11_takesOrder 461 w 461 12 = (if (pE (w 466) len b).1 = true then 1 else 0) ∧
    fX11_takesOrder 461 w 461 11 = Int32.ofNat b ∧ fX11_takesOrder 461 w 461 13 = w 466 b ∧ (¬ (5 ≤ lk (w 466 b) ∧ lk (w 466 b) ≤ 6) → fX11_takesOrder 461 w 461 14 = (pN1 (w 466) len b).2) ∧ (lk (w 466 b) ≤ 2 → fX11_takesOrder 461 w 461 15 = (pN2 (w 466) len b).2) := by
  -- the world behind the letter
  have hM2 : MS (u2 (u2 w 461 11 (w 461 10)) 461 12 1) (u2 (u2 w 461 11 (w 461 10)) 461 12 1) (true, b) :=
    ⟨fun _ _ => rfl, fun _ _ _ => rfl, by rw [u2_q, if_neg (by decide), u2_q, if_neg (by decide)]; exact h10, by rw [u2_q, if_pos rfl]; rfl⟩
  have hl2 : u2 (u2 w 461 11 (w 461 10)) 461 12 1 461 7 = Int32.ofNat len := by rw [u2_q, if_neg (by decide), u2_q, if_neg (by decide)]; exact hl
  have e466 : u2 (u2 w 461 11 (w 461 10)) 461 12 1 466 = w 466 := by rw [u2_r (by decide), u2_r (by decide)]
  obtain ⟨eh, oh⟩ := m_here hM2 hl2 (show b ≤ len by omega) h60
  rw [if_neg (show ¬ len ≤ b by omega), e466] at eh
  unfold oX11_takesOrder fX11_takesOrder
  dsimp only
  rw [eh]
  generalize hV4 : u2 (u2 (u2 w 461 11 (w 461 10)) 461 12 1) 461 13 (w 466 b) = V4
  have f4 : ∀ q, q ≠ 461 → V4 q = w q := fun q hq => by rw [← hV4, u2_r hq, u2_r hq, u2_r hq]
  have f4b : ∀ f, f ≠ 11 → f ≠ 12 → f ≠ 13 → V4 461 f = w 461 f := fun f a1 a2 a3 => by rw [← hV4, u2_q, if_neg a3, u2_q, if_neg a2, u2_q, if_neg a1]
  have e13 : V4 461 13 = w 466 b := by rw [← hV4, u2_q, if_pos rfl]
  have e11 : V4 461 11 = Int32.ofNat b := by rw [← hV4, u2_q, if_neg (by decide), u2_q, if_neg (by decide), u2_q, if_pos rfl]; exact h10
  have hM4 : MS V4 V4 (true, b) := ⟨fun _ _ => rfl, fun _ _ _ => rfl, by rw [f4b 10 (by decide) (by decide) (by decide)]; exact h10, by rw [← hV4, u2_q, if_neg (by decide), u2_q, if_pos rfl]; rfl⟩
  have hl4 : V4 461 7 = Int32.ofNat len := by rw [f4b 7 (by decide) (by decide) (by decide)]; exact hl
  have e4 : V4 466 = w 466 := f4 466 (by decide)
  rw [e13]
  obtain ⟨k5, k7⟩ := lk_y (c := w 466 b)
  have k9 := lk_9 (c := w 466 b)
  generalize hy5 : (if w 466 b = 117 then 1 else (if w 466 b = 100 then 1 else 0) : Int32) = y5 at k5 k9 ⊢
  generalize hy7 : (if w 466 b = 109 then 1 else (if w 466 b = 99 then 1 else (if w 466 b = 112 then 1 else 0)) : Int32) = y7 at k7 k9 ⊢
  generalize hy9 : (if y5 = 0 then (if y7 = 0 then (if w 466 b = 106 then 1 else (if w 466 b = 102 then 1 else 0)) else 1) else 1 : Int32) = y9 at k9 ⊢
  -- behind the letter
  have hM12 : MS V4 (fX11_takes 461 y9 V4) (pS0 (w 466) b) := by
    have r := m_takes (y := y9) hM4 (by show b < 2 ^ 30; omega)
    have : pS0 (w 466) b = (if (true, b).1 = true ∧ y9 ≠ 0 then (true, (true, b).2 + 1) else (false, (true, b).2)) := by
      unfold pS0
      by_cases q : lk (w 466 b) < 7
      · rw [if_pos q, if_pos ⟨rfl, fun z => k9.mp z q⟩]
      · rw [if_neg q, if_neg (fun z => z.2 (k9.mpr q))]
    rw [this]; exact r
  have l0 := s0_le (T := w 466) hb
  generalize hV12 : fX11_takes 461 y9 V4 = V12 at hM12 ⊢
  -- behind the first number
  have hN1 : ∃ U13, MS U13 (if y5 = 0 then u2 (fX11_takesNumber 461 V12).2 461 14 (fX11_takesNumber 461 V12).1 else V12) (pN1 (w 466) len b).1 ∧ (∀ q, q ≠ 461 → U13 q = w q) ∧ (∀ f, f ≠ 11 → f ≠ 12 → f ≠ 13 → f ≠ 14 → U13 461 f = w 461 f) ∧ U13 461 13 = w 466 b ∧ U13 461 11 = Int32.ofNat b ∧
      (¬ (5 ≤ lk (w 466 b) ∧ lk (w 466 b) ≤ 6) → U13 461 14 = (pN1 (w 466) len b).2) ∧ (y5 = 0 → oX11_takesNumber 461 V12) := by
    unfold pN1
    by_cases q : 5 ≤ lk (w 466 b) ∧ lk (w 466 b) ≤ 6
    · have n5 : ¬ y5 = 0 := fun z => k5.mp z q
      rw [if_neg n5, if_pos q]
      exact ⟨V4, hM12, f4, fun f a1 a2 a3 _ => f4b f a1 a2 a3, e13, e11, fun z => absurd q z, fun z => absurd z n5⟩
    · have n5 : y5 = 0 := k5.mpr q
      obtain ⟨r1, r2, r3⟩ := m_num hM12 hl4 l0.2 h60
      rw [e4] at r1 r2
      rw [if_pos n5, if_neg q]
      refine ⟨u2 V4 461 14 (fX11_takesNumber 461 V12).1, r2.u2 (by decide) (by decide), fun q hq => by rw [u2_r hq]; exact f4 q hq, fun f a1 a2 a3 a4 => by rw [u2_q, if_neg a4]; exact f4b f a1 a2 a3, by rw [u2_q, if_neg (by decide)]; exact e13, by rw [u2_q, if_neg (by decide)]; exact e11, fun _ => by rw [u2_q, if_pos rfl]; exact r1, fun _ => r3⟩
  obtain ⟨U13, hM13, g1, g2, g3, g4, g5, g6⟩ := hN1
  have l1 := n1_le (T := w 466) hb
  generalize hV13 : (if y5 = 0 then u2 (fX11_takesNumber 461 V12).2 461 14 (fX11_takesNumber 461 V12).1 else V12) = V13 at hM13
  have hl13 : U13 461 7 = Int32.ofNat len := by rw [g2 7 (by decide) (by decide) (by decide) (by decide)]; exact hl
  have e13b : U13 466 = w 466 := g1 466 (by decide)
  obtain ⟨s1, s2⟩ := m_sign (c := 44) hM13 hl13 l1.2 h60 (by decide)
  rw [e13b] at s1
  have l2 := sg_le (T := w 466) (c := 44) (s := (pN1 (w 466) len b).1) l1.2
  -- behind the second number
  have hN2 : ∃ U15, MS U15 (if y7 = 0 then V13 else u2 (fX11_takesNumber 461 (fX11_takes 461 (if fX11_here 461 V13 = 44 then 1 else 0) V13)).2 461 15 (fX11_takesNumber 461 (fX11_takes 461 (if fX11_here 461 V13 = 44 then 1 else 0) V13)).1) (pN2 (w 466) len b).1 ∧
      (∀ q, q ≠ 461 → U15 q = w q) ∧ (∀ f, f ≠ 11 → f ≠ 12 → f ≠ 13 → f ≠ 14 → f ≠ 15 → U15 461 f = w 461 f) ∧ U15 461 13 = w 466 b ∧ U15 461 11 = Int32.ofNat b ∧ (¬ (5 ≤ lk (w 466 b) ∧ lk (w 466 b) ≤ 6) → U15 461 14 = (pN1 (w 466) len b).2) ∧ (lk (w 466 b) ≤ 2 → U15 461 15 = (pN2 (w 466) len b).2) ∧
      (¬ y7 = 0 → oX11_takesNumber 461 (fX11_takes 461 (if fX11_here 461 V13 = 44 then 1 else 0) V13)) := by
    unfold pN2
    by_cases q : lk (w 466 b) ≤ 2
    · have n7 : ¬ y7 = 0 := fun z => k7.mp z q
      obtain ⟨r1, r2, r3⟩ := m_num s1 hl13 l2.2 h60
      rw [e13b] at r1 r2
      rw [if_neg n7, if_pos q]
      refine ⟨u2 U13 461 15 (fX11_takesNumber 461 (fX11_takes 461 (if fX11_here 461 V13 = 44 then 1 else 0) V13)).1, r2.u2 (by decide) (by decide), fun q hq => by rw [u2_r hq]; exact g1 q hq, fun f a1 a2 a3 a4 a5 => by rw [u2_q, if_neg a5]; exact g2 f a1 a2 a3 a4, by rw [u2_q, if_neg (by decide)]; exact g3, by rw [u2_q, if_neg (by decide)]; exact g4, fun z => by rw [u2_q, if_neg (by decide)]; exact g5 z, fun _ => by rw [u2_q, if_pos rfl]; exact r1, fun _ => r3⟩
    · have n7 : y7 = 0 := k7.mpr q
      rw [if_pos n7, if_neg q]
      exact ⟨U13, hM13, g1, fun f a1 a2 a3 a4 _ => g2 f a1 a2 a3 a4, g3, g4, g5, fun z => absurd z q, fun z => absurd n7 z⟩
  obtain ⟨U15, hM15, j1, j2, j3, j4, j5, j6, j7⟩ := hN2
  have l3 := n2_le (T := w 466) hb
  have e7 : (if y7 = 0 then V13 else (let y18 : Int32 := (if ((fX11_here 461 V13) : Int32) = 44 then 1 else 0 : Int32); let v21 : vSt := fX11_takes 461 y18 V13; let v23 : vSt := (fX11_takesNumber 461 v21).2; let v24 : vSt := u2 v23 461 15 ((fX11_takesNumber 461 v21).1); v24) : vSt) = (if y7 = 0 then V13 else u2 (fX11_takesNumber 461 (fX11_takes 461 (if fX11_here 461 V13 = 44 then 1 else 0) V13)).2 461 15 (fX11_takesNumber 461 (fX11_takes 461 (if fX11_here 461 V13 = 44 then 1 else 0) V13)).1) := rfl
  generalize hV15 : (if y7 = 0 then V13 else u2 (fX11_takesNumber 461 (fX11_takes 461 (if fX11_here 461 V13 = 44 then 1 else 0) V13)).2 461 15 (fX11_takesNumber 461 (fX11_takes 461 (if fX11_here 461 V13 = 44 then 1 else 0) V13)).1) = V15 at hM15 e7
  have hl15 : U15 461 7 = Int32.ofNat len := by rw [j2 7 (by decide) (by decide) (by decide) (by decide) (by decide)]; exact hl
  have e15b : U15 466 = w 466 := j1 466 (by decide)
  obtain ⟨t1, t2⟩ := m_sign (c := 59) hM15 hl15 l3.2 h60 (by decide)
  rw [e15b] at t1
  refine ⟨fun v1 ev1 v2 ev2 => ?_, fun q hq => ?_, fun f hf => ?_, t1.2.2.1, t1.2.2.2, ?_, ?_, fun z => ?_, fun z => ?_⟩
  · rw [ev2, ev1]
    refine ⟨oh, fun v4 ev4 y5' ey5 y7' ey7 y9' ey9 => ?_⟩
    have q4 : v4 = V4 := by rw [ev4, eh, hV4]
    rw [q4] at ey5 ey7 ey9 ⊢
    rw [e13] at ey5 ey7 ey9
    have q5 : y5' = y5 := ey5.trans hy5
    have q7 : y7' = y7 := ey7.trans hy7
    rw [q5, q7] at ey9
    have q9 : y9' = y9 := ey9.trans hy9
    rw [q9]
    refine ⟨takes_o, fun v12 ev12 => ?_⟩
    rw [hV12] at ev12
    rw [ev12, q5, q7]
    refine ⟨g6, fun v13 ev13 => ?_⟩
    have q13 : v13 = V13 := ev13.trans hV13
    rw [q13]
    refine ⟨fun z => ⟨s2, fun y18 ey18 => ⟨takes_o, fun v21 ev21 => by rw [ev21, ey18]; exact j7 z⟩⟩, fun v15 ev15 => ?_⟩
    have q15 : v15 = V15 := ev15.trans hV15
    rw [q15]
    exact ⟨t2, fun y18 ey18 => takes_o⟩
  · rw [t1.1 q hq, j1 q hq]
  · rw [t1.2.1 f (by omega) (by omega), j2 f (by omega) (by omega) (by omega) (by omega) (by omega)]
  · rw [t1.2.1 11 (by decide) (by decide), j4]
  · rw [t1.2.1 13 (by decide) (by decide), j3]
  · rw [t1.2.1 14 (by decide) (by decide), j5 z]
  · rw [t1.2.1 15 (by decide) (by decide), j6 z]
end T46b
