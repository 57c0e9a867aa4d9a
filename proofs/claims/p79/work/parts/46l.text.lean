/-! THE PLAIN PART 17l: play. -/
section T46l
variable {n m len f pos k : Nat} {u v w x V : vSt} {A A' A0 T T' : Ar} {c p : Int32}
/-- a change is recorded in the model, whatever it was -/
theorem m_recS (hc : inn (u 461 5) 5) (h1 : ∀ q, q ≠ 461 → q ≠ 462 → q ≠ 463 → x q = u q) (h2 : x 462 = A') (h3 : x 461 3 = u 461 3 ∧ x 461 5 = u 461 5 ∧ x 461 7 = u 461 7 ∧ x 461 8 = 0) (h4 : eqA (x 463) (u 462)) : mSu u (fX11_records 461 x) A' ∧ oX11_records 461 x := by
  obtain ⟨r1, r2, r3, r4, r5⟩ := m_records (v := x) (by rw [h3.2.1]; exact hc)
  have sE : ∀ i, sl x i = sl u i := fun i => by
    unfold sl
    rw [h1 _ (by decide) (by decide) (by decide)]
  rw [h3.2.1] at r4 r5
  refine ⟨⟨fun q a1 a2 a3 a4 => ?_, ?_, ⟨?_, ?_, ?_⟩, fun h4' => ?_, fun h4' => ?_⟩, r3⟩
  · rw [r1 q a1 a4, h1 q a1 a2 a3]
  · rw [r1 _ (by decide) (by decide), h2]
  · rw [r2 _ (by decide), h3.1]
  · rw [r2 _ (by decide), h3.2.2.1]
  · rw [r2 _ (by decide), h3.2.2.2]
  · obtain ⟨a1, a2, a3⟩ := r4 h4'
    exact ⟨a1, fun i hi => by have := a2 i hi; rw [sE] at this; exact this, a3.tr h4⟩
  · obtain ⟨a1, a2, a3⟩ := r5 h4'
    exact ⟨a1, fun i hi => by have := a2 i hi; rw [sE] at this; exact this, a3.tr h4⟩
theorem t_play (hI : Inv n m v) (hn : n ≤ 3150) : oX10_play 448 v ∧ oX11_play 461 (fX10_play 448 v).2.2 ∧ ((fX10_play 448 v).1 = 0 ∨ (fX10_play 448 v).1 = 2) ∧
    OKC (n + 19) v (fX10_play 448 v).1 (fX10_play 448 v).2.1 (fX10_play 448 v).2.2 (fX11_play 461 (fX10_play 448 v).2.2).1 (fX11_play 461 (fX10_play 448 v).2.2).2 cc1 ∧
    ((rNow v).2.2.2.1 = 0 → (fX10_play 448 v).1 = 0 ∧ (fX10_play 448 v).2.1 = Int32.ofNat (rNow v).2.2.1 ∧ mSu (fX10_play 448 v).2.2 (fX11_play 461 (fX10_play 448 v).2.2).2 (rNow v).1) ∧
    ((rNow v).2.2.2.1 ≠ 0 → (fX10_play 448 v).1 = 2 ∧ (∀ q, q ≠ 461 → q ≠ 462 → q ≠ 463 → (fX11_play 461 (fX10_play 448 v).2.2).2 q = (fX10_play 448 v).2.2 q) ∧ eqA ((fX11_play 461 (fX10_play 448 v).2.2).2 462) (v 462) ∧ (∀ f, f < 8 → (fX11_play 461 (fX10_play 448 v).2.2).2 461 f = v 461 f) ∧ ∀ j, 3417 ≤ j → (fX11_play 461 (fX10_play 448 v).2.2).2 462 j = (rNow v).1 j) := by
  obtain ⟨o9, C, hp, _⟩ := cr_all hI hn
  have hk9 : kkX9_run 451 (rN (v 448 0)) 450 (v 448 6) v = pot (fX9_run 451 (rN (v 448 0)) 450 (v 448 6) v) - pot v := rfl
  have RL := run_len (T := v 466) (len := TL v) (f := 60) (A := v 462) (pos := 0) (k := 0) (by have := (tl_of hI).2.2; omega) (Nat.zero_le _)
  have RL : ((rNow v).2.2.2.1 = 0 ∨ (rNow v).2.2.2.1 = 1 ∨ (rNow v).2.2.2.1 = 2) ∧ ((rNow v).2.2.2.1 = 0 → (rNow v).2.1 = TL v) := RL
  have hx := hI.2.2.2.2.1.1.2.2
  have hT : ∀ i, i < TL v → v 450 i = v 466 i := fun i hi => (hx i hi).1
  obtain ⟨t1, t2, t3⟩ := tl_of hI
  have hb7 := kd7 hI.1.2.1.1
  have ha7 := kd7 hI.1.1.1
  have hne : rN (v 448 0) ≠ rN (v 451 0) := hI.1.2.2.2.1
  have hpl : oX10_play 448 v = ((kd (rN (v 448 0)) = 7) ∧ ((oX9_run 451 (rN (v 448 0)) 450 (v 448 6) v) ∧ ((0 + kkX9_run 451 (rN (v 448 0)) 450 (v 448 6) v ≤ kkX10_play 448 v) ∧ (∀ v4 : vSt, v4 = (fX9_run 451 (rN (v 448 0)) 450 (v 448 6) v) → (((((v4 451 4) : Int32) = 0) → ((oX10_recordState 448 v4) ∧ (((0 + kkX9_run 451 (rN (v 448 0)) 450 (v 448 6) v) + kkX10_recordState 448 v4 ≤ kkX10_play 448 v) ∧ (∀ v8 : vSt, v8 = (fX10_recordState 448 v4) → ((kd (rN (v8 448 0)) = 7) ∧ (kd (rN (v8 451 0)) = 7)))))) ∧ (¬ (((v4 451 4) : Int32) = 0) → ((0 + kkX9_run 451 (rN (v 448 0)) 450 (v 448 6) v) + 6 ≤ kkX10_play 448 v))))))) := rfl
  rw [hpl]
  have hkp : kkX10_play 448 v = pot ((fX10_play 448 v).2.2) - pot v + 36 := rfl
  rw [hkp]
  have hfp : fX10_play 448 v = if fX9_run 451 (rN (v 448 0)) 450 (v 448 6) v 451 4 = 0 then (0, u2 (u2 (fX10_recordState 448 (fX9_run 451 (rN (v 448 0)) 450 (v 448 6) v)) 448 0 (Int32.ofNat (rN (fX10_recordState 448 (fX9_run 451 (rN (v 448 0)) 450 (v 448 6) v) 451 0)))) 451 0 (Int32.ofNat (rN (fX10_recordState 448 (fX9_run 451 (rN (v 448 0)) 450 (v 448 6) v) 448 0))) 451 2, u2 (u2 (fX10_recordState 448 (fX9_run 451 (rN (v 448 0)) 450 (v 448 6) v)) 448 0 (Int32.ofNat (rN (fX10_recordState 448 (fX9_run 451 (rN (v 448 0)) 450 (v 448 6) v) 451 0)))) 451 0 (Int32.ofNat (rN (fX10_recordState 448 (fX9_run 451 (rN (v 448 0)) 450 (v 448 6) v) 448 0)))) else (2, 0, fX9_run 451 (rN (v 448 0)) 450 (v 448 6) v) := rfl
  rw [hfp]
  clear hpl hkp hfp
  generalize fX9_run 451 (rN (v 448 0)) 450 (v 448 6) v = V at *
  obtain ⟨C1, C2, C3, C4, C5, C6, C7, C8, C9, _⟩ := C
  have vq : ∀ q, 453 ≤ q → V q = v q := fun q hq => C3.1 q (by omega) (by omega) (by omega)
  have v448 : V 448 = v 448 := C3.1 448 (by omega) (by omega) (by omega)
  have hIV : Inv n m V := Inv.trial hI (fun q a1 a2 a3 a4 a5 a6 => C3.1 q a1 a2 a3) C3.2.2.2 C2 (by rw [vq 462 (by omega)]; exact eqA.rf) (fun f hf => by rw [vq 461 (by omega)])
  have eTL : TL V = TL v := by unfold TL; rw [vq 461 (by omega)]
  rw [C7]
  by_cases z : (rNow v).2.2.2.1 = 0
  · rw [if_pos z]
    -- the class: the state before is recorded, the two states change places
    obtain ⟨d, hd, r1, r2, r3, r4, r5, r6, r7, r8⟩ := c_record hIV.1 hIV.2.1 (by rw [hIV.2.2.1.1]; exact hIV.2.2.1.2) hIV.2.2.2.2.2.1.1 hIV.2.2.2.2.2.1.2.1
    have ld := kd7 hd.1
    have q451 : fX10_recordState 448 V 451 = V 451 := r1 451 (by decide) (by decide) (by omega)
    have q4480 : fX10_recordState 448 V 448 0 = v 448 0 := by rw [r2 0 (by decide), v448]
    have q4510 : fX10_recordState 448 V 451 0 = v 451 0 := by rw [q451]; exact C3.2.2.2
    have hkr : kkX10_recordState 448 V = pot (fX10_recordState 448 V) - pot V := rfl
    rw [q4480, q4510]
    have g448 : ∀ f, f ≠ 0 → u2 (u2 (fX10_recordState 448 V) 448 0 (Int32.ofNat (rN (v 451 0)))) 451 0 (Int32.ofNat (rN (v 448 0))) 448 f = fX10_recordState 448 V 448 f := fun f hf => by rw [u2_r (by decide), u2_q, if_neg hf]
    have g0 : rN (u2 (u2 (fX10_recordState 448 V) 448 0 (Int32.ofNat (rN (v 451 0)))) 451 0 (Int32.ofNat (rN (v 448 0))) 448 0) = rN (V 451 0) := by
      rw [u2_r (by decide), u2_q, if_pos rfl, C3.2.2.2]
      exact to_of (by omega)
    have g1 : rN (u2 (u2 (fX10_recordState 448 V) 448 0 (Int32.ofNat (rN (v 451 0)))) 451 0 (Int32.ofNat (rN (v 448 0))) 451 0) = rN (V 448 0) := by
      rw [u2_q, if_pos rfl, v448]
      exact to_of (by omega)
    have gq : ∀ q, q ≠ 448 → q ≠ 451 → u2 (u2 (fX10_recordState 448 V) 448 0 (Int32.ofNat (rN (v 451 0)))) 451 0 (Int32.ofNat (rN (v 448 0))) q = fX10_recordState 448 V q := fun q a1 a2 => by rw [u2_r a2, u2_r a1]
    have gz : u2 (u2 (fX10_recordState 448 V) 448 0 (Int32.ofNat (rN (v 451 0)))) 451 0 (Int32.ofNat (rN (v 448 0))) 451 2 = Int32.ofNat (rNow v).2.2.1 := by rw [u2_q, if_neg (by decide), u2_r (by decide), q451]; exact C5
    have gp : pot (u2 (u2 (fX10_recordState 448 V) 448 0 (Int32.ofNat (rN (v 451 0)))) 451 0 (Int32.ofNat (rN (v 448 0)))) = pot (fX10_recordState 448 V) := pot_cg (fun q hq => by rw [gq q (fun e => by rw [e] at hq; exact absurd hq (by decide)) (fun e => by rw [e] at hq; exact absurd hq (by decide))])
    have ghi : ∀ q, 453 ≤ q → u2 (u2 (fX10_recordState 448 V) 448 0 (Int32.ofNat (rN (v 451 0)))) 451 0 (Int32.ofNat (rN (v 448 0))) q = v q := fun q hq => by
      rw [gq q (by omega) (by omega), r1 q (by omega) (by omega) (by omega), vq q hq]
    generalize u2 (u2 (fX10_recordState 448 V) 448 0 (Int32.ofNat (rN (v 451 0)))) 451 0 (Int32.ofNat (rN (v 448 0))) = v12 at *
    -- the model
    obtain ⟨b1, b2, b3, b4, b5⟩ := m_begins (v := v12)
    obtain ⟨d1, D⟩ := mr_all (u := fX11_begins 461 v12) hI hn (by rw [b1 462 (by decide) (by decide)]; exact ghi 462 (by omega)) (by rw [b2 7 (by decide), ghi 461 (by omega)]) (by rw [b1 466 (by decide) (by decide)]; exact ghi 466 (by omega))
    obtain ⟨hm, hmo⟩ := m_recS (u := v12) (x := (fX11_doesAll 461 (fX11_begins 461 v12)).2) (A' := (rNow v).1) (by rw [ghi 461 (by omega)]; exact hI.2.2.1.2) (fun q a1 a2 a3 => by rw [D.2.2.2.2.1 q a1 a2, b1 q a1 a3]) D.2.1
      ⟨by rw [D.2.2.2.2.2 3 (by omega), b2 3 (by decide)], by rw [D.2.2.2.2.2 5 (by omega), b2 5 (by decide)], by rw [D.2.2.2.2.2 7 (by omega), b2 7 (by decide)], by rw [D.2.2.2.2.2 8 (by omega)]; exact b3⟩ (by rw [D.2.2.2.2.1 463 (by decide) (by decide)]; exact b4)
    have hpos := RL.2 z
    have hRI := ri_cg hT C9
    rw [hpos] at hRI
    have hQ : QVp (n + 19 + 1) m V (rNow v).1 := by
      obtain ⟨_, _, _, _, ⟨_, x4, x5, x6⟩, hN, _⟩ := hI
      refine ⟨?_, ?_⟩
      · rw [eTL, vq 466 (by omega)]
        exact QB.run hN.2.2.2.1 x4 x5 x6 hRI
      · exact hN.2.2.2.2.cg hRI.2.2.2.1 hRI.2.2.2.2.1
    obtain ⟨i1, i2, i3⟩ := Inv.swap (hIV.upTo 19) g448 g0 g1 gq (by rw [C3.2.2.2]; exact C1) hRI.2.1 hRI.2.2.1 hQ hm
    have e16 : (fX11_doesAll 461 (fX11_begins 461 v12)).2 461 16 ≤ 0 := by rw [D.2.2.1, z]; decide
    have hfm : fX11_play 461 v12 = ((fX11_doesAll 461 (fX11_begins 461 v12)).1, fX11_records 461 (fX11_doesAll 461 (fX11_begins 461 v12)).2) := by
      unfold fX11_play
      dsimp only
      rw [if_pos e16]
    dsimp only
    rw [hfm]
    refine ⟨⟨hI.1.1.1, o9, by rw [hk9, gp]; omega, fun v4 e4 => ⟨fun _ => ⟨by rw [e4]; exact i2, by rw [e4, hk9, hkr, gp]; omega, fun v8 e8 => by rw [e8, e4, q4480, q4510]; exact ⟨hI.1.1.1, hI.1.2.1.1⟩⟩, fun q => absurd (by rw [e4, C7]; exact z) q⟩⟩, ?_, Or.inl rfl, ⟨ghi, by rw [gp]; omega, hm.pot, by dsimp only; rw [hm.2.2.1.2.2]; rfl, fun _ => by dsimp only; rw [gz, D.1], m, i1⟩, fun _ => ⟨rfl, gz, hm⟩, fun q => absurd z q⟩
    unfold oX11_play
    refine ⟨b5, fun v2 e2 => ⟨by rw [e2]; exact d1, fun v4 e4 => ⟨fun _ => by rw [e4, e2]; exact hmo, fun q => absurd (by rw [e4, e2]; exact e16) q⟩⟩⟩
  · rw [if_neg z]
    obtain ⟨b1, b2, b3, b4, b5⟩ := m_begins (v := V)
    obtain ⟨d1, D⟩ := mr_all (u := fX11_begins 461 V) hI hn (by rw [b1 462 (by decide) (by decide)]; exact vq 462 (by omega)) (by rw [b2 7 (by decide), vq 461 (by omega)]) (by rw [b1 466 (by decide) (by decide)]; exact vq 466 (by omega))
    have M2 := m_copies (v := (fX11_doesAll 461 (fX11_begins 461 V)).2) (o1 := 463) (o2 := 462) (s := 0) (d := 0) (by decide) (by decide) (by decide)
    rw [i0] at M2
    have e16 : ¬ (fX11_doesAll 461 (fX11_begins 461 V)).2 461 16 ≤ 0 := by
      rw [D.2.2.1]
      rcases RL.1 with e | e | e
      · exact absurd e z
      · rw [e]; decide
      · rw [e]; decide
    have hfm : fX11_play 461 V = (0, u2 (fX11_copies 463 0 462 0 (fX11_doesAll 461 (fX11_begins 461 V)).2) 461 8 1) := by
      unfold fX11_play
      dsimp only
      rw [if_neg e16]
      rfl
    dsimp only
    rw [hfm]
    have s1 : ∀ q, q ≠ 461 → q ≠ 462 → q ≠ 463 → fX11_copies 463 0 462 0 (fX11_doesAll 461 (fX11_begins 461 V)).2 q = V q := fun q h1 h2 h3 => by rw [M2.1, uA_n h2, D.2.2.2.2.1 q h1 h2, b1 q h1 h3]
    have s2 : ∀ f, f < 8 → fX11_copies 463 0 462 0 (fX11_doesAll 461 (fX11_begins 461 V)).2 461 f = v 461 f := fun f hf => by rw [M2.1, uA_n (by decide), D.2.2.2.2.2 f (by omega), b2 f (by omega), vq 461 (by omega)]
    have s3 : eqA (fX11_copies 463 0 462 0 (fX11_doesAll 461 (fX11_begins 461 V)).2 462) (v 462) := fun j hj => by
      rw [M2.1, uA_s, cpy_0 hj, D.2.2.2.2.1 463 (by decide) (by decide), b4 j hj, vq 462 (by omega)]
    have s3h : ∀ j, 3417 ≤ j → fX11_copies 463 0 462 0 (fX11_doesAll 461 (fX11_begins 461 V)).2 462 j = (rNow v).1 j := fun j hj => by
      rw [M2.1, uA_s]
      unfold va_cpy
      rw [if_neg (by omega), D.2.1]
    generalize fX11_copies 463 0 462 0 (fX11_doesAll 461 (fX11_begins 461 V)).2 = v9 at *
    have hpw : pot (u2 v9 461 8 1) = pot V := pot_cg (fun q hq => by rw [u2_r (fun e => by rw [e] at hq; exact absurd hq (by decide)), s1 q (fun e => by rw [e] at hq; exact absurd hq (by decide)) (fun e => by rw [e] at hq; exact absurd hq (by decide)) (fun e => by rw [e] at hq; exact absurd hq (by decide))])
    have hIw : Inv n m (u2 v9 461 8 1) := Inv.trial hI (fun q a1 a2 a3 a4 a5 a6 => by rw [u2_r a4, s1 q a4 a5 a6]; exact C3.1 q a1 a2 a3) (by rw [u2_r (by decide), s1 451 (by decide) (by decide) (by decide)]; exact C3.2.2.2) (C2.fr ⟨by rw [u2_r (by omega), s1 _ (by omega) (by omega) (by omega)], by rw [u2_r (by omega), s1 _ (by omega) (by omega) (by omega)]⟩) (by rw [u2_r (by decide)]; exact s3) (fun f hf => by rw [u2_q, if_neg (by omega)]; exact s2 f hf)
    refine ⟨⟨hI.1.1.1, o9, by rw [hk9]; omega, fun v4 e4 => ⟨fun q => absurd (by rw [← C7, ← e4]; exact q) z, fun _ => by rw [hk9]; omega⟩⟩, ⟨b5, fun v2 e2 => ⟨by rw [e2]; exact d1, fun v4 e4 => ⟨fun q => absurd (by rw [← e2, ← e4]; exact q) e16, fun _ => by rw [e4, e2]; exact M2.2⟩⟩⟩, Or.inr rfl, ⟨vq, hp, hpw, by show u2 v9 461 8 1 461 8 = cc1 2; rw [u2_q, if_pos rfl]; rfl, fun q => absurd (show (2 : Nat) = 0 from q) (by decide), m, hIw.upTo 20⟩, fun q => absurd q z, fun _ => ⟨rfl, fun q a b c => by show u2 v9 461 8 1 q = V q; rw [u2_r a]; exact s1 q a b c, by show eqA (u2 v9 461 8 1 462) _; rw [u2_r (by decide)]; exact s3, fun f hf => by show u2 v9 461 8 1 461 f = _; rw [u2_q, if_neg (by omega)]; exact s2 f hf, fun j hj => by show u2 v9 461 8 1 462 j = _; rw [u2_r (by decide)]; exact s3h j hj⟩⟩
end T46l
