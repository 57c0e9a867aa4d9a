/-! THE PLAIN PART 17g: the class's loop. -/
section T46g
variable {T A A0 : Ar} {len b pos k n m : Nat} {a c p q y : Int32} {u v w W : vSt}
/-- what the class's run leaves -/
def CE (T : Ar) (len : Nat) (A0 : Ar) (b : Nat) (w W : vSt) (R : Ar × Nat × Nat × Int32 × Int32) : Prop :=
  SR W b R.1 ∧ CP W b ∧ FT b w W ∧ W 450 = T ∧ W 451 2 = Int32.ofNat R.2.2.1 ∧ W 451 3 = Int32.ofNat R.2.1 ∧ W 451 4 = R.2.2.2.1 ∧ W 451 5 = R.2.2.2.2 ∧ RI T len A0 R.1 R.2.1 ∧ R.2.2.1 ≤ R.2.1
theorem run_c (hb : kd b = 7) (h60 : len ≤ 60) (hT : ∀ i, i < len → 32 ≤ (T i).toInt ∧ (T i).toInt ≤ 126) (hq : RQ T len A0) : ∀ f fl i9 pos k A w, len ≤ f + pos → f + 1 ≤ fl → i9 ≤ pos → k ≤ pos → CI T b w A pos k → RI T len A0 A pos →
    CE T len A0 b w (lX9_run_31 451 450 (Int32.ofNat len) fl (Int32.ofNat i9) w) (runP T len f A pos k) := by
  have hb7 := kd7 hb
  intro f
  induction f with
  | zero =>
    intro fl i9 pos k A w h1 h2 h3 h4 hI hR
    obtain ⟨fl, rfl⟩ : ∃ g, fl = g + 1 := ⟨fl - 1, by omega⟩
    have hRl := hR.1
    unfold lX9_run_31
    obtain ⟨i1, i2, i3, i4, i5, i6, i7, i8⟩ := id hI
    rw [i6]
    have e1 := ofle (k := len) (n := pos) (by omega) (by omega)
    have done : CE T len A0 b w w (A, pos, k, 0, 0) := ⟨i2, i3, FT.rf, i4, i5, i6, i7, i8, hR, h4⟩
    rw [if_pos (e1.mpr (by omega))]
    show CE T len A0 b w (if _ then w else w) (A, pos, k, 0, 0)
    split
    · exact done
    · exact done
  | succ f ih =>
    intro fl i9 pos k A w h1 h2 h3 h4 hI hR
    obtain ⟨fl, rfl⟩ : ∃ g, fl = g + 1 := ⟨fl - 1, by omega⟩
    have hRl := hR.1
    obtain ⟨i1, i2, i3, i4, i5, i6, i7, i8⟩ := id hI
    have e1 := ofle (k := len) (n := pos) (by omega) (by omega)
    have e60 := ofle (k := 60) (n := i9) (by omega) (by omega)
    rw [show Int32.ofNat 60 = (60 : Int32) from rfl] at e60
    have done : CE T len A0 b w w (A, pos, k, 0, 0) := ⟨i2, i3, FT.rf, i4, i5, i6, i7, i8, hR, h4⟩
    unfold lX9_run_31 runP
    by_cases hp : len ≤ pos
    · rw [if_pos hp, i6, if_pos (e1.mpr hp)]
      split
      · exact done
      · exact done
    have hp := Nat.lt_of_not_le hp
    rw [if_neg (show ¬ len ≤ pos by omega), if_neg (mt e60.mp (by omega)), i6, if_neg (mt e1.mp (by omega)), i7, if_pos rfl]
    obtain ⟨c1, c2, c3, c4, c5⟩ := c_step hb h60 hT hq hI hR hp (by omega)
    have eS : fX3_readFrom 452 450 (Int32.ofNat len) (Int32.ofNat pos) w = stC w len := by unfold stC; rw [i6]
    rw [eS]
    dsimp only
    rw [c3, of_S (by omega)]
    -- a fault ends the run
    have stop : ∀ (R : Ar × Nat × Nat × Int32 × Int32) (V : vSt), ¬ V 451 4 = 0 → CE T len A0 b w V R → CE T len A0 b w (lX9_run_31 451 450 (Int32.ofNat len) fl (Int32.ofNat (i9 + 1)) V) R := fun R V hV hE => by
      obtain ⟨fl, rfl⟩ : ∃ g, fl = g + 1 := ⟨fl - 1, by omega⟩
      unfold lX9_run_31
      rw [if_neg hV]
      split
      · exact hE
      · split
        · exact hE
        · exact hE
    rcases c5 with ⟨z, g1, g2, g3, g4, g5, g6, g7⟩ | ⟨z, g1, g2, g3, g4⟩
    · rw [if_neg g1, if_neg (show ¬ (pE T len pos).1 = true by rw [z]; decide)]
      refine stop _ _ ?_ ?_
      · unfold fX9_setFault
        try dsimp only
        rw [u2_q, if_neg (by decide), u2_q, if_pos rfl]
        decide
      · unfold fX9_setFault
        try dsimp only
        have hr : ∀ q, q ≠ 451 → u2 (u2 (stC w len) 451 4 1) 451 5 (stC w len 452 4) q = stC w len q := fun q h => by rw [u2_r h, u2_r h]
        refine ⟨g4.fr hb (fun q a1 a2 => hr q (by omega)) ⟨hR.2.1.1.1, hR.2.1.1.2.1, hR.2.1.1.2.2.1⟩, g5.fr ⟨hr _ (by omega), hr _ (by omega)⟩, g3.tr (FT.of (by omega) (fun q a1 _ => hr q a1) (by rw [u2_q, if_neg (by decide), u2_q, if_neg (by decide)])), by rw [hr 450 (by decide)]; exact g7, ?_, ?_, ?_, ?_, hR, h4⟩
        · rw [u2_q, if_neg (by decide), u2_q, if_neg (by decide), g6]; exact i5
        · rw [u2_q, if_neg (by decide), u2_q, if_neg (by decide), g6]; exact i6
        · rw [u2_q, if_neg (by decide), u2_q, if_pos rfl]
        · rw [u2_q, if_pos rfl]; exact g2
    · rw [if_pos g1, if_pos z, g2]
      by_cases hx : rfc (oAt T len A pos).1 = 0
      · rw [if_pos hx, if_pos hx]
        obtain ⟨y1, y2, y3, y4, y5, y6⟩ := g4 hx
        obtain ⟨o1, o2, _⟩ := pOk hp z
        have r := ih fl (i9 + 1) (pE T len pos).2 (k + 1) (oAt T len A pos).2 _ (by omega) (by omega) (by omega) (by omega) y5 (hR.step hq hp z y2 y3)
        exact ⟨r.1, r.2.1, y6.tr r.2.2.1, r.2.2.2⟩
      · rw [if_neg hx, if_neg hx]
        obtain ⟨g3, g4, g5, g6, g7⟩ := g3 hx
        refine stop _ _ ?_ ?_
        · unfold fX9_setFault
          try dsimp only
          rw [u2_q, if_neg (by decide), u2_q, if_pos rfl]
          decide
        · unfold fX9_setFault
          try dsimp only
          have hr : ∀ q, q ≠ 451 → u2 (u2 (stC w len) 451 4 2) 451 5 (rfc (oAt T len A pos).1) q = stC w len q := fun q h => by rw [u2_r h, u2_r h]
          refine ⟨g4.fr hb (fun q a1 a2 => hr q (by omega)) ⟨hR.2.1.1.1, hR.2.1.1.2.1, hR.2.1.1.2.2.1⟩, g5.fr ⟨hr _ (by omega), hr _ (by omega)⟩, g3.tr (FT.of (by omega) (fun q a1 _ => hr q a1) (by rw [u2_q, if_neg (by decide), u2_q, if_neg (by decide)])), by rw [hr 450 (by decide)]; exact g7, ?_, ?_, ?_, ?_, hR, h4⟩
          · rw [u2_q, if_neg (by decide), u2_q, if_neg (by decide), g6]; exact i5
          · rw [u2_q, if_neg (by decide), u2_q, if_neg (by decide), g6]; exact i6
          · rw [u2_q, if_neg (by decide), u2_q, if_pos rfl]
          · rw [u2_q, if_pos rfl]
/-- what the loop asks, V the world behind it -/
theorem run_o {v8 V : vSt} {o1 : Nat} {v0 : vSt} (hb : kd b = 7) (h60 : len ≤ 60) (hT : ∀ i, i < len → 32 ≤ (T i).toInt ∧ (T i).toInt ≤ 126) (hq : RQ T len A0)
    (hK : ∀ x, pot v8 ≤ x → x ≤ pot V → (0 + kkX7_copyFrom (rN (v0 451 0)) o1 v0) + (x - pot v8) ≤ kkX9_run 451 o1 450 (Int32.ofNat len) v0) : ∀ f fl i9 pos k A w, len ≤ f + pos → f + 1 ≤ fl → i9 ≤ pos → k ≤ pos → CI T b w A pos k → RI T len A0 A pos → pot v8 ≤ pot w →
    lX9_run_31 451 450 (Int32.ofNat len) fl (Int32.ofNat i9) w = V →
    olX9_run_31 v0 451 o1 450 (Int32.ofNat len) (Int32.ofNat len) v8 fl (Int32.ofNat i9) w := by
  intro f
  induction f with
  | zero =>
    intro fl i9 pos k A w h1 h2 h3 h4 hI hR h8 hV
    obtain ⟨fl, rfl⟩ : ∃ g, fl = g + 1 := ⟨fl - 1, by omega⟩
    have hRl := hR.1
    unfold olX9_run_31
    obtain ⟨i1, i2, i3, i4, i5, i6, i7, i8⟩ := id hI
    rw [i6]
    have e1 := ofle (k := len) (n := pos) (by omega) (by omega)
    exact ⟨fun _ => Nat.le_refl _, fun _ => ⟨fun _ => Nat.le_refl _, fun z => absurd (e1.mpr (by omega)) z⟩⟩
  | succ f ih =>
    intro fl i9 pos k A w h1 h2 h3 h4 hI hR h8 hV
    have C := run_c hb h60 hT hq (f + 1) fl i9 pos k A w h1 h2 h3 h4 hI hR
    rw [hV] at C
    have hwV : pot w ≤ pot V := ft_pot hb C.2.2.1 C.2.1
    obtain ⟨fl, rfl⟩ : ∃ g, fl = g + 1 := ⟨fl - 1, by omega⟩
    have hRl := hR.1
    obtain ⟨i1, i2, i3, i4, i5, i6, i7, i8⟩ := id hI
    have e1 := ofle (k := len) (n := pos) (by omega) (by omega)
    have e60 := ofle (k := 60) (n := i9) (by omega) (by omega)
    rw [show Int32.ofNat 60 = (60 : Int32) from rfl] at e60
    unfold lX9_run_31 at hV
    unfold olX9_run_31
    rw [i6] at hV ⊢
    refine ⟨fun _ => Nat.le_refl _, fun _ => ⟨fun _ => Nat.le_refl _, fun hp => ?_⟩⟩
    have hp : pos < len := by have := mt e1.mpr hp; omega
    rw [if_neg (mt e60.mp (by omega)), if_neg (mt e1.mp (by omega)), i7, if_pos rfl] at hV
    refine ⟨fun _ => ?_, fun z => absurd i7 z⟩
    obtain ⟨c1, c2, c3, c4, c5⟩ := c_step hb h60 hT hq hI hR hp (by omega)
    have eS : fX3_readFrom 452 450 (Int32.ofNat len) (Int32.ofNat pos) w = stC w len := by unfold stC; rw [i6]
    rw [i6] at c1
    rw [eS] at hV
    dsimp only at hV
    rw [c3, of_S (by omega)] at hV
    refine ⟨c1, hK _ h8 hwV, fun v20 e20 => ?_⟩
    rw [eS] at e20
    rw [e20, c3]
    -- a fault ends the run
    have stop : ∀ V' : vSt, ¬ V' 451 4 = 0 → olX9_run_31 v0 451 o1 450 (Int32.ofNat len) (Int32.ofNat len) v8 fl (Int32.ofNat (i9 + 1)) V' := fun V' hV' => by
      obtain ⟨fl, rfl⟩ : ∃ g, fl = g + 1 := ⟨fl - 1, by omega⟩
      unfold olX9_run_31
      exact ⟨fun _ => Nat.le_refl _, fun _ => ⟨fun _ => Nat.le_refl _, fun _ => ⟨fun z => absurd z hV', fun _ => Nat.le_refl _⟩⟩⟩
    have pf : ∀ x y, pot (fX9_setFault 451 x y (stC w len)) = pot w := fun x y => by
      unfold fX9_setFault
      try dsimp only
      rw [← c2]
      exact pot_cg (fun q hq => by rw [u2_r (fun e => by rw [e] at hq; exact absurd hq (by decide)), u2_r (fun e => by rw [e] at hq; exact absurd hq (by decide))])
    rcases c5 with ⟨z, g1, g2, g3, g4, g5, g6, g7⟩ | ⟨z, g1, g2, g3, g4⟩
    · rw [if_neg g1] at hV
      refine ⟨⟨fun q => absurd q g1, fun _ v34 e34 => by rw [e34, pf]; exact Nat.le_refl _⟩, fun v21 e21 => ⟨Nat.le_refl _, ?_⟩⟩
      rw [if_neg g1] at e21
      rw [e21, of_S (by omega)]
      refine stop _ ?_
      unfold fX9_setFault
      try dsimp only
      rw [u2_q, if_neg (by decide), u2_q, if_pos rfl]
      decide
    · rw [if_pos g1, g2] at hV
      by_cases hx : rfc (oAt T len A pos).1 = 0
      · rw [if_pos hx] at hV
        obtain ⟨y1, y2, y3, y4, y5, y6⟩ := g4 hx
        obtain ⟨o1', o2, _⟩ := pOk hp z
        have hRs := hR.step hq hp z y2 y3
        have hk7 : kkX7_perform b 452 (stC w len) = pot (fX7_perform b 452 (stC w len)) - pot (stC w len) := rfl
        have C2 := run_c hb h60 hT hq f fl (i9 + 1) (pE T len pos).2 (k + 1) (oAt T len A pos).2 _ (by omega) (by omega) (by omega) (by omega) y5 hRs
        rw [hV] at C2
        have p30 := ft_pot hb C2.2.2.1 C2.2.1
        have e30 : pot (u2 (u2 (fX7_perform b 452 (stC w len)) 451 2 (fX7_perform b 452 (stC w len) 451 2 + 1)) 451 3 (u2 (fX7_perform b 452 (stC w len)) 451 2 (fX7_perform b 452 (stC w len) 451 2 + 1) 452 3)) = pot (fX7_perform b 452 (stC w len)) :=
          pot_cg (fun q hq => by rw [u2_r (fun e => by rw [e] at hq; exact absurd hq (by decide)), u2_r (fun e => by rw [e] at hq; exact absurd hq (by decide))])
        refine ⟨⟨fun _ => ⟨hb, c4, fun _ => ⟨y1, ?_, fun v28 e28 v29 e29 v30 e30' => ?_⟩, fun q => absurd (by rw [g2]; exact hx) q⟩, fun q => absurd g1 q⟩, fun v21 e21 => ⟨Nat.le_refl _, ?_⟩⟩
        · have := hK (pot (fX7_perform b 452 (stC w len))) (by omega) (by rw [← e30]; exact p30)
          rw [hk7, c2]
          omega
        · rw [e30', e29, e28, e30, hk7, c2]
          omega
        · rw [if_pos g1, g2, if_pos hx] at e21
          rw [e21, of_S (by omega)]
          exact ih fl (i9 + 1) (pE T len pos).2 (k + 1) (oAt T len A pos).2 _ (by omega) (by omega) (by omega) (by omega) y5 hRs (by rw [e30]; omega) hV
      · rw [if_neg hx] at hV
        refine ⟨⟨fun _ => ⟨hb, c4, fun q => absurd (by rw [← g2]; exact q) hx, fun _ v32 e32 => by rw [e32, pf]; exact Nat.le_refl _⟩, fun q => absurd g1 q⟩, fun v21 e21 => ⟨Nat.le_refl _, ?_⟩⟩
        rw [if_pos g1, g2, if_neg hx] at e21
        rw [e21, of_S (by omega)]
        refine stop _ ?_
        unfold fX9_setFault
        try dsimp only
        rw [u2_q, if_neg (by decide), u2_q, if_pos rfl]
        decide
end T46g
