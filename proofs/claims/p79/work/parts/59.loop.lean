/-! P79, PLAIN 13: the law's loop. -/
section T59
variable {n m N n' N' : Nat} {u v w z V W : vSt} {A A' : Ar} {x p y : Int32} {k i : Nat}
theorem lg_self (a : Int64) : lg_cmp a a = 0 := by
  unfold lg_cmp
  simp
theorem cp_le {b : Nat} (h : CP v b) : rN (v (b + 6) 4) + rN (v (b + 7) 4) ≤ 6420 := by
  obtain ⟨⟨h1, _, _⟩, h2, h3, _⟩ := h
  have h1' : v (b + 6) 4 = 20 := h1
  have h2' : 20 ≤ (v (b + 7) 4).toInt := h2
  have h3' : (v (b + 7) 4).toInt ≤ 6400 := h3
  have e1 : rN (v (b + 6) 4) = 20 := by rw [h1']; rfl
  have e2 : rN (v (b + 7) 4) = (v (b + 7) 4).toInt.toNat := rfl
  omega
theorem pot_le (hI : Inv n m v) : pot v ≤ 314580 := by
  have c0 := cp_le (hI.2.1 0 (by decide))
  have c1 := cp_le (hI.2.1 64 (by decide))
  have c2 := cp_le (hI.2.1 128 (by decide))
  have c3 := cp_le (hI.2.1 192 (by decide))
  have c4 := cp_le (hI.2.1 256 (by decide))
  have c5 := cp_le (hI.2.1 320 (by decide))
  have c6 := cp_le (hI.2.1 384 (by decide))
  unfold pot
  simp only [Nat.zero_add, Nat.reduceAdd] at c0 c1 c2 c3 c4 c5 c6
  omega
/-- what holds between the law's acts -/
def LSt (n N : Nat) (v : vSt) : Prop := (∃ m, Inv n m v) ∧ XI N (v 462) ∧ XJ (v 462) ∧ (∀ i, i < (v 461 5).toNatClampNeg → XI N (sl v i) ∧ XJ (sl v i)) ∧ (v 461 3 = 1 → XI N (v 464) ∧ XJ (v 464))
theorem LSt.up (h : LSt n N v) (h1 : n ≤ n') (h2 : N ≤ N') : LSt n' N' v := by
  obtain ⟨⟨m, a1⟩, a2, a3, a4, a5⟩ := h
  exact ⟨⟨m, a1.to h1⟩, a2.mono h2, a3, fun i hi => ⟨(a4 i hi).1.mono h2, (a4 i hi).2⟩, fun q => ⟨(a5 q).1.mono h2, (a5 q).2⟩⟩
theorem LSt.sms (h : LSt n N v) (s : SMS v w) (hi : ∃ m, Inv n' m w) : LSt n' N w := by
  obtain ⟨⟨m, a1⟩, a2, a3, a4, a5⟩ := h
  obtain ⟨s1, s2, s3, s4, s5⟩ := s
  refine ⟨hi, a2.ext a1.wf.w3 s1, a3.ext a1.wf.1 s1, fun i q => ?_, fun q => ?_⟩
  · rw [sl_cg s3]
    exact a4 i (by rw [← s5]; exact q)
  · rw [s2]
    exact a5 (by rw [← s4]; exact q)
theorem LSt.rcd (h : LSt n N v) (s : RCD v w A') (hi : ∃ m, Inv n' m w) (hN : N ≤ N') (hX : XI N' (w 462)) (hJ : XJ (w 462)) : LSt n' N' w := by
  obtain ⟨⟨m, a1⟩, a2, a3, a4, a5⟩ := h
  obtain ⟨s1, s2, s3, s4, s5⟩ := s
  have c5 := a1.2.2.1.2
  have hH : ∀ i, i < (v 461 5).toNatClampNeg → WF (sl v i) := fun i q => (a1.2.2.2.2.2.2.1 i q).2.1
  have cur : ∀ B : Ar, eqA B (v 462) → XI N' B ∧ XJ B := fun B e => ⟨(a2.ext a1.wf.w3 e).mono hN, a3.ext a1.wf.1 e⟩
  have old : ∀ i, i < (v 461 5).toNatClampNeg → ∀ B : Ar, eqA B (sl v i) → XI N' B ∧ XJ B := fun i q B e => ⟨((a4 i q).1.ext (hH i q).w3 e).mono hN, (a4 i q).2.ext (hH i q).1 e⟩
  refine ⟨hi, hX, hJ, fun i q => ?_, fun q => ?_⟩
  · by_cases g : v 461 5 = 4
    · obtain ⟨b1, b2, b3⟩ := s4 g
      rw [b1, show (4 : Int32).toNatClampNeg = 4 from rfl] at q
      by_cases g3 : i = 3
      · rw [g3]; exact cur _ b3
      · exact old (i + 1) (by rw [g, show (4 : Int32).toNatClampNeg = 4 from rfl]; omega) _ (b2 i (by omega))
    · have g4 : inn (v 461 5) 4 := ⟨c5.1, by
        have := c5.2
        have : (v 461 5).toInt ≠ 4 := fun e => g (toI e)
        omega⟩
      obtain ⟨b1, b2, b3⟩ := s5 g4
      rw [b1, (add1 g4 (by omega)).2] at q
      by_cases g3 : i = (v 461 5).toNatClampNeg
      · rw [g3]; exact cur _ b3
      · exact old i (by omega) _ (b2 i (by omega))
  · rw [s3]
    obtain ⟨z1, z2⟩ := a5 (by rw [← s2]; exact q)
    exact ⟨z1.mono hN, z2⟩
theorem LSt.out (h : LSt n N v) (o : OUT n N v w) : LSt (n + 25) (N + 60) w := by
  obtain ⟨_, o2, o3, o4, o5⟩ := o
  rcases o5 with s | ⟨A', s⟩
  · exact (h.sms s o2).up (Nat.le_refl _) (by omega)
  · exact h.rcd s o2 (by omega) o3 o4
/-- what was undone -/
def UND (v w : vSt) : Prop := eqA (w 462) (sl v (v 461 5 - 1).toNatClampNeg) ∧ w 461 5 = v 461 5 - 1 ∧ w 465 = v 465 ∧ w 464 = v 464 ∧ w 461 3 = v 461 3
theorem LSt.und (h : LSt n N v) (s : UND v w) (h0 : v 461 5 ≠ 0) (hi : ∃ m, Inv n' m w) : LSt n' N w := by
  obtain ⟨⟨m, a1⟩, a2, a3, a4, a5⟩ := h
  obtain ⟨s1, s2, s3, s4, s5⟩ := s
  obtain ⟨c1, c2, c3, c4⟩ := sub1 a1.2.2.1.2 h0
  have hl : (v 461 5 - 1).toNatClampNeg < (v 461 5).toNatClampNeg := by omega
  have hw : WF (sl v (v 461 5 - 1).toNatClampNeg) := (a1.2.2.2.2.2.2.1 _ hl).2.1
  refine ⟨hi, (a4 _ hl).1.ext hw.w3 s1, (a4 _ hl).2.ext hw.1 s1, fun i q => ?_, fun q => ?_⟩
  · rw [sl_cg s3]
    rw [s2] at q
    exact a4 i (by omega)
  · rw [s4]
    exact a5 (by rw [← s5]; exact q)
theorem q_undo (hI : Inv n m v) : oL_undo 448 v ∧ pot v ≤ pot (fL_undo 448 v).2 ∧ (∃ m', Inv (n + 1) m' (fL_undo 448 v).2) ∧ (v 461 5 = 0 → (fL_undo 448 v).1 = -100103 ∧ SMS v (fL_undo 448 v).2) ∧ (v 461 5 ≠ 0 → (fL_undo 448 v).1 = v 461 5 - 1 ∧ UND v (fL_undo 448 v).2) := by
  obtain ⟨t1, t2, t3, ⟨t4, t5, t6, t7, t8, m', t9⟩⟩ := t_undo hI
  obtain ⟨u0, u1⟩ := m_undo hI t4
  have hk : oL_undo 448 v := by
    refine ⟨t1, ?_, fun h0 v4 _ => t3.resolve_left h0⟩
    unfold kkL_undo fL_undo kkX10_undo
    by_cases h : (fX10_undo 448 v).1 = 0
    · rw [if_pos h]; dsimp only; rw [pot_gM]; omega
    · rw [if_neg h]; dsimp only; rw [pot_gM]; omega
  by_cases h5 : v 461 5 = 0
  · obtain ⟨w, e, hm⟩ := u0 h5
    rw [e] at t6 t7 t8 t9
    dsimp only at t6 t7 t8 t9
    have hc : ¬ (fX10_undo 448 v).1 = 0 := fun q => by
      rw [hm.2.2.2.2, q] at t7
      exact absurd t7 (by decide)
    have ef : fL_undo 448 v = (-100103, w) := by
      unfold fL_undo
      rw [if_neg hc]
      dsimp only
      rw [e]
      dsimp only
      rw [hm.gMi]
    rw [ef]
    dsimp only
    exact ⟨hk, by rw [t6]; exact t5, ⟨m', t9⟩, fun _ => ⟨rfl, (hm.sam t4).sms⟩, fun q => absurd h5 q⟩
  · obtain ⟨w, e, h1, h2, h3, h4, h6⟩ := u1 h5
    rw [e] at t6 t7 t8 t9
    dsimp only at t6 t7 t8 t9
    have hc : (fX10_undo 448 v).1 = 0 := cc1_0 (by rw [← t7]; exact h4)
    have ef : fL_undo 448 v = (v 461 5 - 1, w) := by
      unfold fL_undo
      rw [if_pos hc]
      dsimp only
      rw [e]
      dsimp only
      rw [gM_id (fun q hq => h1 q (by omega) (by omega)), t8 hc]
    rw [ef]
    dsimp only
    exact ⟨hk, by rw [t6]; exact t5, ⟨m', t9⟩, fun q => absurd q h5, fun _ => ⟨rfl, h6, h3, by rw [h1 _ (by decide) (by decide), t4 _ (by decide)], by rw [h1 _ (by decide) (by decide), t4 _ (by decide)], by rw [h2 3 (by decide) (by decide), t4 _ (by decide)]⟩⟩
theorem q_goBack (hI : Inv n m v) : oL_goBack 448 v ∧ pot v ≤ pot (fL_goBack 448 v).2 ∧ (∃ m', Inv (n + 1) m' (fL_goBack 448 v).2) ∧ (v 461 3 = 0 → (fL_goBack 448 v).1 = -100103 ∧ SMS v (fL_goBack 448 v).2) ∧ (v 461 3 ≠ 0 → ∃ A', (fL_goBack 448 v).1 = A' 206 ∧ RCD v (fL_goBack 448 v).2 A' ∧ eqA A' (v 464)) := by
  obtain ⟨t1, t2, t3, ⟨t4, t5, t6, t7, t8, m', t9⟩⟩ := t_goBack hI
  obtain ⟨u0, u1⟩ := m_goBack hI t4
  have hk : oL_goBack 448 v := by
    refine ⟨t1, ?_, fun h0 v4 _ => t3.resolve_left h0⟩
    unfold kkL_goBack fL_goBack kkX10_goBack
    by_cases h : (fX10_goBack 448 v).1 = 0
    · rw [if_pos h]; dsimp only; rw [pot_gM]; omega
    · rw [if_neg h]; dsimp only; rw [pot_gM]; omega
  by_cases h5 : v 461 3 = 0
  · obtain ⟨w, e, hm⟩ := u0 h5
    rw [e] at t6 t7 t8 t9
    dsimp only at t6 t7 t8 t9
    have hc : ¬ (fX10_goBack 448 v).1 = 0 := fun q => by
      rw [hm.2.2.2.2, q] at t7
      exact absurd t7 (by decide)
    have ef : fL_goBack 448 v = (-100103, w) := by
      unfold fL_goBack
      rw [if_neg hc]
      dsimp only
      rw [e]
      dsimp only
      rw [hm.gMi]
    rw [ef]
    dsimp only
    exact ⟨hk, by rw [t6]; exact t5, ⟨m', t9⟩, fun _ => ⟨rfl, (hm.sam t4).sms⟩, fun q => absurd h5 q⟩
  · obtain ⟨w, A', e, hm, hA⟩ := u1 h5
    rw [e] at t6 t7 t8 t9
    dsimp only at t6 t7 t8 t9
    have hc : (fX10_goBack 448 v).1 = 0 := cc1_0 (by rw [← t7]; exact hm.2.2.1.2.2)
    have ef : fL_goBack 448 v = (A' 206, w) := by
      unfold fL_goBack
      rw [if_pos hc]
      dsimp only
      rw [e]
      dsimp only
      rw [hm.gMi, t8 hc]
    rw [ef]
    dsimp only
    exact ⟨hk, by rw [t6]; exact t5, ⟨m', t9⟩, fun q => absurd q h5, fun _ => ⟨A', rfl, (hm.chm t4).rcd, hA⟩⟩
/-- what was kept -/
def KPT (v w : vSt) : Prop := w 462 = v 462 ∧ w 461 5 = v 461 5 ∧ w 465 = v 465 ∧ eqA (w 464) (v 462) ∧ w 461 3 = 1
theorem LSt.kpt (h : LSt n N v) (s : KPT v w) (hi : ∃ m, Inv n' m w) : LSt n' N w := by
  obtain ⟨⟨m, a1⟩, a2, a3, a4, a5⟩ := h
  obtain ⟨s1, s2, s3, s4, s5⟩ := s
  refine ⟨hi, by rw [s1]; exact a2, by rw [s1]; exact a3, fun i q => ?_, fun q => ⟨a2.ext a1.wf.w3 s4, a3.ext a1.wf.1 s4⟩⟩
  rw [sl_cg s3]
  exact a4 i (by rw [← s2]; exact q)
theorem q_keep (hI : Inv n m v) : oX10_keep 448 v ∧ pot v ≤ pot (fX10_keep 448 v).2 ∧ (fX10_keep 448 v).1 = v 462 206 ∧ ∀ W, W = gM (fX10_keep 448 v).2 (fX11_keep 461 (fX10_keep 448 v).2).2 → (∃ m', Inv (n + 1) m' W) ∧ pot W = pot (fX10_keep 448 v).2 ∧ KPT v W := by
  obtain ⟨t1, t2, ⟨t4, t5, t6, t7, t8, m', t9⟩⟩ := t_keep hI
  obtain ⟨w, e, h1, h2, h3, h4, h5⟩ := m_keep t4
  rw [e] at t6 t7 t8 t9
  dsimp only at t6 t7 t8 t9
  refine ⟨t1, t5, t8 rfl, fun W eW => ?_⟩
  rw [e] at eW
  dsimp only at eW
  rw [gM_id (fun q hq => h1 q (by omega) (by omega))] at eW
  rw [eW]
  exact ⟨⟨m', t9⟩, t6, by rw [h1 _ (by decide) (by decide), t4 _ (by decide)], by rw [h2 5 (by decide) (by decide), t4 _ (by decide)], by rw [h1 _ (by decide) (by decide), t4 _ (by decide)], h5, h3⟩
/-- the look of what is kept -/
def KL (v : vSt) (y : Int64) : Prop := v 461 3 = 1 ∧ ∀ (w : vSt) (n m : Nat), Inv n m w → eqA (w 462) (v 464) → fL_look 448 w = y
theorem KL.cg {y : Int64} (h : KL v y) (h1 : w 464 = v 464) (h2 : w 461 3 = v 461 3) : KL w y := ⟨h2.trans h.1, fun z n m hI e => h.2 z n m hI (by rw [← h1]; exact e)⟩
theorem md_k {a k : Nat} (ha : a < 1000) (hk : 0 < k) (hk2 : k < 1000) : Int32.ofNat a - Int32.ofNat a / Int32.ofNat k * Int32.ofNat k = Int32.ofNat (a % k) := by
  have h1 : a / k * k ≤ a := Nat.div_mul_le_self _ _
  have h2 : a % k = a - a / k * k := by have := Nat.div_add_mod a k; rw [Nat.mul_comm] at this; omega
  have h3 : a / k ≤ a := Nat.div_le_self _ _
  rw [dv_n (by omega) (by omega) hk, of_mul]
  apply toI
  rw [ti_sub (by rw [of_ti (by omega), of_ti (by omega)]; omega), of_ti (by omega), of_ti (by omega), of_ti (by omega)]
  omega
theorem lot_o {L : Nat} {xs : Nat → Int32} (hL : L ≤ 260) (hk : k < 1000) : oL_lot L xs (Int32.ofNat k) := by
  intro q
  rw [ofle (by omega) (by omega)] at q
  exact vp_in_iff.mpr ⟨by rw [of_ti (by omega)]; omega, by rw [of_ti (by omega)]; omega⟩
theorem law_l {L : Nat} {xs : Nat → Int32} (hL : L ≤ 260) : ∀ fl i (y : Int64) (v : vSt) n N, i ≤ 58 → 58 < fl + i → LSt n N v → 60 ≤ n → n + 53 * (58 - i) ≤ 3140 → N + 130 * (58 - i) ≤ 2 ^ 29 → (10 ≤ i → KL v y) →
    olL_law_46 xs L fl (Int32.ofNat i) y v ∧ ∃ n' N', LSt n' N' (lL_law_46 xs L fl (Int32.ofNat i) y v) ∧ n' ≤ 3140 ∧ N' ≤ 2 ^ 29 := by
  intro fl
  induction fl with
  | zero => intro i y v n N h1 h2; omega
  | succ fl ih =>
    intro i y v n N h1 h2 hS h60 hn hN hK
    unfold olL_law_46 lL_law_46
    have hle := ofle (k := 58) (n := i) (by decide) (by omega)
    rw [show Int32.ofNat 58 = (58 : Int32) from rfl] at hle
    by_cases q : 58 ≤ i
    · rw [if_pos (hle.mpr q)]
      exact ⟨fun g => absurd (hle.mpr q) g, n, N, hS, by omega, by omega⟩
    rw [if_neg (mt hle.mp q)]
    have e2 : (2 : Int32) * Int32.ofNat i = Int32.ofNat (2 * i) := by rw [show (2 : Int32) = Int32.ofNat 2 from rfl, of_mul]
    have e21 : Int32.ofNat (2 * i) + 1 = Int32.ofNat (2 * i + 1) := of_S (by omega)
    have m5 := md_k (a := i) (k := 5) (by omega) (by decide) (by decide)
    have m20 := md_k (a := i) (k := 20) (by omega) (by decide) (by decide)
    have m9 := md_k (a := i) (k := 9) (by omega) (by decide) (by decide)
    rw [show Int32.ofNat 5 = (5 : Int32) from rfl] at m5
    rw [show Int32.ofNat 20 = (20 : Int32) from rfl] at m20
    rw [show Int32.ofNat 9 = (9 : Int32) from rfl] at m9
    rw [e2, e21, m5, m20, m9]
    have c20_9 : Int32.ofNat (i % 20) = 9 ↔ i % 20 = 9 := neT (t := i % 20) (u := 9) (by omega) (by decide)
    have c20_19 : Int32.ofNat (i % 20) = 19 ↔ i % 20 = 19 := neT (t := i % 20) (u := 19) (by omega) (by decide)
    have c9_8 : Int32.ofNat (i % 9) = 8 ↔ i % 9 = 8 := neT (t := i % 9) (u := 8) (by omega) (by decide)
    have ll1 := lot_o (L := L) (xs := xs) (k := 2 * i) hL (by omega)
    have ll2 := lot_o (L := L) (xs := xs) (k := 2 * i + 1) hL (by omega)
    obtain ⟨X, eX⟩ : ∃ z, z = fL_lot L xs (Int32.ofNat (2 * i)) := ⟨_, rfl⟩
    obtain ⟨Y, eY⟩ : ∃ z, z = fL_lot L xs (Int32.ofNat (2 * i + 1)) := ⟨_, rfl⟩
    rw [← eX, ← eY]
    clear eX eY e2 e21 m5 m20 m9
    -- the first act
    obtain ⟨m0, I0⟩ := hS.1
    have x0 := hS.2.1
    have j0 := hS.2.2.1
    obtain ⟨w26, E26⟩ : ∃ z, z = fL_acts 448 (X >>> ((6 : Int32) &&& 31)) (Y >>> ((4 : Int32) &&& 31)) v := ⟨_, rfl⟩
    obtain ⟨a1, b1⟩ := acts_o (p := X >>> ((6 : Int32) &&& 31)) (y := Y >>> ((4 : Int32) &&& 31)) I0 h60 (by omega) x0 j0 (by omega)
    rw [← E26] at b1
    have S26 := hS.out b1
    obtain ⟨m26, I26⟩ := S26.1
    have p26 := pot_le I26
    -- the second
    obtain ⟨w33, E33⟩ : ∃ z, z = fL_acts 448 X Y w26 := ⟨_, rfl⟩
    obtain ⟨a2, b2⟩ := acts_o (p := X) (y := Y) I26 (by omega) (by omega) S26.2.1 S26.2.2.1 (by omega)
    rw [← E33] at b2
    have S33 := S26.out b2
    obtain ⟨m33, I33⟩ := S33.1
    have p33 := pot_le I33
    have q26 := b1.1
    have q33 := b2.1
    have st26 : fX10_states 448 w26 = w26 461 5 := x_states I26
    have st33 : fX10_states 448 w33 = w33 461 5 := x_states I33
    have k26 : w26 464 = v 464 ∧ w26 461 3 = v 461 3 := by
      rcases b1.2.2.2.2 with s | ⟨A', s⟩
      · exact ⟨s.2.1, s.2.2.2.1⟩
      · exact ⟨s.2.2.1, s.2.1⟩
    have k33 : w33 464 = w26 464 ∧ w33 461 3 = w26 461 3 := by
      rcases b2.2.2.2.2 with s | ⟨A', s⟩
      · exact ⟨s.2.1, s.2.2.2.1⟩
      · exact ⟨s.2.2.1, s.2.1⟩
    have i1 : (1 : Int32).toInt = 1 := rfl
    have c26 := I26.2.2.1.2
    have t26 : (w26 461 5 + 1).toInt = (w26 461 5).toInt + 1 := ti_add (b := 1) (by rw [i1]; have := c26.1; have := c26.2; omega)
    -- what was recorded
    have R2 : (SMS w26 w33 ∧ w33 461 5 = w26 461 5) ∨ (w26 461 5 = 4 ∧ w33 461 5 = 4) ∨ (w26 461 5 ≠ 4 ∧ w33 461 5 = w26 461 5 + 1 ∧ eqA (sl w33 (w26 461 5).toNatClampNeg) (w26 462)) := by
      rcases b2.2.2.2.2 with s | ⟨A', s⟩
      · exact Or.inl ⟨s, s.2.2.2.2⟩
      · by_cases g : w26 461 5 = 4
        · exact Or.inr (Or.inl ⟨g, (s.2.2.2.1 g).1⟩)
        · have g4 : inn (w26 461 5) 4 := ⟨c26.1, by
            have := c26.2
            have : (w26 461 5).toInt ≠ 4 := fun e => g (toI e)
            omega⟩
          exact Or.inr (Or.inr ⟨g, (s.2.2.2.2 g4).1, (s.2.2.2.2 g4).2.2⟩)
    have neq1 : ∀ z : Int32, (z + 1).toInt = z.toInt + 1 → z ≠ z + 1 := fun z h e => by
      have := congrArg Int32.toInt e
      rw [h] at this
      omega
    -- an undoing
    obtain ⟨uo, up, ⟨um, uI⟩, u0, u1⟩ := q_undo I33
    have U : w33 461 5 = w26 461 5 + 1 → (fL_undo 448 w33).1 = w26 461 5 ∧ UND w33 (fL_undo 448 w33).2 ∧ w33 461 5 ≠ 0 ∧ fL_look 448 (fL_undo 448 w33).2 = fL_look 448 w26 := fun e => by
      rcases R2 with ⟨_, h⟩ | ⟨g1, g2⟩ | ⟨_, _, h⟩
      · rw [h] at e; exact absurd e (neq1 _ t26)
      · rw [g2, g1] at e; exact absurd e (by decide)
      · have n0 : w33 461 5 ≠ 0 := fun z => by
          rw [e] at z
          have := congrArg Int32.toInt z
          rw [t26, show (0 : Int32).toInt = 0 from rfl] at this
          have := c26.1
          omega
        obtain ⟨f1, f2⟩ := u1 n0
        have es : w33 461 5 - 1 = w26 461 5 := by rw [e, Int32.add_sub_cancel]
        have f3 := f2.1
        rw [es] at f3
        exact ⟨by rw [f1, es], f2, n0, look_eq I26 uI (f3.tr h)⟩
    obtain ⟨w40, E40⟩ : ∃ z : vSt, z = ((if ((fX10_states 448 w33) : Int32) = ((fX10_states 448 w26) + (1 : Int32)) then (if ((fL_low (Y >>> ((8 : Int32) &&& 31)) 4) : Int32) = 0 then (let v47 : vSt := (fL_undo 448 w33).2; v47) else w33) else w33 : vSt) : vSt) := ⟨_, rfl⟩
    have S40 : LSt (n + 51) (N + 120) w40 ∧ pot w33 ≤ pot w40 ∧ w40 464 = w33 464 ∧ w40 461 3 = w33 461 3 := by
      rw [st33, st26] at E40
      by_cases g : w33 461 5 = w26 461 5 + 1
      · rw [if_pos g] at E40
        by_cases g2 : fL_low (Y >>> ((8 : Int32) &&& 31)) 4 = 0
        · rw [if_pos g2] at E40
          have E40 : w40 = (fL_undo 448 w33).2 := E40
          obtain ⟨_, f2, f3, _⟩ := U g
          rw [E40]
          exact ⟨S33.und f2 f3 ⟨um, uI⟩, up, f2.2.2.2.1, f2.2.2.2.2⟩
        · rw [if_neg g2] at E40
          rw [E40]
          exact ⟨S33.up (by omega) (by omega), Nat.le_refl _, rfl, rfl⟩
      · rw [if_neg g] at E40
        rw [E40]
        exact ⟨S33.up (by omega) (by omega), Nat.le_refl _, rfl, rfl⟩
    obtain ⟨S40, q40, k40⟩ := S40
    obtain ⟨m40, I40⟩ := S40.1
    have p40 := pot_le I40
    -- keeping
    obtain ⟨ko, kp, kz, kw⟩ := q_keep I40
    obtain ⟨w50, E50⟩ : ∃ z : vSt, z = gM (fX10_keep 448 w40).2 (fX11_keep 461 (fX10_keep 448 w40).2).2 := ⟨_, rfl⟩
    obtain ⟨⟨m50, I50⟩, kpot, K50⟩ := kw _ E50
    have p50 := pot_le I50
    obtain ⟨y43, E43⟩ : ∃ z : Int64, z = ((if ((Int32.ofNat (i % 20)) : Int32) = 9 then (let v49 : vSt := (fX10_keep 448 w40).2; let v50 : vSt := gM v49 (fX11_keep 461 v49).2; (fL_look 448 v50, v50)) else ((y, w40)) : Int64 × vSt) : Int64 × vSt).1 := ⟨_, rfl⟩
    obtain ⟨w44, E44⟩ : ∃ z : vSt, z = ((if ((Int32.ofNat (i % 20)) : Int32) = 9 then (let v49 : vSt := (fX10_keep 448 w40).2; let v50 : vSt := gM v49 (fX11_keep 461 v49).2; (fL_look 448 v50, v50)) else ((y, w40)) : Int64 × vSt) : Int64 × vSt).2 := ⟨_, rfl⟩
    have S44 : ∃ K, K ≤ n + 52 ∧ (i % 20 = 19 → K ≤ n + 51) ∧ LSt K (N + 120) w44 ∧ pot w40 ≤ pot w44 ∧ (9 ≤ i → KL w44 y43) := by
      by_cases g : i % 20 = 9
      · rw [if_pos (c20_9.mpr g)] at E43 E44
        have E43 : y43 = fL_look 448 w50 := by rw [E43, E50]
        have E44 : w44 = w50 := by rw [E44, E50]
        rw [E44, E43]
        exact ⟨n + 52, Nat.le_refl _, fun h => by omega, S40.kpt K50 ⟨m50, I50⟩, by omega, fun _ => ⟨K50.2.2.2.2, fun z n' m' hz e => look_eq I50 hz (by
          intro j hj
          rw [e j hj, K50.2.2.2.1 j hj, K50.1])⟩⟩
      · rw [if_neg (mt c20_9.mp g)] at E43 E44
        have E43 : y43 = y := E43
        have E44 : w44 = w40 := E44
        rw [E44, E43]
        refine ⟨n + 51, by omega, fun _ => Nat.le_refl _, S40, Nat.le_refl _, fun h9 => ?_⟩
        have := hK (by omega)
        exact ((this.cg k26.1 k26.2).cg k33.1 k33.2).cg k40.1 k40.2
    obtain ⟨K, hK1, hK2, S44, q44, L44⟩ := S44
    obtain ⟨m44, I44⟩ := S44.1
    have p44 := pot_le I44
    -- going back
    obtain ⟨go, gp, ⟨gm, gI⟩, g0, g1⟩ := q_goBack I44
    have pgo := pot_le gI
    have G : i % 20 = 19 → ∃ A', (fL_goBack 448 w44).1 = A' 206 ∧ RCD w44 (fL_goBack 448 w44).2 A' ∧ eqA A' (w44 464) := fun h => by
      refine g1 (fun z => ?_)
      rw [(L44 (by omega)).1] at z
      exact absurd z (by decide)
    obtain ⟨w47, E47⟩ : ∃ z : vSt, z = ((if ((Int32.ofNat (i % 20)) : Int32) = 19 then (let v52 : vSt := (fL_goBack 448 w44).2; v52) else w44 : vSt) : vSt) := ⟨_, rfl⟩
    have S47 : LSt (n + 52) (N + 120) w47 ∧ pot w44 ≤ pot w47 ∧ w47 464 = w44 464 ∧ w47 461 3 = w44 461 3 := by
      by_cases g : i % 20 = 19
      · rw [if_pos (c20_19.mpr g)] at E47
        have E47 : w47 = (fL_goBack 448 w44).2 := E47
        obtain ⟨A', f1, f2, f3⟩ := G g
        have h3 : w44 461 3 = 1 := (L44 (by omega)).1
        obtain ⟨y1, y2⟩ := S44.2.2.2.2 h3
        have w464 : WF (w44 464) := (I44.2.2.2.2.2.2.2 h3).2.1
        rw [E47]
        refine ⟨(S44.rcd f2 ⟨gm, gI⟩ (Nat.le_refl _) ?_ ?_).up (by have := hK2 g; omega) (Nat.le_refl _), gp, f2.2.2.1, f2.2.1⟩
        · rw [f2.1]; exact y1.ext w464.w3 f3
        · rw [f2.1]; exact y2.ext w464.1 f3
      · rw [if_neg (mt c20_19.mp g)] at E47
        rw [E47]
        exact ⟨S44.up (by omega) (by omega), Nat.le_refl _, rfl, rfl⟩
    obtain ⟨S47, q47, k47⟩ := S47
    -- n stays small: the last undoing
    obtain ⟨m47, I47⟩ := S47.1
    have p47 := pot_le I47
    obtain ⟨so, sp, ⟨sm, sI⟩, s0, s1⟩ := q_undo I47
    have psu := pot_le sI
    have st47 : fX10_states 448 w47 = w47 461 5 := x_states I47
    obtain ⟨w55, E55⟩ : ∃ z : vSt, z = ((if ((Int32.ofNat (i % 9)) : Int32) = 8 then (let v55 : vSt := (fL_undo 448 w47).2; let y57 : Int32 := (if ((fX10_states 448 w47) : Int32) = 0 then ((-100103)) else ((fX10_states 448 w47) - (1 : Int32)) : Int32); v55) else w47 : vSt) : vSt) := ⟨_, rfl⟩
    have S55 : LSt (n + 53) (N + 120) w55 ∧ w55 464 = w47 464 ∧ w55 461 3 = w47 461 3 := by
      by_cases g : i % 9 = 8
      · rw [if_pos (c9_8.mpr g)] at E55
        have E55 : w55 = (fL_undo 448 w47).2 := E55
        rw [E55]
        by_cases z5 : w47 461 5 = 0
        · obtain ⟨_, f2⟩ := s0 z5
          exact ⟨S47.sms f2 ⟨sm, sI⟩, f2.2.1, f2.2.2.2.1⟩
        · obtain ⟨_, f2⟩ := s1 z5
          exact ⟨S47.und f2 z5 ⟨sm, sI⟩, f2.2.2.2.1, f2.2.2.2.2⟩
      · rw [if_neg (mt c9_8.mp g)] at E55
        rw [E55]
        exact ⟨S47.up (by omega) (by omega), rfl, rfl⟩
    obtain ⟨S55, k55⟩ := S55
    have R := ih (i + 1) y43 w55 (n + 53) (N + 130) (by omega) (by omega) (S55.up (Nat.le_refl _) (by omega)) (by omega) (by omega) (by omega) (fun h => ((L44 (by omega)).cg k47.1 k47.2).cg k55.1 k55.2)
    rw [← of_S (by omega)] at R
    have pu := pot_le uI
    refine ⟨fun _ => ⟨ll1, ll2, a1, ⟨Nat.le_refl _, by rw [← E26]; exact q26, by rw [← E26]; exact p26⟩, fun v26 e26 => ?_⟩, ?_⟩
    · rw [e26, ← E26, ← E33]
      refine ⟨look_o I26, a2, ⟨q26, q33, p33⟩, fun v33 e33 => ?_⟩
      rw [e33, ← E40, st33, st26]
      refine ⟨fun _ => holds_o I33 S33.2.1 S33.2.2.1 (by omega), ⟨fun h h4 => ⟨look_o I33, fun hl => ?_⟩, fun h => ?_⟩, fun h => ⟨low_o (by decide), fun _ => ⟨uo, ⟨by omega, up, pu⟩, fun v47 e47 => ?_⟩⟩, fun v40 e40 => ?_⟩
      · rcases R2 with ⟨s, _⟩ | ⟨g1, _⟩ | ⟨_, g1, _⟩
        · rw [look_eq I26 I33 s.1, lg_self] at hl
          exact absurd rfl hl
        · exact absurd g1 h4
        · exact g1
      · rcases R2 with ⟨_, s⟩ | ⟨g1, g2⟩ | ⟨_, g1, _⟩
        · exact absurd s h
        · rw [g1, g2] at h; exact absurd rfl h
        · exact g1
      · obtain ⟨f1, f2, f3, f4⟩ := U h
        rw [e47]
        exact ⟨f1, look_o uI, by rw [f4, lg_self]⟩
      · have e40 : v40 = w40 := by rw [e40, E40, st33, st26]
        rw [e40]
        refine ⟨fun h => ⟨ko, ⟨by omega, kp, by rw [← kpot]; exact p50⟩, fun v49 e49 v50 e50 => ?_⟩, fun y43' v44 ey ev => ?_⟩
        · have e50 : v50 = w50 := by rw [e50, e49, E50]
          rw [e50, x_onBench I50, kz, K50.1]
          exact ⟨(t_onBench I50).1, rfl, look_o I50⟩
        · have ey : y43' = y43 := by rw [ey, E43]
          have ev : v44 = w44 := by rw [ev, E44]
          rw [ey, ev]
          refine ⟨fun h => ⟨go, ⟨by omega, gp, pgo⟩, fun v52 e52 => ?_⟩, fun v47 e47 => ?_⟩
          · obtain ⟨A', f1, f2, f3⟩ := G (c20_19.mp h)
            rw [e52, f1, x_onBench gI, f2.1]
            refine ⟨(t_onBench gI).1, rfl, look_o gI, ?_⟩
            rw [(L44 (by have := c20_19.mp h; omega)).2 _ _ _ gI (by rw [f2.1]; exact f3), lg_self]
          · have e47 : v47 = w47 := by rw [e47, E47]
            rw [e47]
            refine ⟨fun h => ⟨so, ⟨by omega, sp, psu⟩, fun v55 e55 y57 e57 => ?_⟩, fun v50 e50 => ?_⟩
            · rw [e57, st47]
              by_cases z5 : w47 461 5 = 0
              · rw [if_pos z5]; exact (s0 z5).1
              · rw [if_neg z5]; exact (s1 z5).1
            · have e50 : v50 = w55 := by rw [e50, E55]
              rw [e50]
              exact R.1
    · obtain ⟨n2, N2, r1, r2, r3⟩ := R.2
      exact ⟨n2, N2, (by rw [E55, E47, E44, E43, E40, E33, E26] at r1; exact r1), r2, r3⟩
theorem law_o {L : Nat} {xs : Nat → Int32} (hL : L ≤ 260) (hI : Inv 58 m v) (h5 : v 461 5 = 0) (h3 : v 461 3 = 0) (hz : ∀ j, 203 ≤ j → j ≤ 207 → v 462 j = 0) : oL_law L xs v := by
  have z0 : (0 : Int32).toNatClampNeg = 0 := rfl
  have hX : XI 0 (v 462) := ⟨fun t ht => by rw [hz _ (by omega) (by omega), z0] at ht; omega, fun b hb => by rw [hz _ (by omega) (by omega), z0] at hb; omega, fun k hk => by rw [hz _ (by omega) (by omega), z0] at hk; omega⟩
  have hJ : XJ (v 462) := ⟨fun t ht => by rw [hz _ (by omega) (by omega), z0] at ht; omega, fun b hb => by rw [hz _ (by omega) (by omega), z0] at hb; omega, fun k hk => by rw [hz _ (by omega) (by omega), z0] at hk; omega, fun k hk => by rw [hz _ (by omega) (by omega), z0] at hk; omega⟩
  have S0 : LSt 58 0 v := ⟨⟨m, hI⟩, hX, hJ, fun i q => by rw [h5, z0] at q; omega, fun q => by rw [h3] at q; exact absurd q (by decide)⟩
  obtain ⟨uo, up, ⟨um, uI⟩, u0, _⟩ := q_undo hI
  obtain ⟨f1, f2⟩ := u0 h5
  have S6 := S0.sms f2 ⟨um, uI⟩
  obtain ⟨go, gp, ⟨gm, gI⟩, g0, _⟩ := q_goBack uI
  obtain ⟨f3, f4⟩ := g0 (by rw [f2.2.2.2.1]; exact h3)
  have S12 := S6.sms f4 ⟨gm, gI⟩
  have R := law_l (xs := xs) hL 59 0 0 (fL_goBack 448 (fL_undo 448 v).2).2 60 0 (by omega) (by omega) S12 (by omega) (by omega) (by omega) (fun h => by omega)
  rw [show Int32.ofNat 0 = (0 : Int32) from rfl] at R
  obtain ⟨n2, N2, r1, r2, r3⟩ := R.2
  obtain ⟨m2, I2⟩ := r1.1
  have p6 := pot_le uI
  have p12 := pot_le gI
  unfold oL_law
  refine ⟨holds_o hI hX hJ (by omega), uo, ⟨Nat.le_refl _, up, p6⟩, fun v6 e6 => ?_⟩
  rw [e6]
  refine ⟨f1, go, ⟨up, gp, p12⟩, fun v12 e12 => ?_⟩
  rw [e12]
  refine ⟨f3, R.1, fun v18 e18 => ?_⟩
  rw [e18]
  exact holds_o I2 r1.2.1 r1.2.2.1 (by omega)
end T59
