/-! THE PLAIN PART 14c: the questions upon charts. -/
section T43c
variable {n m : Nat} {v w : vSt} {A : Ar} {z k p p2 p3 c y : Int32}
theorem kk_uu {x y : Int32} : u2 (u2 v 461 8 x) 461 8 y 462 = v 462 := by rw [u2_r (by decide), u2_r (by decide)]
theorem cfacts (hI : Inv n m v) (h : sIsY (v 462) p ≠ 0) : ∃ c : Nat, c ≤ 12 ∧ v ((((rN (v 448 0)) + 2 + 3) + 31 + p.toNatClampNeg)) 9 = Int32.ofNat c ∧ v 462 ((78 + 21 * p.toNatClampNeg + 8)) = Int32.ofNat c ∧
    (∀ w : vSt, w 462 = v 462 → fX11_of 461 p 8 w = Int32.ofNat c ∧ ∀ j, j < c → fX11_onChart 461 p (Int32.ofNat j) w = v ((((rN (v 448 0)) + 2 + 3) + 31 + p.toNatClampNeg) + 10) j ∧ oX11_onChart 461 p (Int32.ofNat j) w) ∧ ∀ w : vSt, oX11_of 461 p 8 w := by
  have hk := isY_in hI.wf.1.2.2.1 h
  have hY := hI.sr.2.2.2.2.1 _ hk.2
  have e9 : v ((((rN (v 448 0)) + 2 + 3) + 31 + p.toNatClampNeg)) 9 = v 462 ((78 + 21 * p.toNatClampNeg + 8)) := hY.1.2.2.2.2.2.2.2
  have hc := (hI.wf.2.2.2.1.1 _ hk.2).2.2.2.2.2.2.2.2.1
  have ec : v 462 ((78 + 21 * p.toNatClampNeg + 8)) = Int32.ofNat (v 462 ((78 + 21 * p.toNatClampNeg + 8))).toNatClampNeg := (of_to hc.1).symm
  have hlt := inn_lt hc
  refine ⟨(v 462 ((78 + 21 * p.toNatClampNeg + 8))).toNatClampNeg, by omega, by rw [e9]; exact ec, ec, fun w hw => ⟨?_, fun j hj => ⟨?_, ?_⟩⟩, fun w => mo_of hk.1 (by decide)⟩
  · rw [m_of hk.1 (by decide), hw]; exact ec
  · rw [m_onChart hk.1 (inn_of (by omega) (by decide)), hw, to_of (by omega)]
    exact (hY.2.2 j hj).symm
  · exact mo_onChart hk.1 (inn_of (by omega) (by decide))
theorem ck_o (hI : Inv n m v) : oX10_needChart 448 p v ∧ oX11_asksChart 461 p 0 v := by
  refine ⟨needY_o hI, ⟨mo_isType, fun y2 e2 => ⟨asks_o ?_, fun v5 e5 h => ?_⟩⟩⟩
  · rw [e2]
    split
    · exact Or.inl rfl
    · split
      · exact Or.inl rfl
      · exact Or.inr rfl
  · have hy : sIsY (v 462) p ≠ 0 := fun q => h (by rw [e2, show fX11_isType 461 p v = sIsY (v 462) p from rfl, if_pos q, asks_0 rfl])
    exact mo_of (isY_in hI.wf.1.2.2.1 hy).1 (by decide)
theorem chart3 (hI : Inv n m v) :
    (fX10_needChart 448 p v = (1, 0) ∧ fX11_asksChart 461 p 0 v = (0, u2 v 461 8 1)) ∨
    (fX10_needChart 448 p v = (3, 0) ∧ fX11_asksChart 461 p 0 v = (0, u2 (u2 v 461 8 0) 461 8 2)) ∨
    (∃ c : Nat, 0 < c ∧ c ≤ 12 ∧ sIsY (v 462) p ≠ 0 ∧ v ((((rN (v 448 0)) + 2 + 3) + 31 + p.toNatClampNeg)) 9 = Int32.ofNat c ∧
      (∀ w : vSt, w 462 = v 462 → fX11_of 461 p 8 w = Int32.ofNat c ∧ ∀ j, j < c → fX11_onChart 461 p (Int32.ofNat j) w = v ((((rN (v 448 0)) + 2 + 3) + 31 + p.toNatClampNeg) + 10) j ∧ oX11_onChart 461 p (Int32.ofNat j) w) ∧ (∀ w : vSt, oX11_of 461 p 8 w) ∧
      fX10_needChart 448 p v = (0, (((rN (v 448 0)) + 2 + 3) + 31 + p.toNatClampNeg)) ∧ fX11_asksChart 461 p 0 v = (1, u2 (u2 v 461 8 0) 461 8 0)) := by
  unfold fX10_needChart fX11_asksChart
  rw [needY hI, show fX11_isType 461 p v = sIsY (v 462) p from rfl]
  by_cases h : sIsY (v 462) p = 0
  · rw [if_pos h, if_pos h]
    dsimp only
    rw [asks_0 rfl]
    exact Or.inl ⟨rfl, rfl⟩
  rw [if_neg h, if_neg h, if_neg (show ¬ (0 : Int32) < 0 by decide)]
  dsimp only
  rw [asks_1 (by decide)]
  dsimp only
  obtain ⟨c, h12, e9, e8, hw, ho⟩ := cfacts hI h
  rw [if_neg (show ¬ (1 : Int32) = 0 by decide), e9, (hw _ k462).1, u2_s]
  by_cases h0 : c = 0
  · rw [h0, if_neg (show ¬ (0 : Int32) < Int32.ofNat 0 by decide), if_pos (show Int32.ofNat 0 ≤ (0 : Int32) by decide), if_neg (show ¬ (2 : Int32) = 0 by decide)]
    exact Or.inr (Or.inl ⟨rfl, rfl⟩)
  have l1 := oflt (k := 0) (n := c) (by decide) (by omega)
  have l2 := ofle (k := c) (n := 0) (by omega) (by decide)
  rw [show Int32.ofNat 0 = (0 : Int32) from rfl] at l1 l2
  rw [if_pos (l1.mpr (by omega)), if_neg (mt l2.mp (by omega)), if_pos (show (0 : Int32) = 0 from rfl)]
  exact Or.inr (Or.inr ⟨c, by omega, h12, h, rfl, hw, ho, rfl, rfl⟩)
theorem t_middleOf (hI : Inv n m v) : oX10_middleOf 448 p v ∧ oX11_middleOf 461 p v ∧ OQ v (fX10_middleOf 448 p v).1 (fX10_middleOf 448 p v).2.1 (fX11_middleOf 461 p v) (cc3 (fX10_middleOf 448 p v).1) ∧ (fX10_middleOf 448 p v).2.2 = v := by
  have ho := ck_o (p := p) hI
  have hd : ∀ P : Prop, (1 : Int32) = 0 → P := fun P q => absurd q (by decide)
  unfold oX10_middleOf oX11_middleOf fX10_middleOf fX11_middleOf
  rcases chart3 (p := p) hI with ⟨e1, e2⟩ | ⟨e1, e2⟩ | ⟨c, h0, h12, hy, e9, hw, hof, e1, e2⟩
  · rw [e1, e2]
    refine ⟨⟨ho.1, by unfold kkX10_middleOf; omega, fun q => absurd (show (1 : Nat) = 0 from q) (by decide)⟩, ⟨ho.2, fun v2 _ q => absurd rfl q⟩, ⟨qs_u2, fun q => absurd (show (1 : Nat) = 0 from q) (by decide)⟩, rfl⟩
  · rw [e1, e2]
    refine ⟨⟨ho.1, by unfold kkX10_middleOf; omega, fun q => absurd (show (3 : Nat) = 0 from q) (by decide)⟩, ⟨ho.2, fun v2 _ q => absurd rfl q⟩, ⟨qs_uu, fun q => absurd (show (3 : Nat) = 0 from q) (by decide)⟩, rfl⟩
  · have hkd := (needY_o (p := p) hI).2
    rw [needY hI, if_neg hy] at hkd
    have hk := hkd rfl
    have hm := mid_c h0 h12 (v ((((rN (v 448 0)) + 2 + 3) + 31 + p.toNatClampNeg) + 10))
    have wd : ∀ w : vSt, w 462 = v 462 → oX11_middle 461 p w ∧ fX11_middle 461 p w = fX10_entry 12 (fX4_sort 12 (v ((((rN (v 448 0)) + 2 + 3) + 31 + p.toNatClampNeg) + 10)) (Int32.ofNat c)) (Int32.ofNat c / 2) := fun w e => by
      have r := fun a : Int32 => io_t (k := c / 2) (a := a) h12 (hof w) (hw w e).1 (hw w e).2
      unfold oX11_middle fX11_middle
      rw [(hw w e).1, half_n (by omega)]
      rw [half_n (by omega)] at hm
      exact ⟨⟨hof w, (r 0).1⟩, (r _).2 (by omega) hm⟩
    rw [e1, e2]
    dsimp only
    refine ⟨⟨ho.1, by unfold kkX10_middleOf; omega, fun _ => ⟨hk, fun g1 eg => ?_, by unfold kkX10_middleOf; omega⟩⟩, ⟨ho.2, fun v2 ev _ => (wd _ (by rw [ev]; exact kk_uu)).1⟩, ?_⟩
    · rw [e9]; exact (sort_t h12 g1).1
    · rw [if_pos rfl, if_neg (by decide)]
      refine ⟨⟨qs_uu, fun _ => ?_⟩, rfl⟩
      dsimp only
      rw [(wd _ kk_uu).2]
      unfold fX4_middleInOrder
      dsimp only
      rw [e9]
theorem t_middleByTaking (hI : Inv n m v) : oX10_middleByTaking 448 p v ∧ oX11_middleByTaking 461 p v ∧ OQ v (fX10_middleByTaking 448 p v).1 (fX10_middleByTaking 448 p v).2.1 (fX11_middleByTaking 461 p v) (cc3 (fX10_middleByTaking 448 p v).1) ∧ (fX10_middleByTaking 448 p v).2.2 = v := by
  have ho := ck_o (p := p) hI
  unfold oX10_middleByTaking oX11_middleByTaking fX10_middleByTaking fX11_middleByTaking
  rcases chart3 (p := p) hI with ⟨e1, e2⟩ | ⟨e1, e2⟩ | ⟨c, h0, h12, hy, e9, hw, hof, e1, e2⟩
  · rw [e1, e2]
    refine ⟨⟨ho.1, by unfold kkX10_middleByTaking; omega, fun q => absurd (show (1 : Nat) = 0 from q) (by decide)⟩, ⟨ho.2, fun v2 _ q => absurd rfl q⟩, ⟨qs_u2, fun q => absurd (show (1 : Nat) = 0 from q) (by decide)⟩, rfl⟩
  · rw [e1, e2]
    refine ⟨⟨ho.1, by unfold kkX10_middleByTaking; omega, fun q => absurd (show (3 : Nat) = 0 from q) (by decide)⟩, ⟨ho.2, fun v2 _ q => absurd rfl q⟩, ⟨qs_uu, fun q => absurd (show (3 : Nat) = 0 from q) (by decide)⟩, rfl⟩
  · have hkd := (needY_o (p := p) hI).2
    rw [needY hI, if_neg hy] at hkd
    have hk := hkd rfl
    have hm := midL_c h0 h12 (v ((((rN (v 448 0)) + 2 + 3) + 31 + p.toNatClampNeg) + 10))
    have wd : ∀ w : vSt, w 462 = v 462 → oX11_middle 461 p w ∧ ∀ a, OS (v ((((rN (v 448 0)) + 2 + 3) + 31 + p.toNatClampNeg) + 10)) c (c / 2) a → fX11_middle 461 p w = a := fun w e => by
      have r := fun a : Int32 => io_t (k := c / 2) (a := a) h12 (hof w) (hw w e).1 (hw w e).2
      unfold oX11_middle fX11_middle
      rw [(hw w e).1, half_n (by omega)]
      exact ⟨⟨hof w, (r 0).1⟩, fun a ha => (r _).2 (by omega) ha⟩
    rw [e1, e2]
    dsimp only
    refine ⟨⟨ho.1, by unfold kkX10_middleByTaking; omega, fun _ => ⟨hk, fun g1 eg => ?_, by unfold kkX10_middleByTaking; omega⟩⟩, ⟨ho.2, fun v2 ev _ => (wd _ (by rw [ev]; exact kk_uu)).1⟩, ?_⟩
    · rw [e9, eg]; exact hm.1
    · rw [if_pos rfl, if_neg (by decide)]
      refine ⟨⟨qs_uu, fun _ => ?_⟩, rfl⟩
      dsimp only
      rw [(wd _ kk_uu).2 _ hm.2]
      unfold fX4_middleLeft
      dsimp only
      rw [e9]
theorem t_spreadOf (hI : Inv n m v) : oX10_spreadOf 448 p v ∧ oX11_spreadOf 461 p v ∧ OQ v (fX10_spreadOf 448 p v).1 (fX10_spreadOf 448 p v).2 (fX11_spreadOf 461 p v) (cc3 (fX10_spreadOf 448 p v).1) := by
  have ho := ck_o (p := p) hI
  unfold oX10_spreadOf oX11_spreadOf fX10_spreadOf fX11_spreadOf
  rcases chart3 (p := p) hI with ⟨e1, e2⟩ | ⟨e1, e2⟩ | ⟨c, h0, h12, hy, e9, hw, hof, e1, e2⟩
  · rw [e1, e2]
    refine ⟨⟨ho.1, fun q => absurd (show (1 : Nat) = 0 from q) (by decide)⟩, ⟨ho.2, fun v2 _ q => absurd rfl q⟩, ⟨qs_u2, fun q => absurd (show (1 : Nat) = 0 from q) (by decide)⟩⟩
  · rw [e1, e2]
    refine ⟨⟨ho.1, fun q => absurd (show (3 : Nat) = 0 from q) (by decide)⟩, ⟨ho.2, fun v2 _ q => absurd rfl q⟩, ⟨qs_uu, fun q => absurd (show (3 : Nat) = 0 from q) (by decide)⟩⟩
  · have hkd := (needY_o (p := p) hI).2
    rw [needY hI, if_neg hy] at hkd
    have hk := hkd rfl
    obtain ⟨a1, q1, a2, a3, a4⟩ := le_t h12 (v ((((rN (v 448 0)) + 2 + 3) + 31 + p.toNatClampNeg) + 10)) h0
    obtain ⟨b1, q2, b2, b3, b4⟩ := gr_t h12 (v ((((rN (v 448 0)) + 2 + 3) + 31 + p.toNatClampNeg) + 10)) h0
    have r1 : ∀ w : vSt, w 462 = v 462 → oX11_inOrder 461 p (Int32.ofNat 0) w ∧ fX11_inOrder 461 p (Int32.ofNat 0) w = v ((((rN (v 448 0)) + 2 + 3) + 31 + p.toNatClampNeg) + 10) q1 := fun w e => by
      have r := io_t (k := 0) (a := v ((((rN (v 448 0)) + 2 + 3) + 31 + p.toNatClampNeg) + 10) q1) h12 (hof w) (hw w e).1 (hw w e).2
      exact ⟨r.1, r.2 (by omega) (os_first a3 a4)⟩
    have r2 : ∀ w : vSt, w 462 = v 462 → oX11_inOrder 461 p (Int32.ofNat (c - 1)) w ∧ fX11_inOrder 461 p (Int32.ofNat (c - 1)) w = v ((((rN (v 448 0)) + 2 + 3) + 31 + p.toNatClampNeg) + 10) q2 := fun w e => by
      have r := io_t (k := c - 1) (a := v ((((rN (v 448 0)) + 2 + 3) + 31 + p.toNatClampNeg) + 10) q2) h12 (hof w) (hw w e).1 (hw w e).2
      exact ⟨r.1, r.2 (by omega) (os_last b3 b4)⟩
    rw [e1, e2]
    dsimp only
    refine ⟨⟨ho.1, fun _ => ⟨hk, ?_⟩⟩, ⟨ho.2, fun v2 ev _ => ?_⟩, ?_⟩
    · unfold oX4_spread
      rw [e9]
      exact ⟨b1, a1⟩
    · have e : v2 462 = v 462 := by rw [ev]; exact kk_uu
      rw [(hw _ e).1, ofn1' (by omega) h0]
      exact ⟨hof _, (r2 _ e).1, (r1 _ e).1⟩
    · rw [if_pos rfl, if_neg (by decide)]
      refine ⟨qs_uu, fun _ => ?_⟩
      dsimp only
      rw [(hw _ kk_uu).1, ofn1' (by omega) h0, (r2 _ kk_uu).2, show (0 : Int32) = Int32.ofNat 0 from rfl, (r1 _ kk_uu).2]
      unfold fX4_spread
      rw [e9, a2, b2, entry_at (inn_of (show q1 < 12 by omega) (by decide)) (by decide), entry_at (inn_of (show q2 < 12 by omega) (by decide)) (by decide), to_of (by omega), to_of (by omega)]
end T43c
