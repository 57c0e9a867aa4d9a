/-! THE PLAIN PART 11e: adding blocks and types, warmth, tolerance. -/
section T40e
variable {n m : Nat} {u v v8 : vSt} {A A' : Ar} {z k p p1 p2 p3 p4 : Int32}
theorem t_addBlock (hI : Inv n m v) : oX10_addBlock 448 p1 p2 v ∧ oX11_addBlock 461 p1 p2 (fX10_addBlock 448 p1 p2 v).2.2 ∧
    OKC n v (fX10_addBlock 448 p1 p2 v).1 (fX10_addBlock 448 p1 p2 v).2.1 (fX10_addBlock 448 p1 p2 v).2.2 (fX11_addBlock 461 p1 p2 (fX10_addBlock 448 p1 p2 v).2.2).1 (fX11_addBlock 461 p1 p2 (fX10_addBlock 448 p1 p2 v).2.2).2 Int32.ofNat := by
  have hN := hI.2.2.2.2.2.1
  have hb := hI.1.1.1
  have hw := hN.2.1
  have hbe : ∀ w : vSt, fX11_begins 461 w 462 = w 462 := fun w => m_begins.1 _ (by decide) (by decide)
  have h203 : v (rN (v 448 0) + 1) 3 = v 462 204 := hN.1.1.2.1
  have h7 := hw.1.2.1
  unfold oX10_addBlock kkX10_addBlock fX10_addBlock oX11_addBlock fX11_addBlock
  rw [in_rng, in_rng, h203]
  simp only [Int32.reduceToNatClampNeg]
  by_cases h1 : fX11_in p1 1 5000 = 0
  · rw [if_pos h1]
    dsimp only
    rw [if_pos h1]
    exact ⟨⟨hb, fun _ => kk36, fun q => absurd h1 q⟩, ⟨m_begins.2.2.2.2, fun v2 e2 q => absurd h1 q⟩, gcR hI (by decide) (by decide)⟩
  by_cases h2 : fX11_in p2 (-3) 3 = 0
  · rw [if_neg h1, if_pos h2]
    dsimp only
    rw [if_neg h1, if_pos h2]
    exact ⟨⟨hb, fun q => absurd q h1, fun _ => ⟨fun _ => kk36, fun q => absurd h2 q⟩⟩, ⟨m_begins.2.2.2.2, fun v2 e2 _ q => absurd h2 q⟩, gcR hI (by decide) (by decide)⟩
  by_cases h3 : ¬ v 462 204 < 10
  · have h6 : v 462 204 = 10 := Int32.toInt_inj.mp (by
      rw [Int32.lt_iff_toInt_lt, show (10 : Int32).toInt = 10 from rfl] at h3
      have := h7.2
      show _ = (10 : Int)
      omega)
    rw [if_neg h1, if_neg h2, if_neg h3]
    dsimp only
    rw [hbe, if_neg h1, if_neg h2, if_pos h6]
    exact ⟨⟨hb, fun q => absurd q h1, fun _ => ⟨fun q => absurd q h2, fun _ => ⟨fun q => absurd q h3, fun _ => kk36⟩⟩⟩, ⟨m_begins.2.2.2.2, fun v2 e2 _ _ => ⟨vL (by decide), fun q => absurd (by rw [e2, hbe]; exact h6) q⟩⟩, gcR hI (by decide) (by decide)⟩
  have h3 := Decidable.not_not.mp h3
  have h36 : inn (v 462 204) 10 := ⟨h7.1, by
    rw [Int32.lt_iff_toInt_lt, show (10 : Int32).toInt = 10 from rfl] at h3
    omega⟩
  have h6 : ¬ v 462 204 = 10 := fun e => by rw [e] at h3; exact absurd h3 (by decide)
  rw [if_neg h1, if_neg h2, if_pos h3]
  obtain ⟨q1, q2, q3, q4, q5, q6⟩ := hI.rec
  have hk := in_iff.mp h1
  rw [show (1 : Int32).toInt = 1 from rfl, show (5000 : Int32).toInt = 5000 from rfl] at hk
  obtain ⟨z1, z2, hP, z4, z5⟩ := c_putBlock (p1 := p1) (p2 := p2) hb q2 hw hN.2.2.1 q3 h36 hk
  have hN6 := inn_lt h36
  have n0 := rn_to h36.1
  have oA : ∀ j, 205 ≤ j → sAddBlock (v 462) p1 p2 j = v 462 j := fun j hj => by unfold sAddBlock; rw [st_n (by omega), st_n (by omega), st_n (by omega)]
  have G := gcS (k := 2) (z := v 462 204) hI (rfc_0 (by have := h36.1; omega)) hP z2 z4 z5 (qv_same hI (oA _ (by omega)) (oA _ (by omega)) (oA _ (by omega)) (oA _ (by omega)))
  have hu := u461 hP hI
  dsimp only
  rw [z1]
  generalize (fX2_putBlock (rN (v 448 0) + 1) p1 p2 (fX10_recordState 448 v)).2 = v10 at *
  have hW : fX11_begins 461 v10 462 = v 462 := by rw [hbe]; exact hu.1
  generalize fX11_begins 461 v10 = W at *
  have hbo : oX11_begins 461 v10 := m_begins.2.2.2.2
  rw [if_neg h1, if_neg h2, hW, if_neg h6]
  have t3 : (3 * v 462 204).toInt = 3 * (v 462 204).toInt := by
    rw [Int32.toInt_mul]
    show Int.bmod (3 * _) _ = _
    rw [Int.bmod_def]
    have := h36.1
    have := h36.2
    omega
  have t48 : (48 + 3 * v 462 204).toInt = 48 + 3 * (v 462 204).toInt := by
    rw [ti_add (by rw [t3, show (48 : Int32).toInt = 48 from rfl]; have := h36.1; have := h36.2; omega), t3]; rfl
  have i0 : (48 + 3 * v 462 204 + 0).toNatClampNeg = 48 + 3 * ((v 462) 204).toNatClampNeg := by
    rw [Int32.add_zero]
    have := rn_to (x := 48 + 3 * v 462 204) (by rw [t48]; have := h36.1; omega)
    omega
  have t49 : (48 + 3 * v 462 204 + 1).toInt = 49 + 3 * (v 462 204).toInt := by
    rw [ti_add (by rw [t48, show (1 : Int32).toInt = 1 from rfl]; have := h36.1; have := h36.2; omega), t48, show (1 : Int32).toInt = 1 from rfl]; omega
  have i1 : (48 + 3 * v 462 204 + 1).toNatClampNeg = 48 + 3 * ((v 462) 204).toNatClampNeg + 1 := by
    have := rn_to (x := 48 + 3 * v 462 204 + 1) (by rw [t49]; have := h36.1; omega)
    omega
  have j0 : inn (48 + 3 * v 462 204 + 0) 3417 := by rw [Int32.add_zero]; exact ⟨by rw [t48]; have := h36.1; omega, by rw [t48]; have := h36.2; omega⟩
  have j1 : inn (48 + 3 * v 462 204 + 1) 3417 := ⟨by rw [t49]; have := h36.1; omega, by rw [t49]; have := h36.2; omega⟩
  have e4 : ∀ X : Ar, ∀ j y, u2 (uA W 462 X) 462 j y = uA W 462 (st X j y) := fun X j y => by rw [w2, uA_s, uu]
  rw [i0, i1]
  have eE : u2 (u2 (u2 W 462 (48 + 3 * ((v 462) 204).toNatClampNeg) p1) 462 (48 + 3 * ((v 462) 204).toNatClampNeg + 1) p2) 462 204 (u2 (u2 W 462 (48 + 3 * ((v 462) 204).toNatClampNeg) p1) 462 (48 + 3 * ((v 462) 204).toNatClampNeg + 1) p2 462 204 + 1) = uA W 462 (sAddBlock (v 462) p1 p2) := by
    rw [w2 (v := W), e4, e4, uA_s, hW]
    unfold sAddBlock
    rw [st_n (show (204 : Nat) ≠ _ by omega), st_n (show (204 : Nat) ≠ _ by omega)]
  rw [eE]
  refine ⟨⟨hb, fun q => absurd q h1, fun _ => ⟨fun q => absurd q h2, fun _ => ⟨fun _ => ⟨q4, ?_, fun v8 e8 => ?_⟩, fun q => absurd h3 q⟩⟩⟩, ⟨hbo, fun v2 e2' _ _ => ⟨vL (by decide), fun _ => ⟨?_, fun v9 e9 => ⟨?_, fun v11 e11 v12 e12 => ?_⟩⟩⟩⟩, G.2⟩
  · unfold kkX10_recordState
    have := hP.mono hb
    omega
  · rw [e8, q2.1.1, q2.1.2.1]
    have a1 := hw.1.1
    have a2 := hw.1.2.1
    exact ⟨a1.1, by omega, a2.1, by omega⟩
  · rw [e2', hW]; exact vL j0
  · rw [e2', hW]; exact vL j1
  · rw [e12, e11, e9, e2', hW, i0, i1, eE]
    exact G.1
theorem t_addType (hI : Inv n m v) : oX10_addType 448 p1 p2 p3 p4 v ∧ oX11_addType 461 p1 p2 p3 p4 (fX10_addType 448 p1 p2 p3 p4 v).2.2 ∧
    OKC n v (fX10_addType 448 p1 p2 p3 p4 v).1 (fX10_addType 448 p1 p2 p3 p4 v).2.1 (fX10_addType 448 p1 p2 p3 p4 v).2.2 (fX11_addType 461 p1 p2 p3 p4 (fX10_addType 448 p1 p2 p3 p4 v).2.2).1 (fX11_addType 461 p1 p2 p3 p4 (fX10_addType 448 p1 p2 p3 p4 v).2.2).2 Int32.ofNat := by
  have hN := hI.2.2.2.2.2.1
  have hb := hI.1.1.1
  have hw := hN.2.1
  have hbe : ∀ w : vSt, fX11_begins 461 w 462 = w 462 := fun w => m_begins.1 _ (by decide) (by decide)
  have h203 : v (rN (v 448 0) + 2) 1 = v 462 205 := hN.1.2.1.1
  have h7 := hw.1.2.2.1
  unfold oX10_addType kkX10_addType fX10_addType oX11_addType fX11_addType
  rw [in_rng, in_rng, in_rng, mat_eq, h203]
  simp only [Int32.reduceToNatClampNeg]
  by_cases h1 : fX11_in p1 100 14000 = 0
  · rw [if_pos h1]
    dsimp only
    rw [if_pos h1]
    exact ⟨⟨fun _ => kk36, fun q => absurd h1 q⟩, ⟨m_begins.2.2.2.2, fun v2 e2 q => absurd h1 q⟩, gcR hI (by decide) (by decide)⟩
  by_cases h2 : fX11_in p2 (-99) 0 = 0
  · rw [if_neg h1, if_pos h2]
    dsimp only
    rw [if_neg h1, if_pos h2]
    exact ⟨⟨fun q => absurd q h1, fun _ => ⟨fun _ => kk36, fun q => absurd h2 q⟩⟩, ⟨m_begins.2.2.2.2, fun v2 e2 _ q => absurd h2 q⟩, gcR hI (by decide) (by decide)⟩
  by_cases h2b : fX11_in p3 0 99 = 0
  · rw [if_neg h1, if_neg h2, if_pos h2b]
    dsimp only
    rw [if_neg h1, if_neg h2, if_pos h2b]
    exact ⟨⟨fun q => absurd q h1, fun _ => ⟨fun q => absurd q h2, fun _ => ⟨fun _ => kk36, fun q => absurd h2b q⟩⟩⟩, ⟨m_begins.2.2.2.2, fun v2 e2 _ _ q => absurd h2b q⟩, gcR hI (by decide) (by decide)⟩
  by_cases h2c : fX11_isMaterial p4 = 0
  · rw [if_neg h1, if_neg h2, if_neg h2b, if_pos h2c]
    dsimp only
    rw [if_neg h1, if_neg h2, if_neg h2b, if_pos h2c]
    exact ⟨⟨fun q => absurd q h1, fun _ => ⟨fun q => absurd q h2, fun _ => ⟨fun q => absurd q h2b, fun _ => ⟨fun _ => kk36, fun q => absurd h2c q⟩⟩⟩⟩, ⟨m_begins.2.2.2.2, fun v2 e2 _ _ _ q => absurd h2c q⟩, gcR hI (by decide) (by decide)⟩
  by_cases h3 : ¬ v 462 205 < 5
  · have h6 : v 462 205 = 5 := Int32.toInt_inj.mp (by
      rw [Int32.lt_iff_toInt_lt, show (5 : Int32).toInt = 5 from rfl] at h3
      have := h7.2
      show _ = (5 : Int)
      omega)
    rw [if_neg h1, if_neg h2, if_neg h2b, if_neg h2c, if_neg h3]
    dsimp only
    rw [hbe, if_neg h1, if_neg h2, if_neg h2b, if_neg h2c, if_pos h6]
    exact ⟨⟨fun q => absurd q h1, fun _ => ⟨fun q => absurd q h2, fun _ => ⟨fun q => absurd q h2b, fun _ => ⟨fun q => absurd q h2c, fun _ => ⟨hb, fun q => absurd q h3, fun _ => kk36⟩⟩⟩⟩⟩, ⟨m_begins.2.2.2.2, fun v2 e2 _ _ _ _ => ⟨vL (by decide), fun q => absurd (by rw [e2, hbe]; exact h6) q⟩⟩, gcR hI (by decide) (by decide)⟩
  have h3 := Decidable.not_not.mp h3
  have h36 : inn (v 462 205) 5 := ⟨h7.1, by
    rw [Int32.lt_iff_toInt_lt, show (5 : Int32).toInt = 5 from rfl] at h3
    omega⟩
  have h6 : ¬ v 462 205 = 5 := fun e => by rw [e] at h3; exact absurd h3 (by decide)
  rw [if_neg h1, if_neg h2, if_neg h2b, if_neg h2c, if_pos h3]
  obtain ⟨q1, q2, q3, q4, q5, q6⟩ := hI.rec
  have hk := in_iff.mp h1
  rw [show (100 : Int32).toInt = 100 from rfl, show (14000 : Int32).toInt = 14000 from rfl] at hk
  have hk2 := in_iff.mp h2
  rw [show (-99 : Int32).toInt = -99 from rfl, show (0 : Int32).toInt = 0 from rfl] at hk2
  have hk3 := in_iff.mp h2b
  rw [show (0 : Int32).toInt = 0 from rfl, show (99 : Int32).toInt = 99 from rfl] at hk3
  obtain ⟨z1, z2, hP, z4, z5, z6⟩ := c_putType (p1 := p1) (p2 := p2) (p3 := p3) (p4 := p4) hb q2 hw hN.2.2.1 q3 h36 hk hk2 ⟨hk3.1, by omega⟩ (mat_in h2c)
  have hN6 := inn_lt h36
  have oA : ∀ j, 206 ≤ j → sAddType (v 462) p1 p2 p3 p4 j = v 462 j := fun j hj => by unfold sAddType; rw [st_n (by omega), st_n (by omega), st_n (by omega), st_n (by omega), st_n (by omega)]
  have G := gcS (k := 2) (z := v 462 205) hI (rfc_0 (by have := h36.1; omega)) hP z2 z4 z5 (qv_same hI (oA _ (by omega)) (oA _ (by omega)) (oA _ (by omega)) (oA _ (by omega)))
  have hu := u461 hP hI
  dsimp only
  rw [q1]
  rw [z1]
  generalize (fX0_putType (rN (v 448 0) + 2) p1 p2 p3 p4 (fX10_recordState 448 v)).2 = v10 at *
  have hW : fX11_begins 461 v10 462 = v 462 := by rw [hbe]; exact hu.1
  generalize fX11_begins 461 v10 = W at *
  have hbo : oX11_begins 461 v10 := m_begins.2.2.2.2
  rw [if_neg h1, if_neg h2, if_neg h2b, if_neg h2c, hW, if_neg h6]
  have e1 : fX11_lays 461 (v 462 205) 0 p1 W = uA W 462 (st (v 462) ((78 + 21 * (((v 462) 205).toNatClampNeg) + 0)) p1) := by rw [m_lays h36 (by decide), hW]; rfl
  have e2 : ∀ X : Ar, fX11_lays 461 (v 462 205) 1 p2 (uA W 462 X) = uA W 462 (st X ((78 + 21 * (((v 462) 205).toNatClampNeg) + 1)) p2) := fun X => by rw [m_lays h36 (by decide), uA_s, uu]; rfl
  have e3 : ∀ X : Ar, fX11_lays 461 (v 462 205) 2 p3 (uA W 462 X) = uA W 462 (st X ((78 + 21 * (((v 462) 205).toNatClampNeg) + 2)) p3) := fun X => by rw [m_lays h36 (by decide), uA_s, uu]; rfl
  have e3b : ∀ X : Ar, fX11_lays 461 (v 462 205) 3 p4 (uA W 462 X) = uA W 462 (st X ((78 + 21 * (((v 462) 205).toNatClampNeg) + 3)) p4) := fun X => by rw [m_lays h36 (by decide), uA_s, uu]; rfl
  have e4 : ∀ X : Ar, ∀ y, u2 (uA W 462 X) 462 205 y = uA W 462 (st X 205 y) := fun X y => by rw [w2, uA_s, uu]
  rw [e1, e2, e3, e3b, e4, uA_s]
  have eE : st (st (st (st (st (v 462) ((78 + 21 * (((v 462) 205).toNatClampNeg) + 0)) p1) ((78 + 21 * (((v 462) 205).toNatClampNeg) + 1)) p2) ((78 + 21 * (((v 462) 205).toNatClampNeg) + 2)) p3) ((78 + 21 * (((v 462) 205).toNatClampNeg) + 3)) p4) 205 (st (st (st (st (v 462) ((78 + 21 * (((v 462) 205).toNatClampNeg) + 0)) p1) ((78 + 21 * (((v 462) 205).toNatClampNeg) + 1)) p2) ((78 + 21 * (((v 462) 205).toNatClampNeg) + 2)) p3) ((78 + 21 * (((v 462) 205).toNatClampNeg) + 3)) p4 205 + 1) = sAddType (v 462) p1 p2 p3 p4 := by
    unfold sAddType
    rw [st_n (show (205 : Nat) ≠ _ by omega), st_n (show (205 : Nat) ≠ _ by omega), st_n (show (205 : Nat) ≠ _ by omega), st_n (show (205 : Nat) ≠ _ by omega)]
  rw [eE]
  refine ⟨⟨fun q => absurd q h1, fun _ => ⟨fun q => absurd q h2, fun _ => ⟨fun q => absurd q h2b, fun _ => ⟨fun q => absurd q h2c, fun _ => ⟨hb, fun _ => ⟨q4, ?_, fun v8 e8 => ?_⟩, fun q => absurd h3 q⟩⟩⟩⟩⟩, ⟨hbo, fun v2 e2' _ _ _ _ => ⟨vL (by decide), fun _ => ⟨mo_lays ?_ (by decide), fun v9 e9 => ⟨mo_lays ?_ (by decide), fun v11 e11 => ⟨mo_lays ?_ (by decide), fun v14 e14 => ⟨mo_lays ?_ (by decide), fun v15 e15 v16 e16 => ?_⟩⟩⟩⟩⟩⟩, G.2⟩
  · unfold kkX10_recordState
    have := hP.mono hb
    omega
  · rw [e8, q1]
    exact ⟨hb, z6⟩
  · rw [e2', hW]; exact h36
  · rw [e2', hW]; exact h36
  · rw [e2', hW]; exact h36
  · rw [e2', hW]; exact h36
  · rw [e16, e15, e14, e11, e9, e2', hW, e1, e2, e3, e3b, e4, uA_s, eE]
    exact G.1
theorem t_setWarmth (hI : Inv n m v) : oX10_setWarmth 448 p1 v ∧ oX11_setWarmth 461 p1 (fX10_setWarmth 448 p1 v).2.2 ∧
    OKC n v (fX10_setWarmth 448 p1 v).1 (fX10_setWarmth 448 p1 v).2.1 (fX10_setWarmth 448 p1 v).2.2 (fX11_setWarmth 461 p1 (fX10_setWarmth 448 p1 v).2.2).1 (fX11_setWarmth 461 p1 (fX10_setWarmth 448 p1 v).2.2).2 Int32.ofNat := by
  have hN := hI.2.2.2.2.2.1
  have hb := hI.1.1.1
  have hw := hN.2.1
  have hbe : ∀ w : vSt, fX11_begins 461 w 462 = w 462 := fun w => m_begins.1 _ (by decide) (by decide)
  unfold oX10_setWarmth kkX10_setWarmth fX10_setWarmth oX11_setWarmth fX11_setWarmth
  rw [in_rng]
  simp only [Int32.reduceToNatClampNeg]
  by_cases h1 : fX11_in p1 (-10) 50 = 0
  · rw [if_pos h1]
    dsimp only
    rw [if_pos h1]
    exact ⟨⟨fun _ => kk36, fun q => absurd h1 q⟩, ⟨m_begins.2.2.2.2, fun v2 e2 q => absurd h1 q⟩, gcR hI (by decide) (by decide)⟩
  rw [if_neg h1]
  obtain ⟨q1, q2, q3, q4, q5, q6⟩ := hI.rec
  have hk := in_iff.mp h1
  rw [show (-10 : Int32).toInt = -10 from rfl, show (50 : Int32).toInt = 50 from rfl] at hk
  obtain ⟨z2, hP⟩ := (SR.hdr (x := p1) hb q2 hw (f := 4) (j := 208) (Or.inl ⟨rfl, rfl⟩)).resolve_right (fun h => h q3)
  have z4 := hw.hdr (x := p1) (j := 208) (Or.inl rfl)
  have z5 : AC (st (v 462) 208 p1) := by
    show WFa _
    unfold WFa
    rw [st_n (by omega), st_n (by omega), st_n (by omega), st_n (by omega), st_n (by omega), st_n (by omega)]
    exact hN.2.2.1
  have hT := hN.2.2.2.2
  have hQ : QVp (n + 1) m v (st (v 462) 208 p1) := by
    obtain ⟨_, _, _, _, ⟨_, x4, x5, _⟩, hN, _⟩ := hI
    exact ⟨QB.step hN.2.2.2.1 x4 x5 (by rw [st_n (by omega)]; omega) (by rw [st_n (by omega), st_n (by omega)]; omega), by
      unfold WT
      rw [st_s, st_n (by omega)]
      exact ⟨hk, hT.2⟩⟩
  have G := gcS (k := 2) (z := v 462 208) hI (rfc_0 (by have := hT.1.1; omega)) hP z2 z4 z5 hQ
  have hu := u461 hP hI
  have e8 : fX10_recordState 448 v (rN (v 448 0) + 1) 4 = v 462 208 := q2.1.2.2.1
  dsimp only
  rw [q1, e8]
  generalize u2 (fX10_recordState 448 v) (rN (v 448 0) + 1) 4 p1 = v10 at *
  have hW : fX11_begins 461 v10 462 = v 462 := by rw [hbe]; exact hu.1
  generalize fX11_begins 461 v10 = W at *
  have hbo : oX11_begins 461 v10 := m_begins.2.2.2.2
  have eE : u2 W 462 208 p1 = uA W 462 (st (v 462) 208 p1) := by rw [w2, hW]
  rw [if_neg h1, hW, eE]
  refine ⟨⟨fun q => absurd q h1, fun _ => ⟨q4, ?_, fun v8 e8 => by rw [e8, q1]; exact hb⟩⟩, ⟨hbo, fun v2 e2' _ => ⟨vL (by decide), fun v5 e5 => ?_⟩⟩, G.2⟩
  · unfold kkX10_recordState
    have := hP.mono hb
    omega
  · rw [e5, e2', hW, eE]
    exact G.1
theorem t_setTolerance (hI : Inv n m v) : oX10_setTolerance 448 p1 v ∧ oX11_setTolerance 461 p1 (fX10_setTolerance 448 p1 v).2.2 ∧
    OKC n v (fX10_setTolerance 448 p1 v).1 (fX10_setTolerance 448 p1 v).2.1 (fX10_setTolerance 448 p1 v).2.2 (fX11_setTolerance 461 p1 (fX10_setTolerance 448 p1 v).2.2).1 (fX11_setTolerance 461 p1 (fX10_setTolerance 448 p1 v).2.2).2 Int32.ofNat := by
  have hN := hI.2.2.2.2.2.1
  have hb := hI.1.1.1
  have hw := hN.2.1
  have hbe : ∀ w : vSt, fX11_begins 461 w 462 = w 462 := fun w => m_begins.1 _ (by decide) (by decide)
  unfold oX10_setTolerance kkX10_setTolerance fX10_setTolerance oX11_setTolerance fX11_setTolerance
  rw [in_rng]
  simp only [Int32.reduceToNatClampNeg]
  by_cases h1 : fX11_in p1 0 99 = 0
  · rw [if_pos h1]
    dsimp only
    rw [if_pos h1]
    exact ⟨⟨fun _ => kk36, fun q => absurd h1 q⟩, ⟨m_begins.2.2.2.2, fun v2 e2 q => absurd h1 q⟩, gcR hI (by decide) (by decide)⟩
  rw [if_neg h1]
  obtain ⟨q1, q2, q3, q4, q5, q6⟩ := hI.rec
  have hk := in_iff.mp h1
  rw [show (0 : Int32).toInt = 0 from rfl, show (99 : Int32).toInt = 99 from rfl] at hk
  have z2 := SR.acc (y := p1) hb q2 hw (f := 4) (j := 209) (Or.inl ⟨rfl, rfl⟩)
  have hP := PO.acc (f := 4) (y := p1) q3
  have z4 := hw.acc (y := p1) (j := 209) (Or.inl rfl)
  have z5 : AC (st (v 462) 209 p1) := by
    show WFa _
    unfold WFa
    rw [st_n (by omega), st_n (by omega), st_n (by omega), st_n (by omega), st_n (by omega), st_n (by omega)]
    exact hN.2.2.1
  have hT := hN.2.2.2.2
  have hQ : QVp (n + 1) m v (st (v 462) 209 p1) := by
    obtain ⟨_, _, _, _, ⟨_, x4, x5, _⟩, hN, _⟩ := hI
    exact ⟨QB.step hN.2.2.2.1 x4 x5 (by rw [st_n (by omega)]; omega) (by rw [st_n (by omega), st_n (by omega)]; omega), by
      unfold WT
      rw [st_s, st_n (by omega)]
      exact ⟨hT.1, hk⟩⟩
  have G := gcS (k := 2) (z := v 462 209) hI (rfc_0 (by have := hT.2.1; omega)) hP z2 z4 z5 hQ
  have hu := u461 hP hI
  have e8 : fX10_recordState 448 v (rN (v 448 0) + 2) 4 = v 462 209 := q2.2.1.2.1
  dsimp only
  rw [q1, e8]
  generalize u2 (fX10_recordState 448 v) (rN (v 448 0) + 2) 4 p1 = v10 at *
  have hW : fX11_begins 461 v10 462 = v 462 := by rw [hbe]; exact hu.1
  generalize fX11_begins 461 v10 = W at *
  have hbo : oX11_begins 461 v10 := m_begins.2.2.2.2
  have eE : u2 W 462 209 p1 = uA W 462 (st (v 462) 209 p1) := by rw [w2, hW]
  rw [if_neg h1, hW, eE]
  refine ⟨⟨fun q => absurd q h1, fun _ => ⟨q4, ?_, fun v8 e8 => by rw [e8, q1]; exact hb⟩⟩, ⟨hbo, fun v2 e2' _ => ⟨vL (by decide), fun v5 e5 => ?_⟩⟩, G.2⟩
  · unfold kkX10_recordState
    have := hP.mono hb
    omega
  · rw [e5, e2', hW, eE]
    exact G.1
end T40e
