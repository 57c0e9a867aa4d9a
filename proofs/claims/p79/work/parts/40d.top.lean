/-! THE PLAIN PART 11d: the other changes: adding, warmth, tolerance. -/
section T40d
variable {n m : Nat} {u v v8 : vSt} {A A' : Ar} {z k p p1 p2 p3 p4 : Int32}
theorem m_ref : mFa u (u2 (fX11_begins 461 u) 461 8 k) k := by
  obtain ⟨w, e, hm, _⟩ := m_endsF (u := u) (x := -100002) (k := k) (Or.inr rfl)
  have : u2 (fX11_begins 461 u) 461 8 k = w := by
    have e2 : fX11_ends 461 (-100002) k (fX11_begins 461 u) = (0, u2 (fX11_begins 461 u) 461 8 k) := by unfold fX11_ends; rw [if_neg (by decide), if_pos rfl]; rfl
    rw [e2] at e
    exact (Prod.mk.inj e).2
  rw [this]
  exact hm
/-- a success, told by what becomes of the model's state -/
theorem gcS (hI : Inv n m v) (hx : rfc z = 0) (hP : PO (rN (v 448 0)) (fX10_recordState 448 v) v8) (hS : SR v8 (rN (v 448 0)) A') (hW : WF A') (hA : AC A') (hQ : QVp (n + 1) m v A') :
    oX11_ends 461 z k (uA (fX11_begins 461 v8) 462 A') ∧ OKC n v 0 z v8 (fX11_ends 461 z k (uA (fX11_begins 461 v8) 462 A')).1 (fX11_ends 461 z k (uA (fX11_begins 461 v8) 462 A')).2 Int32.ofNat := by
  have hu := u461 hP hI
  obtain ⟨w, e, hm, ho⟩ := m_endsS (u := v8) (k := k) (A' := A') (by rw [hu.2]; exact hI.2.2.1.2) hx
  obtain ⟨i1, i2, i3⟩ := hI.change hP hS hW hA hQ hm
  rw [e]
  exact ⟨ho, hiq hP hI, Nat.le_trans i3 (hP.mono hI.1.1.1), hm.pot, hm.2.2.1.2.2, fun _ => rfl, m, i1⟩
/-- a refusal -/
theorem gcR (hI : Inv n m v) {code : Nat} {cc : Nat → Int32} (hc : code ≠ 0) (hk : cc code = k) : OKC n v code z v p (u2 (fX11_begins 461 v) 461 8 k) cc :=
  ⟨fun _ _ => rfl, Nat.le_refl _, (m_ref (u := v) (k := k)).pot, by rw [u2_s, hk], fun q => absurd q hc, m, hI.refused m_ref⟩
theorem kk36 {x : Nat} : 0 + 6 ≤ x - x + 36 := by omega
theorem t_addTool (hI : Inv n m v) : oX10_addTool 448 p1 p2 v ∧ oX11_addTool 461 p1 p2 (fX10_addTool 448 p1 p2 v).2.2 ∧
    OKC n v (fX10_addTool 448 p1 p2 v).1 (fX10_addTool 448 p1 p2 v).2.1 (fX10_addTool 448 p1 p2 v).2.2 (fX11_addTool 461 p1 p2 (fX10_addTool 448 p1 p2 v).2.2).1 (fX11_addTool 461 p1 p2 (fX10_addTool 448 p1 p2 v).2.2).2 Int32.ofNat := by
  have hN := hI.2.2.2.2.2.1
  have hb := hI.1.1.1
  have hw := hN.2.1
  have e5 : (5 : Int32) - 1 = 4 := by decide
  have hbe : ∀ w : vSt, fX11_begins 461 w 462 = w 462 := fun w => m_begins.1 _ (by decide) (by decide)
  have h203 : v (rN (v 448 0) + 1) 2 = v 462 203 := hN.1.1.1
  have h7 := hw.1.1
  unfold oX10_addTool kkX10_addTool fX10_addTool oX11_addTool fX11_addTool
  rw [e5, in_rng, in_rng, h203]
  simp only [Int32.reduceToNatClampNeg]
  by_cases h1 : fX11_in p1 0 4 = 0
  · rw [if_pos h1]
    dsimp only
    rw [if_pos h1]
    exact ⟨⟨hb, fun _ => kk36, fun q => absurd h1 q⟩, ⟨m_begins.2.2.2.2, fun v2 e2 q => absurd h1 q⟩, gcR hI (by decide) (by decide)⟩
  by_cases h2 : fX11_in p2 (-30) 30 = 0
  · rw [if_neg h1, if_pos h2]
    dsimp only
    rw [if_neg h1, if_pos h2]
    exact ⟨⟨hb, fun q => absurd q h1, fun _ => ⟨fun _ => kk36, fun q => absurd h2 q⟩⟩, ⟨m_begins.2.2.2.2, fun v2 e2 _ q => absurd h2 q⟩, gcR hI (by decide) (by decide)⟩
  by_cases h3 : ¬ v 462 203 < 6
  · have h6 : v 462 203 = 6 := Int32.toInt_inj.mp (by
      rw [Int32.lt_iff_toInt_lt, show (6 : Int32).toInt = 6 from rfl] at h3
      have := h7.2
      show _ = (6 : Int)
      omega)
    rw [if_neg h1, if_neg h2, if_neg h3]
    dsimp only
    rw [hbe, if_neg h1, if_neg h2, if_pos h6]
    exact ⟨⟨hb, fun q => absurd q h1, fun _ => ⟨fun q => absurd q h2, fun _ => ⟨fun q => absurd q h3, fun _ => kk36⟩⟩⟩, ⟨m_begins.2.2.2.2, fun v2 e2 _ _ => ⟨vL (by decide), fun q => absurd (by rw [e2, hbe]; exact h6) q⟩⟩, gcR hI (by decide) (by decide)⟩
  have h3 := Decidable.not_not.mp h3
  have h36 : inn (v 462 203) 6 := ⟨h7.1, by
    rw [Int32.lt_iff_toInt_lt, show (6 : Int32).toInt = 6 from rfl] at h3
    omega⟩
  have h6 : ¬ v 462 203 = 6 := fun e => by rw [e] at h3; exact absurd h3 (by decide)
  rw [if_neg h1, if_neg h2, if_pos h3]
  obtain ⟨q1, q2, q3, q4, q5, q6⟩ := hI.rec
  have hk := in_iff.mp h1
  rw [show (0 : Int32).toInt = 0 from rfl, show (4 : Int32).toInt = 4 from rfl] at hk
  have hk5 : inn p1 5 := ⟨hk.1, by omega⟩
  obtain ⟨z1, z2, hP, z4, z5⟩ := c_putTool (p1 := p1) (p2 := p2) hb q2 hw hN.2.2.1 q3 h36 hk5
  have hN6 := inn_lt h36
  have oA : ∀ j, 204 ≤ j → sAddTool (v 462) p1 p2 j = v 462 j := fun j hj => by unfold sAddTool; rw [st_n (by omega), st_n (by omega), st_n (by omega), st_n (by omega)]
  have G := gcS (k := 2) (z := v 462 203) hI (rfc_0 (by have := h36.1; omega)) hP z2 z4 z5 (qv_same hI (oA _ (by omega)) (oA _ (by omega)) (oA _ (by omega)) (oA _ (by omega)))
  have hu := u461 hP hI
  dsimp only
  rw [z1]
  generalize (fX2_putTool (rN (v 448 0) + 1) p1 p2 (fX10_recordState 448 v)).2 = v10 at *
  have hW : fX11_begins 461 v10 462 = v 462 := by rw [hbe]; exact hu.1
  generalize fX11_begins 461 v10 = W at *
  have hbo : oX11_begins 461 v10 := m_begins.2.2.2.2
  rw [if_neg h1, if_neg h2, hW, if_neg h6]
  have e1 : fX11_sets 461 (v 462 203) 0 p1 W = uA W 462 (st (v 462) (8 * ((v 462) 203).toNatClampNeg) p1) := by rw [m_sets h36 (by decide), hW]; rfl
  have e2 : ∀ X : Ar, fX11_sets 461 (v 462 203) 1 p2 (uA W 462 X) = uA W 462 (st X (8 * ((v 462) 203).toNatClampNeg + 1) p2) := fun X => by rw [m_sets h36 (by decide), uA_s, uu]; rfl
  have e3 : ∀ X : Ar, ∀ y, fX11_sets 461 (v 462 203) 7 y (uA W 462 X) = uA W 462 (st X (8 * ((v 462) 203).toNatClampNeg + 7) y) := fun X y => by rw [m_sets h36 (by decide), uA_s, uu]; rfl
  have e4 : ∀ X : Ar, ∀ y, u2 (uA W 462 X) 462 203 y = uA W 462 (st X 203 y) := fun X y => by rw [w2, uA_s, uu]
  have eE : u2 (fX11_sets 461 (v 462 203) 7 (fX11_sets 461 (v 462 203) 1 p2 (fX11_sets 461 (v 462 203) 0 p1 W) 462 210) (fX11_sets 461 (v 462 203) 1 p2 (fX11_sets 461 (v 462 203) 0 p1 W))) 462 203 (fX11_sets 461 (v 462 203) 7 (fX11_sets 461 (v 462 203) 1 p2 (fX11_sets 461 (v 462 203) 0 p1 W) 462 210) (fX11_sets 461 (v 462 203) 1 p2 (fX11_sets 461 (v 462 203) 0 p1 W)) 462 203 + 1) = uA W 462 (sAddTool (v 462) p1 p2) := by
    rw [e1, e2, uA_s, e3, e4, uA_s]
    unfold sAddTool
    rw [st_n (show (210 : Nat) ≠ _ by omega), st_n (show (210 : Nat) ≠ _ by omega), st_n (show (203 : Nat) ≠ _ by omega), st_n (show (203 : Nat) ≠ _ by omega), st_n (show (203 : Nat) ≠ _ by omega)]
  rw [eE]
  refine ⟨⟨hb, fun q => absurd q h1, fun _ => ⟨fun q => absurd q h2, fun _ => ⟨fun _ => ⟨q4, ?_, fun v8 e8 => ?_⟩, fun q => absurd h3 q⟩⟩⟩, ⟨hbo, fun v2 e2' _ _ => ⟨vL (by decide), fun _ => ⟨mo_sets ?_ (by decide), fun v9 e9 => ⟨mo_sets ?_ (by decide), fun v11 e11 => ⟨vL (by decide), mo_sets ?_ (by decide), fun v14 e14 v15 e15 => ?_⟩⟩⟩⟩⟩, G.2⟩
  · unfold kkX10_recordState
    have := hP.mono hb
    omega
  · rw [e8, q2.1.1, q2.1.2.1]
    have a1 := hw.1.1
    have a2 := hw.1.2.1
    exact ⟨a1.1, by omega, a2.1, by omega⟩
  · rw [e2', hW]; exact h36
  · rw [e2', hW]; exact h36
  · rw [e2', hW]; exact h36
  · rw [e15, e14, e11, e9, e2', hW, eE]
    exact G.1
end T40d
