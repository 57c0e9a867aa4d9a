/-! THE PLAIN PART 14g: throwOut. -/
section T43g
variable {n m : Nat} {v w : vSt} {p : Int32}
theorem t_throwOut (hI : Inv n m v) : oX10_throwOut 448 p v ∧ oX11_throwOut 461 p (fX10_throwOut 448 p v).2.2 ∧
    OKC n v (fX10_throwOut 448 p v).1 (fX10_throwOut 448 p v).2.1 (fX10_throwOut 448 p v).2.2 (fX11_throwOut 461 p (fX10_throwOut 448 p v).2.2).1 (fX11_throwOut 461 p (fX10_throwOut 448 p v).2.2).2 Int32.ofNat ∧
    (sIsY (v 462) p = 0 → (fX10_throwOut 448 p v).1 = 1 ∧ mFa (fX10_throwOut 448 p v).2.2 (fX11_throwOut 461 p (fX10_throwOut 448 p v).2.2).2 1) ∧
    (sIsY (v 462) p ≠ 0 → ∃ c mid, c ≤ 12 ∧ v 462 ((78 + 21 * p.toNatClampNeg + 8)) = Int32.ofNat c ∧ (0 < c → OS (fun j => v 462 ((78 + 21 * p.toNatClampNeg + (9 + j)))) c (c / 2) mid) ∧ (fX10_throwOut 448 p v).1 = 0 ∧
      (fX10_throwOut 448 p v).2.1 = Int32.ofNat (c - (fS ((78 + 21 * p.toNatClampNeg + 9)) (v 462 209) mid (v 462) c).1) ∧ mSu (fX10_throwOut 448 p v).2.2 (fX11_throwOut 461 p (fX10_throwOut 448 p v).2.2).2 (sThrow (v 462) p.toNatClampNeg c (v 462 209) mid)) := by
  have hN := hI.2.2.2.2.2.1
  have hb := hI.1.1.1
  have hw := hN.2.1
  have hbe : ∀ w : vSt, fX11_begins 461 w 462 = w 462 := fun w => m_begins.1 _ (by decide) (by decide)
  have hYo := needY_o (p := p) hI
  unfold oX10_throwOut kkX10_throwOut fX10_throwOut oX11_throwOut fX11_throwOut
  rw [needY hI] at hYo ⊢
  by_cases h1 : sIsY (v 462) p = 0
  · have hf : ∀ w : vSt, w 462 = v 462 → fX11_isType 461 p (fX11_begins 461 w) = 0 := fun w e => by
      show sIsY (fX11_begins 461 w 462) p = 0
      rw [hbe, e]; exact h1
    rw [if_pos h1] at hYo ⊢
    rw [if_neg (show ¬ ((1 : Nat), (0 : Nat)).1 = 0 by decide)]
    dsimp only
    rw [if_pos (hf v rfl)]
    exact ⟨⟨hYo.1, kk36, fun q => absurd (show (1 : Nat) = 0 from q) (by decide)⟩, ⟨m_begins.2.2.2.2, fun v2 e2 => ⟨mo_isType, fun q => absurd (by rw [e2]; exact hf v rfl) q⟩⟩, gcR hI (by decide) (by decide), fun _ => ⟨rfl, m_ref⟩, fun q => absurd h1 q⟩
  rw [if_neg h1] at hYo ⊢
  dsimp only at hYo ⊢
  obtain ⟨q1, q2, q3, q4, q5, q6⟩ := hI.rec
  obtain ⟨c, h12, e9, e8, _, _⟩ := cfacts hI h1
  have hk := isY_in hI.wf.1.2.2.1 h1
  have e209 : fX10_recordState 448 v (rN (v 448 0) + 2) 4 = v 462 209 := q2.2.1.2.1
  have er : fX10_recordState 448 v (rN (fX10_recordState 448 v 448 0) + 2) 4 = v 462 209 := by rw [q1]; exact e209
  rw [er]
  generalize hmid : (fX4_middleInOrder ((((rN (v 448 0)) + 2 + 3) + 31 + p.toNatClampNeg)) (fX10_recordState 448 v)).1 = mid
  obtain ⟨t1, t2, t3, t4, t5, t6⟩ := c_throw (tol := v 462 209) hb q2 hw hk.2 hmid.symm e8 h12
  have hP : PO (rN (v 448 0)) (fX10_recordState 448 v) (fX4_throwOutOfChart ((((rN (v 448 0)) + 2 + 3) + 31 + p.toNatClampNeg)) (v 462 209) (fX10_recordState 448 v)).2 :=
    PO.of q3 (fun q hq => t3 q (by have := hk.2; have := inn_lt hw.1.2.2.1; omega) (by have := hk.2; have := inn_lt hw.1.2.2.1; omega)) ⟨t3 _ (by omega) (by omega), t3 _ (by omega) (by omega)⟩
  have hY5 := inn_lt hw.1.2.2.1
  have hk2 := hk.2
  have z5 : AC (sThrow (v 462) p.toNatClampNeg c (v 462 209) mid) := by
    show WFa _
    unfold WFa
    rw [t6 _ (by omega), t6 _ (by omega), t6 _ (by omega), t6 _ (by omega), t6 _ (by omega), t6 _ (by omega)]
    exact hN.2.2.1
  have hT := hN.2.2.2.2
  have hQ : QVp (n + 1) m v (sThrow (v 462) p.toNatClampNeg c (v 462 209) mid) := by
    obtain ⟨_, _, _, _, ⟨_, x4, x5, _⟩, hN, _⟩ := hI
    exact ⟨QB.step hN.2.2.2.1 x4 x5 (by rw [t6 _ (by omega)]; omega) (by rw [t6 _ (by omega), t6 _ (by omega)]; omega), by
      unfold WT
      rw [t6 _ (by omega), t6 _ (by omega)]
      exact hT⟩
  have hfl := fS_le (s := (78 + 21 * p.toNatClampNeg + 9)) (tol := v 462 209) (mid := mid) (B := v 462) (i := c)
  have G := gcS (k := 2) (z := Int32.ofNat (c - (fS ((78 + 21 * p.toNatClampNeg + 9)) (v 462 209) mid (v 462) c).1)) hI (rfc_0 (by rw [of_ti (by omega)]; omega)) hP t1 t5 z5 hQ
  have hu := u461 hP hI
  have hok : oX4_throwOutOfChart ((((rN (v 448 0)) + 2 + 3) + 31 + p.toNatClampNeg)) (v 462 209) (fX10_recordState 448 v) := t4
  -- the class's middle, in the model's words
  have hmc : ∀ w : vSt, w 462 = v 462 → fX11_of 461 p 8 w = Int32.ofNat c ∧ oX11_middle 461 p w ∧ (0 < c → fX11_middle 461 p w = mid) := fun w e => by
    obtain ⟨c', h12', e9', e8', hw', ho'⟩ := cfacts hI h1
    have ecc : c' = c := by
      rw [e8] at e8'
      have := congrArg Int32.toInt e8'
      rw [of_ti (by omega), of_ti (by omega)] at this
      omega
    rw [ecc] at hw'
    have r := fun a : Int32 => io_t (k := c / 2) (a := a) h12 (ho' w) (hw' w e).1 (hw' w e).2
    refine ⟨(hw' w e).1, ?_, fun h0 => ?_⟩
    · unfold oX11_middle
      rw [(hw' w e).1, half_n (by omega)]
      exact ⟨ho' w, (r 0).1⟩
    · unfold fX11_middle
      rw [(hw' w e).1, half_n (by omega)]
      have hm := mid_c h0 h12 (fX10_recordState 448 v ((((rN (v 448 0)) + 2 + 3) + 31 + p.toNatClampNeg) + 10))
      have e9r : fX10_recordState 448 v ((((rN (v 448 0)) + 2 + 3) + 31 + p.toNatClampNeg)) 9 = Int32.ofNat c := by
        rw [(q2.2.2.2.2.1 _ hk.2).1.2.2.2.2.2.2.2]; exact e8
      have hmid' : mid = fX10_entry 12 (fX4_sort 12 (fX10_recordState 448 v ((((rN (v 448 0)) + 2 + 3) + 31 + p.toNatClampNeg) + 10)) (Int32.ofNat c)) (Int32.ofNat c / 2) := by
        rw [← hmid]
        unfold fX4_middleInOrder
        dsimp only
        rw [e9r]
      rw [← hmid'] at hm
      refine (r mid).2 (by omega) (hm.cg fun j hj => ?_)
      have y1 := (q2.2.2.2.2.1 _ hk.2).2.2 j (by rw [e8, to_of (by omega)]; exact hj)
      have y2 := (hI.sr.2.2.2.2.1 _ hk.2).2.2 j (by rw [e8, to_of (by omega)]; exact hj)
      rw [y1]
      exact y2
  rw [if_pos rfl]
  dsimp only
  generalize hv8 : (fX4_throwOutOfChart ((((rN (v 448 0)) + 2 + 3) + 31 + p.toNatClampNeg)) (v 462 209) (fX10_recordState 448 v)).2 = v8 at *
  have hW : fX11_begins 461 v8 462 = v 462 := by rw [hbe]; exact hu.1
  generalize hWW : fX11_begins 461 v8 = W at *
  have hbo : oX11_begins 461 v8 := m_begins.2.2.2.2
  obtain ⟨m1, m2, m3⟩ := hmc W hW
  have L := th_m (mid := mid) hk.1 h12 m1 m3 (by rw [hW]) ((Int32.toInt (Int32.ofNat c) - Int32.toInt 0).toNat + 1) 0 (by omega) (by rw [of_ti (by omega), show Int32.toInt 0 = 0 from rfl]; omega)
  rw [show fS ((78 + 21 * p.toNatClampNeg + 9)) (v 462 209) mid (W 462) 0 = (0, W 462) from rfl, show Int32.ofNat 0 = (0 : Int32) from rfl, show uA W 462 ((0 : Nat), W 462).2 = W from uI, hW] at L
  have Z := th_z (y0 := (fS ((78 + 21 * p.toNatClampNeg + 9)) (v 462 209) mid (v 462) c).1) (B := (fS ((78 + 21 * p.toNatClampNeg + 9)) (v 462 209) mid (v 462) c).2) hk.1 h12 m1 ((Int32.toInt (Int32.ofNat c) - Int32.toInt (Int32.ofNat (fS ((78 + 21 * p.toNatClampNeg + 9)) (v 462 209) mid (v 462) c).1)).toNat + 1) 0 (by omega) (by rw [of_ti (by omega), of_ti (by omega)]; omega)
  rw [show zF ((78 + 21 * p.toNatClampNeg + 9)) (fS ((78 + 21 * p.toNatClampNeg + 9)) (v 462 209) mid (v 462) c).1 (fS ((78 + 21 * p.toNatClampNeg + 9)) (v 462 209) mid (v 462) c).2 0 = (fS ((78 + 21 * p.toNatClampNeg + 9)) (v 462 209) mid (v 462) c).2 from rfl] at Z
  simp only [Nat.add_zero] at Z
  have hT0 : fX11_isType 461 p W = sIsY (v 462) p := by
    show sIsY (W 462) p = _
    rw [hW]
  have e10 : Int32.ofNat c - Int32.ofNat (fS ((78 + 21 * p.toNatClampNeg + 9)) (v 462 209) mid (v 462) c).1 = Int32.ofNat (c - (fS ((78 + 21 * p.toNatClampNeg + 9)) (v 462 209) mid (v 462) c).1) := by
    apply Int32.toInt_inj.mp
    rw [ti_sub (by rw [of_ti (by omega), of_ti (by omega)]; omega), of_ti (by omega), of_ti (by omega), of_ti (by omega)]
    omega
  have eE : fX11_lays 461 p 8 (Int32.ofNat (fS ((78 + 21 * p.toNatClampNeg + 9)) (v 462 209) mid (v 462) c).1) (uA W 462 (zF ((78 + 21 * p.toNatClampNeg + 9)) (fS ((78 + 21 * p.toNatClampNeg + 9)) (v 462 209) mid (v 462) c).1 (fS ((78 + 21 * p.toNatClampNeg + 9)) (v 462 209) mid (v 462) c).2 (c - (fS ((78 + 21 * p.toNatClampNeg + 9)) (v 462 209) mid (v 462) c).1))) = uA W 462 (sThrow (v 462) p.toNatClampNeg c (v 462 209) mid) := by
    rw [m_lays hk.1 (by decide), uA_s, uu]
    rfl
  rw [hT0, if_neg h1, m1, L.2]
  dsimp only
  rw [Z.2, eE, e10, t2]
  have hMS : mSu v8 (fX11_ends 461 (Int32.ofNat (c - (fS ((78 + 21 * p.toNatClampNeg + 9)) (v 462 209) mid (v 462) c).1)) 2 (uA W 462 (sThrow (v 462) p.toNatClampNeg c (v 462 209) mid))).2 (sThrow (v 462) p.toNatClampNeg c (v 462 209) mid) := by
    obtain ⟨w, e, hm, _⟩ := m_endsS (u := v8) (k := 2) (x := Int32.ofNat (c - (fS ((78 + 21 * p.toNatClampNeg + 9)) (v 462 209) mid (v 462) c).1)) (A' := sThrow (v 462) p.toNatClampNeg c (v 462 209) mid) (by rw [hu.2]; exact hI.2.2.1.2) (rfc_0 (by rw [of_ti (by omega)]; omega))
    rw [hWW] at e
    rw [e]
    exact hm
  have hOS : 0 < c → OS (fun j => v 462 ((78 + 21 * p.toNatClampNeg + (9 + j)))) c (c / 2) mid := fun h0 => by
    have hm := mid_c h0 h12 (fX10_recordState 448 v ((((rN (v 448 0)) + 2 + 3) + 31 + p.toNatClampNeg) + 10))
    have e9r : fX10_recordState 448 v ((((rN (v 448 0)) + 2 + 3) + 31 + p.toNatClampNeg)) 9 = Int32.ofNat c := by
      rw [(q2.2.2.2.2.1 _ hk.2).1.2.2.2.2.2.2.2]; exact e8
    have hmid' : mid = fX10_entry 12 (fX4_sort 12 (fX10_recordState 448 v ((((rN (v 448 0)) + 2 + 3) + 31 + p.toNatClampNeg) + 10)) (Int32.ofNat c)) (Int32.ofNat c / 2) := by
      rw [← hmid]
      unfold fX4_middleInOrder
      dsimp only
      rw [e9r]
    rw [← hmid'] at hm
    exact hm.cg fun j hj => ((q2.2.2.2.2.1 _ hk.2).2.2 j (by rw [e8, to_of (by omega)]; exact hj)).symm
  refine ⟨⟨hYo.1, ?_, fun _ => ⟨hYo.2 rfl, q4, ?_, fun v7 e7 => ⟨by rw [e7, q1]; exact hb, by rw [e7, er]; exact t4, ?_⟩⟩⟩, ⟨hbo, fun v2 e2 => ⟨mo_isType, fun _ => ?_⟩⟩, G.2, fun q => absurd q h1, fun _ => ⟨c, mid, h12, e8, hOS, rfl, rfl, hMS⟩⟩
  · have := hP.mono hb
    omega
  · have := hP.mono hb
    unfold kkX10_recordState
    omega
  · have := hP.mono hb
    unfold kkX10_recordState
    omega
  · rw [e2, m1]
    refine ⟨mo_of hk.1 (by decide), m2, L.1, fun y10 v11 e10' e11 => ?_⟩
    rw [L.2] at e10' e11
    rw [e10', e11]
    refine ⟨Z.1, fun v20 e20 => ⟨mo_lays hk.1 (by decide), fun v24 e24 => ?_⟩⟩
    rw [e24, e20, Z.2, eE, e10]
    exact G.1
end T43g
