/-! THE PLAIN PART 12g: the best tool. -/
section T41g
variable {n m : Nat} {v w : vSt} {A : Ar} {z k p p2 p3 c y : Int32}
def bF (A : Ar) (t : Nat) : Prop := sReason A t = 0
def bG (A : Ar) (t : Nat) : Int32 := sStep (A (8 * t))
theorem bt_c (hI : Inv n m v) : BR (bF (v 462)) (bG (v 462)) 0 (((v 462) 203).toNatClampNeg) (fX7_bestToolToJudge (rN (v 448 0)) v) := by
  have h7 := hI.wf.1.1
  have hN := inn_lt h7
  have e203 : v (rN (v 448 0) + 1) 2 = v 462 203 := hI.sr.1.1
  have key : ∀ fl k (r s : Int32), k ≤ ((v 462) 203).toNatClampNeg → ((v 462) 203).toNatClampNeg + 1 ≤ fl + k → BR (bF (v 462)) (bG (v 462)) 0 k r → (∀ t, t < k → r = Int32.ofNat t → s = bG (v 462) t) →
      BR (bF (v 462)) (bG (v 462)) 0 (((v 462) 203).toNatClampNeg) (lX7_bestToolToJudge_6 v (rN (v 448 0)) fl (Int32.ofNat k) s r) := by
    intro fl
    induction fl with
    | zero => intro k r s h1 h2; omega
    | succ fl ih =>
      intro k r s h1 h2 hB hs
      unfold lX7_bestToolToJudge_6
      have ofl : v (rN (v 448 0) + 1) 2 ≤ Int32.ofNat k ↔ ((v 462) 203).toNatClampNeg ≤ k := by rw [e203, of_le h7.1 (by omega)]
      by_cases hk : ((v 462) 203).toNatClampNeg ≤ k
      · rw [if_pos (ofl.mpr hk)]
        rw [show ((v 462) 203).toNatClampNeg = k by omega]
        exact hB
      have hk := Nat.lt_of_not_le hk
      have er : fX0_reasonNotToJudge (rN (v 448 0) + 2) (rN (v 448 0) + 1) (rN (v 448 0) + 1 + 2 + 13 + (Int32.ofNat k).toNatClampNeg) v = sReason (v 462) k := by
        rw [to_of (by omega)]
        exact c_reason hI.sr hI.wf hI.cp hk
      have eg : v (rN (v 448 0) + 1 + 2 + 13 + (Int32.ofNat k).toNatClampNeg) 1 = bG (v 462) k := by
        rw [to_of (by omega)]
        exact (hI.sr.2.2.1 k hk).2.1
      rw [if_neg (mt ofl.mp (by omega)), if_neg (ncap6 (k := k) (by omega)), er, eg, of_S (by omega)]
      have hskip : (bF (v 462) k → ∃ t, t < k ∧ r = Int32.ofNat t ∧ (bG (v 462) t).toInt ≤ (bG (v 462) k).toInt) → BR (bF (v 462)) (bG (v 462)) 0 (((v 462) 203).toNatClampNeg) (lX7_bestToolToJudge_6 v (rN (v 448 0)) fl (Int32.ofNat (k + 1)) s r) := fun h =>
        ih (k + 1) r s (by omega) (by omega) (hB.skipR (by omega) h) (fun t q1 q2 => by
          rcases hB with ⟨e, _⟩ | ⟨t', _, t2, t3, _⟩
          · rw [e] at q2
            have h0 : (-1 : Int32).toInt = (t : Int) := by rw [q2, of_ti (by omega)]
            rw [show (-1 : Int32).toInt = -1 from rfl] at h0
            omega
          · have e : (Int32.ofNat t').toNatClampNeg = (Int32.ofNat t).toNatClampNeg := by rw [← t3, ← q2]
            rw [to_of (by omega), to_of (by omega)] at e
            exact hs t (by omega) q2)
      have htake : bF (v 462) k → (∀ t, t < k → r = Int32.ofNat t → (bG (v 462) k).toInt < (bG (v 462) t).toInt) → BR (bF (v 462)) (bG (v 462)) 0 (((v 462) 203).toNatClampNeg) (lX7_bestToolToJudge_6 v (rN (v 448 0)) fl (Int32.ofNat (k + 1)) (bG (v 462) k) (Int32.ofNat k)) := fun hf h =>
        ih (k + 1) (Int32.ofNat k) (bG (v 462) k) (by omega) (by omega) (hB.takeR (by omega) (by omega) hf h) (fun t q1 q2 => by
          have e : (Int32.ofNat k).toNatClampNeg = (Int32.ofNat t).toNatClampNeg := by rw [q2]
          rw [to_of (by omega), to_of (by omega)] at e
          rw [e])
      dsimp only
      rcases hB.neg (by omega) with ⟨hr, e1⟩ | ⟨t, t1, t2, t3, hr⟩
      · rw [if_pos hr, if_neg (by decide)]
        by_cases hq : sReason (v 462) k = 0
        · rw [if_pos hq]
          exact htake hq (fun t q1 q2 => by
            rw [e1] at q2
            have h0 : (-1 : Int32).toInt = (t : Int) := by rw [q2, of_ti (by omega)]
            rw [show (-1 : Int32).toInt = -1 from rfl] at h0
            omega)
        · rw [if_neg hq]
          exact hskip (fun q => absurd q hq)
      · rw [if_neg hr]
        have es := hs t t2 t3
        by_cases hle : s ≤ bG (v 462) k
        · rw [if_pos hle, if_pos rfl]
          exact hskip (fun _ => ⟨t, t2, t3, by rw [← es]; exact i_le hle⟩)
        · rw [if_neg hle, if_neg (by decide)]
          by_cases hq : sReason (v 462) k = 0
          · rw [if_pos hq]
            exact htake hq (fun u q1 q2 => by
              rw [← hs u q1 q2]
              rw [Int32.le_iff_toInt_le] at hle
              omega)
          · rw [if_neg hq]
            exact hskip (fun q => absurd q hq)
  unfold fX7_bestToolToJudge
  dsimp only
  rw [e203, fu0]
  exact key _ 0 (-1) 0 (by omega) (by omega) (Or.inl ⟨rfl, fun t _ q => absurd q (Nat.not_lt_zero _)⟩) (fun t q => absurd q (Nat.not_lt_zero _))
theorem bt_m (hI : Inv n m v) : BR (bF (v 462)) (bG (v 462)) 0 (((v 462) 203).toNatClampNeg) (lX11_bestTool_13 v 461 ((Int32.toInt (v 462 203 - 1)).toNat + 2) (v 462 203 - 1) (-1)) ∧ olX11_bestTool_13 v 461 ((Int32.toInt (v 462 203 - 1)).toNat + 2) (v 462 203 - 1) (-1) := by
  have h7 := hI.wf.1.1
  have hN := inn_lt h7
  have hk5 : v 462 206 ≠ 0 → inn ((fX11_typeOf ((v 462) 183))) 5 := fun h0 => by
    obtain ⟨d, x, q1, q2, _⟩ := hI.wf.fk h0
    exact q2
  have key : ∀ fl k (r : Int32), k ≤ ((v 462) 203).toNatClampNeg → k + 1 ≤ fl → BR (bF (v 462)) (bG (v 462)) k (((v 462) 203).toNatClampNeg) r →
      BR (bF (v 462)) (bG (v 462)) 0 (((v 462) 203).toNatClampNeg) (lX11_bestTool_13 v 461 fl (Int32.ofNat k - 1) r) ∧ olX11_bestTool_13 v 461 fl (Int32.ofNat k - 1) r := by
    intro fl
    induction fl with
    | zero => intro k r h1 h2; omega
    | succ fl ih =>
      intro k r h1 h2 hB
      unfold lX11_bestTool_13 olX11_bestTool_13
      by_cases hk : k = 0
      · subst hk
        rw [if_pos (by decide)]
        exact ⟨hB, fun q => absurd (by decide) q⟩
      obtain ⟨j, rfl⟩ : ∃ j, k = j + 1 := ⟨k - 1, by omega⟩
      have ej : Int32.ofNat (j + 1) - 1 = Int32.ofNat j := by
        refine Int32.toInt_inj.mp ?_
        rw [ti_sub (by rw [of_ti (by omega), show (1 : Int32).toInt = 1 from rfl]; omega), of_ti (by omega), of_ti (by omega), show (1 : Int32).toInt = 1 from rfl]
        omega
      have hneg : ¬ Int32.ofNat j < 0 := by rw [Int32.lt_iff_toInt_lt, of_ti (by omega), show (0 : Int32).toInt = 0 from rfl]; omega
      have hin : ∀ t, t < 6 → inn (Int32.ofNat t) 6 := fun t ht => ⟨by rw [of_ti (by omega)]; omega, by rw [of_ti (by omega)]; omega⟩
      have er : fX11_reasonNot 461 (Int32.ofNat j) v = sReason (v 462) j := by rw [m_reasonNot (hin j (by omega)) hk5, to_of (by omega)]
      have es : ∀ t, t < 6 → fX11_step 461 (Int32.ofNat t) v = bG (v 462) t := fun t ht => by rw [m_step (hin t ht), to_of (by omega)]; rfl
      have em : Int32.ofNat j + (-1) = Int32.ofNat j - 1 := by grind
      rw [ej, if_neg hneg, er, em]
      have hskip : (bF (v 462) j → ∃ t, t < ((v 462) 203).toNatClampNeg ∧ r = Int32.ofNat t ∧ (bG (v 462) t).toInt < (bG (v 462) j).toInt) → _ := fun h => ih j r (by omega) (by omega) (hB.skipL (by omega) h)
      have htake : bF (v 462) j → (∀ t, t < ((v 462) 203).toNatClampNeg → r = Int32.ofNat t → (bG (v 462) j).toInt ≤ (bG (v 462) t).toInt) → _ := fun hf h => ih j (Int32.ofNat j) (by omega) (by omega) (hB.takeL (by omega) hf h)
      have ho1 := mo_reasonNot (hin j (by omega)) hk5
      rcases hB.neg (by omega) with ⟨hr, e1⟩ | ⟨t, t1, t2, t3, hr⟩
      · have g : bF (v 462) j → _ := fun hq => htake hq (fun t q1 q2 => by
            rw [e1] at q2
            have h0 : (-1 : Int32).toInt = (t : Int) := by rw [q2, of_ti (by omega)]
            rw [show (-1 : Int32).toInt = -1 from rfl] at h0
            omega)
        by_cases hq : sReason (v 462) j = 0
        · dsimp only
          rw [if_pos hq, if_pos hr, if_neg (by decide)]
          exact ⟨(g hq).1, fun _ => ⟨ho1, fun _ q => absurd hr q, fun y6 e6 y8 e8 => by rw [e8, e6, if_neg (by decide)]; exact (g hq).2⟩⟩
        · dsimp only
          rw [if_neg hq, if_pos rfl]
          have g := hskip (fun q => absurd q hq)
          exact ⟨g.1, fun _ => ⟨ho1, fun q => absurd q hq, fun y6 e6 y8 e8 => by rw [e8, e6, if_pos rfl]; exact g.2⟩⟩
      · have hs2 : oX11_step 461 (Int32.ofNat j) v ∧ oX11_step 461 r v := ⟨mo_step (hin j (by omega)), by rw [t3]; exact mo_step (hin t (by omega))⟩
        have hst : fX11_step 461 r v = bG (v 462) t := by rw [t3]; exact es t (by omega)
        by_cases hq : sReason (v 462) j = 0
        · dsimp only
          rw [if_pos hq, if_neg hr, hst, es j (by omega)]
          by_cases hlt : bG (v 462) t < bG (v 462) j
          · rw [if_pos hlt, if_pos rfl]
            have g := hskip (fun _ => ⟨t, t2, t3, Int32.lt_iff_toInt_lt.mp hlt⟩)
            exact ⟨g.1, fun _ => ⟨ho1, fun _ _ => hs2, fun y6 e6 y8 e8 => by rw [e8, e6, if_pos rfl]; exact g.2⟩⟩
          · rw [if_neg hlt, if_neg (by decide)]
            have g := htake hq (fun u q1 q2 => by
              have e : (Int32.ofNat t).toNatClampNeg = (Int32.ofNat u).toNatClampNeg := by rw [← t3, ← q2]
              rw [to_of (by omega), to_of (by omega)] at e
              rw [← e]
              rw [Int32.lt_iff_toInt_lt] at hlt
              omega)
            exact ⟨g.1, fun _ => ⟨ho1, fun _ _ => hs2, fun y6 e6 y8 e8 => by rw [e8, e6, if_neg (by decide)]; exact g.2⟩⟩
        · dsimp only
          rw [if_neg hq, if_pos rfl]
          have g := hskip (fun q => absurd q hq)
          exact ⟨g.1, fun _ => ⟨ho1, fun q => absurd q hq, fun y6 e6 y8 e8 => by rw [e8, e6, if_pos rfl]; exact g.2⟩⟩
  have e := key ((Int32.toInt (v 462 203 - 1)).toNat + 2) (((v 462) 203).toNatClampNeg) (-1) (Nat.le_refl _) (by rw [subOne h7.1]; have := rn_to h7.1; omega) (Or.inl ⟨rfl, fun t q1 q2 => absurd q1 (by omega)⟩)
  rw [of_to h7.1] at e
  exact e
theorem t_bestTool (hI : Inv n m v) : oX10_bestTool 448 v ∧ oX11_bestTool 461 v ∧ ((fX10_bestTool 448 v).1 = 0 ∨ (fX10_bestTool 448 v).1 = 3) ∧ OQ v (fX10_bestTool 448 v).1 (fX10_bestTool 448 v).2 (fX11_bestTool 461 v) (cc1 (fX10_bestTool 448 v).1) := by
  have hM := bt_m hI
  have hC := bt_c hI
  have hE := hC.eq hM.1
  have hN := inn_lt hI.wf.1.1
  refine ⟨⟨hI.1.1.1, hhd hI⟩, ⟨vL (by decide), hM.2, fun y4 _ y12 e12 => asks_o ?_⟩, ?_⟩
  · rw [e12]
    split
    · exact Or.inl rfl
    · exact Or.inr rfl
  unfold fX10_bestTool fX11_bestTool
  dsimp only
  rw [show (203 : Int32).toNatClampNeg = 203 from rfl, ← hE]
  generalize fX7_bestToolToJudge (rN (v 448 0)) v = r at *
  rcases hC.neg (by omega) with ⟨hr, e1⟩ | ⟨t, t1, t2, t3, hr⟩
  · have h0 : ¬ 0 ≤ r := by rw [e1]; decide
    rw [if_neg h0, if_pos hr, asks_0 rfl]
    dsimp only
    rw [if_pos rfl]
    exact ⟨Or.inr rfl, qs_u2, fun q => absurd q (by decide)⟩
  · have h0 : 0 ≤ r := by
      rw [Int32.lt_iff_toInt_lt] at hr
      rw [Int32.le_iff_toInt_le]
      omega
    rw [if_pos h0, if_neg hr, asks_1 (by decide)]
    dsimp only
    rw [if_neg (by decide)]
    exact ⟨Or.inl rfl, qs_u2, fun _ => rfl⟩
end T41g
