/-! THE PLAIN PART 17h: the model's run of the text. -/
section T46h
variable {T A A0 : Ar} {len b pos k n m : Nat} {a c p q y : Int32} {u v w W : vSt}
def MIo (T : Ar) (len : Nat) (w : vSt) (A : Ar) (pos : Nat) : Prop := w 461 7 = Int32.ofNat len ∧ w 461 10 = Int32.ofNat pos ∧ w 461 16 = 0 ∧ w 462 = A ∧ w 466 = T
def MEo (w : vSt) (W : Int32 × vSt) (R : Ar × Nat × Nat × Int32 × Int32) : Prop :=
  W.1 = Int32.ofNat R.2.2.1 ∧ W.2 462 = R.1 ∧ W.2 461 16 = R.2.2.2.1 ∧ (R.2.2.2.1 ≠ 0 → W.2 461 17 = R.2.2.2.2 ∧ W.2 461 11 = Int32.ofNat R.2.1) ∧ (∀ q, q ≠ 461 → q ≠ 462 → W.2 q = w q) ∧ (∀ f, f < 10 → W.2 461 f = w 461 f)
theorem rn_m (hb : kd b = 7) (h60 : len ≤ 60) (hT : ∀ i, i < len → 32 ≤ (T i).toInt ∧ (T i).toInt ≤ 126) (hq : RQ T len A0) : ∀ f fl pos k (A : Ar) (w wc : vSt), len ≤ f + pos → f + 1 ≤ fl → k ≤ pos → MIo T len w A pos → CI T b wc A pos k → RI T len A0 A pos →
    olX11_doesAll_12 461 fl (Int32.ofNat k) w ∧ MEo w (lX11_doesAll_12 461 fl (Int32.ofNat k) w) (runP T len f A pos k) := by
  intro f
  induction f with
  | zero =>
    intro fl pos k A w wc h1 h2 h4 hI hC hR
    obtain ⟨fl, rfl⟩ : ∃ g, fl = g + 1 := ⟨fl - 1, by omega⟩
    have hRl := hR.1
    obtain ⟨i1, i2, i3, i4, i5⟩ := hI
    unfold lX11_doesAll_12 olX11_doesAll_12
    have e1 := ofle (k := len) (n := pos) (by omega) (by omega)
    rw [i3, if_pos rfl, i1, i2, if_pos (e1.mpr (by omega))]
    exact ⟨fun _ z => absurd (e1.mpr (by omega)) z, rfl, i4, i3, fun z => absurd rfl z, fun _ _ _ => rfl, fun _ _ => rfl⟩
  | succ f ih =>
    intro fl pos k A w wc h1 h2 h4 hI hC hR
    obtain ⟨fl, rfl⟩ : ∃ g, fl = g + 1 := ⟨fl - 1, by omega⟩
    have hRl := hR.1
    obtain ⟨i1, i2, i3, i4, i5⟩ := hI
    unfold lX11_doesAll_12 olX11_doesAll_12 runP
    have e1 := ofle (k := len) (n := pos) (by omega) (by omega)
    rw [i3, if_pos rfl, i1, i2]
    by_cases hp : len ≤ pos
    · rw [if_pos hp, if_pos (e1.mpr hp)]
      exact ⟨fun _ z => absurd (e1.mpr hp) z, rfl, i4, i3, fun z => absurd rfl z, fun _ _ _ => rfl, fun _ _ => rfl⟩
    have hp := Nat.lt_of_not_le hp
    rw [if_neg (show ¬ len ≤ pos by omega), if_neg (mt e1.mp (by omega))]
    obtain ⟨t0, t1, t2, t3, t4, t5, t6, t7, t8⟩ := m_tO i1 i2 hp h60
    rw [i5] at t3 t4 t6 t7 t8
    dsimp only
    generalize hw8 : fX11_takesOrder 461 w = w8 at *
    have n10 : ¬ (1 : Int32) = 0 := by decide
    have n20 : ¬ (2 : Int32) = 0 := by decide
    have h207 := hR.qq hq
    -- a fault ends the run
    have stop : ∀ (V : vSt) (R : Ar × Nat × Nat × Int32 × Int32), ¬ V 461 16 = 0 → MEo w (Int32.ofNat k, V) R → olX11_doesAll_12 461 fl (Int32.ofNat k) V ∧ MEo w (lX11_doesAll_12 461 fl (Int32.ofNat k) V) R := fun V R hV hE => by
      obtain ⟨fl, rfl⟩ : ∃ g, fl = g + 1 := ⟨fl - 1, by omega⟩
      unfold lX11_doesAll_12 olX11_doesAll_12
      rw [if_neg hV]
      exact ⟨fun z => absurd z hV, hE⟩
    by_cases z : (pE T len pos).1 = true
    · rw [if_pos z] at t4
      obtain ⟨o1, o2, _⟩ := pOk hp z
      have e462 : w8 462 = A := by rw [t1 462 (by decide)]; exact i4
      obtain ⟨d1, d2⟩ := m_do (w := w8) (by rw [e462]; exact hR.2.1) (by rw [e462]; exact h207) (by rw [t6]; exact o1)
      have ee : exO A (lk (T pos)) (w8 461 14) (w8 461 15) = oAt T len A pos := ex_cg (fun q => t7 (by omega)) t8
      rw [e462, t6, ee] at d1
      have e12 : uA w8 462 (oAt T len A pos).2 461 12 = 1 := by rw [uA_n (by decide)]; exact t4
      have n8 : ¬ w8 461 12 = 0 := by rw [t4]; exact n10
      have hc1 : ¬ uA w8 462 (oAt T len A pos).2 461 12 = 0 := by rw [e12]; exact n10
      rw [if_pos z, if_neg n8, d1]
      dsimp only
      rw [if_neg hc1]
      have hEP := ex_ep (k := lk (T pos)) (p := (pN1 T len pos).2) (p2 := (pN2 T len pos).2) hR.2.1
      have hEP : EP (oAt T len A pos) A := hEP
      by_cases hx : rfc (oAt T len A pos).1 = 0
      · have hgt : -100001 < (oAt T len A pos).1 := by
          rcases hEP with ⟨g1 | g1, g2⟩ | g
          · rw [g1] at hx; exact absurd hx (by decide)
          · rw [g1] at hx; exact absurd hx (by decide)
          · rw [Int32.lt_iff_toInt_lt, show Int32.toInt (-100001) = -100001 from rfl]; exact g
        obtain ⟨c1, c2, c3, c4, c5⟩ := c_step hb h60 hT hq hC hR hp (by omega)
        obtain ⟨s1, s2, hC'⟩ : WF (oAt T len A pos).2 ∧ AC (oAt T len A pos).2 ∧ ∃ wc', CI T b wc' (oAt T len A pos).2 (pE T len pos).2 (k + 1) := by
          rcases c5 with ⟨z', _⟩ | ⟨_, _, _, _, g4⟩
          · rw [z] at z'; exact absurd z' (by decide)
          · obtain ⟨y1, y2, y3, y4, y5, y6⟩ := g4 hx
            exact ⟨y2, y3, _, y5⟩
        obtain ⟨wc', hC'⟩ := hC'
        rw [if_pos hx, if_pos hgt, of_S (by omega)]
        dsimp only
        have r := ih fl (pE T len pos).2 (k + 1) (oAt T len A pos).2 (uA w8 462 (oAt T len A pos).2) wc' (by omega) (by omega) (by omega) ⟨by rw [uA_n (by decide), t2 7 (Or.inl (by decide))]; exact i1, by rw [uA_n (by decide)]; exact t3, by rw [uA_n (by decide), t2 16 (Or.inr (by decide))]; exact i3, uA_s, by rw [uA_n (by decide), t1 466 (by decide)]; exact i5⟩ hC' (hR.step hq hp z s1 s2)
        refine ⟨fun _ _ => ⟨t0, fun v8 e8 => ?_⟩, r.2.1, r.2.2.1, r.2.2.2.1, r.2.2.2.2.1, fun q a1 a2 => ?_, fun f hf => ?_⟩
        · rw [e8]
          refine ⟨fun _ => d2, fun y9 v10 e9 e10 => ?_⟩
          rw [if_neg n8, d1] at e9 e10
          rw [e9, e10]
          intro y12 v13 e12' e13'
          dsimp only at e12' e13'
          rw [if_neg hc1, if_pos hgt] at e12' e13'
          rw [e12', e13']
          exact r.1
        · rw [r.2.2.2.2.2.1 q a1 a2, uA_n a2, t1 q a1]
        · rw [r.2.2.2.2.2.2 f hf, uA_n (by decide), t2 f (Or.inl hf)]
      · have hng : ¬ -100001 < (oAt T len A pos).1 := fun g => by
          rw [Int32.lt_iff_toInt_lt, show Int32.toInt (-100001) = -100001 from rfl] at g
          exact hx (rfc_0 g)
        obtain ⟨g1, g2⟩ : ((oAt T len A pos).1 = -100001 ∨ (oAt T len A pos).1 = -100002) ∧ (oAt T len A pos).2 = A := by
          rcases hEP with g | g
          · exact g
          · exact absurd (rfc_0 g) hx
        have erf : rfc (oAt T len A pos).1 = if (oAt T len A pos).1 = -100001 then 1 else 2 := by
          rcases g1 with g | g
          · rw [g]; decide
          · rw [g]; decide
        have eE : uA w8 462 (oAt T len A pos).2 = w8 := by rw [g2, ← e462]; exact uI
        have hc2 : ¬ u2 (uA w8 462 (oAt T len A pos).2) 461 16 2 461 12 = 0 := by rw [u2_q, if_neg (by decide)]; exact hc1
        have MV : MEo w (Int32.ofNat k, u2 (u2 w8 461 16 2) 461 17 (if (oAt T len A pos).1 = -100001 then 1 else 2)) (A, pos, k, 2, rfc (oAt T len A pos).1) := by
          refine ⟨rfl, ?_, ?_, fun _ => ⟨?_, ?_⟩, fun q a1 a2 => ?_, fun f hf => ?_⟩
          · show u2 (u2 w8 461 16 2) 461 17 (if (oAt T len A pos).1 = -100001 then 1 else 2) 462 = A
            rw [u2_r (by decide), u2_r (by decide)]; exact e462
          · show u2 (u2 w8 461 16 2) 461 17 (if (oAt T len A pos).1 = -100001 then 1 else 2) 461 16 = 2
            rw [u2_q, if_neg (by decide), u2_q, if_pos rfl]
          · show u2 (u2 w8 461 16 2) 461 17 (if (oAt T len A pos).1 = -100001 then 1 else 2) 461 17 = rfc (oAt T len A pos).1
            rw [u2_q, if_pos rfl, erf]
          · show u2 (u2 w8 461 16 2) 461 17 (if (oAt T len A pos).1 = -100001 then 1 else 2) 461 11 = Int32.ofNat pos
            rw [u2_q, if_neg (by decide), u2_q, if_neg (by decide)]; exact t5
          · show u2 (u2 w8 461 16 2) 461 17 (if (oAt T len A pos).1 = -100001 then 1 else 2) q = w q
            rw [u2_r a1, u2_r a1]; exact t1 q a1
          · show u2 (u2 w8 461 16 2) 461 17 (if (oAt T len A pos).1 = -100001 then 1 else 2) 461 f = w 461 f
            rw [u2_q, if_neg (by omega), u2_q, if_neg (by omega)]; exact t2 f (Or.inl hf)
        have S := stop _ _ (by rw [u2_q, if_neg (by decide), u2_q, if_pos rfl]; exact n20) MV
        rw [if_neg hx, if_neg hng, if_neg hc1, if_neg hc2, eE]
        refine ⟨fun _ _ => ⟨t0, fun v8 e8 => ?_⟩, S.2⟩
        rw [e8]
        refine ⟨fun _ => d2, fun y9 v10 e9 e10 => ?_⟩
        rw [if_neg n8, d1] at e9 e10
        rw [e9, e10]
        intro y12 v13 e12' e13'
        dsimp only at e12' e13'
        rw [if_neg hc1, if_neg hng, if_neg hc1, if_neg hc2, eE] at e12' e13'
        rw [e12', e13']
        exact S.1
    · have zf := Bool.eq_false_iff.mpr z
      rw [if_neg z] at t4
      have hle := pE_le (T := T) hp
      have esub : Int32.ofNat (pE T len pos).2 - Int32.ofNat pos = Int32.ofNat ((pE T len pos).2 - pos) := by
        apply Int32.toInt_inj.mp
        rw [ti_sub (by rw [of_ti (by omega), of_ti (by omega)]; omega), of_ti (by omega), of_ti (by omega), of_ti (by omega)]
        omega
      have f12 : u2 w8 461 16 1 461 12 = 0 := by rw [u2_q, if_neg (by decide)]; exact t4
      have f10 : u2 w8 461 16 1 461 10 = Int32.ofNat (pE T len pos).2 := by rw [u2_q, if_neg (by decide)]; exact t3
      have f11 : u2 w8 461 16 1 461 11 = Int32.ofNat pos := by rw [u2_q, if_neg (by decide)]; exact t5
      have MV : MEo w (Int32.ofNat k, u2 (u2 w8 461 16 1) 461 17 (Int32.ofNat ((pE T len pos).2 - pos))) (A, pos, k, 1, Int32.ofNat ((pE T len pos).2 - pos)) := by
        refine ⟨rfl, ?_, ?_, fun _ => ⟨?_, ?_⟩, fun q a1 a2 => ?_, fun f hf => ?_⟩
        · show u2 (u2 w8 461 16 1) 461 17 (Int32.ofNat ((pE T len pos).2 - pos)) 462 = A
          rw [u2_r (by decide), u2_r (by decide), t1 462 (by decide)]; exact i4
        · show u2 (u2 w8 461 16 1) 461 17 (Int32.ofNat ((pE T len pos).2 - pos)) 461 16 = 1
          rw [u2_q, if_neg (by decide), u2_q, if_pos rfl]
        · show u2 (u2 w8 461 16 1) 461 17 (Int32.ofNat ((pE T len pos).2 - pos)) 461 17 = Int32.ofNat ((pE T len pos).2 - pos)
          rw [u2_q, if_pos rfl]
        · show u2 (u2 w8 461 16 1) 461 17 (Int32.ofNat ((pE T len pos).2 - pos)) 461 11 = Int32.ofNat pos
          rw [u2_q, if_neg (by decide), u2_q, if_neg (by decide)]; exact t5
        · show u2 (u2 w8 461 16 1) 461 17 (Int32.ofNat ((pE T len pos).2 - pos)) q = w q
          rw [u2_r a1, u2_r a1]; exact t1 q a1
        · show u2 (u2 w8 461 16 1) 461 17 (Int32.ofNat ((pE T len pos).2 - pos)) 461 f = w 461 f
          rw [u2_q, if_neg (by omega), u2_q, if_neg (by omega)]; exact t2 f (Or.inl hf)
      have S := stop _ _ (by rw [u2_q, if_neg (by decide), u2_q, if_pos rfl]; exact n10) MV
      rw [if_neg z, if_pos t4]
      dsimp only
      rw [if_pos t4, if_pos t4, if_pos f12, f10, f11, esub]
      refine ⟨fun _ _ => ⟨t0, fun v8 e8 => ?_⟩, S.2⟩
      rw [e8]
      refine ⟨fun q => absurd t4 q, fun y9 v10 e9 e10 => ?_⟩
      rw [if_pos t4] at e9 e10
      rw [e9, e10]
      intro y12 v13 e12' e13'
      dsimp only at e12' e13'
      rw [if_pos t4, if_pos t4, if_pos f12, f10, f11, esub] at e12' e13'
      rw [e12', e13']
      exact S.1
end T46h
