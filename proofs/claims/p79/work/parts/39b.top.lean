/-! THE PLAIN PART 10b: the class's record. -/
section T39b
variable {v : vSt} {A : Ar}
theorem rN_on {n : Nat} (h : n < 470) : rN (Int32.ofNat n) = n := to_of (by omega)
theorem drop_f (hr : ∀ i, i < 4 → rN (v 449 i) < 470) : ∃ w, w = lX10_dropOldestState_9 4 1 v ∧ (∀ q, q ≠ 449 → w q = v q) ∧ (∀ i, i < 3 → rN (w 449 i) = rN (v 449 (i + 1))) ∧ ((∀ i, i < 4 → kd (rN (v 449 i)) = 7) → olX10_dropOldestState_9 4 1 v) := by
  have e : lX10_dropOldestState_9 4 1 v = u2 (u2 (u2 v 449 0 (Int32.ofNat (rN (v 449 1)))) 449 1 (Int32.ofNat (rN (v 449 2)))) 449 2 (Int32.ofNat (rN (v 449 3))) := by
    unfold lX10_dropOldestState_9
    rw [if_neg (by decide)]
    unfold lX10_dropOldestState_9
    rw [if_neg (by decide)]
    unfold lX10_dropOldestState_9
    rw [if_neg (by decide)]
    unfold lX10_dropOldestState_9
    rw [if_pos (by decide)]
    rfl
  refine ⟨_, rfl, fun q hq => ?_, fun i hi => ?_, fun hk => ?_⟩
  · rw [e, u2_r hq, u2_r hq, u2_r hq]
  · have hi : i = 0 ∨ i = 1 ∨ i = 2 := by omega
    rw [e]
    simp only [u2_q]
    rcases hi with rfl | rfl | rfl
    · simp [rN_on (hr 1 (by omega))]
    · simp [rN_on (hr 2 (by omega))]
    · simp [rN_on (hr 3 (by omega))]
  · have k1 : kd (rN (v 449 1)) = 7 := hk 1 (by omega)
    have k2 : kd (rN (v 449 2)) = 7 := hk 2 (by omega)
    have k3 : kd (rN (v 449 3)) = 7 := hk 3 (by omega)
    unfold olX10_dropOldestState_9
    refine fun _ => ⟨i_in (by decide) (by decide), k1, i_in (by decide) (by decide), fun w1 e1 => ?_⟩
    unfold olX10_dropOldestState_9
    refine fun _ => ⟨i_in (by decide) (by decide), ?_, i_in (by decide) (by decide), fun w2 e2 => ?_⟩
    · rw [e1]; exact k2
    unfold olX10_dropOldestState_9
    refine fun _ => ⟨i_in (by decide) (by decide), ?_, i_in (by decide) (by decide), fun w3 e3 => ?_⟩
    · rw [e2, e1]; exact k3
    unfold olX10_dropOldestState_9
    exact fun q => absurd (by decide) q
theorem c_recT {v1 : vSt} {d : Nat} (hC : ∀ b, kd b = 7 → CP v b) (hA : ∀ q, q ≠ 448 → q ≠ 449 → v1 q = v q) (h8 : ∀ f, f ≠ 2 → v1 448 f = v 448 f) (hd : kd d = 7) (hn : kd (rN (v 448 0)) = 7) (hdn : d ≠ rN (v 448 0)) (h : SR v (rN (v 448 0)) A) (hw : WF A) :
    (∀ q, q ≠ 448 → (q < d ∨ d + 64 ≤ q) → u2 (fX7_copyFrom d (rN (v1 448 0)) v1) 448 2 (fX7_copyFrom d (rN (v1 448 0)) v1 448 2 + 1) q = v1 q) ∧ (∀ f, f ≠ 2 → u2 (fX7_copyFrom d (rN (v1 448 0)) v1) 448 2 (fX7_copyFrom d (rN (v1 448 0)) v1 448 2 + 1) 448 f = v 448 f) ∧
    u2 (fX7_copyFrom d (rN (v1 448 0)) v1) 448 2 (fX7_copyFrom d (rN (v1 448 0)) v1 448 2 + 1) 448 2 = v1 448 2 + 1 ∧
    CP (u2 (fX7_copyFrom d (rN (v1 448 0)) v1) 448 2 (fX7_copyFrom d (rN (v1 448 0)) v1 448 2 + 1)) d ∧ pot v ≤ pot (u2 (fX7_copyFrom d (rN (v1 448 0)) v1) 448 2 (fX7_copyFrom d (rN (v1 448 0)) v1 448 2 + 1)) ∧ SR (u2 (fX7_copyFrom d (rN (v1 448 0)) v1) 448 2 (fX7_copyFrom d (rN (v1 448 0)) v1 448 2 + 1)) d A ∧
    oX7_copyFrom d (rN (v1 448 0)) v1 ∧ kkX7_copyFrom d (rN (v1 448 0)) v1 ≤ pot (u2 (fX7_copyFrom d (rN (v1 448 0)) v1) 448 2 (fX7_copyFrom d (rN (v1 448 0)) v1 448 2 + 1)) - pot v := by
  rw [h8 0 (by decide)]
  have ld := kd_lt7 hd
  have ln := kd_lt7 hn
  have h7d := kd7 hd
  have h7n := kd7 hn
  have hbl : ∀ b, kd b = 7 → ∀ q, b ≤ q → q < b + 64 → v1 q = v q := fun b hb q h1 h2 => by have := kd7 hb; exact hA q (by omega) (by omega)
  have hS1 : SR v1 (rN (v 448 0)) A := h.fr hn (hbl _ hn) ⟨hw.1.1, hw.1.2.1, hw.1.2.2.1⟩
  have hC1 : ∀ b, kd b = 7 → CP v1 b := fun b hb => (hC b hb).fr ⟨hbl b hb _ (by omega) (by omega), hbl b hb _ (by omega) (by omega)⟩
  obtain ⟨c1, c2, c3⟩ := c_copy hd hn hdn hS1 hw (hC1 _ hd) (hC1 _ hn)
  have c448 : fX7_copyFrom d (rN (v 448 0)) v1 448 = v1 448 := c2.1 448 (by omega)
  have hf : ∀ q, q ≠ 448 → u2 (fX7_copyFrom d (rN (v 448 0)) v1) 448 2 (fX7_copyFrom d (rN (v 448 0)) v1 448 2 + 1) q = fX7_copyFrom d (rN (v 448 0)) v1 q := fun q hq => u2_r hq
  have p1 : pot v1 = pot v := pot_cg (fun q hq => by rw [hA q (fun e => by rw [e] at hq; exact absurd hq (by decide)) (fun e => by rw [e] at hq; exact absurd hq (by decide))])
  have p2 : pot (u2 (fX7_copyFrom d (rN (v 448 0)) v1) 448 2 (fX7_copyFrom d (rN (v 448 0)) v1 448 2 + 1)) = pot (fX7_copyFrom d (rN (v 448 0)) v1) := pot_cg (fun q hq => by rw [hf q (fun e => by rw [e] at hq; exact absurd hq (by decide))])
  have p3 := c2.mono hd
  refine ⟨fun q h1 h2 => by rw [hf q h1, c2.1 q h2], fun f hf2 => by rw [u2_q, if_neg hf2, c448, h8 f hf2], by rw [u2_s, c448], c2.2.1.fr ⟨hf _ (by omega), hf _ (by omega)⟩, by omega, c1.fr hd (fun q h1 h2 => hf q (by omega)) ⟨hw.1.1, hw.1.2.1, hw.1.2.2.1⟩, c3, ?_⟩
  unfold kkX7_copyFrom
  omega
theorem c_record (hR : RB v) (hC : ∀ b, kd b = 7 → CP v b) (hc : inn (v 448 2) 5) (h : SR v (rN (v 448 0)) A) (hw : WF A) :
    ∃ d, (kd d = 7 ∧ d ≠ 320 ∧ d ≠ rN (v 448 0) ∧ d ≠ rN (v 451 0)) ∧ (∀ q, q ≠ 448 → q ≠ 449 → (q < d ∨ d + 64 ≤ q) → fX10_recordState 448 v q = v q) ∧ (∀ f, f ≠ 2 → fX10_recordState 448 v 448 f = v 448 f) ∧
      CP (fX10_recordState 448 v) d ∧ pot v ≤ pot (fX10_recordState 448 v) ∧ SR (fX10_recordState 448 v) d A ∧
      (v 448 2 = 4 → fX10_recordState 448 v 448 2 = 4 ∧ (∀ i, i < 3 → rN (fX10_recordState 448 v 449 i) = rN (v 449 (i + 1))) ∧ rN (fX10_recordState 448 v 449 3) = rN (v 449 0) ∧ d = rN (v 449 0)) ∧
      (inn (v 448 2) 4 → fX10_recordState 448 v 448 2 = v 448 2 + 1 ∧ fX10_recordState 448 v 449 = v 449 ∧ d = rN (v 449 (v 448 2).toNatClampNeg)) ∧ oX10_recordState 448 v := by
  obtain ⟨⟨n1, n2⟩, ⟨t1, t2⟩, hh, hnt, hhn, hhh⟩ := hR
  have hlt : ∀ i, i < 4 → rN (v 449 i) < 470 := fun i hi => kd_lt (by rw [(hh i hi).1]; decide)
  have ln := kd7 n1
  by_cases h4 : v 448 2 = 4
  · obtain ⟨v4, e4, f1, f2, f3⟩ := drop_f hlt
    have eD : fX10_dropOldestState 448 v = u2 (u2 v4 449 3 (Int32.ofNat (rN (v 449 0)))) 448 2 3 := by
      unfold fX10_dropOldestState
      simp only []
      rw [show (Int32.toInt 4 - Int32.toInt 1).toNat + 1 = 4 from rfl, ← e4]
      rfl
    have hl4 : ¬ v 448 2 < 4 := by rw [h4]; decide
    have d1 : ∀ q, q ≠ 448 → q ≠ 449 → u2 (u2 v4 449 3 (Int32.ofNat (rN (v 449 0)))) 448 2 3 q = v q := fun q h1 h2 => by rw [u2_r h1, u2_r h2, f1 q h2]
    have d2 : ∀ f, f ≠ 2 → u2 (u2 v4 449 3 (Int32.ofNat (rN (v 449 0)))) 448 2 3 448 f = v 448 f := fun f hf => by rw [u2_q, if_neg hf, u2_r (by decide), f1 _ (by decide)]
    have d3 : u2 (u2 v4 449 3 (Int32.ofNat (rN (v 449 0)))) 448 2 3 448 2 = 3 := u2_s
    have d4 : rN (u2 (u2 v4 449 3 (Int32.ofNat (rN (v 449 0)))) 448 2 3 449 3) = rN (v 449 0) := by rw [u2_r (by decide), u2_s, rN_on (hlt 0 (by omega))]
    have d5 : ∀ i, i < 3 → rN (u2 (u2 v4 449 3 (Int32.ofNat (rN (v 449 0)))) 448 2 3 449 i) = rN (v 449 (i + 1)) := fun i hi => by rw [u2_r (by decide), u2_q, if_neg (by omega), f2 i hi]
    have h0 := hh 0 (by omega)
    have h0n := hhn 0 (by omega)
    have l0 := kd7 h0.1
    have T := c_recT (v1 := u2 (u2 v4 449 3 (Int32.ofNat (rN (v 449 0)))) 448 2 3) (d := rN (v 449 0)) hC d1 d2 h0.1 n1 h0n.1 h hw
    have eR : fX10_recordState 448 v = u2 (fX7_copyFrom (rN (v 449 0)) (rN (u2 (u2 v4 449 3 (Int32.ofNat (rN (v 449 0)))) 448 2 3 448 0)) (u2 (u2 v4 449 3 (Int32.ofNat (rN (v 449 0)))) 448 2 3)) 448 2 (fX7_copyFrom (rN (v 449 0)) (rN (u2 (u2 v4 449 3 (Int32.ofNat (rN (v 449 0)))) 448 2 3 448 0)) (u2 (u2 v4 449 3 (Int32.ofNat (rN (v 449 0)))) 448 2 3) 448 2 + 1) := by
      unfold fX10_recordState
      simp only [if_neg hl4, eD]
      rw [d3, show (3 : Int32).toNatClampNeg = 3 from rfl, d4]
    rw [← eR] at T
    obtain ⟨T1, T2, T3, T4, T5, T6, T7, T8⟩ := T
    refine ⟨rN (v 449 0), ⟨h0.1, h0.2, h0n.1, h0n.2⟩, fun q q1 q2 q3 => by rw [T1 q q1 q3, d1 q q1 q2], T2, T4, T5, T6, fun _ => ⟨by rw [T3, d3]; rfl, fun i hi => by rw [T1 449 (by decide) (by omega), d5 i hi], by rw [T1 449 (by decide) (by omega), d4], rfl⟩, fun q => by rw [h4] at q; exact absurd q (by decide), ⟨fun _ => ⟨h0.1, by rw [show (Int32.toInt 4 - Int32.toInt 1).toNat + 1 = 4 from rfl]; exact f3 (fun i hi => (hh i hi).1), fun _ _ => i_in (by decide) (by decide)⟩, fun v1 e1 => ?_⟩⟩
    · rw [if_neg hl4, eD] at e1
      have e1 : v1 = u2 (u2 v4 449 3 (Int32.ofNat (rN (v 449 0)))) 448 2 3 := e1
      rw [e1, d3, show (3 : Int32).toNatClampNeg = 3 from rfl, d4]
      refine ⟨i_in (by decide) (by decide), h0.1, by rw [d2 0 (by decide)]; exact n1, T7, ?_⟩
      unfold kkX10_recordState
      omega
  · have h44 : inn (v 448 2) 4 := ⟨hc.1, by
      have := hc.2
      have : (v 448 2).toInt ≠ 4 := fun e => h4 (Int32.toInt_inj.mp e)
      omega⟩
    have hl := inn_lt h44
    have hl4 : v 448 2 < 4 := by rw [Int32.lt_iff_toInt_lt, show (4 : Int32).toInt = 4 from rfl]; exact h44.2
    have h0 := hh _ hl
    have h0n := hhn _ hl
    have l0 := kd7 h0.1
    have T := c_recT (v1 := v) (d := rN (v 449 (v 448 2).toNatClampNeg)) hC (fun _ _ _ => rfl) (fun _ _ => rfl) h0.1 n1 h0n.1 h hw
    have eR : fX10_recordState 448 v = u2 (fX7_copyFrom (rN (v 449 (v 448 2).toNatClampNeg)) (rN (v 448 0)) v) 448 2 (fX7_copyFrom (rN (v 449 (v 448 2).toNatClampNeg)) (rN (v 448 0)) v 448 2 + 1) := by
      unfold fX10_recordState
      simp only [if_pos hl4]
    rw [← eR] at T
    obtain ⟨T1, T2, T3, T4, T5, T6, T7, T8⟩ := T
    refine ⟨rN (v 449 (v 448 2).toNatClampNeg), ⟨h0.1, h0.2, h0n.1, h0n.2⟩, fun q q1 q2 q3 => T1 q q1 q3, T2, T4, T5, T6, fun q => absurd q h4, fun _ => ⟨T3, T1 449 (by decide) (by omega), rfl⟩, ⟨fun q => absurd hl4 q, fun v1 e1 => ?_⟩⟩
    rw [if_pos hl4] at e1
    rw [e1]
    refine ⟨i_in h44.1 h44.2, h0.1, n1, T7, ?_⟩
    unfold kkX10_recordState
    omega
end T39b
