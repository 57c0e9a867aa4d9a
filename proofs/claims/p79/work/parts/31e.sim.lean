/-! THE PLAIN PART 2e: calibrating performed, days, new tools and blocks. -/
/-- what a change of one block keeps: all else, and its queues' room -/
def PO (b : Nat) (v v' : vSt) : Prop := Fr b v v' ∧ CP v' b ∧ rN (v ((b + 2 + 4)) 4) ≤ rN (v' ((b + 2 + 4)) 4) ∧ rN (v ((b + 2 + 5)) 4) ≤ rN (v' ((b + 2 + 5)) 4)
theorem PO.tr {b : Nat} {v v' v'' : vSt} (h : PO b v v') (h' : PO b v' v'') : PO b v v'' := ⟨h.1.tr h'.1, h'.2.1, Nat.le_trans h.2.2.1 h'.2.2.1, Nat.le_trans h.2.2.2 h'.2.2.2⟩
theorem PO.rf {b : Nat} {v : vSt} (h : CP v b) : PO b v v := ⟨Fr.rf, h, Nat.le_refl _, Nat.le_refl _⟩
theorem PO.of {b : Nat} {v v' : vSt} (h : CP v b) (hf : Fr b v v') (he : v' ((b + 2 + 4)) = v ((b + 2 + 4)) ∧ v' ((b + 2 + 5)) = v ((b + 2 + 5))) : PO b v v' :=
  ⟨hf, h.fr he, by rw [he.1]; exact Nat.le_refl _, by rw [he.2]; exact Nat.le_refl _⟩
theorem kd7 {b : Nat} (h : kd b = 7) : b = 0 ∨ b = 64 ∨ b = 128 ∨ b = 192 ∨ b = 256 ∨ b = 320 ∨ b = 384 :=
  (by decide +kernel : ∀ r, r < 470 → kd r = 7 → (r = 0 ∨ r = 64 ∨ r = 128 ∨ r = 192 ∨ r = 256 ∨ r = 320 ∨ r = 384)) b (kd_lt (by rw [h]; decide)) h
theorem PO.mono {b : Nat} {v v' : vSt} (hb : kd b = 7) (h : PO b v v') : pot v ≤ pot v' := by
  obtain ⟨hf, -, h1, h2⟩ := h
  unfold pot
  rcases kd7 hb with e | e | e | e | e | e | e <;> subst e <;> simp only [Nat.reduceAdd] at h1 h2
  · rw [hf 70 (by omega), hf 71 (by omega), hf 134 (by omega), hf 135 (by omega), hf 198 (by omega), hf 199 (by omega), hf 262 (by omega), hf 263 (by omega), hf 326 (by omega), hf 327 (by omega), hf 390 (by omega), hf 391 (by omega)]; omega
  · rw [hf 6 (by omega), hf 7 (by omega), hf 134 (by omega), hf 135 (by omega), hf 198 (by omega), hf 199 (by omega), hf 262 (by omega), hf 263 (by omega), hf 326 (by omega), hf 327 (by omega), hf 390 (by omega), hf 391 (by omega)]; omega
  · rw [hf 6 (by omega), hf 7 (by omega), hf 70 (by omega), hf 71 (by omega), hf 198 (by omega), hf 199 (by omega), hf 262 (by omega), hf 263 (by omega), hf 326 (by omega), hf 327 (by omega), hf 390 (by omega), hf 391 (by omega)]; omega
  · rw [hf 6 (by omega), hf 7 (by omega), hf 70 (by omega), hf 71 (by omega), hf 134 (by omega), hf 135 (by omega), hf 262 (by omega), hf 263 (by omega), hf 326 (by omega), hf 327 (by omega), hf 390 (by omega), hf 391 (by omega)]; omega
  · rw [hf 6 (by omega), hf 7 (by omega), hf 70 (by omega), hf 71 (by omega), hf 134 (by omega), hf 135 (by omega), hf 198 (by omega), hf 199 (by omega), hf 326 (by omega), hf 327 (by omega), hf 390 (by omega), hf 391 (by omega)]; omega
  · rw [hf 6 (by omega), hf 7 (by omega), hf 70 (by omega), hf 71 (by omega), hf 134 (by omega), hf 135 (by omega), hf 198 (by omega), hf 199 (by omega), hf 262 (by omega), hf 263 (by omega), hf 390 (by omega), hf 391 (by omega)]; omega
  · rw [hf 6 (by omega), hf 7 (by omega), hf 70 (by omega), hf 71 (by omega), hf 134 (by omega), hf 135 (by omega), hf 198 (by omega), hf 199 (by omega), hf 262 (by omega), hf 263 (by omega), hf 326 (by omega), hf 327 (by omega)]; omega
section C31e
variable {v : vSt} {b : Nat} {A : Ar} {p m len set : Int32}
theorem WF.cg {A' : Ar} (hw : WF A) (e0 : ∀ j, 78 ≤ j → A' j = A j) (ht : ∀ t, t < (A 203).toNatClampNeg → A' (8 * t) = A (8 * t) ∧ A' (8 * t + 3) = A (8 * t + 3)) (h0 : ∀ j, 8 * (A 203).toNatClampNeg ≤ j → j < 48 → A' j = A j) (hB : ∀ i, i < (A 204).toNatClampNeg → A' (48 + 3 * i) = A (48 + 3 * i)) (hB0 : ∀ j, 48 + 3 * (A 204).toNatClampNeg ≤ j → j < 78 → A' j = A j) : WF A' := by
  obtain ⟨c, w2, w3, w4, w5, w6⟩ := hw
  unfold WF WFc WFt WFb WFy WFw WFq WY PV
  rw [e0 203 (by omega), e0 204 (by omega), e0 205 (by omega), e0 206 (by omega), e0 207 (by omega), e0 210 (by omega)]
  refine ⟨c, ⟨fun u hu => ?_, fun j h1 h2 => by rw [h0 j h1 h2]; exact w2.2 j h1 h2⟩, ⟨fun u hu => by rw [hB _ hu]; exact w3.1 u hu, fun j h1 h2 => by rw [hB0 _ h1 h2]; exact w3.2 j h1 h2⟩, ⟨fun u hu => ?_, fun j h1 h2 => by rw [e0 _ (by omega)]; exact w4.2 j h1 h2⟩, fun i hi => ?_, fun i hi => ?_⟩
  · rw [(ht u hu).1, (ht u hu).2]; exact w2.1 u hu
  · rw [e0 _ (by omega), e0 _ (by omega), e0 _ (by omega), e0 _ (by omega), e0 _ (by omega), e0 _ (by omega), e0 _ (by omega), e0 _ (by omega), e0 _ (by omega)]
    obtain ⟨a1, a2, a3, a4, a5, a6, a7, a8, a9, a10⟩ := w4.1 u hu
    exact ⟨a1, a2, a3, a4, a5, a6, a7, a8, a9, fun i hi => by rw [e0 _ (by omega)]; exact a10 i hi⟩
  · rw [e0 _ (by omega)]
    obtain ⟨a, d, x, q1, q2, q3, q4, q5, q6⟩ := w5 i hi
    exact ⟨a, d, x, q1, q2, q3, q4, q5, by rw [e0 _ (by omega)]; exact q6⟩
  · rw [e0 _ (by omega)]
    obtain ⟨a, d, x, q1, q2, q3, q4, q5, q6⟩ := w6 i hi
    exact ⟨a, d, x, q1, q2, q3, q4, q5, by rw [e0 _ (by omega)]; exact q6⟩
theorem sUseB1_o {B : Ar} {set : Int32} {k j : Nat} (h : j ≠ 48 + 3 * k + 1 ∧ j ≠ 48 + 3 * k + 2) : sUseB1 B set k j = B j := by
  unfold sUseB1
  split
  · rw [st_n h.1, st_n h.2]
  · rfl
theorem WF.useB1 {B : Ar} (hw : WF B) {k : Nat} (hk : k < (B 204).toNatClampNeg) : WF (sUseB1 B set k) := by
  have hN := inn_lt hw.1.2.1
  exact hw.cg (fun j hj => sUseB1_o (by omega)) (fun t ht => by have := inn_lt hw.1.1; exact ⟨sUseB1_o (by omega), sUseB1_o (by omega)⟩) (fun j _ hj => sUseB1_o (by omega)) (fun i hi => sUseB1_o (by omega)) (fun j h1 _ => sUseB1_o (by omega))
theorem more9 {y : Int32} : (if -9 < y then y else -9 : Int32) = fX11_more (-9) y := by
  unfold fX11_more
  by_cases h : -9 < y
  · rw [if_pos h, if_neg (Int32.not_le.mpr h)]
  · rw [if_neg h, if_pos (Int32.not_lt.mp h)]
theorem SR.useB1 (hb : kd b = 7) (h : SR v b A) (hw : WF A) {k : Nat} (hk : k < (A 204).toNatClampNeg) (hbt : bt set k = 1) : SR (fX1_useOnce (((b + 1 + 3) + 20 + k)) v) b (sUseB1 A set k) ∧ ∀ q, q ≠ ((b + 1 + 3) + 20 + k) → fX1_useOnce (((b + 1 + 3) + 20 + k)) v q = v q := by
  have hN := inn_lt hw.1.2.1
  have ho : ∀ q, q ≠ ((b + 1 + 3) + 20 + k) → fX1_useOnce (((b + 1 + 3) + 20 + k)) v q = v q := by
    intro q hq
    simp only [fX1_useOnce]
    split
    · rw [u2_r hq, u2_r hq]
    · rw [u2_r hq]
  obtain ⟨a0, a1, a2⟩ := h.2.2.2.1 k hk
  refine ⟨h.setB hb hw (t := k) (by omega) ho (fun j hj => sUseB1_o (by omega)) ?_, ho⟩
  have s0 : sUseB1 A set k (48 + 3 * k) = A (48 + 3 * k) := sUseB1_o (by omega)
  have s1 : sUseB1 A set k (48 + 3 * k + 1) = if A (48 + 3 * k + 2) + 1 - (A (48 + 3 * k + 2) + 1) / 10 * 10 = 0 then fX11_more (-9) (A (48 + 3 * k + 1) - 1) else A (48 + 3 * k + 1) := by
    unfold sUseB1; rw [if_pos hbt, st_s]
  have s2 : sUseB1 A set k (48 + 3 * k + 2) = A (48 + 3 * k + 2) + 1 := by
    unfold sUseB1; rw [if_pos hbt, st_n (by omega), st_s]
  unfold bR
  rw [s0, s1, s2]
  simp only [fX1_useOnce, u2_q, Nat.reduceEqDiff, if_true, if_false, a0, a1, a2, more9]
  by_cases hc : A (48 + 3 * k + 2) + 1 - (A (48 + 3 * k + 2) + 1) / 10 * 10 = 0
  · simp [hc, u2_q, a0, a1, a2]
  · simp [hc, u2_q, a0, a1, a2]
theorem c_useBlocks (hb : kd b = 7) (hset : fX2_stack (b + 1) len v = set) : ∀ (n k : Nat) (w : vSt) (B : Ar), SR w b B → WF B → k ≤ (B 204).toNatClampNeg → (B 204).toNatClampNeg + 1 ≤ n + k →
    olX2_calibrateTool_58 v (b + 1) len n (Int32.ofNat k) w ∧ ∀ (C : Ar), B = sUseBN C set k → (B 204).toNatClampNeg = (C 204).toNatClampNeg → SR (lX2_calibrateTool_58 v (b + 1) len n (Int32.ofNat k) w) b (sUseBN C set ((C 204).toNatClampNeg)) ∧ WF (sUseBN C set ((C 204).toNatClampNeg)) ∧ Fr b w (lX2_calibrateTool_58 v (b + 1) len n (Int32.ofNat k) w) ∧ (lX2_calibrateTool_58 v (b + 1) len n (Int32.ofNat k) w ((b + 2 + 4)) = w ((b + 2 + 4)) ∧ lX2_calibrateTool_58 v (b + 1) len n (Int32.ofNat k) w ((b + 2 + 5)) = w ((b + 2 + 5))) := by
  intro n
  induction n with
  | zero => intro k w B _ _ h1 h2; omega
  | succ n ih =>
    intro k w B hS hw h1 h2
    have hN := inn_lt hw.1.2.1
    unfold olX2_calibrateTool_58 lX2_calibrateTool_58
    have ofl : (w (b + 1) 3 ≤ Int32.ofNat k) ↔ (B 204).toNatClampNeg ≤ k := by rw [hS.1.2.1]; exact of_le hw.1.2.1.1 (by omega)
    by_cases hk : (B 204).toNatClampNeg ≤ k
    · refine ⟨fun q => absurd (ofl.mpr hk) q, fun C hC hn => ?_⟩
      rw [if_pos (ofl.mpr hk), show (C 204).toNatClampNeg = k by omega, ← hC]
      exact ⟨hS, hw, Fr.rf, rfl, rfl⟩
    · rw [if_neg (mt ofl.mp hk), if_neg (ncap10 (k := k) (by omega)), hset, of_S (by omega), to_of (by omega)]
      by_cases hbt : bt set k = 1
      · have hu := hS.useB1 hb hw (set := set) (k := k) (by omega) hbt
        have e204 : sUseB1 B set k 204 = B 204 := sUseB1_o (by omega)
        have := ih (k + 1) (fX1_useOnce (((b + 1 + 3) + 20 + k)) w) (sUseB1 B set k) hu.1 (hw.useB1 (by omega)) (by rw [e204]; omega) (by rw [e204]; omega)
        have hni : ¬ fX2_isIn set (Int32.ofNat k) = 0 := fun q => isIn_0.mp q hbt
        simp only [if_neg hni]
        refine ⟨fun _ _ => ⟨fun _ => i_in (of_in (n := 10) (by omega) (by decide)).1 (of_in (n := 10) (by omega) (by decide)).2, fun v10 e10 => by rw [e10]; exact this.1⟩, fun C hC hn => ?_⟩
        have := this.2 C (by rw [hC]; rfl) (by rw [e204]; exact hn)
        refine ⟨this.1, this.2.1, ?_, ?_, ?_⟩
        · intro q hq
          rw [this.2.2.1 q hq, hu.2 q (by omega)]
        · rw [this.2.2.2.1, hu.2 _ (by omega)]
        · rw [this.2.2.2.2, hu.2 _ (by omega)]
      · have := ih (k + 1) w (sUseB1 B set k) (by unfold sUseB1; rw [if_neg hbt]; exact hS) (by unfold sUseB1; rw [if_neg hbt]; exact hw) (by unfold sUseB1; rw [if_neg hbt]; omega) (by unfold sUseB1; rw [if_neg hbt]; omega)
        have hni : fX2_isIn set (Int32.ofNat k) = 0 := isIn_0.mpr hbt
        simp only [if_pos hni]
        refine ⟨fun _ _ => ⟨fun q => absurd hni q, fun v10 e10 => by rw [e10]; exact this.1⟩, fun C hC hn => ?_⟩
        exact this.2 C (by rw [hC]; rfl) (by unfold sUseB1; rw [if_neg hbt]; exact hn)
theorem c_learn {t : Nat} {e d : Int32} (hT : tR (v (((b + 1 + 2) + 13 + t))) A t) (hd : d = A 210) : tR (fX8_learn (((b + 1 + 2) + 13 + t)) e d v (((b + 1 + 2) + 13 + t))) (st (st (st A (8 * t + 3) e) (8 * t + 6) 0) (8 * t + 7) (A 210)) t ∧ ∀ q, q ≠ ((b + 1 + 2) + 13 + t) → fX8_learn (((b + 1 + 2) + 13 + t)) e d v q = v q := by
  obtain ⟨a0, a1, a2, a3, a4, a5, a6, a7, a8⟩ := hT
  refine ⟨?_, fun q hq => by simp only [fX8_learn]; rw [u2_r hq, u2_r hq, u2_r hq]⟩
  unfold tR
  simp [fX8_learn, u2_q, st, a0, a1, a2, a4, a5, a6, hd]
theorem c_cal (hb : kd b = 7) (h : SR v b A) (hw : WF A) (hc : CP v b) (hr : fX2_refusalToCalibrate (b + 1) p len v = 0) :
    (fX2_calibrateTool (b + 1) p len v).1 = (sGoCalibrate A p len).1 ∧ SR (fX2_calibrateTool (b + 1) p len v).2 b (sGoCalibrate A p len).2 ∧ PO b v (fX2_calibrateTool (b + 1) p len v).2 ∧ WF (sGoCalibrate A p len).2 ∧ oX2_calibrateTool (b + 1) p len v := by
  have hn := hw.1.2.1
  have hN := inn_lt hn
  rw [c_refC h hw] at hr
  unfold sGoCalibrate at hr ⊢
  by_cases h1 : sIsT A p = 0
  · rw [if_pos h1] at hr; exact rfn1 hr
  rw [if_neg h1] at hr ⊢
  by_cases h2 : fX11_in len 1 15000 = 0
  · rw [if_pos h2] at hr; exact rfn1 hr
  rw [if_neg h2] at hr ⊢
  by_cases h4 : ¬ 0 ≤ sRdC A p.toNatClampNeg len
  · rw [if_neg h4] at hr; exact rfn2 hr
  have h4 : 0 ≤ sRdC A p.toNatClampNeg len := Decidable.not_not.mp h4
  rw [if_pos h4]
  obtain ⟨hT, hk, hp, hlt⟩ := h.tool hw h1
  have hp6 := inn_lt hp
  have hl := in_iff.mp h2
  rw [show (1 : Int32).toInt = 1 from rfl, show (15000 : Int32).toInt = 15000 from rfl] at hl
  have hs0 : ¬ sStack A len = 0 := by
    intro q
    unfold sRdC at h4
    rw [if_pos q] at h4
    exact absurd h4 (by decide)
  have hrd : sRdC A p.toNatClampNeg len = sReading A p.toNatClampNeg 0 (sTruly A (sStack A len)) := by unfold sRdC; rw [if_neg hs0]
  have hcr : fX2_reading (b + 1) (((b + 1 + 2) + 13 + p.toNatClampNeg)) 0 (fX2_trueLengthOf (b + 1) (fX2_stack (b + 1) len v) v) v = sRdC A p.toNatClampNeg len := by
    rw [c_stack h.1.2.1 hn h.2.2.2.1, c_truly h.1.2.1 hn h.2.2.2.1 (stack_in hn), c_reading h.1.2.2.1 (by decide) hk hT, hrd]
  have hrb := (rd_or (A := A) (t := p.toNatClampNeg) (m := 0) (len := sTruly A (sStack A len))).resolve_left (rd_lt.mp (by rw [← hrd]; exact h4))
  rw [← hrd] at hrb
  have hu := h.use hb hw hlt (m := 0) (by decide)
  have hu2 := c_useOn (v := v) (q := ((b + 1 + 2) + 13 + p.toNatClampNeg)) (m := 0) (by decide) hT
  have hd : fX8_useOn (((b + 1 + 2) + 13 + p.toNatClampNeg)) 0 v (b + 1) 5 = sUse A p.toNatClampNeg 0 210 := hu.1.1.2.2.2
  have hle := c_learn (v := fX8_useOn (((b + 1 + 2) + 13 + p.toNatClampNeg)) 0 v) (e := sRdC A p.toNatClampNeg len - len) hu2.1 hd
  have e210 : sUse A p.toNatClampNeg 0 210 = A 210 := sUse_o (by omega)
  have e204 : sUse A p.toNatClampNeg 0 204 = A 204 := sUse_o (by omega)
  have e203 : sUse A p.toNatClampNeg 0 203 = A 203 := sUse_o (by omega)
  rw [e210] at hle
  have hto : ∀ (j : Nat), (j < 8 * p.toNatClampNeg ∨ 8 * p.toNatClampNeg + 8 ≤ j) → st (st (st (sUse A p.toNatClampNeg 0) (8 * p.toNatClampNeg + 3) (sRdC A p.toNatClampNeg len - len)) (8 * p.toNatClampNeg + 6) 0) (8 * p.toNatClampNeg + 7) (A 210) j = sUse A p.toNatClampNeg 0 j := fun j hj => by rw [st_n (by omega), st_n (by omega), st_n (by omega)]
  have hS2 := hu.1.setT hb (hw.use hlt) (t := p.toNatClampNeg) (by omega) hle.2 hto hle.1
  have hW2 : WF (st (st (st (sUse A p.toNatClampNeg 0) (8 * p.toNatClampNeg + 3) (sRdC A p.toNatClampNeg len - len)) (8 * p.toNatClampNeg + 6) 0) (8 * p.toNatClampNeg + 7) (A 210)) := by
    refine (hw.use (m := 0) hlt).setT (t := p.toNatClampNeg) (by rw [e203]; exact hlt) hto ?_
    rw [st_n (by omega), st_n (by omega), st_n (by omega), st_n (show 8 * p.toNatClampNeg + 3 ≠ 8 * p.toNatClampNeg + 7 by omega), st_n (show 8 * p.toNatClampNeg + 3 ≠ 8 * p.toNatClampNeg + 6 by omega), st_s, sUse_1.1, ti_sub (by omega)]
    exact ⟨hk, by omega, by omega⟩
  have h204 : st (st (st (sUse A p.toNatClampNeg 0) (8 * p.toNatClampNeg + 3) (sRdC A p.toNatClampNeg len - len)) (8 * p.toNatClampNeg + 6) 0) (8 * p.toNatClampNeg + 7) (A 210) 204 = A 204 := (hto 204 (by omega)).trans e204
  have hD6 : fX8_learn (((b + 1 + 2) + 13 + p.toNatClampNeg)) (sRdC A p.toNatClampNeg len - len) (fX8_useOn (((b + 1 + 2) + 13 + p.toNatClampNeg)) 0 v (b + 1) 5) (fX8_useOn (((b + 1 + 2) + 13 + p.toNatClampNeg)) 0 v) (b + 1) 3 = A 204 := by rw [hS2.1.2.1, h204]
  have hL := c_useBlocks (v := v) (len := len) hb (c_stack h.1.2.1 hn h.2.2.2.1) ((A 204).toNatClampNeg + 1) 0 _ _ hS2 hW2 (by omega) (by rw [h204]; omega)
  have hL2 := hL.2 (st (st (st (sUse A p.toNatClampNeg 0) (8 * p.toNatClampNeg + 3) (sRdC A p.toNatClampNeg len - len)) (8 * p.toNatClampNeg + 6) 0) (8 * p.toNatClampNeg + 7) (A 210)) rfl rfl
  rw [h204] at hL2
  unfold fX2_calibrateTool
  rw [c_hasTool h.1.1 hw.1.1, if_neg h1]
  simp only []
  rw [hcr, hD6, fu0]
  refine ⟨rfl, hL2.1, PO.of hc ?_ ?_, hL2.2.1, ?_⟩
  · intro q hq
    exact (hL2.2.2.1 q hq).trans ((hle.2 q (by omega)).trans (hu.2 q hq))
  · exact ⟨hL2.2.2.2.1.trans ((hle.2 _ (by omega)).trans (hu2.2 _ (by omega))), hL2.2.2.2.2.trans ((hle.2 _ (by omega)).trans (hu2.2 _ (by omega)))⟩
  · intro _
    refine ⟨i_in hp.1 hp.2, ?_, fun y4 e4 v5 e5 v6 e6 => ?_⟩
    · rw [h.1.1, h.1.2.1]
      have := hw.1.1
      exact ⟨this.1, by omega, hn.1, by omega⟩
    · rw [hcr] at e4
      subst e4 e5 e6
      rw [hD6, fu0]
      exact hL.1
end C31e
