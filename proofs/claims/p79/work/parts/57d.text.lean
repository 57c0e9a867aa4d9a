/-! P79, PLAIN 11d: what an act of the law leaves; the law reads a text. -/
section T57d
variable {n m N : Nat} {u v w z W V : vSt} {A A' : Ar} {x p y : Int32}
/-- alike in all that the law looks at -/
def LIKE (v w : vSt) : Prop := w 462 = v 462 ∧ w 464 = v 464 ∧ w 465 = v 465 ∧ w 461 3 = v 461 3 ∧ w 461 5 = v 461 5
theorem LIKE.rf : LIKE v v := ⟨rfl, rfl, rfl, rfl, rfl⟩
theorem LIKE.tr (h : LIKE u v) (h' : LIKE v w) : LIKE u w := ⟨h'.1.trans h.1, h'.2.1.trans h.2.1, h'.2.2.1.trans h.2.2.1, h'.2.2.2.1.trans h.2.2.2.1, h'.2.2.2.2.trans h.2.2.2.2⟩
theorem KE.lk (h : KE v w) : LIKE v w := ⟨h.1, h.2.1, h.2.2.1, h.2.2.2 3 (by decide) (by decide), h.2.2.2 5 (by decide) (by decide)⟩
/-- nothing was recorded -/
def SMS (v w : vSt) : Prop := eqA (w 462) (v 462) ∧ w 464 = v 464 ∧ w 465 = v 465 ∧ w 461 3 = v 461 3 ∧ w 461 5 = v 461 5
/-- a change was recorded -/
def RCD (v w : vSt) (A' : Ar) : Prop :=
  w 462 = A' ∧ w 461 3 = v 461 3 ∧ w 464 = v 464 ∧
  (v 461 5 = 4 → w 461 5 = 4 ∧ (∀ i, i < 3 → eqA (sl w i) (sl v (i + 1))) ∧ eqA (sl w 3) (v 462)) ∧
  (inn (v 461 5) 4 → w 461 5 = v 461 5 + 1 ∧ (∀ i, i < (v 461 5).toNatClampNeg → eqA (sl w i) (sl v i)) ∧ eqA (sl w (v 461 5).toNatClampNeg) (v 462))
def OUT (n N : Nat) (v w : vSt) : Prop := pot v ≤ pot w ∧ (∃ m', Inv (n + 25) m' w) ∧ XI (N + 60) (w 462) ∧ XJ (w 462) ∧ (SMS v w ∨ ∃ A', RCD v w A')
theorem SAM.sms (h : SAM v w) : SMS v w := ⟨h.1, h.2.2.1, h.2.2.2.1, h.2.1.1, h.2.1.2.1⟩
theorem LIKE.sms (h : LIKE v w) : SMS v w := ⟨by rw [h.1]; exact eqA.rf, h.2⟩
theorem CHM.rcd (h : CHM v w A') : RCD v w A' := ⟨h.1, h.2.1.1, h.2.2.1, h.2.2.2.2.1, h.2.2.2.2.2⟩
theorem sl_cg {i : Nat} (h : w 465 = v 465) : sl w i = sl v i := by unfold sl; rw [h]
theorem CHM.lk (h : CHM v w A') (a : LIKE u v) (b : LIKE w z) : RCD u z A' := by
  obtain ⟨h1, h2, h3, h4, h5, h6⟩ := h
  have s1 : ∀ i, sl z i = sl w i := fun i => sl_cg b.2.2.1
  have s2 : ∀ i, sl v i = sl u i := fun i => sl_cg a.2.2.1
  refine ⟨b.1.trans h1, (b.2.2.2.1.trans h2.1).trans a.2.2.2.1, (b.2.1.trans h3).trans a.2.1, fun q => ?_, fun q => ?_⟩
  · obtain ⟨c1, c2, c3⟩ := h5 (a.2.2.2.2.trans q)
    refine ⟨b.2.2.2.2.trans c1, fun i hi => ?_, ?_⟩
    · rw [s1, ← s2]; exact c2 i hi
    · rw [s1, ← a.1]; exact c3
  · have q' := q
    rw [← a.2.2.2.2] at q'
    obtain ⟨c1, c2, c3⟩ := h6 q'
    rw [a.2.2.2.2] at c1 c2 c3
    refine ⟨b.2.2.2.2.trans c1, fun i hi => ?_, ?_⟩
    · rw [s1, ← s2]; exact c2 i hi
    · rw [s1, ← a.1]; exact c3
theorem Inv.to {k : Nat} (hI : Inv n m v) (h : n ≤ k) : Inv k m v := by
  have := hI.upTo (k - n)
  rw [show n + (k - n) = k by omega] at this
  exact this
/-- what a change told by STP leaves -/
theorem STP.out {f : Int32 × vSt} {r : Int32 × Ar} (h : STP n v f r) (hX : XI N (v 462)) (hJ : XJ (v 462)) (hw : WF (v 462)) (h1 : XI (N + 1) r.2) (h2 : XJ r.2) : OUT n N v f.2 := by
  obtain ⟨a1, ⟨m', a2⟩, a3, a4⟩ := h
  by_cases hx : rfc r.1 = 0
  · obtain ⟨b1, b2⟩ := a3 hx
    exact ⟨a1, ⟨m', a2.to (by omega)⟩, by rw [b2.1]; exact h1.mono (by omega), by rw [b2.1]; exact h2, Or.inr ⟨_, b2.rcd⟩⟩
  · obtain ⟨b1, b2⟩ := a4 hx
    exact ⟨a1, ⟨m', a2.to (by omega)⟩, (hX.ext hw.w3 b2.1).mono (by omega), hJ.ext hw.1 b2.1, Or.inl b2.sms⟩
/-- a text has been tried, nothing is done -/
def FK (v w : vSt) : Prop := w 462 = v 462 ∧ w 464 = v 464 ∧ w 465 = v 465 ∧ w 466 = v 466 ∧ ∀ f, f < 8 → w 461 f = v 461 f
theorem FK.tr (h : FK u v) (h' : FK v w) : FK u w := ⟨h'.1.trans h.1, h'.2.1.trans h.2.1, h'.2.2.1.trans h.2.2.1, h'.2.2.2.1.trans h.2.2.2.1, fun f hf => (h'.2.2.2.2 f hf).trans (h.2.2.2.2 f hf)⟩
theorem FK.now (h : FK v w) : rNow w = rNow v := by
  unfold rNow TL
  rw [h.1, h.2.2.2.1, h.2.2.2.2 7 (by decide)]
theorem FK.lk (h : FK v w) : LIKE v w := ⟨h.1, h.2.1, h.2.2.1, h.2.2.2.2 3 (by decide), h.2.2.2.2 5 (by decide)⟩
theorem fq_of (hV : ∀ q, 453 ≤ q → V q = v q) (hh : ∀ j, 3417 ≤ j → (rNow v).1 j = v 462 j) (f6 : ∀ q, q ≠ 461 → q ≠ 462 → q ≠ 463 → W q = V q) (f7 : eqA (W 462) (v 462)) (f8 : ∀ f, f < 8 → W 461 f = v 461 f) (f9 : ∀ j, 3417 ≤ j → W 462 j = (rNow v).1 j) : gM V W = W ∧ FK v W := by
  refine ⟨gM_id fun q hq => f6 q (by omega) (by omega) (by omega), funext fun j => ?_, ?_, ?_, ?_, f8⟩
  · by_cases q : j < 3417
    · exact f7 j q
    · rw [f9 j (by omega), hh j (by omega)]
  · rw [f6 _ (by decide) (by decide) (by decide), hV _ (by decide)]
  · rw [f6 _ (by decide) (by decide) (by decide), hV _ (by decide)]
  · rw [f6 _ (by decide) (by decide) (by decide), hV _ (by decide)]
/-- a question upon the fault -/
def FQ (n : Nat) (v : vSt) (f : Int32 × vSt) (z : Int32) : Prop :=
  pot v ≤ pot f.2 ∧ (∃ m', Inv (n + 1) m' f.2) ∧ FK v f.2 ∧ ((rNow v).2.2.2.1 = 0 → f.1 = -100104) ∧ ((rNow v).2.2.2.1 ≠ 0 → f.1 = z)
theorem q_faultPosition (hI : Inv n m v) (hn : n ≤ 3150) (hX : XI N (v 462)) (hJ : XJ (v 462)) (hN : N + 60 < 2 ^ 30) : oL_faultPosition 448 v ∧ FQ n v (fL_faultPosition 448 v) (Int32.ofNat (rNow v).2.1) := by
  obtain ⟨t1, _, t3, _⟩ := t_faultPosition hI hn
  obtain ⟨o9, C, hp, _⟩ := cr_all hI hn
  obtain ⟨f1, f2, f3, f4, f5, f6, f7, f8, f9⟩ := fault_m (p := 0) hI hn C (by decide)
  have hb7 := kd7 hI.1.2.1.1
  obtain ⟨c1, c2, c3, c4, c5, c6, c7, c8, _⟩ := C
  obtain ⟨g1, g2⟩ := fq_of (fun q hq => c3.1 q (by omega) (by omega) (by omega)) (xi_now hI hn hX hJ hN).2.2 f6 f7 f8 f9
  have hk : oL_faultPosition 448 v := by
    refine ⟨t1, ?_, fun h0 v4 _ => t3.resolve_left h0⟩
    unfold kkL_faultPosition fL_faultPosition kkX10_faultPosition
    by_cases h : (fX10_faultPosition 448 v).1 = 0
    · rw [if_pos h]; dsimp only; rw [pot_gM]; omega
    · rw [if_neg h]; dsimp only; rw [pot_gM]; omega
  have h0 : fX10_faultPosition 448 v = if (if fX9_run 451 (rN (v 448 0)) 450 (v 448 6) v 451 4 = 0 then 3 else 0 : Nat) = 0 then ((0, fX9_run 451 (rN (v 448 0)) 450 (v 448 6) v 451 3, fX9_run 451 (rN (v 448 0)) 450 (v 448 6) v)) else ((if fX9_run 451 (rN (v 448 0)) 450 (v 448 6) v 451 4 = 0 then 3 else 0, 0, fX9_run 451 (rN (v 448 0)) 450 (v 448 6) v)) := rfl
  have ew : ∀ V : vSt, (fX11_faultPosition 461 V).2 = (fX11_faultTold 461 0 V).2 := fun V => by
    unfold fX11_faultPosition
    dsimp only
  unfold FQ
  by_cases z : (rNow v).2.2.2.1 = 0
  · rw [c7, if_pos z, if_neg (show ¬ (3 : Nat) = 0 by decide)] at h0
    have e : fL_faultPosition 448 v = (-100104, (fX11_faultTold 461 0 (fX9_run 451 (rN (v 448 0)) 450 (v 448 6) v)).2) := by
      unfold fL_faultPosition
      rw [h0]
      dsimp only
      rw [if_neg (show ¬ (3 : Nat) = 0 by decide), ew, g1]
    rw [e]
    dsimp only
    refine ⟨hk, ?_, ⟨m, f3⟩, g2, fun _ => rfl, fun q => absurd z q⟩
    rw [f2]
    exact hp
  · rw [c7, if_neg z, if_pos (show (0 : Nat) = 0 from rfl)] at h0
    have e : fL_faultPosition 448 v = ((Int32.ofNat (rNow v).2.1), (fX11_faultTold 461 0 (fX9_run 451 (rN (v 448 0)) 450 (v 448 6) v)).2) := by
      unfold fL_faultPosition
      rw [h0]
      dsimp only
      rw [if_pos (show (0 : Nat) = 0 from rfl), ew, g1, c6]
    rw [e]
    dsimp only
    refine ⟨hk, ?_, ⟨m, f3⟩, g2, fun q => absurd q z, fun _ => rfl⟩
    rw [f2]
    exact hp
theorem q_faultReason (hI : Inv n m v) (hn : n ≤ 3150) (hX : XI N (v 462)) (hJ : XJ (v 462)) (hN : N + 60 < 2 ^ 30) : oL_faultReason 448 v ∧ FQ n v (fL_faultReason 448 v) (rNow v).2.2.2.1 := by
  obtain ⟨t1, _, t3, _⟩ := t_faultReason hI hn
  obtain ⟨o9, C, hp, _⟩ := cr_all hI hn
  obtain ⟨f1, f2, f3, f4, f5, f6, f7, f8, f9⟩ := fault_m (p := 1) hI hn C (by decide)
  have hb7 := kd7 hI.1.2.1.1
  obtain ⟨c1, c2, c3, c4, c5, c6, c7, c8, _⟩ := C
  obtain ⟨g1, g2⟩ := fq_of (fun q hq => c3.1 q (by omega) (by omega) (by omega)) (xi_now hI hn hX hJ hN).2.2 f6 f7 f8 f9
  have hk : oL_faultReason 448 v := by
    refine ⟨t1, ?_, fun h0 v4 _ => t3.resolve_left h0⟩
    unfold kkL_faultReason fL_faultReason kkX10_faultReason
    by_cases h : (fX10_faultReason 448 v).1 = 0
    · rw [if_pos h]; dsimp only; rw [pot_gM]; omega
    · rw [if_neg h]; dsimp only; rw [pot_gM]; omega
  have h0 : fX10_faultReason 448 v = if (if fX9_run 451 (rN (v 448 0)) 450 (v 448 6) v 451 4 = 0 then 3 else 0 : Nat) = 0 then ((0, fX9_run 451 (rN (v 448 0)) 450 (v 448 6) v 451 4, fX9_run 451 (rN (v 448 0)) 450 (v 448 6) v)) else ((if fX9_run 451 (rN (v 448 0)) 450 (v 448 6) v 451 4 = 0 then 3 else 0, 0, fX9_run 451 (rN (v 448 0)) 450 (v 448 6) v)) := rfl
  have ew : ∀ V : vSt, (fX11_faultReason 461 V).2 = (fX11_faultTold 461 1 V).2 := fun V => by
    unfold fX11_faultReason
    dsimp only
  unfold FQ
  by_cases z : (rNow v).2.2.2.1 = 0
  · rw [c7, if_pos z, if_neg (show ¬ (3 : Nat) = 0 by decide)] at h0
    have e : fL_faultReason 448 v = (-100104, (fX11_faultTold 461 1 (fX9_run 451 (rN (v 448 0)) 450 (v 448 6) v)).2) := by
      unfold fL_faultReason
      rw [h0]
      dsimp only
      rw [if_neg (show ¬ (3 : Nat) = 0 by decide), ew, g1]
    rw [e]
    dsimp only
    refine ⟨hk, ?_, ⟨m, f3⟩, g2, fun _ => rfl, fun q => absurd z q⟩
    rw [f2]
    exact hp
  · rw [c7, if_neg z, if_pos (show (0 : Nat) = 0 from rfl)] at h0
    have e : fL_faultReason 448 v = ((rNow v).2.2.2.1, (fX11_faultTold 461 1 (fX9_run 451 (rN (v 448 0)) 450 (v 448 6) v)).2) := by
      unfold fL_faultReason
      rw [h0]
      dsimp only
      rw [if_pos (show (0 : Nat) = 0 from rfl), ew, g1]
    rw [e]
    dsimp only
    refine ⟨hk, ?_, ⟨m, f3⟩, g2, fun q => absurd q z, fun _ => rfl⟩
    rw [f2]
    exact hp
theorem q_faultCause (hI : Inv n m v) (hn : n ≤ 3150) (hX : XI N (v 462)) (hJ : XJ (v 462)) (hN : N + 60 < 2 ^ 30) : oL_faultCause 448 v ∧ FQ n v (fL_faultCause 448 v) (rNow v).2.2.2.2 := by
  obtain ⟨t1, _, t3, _⟩ := t_faultCause hI hn
  obtain ⟨o9, C, hp, _⟩ := cr_all hI hn
  obtain ⟨f1, f2, f3, f4, f5, f6, f7, f8, f9⟩ := fault_m (p := 2) hI hn C (by decide)
  have hb7 := kd7 hI.1.2.1.1
  obtain ⟨c1, c2, c3, c4, c5, c6, c7, c8, _⟩ := C
  obtain ⟨g1, g2⟩ := fq_of (fun q hq => c3.1 q (by omega) (by omega) (by omega)) (xi_now hI hn hX hJ hN).2.2 f6 f7 f8 f9
  have hk : oL_faultCause 448 v := by
    refine ⟨t1, ?_, fun h0 v4 _ => t3.resolve_left h0⟩
    unfold kkL_faultCause fL_faultCause kkX10_faultCause
    by_cases h : (fX10_faultCause 448 v).1 = 0
    · rw [if_pos h]; dsimp only; rw [pot_gM]; omega
    · rw [if_neg h]; dsimp only; rw [pot_gM]; omega
  have h0 : fX10_faultCause 448 v = if (if fX9_run 451 (rN (v 448 0)) 450 (v 448 6) v 451 4 = 0 then 3 else 0 : Nat) = 0 then ((0, fX9_run 451 (rN (v 448 0)) 450 (v 448 6) v 451 5, fX9_run 451 (rN (v 448 0)) 450 (v 448 6) v)) else ((if fX9_run 451 (rN (v 448 0)) 450 (v 448 6) v 451 4 = 0 then 3 else 0, 0, fX9_run 451 (rN (v 448 0)) 450 (v 448 6) v)) := rfl
  have ew : ∀ V : vSt, (fX11_faultCause 461 V).2 = (fX11_faultTold 461 2 V).2 := fun V => by
    unfold fX11_faultCause
    dsimp only
  unfold FQ
  by_cases z : (rNow v).2.2.2.1 = 0
  · rw [c7, if_pos z, if_neg (show ¬ (3 : Nat) = 0 by decide)] at h0
    have e : fL_faultCause 448 v = (-100104, (fX11_faultTold 461 2 (fX9_run 451 (rN (v 448 0)) 450 (v 448 6) v)).2) := by
      unfold fL_faultCause
      rw [h0]
      dsimp only
      rw [if_neg (show ¬ (3 : Nat) = 0 by decide), ew, g1]
    rw [e]
    dsimp only
    refine ⟨hk, ?_, ⟨m, f3⟩, g2, fun _ => rfl, fun q => absurd z q⟩
    rw [f2]
    exact hp
  · rw [c7, if_neg z, if_pos (show (0 : Nat) = 0 from rfl)] at h0
    have e : fL_faultCause 448 v = ((rNow v).2.2.2.2, (fX11_faultTold 461 2 (fX9_run 451 (rN (v 448 0)) 450 (v 448 6) v)).2) := by
      unfold fL_faultCause
      rw [h0]
      dsimp only
      rw [if_pos (show (0 : Nat) = 0 from rfl), ew, g1, c8]
    rw [e]
    dsimp only
    refine ⟨hk, ?_, ⟨m, f3⟩, g2, fun q => absurd q z, fun _ => rfl⟩
    rw [f2]
    exact hp
/-- a text is played -/
theorem q_play (hI : Inv n m v) (hn : n ≤ 3150) (hX : XI N (v 462)) (hJ : XJ (v 462)) (hN : N + 60 < 2 ^ 30) : oL_play 448 v ∧ pot v ≤ pot (fL_play 448 v).2 ∧ (∃ m', Inv (n + 20) m' (fL_play 448 v).2) ∧
    ((rNow v).2.2.2.1 = 0 → (fL_play 448 v).1 = Int32.ofNat (rNow v).2.2.1 ∧ CHM v (fL_play 448 v).2 (rNow v).1) ∧ ((rNow v).2.2.2.1 ≠ 0 → (fL_play 448 v).1 = -100103 ∧ FK v (fL_play 448 v).2) := by
  obtain ⟨t1, t2, t3, ⟨t4, t5, t6, t7, t8, m', t9⟩, t10, t11⟩ := t_play hI hn
  have hh := (xi_now hI hn hX hJ hN).2.2
  have hk : oL_play 448 v := by
    refine ⟨t1, ?_, fun h0 v4 _ => t3.resolve_left h0⟩
    unfold kkL_play fL_play kkX10_play
    by_cases h : (fX10_play 448 v).1 = 0
    · rw [if_pos h]; dsimp only; rw [pot_gM]; omega
    · rw [if_neg h]; dsimp only; rw [pot_gM]; omega
  by_cases z : (rNow v).2.2.2.1 = 0
  · obtain ⟨a1, a2, a3⟩ := t10 z
    have e : fL_play 448 v = (Int32.ofNat (rNow v).2.2.1, (fX11_play 461 (fX10_play 448 v).2.2).2) := by
      unfold fL_play
      rw [if_pos a1]
      dsimp only
      rw [a3.gMi, a2]
    rw [e]
    dsimp only
    refine ⟨hk, ?_, ⟨m', t9.to (by omega)⟩, fun _ => ⟨rfl, a3.chm t4⟩, fun q => absurd z q⟩
    rw [t6]
    exact t5
  · obtain ⟨a1, a2, a3, a4, a5⟩ := t11 z
    obtain ⟨g1, g2⟩ := fq_of t4 hh a2 a3 a4 a5
    have e : fL_play 448 v = (-100103, (fX11_play 461 (fX10_play 448 v).2.2).2) := by
      unfold fL_play
      rw [if_neg (by rw [a1]; decide)]
      dsimp only
      rw [g1]
    rw [e]
    dsimp only
    refine ⟨hk, ?_, ⟨m', t9.to (by omega)⟩, fun q => absurd q z, fun _ => ⟨rfl, g2⟩⟩
    rw [t6]
    exact t5
/-- the text is emptied -/
def rdC (v : vSt) : vSt := gM (fX10_clearText 448 v).2 (fX11_clearText 461 (fX10_clearText 448 v).2).2
theorem cl_s (hI : Inv n m v) : (fX10_clearText 448 v).1 = Int32.ofNat (TL v) ∧ TL v ≤ 60 ∧ pot v ≤ pot (rdC v) ∧ (∃ m', Inv (n + 1) m' (rdC v)) ∧ KE v (rdC v) ∧ TL (rdC v) = 0 := by
  obtain ⟨o1, o2, o3, o4, o5, o6⟩ := t_clearText hI
  obtain ⟨t1, t2, t3⟩ := tl_of hI
  have g : rdC v = (fX11_clearText 461 (fX10_clearText 448 v).2).2 := gM_id fun q hq => by
    show u2 (u2 _ 461 8 0) 461 7 0 q = _
    rw [u2_r (by omega), u2_r (by omega)]
  have eF : (fX11_clearText 461 (fX10_clearText 448 v).2).2 = u2 (u2 (u2 v 448 6 0) 461 8 0) 461 7 0 := rfl
  rw [g]
  refine ⟨t1, t3, by rw [o3]; exact o2, o6, ⟨?_, ?_, ?_, fun f h7 h8 => ?_⟩, ?_⟩
  · rw [eF, u2_r (by decide), u2_r (by decide), u2_r (by decide)]
  · rw [eF, u2_r (by decide), u2_r (by decide), u2_r (by decide)]
  · rw [eF, u2_r (by decide), u2_r (by decide), u2_r (by decide)]
  · rw [eF, u2_q, if_neg h7, u2_q, if_neg h8, u2_r (by decide)]
  · unfold TL
    rw [eF, u2_s]
    rfl
theorem reads_f : fL_reads 448 x v = rdC (fL_play 448 (fL_faultCause 448 (fL_faultReason 448 (fL_faultPosition 448 (lL_reads_23 448 x 8 0 (rdC v))).2).2).2).2 := by
  unfold fL_reads
  dsimp only
  rw [ite_self]
  rfl
theorem reads_o (hI : Inv n m v) (h60 : 60 ≤ n) (hn : n ≤ 3140) (hX : XI N (v 462)) (hJ : XJ (v 462)) (hN : N + 60 < 2 ^ 30) : oL_reads 448 x v ∧ OUT n N v (fL_reads 448 x v) := by
  obtain ⟨w3, E3⟩ : ∃ z, z = rdC v := ⟨_, rfl⟩
  obtain ⟨k1, k2, k3, ⟨m3, I3⟩, k5, k6⟩ := cl_s hI
  rw [← E3] at k3 I3 k5 k6
  obtain ⟨w7, E7⟩ : ∃ z, z = lL_reads_23 448 x 8 0 w3 := ⟨_, rfl⟩
  have hL : inn (fL_low x 7) 7 := low_n (k := 7) rfl (by decide)
  have lL := inn_lt hL
  have R := rd_l (x := x) (n := n + 1) (v0 := w3) (by omega) k6 8 0 w3 0 0 0 (Nat.zero_le _) (by omega) (TTy.rf I3) (Nat.zero_le _) (fun _ => rfl)
  rw [show Int32.ofNat 0 = (0 : Int32) from rfl, ← E7] at R
  obtain ⟨R1, d, s, t, ⟨p7, ⟨m7, I7⟩, ke7, tl7, c59, c46⟩, hd, hs⟩ := R
  rw [k6] at tl7 c59 c46
  have c59 : cC 59 (w7 466) (TL w7) = s := c59.trans (Nat.zero_add s)
  have c46 : cC 46 (w7 466) (TL w7) = t := c46.trans (Nat.zero_add t)
  have lk7 : LIKE v w7 := k5.lk.tr ke7.lk
  have X7 : XI N (w7 462) := by rw [lk7.1]; exact hX
  have J7 : XJ (w7 462) := by rw [lk7.1]; exact hJ
  have hT7 := tl_of I7
  obtain ⟨xn1, xn2, _⟩ := xi_now I7 (by omega) X7 J7 hN
  obtain ⟨w50, E50⟩ : ∃ z, z = (fL_faultPosition 448 w7).2 := ⟨_, rfl⟩
  obtain ⟨o1, q1, ⟨m50, I50⟩, fk1, z1, y1⟩ := q_faultPosition I7 (by omega) X7 J7 hN
  rw [← E50] at q1 I50 fk1
  obtain ⟨w55, E55⟩ : ∃ z, z = (fL_faultReason 448 w50).2 := ⟨_, rfl⟩
  obtain ⟨o2, q2, ⟨m55, I55⟩, fk2, z2, y2⟩ := q_faultReason I50 (by omega) (by rw [fk1.1]; exact X7) (by rw [fk1.1]; exact J7) hN
  rw [← E55] at q2 I55 fk2
  rw [fk1.now] at z2 y2
  have fk2 := fk1.tr fk2
  obtain ⟨w60, E60⟩ : ∃ z, z = (fL_faultCause 448 w55).2 := ⟨_, rfl⟩
  obtain ⟨o3, q3, ⟨m60, I60⟩, fk3, z3, y3⟩ := q_faultCause I55 (by omega) (by rw [fk2.1]; exact X7) (by rw [fk2.1]; exact J7) hN
  rw [← E60] at q3 I60 fk3
  rw [fk2.now] at z3 y3
  have fk3 := fk2.tr fk3
  obtain ⟨w65, E65⟩ : ∃ z, z = (fL_play 448 w60).2 := ⟨_, rfl⟩
  obtain ⟨o4, q4, ⟨m65, I65⟩, z4, y4⟩ := q_play I60 (by omega) (by rw [fk3.1]; exact X7) (by rw [fk3.1]; exact J7) hN
  rw [← E65] at q4 I65 z4 y4
  rw [fk3.now] at z4 y4
  obtain ⟨w68, E68⟩ : ∃ z, z = rdC w65 := ⟨_, rfl⟩
  obtain ⟨l1, l2, l3, ⟨m68, I68⟩, l5, l6⟩ := cl_s I65
  rw [← E68] at l3 I68 l5
  have ef : fL_reads 448 x v = w68 := by rw [reads_f, ← E3, ← E7, ← E50, ← E55, ← E60, ← E65, ← E68]
  have lk60 : LIKE v w60 := lk7.tr fk3.lk
  have hst : inn (v 461 5) 5 := hI.2.2.1.2
  have RN := run_n (T := w7 466) (len := TL w7) (f := 60) (A := w7 462) (pos := 0) (k := 0) (by have := hT7.2.2; omega) (Nat.zero_le _)
  have RN : (rNow w7).2.2.2.1 = 0 → (rNow w7).2.2.1 + 0 = 0 + cC 59 (w7 466) (TL w7) ∧ cC 46 (w7 466) (TL w7) = 0 := RN
  have RX := run_x (T := w7 466) (len := TL w7) (f := 60) (A := w7 462) (pos := 0) (k := 0)
  have RX : (rNow w7).2.2.2.1 ≠ 0 → (rNow w7).2.1 < TL w7 ∧ (((rNow w7).2.2.2.1 = 1 ∧ ∃ d, (rNow w7).2.2.2.2 = Int32.ofNat d ∧ (rNow w7).2.1 + d ≤ TL w7) ∨ ((rNow w7).2.2.2.1 = 2 ∧ ((rNow w7).2.2.2.2 = 1 ∨ (rNow w7).2.2.2.2 = 2))) := RX
  have tl60 := hT7.2.2
  have st7 : fX10_states 448 w7 = v 461 5 := by rw [x_states I7]; exact lk7.2.2.2.2
  have z0 : (0 : Int32).toInt = 0 := rfl
  have ofN : ∀ k, k < 1000 → (Int32.ofNat k : Int32) ≠ -100104 ∧ (Int32.ofNat k : Int32) ≠ -100103 ∧ ¬ (Int32.ofNat k : Int32) < 0 := fun k hk => by
    refine ⟨fun e => ?_, fun e => ?_, fun e => ?_⟩
    · have := congrArg Int32.toInt e; rw [of_ti (by omega), show (-100104 : Int32).toInt = -100104 from rfl] at this; omega
    · have := congrArg Int32.toInt e; rw [of_ti (by omega), show (-100103 : Int32).toInt = -100103 from rfl] at this; omega
    · have := i_lt e; rw [of_ti (by omega), z0] at this; omega
  have hO : OUT n N v w68 := by
    refine ⟨by omega, ⟨m68, I68.to (by omega)⟩, ?_⟩
    by_cases z : (rNow w7).2.2.2.1 = 0
    · obtain ⟨a1, a2⟩ := z4 z
      rw [l5.1, a2.1]
      exact ⟨xn1, xn2, Or.inr ⟨_, a2.lk lk60 l5.lk⟩⟩
    · obtain ⟨a1, a2⟩ := y4 z
      have lk68 : LIKE v w68 := (lk60.tr a2.lk).tr l5.lk
      rw [lk68.1]
      exact ⟨hX.mono (by omega), hJ, Or.inl lk68.sms⟩
  rw [ef]
  refine ⟨⟨low_o (by decide), fun v2 e2 v3 e3 => ?_⟩, hO⟩
  have e3 : v3 = w3 := by rw [e3, e2, E3]; rfl
  rw [e3, k1, ef]
  refine ⟨(ofN _ (by omega)).2.2, R1, fun v7 e7 => ?_⟩
  rw [e7, ← E7, ← E50]
  refine ⟨o1, ⟨by omega, q1, by omega⟩, fun v50 e50 => ?_⟩
  rw [e50, ← E55]
  refine ⟨o2, ⟨by omega, q2, by omega⟩, fun v55 e55 => ?_⟩
  rw [e55, ← E60]
  refine ⟨o3, ⟨by omega, q3, by omega⟩, fun v60 e60 => ?_⟩
  rw [e60, ← E65]
  refine ⟨o4, ⟨by omega, q4, by omega⟩, fun v65 e65 v67 e67 v68 e68 => ?_⟩
  have e68 : v68 = w68 := by rw [e68, e67, e65, E68]; rfl
  rw [e68, e65, l1, st7, x_states I68]
  by_cases z : (rNow w7).2.2.2.1 = 0
  · obtain ⟨a1, a2⟩ := z4 z
    obtain ⟨b1, b2⟩ := RN z
    have ht : t = 0 := by omega
    have hc : (rNow w7).2.2.1 = (fL_low x 7).toNatClampNeg := by have := hs ht; omega
    rw [z1 z, z2 z, z3 z, a1, hc, of_to hL.1]
    refine fun y70 e70 y72 e72 => ⟨by rw [e70, e72], fun y75 e75 y77 e77 => ⟨by rw [e75, e77], fun y80 e80 y82 e82 => ⟨?_, fun _ => ⟨rfl, fun y88 e88 => ?_⟩, fun q => absurd (show (-100104 : Int32) < 0 by decide) q⟩⟩⟩
    · rw [e80, e82, if_neg (fun e => by have := congrArg Int32.toInt e; rw [show (-100103 : Int32).toInt = -100103 from rfl] at this; have := hL.1; omega), if_pos (by decide)]
    · have R := a2.lk lk60 l5.lk
      rw [e88]
      by_cases g : (4 : Int32) ≤ v 461 5
      · rw [if_pos g]
        have g := i_le g
        rw [show (4 : Int32).toInt = 4 from rfl] at g
        have e4 : v 461 5 = 4 := Int32.toInt_inj.mp (by rw [show (4 : Int32).toInt = 4 from rfl]; have := hst.2; omega)
        exact (R.2.2.2.1 e4).1
      · rw [if_neg g]
        have g := i_nle g
        rw [show (4 : Int32).toInt = 4 from rfl] at g
        exact (R.2.2.2.2 ⟨hst.1, by omega⟩).1
  · obtain ⟨a1, a2⟩ := y4 z
    obtain ⟨b1, b2⟩ := RX z
    have tl65 : TL w65 = TL w7 := by
      unfold TL
      rw [a2.2.2.2.2 7 (by decide), fk3.2.2.2.2 7 (by decide)]
    have s68 : w68 461 5 = v 461 5 := ((lk60.tr a2.lk).tr l5.lk).2.2.2.2
    rw [y1 z, y2 z, y3 z, a1, tl65, s68]
    have op := ofN (rNow w7).2.1 (by omega)
    have hr : (rNow w7).2.2.2.1 ≠ -100104 := by
      rcases b2 with ⟨e, _⟩ | ⟨e, _⟩
      · rw [e]; decide
      · rw [e]; decide
    have hcs : (rNow w7).2.2.2.2 ≠ -100104 := by
      rcases b2 with ⟨_, d', e, _⟩ | ⟨_, e | e⟩
      · rw [e]; exact (ofN d' (by omega)).1
      · rw [e]; decide
      · rw [e]; decide
    refine fun y70 e70 y72 e72 => ⟨by rw [e70, e72, if_neg op.1, if_neg hr], fun y75 e75 y77 e77 => ⟨by rw [e75, e77, if_neg op.1, if_neg hcs], fun y80 e80 y82 e82 => ⟨by rw [e80, e82, if_pos rfl, if_neg op.2.2], fun q => absurd q op.2.2, fun _ => ⟨fun q => ?_, ⟨fun q => ?_, fun q => ⟨?_, fun g => ?_⟩⟩, rfl⟩⟩⟩⟩
    · rw [ofle (by omega) (by omega)] at q
      omega
    · rcases b2 with ⟨_, d', e, h⟩ | ⟨e, _⟩
      · rw [e, of_add]
        exact ⟨(ofN d' (by omega)).2.2, fun g => by rw [oflt (by omega) (by omega)] at g; omega⟩
      · rw [e] at q; exact absurd q (by decide)
    · rcases b2 with ⟨e, _⟩ | ⟨e, _⟩
      · exact absurd e q
      · exact e
    · rcases b2 with ⟨e, _⟩ | ⟨_, e | e⟩
      · exact absurd e q
      · exact absurd e g
      · exact e
end T57d
