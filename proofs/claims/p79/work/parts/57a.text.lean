/-! P79, PLAIN 11: what a run of a text tells of the text. -/
def cC (c : Int32) (T : Ar) : Nat → Nat
  | 0 => 0
  | i + 1 => cC c T i + (if T i = c then 1 else 0)
section T57a
variable {T A A0 : Ar} {len b pos k n m N f : Nat} {a c p q y : Int32} {u v w W : vSt}
theorem cC_gap : ∀ {d : Nat}, (∀ j, b ≤ j → j < b + d → T j ≠ c) → cC c T (b + d) = cC c T b
  | 0, _ => rfl
  | d + 1, h => by
    show cC c T (b + d) + (if T (b + d) = c then 1 else 0) = _
    rw [if_neg (h _ (by omega) (by omega)), cC_gap (fun j h1 h2 => h j h1 (by omega))]
    rfl
theorem cC_cg {T' : Ar} : ∀ {i : Nat}, (∀ j, j < i → T' j = T j) → cC c T' i = cC c T i
  | 0, _ => rfl
  | i + 1, h => by
    show cC c T' i + (if T' i = c then 1 else 0) = cC c T i + (if T i = c then 1 else 0)
    rw [h i (by omega), cC_cg (fun j hj => h j (by omega))]
/-- no sign and no dot from b on, up to where the reading is -/
def CLR (T : Ar) (b : Nat) (s : Bool × Nat) : Prop := b ≤ s.2 ∧ ∀ j, b ≤ j → j < s.2 → T j ≠ 59 ∧ T j ≠ 46
theorem isD_ne {x : Int32} (h : isD x) : x ≠ 59 ∧ x ≠ 46 := by
  refine ⟨fun e => ?_, fun e => ?_⟩
  · rw [e] at h; exact absurd h (by decide)
  · rw [e] at h; exact absurd h (by decide)
theorem lk_ne {x : Int32} (h : lk x < 7) : x ≠ 59 ∧ x ≠ 46 := by
  refine ⟨fun e => ?_, fun e => ?_⟩
  · rw [e] at h; exact absurd h (by decide)
  · rw [e] at h; exact absurd h (by decide)
theorem clr_sg {s : Bool × Nat} (h : CLR T b s) : CLR T b (sg T len 44 s) := by
  unfold sg
  by_cases q : s.1 = true ∧ s.2 < len ∧ T s.2 = 44
  · rw [if_pos q]
    refine ⟨by have := h.1; show b ≤ s.2 + 1; omega, fun j h1 h2 => ?_⟩
    have h2 : j < s.2 + 1 := h2
    by_cases e : j = s.2
    · rw [e, q.2.2]; decide
    · exact h.2 j h1 (by omega)
  · rw [if_neg q]; exact h
theorem clr_nu {s : Bool × Nat} (hl : s.2 ≤ len) (h : CLR T b s) : CLR T b (nu T len s).1 := by
  unfold nu
  by_cases q : s.1 = true
  · rw [if_pos q]
    obtain ⟨d1, d2, d3, d4⟩ := dg_t (T := T) (len := len) (f := 5) (p := s.2) (a := 0) hl
    refine ⟨by have := h.1; show b ≤ (dg T len 5 s.2 0).1; omega, fun j h1 h2 => ?_⟩
    have h2 : j < (dg T len 5 s.2 0).1 := h2
    by_cases e : j < s.2
    · exact h.2 j h1 e
    · exact isD_ne (d4 j (by omega) h2)
  · rw [if_neg q]; exact h
theorem clr_s0 : CLR T b (pS0 T b) := by
  unfold pS0
  by_cases q : lk (T b) < 7
  · rw [if_pos q]
    refine ⟨Nat.le_succ _, fun j h1 h2 => ?_⟩
    have h2 : j < b + 1 := h2
    have : j = b := by omega
    subst this
    exact lk_ne q
  · rw [if_neg q]
    exact ⟨Nat.le_refl _, fun j h1 h2 => by have h2 : j < b := h2; omega⟩
theorem clr_n1 (hb : b < len) : CLR T b (pN1 T len b).1 := by
  unfold pN1
  split
  · exact clr_s0
  · exact clr_nu (s0_le hb).2 clr_s0
theorem clr_n2 (hb : b < len) : CLR T b (pN2 T len b).1 := by
  unfold pN2
  split
  · exact clr_nu (sg_le (n1_le hb).2).2 (clr_sg (clr_n1 hb))
  · exact clr_n1 hb
/-- an order that is read has one sign, at its end, and no dot -/
theorem pE_c (hb : b < len) (h : (pE T len b).1 = true) : b < (pE T len b).2 ∧ (pE T len b).2 ≤ len ∧ cC 59 T (pE T len b).2 = cC 59 T b + 1 ∧ cC 46 T (pE T len b).2 = cC 46 T b := by
  have hc := clr_n2 (T := T) hb
  have hl := (n2_le (T := T) hb).2
  unfold pE sg at h ⊢
  generalize (pN2 T len b).1 = s at *
  by_cases q : s.1 = true ∧ s.2 < len ∧ T s.2 = 59
  · rw [if_pos q]
    obtain ⟨d, e⟩ : ∃ d, s.2 = b + d := ⟨s.2 - b, by have := hc.1; omega⟩
    have g1 := cC_gap (T := T) (c := 59) (b := b) (d := d) (fun j h1 h2 => (hc.2 j h1 (by omega)).1)
    have g2 := cC_gap (T := T) (c := 46) (b := b) (d := d) (fun j h1 h2 => (hc.2 j h1 (by omega)).2)
    rw [← e] at g1 g2
    refine ⟨by have := hc.1; show b < s.2 + 1; omega, q.2.1, ?_, ?_⟩
    · show cC 59 T s.2 + (if T s.2 = 59 then 1 else 0) = _
      rw [if_pos q.2.2, g1]
    · show cC 46 T s.2 + (if T s.2 = 46 then 1 else 0) = _
      rw [if_neg (by rw [q.2.2]; decide), g2]
      rfl
  · rw [if_neg q] at h
    exact absurd (show (false : Bool) = true from h) (by decide)
theorem pE_l (hb : b < len) : b ≤ (pE T len b).2 ∧ (pE T len b).2 ≤ len := by
  have h := n2_le (T := T) hb
  have := sg_le (T := T) (c := 59) h.2
  exact ⟨Nat.le_trans h.1 this.1, this.2⟩
/-- a run without a fault: as many orders as signs, no dot -/
theorem run_n : ∀ {f : Nat} {A : Ar} {pos k : Nat}, len ≤ f + pos → pos ≤ len → (runP T len f A pos k).2.2.2.1 = 0 → (runP T len f A pos k).2.2.1 + cC 59 T pos = k + cC 59 T len ∧ cC 46 T len = cC 46 T pos
  | 0, A, pos, k, h1, h2, _ => by
    have : pos = len := by omega
    subst this
    exact ⟨rfl, rfl⟩
  | f + 1, A, pos, k, h1, h2, h0 => by
    unfold runP at h0 ⊢
    by_cases q : len ≤ pos
    · rw [if_pos q]
      have : pos = len := by omega
      subst this
      exact ⟨rfl, rfl⟩
    rw [if_neg q] at h0 ⊢
    by_cases z : (pE T len pos).1 = true
    · rw [if_pos z] at h0 ⊢
      by_cases hx : rfc (oAt T len A pos).1 = 0
      · rw [if_pos hx] at h0 ⊢
        obtain ⟨e1, e2, e3, e4⟩ := pE_c (by omega) z
        obtain ⟨r1, r2⟩ := run_n (f := f) (A := (oAt T len A pos).2) (pos := (pE T len pos).2) (k := k + 1) (by omega) e2 h0
        rw [e3] at r1
        rw [e4] at r2
        exact ⟨by omega, r2⟩
      · rw [if_neg hx] at h0; exact absurd (show (2 : Int32) = 0 from h0) (by decide)
    · rw [if_neg z] at h0; exact absurd (show (1 : Int32) = 0 from h0) (by decide)
/-- a run with a fault: where and why -/
theorem run_x : ∀ {f : Nat} {A : Ar} {pos k : Nat}, (runP T len f A pos k).2.2.2.1 ≠ 0 → (runP T len f A pos k).2.1 < len ∧
    (((runP T len f A pos k).2.2.2.1 = 1 ∧ ∃ d, (runP T len f A pos k).2.2.2.2 = Int32.ofNat d ∧ (runP T len f A pos k).2.1 + d ≤ len) ∨ ((runP T len f A pos k).2.2.2.1 = 2 ∧ ((runP T len f A pos k).2.2.2.2 = 1 ∨ (runP T len f A pos k).2.2.2.2 = 2)))
  | 0, A, pos, k, h0 => absurd rfl h0
  | f + 1, A, pos, k, h0 => by
    unfold runP at h0 ⊢
    by_cases q : len ≤ pos
    · rw [if_pos q] at h0; exact absurd rfl h0
    rw [if_neg q] at h0 ⊢
    by_cases z : (pE T len pos).1 = true
    · rw [if_pos z] at h0 ⊢
      by_cases hx : rfc (oAt T len A pos).1 = 0
      · rw [if_pos hx] at h0 ⊢
        exact run_x h0
      · rw [if_neg hx]
        refine ⟨by show pos < len; omega, Or.inr ⟨rfl, ?_⟩⟩
        rcases rfc_or (oAt T len A pos).1 with h | ⟨_, h⟩ | ⟨_, h⟩
        · exact absurd h hx
        · exact Or.inl h
        · exact Or.inr h
    · rw [if_neg z]
      have := pE_l (T := T) (b := pos) (len := len) (by omega)
      exact ⟨by show pos < len; omega, Or.inl ⟨rfl, _, rfl, by show pos + ((pE T len pos).2 - pos) ≤ len; omega⟩⟩
/-- orders leave alone what lies behind the array -/
theorem hi_lv {j : Nat} (hn : inn (A 206) 21) (h0 : A 206 ≠ 0) (hj : 3417 ≤ j) : sLeave A j = A j := (lv_lo hn h0).1 j (by omega) (by omega)
theorem hi_exO (hw : WF A) (hQ : inn (A 207) 3200) : ∀ j, 3417 ≤ j → (exO A k p q).2 j = A j := by
  intro j hj
  have lQ := inn_lt hQ
  unfold exO
  split
  · unfold sGoMeasure
    by_cases h1 : sIsT A p = 0
    · rw [if_pos h1]
    rw [if_neg h1]
    by_cases h2 : fX11_isMaterial 0 = 0
    · rw [if_pos h2]
    rw [if_neg h2]
    by_cases h3 : fX11_isLength q = 0
    · rw [if_pos h3]
    rw [if_neg h3]
    have := inn_lt (isT_in hw.1.1 h1).1
    split
    · exact sUse_o (by omega)
    · rfl
  split
  · exact cal_o hw (by omega)
  split
  · unfold sGoBring
    by_cases h1 : (if sIsY A p = 0 then 0 else (if fX11_in q (-200) 200 = 0 then 0 else (if A ((78 + 21 * p.toNatClampNeg + 0)) + q < 1 then 0 else 1)) : Int32) = 0
    · rw [if_pos h1]
    rw [if_neg h1]
    by_cases h2 : A 206 = 20
    · rw [if_pos h2]
    rw [if_neg h2]
    dsimp only
    rw [st_n (by omega), (tb_lo (inn20 hw.1.2.2.2.1 h2)).1 j (by omega) (by omega)]
  split
  · unfold sGoJudge
    by_cases h1 : sIsT A p = 0
    · rw [if_pos h1]
    rw [if_neg h1]
    by_cases h2n : ¬ (sReason A p.toNatClampNeg ≤ 0)
    · rw [if_neg h2n]
    have h2 := Decidable.not_not.mp h2n
    rw [if_pos h2]
    dsimp only
    have hT := isT_in hw.1.1 h1
    have lT := inn_lt hT.1
    have h0 := sReason_ne h2
    obtain ⟨dd, xx, q1, q2, q3, q4⟩ := hw.fk h0
    have lY := inn_lt q2
    have l6 := inn_lt hw.1.2.2.2.1
    obtain ⟨a1, a2, a3, a4, a5, a6⟩ := lv_lo hw.1.2.2.2.1 h0
    obtain ⟨s1, s2, s3, s4⟩ := sub1 hw.1.2.2.2.1 h0
    generalize ht : p.toNatClampNeg = t at *
    have j1 : ∀ i, 48 ≤ i → (i < 183 ∨ 203 ≤ i) → i ≠ 206 → sJ1 A t i = A i := fun i b1 b2 b3 => by
      unfold sJ1
      rw [sUse_o (by omega), a1 i b2 b3]
    by_cases h3 : sJudg A t = 3
    · rw [if_pos h3]
      have e206 : sJ1 A t 206 = A 206 - 1 := by unfold sJ1; rw [sUse_o (by omega), a2]
      have i20 : inn (sJ1 A t 206) 20 := by
        rw [e206]
        have := hw.1.2.2.2.1.2
        exact ⟨s4.1, by rw [s1]; omega⟩
      unfold sJD
      rw [st_n (by omega), (tb_lo i20).1 j (by omega) (by omega), j1 j (by omega) (by omega) (by omega)]
    · rw [if_neg h3]
      have e2 : sJ2 A t j = A j := by
        unfold sJ2
        split
        · have e7 : sJ1 A t 207 = A 207 := j1 _ (by omega) (by omega) (by omega)
          unfold sToQ
          rw [st_n (by omega), st_n (by rw [e7]; omega), j1 j (by omega) (by omega) (by omega)]
        · exact j1 j (by omega) (by omega) (by omega)
      have e8 : (sNotes (sJ5 A t) ((fX11_typeOf (A 183)).toNatClampNeg) (if sJudg A t ≤ 0 then 0 else 1)) ((78 + 21 * ((fX11_typeOf (A 183)).toNatClampNeg) + 8)) = A ((78 + 21 * ((fX11_typeOf (A 183)).toNatClampNeg) + 8)) := by
        rw [sNotes_o (by omega)]
        unfold sJ5 sJ4 sJ3
        rw [st_n (by omega), st_n (by omega), st_n (by omega)]
        unfold sJ2
        split
        · unfold sToQ
          rw [st_n (by omega), st_n (by omega), j1 _ (by omega) (by omega) (by omega)]
        · exact j1 _ (by omega) (by omega) (by omega)
      have l13 := inn_lt (hw.2.2.2.1.1 _ q3).2.2.2.2.2.2.2.2.1
      unfold sJ6
      rw [st_n (by omega)]
      unfold sCharts
      rw [e8]
      split
      · rw [st_n (by omega), st_n (by omega), shf_o (by omega), sNotes_o (by omega)]
        unfold sJ5 sJ4 sJ3
        rw [st_n (by omega), st_n (by omega), st_n (by omega), e2]
      · rw [st_n (by omega), st_n (by omega), sNotes_o (by omega)]
        unfold sJ5 sJ4 sJ3
        rw [st_n (by omega), st_n (by omega), st_n (by omega), e2]
  split
  · unfold sGoFile
    by_cases h1 : fX11_in p 1 99 = 0
    · rw [if_pos h1]
    rw [if_neg h1]
    by_cases h2 : (if A 207 ≤ 0 then 0 else (if 20 ≤ A 206 then 0 else 1) : Int32) = 0
    · rw [if_pos h2]
    rw [if_neg h2]
    by_cases h3n : ¬ (1 ≤ A ((78 + 21 * ((fX11_typeOf (A 217))).toNatClampNeg + 0)) + ((fX11_deviationOf (A 217)) - p))
    · rw [if_neg h3n]
    have h3 := Decidable.not_not.mp h3n
    rw [if_pos h3]
    dsimp only
    have h7 : ¬ A 207 ≤ 0 := fun q => h2 (by rw [if_pos q])
    have h20 : ¬ 20 ≤ A 206 := fun q => h2 (by rw [if_neg h7, if_pos q])
    have h0 : A 207 ≠ 0 := fun e => h7 (by rw [e]; decide)
    obtain ⟨a1, a2, a3, a4, a5, a6⟩ := lq_lo hw.1.2.2.2.2.1 h0
    have e6 : sLeaveQ A 206 = A 206 := a1 _ (by omega) (by omega)
    have i20 : inn (sLeaveQ A 206) 20 := by
      rw [e6]
      refine ⟨hw.1.2.2.2.1.1, ?_⟩
      have := mt Int32.le_iff_toInt_le.mpr h20
      rw [show (20 : Int32).toInt = 20 from rfl] at this
      omega
    rw [(tb_lo i20).1 j (by omega) (by omega)]
    unfold sLeaveQ
    rw [st_n (by omega), shf_o (by omega), st_n (by omega)]
  split
  · unfold sGoPass
    by_cases h1n : ¬ (sReasonP A ≤ 0)
    · rw [if_neg h1n]
    have h1 := Decidable.not_not.mp h1n
    rw [if_pos h1]
    dsimp only
    have h0 : A 206 ≠ 0 := fun e0 => by
      unfold sReasonP at h1
      rw [if_pos e0] at h1
      exact absurd h1 (by decide)
    obtain ⟨dd, x, q1, q2, q3, q4⟩ := hw.fk h0
    have l := inn_lt q2
    rw [st_n (by omega), st_n (by omega), (lv_lo hw.1.2.2.2.1 h0).1 j (by omega) (by omega)]
  · unfold sGoDay
    split
    · rfl
    · exact st_n (by omega)
/-- what the run leaves of the invariants -/
theorem xi_run (hb : kd b = 7) (h60 : len ≤ 60) (hT : ∀ i, i < len → 32 ≤ (T i).toInt ∧ (T i).toInt ≤ 126) (hq : RQ T len A0) (hWT : WT A0) : ∀ f pos k A w N, N + f < 2 ^ 30 → k ≤ pos → pos ≤ 100 → CI T b w A pos k → RI T len A0 A pos → XI N A → XJ A →
    XI (N + f) (runP T len f A pos k).1 ∧ XJ (runP T len f A pos k).1 ∧ ∀ j, 3417 ≤ j → (runP T len f A pos k).1 j = A j := by
  intro f
  induction f with
  | zero => intro pos k A w N hN h3 h4 hI hR hX hJ; exact ⟨hX, hJ, fun _ _ => rfl⟩
  | succ f ih =>
    intro pos k A w N hN h3 h4 hI hR hX hJ
    unfold runP
    by_cases hp : len ≤ pos
    · rw [if_pos hp]; exact ⟨hX.mono (by omega), hJ, fun _ _ => rfl⟩
    rw [if_neg hp]
    by_cases z : (pE T len pos).1 = true
    · rw [if_pos z]
      by_cases hx : rfc (oAt T len A pos).1 = 0
      · rw [if_pos hx]
        obtain ⟨_, _, _, _, c5⟩ := c_step hb h60 hT hq hI hR (by omega) (by omega)
        rcases c5 with ⟨z', _⟩ | ⟨_, _, _, _, g4⟩
        · rw [z] at z'; exact absurd z' (by decide)
        · obtain ⟨_, hW, hA, _, hCI, _⟩ := g4 hx
          have hWA : WT A := WT.cg hWT hR.2.2.2.1 hR.2.2.2.2.1
          have hw := hR.2.1
          have e := pE_c (by omega) z
          have r := ih (pE T len pos).2 (k + 1) (oAt T len A pos).2 _ (N + 1) (by omega) (by omega) (by omega) hCI (hR.step hq (by omega) z hW hA) (xi_exO hX hw (by omega)) (xj_exO hJ hX hw hWA (hR.qq hq))
          rw [show N + 1 + f = N + (f + 1) by omega] at r
          exact ⟨r.1, r.2.1, fun j hj => (r.2.2 j hj).trans (hi_exO hw (hR.qq hq) j hj)⟩
      · rw [if_neg hx]; exact ⟨hX.mono (by omega), hJ, fun _ _ => rfl⟩
    · rw [if_neg z]; exact ⟨hX.mono (by omega), hJ, fun _ _ => rfl⟩
theorem xi_now (hI : Inv n m v) (hn : n ≤ 3150) (hX : XI N (v 462)) (hJ : XJ (v 462)) (hN : N + 60 < 2 ^ 30) : XI (N + 60) (rNow v).1 ∧ XJ (rNow v).1 ∧ ∀ j, 3417 ≤ j → (rNow v).1 j = v 462 j := by
  obtain ⟨t1, t2, t3⟩ := tl_of hI
  have hx := hI.2.2.2.2.1.1.2.2
  obtain ⟨_, _, _, wc, hC⟩ := cr_all hI hn
  have hWT : WT (v 462) := hI.2.2.2.2.2.1.2.2.2.2
  exact xi_run hI.1.2.1.1 t3 (fun i hi => (hx i hi).2) (rq_now hI hn) hWT 60 0 0 (v 462) wc N hN (by omega) (by omega) hC (ri_now hI) hX hJ
end T57a
