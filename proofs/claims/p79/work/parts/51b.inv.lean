/-! P79, PLAIN 4: an invariant of the array beside WF, kept by every order. -/
def XT (N : Nat) (A : Ar) (t : Nat) : Prop :=
  (-30 ≤ (A (8 * t + 1)).toInt ∧ (A (8 * t + 1)).toInt ≤ 30) ∧ (0 ≤ (A (8 * t + 2)).toInt ∧ (A (8 * t + 2)).toInt ≤ 40) ∧ (0 ≤ (A (8 * t + 4)).toInt ∧ (A (8 * t + 4)).toInt < 20) ∧
  (0 ≤ (A (8 * t + 5)).toInt ∧ (A (8 * t + 5)).toInt ≤ N) ∧ (0 ≤ (A (8 * t + 6)).toInt ∧ (A (8 * t + 6)).toInt ≤ N)
def XB (A : Ar) (b : Nat) : Prop := -9 ≤ (A (48 + 3 * b + 1)).toInt ∧ (A (48 + 3 * b + 1)).toInt ≤ 3
def XY (A : Ar) (k : Nat) : Prop := rOK (A ((78 + 21 * k + 4))) (A ((78 + 21 * k + 5))) (A ((78 + 21 * k + 6)))
def XI (N : Nat) (A : Ar) : Prop := (∀ t, t < (A 203).toNatClampNeg → XT N A t) ∧ (∀ b, b < (A 204).toNatClampNeg → XB A b) ∧ (∀ k, k < (A 205).toNatClampNeg → XY A k)
/-- two arrays that agree in what XI reads -/
def AG (A A' : Ar) : Prop := (∀ j, j < 78 → A' j = A j) ∧ (∀ k, k < 5 → A' ((78 + 21 * k + 4)) = A ((78 + 21 * k + 4)) ∧ A' ((78 + 21 * k + 5)) = A ((78 + 21 * k + 5)) ∧ A' ((78 + 21 * k + 6)) = A ((78 + 21 * k + 6))) ∧ A' 203 = A 203 ∧ A' 204 = A 204 ∧ A' 205 = A 205
/-- the numbers of tools, blocks and types are what they may be -/
def W3 (A : Ar) : Prop := inn (A 203) 7 ∧ inn (A 204) 11 ∧ inn (A 205) 6
section T51b
variable {A A' B : Ar} {N N' t k : Nat} {m x p p1 p2 p3 p4 set : Int32}
theorem AG.rf : AG A A := ⟨fun _ _ => rfl, fun _ _ => ⟨rfl, rfl, rfl⟩, rfl, rfl, rfl⟩
theorem AG.tr (h : AG A A') (h' : AG A' B) : AG A B := ⟨fun j hj => (h'.1 j hj).trans (h.1 j hj), fun k hk => ⟨(h'.2.1 k hk).1.trans (h.2.1 k hk).1, (h'.2.1 k hk).2.1.trans (h.2.1 k hk).2.1, (h'.2.1 k hk).2.2.trans (h.2.1 k hk).2.2⟩, h'.2.2.1.trans h.2.2.1, h'.2.2.2.1.trans h.2.2.2.1, h'.2.2.2.2.trans h.2.2.2.2⟩
theorem AG.hi (h : ∀ j, (j < 183 ∨ 203 ≤ j ∧ j ≤ 205) → A' j = A j) : AG A A' := ⟨fun j hj => h j (by omega), fun k hk => ⟨h _ (by omega), h _ (by omega), h _ (by omega)⟩, h _ (by omega), h _ (by omega), h _ (by omega)⟩
theorem AG.st {j : Nat} (h1 : 78 ≤ j) (h2 : j ≠ 203 ∧ j ≠ 204 ∧ j ≠ 205) (h3 : ∀ k, k < 5 → j ≠ (78 + 21 * k + 4) ∧ j ≠ (78 + 21 * k + 5) ∧ j ≠ (78 + 21 * k + 6)) : AG A (st A j x) :=
  ⟨fun i hi => st_n (by omega), fun k hk => ⟨st_n (h3 k hk).1.symm, st_n (h3 k hk).2.1.symm, st_n (h3 k hk).2.2.symm⟩, st_n h2.1.symm, st_n h2.2.1.symm, st_n h2.2.2.symm⟩
theorem W3.ag (h : W3 A) (a : AG A A') : W3 A' := by
  unfold W3
  rw [a.2.2.1, a.2.2.2.1, a.2.2.2.2]
  exact h
theorem WF.w3 (h : WF A) : W3 A := ⟨h.1.1, h.1.2.1, h.1.2.2.1⟩
theorem XI.ag (h : XI N A) (hw : W3 A) (a : AG A A') : XI N A' := by
  obtain ⟨h1, h2, h3⟩ := h
  obtain ⟨a1, a2, a3, a4, a5⟩ := a
  have l1 := inn_lt hw.1
  have l2 := inn_lt hw.2.1
  have l3 := inn_lt hw.2.2
  refine ⟨fun t ht => ?_, fun b hb => ?_, fun k hk => ?_⟩
  · rw [a3] at ht
    have := h1 t ht
    unfold XT at *
    rw [a1 _ (by omega), a1 _ (by omega), a1 _ (by omega), a1 _ (by omega), a1 _ (by omega)]
    exact this
  · rw [a4] at hb
    have := h2 b hb
    unfold XB at *
    rw [a1 _ (by omega)]
    exact this
  · rw [a5] at hk
    have := h3 k hk
    have a := a2 k (by omega)
    unfold XY at *
    rw [a.1, a.2.1, a.2.2]
    exact this
theorem XI.ext (h : XI N A) (hw : W3 A) (e : eqA A' A) : XI N A' := h.ag hw (AG.hi fun j hj => e j (by omega))
theorem XI.mono (h : XI N A) (hn : N ≤ N') : XI N' A := ⟨fun t ht => by
  obtain ⟨a, b, c, d, e⟩ := h.1 t ht
  exact ⟨a, b, c, ⟨d.1, by omega⟩, ⟨e.1, by omega⟩⟩, h.2.1, h.2.2⟩
theorem ag_leave (h : inn (A 206) 21) : AG A (sLeave A) := AG.hi fun j hj => by
  have := inn_lt h
  unfold sLeave
  rw [st_n (by omega), shf_o (by omega), st_n (by omega)]
theorem ag_leaveQ : AG A (sLeaveQ A) := AG.hi fun j hj => by
  unfold sLeaveQ
  rw [st_n (by omega), shf_o (by omega), st_n (by omega)]
theorem ag_toB (h : inn (A 206) 20) : AG A (sToB A x) := AG.hi fun j hj => by
  have := inn_lt h
  unfold sToB
  rw [st_n (by omega), st_n (by omega)]
theorem ag_toQ : AG A (sToQ A x) := AG.hi fun j hj => by
  unfold sToQ
  rw [st_n (by omega), st_n (by omega)]
theorem ag_charts (hk : k < 5) (h : inn (A ((78 + 21 * k + 8))) 13) : AG A (sCharts A k x) := by
  have hl := inn_lt h
  have g : ∀ j, (j < (78 + 21 * k + 8) ∨ (78 + 21 * k + 20) < j) → sCharts A k x j = A j := fun j hj => by
    unfold sCharts
    by_cases h12 : A ((78 + 21 * k + 8)) = 12
    · rw [if_pos h12, st_n (by omega), st_n (by omega), shf_o (by omega)]
    · have : (A ((78 + 21 * k + 8))).toNatClampNeg ≠ 12 := fun e => h12 (Int32.toInt_inj.mp (by have := rn_to h.1; rw [show (12 : Int32).toInt = 12 from rfl]; omega))
      rw [if_neg h12, st_n (by omega), st_n (by omega)]
  exact ⟨fun j hj => g j (by omega), fun i hi => ⟨g _ (by omega), g _ (by omega), g _ (by omega)⟩, g _ (by omega), g _ (by omega), g _ (by omega)⟩
theorem ag_throw {c : Nat} {tol mid : Int32} (hk : k < 5) (h12 : c ≤ 12) : AG A (sThrow A k c tol mid) := by
  have hl := fS_le (s := (78 + 21 * k + 9)) (tol := tol) (mid := mid) (B := A) (i := c)
  have g : ∀ j, (j < (78 + 21 * k + 8) ∨ (78 + 21 * k + 20) < j) → sThrow A k c tol mid j = A j := fun j hj => by
    unfold sThrow
    rw [st_n (by omega), zF_o (by omega), fS_o (by omega)]
  exact ⟨fun j hj => g j (by omega), fun i hi => ⟨g _ (by omega), g _ (by omega), g _ (by omega)⟩, g _ (by omega), g _ (by omega), g _ (by omega)⟩
theorem i1t : (1 : Int32).toInt = 1 := rfl
/-- a use of a tool -/
theorem xi_use (h : XI N A) (hw : W3 A) (hN : N < 2 ^ 30) (ht : t < (A 203).toNatClampNeg) (hm : inn m 3) : XI (N + 1) (sUse A t m) := by
  obtain ⟨h1, h2, h3⟩ := h
  obtain ⟨a1, a2, a3, a4, a5⟩ := h1 t ht
  have l1 := inn_lt hw.1
  have u1 : sUse A t m (8 * t + 1) = A (8 * t + 1) := sUse_o (by omega)
  have u5 : sUse A t m (8 * t + 5) = A (8 * t + 5) + 1 := by unfold sUse; rw [if_pos rfl]
  have u6 : sUse A t m (8 * t + 6) = A (8 * t + 6) + 1 := by unfold sUse; rw [if_neg (by omega), if_pos rfl]
  have u4 : sUse A t m (8 * t + 4) = if A (8 * t + 4) + 3 - m < 20 then A (8 * t + 4) + 3 - m else A (8 * t + 4) + 3 - m - 20 := by unfold sUse; rw [if_neg (by omega), if_neg (by omega), if_pos rfl]
  have u2 : sUse A t m (8 * t + 2) = if A (8 * t + 4) + 3 - m < 20 then A (8 * t + 2) else (if A (8 * t + 2) + 1 ≤ 40 then A (8 * t + 2) + 1 else 40) := by unfold sUse; rw [if_neg (by omega), if_neg (by omega), if_neg (by omega), if_pos rfl]
  have m1 := hm.1
  have m2 := hm.2
  have e3 : (A (8 * t + 4) + 3).toInt = (A (8 * t + 4)).toInt + 3 := ti_add (b := 3) (by rw [show (3 : Int32).toInt = 3 from rfl]; omega)
  have e4 : (A (8 * t + 4) + 3 - m).toInt = (A (8 * t + 4)).toInt + 3 - m.toInt := by rw [ti_sub (by rw [e3]; omega), e3]
  have e2 : (A (8 * t + 2) + 1).toInt = (A (8 * t + 2)).toInt + 1 := ti_add (b := 1) (by rw [i1t]; omega)
  have e5 : (A (8 * t + 5) + 1).toInt = (A (8 * t + 5)).toInt + 1 := ti_add (b := 1) (by rw [i1t]; omega)
  have e6 : (A (8 * t + 6) + 1).toInt = (A (8 * t + 6)).toInt + 1 := ti_add (b := 1) (by rw [i1t]; omega)
  refine ⟨fun s hs => ?_, fun b hb => ?_, fun k hk => ?_⟩
  · rw [sUse_o (by omega)] at hs
    by_cases q : s = t
    · subst q
      refine ⟨by rw [u1]; exact a1, ?_, ?_, by rw [u5, e5]; omega, by rw [u6, e6]; omega⟩
      · rw [u2]
        by_cases g : A (8 * s + 4) + 3 - m < 20
        · rw [if_pos g]; exact a2
        · rw [if_neg g]
          by_cases g2 : A (8 * s + 2) + 1 ≤ 40
          · rw [if_pos g2]
            have := Int32.le_iff_toInt_le.mp g2
            rw [e2, show (40 : Int32).toInt = 40 from rfl] at this
            rw [e2]; omega
          · rw [if_neg g2]; decide
      · rw [u4]
        by_cases g : A (8 * s + 4) + 3 - m < 20
        · rw [if_pos g]
          have := Int32.lt_iff_toInt_lt.mp g
          rw [e4, show (20 : Int32).toInt = 20 from rfl] at this
          rw [e4]; omega
        · rw [if_neg g]
          have := mt Int32.lt_iff_toInt_lt.mpr g
          rw [e4, show (20 : Int32).toInt = 20 from rfl] at this
          rw [ti_sub (b := 20) (by rw [e4, show (20 : Int32).toInt = 20 from rfl]; omega), e4, show (20 : Int32).toInt = 20 from rfl]
          omega
    · have := h1 s hs
      unfold XT at *
      rw [sUse_o (by omega), sUse_o (by omega), sUse_o (by omega), sUse_o (by omega), sUse_o (by omega)]
      omega
  · rw [sUse_o (by omega)] at hb
    have := h2 b hb
    unfold XB at *
    rw [sUse_o (by omega)]
    exact this
  · rw [sUse_o (by omega)] at hk
    have := h3 k hk
    unfold XY at *
    rw [sUse_o (by omega), sUse_o (by omega), sUse_o (by omega)]
    exact this
theorem xb_useBN {b : Nat} (h : XB A b) : ∀ {n : Nat}, XB (sUseBN A set n) b
  | 0 => h
  | n + 1 => by
    have ih := xb_useBN h (n := n)
    unfold sUseBN
    by_cases q : b = n
    · subst q
      unfold sUseB1
      by_cases g : bt set b = 1
      · rw [if_pos g]
        unfold XB at *
        rw [st_s]
        split
        · unfold fX11_more
          have e : (sUseBN A set b (48 + 3 * b + 1) - 1).toInt = (sUseBN A set b (48 + 3 * b + 1)).toInt - 1 := ti_sub (b := 1) (by rw [i1t]; omega)
          by_cases g2 : sUseBN A set b (48 + 3 * b + 1) - 1 ≤ -9
          · rw [if_pos g2]; decide
          · rw [if_neg g2, e]
            have := mt Int32.le_iff_toInt_le.mpr g2
            rw [e, show (-9 : Int32).toInt = -9 from rfl] at this
            omega
        · exact ih
      · rw [if_neg g]; exact ih
    · unfold XB at *
      rw [sUseB1_o (by omega)]
      exact ih
theorem xi_cal {e : Int32} (h : XI N A) (hw : W3 A) (hN : N < 2 ^ 30) (ht : t < (A 203).toNatClampNeg) : XI (N + 1) (sCal A t set e) := by
  have hu := xi_use (m := 0) h hw hN ht (by decide)
  have l1 := inn_lt hw.1
  have l2 := inn_lt hw.2.1
  have g : ∀ j, j < 48 ∨ 78 ≤ j → sCal A t set e j = (st (st (st (sUse A t 0) (8 * t + 3) e) (8 * t + 6) 0) (8 * t + 7) (A 210)) j := fun j hj => sUseBN_o (by omega)
  have gz : ∀ j, j < 48 ∨ 78 ≤ j → j ≠ 8 * t + 3 → j ≠ 8 * t + 6 → j ≠ 8 * t + 7 → sCal A t set e j = sUse A t 0 j := fun j h1 h2 h3 h4 => by rw [g j h1, st_n h4, st_n h3, st_n h2]
  have g6 : sCal A t set e (8 * t + 6) = 0 := by rw [g _ (by omega), st_n (by omega), st_s]
  obtain ⟨h1, h2, h3⟩ := hu
  refine ⟨fun s hs => ?_, fun b hb => ?_, fun k hk => ?_⟩
  · rw [gz _ (by omega) (by omega) (by omega) (by omega)] at hs
    have := h1 s hs
    unfold XT at *
    rw [gz (8 * s + 1) (by rw [sUse_o (by omega)] at hs; omega) (by omega) (by omega) (by omega), gz (8 * s + 2) (by rw [sUse_o (by omega)] at hs; omega) (by omega) (by omega) (by omega), gz (8 * s + 4) (by rw [sUse_o (by omega)] at hs; omega) (by omega) (by omega) (by omega), gz (8 * s + 5) (by rw [sUse_o (by omega)] at hs; omega) (by omega) (by omega) (by omega)]
    by_cases q : s = t
    · have g6s : sCal A t set e (8 * s + 6) = 0 := by rw [q]; exact g6
      rw [g6s]
      refine ⟨this.1, this.2.1, this.2.2.1, this.2.2.2.1, by decide, ?_⟩
      rw [show (0 : Int32).toInt = 0 from rfl]; omega
    · rw [gz (8 * s + 6) (by rw [sUse_o (by omega)] at hs; omega) (by omega) (by omega) (by omega)]
      exact this
  · rw [gz _ (by omega) (by omega) (by omega) (by omega)] at hb
    have hb' : b < (A 204).toNatClampNeg := by rw [sUse_o (by omega)] at hb; exact hb
    refine xb_useBN ?_
    have := h2 b hb
    unfold XB at *
    rw [st_n (by omega), st_n (by omega), st_n (by omega)]
    exact this
  · rw [gz _ (by omega) (by omega) (by omega) (by omega)] at hk
    have := h3 k hk
    unfold XY at *
    rw [gz _ (by omega) (by omega) (by omega) (by omega), gz _ (by omega) (by omega) (by omega) (by omega), gz _ (by omega) (by omega) (by omega) (by omega)]
    exact this
/-- what a record is, in numbers -/
def RC (A : Ar) (k M r b : Nat) : Prop := M < 3 ∧ r < 11 ∧ b < 2 ^ r ∧ A ((78 + 21 * k + 4)) = Int32.ofNat M ∧ A ((78 + 21 * k + 5)) = Int32.ofNat r ∧ A ((78 + 21 * k + 6)) = Int32.ofNat b
theorem rc_of (h : WY A k) : ∃ M r b, RC A k M r b := by
  obtain ⟨_, _, _, _, h4, h5, h6, _⟩ := h
  have l4 := inn_lt h4
  have l5 := inn_lt h5
  have e6 := rn_to h6.1
  refine ⟨(A ((78 + 21 * k + 4))).toNatClampNeg, (A ((78 + 21 * k + 5))).toNatClampNeg, (A ((78 + 21 * k + 6))).toNatClampNeg, l4, l5, ?_, (of_to h4.1).symm, (of_to h5.1).symm, (of_to h6.1).symm⟩
  have := h6.2
  rw [e6] at this
  exact_mod_cast this
theorem xi_notes {M r b : Nat} (h : XI N A) (hw : W3 A) (hk : k < (A 205).toNatClampNeg) (hR : RC A k M r b) (hb : x = 0 ∨ x = 1) : XI N (sNotes A k x) := by
  obtain ⟨h1, h2, h3⟩ := h
  have l1 := inn_lt hw.1
  have l2 := inn_lt hw.2.1
  have l3 := inn_lt hw.2.2
  obtain ⟨r1, r2, r3, r4, r5, r6⟩ := hR
  have hok := h3 k hk
  unfold XY at hok
  rw [r4, r5, r6] at hok
  have hn := sNotes_rec (A := A) (k := k) (bad := x)
  rw [r4, r5, r6] at hn
  refine ⟨fun t ht => ?_, fun b hb => ?_, fun i hi => ?_⟩
  · rw [sNotes_o (by omega)] at ht
    have := h1 t ht
    unfold XT at *
    rw [sNotes_o (by omega), sNotes_o (by omega), sNotes_o (by omega), sNotes_o (by omega), sNotes_o (by omega)]
    exact this
  · rw [sNotes_o (by omega)] at hb
    have := h2 b hb
    unfold XB at *
    rw [sNotes_o (by omega)]
    exact this
  · rw [sNotes_o (by omega)] at hi
    by_cases q : i = k
    · rw [q]
      unfold XY
      rw [hn.1, hn.2.1, hn.2.2]
      rcases hb with e | e
      · rw [e]; exact (rec_good M r1 r r2 b r3 hok).1
      · rw [e]; exact (rec_bad M r1 r r2 b r3 hok).1
    · have := h3 i hi
      unfold XY at *
      rw [sNotes_o (by omega), sNotes_o (by omega), sNotes_o (by omega)]
      exact this
end T51b
