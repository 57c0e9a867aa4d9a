/-! THE PLAIN PART 8b: queues copied; the whole block. -/
section R37b
variable {v v3 : vSt} {b s q o : Nat} {A : Ar}
theorem cp_queue (hq : kd q = 5 ∨ kd q = 15) (ho : kd o = 5 ∨ kd o = 15) (hap : q + 16 ≤ o ∨ o + 16 ≤ q) (e3 : v3 = fX5_makeRoom q (v o 3) v) (hmo : oX5_makeRoom q (v o 3) v) (hpm : pot v ≤ pot v3) (hvo : ∀ r, o ≤ r → r < o + 8 → v3 r = v r)
    (hn : 0 ≤ (v o 3).toInt ∧ (v o 3).toInt ≤ (v3 q 4).toInt) (h5 : v3 q 5 = v3 q 4) (h6 : v3 q 6 = v3 q 4) (hno : (v o 3).toInt ≤ (v o 4).toInt) (g5 : v o 5 = v o 4) (g6 : v o 6 = v o 4) :
    (∀ r, r ≠ q → (r < chP q ∨ chP q + 3 ≤ r) → fX5_copyFrom q o v r = v3 r) ∧ (∀ f, f ≠ 3 → fX5_copyFrom q o v q f = v3 q f) ∧ fX5_copyFrom q o v q 3 = v o 3 ∧
    (∀ e i : Nat, e < 3 → (i : Int) < (v o 3).toInt → fX5_copyFrom q o v (chP q + e) i = v (chP o + e) i) ∧ oX5_copyFrom q o v ∧ pot (fX5_copyFrom q o v) = pot v3 := by
  have hc := ch_or q
  have hco := ch_or o
  have cr : (rN (v3 q 4) : Int) = (v3 q 4).toInt := i_rN (by omega)
  have cro : (rN (v o 4) : Int) = (v o 4).toInt := i_rN (by omega)
  have en := rn_to hn.1
  have o3 : v3 o = v o := hvo o (by omega) (by omega)
  have emin : (if Int32.ofNat (rN (v3 q 4)) < v o 3 then Int32.ofNat (rN (v3 q 4)) else v o 3 : Int32) = v o 3 := if_neg (by rw [ofrN (by omega), Int32.lt_iff_toInt_lt]; omega)
  have ef : fX5_copyFrom q o v = uA (uA (uA (u2 v3 q 3 (v o 3)) (chP q) (va_cpy (v (chP o)) (v3 (chP q)) 0 0 (v o 3).toNatClampNeg)) (chP q + 1) (va_cpy (v (chP o + 1)) (v3 (chP q + 1)) 0 0 (v o 3).toNatClampNeg)) (chP q + 2) (va_cpy (v (chP o + 2)) (v3 (chP q + 2)) 0 0 (v o 3).toNatClampNeg) := by
    unfold fX5_copyFrom
    rw [← e3]
    simp only []
    rw [o3, emin]
    rw [uA_n (show chP o + 2 ≠ chP q + 1 by omega), uA_n (show chP o + 2 ≠ chP q by omega), uA_n (show chP o + 1 ≠ chP q by omega), uA_n (show chP q + 2 ≠ chP q + 1 by omega), uA_n (show chP q + 2 ≠ chP q by omega), uA_n (show chP q + 1 ≠ chP q by omega), uA_n (show q ≠ chP q + 1 by omega), uA_n (show q ≠ chP q by omega)]
    rw [u2_r (show chP o + 2 ≠ q by omega), u2_r (show chP o + 1 ≠ q by omega), u2_r (show chP o ≠ q by omega), u2_r (show chP q + 2 ≠ q by omega), u2_r (show chP q + 1 ≠ q by omega), u2_r (show chP q ≠ q by omega), u2_s, hvo (chP o) (by omega) (by omega), hvo (chP o + 1) (by omega) (by omega), hvo (chP o + 2) (by omega) (by omega)]
    rfl
  have hk := row_kd hq
  have hpot : pot (fX5_copyFrom q o v) = pot v3 := by
    refine pot_cg (fun r hr => ?_)
    rw [ef]
    have h0 : kd (chP q) = 23 := hk 0 (by omega)
    have h1 := hk 1 (by omega)
    have h2 := hk 2 (by omega)
    have ne : ∀ k, kd k = 23 → r ≠ k := fun k hk e => by rw [e, hk] at hr; rcases hr with h | h <;> exact absurd h (by decide)
    rw [uA_n (ne _ h2), uA_n (ne _ h1), uA_n (ne _ h0)]
    by_cases e : r = q
    · subst e
      rw [u2_q, if_neg (by omega)]
    · rw [u2_r e]
  refine ⟨fun r h1 h2 => ?_, fun f hf => ?_, ?_, fun e i he hi => ?_, ?_, hpot⟩
  · rw [ef, uA_n (by omega), uA_n (by omega), uA_n (by omega), u2_r h1]
  · rw [ef, uA_n (by omega), uA_n (by omega), uA_n (by omega), u2_q, if_neg hf]
  · rw [ef, uA_n (by omega), uA_n (by omega), uA_n (by omega), u2_q, if_pos rfl]
  · have he : e = 0 ∨ e = 1 ∨ e = 2 := by omega
    rcases he with rfl | rfl | rfl
    · rw [ef, uA_n (by omega), uA_n (by omega), Nat.add_zero, uA_s, cpy_0 (by omega)]
      rfl
    · rw [ef, uA_n (by omega), uA_s, cpy_0 (by omega)]
    · rw [ef, uA_s, cpy_0 (by omega)]
  · unfold oX5_copyFrom
    have z0 : (0 : Int32).toInt = 0 := rfl
    refine ⟨hmo, ?_, fun v3' e3' v4 e4 => ?_⟩
    · unfold kkX5_makeRoom kkX5_copyFrom
      rw [hpot, ← e3]
      omega
    rw [← e3] at e3'
    subst e3'
    have a3 : v4 q 3 = v o 3 := by rw [e4, u2_s, o3, emin]
    have a4 : v4 q 4 = v3' q 4 := by rw [e4, u2_q, if_neg (by omega)]
    have a5 : v4 q 5 = v3' q 5 := by rw [e4, u2_q, if_neg (by omega)]
    have a6 : v4 q 6 = v3' q 6 := by rw [e4, u2_q, if_neg (by omega)]
    have ao : v4 o = v o := by rw [e4, u2_r (by omega), o3]
    refine ⟨?_, fun v6 e6 => ?_⟩
    · rw [a3, a4, ao]; exact ⟨by omega, by omega, by omega, by omega, by omega⟩
    have b4 : v6 q = v4 q := by rw [e6, uA_n (by omega)]
    have bo : v6 o = v o := by rw [e6, uA_n (by omega), ao]
    refine ⟨?_, fun v8 e8 => ?_⟩
    · rw [b4, a3, a5, bo, g5, h5]; exact ⟨by omega, by omega, by omega, by omega, by omega⟩
    have b6 : v8 q = v4 q := by rw [e8, uA_n (by omega), b4]
    have bo8 : v8 o = v o := by rw [e8, uA_n (by omega), bo]
    rw [b6, a3, a6, bo8, g6, h6]; exact ⟨by omega, by omega, by omega, by omega, by omega⟩
/-- the drawer copied -/
theorem c_copyD (hb : kd b = 7) (hs : kd s = 7) (hne : b ≠ s) (h : SR v s A) (hw : WF A) :
    ∃ w, w = fX2_copyFrom (b + 1) (s + 1) v ∧ oX2_copyFrom (b + 1) (s + 1) v ∧ SRd w b A ∧ SRt w b A ∧ SRb w b A ∧ (∀ q, q ≠ b + 1 → (q < ((b + 1 + 2) + 13 + 0) ∨ ((b + 1 + 3) + 20 + 10) ≤ q) → w q = v q) := by
  have hap := kd_ap hb hs hne
  obtain ⟨d1, d2, d3, d4⟩ := h.1
  have n1 := inn_lt hw.1.1
  have n2 := inn_lt hw.1.2.1
  have t1 := of_to hw.1.1.1
  have t2 := of_to hw.1.2.1.1
  have i1 := rn_to hw.1.1.1
  have i2 := rn_to hw.1.2.1.1
  obtain ⟨l1, l2, l3, l4⟩ := cpl_tool (b := b) (s := s) hap (N := (A 203).toNatClampNeg) (by omega) ((A 203).toNatClampNeg + 1) 0 (u2 v (b + 1) 2 (A 203)) (by rw [u2_s, t1]) (by omega) (by omega)
  have l1 : ∀ q, (q < ((b + 1 + 2) + 13 + 0) ∨ ((b + 1 + 2) + 13 + 6) ≤ q) → lX2_copyFrom_18 (b + 1) (s + 1) ((A 203).toNatClampNeg + 1) 0 (u2 v (b + 1) 2 (A 203)) q = u2 v (b + 1) 2 (A 203) q := l1
  have l2 : ∀ t, 0 ≤ t → t < (A 203).toNatClampNeg → ∀ j, j < 9 → lX2_copyFrom_18 (b + 1) (s + 1) ((A 203).toNatClampNeg + 1) 0 (u2 v (b + 1) 2 (A 203)) (((b + 1 + 2) + 13 + t)) j = u2 v (b + 1) 2 (A 203) (((s + 1 + 2) + 13 + t)) j := l2
  have e4s : lX2_copyFrom_18 (b + 1) (s + 1) ((A 203).toNatClampNeg + 1) 0 (u2 v (b + 1) 2 (A 203)) (s + 1) = v (s + 1) := by rw [l1 _ (by omega), u2_r (by omega)]
  have e4b : ∀ f, f ≠ 2 → lX2_copyFrom_18 (b + 1) (s + 1) ((A 203).toNatClampNeg + 1) 0 (u2 v (b + 1) 2 (A 203)) (b + 1) f = v (b + 1) f := fun f hf => by rw [l1 _ (by omega), u2_q, if_neg hf]
  have e4b2 : lX2_copyFrom_18 (b + 1) (s + 1) ((A 203).toNatClampNeg + 1) 0 (u2 v (b + 1) 2 (A 203)) (b + 1) 2 = A 203 := by rw [l1 _ (by omega), u2_s]
  generalize hv4 : lX2_copyFrom_18 (b + 1) (s + 1) ((A 203).toNatClampNeg + 1) 0 (u2 v (b + 1) 2 (A 203)) = v4 at l1 l2 e4s e4b e4b2
  obtain ⟨k1, k2, k3, k4⟩ := cpl_block (b := b) (s := s) hap (N := (A 204).toNatClampNeg) (by omega) ((A 204).toNatClampNeg + 1) 0 (u2 v4 (b + 1) 3 (A 204)) (by rw [u2_s, t2]) (by omega) (by omega)
  have k1 : ∀ q, (q < ((b + 1 + 3) + 20 + 0) ∨ ((b + 1 + 3) + 20 + 10) ≤ q) → lX2_copyFrom_65 (b + 1) (s + 1) ((A 204).toNatClampNeg + 1) 0 (u2 v4 (b + 1) 3 (A 204)) q = u2 v4 (b + 1) 3 (A 204) q := k1
  have k2 : ∀ t, 0 ≤ t → t < (A 204).toNatClampNeg → ∀ j, j < 3 → lX2_copyFrom_65 (b + 1) (s + 1) ((A 204).toNatClampNeg + 1) 0 (u2 v4 (b + 1) 3 (A 204)) (((b + 1 + 3) + 20 + t)) j = u2 v4 (b + 1) 3 (A 204) (((s + 1 + 3) + 20 + t)) j := k2
  have e10s : lX2_copyFrom_65 (b + 1) (s + 1) ((A 204).toNatClampNeg + 1) 0 (u2 v4 (b + 1) 3 (A 204)) (s + 1) = v (s + 1) := by rw [k1 _ (by omega), u2_r (by omega), e4s]
  have ef : fX2_copyFrom (b + 1) (s + 1) v = u2 (u2 (lX2_copyFrom_65 (b + 1) (s + 1) ((A 204).toNatClampNeg + 1) 0 (u2 v4 (b + 1) 3 (A 204))) (b + 1) 4 (A 208)) (b + 1) 5 (A 210) := by
    have hs1 : ∀ (w : vSt) k y, u2 w (b + 1) k y (s + 1) = w (s + 1) := fun w k y => u2_r (by omega)
    unfold fX2_copyFrom
    simp only [d1, u2_s, fu0, hv4, e4s, d2, e10s, hs1, d3, d4]
  refine ⟨_, rfl, ?_, ?_, fun t ht => ?_, fun t ht => ?_, fun q hq1 hq2 => ?_⟩
  · unfold oX2_copyFrom
    intro v1 e1
    rw [d1] at e1
    rw [e1, u2_s, fu0, hv4]
    refine ⟨l4, fun v4' e4' v7 e7 => ?_⟩
    rw [e7, e4', e4s, d2, u2_s, fu0]
    exact k4
  · unfold SRd
    rw [ef]
    simp only [u2_q]
    rw [k1 _ (by omega)]
    simp only [u2_q]
    exact ⟨by simp [e4b2], by simp, by simp, by simp⟩
  · have ht6 : t < 6 := by omega
    rw [ef, u2_r (by omega), u2_r (by omega), k1 _ (by omega), u2_r (by omega)]
    have hj : ∀ j, j < 9 → v4 (((b + 1 + 2) + 13 + t)) j = v (((s + 1 + 2) + 13 + t)) j := fun j hj => by rw [l2 t (by omega) ht j hj, u2_r (by omega)]
    obtain ⟨a0, a1, a2, a3, a4, a5, a6, a7, a8⟩ := h.2.2.1 t ht
    unfold tR
    rw [hj 0 (by omega), hj 1 (by omega), hj 2 (by omega), hj 3 (by omega), hj 4 (by omega), hj 5 (by omega), hj 6 (by omega), hj 7 (by omega), hj 8 (by omega)]
    exact ⟨a0, a1, a2, a3, a4, a5, a6, a7, a8⟩
  · have ht6 : t < 10 := by omega
    rw [ef, u2_r (by omega), u2_r (by omega)]
    have hj : ∀ j, j < 3 → lX2_copyFrom_65 (b + 1) (s + 1) ((A 204).toNatClampNeg + 1) 0 (u2 v4 (b + 1) 3 (A 204)) (((b + 1 + 3) + 20 + t)) j = v (((s + 1 + 3) + 20 + t)) j := fun j hj => by rw [k2 t (by omega) ht j hj, u2_r (by omega), l1 _ (by omega), u2_r (by omega)]
    obtain ⟨a0, a1, a2⟩ := h.2.2.2.1 t ht
    unfold bR
    rw [hj 0 (by omega), hj 1 (by omega), hj 2 (by omega)]
    exact ⟨a0, a1, a2⟩
  · rw [ef, u2_r hq1, u2_r hq1, k1 _ (by omega), u2_r hq1, l1 _ (by omega), u2_r hq1]
end R37b
