/-! P79, PLAIN 7c: XJ, kept by every order. -/
section T53c
variable {A A' B : Ar} {N t k : Nat} {m x p p1 p2 p3 p4 set len : Int32}
theorem XJ.ext (h : XJ A) (hw : WFc A) (e : eqA A' A) : XJ A' := by
  have l1 := inn_lt hw.1
  have l3 := inn_lt hw.2.2.1
  have l4 := inn_lt hw.2.2.2.1
  have l5 := inn_lt hw.2.2.2.2.1
  obtain ⟨h1, h2, h3, h4⟩ := h
  refine ⟨fun t ht => ?_, fun i hi => ?_, fun i hi => ?_, fun k hk j hj => ?_⟩
  · rw [e _ (by omega)] at ht
    rw [e _ (by omega)]; exact h1 t ht
  · rw [e _ (by omega)] at hi
    rw [e _ (by omega)]; exact h2 i hi
  · rw [e _ (by omega)] at hi
    rw [e _ (by omega)]; exact h3 i hi
  · rw [e _ (by omega)] at hk
    rw [e _ (by omega)]; exact h4 k hk j hj
theorem xj_use (h : XJ A) (ht : t < 6) : XJ (sUse A t m) := by
  obtain ⟨h1, h2, h3, h4⟩ := h
  refine ⟨fun s hs => ?_, fun i hi => ?_, fun i hi => ?_, fun k hk j hj => ?_⟩
  · rw [sUse_o (by omega)] at hs
    rw [sUse_o (by omega)]; exact h1 s hs
  · rw [sUse_o (by omega)] at hi
    rw [sUse_o (by omega)]; exact h2 i hi
  · rw [sUse_o (by omega)] at hi
    rw [sUse_o (by omega)]; exact h3 i hi
  · rw [sUse_o (by omega)] at hk
    rw [sUse_o (by omega)]; exact h4 k hk j hj
theorem xj_cal {e : Int32} (h : XJ A) (hw : W3 A) (ht : t < 6) (he : -200 ≤ e.toInt ∧ e.toInt ≤ 200) : XJ (sCal A t set e) := by
  have l1 := inn_lt hw.1
  have l2 := inn_lt hw.2.1
  obtain ⟨h1, h2, h3, h4⟩ := xj_use (m := 0) h ht
  have g : ∀ j, j < 48 ∨ 78 ≤ j → sCal A t set e j = (st (st (st (sUse A t 0) (8 * t + 3) e) (8 * t + 6) 0) (8 * t + 7) (A 210)) j := fun j hj => sUseBN_o (by omega)
  have gz : ∀ j, 78 ≤ j → sCal A t set e j = sUse A t 0 j := fun j h1 => by rw [g j (by omega), st_n (by omega), st_n (by omega), st_n (by omega)]
  refine ⟨fun s hs => ?_, fun i hi => ?_, fun i hi => ?_, fun k hk j hj => ?_⟩
  · rw [gz _ (by omega)] at hs
    have hs6 : s < 6 := by rw [sUse_o (by omega)] at hs; omega
    by_cases q : s = t
    · subst q
      rw [g _ (by omega), st_n (by omega), st_n (by omega), st_s]
      exact he
    · rw [g _ (by omega), st_n (by omega), st_n (by omega), st_n (by omega)]
      exact h1 s hs
  · rw [gz _ (by omega)] at hi
    rw [gz _ (by omega)]; exact h2 i hi
  · rw [gz _ (by omega)] at hi
    rw [gz _ (by omega)]; exact h3 i hi
  · rw [gz _ (by omega)] at hk
    rw [gz _ (by omega)]; exact h4 k hk j hj
/-- what agrees but for the bench, the queue and the counts -/
theorem xj_hd (h : XJ A) (hw : W3 A) (h1 : ∀ j, j < 183 → A' j = A j) (h2 : A' 203 = A 203 ∧ A' 205 = A 205) (h3 : ∀ i, i < (A' 206).toNatClampNeg → -400 ≤ dv (A' (183 + i)) ∧ dv (A' (183 + i)) ≤ 200) (h4 : ∀ i, i < (A' 207).toNatClampNeg → -300 ≤ dv (A' (217 + i)) ∧ dv (A' (217 + i)) ≤ 200) : XJ A' := by
  have l1 := inn_lt hw.1
  have l3 := inn_lt hw.2.2
  refine ⟨fun t ht => ?_, h3, h4, fun k hk j hj => ?_⟩
  · rw [h2.1] at ht
    rw [h1 _ (by omega)]; exact h.1 t ht
  · rw [h2.2] at hk
    rw [h1 _ (by omega)]; exact h.2.2.2 k hk j hj
theorem xj_leave (h : XJ A) (hw : W3 A) (hn : inn (A 206) 21) (h0 : A 206 ≠ 0) : XJ (sLeave A) := by
  obtain ⟨a1, a2, a3, a4, a5, a6⟩ := lv_lo hn h0
  refine xj_hd h hw (fun j hj => a1 j (by omega) (by omega)) ⟨a1 _ (by omega) (by omega), a1 _ (by omega) (by omega)⟩ (fun i hi => ?_) (fun i hi => ?_)
  · rw [a4] at hi
    rw [a3 i (by omega)]; exact h.2.1 (i + 1) (by omega)
  · rw [a1 _ (by omega) (by omega)] at hi
    rw [a1 _ (by omega) (by omega)]; exact h.2.2.1 i hi
theorem xj_leaveQ (h : XJ A) (hw : W3 A) (hW : inn (A 206) 21) (hn : inn (A 207) 3201) (h0 : A 207 ≠ 0) : XJ (sLeaveQ A) := by
  obtain ⟨a1, a2, a3, a4, a5, a6⟩ := lq_lo hn h0
  refine xj_hd h hw (fun j hj => a1 j (by omega) (by omega)) ⟨a1 _ (by omega) (by omega), a1 _ (by omega) (by omega)⟩ (fun i hi => ?_) (fun i hi => ?_)
  · rw [a1 _ (by omega) (by omega)] at hi
    have lW := inn_lt hW
    rw [a1 _ (by omega) (by omega)]
    exact h.2.1 i hi
  · rw [a4] at hi
    rw [a3 i (by omega)]; exact h.2.2.1 (i + 1) (by omega)
theorem xj_toB (h : XJ A) (hw : W3 A) (hn : inn (A 206) 20) (hx : -400 ≤ dv x ∧ dv x ≤ 200) : XJ (sToB A x) := by
  obtain ⟨a1, a2, a3, a4, a5, a6⟩ := tb_lo (p := x) hn
  refine xj_hd h hw (fun j hj => a1 j (by omega) (by omega)) ⟨a1 _ (by omega) (by omega), a1 _ (by omega) (by omega)⟩ (fun i hi => ?_) (fun i hi => ?_)
  · rw [a5] at hi
    by_cases q : i = (A 206).toNatClampNeg
    · rw [q, a4]; exact hx
    · rw [a3 i (by omega)]; exact h.2.1 i (by omega)
  · rw [a1 _ (by omega) (by omega)] at hi
    rw [a1 _ (by omega) (by omega)]; exact h.2.2.1 i hi
theorem xj_toQ (h : XJ A) (hw : W3 A) (hW : inn (A 206) 21) (hn : inn (A 207) 3200) (hx : -300 ≤ dv x ∧ dv x ≤ 200) : XJ (sToQ A x) := by
  have lW := inn_lt hW
  obtain ⟨a1, a2, a3, a4, a5, a6⟩ := tq_lo (p := x) hn
  refine xj_hd h hw (fun j hj => a1 j (by omega) (by omega)) ⟨a1 _ (by omega) (by omega), a1 _ (by omega) (by omega)⟩ (fun i hi => ?_) (fun i hi => ?_)
  · rw [a1 _ (by omega) (by omega)] at hi
    rw [a1 _ (by omega) (by omega)]; exact h.2.1 i hi
  · rw [a5] at hi
    by_cases q : i = (A 207).toNatClampNeg
    · rw [q, a4]; exact hx
    · rw [a3 i (by omega)]; exact h.2.2.1 i (by omega)
/-- a count or a flag -/
theorem xj_st {j : Nat} (h : XJ A) (h1 : (j = 204 ∨ 208 ≤ j ∧ j ≤ 216) ∨ ∃ k, k < 5 ∧ (j = (78 + 21 * k + 4) ∨ j = (78 + 21 * k + 5) ∨ j = (78 + 21 * k + 6) ∨ j = (78 + 21 * k + 7) ∨ j = (78 + 21 * k + 8))) (hw : W3 A) (hW : inn (A 206) 21) : XJ (st A j x) := by
  have l1 := inn_lt hw.1
  have l3 := inn_lt hw.2.2
  have l4 := inn_lt hW
  have g : ∀ i, (i < 78 ∨ 183 ≤ i ∧ i ≤ 207 ∧ i ≠ 204 ∨ 217 ≤ i) → st A j x i = A i := fun i hi => st_n (by
    rcases h1 with q | ⟨k, q1, q2⟩ <;> omega)
  have g2 : ∀ k, k < 5 → ∀ i, i < 12 → st A j x ((78 + 21 * k + (9 + i))) = A ((78 + 21 * k + (9 + i))) := fun k hk i hi => st_n (by
    rcases h1 with q | ⟨k', q1, q2⟩ <;> omega)
  obtain ⟨h1, h2, h3, h4⟩ := h
  refine ⟨fun t ht => ?_, fun i hi => ?_, fun i hi => ?_, fun k hk i hi => ?_⟩
  · rw [g _ (by omega)] at ht
    rw [g _ (by omega)]; exact h1 t ht
  · rw [g _ (by omega)] at hi
    rw [g _ (by omega)]; exact h2 i hi
  · rw [g _ (by omega)] at hi
    rw [g _ (by omega)]; exact h3 i hi
  · rw [g _ (by omega)] at hk
    rw [g2 k (by omega) i hi]; exact h4 k hk i hi
end T53c
