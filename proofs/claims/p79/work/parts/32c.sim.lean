/-! THE PLAIN PART 3c: the bench's and the queue's changes, class and array. -/
section A32
variable {A : Ar} {p : Int32}
theorem lv_lo (hn : inn (A 206) 21) (h1 : A 206 ≠ 0) : (∀ j, (j < 183 ∨ 203 ≤ j) → j ≠ 206 → sLeave A j = A j) ∧ sLeave A 206 = A 206 - 1 ∧ (∀ i, i + 1 < (A 206).toNatClampNeg → sLeave A (183 + i) = A (183 + i + 1)) ∧ ((sLeave A) 206).toNatClampNeg = (A 206).toNatClampNeg - 1 ∧ 1 ≤ (A 206).toNatClampNeg ∧ (A 206).toNatClampNeg ≤ 20 := by
  have hN := inn_lt hn
  obtain ⟨e1, e2, e3, e4⟩ := sub1 hn h1
  have e206 : sLeave A 206 = A 206 - 1 := by unfold sLeave; rw [st_n (by omega), shf_o (by omega), st_s]
  refine ⟨fun j h1 h2 => ?_, e206, fun i hi => ?_, by rw [e206, e3], e2, by omega⟩
  · unfold sLeave; rw [st_n (by omega), shf_o (by omega), st_n h2]
  · unfold sLeave shf; rw [st_n (by omega), if_pos (by omega), st_n (by omega)]
theorem lq_lo (hn : inn (A 207) 3201) (h1 : A 207 ≠ 0) : (∀ j, j < 217 → j ≠ 207 → sLeaveQ A j = A j) ∧ sLeaveQ A 207 = A 207 - 1 ∧ (∀ i, i + 1 < (A 207).toNatClampNeg → sLeaveQ A (217 + i) = A (217 + i + 1)) ∧ ((sLeaveQ A) 207).toNatClampNeg = (A 207).toNatClampNeg - 1 ∧ 1 ≤ (A 207).toNatClampNeg ∧ (A 207).toNatClampNeg ≤ 3200 := by
  have hN := inn_lt hn
  obtain ⟨e1, e2, e3, e4⟩ := sub1 hn h1
  have e206 : sLeaveQ A 207 = A 207 - 1 := by unfold sLeaveQ; rw [st_n (by omega), shf_o (by omega), st_s]
  refine ⟨fun j h1 h2 => ?_, e206, fun i hi => ?_, by rw [e206, e3], e2, by omega⟩
  · unfold sLeaveQ; rw [st_n (by omega), shf_o (by omega), st_n h2]
  · unfold sLeaveQ shf; rw [st_n (by omega), if_pos (by omega), st_n (by omega)]
theorem add1 {x : Int32} {n : Nat} (h : inn x n) (hn : n ≤ 4000) : (x + 1).toInt = x.toInt + 1 ∧ (x + 1).toNatClampNeg = x.toNatClampNeg + 1 := by
  have h0 := h.1
  have h1 := h.2
  have e : (x + 1).toInt = x.toInt + 1 := ti_add (b := 1) (by rw [show (1 : Int32).toInt = 1 from rfl]; omega)
  have e1 := rn_to h0
  exact ⟨e, rn_of (by omega)⟩
theorem tb_lo (hn : inn (A 206) 20) : (∀ j, (j < 183 ∨ 203 ≤ j) → j ≠ 206 → sToB A p j = A j) ∧ sToB A p 206 = A 206 + 1 ∧ (∀ i, i < (A 206).toNatClampNeg → sToB A p (183 + i) = A (183 + i)) ∧ sToB A p (183 + (A 206).toNatClampNeg) = p ∧ ((sToB A p) 206).toNatClampNeg = (A 206).toNatClampNeg + 1 ∧ (A 206).toNatClampNeg < 20 := by
  have hN := inn_lt hn
  have e206 : sToB A p 206 = A 206 + 1 := by unfold sToB; rw [st_s, st_n (by omega)]
  refine ⟨fun j h1 h2 => ?_, e206, fun i hi => ?_, ?_, by rw [e206, (add1 hn (by omega)).2], hN⟩
  · unfold sToB; rw [st_n h2, st_n (by omega)]
  · unfold sToB; rw [st_n (by omega), st_n (by omega)]
  · unfold sToB; rw [st_n (by omega), st_s]
theorem tq_lo (hn : inn (A 207) 3200) : (∀ j, j < 217 → j ≠ 207 → sToQ A p j = A j) ∧ sToQ A p 207 = A 207 + 1 ∧ (∀ i, i < (A 207).toNatClampNeg → sToQ A p (217 + i) = A (217 + i)) ∧ sToQ A p (217 + (A 207).toNatClampNeg) = p ∧ ((sToQ A p) 207).toNatClampNeg = (A 207).toNatClampNeg + 1 ∧ (A 207).toNatClampNeg < 3200 := by
  have hN := inn_lt hn
  have e206 : sToQ A p 207 = A 207 + 1 := by unfold sToQ; rw [st_s, st_n (by omega)]
  refine ⟨fun j h1 h2 => ?_, e206, fun i hi => ?_, ?_, by rw [e206, (add1 hn (by omega)).2], hN⟩
  · unfold sToQ; rw [st_n h2, st_n (by omega)]
  · unfold sToQ; rw [st_n (by omega), st_n (by omega)]
  · unfold sToQ; rw [st_n (by omega), st_s]
end A32
section Q32c
variable {v : vSt} {b : Nat} {A : Ar} {t d x : Int32}
theorem kdW (hb : kd b = 7) : kd ((b + 2 + 4)) = 5 := kc_0_5 (kc_7_0 hb)
theorem kdF (hb : kd b = 7) : kd ((b + 2 + 5)) = 15 := (by decide +kernel : ∀ r, r < 470 → kd r = 7 → kd (r + 2 + 5) = 15) b (kd_lt (by rw [hb]; decide)) hb
theorem PO.f3 {v' : vSt} (hc : CP v b) (hf : Fr b v v') (hW : ∀ f, f ≠ 3 → v' ((b + 2 + 4)) f = v ((b + 2 + 4)) f) (hF : ∀ f, f ≠ 3 → v' ((b + 2 + 5)) f = v ((b + 2 + 5)) f) (hF3 : (v' ((b + 2 + 5)) 3).toInt ≤ (v ((b + 2 + 5)) 4).toInt) : PO b v v' := by
  refine ⟨hf, ?_, by rw [hW 4 (by omega)]; exact Nat.le_refl _, by rw [hF 4 (by omega)]; exact Nat.le_refl _⟩
  unfold CP
  rw [hW 4 (by omega), hW 5 (by omega), hW 6 (by omega), hF 4 (by omega), hF 5 (by omega), hF 6 (by omega)]
  exact ⟨hc.1, hc.2.1, hc.2.2.1, hc.2.2.2.1, hc.2.2.2.2.1, hF3⟩
theorem SR.leave (hb : kd b = 7) (h : SR v b A) (hw : WF A) (hc : CP v b) (h1 : A 206 ≠ 0) : SR (fX5_dropFirst ((b + 2 + 4)) v) b (sLeave A) ∧ PO b v (fX5_dropFirst ((b + 2 + 4)) v) ∧ oX5_dropFirst ((b + 2 + 4)) v := by
  obtain ⟨l1, l2, l3, l4, l5, l6⟩ := lv_lo hw.1.2.2.2.1 h1
  have hn := hw.1.2.2.2.1
  have hcW := chW hb
  have e0 := rn_to hn.1
  obtain ⟨hcw, c0, c1, c5, c6, c7⟩ := hc
  have z20 : (20 : Int32).toInt = 20 := rfl
  obtain ⟨d1, d2, d3, d4, d5⟩ := c_drop (v := v) (q := (b + 2 + 4)) (by rw [h.2.2.2.2.2.1.1]; omega) (by rw [h.2.2.2.2.2.1.1, hcw.1]; omega) (by rw [hcw.1, hcw.2.1]) (by rw [hcw.1, hcw.2.2])
  rw [hcW] at d1 d4
  refine ⟨?_, PO.f3 ⟨hcw, c0, c1, c5, c6, c7⟩ (fun q hq => d1 q (by omega) (by omega)) d2 (fun f _ => by rw [d1 _ (by omega) (by omega)]) (by rw [d1 _ (by omega) (by omega)]; exact c7), d5⟩
  refine SR.setE hb h hw (h.1.cg (d1 _ (by omega) (by omega)) ⟨l1 _ (by omega) (by omega), l1 _ (by omega) (by omega), l1 _ (by omega) (by omega), l1 _ (by omega) (by omega)⟩)
    (h.2.1.cg (d1 _ (by omega) (by omega)) ⟨l1 _ (by omega) (by omega), l1 _ (by omega) (by omega), fun j _ _ => l1 _ (by omega) (by omega)⟩) ?_
    (SR.cgF hb h.2.2.2.2.2.2 hw.1.2.2.2.2.1 (fun q hq => d1 q (by omega) (by omega)) ⟨l1 _ (by omega) (by omega), fun j _ _ => l1 _ (by omega) (by omega)⟩)
    (fun q _ _ => d1 q (by omega) (by omega)) ⟨l1 _ (by omega) (by omega), l1 _ (by omega) (by omega), l1 _ (by omega) (by omega)⟩ (fun j hj => l1 _ (by omega) (by omega))
  refine ⟨by rw [d3, l2, h.2.2.2.2.2.1.1], fun i hi => ?_⟩
  rw [l4] at hi
  have hp := h.2.2.2.2.2.1.2 (i + 1) (by omega)
  rw [hcW] at hp ⊢
  have hi2 : ((i : Nat) : Int) + 1 < (v ((b + 2 + 4)) 3).toInt := by rw [h.2.2.2.2.2.1.1]; omega
  rw [l3 i (by omega), show b + 8 = b + 8 + 0 from rfl, d4 0 i (by omega) hi2, d4 1 i (by omega) hi2, d4 2 i (by omega) hi2]
  exact hp
theorem SR.leaveQ (hb : kd b = 7) (h : SR v b A) (hw : WF A) (hc : CP v b) (h1 : A 207 ≠ 0) : SR (fX5_dropFirst ((b + 2 + 5)) v) b (sLeaveQ A) ∧ PO b v (fX5_dropFirst ((b + 2 + 5)) v) ∧ oX5_dropFirst ((b + 2 + 5)) v := by
  obtain ⟨l1, l2, l3, l4, l5, l6⟩ := lq_lo hw.1.2.2.2.2.1 h1
  have hn := hw.1.2.2.2.2.1
  have hcW := chF hb
  have e0 := rn_to hn.1
  obtain ⟨hcw, c0, c1, c5, c6, c7⟩ := hc
  obtain ⟨d1, d2, d3, d4, d5⟩ := c_drop (v := v) (q := (b + 2 + 5)) (by rw [h.2.2.2.2.2.2.1]; omega) c7 c5 c6
  rw [hcW] at d1 d4
  refine ⟨?_, PO.f3 ⟨hcw, c0, c1, c5, c6, c7⟩ (fun q hq => d1 q (by omega) (by omega)) (fun f _ => by rw [d1 _ (by omega) (by omega)]) d2 (by rw [d3, h.2.2.2.2.2.2.1, subOne hn.1, ← h.2.2.2.2.2.2.1]; omega), d5⟩
  refine SR.setE hb h hw (h.1.cg (d1 _ (by omega) (by omega)) ⟨l1 _ (by omega) (by omega), l1 _ (by omega) (by omega), l1 _ (by omega) (by omega), l1 _ (by omega) (by omega)⟩)
    (h.2.1.cg (d1 _ (by omega) (by omega)) ⟨l1 _ (by omega) (by omega), l1 _ (by omega) (by omega), fun j _ _ => l1 _ (by omega) (by omega)⟩)
    (SR.cgW hb h.2.2.2.2.2.1 hw.1.2.2.2.1 (fun q hq => d1 q (by omega) (by omega)) ⟨l1 _ (by omega) (by omega), fun j _ _ => l1 _ (by omega) (by omega)⟩) ?_
    (fun q _ _ => d1 q (by omega) (by omega)) ⟨l1 _ (by omega) (by omega), l1 _ (by omega) (by omega), l1 _ (by omega) (by omega)⟩ (fun j hj => l1 _ (by omega) (by omega))
  refine ⟨by rw [d3, l2, h.2.2.2.2.2.2.1], fun i hi => ?_⟩
  rw [l4] at hi
  have hp := h.2.2.2.2.2.2.2 (i + 1) (by omega)
  rw [hcW] at hp ⊢
  have hi2 : ((i : Nat) : Int) + 1 < (v ((b + 2 + 5)) 3).toInt := by rw [h.2.2.2.2.2.2.1]; omega
  rw [l3 i (by omega), show b + 11 = b + 11 + 0 from rfl, d4 0 i (by omega) hi2, d4 1 i (by omega) hi2, d4 2 i (by omega) hi2]
  exact hp
theorem SR.toB (hb : kd b = 7) (h : SR v b A) (hw : WF A) (hc : CP v b) (hn : inn (A 206) 20) (ht : inn t 8) (hd : -15000 ≤ d.toInt ∧ d.toInt ≤ 1000) :
    SR (fX5_putLast ((b + 2 + 4)) t d x v) b (sToB A (fX11_piece t d (if x = 0 then 0 else 1))) ∧ PO b v (fX5_putLast ((b + 2 + 4)) t d x v) ∧ oX5_putLast ((b + 2 + 4)) t d x v ∧ fX5_putLast ((b + 2 + 4)) t d x v ((b + 2 + 4)) 3 = A 206 + 1 ∧ pot (fX5_putLast ((b + 2 + 4)) t d x v) = pot v := by
  obtain ⟨l1, l2, l3, l4, l5, l6⟩ := tb_lo (p := fX11_piece t d (if x = 0 then 0 else 1)) hn
  have hcW := chW hb
  have e0 := rn_to hn.1
  have e1 := hn.2
  obtain ⟨hcw, c0, c1, c5, c6, c7⟩ := hc
  have z20 : (20 : Int32).toInt = 20 := rfl
  have e3 := h.2.2.2.2.2.1.1
  have ea := (add1 hn (by omega)).1
  obtain ⟨m1, m2⟩ := mr_no (v := v) (q := (b + 2 + 4)) (w := v ((b + 2 + 4)) 3 + 1) (by rw [hcw.1]; decide) (by rw [e3, hcw.1, ea]; omega)
  obtain ⟨d1, d2, d3, d4, d5, d6, d7, d8, d9⟩ := c_put (v := v) (v3 := v) (q := (b + 2 + 4)) (p1 := t) (p2 := d) (p3 := x) (Or.inl (kdW hb)) m1.symm m2 (Nat.le_refl _) (by rw [e3, hcw.1]; omega) (by rw [hcw.1, hcw.2.1]) (by rw [hcw.1, hcw.2.2])
  rw [e3] at d3 d4 d5 d6 d7
  rw [hcW] at d1 d4 d5 d6 d7
  refine ⟨?_, PO.f3 ⟨hcw, c0, c1, c5, c6, c7⟩ (fun q hq => d1 q (by omega) (by omega)) d2 (fun f _ => by rw [d1 _ (by omega) (by omega)]) (by rw [d1 _ (by omega) (by omega)]; exact c7), d8, d3, d9⟩
  refine SR.setE hb h hw (h.1.cg (d1 _ (by omega) (by omega)) ⟨l1 _ (by omega) (by omega), l1 _ (by omega) (by omega), l1 _ (by omega) (by omega), l1 _ (by omega) (by omega)⟩)
    (h.2.1.cg (d1 _ (by omega) (by omega)) ⟨l1 _ (by omega) (by omega), l1 _ (by omega) (by omega), fun j _ _ => l1 _ (by omega) (by omega)⟩) ?_
    (SR.cgF hb h.2.2.2.2.2.2 hw.1.2.2.2.2.1 (fun q hq => d1 q (by omega) (by omega)) ⟨l1 _ (by omega) (by omega), fun j _ _ => l1 _ (by omega) (by omega)⟩)
    (fun q _ _ => d1 q (by omega) (by omega)) ⟨l1 _ (by omega) (by omega), l1 _ (by omega) (by omega), l1 _ (by omega) (by omega)⟩ (fun j hj => l1 _ (by omega) (by omega))
  refine ⟨by rw [d3, l2], fun i hi => ?_⟩
  rw [l5] at hi
  rw [hcW]
  by_cases hin : i = (A 206).toNatClampNeg
  · subst hin
    obtain ⟨p1, p2, p3⟩ := pc_dec ht hd (x := if x = 0 then 0 else 1) (by split <;> decide)
    rw [l4, d5, d6, d7, p1, p2, p3]
    exact ⟨rfl, rfl, rfl⟩
  · have hp := h.2.2.2.2.2.1.2 i (by omega)
    rw [hcW] at hp
    rw [l3 i (by omega), show b + 8 = b + 8 + 0 from rfl, d4 0 i (by omega) hin, d4 1 i (by omega) hin, d4 2 i (by omega) hin]
    exact hp
theorem SR.toQ (hb : kd b = 7) (h : SR v b A) (hw : WF A) (hc : CP v b) (hn : inn (A 207) 3200) (ht : inn t 8) (hd : -15000 ≤ d.toInt ∧ d.toInt ≤ 1000) :
    SR (fX5_putLast ((b + 2 + 5)) t d x v) b (sToQ A (fX11_piece t d (if x = 0 then 0 else 1))) ∧ PO b v (fX5_putLast ((b + 2 + 5)) t d x v) ∧ oX5_putLast ((b + 2 + 5)) t d x v := by
  obtain ⟨l1, l2, l3, l4, l5, l6⟩ := tq_lo (p := fX11_piece t d (if x = 0 then 0 else 1)) hn
  have hcW := chF hb
  have e0 := rn_to hn.1
  have e1 := hn.2
  have e3 := h.2.2.2.2.2.2.1
  have ea := (add1 hn (by omega)).1
  have c7 := hc.2.2.2.2.2
  rw [e3] at c7
  obtain ⟨v3, m1, m2, m3, m4, m5, m6, m7, m8, m9⟩ := mr_f (v := v) (w := v ((b + 2 + 5)) 3 + 1) hb hc (by rw [e3, ea]; omega)
  obtain ⟨hcw, k0, k1, k5, k6, k7⟩ := m4
  rw [e3, ea] at m6
  rw [e3] at m3
  obtain ⟨d1, d2, d3, d4, d5, d6, d7, d8, d9⟩ := c_put (v := v) (v3 := v3) (q := (b + 2 + 5)) (p1 := t) (p2 := d) (p3 := x) (Or.inr (kdF hb)) m1 m8 m9 (by rw [m3]; omega) k5 k6
  rw [m3] at d3 d4 d5 d6 d7
  rw [hcW] at d1 d4 d5 d6 d7
  have dd : ∀ r, r ≠ (b + 2 + 5) → (r < b + 11 ∨ b + 14 ≤ r) → fX5_putLast ((b + 2 + 5)) t d x v r = v r := fun r h1 h2 => (d1 r h1 (by omega)).trans (m2 r h1 h2)
  refine ⟨?_, ⟨fun q hq => dd q (by omega) (by omega), ?_, by rw [dd _ (by omega) (by omega)]; exact Nat.le_refl _, ?_⟩, d8⟩
  · refine SR.setE hb h hw (h.1.cg (dd _ (by omega) (by omega)) ⟨l1 _ (by omega) (by omega), l1 _ (by omega) (by omega), l1 _ (by omega) (by omega), l1 _ (by omega) (by omega)⟩)
      (h.2.1.cg (dd _ (by omega) (by omega)) ⟨l1 _ (by omega) (by omega), l1 _ (by omega) (by omega), fun j _ _ => l1 _ (by omega) (by omega)⟩)
      (SR.cgW hb h.2.2.2.2.2.1 hw.1.2.2.2.1 (fun q hq => dd q (by omega) (by omega)) ⟨l1 _ (by omega) (by omega), fun j _ _ => l1 _ (by omega) (by omega)⟩) ?_
      (fun q _ _ => dd q (by omega) (by omega)) ⟨l1 _ (by omega) (by omega), l1 _ (by omega) (by omega), l1 _ (by omega) (by omega)⟩ (fun j hj => l1 _ (by omega) (by omega))
    refine ⟨by rw [d3, l2], fun i hi => ?_⟩
    rw [l5] at hi
    rw [hcW]
    by_cases hin : i = (A 207).toNatClampNeg
    · subst hin
      obtain ⟨p1, p2, p3⟩ := pc_dec ht hd (x := if x = 0 then 0 else 1) (by split <;> decide)
      rw [l4, d5, d6, d7, p1, p2, p3]
      exact ⟨rfl, rfl, rfl⟩
    · have hp := h.2.2.2.2.2.2.2 i (by omega)
      rw [hcW] at hp
      rw [l3 i (by omega), show b + 11 = b + 11 + 0 from rfl, d4 0 i (by omega) hin, d4 1 i (by omega) hin, d4 2 i (by omega) hin, m7 0 i (by omega) (by omega), m7 1 i (by omega) (by omega), m7 2 i (by omega) (by omega)]
      exact hp
  · unfold CP
    rw [dd ((b + 2 + 4)) (by omega) (by omega), ← m2 ((b + 2 + 4)) (by omega) (by omega), d2 4 (by omega), d2 5 (by omega), d2 6 (by omega), d3, ea]
    exact ⟨hcw, k0, k1, k5, k6, m6⟩
  · rw [d2 4 (by omega)]
    have a1 : (rN (v ((b + 2 + 5)) 4) : Int) = (v ((b + 2 + 5)) 4).toInt := i_rN (by have := hc.2.1; omega)
    have a2 : (rN (v3 ((b + 2 + 5)) 4) : Int) = (v3 ((b + 2 + 5)) 4).toInt := i_rN (by omega)
    omega
end Q32c
