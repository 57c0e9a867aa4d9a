/-! THE PLAIN PART 6: orders performed on a block: bringing, passing, filing. -/
def AC (A : Ar) : Prop := WFa A
theorem SR.acc {v : vSt} {b : Nat} {A : Ar} (hb : kd b = 7) (h : SR v b A) (hw : WF A) {f j : Nat} {y : Int32} (hfj : (f = 4 ∧ j = 209) ∨ (5 ≤ f ∧ f ≤ 10 ∧ j = f + 206)) : SR (u2 v (b + 2) f y) b (st A j y) := by
  have hr : ∀ q, q ≠ b + 2 → u2 v (b + 2) f y q = v q := fun q hq => u2_r hq
  obtain ⟨e1, e2, e3, e4, e5, e6, e7, e8⟩ := h.2.1
  have hA : ∀ i, i ≠ j → st A j y i = A i := fun i hi => st_n hi
  refine SR.setE hb h hw (h.1.cg (hr _ (by omega)) ⟨hA _ (by omega), hA _ (by omega), hA _ (by omega), hA _ (by omega)⟩) ?_
    (SR.cgW hb h.2.2.2.2.2.1 hw.1.2.2.2.1 (fun q hq => hr q (by omega)) ⟨hA _ (by omega), fun i _ _ => hA _ (by omega)⟩)
    (SR.cgF hb h.2.2.2.2.2.2 hw.1.2.2.2.2.1 (fun q hq => hr q (by omega)) ⟨hA _ (by omega), fun i _ _ => hA _ (by omega)⟩)
    (fun q _ _ => hr q (by omega)) ⟨hA _ (by omega), hA _ (by omega), hA _ (by omega)⟩ (fun i hi => hA _ (by omega))
  unfold SRe
  simp only [u2_q]
  have hjs : j = 209 ∨ j = 211 ∨ j = 212 ∨ j = 213 ∨ j = 214 ∨ j = 215 ∨ j = 216 := by omega
  rcases hjs with rfl | rfl | rfl | rfl | rfl | rfl | rfl
  · obtain rfl : f = 4 := by omega
    exact ⟨by rw [if_neg (by omega), hA _ (by omega)]; exact e1, by rw [if_pos rfl, st_s], by rw [if_neg (by omega), hA _ (by omega)]; exact e3, by rw [if_neg (by omega), hA _ (by omega)]; exact e4, by rw [if_neg (by omega), hA _ (by omega)]; exact e5, by rw [if_neg (by omega), hA _ (by omega)]; exact e6, by rw [if_neg (by omega), hA _ (by omega)]; exact e7, by rw [if_neg (by omega), hA _ (by omega)]; exact e8⟩
  · obtain rfl : f = 5 := by omega
    exact ⟨by rw [if_neg (by omega), hA _ (by omega)]; exact e1, by rw [if_neg (by omega), hA _ (by omega)]; exact e2, by rw [if_pos rfl, st_s], by rw [if_neg (by omega), hA _ (by omega)]; exact e4, by rw [if_neg (by omega), hA _ (by omega)]; exact e5, by rw [if_neg (by omega), hA _ (by omega)]; exact e6, by rw [if_neg (by omega), hA _ (by omega)]; exact e7, by rw [if_neg (by omega), hA _ (by omega)]; exact e8⟩
  · obtain rfl : f = 6 := by omega
    exact ⟨by rw [if_neg (by omega), hA _ (by omega)]; exact e1, by rw [if_neg (by omega), hA _ (by omega)]; exact e2, by rw [if_neg (by omega), hA _ (by omega)]; exact e3, by rw [if_pos rfl, st_s], by rw [if_neg (by omega), hA _ (by omega)]; exact e5, by rw [if_neg (by omega), hA _ (by omega)]; exact e6, by rw [if_neg (by omega), hA _ (by omega)]; exact e7, by rw [if_neg (by omega), hA _ (by omega)]; exact e8⟩
  · obtain rfl : f = 7 := by omega
    exact ⟨by rw [if_neg (by omega), hA _ (by omega)]; exact e1, by rw [if_neg (by omega), hA _ (by omega)]; exact e2, by rw [if_neg (by omega), hA _ (by omega)]; exact e3, by rw [if_neg (by omega), hA _ (by omega)]; exact e4, by rw [if_pos rfl, st_s], by rw [if_neg (by omega), hA _ (by omega)]; exact e6, by rw [if_neg (by omega), hA _ (by omega)]; exact e7, by rw [if_neg (by omega), hA _ (by omega)]; exact e8⟩
  · obtain rfl : f = 8 := by omega
    exact ⟨by rw [if_neg (by omega), hA _ (by omega)]; exact e1, by rw [if_neg (by omega), hA _ (by omega)]; exact e2, by rw [if_neg (by omega), hA _ (by omega)]; exact e3, by rw [if_neg (by omega), hA _ (by omega)]; exact e4, by rw [if_neg (by omega), hA _ (by omega)]; exact e5, by rw [if_pos rfl, st_s], by rw [if_neg (by omega), hA _ (by omega)]; exact e7, by rw [if_neg (by omega), hA _ (by omega)]; exact e8⟩
  · obtain rfl : f = 9 := by omega
    exact ⟨by rw [if_neg (by omega), hA _ (by omega)]; exact e1, by rw [if_neg (by omega), hA _ (by omega)]; exact e2, by rw [if_neg (by omega), hA _ (by omega)]; exact e3, by rw [if_neg (by omega), hA _ (by omega)]; exact e4, by rw [if_neg (by omega), hA _ (by omega)]; exact e5, by rw [if_neg (by omega), hA _ (by omega)]; exact e6, by rw [if_pos rfl, st_s], by rw [if_neg (by omega), hA _ (by omega)]; exact e8⟩
  · obtain rfl : f = 10 := by omega
    exact ⟨by rw [if_neg (by omega), hA _ (by omega)]; exact e1, by rw [if_neg (by omega), hA _ (by omega)]; exact e2, by rw [if_neg (by omega), hA _ (by omega)]; exact e3, by rw [if_neg (by omega), hA _ (by omega)]; exact e4, by rw [if_neg (by omega), hA _ (by omega)]; exact e5, by rw [if_neg (by omega), hA _ (by omega)]; exact e6, by rw [if_neg (by omega), hA _ (by omega)]; exact e7, by rw [if_pos rfl, st_s]⟩
theorem PV.cg {A A' : Ar} {p : Int32} (hlo : ∀ j, 78 ≤ j → j < 183 → (∀ k, j = 78 + 21 * k → A' j = A j)) (h5 : A' 205 = A 205) (hn : inn (A 205) 6) (h : PV A p) : PV A' p := by
  obtain ⟨t, d, x, q1, q2, q3, q4, q5, q6⟩ := h
  have := inn_lt q2
  have := inn_lt hn
  refine ⟨t, d, x, q1, by rw [h5]; exact q2, q3, q4, q5, ?_⟩
  rw [hlo _ (by omega) (by omega) t.toNatClampNeg (by omega)]
  exact q6
theorem WF.cgE {A A' : Ar} (hw : WF A) (hlo : ∀ j, j < 183 → A' j = A j) (h3 : A' 203 = A 203 ∧ A' 204 = A 204 ∧ A' 205 = A 205) (hc : inn (A' 206) 21 ∧ inn (A' 207) 3201 ∧ inn (A' 210) 1000) (hW : ∀ i, i < (A' 206).toNatClampNeg → PV A (A' (183 + i))) (hQ : ∀ i, i < (A' 207).toNatClampNeg → PV A (A' (217 + i))) : WF A' := by
  obtain ⟨⟨c1, c2, c3, c4, c5, c6⟩, w2, w3, w4, w5, w6⟩ := hw
  have n1 := inn_lt c1
  have n2 := inn_lt c2
  have n3 := inn_lt c3
  have hP : ∀ p, PV A p → PV A' p := fun p hp => PV.cg (fun j _ h _ _ => hlo j h) h3.2.2 c3 hp
  unfold WF WFc WFt WFb WFy WFw WFq WY
  rw [h3.1, h3.2.1, h3.2.2]
  refine ⟨⟨c1, c2, c3, hc.1, hc.2.1, hc.2.2⟩, ⟨fun u hu => by rw [hlo _ (by omega), hlo _ (by omega)]; exact w2.1 u hu, fun j h1 h2 => by rw [hlo j (by omega)]; exact w2.2 j h1 h2⟩, ⟨fun u hu => by rw [hlo _ (by omega)]; exact w3.1 u hu, fun j h1 h2 => by rw [hlo j (by omega)]; exact w3.2 j h1 h2⟩, ⟨fun u hu => ?_, fun j h1 h2 => by rw [hlo j (by omega)]; exact w4.2 j h1 h2⟩, fun i hi => hP _ (hW i hi), fun i hi => hP _ (hQ i hi)⟩
  rw [hlo _ (by omega), hlo _ (by omega), hlo _ (by omega), hlo _ (by omega), hlo _ (by omega), hlo _ (by omega), hlo _ (by omega), hlo _ (by omega), hlo _ (by omega)]
  obtain ⟨a1, a2, a3, a4, a5, a6, a7, a8, a9, a10⟩ := w4.1 u hu
  exact ⟨a1, a2, a3, a4, a5, a6, a7, a8, a9, fun i hi => by rw [hlo _ (by omega)]; exact a10 i hi⟩
section P35
variable {v : vSt} {b : Nat} {A : Ar} {p k d a : Int32}
theorem WF.toB (hw : WF A) (hn : inn (A 206) 20) (hp : PV A p) : WF (sToB A p) := by
  obtain ⟨l1, l2, l3, l4, l5, l6⟩ := tb_lo (A := A) (p := p) hn
  have ea := (add1 hn (by omega)).1
  have := hn.1
  have := hn.2
  refine hw.cgE (fun j hj => l1 j (by omega) (by omega)) ⟨l1 _ (by omega) (by omega), l1 _ (by omega) (by omega), l1 _ (by omega) (by omega)⟩ ⟨by rw [l2]; exact ⟨by omega, by omega⟩, by rw [l1 _ (by omega) (by omega)]; exact hw.1.2.2.2.2.1, by rw [l1 _ (by omega) (by omega)]; exact hw.1.2.2.2.2.2⟩ (fun i hi => ?_) (fun i hi => ?_)
  · rw [l5] at hi
    by_cases e : i = (A 206).toNatClampNeg
    · subst e; rw [l4]; exact hp
    · rw [l3 i (by omega)]; exact hw.2.2.2.2.1 i (by omega)
  · rw [l1 207 (by omega) (by omega)] at hi
    rw [l1 _ (by omega) (by omega)]
    exact hw.2.2.2.2.2 i hi
theorem WF.toQ (hw : WF A) (hn : inn (A 207) 3200) (hp : PV A p) : WF (sToQ A p) := by
  obtain ⟨l1, l2, l3, l4, l5, l6⟩ := tq_lo (A := A) (p := p) hn
  have ea := (add1 hn (by omega)).1
  have := hn.1
  have := hn.2
  have hnW := inn_lt hw.1.2.2.2.1
  refine hw.cgE (fun j hj => l1 j (by omega) (by omega)) ⟨l1 _ (by omega) (by omega), l1 _ (by omega) (by omega), l1 _ (by omega) (by omega)⟩ ⟨by rw [l1 _ (by omega) (by omega)]; exact hw.1.2.2.2.1, by rw [l2]; exact ⟨by omega, by omega⟩, by rw [l1 _ (by omega) (by omega)]; exact hw.1.2.2.2.2.2⟩ (fun i hi => ?_) (fun i hi => ?_)
  · rw [l1 206 (by omega) (by omega)] at hi
    rw [l1 _ (by omega) (by omega)]
    exact hw.2.2.2.2.1 i hi
  · rw [l5] at hi
    by_cases e : i = (A 207).toNatClampNeg
    · subst e; rw [l4]; exact hp
    · rw [l3 i (by omega)]; exact hw.2.2.2.2.2 i (by omega)
theorem WF.leave (hw : WF A) (h0 : A 206 ≠ 0) : WF (sLeave A) := by
  obtain ⟨l1, l2, l3, l4, l5, l6⟩ := lv_lo hw.1.2.2.2.1 h0
  have hs := (sub1 hw.1.2.2.2.1 h0).2.2.2
  refine hw.cgE (fun j hj => l1 j (by omega) (by omega)) ⟨l1 _ (by omega) (by omega), l1 _ (by omega) (by omega), l1 _ (by omega) (by omega)⟩ ⟨by rw [l2]; exact hs, by rw [l1 _ (by omega) (by omega)]; exact hw.1.2.2.2.2.1, by rw [l1 _ (by omega) (by omega)]; exact hw.1.2.2.2.2.2⟩ (fun i hi => ?_) (fun i hi => ?_)
  · rw [l4] at hi
    rw [l3 i (by omega)]; exact hw.2.2.2.2.1 (i + 1) (by omega)
  · rw [l1 207 (by omega) (by omega)] at hi
    rw [l1 _ (by omega) (by omega)]
    exact hw.2.2.2.2.2 i hi
theorem WF.leaveQ (hw : WF A) (h0 : A 207 ≠ 0) : WF (sLeaveQ A) := by
  obtain ⟨l1, l2, l3, l4, l5, l6⟩ := lq_lo hw.1.2.2.2.2.1 h0
  have hs := (sub1 hw.1.2.2.2.2.1 h0).2.2.2
  have hnW := inn_lt hw.1.2.2.2.1
  refine hw.cgE (fun j hj => l1 j (by omega) (by omega)) ⟨l1 _ (by omega) (by omega), l1 _ (by omega) (by omega), l1 _ (by omega) (by omega)⟩ ⟨by rw [l1 _ (by omega) (by omega)]; exact hw.1.2.2.2.1, by rw [l2]; exact hs, by rw [l1 _ (by omega) (by omega)]; exact hw.1.2.2.2.2.2⟩ (fun i hi => ?_) (fun i hi => ?_)
  · rw [l1 206 (by omega) (by omega)] at hi
    rw [l1 _ (by omega) (by omega)]
    exact hw.2.2.2.2.1 i hi
  · rw [l4] at hi
    rw [l3 i (by omega)]; exact hw.2.2.2.2.2 (i + 1) (by omega)
theorem WF.acc (hw : WF A) {j : Nat} {y : Int32} (hj : j = 209 ∨ (211 ≤ j ∧ j ≤ 216)) : WF (st A j y) := by
  have hnW := inn_lt hw.1.2.2.2.1
  refine hw.cgE (fun i hi => st_n (by omega)) ⟨st_n (by omega), st_n (by omega), st_n (by omega)⟩ ⟨by rw [st_n (by omega)]; exact hw.1.2.2.2.1, by rw [st_n (by omega)]; exact hw.1.2.2.2.2.1, by rw [st_n (by omega)]; exact hw.1.2.2.2.2.2⟩ (fun i hi => ?_) (fun i hi => ?_)
  · rw [st_n (show 206 ≠ j by omega)] at hi
    rw [st_n (by omega)]; exact hw.2.2.2.2.1 i hi
  · rw [st_n (show 207 ≠ j by omega)] at hi
    rw [st_n (by omega)]; exact hw.2.2.2.2.2 i hi
/-- a change of the accounts alone keeps what PO says -/
theorem PO.acc {f : Nat} {y : Int32} (hc : CP v b) : PO b v (u2 v (b + 2) f y) := PO.of hc (Fr.u (by omega)) ⟨u2_r (by omega), u2_r (by omega)⟩
theorem c_bring (hb : kd b = 7) (h : SR v b A) (hw : WF A) (ha : AC A) (hc : CP v b) (hr : fX0_refusalToBring (b + 2) k d v = 0) :
    (fX0_bringPiece (b + 2) k d v).1 = (sGoBring A k d).1 ∧ SR (fX0_bringPiece (b + 2) k d v).2 b (sGoBring A k d).2 ∧ PO b v (fX0_bringPiece (b + 2) k d v).2 ∧ WF (sGoBring A k d).2 ∧ AC (sGoBring A k d).2 ∧ oX0_bringPiece (b + 2) k d v := by
  rw [c_refB h hw] at hr
  unfold sGoBring at hr ⊢
  by_cases h1 : (if sIsY A k = 0 then 0 else (if fX11_in d (-200) 200 = 0 then 0 else (if A ((78 + 21 * k.toNatClampNeg + 0)) + d < 1 then 0 else 1)) : Int32) = 0
  · rw [if_pos h1] at hr; exact rfn1 hr
  rw [if_neg h1] at hr ⊢
  by_cases h2 : A 206 = 20
  · rw [if_pos h2] at hr; exact rfn2 hr
  rw [if_neg h2]
  have hy : sIsY A k ≠ 0 := fun q => h1 (if_pos q)
  have hd : fX11_in d (-200) 200 ≠ 0 := fun q => h1 (by rw [if_neg hy, if_pos q])
  have hl : ¬ A ((78 + 21 * k.toNatClampNeg + 0)) + d < 1 := fun q => h1 (by rw [if_neg hy, if_neg hd, if_pos q])
  have hk := isY_in hw.1.2.2.1 hy
  have hki := (isY_iff hw.1.2.2.1).mp hy
  have hd2 := in_iff.mp hd
  rw [show (-200 : Int32).toInt = -200 from rfl, show (200 : Int32).toInt = 200 from rfl] at hd2
  have wl := (hw.2.2.2.1.1 _ hk.2).1
  have hl2 := i_nlt hl
  rw [ti_add (by omega), show (1 : Int32).toInt = 1 from rfl] at hl2
  have hn : inn (A 206) 20 := ⟨hw.1.2.2.2.1.1, by
    have := hw.1.2.2.2.1.2
    have : (A 206).toInt ≠ 20 := fun e => h2 (Int32.toInt_inj.mp e)
    omega⟩
  have hk8 : inn k 8 := ⟨hk.1.1, by have := hk.1.2; omega⟩
  obtain ⟨s1, s2, s3, s4, s5⟩ := h.toB hb hw hc (t := k) (d := d) (x := 0) hn hk8 (by omega)
  have hPV : PV A (fX11_piece k d 0) := ⟨k, d, 0, rfl, ⟨hki.1, by have := rn_to hw.1.2.2.1.1; omega⟩, by omega, by omega, by decide, hl2⟩
  have hw2 := hw.toB hn hPV
  obtain ⟨l1, l2, l3, l4, l5, l6⟩ := tb_lo (A := A) (p := fX11_piece k d 0) hn
  have e211 : fX5_putLast ((b + 2 + 4)) k d 0 v (b + 2) 5 = A 211 := by rw [s1.2.1.2.2.1]; exact l1 _ (by omega) (by omega)
  unfold fX0_bringPiece
  simp only []
  rw [e211, u2_r (show (b + 2 + 4) ≠ b + 2 by omega), s4]
  refine ⟨rfl, SR.acc hb s1 hw2 (by omega), s2.tr (PO.acc s2.2.1), hw2.acc (by omega), ?_, s3, ?_⟩
  · show WFa _
    unfold WFa
    rw [st_s, st_n (by omega), st_n (by omega), st_n (by omega), st_n (by omega), st_n (by omega), l2, l1 207 (by omega) (by omega), l1 212 (by omega) (by omega), l1 213 (by omega) (by omega), l1 214 (by omega) (by omega), show A 211 = A 206 + A 207 + A 212 + A 213 + A 214 from ha]
    grind
  · unfold kkX5_putLast kkX0_bringPiece fX0_bringPiece
    simp only []
    have := (PO.acc (v := fX5_putLast ((b + 2 + 4)) k d 0 v) (b := b) (f := 5) (y := fX5_putLast ((b + 2 + 4)) k d 0 v (b + 2) 5 + 1) s2.2.1).mono hb
    omega
end P35
