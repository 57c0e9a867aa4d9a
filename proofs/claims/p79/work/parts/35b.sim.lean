/-! THE PLAIN PART 6b: passing and filing performed. -/
theorem st_cm {A : Ar} {i j : Nat} {x y : Int32} (h : i ≠ j) : st (st A i x) j y = st (st A j y) i x := by
  funext l
  unfold st
  by_cases h1 : l = j
  · subst h1; rw [if_pos rfl, if_neg (by omega), if_pos rfl]
  · rw [if_neg h1]
    by_cases h2 : l = i
    · subst h2; rw [if_pos rfl, if_pos rfl]
    · rw [if_neg h2, if_neg h2, if_neg h1]
theorem st_id {A : Ar} {j : Nat} : st A j (A j) = A := by
  funext l
  unfold st
  split
  · subst_vars; rfl
  · rfl
theorem st_st {A : Ar} {j : Nat} {x y : Int32} : st (st A j x) j y = st A j y := by
  funext l
  unfold st
  split <;> rfl
theorem shf_st {B : Ar} {j b n : Nat} {y : Int32} (hj : j < b) : shf (st B j y) b n = st (shf B b n) j y := by
  funext l
  simp only [shf, st]
  by_cases h1 : l = j
  · subst h1
    rw [if_neg (by omega), if_pos rfl, if_pos rfl]
  · by_cases h2 : b ≤ l ∧ l < b + n
    · rw [if_pos h2, if_neg (by omega), if_neg h1, if_pos h2]
    · rw [if_neg h2, if_neg h1, if_neg h1, if_neg h2]
theorem sLeave_st {A : Ar} {j : Nat} {y : Int32} (hj : j < 183) (hn : inn (A 206) 21) : sLeave (st A j y) = st (sLeave A) j y := by
  have hN := inn_lt hn
  unfold sLeave
  rw [st_n (show 206 ≠ j by omega), st_cm (show j ≠ 206 by omega)]
  rw [shf_st hj, st_cm (by omega)]
section P35b
variable {v : vSt} {b : Nat} {A : Ar} {p k d a : Int32}
theorem WF.setY {A A' : Ar} {t : Nat} (hw : WF A) (ht : t < (A 205).toNatClampNeg) (hA : ∀ j, (j < (78 + 21 * t + 0) ∨ (78 + 21 * t + 21) ≤ j) → A' j = A j) (hl : A' ((78 + 21 * t + 0)) = A ((78 + 21 * t + 0))) (hY : WY A' t) : WF A' := by
  obtain ⟨⟨c1, c2, c3, c4, c5, c6⟩, w2, w3, w4, w5, w6⟩ := hw
  have n1 := inn_lt c1
  have n2 := inn_lt c2
  have n3 := inn_lt c3
  have e : ∀ i, 203 ≤ i → A' i = A i := fun i hi => hA i (by omega)
  have e0 : ∀ i, i < 78 → A' i = A i := fun i hi => hA i (by omega)
  have hP : ∀ p, PV A p → PV A' p := fun p hp => PV.cg (fun j _ _ k hk => by
    by_cases hkt : k = t
    · subst hkt; rw [hk]; exact hl
    · exact hA j (by omega)) (e _ (by omega)) c3 hp
  have nw := inn_lt c4
  refine ⟨⟨by rw [e _ (by omega)]; exact c1, by rw [e _ (by omega)]; exact c2, by rw [e _ (by omega)]; exact c3, by rw [e _ (by omega)]; exact c4, by rw [e _ (by omega)]; exact c5, by rw [e _ (by omega)]; exact c6⟩, ?_, ?_, ?_, ?_, ?_⟩
  · unfold WFt
    rw [e 203 (by omega)]
    exact ⟨fun u hu => by rw [e0 _ (by omega), e0 _ (by omega)]; exact w2.1 u hu, fun j h1 h2 => by rw [e0 j (by omega)]; exact w2.2 j h1 h2⟩
  · unfold WFb
    rw [e 204 (by omega)]
    exact ⟨fun u hu => by rw [e0 _ (by omega)]; exact w3.1 u hu, fun j h1 h2 => by rw [e0 j (by omega)]; exact w3.2 j h1 h2⟩
  · unfold WFy
    rw [e 205 (by omega)]
    refine ⟨fun u hu => ?_, fun j h1 h2 => by rw [hA j (by omega)]; exact w4.2 j h1 h2⟩
    by_cases hut : u = t
    · subst hut; exact hY
    · have hx : ∀ c, c < 21 → A' ((78 + 21 * u + c)) = A ((78 + 21 * u + c)) := fun c hc => hA _ (by omega)
      unfold WY
      rw [hx 0 (by omega), hx 1 (by omega), hx 2 (by omega), hx 3 (by omega), hx 4 (by omega), hx 5 (by omega), hx 6 (by omega), hx 7 (by omega), hx 8 (by omega)]
      obtain ⟨a1, a2, a3, a4, a5, a6, a7, a8, a9, a10⟩ := w4.1 u hu
      exact ⟨a1, a2, a3, a4, a5, a6, a7, a8, a9, fun i hi => by rw [hx _ (by omega)]; exact a10 i hi⟩
  · unfold WFw
    rw [e 206 (by omega)]
    exact fun i hi => by rw [hA _ (by omega)]; exact hP _ (w5 i hi)
  · unfold WFq
    rw [e 207 (by omega)]
    exact fun i hi => by rw [e _ (by omega)]; exact hP _ (w6 i hi)
theorem c_pass (hb : kd b = 7) (h : SR v b A) (hw : WF A) (ha : AC A) (hc : CP v b) (hr : fX0_refusalToPass (b + 2) v = 0) :
    (fX0_passFirst (b + 2) v).1 = (sGoPass A).1 ∧ SR (fX0_passFirst (b + 2) v).2 b (sGoPass A).2 ∧ PO b v (fX0_passFirst (b + 2) v).2 ∧ WF (sGoPass A).2 ∧ AC (sGoPass A).2 ∧ oX0_passFirst (b + 2) v := by
  rw [c_refP h hw hc] at hr
  unfold sGoPass at hr ⊢
  by_cases h1 : ¬ sReasonP A ≤ 0
  · rw [if_neg h1] at hr; exact rfn2 hr
  have h1 := Decidable.not_not.mp h1
  rw [if_pos h1]
  have h0 : A 206 ≠ 0 := by
    intro e
    unfold sReasonP at h1
    rw [if_pos e] at h1
    exact absurd h1 (by decide)
  have hn := hw.1.2.2.2.1
  obtain ⟨f1, f2, f3, f4⟩ := h.first hw hc h0
  obtain ⟨dd, x, q1, q2, q3, q4, q5, q6, q7, q8, q9⟩ := hw.fk h0
  have q25 := inn_lt q2
  obtain ⟨w0, w1, w2', w3, w4, w5, w6, w7, w8, w9⟩ := hw.2.2.2.1.1 _ q3
  have hS1 : SR (u2 v (((b + 2 + 3) + 31 + ((fX11_typeOf (A 183)).toNatClampNeg))) 5 1) b (st A ((78 + 21 * ((fX11_typeOf (A 183)).toNatClampNeg) + 7)) 1) := by
    refine h.setY hb hw (t := (fX11_typeOf (A 183)).toNatClampNeg) q25 (fun q h1 _ _ => u2_r h1) (fun j hj => st_n (by omega)) ?_
    obtain ⟨⟨y0, y1, y2, y3, y4, y5, y7, y9⟩, yB, yC⟩ := h.2.2.2.2.1 _ q3
    unfold yR
    rw [u2_r (show ((b + 2 + 3) + 31 + ((fX11_typeOf (A 183)).toNatClampNeg)) + 5 ≠ ((b + 2 + 3) + 31 + ((fX11_typeOf (A 183)).toNatClampNeg)) by omega), u2_r (show ((b + 2 + 3) + 31 + ((fX11_typeOf (A 183)).toNatClampNeg)) + 10 ≠ ((b + 2 + 3) + 31 + ((fX11_typeOf (A 183)).toNatClampNeg)) by omega), st_n (by omega), st_n (by omega), st_n (by omega), st_n (by omega), st_n (by omega), st_s, st_n (by omega), st_n (by omega), st_n (by omega)]
    simp only [u2_q]
    exact ⟨⟨by rw [if_neg (by omega)]; exact y0, by rw [if_neg (by omega)]; exact y1, by rw [if_neg (by omega)]; exact y2, by rw [if_neg (by omega)]; exact y3, by rw [if_neg (by omega)]; exact y4, if_pos trivial, by rw [if_neg (by omega)]; exact y7, by rw [if_neg (by omega)]; exact y9⟩, yB, fun i hi => by rw [st_n (by omega)]; exact yC i hi⟩
  have hw1 : WF (st A ((78 + 21 * ((fX11_typeOf (A 183)).toNatClampNeg) + 7)) 1) := by
    refine hw.setY q3 (fun j hj => st_n (by omega)) (st_n (by omega)) ?_
    unfold WY
    rw [st_n (by omega), st_n (by omega), st_n (by omega), st_n (by omega), st_n (by omega), st_n (by omega), st_n (by omega), st_s, st_n (by omega)]
    exact ⟨w0, w1, w2', w3, w4, w5, w6, by decide, w8, fun i hi => by rw [st_n (by omega)]; exact w9 i hi⟩
  have hP1 : PO b v (u2 v (((b + 2 + 3) + 31 + ((fX11_typeOf (A 183)).toNatClampNeg))) 5 1) := PO.of hc (Fr.u (by omega)) ⟨u2_r (by omega), u2_r (by omega)⟩
  have e206 : st A ((78 + 21 * ((fX11_typeOf (A 183)).toNatClampNeg) + 7)) 1 206 = A 206 := st_n (by omega)
  obtain ⟨s1, s2, s3⟩ := hS1.leave hb hw1 hP1.2.1 (by rw [e206]; exact h0)
  have hw2 := hw1.leave (by rw [e206]; exact h0)
  rw [sLeave_st (by omega) hn] at s1 hw2
  obtain ⟨l1, l2, l3, l4, l5, l6⟩ := lv_lo hn h0
  have e214 : fX5_dropFirst ((b + 2 + 4)) (u2 v (((b + 2 + 3) + 31 + ((fX11_typeOf (A 183)).toNatClampNeg))) 5 1) (b + 2) 8 = A 214 := by rw [s1.2.1.2.2.2.2.2.1, st_n (by omega)]; exact l1 _ (by omega) (by omega)
  have eA : st (st (sLeave A) 214 (A 214 + 1)) ((78 + 21 * ((fX11_typeOf (A 183)).toNatClampNeg) + 7)) 1 = st (st (sLeave A) ((78 + 21 * ((fX11_typeOf (A 183)).toNatClampNeg) + 7)) 1) 214 (A 214 + 1) := st_cm (by omega)
  unfold fX0_passFirst oX0_passFirst
  simp only []
  rw [f1, f3, e214, eA]
  refine ⟨rfl, SR.acc hb s1 hw2 (by omega), (hP1.tr s2).tr (PO.acc s2.2.1), hw2.acc (by omega), ?_, fun v1 e1 => by rw [e1]; exact s3⟩
  show WFa _
  unfold WFa
  rw [st_s, st_n (by omega), st_n (by omega), st_n (by omega), st_n (by omega), st_n (by omega), st_n (by omega), st_n (by omega), st_n (by omega), st_n (by omega), st_n (by omega), l2, l1 211 (by omega) (by omega), l1 207 (by omega) (by omega), l1 212 (by omega) (by omega), l1 213 (by omega) (by omega), show A 211 = A 206 + A 207 + A 212 + A 213 + A 214 from ha]
  grind
/-- the first piece of the queue, as the class reads it -/
theorem SR.firstQ (h : SR v b A) (hw : WF A) (hc : CP v b) (h0 : A 207 ≠ 0) : fX5_typeOfPiece ((b + 2 + 5)) 0 v = (fX11_typeOf (A 217)) ∧ fX5_firstDeviation ((b + 2 + 5)) v = (fX11_deviationOf (A 217)) ∧ fX0_typeOfFirst (b + 2) ((b + 2 + 5)) v = ((b + 2 + 3) + 31 + ((fX11_typeOf (A 217))).toNatClampNeg) := by
  obtain ⟨q1, q2, q3, q4⟩ := hw.qk h0
  obtain ⟨e1, e2, e3, e4⟩ := sub1 hw.1.2.2.2.2.1 h0
  have hp := h.2.2.2.2.2.2.2 0 (by omega)
  obtain ⟨_, c4, c5, c6, c7, _⟩ := hc
  have hcr : (rN (v ((b + 2 + 5)) 4) : Int) = (v ((b + 2 + 5)) 4).toInt := i_rN (by omega)
  have t1 : fX5_typeOfPiece ((b + 2 + 5)) 0 v = (fX11_typeOf (A 217)) := by
    unfold fX5_typeOfPiece
    rw [entry_at ⟨by decide, by rw [show (0 : Int32).toInt = 0 from rfl]; omega⟩ (by omega)]
    exact hp.1
  refine ⟨t1, ?_, ?_⟩
  · unfold fX5_firstDeviation
    rw [c6, entry_at ⟨by decide, by rw [show (0 : Int32).toInt = 0 from rfl]; omega⟩ (by omega)]
    exact hp.2.1
  · unfold fX0_typeOfFirst
    rw [t1, c_hasType h.2.1.1 hw.1.2.2.1, if_neg ((isY_iff hw.1.2.2.1).mpr ⟨q1.1, by have := rn_to q1.1; have := rn_to hw.1.2.2.1.1; omega⟩)]
theorem c_refF (h : SR v b A) (hw : WF A) (hc : CP v b) : fX0_refusalToFile (b + 2) a v = rfc (sGoFile A a).1 := by
  unfold fX0_refusalToFile sGoFile
  rw [in_rng, h.2.2.2.2.2.2.1, h.2.2.2.2.2.1.1]
  by_cases h1 : fX11_in a 1 99 = 0
  · rw [if_pos h1, if_pos h1]; rfl
  rw [if_neg h1, if_neg h1]
  by_cases h2 : A 207 ≤ 0
  · rw [if_pos h2, if_pos h2, if_pos rfl]; rfl
  rw [if_neg h2, if_neg h2]
  by_cases h3 : 20 ≤ A 206
  · rw [if_neg (Int32.not_lt.mpr h3), if_pos h3, if_pos rfl]; rfl
  rw [if_pos (Int32.not_le.mp h3), if_neg h3, if_neg (show ¬ (1 : Int32) = 0 by decide)]
  have h0 : A 207 ≠ 0 := fun e => h2 (by rw [e]; decide)
  obtain ⟨f1, f2, f3⟩ := h.firstQ hw hc h0
  obtain ⟨q1, q2, q3, q4⟩ := hw.qk h0
  obtain ⟨⟨y0, _⟩, _⟩ := h.2.2.2.2.1 _ q2
  have hd2 := in_iff.mp h1
  rw [show (1 : Int32).toInt = 1 from rfl, show (99 : Int32).toInt = 99 from rfl] at hd2
  have er : ∀ x y z : Int32, x + y - z = x + (y - z) := by intro x y z; grind
  rw [f2, f3, y0, er]
  by_cases h4 : 1 ≤ A ((78 + 21 * ((fX11_typeOf (A 217))).toNatClampNeg + 0)) + ((fX11_deviationOf (A 217)) - a)
  · rw [if_pos h4, if_pos h4]
    have hj : rfc ((fX11_deviationOf (A 217)) - a) = 0 := rfc_0 (by rw [ti_sub (by omega)]; omega)
    dsimp only
    rw [hj]
  · rw [if_neg h4, if_neg h4]; rfl
theorem lq_tb {A : Ar} {p : Int32} (hn : inn (A 207) 3201) (h0 : A 207 ≠ 0) (hB : inn (A 206) 20) : sToB (sLeaveQ A) p = sLeaveQ (sToB A p) := by
  have hNB := inn_lt hB
  obtain ⟨l1, l2, l3, l4, l5, l6⟩ := lq_lo hn h0
  unfold sToB
  rw [l1 206 (by omega) (by omega), st_n (by omega), st_n (show 206 ≠ 183 + (A 206).toNatClampNeg by omega), l1 206 (by omega) (by omega)]
  unfold sLeaveQ
  rw [st_n (show 207 ≠ 206 by omega), st_n (show 207 ≠ 183 + (A 206).toNatClampNeg by omega)]
  rw [st_cm (show 206 ≠ 207 by omega), st_cm (show 183 + (A 206).toNatClampNeg ≠ 207 by omega)]
  simp only [shf_st (show 206 < 217 by omega), shf_st (show 207 < 217 by omega), shf_st (show 183 + (A 206).toNatClampNeg < 217 by omega)]
  rw [st_cm (show 206 ≠ 217 + ((A 207).toNatClampNeg - 1) by omega), st_cm (i := 183 + (A 206).toNatClampNeg) (j := 217 + ((A 207).toNatClampNeg - 1)) (by omega)]
theorem c_file (hb : kd b = 7) (h : SR v b A) (hw : WF A) (ha : AC A) (hc : CP v b) (hr : fX0_refusalToFile (b + 2) a v = 0) :
    (fX0_fileFirst (b + 2) a v).1 = (sGoFile A a).1 ∧ SR (fX0_fileFirst (b + 2) a v).2 b (sGoFile A a).2 ∧ PO b v (fX0_fileFirst (b + 2) a v).2 ∧ WF (sGoFile A a).2 ∧ AC (sGoFile A a).2 ∧ oX0_fileFirst (b + 2) a v := by
  rw [c_refF h hw hc] at hr
  unfold sGoFile at hr ⊢
  by_cases h1 : fX11_in a 1 99 = 0
  · rw [if_pos h1] at hr; exact rfn1 hr
  rw [if_neg h1] at hr ⊢
  by_cases h2 : (if A 207 ≤ 0 then 0 else (if 20 ≤ A 206 then 0 else 1) : Int32) = 0
  · rw [if_pos h2] at hr; exact rfn2 hr
  rw [if_neg h2] at hr ⊢
  by_cases h3 : ¬ 1 ≤ A ((78 + 21 * ((fX11_typeOf (A 217))).toNatClampNeg + 0)) + ((fX11_deviationOf (A 217)) - a)
  · rw [if_neg h3] at hr; exact rfn2 hr
  have h3 := Decidable.not_not.mp h3
  rw [if_pos h3]
  have hq0 : ¬ A 207 ≤ 0 := fun q => h2 (if_pos q)
  have h0 : A 207 ≠ 0 := fun e => hq0 (by rw [e]; decide)
  have h20 : ¬ 20 ≤ A 206 := fun q => h2 (by rw [if_neg hq0, if_pos q])
  have hnB : inn (A 206) 20 := ⟨hw.1.2.2.2.1.1, by have := i_nle h20; have e : (20 : Int32).toInt = 20 := rfl; omega⟩
  obtain ⟨f1, f2, f3⟩ := h.firstQ hw hc h0
  obtain ⟨q1, q2, q3, q4⟩ := hw.qk h0
  have hd2 := in_iff.mp h1
  rw [show (1 : Int32).toInt = 1 from rfl, show (99 : Int32).toInt = 99 from rfl] at hd2
  have wl := (hw.2.2.2.1.1 _ q2).1
  have ed : ((fX11_deviationOf (A 217)) - a).toInt = ((fX11_deviationOf (A 217))).toInt - a.toInt := ti_sub (by omega)
  have h3' := i_le h3
  rw [ti_add (by omega), show (1 : Int32).toInt = 1 from rfl] at h3'
  obtain ⟨s1, s2, s3, s4, s5⟩ := h.toB hb hw hc (t := (fX11_typeOf (A 217))) (d := (fX11_deviationOf (A 217)) - a) (x := 0) hnB ⟨q1.1, by have := q1.2; omega⟩ (by omega)
  have s1 : SR (fX5_putLast ((b + 2 + 4)) ((fX11_typeOf (A 217))) ((fX11_deviationOf (A 217)) - a) 0 v) b (sToB A (fX11_piece ((fX11_typeOf (A 217))) ((fX11_deviationOf (A 217)) - a) 0)) := s1
  have hPV : PV A (fX11_piece ((fX11_typeOf (A 217))) ((fX11_deviationOf (A 217)) - a) 0) := ⟨_, _, 0, rfl, ⟨q1.1, by have := rn_to q1.1; have := rn_to hw.1.2.2.1.1; omega⟩, by omega, by omega, by decide, h3'⟩
  have hw2 := hw.toB hnB hPV
  obtain ⟨l1, l2, l3, l4, l5, l6⟩ := tb_lo (A := A) (p := fX11_piece ((fX11_typeOf (A 217))) ((fX11_deviationOf (A 217)) - a) 0) hnB
  have e207 : sToB A (fX11_piece ((fX11_typeOf (A 217))) ((fX11_deviationOf (A 217)) - a) 0) 207 = A 207 := l1 _ (by omega) (by omega)
  obtain ⟨r1, r2, r3⟩ := s1.leaveQ hb hw2 s2.2.1 (by rw [e207]; exact h0)
  have hw3 := hw2.leaveQ (by rw [e207]; exact h0)
  rw [← lq_tb hw.1.2.2.2.2.1 h0 hnB] at r1 hw3
  obtain ⟨m1, m2, m3, m4, m5, m6⟩ := lq_lo hw2.1.2.2.2.2.1 (by rw [e207]; exact h0)
  unfold fX0_fileFirst
  simp only []
  rw [f1, f2]
  refine ⟨rfl, r1, s2.tr r2, hw3, ?_, ?_⟩
  · show WFa _
    unfold WFa
    rw [lq_tb hw.1.2.2.2.2.1 h0 hnB, m1 _ (by omega) (by omega), m1 _ (by omega) (by omega), m2, m1 _ (by omega) (by omega), m1 _ (by omega) (by omega), m1 _ (by omega) (by omega), l2, e207, l1 211 (by omega) (by omega), l1 212 (by omega) (by omega), l1 213 (by omega) (by omega), l1 214 (by omega) (by omega), show A 211 = A 206 + A 207 + A 212 + A 213 + A 214 from ha]
    grind
  · unfold oX0_fileFirst
    rw [f1, f2]
    refine ⟨s3, ?_, fun v3 e3 => by rw [e3]; exact r3⟩
    unfold kkX5_putLast kkX0_fileFirst fX0_fileFirst
    simp only []
    rw [f1, f2]
    have := r2.mono hb
    omega
end P35b
