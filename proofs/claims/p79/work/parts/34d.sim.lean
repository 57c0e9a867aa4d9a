/-! THE PLAIN PART 5d: takeResult. -/
def sTake (A : Ar) (k : Nat) (bad x : Int32) : Ar := st (sCharts (sNotes A k bad) k x) ((78 + 21 * k + 7)) 0
section R34d
variable {v : vSt} {b r k : Nat} {A : Ar} {x bad : Int32}
theorem c_manner {B n : Int32} (hn : inn n 11) (hB : 0 ≤ B.toInt ∧ B.toInt < 2 ^ n.toNatClampNeg) (h7 : v r 7 = n) (hm : inn (v r 4) 3) (hr : ∀ i, i < n.toNatClampNeg → v (r + 5) (n.toNatClampNeg - 1 - i) = bt B i) (hA : A ((78 + 21 * k + 4)) = v r 4 ∧ A ((78 + 21 * k + 5)) = n ∧ A ((78 + 21 * k + 6)) = B) :
    fX4_mannerAfter r bad v = sManner A k bad := by
  subst h7
  obtain ⟨a1, a2, a3, a4⟩ := rec_at hn hB
  unfold fX4_mannerAfter sManner
  rw [hA.1, hA.2.1, hA.2.2, c_bad hn hr (by decide), c_good hn hr, show (5 : Int32).toNatClampNeg = 5 from rfl, a1]
  by_cases h0 : v r 4 = 0
  · rw [if_pos h0, if_pos h0]
    by_cases h2 : fX11_ones (B &&& 31) < 2
    · rw [if_pos h2, if_pos h2]
      by_cases hg : v r 7 = 10 ∧ B = 0
      · rw [if_neg (fun q => a3.mp q hg), hg.1, hg.2]; rfl
      · rw [if_pos (a3.mpr hg)]
        by_cases h10 : v r 7 = 10
        · rw [if_pos h10, if_neg (fun q => hg ⟨h10, q⟩)]; rfl
        · rw [if_neg h10]; rfl
    · rw [if_neg h2, if_neg h2]
  · rw [if_neg h0, if_neg h0]
    by_cases h1 : v r 4 = 1
    · rw [if_pos h1, if_pos h1]
      by_cases hg : 5 ≤ v r 7 ∧ B &&& 31 = 0
      · rw [if_neg (fun q => a4.mp q hg), if_neg (Int32.not_lt.mpr hg.1), if_pos hg.2]; rfl
      · rw [if_pos (a4.mpr hg), h1]
        by_cases h5 : v r 7 < 5
        · rw [if_pos h5]; rfl
        · rw [if_neg h5, if_neg (fun q => hg ⟨Int32.not_lt.mp h5, q⟩)]; rfl
    · rw [if_neg h1, if_neg h1]
      rcases inn3 hm with e | e | e
      · exact absurd e h0
      · exact absurd e h1
      · rw [e]
theorem sManner_in {bad : Int32} (h : inn (A ((78 + 21 * k + 4))) 3) : inn (sManner A k bad) 3 := by
  unfold sManner
  exact ite_inn (ite_inn (ite_inn (by decide) (by decide)) (by decide)) (ite_inn h (by decide))
/-- the class's taking of a result, told field by field -/
theorem take_f (hk : r ≠ r + 5) {C' B' : Ar} {c' n' : Int32} (hC : fX10_append 12 (v (r + 10)) (v r 9) x = (c', C')) (hB : fX10_append 10 (v (r + 5)) (v r 7) (if bad = 0 then 0 else 1) = (n', B')) :
    ∃ w, (w = uA (uA (u2 (u2 (u2 v r 5 0) r 9 c') r 7 n') (r + 10) C') (r + 5) B') ∧ fX4_takeResult r x bad v = (if fX4_mannerAfter r bad w = w r 4 then w else u2 (u2 w r 4 (fX4_mannerAfter r bad w)) r 7 0) := by
  refine ⟨_, rfl, ?_⟩
  have e : ∀ (f g : Ar) (y z : Int32), u2 (uA (u2 (uA (u2 v r 5 0) (r + 10) f) r 9 y) (r + 5) g) r 7 z = uA (uA (u2 (u2 (u2 v r 5 0) r 9 y) r 7 z) (r + 10) f) (r + 5) g := by
    intro f g y z
    funext q j
    simp only [uA, u2]
    by_cases h1 : q = r + 5
    · subst h1; simp
    · by_cases h2 : q = r + 10
      · subst h2; simp [u2, uA]
      · simp [h1, h2, u2, uA]
  unfold fX4_takeResult
  simp only []
  have c1 : u2 v r 5 0 (r + 10) = v (r + 10) := u2_r (by omega)
  have c2 : u2 v r 5 0 r 9 = v r 9 := by rw [u2_q, if_neg (by omega)]
  rw [c1, c2, hC]
  have c3 : u2 (uA (u2 v r 5 0) (r + 10) C') r 9 c' (r + 5) = v (r + 5) := by rw [u2_r (by omega), uA_n (by omega), u2_r (by omega)]
  have c4 : u2 (uA (u2 v r 5 0) (r + 10) C') r 9 c' r 7 = v r 7 := by rw [u2_q, if_neg (by omega), uA_n (by omega), u2_q, if_neg (by omega)]
  simp only []
  rw [c3, c4, hB]
  simp only []
  rw [e]
theorem sN_at (k : Nat) (A : Ar) (bad : Int32) : sNote2 A k bad ((78 + 21 * k + 6)) = nxB (A ((78 + 21 * k + 6))) (if bad = 0 then 0 else 1) ∧ sNote2 A k bad ((78 + 21 * k + 5)) = fX11_less 10 (A ((78 + 21 * k + 5)) + 1) ∧ ∀ j, j ≠ (78 + 21 * k + 5) → j ≠ (78 + 21 * k + 6) → sNote2 A k bad j = A j := by
  unfold sNote2 sNote1
  refine ⟨by rw [st_n (by omega), st_s]; rfl, by rw [st_s, st_n (by omega)], fun j h1 h2 => by rw [st_n h1, st_n h2]⟩
theorem c_take (hb : kd b = 7) (h : SR v b A) (hw : WF A) (hk : k < (A 205).toNatClampNeg) (hbd : inn bad 2) (hx : -50000 ≤ x.toInt ∧ x.toInt ≤ 50000) :
    SR (fX4_takeResult (((b + 2 + 3) + 31 + k)) x bad v) b (sTake A k bad x) ∧ (∀ q, q ≠ ((b + 2 + 3) + 31 + k) → q ≠ ((b + 2 + 3) + 31 + k) + 5 → q ≠ ((b + 2 + 3) + 31 + k) + 10 → fX4_takeResult (((b + 2 + 3) + 31 + k)) x bad v q = v q) ∧ oX4_takeResult (((b + 2 + 3) + 31 + k)) x bad v ∧ WY (sTake A k bad x) k ∧ (∀ j, (j < (78 + 21 * k + 0) ∨ (78 + 21 * k + 21) ≤ j) → sTake A k bad x j = A j) ∧ sTake A k bad x ((78 + 21 * k + 0)) = A ((78 + 21 * k + 0)) := by
  have hY5 := inn_lt hw.1.2.2.1
  obtain ⟨⟨y0, y1, y2, y3, y4, y5, y7, y9⟩, yB, yC⟩ := h.2.2.2.2.1 k hk
  obtain ⟨w0, w1, w2', w3, w4, w5, w6, w7, w8, w9⟩ := hw.2.2.2.1.1 k hk
  have hy2 : inn (if bad = 0 then 0 else 1 : Int32) 2 := ite_inn (by decide) (by decide)
  obtain ⟨r1, r2, r3, r4, r5⟩ := c_rec (R := v (((b + 2 + 3) + 31 + k) + 5)) (n := A ((78 + 21 * k + 5))) (B := A ((78 + 21 * k + 6))) (y := if bad = 0 then 0 else 1) w5 w6 hy2 yB
  obtain ⟨n1, n2, n3⟩ := sN_at k A bad
  have h8 : sNotes A k bad ((78 + 21 * k + 8)) = A ((78 + 21 * k + 8)) := sNotes_o (by omega)
  have hch := ch_at (A := sNotes A k bad) (k := k) (x := x) (by rw [h8]; exact w8)
  have hcl := ch_lo (A := sNotes A k bad) (k := k) (x := x)
  have hoC : oX10_append 12 (v (((b + 2 + 3) + 31 + k) + 10)) (v (((b + 2 + 3) + 31 + k)) 9) x := by
    rw [y9]
    rcases hch with ⟨c1, _⟩ | ⟨c1, _⟩
    · rw [h8] at c1; rw [c1]; exact (ap_eq (n := 12) (by omega)).2
    · rw [h8] at c1; exact (ap_lt (n := 12) (by omega) c1).2
  obtain ⟨w, ew, ef⟩ := take_f (v := v) (r := ((b + 2 + 3) + 31 + k)) (x := x) (bad := bad) (by omega) (C' := (fX10_append 12 (v (((b + 2 + 3) + 31 + k) + 10)) (v (((b + 2 + 3) + 31 + k)) 9) x).2) (c' := (fX10_append 12 (v (((b + 2 + 3) + 31 + k) + 10)) (v (((b + 2 + 3) + 31 + k)) 9) x).1) (B' := (fX10_append 10 (v (((b + 2 + 3) + 31 + k) + 5)) (v (((b + 2 + 3) + 31 + k)) 7) (if bad = 0 then 0 else 1)).2) (n' := (fX10_append 10 (v (((b + 2 + 3) + 31 + k) + 5)) (v (((b + 2 + 3) + 31 + k)) 7) (if bad = 0 then 0 else 1)).1) rfl rfl
  rw [y7, y9] at ew
  have q4 : w (((b + 2 + 3) + 31 + k)) 4 = A ((78 + 21 * k + 4)) := by rw [ew, uA_n (by omega), uA_n (by omega), u2_q, if_neg (by omega), u2_q, if_neg (by omega), u2_q, if_neg (by omega), y4]
  have q7 : w (((b + 2 + 3) + 31 + k)) 7 = fX11_less 10 (A ((78 + 21 * k + 5)) + 1) := by rw [ew, uA_n (by omega), uA_n (by omega), u2_q, if_pos rfl, r1]
  have qB : w (((b + 2 + 3) + 31 + k) + 5) = (fX10_append 10 (v (((b + 2 + 3) + 31 + k) + 5)) (A ((78 + 21 * k + 5))) (if bad = 0 then 0 else 1)).2 := by rw [ew, uA_s]
  have qC : w (((b + 2 + 3) + 31 + k) + 10) = (fX10_append 12 (v (((b + 2 + 3) + 31 + k) + 10)) (A ((78 + 21 * k + 8))) x).2 := by rw [ew, uA_n (by omega), uA_s]
  have q9 : w (((b + 2 + 3) + 31 + k)) 9 = (fX10_append 12 (v (((b + 2 + 3) + 31 + k) + 10)) (A ((78 + 21 * k + 8))) x).1 := by rw [ew, uA_n (by omega), uA_n (by omega), u2_q, if_neg (by omega), u2_q, if_pos rfl]
  have q5 : w (((b + 2 + 3) + 31 + k)) 5 = 0 := by rw [ew, uA_n (by omega), uA_n (by omega), u2_q, if_neg (by omega), u2_q, if_neg (by omega), u2_q, if_pos rfl]
  have qo : ∀ f, f ≠ 5 → f ≠ 7 → f ≠ 9 → w (((b + 2 + 3) + 31 + k)) f = v (((b + 2 + 3) + 31 + k)) f := fun f f5 f7 f9 => by rw [ew, uA_n (by omega), uA_n (by omega), u2_q, if_neg f7, u2_q, if_neg f9, u2_q, if_neg f5]
  have qr : ∀ q, q ≠ ((b + 2 + 3) + 31 + k) → q ≠ ((b + 2 + 3) + 31 + k) + 5 → q ≠ ((b + 2 + 3) + 31 + k) + 10 → w q = v q := fun q h1 h2 h3 => by rw [ew, uA_n h2, uA_n h3, u2_r h1, u2_r h1, u2_r h1]
  have hM : fX4_mannerAfter (((b + 2 + 3) + 31 + k)) bad w = sManner (sNote2 A k bad) k bad :=
    c_manner (A := sNote2 A k bad) (k := k) r2 r3 q7 (by rw [q4]; exact w4) (by rw [qB]; exact r4) ⟨by rw [n3 _ (by omega) (by omega), q4], n2, n1⟩
  rw [hM, q4] at ef
  have s4 : sNote2 A k bad ((78 + 21 * k + 4)) = A ((78 + 21 * k + 4)) := n3 _ (by omega) (by omega)
  have hm4 : inn (sManner (sNote2 A k bad) k bad) 3 := sManner_in (by rw [s4]; exact w4)
  -- the chart
  have hCh : sCharts (sNotes A k bad) k x ((78 + 21 * k + 8)) = (fX10_append 12 (v (((b + 2 + 3) + 31 + k) + 10)) (A ((78 + 21 * k + 8))) x).1 ∧ inn (sCharts (sNotes A k bad) k x ((78 + 21 * k + 8))) 13 ∧ (∀ i, i < (sCharts (sNotes A k bad) k x ((78 + 21 * k + 8))).toNatClampNeg → (fX10_append 12 (v (((b + 2 + 3) + 31 + k) + 10)) (A ((78 + 21 * k + 8))) x).2 i = sCharts (sNotes A k bad) k x ((78 + 21 * k + (9 + i)))) ∧ (∀ i, i < 12 → -50000 ≤ (sCharts (sNotes A k bad) k x ((78 + 21 * k + (9 + i)))).toInt ∧ (sCharts (sNotes A k bad) k x ((78 + 21 * k + (9 + i)))).toInt ≤ 50000) := by
    have hs9 : ∀ i, sNotes A k bad ((78 + 21 * k + (9 + i))) = A ((78 + 21 * k + (9 + i))) := fun i => sNotes_o (by omega)
    rcases hch with ⟨c1, c2, c3, c4⟩ | ⟨c1, c2, c3, c4⟩
    · rw [h8] at c1
      have a1 : fX10_append 12 (v (((b + 2 + 3) + 31 + k) + 10)) 12 x = ((12 : Int32), upd (va_cpy (v (((b + 2 + 3) + 31 + k) + 10)) (v (((b + 2 + 3) + 31 + k) + 10)) 1 0 (12 - 1)) (12 - 1) x) := (ap_eq (n := 12) (f := v (((b + 2 + 3) + 31 + k) + 10)) (x := x) (by omega)).1
      rw [c1, a1, c2]
      refine ⟨rfl, by decide, fun i hi => ?_, fun i hi => ?_⟩
      · have hi : i < 12 := hi
        dsimp only
        by_cases h11 : i = 11
        · subst h11; rw [c4]; exact upd_s
        · rw [upd_n (by omega), cpy_1 (by omega), c3 i (by omega), hs9]
          exact yC (i + 1) (by rw [c1]; show i + 1 < 12; omega)
      · by_cases h11 : i = 11
        · subst h11; rw [c4]; exact hx
        · rw [c3 i (by omega), hs9]; exact w9 _ (by omega)
    · rw [h8] at c1 c2 c3 c4
      have a1 := (ap_lt (n := 12) (f := v (((b + 2 + 3) + 31 + k) + 10)) (x := x) (by omega) c1).1
      obtain ⟨d1, d2⟩ := add1 c1 (by omega)
      have hcl := inn_lt c1
      rw [a1, c2]
      refine ⟨rfl, ⟨by have := c1.1; omega, by have := c1.2; omega⟩, fun i hi => ?_, fun i hi => ?_⟩
      · rw [d2] at hi
        dsimp only
        by_cases hc : i = (A ((78 + 21 * k + 8))).toNatClampNeg
        · subst hc; rw [c4]; exact upd_s
        · rw [upd_n hc, c3 i (by omega) hc, hs9]
          exact yC i (by omega)
      · by_cases hc : i = (A ((78 + 21 * k + 8))).toNatClampNeg
        · subst hc; rw [c4]; exact hx
        · rw [c3 i (by omega) hc, hs9]; exact w9 _ (by omega)
  have hT : ∀ j, j ≠ (78 + 21 * k + 7) → sTake A k bad x j = sCharts (sNotes A k bad) k x j := fun j hj => st_n hj
  have hT7 : sTake A k bad x ((78 + 21 * k + 7)) = 0 := st_s
  have hTl : ∀ j, j < (78 + 21 * k + 8) → j ≠ (78 + 21 * k + 7) → sTake A k bad x j = sNotes A k bad j := fun j h1 h2 => by rw [hT j h2, hcl j (by omega) (by rw [h8]; exact w8)]
  have hT8 := hT ((78 + 21 * k + 8)) (by omega)
  have hT9 : ∀ i, sTake A k bad x ((78 + 21 * k + (9 + i))) = sCharts (sNotes A k bad) k x ((78 + 21 * k + (9 + i))) := fun i => hT _ (by omega)
  have hTo : ∀ j, (j < (78 + 21 * k + 4)) → sTake A k bad x j = A j := fun j hj => by rw [hTl j (by omega) (by omega), sNotes_o (by omega)]
  have hTo2 : ∀ j, (j < (78 + 21 * k + 0) ∨ (78 + 21 * k + 21) ≤ j) → sTake A k bad x j = A j := by
    intro j hj
    rcases hj with hj | hj
    · exact hTo j (by omega)
    · rw [hT j (by omega), hcl j (by omega) (by rw [h8]; exact w8), sNotes_o (by omega)]
  -- record cells
  have hrec : ∃ m n B, sTake A k bad x ((78 + 21 * k + 4)) = m ∧ sTake A k bad x ((78 + 21 * k + 5)) = n ∧ sTake A k bad x ((78 + 21 * k + 6)) = B ∧ inn m 3 ∧ inn n 11 ∧ (0 ≤ B.toInt ∧ B.toInt < 2 ^ n.toNatClampNeg) ∧ fX4_takeResult (((b + 2 + 3) + 31 + k)) x bad v (((b + 2 + 3) + 31 + k)) 4 = m ∧ fX4_takeResult (((b + 2 + 3) + 31 + k)) x bad v (((b + 2 + 3) + 31 + k)) 7 = n ∧ (∀ f, f ≠ 4 → f ≠ 7 → fX4_takeResult (((b + 2 + 3) + 31 + k)) x bad v (((b + 2 + 3) + 31 + k)) f = w (((b + 2 + 3) + 31 + k)) f) ∧ (∀ q, q ≠ ((b + 2 + 3) + 31 + k) → fX4_takeResult (((b + 2 + 3) + 31 + k)) x bad v q = w q) ∧ (∀ i, i < n.toNatClampNeg → w (((b + 2 + 3) + 31 + k) + 5) (n.toNatClampNeg - 1 - i) = bt B i) := by
    rw [ef, hTl _ (by omega) (by omega), hTl _ (by omega) (by omega), hTl _ (by omega) (by omega)]
    unfold sNotes
    rw [s4]
    by_cases hs : sManner (sNote2 A k bad) k bad = A ((78 + 21 * k + 4))
    · rw [if_pos hs, if_pos hs]
      exact ⟨_, _, _, rfl, rfl, rfl, by rw [s4]; exact w4, by rw [n2]; exact r2, by rw [n1, n2]; exact r3, by rw [q4, s4], by rw [q7, n2], fun _ _ _ => rfl, fun _ _ => rfl, by rw [n1, n2, qB]; exact r4⟩
    · rw [if_neg hs, if_neg hs]
      refine ⟨sManner (sNote2 A k bad) k bad, 0, 0, by rw [st_n (by omega), st_n (by omega), st_s], st_s, by rw [st_n (by omega), st_s], hm4, by decide, by decide, by rw [u2_q, if_neg (by omega), u2_q, if_pos rfl], by rw [u2_q, if_pos rfl], fun f h1 h2 => by rw [u2_q, if_neg h2, u2_q, if_neg h1], fun q hq => by rw [u2_r hq, u2_r hq], fun i hi => absurd hi (by show ¬ i < 0; omega)⟩
  obtain ⟨m, n, B, m1, m2, m3, m4, m5, m6, m7, m8, m9, m10, m11⟩ := hrec
  have hro : ∀ q, q ≠ ((b + 2 + 3) + 31 + k) → q ≠ ((b + 2 + 3) + 31 + k) + 5 → q ≠ ((b + 2 + 3) + 31 + k) + 10 → fX4_takeResult (((b + 2 + 3) + 31 + k)) x bad v q = v q := fun q h1 h2 h3 => (m10 q h1).trans (qr q h1 h2 h3)
  refine ⟨h.setY hb hw (t := k) (by omega) hro hTo2 ?_, hro, ?_, ?_, hTo2, hTo _ (by omega)⟩
  · rw [m10 (((b + 2 + 3) + 31 + k) + 5) (by omega), m10 (((b + 2 + 3) + 31 + k) + 10) (by omega)]
    unfold yR
    rw [m1, m2, m3, hT7, hT8, hTo _ (by omega), hTo _ (by omega), hTo _ (by omega), hTo _ (by omega), m7, m8, m9 0 (by omega) (by omega), m9 1 (by omega) (by omega), m9 2 (by omega) (by omega), m9 3 (by omega) (by omega), m9 5 (by omega) (by omega), m9 9 (by omega) (by omega), q5, q9, hCh.1, qo 0 (by omega) (by omega) (by omega), qo 1 (by omega) (by omega) (by omega), qo 2 (by omega) (by omega) (by omega), qo 3 (by omega) (by omega) (by omega)]
    refine ⟨⟨y0, y1, y2, y3, rfl, rfl, rfl, rfl⟩, m11, fun i hi => ?_⟩
    rw [qC, hT9]
    exact hCh.2.2.1 i (by rw [hCh.1]; exact hi)
  · unfold oX4_takeResult
    intro v1 e1
    refine ⟨?_, fun g3 e3 v4 e4 v5 e5 y6 e6 => ?_⟩
    · rw [e1, u2_r (show ((b + 2 + 3) + 31 + k) + 10 ≠ ((b + 2 + 3) + 31 + k) by omega), u2_q, if_neg (by omega)]; exact hoC
    · rw [e5, u2_r (show ((b + 2 + 3) + 31 + k) + 5 ≠ ((b + 2 + 3) + 31 + k) by omega), u2_q, if_neg (by omega), e4, uA_n (by omega), uA_n (by omega), e1, u2_r (by omega), u2_q, if_neg (by omega), y7, e6]
      exact r5
  · unfold WY
    rw [m1, m2, m3, hT7, hT8, hTo _ (by omega), hTo _ (by omega), hTo _ (by omega), hTo _ (by omega)]
    exact ⟨w0, w1, w2', w3, m4, m5, m6, by decide, hCh.2.1, fun i hi => by rw [hT9]; exact hCh.2.2.2 i hi⟩
end R34d
