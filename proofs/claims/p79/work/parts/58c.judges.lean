/-! P79, PLAIN 12c: what is judged. -/
section T58c
variable {n m N : Nat} {u v w z W V g : vSt} {A A' B X : Ar} {x p y a b c d L mt set e : Int32} {T t k i : Nat}
theorem chs_o (hc : inn (X ((78 + 21 * k + 8))) 13) (hi : i < (78 + 21 * k + 8) ∨ (78 + 21 * k + 20) < i) : sCharts X k x i = X i := by
  have l := inn_lt hc
  unfold sCharts
  by_cases q : X ((78 + 21 * k + 8)) = 12
  · rw [if_pos q, st_n (by omega), st_n (by omega), shf_o (by omega)]
  · have : (X ((78 + 21 * k + 8))).toNatClampNeg ≠ 12 := fun e => q (by rw [← of_to hc.1, e]; rfl)
    rw [if_neg q, st_n (by omega), st_n (by omega)]
theorem chs_8 : sCharts X k x ((78 + 21 * k + 8)) = if X ((78 + 21 * k + 8)) = 12 then 12 else X ((78 + 21 * k + 8)) + 1 := by
  unfold sCharts
  by_cases q : X ((78 + 21 * k + 8)) = 12
  · rw [if_pos q, if_pos q, st_s]
  · rw [if_neg q, if_neg q, st_s]
/-- what a judgement leaves, where the piece isn't doubted -/
theorem j6_B (hw : WF A) (ht : t < 6) (h0 : A 206 ≠ 0) (hk : (fX11_typeOf (A 183)).toNatClampNeg = k) : sJ6 A t 203 = A 203 ∧ sJ6 A t 205 = A 205 ∧ sJ6 A t 206 = A 206 - 1 ∧ sJ6 A t 207 = A 207 + (if sJudg A t = 1 then 1 else 0) ∧ sJ6 A t 212 = A 212 + (if sJudg A t = 0 then 1 else 0) ∧
    sJ6 A t 213 = A 213 + (if sJudg A t = 2 then 1 else 0) ∧ sJ6 A t 215 = A 215 ∧
    (sJ6 A t ((78 + 21 * k + 4)) = (nRec (A ((78 + 21 * k + 4))) (A ((78 + 21 * k + 5))) (A ((78 + 21 * k + 6))) (if sJudg A t ≤ 0 then 0 else 1)).1 ∧ sJ6 A t ((78 + 21 * k + 5)) = (nRec (A ((78 + 21 * k + 4))) (A ((78 + 21 * k + 5))) (A ((78 + 21 * k + 6))) (if sJudg A t ≤ 0 then 0 else 1)).2.1 ∧ sJ6 A t ((78 + 21 * k + 6)) = (nRec (A ((78 + 21 * k + 4))) (A ((78 + 21 * k + 5))) (A ((78 + 21 * k + 6))) (if sJudg A t ≤ 0 then 0 else 1)).2.2) ∧
    sJ6 A t ((78 + 21 * k + 8)) = if A ((78 + 21 * k + 8)) = 12 then 12 else A ((78 + 21 * k + 8)) + 1 := by
  obtain ⟨dd, xx, q1, q2, q3, q4⟩ := hw.fk h0
  rw [hk] at q3
  have lY := inn_lt hw.1.2.2.1
  obtain ⟨a1, a2, a3, a4, a5, a6⟩ := lv_lo hw.1.2.2.2.1 h0
  have j1 : ∀ i, 48 ≤ i → (i < 183 ∨ 203 ≤ i) → i ≠ 206 → sJ1 A t i = A i := fun i b1 b2 b3 => by
    unfold sJ1
    rw [sUse_o (by omega), a1 i b2 b3]
  have j16 : sJ1 A t 206 = A 206 - 1 := by unfold sJ1; rw [sUse_o (by omega), a2]
  have j17 : sJ1 A t 207 = A 207 := j1 _ (by omega) (by omega) (by omega)
  have j2 : ∀ i, i < 217 → i ≠ 207 → sJ2 A t i = sJ1 A t i := fun i b1 b2 => by
    unfold sJ2
    split
    · unfold sToQ
      rw [st_n b2, st_n (by omega)]
    · rfl
  have j27 : sJ2 A t 207 = A 207 + (if sJudg A t = 1 then 1 else 0) := by
    unfold sJ2
    by_cases q : sJudg A t = 1
    · rw [if_pos q, if_pos q]
      unfold sToQ
      rw [st_s, st_n (by omega), j17]
    · rw [if_neg q, if_neg q, j17, Int32.add_zero]
  have j5 : ∀ i, i < 217 → i ≠ 212 → i ≠ 213 → i ≠ 216 → sJ5 A t i = sJ2 A t i := fun i b1 b2 b3 b4 => by
    unfold sJ5 sJ4 sJ3
    rw [st_n b4, st_n b3, st_n b2]
  have j52 : sJ5 A t 212 = A 212 + (if sJudg A t = 0 then 1 else 0) := by
    unfold sJ5 sJ4 sJ3
    rw [st_n (by omega), st_n (by omega), st_s, j2 _ (by omega) (by omega), j1 _ (by omega) (by omega) (by omega)]
  have j53 : sJ5 A t 213 = A 213 + (if sJudg A t = 2 then 1 else 0) := by
    unfold sJ5 sJ4 sJ3
    rw [st_n (by omega), st_s, st_n (by omega), j2 _ (by omega) (by omega), j1 _ (by omega) (by omega) (by omega)]
  have j5A : ∀ i, 48 ≤ i → i < 217 → (i < 183 ∨ 203 ≤ i) → i ≠ 206 → i ≠ 207 → i ≠ 212 → i ≠ 213 → i ≠ 216 → sJ5 A t i = A i := fun i b1 b2 b3 b4 b5 b6 b7 b8 => by
    rw [j5 i b2 b6 b7 b8, j2 i b2 b5, j1 i b1 b3 b4]
  have e8 : (sNotes (sJ5 A t) k (if sJudg A t ≤ 0 then 0 else 1)) ((78 + 21 * k + 8)) = A ((78 + 21 * k + 8)) := by
    rw [sNotes_o (by omega), j5A _ (by omega) (by omega) (by omega) (by omega) (by omega) (by omega) (by omega) (by omega)]
  have h13 : inn ((sNotes (sJ5 A t) k (if sJudg A t ≤ 0 then 0 else 1)) ((78 + 21 * k + 8))) 13 := by
    rw [e8]
    exact (hw.2.2.2.1.1 _ q3).2.2.2.2.2.2.2.2.1
  have o6 : ∀ i, (i < (78 + 21 * k + 7) ∨ (78 + 21 * k + 20) < i) → sJ6 A t i = sNotes (sJ5 A t) k (if sJudg A t ≤ 0 then 0 else 1) i := fun i hi => by
    unfold sJ6
    rw [hk, st_n (by omega), chs_o h13 (by omega)]
  have o7 : ∀ i, 203 ≤ i → i < 217 → sJ6 A t i = sJ5 A t i := fun i b1 b2 => by
    rw [o6 i (by omega), sNotes_o (by omega)]
  have R := sNotes_rec (A := sJ5 A t) (k := k) (bad := if sJudg A t ≤ 0 then 0 else 1)
  rw [j5A ((78 + 21 * k + 4)) (by omega) (by omega) (by omega) (by omega) (by omega) (by omega) (by omega) (by omega), j5A ((78 + 21 * k + 5)) (by omega) (by omega) (by omega) (by omega) (by omega) (by omega) (by omega) (by omega), j5A ((78 + 21 * k + 6)) (by omega) (by omega) (by omega) (by omega) (by omega) (by omega) (by omega) (by omega)] at R
  refine ⟨?_, ?_, ?_, ?_, ?_, ?_, ?_, ⟨?_, ?_, ?_⟩, ?_⟩
  · rw [o7 _ (by omega) (by omega), j5A _ (by omega) (by omega) (by omega) (by omega) (by omega) (by omega) (by omega) (by omega)]
  · rw [o7 _ (by omega) (by omega), j5A _ (by omega) (by omega) (by omega) (by omega) (by omega) (by omega) (by omega) (by omega)]
  · rw [o7 _ (by omega) (by omega), j5 _ (by omega) (by omega) (by omega) (by omega), j2 _ (by omega) (by omega), j16]
  · rw [o7 _ (by omega) (by omega), j5 _ (by omega) (by omega) (by omega) (by omega), j27]
  · rw [o7 _ (by omega) (by omega), j52]
  · rw [o7 _ (by omega) (by omega), j53]
  · rw [o7 _ (by omega) (by omega), j5A _ (by omega) (by omega) (by omega) (by omega) (by omega) (by omega) (by omega) (by omega)]
  · rw [o6 _ (by omega), R.1]
  · rw [o6 _ (by omega), R.2.1]
  · rw [o6 _ (by omega), R.2.2]
  · unfold sJ6
    rw [hk, st_n (by omega), chs_8, e8]
/-- .. and where it is doubted -/
theorem jD_B (hw : WF A) (ht : t < 6) (h0 : A 206 ≠ 0) : sJD A t 203 = A 203 ∧ sJD A t 206 = A 206 ∧ sJD A t 207 = A 207 ∧ sJD A t 212 = A 212 ∧ sJD A t 213 = A 213 ∧ sJD A t 215 = A 215 + 1 ∧ sJD A t 205 = A 205 ∧ (∀ i, 78 ≤ i → i < 183 → sJD A t i = A i) ∧ sJD A t (183 + ((A 206).toNatClampNeg - 1)) = A 183 + 1 := by
  obtain ⟨a1, a2, a3, a4, a5, a6⟩ := lv_lo hw.1.2.2.2.1 h0
  obtain ⟨s1, s2, s3, s4⟩ := sub1 hw.1.2.2.2.1 h0
  have j1 : ∀ i, 48 ≤ i → (i < 183 ∨ 203 ≤ i) → i ≠ 206 → sJ1 A t i = A i := fun i b1 b2 b3 => by
    unfold sJ1
    rw [sUse_o (by omega), a1 i b2 b3]
  have e206 : sJ1 A t 206 = A 206 - 1 := by unfold sJ1; rw [sUse_o (by omega), a2]
  have i20 : inn (sJ1 A t 206) 20 := by
    rw [e206]
    have := hw.1.2.2.2.1.2
    exact ⟨s4.1, by rw [s1]; omega⟩
  obtain ⟨l1, l2, l3, l4, l5, l6⟩ := tb_lo (A := sJ1 A t) (p := A 183 + 1) i20
  have oD : ∀ i, i ≠ 215 → sJD A t i = sToB (sJ1 A t) (A 183 + 1) i := fun i hi => by unfold sJD; rw [st_n hi]
  have oE : ∀ i, 48 ≤ i → (i < 183 ∨ 203 ≤ i) → i ≠ 206 → i ≠ 215 → sJD A t i = A i := fun i b1 b2 b3 b4 => by rw [oD i b4, l1 i b2 b3, j1 i b1 b2 b3]
  refine ⟨oE _ (by omega) (by omega) (by omega) (by omega), ?_, oE _ (by omega) (by omega) (by omega) (by omega), oE _ (by omega) (by omega) (by omega) (by omega), oE _ (by omega) (by omega) (by omega) (by omega), ?_, oE _ (by omega) (by omega) (by omega) (by omega), fun i b1 b2 => oE i (by omega) (by omega) (by omega) (by omega), ?_⟩
  · rw [oD _ (by omega), l2, e206]
    exact toI (by rw [ti_add (b := 1) (by rw [s1, show (1 : Int32).toInt = 1 from rfl]; have := hw.1.2.2.2.1.1; have := hw.1.2.2.2.1.2; omega), s1, show (1 : Int32).toInt = 1 from rfl]; omega)
  · unfold sJD
    rw [st_s, l1 _ (by omega) (by omega), j1 _ (by omega) (by omega) (by omega)]
  · rw [e206, s3] at l4
    rw [oD _ (by omega), l4]
theorem whyle (h : sReason A t ≤ 0) : sReason A t = 0 := by
  rcases why_t (A := A) (t := t) with q | q | q | q | q
  · rw [q.1] at h; exact absurd h (by decide)
  · rw [q.2.1] at h; exact absurd h (by decide)
  · rw [q.2.1] at h; exact absurd h (by decide)
  · rw [q.2.1] at h; exact absurd h (by decide)
  · exact q.2.1
set_option maxHeartbeats 4000000 in
/-- the first piece is judged -/
theorem jd (hI : Inv n m v) (hn : n ≤ 3150) (hX : XI N (v 462)) (hJ : XJ (v 462)) (hN : N + 60 < 2 ^ 30) (ha : 0 ≤ a.toInt ∧ a.toInt ≤ (v 462 203).toInt) (hg : (fL_judge 448 a v).2 = g) : OUT n N v g ∧ (∀ (y9 : Int32), y9 = ((if (a : Int32) = (fX10_tools 448 v) then 1 else 0 : Int32) : Int32) → ((((y9 : Int32) = 0) → ((oX10_whyNotJudge 448 a v) ∧ ((fX10_whyNotJudge 448 a v).1 = 0))) ∧ (∀ (y11 : Int32), y11 = ((if (y9 : Int32) = 0 then ((fX10_whyNotJudge 448 a v).2) else 0 : Int32) : Int32) → ((((y9 : Int32) = 0) → (oL_wouldJudge 448 a v)) ∧ (∀ (y13 : Int32), y13 = ((if (y9 : Int32) = 0 then (fL_wouldJudge 448 a v) else ((-100104)) : Int32) : Int32) → ((oX10_onBench 448 v) ∧ ((¬ (((fX10_onBench 448 v) : Int32) = 0) → ((oX10_typeAt 448 0 v) ∧ ((fX10_typeAt 448 0 v).1 = 0))) ∧ (∀ (y16 : Int32), y16 = ((if ((fX10_onBench 448 v) : Int32) = 0 then ((-100104)) else ((fX10_typeAt 448 0 v).2) : Int32) : Int32) → ((oX10_good 448 v) ∧ ((oX10_toFile 448 v) ∧ ((oX10_thrownAway 448 v) ∧ ((oX10_doubts 448 v) ∧ ((¬ ((y16 : Int32) = (-100104)) → ((oX10_mannerOf 448 y16 v) ∧ ((fX10_mannerOf 448 y16 v).1 = 0))) ∧ (∀ (y22 : Int32), y22 = ((if (y16 : Int32) = (-100104) then 0 else ((fX10_mannerOf 448 y16 v).2) : Int32) : Int32) → ((¬ ((y16 : Int32) = (-100104)) → ((oX10_recordOf 448 y16 v) ∧ ((fX10_recordOf 448 y16 v).1 = 0))) ∧ (∀ (y24 : Int32), y24 = ((if (y16 : Int32) = (-100104) then 0 else ((fX10_recordOf 448 y16 v).2) : Int32) : Int32) → ((¬ ((y16 : Int32) = (-100104)) → ((oX10_badOf 448 y16 v) ∧ ((fX10_badOf 448 y16 v).1 = 0))) ∧ (∀ (y26 : Int32), y26 = ((if (y16 : Int32) = (-100104) then 0 else ((fX10_badOf 448 y16 v).2) : Int32) : Int32) → ((¬ ((y16 : Int32) = (-100104)) → (¬ ((y22 : Int32) = 2) → ((oX10_goodUntilChange 448 y16 v) ∧ ((fX10_goodUntilChange 448 y16 v).1 = 0)))) ∧ (∀ (y28 : Int32), y28 = ((if (y16 : Int32) = (-100104) then ((-100104)) else (if (y22 : Int32) = 2 then ((-100104)) else ((fX10_goodUntilChange 448 y16 v).2)) : Int32) : Int32) → ((¬ ((y16 : Int32) = (-100104)) → ((oX10_charted 448 y16 v) ∧ ((fX10_charted 448 y16 v).1 = 0))) ∧ (∀ (y30 : Int32), y30 = ((if (y16 : Int32) = (-100104) then 0 else ((fX10_charted 448 y16 v).2) : Int32) : Int32) → ((oL_judge 448 a v) ∧ ((pot v ≤ pot v ∧ pot v ≤ pot ((fL_judge 448 a v).2) ∧ pot ((fL_judge 448 a v).2) ≤ pot g) ∧ (∀ v35 : vSt, v35 = ((fL_judge 448 a v).2) → ((((y9 : Int32) = 0) → ((((y11 : Int32) ≤ 0) → (((((fL_judge 448 a v).1) : Int32) = y13) ∧ ((oX10_good 448 v35) ∧ ((∀ (y47 : Int32), y47 = ((if (((fL_judge 448 a v).1) : Int32) = 0 then 1 else 0 : Int32) : Int32) → ((((fX10_good 448 v35) : Int32) = ((fX10_good 448 v) + y47)) ∧ ((oX10_toFile 448 v35) ∧ ((∀ (y51 : Int32), y51 = ((if (((fL_judge 448 a v).1) : Int32) = 1 then 1 else 0 : Int32) : Int32) → ((((fX10_toFile 448 v35) : Int32) = ((fX10_toFile 448 v) + y51)) ∧ ((oX10_thrownAway 448 v35) ∧ ((∀ (y55 : Int32), y55 = ((if (((fL_judge 448 a v).1) : Int32) = 2 then 1 else 0 : Int32) : Int32) → ((((fX10_thrownAway 448 v35) : Int32) = ((fX10_thrownAway 448 v) + y55)) ∧ ((oX10_doubts 448 v35) ∧ ((∀ (y59 : Int32), y59 = ((if (((fL_judge 448 a v).1) : Int32) = 3 then 1 else 0 : Int32) : Int32) → ((((fX10_doubts 448 v35) : Int32) = ((fX10_doubts 448 v) + y59)) ∧ ((oX10_onBench 448 v35) ∧ ((∀ (y63 : Int32), y63 = ((if (((fL_judge 448 a v).1) : Int32) = 3 then 0 else 1 : Int32) : Int32) → ((((fX10_onBench 448 v35) : Int32) = ((fX10_onBench 448 v) - y63)) ∧ ((((((fL_judge 448 a v).1) : Int32) = 3) → ((oX10_wasDoubted 448 ((fX10_onBench 448 v) - (1 : Int32)) v35) ∧ (((fX10_wasDoubted 448 ((fX10_onBench 448 v) - (1 : Int32)) v35).1 = 0) ∧ ((¬ ((((fX10_wasDoubted 448 ((fX10_onBench 448 v) - (1 : Int32)) v35).2) : Int32) = 0)) ∧ ((oX10_typeAt 448 ((fX10_onBench 448 v) - (1 : Int32)) v35) ∧ (((fX10_typeAt 448 ((fX10_onBench 448 v) - (1 : Int32)) v35).1 = 0) ∧ (((((fX10_typeAt 448 ((fX10_onBench 448 v) - (1 : Int32)) v35).2) : Int32) = y16) ∧ ((oX10_charted 448 y16 v35) ∧ (((fX10_charted 448 y16 v35).1 = 0) ∧ (((((fX10_charted 448 y16 v35).2) : Int32) = y30) ∧ ((oX10_recordOf 448 y16 v35) ∧ (((fX10_recordOf 448 y16 v35).1 = 0) ∧ (((((fX10_recordOf 448 y16 v35).2) : Int32) = y24) ∧ ((oX10_mannerOf 448 y16 v35) ∧ (((fX10_mannerOf 448 y16 v35).1 = 0) ∧ (((((fX10_mannerOf 448 y16 v35).2) : Int32) = y22))))))))))))))))) ∧ (¬ ((((fL_judge 448 a v).1) : Int32) = 3) → ((oX10_mannerOf 448 y16 v35) ∧ (((fX10_mannerOf 448 y16 v35).1 = 0) ∧ ((oX10_charted 448 y16 v35) ∧ (((fX10_charted 448 y16 v35).1 = 0) ∧ ((∀ (a2 : Int32), a2 = ((if (y30 : Int32) = 12 then 12 else (y30 + (1 : Int32)) : Int32) : Int32) → (((((fX10_charted 448 y16 v35).2) : Int32) = a2) ∧ (((((((fX10_mannerOf 448 y16 v35).2) : Int32) = y22) → ((oX10_recordOf 448 y16 v35) ∧ (((fX10_recordOf 448 y16 v35).1 = 0) ∧ ((∀ (a8 : Int32), a8 = ((if (y24 : Int32) = 10 then 10 else (y24 + (1 : Int32)) : Int32) : Int32) → (((((fX10_recordOf 448 y16 v35).2) : Int32) = a8) ∧ ((oX10_badOf 448 y16 v35) ∧ (((fX10_badOf 448 y16 v35).1 = 0) ∧ ((∀ (y83 : Int32), y83 = ((if (((fL_judge 448 a v).1) : Int32) ≤ 0 then 0 else 1 : Int32) : Int32) → ((¬ (((y26 + y83) : Int32) < ((fX10_badOf 448 y16 v35).2)))))))))))))) ∧ (¬ ((((fX10_mannerOf 448 y16 v35).2) : Int32) = y22) → ((oX10_recordOf 448 y16 v35) ∧ (((fX10_recordOf 448 y16 v35).1 = 0) ∧ (((((fX10_recordOf 448 y16 v35).2) : Int32) = 0) ∧ ((oX10_badOf 448 y16 v35) ∧ (((fX10_badOf 448 y16 v35).1 = 0) ∧ (((((fX10_badOf 448 y16 v35).2) : Int32) = 0))))))))) ∧ ((((((fL_judge 448 a v).1) : Int32) = 0) → ((((y28 : Int32) = (-100104)) → (((((fX10_mannerOf 448 y16 v35).2) : Int32) = 2))) ∧ (¬ ((y28 : Int32) = (-100104)) → ((((y28 : Int32) = 1) → ((∀ (y92 : Int32), y92 = ((if (y22 : Int32) = 0 then 2 else 0 : Int32) : Int32) → (((((fX10_mannerOf 448 y16 v35).2) : Int32) = y92))))) ∧ (¬ ((y28 : Int32) = 1) → (((((fX10_mannerOf 448 y16 v35).2) : Int32) = y22) ∧ ((oX10_goodUntilChange 448 y16 v35) ∧ (((fX10_goodUntilChange 448 y16 v35).1 = 0) ∧ (((((fX10_goodUntilChange 448 y16 v35).2) : Int32) = (y28 - (1 : Int32)))))))))))) ∧ (¬ ((((fL_judge 448 a v).1) : Int32) = 0) → (((((y22 : Int32) = 2) → (((((fX10_mannerOf 448 y16 v35).2) : Int32) = 0))) ∧ (¬ ((y22 : Int32) = 2) → ((((y22 : Int32) = 1) → (((((fX10_mannerOf 448 y16 v35).2) : Int32) = 1))) ∧ (¬ ((y22 : Int32) = 1) → ((¬ ((2 : Int32) ≤ ((fX10_mannerOf 448 y16 v35).2)))))))) ∧ (¬ ((((fX10_mannerOf 448 y16 v35).2) : Int32) = 2) → ((oX10_goodUntilChange 448 y16 v35) ∧ (((fX10_goodUntilChange 448 y16 v35).1 = 0) ∧ ((∀ (y82 : Int32), y82 = ((if (((fX10_mannerOf 448 y16 v35).2) : Int32) = 0 then 10 else 5 : Int32) : Int32) → (((((fX10_goodUntilChange 448 y16 v35).2) : Int32) = y82)))))))))))))))))))))))))))))))))))))))))) ∧ (¬ ((y11 : Int32) ≤ 0) → ((∀ (y112 : Int32), y112 = ((if (y9 : Int32) = 0 then ((-100103)) else ((-100102)) : Int32) : Int32) → (((((fL_judge 448 a v).1) : Int32) = y112) ∧ ((oX10_onBench 448 v35) ∧ ((((fX10_onBench 448 v35) : Int32) = (fX10_onBench 448 v)) ∧ (((y13 : Int32) = (-100104))))))))))) ∧ (¬ ((y9 : Int32) = 0) → ((∀ (y38 : Int32), y38 = ((if (y9 : Int32) = 0 then ((-100103)) else ((-100102)) : Int32) : Int32) → (((((fL_judge 448 a v).1) : Int32) = y38) ∧ ((oX10_onBench 448 v35) ∧ ((((fX10_onBench 448 v35) : Int32) = (fX10_onBench 448 v)) ∧ (((y13 : Int32) = (-100104))))))))))))))))))))))))))))))))))) := by
  have hQ := hI.q3200 (by omega)
  have hWT : WT (v 462) := hI.2.2.2.2.2.1.2.2.2.2
  obtain ⟨o, S⟩ := s_judge (p := a) hI (by omega)
  have hO := S.out hX hJ hI.wf (xi_goJudge hX hI.wf (by omega)) (xj_goJudge hJ hX hI.wf hWT hQ)
  rw [hg] at hO
  refine ⟨hO, ?_⟩
  obtain ⟨S1, ⟨m', I'⟩, S3, S4⟩ := S
  rw [hg] at S1 I' S3 S4
  clear hO
  have c1 := hI.wf.1.1
  have c3 := hI.wf.1.2.2.1
  have c4 := hI.wf.1.2.2.2.1
  have i0 : (0 : Int32).toInt = 0 := rfl
  obtain ⟨K, eK⟩ : ∃ z, z = fX11_typeOf (v 462 183) := ⟨_, rfl⟩
  have hF : v 462 206 ≠ 0 → inn K 5 ∧ sIsY (v 462) K ≠ 0 ∧ K.toNatClampNeg < (v 462 205).toNatClampNeg := fun h0 => by
    obtain ⟨dd, xx, q1, q2, q3, q4⟩ := hI.wf.fk h0
    rw [← eK] at q2 q3
    have e1 := rn_to c3.1
    have e2 := rn_to q2.1
    exact ⟨q2, (isY_iff c3).mpr ⟨q2.1, by omega⟩, q3⟩
  intro y9 e9
  rw [x_tools hI] at e9
  have hT : y9 = 0 → sIsT (v 462) a ≠ 0 := fun h => by
    have ga : ¬ a = v 462 203 := fun q => by rw [if_pos q] at e9; rw [e9] at h; exact absurd h (by decide)
    rw [isT_iff c1]
    have : a.toInt ≠ (v 462 203).toInt := fun e => ga (toI e)
    omega
  refine ⟨fun q => ⟨(t_whyNotJudge hI).1, by rw [x_whyNotJudge hI (hT q)]⟩, fun y11 e11 => ⟨fun q => (w_wouldJudge hI).1, fun y13 e13 => ⟨(t_onBench hI).1, fun q => ?_, fun y16 e16 => ?_⟩⟩⟩
  · rw [x_onBench hI] at q
    rw [x_typeAt hI, (ta_0 c4 q).1]
    exact ⟨(t_typeAt hI).1, rfl⟩
  have h16 : y16 ≠ -100104 → v 462 206 ≠ 0 ∧ y16 = K := fun h => by
    rw [x_onBench hI] at e16
    by_cases q : v 462 206 = 0
    · rw [if_pos q] at e16; exact absurd e16 h
    · rw [if_neg q, x_typeAt hI, (ta_0 c4 q).1] at e16
      exact ⟨q, e16.trans eK.symm⟩
  have hy16 : y16 ≠ -100104 → sIsY (v 462) y16 ≠ 0 := fun h => by
    rw [(h16 h).2]; exact (hF (h16 h).1).2.1
  refine ⟨(t_good hI).1, (t_toFile hI).1, (t_thrownAway hI).1, (t_doubts hI).1, fun q => ⟨(t_mannerOf hI).1, by rw [x_mannerOf hI (hy16 q)]⟩, fun y22 e22 => ⟨fun q => ⟨(t_recordOf hI).1, by rw [x_recordOf hI (hy16 q)]⟩, fun y24 e24 => ⟨fun q => ⟨(t_badOf hI).1, by rw [x_badOf hI (hy16 q)]⟩, fun y26 e26 => ⟨fun q h2 => ⟨(t_goodUntilChange hI).1, ?_⟩, fun y28 e28 => ⟨fun q => ⟨(t_charted hI).1, by rw [x_charted hI (hy16 q)]⟩, fun y30 e30 => ?_⟩⟩⟩⟩⟩
  · rw [if_neg q, x_mannerOf hI (hy16 q)] at e22
    rw [x_goodUntilChange hI]
    unfold gGu
    rw [if_neg (hy16 q), if_neg (fun e => h2 (e22.trans e))]
  rw [hg]
  refine ⟨o, ⟨Nat.le_refl _, S1, Nat.le_refl _⟩, fun v35 e35 => ?_⟩
  rw [e35]
  obtain ⟨r, er⟩ : ∃ z, z = (fL_judge 448 a v).1 := ⟨_, rfl⟩
  rw [← er] at S3 S4 ⊢
  clear e35 hg o S1 er
  rw [x_onBench hI, x_onBench I', x_good hI, x_good I', x_toFile hI, x_toFile I', x_thrownAway hI, x_thrownAway I', x_doubts hI, x_doubts I']
  by_cases ga : a = v 462 203
  · have hn : sIsT (v 462) a = 0 := by rw [ga]; exact in_n0 c1.1
    have hr : sGoJudge (v 462) a = (-100001, v 462) := by unfold sGoJudge; rw [if_pos hn]
    rw [hr] at S4
    dsimp only at S4
    obtain ⟨f1, f2⟩ := S4 (by decide)
    rw [if_pos rfl] at f1
    rw [if_pos ga] at e9
    rw [e9]
    exact ⟨fun q => absurd q (by decide), fun _ y38 e38 => ⟨by rw [f1, e38]; rfl, (t_onBench I').1, f2.1 206 (by decide), by rw [e13, e9]; rfl⟩⟩
  rw [if_neg ga] at e9
  have hTT := hT e9
  have hTa := isT_in c1 hTT
  have lt := inn_lt hTa.1
  rw [e9, if_pos rfl, x_whyNotJudge hI hTT] at e11
  dsimp only at e11
  rw [e9, if_pos rfl, (w_wouldJudge hI).2, if_neg hTT] at e13
  rw [e9]
  refine ⟨fun _ => (fun h2 h1 => ⟨h1, h2⟩) (fun hle => ?_) (fun hle => ?_), fun q => absurd rfl q⟩
  · -- it is not judged
    rw [e11] at hle
    have hr : sGoJudge (v 462) a = (-100002, v 462) := by unfold sGoJudge; rw [if_neg hTT, if_neg hle]
    rw [hr] at S4
    dsimp only at S4
    obtain ⟨f1, f2⟩ := S4 (by decide)
    rw [if_neg (by decide)] at f1
    have hne : ¬ sReason (v 462) a.toNatClampNeg = 0 := fun e => hle (by rw [e]; decide)
    exact fun y112 e112 => ⟨by rw [f1, e112]; rfl, (t_onBench I').1, f2.1 206 (by decide), by rw [e13, if_neg hne]⟩
  -- it is judged
  rw [e11] at hle
  have hwhy := whyle hle
  have h0 := sReason_ne hle
  have h16n : y16 ≠ -100104 := fun e => by
    rw [x_onBench hI, if_neg h0, x_typeAt hI, (ta_0 c4 h0).1] at e16
    have hk := (hF h0).1.1
    rw [eK] at hk
    have e16 : y16 = fX11_typeOf (v 462 183) := e16
    rw [← e16, e] at hk
    exact absurd hk (by decide)
  obtain ⟨_, ey16⟩ := h16 h16n
  obtain ⟨hK, hyK, hkY⟩ := hF h0
  have hsF : (fX11_typeOf (v 462 183)).toNatClampNeg = K.toNatClampNeg := by rw [eK]
  obtain ⟨k, ek⟩ : ∃ z, z = K.toNatClampNeg := ⟨_, rfl⟩
  have lk := inn_lt hK
  rw [if_neg h16n, ey16, x_mannerOf hI hyK, ← ek] at e22
  rw [if_neg h16n, ey16, x_recordOf hI hyK, ← ek] at e24
  rw [if_neg h16n, ey16, x_badOf hI hyK, ← ek] at e26
  rw [if_neg h16n, ey16, x_charted hI hyK, ← ek] at e30
  rw [if_neg h16n, ey16, x_goodUntilChange hI] at e28
  dsimp only at e22 e24 e26 e30
  rw [← ek] at hkY hsF lk
  obtain ⟨M, rr, b, r1, r2, r3, r4, r5, r6⟩ := rc_of (hI.wf.2.2.2.1.1 _ hkY)
  have hok := hX.2.2 _ hkY
  unfold XY at hok
  rw [r4, r5, r6] at hok
  have hGu : gGu (v 462) K = if Int32.ofNat M = 2 then (3, 0) else (0, gUC (Int32.ofNat M) (Int32.ofNat rr) (Int32.ofNat b)) := by
    unfold gGu
    rw [if_neg hyK, ← ek, r4, r5, r6]
    rfl
  rw [r4] at e22
  rw [r5] at e24
  rw [r6] at e26
  rw [hGu] at e28
  have h28 : y28 = if Int32.ofNat M = 2 then -100104 else gUC (Int32.ofNat M) (Int32.ofNat rr) (Int32.ofNat b) := by
    rw [e28, e22]
    by_cases q : Int32.ofNat M = 2
    · rw [if_pos q, if_pos q]
    · rw [if_neg q, if_neg q, if_neg q]
  obtain ⟨J, eJ⟩ : ∃ z, z = sJudg (v 462) a.toNatClampNeg := ⟨_, rfl⟩
  have hJ4 := judg_4 (A := v 462) (t := a.toNatClampNeg)
  rw [← eJ] at hJ4
  rw [if_pos hwhy, ← eJ] at e13
  have hr : sGoJudge (v 462) a = (J, if J = 3 then sJD (v 462) a.toNatClampNeg else sJ6 (v 462) a.toNatClampNeg) := by
    unfold sGoJudge
    rw [if_neg hTT, if_pos hle, ← eJ]
  rw [hr] at S3
  obtain ⟨f1, f2⟩ := S3 (nn_rfc (by show 0 ≤ J.toInt; rcases hJ4 with e | e | e | e <;> rw [e] <;> decide))
  have f1 : r = J := f1
  have fW : g 462 = if J = 3 then sJD (v 462) a.toNatClampNeg else sJ6 (v 462) a.toNatClampNeg := f2.1
  rw [f1, ey16]
  by_cases h3 : J = 3
  · -- doubted
    rw [if_pos h3] at fW
    obtain ⟨b203, b206, b207, b212, b213, b215, b205, bY, bF⟩ := jD_B (t := a.toNatClampNeg) hI.wf lt h0
    rw [← fW] at b203 b206 b207 b212 b213 b215 b205 bF
    have bY : ∀ i, 78 ≤ i → i < 183 → g 462 i = v 462 i := fun i h1 h2 => by rw [fW]; exact bY i h1 h2
    have hyK' : sIsY (g 462) K ≠ 0 := by unfold sIsY at hyK ⊢; rw [b205]; exact hyK
    obtain ⟨s1, s2, s3, s4⟩ := sub1 c4 h0
    have ep : v 462 206 - 1 = Int32.ofNat (((v 462) 206).toNatClampNeg - 1) := by rw [← s3]; exact (of_to s4.1).symm
    have TA := ta_k (A := g 462) (k := ((v 462) 206).toNatClampNeg - 1) I'.wf.1.2.2.2.1 (by rw [b206]; omega)
    rw [← ep, bF] at TA
    have e183 : v 462 183 + 1 = fX11_piece K (fX11_deviationOf (v 462 183)) 1 := by
      obtain ⟨dd, xx, q1, q2, q3, q4, q5, q6, q7, q8, q9⟩ := hI.wf.fk h0
      have hx0 := judg3e (eJ.symm.trans h3)
      rw [hx0] at q8
      rw [← eK, ← q8, ← q4] at q1
      rw [q1]
      have : fX11_deviationOf (fX11_piece K (fX11_deviationOf (v 462 183)) 0) = fX11_deviationOf (v 462 183) := by rw [← q1]
      rw [this]
      unfold fX11_piece
      rw [Int32.add_zero]
    have D : fX11_typeOf (v 462 183 + 1) = K ∧ (v 462 183 + 1) - (v 462 183 + 1) / 2 * 2 = 1 := by
      obtain ⟨dd, xx, q1, q2, q3, q4, q5, q6, q7, q8, q9⟩ := hI.wf.fk h0
      have := pc_dec (t := K) (d := fX11_deviationOf (v 462 183)) (x := 1) ⟨hK.1, by have := hK.2; omega⟩ (by rw [q4]; omega) (by decide)
      rw [e183]
      exact ⟨this.1, this.2.2⟩
    rw [D.1, D.2] at TA
    rw [x_wasDoubted I', x_typeAt I', TA.1, TA.2, x_charted I' hyK', x_recordOf I' hyK', x_mannerOf I' hyK', ← ek]
    dsimp only
    rw [bY (78 + 21 * k + 8) (by omega) (by omega), bY (78 + 21 * k + 5) (by omega) (by omega), bY (78 + 21 * k + 4) (by omega) (by omega), b206, b207, b212, b213, b215, h3, r4, r5]
    exact ⟨by rw [e13, h3], (t_good I').1, fun y47 e47 => ⟨by rw [e47]; exact (Int32.add_zero _).symm, (t_toFile I').1, fun y51 e51 => ⟨by rw [e51]; exact (Int32.add_zero _).symm, (t_thrownAway I').1, fun y55 e55 => ⟨by rw [e55]; exact (Int32.add_zero _).symm, (t_doubts I').1, fun y59 e59 => ⟨by rw [e59, if_pos rfl], (t_onBench I').1, fun y63 e63 => ⟨by rw [e63, if_pos rfl, Int32.sub_zero], fun _ => ⟨(t_wasDoubted I').1, rfl, by decide, (t_typeAt I').1, rfl, rfl, (t_charted I').1, rfl, e30.symm, (t_recordOf I').1, rfl, e24.symm, (t_mannerOf I').1, rfl, e22.symm⟩, fun q => absurd rfl q⟩⟩⟩⟩⟩⟩
  · rw [if_neg h3] at fW
    obtain ⟨b203, b205, b206, b207, b212, b213, b215, ⟨bM, bR, bB⟩, b8⟩ := j6_B (t := a.toNatClampNeg) (k := k) hI.wf lt h0 hsF
    rw [← fW, ← eJ] at b207 b212 b213 bM bR bB
    rw [← fW] at b203 b205 b206 b215 b8
    rw [r4, r5, r6] at bM bR bB
    have hyK' : sIsY (g 462) K ≠ 0 := by unfold sIsY at hyK ⊢; rw [b205]; exact hyK
    have hGu' : gGu (g 462) K = if g 462 ((78 + 21 * k + 4)) = 2 then (3, 0) else (0, gUC (g 462 ((78 + 21 * k + 4))) (g 462 ((78 + 21 * k + 5))) (g 462 ((78 + 21 * k + 6)))) := by
      unfold gGu
      rw [if_neg hyK', ← ek]
      rfl
    rw [x_charted I' hyK', x_recordOf I' hyK', x_mannerOf I' hyK', x_badOf I' hyK', x_goodUntilChange I', hGu', ← ek]
    dsimp only
    rw [b206, b207, b212, b213, b215, b8, e13, e22, e24, e26, e30, h28]
    obtain ⟨M', eM'⟩ : ∃ z, z = g 462 ((78 + 21 * k + 4)) := ⟨_, rfl⟩
    obtain ⟨R', eR'⟩ : ∃ z, z = g 462 ((78 + 21 * k + 5)) := ⟨_, rfl⟩
    obtain ⟨B', eB'⟩ : ∃ z, z = g 462 ((78 + 21 * k + 6)) := ⟨_, rfl⟩
    rw [← eM'] at bM
    rw [← eR'] at bR
    rw [← eB'] at bB
    rw [← eM', ← eR', ← eB']
    have hJ3 : J = 0 ∨ J = 1 ∨ J = 2 := by
      rcases hJ4 with e | e | e | e
      · exact Or.inl e
      · exact Or.inr (Or.inl e)
      · exact Or.inr (Or.inr e)
      · exact absurd e h3
    have ft : ∀ {P : Prop}, (M' = 2 → P) → (¬ M' = 2 → P) → P := fun h1 h2 => by
      by_cases q : M' = 2
      · exact h1 q
      · exact h2 q
    have h100 : ∀ z : Int32, 1 ≤ z → ¬ z = -100104 := fun z hz e => by rw [e] at hz; exact absurd hz (by decide)
    have LW := rec_law M r1 rr r2 b r3 hok
    refine ⟨rfl, (t_good I').1, fun y47 e47 => ⟨by rw [e47], (t_toFile I').1, fun y51 e51 => ⟨by rw [e51], (t_thrownAway I').1, fun y55 e55 => ⟨by rw [e55], (t_doubts I').1, fun y59 e59 => ⟨by rw [e59, if_neg h3, Int32.add_zero], (t_onBench I').1, fun y63 e63 => ⟨by rw [e63, if_neg h3], fun q => absurd q h3, fun _ => ⟨(t_mannerOf I').1, rfl, (t_charted I').1, rfl, fun y72 e72 => ⟨e72.symm, ?_⟩⟩⟩⟩⟩⟩⟩⟩
    by_cases hJ0 : J = 0
    · have e0 : (if J ≤ 0 then 0 else 1 : Int32) = 0 := by rw [hJ0]; rfl
      obtain ⟨_, G1, G2, G3, G4, G5⟩ := rec_good M r1 rr r2 b r3 hok
      rw [e0] at bM bR bB
      rw [← bM, ← bR, ← bB] at G1 G2 G5
      rw [← bM] at G3 G4
      refine ⟨⟨fun q => ⟨(t_recordOf I').1, rfl, fun y78 e78 => ⟨by rw [e78]; exact (G2 q).1, (t_badOf I').1, rfl, fun y83 e83 q3 => ?_⟩⟩, fun q => ⟨(t_recordOf I').1, rfl, (G1 q).1, (t_badOf I').1, rfl, (G1 q).2⟩⟩, fun _ => ⟨fun q => ?_, fun q => ⟨fun q1 y92 e92 => ?_, fun q1 => ?_⟩⟩, fun q => absurd hJ0 q⟩
      · rw [e83, e0] at q3
        have q4 := i_lt q3
        have q5 := i_le (G2 q).2
        omega
      · by_cases g2 : Int32.ofNat M = 2
        · exact G3 g2
        · rw [if_neg g2] at q
          exact absurd q (h100 _ (LW.1 g2).1)
      · by_cases g2 : Int32.ofNat M = 2
        · rw [if_pos g2] at q; exact absurd rfl q
        · rw [if_neg g2] at q1
          rw [e92]
          exact G4 g2 q1
      · by_cases g2 : Int32.ofNat M = 2
        · rw [if_pos g2] at q; exact absurd rfl q
        · rw [if_neg g2] at q1 ⊢
          obtain ⟨u1, u2⟩ := G5 g2 q1
          refine ⟨u1, (t_goodUntilChange I').1, ?_, ?_⟩
          · rw [if_neg (by rw [u1]; exact g2)]
          · rw [if_neg (by rw [u1]; exact g2)]
            exact u2
    · have e1 : (if J ≤ 0 then 0 else 1 : Int32) = 1 := by
        rcases hJ3 with e | e | e
        · exact absurd e hJ0
        · rw [e]; rfl
        · rw [e]; rfl
      obtain ⟨_, G1, G2, G3, G4, G5, G6⟩ := rec_bad M r1 rr r2 b r3 hok
      rw [e1] at bM bR bB
      rw [← bM, ← bR, ← bB] at G1 G2 G6
      rw [← bM] at G3 G4 G5
      refine ⟨⟨fun q => ⟨(t_recordOf I').1, rfl, fun y78 e78 => ⟨by rw [e78]; exact (G2 q).1, (t_badOf I').1, rfl, fun y83 e83 q3 => ?_⟩⟩, fun q => ⟨(t_recordOf I').1, rfl, (G1 q).1, (t_badOf I').1, rfl, (G1 q).2⟩⟩, fun q => absurd q hJ0, fun _ => ⟨⟨fun q => G3 q, fun q => ⟨fun q1 => G4 q1, fun q1 q2 => ?_⟩⟩, fun q => ⟨(t_goodUntilChange I').1, ?_, fun y82 e82 => ?_⟩⟩⟩
      · rw [e83, e1] at q3
        have q4 := i_lt q3
        have q5 := i_le (G2 q).2
        omega
      · have hM0 : Int32.ofNat M = 0 := by
          have hM : M = 0 ∨ M = 1 ∨ M = 2 := by omega
          rcases hM with e | e | e
          · rw [e]; rfl
          · rw [e] at q1; exact absurd rfl q1
          · rw [e] at q; exact absurd rfl q
        have := i_lt (G5 hM0)
        have q2 := i_le q2
        omega
      · rw [if_neg q]
      · rw [if_neg q, e82]
        exact G6 q
theorem judges_o (hI : Inv n m v) (hn : n ≤ 3150) (hX : XI N (v 462)) (hJ : XJ (v 462)) (hN : N + 60 < 2 ^ 30) : oL_judges 448 y v ∧ OUT n N v (fL_judges 448 y v) := by
  have c1 := hI.wf.1.1
  have lo : ∀ (q z : Int32), 0 < z.toInt → oL_low q z ∧ 0 ≤ (fL_low q z).toInt ∧ (fL_low q z).toInt < z.toInt := fun q z h => ⟨low_o (fun e => by rw [e] at h; exact absurd h (by decide)), low_t h⟩
  have i1 : (1 : Int32).toInt = 1 := rfl
  have i0 : (0 : Int32).toInt = 0 := rfl
  obtain ⟨Y, EY⟩ : ∃ z : Int32, z = (if ((fL_low (y >>> ((9 : Int32) &&& 31)) 14) : Int32) = 0 then 1 else (if ((fX10_tools 448 v) : Int32) = 0 then 1 else 0) : Int32) := ⟨_, rfl⟩
  have hq : 0 < (fX10_tools 448 v + Y).toInt ∧ (fX10_tools 448 v + Y).toInt ≤ (v 462 203).toInt + 1 := by
    have e1 := c1.1
    have e2 := c1.2
    rw [EY, x_tools hI]
    by_cases g : fL_low (y >>> ((9 : Int32) &&& 31)) 14 = 0
    · rw [if_pos g, ti_add (b := 1) (by rw [i1]; omega), i1]; omega
    · rw [if_neg g]
      by_cases g2 : v 462 203 = 0
      · rw [if_pos g2, g2]; decide
      · rw [if_neg g2, Int32.add_zero]
        have : (v 462 203).toInt ≠ 0 := fun e => g2 (toI e)
        omega
  have la := lo y _ hq.1
  -- the best tool
  have T := hd_t (x := 0) hI hX (by omega) 7 0 (-100104) (by omega) (by have := inn_lt c1; omega) (Or.inl rfl) (Or.inl ⟨by unfold bTl; rw [if_pos rfl], fun t _ q => absurd q (Nat.not_lt_zero _)⟩)
  have hb := (bt_c hI).eq T.2.2
  have hbest : ¬ fL_bestTool 448 v = -100104 → (fX10_bestTool 448 v).1 = 0 ∧ 0 ≤ (fX10_bestTool 448 v).2.toInt ∧ (fX10_bestTool 448 v).2.toInt ≤ (v 462 203).toInt := fun h => by
    unfold fL_bestTool fX10_bestTool at h
    unfold fX10_bestTool
    rw [hb] at h ⊢
    rcases T.2.1 with e | ⟨s, s1, s2⟩
    · rw [e, show bTl (-100104) = -1 by unfold bTl; rw [if_pos rfl]] at h
      exact absurd rfl h
    · have e1 : bTl (Int32.ofNat s) = Int32.ofNat s := by unfold bTl; rw [if_neg (neN (by have := inn_lt c1; omega))]
      have l1 := inn_lt c1
      rw [s2, e1, if_pos (by rw [Int32.le_iff_toInt_le, of_ti (by omega), i0]; omega)]
      have := rn_to c1.1
      refine ⟨rfl, ?_, ?_⟩
      · show 0 ≤ (Int32.ofNat s).toInt
        rw [of_ti (by omega)]; omega
      · show (Int32.ofNat s).toInt ≤ _
        rw [of_ti (by omega)]; omega
  obtain ⟨a, Ea⟩ : ∃ z : Int32, z = (if ((fL_low (y >>> ((4 : Int32) &&& 31)) 3) : Int32) ≤ 0 then (fL_low y ((fX10_tools 448 v) + Y)) else (if ((fL_bestTool 448 v) : Int32) = (-100104) then (fL_low y ((fX10_tools 448 v) + Y)) else ((fX10_bestTool 448 v).2)) : Int32) := ⟨_, rfl⟩
  have ha : 0 ≤ a.toInt ∧ a.toInt ≤ (v 462 203).toInt := by
    rw [Ea]
    split
    · omega
    · split
      · omega
      · rename_i q
        exact (hbest q).2
  have F : (fL_judge 448 a v).2 = fL_judges 448 y v := by
    unfold fL_judges
    dsimp only
    rw [← EY, ← Ea]
    simp only [ite_self]
  have C := jd (n := n) (m := m) hI hn hX hJ hN ha F
  refine ⟨⟨(t_tools hI).1, (lo _ 14 (by decide)).1, fun y3 e3 => ?_⟩, C.1⟩
  rw [e3.trans EY.symm]
  refine ⟨la.1, (lo _ 3 (by decide)).1, fun _ => ⟨⟨(t_bestTool hI).1, fun q => (t_bestTool hI).2.2.1.resolve_left q⟩, fun q => ⟨(t_bestTool hI).1, (hbest q).1⟩⟩, fun y7 e7 => ?_⟩
  rw [e7.trans Ea.symm]
  exact C.2
end T58c
