/-! THE PLAIN PART 4: types, the first piece, judging: the model. -/
def sIsY (A : Ar) (k : Int32) : Int32 := fX11_in k 0 (A 205 - 1)
abbrev sFK (A : Ar) : Int32 := fX11_typeOf (A 183)
abbrev sFT (A : Ar) : Nat := (fX11_typeOf (A 183)).toNatClampNeg
def sFL (A : Ar) : Int32 := A ((78 + 21 * ((fX11_typeOf (A 183)).toNatClampNeg) + 0)) + fX11_deviationOf (A 183)
def sFR (A : Ar) (t : Nat) : Int32 := sReading A t (A ((78 + 21 * ((fX11_typeOf (A 183)).toNatClampNeg) + 3))) (sFL A)
def sReason (A : Ar) (t : Nat) : Int32 :=
  if A 206 = 0 then 1 else (if sDue A t = 0 then (if 5 * sStep (A (8 * t)) ≤ A ((78 + 21 * ((fX11_typeOf (A 183)).toNatClampNeg) + 2)) - A ((78 + 21 * ((fX11_typeOf (A 183)).toNatClampNeg) + 1)) then (if 0 ≤ sFR A t then 0 else 4) else 3) else 2)
def sMeas (A : Ar) (t : Nat) : Int32 := sFR A t - A (8 * t + 3) - A ((78 + 21 * ((fX11_typeOf (A 183)).toNatClampNeg) + 0))
def sRes (A : Ar) (k : Nat) (x : Int32) : Int32 := if x ≤ A ((78 + 21 * k + 2)) then (if A ((78 + 21 * k + 1)) ≤ x then 0 else 2) else 1
def sJudg (A : Ar) (t : Nat) : Int32 :=
  if sStep (A (8 * t)) ≤ fX11_less (fX11_size (sMeas A t - A ((78 + 21 * ((fX11_typeOf (A 183)).toNatClampNeg) + 1)))) (fX11_size (sMeas A t - A ((78 + 21 * ((fX11_typeOf (A 183)).toNatClampNeg) + 2)))) then sRes A ((fX11_typeOf (A 183)).toNatClampNeg) (sMeas A t)
  else (if A 183 - A 183 / 2 * 2 = 0 then 3 else sRes A ((fX11_typeOf (A 183)).toNatClampNeg) (sMeas A t))
def sReasonP (A : Ar) : Int32 := if A 206 = 0 then 1 else (if A ((78 + 21 * ((fX11_typeOf (A 183)).toNatClampNeg) + 4)) = 2 then (if A ((78 + 21 * ((fX11_typeOf (A 183)).toNatClampNeg) + 7)) = 1 then 3 else 0) else 2)
section M33
variable {v : vSt} {p k d : Int32}
theorem isY_iff {A : Ar} {k : Int32} (h : inn (A 205) 6) : sIsY A k ≠ 0 ↔ 0 ≤ k.toInt ∧ k.toInt < (A 205).toInt := by
  unfold sIsY
  rw [in_iff, subOne h.1, show (0 : Int32).toInt = 0 from rfl]
  omega
theorem isY_in {A : Ar} {k : Int32} (h : inn (A 205) 6) (hp : sIsY A k ≠ 0) : inn k 5 ∧ k.toNatClampNeg < (A 205).toNatClampNeg := by
  have := (isY_iff h).mp hp
  have h1 := rn_to this.1
  have h2 := rn_to h.1
  have := h.2
  exact ⟨⟨by omega, by omega⟩, by omega⟩
theorem m_isType : fX11_isType 461 k v = sIsY (v 462) k := rfl
theorem mo_isType : oX11_isType 461 k v := vL (by decide)
theorem m_fR (hp : inn p 6) (hk : inn ((fX11_typeOf ((v 462) 183))) 5) : fX11_firstReading 461 p v = sFR (v 462) p.toNatClampNeg := by
  unfold fX11_firstReading sFR sFL
  rw [m_reading hp]
  show sReading (v 462) p.toNatClampNeg (fX11_of 461 ((fX11_typeOf ((v 462) 183))) 3 v) (fX11_firstLength 461 v) = _
  rw [m_of hk (by decide)]
  show sReading (v 462) p.toNatClampNeg _ (fX11_of 461 ((fX11_typeOf ((v 462) 183))) 0 v + fX11_deviationOf (v 462 183)) = _
  rw [m_of hk (by decide)]
  rfl
theorem mo_fR (hp : inn p 6) (hk : inn ((fX11_typeOf ((v 462) 183))) 5) : oX11_firstReading 461 p v :=
  ⟨vL (by decide), mo_of hk (by decide), ⟨vL (by decide), mo_of hk (by decide), vL (by decide)⟩, mo_reading hp⟩
theorem m_reasonNot (hp : inn p 6) (hk : v 462 206 ≠ 0 → inn ((fX11_typeOf ((v 462) 183))) 5) : fX11_reasonNot 461 p v = sReason (v 462) p.toNatClampNeg := by
  unfold fX11_reasonNot sReason
  by_cases h0 : v 462 206 = 0
  · rw [if_pos h0]; exact if_pos h0
  · have hk := hk h0
    rw [if_neg h0, m_due hp, m_step hp, m_fR hp hk]
    have e1 : fX11_of 461 (fX11_firstType 461 v) 2 v = v 462 ((78 + 21 * ((fX11_typeOf ((v 462) 183)).toNatClampNeg) + 2)) := m_of hk (by decide)
    have e2 : fX11_of 461 (fX11_firstType 461 v) 1 v = v 462 ((78 + 21 * ((fX11_typeOf ((v 462) 183)).toNatClampNeg) + 1)) := m_of hk (by decide)
    rw [e1, e2]
    refine (if_neg h0).trans ?_
    by_cases hd : sDue (v 462) p.toNatClampNeg = 0
    · rw [if_pos hd, if_pos hd]
      by_cases hc : 5 * sStep (v 462 (8 * p.toNatClampNeg)) ≤ v 462 ((78 + 21 * ((fX11_typeOf ((v 462) 183)).toNatClampNeg) + 2)) - v 462 ((78 + 21 * ((fX11_typeOf ((v 462) 183)).toNatClampNeg) + 1))
      · rw [if_pos hc, if_pos hc]
        exact if_pos rfl
      · rw [if_neg hc, if_neg hc]
        exact if_neg (by decide)
    · rw [if_neg hd, if_neg hd]
theorem mo_reasonNot (hp : inn p 6) (hk : v 462 206 ≠ 0 → inn ((fX11_typeOf ((v 462) 183))) 5) : oX11_reasonNot 461 p v :=
  ⟨vL (by decide), fun h0 => have hk := hk h0; ⟨vL (by decide), mo_step hp, mo_of hk (by decide), mo_of hk (by decide), fun _ _ => ⟨mo_due hp, fun _ _ => mo_fR hp hk⟩⟩⟩
theorem m_measured (hp : inn p 6) (hk : inn ((fX11_typeOf ((v 462) 183))) 5) : fX11_measured 461 p v = sMeas (v 462) p.toNatClampNeg := by
  unfold fX11_measured sMeas
  rw [m_fR hp hk, m_tool hp (by decide)]
  have e1 : fX11_of 461 (fX11_firstType 461 v) 0 v = v 462 ((78 + 21 * ((fX11_typeOf ((v 462) 183)).toNatClampNeg) + 0)) := m_of hk (by decide)
  rw [e1]
  rfl
theorem mo_measured (hp : inn p 6) (hk : inn ((fX11_typeOf ((v 462) 183))) 5) : oX11_measured 461 p v := ⟨mo_fR hp hk, mo_tool hp (by decide), vL (by decide), mo_of hk (by decide)⟩
theorem m_judgement (hp : inn p 6) (hk : inn ((fX11_typeOf ((v 462) 183))) 5) : fX11_judgement 461 p v = sJudg (v 462) p.toNatClampNeg := by
  unfold fX11_judgement sJudg sRes
  have e1 : fX11_of 461 (fX11_firstType 461 v) 2 v = v 462 ((78 + 21 * ((fX11_typeOf ((v 462) 183)).toNatClampNeg) + 2)) := m_of hk (by decide)
  have e2 : fX11_of 461 (fX11_firstType 461 v) 1 v = v 462 ((78 + 21 * ((fX11_typeOf ((v 462) 183)).toNatClampNeg) + 1)) := m_of hk (by decide)
  rw [e1, e2, m_measured hp hk, m_step hp]
  by_cases hc : sStep (v 462 (8 * p.toNatClampNeg)) ≤ fX11_less (fX11_size (sMeas (v 462) p.toNatClampNeg - v 462 ((78 + 21 * ((fX11_typeOf ((v 462) 183)).toNatClampNeg) + 1)))) (fX11_size (sMeas (v 462) p.toNatClampNeg - v 462 ((78 + 21 * ((fX11_typeOf ((v 462) 183)).toNatClampNeg) + 2))))
  · rw [if_pos hc, if_pos hc]
    exact if_pos rfl
  · rw [if_neg hc, if_neg hc]
    exact if_neg (by decide)
theorem mo_judgement (hp : inn p 6) (hk : inn ((fX11_typeOf ((v 462) 183))) 5) : oX11_judgement 461 p v := ⟨vL (by decide), mo_measured hp hk, mo_of hk (by decide), mo_of hk (by decide), mo_step hp, fun _ _ _ => vL (by decide)⟩
theorem m_reasonP (hk : v 462 206 ≠ 0 → inn ((fX11_typeOf ((v 462) 183))) 5) : fX11_reasonNotPass 461 v = sReasonP (v 462) := by
  unfold fX11_reasonNotPass sReasonP
  by_cases h0 : v 462 206 = 0
  · rw [if_pos h0]; exact if_pos h0
  · have hk := hk h0
    have e1 : fX11_of 461 (fX11_firstType 461 v) 4 v = v 462 ((78 + 21 * ((fX11_typeOf ((v 462) 183)).toNatClampNeg) + 4)) := m_of hk (by decide)
    have e2 : fX11_of 461 (fX11_firstType 461 v) 7 v = v 462 ((78 + 21 * ((fX11_typeOf ((v 462) 183)).toNatClampNeg) + 7)) := m_of hk (by decide)
    rw [if_neg h0, e1, e2]
    exact if_neg h0
theorem mo_reasonP (hk : v 462 206 ≠ 0 → inn ((fX11_typeOf ((v 462) 183))) 5) : oX11_reasonNotPass 461 v := ⟨vL (by decide), fun h0 => have hk := hk h0; ⟨vL (by decide), mo_of hk (by decide), fun _ => mo_of hk (by decide)⟩⟩
def sGoBring (A : Ar) (k d : Int32) : Int32 × Ar :=
  if (if sIsY A k = 0 then 0 else (if fX11_in d (-200) 200 = 0 then 0 else (if A ((78 + 21 * k.toNatClampNeg + 0)) + d < 1 then 0 else 1)) : Int32) = 0 then (-100001, A)
  else (if A 206 = 20 then (-100002, A) else (A 206 + 1, st (sToB A (fX11_piece k d 0)) 211 (A 211 + 1)))
theorem m_goBring (hn : inn (v 462 206) 21) (hy : inn (v 462 205) 6) : fX11_goBring 461 k d v = ((sGoBring (v 462) k d).1, uA v 462 (sGoBring (v 462) k d).2) := by
  unfold fX11_goBring sGoBring
  rw [show fX11_isType 461 k v = sIsY (v 462) k from rfl]
  have ec : (if sIsY (v 462) k = 0 then 0 else (if fX11_in d (-200) 200 = 0 then 0 else (if fX11_of 461 k 0 v + d < 1 then 0 else 1)) : Int32) = (if sIsY (v 462) k = 0 then 0 else (if fX11_in d (-200) 200 = 0 then 0 else (if v 462 ((78 + 21 * k.toNatClampNeg + 0)) + d < 1 then 0 else 1)) : Int32) := by
    by_cases h : sIsY (v 462) k = 0
    · rw [if_pos h, if_pos h]
    · rw [if_neg h, if_neg h, m_of (isY_in hy h).1 (by decide)]
      rfl
  simp only [ec]
  by_cases hc : (if sIsY (v 462) k = 0 then 0 else (if fX11_in d (-200) 200 = 0 then 0 else (if v 462 ((78 + 21 * k.toNatClampNeg + 0)) + d < 1 then 0 else 1)) : Int32) = 0
  · rw [if_pos hc, if_pos hc, uI]
  rw [if_neg hc, if_neg hc]
  simp only [Int32.reduceToNatClampNeg]
  by_cases h20 : v 462 206 = 20
  · rw [if_pos h20, if_pos h20, uI]
  rw [if_neg h20, if_neg h20]
  have hn2 : inn (v 462 206) 20 := ⟨hn.1, by
    have := hn.2
    have : (v 462 206).toInt ≠ 20 := fun e => h20 (Int32.toInt_inj.mp e)
    omega⟩
  obtain ⟨l1, l2, l3, l4, l5, l6⟩ := tb_lo (A := v 462) (p := fX11_piece k d 0) hn2
  rw [m_toBench hn, w2, uA_s, uu, uA_s, l1 211 (by omega) (by omega), st_n (by omega), l2]
theorem mo_goBring (hn : inn (v 462 206) 21) (hy : inn (v 462 205) 6) : oX11_goBring 461 k d v :=
  ⟨mo_isType, fun h _ => mo_of (isY_in hy h).1 (by decide), fun _ _ _ => ⟨vL (by decide), fun _ => ⟨mo_toBench hn, fun _ _ => vL (by decide)⟩⟩⟩
def sJ1 (A : Ar) (t : Nat) : Ar := sUse (sLeave A) t (A ((78 + 21 * ((fX11_typeOf (A 183)).toNatClampNeg) + 3)))
def sJ2 (A : Ar) (t : Nat) : Ar := if sJudg A t = 1 then sToQ (sJ1 A t) (fX11_piece ((fX11_typeOf (A 183))) (fX11_deviationOf (A 183)) 0) else sJ1 A t
def sJ3 (A : Ar) (t : Nat) : Ar := st (sJ2 A t) 212 (sJ2 A t 212 + (if sJudg A t = 0 then 1 else 0))
def sJ4 (A : Ar) (t : Nat) : Ar := st (sJ3 A t) 213 (sJ3 A t 213 + (if sJudg A t = 2 then 1 else 0))
def sJ5 (A : Ar) (t : Nat) : Ar := st (sJ4 A t) 216 (sJ4 A t 216 + 1)
def sJ6 (A : Ar) (t : Nat) : Ar := st (sCharts (sNotes (sJ5 A t) ((fX11_typeOf (A 183)).toNatClampNeg) (if sJudg A t ≤ 0 then 0 else 1)) ((fX11_typeOf (A 183)).toNatClampNeg) (sMeas A t)) ((78 + 21 * ((fX11_typeOf (A 183)).toNatClampNeg) + 7)) 0
def sJD (A : Ar) (t : Nat) : Ar := st (sToB (sJ1 A t) (A 183 + 1)) 215 (sToB (sJ1 A t) (A 183 + 1) 215 + 1)
def sGoJudge (A : Ar) (p : Int32) : Int32 × Ar :=
  if sIsT A p = 0 then (-100001, A) else if sReason A p.toNatClampNeg ≤ 0 then (sJudg A p.toNatClampNeg, if sJudg A p.toNatClampNeg = 3 then sJD A p.toNatClampNeg else sJ6 A p.toNatClampNeg) else (-100002, A)
theorem sNotes_o {A : Ar} {k : Nat} {x : Int32} {j : Nat} (h : j ≠ (78 + 21 * k + 4) ∧ j ≠ (78 + 21 * k + 5) ∧ j ≠ (78 + 21 * k + 6)) : sNotes A k x j = A j := by
  have e2 : sNote2 A k x j = A j := by unfold sNote2 sNote1; rw [st_n h.2.1, st_n h.2.2]
  unfold sNotes
  split
  · exact e2
  · rw [st_n h.2.1, st_n h.2.2, st_n h.1, e2]
theorem sReason_ne {A : Ar} {t : Nat} (h : sReason A t ≤ 0) : A 206 ≠ 0 := by
  intro e
  unfold sReason at h
  rw [if_pos e] at h
  exact absurd h (by decide)
/-- what the model's judging reads of types is there -/
theorem m_goJudge (hw : WF (v 462)) (hQ : inn (v 462 207) 3200) : fX11_goJudge 461 p v = ((sGoJudge (v 462) p).1, uA v 462 (sGoJudge (v 462) p).2) ∧ oX11_goJudge 461 p v := by
  have hk : v 462 206 ≠ 0 → inn ((fX11_typeOf ((v 462) 183))) 5 := fun h0 => by
    obtain ⟨e1, e2, e3, e4⟩ := sub1 hw.1.2.2.2.1 h0
    obtain ⟨a, d, x, q1, q2, q3, q4, q5, q6⟩ := hw.2.2.2.2.1 0 (by omega)
    have hy := inn_lt hw.1.2.2.1
    have ha : inn a 8 := ⟨q2.1, by have := q2.2; omega⟩
    rw [show (183 + 0 : Nat) = 183 from rfl] at q1
    show inn (fX11_typeOf (v 462 183)) 5
    rw [q1, (pc_dec ha (by omega) q5).1]
    exact ⟨q2.1, by have := q2.2; omega⟩
  unfold fX11_goJudge sGoJudge oX11_goJudge
  simp only [m_isTool]
  by_cases h1 : sIsT (v 462) p = 0
  · rw [if_pos h1, if_pos h1, uI]
    exact ⟨rfl, mo_isTool, fun q => absurd h1 q⟩
  rw [if_neg h1, if_neg h1]
  have hp := (isT_in hw.1.1 h1).1
  have hp6 := inn_lt hp
  rw [m_reasonNot hp hk]
  by_cases hr : ¬ sReason (v 462) p.toNatClampNeg ≤ 0
  · rw [if_neg hr, if_neg hr, uI]
    exact ⟨rfl, mo_isTool, fun _ => ⟨mo_reasonNot hp hk, fun q => absurd q hr⟩⟩
  have hr := Decidable.not_not.mp hr
  have h0 := sReason_ne hr
  have hk5 := hk h0
  have hn := hw.1.2.2.2.1
  have hkl := inn_lt hk5
  obtain ⟨l1, l2, l3, l4, l5, l6⟩ := lv_lo hn h0
  have hof : ∀ c, inn c 21 → fX11_of 461 (fX11_firstType 461 v) c v = v 462 ((78 + 21 * ((fX11_typeOf ((v 462) 183)).toNatClampNeg) + c.toNatClampNeg)) := fun c hc => m_of hk5 hc
  have h3 : fX11_of 461 (fX11_firstType 461 v) 3 (uA v 462 (sLeave (v 462))) = v 462 ((78 + 21 * ((fX11_typeOf ((v 462) 183)).toNatClampNeg) + 3)) := by
    have := m_of (v := uA v 462 (sLeave (v 462))) (p := fX11_firstType 461 v) (c := 3) hk5 (by decide)
    rw [this, uA_s]
    exact l1 _ (by rw [show (3 : Int32).toNatClampNeg = 3 from rfl]; show 78 + 21 * (fX11_typeOf ((v 462) 183)).toNatClampNeg + 3 < 183 ∨ _; omega) (by show 78 + 21 * (fX11_typeOf ((v 462) 183)).toNatClampNeg + 3 ≠ 206; omega)
  have eJ1 : fX11_uses 461 p (v 462 ((78 + 21 * ((fX11_typeOf ((v 462) 183)).toNatClampNeg) + 3))) (uA v 462 (sLeave (v 462))) = uA v 462 (sJ1 (v 462) p.toNatClampNeg) := by
    rw [m_uses hp, uA_s, uu]
    rfl
  have s206 : sJ1 (v 462) p.toNatClampNeg 206 = v 462 206 - 1 := by unfold sJ1; rw [sUse_o (by omega), l2]
  have s207 : sJ1 (v 462) p.toNatClampNeg 207 = v 462 207 := by unfold sJ1; rw [sUse_o (by omega), l1 _ (by omega) (by omega)]
  rw [if_pos hr, m_leavesBench hn h0, h3, eJ1, m_judgement hp hk5, m_measured hp hk5]
  have hch : ∀ y, inn (sNotes (sJ5 (v 462) p.toNatClampNeg) ((fX11_typeOf ((v 462) 183)).toNatClampNeg) y ((78 + 21 * ((fX11_typeOf ((v 462) 183)).toNatClampNeg) + 8))) 13 := by
    intro y
    have e1 : ∀ j, 78 ≤ j → j < 183 → sJ5 (v 462) p.toNatClampNeg j = v 462 j := by
      intro j h1 h2
      obtain ⟨q1, q2, q3, q4, q5, q6⟩ := tq_lo (A := sJ1 (v 462) p.toNatClampNeg) (p := fX11_piece ((fX11_typeOf ((v 462) 183))) (fX11_deviationOf (v 462 183)) 0) (by rw [s207]; exact hQ)
      unfold sJ5 sJ4 sJ3
      rw [st_n (by omega), st_n (by omega), st_n (by omega)]
      have e3 : sJ1 (v 462) p.toNatClampNeg j = v 462 j := by unfold sJ1; rw [sUse_o (by omega), l1 _ (by omega) (by omega)]
      unfold sJ2
      split
      · rw [q1 _ (by omega) (by omega), e3]
      · exact e3
    rw [sNotes_o (by omega), e1 _ (by omega) (by omega)]
    by_cases hy : (fX11_typeOf ((v 462) 183)).toNatClampNeg < ((v 462) 205).toNatClampNeg
    · exact (hw.2.2.2.1.1 _ hy).2.2.2.2.2.2.2.2.1
    · rw [hw.2.2.2.1.2 _ (by omega) (by omega)]
      decide
  have hnJ : inn ((uA v 462 (sJ1 (v 462) p.toNatClampNeg)) 462 206) 21 := by rw [uA_s, s206]; exact (sub1 hn h0).2.2.2
  refine ⟨?_, mo_isTool, fun _ => ⟨mo_reasonNot hp hk, fun _ => ⟨vL (by decide), mo_measured hp hk5, mo_judgement hp hk5, vL (by decide), mo_leavesBench hn h0, fun v10 e10 => ⟨mo_of hk5 (by decide), mo_uses hp, fun v13 e13 => ?_⟩⟩⟩⟩
  · by_cases hj : sJudg (v 462) p.toNatClampNeg = 3
    · rw [if_pos hj]
      simp only [Int32.reduceToNatClampNeg]
      rw [m_toBench hnJ, uA_s, uu, w2, uA_s, uu, if_pos hr]
      simp only [if_pos hj]
      rfl
    · rw [if_neg hj, if_pos hr]
      simp only [if_neg hj, Int32.reduceToNatClampNeg, uA_s]
      rw [s207, ixQ ⟨hQ.1, by have := hQ.2; omega⟩]
      have e2 : (if sJudg (v 462) p.toNatClampNeg = 1 then u2 (u2 (uA v 462 (sJ1 (v 462) p.toNatClampNeg)) 462 (217 + (v 462 207).toNatClampNeg) (fX11_piece (fX11_firstType 461 v) (fX11_deviationOf (v 462 183)) 0)) 462 207 (u2 (uA v 462 (sJ1 (v 462) p.toNatClampNeg)) 462 (217 + (v 462 207).toNatClampNeg) (fX11_piece (fX11_firstType 461 v) (fX11_deviationOf (v 462 183)) 0) 462 207 + 1) else uA v 462 (sJ1 (v 462) p.toNatClampNeg)) = uA v 462 (sJ2 (v 462) p.toNatClampNeg) := by
        unfold sJ2
        by_cases h1 : sJudg (v 462) p.toNatClampNeg = 1
        · rw [if_pos h1, if_pos h1]
          simp only [w2, uA_s, uu]
          unfold sToQ
          rw [s207]
          rfl
        · rw [if_neg h1, if_neg h1]
      rw [e2]
      simp only [w2, uA_s, uu]
      rw [show st (sJ2 (v 462) p.toNatClampNeg) 212 (sJ2 (v 462) p.toNatClampNeg 212 + (if sJudg (v 462) p.toNatClampNeg = 0 then 1 else 0)) = sJ3 (v 462) p.toNatClampNeg from rfl, show st (sJ3 (v 462) p.toNatClampNeg) 213 (sJ3 (v 462) p.toNatClampNeg 213 + (if sJudg (v 462) p.toNatClampNeg = 2 then 1 else 0)) = sJ4 (v 462) p.toNatClampNeg from rfl, show st (sJ4 (v 462) p.toNatClampNeg) 216 (sJ4 (v 462) p.toNatClampNeg 216 + 1) = sJ5 (v 462) p.toNatClampNeg from rfl]
      rw [m_notes (p := fX11_firstType 461 v) hk5, uA_s, uu, m_charts (p := fX11_firstType 461 v) hk5 (by rw [uA_s]; exact hch _), uA_s, uu, m_lays (p := fX11_firstType 461 v) hk5 (by decide), uA_s, uu]
      rfl
  · rw [e10, h3, eJ1] at e13
    refine ⟨fun _ => ⟨by rw [e13]; exact mo_toBench hnJ, fun _ _ => vL (by decide)⟩, fun _ => ⟨fun _ => ⟨vL (by decide), ?_⟩, fun v15 e15 => ⟨vL (by decide), fun y18 e18 v20 e20 => ⟨vL (by decide), fun y22 e22 v24 e24 => ⟨vL (by decide), fun v26 e26 y27 e27 => ⟨mo_notes hk5, fun v30 e30 => ⟨mo_charts hk5 ?_, fun _ _ => mo_lays hk5 (by decide)⟩⟩⟩⟩⟩⟩⟩
    · rw [e13, uA_s]
      show vp_in (217 + sJ1 (v 462) p.toNatClampNeg 207) _
      rw [s207]
      exact vQ hQ
    · have E15 : v15 = uA v 462 (sJ2 (v 462) p.toNatClampNeg) := by
        rw [e15, e13]
        unfold sJ2
        by_cases h1 : sJudg (v 462) p.toNatClampNeg = 1
        · rw [if_pos h1, if_pos h1]
          simp only [w2, uA_s, uu, Int32.reduceToNatClampNeg]
          rw [s207, ixQ ⟨hQ.1, by have := hQ.2; omega⟩]
          unfold sToQ
          rw [s207]
          rfl
        · rw [if_neg h1, if_neg h1]
      have E26 : v26 = uA v 462 (sJ5 (v 462) p.toNatClampNeg) := by
        rw [e26, e24, e20, e22, e18, E15]
        simp only [w2, uA_s, uu, Int32.reduceToNatClampNeg]
        rfl
      rw [e30, m_notes (p := fX11_firstType 461 v) hk5, E26, uA_s, uA_s]
      exact hch _
end M33
