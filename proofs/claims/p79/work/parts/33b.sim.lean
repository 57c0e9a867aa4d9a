/-! THE PLAIN PART 4b: the model's filing, passing, days. -/
abbrev sQK (A : Ar) : Int32 := fX11_typeOf (A 217)
abbrev sQD (A : Ar) : Int32 := fX11_deviationOf (A 217)
def sGoFile (A : Ar) (a : Int32) : Int32 × Ar :=
  if fX11_in a 1 99 = 0 then (-100001, A)
  else if (if A 207 ≤ 0 then 0 else (if 20 ≤ A 206 then 0 else 1) : Int32) = 0 then (-100002, A)
  else if 1 ≤ A ((78 + 21 * ((fX11_typeOf (A 217))).toNatClampNeg + 0)) + ((fX11_deviationOf (A 217)) - a) then ((fX11_deviationOf (A 217)) - a, sToB (sLeaveQ A) (fX11_piece ((fX11_typeOf (A 217))) ((fX11_deviationOf (A 217)) - a) 0)) else (-100002, A)
def sGoPass (A : Ar) : Int32 × Ar := if sReasonP A ≤ 0 then ((fX11_typeOf (A 183)), st (st (sLeave A) 214 (A 214 + 1)) ((78 + 21 * ((fX11_typeOf (A 183)).toNatClampNeg) + 7)) 1) else (-100002, A)
def sGoDay (A : Ar) : Int32 × Ar := if A 210 = 999 then (-100002, A) else (sDueN (st A 210 (A 210 + 1)) ((A 203).toNatClampNeg), st A 210 (A 210 + 1))
section M33b
variable {v : vSt} {a : Int32}
theorem WF.fk {A : Ar} (hw : WF A) (h0 : A 206 ≠ 0) : ∃ d x : Int32, A 183 = fX11_piece ((fX11_typeOf (A 183))) d x ∧ inn ((fX11_typeOf (A 183))) 5 ∧ (fX11_typeOf (A 183)).toNatClampNeg < (A 205).toNatClampNeg ∧ fX11_deviationOf (A 183) = d ∧ -14000 ≤ d.toInt ∧ d.toInt ≤ 200 ∧ inn x 2 ∧ A 183 - A 183 / 2 * 2 = x ∧ 1 ≤ (A ((78 + 21 * ((fX11_typeOf (A 183)).toNatClampNeg) + 0))).toInt + d.toInt := by
  obtain ⟨e1, e2, e3, e4⟩ := sub1 hw.1.2.2.2.1 h0
  obtain ⟨k, d, x, q1, q2, q3, q4, q5, q6⟩ := hw.2.2.2.2.1 0 (by omega)
  have hy := inn_lt hw.1.2.2.1
  have hk2 := inn_lt q2
  have ha : inn k 8 := ⟨q2.1, by have := q2.2; omega⟩
  have q1 : A 183 = fX11_piece k d x := q1
  obtain ⟨p1, p2, p3⟩ := pc_dec ha (d := d) (x := x) (by omega) q5
  have ek : fX11_typeOf (A 183) = k := by rw [q1, p1]
  refine ⟨d, x, by rw [ek]; exact q1, by rw [ek]; exact ⟨q2.1, by have := q2.2; omega⟩, by rw [ek]; exact hk2, by rw [q1, p2], q3, q4, q5, by rw [q1, p3], by rw [ek]; exact q6⟩
theorem WF.qk {A : Ar} (hw : WF A) (h0 : A 207 ≠ 0) : inn ((fX11_typeOf (A 217))) 5 ∧ ((fX11_typeOf (A 217))).toNatClampNeg < (A 205).toNatClampNeg ∧ -14000 ≤ ((fX11_deviationOf (A 217))).toInt ∧ ((fX11_deviationOf (A 217))).toInt ≤ 200 := by
  obtain ⟨e1, e2, e3, e4⟩ := sub1 hw.1.2.2.2.2.1 h0
  obtain ⟨k, d, x, q1, q2, q3, q4, q5, q6⟩ := hw.2.2.2.2.2 0 (by omega)
  have hy := inn_lt hw.1.2.2.1
  have hk2 := inn_lt q2
  have ha : inn k 8 := ⟨q2.1, by have := q2.2; omega⟩
  have q1 : A 217 = fX11_piece k d x := q1
  obtain ⟨p1, p2, p3⟩ := pc_dec ha (d := d) (x := x) (by omega) q5
  show inn (fX11_typeOf (A 217)) 5 ∧ (fX11_typeOf (A 217)).toNatClampNeg < _ ∧ _ ≤ (fX11_deviationOf (A 217)).toInt ∧ (fX11_deviationOf (A 217)).toInt ≤ _
  rw [q1, p1, p2]
  exact ⟨⟨q2.1, by have := q2.2; omega⟩, hk2, q3, q4⟩
theorem m_goFile (hw : WF (v 462)) : fX11_goFile 461 a v = ((sGoFile (v 462) a).1, uA v 462 (sGoFile (v 462) a).2) ∧ oX11_goFile 461 a v := by
  unfold fX11_goFile sGoFile oX11_goFile
  simp only [Int32.reduceToNatClampNeg]
  by_cases h1 : fX11_in a 1 99 = 0
  · rw [if_pos h1, if_pos h1, uI]
    exact ⟨rfl, fun q => absurd h1 q⟩
  rw [if_neg h1, if_neg h1]
  by_cases h2 : (if v 462 207 ≤ 0 then 0 else (if 20 ≤ v 462 206 then 0 else 1) : Int32) = 0
  · rw [if_pos h2, if_pos h2, uI]
    exact ⟨rfl, fun _ => ⟨vL (by decide), vL (by decide), fun _ => vL (by decide), fun y4 e4 h => absurd (e4.trans h2) h⟩⟩
  rw [if_neg h2, if_neg h2]
  have hn := hw.1.2.2.2.2.1
  have hq0 : ¬ v 462 207 ≤ 0 := fun q => h2 (if_pos q)
  have h0 : v 462 207 ≠ 0 := fun e => hq0 (by rw [e]; decide)
  have h20 : ¬ 20 ≤ v 462 206 := fun q => h2 (by rw [if_neg hq0, if_pos q])
  have hnB : inn (v 462 206) 20 := ⟨hw.1.2.2.2.1.1, by have := i_nle h20; have e : (20 : Int32).toInt = 20 := rfl; omega⟩
  obtain ⟨hk, hkl, hd1, hd2⟩ := hw.qk h0
  have hof : fX11_of 461 (fX11_typeOf (v 462 217)) 0 v = v 462 ((78 + 21 * ((fX11_typeOf ((v 462) 217))).toNatClampNeg + 0)) := m_of hk (by decide)
  simp only [hof]
  by_cases h3 : ¬ 1 ≤ v 462 ((78 + 21 * ((fX11_typeOf ((v 462) 217))).toNatClampNeg + 0)) + (fX11_deviationOf (v 462 217) - a)
  · rw [if_neg h3, if_neg h3, uI]
    exact ⟨rfl, fun _ => ⟨vL (by decide), vL (by decide), fun _ => vL (by decide), fun _ _ _ => ⟨mo_of hk (by decide), fun q => absurd q h3⟩⟩⟩
  have h3 := Decidable.not_not.mp h3
  rw [if_pos h3, if_pos h3]
  obtain ⟨e1, e2, e3, e4⟩ := sub1 hn h0
  have hB : ((v 462) 207).toNatClampNeg < 3201 := inn_lt hn
  have e3 : (v 462 207 - 1).toNatClampNeg = ((v 462) 207).toNatClampNeg - 1 := e3
  have e2 : 1 ≤ ((v 462) 207).toNatClampNeg := e2
  have key : ∀ (n k : Nat), k ≤ ((v 462) 207).toNatClampNeg - 1 → ((v 462) 207).toNatClampNeg - 1 + 1 ≤ n + k → lX11_goFile_102 n (Int32.ofNat k) (uA v 462 (shf (st (v 462) 207 (v 462 207 - 1)) 217 k)) = uA v 462 (shf (st (v 462) 207 (v 462 207 - 1)) 217 (((v 462) 207).toNatClampNeg - 1)) ∧ olX11_goFile_102 n (Int32.ofNat k) (uA v 462 (shf (st (v 462) 207 (v 462 207 - 1)) 217 k)) := by
    intro n
    induction n with
    | zero => intro k h1 h2; omega
    | succ n ih =>
      intro k h1 h2
      unfold lX11_goFile_102 olX11_goFile_102
      simp only [Int32.reduceToNatClampNeg, uA_s]
      have ofl : (v 462 207 - 1 ≤ Int32.ofNat k) ↔ ((v 462) 207).toNatClampNeg - 1 ≤ k := by rw [of_le e4.1 (by omega), e3]
      rw [shf_o (j := 207) (by omega), st_s]
      by_cases hk : ((v 462) 207).toNatClampNeg - 1 ≤ k
      · rw [if_pos (ofl.mpr hk)]
        exact ⟨by rw [show k = ((v 462) 207).toNatClampNeg - 1 by omega], fun q => absurd (ofl.mpr hk) q⟩
      · have i1 := ih (k + 1) (by omega) (by omega)
        have hi : inn (Int32.ofNat k) 3300 := of_in (by omega) (by decide)
        have e5 : (217 + Int32.ofNat k + 1 : Int32) = 217 + Int32.ofNat (k + 1) := by rw [← of_S (by omega), Int32.add_assoc]
        have hi1 : (217 + Int32.ofNat k + 1 : Int32).toNatClampNeg = 217 + k + 1 := by
          rw [e5, ixQ (of_in (by omega) (by decide)), to_of (by omega)]
          omega
        have hst : u2 (uA v 462 (shf (st (v 462) 207 (v 462 207 - 1)) 217 k)) 462 (217 + Int32.ofNat k : Int32).toNatClampNeg (shf (st (v 462) 207 (v 462 207 - 1)) 217 k (217 + Int32.ofNat k + 1 : Int32).toNatClampNeg) = uA v 462 (shf (st (v 462) 207 (v 462 207 - 1)) 217 (k + 1)) := by
          rw [ixQ hi, to_of (by omega), hi1, w2, uA_s, uu, shf_S]
        rw [if_neg (mt ofl.mp hk), of_S (by omega), hst]
        refine ⟨i1.1, fun _ => ⟨by rw [e5]; exact vQ (of_in (by omega) (by decide)), vQ (of_in (by omega) (by decide)), fun v15 e15 => by rw [e15]; exact i1.2⟩⟩
  have e := key (((v 462) 207).toNatClampNeg - 1 + 1) 0 (by omega) (by omega)
  rw [shf_0, show Int32.ofNat 0 = 0 from rfl] at e
  have eu : u2 v 462 207 (v 462 207 - 1) = uA v 462 (st (v 462) 207 (v 462 207 - 1)) := w2
  have hsl : st (shf (st (v 462) 207 (v 462 207 - 1)) 217 (((v 462) 207).toNatClampNeg - 1)) (217 + (((v 462) 207).toNatClampNeg - 1)) 0 = sLeaveQ (v 462) := rfl
  have hix : (217 + (v 462 207 - 1) : Int32).toNatClampNeg = 217 + (((v 462) 207).toNatClampNeg - 1) := by rw [ixQ ⟨e4.1, by have := e4.2; omega⟩, e3]
  obtain ⟨l1, l2, l3, l4, l5, l6⟩ := lq_lo hn h0
  have hnB2 : inn ((uA v 462 (sLeaveQ (v 462))) 462 206) 21 := by rw [uA_s, l1 _ (by omega) (by omega)]; exact hw.1.2.2.2.1
  have E17 : u2 (uA v 462 (shf (st (v 462) 207 (v 462 207 - 1)) 217 (((v 462) 207).toNatClampNeg - 1))) 462 (217 + (v 462 207 - 1) : Int32).toNatClampNeg 0 = uA v 462 (sLeaveQ (v 462)) := by
    rw [hix, w2, uA_s, uu, hsl]
  have s207 : shf (st (v 462) 207 (v 462 207 - 1)) 217 (((v 462) 207).toNatClampNeg - 1) 207 = v 462 207 - 1 := by rw [shf_o (by omega), st_s]
  constructor
  · rw [u2_s, fu0, e3, eu, e.1]
    simp only [uA_s]
    rw [s207, E17, m_toBench hnB2, uA_s, uu]
  · intro _
    refine ⟨vL (by decide), vL (by decide), fun _ => vL (by decide), fun _ _ _ => ⟨mo_of hk (by decide), fun _ v9 e9 => ?_⟩⟩
    have e9' : v9 = uA v 462 (st (v 462) 207 (v 462 207 - 1)) := e9.trans eu
    rw [e9', uA_s, st_s, fu0, e3]
    refine ⟨e.2, fun v12 e12 => ?_⟩
    rw [e.1] at e12
    rw [e12, uA_s, s207]
    refine ⟨vQ ⟨e4.1, by omega⟩, fun v17 e17 => ?_⟩
    rw [E17] at e17
    rw [e17]
    exact mo_toBench hnB2
theorem m_goPass (hw : WF (v 462)) : fX11_goPass 461 v = ((sGoPass (v 462)).1, uA v 462 (sGoPass (v 462)).2) ∧ oX11_goPass 461 v := by
  have hk : v 462 206 ≠ 0 → inn ((fX11_typeOf ((v 462) 183))) 5 := fun h0 => by obtain ⟨d, x, q1, q2, _⟩ := hw.fk h0; exact q2
  unfold fX11_goPass sGoPass oX11_goPass
  rw [m_reasonP hk]
  by_cases hr : ¬ sReasonP (v 462) ≤ 0
  · rw [if_neg hr, if_neg hr, uI]
    exact ⟨rfl, mo_reasonP hk, fun q => absurd q hr⟩
  have hr := Decidable.not_not.mp hr
  have h0 : v 462 206 ≠ 0 := by
    intro e
    unfold sReasonP at hr
    rw [if_pos e] at hr
    exact absurd hr (by decide)
  have hk5 := hk h0
  obtain ⟨l1, l2, l3, l4, l5, l6⟩ := lv_lo hw.1.2.2.2.1 h0
  rw [if_pos hr, if_pos hr, m_leavesBench hw.1.2.2.2.1 h0]
  refine ⟨?_, mo_reasonP hk, fun _ => ⟨vL (by decide), mo_leavesBench hw.1.2.2.2.1 h0, fun _ _ => ⟨vL (by decide), fun _ _ => mo_lays hk5 (by decide)⟩⟩⟩
  simp only [w2, uA_s, uu, Int32.reduceToNatClampNeg]
  rw [l1 214 (by omega) (by omega), m_lays (p := fX11_firstType 461 v) hk5 (by decide), uA_s, uu]
  rfl
theorem m_goDay (hw : WF (v 462)) : fX11_goDay 461 v = ((sGoDay (v 462)).1, uA v 462 (sGoDay (v 462)).2) ∧ oX11_goDay 461 v := by
  unfold fX11_goDay sGoDay oX11_goDay
  simp only [Int32.reduceToNatClampNeg]
  by_cases h : v 462 210 = 999
  · rw [if_pos h, if_pos h, uI]
    exact ⟨rfl, vL (by decide), fun q => absurd h q⟩
  rw [if_neg h, if_neg h]
  have e : u2 v 462 210 (v 462 210 + 1) = uA v 462 (st (v 462) 210 (v 462 210 + 1)) := w2
  have hT : (uA v 462 (st (v 462) 210 (v 462 210 + 1))) 462 203 = v 462 203 := by rw [uA_s, st_n (by omega)]
  have hT2 : inn ((uA v 462 (st (v 462) 210 (v 462 210 + 1))) 462 203) 7 := by rw [hT]; exact hw.1.1
  have k1 := m_goDayL hT2
  have k2 := mo_goDayL hT2
  rw [hT] at k1 k2
  refine ⟨?_, vL (by decide), fun _ v3 e3 => ?_⟩
  · rw [e, hT, fu0, k1, uA_s]
  · rw [e3, e, hT, fu0]
    exact k2
end M33b
