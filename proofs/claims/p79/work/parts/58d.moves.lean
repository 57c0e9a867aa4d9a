/-! P79, PLAIN 12d: what moves. -/
section T58d
variable {n m N : Nat} {u v w z W V : vSt} {A A' B : Ar} {x p y a b c d : Int32} {T t k : Nat}
theorem SMS.e (h : SAM v w) {j : Nat} (hj : j < 3417) : w 462 j = v 462 j := h.1 j hj
theorem pp_f {X Y : Prop} {f g : vSt} (h : X ∧ OUT n N v f ∧ Y) (e : f = g) : X ∧ (pot v ≤ pot v ∧ pot v ≤ pot f ∧ pot f ≤ pot g) ∧ Y := ⟨h.1, ⟨Nat.le_refl _, h.2.1.1, by rw [e]; exact Nat.le_refl _⟩, h.2.2⟩
/-- a piece comes -/
theorem mv0 (hI : Inv n m v) (hX : XI N (v 462)) (hJ : XJ (v 462)) (ha : 0 ≤ a.toInt ∧ a.toInt ≤ (v 462 205).toInt) (hb : -1000 ≤ b.toInt ∧ b.toInt ≤ 1000) : oL_bring 448 a b v ∧ OUT n N v (fL_bring 448 a b v).2 ∧ (¬ a = v 462 205 → (oX10_lengthOf 448 a v ∧ (fX10_lengthOf 448 a v).1 = 0)) ∧ ∀ y100 : Int32, y100 = ((if (a : Int32) = (fX10_types 448 v) then 1 else (if (b : Int32) < (-200) then 1 else (if (200 : Int32) < b then 1 else (if (1 : Int32) ≤ (((fX10_lengthOf 448 a v).2) + b) then 0 else 1))) : Int32) : Int32) → (∀ v105 : vSt, v105 = ((fL_bring 448 a b v).2) → ((∀ (y107 : Int32), y107 = ((if (y100 : Int32) = 0 then (if (20 : Int32) ≤ (fX10_onBench 448 v) then 0 else 1) else 0 : Int32) : Int32) → ((∀ (y109 : Int32), y109 = ((if (y100 : Int32) = 0 then (if (y107 : Int32) = 0 then ((-100103)) else ((fX10_onBench 448 v) + (1 : Int32))) else ((-100102)) : Int32) : Int32) → (((((fL_bring 448 a b v).1) : Int32) = y109) ∧ ((oX10_onBench 448 v105) ∧ ((∀ (y113 : Int32), y113 = ((if (y107 : Int32) = 0 then 0 else 1 : Int32) : Int32) → ((((fX10_onBench 448 v105) : Int32) = ((fX10_onBench 448 v) + y113)) ∧ ((oX10_brought 448 v105) ∧ ((∀ (y117 : Int32), y117 = ((if (y107 : Int32) = 0 then 0 else 1 : Int32) : Int32) → ((((fX10_brought 448 v105) : Int32) = ((fX10_brought 448 v) + y117)) ∧ (¬ ((y107 : Int32) = 0) → ((oX10_typeAt 448 (fX10_onBench 448 v) v105) ∧ (((fX10_typeAt 448 (fX10_onBench 448 v) v105).1 = 0) ∧ (((((fX10_typeAt 448 (fX10_onBench 448 v) v105).2) : Int32) = a) ∧ ((oX10_wasDoubted 448 (fX10_onBench 448 v) v105) ∧ (((fX10_wasDoubted 448 (fX10_onBench 448 v) v105).1 = 0) ∧ (((((fX10_wasDoubted 448 (fX10_onBench 448 v) v105).2) : Int32) = 0)))))))))))))))))))))) := by
  obtain ⟨o, S⟩ := s_bring (p := a) (p2 := b) hI
  have hO := S.out hX hJ hI.wf ((xi_goBring hX hI.wf).mono (by omega)) (xj_goBring hJ hI.wf)
  have c3 := hI.wf.1.2.2.1
  have c4 := hI.wf.1.2.2.2.1
  have hy : ¬ a = v 462 205 → sIsY (v 462) a ≠ 0 := fun h => by
    rw [isY_iff c3]
    have : a.toInt ≠ (v 462 205).toInt := fun e => h (toI e)
    omega
  have hn : a = v 462 205 → sIsY (v 462) a = 0 := fun h => by
    rw [h]
    exact in_n0 c3.1
  refine ⟨o, hO, fun h => ⟨(t_lengthOf hI).1, by rw [x_lengthOf hI (hy h)]⟩, fun y100 e100 v105 e105 => ?_⟩
  obtain ⟨S1, ⟨m', I'⟩, S3, S4⟩ := S
  rw [← e105] at I' S3 S4
  generalize (fL_bring 448 a b v).1 = r at *
  clear S1 hO o e105
  rw [x_onBench hI, x_onBench I', x_brought hI, x_brought I']
  rw [x_types hI] at e100
  intro y107 e107 y109 e109
  have i200 : (200 : Int32).toInt = 200 := rfl
  have m200 : (-200 : Int32).toInt = -200 := rfl
  have i1 : (1 : Int32).toInt = 1 := rfl
  have i20 : (20 : Int32).toInt = 20 := rfl
  -- the argument is bad
  have bad : (if sIsY (v 462) a = 0 then 0 else (if fX11_in b (-200) 200 = 0 then 0 else (if v 462 ((78 + 21 * a.toNatClampNeg + 0)) + b < 1 then 0 else 1)) : Int32) = 0 → y100 = 1 →
      (r = y109 ∧ (oX10_onBench 448 v105 ∧ (∀ y113 : Int32, y113 = ((if (y107 : Int32) = 0 then 0 else 1 : Int32) : Int32) → (v105 462 206 = v 462 206 + y113 ∧ (oX10_brought 448 v105 ∧ (∀ y117 : Int32, y117 = ((if (y107 : Int32) = 0 then 0 else 1 : Int32) : Int32) → (v105 462 211 = v 462 211 + y117 ∧ (¬ (y107 : Int32) = 0 → False)))))))) := fun hc y1 => by
    have hr : sGoBring (v 462) a b = (-100001, v 462) := by unfold sGoBring; rw [if_pos hc]
    rw [hr] at S4
    dsimp only at S4
    obtain ⟨f1, f2⟩ := S4 (by decide)
    rw [if_pos rfl] at f1
    have e7 : y107 = 0 := by rw [e107, y1]; rfl
    rw [f1, e109, y1, e7]
    exact ⟨rfl, (t_onBench I').1, fun y113 e113 => ⟨by rw [e113, if_pos rfl, Int32.add_zero, f2.1 206 (by decide)], (t_brought I').1, fun y117 e117 => ⟨by rw [e117, if_pos rfl, Int32.add_zero, f2.1 211 (by decide)], fun q => absurd rfl q⟩⟩⟩
  by_cases ga : a = v 462 205
  · have B := bad (by rw [if_pos (hn ga)]) (by rw [e100, if_pos ga])
    exact ⟨B.1, B.2.1, fun y113 e113 => ⟨(B.2.2 y113 e113).1, (B.2.2 y113 e113).2.1, fun y117 e117 => ⟨((B.2.2 y113 e113).2.2 y117 e117).1, fun q => (((B.2.2 y113 e113).2.2 y117 e117).2 q).elim⟩⟩⟩
  have hya := hy ga
  rw [x_lengthOf hI hya] at e100
  dsimp only at e100
  by_cases gb : fX11_in b (-200) 200 = 0
  · have B := bad (by rw [if_neg hya, if_pos gb]) (by
      have g := in_iff0.mp gb
      rw [m200, i200] at g
      rw [e100, if_neg ga]
      by_cases q : b < -200
      · rw [if_pos q]
      · have q2 := i_nlt q
        rw [m200] at q2
        rw [if_neg q, if_pos (by rw [Int32.lt_iff_toInt_lt, i200]; omega)])
    exact ⟨B.1, B.2.1, fun y113 e113 => ⟨(B.2.2 y113 e113).1, (B.2.2 y113 e113).2.1, fun y117 e117 => ⟨((B.2.2 y113 e113).2.2 y117 e117).1, fun q => (((B.2.2 y113 e113).2.2 y117 e117).2 q).elim⟩⟩⟩
  have gb' := in_iff.mp gb
  rw [m200, i200] at gb'
  have n1 : ¬ b < -200 := by rw [Int32.lt_iff_toInt_lt, m200]; omega
  have n2 : ¬ 200 < b := by rw [Int32.lt_iff_toInt_lt, i200]; omega
  by_cases gc : v 462 ((78 + 21 * a.toNatClampNeg + 0)) + b < 1
  · have B := bad (by rw [if_neg hya, if_neg gb, if_pos gc]) (by
      have g := i_lt gc
      rw [i1] at g
      rw [e100, if_neg ga, if_neg n1, if_neg n2, if_neg (by rw [Int32.le_iff_toInt_le, i1]; omega)])
    exact ⟨B.1, B.2.1, fun y113 e113 => ⟨(B.2.2 y113 e113).1, (B.2.2 y113 e113).2.1, fun y117 e117 => ⟨((B.2.2 y113 e113).2.2 y117 e117).1, fun q => (((B.2.2 y113 e113).2.2 y117 e117).2 q).elim⟩⟩⟩
  have y0 : y100 = 0 := by
    have g := i_nlt gc
    rw [i1] at g
    rw [e100, if_neg ga, if_neg n1, if_neg n2, if_pos (by rw [Int32.le_iff_toInt_le, i1]; exact g)]
  have hc : ¬ (if sIsY (v 462) a = 0 then 0 else (if fX11_in b (-200) 200 = 0 then 0 else (if v 462 ((78 + 21 * a.toNatClampNeg + 0)) + b < 1 then 0 else 1)) : Int32) = 0 := by rw [if_neg hya, if_neg gb, if_neg gc]; decide
  by_cases g20 : v 462 206 = 20
  · have hr : sGoBring (v 462) a b = (-100002, v 462) := by unfold sGoBring; rw [if_neg hc, if_pos g20]
    rw [hr] at S4
    dsimp only at S4
    obtain ⟨f1, f2⟩ := S4 (by decide)
    rw [if_neg (by decide)] at f1
    have e7 : y107 = 0 := by rw [e107, y0, if_pos rfl, g20]; rfl
    rw [f1, e109, y0, e7]
    exact ⟨rfl, (t_onBench I').1, fun y113 e113 => ⟨by rw [e113, if_pos rfl, Int32.add_zero, f2.1 206 (by decide)], (t_brought I').1, fun y117 e117 => ⟨by rw [e117, if_pos rfl, Int32.add_zero, f2.1 211 (by decide)], fun q => absurd rfl q⟩⟩⟩
  have i206 := inn20 c4 g20
  have hr : sGoBring (v 462) a b = (v 462 206 + 1, st (sToB (v 462) (fX11_piece a b 0)) 211 (v 462 211 + 1)) := by unfold sGoBring; rw [if_neg hc, if_neg g20]
  rw [hr] at S3
  have a1 := add1 i206 (by omega)
  obtain ⟨f1, f2⟩ := S3 (nn_rfc (by show 0 ≤ (v 462 206 + 1).toInt; rw [a1.1]; have := c4.1; omega))
  have f1 : r = v 462 206 + 1 := f1
  have fW : v105 462 = st (sToB (v 462) (fX11_piece a b 0)) 211 (v 462 211 + 1) := f2.1
  obtain ⟨l1, l2, l3, l4, l5, l6⟩ := tb_lo (A := v 462) (p := fX11_piece a b 0) i206
  have e7 : y107 = 1 := by
    have := i206.2
    rw [e107, y0, if_pos rfl, if_neg (by rw [Int32.le_iff_toInt_le, i20]; omega)]
  have e206 : v105 462 206 = v 462 206 + 1 := by rw [fW, st_n (by decide), l2]
  have e211 : v105 462 211 = v 462 211 + 1 := by rw [fW, st_s]
  have hYa := isY_in c3 hya
  have D := pc_dec (t := a) (d := b) (x := 0) ⟨hYa.1.1, by have := hYa.1.2; omega⟩ (by omega) (by decide)
  have ek : v 462 206 = Int32.ofNat (v 462 206).toNatClampNeg := (of_to c4.1).symm
  have TA := ta_k (A := v105 462) (k := (v 462 206).toNatClampNeg) I'.wf.1.2.2.2.1 (by rw [e206, a1.2]; omega)
  rw [← ek] at TA
  have ep : v105 462 (183 + (v 462 206).toNatClampNeg) = fX11_piece a b 0 := by rw [fW, st_n (by omega), l4]
  rw [ep, D.1, D.2.2] at TA
  rw [f1, e109, y0, e7, e206, e211, x_typeAt I', x_wasDoubted I', TA.1, TA.2]
  exact ⟨rfl, (t_onBench I').1, fun y113 e113 => ⟨by rw [e113]; rfl, (t_brought I').1, fun y117 e117 => ⟨by rw [e117]; rfl, fun _ => ⟨(t_typeAt I').1, rfl, rfl, (t_wasDoubted I').1, rfl, rfl⟩⟩⟩⟩
/-- a piece is filed -/
theorem mv1 (hI : Inv n m v) (hX : XI N (v 462)) (hJ : XJ (v 462)) (ha : 0 ≤ a.toInt ∧ a.toInt ≤ 1000) : oL_file 448 a v ∧ OUT n N v (fL_file 448 a v).2 ∧ ∀ y65 : Int32, y65 = ((if (a : Int32) < 1 then 1 else (if (a : Int32) ≤ 99 then 0 else 1) : Int32) : Int32) → (∀ v70 : vSt, v70 = ((fL_file 448 a v).2) → ((∀ (y72 : Int32), y72 = ((if (((fL_file 448 a v).1) : Int32) ≤ (-100000) then 0 else 1 : Int32) : Int32) → (((((y72 : Int32) = 0) → ((∀ (y75 : Int32), y75 = ((if (y65 : Int32) = 0 then ((-100103)) else ((-100102)) : Int32) : Int32) → (((((fL_file 448 a v).1) : Int32) = y75) ∧ ((oX10_onBench 448 v70) ∧ ((((fX10_onBench 448 v70) : Int32) = (fX10_onBench 448 v)) ∧ ((oX10_toFile 448 v70) ∧ ((((fX10_toFile 448 v70) : Int32) = (fX10_toFile 448 v)))))))))) ∧ (¬ ((y72 : Int32) = 0) → (((y65 : Int32) = 0) ∧ ((¬ (((fX10_toFile 448 v) : Int32) ≤ 0)) ∧ ((¬ ((20 : Int32) ≤ (fX10_onBench 448 v))) ∧ ((oX10_onBench 448 v70) ∧ ((((fX10_onBench 448 v70) : Int32) = ((fX10_onBench 448 v) + (1 : Int32))) ∧ ((oX10_toFile 448 v70) ∧ ((((fX10_toFile 448 v70) : Int32) = ((fX10_toFile 448 v) - (1 : Int32))) ∧ ((oX10_wasDoubted 448 (fX10_onBench 448 v) v70) ∧ (((fX10_wasDoubted 448 (fX10_onBench 448 v) v70).1 = 0) ∧ (((((fX10_wasDoubted 448 (fX10_onBench 448 v) v70).2) : Int32) = 0))))))))))))) ∧ ((oX10_brought 448 v70) ∧ ((((fX10_brought 448 v70) : Int32) = (fX10_brought 448 v)) ∧ (((y72 : Int32) = 0) → (((y65 : Int32) = 0) → (¬ (((fX10_toFile 448 v) : Int32) = 0) → (¬ (((fX10_onBench 448 v) : Int32) = 20) → ((¬ ((a : Int32) ≤ 0))))))))))))) := by
  obtain ⟨o, S⟩ := s_file (p := a) hI
  have hO := S.out hX hJ hI.wf ((xi_goFile hX hI.wf).mono (by omega)) (xj_goFile hJ hI.wf)
  have c4 := hI.wf.1.2.2.2.1
  have c5 := hI.wf.1.2.2.2.2.1
  refine ⟨o, hO, fun y65 e65 v70 e70 => ?_⟩
  obtain ⟨S1, ⟨m', I'⟩, S3, S4⟩ := S
  rw [← e70] at I' S3 S4
  generalize (fL_file 448 a v).1 = r at *
  clear S1 hO o e70
  rw [x_onBench hI, x_onBench I', x_brought hI, x_brought I', x_toFile hI, x_toFile I', x_wasDoubted I']
  intro y72 e72
  have i0 : (0 : Int32).toInt = 0 := rfl
  have i1 : (1 : Int32).toInt = 1 := rfl
  have i99 : (99 : Int32).toInt = 99 := rfl
  have i20 : (20 : Int32).toInt = 20 := rfl
  have hle : y65 = 0 → ¬ a ≤ 0 := fun h q => by
    have q := i_le q
    rw [i0] at q
    rw [e65, if_pos (by rw [Int32.lt_iff_toInt_lt, i1]; omega)] at h
    exact absurd h (by decide)
  have ref : SAM v v70 → r = (if y65 = 0 then -100103 else -100102 : Int32) → ((((y72 : Int32) = 0) → (∀ (y75 : Int32), y75 = ((if (y65 : Int32) = 0 then ((-100103)) else ((-100102)) : Int32) : Int32) → (r = y75 ∧ (oX10_onBench 448 v70 ∧ (v70 462 206 = v 462 206 ∧ (oX10_toFile 448 v70 ∧ v70 462 207 = v 462 207)))))) ∧ y72 = 0) ∧ (oX10_brought 448 v70 ∧ v70 462 211 = v 462 211) := fun f2 f1 => by
    have e7 : y72 = 0 := by
      rw [e72, f1]
      by_cases g : y65 = 0
      · rw [if_pos g]; rfl
      · rw [if_neg g]; rfl
    exact ⟨⟨fun _ y75 e75 => ⟨by rw [f1, e75], (t_onBench I').1, f2.1 206 (by decide), (t_toFile I').1, f2.1 207 (by decide)⟩, e7⟩, (t_brought I').1, f2.1 211 (by decide)⟩
  by_cases g1 : fX11_in a 1 99 = 0
  · have hr : sGoFile (v 462) a = (-100001, v 462) := by unfold sGoFile; rw [if_pos g1]
    rw [hr] at S4
    dsimp only at S4
    obtain ⟨f1, f2⟩ := S4 (by decide)
    rw [if_pos rfl] at f1
    have y1 : y65 = 1 := by
      have g := in_iff0.mp g1
      rw [i1, i99] at g
      rw [e65]
      by_cases q : a < 1
      · rw [if_pos q]
      · have q2 := i_nlt q
        rw [i1] at q2
        rw [if_neg q, if_neg (by rw [Int32.le_iff_toInt_le, i99]; omega)]
    have R := ref f2 (by rw [f1, y1]; rfl)
    exact ⟨⟨R.1.1, fun q => absurd R.1.2 q⟩, R.2.1, R.2.2, fun _ h => absurd (y1.symm.trans h) (by decide)⟩
  have g1' := in_iff.mp g1
  rw [i1, i99] at g1'
  have y0 : y65 = 0 := by rw [e65, if_neg (by rw [Int32.lt_iff_toInt_lt, i1]; omega), if_pos (by rw [Int32.le_iff_toInt_le, i99]; omega)]
  by_cases g2 : (if v 462 207 ≤ 0 then 0 else (if 20 ≤ v 462 206 then 0 else 1) : Int32) = 0
  · have hr : sGoFile (v 462) a = (-100002, v 462) := by unfold sGoFile; rw [if_neg g1, if_pos g2]
    rw [hr] at S4
    dsimp only at S4
    obtain ⟨f1, f2⟩ := S4 (by decide)
    rw [if_neg (by decide)] at f1
    have R := ref f2 (by rw [f1, y0]; rfl)
    exact ⟨⟨R.1.1, fun q => absurd R.1.2 q⟩, R.2.1, R.2.2, fun _ h _ _ => hle h⟩
  have h7 : ¬ v 462 207 ≤ 0 := fun q => g2 (by rw [if_pos q])
  have h20 : ¬ 20 ≤ v 462 206 := fun q => g2 (by rw [if_neg h7, if_pos q])
  by_cases g3n : ¬ (1 ≤ v 462 ((78 + 21 * ((fX11_typeOf (v 462 217))).toNatClampNeg + 0)) + ((fX11_deviationOf (v 462 217)) - a))
  · have hr : sGoFile (v 462) a = (-100002, v 462) := by unfold sGoFile; rw [if_neg g1, if_neg g2, if_neg g3n]
    rw [hr] at S4
    dsimp only at S4
    obtain ⟨f1, f2⟩ := S4 (by decide)
    rw [if_neg (by decide)] at f1
    have R := ref f2 (by rw [f1, y0]; rfl)
    exact ⟨⟨R.1.1, fun q => absurd R.1.2 q⟩, R.2.1, R.2.2, fun _ h _ _ => hle h⟩
  have g3 := Decidable.not_not.mp g3n
  have h0 : v 462 207 ≠ 0 := fun e => h7 (by rw [e]; decide)
  obtain ⟨k1, k2, k3, k4⟩ := hI.wf.qk h0
  have es : ((fX11_deviationOf (v 462 217)) - a).toInt = ((fX11_deviationOf (v 462 217))).toInt - a.toInt := ti_sub (by omega)
  have hr : sGoFile (v 462) a = ((fX11_deviationOf (v 462 217)) - a, sToB (sLeaveQ (v 462)) (fX11_piece ((fX11_typeOf (v 462 217))) ((fX11_deviationOf (v 462 217)) - a) 0)) := by unfold sGoFile; rw [if_neg g1, if_neg g2, if_pos g3]
  rw [hr] at S3
  obtain ⟨f1, f2⟩ := S3 (rfc_0 (by show -100001 < ((fX11_deviationOf (v 462 217)) - a).toInt; rw [es]; omega))
  have f1 : r = (fX11_deviationOf (v 462 217)) - a := f1
  have fW : v70 462 = sToB (sLeaveQ (v 462)) (fX11_piece ((fX11_typeOf (v 462 217))) ((fX11_deviationOf (v 462 217)) - a) 0) := f2.1
  obtain ⟨q1, q2, q3, q4, q5, q6⟩ := lq_lo c5 h0
  have e6 : sLeaveQ (v 462) 206 = v 462 206 := q1 _ (by omega) (by omega)
  have j20 : inn (v 462 206) 20 := ⟨c4.1, by have h20 := i_nle h20; rw [i20] at h20; omega⟩
  have i206 : inn (sLeaveQ (v 462) 206) 20 := by rw [e6]; exact j20
  obtain ⟨l1, l2, l3, l4, l5, l6⟩ := tb_lo (A := sLeaveQ (v 462)) (p := fX11_piece ((fX11_typeOf (v 462 217))) ((fX11_deviationOf (v 462 217)) - a) 0) i206
  have e7 : y72 = 1 := by rw [e72, f1, if_neg (by rw [Int32.le_iff_toInt_le, es, show (-100000 : Int32).toInt = -100000 from rfl]; omega)]
  have e206 : v70 462 206 = v 462 206 + 1 := by rw [fW, l2, e6]
  have e207 : v70 462 207 = v 462 207 - 1 := by rw [fW, l1 _ (by omega) (by omega), q2]
  have e211 : v70 462 211 = v 462 211 := by rw [fW, l1 _ (by omega) (by omega)]; unfold sLeaveQ; rw [st_n (by omega), shf_o (by omega), st_n (by omega)]
  have a1 := add1 j20 (by omega)
  have D := pc_dec (t := (fX11_typeOf (v 462 217))) (d := (fX11_deviationOf (v 462 217)) - a) (x := 0) ⟨k1.1, by have := k1.2; omega⟩ (by rw [es]; omega) (by decide)
  have ek : v 462 206 = Int32.ofNat (v 462 206).toNatClampNeg := (of_to c4.1).symm
  have TA := ta_k (A := v70 462) (k := (v 462 206).toNatClampNeg) I'.wf.1.2.2.2.1 (by rw [e206, a1.2]; omega)
  rw [← ek] at TA
  have ep : v70 462 (183 + (v 462 206).toNatClampNeg) = fX11_piece ((fX11_typeOf (v 462 217))) ((fX11_deviationOf (v 462 217)) - a) 0 := by rw [e6] at l4; rw [fW, l4]
  rw [ep, D.1, D.2.2] at TA
  rw [e206, e207, e211, e7, TA.2]
  exact ⟨⟨fun q => absurd q (by decide), fun _ => ⟨y0, h7, h20, (t_onBench I').1, rfl, (t_toFile I').1, rfl, (t_wasDoubted I').1, rfl, rfl⟩⟩, (t_brought I').1, rfl, fun q => absurd q (by decide)⟩
/-- a piece passes unseen -/
theorem mv2 (hI : Inv n m v) (hX : XI N (v 462)) (hJ : XJ (v 462)) : oL_passUnseen 448 v ∧ OUT n N v (fL_passUnseen 448 v).2 ∧ ∀ y35 : Int32, (v 462 206 ≠ 0 → y35 = fX11_typeOf (v 462 183)) → (∀ v41 : vSt, v41 = ((fL_passUnseen 448 v).2) → ((∀ (y43 : Int32), y43 = ((if ((fX10_whyNotPass 448 v) : Int32) ≤ 0 then y35 else ((-100103)) : Int32) : Int32) → (((((fL_passUnseen 448 v).1) : Int32) = y43) ∧ ((oX10_onBench 448 v41) ∧ ((∀ (y47 : Int32), y47 = ((if ((fX10_whyNotPass 448 v) : Int32) ≤ 0 then 1 else 0 : Int32) : Int32) → ((((fX10_onBench 448 v41) : Int32) = ((fX10_onBench 448 v) - y47)) ∧ ((oX10_unseen 448 v41) ∧ ((∀ (y51 : Int32), y51 = ((if ((fX10_whyNotPass 448 v) : Int32) ≤ 0 then 1 else 0 : Int32) : Int32) → ((((fX10_unseen 448 v41) : Int32) = ((fX10_unseen 448 v) + y51)) ∧ (¬ ((0 : Int32) < (fX10_whyNotPass 448 v)) → (¬ (((fX10_onBench 448 v41) : Int32) = 0) → ((oX10_typeAt 448 0 v41) ∧ (((fX10_typeAt 448 0 v41).1 = 0) ∧ (((((fX10_typeAt 448 0 v41).2) : Int32) = y35) → ((oX10_whyNotPass 448 v41) ∧ ((((fX10_whyNotPass 448 v41) : Int32) = 3)))))))))))))))))))) := by
  obtain ⟨o, S⟩ := s_passUnseen hI
  have hO := S.out hX hJ hI.wf ((xi_goPass hX hI.wf).mono (by omega)) (xj_goPass hJ hI.wf)
  have c4 := hI.wf.1.2.2.2.1
  refine ⟨o, hO, fun y35 e35 v41 e41 => ?_⟩
  obtain ⟨S1, ⟨m', I'⟩, S3, S4⟩ := S
  rw [← e41] at I' S3 S4
  generalize (fL_passUnseen 448 v).1 = r at *
  clear S1 hO o e41
  rw [x_onBench hI, x_onBench I', x_whyNotPass hI, x_whyNotPass I', x_unseen hI, x_unseen I', x_typeAt I']
  intro y43 e43
  have i0 : (0 : Int32).toInt = 0 := rfl
  by_cases g1n : ¬ sReasonP (v 462) ≤ 0
  · have hr : sGoPass (v 462) = (-100002, v 462) := by unfold sGoPass; rw [if_neg g1n]
    rw [hr] at S4
    dsimp only at S4
    obtain ⟨f1, f2⟩ := S4 (by decide)
    rw [if_neg (by decide)] at f1
    have pos : 0 < sReasonP (v 462) := by have := i_nle g1n; rw [i0] at this; rw [Int32.lt_iff_toInt_lt, i0]; exact this
    rw [f1, e43, if_neg g1n]
    exact ⟨rfl, (t_onBench I').1, fun y47 e47 => ⟨by rw [e47, if_neg g1n, Int32.sub_zero, f2.1 206 (by decide)], (t_unseen I').1, fun y51 e51 => ⟨by rw [e51, if_neg g1n, Int32.add_zero, f2.1 214 (by decide)], fun q => absurd pos q⟩⟩⟩
  have g1 := Decidable.not_not.mp g1n
  have h0 : v 462 206 ≠ 0 := fun e0 => by
    unfold sReasonP at g1
    rw [if_pos e0] at g1
    exact absurd g1 (by decide)
  obtain ⟨dd, xx, q1, q2, q3, q4⟩ := hI.wf.fk h0
  have lk := inn_lt q2
  have hm : v 462 ((78 + 21 * (fX11_typeOf (v 462 183)).toNatClampNeg + 4)) = 2 := by
    unfold sReasonP at g1
    rw [if_neg h0] at g1
    by_cases g : v 462 ((78 + 21 * (fX11_typeOf (v 462 183)).toNatClampNeg + 4)) = 2
    · exact g
    · rw [if_neg g] at g1; exact absurd g1 (by decide)
  have hr : sGoPass (v 462) = ((fX11_typeOf (v 462 183)), st (st (sLeave (v 462)) 214 (v 462 214 + 1)) ((78 + 21 * ((fX11_typeOf (v 462 183)).toNatClampNeg) + 7)) 1) := by unfold sGoPass; rw [if_pos g1]
  rw [hr] at S3
  obtain ⟨f1, f2⟩ := S3 (nn_rfc q2.1)
  have f1 : r = fX11_typeOf (v 462 183) := f1
  have fW : v41 462 = st (st (sLeave (v 462)) 214 (v 462 214 + 1)) ((78 + 21 * ((fX11_typeOf (v 462 183)).toNatClampNeg) + 7)) 1 := f2.1
  obtain ⟨l1, l2, l3, l4, l5, l6⟩ := lv_lo c4 h0
  have e206 : v41 462 206 = v 462 206 - 1 := by rw [fW, st_n (by omega), st_n (by omega), l2]
  have e214 : v41 462 214 = v 462 214 + 1 := by rw [fW, st_n (by omega), st_s]
  have e4 : v41 462 ((78 + 21 * (fX11_typeOf (v 462 183)).toNatClampNeg + 4)) = 2 := by rw [fW, st_n (by omega), st_n (by omega), l1 _ (by omega) (by omega), hm]
  have e7 : v41 462 ((78 + 21 * (fX11_typeOf (v 462 183)).toNatClampNeg + 7)) = 1 := by rw [fW, st_s]
  rw [f1, e43, if_pos g1, e206, e214, e35 h0]
  refine ⟨rfl, (t_onBench I').1, fun y47 e47 => ⟨by rw [e47, if_pos g1], (t_unseen I').1, fun y51 e51 => ⟨by rw [e51, if_pos g1], fun _ hb => ?_⟩⟩⟩
  have ee := rn_to c4.1
  have hb2 : v41 462 206 ≠ 0 := by rw [e206]; exact hb
  have hs := sub1 c4 h0
  have h2 : 0 < (v41 462 206).toNatClampNeg := by
    have c4' := I'.wf.1.2.2.2.1
    have := rn_to c4'.1
    have : (v41 462 206).toInt ≠ 0 := fun e => hb2 (toI e)
    omega
  have TA := ta_k (A := v41 462) (k := 0) I'.wf.1.2.2.2.1 h2
  rw [show Int32.ofNat 0 = (0 : Int32) from rfl, Nat.add_zero] at TA
  rw [TA.1]
  refine ⟨(t_typeAt I').1, rfl, fun q => ⟨(t_whyNotPass I').1, ?_⟩⟩
  have q : fX11_typeOf (v41 462 183) = fX11_typeOf (v 462 183) := q
  unfold sReasonP
  rw [if_neg hb2, q, if_pos e4, if_pos e7]
/-- what stays in a chart -/
theorem fS_get {s i : Nat} {tol mid : Int32} : (fS s tol mid B (i + 1)).1 = (fS s tol mid B i).1 + (if tol < aB (B (s + i) - mid) then 0 else 1) := by
  have e := fS_o (s := s) (tol := tol) (mid := mid) (B := B) (i := i) (j := s + i) (Or.inr (Nat.le_refl _))
  show (if tol < aB ((fS s tol mid B i).2 (s + i) - mid) then fS s tol mid B i else ((fS s tol mid B i).1 + 1, st (fS s tol mid B i).2 (s + (fS s tol mid B i).1) ((fS s tol mid B i).2 (s + i)))).1 = _
  rw [e]
  by_cases g : tol < aB (B (s + i) - mid)
  · rw [if_pos g, if_pos g]; rfl
  · rw [if_neg g, if_neg g]
theorem fS_mo {s : Nat} {tol mid : Int32} : ∀ {d i : Nat}, (fS s tol mid B i).1 ≤ (fS s tol mid B (i + d)).1
  | 0, _ => Nat.le_refl _
  | d + 1, i => by
    have h := fS_mo (s := s) (tol := tol) (mid := mid) (d := d) (i := i)
    have g := fS_get (s := s) (tol := tol) (mid := mid) (B := B) (i := i + d)
    show _ ≤ (fS s tol mid B (i + d + 1)).1
    rw [g]
    omega
theorem fS_1 {s j c : Nat} {tol mid : Int32} (hj : j < c) (ht : 0 ≤ tol.toInt) (e : B (s + j) = mid) : 1 ≤ (fS s tol mid B c).1 := by
  have g := fS_get (s := s) (tol := tol) (mid := mid) (B := B) (i := j)
  have h := fS_mo (s := s) (tol := tol) (mid := mid) (B := B) (d := c - (j + 1)) (i := j + 1)
  rw [show j + 1 + (c - (j + 1)) = c by omega, g, e, Int32.sub_self, if_neg (fun q => by have := i_lt q; rw [show (aB 0).toInt = 0 from rfl] at this; omega)] at h
  omega
theorem s_throwOut (hI : Inv n m v) : oL_throwOut 448 p v ∧ pot v ≤ pot (fL_throwOut 448 p v).2 ∧ (∃ m', Inv (n + 1) m' (fL_throwOut 448 p v).2) ∧ (sIsY (v 462) p = 0 → (fL_throwOut 448 p v).1 = -100102 ∧ SAM v (fL_throwOut 448 p v).2) ∧
    (sIsY (v 462) p ≠ 0 → ∃ c mid, c ≤ 12 ∧ v 462 ((78 + 21 * p.toNatClampNeg + 8)) = Int32.ofNat c ∧ (0 < c → OS (fun j => v 462 ((78 + 21 * p.toNatClampNeg + (9 + j)))) c (c / 2) mid) ∧
      (fL_throwOut 448 p v).1 = Int32.ofNat (c - (fS ((78 + 21 * p.toNatClampNeg + 9)) (v 462 209) mid (v 462) c).1) ∧ CHM v (fL_throwOut 448 p v).2 (sThrow (v 462) p.toNatClampNeg c (v 462 209) mid)) := by
  obtain ⟨t1, t2, ⟨t3, t4, t5, t6, t7, m', t8⟩, t9, t10⟩ := t_throwOut (p := p) hI
  have hcd : (fX10_throwOut 448 p v).1 = 0 ∨ (fX10_throwOut 448 p v).1 = 1 := by
    by_cases h : sIsY (v 462) p = 0
    · exact Or.inr (t9 h).1
    · obtain ⟨c, mid, _, _, _, h0, _⟩ := t10 h
      exact Or.inl h0
  have hk : oL_throwOut 448 p v := by
    refine ⟨t1, ?_, fun h0 v4 _ => hcd.resolve_left h0⟩
    unfold kkL_throwOut fL_throwOut kkX10_throwOut
    by_cases h : (fX10_throwOut 448 p v).1 = 0
    · rw [if_pos h]; dsimp only; rw [pot_gM]; omega
    · rw [if_neg h]; dsimp only; rw [pot_gM]; omega
  by_cases h : sIsY (v 462) p = 0
  · obtain ⟨a1, a2⟩ := t9 h
    have e : fL_throwOut 448 p v = (-100102, (fX11_throwOut 461 p (fX10_throwOut 448 p v).2.2).2) := by
      unfold fL_throwOut
      rw [if_neg (by rw [a1]; decide)]
      dsimp only
      rw [a2.gMi]
    rw [e]
    exact ⟨hk, by rw [t5]; exact t4, ⟨m', t8⟩, fun _ => ⟨rfl, a2.sam t3⟩, fun q => absurd h q⟩
  · obtain ⟨c, mid, b1, b2, b3, b4, b5, b6⟩ := t10 h
    have e : fL_throwOut 448 p v = (Int32.ofNat (c - (fS ((78 + 21 * p.toNatClampNeg + 9)) (v 462 209) mid (v 462) c).1), (fX11_throwOut 461 p (fX10_throwOut 448 p v).2.2).2) := by
      unfold fL_throwOut
      rw [if_pos b4]
      dsimp only
      rw [b6.gMi, b5]
    rw [e]
    exact ⟨hk, by rw [t5]; exact t4, ⟨m', t8⟩, fun q => absurd q h, fun _ => ⟨c, mid, b1, b2, b3, rfl, b6.chm t3⟩⟩
theorem xi_throw {c : Nat} {tol mid : Int32} (h : XI N A) (hw : WF A) (hk : k < 5) (h12 : c ≤ 12) : XI N (sThrow A k c tol mid) := h.ag hw.w3 (ag_throw hk h12)
/-- the spread of a chart, by its numbers -/
theorem spr (hI : Inv n m v) (hJ : XJ (v 462)) (hy : sIsY (v 462) p ≠ 0) {c : Nat} (e8 : v 462 ((78 + 21 * p.toNatClampNeg + 8)) = Int32.ofNat c) (hc : c ≤ 12) (h0 : 0 < c) : ∃ lo hi : Int32, fX10_spreadOf 448 p v = (0, hi - lo) ∧ ((∃ j, j < c ∧ v 462 ((78 + 21 * p.toNatClampNeg + (9 + j))) = lo) ∧ ∀ j, j < c → lo.toInt ≤ (v 462 ((78 + 21 * p.toNatClampNeg + (9 + j)))).toInt) ∧ ((∃ j, j < c ∧ v 462 ((78 + 21 * p.toNatClampNeg + (9 + j))) = hi) ∧ ∀ j, j < c → (v 462 ((78 + 21 * p.toNatClampNeg + (9 + j)))).toInt ≤ hi.toInt) ∧ (hi - lo).toInt = hi.toInt - lo.toInt := by
  obtain ⟨c', hC, e8', hj⟩ := cf_of hI hy
  have ecc : c' = c := by
    rw [e8] at e8'
    have := congrArg Int32.toInt e8'
    rw [of_ti (by omega), of_ti (by have := hC.1; omega)] at this
    omega
  rw [ecc] at hC hj
  obtain ⟨_, ⟨lo, hi, a1, ⟨⟨j1, a2, a3⟩, a4⟩, ⟨⟨j2, a5, a6⟩, a7⟩⟩, _⟩ := mid_v hI hy hC h0 _ rfl
  have hk := (isY_in hI.wf.1.2.2.1 hy).2
  have b1 := hJ.2.2.2 _ hk j1 (by omega)
  have b2 := hJ.2.2.2 _ hk j2 (by omega)
  rw [← hj j1 a2, a3] at b1
  rw [← hj j2 a5, a6] at b2
  exact ⟨lo, hi, a1, ⟨⟨j1, a2, by rw [← hj j1 a2]; exact a3⟩, fun j h => by rw [← hj j h]; exact a4 j h⟩, ⟨⟨j2, a5, by rw [← hj j2 a5]; exact a6⟩, fun j h => by rw [← hj j h]; exact a7 j h⟩, ti_sub (by omega)⟩
/-- lengths are thrown out -/
theorem mv3 (hI : Inv n m v) (hX : XI N (v 462)) (hJ : XJ (v 462)) (ha : 0 ≤ a.toInt ∧ a.toInt ≤ (v 462 205).toInt) : oL_throwOut 448 a v ∧ OUT n N v (fL_throwOut 448 a v).2 ∧ ∀ y12 : Int32, y12 = ((if (a : Int32) = (fX10_types 448 v) then 1 else 0 : Int32) : Int32) → (((y12 : Int32) = 0) → (oX10_charted 448 a v ∧ (fX10_charted 448 a v).1 = 0)) ∧ ∀ y14 : Int32, y14 = ((if (y12 : Int32) = 0 then ((fX10_charted 448 a v).2) else 0 : Int32) : Int32) → (¬ ((y14 : Int32) = 0) → (oX10_spreadOf 448 a v ∧ (fX10_spreadOf 448 a v).1 = 0)) ∧ ∀ y16 : Int32, y16 = ((if (y14 : Int32) = 0 then 0 else ((fX10_spreadOf 448 a v).2) : Int32) : Int32) → (∀ v21 : vSt, v21 = ((fL_throwOut 448 a v).2) → ((((y12 : Int32) = 0) → ((¬ ((((fL_throwOut 448 a v).1) : Int32) < 0)) ∧ ((oX10_charted 448 a v21) ∧ (((fX10_charted 448 a v21).1 = 0) ∧ (((((fX10_charted 448 a v21).2) : Int32) = (y14 - ((fL_throwOut 448 a v).1))) ∧ (¬ ((y14 : Int32) = 0) → ((¬ ((y14 : Int32) ≤ ((fL_throwOut 448 a v).1))) ∧ ((oX10_spreadOf 448 a v21) ∧ (((fX10_spreadOf 448 a v21).1 = 0) ∧ ((¬ ((y16 : Int32) < ((fX10_spreadOf 448 a v21).2))))))))))))) ∧ (¬ ((y12 : Int32) = 0) → (((((fL_throwOut 448 a v).1) : Int32) = (-100102)))))) := by
  obtain ⟨o, P1, ⟨m', I'⟩, S4, S3⟩ := s_throwOut (p := a) hI
  have c3 := hI.wf.1.2.2.1
  have hWT : WT (v 462) := hI.2.2.2.2.2.1.2.2.2.2
  have i0 : (0 : Int32).toInt = 0 := rfl
  by_cases ga : a = v 462 205
  · have hn : sIsY (v 462) a = 0 := by rw [ga]; exact in_n0 c3.1
    obtain ⟨f1, f2⟩ := S4 hn
    refine ⟨o, ⟨P1, ⟨m', I'.to (by omega)⟩, (hX.ext hI.wf.w3 f2.1).mono (by omega), hJ.ext hI.wf.1 f2.1, Or.inl f2.sms⟩, fun y12 e12 => ?_⟩
    have e12 : y12 = 1 := by rw [e12, x_types hI, if_pos ga]
    rw [e12]
    exact ⟨fun q => absurd q (by decide), fun y14 e14 => ⟨fun q => absurd (by rw [e14]; rfl) q, fun y16 e16 v21 e21 => ⟨fun q => absurd q (by decide), fun _ => f1⟩⟩⟩
  have hy : sIsY (v 462) a ≠ 0 := by
    rw [isY_iff c3]
    have : a.toInt ≠ (v 462 205).toInt := fun e => ga (toI e)
    omega
  have hk := isY_in c3 hy
  have lk := inn_lt hk.1
  obtain ⟨c, mid, b1, b2, b3, b4, b5⟩ := S3 hy
  have hO : OUT n N v (fL_throwOut 448 a v).2 := by
    refine ⟨P1, ⟨m', I'.to (by omega)⟩, ?_, ?_, Or.inr ⟨_, b5.rcd⟩⟩
    · rw [b5.1]; exact (xi_throw hX hI.wf lk b1).mono (by omega)
    · rw [b5.1]; exact xj_throw hJ hI.wf hk.2 b1
  refine ⟨o, hO, fun y12 e12 => ?_⟩
  have e12 : y12 = 0 := by rw [e12, x_types hI, if_neg ga]
  rw [e12, x_charted hI hy]
  refine ⟨fun _ => ⟨(t_charted hI).1, rfl⟩, fun y14 e14 => ?_⟩
  have e14 : y14 = Int32.ofNat c := by rw [e14, if_pos rfl]; exact b2
  have z14 : y14 = 0 ↔ c = 0 := by
    rw [e14]
    exact ⟨fun q => by have := congrArg Int32.toInt q; rw [of_ti (by omega), i0] at this; omega, fun q => by rw [q]; rfl⟩
  have hsp : ¬ y14 = 0 → (fX10_spreadOf 448 a v).1 = 0 := fun q => by
    obtain ⟨lo, hi, h, _⟩ := spr hI hJ hy b2 b1 (by have := mt z14.mpr q; omega)
    rw [h]
  refine ⟨fun q => ⟨(t_spreadOf hI).1, hsp q⟩, fun y16 e16 v21 e21 => ⟨fun _ => ?_, fun q => absurd rfl q⟩⟩
  rw [← e21] at I' b5
  have J' : XJ (v21 462) := by rw [b5.1]; exact xj_throw hJ hI.wf hk.2 b1
  obtain ⟨K, hK⟩ : ∃ K, K = (fS ((78 + 21 * a.toNatClampNeg + 9)) (v 462 209) mid (v 462) c).1 := ⟨_, rfl⟩
  rw [← hK] at b4
  have hKc : K ≤ c := by rw [hK]; exact fS_le
  have g8 : v21 462 ((78 + 21 * a.toNatClampNeg + 8)) = Int32.ofNat K := by rw [b5.1]; unfold sThrow; rw [st_s, hK]
  have e205 : v21 462 205 = v 462 205 := by rw [b5.1]; unfold sThrow; rw [st_n (by omega), zF_o (by omega), fS_o (by omega)]
  have hy' : sIsY (v21 462) a ≠ 0 := by unfold sIsY at hy ⊢; rw [e205]; exact hy
  have f1 : (fL_throwOut 448 a v).1 = Int32.ofNat (c - K) := b4
  rw [f1, x_charted I' hy']
  refine ⟨(ge0 (by rw [of_ti (by omega)]; omega)).2, (t_charted I').1, rfl, ?_, fun q => ?_⟩
  · show v21 462 ((78 + 21 * a.toNatClampNeg + 8)) = _
    rw [g8, e14]
    apply toI
    rw [ti_sub (by rw [of_ti (by omega), of_ti (by omega)]; omega), of_ti (by omega), of_ti (by omega), of_ti (by omega)]
    omega
  · have h0 : 0 < c := by have := mt z14.mpr q; omega
    obtain ⟨⟨j, j1, j2⟩, _⟩ := b3 h0
    have hK1 : 1 ≤ K := by
      rw [hK]
      refine fS_1 (j := j) j1 hWT.2.1 ?_
      rw [show (78 + 21 * a.toNatClampNeg + 9) + j = (78 + 21 * a.toNatClampNeg + (9 + j)) by omega]
      exact j2
    obtain ⟨lo, hi, s1, ⟨_, s2⟩, ⟨_, s3⟩, s4⟩ := spr hI hJ hy b2 b1 h0
    obtain ⟨lo', hi', u1, ⟨⟨j3, u2, u3⟩, _⟩, ⟨⟨j4, u4, u5⟩, _⟩, u6⟩ := spr I' J' hy' g8 (by omega) hK1
    have hr := fS_rng (s := (78 + 21 * a.toNatClampNeg + 9)) (tol := v 462 209) (mid := mid) (B := v 462) (c := c) (P := fun y => lo.toInt ≤ y.toInt ∧ y.toInt ≤ hi.toInt) (fun j hj => by
      rw [show (78 + 21 * a.toNatClampNeg + 9) + j = (78 + 21 * a.toNatClampNeg + (9 + j)) by omega]
      exact ⟨s2 j hj, s3 j hj⟩) (i := c) (Nat.le_refl _)
    have hin : ∀ j, j < K → lo.toInt ≤ (v21 462 ((78 + 21 * a.toNatClampNeg + (9 + j)))).toInt ∧ (v21 462 ((78 + 21 * a.toNatClampNeg + (9 + j)))).toInt ≤ hi.toInt := fun j hj => by
      rw [b5.1]
      unfold sThrow
      rw [← hK, st_n (by omega), zF_o (by omega)]
      have := hr j (by omega)
      rw [show (78 + 21 * a.toNatClampNeg + 9) + j = (78 + 21 * a.toNatClampNeg + (9 + j)) by omega] at this
      exact this
    have v1 := hin j3 u2
    have v2 := hin j4 u4
    rw [u3] at v1
    rw [u5] at v2
    refine ⟨fun g => ?_, (t_spreadOf I').1, by rw [u1], fun g => ?_⟩
    · rw [e14, ofle (by omega) (by omega)] at g
      omega
    · rw [e16, if_neg q, s1, u1] at g
      have g := i_lt g
      dsimp only at g
      rw [s4, u6] at g
      omega
theorem moves_o (hI : Inv n m v) (hX : XI N (v 462)) (hJ : XJ (v 462)) : oL_moves 448 p y v ∧ OUT n N v (fL_moves 448 p y v) := by
  have c3 := hI.wf.1.2.2.1
  have c4 := hI.wf.1.2.2.2.1
  have lo : ∀ (q z : Int32), 0 < z.toInt → oL_low q z ∧ 0 ≤ (fL_low q z).toInt ∧ (fL_low q z).toInt < z.toInt := fun q z h => ⟨low_o (fun e => by rw [e] at h; exact absurd h (by decide)), low_t h⟩
  have i0 : (0 : Int32).toInt = 0 := rfl
  have i1 : (1 : Int32).toInt = 1 := rfl
  obtain ⟨Y, EY⟩ : ∃ z : Int32, z = (if ((fL_low (y >>> ((9 : Int32) &&& 31)) 14) : Int32) = 0 then 1 else (if ((fX10_types 448 v) : Int32) = 0 then 1 else 0) : Int32) := ⟨_, rfl⟩
  have hq : 0 < (fX10_types 448 v + Y).toInt ∧ (fX10_types 448 v + Y).toInt ≤ (v 462 205).toInt + 1 := by
    have e1 := c3.1
    have e2 := c3.2
    rw [EY, x_types hI]
    by_cases g : fL_low (y >>> ((9 : Int32) &&& 31)) 14 = 0
    · rw [if_pos g, ti_add (b := 1) (by rw [i1]; omega), i1]; omega
    · rw [if_neg g]
      by_cases g2 : v 462 205 = 0
      · rw [if_pos g2, g2]; decide
      · rw [if_neg g2, Int32.add_zero]
        have : (v 462 205).toInt ≠ 0 := fun e => g2 (toI e)
        omega
  obtain ⟨a, Ea⟩ : ∃ z : Int32, z = fL_low y (fX10_types 448 v + Y) := ⟨_, rfl⟩
  have la := lo y _ hq.1
  rw [← Ea] at la
  have ha : 0 ≤ a.toInt ∧ a.toInt ≤ (v 462 205).toInt := by omega
  obtain ⟨b, Eb⟩ : ∃ z : Int32, z = (if ((fL_low (y >>> ((11 : Int32) &&& 31)) 14) : Int32) = 0 then ((fL_low (y >>> ((3 : Int32) &&& 31)) 500) - (250 : Int32)) else ((fL_low (y >>> ((3 : Int32) &&& 31)) 121) - (60 : Int32)) : Int32) := ⟨_, rfl⟩
  have hb : -1000 ≤ b.toInt ∧ b.toInt ≤ 1000 := by
    have l1 := lo (y >>> ((3 : Int32) &&& 31)) 500 (by decide)
    have l2 := lo (y >>> ((3 : Int32) &&& 31)) 121 (by decide)
    rw [show (500 : Int32).toInt = 500 from rfl] at l1
    rw [show (121 : Int32).toInt = 121 from rfl] at l2
    rw [Eb]
    split
    · rw [ti_sub (b := 250) (by rw [show (250 : Int32).toInt = 250 from rfl]; omega), show (250 : Int32).toInt = 250 from rfl]; omega
    · rw [ti_sub (b := 60) (by rw [show (60 : Int32).toInt = 60 from rfl]; omega), show (60 : Int32).toInt = 60 from rfl]; omega
  have b62 : 0 < (if fL_low (y >>> ((9 : Int32) &&& 31)) 9 = 0 then 102 else 40 : Int32).toInt ∧ (if fL_low (y >>> ((9 : Int32) &&& 31)) 9 = 0 then 102 else 40 : Int32).toInt ≤ 102 := by split <;> decide
  have l62 := lo y _ b62.1
  have C0 := mv0 (n := n) (m := m) (N := N) hI hX hJ ha hb
  have C1 := mv1 (n := n) (m := m) (N := N) (a := fL_low y (if fL_low (y >>> ((9 : Int32) &&& 31)) 9 = 0 then 102 else 40 : Int32)) hI hX hJ ⟨l62.2.1, by omega⟩
  have C2 := mv2 (n := n) (m := m) (N := N) hI hX hJ
  have C3 := mv3 (n := n) (m := m) (N := N) hI hX hJ ha
  have F0 : p = 0 → fL_moves 448 p y v = (fL_bring 448 a b v).2 := fun h => by
    unfold fL_moves
    dsimp only
    rw [if_pos h, ← EY, ← Ea, ← Eb, ite_self]
  have F1 : ¬ p = 0 → p = 1 → fL_moves 448 p y v = (fL_file 448 (fL_low y (if fL_low (y >>> ((9 : Int32) &&& 31)) 9 = 0 then 102 else 40 : Int32)) v).2 := fun h0 h => by
    unfold fL_moves
    dsimp only
    rw [if_neg h0, if_pos h]
    simp only [ite_self]
  have F2 : ¬ p = 0 → ¬ p = 1 → p = 2 → fL_moves 448 p y v = (fL_passUnseen 448 v).2 := fun h0 h1 h => by
    unfold fL_moves
    dsimp only
    rw [if_neg h0, if_neg h1, if_pos h]
    simp only [ite_self]
  have F3 : ¬ p = 0 → ¬ p = 1 → ¬ p = 2 → fL_moves 448 p y v = (fL_throwOut 448 a v).2 := fun h0 h1 h2 => by
    unfold fL_moves
    dsimp only
    rw [if_neg h0, if_neg h1, if_neg h2, ← EY, ← Ea]
    simp only [ite_self]
  refine ⟨⟨(t_onBench hI).1, (t_toFile hI).1, (t_brought hI).1, fun h0 => ⟨(t_types hI).1, (lo _ 14 (by decide)).1, fun y94 e94 => ?_⟩, fun h0 => ⟨fun h1 => ⟨(lo _ 9 (by decide)).1, fun y62 e62 => ?_⟩, fun h1 => ⟨fun h2 => ⟨(t_whyNotPass hI).1, ?_, fun y35 e35 => ⟨(t_unseen hI).1, pp_f ⟨C2.1, C2.2.1, C2.2.2 y35 (fun h => ?_)⟩ (F2 h0 h1 h2).symm⟩⟩, fun h2 => ⟨(t_types hI).1, (lo _ 14 (by decide)).1, fun y9 e9 => ?_⟩⟩⟩⟩, ?_⟩
  · rw [e94.trans EY.symm, ← Ea]
    refine ⟨(lo y _ hq.1).1, (lo _ 14 (by decide)).1, ⟨fun _ => (lo _ 500 (by decide)).1, fun _ => (lo _ 121 (by decide)).1⟩, fun y98 e98 => ?_⟩
    rw [e98.trans Eb.symm]
    refine ⟨fun q _ _ => C0.2.2.1 (by rw [← x_types hI]; exact q), fun y100 e100 => pp_f ⟨C0.1, C0.2.1, C0.2.2.2 y100 e100⟩ (F0 h0).symm⟩
  · rw [e62]
    exact ⟨l62.1, fun y65 e65 => pp_f ⟨C1.1, C1.2.1, C1.2.2 y65 e65⟩ (F1 h0 h1).symm⟩
  · intro q
    rw [x_onBench hI] at q
    rw [x_typeAt hI, (ta_0 c4 q).1]
    exact ⟨(t_typeAt hI).1, rfl⟩
  · rw [e35, x_onBench hI, if_neg h, x_typeAt hI, (ta_0 c4 h).1]
  · rw [e9.trans EY.symm, ← Ea]
    refine ⟨(lo y _ hq.1).1, fun y12 e12 => ⟨(C3.2.2 y12 e12).1, fun y14 e14 => ⟨((C3.2.2 y12 e12).2 y14 e14).1, fun y16 e16 => pp_f ⟨C3.1, C3.2.1, ((C3.2.2 y12 e12).2 y14 e14).2 y16 e16⟩ (F3 h0 h1 h2).symm⟩⟩⟩
  · by_cases h0 : p = 0
    · rw [F0 h0]; exact C0.2.1
    by_cases h1 : p = 1
    · rw [F1 h0 h1]; exact C1.2.1
    by_cases h2 : p = 2
    · rw [F2 h0 h1 h2]; exact C2.2.1
    · rw [F3 h0 h1 h2]; exact C3.2.1
end T58d
