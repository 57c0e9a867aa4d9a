/-! P79, PLAIN 12b: what is used. -/
section T58b
variable {n m N : Nat} {u v w z W V g : vSt} {A A' B : Ar} {x p y a b c d L mt set e : Int32} {T t k : Nat}
theorem su_cg : ∀ {k : Nat}, (∀ j, j < k → B (48 + 3 * j) = A (48 + 3 * j)) → sSumN B set 0 k = sSumN A set 0 k
  | 0, _ => rfl
  | k + 1, h => by
    show sSumN B set 0 k + (if bt set k = 1 then B (48 + 3 * k) else 0) = sSumN A set 0 k + (if bt set k = 1 then A (48 + 3 * k) else 0)
    rw [su_cg (fun j hj => h j (by omega)), h k (by omega)]
theorem stk_cg {len : Int32} (hn : inn (A 204) 11) (e204 : B 204 = A 204) (h : ∀ j, j < 10 → B (48 + 3 * j) = A (48 + 3 * j)) : sStack B len = sStack A len := by
  have l7 := inn_lt hn
  have hnB : inn (B 204) 11 := by rw [e204]; exact hn
  have key : ∀ (n : Nat) (i x y : Int32), lX11_stack_8 (wA B) 461 len n i x y = lX11_stack_8 (wA A) 461 len n i x y := by
    intro n
    induction n with
    | zero => intro i x y; rfl
    | succ n ih =>
      intro i x y
      have mB : fX11_sum 461 i 0 (wA B) = sSum B i 0 := by rw [m_sum (v := wA B) hnB (by decide)]; rfl
      have mA : fX11_sum 461 i 0 (wA A) = sSum A i 0 := by rw [m_sum (v := wA A) hn (by decide)]; rfl
      have eS : sSum B i 0 = sSum A i 0 := by
        unfold sSum
        rw [e204]
        exact su_cg (fun j hj => h j (by omega))
      have e2 : (wA B) 462 (204 : Int32).toNatClampNeg = (wA A) 462 (204 : Int32).toNatClampNeg := e204
      unfold lX11_stack_8
      rw [mB, mA, eS, e2]
      dsimp only
      rw [ih]
  unfold sStack fX11_stack
  have e2 : (wA B) 462 (204 : Int32).toNatClampNeg = (wA A) 462 (204 : Int32).toNatClampNeg := e204
  rw [e2, key]
/-- the errors of blocks that are used -/
theorem ub_e {b : Nat} : ∀ {n : Nat}, (∀ b, b < n → XB A b) → b < n → ((A (48 + 3 * b + 1)).toInt - (if bt set b = 1 then 1 else 0) ≤ (sUseBN A set n (48 + 3 * b + 1)).toInt ∧ (sUseBN A set n (48 + 3 * b + 1)).toInt ≤ (A (48 + 3 * b + 1)).toInt)
  | 0, _, hb => absurd hb (Nat.not_lt_zero _)
  | n + 1, h, hb => by
    have ex : sUseBN A set (n + 1) = sUseB1 (sUseBN A set n) set n := rfl
    rw [ex]
    by_cases q : b < n
    · rw [sUseB1_o (by omega)]
      exact ub_e (fun j hj => h j (by omega)) q
    · have : b = n := by omega
      subst this
      have e0 : sUseBN A set b (48 + 3 * b + 1) = A (48 + 3 * b + 1) := sUseBN_o (by omega)
      have hx := h b (by omega)
      unfold XB at hx
      unfold sUseB1
      by_cases gg : bt set b = 1
      · rw [if_pos gg, if_pos gg, st_s, e0]
        split
        · unfold fX11_more
          have e : (A (48 + 3 * b + 1) - 1).toInt = (A (48 + 3 * b + 1)).toInt - 1 := ti_sub (b := 1) (by rw [i1t]; omega)
          by_cases g2 : A (48 + 3 * b + 1) - 1 ≤ -9
          · rw [if_pos g2]
            have := i_le g2
            rw [e, show (-9 : Int32).toInt = -9 from rfl] at this
            rw [show (-9 : Int32).toInt = -9 from rfl]
            omega
          · rw [if_neg g2, e]; omega
        · omega
      · rw [if_neg gg, if_neg gg, e0]; omega
theorem ub_l {b : Nat} : ∀ {n : Nat}, sUseBN A set n (48 + 3 * b) = A (48 + 3 * b)
  | 0 => rfl
  | n + 1 => by
    have ex : sUseBN A set (n + 1) = sUseB1 (sUseBN A set n) set n := rfl
    rw [ex, sUseB1_o (by omega)]
    exact ub_l
theorem er_d {s : Nat} (hs : s < 1024) (hA : ∀ b, b < 10 → -9 ≤ (A (48 + 3 * b + 1)).toInt ∧ (A (48 + 3 * b + 1)).toInt ≤ 3) (hB : ∀ b, b < 10 → (A (48 + 3 * b + 1)).toInt - (if bt (Int32.ofNat s) b = 1 then 1 else 0) ≤ (B (48 + 3 * b + 1)).toInt ∧ (B (48 + 3 * b + 1)).toInt ≤ (A (48 + 3 * b + 1)).toInt) :
    ∀ k, k ≤ 10 → (0 ≤ (sbN (Int32.ofNat s) k).toInt ∧ (sbN (Int32.ofNat s) k).toInt ≤ k) ∧ (-10 * (k : Int) ≤ (sSumN A (Int32.ofNat s) 1 k).toInt ∧ (sSumN A (Int32.ofNat s) 1 k).toInt ≤ 3 * (k : Int)) ∧ (sSumN A (Int32.ofNat s) 1 k).toInt - (sbN (Int32.ofNat s) k).toInt ≤ (sSumN B (Int32.ofNat s) 1 k).toInt ∧ (sSumN B (Int32.ofNat s) 1 k).toInt ≤ (sSumN A (Int32.ofNat s) 1 k).toInt := by
  intro k
  induction k with
  | zero =>
    intro _
    have e1 : sbN (Int32.ofNat s) 0 = 0 := rfl
    have e2 : sSumN A (Int32.ofNat s) 1 0 = 0 := rfl
    have e3 : sSumN B (Int32.ofNat s) 1 0 = 0 := rfl
    rw [e1, e2, e3]
    exact ⟨⟨by decide, by decide⟩, ⟨by decide, by decide⟩, by decide, by decide⟩
  | succ k ih =>
    intro hk
    obtain ⟨⟨a1, a2⟩, ⟨a3, a4⟩, a5, a6⟩ := ih (by omega)
    have hx := hA k (by omega)
    have hy := hB k (by omega)
    have es : sSumN A (Int32.ofNat s) 1 (k + 1) = sSumN A (Int32.ofNat s) 1 k + (if bt (Int32.ofNat s) k = 1 then A (48 + 3 * k + 1) else 0) := rfl
    have et : sSumN B (Int32.ofNat s) 1 (k + 1) = sSumN B (Int32.ofNat s) 1 k + (if bt (Int32.ofNat s) k = 1 then B (48 + 3 * k + 1) else 0) := rfl
    have eb : sbN (Int32.ofNat s) (k + 1) = sbN (Int32.ofNat s) k + bt (Int32.ofNat s) k := rfl
    rw [es, et, eb]
    rcases bt_01 s hs k (by omega) with g | g
    · rw [g, if_neg (by decide), if_neg (by decide), Int32.add_zero, Int32.add_zero, Int32.add_zero]
      omega
    · rw [g, if_pos rfl] at hy
      rw [g, if_pos rfl, if_pos rfl]
      have e1 : (sbN (Int32.ofNat s) k + 1).toInt = (sbN (Int32.ofNat s) k).toInt + 1 := ti_add (b := 1) (by rw [i1t]; omega)
      have e2 : (sSumN A (Int32.ofNat s) 1 k + A (48 + 3 * k + 1)).toInt = (sSumN A (Int32.ofNat s) 1 k).toInt + (A (48 + 3 * k + 1)).toInt := ti_add (by omega)
      have e3 : (sSumN B (Int32.ofNat s) 1 k + B (48 + 3 * k + 1)).toInt = (sSumN B (Int32.ofNat s) 1 k).toInt + (B (48 + 3 * k + 1)).toInt := ti_add (by omega)
      rw [e1, e2, e3]
      omega
/-- the uses that are left -/
theorem left_t {x : Int32} (h : 0 ≤ x.toInt ∧ x.toInt < 2 ^ 30) : (if 0 < 30 - x then 30 - x else 0 : Int32).toInt = if x.toInt < 30 then 30 - x.toInt else 0 := by
  have e : (30 - x).toInt = 30 - x.toInt := by rw [ti_sub (a := 30) (by rw [show (30 : Int32).toInt = 30 from rfl]; omega)]; rfl
  by_cases q : (0 : Int32) < 30 - x
  · have q2 := i_lt q
    rw [show (0 : Int32).toInt = 0 from rfl, e] at q2
    rw [if_pos q, e, if_pos (by omega)]
  · have q2 := i_nlt q
    rw [show (0 : Int32).toInt = 0 from rfl, e] at q2
    rw [if_neg q, if_neg (by omega)]
    rfl
/-- a length is measured -/
theorem us0 (hI : Inv n m v) (hX : XI N (v 462)) (hJ : XJ (v 462)) (hN : N + 60 < 2 ^ 30) (ha : 0 ≤ a.toInt ∧ a.toInt ≤ (v 462 203).toInt) (hm : inn mt 3) (hL : 0 ≤ L.toInt) (hg : (fL_measure 448 a mt L v).2 = g) : OUT n N v g ∧ (∀ y6 : Int32, y6 = ((if (a : Int32) = (fX10_tools 448 v) then 1 else 0 : Int32) : Int32) → ∀ y8 : Int32, y8 = ((if (y6 : Int32) = 0 then ((fX10_usesOf 448 a v).2) else 0 : Int32) : Int32) → ∀ y10 : Int32, y10 = ((if (y6 : Int32) = 0 then ((fX10_wearOf 448 a v).2) else 0 : Int32) : Int32) → ∀ y12 : Int32, y12 = ((if (y6 : Int32) = 0 then ((fX10_usesLeft 448 a v).2) else 0 : Int32) : Int32) → ∀ y14 : Int32, y14 = ((if (y6 : Int32) = 0 then ((fX10_knownError 448 a v).2) else 0 : Int32) : Int32) → (∀ (y91 : Int32), y91 = ((if (y6 : Int32) = 0 then (if (L : Int32) ≤ 15000 then 0 else 1) else 1 : Int32) : Int32) → ((((y91 : Int32) = 0) → (oL_readingFor 448 a mt L v)) ∧ (∀ (y93 : Int32), y93 = ((if (y91 : Int32) = 0 then (fL_readingFor 448 a mt L v) else ((-100104)) : Int32) : Int32) → ((oL_measure 448 a mt L v) ∧ ((pot v ≤ pot v ∧ pot v ≤ pot ((fL_measure 448 a mt L v).2) ∧ pot ((fL_measure 448 a mt L v).2) ≤ pot g) ∧ (∀ v98 : vSt, v98 = ((fL_measure 448 a mt L v).2) → (∀ y100 : Int32, y100 = ((fL_measure 448 a mt L v).1) → ((∀ (y101 : Int32), y101 = ((if (y93 : Int32) = (-100104) then 0 else 1 : Int32) : Int32) → ((∀ (y103 : Int32), y103 = ((if (y91 : Int32) = 0 then (if (y101 : Int32) = 0 then ((-100103)) else (y93 - y14)) else ((-100102)) : Int32) : Int32) → (((y100 : Int32) = y103) ∧ (((y6 : Int32) = 0) → ((oX10_usesOf 448 a v98) ∧ (((fX10_usesOf 448 a v98).1 = 0) ∧ ((∀ (y109 : Int32), y109 = ((if (y101 : Int32) = 0 then 0 else 1 : Int32) : Int32) → (((((fX10_usesOf 448 a v98).2) : Int32) = (y8 + y109)) ∧ ((oX10_usesLeft 448 a v98) ∧ (((fX10_usesLeft 448 a v98).1 = 0) ∧ ((∀ (y114 : Int32), y114 = ((if (y101 : Int32) = 0 then 0 else (if (y12 : Int32) ≤ 0 then 0 else 1) : Int32) : Int32) → (((((fX10_usesLeft 448 a v98).2) : Int32) = (y12 - y114)) ∧ ((oX10_wearOf 448 a v98) ∧ (((fX10_wearOf 448 a v98).1 = 0) ∧ ((¬ ((((fX10_wearOf 448 a v98).2) : Int32) < y10)) ∧ ((∀ (y120 : Int32), y120 = ((if (y101 : Int32) = 0 then 0 else 1 : Int32) : Int32) → ((¬ (((y10 + y120) : Int32) < ((fX10_wearOf 448 a v98).2))) ∧ ((oX10_knownError 448 a v98) ∧ (((fX10_knownError 448 a v98).1 = 0) ∧ (((((fX10_knownError 448 a v98).2) : Int32) = y14)))))))))))))))))))))))))))))))))) := by
  obtain ⟨o, S⟩ := s_measure (p := a) (p2 := mt) (p3 := L) hI
  have hO := S.out hX hJ hI.wf (xi_goMeasure hX hI.wf (by omega)) (xj_goMeasure hJ hI.wf)
  have c1 := hI.wf.1.1
  rw [hg] at hO
  refine ⟨hO, ?_⟩
  obtain ⟨S1, ⟨m', I'⟩, S3, S4⟩ := S
  rw [hg] at S1 I' S3 S4
  intro y6 e6 y8 e8 y10 e10 y12 e12 y14 e14 y91 e91
  refine ⟨fun _ => (w_readingFor hI).1, fun y93 e93 => ?_⟩
  rw [hg]
  refine ⟨o, ⟨Nat.le_refl _, S1, Nat.le_refl _⟩, fun v98 e98 y100 e100 y101 e101 y103 e103 => ?_⟩
  rw [← e100] at S3 S4
  rw [e98]
  clear e98 e100 hg o hO S1
  have i0 : (0 : Int32).toInt = 0 := rfl
  have i15 : (15000 : Int32).toInt = 15000 := rfl
  rw [x_tools hI] at e6
  by_cases ga : a = v 462 203
  · have hn : sIsT (v 462) a = 0 := by rw [ga]; exact in_n0 c1.1
    have hr : sGoMeasure (v 462) a mt L = (-100001, v 462) := by unfold sGoMeasure; rw [if_pos hn]
    rw [hr] at S4
    dsimp only at S4
    obtain ⟨f1, f2⟩ := S4 (by decide)
    rw [if_pos rfl] at f1
    rw [if_pos ga] at e6
    rw [e6, if_neg (by decide)] at e91
    rw [f1, e103, e91, if_neg (by decide)]
    exact ⟨rfl, fun q => absurd (e6.symm.trans q) (by decide)⟩
  have hT : sIsT (v 462) a ≠ 0 := by
    rw [isT_iff c1]
    have : a.toInt ≠ (v 462 203).toInt := fun e => ga (toI e)
    omega
  have hTa := isT_in c1 hT
  have lt := inn_lt hTa.1
  have hx := hX.1 _ hTa.2
  unfold XT at hx
  obtain ⟨hx1, hx2, hx4, hx5, hx6⟩ := hx
  rw [if_neg ga] at e6
  rw [e6, if_pos rfl] at e8 e10 e12 e14 e91
  rw [x_usesOf hI hT] at e8
  rw [x_wearOf hI hT] at e10
  rw [x_usesLeft hI hT] at e12
  rw [x_knownError hI hT] at e14
  dsimp only at e8 e10 e12 e14
  have hmat : fX11_isMaterial mt ≠ 0 := by
    show fX11_in mt 0 2 ≠ 0
    rw [in_iff, i0, show (2 : Int32).toInt = 2 from rfl]
    exact ⟨hm.1, by have := hm.2; omega⟩
  -- what is answered where nothing was done
  have same : SAM v g → y101 = 0 → (((y6 : Int32) = 0) → ((oX10_usesOf 448 a g) ∧ (((fX10_usesOf 448 a g).1 = 0) ∧ ((∀ (y109 : Int32), y109 = ((if (y101 : Int32) = 0 then 0 else 1 : Int32) : Int32) → (((((fX10_usesOf 448 a g).2) : Int32) = (y8 + y109)) ∧ ((oX10_usesLeft 448 a g) ∧ (((fX10_usesLeft 448 a g).1 = 0) ∧ ((∀ (y114 : Int32), y114 = ((if (y101 : Int32) = 0 then 0 else (if (y12 : Int32) ≤ 0 then 0 else 1) : Int32) : Int32) → (((((fX10_usesLeft 448 a g).2) : Int32) = (y12 - y114)) ∧ ((oX10_wearOf 448 a g) ∧ (((fX10_wearOf 448 a g).1 = 0) ∧ ((¬ ((((fX10_wearOf 448 a g).2) : Int32) < y10)) ∧ ((∀ (y120 : Int32), y120 = ((if (y101 : Int32) = 0 then 0 else 1 : Int32) : Int32) → ((¬ (((y10 + y120) : Int32) < ((fX10_wearOf 448 a g).2))) ∧ ((oX10_knownError 448 a g) ∧ (((fX10_knownError 448 a g).1 = 0) ∧ (((((fX10_knownError 448 a g).2) : Int32) = y14))))))))))))))))))))) := fun hS h101 => by
    have hT' : sIsT (g 462) a ≠ 0 := by rw [eT hS.1]; exact hT
    have ez : ∀ i, i < 8 → g 462 (8 * a.toNatClampNeg + i) = v 462 (8 * a.toNatClampNeg + i) := fun i hi => hS.1 _ (by omega)
    rw [x_usesOf I' hT', x_usesLeft I' hT', x_wearOf I' hT', x_knownError I' hT']
    dsimp only
    rw [ez 5 (by omega), ez 6 (by omega), ez 2 (by omega), ez 3 (by omega), h101, e8, e10, e12, e14]
    exact fun _ => ⟨(t_usesOf I').1, rfl, fun y109 e109 => ⟨by rw [e109, if_pos rfl, Int32.add_zero], (t_usesLeft I').1, rfl, fun y114 e114 => ⟨by rw [e114, if_pos rfl, Int32.sub_zero], (t_wearOf I').1, rfl, fun q => by have := i_lt q; omega, fun y120 e120 => ⟨fun q => by rw [e120, if_pos rfl, Int32.add_zero] at q; have := i_lt q; omega, (t_knownError I').1, rfl, rfl⟩⟩⟩⟩
  by_cases gl : L ≤ 15000
  · have gl2 := i_le gl
    rw [i15] at gl2
    have hlen : fX11_in L 0 15000 ≠ 0 := in_p (by rw [i0]; omega) (by rw [i15]; omega)
    rw [if_pos gl] at e91
    have hG : gRd (v 462) a mt L = if sReading (v 462) a.toNatClampNeg mt L = -1 then (3, 0) else (0, sReading (v 462) a.toNatClampNeg mt L) := by unfold gRd; rw [if_neg hT, if_neg hmat, if_neg hlen]
    rw [e91, if_pos rfl, (w_readingFor hI).2, hG] at e93
    by_cases gr : sReading (v 462) a.toNatClampNeg mt L = -1
    · have hr : sGoMeasure (v 462) a mt L = (-100002, v 462) := by
        unfold sGoMeasure
        rw [if_neg hT, if_neg hmat, if_neg (show ¬ fX11_isLength L = 0 from hlen), if_neg (fun q => (rd_lt.mp q) gr)]
      rw [hr] at S4
      dsimp only at S4
      obtain ⟨f1, f2⟩ := S4 (by decide)
      rw [if_neg (by decide)] at f1
      rw [if_pos gr, cw_3] at e93
      have h101 : y101 = 0 := by rw [e101, e93]; rfl
      exact ⟨by rw [f1, e103, e91, h101, if_pos rfl, if_pos rfl], same f2 h101⟩
    · have hr : sGoMeasure (v 462) a mt L = (sReading (v 462) a.toNatClampNeg mt L - v 462 (8 * a.toNatClampNeg + 3), sUse (v 462) a.toNatClampNeg mt) := by
        unfold sGoMeasure
        rw [if_neg hT, if_neg hmat, if_neg (show ¬ fX11_isLength L = 0 from hlen), if_pos (rd_lt.mpr gr)]
      rw [hr] at S3
      have hrd := (rd_or (A := v 462) (t := a.toNatClampNeg) (m := mt) (len := L)).resolve_left gr
      have hkn := hJ.1 _ hTa.2
      have hsb : (sReading (v 462) a.toNatClampNeg mt L - v 462 (8 * a.toNatClampNeg + 3)).toInt = (sReading (v 462) a.toNatClampNeg mt L).toInt - (v 462 (8 * a.toNatClampNeg + 3)).toInt := ti_sub (by omega)
      obtain ⟨f1, f2⟩ := S3 (rfc_0 (by show -100001 < (sReading (v 462) a.toNatClampNeg mt L - v 462 (8 * a.toNatClampNeg + 3)).toInt; rw [hsb]; omega))
      have f1 : y100 = sReading (v 462) a.toNatClampNeg mt L - v 462 (8 * a.toNatClampNeg + 3) := f1
      have fW : g 462 = sUse (v 462) a.toNatClampNeg mt := f2.1
      rw [if_neg gr, cw_0] at e93
      have h101 : y101 = 1 := by rw [e101, if_neg (fun q => by rw [e93] at q; rw [q] at hrd; exact absurd hrd.1 (by decide))]
      have e203 : g 462 203 = v 462 203 := by rw [fW, sUse_o (by omega)]
      have hT' : sIsT (g 462) a ≠ 0 := by unfold sIsT at hT ⊢; rw [e203]; exact hT
      have k5 : g 462 (8 * a.toNatClampNeg + 5) = v 462 (8 * a.toNatClampNeg + 5) + 1 := by rw [fW]; unfold sUse; rw [if_pos rfl]
      have k6 : g 462 (8 * a.toNatClampNeg + 6) = v 462 (8 * a.toNatClampNeg + 6) + 1 := by rw [fW]; unfold sUse; rw [if_neg (by omega), if_pos rfl]
      have k3 : g 462 (8 * a.toNatClampNeg + 3) = v 462 (8 * a.toNatClampNeg + 3) := by rw [fW, sUse_o (by omega)]
      have k2 : g 462 (8 * a.toNatClampNeg + 2) = (if v 462 (8 * a.toNatClampNeg + 4) + 3 - mt < 20 then v 462 (8 * a.toNatClampNeg + 2) else (if v 462 (8 * a.toNatClampNeg + 2) + 1 ≤ 40 then v 462 (8 * a.toNatClampNeg + 2) + 1 else 40)) := by rw [fW]; unfold sUse; rw [if_neg (by omega), if_neg (by omega), if_neg (by omega), if_pos rfl]
      have i1 : (1 : Int32).toInt = 1 := rfl
      have w1 : (v 462 (8 * a.toNatClampNeg + 2) + 1).toInt = (v 462 (8 * a.toNatClampNeg + 2)).toInt + 1 := ti_add (b := 1) (by rw [i1]; omega)
      have kw : (v 462 (8 * a.toNatClampNeg + 2)).toInt ≤ (g 462 (8 * a.toNatClampNeg + 2)).toInt ∧ (g 462 (8 * a.toNatClampNeg + 2)).toInt ≤ (v 462 (8 * a.toNatClampNeg + 2)).toInt + 1 := by
        rw [k2]
        split
        · omega
        · split
          · rw [w1]; omega
          · rename_i q
            have q := i_nle q
            rw [w1, show (40 : Int32).toInt = 40 from rfl] at q
            rw [show (40 : Int32).toInt = 40 from rfl]
            omega
      have u1 : (v 462 (8 * a.toNatClampNeg + 6) + 1).toInt = (v 462 (8 * a.toNatClampNeg + 6)).toInt + 1 := ti_add (b := 1) (by rw [i1]; omega)
      have lf := left_t (x := v 462 (8 * a.toNatClampNeg + 6)) (by omega)
      have lg := left_t (x := v 462 (8 * a.toNatClampNeg + 6) + 1) (by rw [u1]; omega)
      rw [u1] at lg
      rw [f1, e103, e91, h101, e93, e14, x_usesOf I' hT', x_usesLeft I' hT', x_wearOf I' hT', x_knownError I' hT']
      dsimp only
      rw [k5, k6, k3, e8, e10]
      refine ⟨rfl, fun _ => ⟨(t_usesOf I').1, rfl, fun y109 e109 => ⟨by rw [e109]; rfl, (t_usesLeft I').1, rfl, fun y114 e114 => ⟨?_, (t_wearOf I').1, rfl, fun q => by have := i_lt q; omega, fun y120 e120 => ⟨fun q => ?_, (t_knownError I').1, rfl, rfl⟩⟩⟩⟩⟩
      · rw [← e12] at lf
        apply toI
        rw [lg, e114, if_neg (show ¬ (1 : Int32) = 0 by decide)]
        by_cases q : y12 ≤ 0
        · have q2 := i_le q
          rw [i0] at q2
          rw [if_pos q, Int32.sub_zero, lf]
          rw [lf] at q2
          split at q2 <;> split <;> omega
        · have q2 := i_nle q
          rw [i0] at q2
          rw [if_neg q, ti_sub (b := 1) (by rw [i1, lf]; split <;> omega), lf, i1]
          rw [lf] at q2
          split at q2 <;> split <;> omega
      · rw [e120, if_neg (by decide)] at q
        have q := i_lt q
        rw [w1] at q
        omega
  · have gl2 := i_nle gl
    rw [i15] at gl2
    have hlen : fX11_in L 0 15000 = 0 := in_iff0.mpr (by rw [i0, i15]; omega)
    have hr : sGoMeasure (v 462) a mt L = (-100001, v 462) := by
      unfold sGoMeasure
      rw [if_neg hT, if_neg hmat, if_pos (show fX11_isLength L = 0 from hlen)]
    rw [hr] at S4
    dsimp only at S4
    obtain ⟨f1, f2⟩ := S4 (by decide)
    rw [if_pos rfl] at f1
    rw [if_neg gl] at e91
    rw [e91, if_neg (by decide)] at e93
    have h101 : y101 = 0 := by rw [e101, e93]; rfl
    rw [f1, e103, e91]
    exact ⟨rfl, same f2 h101⟩
/-- a tool is calibrated -/
theorem us1 (hI : Inv n m v) (hX : XI N (v 462)) (hJ : XJ (v 462)) (hN : N + 60 < 2 ^ 30) (ha : 0 ≤ a.toInt ∧ a.toInt ≤ (v 462 203).toInt) (hg : (fL_calibrate 448 a L v).2 = g) : OUT n N v g ∧ (∀ y6 : Int32, y6 = ((if (a : Int32) = (fX10_tools 448 v) then 1 else 0 : Int32) : Int32) → ∀ y8 : Int32, y8 = ((if (y6 : Int32) = 0 then ((fX10_usesOf 448 a v).2) else 0 : Int32) : Int32) → ∀ y10 : Int32, y10 = ((if (y6 : Int32) = 0 then ((fX10_wearOf 448 a v).2) else 0 : Int32) : Int32) → ∀ y12 : Int32, y12 = ((if (y6 : Int32) = 0 then ((fX10_usesLeft 448 a v).2) else 0 : Int32) : Int32) → ∀ y14 : Int32, y14 = ((if (y6 : Int32) = 0 then ((fX10_knownError 448 a v).2) else 0 : Int32) : Int32) → (∀ (y34 : Int32), y34 = ((if (y6 : Int32) = 0 then (if (L : Int32) < 1 then 1 else (if (L : Int32) ≤ 15000 then 0 else 1)) else 1 : Int32) : Int32) → ((((y34 : Int32) = 0) → (oL_stackFor 448 L v)) ∧ (∀ (y36 : Int32), y36 = ((if (y34 : Int32) = 0 then (fL_stackFor 448 L v) else ((-100104)) : Int32) : Int32) → ((¬ ((y36 : Int32) = (-100104)) → ((oX10_trueLength 448 L v) ∧ ((fX10_trueLength 448 L v).1 = 0))) ∧ (∀ (y38 : Int32), y38 = ((if (y36 : Int32) = (-100104) then ((-100104)) else ((fX10_trueLength 448 L v).2) : Int32) : Int32) → ((∀ (y40 : Int32), y40 = ((if (y38 : Int32) < 0 then 0 else (if (15000 : Int32) < y38 then 0 else 1) : Int32) : Int32) → ((¬ ((y40 : Int32) = 0) → (oL_readingFor 448 a 0 y38 v)) ∧ (∀ (y42 : Int32), y42 = ((if (y40 : Int32) = 0 then ((-100104)) else (fL_readingFor 448 a 0 y38 v) : Int32) : Int32) → ((oL_calibrate 448 a L v) ∧ ((pot v ≤ pot v ∧ pot v ≤ pot ((fL_calibrate 448 a L v).2) ∧ pot ((fL_calibrate 448 a L v).2) ≤ pot g) ∧ (∀ v47 : vSt, v47 = ((fL_calibrate 448 a L v).2) → (((((-100000) : Int32) ≤ ((fL_calibrate 448 a L v).1)) → (((y34 : Int32) = 0) ∧ ((¬ ((y36 : Int32) = (-100104))) ∧ ((¬ ((y40 : Int32) = 0) → (((((fL_calibrate 448 a L v).1) : Int32) = (y42 - L)))) ∧ ((oX10_knownError 448 a v47) ∧ (((fX10_knownError 448 a v47).1 = 0) ∧ (((((fX10_knownError 448 a v47).2) : Int32) = ((fL_calibrate 448 a L v).1)) ∧ ((oX10_isDue 448 a v47) ∧ (((fX10_isDue 448 a v47).1 = 0) ∧ (((((fX10_isDue 448 a v47).2) : Int32) = 0) ∧ ((oX10_usesLeft 448 a v47) ∧ (((fX10_usesLeft 448 a v47).1 = 0) ∧ (((((fX10_usesLeft 448 a v47).2) : Int32) = 30) ∧ ((oX10_usesOf 448 a v47) ∧ (((fX10_usesOf 448 a v47).1 = 0) ∧ (((((fX10_usesOf 448 a v47).2) : Int32) = (y8 + (1 : Int32))) ∧ ((oX10_stackFor 448 L v47) ∧ (((fX10_stackFor 448 L v47).1 = 0) ∧ (((((fX10_stackFor 448 L v47).2) : Int32) = y36) ∧ ((oX10_trueLength 448 L v47) ∧ (((fX10_trueLength 448 L v47).1 = 0) ∧ ((¬ ((y38 : Int32) < ((fX10_trueLength 448 L v47).2))) ∧ ((¬ ((((fX10_trueLength 448 L v47).2) : Int32) < (y38 - (5 : Int32))))))))))))))))))))))))))) ∧ (¬ (((-100000) : Int32) ≤ ((fL_calibrate 448 a L v).1)) → ((∀ (y72 : Int32), y72 = ((if (y34 : Int32) = 0 then ((-100103)) else ((-100102)) : Int32) : Int32) → (((((fL_calibrate 448 a L v).1) : Int32) = y72) ∧ (((y42 : Int32) = (-100104)) ∧ (((y6 : Int32) = 0) → ((oX10_usesOf 448 a v47) ∧ (((fX10_usesOf 448 a v47).1 = 0) ∧ (((((fX10_usesOf 448 a v47).2) : Int32) = y8) ∧ ((oX10_knownError 448 a v47) ∧ (((fX10_knownError 448 a v47).1 = 0) ∧ (((((fX10_knownError 448 a v47).2) : Int32) = y14) ∧ ((oX10_usesLeft 448 a v47) ∧ (((fX10_usesLeft 448 a v47).1 = 0) ∧ (((((fX10_usesLeft 448 a v47).2) : Int32) = y12)))))))))))))))))))))))))))))) := by
  obtain ⟨o, S⟩ := s_calibrate (p := a) (p2 := L) hI
  have hO := S.out hX hJ hI.wf (xi_goCalibrate hX hI.wf (by omega)) (xj_goCalibrate hJ hX hI.wf)
  have c1 := hI.wf.1.1
  have c2 := hI.wf.1.2.1
  rw [hg] at hO
  refine ⟨hO, ?_⟩
  obtain ⟨S1, ⟨m', I'⟩, S3, S4⟩ := S
  rw [hg] at S1 I' S3 S4
  intro y6 e6 y8 e8 y10 e10 y12 e12 y14 e14 y34 e34
  refine ⟨fun _ => (w_stackFor hI).1, fun y36 e36 => ?_⟩
  have i0 : (0 : Int32).toInt = 0 := rfl
  have i1 : (1 : Int32).toInt = 1 := rfl
  have i15 : (15000 : Int32).toInt = 15000 := rfl
  rw [x_tools hI] at e6
  -- the stack, as it is told
  have hS36 : y36 ≠ -100104 → y34 = 0 ∧ (gSt (v 462) L).1 = 0 ∧ y36 = sStack (v 462) L := fun h => by
    by_cases q : y34 = 0
    · rw [if_pos q] at e36
      by_cases g1 : (gSt (v 462) L).1 = 0
      · exact ⟨q, g1, by rw [e36, (w_stackFor hI).2.2 g1]⟩
      · exfalso
        rw [(w_stackFor hI).2.1 g1] at e36
        by_cases g2 : fX11_in L 1 15000 = 0
        · -- out of its range: then y34 is 1
          by_cases g3 : y6 = 0
          · rw [if_pos g3] at e34
            have g := in_iff0.mp g2
            rw [i1, i15] at g
            by_cases r1 : L < 1
            · rw [if_pos r1] at e34; rw [e34] at q; exact absurd q (by decide)
            · have r2 := i_nlt r1
              rw [i1] at r2
              rw [if_neg r1, if_neg (by rw [Int32.le_iff_toInt_le, i15]; omega)] at e34
              rw [e34] at q; exact absurd q (by decide)
          · rw [if_neg g3] at e34; rw [e34] at q; exact absurd q (by decide)
        · by_cases g3 : sStack (v 462) L = 0
          · have hG : gSt (v 462) L = (3, 0) := by unfold gSt; rw [if_neg g2, if_pos g3]
            rw [hG, cw_3] at e36
            exact h e36
          · exact g1 (by unfold gSt; rw [if_neg g2, if_neg g3])
    · rw [if_neg q] at e36; exact absurd e36 h
  refine ⟨fun q => ⟨(t_trueLength hI).1, by rw [x_trueLength hI (hS36 q).2.1]⟩, fun y38 e38 y40 e40 => ⟨fun _ => (w_readingFor hI).1, fun y42 e42 => ?_⟩⟩
  rw [hg]
  refine ⟨o, ⟨Nat.le_refl _, S1, Nat.le_refl _⟩, fun v47 e47 => ?_⟩
  rw [e47]
  obtain ⟨r, er⟩ : ∃ z, z = (fL_calibrate 448 a L v).1 := ⟨_, rfl⟩
  rw [← er] at S3 S4 ⊢
  clear e47 hg o hO S1 er
  have none42 : y36 = -100104 → y42 = -100104 := fun h => by
    rw [h, if_pos rfl] at e38
    rw [e38] at e40
    have h40 : y40 = 0 := e40
    rw [e42, if_pos h40]
  have n34 : y34 = 1 → y36 = -100104 := fun h => by rw [e36, h]; rfl
  -- what is answered where nothing was done
  have ref : ∀ z : Int32, SAM v g → r = z → (z = if y34 = 0 then -100103 else -100102 : Prop) → ¬ (-100000 : Int32) ≤ z → y42 = -100104 →
      ((∀ (y72 : Int32), y72 = ((if (y34 : Int32) = 0 then ((-100103)) else ((-100102)) : Int32) : Int32) → (((r : Int32) = y72) ∧ (((y42 : Int32) = (-100104)) ∧ (((y6 : Int32) = 0) → ((oX10_usesOf 448 a g) ∧ (((fX10_usesOf 448 a g).1 = 0) ∧ (((((fX10_usesOf 448 a g).2) : Int32) = y8) ∧ ((oX10_knownError 448 a g) ∧ (((fX10_knownError 448 a g).1 = 0) ∧ (((((fX10_knownError 448 a g).2) : Int32) = y14) ∧ ((oX10_usesLeft 448 a g) ∧ (((fX10_usesLeft 448 a g).1 = 0) ∧ (((((fX10_usesLeft 448 a g).2) : Int32) = y12)))))))))))))) ∧ ¬ (-100000 : Int32) ≤ r) := fun z hS h1 h2 h3 h4 => by
    refine ⟨fun y72 e72 => ⟨by rw [h1, h2, e72], h4, fun h6 => ?_⟩, by rw [h1]; exact h3⟩
    have ga : ¬ a = v 462 203 := fun q => by rw [if_pos q] at e6; rw [e6] at h6; exact absurd h6 (by decide)
    have hT : sIsT (v 462) a ≠ 0 := by
      rw [isT_iff c1]
      have : a.toInt ≠ (v 462 203).toInt := fun e => ga (toI e)
      omega
    have lt := inn_lt (isT_in c1 hT).1
    rw [h6, if_pos rfl] at e8 e12 e14
    rw [x_usesOf hI hT] at e8
    rw [x_usesLeft hI hT] at e12
    rw [x_knownError hI hT] at e14
    have hT' : sIsT (g 462) a ≠ 0 := by rw [eT hS.1]; exact hT
    have ez : ∀ i, i < 8 → g 462 (8 * a.toNatClampNeg + i) = v 462 (8 * a.toNatClampNeg + i) := fun i hi => hS.1 _ (by omega)
    rw [x_usesOf I' hT', x_usesLeft I' hT', x_knownError I' hT', e8, e12, e14]
    dsimp only
    rw [ez 5 (by omega), ez 6 (by omega), ez 3 (by omega)]
    exact ⟨(t_usesOf I').1, rfl, rfl, (t_knownError I').1, rfl, rfl, (t_usesLeft I').1, rfl, rfl⟩
  have b2n : ¬ (-100000 : Int32) ≤ -100102 := by decide
  have b3n : ¬ (-100000 : Int32) ≤ -100103 := by decide
  by_cases ga : a = v 462 203
  · have hn : sIsT (v 462) a = 0 := by rw [ga]; exact in_n0 c1.1
    have hr : sGoCalibrate (v 462) a L = (-100001, v 462) := by unfold sGoCalibrate; rw [if_pos hn]
    rw [hr] at S4
    dsimp only at S4
    obtain ⟨f1, f2⟩ := S4 (by decide)
    rw [if_pos rfl] at f1
    rw [if_pos ga] at e6
    have h34 : y34 = 1 := by rw [e34, e6]; rfl
    have R := ref _ f2 f1 (by rw [h34]; rfl) b2n (none42 (n34 h34))
    exact ⟨fun q => absurd q R.2, fun _ => R.1⟩
  have hT : sIsT (v 462) a ≠ 0 := by
    rw [isT_iff c1]
    have : a.toInt ≠ (v 462 203).toInt := fun e => ga (toI e)
    omega
  have hTa := isT_in c1 hT
  have lt := inn_lt hTa.1
  have h6 : y6 = 0 := by rw [e6, if_neg ga]
  by_cases gl : fX11_in L 1 15000 = 0
  · have hr : sGoCalibrate (v 462) a L = (-100001, v 462) := by unfold sGoCalibrate; rw [if_neg hT, if_pos gl]
    rw [hr] at S4
    dsimp only at S4
    obtain ⟨f1, f2⟩ := S4 (by decide)
    rw [if_pos rfl] at f1
    have h34 : y34 = 1 := by
      have gg := in_iff0.mp gl
      rw [i1, i15] at gg
      rw [e34, if_pos h6]
      by_cases r1 : L < 1
      · rw [if_pos r1]
      · have r2 := i_nlt r1
        rw [i1] at r2
        rw [if_neg r1, if_neg (by rw [Int32.le_iff_toInt_le, i15]; omega)]
    have R := ref _ f2 f1 (by rw [h34]; rfl) b2n (none42 (n34 h34))
    exact ⟨fun q => absurd q R.2, fun _ => R.1⟩
  have gl2 := in_iff.mp gl
  rw [i1, i15] at gl2
  have h34 : y34 = 0 := by rw [e34, if_pos h6, if_neg (by rw [Int32.lt_iff_toInt_lt, i1]; omega), if_pos (by rw [Int32.le_iff_toInt_le, i15]; omega)]
  have e36' : y36 = cw (gSt (v 462) L) ∨ y36 = sStack (v 462) L := by
    rw [h34, if_pos rfl] at e36
    by_cases g1 : (gSt (v 462) L).1 = 0
    · exact Or.inr (by rw [e36, (w_stackFor hI).2.2 g1])
    · exact Or.inl (by rw [e36, (w_stackFor hI).2.1 g1])
  by_cases gs : sStack (v 462) L = 0
  · have hr : sGoCalibrate (v 462) a L = (-100002, v 462) := by
      unfold sGoCalibrate sRdC
      rw [if_neg hT, if_neg gl, if_pos gs, if_neg (by decide)]
    rw [hr] at S4
    dsimp only at S4
    obtain ⟨f1, f2⟩ := S4 (by decide)
    rw [if_neg (by decide)] at f1
    have hG : gSt (v 462) L = (3, 0) := by unfold gSt; rw [if_neg gl, if_pos gs]
    have h36 : y36 = -100104 := by
      rw [e36, h34, if_pos rfl, (w_stackFor hI).2.1 (by rw [hG]; decide), hG, cw_3]
    have R := ref _ f2 f1 (by rw [h34]; rfl) b3n (none42 h36)
    exact ⟨fun q => absurd q R.2, fun _ => R.1⟩
  have hG : gSt (v 462) L = (0, sStack (v 462) L) := by unfold gSt; rw [if_neg gl, if_neg gs]
  have h36 : y36 = sStack (v 462) L := by rw [e36, h34, if_pos rfl, (w_stackFor hI).2.2 (by rw [hG])]
  have hs := stack_in (A := v 462) (len := L) c2
  have n36 : ¬ y36 = -100104 := fun q => by
    rw [h36] at q
    have := hs.1
    rw [q] at this
    exact absurd this (by decide)
  have h38 : y38 = sTruly (v 462) (sStack (v 462) L) := by rw [e38, if_neg n36, x_trueLength hI (by rw [hG])]
  have tt := tru_t hX c2 gl2 gs
  -- the reading, where the length may be told
  have h42 : ¬ y40 = 0 → y42 = cw (if sReading (v 462) a.toNatClampNeg 0 y38 = -1 then (3, 0) else (0, sReading (v 462) a.toNatClampNeg 0 y38)) := fun q => by
    rw [e42, if_neg q, (w_readingFor hI).2]
    have hl : fX11_in y38 0 15000 ≠ 0 := by
      by_cases r1 : y38 < 0
      · rw [if_pos r1] at e40; exact absurd e40 q
      · rw [if_neg r1] at e40
        by_cases r2 : 15000 < y38
        · rw [if_pos r2] at e40; exact absurd e40 q
        · exact in_p (i_nlt r1) (i_nlt r2)
    unfold gRd
    rw [if_neg hT, if_neg (by decide), if_neg hl]
  by_cases gr : sReading (v 462) a.toNatClampNeg 0 (sTruly (v 462) (sStack (v 462) L)) = -1
  · have hr : sGoCalibrate (v 462) a L = (-100002, v 462) := by
      unfold sGoCalibrate sRdC
      rw [if_neg hT, if_neg gl, if_neg gs, gr, if_neg (by decide)]
    rw [hr] at S4
    dsimp only at S4
    obtain ⟨f1, f2⟩ := S4 (by decide)
    rw [if_neg (by decide)] at f1
    have h42n : y42 = -100104 := by
      by_cases q : y40 = 0
      · rw [e42, if_pos q]
      · rw [h42 q, h38, if_pos gr, cw_3]
    have R := ref _ f2 f1 (by rw [h34]; rfl) b3n h42n
    exact ⟨fun q => absurd q R.2, fun _ => R.1⟩
  have hrc : sRdC (v 462) a.toNatClampNeg L = sReading (v 462) a.toNatClampNeg 0 (sTruly (v 462) (sStack (v 462) L)) := by unfold sRdC; rw [if_neg gs]
  have hr : sGoCalibrate (v 462) a L = (sReading (v 462) a.toNatClampNeg 0 (sTruly (v 462) (sStack (v 462) L)) - L, sCal (v 462) a.toNatClampNeg (sStack (v 462) L) (sReading (v 462) a.toNatClampNeg 0 (sTruly (v 462) (sStack (v 462) L)) - L)) := by
    unfold sGoCalibrate
    rw [hrc, if_neg hT, if_neg gl, if_pos (rd_lt.mpr gr)]
  rw [hr] at S3
  have hrd := (rd_or (A := v 462) (t := a.toNatClampNeg) (m := 0) (len := sTruly (v 462) (sStack (v 462) L))).resolve_left gr
  obtain ⟨R, eR⟩ : ∃ z, z = sReading (v 462) a.toNatClampNeg 0 (sTruly (v 462) (sStack (v 462) L)) := ⟨_, rfl⟩
  rw [← eR] at S3 hrd gr
  have hsb : (R - L).toInt = R.toInt - L.toInt := ti_sub (by omega)
  obtain ⟨f1, f2⟩ := S3 (rfc_0 (by show -100001 < (R - L).toInt; rw [hsb]; omega))
  have f1 : r = R - L := f1
  have fW : g 462 = sCal (v 462) a.toNatClampNeg (sStack (v 462) L) (R - L) := f2.1
  have l2 := inn_lt c2
  have gg : ∀ j, j < 48 ∨ 78 ≤ j → g 462 j = (st (st (st (sUse (v 462) a.toNatClampNeg 0) (8 * a.toNatClampNeg + 3) (R - L)) (8 * a.toNatClampNeg + 6) 0) (8 * a.toNatClampNeg + 7) (v 462 210)) j := fun j hj => by rw [fW]; exact sUseBN_o (by omega)
  have k203 : g 462 203 = v 462 203 := by rw [gg _ (by omega), st_n (by omega), st_n (by omega), st_n (by omega), sUse_o (by omega)]
  have k204 : g 462 204 = v 462 204 := by rw [gg _ (by omega), st_n (by omega), st_n (by omega), st_n (by omega), sUse_o (by omega)]
  have k210 : g 462 210 = v 462 210 := by rw [gg _ (by omega), st_n (by omega), st_n (by omega), st_n (by omega), sUse_o (by omega)]
  have k3 : g 462 (8 * a.toNatClampNeg + 3) = R - L := by rw [gg _ (by omega), st_n (by omega), st_n (by omega), st_s]
  have k6 : g 462 (8 * a.toNatClampNeg + 6) = 0 := by rw [gg _ (by omega), st_n (by omega), st_s]
  have k7 : g 462 (8 * a.toNatClampNeg + 7) = v 462 210 := by rw [gg _ (by omega), st_s]
  have k5 : g 462 (8 * a.toNatClampNeg + 5) = v 462 (8 * a.toNatClampNeg + 5) + 1 := by rw [gg _ (by omega), st_n (by omega), st_n (by omega), st_n (by omega)]; unfold sUse; rw [if_pos rfl]
  have kL : ∀ j, j < 10 → g 462 (48 + 3 * j) = v 462 (48 + 3 * j) := fun j hj => by
    rw [fW]
    unfold sCal
    rw [ub_l, st_n (by omega), st_n (by omega), st_n (by omega), sUse_o (by omega)]
  have eS : sStack (g 462) L = sStack (v 462) L := stk_cg c2 k204 kL
  have hT' : sIsT (g 462) a ≠ 0 := by unfold sIsT at hT ⊢; rw [k203]; exact hT
  have hG' : gSt (g 462) L = (0, sStack (v 462) L) := by unfold gSt; rw [if_neg gl, eS, if_neg gs]
  have hle : (-100000 : Int32) ≤ r := by rw [f1, Int32.le_iff_toInt_le, hsb, show (-100000 : Int32).toInt = -100000 from rfl]; omega
  refine ⟨fun _ => ?_, fun q => absurd hle q⟩
  rw [h6, if_pos rfl, x_usesOf hI hT] at e8
  rw [f1, x_knownError I' hT', x_isDue I' hT', x_usesLeft I' hT', x_usesOf I' hT', x_stackFor I' (by rw [hG']), x_trueLength I' (by rw [hG']), e8]
  dsimp only
  rw [k3, k6, k5, eS]
  refine ⟨h34, n36, fun q => ?_, (t_knownError I').1, rfl, rfl, (t_isDue I').1, rfl, ?_, (t_usesLeft I').1, rfl, rfl, (t_usesOf I').1, rfl, rfl, (t_stackFor I').1, rfl, h36.symm, (t_trueLength I').1, rfl, ?_⟩
  · rw [h42 q, h38, if_neg (by rw [← eR]; exact gr), cw_0, ← eR]
  · unfold sDue
    rw [k6, k7, k210, Int32.sub_self]
    rfl
  · -- the true length, as the errors are less
    obtain ⟨s, s1, s2, s3, s4⟩ := stk_p c2 gs
    have h10 : 2 ^ (v 462 204).toNatClampNeg ≤ 1024 := (sh_le c2).2.2
    have hA : ∀ b, b < (v 462 204).toNatClampNeg → XB (v 462) b := hX.2.1
    obtain ⟨base, ebase⟩ : ∃ z, z = st (st (st (sUse (v 462) a.toNatClampNeg 0) (8 * a.toNatClampNeg + 3) (R - L)) (8 * a.toNatClampNeg + 6) 0) (8 * a.toNatClampNeg + 7) (v 462 210) := ⟨_, rfl⟩
    have fW2 : g 462 = sUseBN base (sStack (v 462) L) (v 462 204).toNatClampNeg := by rw [fW, ebase]; rfl
    have eb : ∀ b, b < 10 → base (48 + 3 * b + 1) = v 462 (48 + 3 * b + 1) := fun b hb => by rw [ebase, st_n (by omega), st_n (by omega), st_n (by omega), sUse_o (by omega)]
    have hb1 : ∀ b, b < (v 462 204).toNatClampNeg → XB base b := fun b hb => by
      have := hA b hb
      unfold XB at *
      rw [eb b (by omega)]
      exact this
    have hzero : ∀ b, b < 10 → -9 ≤ (v 462 (48 + 3 * b + 1)).toInt ∧ (v 462 (48 + 3 * b + 1)).toInt ≤ 3 := fun b hb => by
      by_cases q : b < (v 462 204).toNatClampNeg
      · exact hA b q
      · rw [hI.wf.2.2.1.2 _ (by omega) (by omega)]; decide
    have hd : ∀ b, b < 10 → (v 462 (48 + 3 * b + 1)).toInt - (if bt (Int32.ofNat s) b = 1 then 1 else 0) ≤ (g 462 (48 + 3 * b + 1)).toInt ∧ (g 462 (48 + 3 * b + 1)).toInt ≤ (v 462 (48 + 3 * b + 1)).toInt := fun b hb => by
      by_cases q : b < (v 462 204).toNatClampNeg
      · have := ub_e (A := base) (set := sStack (v 462) L) (b := b) hb1 q
        rw [← fW2, eb b hb, s1] at this
        exact this
      · rw [fW2, sUseBN_o (by omega), eb b hb]
        split <;> omega
    have D := er_d (A := v 462) (B := g 462) (s := s) (by omega) hzero hd (v 462 204).toNatClampNeg (by omega)
    have hon : sbN (Int32.ofNat s) (v 462 204).toNatClampNeg = fX11_ones (Int32.ofNat s) := sk_ones0 c2 s2
    rw [hon] at D
    rw [s1] at s3 s4 h38 ⊢
    have e0 : sSum (g 462) (Int32.ofNat s) 0 = L := by
      rw [← s3]
      unfold sSum
      rw [k204]
      exact su_cg (fun j hj => kL j (by omega))
    have e1 : sSum (g 462) (Int32.ofNat s) 1 = sSumN (g 462) (Int32.ofNat s) 1 (v 462 204).toNatClampNeg := by unfold sSum; rw [k204]
    have e2 : sSum (v 462) (Int32.ofNat s) 1 = sSumN (v 462) (Int32.ofNat s) 1 (v 462 204).toNatClampNeg := rfl
    have on0 := D.1.1
    have hd2 : ((fX11_ones (Int32.ofNat s) - 1) / 2).toInt = 0 ∨ ((fX11_ones (Int32.ofNat s) - 1) / 2).toInt = 1 ∨ ((fX11_ones (Int32.ofNat s) - 1) / 2).toInt = 2 := by
      have hall : ∀ i, i < 6 → ((Int32.ofNat i - 1) / 2 : Int32).toInt = 0 ∨ ((Int32.ofNat i - 1) / 2 : Int32).toInt = 1 ∨ ((Int32.ofNat i - 1) / 2 : Int32).toInt = 2 := by decide
      have := hall (fX11_ones (Int32.ofNat s)).toNatClampNeg (by have := rn_to on0; omega)
      rw [of_to on0] at this
      exact this
    have q4 : (L + sSumN (g 462) (Int32.ofNat s) 1 (v 462 204).toNatClampNeg).toInt = L.toInt + (sSumN (g 462) (Int32.ofNat s) 1 (v 462 204).toNatClampNeg).toInt := ti_add (by omega)
    have q5 : (L + sSumN (v 462) (Int32.ofNat s) 1 (v 462 204).toNatClampNeg).toInt = L.toInt + (sSumN (v 462) (Int32.ofNat s) 1 (v 462 204).toNatClampNeg).toInt := ti_add (by omega)
    have t1 : (sTruly (g 462) (Int32.ofNat s)).toInt = L.toInt + (sSumN (g 462) (Int32.ofNat s) 1 (v 462 204).toNatClampNeg).toInt + ((fX11_ones (Int32.ofNat s) - 1) / 2).toInt := by
      unfold sTruly
      rw [e0, e1, ti_add (by rw [q4]; omega), q4]
    have t2 : y38.toInt = L.toInt + (sSumN (v 462) (Int32.ofNat s) 1 (v 462 204).toNatClampNeg).toInt + ((fX11_ones (Int32.ofNat s) - 1) / 2).toInt := by
      rw [h38]
      unfold sTruly
      rw [s3, e2, ti_add (by rw [q5]; omega), q5]
    refine ⟨fun q => ?_, fun q => ?_⟩
    · have q := i_lt q; omega
    · have q := i_lt q
      rw [ti_sub (b := 5) (by rw [show (5 : Int32).toInt = 5 from rfl]; omega), show (5 : Int32).toInt = 5 from rfl] at q
      omega
/-- the lengths of some blocks together -/
theorem us_l (hI : Inv n m v) : ∀ fl k x, k ≤ ((v 462) 204).toNatClampNeg → ((v 462) 204).toNatClampNeg < fl + k → olL_uses_355 v 448 p fl (Int32.ofNat k) x := by
  have h7 := hI.wf.1.2.1
  have l7 := inn_lt h7
  intro fl
  induction fl with
  | zero => intro k x h1 h2; omega
  | succ fl ih =>
    intro k x h1 h2
    unfold olL_uses_355
    rw [x_blocks hI]
    refine ⟨(t_blocks hI).1, fun q => ?_⟩
    rw [of_le h7.1 (by omega)] at q
    have hT := isB_k h7 (show k < ((v 462) 204).toNatClampNeg by omega)
    refine ⟨low_o (by decide), fun _ => ⟨(t_blockLength hI).1, by rw [x_blockLength hI hT]⟩, fun y23 e23 => ?_⟩
    rw [of_S (by omega)]
    exact ih (k + 1) _ (by omega) (by omega)
theorem uses_o (hI : Inv n m v) (hX : XI N (v 462)) (hJ : XJ (v 462)) (hN : N + 60 < 2 ^ 30) : oL_uses 448 y v ∧ OUT n N v (fL_uses 448 y v) := by
  have c1 := hI.wf.1.1
  have lo : ∀ (q z : Int32), 0 < z.toInt → oL_low q z ∧ 0 ≤ (fL_low q z).toInt ∧ (fL_low q z).toInt < z.toInt := fun q z h => ⟨low_o (fun e => by rw [e] at h; exact absurd h (by decide)), low_t h⟩
  have i1 : (1 : Int32).toInt = 1 := rfl
  obtain ⟨Y, EY⟩ : ∃ z : Int32, z = (if ((fL_low (y >>> ((9 : Int32) &&& 31)) 14) : Int32) = 0 then 1 else (if ((fX10_tools 448 v) : Int32) = 0 then 1 else 0) : Int32) := ⟨_, rfl⟩
  have hq : 0 < (fX10_tools 448 v + Y).toInt ∧ (fX10_tools 448 v + Y).toInt ≤ (v 462 203).toInt + 1 := by
    have e1 := c1.1
    have e2 := c1.2
    rw [EY, x_tools hI]
    by_cases g : fL_low (y >>> ((9 : Int32) &&& 31)) 14 = 0
    · rw [if_pos g, ti_add (b := 1) (by rw [i1]; omega), i1]; omega
    · rw [if_neg g]
      by_cases g2 : v 462 203 = 0
      · rw [if_pos g2, g2]; decide
      · rw [if_neg g2, Int32.add_zero]
        have : (v 462 203).toInt ≠ 0 := fun e => g2 (toI e)
        omega
  obtain ⟨a, Ea⟩ : ∃ z : Int32, z = fL_low y (fX10_tools 448 v + Y) := ⟨_, rfl⟩
  have la := lo y _ hq.1
  rw [← Ea] at la
  have ha : 0 ≤ a.toInt ∧ a.toInt ≤ (v 462 203).toInt := by omega
  have b88 : 0 < (if fL_low (y >>> ((11 : Int32) &&& 31)) 9 = 0 then 15100 else 2600 : Int32).toInt := by split <;> decide
  have l88 := lo (y >>> ((5 : Int32) &&& 31)) _ b88
  have hm : inn (fL_low (y >>> ((3 : Int32) &&& 31)) 3) 3 := low_n (k := 3) rfl (by decide)
  have F0 : fL_low (y >>> ((4 : Int32) &&& 31)) 2 = 0 → (fL_measure 448 a (fL_low (y >>> ((3 : Int32) &&& 31)) 3) (fL_low (y >>> ((5 : Int32) &&& 31)) (if fL_low (y >>> ((11 : Int32) &&& 31)) 9 = 0 then 15100 else 2600 : Int32)) v).2 = fL_uses 448 y v := fun h => by
    unfold fL_uses
    dsimp only
    rw [if_pos h, ← EY, ← Ea]
    simp only [ite_self]
  have F1 : ¬ fL_low (y >>> ((4 : Int32) &&& 31)) 2 = 0 → (fL_calibrate 448 a (if fL_low (y >>> ((11 : Int32) &&& 31)) 14 = 0 then fL_low y 15100 else lL_uses_355 v 448 y 11 0 0 : Int32) v).2 = fL_uses 448 y v := fun h => by
    unfold fL_uses
    dsimp only
    rw [if_neg h, ← EY, ← Ea]
    simp only [ite_self]
  have hT : ¬ a = v 462 203 → sIsT (v 462) a ≠ 0 := fun ga => by
    rw [isT_iff c1]
    have : a.toInt ≠ (v 462 203).toInt := fun e => ga (toI e)
    omega
  have h6 : ∀ y6 : Int32, y6 = (if a = fX10_tools 448 v then 1 else 0 : Int32) → y6 = 0 → sIsT (v 462) a ≠ 0 := fun y6 e6 h => hT (fun q => by
    rw [x_tools hI, if_pos q] at e6
    rw [e6] at h
    exact absurd h (by decide))
  refine ⟨⟨(t_tools hI).1, (lo _ 14 (by decide)).1, fun y3 e3 => ?_⟩, ?_⟩
  · rw [e3.trans EY.symm, ← Ea]
    refine ⟨(lo y _ hq.1).1, fun y6 e6 => ⟨fun q => ⟨(t_usesOf hI).1, by rw [x_usesOf hI (h6 y6 e6 q)]⟩, fun y8 e8 => ⟨fun q => ⟨(t_wearOf hI).1, by rw [x_wearOf hI (h6 y6 e6 q)]⟩, fun y10 e10 => ⟨fun q => ⟨(t_usesLeft hI).1, by rw [x_usesLeft hI (h6 y6 e6 q)]⟩, fun y12 e12 => ⟨fun q => ⟨(t_knownError hI).1, by rw [x_knownError hI (h6 y6 e6 q)]⟩, fun y14 e14 => ⟨(lo _ 2 (by decide)).1, fun h => ⟨(lo _ 3 (by decide)).1, (lo _ 9 (by decide)).1, fun y88 e88 => ?_⟩, fun h => ⟨us_l hI 11 0 0 (Nat.zero_le _) (by have := inn_lt hI.wf.1.2.1; omega), fun y20 e20 => ⟨(lo _ 14 (by decide)).1, fun _ => (lo _ 15100 (by decide)).1, fun y32 e32 => ?_⟩⟩⟩⟩⟩⟩⟩⟩
    · rw [e88]
      exact ⟨l88.1, (us0 (n := n) (m := m) hI hX hJ hN ha hm l88.2.1 (F0 h)).2 y6 e6 y8 e8 y10 e10 y12 e12 y14 e14⟩
    · rw [e20] at e32
      rw [e32]
      exact (us1 (n := n) (m := m) hI hX hJ hN ha (F1 h)).2 y6 e6 y8 e8 y10 e10 y12 e12 y14 e14
  · by_cases h : fL_low (y >>> ((4 : Int32) &&& 31)) 2 = 0
    · exact (us0 (n := n) (m := m) hI hX hJ hN ha hm l88.2.1 (F0 h)).1
    · exact (us1 (n := n) (m := m) hI hX hJ hN ha (F1 h)).1
end T58b
