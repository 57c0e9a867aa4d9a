/-! P79, PLAIN 12a: what comes. -/
section T58a
variable {n m N : Nat} {u v w z W V : vSt} {A A' B : Ar} {x p y a b c d : Int32} {T t k : Nat}
theorem in_p {p a c : Int32} (h1 : a.toInt ≤ p.toInt) (h2 : p.toInt ≤ c.toInt) : fX11_in p a c ≠ 0 := in_iff.mpr ⟨h1, h2⟩
theorem toI {a b : Int32} (h : a.toInt = b.toInt) : a = b := Int32.toInt_inj.mp h
theorem ge0 {x : Int32} (h : 0 ≤ x.toInt) : (0 : Int32) ≤ x ∧ ¬ x < 0 := ⟨by rw [Int32.le_iff_toInt_le]; exact h, fun q => by have := i_lt q; rw [show (0 : Int32).toInt = 0 from rfl] at this; omega⟩
theorem nn_rfc {x : Int32} (h : 0 ≤ x.toInt) : rfc x = 0 := rfc_0 (by omega)
/-- a block alone -/
theorem sg_1 : ∀ T, T < 10 → fX11_ones (Int32.ofNat (2 ^ T)) = 1 ∧ ∀ j, j < 10 → bt (Int32.ofNat (2 ^ T)) j = if j = T then 1 else 0 := by decide +kernel
theorem on_1 : ∀ s, 1 ≤ s → s < 1024 → 1 ≤ (fX11_ones (Int32.ofNat s)).toInt := by
  have h : ∀ s, s < 1024 → (decide (s = 0) || decide (1 ≤ (fX11_ones (Int32.ofNat s)).toInt)) = true := by decide +kernel
  intro s h1 h2
  have := h s h2
  rw [decide_eq_false (by omega), Bool.false_or, decide_eq_true_iff] at this
  exact this
theorem sg_s (hT : T < 10) : ∀ k, k ≤ 10 → sSumN A (Int32.ofNat (2 ^ T)) 0 k = if T < k then A (48 + 3 * T) else 0 := by
  intro k
  induction k with
  | zero => intro _; rw [if_neg (by omega)]; rfl
  | succ k ih =>
    intro hk
    have e : sSumN A (Int32.ofNat (2 ^ T)) 0 (k + 1) = sSumN A (Int32.ofNat (2 ^ T)) 0 k + (if bt (Int32.ofNat (2 ^ T)) k = 1 then A (48 + 3 * k) else 0) := rfl
    rw [e, ih (by omega), (sg_1 T hT).2 k (by omega)]
    by_cases g : k = T
    · rw [if_pos g, if_neg (by omega), if_pos rfl, if_pos (by omega), g, Int32.zero_add]
    · rw [if_neg g, if_neg (show ¬ (0 : Int32) = 1 by decide), Int32.add_zero]
      by_cases g2 : T < k
      · rw [if_pos g2, if_pos (by omega)]
      · rw [if_neg g2, if_neg (by omega)]
/-- where one block makes the length, the stack is one block -/
theorem stk_1 {len : Int32} {s : Nat} (hn : inn (A 204) 11) (h1 : 1 ≤ s) (h2 : s < 2 ^ (A 204).toNatClampNeg) (h3 : sSum A (Int32.ofNat s) 0 = len) (h4 : fX11_ones (Int32.ofNat s) = 1) : sStack A len ≠ 0 ∧ fX11_ones (sStack A len) = 1 := by
  have hS := sh_le hn
  have l7 := inn_lt hn
  have i1 : (1 : Int32).toInt = 1 := rfl
  have key : ∀ (n k : Nat) (x y : Int32), 1 ≤ k → k ≤ 2 ^ (A 204).toNatClampNeg → 2 ^ (A 204).toNatClampNeg < n + k → ((y = 0 ∧ x = 6) ∨ (y ≠ 0 ∧ x = fX11_ones y)) → (s < k → x.toInt ≤ 1) →
      lX11_stack_8 (wA A) 461 len n (Int32.ofNat k) x y ≠ 0 ∧ (fX11_ones (lX11_stack_8 (wA A) 461 len n (Int32.ofNat k) x y)).toInt ≤ 1 := by
    intro n
    induction n with
    | zero => intro k x y _ a1 a2; omega
    | succ n ih =>
      intro k x y k1 a1 a2 hy hx
      unfold lX11_stack_8
      by_cases hk : (1 <<< ((wA A) 462 (204 : Int32).toNatClampNeg &&& 31) : Int32) ≤ Int32.ofNat k
      · rw [if_pos hk]
        have hk : (1 <<< (A 204 &&& 31) : Int32) ≤ Int32.ofNat k := hk
        have hk2 := i_le hk
        rw [hS.2.1, of_ti (by have := hS.2.2; omega)] at hk2
        have hk3 : 2 ^ (A 204).toNatClampNeg ≤ k := by exact_mod_cast hk2
        have hx := hx (by omega)
        rcases hy with ⟨_, q⟩ | ⟨q1, q2⟩
        · rw [q] at hx; exact absurd hx (by decide)
        · exact ⟨q1, by rw [← q2]; exact hx⟩
      · rw [if_neg hk]
        have hk : ¬ (1 <<< (A 204 &&& 31) : Int32) ≤ Int32.ofNat k := hk
        have hk2 := i_nle hk
        rw [hS.2.1, of_ti (by have := hS.2.2; omega)] at hk2
        have hk3 : k < 2 ^ (A 204).toNatClampNeg := by exact_mod_cast hk2
        have ms : fX11_sum 461 (Int32.ofNat k) 0 (wA A) = sSum A (Int32.ofNat k) 0 := by rw [m_sum (v := wA A) hn (by decide)]; rfl
        rw [ms, of_S (by have := hS.2.2; omega)]
        dsimp only
        by_cases g2 : x ≤ fX11_ones (Int32.ofNat k)
        · rw [if_pos g2, if_pos rfl, if_pos rfl]
          refine ih (k + 1) _ _ (by omega) (by omega) (by omega) hy (fun q => ?_)
          by_cases g3 : s < k
          · exact hx g3
          · have : k = s := by omega
            rw [this, h4] at g2
            have := i_le g2
            rw [i1] at this
            exact this
        · rw [if_neg g2]
          by_cases g1 : sSum A (Int32.ofNat k) 0 = len
          · rw [if_pos g1, if_neg (by decide), if_neg (by decide)]
            have g2 := i_nle g2
            refine ih (k + 1) _ _ (by omega) (by omega) (by omega) (Or.inr ⟨fun e => ?_, rfl⟩) (fun q => ?_)
            · have := congrArg Int32.toInt e
              rw [of_ti (by have := hS.2.2; omega), show (0 : Int32).toInt = 0 from rfl] at this
              omega
            · by_cases g3 : s < k
              · have := hx g3; omega
              · have : k = s := by omega
                rw [this, h4, i1]; decide
          · rw [if_neg g1, if_pos rfl, if_pos rfl]
            refine ih (k + 1) _ _ (by omega) (by omega) (by omega) hy (fun q => ?_)
            by_cases g3 : s < k
            · exact hx g3
            · have : k = s := by omega
              rw [this] at g1; exact absurd h3 g1
  have hfu := hS.2.1
  have := key ((Int32.toInt (1 <<< ((wA A) 462 (204 : Int32).toNatClampNeg &&& 31)) - Int32.toInt 1).toNat + 1) 1 6 0 (by decide) Nat.one_le_two_pow (by
    have hfu : Int32.toInt (1 <<< ((wA A) 462 (204 : Int32).toNatClampNeg &&& 31)) = 2 ^ (A 204).toNatClampNeg := hS.2.1
    rw [hfu, i1]
    have : ((2 ^ (A 204).toNatClampNeg : Int) - 1).toNat = 2 ^ (A 204).toNatClampNeg - 1 := by
      have : ((2 ^ (A 204).toNatClampNeg : Nat) : Int) = (2 ^ (A 204).toNatClampNeg : Int) := by simp
      omega
    omega) (Or.inl ⟨rfl, rfl⟩) (fun q => by omega)
  have eS : lX11_stack_8 (wA A) 461 len ((Int32.toInt (1 <<< ((wA A) 462 (204 : Int32).toNatClampNeg &&& 31)) - Int32.toInt 1).toNat + 1) (Int32.ofNat 1) 6 0 = sStack A len := rfl
  rw [eS] at this
  refine ⟨this.1, ?_⟩
  have hs := stack_in (A := A) (len := len) hn
  have e := of_to hs.1
  have l := inn_lt hs
  have h0 : 1 ≤ (sStack A len).toNatClampNeg := by
    have := this.1
    by_cases g : (sStack A len).toNatClampNeg = 0
    · rw [g] at e; exact absurd e.symm this
    · omega
  have := on_1 _ h0 l
  rw [e] at this
  exact toI (by rw [i1]; omega)
set_option maxRecDepth 100000 in
theorem rd_60 : ∀ k, k < 5 → ∀ j, j < 61 → ((Int32.ofNat j + sStep (Int32.ofNat k) / 2) / sStep (Int32.ofNat k)) * sStep (Int32.ofNat k) ≠ -1 := by decide +kernel
/-- a tool comes -/
theorem cm0 (hI : Inv n m v) (hX : XI N (v 462)) (hJ : XJ (v 462)) (ha : 0 ≤ a.toInt ∧ a.toInt ≤ 5) : oL_addTool 448 a b v ∧ OUT n N v (fL_addTool 448 a b v).2 ∧ ∀ y148 : Int32, y148 = ((if (a : Int32) = 5 then 1 else (if (b : Int32) < (-30) then 1 else (if (b : Int32) ≤ 30 then 0 else 1)) : Int32) : Int32) → (∀ v153 : vSt, v153 = ((fL_addTool 448 a b v).2) → ((∀ (y155 : Int32), y155 = ((if (y148 : Int32) = 0 then (if ((fX10_tools 448 v) : Int32) = 6 then ((-100103)) else (fX10_tools 448 v)) else ((-100102)) : Int32) : Int32) → (((((fL_addTool 448 a b v).1) : Int32) = y155) ∧ ((oX10_tools 448 v153) ∧ ((∀ (y159 : Int32), y159 = ((if (0 : Int32) ≤ ((fL_addTool 448 a b v).1) then 1 else 0 : Int32) : Int32) → ((((fX10_tools 448 v153) : Int32) = ((fX10_tools 448 v) + y159)) ∧ (¬ ((((fL_addTool 448 a b v).1) : Int32) < 0) → ((oX10_kindOf 448 (fX10_tools 448 v) v153) ∧ (((fX10_kindOf 448 (fX10_tools 448 v) v153).1 = 0) ∧ (((((fX10_kindOf 448 (fX10_tools 448 v) v153).2) : Int32) = a) ∧ ((oX10_usesOf 448 (fX10_tools 448 v) v153) ∧ (((fX10_usesOf 448 (fX10_tools 448 v) v153).1 = 0) ∧ ((oX10_wearOf 448 (fX10_tools 448 v) v153) ∧ (((fX10_wearOf 448 (fX10_tools 448 v) v153).1 = 0) ∧ ((oX10_knownError 448 (fX10_tools 448 v) v153) ∧ (((fX10_knownError 448 (fX10_tools 448 v) v153).1 = 0) ∧ (((((((fX10_usesOf 448 (fX10_tools 448 v) v153).2) + ((fX10_wearOf 448 (fX10_tools 448 v) v153).2)) + ((fX10_knownError 448 (fX10_tools 448 v) v153).2)) : Int32) = 0) ∧ ((oX10_usesLeft 448 (fX10_tools 448 v) v153) ∧ (((fX10_usesLeft 448 (fX10_tools 448 v) v153).1 = 0) ∧ (((((fX10_usesLeft 448 (fX10_tools 448 v) v153).2) : Int32) = 30) ∧ ((oX10_isDue 448 (fX10_tools 448 v) v153) ∧ (((fX10_isDue 448 (fX10_tools 448 v) v153).1 = 0) ∧ (((((fX10_isDue 448 (fX10_tools 448 v) v153).2) : Int32) = 0) ∧ ((oL_readingFor 448 (fX10_tools 448 v) 0 30 v153) ∧ ((((0 : Int32) ≤ ((30 : Int32) + b)) → ((oX10_readingByLooking 448 (fX10_tools 448 v) 0 30 v153) ∧ ((fX10_readingByLooking 448 (fX10_tools 448 v) 0 30 v153).1 = 0))) ∧ (∀ (y180 : Int32), y180 = ((if (0 : Int32) ≤ ((30 : Int32) + b) then ((fX10_readingByLooking 448 (fX10_tools 448 v) 0 30 v153).2) else ((-100104)) : Int32) : Int32) → ((((fL_readingFor 448 (fX10_tools 448 v) 0 30 v153) : Int32) = y180)))))))))))))))))))))))))))))) := by
  obtain ⟨o, S⟩ := s_addTool (p1 := a) (p2 := b) hI
  have hO := S.out hX hJ hI.wf ((xi_addTool hX hI.wf).mono (by omega)) (xj_addTool hJ hI.wf)
  refine ⟨o, hO, fun y148 e148 v153 e153 => ?_⟩
  have c1 := hI.wf.1.1
  have hz := hI.wf.2.1.2
  obtain ⟨S1, ⟨m', I'⟩, S3, S4⟩ := S
  rw [← e153] at I' S3 S4
  generalize (fL_addTool 448 a b v).1 = r at *
  clear S1 hO o e153
  rw [x_tools hI, x_tools I']
  intro y155 e155
  have i0 : (0 : Int32).toInt = 0 := rfl
  have i4 : (4 : Int32).toInt = 4 := rfl
  have i5 : (5 : Int32).toInt = 5 := rfl
  have i30 : (30 : Int32).toInt = 30 := rfl
  have m30 : (-30 : Int32).toInt = -30 := rfl
  by_cases g1 : fX11_in a 0 4 = 0
  · have hr : rAddTool (v 462) a b = (-100001, v 462) := by unfold rAddTool; rw [if_pos g1]
    rw [hr] at S4
    dsimp only at S4
    obtain ⟨f1, f2⟩ := S4 (by decide)
    rw [if_pos rfl] at f1
    have y1 : y148 = 1 := by
      have g := in_iff0.mp g1
      rw [i0, i4] at g
      rw [e148, if_pos (toI (by rw [i5]; omega))]
    rw [f1, e155, y1]
    exact ⟨rfl, (t_tools I').1, fun y159 e159 => ⟨by rw [e159, if_neg (by decide), Int32.add_zero, f2.1 203 (by decide)], fun q => absurd (by decide) q⟩⟩
  have a5 : ¬ a = 5 := fun e => by rw [e] at g1; exact absurd g1 (by decide)
  by_cases g2 : fX11_in b (-30) 30 = 0
  · have hr : rAddTool (v 462) a b = (-100001, v 462) := by unfold rAddTool; rw [if_neg g1, if_pos g2]
    rw [hr] at S4
    dsimp only at S4
    obtain ⟨f1, f2⟩ := S4 (by decide)
    rw [if_pos rfl] at f1
    have y1 : y148 = 1 := by
      have g := in_iff0.mp g2
      rw [i30, m30] at g
      rw [e148, if_neg a5]
      by_cases q : b < -30
      · rw [if_pos q]
      · have q := i_nlt q
        rw [m30] at q
        rw [if_neg (by rw [Int32.lt_iff_toInt_lt, m30]; omega), if_neg (by rw [Int32.le_iff_toInt_le, i30]; omega)]
    rw [f1, e155, y1]
    exact ⟨rfl, (t_tools I').1, fun y159 e159 => ⟨by rw [e159, if_neg (by decide), Int32.add_zero, f2.1 203 (by decide)], fun q => absurd (by decide) q⟩⟩
  have gb := in_iff.mp g2
  rw [i30, m30] at gb
  have y0 : y148 = 0 := by rw [e148, if_neg a5, if_neg (by rw [Int32.lt_iff_toInt_lt, m30]; omega), if_pos (by rw [Int32.le_iff_toInt_le, i30]; omega)]
  by_cases g6 : v 462 203 = 6
  · have hr : rAddTool (v 462) a b = (-100002, v 462) := by unfold rAddTool; rw [if_neg g1, if_neg g2, if_pos g6]
    rw [hr] at S4
    dsimp only at S4
    obtain ⟨f1, f2⟩ := S4 (by decide)
    rw [if_neg (by decide)] at f1
    rw [f1, e155, y0, if_pos rfl, if_pos g6]
    exact ⟨rfl, (t_tools I').1, fun y159 e159 => ⟨by rw [e159, if_neg (by decide), Int32.add_zero, f2.1 203 (by decide)], fun q => absurd (by decide) q⟩⟩
  have hr : rAddTool (v 462) a b = (v 462 203, sAddTool (v 462) a b) := by unfold rAddTool; rw [if_neg g1, if_neg g2, if_neg g6]
  rw [hr] at S3
  obtain ⟨f1, f2⟩ := S3 (nn_rfc c1.1)
  have f1 : r = v 462 203 := f1
  have fW : v153 462 = sAddTool (v 462) a b := f2.1
  have h36 : inn (v 462 203) 6 := ⟨c1.1, by
    have := c1.2
    have : (v 462 203).toInt ≠ 6 := fun e => g6 (Int32.toInt_inj.mp e)
    omega⟩
  have lT := inn_lt h36
  have e203 : v153 462 203 = v 462 203 + 1 := by rw [fW]; unfold sAddTool; rw [st_s]
  have k0 : v153 462 (8 * (v 462 203).toNatClampNeg) = a := by rw [fW]; unfold sAddTool; rw [st_n (by omega), st_n (by omega), st_n (by omega), st_s]
  have k1 : v153 462 (8 * (v 462 203).toNatClampNeg + 1) = b := by rw [fW]; unfold sAddTool; rw [st_n (by omega), st_n (by omega), st_s]
  have k7 : v153 462 (8 * (v 462 203).toNatClampNeg + 7) = v 462 210 := by rw [fW]; unfold sAddTool; rw [st_n (by omega), st_s]
  have kz : ∀ i, 2 ≤ i → i ≤ 6 → v153 462 (8 * (v 462 203).toNatClampNeg + i) = 0 := fun i h1 h2 => by rw [fW]; unfold sAddTool; rw [st_n (by omega), st_n (by omega), st_n (by omega), st_n (by omega), hz _ (by omega) (by omega)]
  have k210 : v153 462 210 = v 462 210 := by rw [fW]; unfold sAddTool; rw [st_n (by omega), st_n (by omega), st_n (by omega), st_n (by omega)]
  have eT : sIsT (v153 462) (v 462 203) ≠ 0 := by
    have := (add1 h36 (by omega)).1
    rw [isT_iff I'.wf.1.1, e203]
    exact ⟨c1.1, by omega⟩
  have eb : 0 ≤ (30 + b : Int32).toInt ∧ (30 + b : Int32).toInt ≤ 60 := by rw [ti_add (by rw [i30]; omega), i30]; omega
  have hsh : sShown (v153 462) (v 462 203).toNatClampNeg 0 30 = 30 + b := by rw [sh_0, k1, kz 2 (by omega) (by omega), Int32.sub_zero]
  have hrd : sReading (v153 462) (v 462 203).toNatClampNeg 0 30 ≠ -1 := by
    have hb : ∀ q : Int32, 0 ≤ q.toInt ∧ q.toInt ≤ 60 → sShown (v153 462) (v 462 203).toNatClampNeg 0 30 = q → sReading (v153 462) (v 462 203).toNatClampNeg 0 30 ≠ -1 := fun q hq e => by
      unfold sReading
      rw [e, if_neg (ge0 hq.1).2, if_neg (fun h => by
        have := i_lt h
        split at this
        · rw [show (2500 : Int32).toInt = 2500 from rfl] at this; omega
        · rw [show (15000 : Int32).toInt = 15000 from rfl] at this; omega), k0]
      have hin := in_iff.mp g1
      rw [i0, i4] at hin
      have ea : a = Int32.ofNat a.toNatClampNeg := (of_to hin.1).symm
      have hl := rn_to hin.1
      have eq : q = Int32.ofNat q.toNatClampNeg := (of_to hq.1).symm
      have hq2 := rn_to hq.1
      rw [ea, eq]
      exact rd_60 _ (by omega) _ (by omega)
    exact hb _ eb hsh
  have hG : gRd (v153 462) (v 462 203) 0 30 = (0, sReading (v153 462) (v 462 203).toNatClampNeg 0 30) := by
    unfold gRd
    rw [if_neg eT, if_neg (by decide), if_neg (by decide), if_neg hrd]
  rw [f1, e155, y0, if_pos rfl, if_neg g6, e203, x_kindOf I' eT, x_usesOf I' eT, x_wearOf I' eT, x_knownError I' eT, x_usesLeft I' eT, x_isDue I' eT]
  dsimp only
  refine ⟨rfl, (t_tools I').1, fun y159 e159 => ⟨by rw [e159, if_pos (ge0 c1.1).1], fun _ => ⟨(t_kindOf I').1, rfl, k0, (t_usesOf I').1, rfl, (t_wearOf I').1, rfl, (t_knownError I').1, rfl, ?_, (t_usesLeft I').1, rfl, ?_, (t_isDue I').1, rfl, ?_, (w_readingFor I').1, fun q => ⟨(t_readingByLooking I').1, ?_⟩, fun y180 e180 => ?_⟩⟩⟩
  · rw [kz 5 (by omega) (by omega), kz 2 (by omega) (by omega), kz 3 (by omega) (by omega)]; rfl
  · rw [kz 6 (by omega) (by omega)]; rfl
  · unfold sDue
    rw [kz 6 (by omega) (by omega), k7, k210, Int32.sub_self]
    rfl
  · rw [x_readingByLooking I' (by rw [hG])]
  · rw [(w_readingFor I').2, hG, cw_0, e180, if_pos (ge0 eb.1).1, x_readingByLooking I' (by rw [hG])]
/-- a block comes -/
theorem cm1 (hI : Inv n m v) (hX : XI N (v 462)) (hJ : XJ (v 462)) : oL_addBlock 448 a b v ∧ OUT n N v (fL_addBlock 448 a b v).2 ∧ ∀ y115 : Int32, y115 = ((if (a : Int32) < 1 then 1 else (if (5000 : Int32) < a then 1 else (if (b : Int32) < (-3) then 1 else (if (b : Int32) ≤ 3 then 0 else 1))) : Int32) : Int32) → (∀ v120 : vSt, v120 = ((fL_addBlock 448 a b v).2) → ((∀ (y122 : Int32), y122 = ((if (y115 : Int32) = 0 then (if ((fX10_blocks 448 v) : Int32) = 10 then ((-100103)) else (fX10_blocks 448 v)) else ((-100102)) : Int32) : Int32) → (((((fL_addBlock 448 a b v).1) : Int32) = y122) ∧ ((oX10_blocks 448 v120) ∧ ((∀ (y126 : Int32), y126 = ((if (0 : Int32) ≤ ((fL_addBlock 448 a b v).1) then 1 else 0 : Int32) : Int32) → ((((fX10_blocks 448 v120) : Int32) = ((fX10_blocks 448 v) + y126)) ∧ (¬ ((((fL_addBlock 448 a b v).1) : Int32) < 0) → ((oX10_blockLength 448 (fX10_blocks 448 v) v120) ∧ (((fX10_blockLength 448 (fX10_blocks 448 v) v120).1 = 0) ∧ (((((fX10_blockLength 448 (fX10_blocks 448 v) v120).2) : Int32) = a) ∧ ((oX10_blockError 448 (fX10_blocks 448 v) v120) ∧ (((fX10_blockError 448 (fX10_blocks 448 v) v120).1 = 0) ∧ (((((fX10_blockError 448 (fX10_blocks 448 v) v120).2) : Int32) = b) ∧ ((oX10_fewestByTrying 448 a v120) ∧ (((fX10_fewestByTrying 448 a v120).1 = 0) ∧ (((((fX10_fewestByTrying 448 a v120).2) : Int32) = 1))))))))))))))))))) := by
  obtain ⟨o, S⟩ := s_addBlock (p1 := a) (p2 := b) hI
  have hO := S.out hX hJ hI.wf ((xi_addBlock hX hI.wf).mono (by omega)) (xj_addBlock hJ hI.wf)
  refine ⟨o, hO, fun y115 e115 v120 e120 => ?_⟩
  have c2 := hI.wf.1.2.1
  have hz := hI.wf.2.2.1.2
  obtain ⟨S1, ⟨m', I'⟩, S3, S4⟩ := S
  rw [← e120] at I' S3 S4
  generalize (fL_addBlock 448 a b v).1 = r at *
  clear S1 hO o e120
  rw [x_blocks hI, x_blocks I']
  intro y122 e122
  have i1 : (1 : Int32).toInt = 1 := rfl
  have i5000 : (5000 : Int32).toInt = 5000 := rfl
  have i3 : (3 : Int32).toInt = 3 := rfl
  have m3 : (-3 : Int32).toInt = -3 := rfl
  by_cases g1 : fX11_in a 1 5000 = 0
  · have hr : rAddBlock (v 462) a b = (-100001, v 462) := by unfold rAddBlock; rw [if_pos g1]
    rw [hr] at S4
    dsimp only at S4
    obtain ⟨f1, f2⟩ := S4 (by decide)
    rw [if_pos rfl] at f1
    have y1 : y115 = 1 := by
      have g := in_iff0.mp g1
      rw [i1, i5000] at g
      rw [e115]
      by_cases q : a < 1
      · rw [if_pos q]
      · have q2 := i_nlt q
        rw [i1] at q2
        rw [if_neg q, if_pos (by rw [Int32.lt_iff_toInt_lt, i5000]; omega)]
    rw [f1, e122, y1]
    exact ⟨rfl, (t_blocks I').1, fun y126 e126 => ⟨by rw [e126, if_neg (by decide), Int32.add_zero, f2.1 204 (by decide)], fun q => absurd (by decide) q⟩⟩
  have ga := in_iff.mp g1
  rw [i1, i5000] at ga
  have n1 : ¬ a < 1 := by rw [Int32.lt_iff_toInt_lt, i1]; omega
  have n2 : ¬ 5000 < a := by rw [Int32.lt_iff_toInt_lt, i5000]; omega
  by_cases g2 : fX11_in b (-3) 3 = 0
  · have hr : rAddBlock (v 462) a b = (-100001, v 462) := by unfold rAddBlock; rw [if_neg g1, if_pos g2]
    rw [hr] at S4
    dsimp only at S4
    obtain ⟨f1, f2⟩ := S4 (by decide)
    rw [if_pos rfl] at f1
    have y1 : y115 = 1 := by
      have g := in_iff0.mp g2
      rw [i3, m3] at g
      rw [e115, if_neg n1, if_neg n2]
      by_cases q : b < -3
      · rw [if_pos q]
      · have q2 := i_nlt q
        rw [m3] at q2
        rw [if_neg q, if_neg (by rw [Int32.le_iff_toInt_le, i3]; omega)]
    rw [f1, e122, y1]
    exact ⟨rfl, (t_blocks I').1, fun y126 e126 => ⟨by rw [e126, if_neg (by decide), Int32.add_zero, f2.1 204 (by decide)], fun q => absurd (by decide) q⟩⟩
  have gb := in_iff.mp g2
  rw [i3, m3] at gb
  have y0 : y115 = 0 := by rw [e115, if_neg n1, if_neg n2, if_neg (by rw [Int32.lt_iff_toInt_lt, m3]; omega), if_pos (by rw [Int32.le_iff_toInt_le, i3]; omega)]
  by_cases g6 : v 462 204 = 10
  · have hr : rAddBlock (v 462) a b = (-100002, v 462) := by unfold rAddBlock; rw [if_neg g1, if_neg g2, if_pos g6]
    rw [hr] at S4
    dsimp only at S4
    obtain ⟨f1, f2⟩ := S4 (by decide)
    rw [if_neg (by decide)] at f1
    rw [f1, e122, y0, if_pos rfl, if_pos g6]
    exact ⟨rfl, (t_blocks I').1, fun y126 e126 => ⟨by rw [e126, if_neg (by decide), Int32.add_zero, f2.1 204 (by decide)], fun q => absurd (by decide) q⟩⟩
  have hr : rAddBlock (v 462) a b = (v 462 204, sAddBlock (v 462) a b) := by unfold rAddBlock; rw [if_neg g1, if_neg g2, if_neg g6]
  rw [hr] at S3
  obtain ⟨f1, f2⟩ := S3 (nn_rfc c2.1)
  have f1 : r = v 462 204 := f1
  have fW : v120 462 = sAddBlock (v 462) a b := f2.1
  have h36 : inn (v 462 204) 10 := ⟨c2.1, by
    have := c2.2
    have : (v 462 204).toInt ≠ 10 := fun e => g6 (Int32.toInt_inj.mp e)
    omega⟩
  have lT := inn_lt h36
  have e204 : v120 462 204 = v 462 204 + 1 := by rw [fW]; unfold sAddBlock; rw [st_s]
  have k0 : v120 462 (48 + 3 * (v 462 204).toNatClampNeg) = a := by rw [fW]; unfold sAddBlock; rw [st_n (by omega), st_n (by omega), st_s]
  have k1 : v120 462 (48 + 3 * (v 462 204).toNatClampNeg + 1) = b := by rw [fW]; unfold sAddBlock; rw [st_n (by omega), st_s]
  have c2' := I'.wf.1.2.1
  have a1 := add1 h36 (by omega)
  have eB : fX11_in (v 462 204) 0 (v120 462 204 - 1) ≠ 0 := by
    rw [in_iff, subOne c2'.1, e204, a1.1, show (0 : Int32).toInt = 0 from rfl]
    exact ⟨c2.1, by omega⟩
  have eN : (v120 462 204).toNatClampNeg = (v 462 204).toNatClampNeg + 1 := by rw [e204]; exact a1.2
  have hsum : sSum (v120 462) (Int32.ofNat (2 ^ (v 462 204).toNatClampNeg)) 0 = a := by
    unfold sSum
    rw [sg_s lT _ (by omega), if_pos (by omega), k0]
  have hst := stk_1 (A := v120 462) (s := 2 ^ (v 462 204).toNatClampNeg) (len := a) c2' Nat.one_le_two_pow (by rw [eN, Nat.pow_succ]; have := Nat.one_le_two_pow (n := (v 462 204).toNatClampNeg); omega) hsum (sg_1 _ lT).1
  have hG : gSt (v120 462) a = (0, sStack (v120 462) a) := by
    unfold gSt
    rw [if_neg (in_p (by rw [i1]; omega) (by rw [show (15000 : Int32).toInt = 15000 from rfl]; omega)), if_neg hst.1]
  rw [f1, e122, y0, if_pos rfl, if_neg g6, e204, x_blockLength I' eB, x_blockError I' eB, x_fewestByTrying I' (by rw [hG])]
  exact ⟨rfl, (t_blocks I').1, fun y126 e126 => ⟨by rw [e126, if_pos (ge0 c2.1).1], fun _ => ⟨(t_blockLength I').1, rfl, k0, (t_blockError I').1, rfl, k1, (t_fewestByTrying I').1, rfl, hst.2⟩⟩⟩
/-- a type comes -/
theorem cm2 (hI : Inv n m v) (hX : XI N (v 462)) (hJ : XJ (v 462)) (hb : b.toInt ≤ 0) (hc : 0 ≤ c.toInt) (hd : 0 ≤ d.toInt ∧ d.toInt ≤ 3) : oL_addType 448 a b c d v ∧ OUT n N v (fL_addType 448 a b c d v).2 ∧ ∀ y75 : Int32, y75 = ((if (a : Int32) < 100 then 1 else (if (14000 : Int32) < a then 1 else (if (b : Int32) < (-99) then 1 else (if (99 : Int32) < c then 1 else (if (d : Int32) = 3 then 1 else 0)))) : Int32) : Int32) → (∀ v80 : vSt, v80 = ((fL_addType 448 a b c d v).2) → (∀ y82 : Int32, y82 = ((fL_addType 448 a b c d v).1) → ((∀ (y83 : Int32), y83 = ((if (y75 : Int32) = 0 then (if ((fX10_types 448 v) : Int32) = 5 then ((-100103)) else (fX10_types 448 v)) else ((-100102)) : Int32) : Int32) → (((y82 : Int32) = y83) ∧ ((oX10_types 448 v80) ∧ ((∀ (y87 : Int32), y87 = ((if (0 : Int32) ≤ y82 then 1 else 0 : Int32) : Int32) → ((((fX10_types 448 v80) : Int32) = ((fX10_types 448 v) + y87)) ∧ (¬ ((y82 : Int32) < 0) → ((oX10_lengthOf 448 (fX10_types 448 v) v80) ∧ (((fX10_lengthOf 448 (fX10_types 448 v) v80).1 = 0) ∧ (((((fX10_lengthOf 448 (fX10_types 448 v) v80).2) : Int32) = a) ∧ ((oX10_widthOf 448 (fX10_types 448 v) v80) ∧ (((fX10_widthOf 448 (fX10_types 448 v) v80).1 = 0) ∧ (((((fX10_widthOf 448 (fX10_types 448 v) v80).2) : Int32) = (c - b)) ∧ ((oX10_mannerOf 448 (fX10_types 448 v) v80) ∧ (((fX10_mannerOf 448 (fX10_types 448 v) v80).1 = 0) ∧ ((oX10_recordOf 448 (fX10_types 448 v) v80) ∧ (((fX10_recordOf 448 (fX10_types 448 v) v80).1 = 0) ∧ ((oX10_charted 448 (fX10_types 448 v) v80) ∧ (((fX10_charted 448 (fX10_types 448 v) v80).1 = 0) ∧ (((((((fX10_mannerOf 448 (fX10_types 448 v) v80).2) + ((fX10_recordOf 448 (fX10_types 448 v) v80).2)) + ((fX10_charted 448 (fX10_types 448 v) v80).2)) : Int32) = 0) ∧ ((oX10_goodUntilChange 448 (fX10_types 448 v) v80) ∧ (((fX10_goodUntilChange 448 (fX10_types 448 v) v80).1 = 0) ∧ (((((fX10_goodUntilChange 448 (fX10_types 448 v) v80).2) : Int32) = 10))))))))))))))))))))))))))) := by
  obtain ⟨o, S⟩ := s_addType (p1 := a) (p2 := b) (p3 := c) (p4 := d) hI
  have hO := S.out hX hJ hI.wf ((xi_addType hX hI.wf).mono (by omega)) (xj_addType hJ hI.wf)
  refine ⟨o, hO, fun y75 e75 v80 e80 y82 e82 => ?_⟩
  have c3 := hI.wf.1.2.2.1
  have hz := hI.wf.2.2.2.1.2
  obtain ⟨S1, ⟨m', I'⟩, S3, S4⟩ := S
  rw [← e80] at I' S3 S4
  rw [← e82] at S3 S4
  clear S1 hO o e80 e82
  rw [x_types hI, x_types I']
  intro y83 e83
  have i100 : (100 : Int32).toInt = 100 := rfl
  have i14 : (14000 : Int32).toInt = 14000 := rfl
  have m99 : (-99 : Int32).toInt = -99 := rfl
  have i99 : (99 : Int32).toInt = 99 := rfl
  have i0 : (0 : Int32).toInt = 0 := rfl
  have i3 : (3 : Int32).toInt = 3 := rfl
  have i2 : (2 : Int32).toInt = 2 := rfl
  have bad : rAddType (v 462) a b c d = (-100001, v 462) → y75 = 1 → (y82 = y83 ∧ (oX10_types 448 v80 ∧ (∀ (y87 : Int32), y87 = ((if (0 : Int32) ≤ y82 then 1 else 0 : Int32) : Int32) → (v80 462 205 = v 462 205 + y87 ∧ (¬ (y82 : Int32) < 0 → False))))) := fun hr y1 => by
    rw [hr] at S4
    dsimp only at S4
    obtain ⟨f1, f2⟩ := S4 (by decide)
    rw [if_pos rfl] at f1
    rw [f1, e83, y1]
    exact ⟨rfl, (t_types I').1, fun y87 e87 => ⟨by rw [e87, if_neg (by decide), Int32.add_zero, f2.1 205 (by decide)], fun q => absurd (by decide) q⟩⟩
  by_cases g1 : fX11_in a 100 14000 = 0
  · have B := bad (by unfold rAddType; rw [if_pos g1]) (by
      have g := in_iff0.mp g1
      rw [i100, i14] at g
      rw [e75]
      by_cases q : a < 100
      · rw [if_pos q]
      · have q2 := i_nlt q
        rw [i100] at q2
        rw [if_neg q, if_pos (by rw [Int32.lt_iff_toInt_lt, i14]; omega)])
    exact ⟨B.1, B.2.1, fun y87 e87 => ⟨(B.2.2 y87 e87).1, fun q => ((B.2.2 y87 e87).2 q).elim⟩⟩
  have ga := in_iff.mp g1
  rw [i100, i14] at ga
  have n1 : ¬ a < 100 := by rw [Int32.lt_iff_toInt_lt, i100]; omega
  have n2 : ¬ 14000 < a := by rw [Int32.lt_iff_toInt_lt, i14]; omega
  by_cases g2 : fX11_in b (-99) 0 = 0
  · have B := bad (by unfold rAddType; rw [if_neg g1, if_pos g2]) (by
      have g := in_iff0.mp g2
      rw [m99, i0] at g
      rw [e75, if_neg n1, if_neg n2, if_pos (by rw [Int32.lt_iff_toInt_lt, m99]; omega)])
    exact ⟨B.1, B.2.1, fun y87 e87 => ⟨(B.2.2 y87 e87).1, fun q => ((B.2.2 y87 e87).2 q).elim⟩⟩
  have gb := in_iff.mp g2
  rw [m99, i0] at gb
  have n3 : ¬ b < -99 := by rw [Int32.lt_iff_toInt_lt, m99]; omega
  by_cases g3 : fX11_in c 0 99 = 0
  · have B := bad (by unfold rAddType; rw [if_neg g1, if_neg g2, if_pos g3]) (by
      have g := in_iff0.mp g3
      rw [i99, i0] at g
      rw [e75, if_neg n1, if_neg n2, if_neg n3, if_pos (by rw [Int32.lt_iff_toInt_lt, i99]; omega)])
    exact ⟨B.1, B.2.1, fun y87 e87 => ⟨(B.2.2 y87 e87).1, fun q => ((B.2.2 y87 e87).2 q).elim⟩⟩
  have gc := in_iff.mp g3
  rw [i99, i0] at gc
  have n4 : ¬ 99 < c := by rw [Int32.lt_iff_toInt_lt, i99]; omega
  by_cases g4 : fX11_isMaterial d = 0
  · have B := bad (by unfold rAddType; rw [if_neg g1, if_neg g2, if_neg g3, if_pos g4]) (by
      have g := in_iff0.mp (show fX11_in d 0 2 = 0 from g4)
      rw [i2, i0] at g
      rw [e75, if_neg n1, if_neg n2, if_neg n3, if_neg n4, if_pos (toI (by rw [i3]; omega))])
    exact ⟨B.1, B.2.1, fun y87 e87 => ⟨(B.2.2 y87 e87).1, fun q => ((B.2.2 y87 e87).2 q).elim⟩⟩
  have y0 : y75 = 0 := by rw [e75, if_neg n1, if_neg n2, if_neg n3, if_neg n4, if_neg (fun e => by rw [e] at g4; exact absurd g4 (by decide))]
  by_cases g6 : v 462 205 = 5
  · have hr : rAddType (v 462) a b c d = (-100002, v 462) := by unfold rAddType; rw [if_neg g1, if_neg g2, if_neg g3, if_neg g4, if_pos g6]
    rw [hr] at S4
    dsimp only at S4
    obtain ⟨f1, f2⟩ := S4 (by decide)
    rw [if_neg (by decide)] at f1
    rw [f1, e83, y0, if_pos rfl, if_pos g6]
    exact ⟨rfl, (t_types I').1, fun y87 e87 => ⟨by rw [e87, if_neg (by decide), Int32.add_zero, f2.1 205 (by decide)], fun q => absurd (by decide) q⟩⟩
  have hr : rAddType (v 462) a b c d = (v 462 205, sAddType (v 462) a b c d) := by unfold rAddType; rw [if_neg g1, if_neg g2, if_neg g3, if_neg g4, if_neg g6]
  rw [hr] at S3
  obtain ⟨f1, f2⟩ := S3 (nn_rfc c3.1)
  have f1 : y82 = v 462 205 := f1
  have fW : v80 462 = sAddType (v 462) a b c d := f2.1
  have h36 : inn (v 462 205) 5 := ⟨c3.1, by
    have := c3.2
    have : (v 462 205).toInt ≠ 5 := fun e => g6 (Int32.toInt_inj.mp e)
    omega⟩
  have lT := inn_lt h36
  have e205 : v80 462 205 = v 462 205 + 1 := by rw [fW]; unfold sAddType; rw [st_s]
  have k0 : v80 462 ((78 + 21 * (v 462 205).toNatClampNeg + 0)) = a := by rw [fW]; unfold sAddType; rw [st_n (by omega), st_n (by omega), st_n (by omega), st_n (by omega), st_s]
  have k1 : v80 462 ((78 + 21 * (v 462 205).toNatClampNeg + 1)) = b := by rw [fW]; unfold sAddType; rw [st_n (by omega), st_n (by omega), st_n (by omega), st_s]
  have k2 : v80 462 ((78 + 21 * (v 462 205).toNatClampNeg + 2)) = c := by rw [fW]; unfold sAddType; rw [st_n (by omega), st_n (by omega), st_s]
  have kz : ∀ i, 4 ≤ i → i ≤ 8 → v80 462 ((78 + 21 * (v 462 205).toNatClampNeg + i)) = 0 := fun i h1 h2 => by rw [fW]; unfold sAddType; rw [st_n (by omega), st_n (by omega), st_n (by omega), st_n (by omega), st_n (by omega), hz _ (by omega) (by omega)]
  have eY : sIsY (v80 462) (v 462 205) ≠ 0 := by
    have := (add1 h36 (by omega)).1
    rw [isY_iff I'.wf.1.2.2.1, e205]
    exact ⟨c3.1, by omega⟩
  have hG : gGu (v80 462) (v 462 205) = (0, 10) := by
    unfold gGu
    rw [if_neg eY, kz 4 (by omega) (by omega), if_neg (by decide), if_pos rfl, kz 5 (by omega) (by omega), kz 6 (by omega) (by omega)]
    rfl
  rw [f1, e83, y0, if_pos rfl, if_neg g6, e205, x_lengthOf I' eY, x_widthOf I' eY, x_mannerOf I' eY, x_recordOf I' eY, x_charted I' eY, x_goodUntilChange I', hG]
  dsimp only
  exact ⟨rfl, (t_types I').1, fun y87 e87 => ⟨by rw [e87, if_pos (ge0 c3.1).1], fun _ => ⟨(t_lengthOf I').1, rfl, k0, (t_widthOf I').1, rfl, by rw [k1, k2], (t_mannerOf I').1, rfl, (t_recordOf I').1, rfl, (t_charted I').1, rfl, by rw [kz 4 (by omega) (by omega), kz 5 (by omega) (by omega), kz 8 (by omega) (by omega)]; rfl, (t_goodUntilChange I').1, rfl, rfl⟩⟩⟩
/-- the warmth is set -/
theorem cm3 (hI : Inv n m v) (hX : XI N (v 462)) (hJ : XJ (v 462)) : oL_setWarmth 448 a v ∧ OUT n N v (fL_setWarmth 448 a v).2 ∧ ∀ y48 : Int32, y48 = ((if (a : Int32) < (-10) then 1 else (if (a : Int32) ≤ 50 then 0 else 1) : Int32) : Int32) → (∀ v54 : vSt, v54 = ((fL_setWarmth 448 a v).2) → ((∀ (y56 : Int32), y56 = ((if (y48 : Int32) = 0 then (fX10_warmth 448 v) else ((-100102)) : Int32) : Int32) → (((((fL_setWarmth 448 a v).1) : Int32) = y56) ∧ ((oX10_warmth 448 v54) ∧ ((∀ (y60 : Int32), y60 = ((if (y48 : Int32) = 0 then a else (fX10_warmth 448 v) : Int32) : Int32) → ((((fX10_warmth 448 v54) : Int32) = y60))))))))) := by
  obtain ⟨o, S⟩ := s_setWarmth (p1 := a) hI
  have hO := S.out hX hJ hI.wf ((xi_setWarmth hX hI.wf).mono (by omega)) (xj_setWarmth hJ hI.wf)
  refine ⟨o, hO, fun y48 e48 v54 e54 => ?_⟩
  have hWT : WT (v 462) := hI.2.2.2.2.2.1.2.2.2.2
  obtain ⟨S1, ⟨m', I'⟩, S3, S4⟩ := S
  rw [← e54] at I' S3 S4
  generalize (fL_setWarmth 448 a v).1 = r at *
  clear S1 hO o e54
  rw [x_warmth hI, x_warmth I']
  intro y56 e56
  have m10 : (-10 : Int32).toInt = -10 := rfl
  have i50 : (50 : Int32).toInt = 50 := rfl
  by_cases g1 : fX11_in a (-10) 50 = 0
  · have hr : rSetWarmth (v 462) a = (-100001, v 462) := by unfold rSetWarmth; rw [if_pos g1]
    rw [hr] at S4
    dsimp only at S4
    obtain ⟨f1, f2⟩ := S4 (by decide)
    rw [if_pos rfl] at f1
    have y1 : y48 = 1 := by
      have g := in_iff0.mp g1
      rw [m10, i50] at g
      rw [e48]
      by_cases q : a < -10
      · rw [if_pos q]
      · have q2 := i_nlt q
        rw [m10] at q2
        rw [if_neg q, if_neg (by rw [Int32.le_iff_toInt_le, i50]; omega)]
    rw [f1, e56, y1]
    exact ⟨rfl, (t_warmth I').1, fun y60 e60 => by rw [e60, if_neg (by decide), f2.1 208 (by decide)]⟩
  have ga := in_iff.mp g1
  rw [m10, i50] at ga
  have y0 : y48 = 0 := by rw [e48, if_neg (by rw [Int32.lt_iff_toInt_lt, m10]; omega), if_pos (by rw [Int32.le_iff_toInt_le, i50]; omega)]
  have hr : rSetWarmth (v 462) a = (v 462 208, st (v 462) 208 a) := by unfold rSetWarmth; rw [if_neg g1]
  rw [hr] at S3
  obtain ⟨f1, f2⟩ := S3 (rfc_0 (by have := hWT.1.1; show -100001 < (v 462 208).toInt; omega))
  have f1 : r = v 462 208 := f1
  have fW : v54 462 = st (v 462) 208 a := f2.1
  rw [f1, e56, y0, if_pos rfl]
  exact ⟨rfl, (t_warmth I').1, fun y60 e60 => by rw [e60, if_pos rfl, fW, st_s]⟩
/-- the tolerance is set -/
theorem cm4 (hI : Inv n m v) (hX : XI N (v 462)) (hJ : XJ (v 462)) (ha : 0 ≤ a.toInt) : oL_setTolerance 448 a v ∧ OUT n N v (fL_setTolerance 448 a v).2 ∧ (∀ v40 : vSt, v40 = ((fL_setTolerance 448 a v).2) → ((((a : Int32) ≤ 99) → ((¬ ((((fL_setTolerance 448 a v).1) : Int32) < 0)) ∧ ((¬ ((100 : Int32) ≤ ((fL_setTolerance 448 a v).1)))))) ∧ (¬ ((a : Int32) ≤ 99) → (((((fL_setTolerance 448 a v).1) : Int32) = (-100102)))))) := by
  obtain ⟨o, S⟩ := s_setTolerance (p1 := a) hI
  have hO := S.out hX hJ hI.wf ((xi_setTolerance hX hI.wf).mono (by omega)) (xj_setTolerance hJ hI.wf)
  refine ⟨o, hO, fun v40 e40 => ?_⟩
  have hWT : WT (v 462) := hI.2.2.2.2.2.1.2.2.2.2
  obtain ⟨S1, ⟨m', I'⟩, S3, S4⟩ := S
  generalize (fL_setTolerance 448 a v).1 = r at *
  have i0 : (0 : Int32).toInt = 0 := rfl
  have i99 : (99 : Int32).toInt = 99 := rfl
  by_cases g1 : fX11_in a 0 99 = 0
  · have hr : rSetTolerance (v 462) a = (-100001, v 462) := by unfold rSetTolerance; rw [if_pos g1]
    rw [hr] at S4
    dsimp only at S4
    obtain ⟨f1, f2⟩ := S4 (by decide)
    rw [if_pos rfl] at f1
    have g := in_iff0.mp g1
    rw [i0, i99] at g
    have n1 : ¬ a ≤ 99 := by rw [Int32.le_iff_toInt_le, i99]; omega
    exact ⟨fun q => absurd q n1, fun _ => f1⟩
  have ga := in_iff.mp g1
  rw [i0, i99] at ga
  have n1 : a ≤ 99 := by rw [Int32.le_iff_toInt_le, i99]; omega
  have hr : rSetTolerance (v 462) a = (v 462 209, st (v 462) 209 a) := by unfold rSetTolerance; rw [if_neg g1]
  rw [hr] at S3
  obtain ⟨f1, f2⟩ := S3 (nn_rfc hWT.2.1)
  have f1 : r = v 462 209 := f1
  refine ⟨fun _ => ⟨by rw [f1]; exact (ge0 hWT.2.1).2, fun q => ?_⟩, fun q => absurd n1 q⟩
  have q := i_le q
  rw [f1, show (100 : Int32).toInt = 100 from rfl] at q
  have := hWT.2.2
  omega
/-- a day ends -/
theorem cm5l (hI : Inv n m w) : ∀ fl k, k ≤ ((w 462) 203).toNatClampNeg → ((w 462) 203).toNatClampNeg < fl + k → olL_comes_922 448 w fl (Int32.ofNat k) (sDueN (w 462) k) ∧ lL_comes_922 448 w fl (Int32.ofNat k) (sDueN (w 462) k) = sDueN (w 462) ((w 462) 203).toNatClampNeg := by
  have h7 := hI.wf.1.1
  have l7 := inn_lt h7
  intro fl
  induction fl with
  | zero => intro k h1 h2; omega
  | succ fl ih =>
    intro k h1 h2
    unfold olL_comes_922 lL_comes_922
    rw [x_tools hI]
    by_cases q : w 462 203 ≤ Int32.ofNat k
    · rw [if_pos q]
      have q2 := q
      rw [of_le h7.1 (by omega)] at q
      have : k = ((w 462) 203).toNatClampNeg := by omega
      subst this
      exact ⟨⟨(t_tools hI).1, fun g => absurd q2 g⟩, rfl⟩
    · rw [if_neg q]
      rw [of_le h7.1 (by omega)] at q
      have hT := isT_k h7 (show k < ((w 462) 203).toNatClampNeg by omega)
      have r := ih (k + 1) (by omega) (by omega)
      have es : sDueN (w 462) (k + 1) = sDueN (w 462) k + (if sDue (w 462) k = 0 then 0 else 1) := rfl
      rw [es] at r
      rw [x_isDue hI hT, to_of (by omega), of_S (by omega)]
      exact ⟨⟨(t_tools hI).1, fun _ => ⟨(t_isDue hI).1, rfl, fun y21 e21 => by rw [e21]; exact r.1⟩⟩, r.2⟩
theorem due_t : ∀ k, 0 ≤ (sDueN A k).toInt ∧ (sDueN A k).toInt ≤ k ∨ 1000 < k
  | 0 => Or.inl (by rw [show sDueN A 0 = 0 from rfl]; decide)
  | k + 1 => by
    rcases due_t k with h | h
    · by_cases g : 1000 < k + 1
      · exact Or.inr g
      · refine Or.inl ?_
        have e : sDueN A (k + 1) = sDueN A k + (if sDue A k = 0 then 0 else 1) := rfl
        rw [e]
        split
        · rw [Int32.add_zero]; omega
        · rw [ti_add (b := 1) (by rw [show (1 : Int32).toInt = 1 from rfl]; omega), show (1 : Int32).toInt = 1 from rfl]; omega
    · exact Or.inr (by omega)
theorem cm5 (hI : Inv n m v) (hX : XI N (v 462)) (hJ : XJ (v 462)) : oL_endDay 448 v ∧ OUT n N v (fL_endDay 448 v).2 ∧ (∀ v13 : vSt, v13 = ((fL_endDay 448 v).2) → (olL_comes_922 448 v13 (7) 0 0 ∧ (∀ (y17 : Int32), y17 = ((lL_comes_922 448 v13 (7) 0 0) : Int32) → ((∀ (y27 : Int32), y27 = ((if ((fX10_days 448 v) : Int32) = 999 then ((-100103)) else y17 : Int32) : Int32) → (((((fL_endDay 448 v).1) : Int32) = y27) ∧ ((oX10_days 448 v13) ∧ ((∀ (y31 : Int32), y31 = ((if ((fX10_days 448 v) : Int32) = 999 then 0 else 1 : Int32) : Int32) → ((((fX10_days 448 v13) : Int32) = ((fX10_days 448 v) + y31)))))))))))) := by
  obtain ⟨o, S⟩ := s_endDay hI
  have hO := S.out hX hJ hI.wf ((xi_goDay hX hI.wf).mono (by omega)) (xj_goDay hJ hI.wf)
  refine ⟨o, hO, fun v13 e13 => ?_⟩
  obtain ⟨S1, ⟨m', I'⟩, S3, S4⟩ := S
  rw [← e13] at I' S3 S4
  generalize (fL_endDay 448 v).1 = r at *
  clear S1 hO o e13
  have l7 := inn_lt I'.wf.1.1
  have L := cm5l I' 7 0 (Nat.zero_le _) (by omega)
  rw [show sDueN (v13 462) 0 = 0 from rfl, show Int32.ofNat 0 = (0 : Int32) from rfl] at L
  rw [x_days hI, x_days I']
  refine ⟨L.1, fun y17 e17 y27 e27 => ?_⟩
  rw [L.2] at e17
  by_cases g : v 462 210 = 999
  · have hr : sGoDay (v 462) = (-100002, v 462) := by unfold sGoDay; rw [if_pos g]
    rw [hr] at S4
    dsimp only at S4
    obtain ⟨f1, f2⟩ := S4 (by decide)
    rw [if_neg (by decide)] at f1
    rw [f1, e27, if_pos g]
    exact ⟨rfl, (t_days I').1, fun y31 e31 => by rw [e31, if_pos g, Int32.add_zero, f2.1 210 (by decide)]⟩
  · have hr : sGoDay (v 462) = (sDueN (st (v 462) 210 (v 462 210 + 1)) ((v 462 203).toNatClampNeg), st (v 462) 210 (v 462 210 + 1)) := by unfold sGoDay; rw [if_neg g]
    rw [hr] at S3
    have hd := (due_t (A := st (v 462) 210 (v 462 210 + 1)) (v 462 203).toNatClampNeg).resolve_right (by have := inn_lt hI.wf.1.1; omega)
    obtain ⟨f1, f2⟩ := S3 (nn_rfc hd.1)
    have f1 : r = sDueN (st (v 462) 210 (v 462 210 + 1)) ((v 462 203).toNatClampNeg) := f1
    have fW : v13 462 = st (v 462) 210 (v 462 210 + 1) := f2.1
    have e203 : v13 462 203 = v 462 203 := by rw [fW, st_n (by decide)]
    rw [f1, e27, if_neg g, e17, e203, fW]
    exact ⟨rfl, (t_days I').1, fun y31 e31 => by rw [e31, if_neg g, st_s]⟩
/-- all that comes -/
theorem comes_o (hI : Inv n m v) (hX : XI N (v 462)) (hJ : XJ (v 462)) : oL_comes 448 p y v ∧ OUT n N v (fL_comes 448 p y v) := by
  have z0 : (0 : Int32).toInt = 0 := rfl
  have lo : ∀ (q z : Int32), 0 < z.toInt → oL_low q z ∧ 0 ≤ (fL_low q z).toInt ∧ (fL_low q z).toInt < z.toInt := fun q z h => ⟨low_o (fun e => by rw [e] at h; exact absurd h (by decide)), low_t h⟩
  have pp : ∀ X Y : Prop, ∀ f, (X ∧ OUT n N v f ∧ Y) → f = fL_comes 448 p y v → X ∧ (pot v ≤ pot v ∧ pot v ≤ pot f ∧ pot f ≤ pot (fL_comes 448 p y v)) ∧ Y := fun X Y f h e => ⟨h.1, ⟨Nat.le_refl _, h.2.1.1, by rw [e]; exact Nat.le_refl _⟩, h.2.2⟩
  obtain ⟨Y2, E2⟩ : ∃ z : Int32, z = ((if ((fL_low (y >>> ((9 : Int32) &&& 31)) 9) : Int32) = 0 then 1 else 0 : Int32) : Int32) := ⟨_, rfl⟩
  have a0 : 0 < (if Y2 = 0 then 5 else 6 : Int32).toInt ∧ (if Y2 = 0 then 5 else 6 : Int32).toInt ≤ 6 := by split <;> decide
  have b0 : 0 < (if Y2 = 0 then 21 else 70 : Int32).toInt := by split <;> decide
  have l0 := lo y _ a0.1
  have C0 := cm0 (n := n) (m := m) (N := N) (a := fL_low y (if Y2 = 0 then 5 else 6 : Int32)) (b := fL_low (y >>> ((3 : Int32) &&& 31)) (if Y2 = 0 then 21 else 70 : Int32) - (if Y2 = 0 then 10 else 35 : Int32)) hI hX hJ (by omega)
  have C1 := cm1 (n := n) (m := m) (N := N) (a := (if Y2 = 0 then ((1 : Int32) + (fL_low y 700)) else (fL_low y 5100) : Int32)) (b := fL_low (y >>> ((5 : Int32) &&& 31)) (if Y2 = 0 then 7 else 9 : Int32) - (if Y2 = 0 then 3 else 4 : Int32)) hI hX hJ
  have b1 : 0 < (if Y2 = 0 then 7 else 9 : Int32).toInt := by split <;> decide
  have b2 : 0 < (if Y2 = 0 then 60 else 102 : Int32).toInt := by split <;> decide
  have b3 : 0 < (if Y2 = 0 then 3 else 4 : Int32).toInt ∧ (if Y2 = 0 then 3 else 4 : Int32).toInt ≤ 4 := by split <;> decide
  have l2 := lo (y >>> ((4 : Int32) &&& 31)) _ b2
  have l3 := lo (y >>> ((7 : Int32) &&& 31)) _ b2
  have l4 := lo (y >>> ((2 : Int32) &&& 31)) _ b3.1
  have b2' : (if Y2 = 0 then 60 else 102 : Int32).toInt ≤ 102 := by split <;> decide
  have nb : ∀ q : Int32, 0 ≤ q.toInt → q.toInt ≤ 102 → (-q).toInt ≤ 0 := fun q h1 h2 => by
    rw [Int32.toInt_neg, Int.bmod_def]
    split <;> omega
  have C2 := cm2 (n := n) (m := m) (N := N) (a := (if Y2 = 0 then ((100 : Int32) + (fL_low y 2000)) else (fL_low y 14200) : Int32)) (b := -(fL_low (y >>> ((4 : Int32) &&& 31)) (if Y2 = 0 then 60 else 102 : Int32))) (c := fL_low (y >>> ((7 : Int32) &&& 31)) (if Y2 = 0 then 60 else 102 : Int32)) (d := fL_low (y >>> ((2 : Int32) &&& 31)) (if Y2 = 0 then 3 else 4 : Int32)) hI hX hJ (nb _ l2.2.1 (by omega)) l3.2.1 ⟨l4.2.1, by omega⟩
  have C3 := cm3 (n := n) (m := m) (N := N) (a := (if Y2 = 0 then ((fL_low y 60) - (9 : Int32)) else ((fL_low y 80) - (20 : Int32)) : Int32)) hI hX hJ
  have b4 : 0 < (if Y2 = 0 then 40 else 104 : Int32).toInt := by split <;> decide
  have l5 := lo y _ b4
  have C4 := cm4 (n := n) (m := m) (N := N) (a := fL_low y (if Y2 = 0 then 40 else 104 : Int32)) hI hX hJ l5.2.1
  have C5 := cm5 (n := n) (m := m) (N := N) hI hX hJ
  have F0 : p = 0 → fL_comes 448 p y v = (fL_addTool 448 (fL_low y (if Y2 = 0 then 5 else 6 : Int32)) (fL_low (y >>> ((3 : Int32) &&& 31)) (if Y2 = 0 then 21 else 70 : Int32) - (if Y2 = 0 then 10 else 35 : Int32)) v).2 := fun h => by
    unfold fL_comes
    dsimp only
    rw [if_pos h, ← E2, ite_self]
  have F1 : ¬ p = 0 → p = 1 → fL_comes 448 p y v = (fL_addBlock 448 (if Y2 = 0 then ((1 : Int32) + (fL_low y 700)) else (fL_low y 5100) : Int32) (fL_low (y >>> ((5 : Int32) &&& 31)) (if Y2 = 0 then 7 else 9 : Int32) - (if Y2 = 0 then 3 else 4 : Int32)) v).2 := fun h0 h => by
    unfold fL_comes
    dsimp only
    rw [if_neg h0, if_pos h, ← E2, ite_self]
  have F2 : ¬ p = 0 → ¬ p = 1 → p = 2 → fL_comes 448 p y v = (fL_addType 448 (if Y2 = 0 then ((100 : Int32) + (fL_low y 2000)) else (fL_low y 14200) : Int32) (-(fL_low (y >>> ((4 : Int32) &&& 31)) (if Y2 = 0 then 60 else 102 : Int32))) (fL_low (y >>> ((7 : Int32) &&& 31)) (if Y2 = 0 then 60 else 102 : Int32)) (fL_low (y >>> ((2 : Int32) &&& 31)) (if Y2 = 0 then 3 else 4 : Int32)) v).2 := fun h0 h1 h => by
    unfold fL_comes
    dsimp only
    rw [if_neg h0, if_neg h1, if_pos h, ← E2, ite_self]
  have F3 : ¬ p = 0 → ¬ p = 1 → ¬ p = 2 → p = 3 → fL_comes 448 p y v = (fL_setWarmth 448 (if Y2 = 0 then ((fL_low y 60) - (9 : Int32)) else ((fL_low y 80) - (20 : Int32)) : Int32) v).2 := fun h0 h1 h2 h => by
    unfold fL_comes
    dsimp only
    rw [if_neg h0, if_neg h1, if_neg h2, if_pos h, ← E2]
  have F4 : ¬ p = 0 → ¬ p = 1 → ¬ p = 2 → ¬ p = 3 → p = 4 → fL_comes 448 p y v = (fL_setTolerance 448 (fL_low y (if Y2 = 0 then 40 else 104 : Int32)) v).2 := fun h0 h1 h2 h3 h => by
    unfold fL_comes
    dsimp only
    rw [if_neg h0, if_neg h1, if_neg h2, if_neg h3, if_pos h, ← E2, ite_self]
  have F5 : ¬ p = 0 → ¬ p = 1 → ¬ p = 2 → ¬ p = 3 → ¬ p = 4 → fL_comes 448 p y v = (fL_endDay 448 v).2 := fun h0 h1 h2 h3 h4 => by
    unfold fL_comes
    dsimp only
    rw [if_neg h0, if_neg h1, if_neg h2, if_neg h3, if_neg h4]
  refine ⟨⟨(lo _ 9 (by decide)).1, fun y2 e2 => ?_⟩, ?_⟩
  · have e2 : y2 = Y2 := e2.trans E2.symm
    rw [e2]
    refine ⟨fun h0 => ⟨(t_tools hI).1, fun y140 e140 => ?_⟩, fun h0 => ⟨fun h1 => ⟨(t_blocks hI).1, ⟨fun _ => (lo _ 700 (by decide)).1, fun _ => (lo _ 5100 (by decide)).1⟩, fun y108 e108 y110 e110 => ?_⟩, fun h1 => ⟨fun h2 => ⟨(t_types hI).1, ⟨fun _ => (lo _ 2000 (by decide)).1, fun _ => (lo _ 14200 (by decide)).1⟩, fun y64 e64 y66 e66 => ?_⟩, fun h2 => ⟨fun h3 => ⟨⟨fun _ => (lo _ 60 (by decide)).1, fun _ => (lo _ 80 (by decide)).1⟩, fun y46 e46 y48 e48 => ?_⟩, fun h3 => ⟨fun h4 y34 e34 => ?_, fun h4 => ?_⟩⟩⟩⟩⟩
    · rw [e140]
      refine ⟨l0.1, fun y143 e143 => ?_⟩
      rw [e143]
      refine ⟨(lo _ _ b0).1, fun y146 e146 y148 e148 => ?_⟩
      rw [e146] at e148 ⊢
      exact pp _ _ _ ⟨C0.1, C0.2.1, C0.2.2 y148 e148⟩ (F0 h0).symm
    · rw [e110]
      refine ⟨(lo _ _ b1).1, fun y113 e113 y115 e115 => ?_⟩
      rw [e113, e108] at e115 ⊢
      exact pp _ _ _ ⟨C1.1, C1.2.1, C1.2.2 y115 e115⟩ (F1 h0 h1).symm
    · rw [e66]
      refine ⟨l2.1, fun y69 e69 => ?_⟩
      rw [e69]
      refine ⟨l3.1, fun y72 e72 => ?_⟩
      rw [e72]
      refine ⟨l4.1, fun y75 e75 => ?_⟩
      rw [e64] at e75 ⊢
      exact pp _ _ _ ⟨C2.1, C2.2.1, C2.2.2 y75 e75⟩ (F2 h0 h1 h2).symm
    · rw [e46] at e48 ⊢
      exact ⟨(t_warmth hI).1, pp _ _ _ ⟨C3.1, C3.2.1, C3.2.2 y48 e48⟩ (F3 h0 h1 h2 h3).symm⟩
    · rw [e34]
      exact ⟨l5.1, pp _ _ _ C4 (F4 h0 h1 h2 h3 h4).symm⟩
    · exact ⟨(t_days hI).1, pp _ _ _ C5 (F5 h0 h1 h2 h3 h4).symm⟩
  · by_cases h0 : p = 0
    · rw [F0 h0]; exact C0.2.1
    by_cases h1 : p = 1
    · rw [F1 h0 h1]; exact C1.2.1
    by_cases h2 : p = 2
    · rw [F2 h0 h1 h2]; exact C2.2.1
    by_cases h3 : p = 3
    · rw [F3 h0 h1 h2 h3]; exact C3.2.1
    by_cases h4 : p = 4
    · rw [F4 h0 h1 h2 h3 h4]; exact C4.2.1
    · rw [F5 h0 h1 h2 h3 h4]; exact C5.2.1
end T58a
