/-! P79, PLAIN 9: the law's look at stacks. -/
section T55
variable {n m : Nat} {v w : vSt} {A B : Ar} {p p2 p3 x y set : Int32} {k t : Nat}
theorem sk_in (hV : Inv n m v) : ∀ fl k, k ≤ ((v 462) 204).toNatClampNeg → ((v 462) 204).toNatClampNeg < fl + k → olL_stack_36 v 448 set fl (Int32.ofNat k) (sSumN (v 462) set 0 k) (sbN set k) ∧ lL_stack_36 v 448 set fl (Int32.ofNat k) (sSumN (v 462) set 0 k) (sbN set k) = (sSum (v 462) set 0, sbN set (((v 462) 204).toNatClampNeg)) := by
  have h7 := hV.wf.1.2.1
  have l7 := inn_lt h7
  intro fl
  induction fl with
  | zero => intro k h1 h2; omega
  | succ fl ih =>
    intro k h1 h2
    unfold olL_stack_36 lL_stack_36
    rw [x_blocks hV]
    by_cases q : v 462 204 ≤ Int32.ofNat k
    · rw [if_pos q]
      rw [of_le h7.1 (by omega)] at q
      have : k = ((v 462) 204).toNatClampNeg := by omega
      subst this
      exact ⟨fun g => absurd ((of_le h7.1 (by omega)).mpr (Nat.le_refl _)) g, rfl⟩
    · rw [if_neg q]
      rw [of_le h7.1 (by omega)] at q
      have hT := isB_k h7 (show k < ((v 462) 204).toNatClampNeg by omega)
      have r := ih (k + 1) (by omega) (by omega)
      have es : sSumN (v 462) set 0 (k + 1) = sSumN (v 462) set 0 k + (if bt set k = 1 then v 462 (48 + 3 * k) else 0) := rfl
      have eb : sbN set (k + 1) = sbN set k + bt set k := rfl
      rw [es, eb] at r
      rw [x_blockLength hV hT, to_of (by omega), of_S (by omega)]
      exact ⟨fun _ => ⟨fun _ => ⟨(t_blockLength hV).1, rfl⟩, fun y12 e12 => by rw [e12]; exact r.1⟩, r.2⟩
theorem sk_ones (hn : inn (A 204) 11) (hk : k < 2 ^ (A 204).toNatClampNeg) : sbN (Int32.ofNat k) ((A 204).toNatClampNeg) = fX11_ones (Int32.ofNat k) := by
  have l := inn_lt hn
  have h10 : 2 ^ (A 204).toNatClampNeg ≤ 1024 := (sh_le hn).2.2
  exact (rec_at (B := Int32.ofNat k) hn ⟨by rw [of_ti (by omega)]; omega, by rw [of_ti (by omega)]; exact_mod_cast hk⟩).2.1
theorem ls_s {len : Int32} {fm : Nat} (hn : inn (A 204) 11) (hk : k < 2 ^ (A 204).toNatClampNeg) : lX11_stack_8 (wA A) 461 len (fm + 1) (Int32.ofNat k) x y = if x ≤ fX11_ones (Int32.ofNat k) then lX11_stack_8 (wA A) 461 len fm (Int32.ofNat (k + 1)) x y else (if sSum A (Int32.ofNat k) 0 = len then lX11_stack_8 (wA A) 461 len fm (Int32.ofNat (k + 1)) (fX11_ones (Int32.ofNat k)) (Int32.ofNat k) else lX11_stack_8 (wA A) 461 len fm (Int32.ofNat (k + 1)) x y) := by
  have hS := sh_le hn
  have ms : fX11_sum 461 (Int32.ofNat k) 0 (wA A) = sSum A (Int32.ofNat k) 0 := by rw [m_sum (v := wA A) hn (by decide)]; rfl
  have hk : ¬ (1 <<< ((wA A) 462 (204 : Int32).toNatClampNeg &&& 31) : Int32) ≤ Int32.ofNat k := by
    show ¬ (1 <<< (A 204 &&& 31) : Int32) ≤ Int32.ofNat k
    rw [Int32.le_iff_toInt_le, hS.2.1, of_ti (by omega)]
    intro q
    have : 2 ^ (A 204).toNatClampNeg ≤ k := by exact_mod_cast q
    omega
  have e : lX11_stack_8 (wA A) 461 len (fm + 1) (Int32.ofNat k) x y = (if (1 <<< ((wA A) 462 (204 : Int32).toNatClampNeg &&& 31) : Int32) ≤ Int32.ofNat k then y else lX11_stack_8 (wA A) 461 len fm (Int32.ofNat k + 1) (if (if x ≤ fX11_ones (Int32.ofNat k) then 0 else (if fX11_sum 461 (Int32.ofNat k) 0 (wA A) = len then 1 else 0) : Int32) = 0 then x else fX11_ones (Int32.ofNat k)) (if (if x ≤ fX11_ones (Int32.ofNat k) then 0 else (if fX11_sum 461 (Int32.ofNat k) 0 (wA A) = len then 1 else 0) : Int32) = 0 then y else Int32.ofNat k)) := rfl
  rw [e, if_neg hk, ms, of_S (by omega)]
  by_cases g2 : x ≤ fX11_ones (Int32.ofNat k)
  · rw [if_pos g2, if_pos g2, if_pos rfl, if_pos rfl]
  · rw [if_neg g2, if_neg g2]
    by_cases g1 : sSum A (Int32.ofNat k) 0 = len
    · rw [if_pos g1, if_pos g1, if_neg (by decide), if_neg (by decide)]
    · rw [if_neg g1, if_neg g1, if_pos rfl, if_pos rfl]
theorem ls_e {len : Int32} {fm : Nat} (hn : inn (A 204) 11) (hk : 2 ^ (A 204).toNatClampNeg ≤ k) (hk2 : k < 2 ^ 31) : lX11_stack_8 (wA A) 461 len (fm + 1) (Int32.ofNat k) x y = y := by
  have hS := sh_le hn
  have hk : (1 <<< ((wA A) 462 (204 : Int32).toNatClampNeg &&& 31) : Int32) ≤ Int32.ofNat k := by
    show (1 <<< (A 204 &&& 31) : Int32) ≤ Int32.ofNat k
    rw [Int32.le_iff_toInt_le, hS.2.1, of_ti hk2]
    exact_mod_cast hk
  exact if_pos hk
theorem sk_out (hV : Inv n m v) : ∀ fl fm k x y i3, 1 ≤ k → k ≤ 2 ^ ((v 462) 204).toNatClampNeg → 2 ^ ((v 462) 204).toNatClampNeg < fl + k → 2 ^ ((v 462) 204).toNatClampNeg < fm + k → ((y = 0 ∧ i3 = -100104) ∨ (y ≠ 0 ∧ i3 = y ∧ x = fX11_ones y)) →
    olL_stack_16 v 448 p fl (Int32.ofNat k) i3 x ∧ ∃ x', lL_stack_16 v 448 p fl (Int32.ofNat k) i3 x = (if lX11_stack_8 (wA (v 462)) 461 p fm (Int32.ofNat k) x y = 0 then -100104 else lX11_stack_8 (wA (v 462)) 461 p fm (Int32.ofNat k) x y, x') ∧ (lX11_stack_8 (wA (v 462)) 461 p fm (Int32.ofNat k) x y ≠ 0 → x' = fX11_ones (lX11_stack_8 (wA (v 462)) 461 p fm (Int32.ofNat k) x y)) := by
  have hn := hV.wf.1.2.1
  have hS := sh_le hn
  have l7 := inn_lt hn
  intro fl
  induction fl with
  | zero => intro fm k x y i3 h1 h2 h3; omega
  | succ fl ih =>
    intro fm k x y i3 h1 h2 h3 h4 hr
    cases fm with
    | zero => omega
    | succ fm =>
      unfold olL_stack_16 lL_stack_16
      rw [x_blocks hV]
      have hcond : ((1 : Int32) <<< (v 462 204 &&& 31) ≤ Int32.ofNat k) ↔ 2 ^ ((v 462) 204).toNatClampNeg ≤ k := by
        rw [Int32.le_iff_toInt_le, hS.2.1, of_ti (by omega)]
        constructor
        · intro q; exact_mod_cast q
        · intro q; exact_mod_cast q
      by_cases hk : 2 ^ ((v 462) 204).toNatClampNeg ≤ k
      · rw [if_pos (hcond.mpr hk), ls_e hn hk (by omega)]
        refine ⟨⟨(t_blocks hV).1, fun q => absurd (hcond.mpr hk) q⟩, x, ?_, ?_⟩
        · rcases hr with ⟨r1, r2⟩ | ⟨r1, r2, r3⟩
          · rw [if_pos r1, r2]
          · rw [if_neg r1, r2]
        · intro q
          rcases hr with ⟨r1, r2⟩ | ⟨r1, r2, r3⟩
          · exact absurd r1 q
          · exact r3
      · rw [if_neg (mt hcond.mp hk)]
        have hk : k < 2 ^ ((v 462) 204).toNatClampNeg := by omega
        have i0 := sk_in (set := Int32.ofNat k) hV 11 0 (by omega) (by omega)
        rw [show sSumN (v 462) (Int32.ofNat k) 0 0 = 0 from rfl, show sbN (Int32.ofNat k) 0 = 0 from rfl, show Int32.ofNat 0 = (0 : Int32) from rfl, sk_ones hn hk] at i0
        have kn : Int32.ofNat k ≠ 0 := fun e => by
          have := congrArg Int32.toInt e
          rw [of_ti (by omega), show (0 : Int32).toInt = 0 from rfl] at this
          omega
        rw [i0.2, ls_s hn hk]
        dsimp only
        rw [of_S (by omega)]
        by_cases g1 : sSum (v 462) (Int32.ofNat k) 0 = p
        · by_cases g2 : x ≤ fX11_ones (Int32.ofNat k)
          · rw [if_pos g2, if_pos g2, if_pos g2, if_pos g1, if_pos g1]
            have r := ih fm (k + 1) x y i3 (by omega) (by omega) (by omega) (by omega) hr
            refine ⟨⟨(t_blocks hV).1, fun _ => ⟨i0.1, fun y10 y11 e10 e11 y20 e20 y22 e22 => ?_⟩⟩, r.2⟩
            rw [e20, e22, e10, e11, if_pos g1, if_pos g1, if_pos g2, if_pos g2]
            exact r.1
          · rw [if_neg g2, if_neg g2, if_neg g2, if_pos g1, if_pos g1, if_pos g1]
            have r := ih fm (k + 1) (fX11_ones (Int32.ofNat k)) (Int32.ofNat k) (Int32.ofNat k) (by omega) (by omega) (by omega) (by omega) (Or.inr ⟨kn, rfl, rfl⟩)
            refine ⟨⟨(t_blocks hV).1, fun _ => ⟨i0.1, fun y10 y11 e10 e11 y20 e20 y22 e22 => ?_⟩⟩, r.2⟩
            rw [e20, e22, e10, e11, if_pos g1, if_pos g1, if_neg g2, if_neg g2]
            exact r.1
        · have z0 : (if x ≤ fX11_ones (Int32.ofNat k) then 0 else (if sSum (v 462) (Int32.ofNat k) 0 = p then 1 else 0) : Int32) = 0 := by
            by_cases g2 : x ≤ fX11_ones (Int32.ofNat k)
            · rw [if_pos g2]
            · rw [if_neg g2, if_neg g1]
          have zs : ∀ X Y : Int32, (if x ≤ fX11_ones (Int32.ofNat k) then X else (if sSum (v 462) (Int32.ofNat k) 0 = p then Y else X)) = X := fun X Y => by
            by_cases g2 : x ≤ fX11_ones (Int32.ofNat k)
            · rw [if_pos g2]
            · rw [if_neg g2, if_neg g1]
          rw [zs, if_neg g1, if_neg g1]
          have r := ih fm (k + 1) x y i3 (by omega) (by omega) (by omega) (by omega) hr
          refine ⟨⟨(t_blocks hV).1, fun _ => ⟨i0.1, fun y10 y11 e10 e11 y20 e20 y22 e22 => ?_⟩⟩, r.2⟩
          rw [e20, e22, e10, e11, if_neg g1, if_neg g1]
          exact r.1
theorem add4 {a b c d e : Int32} : a + b + c + (d + e) = a + (b + d) + (c + e) := by ac_rfl
/-- the true length, summed as the law sums it -/
theorem sk_tr (hV : Inv n m v) (h5 : x ≠ -100104) : ∀ fl k, k ≤ ((v 462) 204).toNatClampNeg → ((v 462) 204).toNatClampNeg < fl + k → olL_stack_145 v 448 x fl (Int32.ofNat k) (y + sSumN (v 462) x 0 k + sSumN (v 462) x 1 k) ∧ lL_stack_145 v 448 x fl (Int32.ofNat k) (y + sSumN (v 462) x 0 k + sSumN (v 462) x 1 k) = y + sSum (v 462) x 0 + sSum (v 462) x 1 := by
  have h7 := hV.wf.1.2.1
  have l7 := inn_lt h7
  intro fl
  induction fl with
  | zero => intro k h1 h2; omega
  | succ fl ih =>
    intro k h1 h2
    unfold olL_stack_145 lL_stack_145
    rw [x_blocks hV]
    by_cases q : v 462 204 ≤ Int32.ofNat k
    · rw [if_pos q]
      have q2 := q
      rw [of_le h7.1 (by omega)] at q
      have : k = ((v 462) 204).toNatClampNeg := by omega
      subst this
      exact ⟨⟨(t_blocks hV).1, fun g => absurd q2 g⟩, rfl⟩
    · rw [if_neg q, if_neg h5]
      rw [of_le h7.1 (by omega)] at q
      have hT := isB_k h7 (show k < ((v 462) 204).toNatClampNeg by omega)
      have r := ih (k + 1) (by omega) (by omega)
      have e0 : sSumN (v 462) x 0 (k + 1) = sSumN (v 462) x 0 k + (if bt x k = 1 then v 462 (48 + 3 * k) else 0) := rfl
      have e1 : sSumN (v 462) x 1 (k + 1) = sSumN (v 462) x 1 k + (if bt x k = 1 then v 462 (48 + 3 * k + 1) else 0) := rfl
      rw [e0, e1, ← add4] at r
      have ei : (if bt x k = 1 then v 462 (48 + 3 * k) else 0 : Int32) + (if bt x k = 1 then v 462 (48 + 3 * k + 1) else 0) = (if bt x k = 1 then v 462 (48 + 3 * k) + v 462 (48 + 3 * k + 1) else 0) := by
        by_cases g : bt x k = 1
        · rw [if_pos g, if_pos g, if_pos g]
        · rw [if_neg g, if_neg g, if_neg g]; rfl
      rw [ei] at r
      rw [x_blockLength hV hT, x_blockError hV hT, to_of (by omega), of_S (by omega)]
      exact ⟨⟨(t_blocks hV).1, fun _ _ => ⟨fun _ => ⟨(t_blockLength hV).1, rfl, (t_blockError hV).1, rfl⟩, fun y35 e35 => by rw [e35]; exact r.1⟩⟩, r.2⟩
theorem stack_o (hV : Inv n m v) (hp : fX11_in p 1 15000 ≠ 0) : oL_stack 448 p v := by
  have hn := hV.wf.1.2.1
  have hS := sh_le hn
  have l7 := inn_lt hn
  have hG : gSt (v 462) p = if sStack (v 462) p = 0 then (3, 0) else (0, sStack (v 462) p) := by unfold gSt; rw [if_neg hp]
  have p1 : 1 ≤ 2 ^ ((v 462) 204).toNatClampNeg := Nat.one_le_two_pow
  have hfu : Int32.toInt (1 <<< ((wA (v 462)) 462 (204 : Int32).toNatClampNeg &&& 31)) = 2 ^ ((v 462) 204).toNatClampNeg := hS.2.1
  obtain ⟨o1, x', e1, ex⟩ := sk_out (p := p) hV 1025 ((Int32.toInt (1 <<< ((wA (v 462)) 462 (204 : Int32).toNatClampNeg &&& 31)) - Int32.toInt 1).toNat + 1) 1 6 0 (-100104) (by omega) p1 (by omega) (by
    rw [hfu, show (1 : Int32).toInt = 1 from rfl]
    have : ((2 ^ ((v 462) 204).toNatClampNeg : Int) - 1).toNat = 2 ^ ((v 462) 204).toNatClampNeg - 1 := by
      have : ((2 ^ ((v 462) 204).toNatClampNeg : Nat) : Int) = (2 ^ ((v 462) 204).toNatClampNeg : Int) := by simp
      omega
    omega) (Or.inl ⟨rfl, rfl⟩)
  have eS : lX11_stack_8 (wA (v 462)) 461 p ((Int32.toInt (1 <<< ((wA (v 462)) 462 (204 : Int32).toNatClampNeg &&& 31)) - Int32.toInt 1).toNat + 1) (Int32.ofNat 1) 6 0 = sStack (v 462) p := rfl
  rw [eS] at e1 ex
  rw [show Int32.ofNat 1 = (1 : Int32) from rfl] at o1 e1
  unfold oL_stack
  refine ⟨(w_stackFor hV).1, o1, fun y5 y6 e5 e6 => ?_⟩
  rw [e1] at e5 e6
  dsimp only at e5 e6
  have hs := stack_in (len := p) hn
  by_cases h0 : sStack (v 462) p = 0
  · rw [if_pos h0] at e5 hG
    have hc : (gSt (v 462) p).1 ≠ 0 := by rw [hG]; decide
    refine ⟨?_, fun y32 _ => ⟨?_, (w_fewestByTrying hV).1, fun y47 e47 => ⟨?_, (w_trueLength hV).1, fun y51 e51 => ?_⟩⟩⟩
    · rw [e5]
      unfold olL_stack_145
      exact ⟨(t_blocks hV).1, fun _ q => absurd rfl q⟩
    · rw [(w_stackFor hV).2.1 hc, hG, e5]; rfl
    · rw [(w_fewestByTrying hV).2.1 hc, hG, e47, if_pos e5]; rfl
    · rw [(w_trueLength hV).2.1 hc, hG, e51, if_pos e5]; rfl
  · rw [if_neg h0] at e5 hG
    have hc : (gSt (v 462) p).1 = 0 := by rw [hG]
    have e6 : y6 = fX11_ones (sStack (v 462) p) := e6.trans (ex h0)
    have n5 : y5 ≠ -100104 := fun e => by
      rw [e5] at e
      have := hs.1
      rw [e] at this
      exact absurd this (by decide)
    have T := sk_tr (x := y5) (y := (y6 - 1) / 2) hV n5 11 0 (by omega) (by omega)
    rw [show sSumN (v 462) y5 0 0 = 0 from rfl, show sSumN (v 462) y5 1 0 = 0 from rfl, Int32.add_zero, Int32.add_zero, show Int32.ofNat 0 = (0 : Int32) from rfl] at T
    refine ⟨T.1, fun y32 e32 => ⟨?_, (w_fewestByTrying hV).1, fun y47 e47 => ⟨?_, (w_trueLength hV).1, fun y51 e51 => ?_⟩⟩⟩
    · rw [(w_stackFor hV).2.2 hc, e5]
    · rw [(w_fewestByTrying hV).2.2 hc, e47, if_neg n5, e6]
    · rw [(w_trueLength hV).2.2 hc, e51, if_neg n5, e32, T.2, e5, e6]
      unfold sTruly
      ac_rfl
end T55
