/-! THE PLAIN PART 15b: the mean and the share of the good. -/
section T44b
variable {n m : Nat} {v w : vSt} {A : Ar} {p k : Int32} {c r : Nat} {f : Ar}
def OF (v : vSt) (code : Nat) (z : UInt32) (mr : UInt32 × vSt) (k : Int32) : Prop := QS v mr.2 k ∧ (code = 0 → z = mr.1 ∧ vf_n32 z)
theorem cs_c (h12 : c ≤ 12) (e9 : v r 9 = Int32.ofNat c) (ho : oX11_of 461 p 8 w) (h8 : fX11_of 461 p 8 w = Int32.ofNat c) (hc : ∀ j, j < c → fX11_onChart 461 p (Int32.ofNat j) w = v (r + 10) j ∧ oX11_onChart 461 p (Int32.ofNat j) w) : ∀ fl i y, i ≤ c → c < fl + i →
    olX11_meanOf_15 461 p w fl (Int32.ofNat i) y ∧ lX11_meanOf_15 461 p w fl (Int32.ofNat i) y = lX4_chartSum_4 v r fl (Int32.ofNat i) y := by
  intro fl
  induction fl with
  | zero => intro i y h1 h2; omega
  | succ fl ih =>
    intro i y h1 h2
    unfold lX11_meanOf_15 olX11_meanOf_15 lX4_chartSum_4
    rw [h8, e9]
    have e1 := ofle (k := c) (n := i) (by omega) (by omega)
    by_cases hi : c ≤ i
    · rw [if_pos (e1.mpr hi), if_pos (e1.mpr hi)]
      exact ⟨⟨ho, fun q => absurd (e1.mpr hi) q⟩, rfl⟩
    rw [if_neg (mt e1.mp hi), if_neg (mt e1.mp hi), (hc i (by omega)).1, of_S (by omega), entry_at (inn_of (show i < 12 by omega) (by decide)) (by decide), to_of (by omega)]
    have rr := ih (i + 1) (y + v (r + 10) i) (by omega) (by omega)
    exact ⟨⟨ho, fun _ => ⟨(hc i (by omega)).2, rr.1⟩⟩, rr.2⟩
theorem t_meanOf (hI : Inv n m v) : oX10_meanOf 448 p v ∧ oX11_meanOf 461 p v ∧ OF v (fX10_meanOf 448 p v).1 (fX10_meanOf 448 p v).2 (fX11_meanOf 461 p v) (cc3 (fX10_meanOf 448 p v).1) := by
  have ho := ck_o (p := p) hI
  unfold oX10_meanOf oX11_meanOf fX10_meanOf fX11_meanOf
  rcases chart3 (p := p) hI with ⟨e1, e2⟩ | ⟨e1, e2⟩ | ⟨c, h0, h12, hy, e9, hw, hof, e1, e2⟩
  · rw [e1, e2]
    exact ⟨⟨ho.1, fun q => absurd (show (1 : Nat) = 0 from q) (by decide)⟩, ⟨ho.2, fun v2 _ q => absurd rfl q⟩, ⟨qs_u2, fun q => absurd (show (1 : Nat) = 0 from q) (by decide)⟩⟩
  · rw [e1, e2]
    exact ⟨⟨ho.1, fun q => absurd (show (3 : Nat) = 0 from q) (by decide)⟩, ⟨ho.2, fun v2 _ q => absurd rfl q⟩, ⟨qs_uu, fun q => absurd (show (3 : Nat) = 0 from q) (by decide)⟩⟩
  · have hkd := (needY_o (p := p) hI).2
    rw [needY hI, if_neg hy] at hkd
    have hk := hkd rfl
    have hn0 : Int32.ofNat c ≠ 0 := fun q => by
      have := congrArg Int32.toInt q
      rw [of_ti (by omega), show Int32.toInt 0 = 0 from rfl] at this
      omega
    have L : ∀ w : vSt, w 462 = v 462 → olX11_meanOf_15 461 p w ((Int32.toInt (fX11_of 461 p 8 w) - Int32.toInt 0).toNat + 1) 0 0 ∧ lX11_meanOf_15 461 p w ((Int32.toInt (fX11_of 461 p 8 w) - Int32.toInt 0).toNat + 1) 0 0 = fX4_chartSum ((((rN (v 448 0)) + 2 + 3) + 31 + p.toNatClampNeg)) v := fun w e => by
      have l := cs_c h12 e9 (hof w) (hw w e).1 (hw w e).2 ((Int32.toInt (Int32.ofNat c) - Int32.toInt 0).toNat + 1) 0 0 (by omega) (by rw [of_ti (by omega), show Int32.toInt 0 = 0 from rfl]; omega)
      unfold fX4_chartSum
      rw [(hw w e).1, e9]
      exact l
    rw [e1, e2]
    dsimp only
    have hv := fd_n (a := fX4_chartSum ((((rN (v 448 0)) + 2 + 3) + 31 + p.toNatClampNeg)) v) hn0
    refine ⟨⟨ho.1, fun _ => ⟨hk, fun _ => by rw [e9]; exact hv⟩⟩, ⟨ho.2, fun v2 ev _ => ?_⟩, ?_⟩
    · have e : v2 462 = v 462 := by rw [ev]; exact kk_uu
      refine ⟨(L _ e).1, fun y6 e6 => ⟨hof _, ?_⟩⟩
      rw [e6, (L _ e).2, (hw _ e).1]
      exact hv
    · rw [if_pos rfl, if_neg (by decide)]
      refine ⟨qs_uu, fun _ => ?_⟩
      dsimp only
      rw [(L _ kk_uu).2, (hw _ kk_uu).1, e9]
      unfold fX10_share
      rw [if_neg hn0]
      exact ⟨rfl, hv⟩
end T44b
