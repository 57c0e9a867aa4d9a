/-! THE PLAIN PART 16c: the fewest blocks by the table. -/
section T45c
variable {x x0 : gX} {q L n m k len w i j b o s t N : Nat} {v u : vSt} {a : Int64} {A : Ar} {p : Int32} {l : Nat → Nat}
theorem bt_t : ∀ s, s < 1024 → ∀ k, k < 10 → (bt (Int32.ofNat s) k = 1 ↔ s.testBit k = true) := by decide +kernel
theorem ones_t : ∀ s, s < 1024 → fX11_ones (Int32.ofNat s) = Int32.ofNat (pop 10 s) := by decide +kernel
theorem pop_10 : ∀ {N : Nat}, s < 2 ^ N → ∀ {M : Nat}, N ≤ M → pop M s = pop N s := by
  intro N hs M
  induction M with
  | zero => intro h; rw [show N = 0 by omega]
  | succ M ih =>
    intro h
    by_cases e : N = M + 1
    · rw [e]
    · show pop M s + _ = _
      have : s.testBit M = false := Nat.testBit_lt_two_pow (Nat.lt_of_lt_of_le hs (Nat.pow_le_pow_right (by decide) (by omega)))
      rw [this, if_neg (by decide), Nat.add_zero, ih (by omega)]
/-- the lengths of the blocks -/
def bL (A : Ar) (i : Nat) : Nat := (A (48 + 3 * i)).toNatClampNeg
theorem sS_n (hw : WF A) (hs : s < 1024) : ∀ {k : Nat}, k ≤ (A 204).toNatClampNeg → sSumN A (Int32.ofNat s) 0 k = Int32.ofNat (smL (bL A) k s)
  | 0, _ => rfl
  | k + 1, h => by
    have h10 := inn_lt hw.1.2.1
    show sSumN A (Int32.ofNat s) 0 k + (if bt (Int32.ofNat s) k = 1 then A (48 + 3 * k + 0) else 0) = Int32.ofNat (smL (bL A) k s + (if s.testBit k = true then bL A k else 0))
    rw [sS_n hw hs (k := k) (by omega)]
    have hb := bt_t s hs k (by omega)
    by_cases z : s.testBit k = true
    · rw [if_pos (hb.mpr z), if_pos z, ← of_add]
      congr 1
      show A (48 + 3 * k) = Int32.ofNat (A (48 + 3 * k)).toNatClampNeg
      exact (of_to (by have := (hw.2.2.1.1 k (by omega)).1; omega)).symm
    · rw [if_neg (mt hb.mp z), if_neg z, Int32.add_zero, Nat.add_zero]
theorem m_sumS (hw : WF (v 462)) (hs : s < 1024) : fX11_sum 461 (Int32.ofNat s) 0 v = Int32.ofNat (smL (bL (v 462)) (((v 462) 204).toNatClampNeg) s) := by
  rw [m_sum hw.1.2.1 (by decide)]
  exact sS_n hw hs (Nat.le_refl _)
theorem smL_le {M : Nat} (h : ∀ i, i < M → l i ≤ 5000) : smL l M s ≤ 5000 * M := by
  induction M with
  | zero => exact Nat.le_refl _
  | succ M ih =>
    show smL l M s + _ ≤ _
    have := ih (fun i hi => h i (by omega))
    have := h M (by omega)
    split <;> omega
theorem smL_0 : ∀ {M : Nat}, smL l M 0 = 0
  | 0 => rfl
  | M + 1 => by
    show smL l M 0 + (if Nat.testBit 0 M = true then l M else 0) = 0
    rw [smL_0, Nat.zero_testBit]
    rfl
theorem pop_z : ∀ {M : Nat}, pop M s = 0 → smL l M s = 0
  | 0, _ => rfl
  | M + 1, h => by
    have h : pop M s + (if s.testBit M = true then 1 else 0) = 0 := h
    show smL l M s + _ = 0
    by_cases z : s.testBit M = true
    · rw [if_pos z] at h; omega
    · rw [if_neg z] at h ⊢
      rw [pop_z (M := M) (by omega)]
/-- the set that the model's loop finds -/
theorem st_m (hw : WF (v 462)) (h0 : 0 < len) (hlen : len ≤ 15000) : ∀ fl s F (r : Int32), 1 ≤ s → s ≤ 2 ^ ((v 462) 204).toNatClampNeg → 2 ^ ((v 462) 204).toNatClampNeg < fl + s → F ≤ 6 →
    (∀ u, 1 ≤ u → u < s → smL (bL (v 462)) (((v 462) 204).toNatClampNeg) u = len → F ≤ pop 10 u) → ((F = 6 ∧ r = 0) ∨ ∃ t, 1 ≤ t ∧ t < 2 ^ ((v 462) 204).toNatClampNeg ∧ smL (bL (v 462)) (((v 462) 204).toNatClampNeg) t = len ∧ pop 10 t = F ∧ F ≤ 5 ∧ r = Int32.ofNat t) →
    ∃ F' r', lX11_stack_8 v 461 (Int32.ofNat len) fl (Int32.ofNat s) (Int32.ofNat F) r = r' ∧ F' ≤ 6 ∧ (∀ u, 1 ≤ u → u < 2 ^ ((v 462) 204).toNatClampNeg → smL (bL (v 462)) (((v 462) 204).toNatClampNeg) u = len → F' ≤ pop 10 u) ∧
      ((F' = 6 ∧ r' = 0) ∨ ∃ t, 1 ≤ t ∧ t < 2 ^ ((v 462) 204).toNatClampNeg ∧ smL (bL (v 462)) (((v 462) 204).toNatClampNeg) t = len ∧ pop 10 t = F' ∧ F' ≤ 5 ∧ r' = Int32.ofNat t) := by
  have hsh := sh_le hw.1.2.1
  have h1024 : 2 ^ ((v 462) 204).toNatClampNeg ≤ 1024 := by
    have := hsh.2.2
    exact this
  have esh : (1 <<< (v 462 204 &&& 31) : Int32) = Int32.ofNat (2 ^ ((v 462) 204).toNatClampNeg) := by
    apply Int32.toInt_inj.mp
    rw [hsh.2.1, of_ti (by omega)]
    exact (Int.natCast_pow 2 _).symm
  intro fl
  induction fl with
  | zero => intro s F r a1 a2 a3; omega
  | succ fl ih =>
    intro s F r a1 a2 a3 a4 a5 a6
    unfold lX11_stack_8
    rw [show (204 : Int32).toNatClampNeg = 204 from rfl, esh]
    have e1 := ofle (k := 2 ^ ((v 462) 204).toNatClampNeg) (n := s) (by omega) (by omega)
    by_cases hs : 2 ^ ((v 462) 204).toNatClampNeg ≤ s
    · rw [if_pos (e1.mpr hs)]
      exact ⟨F, r, rfl, a4, fun u u1 u2 u3 => a5 u u1 (by omega) u3, a6⟩
    rw [if_neg (mt e1.mp hs), ones_t s (by omega), m_sumS hw (by omega), of_S (by omega)]
    have hp := pop_le (s := s) (b := 10)
    have e2 := ofle (k := F) (n := pop 10 s) (by omega) (by omega)
    have hsm := smL_le (l := bL (v 462)) (s := s) (M := ((v 462) 204).toNatClampNeg) (fun i hi => by
      have := (hw.2.2.1.1 i hi).2
      have h1 := (hw.2.2.1.1 i hi).1
      have := rn_to (x := v 462 (48 + 3 * i)) (by omega)
      show (v 462 (48 + 3 * i)).toNatClampNeg ≤ 5000
      omega)
    have hB10 := inn_lt hw.1.2.1
    have e3 : Int32.ofNat (smL (bL (v 462)) (((v 462) 204).toNatClampNeg) s) = Int32.ofNat len ↔ smL (bL (v 462)) (((v 462) 204).toNatClampNeg) s = len := ⟨fun z => by
      have := congrArg Int32.toInt z
      rw [of_ti (by omega), of_ti (by omega)] at this
      omega, fun z => by rw [z]⟩
    dsimp only
    by_cases c1 : F ≤ pop 10 s
    · rw [if_pos (e2.mpr c1), if_pos rfl, if_pos rfl]
      exact ih (s + 1) F r (by omega) (by omega) (by omega) a4 (fun u u1 u2 u3 => by
        by_cases z : u = s
        · rw [z]; exact c1
        · exact a5 u u1 (by omega) u3) a6
    · rw [if_neg (mt e2.mp c1)]
      by_cases c2 : smL (bL (v 462)) (((v 462) 204).toNatClampNeg) s = len
      · rw [if_pos (e3.mpr c2), if_neg (by decide), if_neg (by decide)]
        exact ih (s + 1) (pop 10 s) (Int32.ofNat s) (by omega) (by omega) (by omega) (by omega) (fun u u1 u2 u3 => by
          by_cases z : u = s
          · rw [z]; exact Nat.le_refl _
          · have := a5 u u1 (by omega) u3; omega) (Or.inr ⟨s, a1, by omega, c2, rfl, by omega, rfl⟩)
      · rw [if_neg (mt e3.mp c2), if_pos rfl, if_pos rfl]
        exact ih (s + 1) F r (by omega) (by omega) (by omega) a4 (fun u u1 u2 u3 => by
          by_cases z : u = s
          · rw [z] at u3; exact absurd u3 c2
          · exact a5 u u1 (by omega) u3) a6
/-- the fewest blocks, as the model's set and as the table tell -/
theorem few_m (hw : WF (v 462)) (h0 : 0 < len) (hlen : len ≤ 15000) : ∃ F, 1 ≤ F ∧ F ≤ 6 ∧ (∀ n, n < F → TB (bL (v 462)) (((v 462) 204).toNatClampNeg) n len = false) ∧
    ((F = 6 ∧ fX11_stack 461 (Int32.ofNat len) v = 0) ∨ (F ≤ 5 ∧ TB (bL (v 462)) (((v 462) 204).toNatClampNeg) F len = true ∧ fX11_stack 461 (Int32.ofNat len) v ≠ 0 ∧ fX11_ones (fX11_stack 461 (Int32.ofNat len) v) = Int32.ofNat F)) := by
  have hsh := sh_le hw.1.2.1
  have h1024 : 2 ^ ((v 462) 204).toNatClampNeg ≤ 1024 := hsh.2.2
  have hpos : 0 < 2 ^ ((v 462) 204).toNatClampNeg := Nat.two_pow_pos _
  obtain ⟨F, r, e, f6, f1, f2⟩ := st_m hw h0 hlen ((Int32.toInt (1 <<< (v 462 204 &&& 31) : Int32) - Int32.toInt 1).toNat + 1) 1 6 0 (Nat.le_refl _) (by omega) (by
    have e2 : (1 <<< (v 462 204 &&& 31) : Int32).toInt = ((2 ^ ((v 462) 204).toNatClampNeg : Nat) : Int) := by rw [hsh.2.1]; exact (Int.natCast_pow 2 _).symm
    rw [e2, show Int32.toInt 1 = 1 from rfl]
    omega) (Nat.le_refl _) (fun u u1 u2 => by omega) (Or.inl ⟨rfl, rfl⟩)
  have e : fX11_stack 461 (Int32.ofNat len) v = r := e
  have hN : ((v 462) 204).toNatClampNeg ≤ 10 := by have := inn_lt hw.1.2.1; omega
  have noTB : ∀ n, n < F → TB (bL (v 462)) (((v 462) 204).toNatClampNeg) n len = false := fun n hn => by
    by_cases z : TB (bL (v 462)) (((v 462) 204).toNatClampNeg) n len = true
    · obtain ⟨u, u1, u2, u3⟩ := TB_s.mp z
      have : 1 ≤ u := by
        by_cases z : u = 0
        · rw [z, smL_0] at u3; omega
        · omega
      have := f1 u this u1 u3
      rw [pop_10 u1 hN] at this
      omega
    · exact Bool.eq_false_iff.mpr z
  rcases f2 with ⟨g1, g2⟩ | ⟨t, t1, t2, t3, t4, t5, t6⟩
  · exact ⟨F, by omega, f6, noTB, Or.inl ⟨g1, by rw [e, g2]⟩⟩
  · rw [pop_10 t2 hN] at t4
    have hT : TB (bL (v 462)) (((v 462) 204).toNatClampNeg) F len = true := TB_s.mpr ⟨t, t2, t4, t3⟩
    have hF : 1 ≤ F := by
      by_cases z : F = 0
      · rw [z] at t4
        have := pop_z (l := bL (v 462)) t4
        omega
      · omega
    refine ⟨F, hF, f6, noTB, Or.inr ⟨t5, hT, ?_, ?_⟩⟩
    · rw [e, t6]
      intro z
      have := congrArg Int32.toInt z
      rw [of_ti (by omega), show Int32.toInt 0 = 0 from rfl] at this
      omega
    · rw [e, t6, ones_t t (by omega), pop_10 t2 hN, t4]
theorem and1 {a : Int64} : a &&& 1 = 1 ↔ a.toBitVec.getLsbD 0 = true := by
  have h1 : ∀ i, i < 64 → (1 : Int64).toBitVec.getLsbD i = decide (i = 0) := by decide
  constructor
  · intro h
    have : (a &&& 1).toBitVec.getLsbD 0 = (1 : Int64).toBitVec.getLsbD 0 := by rw [h]
    rw [and_b, h1 0 (by decide)] at this
    simpa using this
  · intro h
    apply Int64.toBitVec_inj.mp
    apply BitVec.eq_of_getLsbD_eq
    intro i hi
    rw [and_b, h1 i hi]
    by_cases z : i = 0
    · rw [z, h]; rfl
    · rw [decide_eq_false z, Bool.and_false]
theorem cmp0 {a b : Int64} : lg_cmp a b = 0 ↔ a = b := by
  unfold lg_cmp
  by_cases z : a = b
  · rw [z, if_neg (by exact Int64.lt_irrefl), if_pos rfl]
    exact ⟨fun _ => rfl, fun _ => rfl⟩
  · by_cases z2 : a > b
    · rw [if_pos z2]; exact ⟨fun q => absurd q (by decide), fun q => absurd q z⟩
    · rw [if_neg z2, if_neg z]; exact ⟨fun q => absurd q (by decide), fun q => absurd q z⟩
theorem ff_t {F : Nat} (hlen : len ≤ 15000) (hF : 1 ≤ F) (hF6 : F ≤ 6) (hx : ∀ n, 1 ≤ n → n < 6 → bit x (455 + n) len = true → F ≤ n) (hx2 : F ≤ 5 → bit x (455 + F) len = true) : ∀ fl n, 1 ≤ n → n ≤ F → 6 < fl + n →
    olX6_fewestFor_15 (Int32.ofNat len) x fl (Int32.ofNat n) ∧ lX6_fewestFor_15 (Int32.ofNat len) x fl (Int32.ofNat n) = if F ≤ 5 then Int32.ofNat F else 0 := by
  have h1 : Int32.ofNat len / 64 = Int32.ofNat (len / 64) := by
    apply Int32.toInt_inj.mp
    rw [ti_div (by rw [of_ti (by omega)]; omega) (by decide), of_ti (by omega), of_ti (by omega)]
    rfl
  have h2 : Int32.ofNat len - Int32.ofNat (len / 64) * 64 = Int32.ofNat (len % 64) := by
    apply Int32.toInt_inj.mp
    have e : (Int32.ofNat (len / 64) * 64).toInt = ((len / 64 * 64 : Nat) : Int) := by
      rw [ti_mul (by rw [of_ti (by omega), show Int32.toInt 64 = 64 from rfl]; omega), of_ti (by omega), show Int32.toInt 64 = 64 from rfl]
      omega
    rw [ti_sub (by rw [e, of_ti (by omega)]; omega), e, of_ti (by omega), of_ti (by omega)]
    omega
  intro fl
  induction fl with
  | zero => intro n a1 a2 a3; omega
  | succ fl ih =>
    intro n a1 a2 a3
    unfold lX6_fewestFor_15 olX6_fewestFor_15
    have e1 := ofle (k := 6) (n := n) (by omega) (by omega)
    rw [show Int32.ofNat 6 = (6 : Int32) from rfl] at e1
    by_cases hn : 6 ≤ n
    · rw [if_pos (e1.mpr hn), if_neg (by omega)]
      exact ⟨fun z => absurd (e1.mpr hn) z, rfl⟩
    rw [if_neg (mt e1.mp hn), h1, h2, to_of (by omega), to_of (by omega), of_S (by omega)]
    have hb : lg_cmp (lsr (x.1 (455 + n) (len / 64)) (Int32.ofNat (len % 64)) &&& 1) 1 = 0 ↔ bit x (455 + n) len = true := by
      rw [cmp0, and1, lsr_b (by omega), Nat.add_zero]
      exact Iff.rfl
    have v1 : vp_in (Int32.ofNat n) 6 := by have := inn_of (show n < 6 by omega) (by decide); exact i_in this.1 this.2
    have v2 : vp_in (Int32.ofNat (len / 64)) 235 := by have := inn_of (show len / 64 < 235 by omega) (by decide); exact i_in this.1 this.2
    by_cases z : bit x (455 + n) len = true
    · have := hx n a1 (by omega) z
      rw [if_pos (hb.mpr z), if_pos (by omega), show n = F by omega]
      exact ⟨fun _ => ⟨by rw [← show n = F by omega]; exact v1, v2, fun q => absurd (by rw [← show n = F by omega]; exact hb.mpr z) q⟩, rfl⟩
    · rw [if_neg (mt hb.mp z)]
      have hne : n ≠ F := fun e => z (by rw [e]; exact hx2 (by omega))
      have rr := ih (n + 1) (by omega) (by omega) (by omega)
      exact ⟨fun _ => ⟨v1, v2, fun _ => rr.1⟩, rr.2⟩
theorem k462' : u2 v 461 8 0 462 = v 462 := u2_r (by decide)
theorem tab_t (hI : Inv n m v) (x : gX) : oX6_fill 453 (rN (v 448 0) + 1) v x ∧ (∀ n, n < 6 → ∀ L, L < 15040 → bit (fX6_fill 453 (rN (v 448 0) + 1) v x) (455 + n) L = (decide (L ≤ 15000) && TB (bL (v 462)) (((v 462) 204).toNatClampNeg) n L)) := by
  have hb10 := inn_lt hI.wf.1.2.1
  have F := fill_t (v := v) (x := x) (o := rN (v 448 0) + 1) (l := bL (v 462)) (N := ((v 462) 204).toNatClampNeg) (by rw [hI.sr.1.2.1]; exact (of_to hI.wf.1.2.1.1).symm) (fun b hb => by
    have h1 := hI.wf.2.2.1.1 b hb
    have h2 := rn_to (x := v 462 (48 + 3 * b)) (by omega)
    refine ⟨?_, by show (v 462 (48 + 3 * b)).toNatClampNeg ≤ 15000; omega⟩
    show v ((((rN (v 448 0)) + 1 + 3) + 20 + b)) 0 = _
    rw [(hI.sr.2.2.2.1 b hb).1]
    exact (of_to (by omega)).symm) (by omega)
  exact ⟨F.1, F.2.1⟩
theorem t_fewestBlocks (hI : Inv n m v) (x : gX) : oX10_fewestBlocks 448 p v x ∧ oX11_fewestBlocks 461 p v ∧ OQ v (fX10_fewestBlocks 448 p v x).1 (fX10_fewestBlocks 448 p v x).2.1 (fX11_fewestBlocks 461 p v) (cc3 (fX10_fewestBlocks 448 p v x).1) := by
  have hm : oX11_fewestBlocks 461 p v := ⟨stk_o11 hI, fun _ _ => ones_o _⟩
  have e0 : fX11_ones 0 = 0 := by decide +kernel
  unfold oX10_fewestBlocks fX10_fewestBlocks fX11_fewestBlocks fX11_toldStack fX10_needStackLength
  rw [in_rng]
  by_cases h1 : fX11_in p 1 15000 = 0
  · rw [if_pos h1, if_neg (show ¬ (1 : Nat) = 0 by decide), asks_0 h1]
    dsimp only
    rw [if_pos h1]
    exact ⟨fun q => absurd (show (1 : Nat) = 0 from q) (by decide), hm, qs_u2, fun q => absurd (show (1 : Nat) = 0 from q) (by decide)⟩
  have hr := in_iff.mp h1
  rw [show (1 : Int32).toInt = 1 from rfl, show (15000 : Int32).toInt = 15000 from rfl] at hr
  have hp := rn_to (x := p) (by omega)
  have ep : p = Int32.ofNat p.toNatClampNeg := (of_to (by omega)).symm
  obtain ⟨T1, T2⟩ := tab_t hI x
  obtain ⟨F, g1, g2, g3, g4⟩ := few_m (v := u2 v 461 8 0) (len := p.toNatClampNeg) (by rw [k462']; exact hI.wf) (by omega) (by omega)
  rw [k462'] at g3
  rw [k462', ← ep] at g4
  have FF := ff_t (x := fX6_fill 453 (rN (v 448 0) + 1) v x) (len := p.toNatClampNeg) (F := F) (by omega) g1 g2 (fun n h1 h2 h3 => by
    rw [T2 n h2 _ (by omega)] at h3
    by_cases z : n < F
    · rw [g3 n z] at h3; simp at h3
    · omega) (fun h5 => by
    rcases g4 with ⟨q1, _⟩ | ⟨_, q2, _⟩
    · omega
    · rw [T2 F (by omega) _ (by omega), q2, decide_eq_true (show p.toNatClampNeg ≤ 15000 by omega)]; rfl) 6 1 (Nat.le_refl _) g1 (by omega)
  rw [← ep] at FF
  have ef : fX6_fewestFor 453 p v (fX6_fill 453 (rN (v 448 0) + 1) v x) = if F ≤ 5 then Int32.ofNat F else 0 := by
    unfold fX6_fewestFor
    rw [in_rng, if_neg h1]
    exact FF.2
  rw [if_neg h1, if_pos rfl, asks_1 h1]
  dsimp only
  rw [if_neg h1, ef]
  refine ⟨fun _ => ⟨hI.1.1.1, T1, fun x4 e4 _ => by rw [e4]; exact FF.1⟩, hm, ?_⟩
  rcases g4 with ⟨q1, q2⟩ | ⟨q1, q2, q3, q4⟩
  · rw [if_neg (show ¬ F ≤ 5 by omega), if_pos rfl, q2, if_pos rfl]
    exact ⟨qs_uu, fun q => absurd (show (3 : Nat) = 0 from q) (by decide)⟩
  · have hF0 : ¬ Int32.ofNat F = 0 := fun z => by
      have := congrArg Int32.toInt z
      rw [of_ti (by omega), show Int32.toInt 0 = 0 from rfl] at this
      omega
    rw [if_pos q1, if_neg hF0, if_neg q3]
    refine ⟨qs_u2, fun _ => ?_⟩
    show Int32.ofNat F = fX11_ones (fX11_stack 461 p (u2 v 461 8 0))
    rw [q4]
end T45c
