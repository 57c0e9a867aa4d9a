/-! THE PLAIN PART 11f: the text. -/
section T40f
variable {n m m' : Nat} {u v w : vSt} {A A' : Ar} {z k p p1 p2 : Int32}
theorem cP_le {T : Ar} : ∀ i, cP T i ≤ i := by
  intro i
  induction i with
  | zero => exact Nat.le_refl _
  | succ i ih => unfold cP; split <;> omega
theorem cP_cg {T T' : Ar} : ∀ i, (∀ j, j < i → T' j = T j) → cP T' i = cP T i := by
  intro i
  induction i with
  | zero => intro _; rfl
  | succ i ih =>
    intro h
    unfold cP
    rw [ih (fun j hj => h j (by omega)), h i (by omega)]
/-- the text alone changes -/
theorem Inv.text (hI : Inv n m v) (h0 : ∀ q, q ≠ 448 → q ≠ 450 → q ≠ 461 → q ≠ 466 → w q = v q) (h1 : ∀ f, f ≠ 6 → w 448 f = v 448 f) (h2 : ∀ f, f ≠ 7 → f ≠ 8 → w 461 f = v 461 f)
    {nn : Nat} (hT : TX w) (hm : TL w ≤ m' ∧ m' ≤ nn ∧ m' ≤ 60) (hQ : ∀ A : Ar, (A 206).toNatClampNeg ≤ 20 → QB n m (TL v) (cP (v 466) (TL v)) A → QB nn m' (TL w) (cP (w 466) (TL w)) A) : Inv nn m' w := by
  obtain ⟨hR, hC, ⟨c1, c2⟩, ⟨k1, k2⟩, ⟨⟨x1, x2, x3⟩, x4, x5, x6⟩, hN, hH, hK⟩ := hI
  have e449 : w 449 = v 449 := h0 _ (by decide) (by decide) (by decide) (by decide)
  have e451 : w 451 = v 451 := h0 _ (by decide) (by decide) (by decide) (by decide)
  have e462 : w 462 = v 462 := h0 _ (by decide) (by decide) (by decide) (by decide)
  have e464 : w 464 = v 464 := h0 _ (by decide) (by decide) (by decide) (by decide)
  have sE : ∀ i, sl w i = sl v i := fun i => by unfold sl; rw [h0 465 (by decide) (by decide) (by decide) (by decide)]
  have e0 : rN (w 448 0) = rN (v 448 0) := by rw [h1 0 (by decide)]
  have hb : ∀ b, kd b = 7 → ∀ q, b ≤ q → q < b + 64 → w q = v q := fun b hb q h1 h2 => by have := kd7 hb; exact h0 q (by omega) (by omega) (by omega) (by omega)
  have go : ∀ b A, kd b = 7 → LIV n m v b A → LIV nn m' w b A := fun b A hk h =>
    ⟨h.1.fr hk (hb b hk) ⟨h.2.1.1.1, h.2.1.1.2.1, h.2.1.1.2.2.1⟩, h.2.1, h.2.2.1, hQ A (by have := inn_lt h.2.1.1.2.2.2.1; omega) h.2.2.2.1, h.2.2.2.2⟩
  refine ⟨by unfold RB; rw [e0, e449, e451]; exact hR, fun b hk => by have := kd7 hk; exact (hC b hk).fr ⟨hb b hk _ (by omega) (by omega), hb b hk _ (by omega) (by omega)⟩, ⟨by rw [h1 2 (by decide), h2 5 (by decide) (by decide)]; exact c1, by rw [h2 5 (by decide) (by decide)]; exact c2⟩, ⟨by rw [h1 4 (by decide), h2 3 (by decide) (by decide)]; exact k1, by rw [h2 3 (by decide) (by decide)]; exact k2⟩, ⟨hT, hm⟩, ?_, fun i hi => ?_, fun h => ?_⟩
  · rw [e0, e462]
    exact go _ _ hR.1.1 hN
  · rw [h2 5 (by decide) (by decide)] at hi
    rw [e449, sE]
    have hi4 : i < 4 := by have := inn_lt c2; omega
    exact go _ _ (hR.2.2.1 i hi4).1 (hH i hi)
  · rw [h2 3 (by decide) (by decide)] at h
    rw [e464]
    exact go _ _ (by decide) (hK h)
theorem m_ref8 {x : Int32} : mFa u (u2 (u2 u 461 8 x) 461 8 k) k := by
  refine ⟨fun q h1 _ => by rw [u2_r h1, u2_r h1], ?_, ?_, ?_, u2_s⟩ <;> rw [u2_q, if_neg (by decide), u2_q, if_neg (by decide)]
theorem gcR8 (hI : Inv n m v) {code : Nat} {cc : Nat → Int32} {x : Int32} (hc : code ≠ 0) (hk : cc code = k) : OKC n v code z v p (u2 (u2 v 461 8 x) 461 8 k) cc :=
  ⟨fun _ _ => rfl, Nat.le_refl _, (m_ref8 (u := v) (k := k) (x := x)).pot, by rw [u2_s, hk], fun q => absurd q hc, m, hI.refused m_ref8⟩
theorem chr_id (h1 : 32 ≤ p.toInt) (h2 : p.toInt ≤ 126) : (p.toUInt32 % 65536).toInt32 = p := by
  have h : ∀ k, k < 127 → ((Int32.ofNat k).toUInt32 % 65536).toInt32 = Int32.ofNat k := by decide +kernel
  have e : p = Int32.ofNat p.toNatClampNeg := Int32.toInt_inj.mp (by
    have := rn_to (x := p) (by omega)
    rw [of_ti (by omega)]
    omega)
  have := rn_to (x := p) (by omega)
  rw [e]
  exact h _ (by omega)
theorem QB.type {len a a' m' len' : Nat} (h : QB n m len a A) : QB n m' len' a' A := h
theorem QB.clear {len a : Nat} (h : QB n m len a A) (_hl : len ≤ m) (_hm : m ≤ n) (_hw : (A 206).toNatClampNeg ≤ 20) (_ha : a ≤ len) : QB (n + 1) m 0 0 A := by
  have h : (A 207).toNatClampNeg ≤ n := h
  show (A 207).toNatClampNeg ≤ n + 1
  omega
theorem t_type (hI : Inv n m v) : oX10_type 448 p1 v ∧ oX11_type 461 p1 (fX10_type 448 p1 v).2.2 ∧
    ((fX10_type 448 p1 v).1 = 0 → 60 ≤ n → (fX10_type 448 p1 v).2.1 = v 461 7 + 1 ∧ pot (fX10_type 448 p1 v).2.2 = pot v ∧ (∃ m', Inv n m' (fX11_type 461 p1 (fX10_type 448 p1 v).2.2).2) ∧ (∀ q, q ≠ 448 → q ≠ 450 → q ≠ 461 → q ≠ 466 → (fX11_type 461 p1 (fX10_type 448 p1 v).2.2).2 q = v q) ∧ (∀ f, f ≠ 7 → f ≠ 8 → (fX11_type 461 p1 (fX10_type 448 p1 v).2.2).2 461 f = v 461 f) ∧ (fX11_type 461 p1 (fX10_type 448 p1 v).2.2).2 461 7 = v 461 7 + 1 ∧ (∀ j, (fX11_type 461 p1 (fX10_type 448 p1 v).2.2).2 466 j = if j = (v 461 7).toNatClampNeg then p1 else v 466 j)) := by
  obtain ⟨⟨x1, x2, x3⟩, x4, x5, x6⟩ := hI.2.2.2.2.1
  have q7 : ∀ u : vSt, ∀ y, u2 u 461 8 y 461 7 = u 461 7 := fun u y => by rw [u2_q, if_neg (by decide)]
  unfold oX10_type kkX10_type fX10_type oX11_type fX11_type
  rw [in_rng, x1]
  by_cases h1 : fX11_in p1 32 126 = 0
  · rw [if_pos h1]
    dsimp only
    rw [if_pos h1]
    exact ⟨⟨fun _ => kk36, fun q => absurd h1 q⟩, fun v1 e1 q => absurd h1 q, fun q => absurd (show (1 : Nat) = 0 from q) (by decide)⟩
  by_cases h3 : ¬ v 461 7 < 60
  · have h6 : v 461 7 = 60 := Int32.toInt_inj.mp (by
      rw [Int32.lt_iff_toInt_lt, show (60 : Int32).toInt = 60 from rfl] at h3
      have := x2.2
      show _ = (60 : Int)
      omega)
    rw [if_neg h1, if_neg h3]
    dsimp only
    rw [q7, if_neg h1, if_pos h6]
    exact ⟨⟨fun q => absurd q h1, fun _ => ⟨fun q => absurd q h3, fun _ => kk36⟩⟩, fun v1 e1 _ q => absurd (by rw [e1, q7]; exact h6) q, fun q => absurd (show (2 : Nat) = 0 from q) (by decide)⟩
  have h3 := Decidable.not_not.mp h3
  have h36 : inn (v 461 7) 60 := ⟨x2.1, by
    rw [Int32.lt_iff_toInt_lt, show (60 : Int32).toInt = 60 from rfl] at h3
    omega⟩
  have h6 : ¬ v 461 7 = 60 := fun e => by rw [e] at h3; exact absurd h3 (by decide)
  have hk := in_iff.mp h1
  rw [show (32 : Int32).toInt = 32 from rfl, show (126 : Int32).toInt = 126 from rfl] at hk
  have hL := inn_lt h36
  obtain ⟨s1, s2⟩ := add1 h36 (by omega)
  rw [if_neg h1, if_pos h3, chr_id hk.1 hk.2]
  dsimp only
  have e1 : u2 v 450 (v 461 7).toNatClampNeg p1 448 6 = v 461 7 := by rw [u2_r (by decide)]; exact x1
  rw [e1]
  generalize hv6 : u2 (u2 v 450 (v 461 7).toNatClampNeg p1) 448 6 (v 461 7 + 1) = v6
  have e6 : v6 461 = v 461 := by rw [← hv6, u2_r (by decide), u2_r (by decide)]
  rw [q7, e6, if_neg h1, if_neg h6]
  have e7 : u2 (u2 v6 461 8 0) 466 (v 461 7).toNatClampNeg p1 461 7 = v 461 7 := by rw [u2_r (by decide), q7, e6]
  rw [e7]
  generalize hw : u2 (u2 (u2 v6 461 8 0) 466 (v 461 7).toNatClampNeg p1) 461 7 (v 461 7 + 1) = w
  have w0 : ∀ q, q ≠ 448 → q ≠ 450 → q ≠ 461 → q ≠ 466 → w q = v q := fun q a b c d => by rw [← hw, ← hv6, u2_r c, u2_r d, u2_r c, u2_r a, u2_r b]
  have w448 : ∀ f, f ≠ 6 → w 448 f = v 448 f := fun f hf => by rw [← hw, ← hv6, u2_r (by decide), u2_r (by decide), u2_r (by decide), u2_q, if_neg (by omega), u2_r (by decide)]
  have w4486 : w 448 6 = v 461 7 + 1 := by rw [← hw, ← hv6, u2_r (by decide), u2_r (by decide), u2_r (by decide), u2_s]
  have w450 : ∀ j, w 450 j = if j = (v 461 7).toNatClampNeg then p1 else v 450 j := fun j => by rw [← hw, ← hv6, u2_r (by decide), u2_r (by decide), u2_r (by decide), u2_r (by decide), u2_q]
  have w466 : ∀ j, w 466 j = if j = (v 461 7).toNatClampNeg then p1 else v 466 j := fun j => by rw [← hw, ← hv6, u2_r (by decide), u2_q, u2_r (by decide), u2_r (by decide), u2_r (by decide)]
  have w461 : ∀ f, f ≠ 7 → f ≠ 8 → w 461 f = v 461 f := fun f a b => by rw [← hw, u2_q, if_neg (by omega), u2_r (by decide), u2_q, if_neg (by omega), e6]
  have w4618 : w 461 8 = 0 := by rw [← hw, u2_q, if_neg (by decide), u2_r (by decide), u2_s]
  have w4617 : w 461 7 = v 461 7 + 1 := by rw [← hw, u2_s]
  have tl : TL w = TL v + 1 := by unfold TL; rw [w4617, s2]
  have tl0 : TL v = (v 461 7).toNatClampNeg := rfl
  have hpv : pot v6 = pot v := pot_cg (fun q hq => by rw [← hv6, u2_r (fun e => by rw [e] at hq; exact absurd hq (by decide)), u2_r (fun e => by rw [e] at hq; exact absurd hq (by decide))])
  have hpw : pot w = pot v6 := pot_cg (fun q hq => by rw [← hw, u2_r (fun e => by rw [e] at hq; exact absurd hq (by decide)), u2_r (fun e => by rw [e] at hq; exact absurd hq (by decide)), u2_r (fun e => by rw [e] at hq; exact absurd hq (by decide))])
  have hcp0 : cP (w 466) (TL v) = cP (v 466) (TL v) := cP_cg _ (fun j hj => by rw [w466, if_neg (by omega)])
  have hcp : cP (w 466) (TL w) = cP (v 466) (TL v) + (if w 466 (TL v) = 112 then 1 else 0) := by
    rw [tl]
    show cP (w 466) (TL v) + _ = _
    rw [hcp0]
  refine ⟨⟨fun q => absurd q h1, fun _ => ⟨fun _ => ⟨i_in h36.1 h36.2, by omega, by omega⟩, fun q => absurd h3 q⟩⟩, fun v1 e1 _ _ => ?_, fun _ hn => ⟨?_, hpv, ⟨(if m ≤ TL v then TL v + 1 else m), ?_⟩, w0, w461, w4617, w466⟩⟩
  · rw [e1, q7, e6]; exact i_in h36.1 h36.2
  · rw [← hv6, u2_s]
  · refine hI.text w0 w448 w461 ⟨by rw [w4486, w4617], by rw [w4617]; exact ⟨by have := h36.1; omega, by have := h36.2; omega⟩, fun i hi => ?_⟩ ⟨by rw [tl]; split <;> omega, by split <;> omega, by split <;> omega⟩ (fun A hA h => ?_)
    · rw [w450, w466]
      by_cases hi2 : i = (v 461 7).toNatClampNeg
      · rw [if_pos hi2, if_pos hi2]; exact ⟨rfl, hk⟩
      · rw [if_neg hi2, if_neg hi2]; exact x3 i (by omega)
    · rw [hcp, tl]
      exact QB.type h
theorem t_clearText (hI : Inv n m v) : OKC n v 0 (fX10_clearText 448 v).1 (fX10_clearText 448 v).2 (fX11_clearText 461 (fX10_clearText 448 v).2).1 (fX11_clearText 461 (fX10_clearText 448 v).2).2 Int32.ofNat := by
  obtain ⟨⟨x1, x2, x3⟩, x4, x5, x6⟩ := hI.2.2.2.2.1
  unfold fX10_clearText fX11_clearText
  dsimp only
  have q7 : ∀ u : vSt, ∀ y, u2 u 461 8 y 461 7 = u 461 7 := fun u y => by rw [u2_q, if_neg (by decide)]
  generalize hv6 : u2 v 448 6 0 = v6
  have e6 : v6 461 = v 461 := by rw [← hv6, u2_r (by decide)]
  rw [q7, e6]
  generalize hw : u2 (u2 v6 461 8 0) 461 7 0 = w
  have w0 : ∀ q, q ≠ 448 → q ≠ 450 → q ≠ 461 → q ≠ 466 → w q = v q := fun q a b c d => by rw [← hw, ← hv6, u2_r c, u2_r c, u2_r a]
  have w448 : ∀ f, f ≠ 6 → w 448 f = v 448 f := fun f hf => by rw [← hw, ← hv6, u2_r (by decide), u2_r (by decide), u2_q, if_neg (by omega)]
  have w4486 : w 448 6 = 0 := by rw [← hw, ← hv6, u2_r (by decide), u2_r (by decide), u2_s]
  have w461 : ∀ f, f ≠ 7 → f ≠ 8 → w 461 f = v 461 f := fun f a b => by rw [← hw, u2_q, if_neg (by omega), u2_q, if_neg (by omega), e6]
  have w4618 : w 461 8 = 0 := by rw [← hw, u2_q, if_neg (by decide), u2_s]
  have w4617 : w 461 7 = 0 := by rw [← hw, u2_s]
  have tl : TL w = 0 := by unfold TL; rw [w4617]; rfl
  have hpv : pot v6 = pot v := pot_cg (fun q hq => by rw [← hv6, u2_r (fun e => by rw [e] at hq; exact absurd hq (by decide))])
  have hpw : pot w = pot v6 := pot_cg (fun q hq => by rw [← hw, u2_r (fun e => by rw [e] at hq; exact absurd hq (by decide)), u2_r (fun e => by rw [e] at hq; exact absurd hq (by decide))])
  refine ⟨fun q hq => by rw [← hv6, u2_r (by omega)], Nat.le_of_eq hpv.symm, hpw, w4618, fun _ => x1, m, hI.text w0 w448 w461 ⟨by rw [w4486, w4617], by rw [w4617]; decide, fun i hi => by rw [tl] at hi; exact absurd hi (Nat.not_lt_zero _)⟩ ⟨by omega, by omega, x6⟩ (fun A hA h => ?_)⟩
  rw [tl]
  exact QB.clear h x4 x5 hA (cP_le _)
end T40f
