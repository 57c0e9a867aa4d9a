/-! THE PLAIN PART 19a: the law's cases by their shapes. -/
def CS (n K : Nat) (o : Nat → Prop) (w : vSt) : Prop := ∃ c1, o c1 ∧ c1 ≤ K + pot w + 36 * (n + 1) ∧ ∃ m', Inv (n + 1) m' w
section T48a
variable {n m K c0 d : Nat} {v : vSt} {oL : Prop} {kkL : Nat} {fL : Int32 × vSt × gX} {o11 : vSt → Prop} {f11 : vSt → Int32 × vSt}
theorem cp_le {b : Nat} (h : CP v b) : rN (v (b + 6) 4) + rN (v (b + 7) 4) ≤ 6420 := by
  obtain ⟨⟨h1, _, _⟩, h2, h3, _⟩ := h
  have h1' : v (b + 6) 4 = 20 := h1
  have h2' : 20 ≤ (v (b + 7) 4).toInt := h2
  have h3' : (v (b + 7) 4).toInt ≤ 6400 := h3
  have e1 : rN (v (b + 6) 4) = 20 := by rw [h1']; rfl
  have e2 : rN (v (b + 7) 4) = (v (b + 7) 4).toInt.toNat := rfl
  omega
theorem pot_le (hI : Inv n m v) : pot v ≤ 314580 := by
  have c0 := cp_le (hI.2.1 0 (by decide))
  have c1 := cp_le (hI.2.1 64 (by decide))
  have c2 := cp_le (hI.2.1 128 (by decide))
  have c3 := cp_le (hI.2.1 192 (by decide))
  have c4 := cp_le (hI.2.1 256 (by decide))
  have c5 := cp_le (hI.2.1 320 (by decide))
  have c6 := cp_le (hI.2.1 384 (by decide))
  unfold pot
  simp only [Nat.zero_add, Nat.reduceAdd] at c0 c1 c2 c3 c4 c5 c6
  omega
theorem csC (L : LC0 n v oL kkL fL o11 f11) (hn : n ≤ 511) (hK : K ≤ 268012) (hc : c0 ≤ K + pot v + 36 * n) :
    CS n K (fun c1 => oL ∧ c0 ≤ 601024 ∧ c0 + kkL ≤ 601024 ∧ (∀ v4 : vSt, v4 = fL.2.1 → ∀ x5 : gX, x5 = fL.2.2 → (o11 v4 ∧ ∀ v7 : vSt, v7 = (f11 v4).2 → (((fX11_thrown 461 v7 : Int32) = fL.1 → (((fL.1 : Int32) = 0 → (((lg_cmp (x5.1 468 (0 : Int32).toNatClampNeg) ((f11 v4).1.toInt64) : Int32) = 0 → c0 + kkL ≤ c1) ∧ (¬ (lg_cmp (x5.1 468 (0 : Int32).toNatClampNeg) ((f11 v4).1.toInt64) : Int32) = 0 → False))) ∧ (¬ (fL.1 : Int32) = 0 → c0 + kkL ≤ c1))) ∧ (¬ (fX11_thrown 461 v7 : Int32) = fL.1 → False))))) (f11 fL.2.1).2 := by
  obtain ⟨h1, h2, h3, ⟨m', h4⟩, h5⟩ := L
  have hp := pot_le h4
  refine ⟨c0 + kkL, ⟨h1, by omega, by omega, fun v4 e4 x5 e5 => ?_⟩, by omega, m', h4⟩
  rw [e4]
  refine ⟨h2, fun v7 e7 => ?_⟩
  rw [e7]
  exact h3 _ (Nat.le_refl _) x5 e5
theorem csCy (L : LC0 n v oL kkL fL o11 f11) (hn : n ≤ 511) (hK : K ≤ 268012) (hc : c0 ≤ K + pot v + 36 * n) :
    CS n K (fun c1 => oL ∧ c0 ≤ 601024 ∧ c0 + kkL ≤ 601024 ∧ (∀ v4 : vSt, v4 = fL.2.1 → ∀ x5 : gX, x5 = fL.2.2 → ∀ y6 : Int32, y6 = fL.1 → (o11 v4 ∧ ∀ v8 : vSt, v8 = (f11 v4).2 → ∀ y9 : Int32, y9 = (f11 v4).1 → (((fX11_thrown 461 v8 : Int32) = y6 → (((y6 : Int32) = 0 → (((lg_cmp (x5.1 468 (0 : Int32).toNatClampNeg) (y9.toInt64) : Int32) = 0 → c0 + kkL ≤ c1) ∧ (¬ (lg_cmp (x5.1 468 (0 : Int32).toNatClampNeg) (y9.toInt64) : Int32) = 0 → False))) ∧ (¬ (y6 : Int32) = 0 → c0 + kkL ≤ c1))) ∧ (¬ (fX11_thrown 461 v8 : Int32) = y6 → False))))) (f11 fL.2.1).2 := by
  obtain ⟨h1, h2, h3, ⟨m', h4⟩, h5⟩ := L
  have hp := pot_le h4
  refine ⟨c0 + kkL, ⟨h1, by omega, by omega, fun v4 e4 x5 e5 => ?_⟩, by omega, m', h4⟩
  rw [e4]
  intro y6 e6
  refine ⟨h2, fun v8 e8 y9 e9 => ?_⟩
  rw [e8, e6, e9]
  exact h3 _ (Nat.le_refl _) x5 e5
theorem csQ (hd : d ≤ 36) (L : LQ n m v oL fL o11 f11) (hn : n ≤ 511) (hK : K ≤ 268012) (hc : c0 ≤ K + pot v + 36 * n) (hI : Inv n m v) :
    CS n K (fun c1 => oL ∧ c0 ≤ 601024 ∧ c0 + d ≤ 601024 ∧ (∀ v4 : vSt, v4 = fL.2.1 → ∀ x5 : gX, x5 = fL.2.2 → (o11 v4 ∧ ∀ v7 : vSt, v7 = (f11 v4).2 → (((fX11_thrown 461 v7 : Int32) = fL.1 → (((fL.1 : Int32) = 0 → (((lg_cmp (x5.1 468 (0 : Int32).toNatClampNeg) ((f11 v4).1.toInt64) : Int32) = 0 → c0 + d ≤ c1) ∧ (¬ (lg_cmp (x5.1 468 (0 : Int32).toNatClampNeg) ((f11 v4).1.toInt64) : Int32) = 0 → False))) ∧ (¬ (fL.1 : Int32) = 0 → c0 + d ≤ c1))) ∧ (¬ (fX11_thrown 461 v7 : Int32) = fL.1 → False))))) (f11 fL.2.1).2 := by
  obtain ⟨h1, h0, h2, h3, h4, h5⟩ := L
  have hp := pot_le hI
  rw [h0]
  refine ⟨c0 + d, ⟨h1, by omega, by omega, fun v4 e4 x5 e5 => ?_⟩, by omega, m, h4⟩
  rw [e4]
  refine ⟨h2, fun v7 e7 => ?_⟩
  rw [e7]
  exact h3 _ (Nat.le_refl _) x5 e5
theorem csQy (hd : d ≤ 36) (L : LQ n m v oL fL o11 f11) (hn : n ≤ 511) (hK : K ≤ 268012) (hc : c0 ≤ K + pot v + 36 * n) (hI : Inv n m v) :
    CS n K (fun c1 => oL ∧ c0 ≤ 601024 ∧ c0 + d ≤ 601024 ∧ (∀ v4 : vSt, v4 = fL.2.1 → ∀ x5 : gX, x5 = fL.2.2 → ∀ y6 : Int32, y6 = fL.1 → (o11 v4 ∧ ∀ v8 : vSt, v8 = (f11 v4).2 → ∀ y9 : Int32, y9 = (f11 v4).1 → (((fX11_thrown 461 v8 : Int32) = y6 → (((y6 : Int32) = 0 → (((lg_cmp (x5.1 468 (0 : Int32).toNatClampNeg) (y9.toInt64) : Int32) = 0 → c0 + d ≤ c1) ∧ (¬ (lg_cmp (x5.1 468 (0 : Int32).toNatClampNeg) (y9.toInt64) : Int32) = 0 → False))) ∧ (¬ (y6 : Int32) = 0 → c0 + d ≤ c1))) ∧ (¬ (fX11_thrown 461 v8 : Int32) = y6 → False))))) (f11 fL.2.1).2 := by
  obtain ⟨h1, h0, h2, h3, h4, h5⟩ := L
  have hp := pot_le hI
  rw [h0]
  refine ⟨c0 + d, ⟨h1, by omega, by omega, fun v4 e4 x5 e5 => ?_⟩, by omega, m, h4⟩
  rw [e4]
  intro y6 e6
  refine ⟨h2, fun v8 e8 y9 e9 => ?_⟩
  rw [e8, e6, e9]
  exact h3 _ (Nat.le_refl _) x5 e5
theorem csB (hd : d ≤ 36) (L : LB n m v oL fL o11 f11) (hn : n ≤ 511) (hK : K ≤ 268012) (hc : c0 ≤ K + pot v + 36 * n) (hI : Inv n m v) :
    CS n K (fun c1 => oL ∧ c0 ≤ 601024 ∧ c0 + d ≤ 601024 ∧ (∀ v4 : vSt, v4 = fL.2.1 → ∀ x5 : gX, x5 = fL.2.2 → (o11 v4 ∧ ∀ v7 : vSt, v7 = (f11 v4).2 → (((fX11_thrown 461 v7 : Int32) = fL.1 → (((fL.1 : Int32) = 0 → ((((f11 v4).1 : Int32) = 0 → (((lg_cmp (x5.1 468 (0 : Int32).toNatClampNeg) 0 : Int32) = 0 → c0 + d ≤ c1) ∧ (¬ (lg_cmp (x5.1 468 (0 : Int32).toNatClampNeg) 0 : Int32) = 0 → False))) ∧ (¬ ((f11 v4).1 : Int32) = 0 → (((lg_cmp (x5.1 468 (0 : Int32).toNatClampNeg) 1 : Int32) = 0 → c0 + d ≤ c1) ∧ (¬ (lg_cmp (x5.1 468 (0 : Int32).toNatClampNeg) 1 : Int32) = 0 → False))))) ∧ (¬ (fL.1 : Int32) = 0 → c0 + d ≤ c1))) ∧ (¬ (fX11_thrown 461 v7 : Int32) = fL.1 → False))))) (f11 fL.2.1).2 := by
  obtain ⟨h1, h0, h2, h3, h4, h5⟩ := L
  have hp := pot_le hI
  rw [h0]
  refine ⟨c0 + d, ⟨h1, by omega, by omega, fun v4 e4 x5 e5 => ?_⟩, by omega, m, h4⟩
  rw [e4]
  refine ⟨h2, fun v7 e7 => ?_⟩
  rw [e7]
  exact h3 _ (Nat.le_refl _) x5 e5
theorem csF {f11 : vSt → UInt32 × vSt} (hd : d ≤ 36) (L : LF n m v oL fL o11 f11) (hn : n ≤ 511) (hK : K ≤ 268012) (hc : c0 ≤ K + pot v + 36 * n) (hI : Inv n m v) :
    CS n K (fun c1 => oL ∧ c0 ≤ 601024 ∧ c0 + d ≤ 601024 ∧ (∀ v4 : vSt, v4 = fL.2.1 → ∀ x5 : gX, x5 = fL.2.2 → (o11 v4 ∧ ∀ v7 : vSt, v7 = (f11 v4).2 → (((fX11_thrown 461 v7 : Int32) = fL.1 → (((fL.1 : Int32) = 0 → ((vf_n64 (FP.f2d ((f11 v4).1))) ∧ (((Op.cmpValue (FP.dcmp (x5.2 (0 : Int32).toNatClampNeg) (FP.f2d ((f11 v4).1))) .l : Int32) = 0 → c0 + d ≤ c1) ∧ (¬ (Op.cmpValue (FP.dcmp (x5.2 (0 : Int32).toNatClampNeg) (FP.f2d ((f11 v4).1))) .l : Int32) = 0 → False)))) ∧ (¬ (fL.1 : Int32) = 0 → c0 + d ≤ c1))) ∧ (¬ (fX11_thrown 461 v7 : Int32) = fL.1 → False))))) (f11 fL.2.1).2 := by
  obtain ⟨h1, h0, h2, h3, h4, h5⟩ := L
  have hp := pot_le hI
  rw [h0]
  refine ⟨c0 + d, ⟨h1, by omega, by omega, fun v4 e4 x5 e5 => ?_⟩, by omega, m, h4⟩
  rw [e4]
  refine ⟨h2, fun v7 e7 => ?_⟩
  rw [e7]
  exact h3 _ (Nat.le_refl _) x5 e5
theorem csP {o10 : Prop} {z : Int32} (L : o10 ∧ o11 v ∧ OQ v 0 z (f11 v) 0) (hn : n ≤ 511) (hK : K ≤ 268012) (hc : c0 ≤ K + pot v + 36 * n) (hI : Inv n m v) :
    CS n K (fun c1 => o10 ∧ c0 ≤ 601024 ∧ (o11 v ∧ ∀ v4 : vSt, v4 = (f11 v).2 → ((z = (f11 v).1 → c0 ≤ c1) ∧ (¬ z = (f11 v).1 → False)))) (f11 v).2 := by
  obtain ⟨o1, o2, ok⟩ := L
  have hp := pot_le hI
  have e := ok.1.pot
  exact ⟨c0, ⟨o1, by omega, o2, fun v4 _ => ⟨fun _ => Nat.le_refl _, fun h => h (ok.2 rfl)⟩⟩, by omega, m, hI.asked ok.1⟩
end T48a
