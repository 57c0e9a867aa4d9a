/-! THE PLAIN PART 3: pieces and their queues. -/
theorem pc_int {t d x : Int32} (ht : inn t 8) (hd : -15000 ≤ d.toInt ∧ d.toInt ≤ 1000) (hx : inn x 2) : (fX11_piece t d x).toInt = ((d.toInt + 20000) * 8 + t.toInt) * 2 + x.toInt := by
  have z1 : (20000 : Int32).toInt = 20000 := rfl
  have z2 : (8 : Int32).toInt = 8 := rfl
  have z3 : (2 : Int32).toInt = 2 := rfl
  have t0 := ht.1
  have t1 := ht.2
  have x0 := hx.1
  have x1 := hx.2
  have e1 : (d + 20000).toInt = d.toInt + 20000 := ti_add (by omega)
  have e2 : ((d + 20000) * 8).toInt = (d.toInt + 20000) * 8 := by rw [ti_mul (by rw [e1, z2]; omega), e1, z2]
  have e3 : ((d + 20000) * 8 + t).toInt = (d.toInt + 20000) * 8 + t.toInt := by rw [ti_add (by rw [e2]; omega), e2]
  have e4 : (((d + 20000) * 8 + t) * 2).toInt = ((d.toInt + 20000) * 8 + t.toInt) * 2 := by rw [ti_mul (by rw [e3, z3]; omega), e3, z3]
  show ((((d + 20000) * 8 + t) * 2) + x).toInt = _
  rw [ti_add (by rw [e4]; omega), e4]
theorem pc_dec {t d x : Int32} (ht : inn t 8) (hd : -15000 ≤ d.toInt ∧ d.toInt ≤ 1000) (hx : inn x 2) :
    fX11_typeOf (fX11_piece t d x) = t ∧ fX11_deviationOf (fX11_piece t d x) = d ∧ fX11_piece t d x - fX11_piece t d x / 2 * 2 = x := by
  have z1 : (20000 : Int32).toInt = 20000 := rfl
  have z2 : (8 : Int32).toInt = 8 := rfl
  have z3 : (2 : Int32).toInt = 2 := rfl
  have z4 : (16 : Int32).toInt = 16 := rfl
  have t0 := ht.1
  have t1 := ht.2
  have x0 := hx.1
  have x1 := hx.2
  have e := pc_int ht hd hx
  generalize fX11_piece t d x = p at e ⊢
  have e2 : (p / 2).toInt = (d.toInt + 20000) * 8 + t.toInt := by rw [ti_div (by omega) (by decide), e, z3]; omega
  have e8 : (p / 2 / 8).toInt = d.toInt + 20000 := by rw [ti_div (by omega) (by decide), e2, z2]; omega
  have e16 : (p / 16).toInt = d.toInt + 20000 := by rw [ti_div (by omega) (by decide), e, z4]; omega
  refine ⟨Int32.toInt_inj.mp ?_, Int32.toInt_inj.mp ?_, Int32.toInt_inj.mp ?_⟩
  · have e9 : (p / 2 / 8 * 8).toInt = (d.toInt + 20000) * 8 := by rw [ti_mul (by rw [e8, z2]; omega), e8, z2]
    show (p / 2 - p / 2 / 8 * 8).toInt = _
    rw [ti_sub (by rw [e9, e2]; omega), e9, e2]
    omega
  · show (p / 16 - 20000).toInt = _
    rw [ti_sub (by rw [e16, z1]; omega), e16, z1]
    omega
  · have e9 : (p / 2 * 2).toInt = ((d.toInt + 20000) * 8 + t.toInt) * 2 := by rw [ti_mul (by rw [e2, z3]; omega), e2, z3]
    rw [ti_sub (by rw [e9, e]; omega), e9, e]
    omega
theorem pot_f {b : Nat} {v v' : vSt} (hb : kd b = 7) (hf : ∀ q, q ≠ (b + 2 + 5) → (kd q = 5 ∨ kd q = 15) → v' q 4 = v q 4) : pot v' + 7 * rN (v ((b + 2 + 5)) 4) = pot v + 7 * rN (v' ((b + 2 + 5)) 4) := by
  unfold pot
  rcases kd7 hb with e | e | e | e | e | e | e <;> subst e <;> simp only [Nat.reduceAdd] at hf ⊢
  · rw [hf 6 (by omega) (by decide), hf 70 (by omega) (by decide), hf 71 (by omega) (by decide), hf 134 (by omega) (by decide), hf 135 (by omega) (by decide), hf 198 (by omega) (by decide), hf 199 (by omega) (by decide), hf 262 (by omega) (by decide), hf 263 (by omega) (by decide), hf 326 (by omega) (by decide), hf 327 (by omega) (by decide), hf 390 (by omega) (by decide), hf 391 (by omega) (by decide)]; omega
  · rw [hf 6 (by omega) (by decide), hf 70 (by omega) (by decide), hf 7 (by omega) (by decide), hf 134 (by omega) (by decide), hf 135 (by omega) (by decide), hf 198 (by omega) (by decide), hf 199 (by omega) (by decide), hf 262 (by omega) (by decide), hf 263 (by omega) (by decide), hf 326 (by omega) (by decide), hf 327 (by omega) (by decide), hf 390 (by omega) (by decide), hf 391 (by omega) (by decide)]; omega
  · rw [hf 6 (by omega) (by decide), hf 70 (by omega) (by decide), hf 71 (by omega) (by decide), hf 134 (by omega) (by decide), hf 7 (by omega) (by decide), hf 198 (by omega) (by decide), hf 199 (by omega) (by decide), hf 262 (by omega) (by decide), hf 263 (by omega) (by decide), hf 326 (by omega) (by decide), hf 327 (by omega) (by decide), hf 390 (by omega) (by decide), hf 391 (by omega) (by decide)]; omega
  · rw [hf 6 (by omega) (by decide), hf 70 (by omega) (by decide), hf 71 (by omega) (by decide), hf 134 (by omega) (by decide), hf 135 (by omega) (by decide), hf 198 (by omega) (by decide), hf 7 (by omega) (by decide), hf 262 (by omega) (by decide), hf 263 (by omega) (by decide), hf 326 (by omega) (by decide), hf 327 (by omega) (by decide), hf 390 (by omega) (by decide), hf 391 (by omega) (by decide)]; omega
  · rw [hf 6 (by omega) (by decide), hf 70 (by omega) (by decide), hf 71 (by omega) (by decide), hf 134 (by omega) (by decide), hf 135 (by omega) (by decide), hf 198 (by omega) (by decide), hf 199 (by omega) (by decide), hf 262 (by omega) (by decide), hf 7 (by omega) (by decide), hf 326 (by omega) (by decide), hf 327 (by omega) (by decide), hf 390 (by omega) (by decide), hf 391 (by omega) (by decide)]; omega
  · rw [hf 6 (by omega) (by decide), hf 70 (by omega) (by decide), hf 71 (by omega) (by decide), hf 134 (by omega) (by decide), hf 135 (by omega) (by decide), hf 198 (by omega) (by decide), hf 199 (by omega) (by decide), hf 262 (by omega) (by decide), hf 263 (by omega) (by decide), hf 326 (by omega) (by decide), hf 7 (by omega) (by decide), hf 390 (by omega) (by decide), hf 391 (by omega) (by decide)]; omega
  · rw [hf 6 (by omega) (by decide), hf 70 (by omega) (by decide), hf 71 (by omega) (by decide), hf 134 (by omega) (by decide), hf 135 (by omega) (by decide), hf 198 (by omega) (by decide), hf 199 (by omega) (by decide), hf 262 (by omega) (by decide), hf 263 (by omega) (by decide), hf 326 (by omega) (by decide), hf 327 (by omega) (by decide), hf 390 (by omega) (by decide), hf 7 (by omega) (by decide)]; omega
section Q32
variable {v : vSt} {b q : Nat} {A : Ar} {w : Int32}
theorem ofrN {x : Int32} (h : 0 ≤ x.toInt) : Int32.ofNat (rN x) = x := of_to h
/-- there is room: nothing is made -/
theorem mr_no (h : 0 ≤ (v q 4).toInt) (hw : w.toInt ≤ (v q 4).toInt) : fX5_makeRoom q w v = v ∧ oX5_makeRoom q w v := by
  have e : w ≤ Int32.ofNat (rN (v q 4)) := by rw [ofrN h, Int32.le_iff_toInt_le]; exact hw
  constructor
  · unfold fX5_makeRoom; rw [if_pos e]
  · unfold oX5_makeRoom; exact fun n => absurd e n
theorem cpF_lo {g : Ar} {n0 : Nat} {n : Int32} {i : Nat} (h0 : n0 < 2 ^ 31) (hn : (n0 : Int) ≤ n.toInt) (hi : i < n0) : cpF g n0 n i = g i := by
  unfold cpF va_cpy
  have e : (if n < Int32.ofNat n0 then n else Int32.ofNat n0 : Int32) = Int32.ofNat n0 := if_neg (by rw [Int32.lt_iff_toInt_lt, of_ti h0]; omega)
  rw [e, to_of h0, show (0 : Int32).toNatClampNeg = 0 from rfl, if_pos ⟨Nat.zero_le _, by omega⟩]
  congr 1
  omega
/-- the queue of pieces to be filed: its rows are made longer -/
theorem mr_f (hb : kd b = 7) (hc : CP v b) (hw : 0 ≤ w.toInt ∧ w.toInt ≤ 3200) : ∃ v', v' = fX5_makeRoom ((b + 2 + 5)) w v ∧ (∀ r, r ≠ (b + 2 + 5) → (r < b + 11 ∨ b + 14 ≤ r) → v' r = v r) ∧ v' ((b + 2 + 5)) 3 = v ((b + 2 + 5)) 3 ∧ CP v' b ∧ (v ((b + 2 + 5)) 4).toInt ≤ (v' ((b + 2 + 5)) 4).toInt ∧ w.toInt ≤ (v' ((b + 2 + 5)) 4).toInt ∧
    (∀ e i : Nat, e < 3 → (i : Int) < (v ((b + 2 + 5)) 4).toInt → v' (b + 11 + e) i = v (b + 11 + e) i) ∧ oX5_makeRoom ((b + 2 + 5)) w v ∧ pot v ≤ pot v' := by
  obtain ⟨hcw, c0, c1, c5, c6, c7⟩ := hc
  have h0 : 0 ≤ (v ((b + 2 + 5)) 4).toInt := by omega
  by_cases hle : w.toInt ≤ (v ((b + 2 + 5)) 4).toInt
  · obtain ⟨e1, e2⟩ := mr_no h0 hle
    exact ⟨v, e1.symm, fun _ _ _ => rfl, rfl, ⟨hcw, c0, c1, c5, c6, c7⟩, Int.le_refl _, hle, fun _ _ _ _ => rfl, e2, Nat.le_refl _⟩
  have hn : ¬ w ≤ Int32.ofNat (rN (v ((b + 2 + 5)) 4)) := by rw [ofrN h0, Int32.le_iff_toInt_le]; exact hle
  have h16 : w ≤ 16384 := by rw [Int32.le_iff_toInt_le, show (16384 : Int32).toInt = 16384 from rfl]; omega
  have z2 : (2 : Int32).toInt = 2 := rfl
  have e2c : (2 * v ((b + 2 + 5)) 4).toInt = 2 * (v ((b + 2 + 5)) 4).toInt := by rw [ti_mul (by rw [z2]; omega), z2]
  have hi16 : (if 2 * Int32.ofNat (rN (v ((b + 2 + 5)) 4)) < 16384 then 2 * Int32.ofNat (rN (v ((b + 2 + 5)) 4)) else 16384 : Int32) = 2 * v ((b + 2 + 5)) 4 := by
    rw [ofrN h0, if_pos (by rw [Int32.lt_iff_toInt_lt, e2c, show (16384 : Int32).toInt = 16384 from rfl]; omega)]
  have hy : ∃ y : Int32, (if w < (if 2 * Int32.ofNat (rN (v ((b + 2 + 5)) 4)) < 16384 then 2 * Int32.ofNat (rN (v ((b + 2 + 5)) 4)) else 16384 : Int32) then (if 2 * Int32.ofNat (rN (v ((b + 2 + 5)) 4)) < 16384 then 2 * Int32.ofNat (rN (v ((b + 2 + 5)) 4)) else 16384 : Int32) else w : Int32) = y ∧ 2 * (v ((b + 2 + 5)) 4).toInt ≤ y.toInt ∧ w.toInt ≤ y.toInt ∧ y.toInt ≤ 6400 := by
    refine ⟨_, rfl, ?_⟩
    rw [hi16]
    by_cases hc : w < 2 * v ((b + 2 + 5)) 4
    · rw [if_pos hc]
      have := i_lt hc
      rw [e2c] at this ⊢
      omega
    · rw [if_neg hc]
      have := i_nlt hc
      rw [e2c] at this
      omega
  obtain ⟨y, ey, y1, y2, y3⟩ := hy
  have hcF := chF hb
  have yr : (rN y : Int) = y.toInt := i_rN (by omega)
  have cr : (rN (v ((b + 2 + 5)) 4) : Int) = (v ((b + 2 + 5)) 4).toInt := i_rN h0
  have yo : Int32.ofNat (rN y) = y := ofrN (by omega)
  have hne : ∀ x : Int32, x = v ((b + 2 + 5)) 4 → ¬ y = Int32.ofNat (rN x) := fun x hx q => by
    rw [hx, ofrN h0] at q
    rw [q] at y1
    omega
  have hx1 : ∀ (n : Nat) (f : Ar), uG v ((b + 2 + 5)) 0 n f ((b + 2 + 5)) 5 = v ((b + 2 + 5)) 5 := fun n f => by
    unfold uG; rw [u2_q, if_neg (by omega), uA_n (by rw [hcF]; omega)]
  have hx2 : ∀ (n n' : Nat) (f f' : Ar), uG (uG v ((b + 2 + 5)) 0 n f) ((b + 2 + 5)) 1 n' f' ((b + 2 + 5)) 6 = v ((b + 2 + 5)) 6 := fun n n' f f' => by
    unfold uG; rw [u2_q, if_neg (by omega), uA_n (by rw [hcF]; omega), u2_q, if_neg (by omega), uA_n (by rw [hcF]; omega)]
  have ef : fX5_makeRoom ((b + 2 + 5)) w v = uG (uG (uG v ((b + 2 + 5)) 0 (rN y) (cpF (v (chP ((b + 2 + 5)))) (rN (v ((b + 2 + 5)) 4)) y)) ((b + 2 + 5)) 1 (rN y) (cpF (uG v ((b + 2 + 5)) 0 (rN y) (cpF (v (chP ((b + 2 + 5)))) (rN (v ((b + 2 + 5)) 4)) y) (chP ((b + 2 + 5)) + 1)) (rN (v ((b + 2 + 5)) 5)) y)) ((b + 2 + 5)) 2 (rN y) (cpF (uG (uG v ((b + 2 + 5)) 0 (rN y) (cpF (v (chP ((b + 2 + 5)))) (rN (v ((b + 2 + 5)) 4)) y)) ((b + 2 + 5)) 1 (rN y) (cpF (uG v ((b + 2 + 5)) 0 (rN y) (cpF (v (chP ((b + 2 + 5)))) (rN (v ((b + 2 + 5)) 4)) y) (chP ((b + 2 + 5)) + 1)) (rN (v ((b + 2 + 5)) 5)) y) (chP ((b + 2 + 5)) + 2)) (rN (v ((b + 2 + 5)) 6)) y) := by
    unfold fX5_makeRoom
    rw [if_neg hn, if_pos h16]
    simp only []
    rw [ey, hx1, hx2]
  have g4 : fX5_makeRoom ((b + 2 + 5)) w v ((b + 2 + 5)) 4 = y := by
    rw [ef]
    unfold uG
    rw [u2_q, if_neg (by omega), uA_n (by rw [hcF]; omega), u2_q, if_neg (by omega), uA_n (by rw [hcF]; omega), u2_q, if_pos rfl, yo]
  have g5 : fX5_makeRoom ((b + 2 + 5)) w v ((b + 2 + 5)) 5 = y := by
    rw [ef]
    unfold uG
    rw [u2_q, if_neg (by omega), uA_n (by rw [hcF]; omega), u2_q, if_pos rfl, yo]
  have g6 : fX5_makeRoom ((b + 2 + 5)) w v ((b + 2 + 5)) 6 = y := by
    rw [ef]
    unfold uG
    rw [u2_q, if_pos rfl, yo]
  have g3 : fX5_makeRoom ((b + 2 + 5)) w v ((b + 2 + 5)) 3 = v ((b + 2 + 5)) 3 := by
    rw [ef]
    unfold uG
    rw [u2_q, if_neg (by omega), uA_n (by rw [hcF]; omega), u2_q, if_neg (by omega), uA_n (by rw [hcF]; omega), u2_q, if_neg (by omega), uA_n (by rw [hcF]; omega)]
  have go : ∀ r, r ≠ (b + 2 + 5) → (r < b + 11 ∨ b + 14 ≤ r) → fX5_makeRoom ((b + 2 + 5)) w v r = v r := by
    intro r h1 h2
    rw [ef]
    unfold uG
    rw [u2_r h1, uA_n (by rw [hcF]; omega), u2_r h1, uA_n (by rw [hcF]; omega), u2_r h1, uA_n (by rw [hcF]; omega)]
  have gr : ∀ e i : Nat, e < 3 → (i : Int) < (v ((b + 2 + 5)) 4).toInt → fX5_makeRoom ((b + 2 + 5)) w v (b + 11 + e) i = v (b + 11 + e) i := by
    intro e i he hi
    rw [ef]
    unfold uG
    rw [hcF]
    have he : e = 0 ∨ e = 1 ∨ e = 2 := by omega
    rcases he with rfl | rfl | rfl
    · rw [u2_r (by omega), uA_n (by omega), u2_r (by omega), uA_n (by omega), u2_r (by omega), uA_s, cpF_lo (by omega) (by omega) (by omega)]
    · rw [u2_r (by omega), uA_n (by omega), u2_r (by omega), uA_s, u2_r (by omega), uA_n (by omega), c5, cpF_lo (by omega) (by omega) (by omega)]
    · rw [u2_r (by omega), uA_s, u2_r (by omega), uA_n (by omega), u2_r (by omega), uA_n (by omega), c6, cpF_lo (by omega) (by omega) (by omega)]
  have hpot := pot_f (v := v) (v' := fX5_makeRoom ((b + 2 + 5)) w v) hb (fun q hq hk => by
    by_cases h : b + 11 ≤ q ∧ q < b + 14
    · refine absurd hk ?_
      have : ∀ r, r < 470 → kd r = 7 → ∀ e, e < 3 → ¬ (kd (r + 11 + e) = 5 ∨ kd (r + 11 + e) = 15) := by decide +kernel
      have := this b (kd_lt (by rw [hb]; decide)) hb (q - (b + 11)) (by omega)
      rw [show b + 11 + (q - (b + 11)) = q by omega] at this
      exact this
    · rw [go q hq (by omega)])
  rw [g4] at hpot
  refine ⟨_, rfl, go, g3, ?_, by rw [g4]; omega, by rw [g4]; omega, gr, ?_, by omega⟩
  · unfold CP
    rw [go ((b + 2 + 4)) (by omega) (by omega), g4, g5, g6, g3]
    exact ⟨hcw, by omega, by omega, rfl, rfl, by omega⟩
  · unfold oX5_makeRoom
    intro _ _ y3' e3
    rw [ey] at e3
    subst e3
    have hkk : kkX5_makeRoom ((b + 2 + 5)) w v = 7 * rN y3' - 7 * rN (v ((b + 2 + 5)) 4) := by
      unfold kkX5_makeRoom
      omega
    refine ⟨hne _ rfl, ⟨by omega, by omega⟩, by omega, fun v7 e7 => ⟨?_, by omega, fun v10 e10 => ⟨?_, by omega⟩⟩⟩
    · rw [e7, hx1]; exact hne _ c5
    · rw [e10, e7, hx2]; exact hne _ c6
end Q32
