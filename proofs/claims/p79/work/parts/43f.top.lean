/-! THE PLAIN PART 14f: lengths are thrown out of a chart. -/
section T43f
variable {n m : Nat} {v w v2 : vSt} {A B R F : Ar} {z k p p2 p3 y tol mid : Int32} {s c i j b q r : Nat}
def aB (d : Int32) : Int32 := if 0 ≤ d then d else 0 - d
/-- the entries from s on that are near the middle, put together -/
def fS (s : Nat) (tol mid : Int32) (B : Ar) : Nat → Nat × Ar
  | 0 => (0, B)
  | i + 1 => if tol < aB ((fS s tol mid B i).2 (s + i) - mid) then fS s tol mid B i else ((fS s tol mid B i).1 + 1, st (fS s tol mid B i).2 (s + (fS s tol mid B i).1) ((fS s tol mid B i).2 (s + i)))
theorem fS_le : ∀ {i : Nat}, (fS s tol mid B i).1 ≤ i
  | 0 => Nat.le_refl _
  | i + 1 => by
    have := fS_le (i := i)
    unfold fS
    split
    · omega
    · dsimp only; omega
theorem fS_o : ∀ {i j : Nat}, (j < s ∨ s + i ≤ j) → (fS s tol mid B i).2 j = B j
  | 0, _, _ => rfl
  | i + 1, j, h => by
    have h1 := fS_le (s := s) (tol := tol) (mid := mid) (B := B) (i := i)
    have h2 := fS_o (i := i) (j := j) (by omega)
    unfold fS
    split
    · exact h2
    · dsimp only
      rw [st_n (by omega)]
      exact h2
theorem fS_sim (h : ∀ j, j < c → R j = B (s + j)) : ∀ {i : Nat}, i ≤ c → (fS 0 tol mid R i).1 = (fS s tol mid B i).1 ∧ ∀ j, j < c → (fS 0 tol mid R i).2 j = (fS s tol mid B i).2 (s + j)
  | 0, _ => ⟨rfl, h⟩
  | i + 1, hi => by
    obtain ⟨h1, h2⟩ := fS_sim h (i := i) (by omega)
    have h3 := h2 i (by omega)
    have h4 := fS_le (s := s) (tol := tol) (mid := mid) (B := B) (i := i)
    unfold fS
    rw [Nat.zero_add, h3, h1]
    by_cases q : tol < aB ((fS s tol mid B i).2 (s + i) - mid)
    · rw [if_pos q, if_pos q]; exact ⟨h1, h2⟩
    · rw [if_neg q, if_neg q]
      dsimp only
      refine ⟨rfl, fun j hj => ?_⟩
      rw [Nat.zero_add]
      by_cases e : j = (fS s tol mid B i).1
      · rw [e, st_s, st_s]
      · rw [st_n e, st_n (by omega)]; exact h2 j hj
theorem fS_rng {P : Int32 → Prop} (h : ∀ j, j < c → P (B (s + j))) : ∀ {i : Nat}, i ≤ c → ∀ j, j < c → P ((fS s tol mid B i).2 (s + j))
  | 0, _ => h
  | i + 1, hi => by
    have h2 := fS_rng h (i := i) (by omega)
    intro j hj
    unfold fS
    split
    · exact h2 j hj
    · dsimp only
      by_cases e : s + j = s + (fS s tol mid B i).1
      · rw [e, st_s]; exact h2 i (by omega)
      · rw [st_n e]; exact h2 j hj
/-- zeros behind them -/
def zF (s y : Nat) (B : Ar) : Nat → Ar
  | 0 => B
  | n + 1 => st (zF s y B n) (s + y + n) 0
theorem zF_o {y : Nat} : ∀ {n j : Nat}, (j < s + y ∨ s + y + n ≤ j) → zF s y B n j = B j
  | 0, _, _ => rfl
  | n + 1, j, h => by
    show st (zF s y B n) (s + y + n) 0 j = _
    rw [st_n (by omega)]
    exact zF_o (by omega)
theorem zF_i {y : Nat} : ∀ {n j : Nat}, s + y ≤ j → j < s + y + n → zF s y B n j = 0
  | 0, j, h1, h2 => by omega
  | n + 1, j, h1, h2 => by
    show st (zF s y B n) (s + y + n) 0 j = _
    by_cases e : j = s + y + n
    · rw [e, st_s]
    · rw [st_n e]; exact zF_i h1 (by omega)
def sThrow (A : Ar) (k c : Nat) (tol mid : Int32) : Ar := st (zF ((78 + 21 * k + 9)) (fS ((78 + 21 * k + 9)) tol mid A c).1 (fS ((78 + 21 * k + 9)) tol mid A c).2 (c - (fS ((78 + 21 * k + 9)) tol mid A c).1)) ((78 + 21 * k + 8)) (Int32.ofNat (fS ((78 + 21 * k + 9)) tol mid A c).1)
theorem aBf {d : Int32} : (if 0 ≤ d then d else 0 - d : Int32) = aB d := rfl
theorem u2uA {f : Ar} {k : Nat} : u2 (uA v r f) r k y = uA v r (st f k y) := by
  funext a b
  unfold u2 uA st
  by_cases h : a = r
  · by_cases h2 : b = k
    · simp [h, h2]
    · simp [h, h2]
  · simp [h]
/-- the class's loop -/
theorem th_c (h12 : c ≤ 12) (e9 : v r 9 = Int32.ofNat c) (hm : (fX4_middleInOrder r v).1 = mid) : ∀ fl i, i ≤ c → c < fl + i →
    olX4_throwOutOfChart_24 v r tol fl (Int32.ofNat i) (Int32.ofNat (fS 0 tol mid (v (r + 10)) i).1) (uA v (r + 10) (fS 0 tol mid (v (r + 10)) i).2) ∧
    lX4_throwOutOfChart_24 v r tol fl (Int32.ofNat i) (Int32.ofNat (fS 0 tol mid (v (r + 10)) i).1) (uA v (r + 10) (fS 0 tol mid (v (r + 10)) i).2) = (Int32.ofNat (fS 0 tol mid (v (r + 10)) c).1, uA v (r + 10) (fS 0 tol mid (v (r + 10)) c).2) := by
  intro fl
  induction fl with
  | zero => intro i h1 h2; omega
  | succ fl ih =>
    intro i h1 h2
    unfold lX4_throwOutOfChart_24 olX4_throwOutOfChart_24
    rw [e9, hm]
    have e1 := ofle (k := c) (n := i) (by omega) (by omega)
    by_cases hc : c ≤ i
    · rw [if_pos (e1.mpr hc)]
      exact ⟨fun x => absurd (e1.mpr hc) x, by rw [show i = c by omega]⟩
    have hl := fS_le (s := 0) (tol := tol) (mid := mid) (B := v (r + 10)) (i := i)
    have i1 : vp_in (Int32.ofNat i) 12 := by have := inn_of (show i < 12 by omega) (by decide); exact i_in this.1 this.2
    have i2 : vp_in (Int32.ofNat (fS 0 tol mid (v (r + 10)) i).1) 12 := by have := inn_of (show (fS 0 tol mid (v (r + 10)) i).1 < 12 by omega) (by decide); exact i_in this.1 this.2
    rw [if_neg (mt e1.mp hc), if_neg (ncap12 (k := i) (by omega)), uA_s, to_of (show i < 2 ^ 31 by omega), to_of (show (fS 0 tol mid (v (r + 10)) i).1 < 2 ^ 31 by omega), of_S (by omega), of_S (by omega), u2uA]
    have hS : fS 0 tol mid (v (r + 10)) (i + 1) = if tol < aB ((fS 0 tol mid (v (r + 10)) i).2 i - mid) then fS 0 tol mid (v (r + 10)) i else ((fS 0 tol mid (v (r + 10)) i).1 + 1, st (fS 0 tol mid (v (r + 10)) i).2 (fS 0 tol mid (v (r + 10)) i).1 ((fS 0 tol mid (v (r + 10)) i).2 i)) := by
      show (if tol < aB ((fS 0 tol mid (v (r + 10)) i).2 (0 + i) - mid) then fS 0 tol mid (v (r + 10)) i else ((fS 0 tol mid (v (r + 10)) i).1 + 1, st (fS 0 tol mid (v (r + 10)) i).2 (0 + (fS 0 tol mid (v (r + 10)) i).1) ((fS 0 tol mid (v (r + 10)) i).2 (0 + i)))) = _
      rw [Nat.zero_add, Nat.zero_add]
    have r2 := ih (i + 1) (by omega) (by omega)
    rw [hS] at r2
    rw [aBf]
    by_cases q : tol < aB ((fS 0 tol mid (v (r + 10)) i).2 i - mid)
    · rw [if_pos q] at r2
      rw [if_pos q]
      dsimp only
      refine ⟨fun _ _ => ⟨i1, fun q2 => absurd q q2, fun y8 v9 e8 e9 => ?_⟩, r2.2⟩
      rw [e8, e9]
      exact r2.1
    · rw [if_neg q] at r2
      rw [if_neg q]
      dsimp only at r2 ⊢
      refine ⟨fun _ _ => ⟨i1, fun _ => i2, fun y8 v9 e8 e9 => ?_⟩, r2.2⟩
      rw [e8, e9]
      exact r2.1
theorem sz_aB {d : Int32} : fX11_size d = aB d := by
  unfold fX11_size aB
  rw [show (0 : Int32) - d = -d from by grind]
theorem mo_laysC {x : Int32} (hk : inn p 5) (hq : inn x 12) : oX11_lays 461 p (9 + x) y w := mo_lays hk (i9 hq)
/-- the model's two loops -/
theorem th_m (hk : inn p 5) (h12 : c ≤ 12) (h8 : fX11_of 461 p 8 v2 = Int32.ofNat c) (hm : 0 < c → fX11_middle 461 p v2 = mid) (ht : v2 462 209 = tol) : ∀ fl i, i ≤ c → c < fl + i →
    olX11_throwOut_38 461 p v2 fl (Int32.ofNat i) (Int32.ofNat (fS ((78 + 21 * p.toNatClampNeg + 9)) tol mid (v2 462) i).1) (uA v2 462 (fS ((78 + 21 * p.toNatClampNeg + 9)) tol mid (v2 462) i).2) ∧
    lX11_throwOut_38 461 p v2 fl (Int32.ofNat i) (Int32.ofNat (fS ((78 + 21 * p.toNatClampNeg + 9)) tol mid (v2 462) i).1) (uA v2 462 (fS ((78 + 21 * p.toNatClampNeg + 9)) tol mid (v2 462) i).2) = (Int32.ofNat (fS ((78 + 21 * p.toNatClampNeg + 9)) tol mid (v2 462) c).1, uA v2 462 (fS ((78 + 21 * p.toNatClampNeg + 9)) tol mid (v2 462) c).2) := by
  have hk5 := inn_lt hk
  intro fl
  induction fl with
  | zero => intro i h1 h2; omega
  | succ fl ih =>
    intro i h1 h2
    unfold lX11_throwOut_38 olX11_throwOut_38
    rw [h8]
    have e1 := ofle (k := c) (n := i) (by omega) (by omega)
    by_cases hc : c ≤ i
    · rw [if_pos (e1.mpr hc)]
      exact ⟨fun x => absurd (e1.mpr hc) x, by rw [show i = c by omega]⟩
    have hl := fS_le (s := (78 + 21 * p.toNatClampNeg + 9)) (tol := tol) (mid := mid) (B := v2 462) (i := i)
    have o9 := fS_o (s := (78 + 21 * p.toNatClampNeg + 9)) (tol := tol) (mid := mid) (B := v2 462) (i := i) (j := 209) (by omega)
    rw [ht] at o9
    rw [if_neg (mt e1.mp hc), m_onChart hk (inn_of (show i < 12 by omega) (by decide)), hm (by omega), m_laysC hk (inn_of (show (fS ((78 + 21 * p.toNatClampNeg + 9)) tol mid (v2 462) i).1 < 12 by omega) (by decide)), uA_s, to_of (show i < 2 ^ 31 by omega), to_of (show (fS ((78 + 21 * p.toNatClampNeg + 9)) tol mid (v2 462) i).1 < 2 ^ 31 by omega), of_S (by omega), of_S (by omega), uu, show (209 : Int32).toNatClampNeg = 209 from rfl, o9, sz_aB]
    have r2 := ih (i + 1) (by omega) (by omega)
    have hS : fS ((78 + 21 * p.toNatClampNeg + 9)) tol mid (v2 462) (i + 1) = if tol < aB ((fS ((78 + 21 * p.toNatClampNeg + 9)) tol mid (v2 462) i).2 ((78 + 21 * p.toNatClampNeg + (9 + i))) - mid) then fS ((78 + 21 * p.toNatClampNeg + 9)) tol mid (v2 462) i else ((fS ((78 + 21 * p.toNatClampNeg + 9)) tol mid (v2 462) i).1 + 1, st (fS ((78 + 21 * p.toNatClampNeg + 9)) tol mid (v2 462) i).2 ((78 + 21 * p.toNatClampNeg + (9 + (fS ((78 + 21 * p.toNatClampNeg + 9)) tol mid (v2 462) i).1))) ((fS ((78 + 21 * p.toNatClampNeg + 9)) tol mid (v2 462) i).2 ((78 + 21 * p.toNatClampNeg + (9 + i))))) := by
      show (if tol < aB ((fS ((78 + 21 * p.toNatClampNeg + 9)) tol mid (v2 462) i).2 ((78 + 21 * p.toNatClampNeg + 9) + i) - mid) then fS ((78 + 21 * p.toNatClampNeg + 9)) tol mid (v2 462) i else ((fS ((78 + 21 * p.toNatClampNeg + 9)) tol mid (v2 462) i).1 + 1, st (fS ((78 + 21 * p.toNatClampNeg + 9)) tol mid (v2 462) i).2 ((78 + 21 * p.toNatClampNeg + 9) + (fS ((78 + 21 * p.toNatClampNeg + 9)) tol mid (v2 462) i).1) ((fS ((78 + 21 * p.toNatClampNeg + 9)) tol mid (v2 462) i).2 ((78 + 21 * p.toNatClampNeg + 9) + i)))) = _
      rw [show (78 + 21 * p.toNatClampNeg + 9) + i = (78 + 21 * p.toNatClampNeg + (9 + i)) by omega, show (78 + 21 * p.toNatClampNeg + 9) + (fS ((78 + 21 * p.toNatClampNeg + 9)) tol mid (v2 462) i).1 = (78 + 21 * p.toNatClampNeg + (9 + (fS ((78 + 21 * p.toNatClampNeg + 9)) tol mid (v2 462) i).1)) by omega]
    rw [hS] at r2
    generalize hgx : (fS ((78 + 21 * p.toNatClampNeg + 9)) tol mid (v2 462) i).2 ((78 + 21 * p.toNatClampNeg + (9 + i))) = gx at *
    generalize hgy : (fS ((78 + 21 * p.toNatClampNeg + 9)) tol mid (v2 462) i).1 = gy at *
    have oc : oX11_onChart 461 p (Int32.ofNat i) (uA v2 462 (fS ((78 + 21 * p.toNatClampNeg + 9)) tol mid (v2 462) i).2) := mo_onChart hk (inn_of (show i < 12 by omega) (by decide))
    have ol : ∀ y w, oX11_lays 461 p (9 + Int32.ofNat gy) y w := fun y w => mo_laysC hk (inn_of (show gy < 12 by omega) (by decide))
    by_cases q : tol < aB (gx - mid)
    · rw [if_pos q] at r2
      rw [if_pos q]
      dsimp only
      rw [hgy] at r2
      exact ⟨fun _ => ⟨oc, vL (by decide), fun q2 => absurd q q2, fun y8 v9 e8 e9 => by rw [e8, e9]; exact r2.1⟩, r2.2⟩
    · rw [if_neg q] at r2
      rw [if_neg q]
      dsimp only at r2 ⊢
      exact ⟨fun _ => ⟨oc, vL (by decide), fun _ => ol _ _, fun y8 v9 e8 e9 => by rw [e8, e9]; exact r2.1⟩, r2.2⟩
theorem th_z (hk : inn p 5) (h12 : c ≤ 12) (h8 : fX11_of 461 p 8 v2 = Int32.ofNat c) {y0 : Nat} {B : Ar} : ∀ fl i, y0 + i ≤ c → c < fl + (y0 + i) →
    olX11_throwOut_96 461 p v2 fl (Int32.ofNat (y0 + i)) (uA v2 462 (zF ((78 + 21 * p.toNatClampNeg + 9)) y0 B i)) ∧
    lX11_throwOut_96 461 p v2 fl (Int32.ofNat (y0 + i)) (uA v2 462 (zF ((78 + 21 * p.toNatClampNeg + 9)) y0 B i)) = uA v2 462 (zF ((78 + 21 * p.toNatClampNeg + 9)) y0 B (c - y0)) := by
  intro fl
  induction fl with
  | zero => intro i h1 h2; omega
  | succ fl ih =>
    intro i h1 h2
    unfold lX11_throwOut_96 olX11_throwOut_96
    rw [h8]
    have e1 := ofle (k := c) (n := y0 + i) (by omega) (by omega)
    by_cases hc : c ≤ y0 + i
    · rw [if_pos (e1.mpr hc)]
      exact ⟨fun x => absurd (e1.mpr hc) x, by rw [show i = c - y0 by omega]⟩
    rw [if_neg (mt e1.mp hc), m_laysC hk (inn_of (show y0 + i < 12 by omega) (by decide)), uA_s, to_of (show y0 + i < 2 ^ 31 by omega), of_S (by omega), uu]
    have r2 := ih (i + 1) (by omega) (by omega)
    have e : zF ((78 + 21 * p.toNatClampNeg + 9)) y0 B (i + 1) = st (zF ((78 + 21 * p.toNatClampNeg + 9)) y0 B i) ((78 + 21 * p.toNatClampNeg + (9 + (y0 + i)))) 0 := by
      show st (zF ((78 + 21 * p.toNatClampNeg + 9)) y0 B i) ((78 + 21 * p.toNatClampNeg + 9) + y0 + i) 0 = _
      rw [show (78 + 21 * p.toNatClampNeg + 9) + y0 + i = (78 + 21 * p.toNatClampNeg + (9 + (y0 + i))) by omega]
    rw [e, show y0 + (i + 1) = y0 + i + 1 by omega] at r2
    dsimp only
    exact ⟨fun _ => ⟨mo_laysC hk (inn_of (show y0 + i < 12 by omega) (by decide)), fun v22 e22 => by rw [e22]; exact r2.1⟩, r2.2⟩
/-- on the class's block -/
theorem c_throw (hb : kd b = 7) (h : SR v b A) (hw : WF A) {k : Nat} (hk : k < (A 205).toNatClampNeg) (hmid : mid = (fX4_middleInOrder (((b + 2 + 3) + 31 + k)) v).1) (hc : A ((78 + 21 * k + 8)) = Int32.ofNat c) (h12 : c ≤ 12) :
    SR (fX4_throwOutOfChart (((b + 2 + 3) + 31 + k)) tol v).2 b (sThrow A k c tol mid) ∧ (fX4_throwOutOfChart (((b + 2 + 3) + 31 + k)) tol v).1 = Int32.ofNat (c - (fS ((78 + 21 * k + 9)) tol mid A c).1) ∧ (∀ q, q ≠ ((b + 2 + 3) + 31 + k) → q ≠ ((b + 2 + 3) + 31 + k) + 10 → (fX4_throwOutOfChart (((b + 2 + 3) + 31 + k)) tol v).2 q = v q) ∧ oX4_throwOutOfChart (((b + 2 + 3) + 31 + k)) tol v ∧ WF (sThrow A k c tol mid) ∧ (∀ j, (j < (78 + 21 * k + 8) ∨ (78 + 21 * k + 21) ≤ j) → sThrow A k c tol mid j = A j) := by
  have hY5 := inn_lt hw.1.2.2.1
  obtain ⟨⟨y0, y1, y2, y3, y4, y5, y7, y9⟩, yB, yC⟩ := h.2.2.2.2.1 k hk
  obtain ⟨w0, w1, w2', w3, w4, w5, w6, w7, w8, w9⟩ := hw.2.2.2.1.1 k hk
  have e9 : v (((b + 2 + 3) + 31 + k)) 9 = Int32.ofNat c := by rw [y9]; exact hc
  have yC' : ∀ j, j < c → v (((b + 2 + 3) + 31 + k) + 10) j = A ((78 + 21 * k + 9) + j) := fun j hj => by
    rw [yC j (by rw [hc, to_of (by omega)]; exact hj), show (78 + 21 * k + (9 + j)) = (78 + 21 * k + 9) + j by omega]
  have L := th_c (tol := tol) h12 e9 hmid.symm ((Int32.toInt (Int32.ofNat c) - Int32.toInt 0).toNat + 1) 0 (by omega) (by rw [of_ti (by omega), show Int32.toInt 0 = 0 from rfl]; omega)
  rw [show fS 0 tol mid (v (((b + 2 + 3) + 31 + k) + 10)) 0 = (0, v (((b + 2 + 3) + 31 + k) + 10)) from rfl, show Int32.ofNat 0 = (0 : Int32) from rfl, show uA v (((b + 2 + 3) + 31 + k) + 10) ((0 : Nat), v (((b + 2 + 3) + 31 + k) + 10)).2 = v from uI] at L
  have S := fS_sim (tol := tol) (mid := mid) yC' (Nat.le_refl c)
  have hl := fS_le (s := (78 + 21 * k + 9)) (tol := tol) (mid := mid) (B := A) (i := c)
  have eF : fX4_throwOutOfChart (((b + 2 + 3) + 31 + k)) tol v = (Int32.ofNat (c - (fS ((78 + 21 * k + 9)) tol mid A c).1), u2 (uA v (((b + 2 + 3) + 31 + k) + 10) (fS 0 tol mid (v (((b + 2 + 3) + 31 + k) + 10)) c).2) (((b + 2 + 3) + 31 + k)) 9 (Int32.ofNat (fS ((78 + 21 * k + 9)) tol mid A c).1)) := by
    unfold fX4_throwOutOfChart
    rw [e9, show (fX4_middleInOrder (((b + 2 + 3) + 31 + k)) v).2 = v from rfl]
    dsimp only
    rw [L.2]
    dsimp only
    rw [S.1]
    congr 1
    apply Int32.toInt_inj.mp
    rw [ti_sub (by rw [of_ti (by omega), of_ti (by omega)]; omega), of_ti (by omega), of_ti (by omega), of_ti (by omega)]
    omega
  have hT8 : sThrow A k c tol mid ((78 + 21 * k + 8)) = Int32.ofNat (fS ((78 + 21 * k + 9)) tol mid A c).1 := st_s
  have hTo : ∀ j, (j < (78 + 21 * k + 8) ∨ (78 + 21 * k + 21) ≤ j) → sThrow A k c tol mid j = A j := fun j hj => by
    unfold sThrow
    rw [st_n (by omega), zF_o (by omega), fS_o (by omega)]
  have hT9 : ∀ i, i < (fS ((78 + 21 * k + 9)) tol mid A c).1 → sThrow A k c tol mid ((78 + 21 * k + (9 + i))) = (fS ((78 + 21 * k + 9)) tol mid A c).2 ((78 + 21 * k + 9) + i) := fun i hi => by
    unfold sThrow
    rw [st_n (by omega), zF_o (by omega), show (78 + 21 * k + (9 + i)) = (78 + 21 * k + 9) + i by omega]
  have hr : ∀ q, q ≠ ((b + 2 + 3) + 31 + k) → q ≠ ((b + 2 + 3) + 31 + k) + 10 → (fX4_throwOutOfChart (((b + 2 + 3) + 31 + k)) tol v).2 q = v q := fun q h1 h2 => by
    rw [eF]
    show u2 _ _ _ _ q = _
    rw [u2_r h1, uA_n h2]
  refine ⟨h.setY hb hw (t := k) (by omega) (fun q h1 _ h3 => hr q h1 h3) (fun j hj => hTo j (by omega)) ?_, by rw [eF], hr, ?_, hw.setY hk (fun j hj => hTo j (by omega)) (hTo _ (by omega)) ?_, hTo⟩
  · rw [eF]
    dsimp only
    rw [u2_r (show ((b + 2 + 3) + 31 + k) + 5 ≠ ((b + 2 + 3) + 31 + k) by omega), u2_r (show ((b + 2 + 3) + 31 + k) + 10 ≠ ((b + 2 + 3) + 31 + k) by omega), uA_n (show ((b + 2 + 3) + 31 + k) + 5 ≠ ((b + 2 + 3) + 31 + k) + 10 by omega), uA_s]
    unfold yR
    rw [hT8, hTo _ (by omega), hTo _ (by omega), hTo _ (by omega), hTo _ (by omega), hTo _ (by omega), hTo _ (by omega), hTo _ (by omega), hTo _ (by omega)]
    have f8 : ∀ f, f ≠ 9 → u2 (uA v (((b + 2 + 3) + 31 + k) + 10) (fS 0 tol mid (v (((b + 2 + 3) + 31 + k) + 10)) c).2) (((b + 2 + 3) + 31 + k)) 9 (Int32.ofNat (fS ((78 + 21 * k + 9)) tol mid A c).1) (((b + 2 + 3) + 31 + k)) f = v (((b + 2 + 3) + 31 + k)) f := fun f hf => by rw [u2_q, if_neg hf, uA_n (by omega)]
    rw [f8 0 (by omega), f8 1 (by omega), f8 2 (by omega), f8 3 (by omega), f8 4 (by omega), f8 5 (by omega), f8 7 (by omega)]
    refine ⟨⟨y0, y1, y2, y3, y4, y5, y7, by rw [u2_q, if_pos rfl]⟩, yB, fun i hi => ?_⟩
    rw [to_of (by omega)] at hi
    rw [hT9 i hi]
    exact S.2 i (by omega)
  · unfold oX4_throwOutOfChart
    rw [e9]
    refine ⟨fun g1 eg => ?_, fun v2 e2 => ?_⟩
    · rw [e9]; exact (sort_t h12 g1).1
    · rw [e2, show (fX4_middleInOrder (((b + 2 + 3) + 31 + k)) v).2 = v from rfl]
      exact L.1
  · unfold WY
    rw [hT8, hTo _ (by omega), hTo _ (by omega), hTo _ (by omega), hTo _ (by omega), hTo _ (by omega), hTo _ (by omega), hTo _ (by omega), hTo _ (by omega)]
    refine ⟨w0, w1, w2', w3, w4, w5, w6, w7, inn_of (by omega) (by decide), fun i hi => ?_⟩
    by_cases q : i < (fS ((78 + 21 * k + 9)) tol mid A c).1
    · rw [hT9 i q]
      exact fS_rng (P := fun x => -50000 ≤ x.toInt ∧ x.toInt ≤ 50000) (fun j hj => by have := w9 j (by omega); rw [show (78 + 21 * k + (9 + j)) = (78 + 21 * k + 9) + j by omega] at this; exact this) (Nat.le_refl c) i (by omega)
    · unfold sThrow
      rw [st_n (by omega)]
      by_cases q2 : i < c
      · rw [zF_i (by omega) (by omega)]
        exact ⟨by decide, by decide⟩
      · rw [zF_o (by omega), fS_o (by omega)]
        exact w9 i hi
end T43f
