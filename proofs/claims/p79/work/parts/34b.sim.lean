/-! THE PLAIN PART 5b: records and charts. -/
section R34
variable {v : vSt} {r k : Nat} {A : Ar} {x bad : Int32}
theorem ap_lt {n : Nat} {f : Ar} {c : Int32} (hn : 1 ≤ n ∧ n ≤ 100) (h : inn c n) : fX10_append n f c x = (c + 1, upd f c.toNatClampNeg x) ∧ oX10_append n f c x := by
  have hc0 := h.1
  have hc1 := h.2
  have on : (Int32.ofNat n).toInt = (n : Int) := of_ti (by omega)
  have e1 : (if Int32.ofNat n < c then Int32.ofNat n else c : Int32) = c := if_neg (by rw [Int32.lt_iff_toInt_lt, on]; omega)
  have e2 : ¬ c = Int32.ofNat n := fun q => by rw [q, on] at hc1; omega
  have e3 : fX10_inRange c 0 (Int32.ofNat n - 1) = 1 := by
    rw [in_rng]
    refine in01.resolve_left (in_iff.mpr ⟨hc0, ?_⟩)
    rw [subOne (by omega), on]
    omega
  constructor
  · unfold fX10_append
    rw [e1, if_neg e2]
    simp only []
    rw [e3]
    exact if_neg (by decide)
  · unfold oX10_append
    rw [e1]
    refine ⟨fun q => absurd q e2, fun y1 g2 h1 h2 _ => ?_⟩
    rw [if_neg e2] at h1
    rw [h1]
    exact i_in hc0 hc1
theorem ap_eq {n : Nat} {f : Ar} (hn : 2 ≤ n ∧ n ≤ 100) : fX10_append n f (Int32.ofNat n) x = (Int32.ofNat n, upd (va_cpy f f 1 0 (n - 1)) (n - 1) x) ∧ oX10_append n f (Int32.ofNat n) x := by
  have on : (Int32.ofNat n).toInt = (n : Int) := of_ti (by omega)
  have z1 : (1 : Int32).toInt = 1 := rfl
  have z0 : (0 : Int32).toInt = 0 := rfl
  have e1 : (if Int32.ofNat n < Int32.ofNat n then Int32.ofNat n else Int32.ofNat n : Int32) = Int32.ofNat n := by split <;> rfl
  have e2 : ¬ Int32.ofNat n ≤ 0 := by rw [Int32.le_iff_toInt_le, on, z0]; omega
  have s1 : (Int32.ofNat n - 1).toInt = n - 1 := by rw [subOne (by omega), on]
  have s2 : (Int32.ofNat n - 1).toNatClampNeg = n - 1 := rn_of (by omega)
  have s3 : Int32.ofNat n + -1 = Int32.ofNat n - 1 := (Int32.sub_eq_add_neg _ _).symm
  have s4 : Int32.ofNat n - 1 + 1 = Int32.ofNat n := Int32.sub_add_cancel _ _
  have e3 : fX10_inRange (Int32.ofNat n - 1) 0 (Int32.ofNat n - 1) = 1 := by
    rw [in_rng]
    exact in01.resolve_left (in_iff.mpr ⟨by omega, by omega⟩)
  have hval : (if Int32.ofNat n = Int32.ofNat n then (if Int32.ofNat n ≤ 0 then ((Int32.ofNat n, f)) else (let g6 : (Nat → Int32) := va_cpy f f (1 : Int32).toNatClampNeg (0 : Int32).toNatClampNeg ((Int32.ofNat n) - 1 : Int32).toNatClampNeg; (Int32.ofNat n + (-1), g6))) else ((Int32.ofNat n, f)) : Int32 × (Nat → Int32)) = (Int32.ofNat n - 1, va_cpy f f 1 0 (n - 1)) := by
    rw [if_pos rfl, if_neg e2, s2, ← s3]
    rfl
  constructor
  · unfold fX10_append
    rw [e1, hval]
    simp only []
    rw [e3, if_neg (by decide), s2, s4]
  · unfold oX10_append
    rw [e1]
    refine ⟨fun _ _ => ⟨by omega, by omega, by omega, by omega, by omega⟩, fun y1 g2 h1 h2 _ => ?_⟩
    rw [hval] at h1
    rw [h1]
    dsimp only
    exact i_in (by omega) (by omega)
theorem upd_s {f : Ar} {i : Nat} : upd f i x i = x := if_pos rfl
theorem upd_n {f : Ar} {i j : Nat} (h : j ≠ i) : upd f i x j = f j := if_neg h
/-- how many of the latest are bad, the class's loop -/
theorem c_bad {B : Int32} {m : Int32} (hn : inn (v r 7) 11) (hr : ∀ i, i < (v r 7).toNatClampNeg → v (r + 5) ((v r 7).toNatClampNeg - 1 - i) = bt B i) (hm : 0 ≤ m.toInt ∧ m.toInt ≤ 10) :
    fX4_badOfLatest r m v = sbN B (min m.toNatClampNeg (v r 7).toNatClampNeg) := by
  have hN : (v r 7).toNatClampNeg < 11 := inn_lt hn
  have e0 := rn_to hn.1
  have em := rn_to hm.1
  have key : ∀ (n i : Nat) (acc : Int32), i ≤ (v r 7).toNatClampNeg → (v r 7).toNatClampNeg + 1 ≤ n + i → lX4_badOfLatest_13 v r n (Int32.ofNat i) acc = acc + sbN B ((v r 7).toNatClampNeg - i) := by
    intro n
    induction n with
    | zero => intro i acc h1 h2; omega
    | succ n ih =>
      intro i acc h1 h2
      unfold lX4_badOfLatest_13
      have ofl : (v r 7 ≤ Int32.ofNat i) ↔ (v r 7).toNatClampNeg ≤ i := of_le hn.1 (by omega)
      by_cases hk : (v r 7).toNatClampNeg ≤ i
      · rw [if_pos (ofl.mpr hk), show (v r 7).toNatClampNeg - i = 0 by omega]
        exact (Int32.add_zero _).symm
      · rw [if_neg (mt ofl.mp hk), of_S (by omega), ih (i + 1) _ (by omega) (by omega), entry_at (of_in (by omega) (by decide)) (by decide), to_of (by omega)]
        have e := hr ((v r 7).toNatClampNeg - 1 - i) (by omega)
        rw [show (v r 7).toNatClampNeg - 1 - ((v r 7).toNatClampNeg - 1 - i) = i by omega] at e
        rw [e, show (v r 7).toNatClampNeg - i = ((v r 7).toNatClampNeg - 1 - i) + 1 by omega, show (v r 7).toNatClampNeg - (i + 1) = (v r 7).toNatClampNeg - 1 - i by omega]
        show _ = acc + (sbN B _ + bt B _)
        rw [Int32.add_assoc, Int32.add_comm (bt B _)]
  have es : (v r 7 - m).toInt = (v r 7).toInt - m.toInt := ti_sub (by have := hn.2; omega)
  have eS : (if 0 < v r 7 - m then v r 7 - m else 0 : Int32) = Int32.ofNat ((v r 7).toNatClampNeg - m.toNatClampNeg) := by
    refine Int32.toInt_inj.mp ?_
    rw [of_ti (by omega)]
    by_cases h : 0 < v r 7 - m
    · rw [if_pos h, es]
      have := i_lt h
      rw [es, show (0 : Int32).toInt = 0 from rfl] at this
      omega
    · rw [if_neg h]
      have := i_nlt h
      rw [es, show (0 : Int32).toInt = 0 from rfl] at this
      rw [show (0 : Int32).toInt = 0 from rfl]
      omega
  unfold fX4_badOfLatest
  rw [eS, of_ti (by omega), key _ _ _ (by omega) (by omega), Int32.zero_add]
  have e9 : (v r 7).toNatClampNeg - ((v r 7).toNatClampNeg - m.toNatClampNeg) = min m.toNatClampNeg (v r 7).toNatClampNeg := by omega
  rw [e9]
/-- how many good ones stand at the end, the class's loop -/
theorem c_good {B : Int32} (hn : inn (v r 7) 11) (hr : ∀ i, i < (v r 7).toNatClampNeg → v (r + 5) ((v r 7).toNatClampNeg - 1 - i) = bt B i) : fX4_goodAtEnd r v = sGood B (v r 7) := by
  have hN : (v r 7).toNatClampNeg < 11 := inn_lt hn
  have e0 := rn_to hn.1
  have key : ∀ (n i : Nat), i ≤ (v r 7).toNatClampNeg → lX4_goodAtEnd_2 v r n (Int32.ofNat i) = sGL B (v r 7) n (Int32.ofNat i) := by
    intro n
    induction n with
    | zero => intro i h1; rfl
    | succ n ih =>
      intro i h1
      unfold lX4_goodAtEnd_2 sGL
      have ofl : (v r 7 ≤ Int32.ofNat i) ↔ (v r 7).toNatClampNeg ≤ i := of_le hn.1 (by omega)
      by_cases hk : (v r 7).toNatClampNeg ≤ i
      · rw [if_pos (ofl.mpr hk), if_pos (ofl.mpr hk)]
      · have ei : (v r 7 - 1 - Int32.ofNat i).toInt = (v r 7).toInt - 1 - i := by
          rw [ti_sub (by rw [subOne hn.1, of_ti (by omega)]; omega), subOne hn.1, of_ti (by omega)]
        have en : (v r 7 - 1 - Int32.ofNat i).toNatClampNeg = (v r 7).toNatClampNeg - 1 - i := rn_of (by omega)
        rw [if_neg (mt ofl.mp hk), if_neg (mt ofl.mp hk), of_S (by omega), ih (i + 1) (by omega), entry_at ⟨by omega, by omega⟩ (by decide), en, hr i (by omega)]
  unfold fX4_goodAtEnd sGood
  rw [fu0]
  exact key _ 0 (by omega)
end R34
