/-! THE PLAIN PART 15a: quotients of small whole numbers are numbers. -/
section T44a

theorem en32 {s : Bool} {c : Nat} {q : Int} (hc : c < 16777216) (h1 : -149 ≤ q) (h2 : q ≤ 104) : ∃ e t, FP.Core.encode FP.Core.b32 (.fin s c q) = (s.toNat * 256 + e) * 8388608 + t ∧ e < 255 ∧ t < 8388608 ∧ (c ≠ 0 → e = 0 → t ≠ 0) := by
  show ∃ e t, (if c < 8388608 then FP.Core.assemble FP.Core.b32 s 0 c else FP.Core.assemble FP.Core.b32 s ((q - (-149)).toNat + 1) (c - 8388608)) = _ ∧ _
  by_cases h : c < 8388608
  · rw [if_pos h]
    exact ⟨0, c, rfl, by omega, h, fun q _ => q⟩
  · rw [if_neg h]
    exact ⟨(q - (-149)).toNat + 1, c - 8388608, rfl, by omega, by omega, fun _ q => by omega⟩
theorem de32 {s : Bool} {e t : Nat} (he : e < 255) (ht : t < 8388608) : ∃ c q, FP.Core.decode FP.Core.b32 ((s.toNat * 256 + e) * 8388608 + t) = .fin s c q ∧ (c = 0 → e = 0 ∧ t = 0) := by
  have hs : s.toNat < 2 := by cases s <;> decide
  have f1 : FP.Core.fieldE FP.Core.b32 ((s.toNat * 256 + e) * 8388608 + t) = e := by
    show ((s.toNat * 256 + e) * 8388608 + t) / 8388608 % 256 = e
    omega
  have f2 : FP.Core.fieldT FP.Core.b32 ((s.toNat * 256 + e) * 8388608 + t) = t := by
    show ((s.toNat * 256 + e) * 8388608 + t) % 8388608 = t
    omega
  have f3 : FP.Core.fieldS FP.Core.b32 ((s.toNat * 256 + e) * 8388608 + t) = s := by
    show (((s.toNat * 256 + e) * 8388608 + t) / 8388608 / 256 % 2 == 1) = s
    rw [show ((s.toNat * 256 + e) * 8388608 + t) / 8388608 / 256 % 2 = s.toNat by omega]
    cases s <;> rfl
  unfold FP.Core.decode
  rw [f1, f2, f3, if_neg (show ¬ e = FP.Core.b32.exps - 1 from fun q => by have q : e = 256 - 1 := q; omega)]
  by_cases h : e = 0
  · rw [if_pos h]; exact ⟨_, _, rfl, fun q => ⟨h, q⟩⟩
  · rw [if_neg h]; exact ⟨_, _, rfl, fun q => by have q : 8388608 + t = 0 := q; omega⟩
/-- what a rounding gives is no NaN -/
theorem rn32 {s : Bool} {num den : Nat} {e : Int} : FP.Core.encode FP.Core.b32 (FP.Core.roundRatio FP.Core.b32 s num den e) % 2147483648 ≤ 2139095040 ∧ FP.Core.encode FP.Core.b32 (FP.Core.roundRatio FP.Core.b32 s num den e) < 4294967296 := by
  have hs : s.toNat < 2 := by cases s <;> decide
  have fin : ∀ c q, c < 16777216 → -149 ≤ q → q ≤ 104 → FP.Core.encode FP.Core.b32 (.fin s c q) % 2147483648 ≤ 2139095040 ∧ FP.Core.encode FP.Core.b32 (.fin s c q) < 4294967296 := fun c q h1 h2 h3 => by
    obtain ⟨e, t, h, he, ht, _⟩ := en32 (s := s) h1 h2 h3
    rw [h]; omega
  have bd : ∀ c q, c < 16777216 → -149 ≤ q → FP.Core.encode FP.Core.b32 (FP.Core.bound FP.Core.b32 s c q) % 2147483648 ≤ 2139095040 ∧ FP.Core.encode FP.Core.b32 (FP.Core.bound FP.Core.b32 s c q) < 4294967296 := fun c q h1 h2 => by
    unfold FP.Core.bound
    by_cases h : q ≤ FP.Core.Fmt.qmax FP.Core.b32
    · rw [if_pos h]; exact fin c q h1 h2 h
    · rw [if_neg h]
      show ((s.toNat * 256 + (256 - 1)) * 8388608 + 0) % 2147483648 ≤ 2139095040 ∧ (s.toNat * 256 + (256 - 1)) * 8388608 + 0 < 4294967296
      omega
  unfold FP.Core.roundRatio
  by_cases h : num = 0
  · rw [if_pos h]; exact fin 0 _ (by decide) (by decide) (by decide)
  rw [if_neg h]
  have hq : -149 ≤ FP.Core.quantum FP.Core.b32 num den e := by
    unfold FP.Core.quantum
    exact Int.le_max_left _ _
  unfold FP.Core.roundAt FP.Core.settle
  split
  · rename_i h; exact bd _ _ h hq
  · exact bd 8388608 _ (by decide) (by omega)
theorem vf32 {n : Nat} (h1 : n % 2147483648 ≤ 2139095040) (h2 : n < 4294967296) : vf_n32 (UInt32.ofNat n) := by
  unfold vf_n32
  rw [UInt32.le_iff_toNat_le, UInt32.toNat_and, show (UInt32.ofNat n).toNat = n from UInt32.toNat_ofNat_of_lt h2]
  show n &&& 2147483647 ≤ 2139095040
  rw [show 2147483647 = 2 ^ 31 - 1 from by decide, Nat.and_two_pow_sub_one_eq_mod]
  exact h1
/-- what is no NaN is decoded to a number or an infinity -/
theorem dn32 {a : UInt32} (h : vf_n32 a) : (∃ s, FP.Core.decode FP.Core.b32 a.toNat = .inf s) ∨ ∃ s c q, FP.Core.decode FP.Core.b32 a.toNat = .fin s c q := by
  unfold vf_n32 at h
  rw [UInt32.le_iff_toNat_le, UInt32.toNat_and] at h
  have h : a.toNat &&& 2147483647 ≤ 2139095040 := h
  rw [show 2147483647 = 2 ^ 31 - 1 from by decide, Nat.and_two_pow_sub_one_eq_mod] at h
  have h : a.toNat % 2147483648 ≤ 2139095040 := h
  unfold FP.Core.decode
  by_cases h1 : FP.Core.fieldE FP.Core.b32 a.toNat = FP.Core.b32.exps - 1
  · rw [if_pos h1]
    have h1 : a.toNat / 8388608 % 256 = 256 - 1 := h1
    rw [if_pos (show FP.Core.fieldT FP.Core.b32 a.toNat = 0 from by show a.toNat % 8388608 = 0; omega)]
    exact Or.inl ⟨_, rfl⟩
  · rw [if_neg h1]
    split
    · exact Or.inr ⟨_, _, _, rfl⟩
    · exact Or.inr ⟨_, _, _, rfl⟩

theorem en64 {s : Bool} {c : Nat} {q : Int} (hc : c < 9007199254740992) (h1 : -1074 ≤ q) (h2 : q ≤ 971) : ∃ e t, FP.Core.encode FP.Core.b64 (.fin s c q) = (s.toNat * 2048 + e) * 4503599627370496 + t ∧ e < 2047 ∧ t < 4503599627370496 ∧ (c ≠ 0 → e = 0 → t ≠ 0) := by
  show ∃ e t, (if c < 4503599627370496 then FP.Core.assemble FP.Core.b64 s 0 c else FP.Core.assemble FP.Core.b64 s ((q - (-1074)).toNat + 1) (c - 4503599627370496)) = _ ∧ _
  by_cases h : c < 4503599627370496
  · rw [if_pos h]
    exact ⟨0, c, rfl, by omega, h, fun q _ => q⟩
  · rw [if_neg h]
    exact ⟨(q - (-1074)).toNat + 1, c - 4503599627370496, rfl, by omega, by omega, fun _ q => by omega⟩
theorem de64 {s : Bool} {e t : Nat} (he : e < 2047) (ht : t < 4503599627370496) : ∃ c q, FP.Core.decode FP.Core.b64 ((s.toNat * 2048 + e) * 4503599627370496 + t) = .fin s c q ∧ (c = 0 → e = 0 ∧ t = 0) := by
  have hs : s.toNat < 2 := by cases s <;> decide
  have f1 : FP.Core.fieldE FP.Core.b64 ((s.toNat * 2048 + e) * 4503599627370496 + t) = e := by
    show ((s.toNat * 2048 + e) * 4503599627370496 + t) / 4503599627370496 % 2048 = e
    omega
  have f2 : FP.Core.fieldT FP.Core.b64 ((s.toNat * 2048 + e) * 4503599627370496 + t) = t := by
    show ((s.toNat * 2048 + e) * 4503599627370496 + t) % 4503599627370496 = t
    omega
  have f3 : FP.Core.fieldS FP.Core.b64 ((s.toNat * 2048 + e) * 4503599627370496 + t) = s := by
    show (((s.toNat * 2048 + e) * 4503599627370496 + t) / 4503599627370496 / 2048 % 2 == 1) = s
    rw [show ((s.toNat * 2048 + e) * 4503599627370496 + t) / 4503599627370496 / 2048 % 2 = s.toNat by omega]
    cases s <;> rfl
  unfold FP.Core.decode
  rw [f1, f2, f3, if_neg (show ¬ e = FP.Core.b64.exps - 1 from fun q => by have q : e = 2048 - 1 := q; omega)]
  by_cases h : e = 0
  · rw [if_pos h]; exact ⟨_, _, rfl, fun q => ⟨h, q⟩⟩
  · rw [if_neg h]; exact ⟨_, _, rfl, fun q => by have q : 4503599627370496 + t = 0 := q; omega⟩
/-- what a rounding gives is no NaN -/
theorem rn64 {s : Bool} {num den : Nat} {e : Int} : FP.Core.encode FP.Core.b64 (FP.Core.roundRatio FP.Core.b64 s num den e) % 9223372036854775808 ≤ 9218868437227405312 ∧ FP.Core.encode FP.Core.b64 (FP.Core.roundRatio FP.Core.b64 s num den e) < 18446744073709551616 := by
  have hs : s.toNat < 2 := by cases s <;> decide
  have fin : ∀ c q, c < 9007199254740992 → -1074 ≤ q → q ≤ 971 → FP.Core.encode FP.Core.b64 (.fin s c q) % 9223372036854775808 ≤ 9218868437227405312 ∧ FP.Core.encode FP.Core.b64 (.fin s c q) < 18446744073709551616 := fun c q h1 h2 h3 => by
    obtain ⟨e, t, h, he, ht, _⟩ := en64 (s := s) h1 h2 h3
    rw [h]; omega
  have bd : ∀ c q, c < 9007199254740992 → -1074 ≤ q → FP.Core.encode FP.Core.b64 (FP.Core.bound FP.Core.b64 s c q) % 9223372036854775808 ≤ 9218868437227405312 ∧ FP.Core.encode FP.Core.b64 (FP.Core.bound FP.Core.b64 s c q) < 18446744073709551616 := fun c q h1 h2 => by
    unfold FP.Core.bound
    by_cases h : q ≤ FP.Core.Fmt.qmax FP.Core.b64
    · rw [if_pos h]; exact fin c q h1 h2 h
    · rw [if_neg h]
      show ((s.toNat * 2048 + (2048 - 1)) * 4503599627370496 + 0) % 9223372036854775808 ≤ 9218868437227405312 ∧ (s.toNat * 2048 + (2048 - 1)) * 4503599627370496 + 0 < 18446744073709551616
      omega
  unfold FP.Core.roundRatio
  by_cases h : num = 0
  · rw [if_pos h]; exact fin 0 _ (by decide) (by decide) (by decide)
  rw [if_neg h]
  have hq : -1074 ≤ FP.Core.quantum FP.Core.b64 num den e := by
    unfold FP.Core.quantum
    exact Int.le_max_left _ _
  unfold FP.Core.roundAt FP.Core.settle
  split
  · rename_i h; exact bd _ _ h hq
  · exact bd 4503599627370496 _ (by decide) (by omega)
theorem vf64 {n : Nat} (h1 : n % 9223372036854775808 ≤ 9218868437227405312) (h2 : n < 18446744073709551616) : vf_n64 (UInt64.ofNat n) := by
  unfold vf_n64
  rw [UInt64.le_iff_toNat_le, UInt64.toNat_and, show (UInt64.ofNat n).toNat = n from UInt64.toNat_ofNat_of_lt h2]
  show n &&& 9223372036854775807 ≤ 9218868437227405312
  rw [show 9223372036854775807 = 2 ^ 63 - 1 from by decide, Nat.and_two_pow_sub_one_eq_mod]
  exact h1
/-- what is no NaN is decoded to a number or an infinity -/
theorem dn64 {a : UInt64} (h : vf_n64 a) : (∃ s, FP.Core.decode FP.Core.b64 a.toNat = .inf s) ∨ ∃ s c q, FP.Core.decode FP.Core.b64 a.toNat = .fin s c q := by
  unfold vf_n64 at h
  rw [UInt64.le_iff_toNat_le, UInt64.toNat_and] at h
  have h : a.toNat &&& 9223372036854775807 ≤ 9218868437227405312 := h
  rw [show 9223372036854775807 = 2 ^ 63 - 1 from by decide, Nat.and_two_pow_sub_one_eq_mod] at h
  have h : a.toNat % 9223372036854775808 ≤ 9218868437227405312 := h
  unfold FP.Core.decode
  by_cases h1 : FP.Core.fieldE FP.Core.b64 a.toNat = FP.Core.b64.exps - 1
  · rw [if_pos h1]
    have h1 : a.toNat / 4503599627370496 % 2048 = 2048 - 1 := h1
    rw [if_pos (show FP.Core.fieldT FP.Core.b64 a.toNat = 0 from by show a.toNat % 4503599627370496 = 0; omega)]
    exact Or.inl ⟨_, rfl⟩
  · rw [if_neg h1]
    split
    · exact Or.inr ⟨_, _, _, rfl⟩
    · exact Or.inr ⟨_, _, _, rfl⟩

/-- a small whole number as a float -/
theorem i2_t {a : Int32} : ∃ s c q, FP.Core.decode FP.Core.b32 (FP.i2f a).toNat = .fin s c q ∧ (c = 0 → a = 0) := by
  have h := fb_rngX a
  have hr := rn32 (s := decide (a.toInt < 0)) (num := a.toInt.natAbs) (den := 1) (e := 0)
  have e : (FP.i2f a).toNat = FP.Core.encode FP.Core.b32 (FP.Core.roundRatio FP.Core.b32 (decide (a.toInt < 0)) a.toInt.natAbs 1 0) :=
    UInt32.toNat_ofNat_of_lt hr.2
  rw [e]
  generalize hs : decide (a.toInt < 0) = s
  have fin : ∀ c q, c < 16777216 → -149 ≤ q → q ≤ 104 → (c = 0 → a = 0) → ∃ s' c' q', FP.Core.decode FP.Core.b32 (FP.Core.encode FP.Core.b32 (.fin s c q)) = .fin s' c' q' ∧ (c' = 0 → a = 0) := fun c q h1 h2 h3 h4 => by
    obtain ⟨e, t, h, he, ht, h5⟩ := en32 (s := s) h1 h2 h3
    rw [h]
    obtain ⟨c', q', h6, h7⟩ := de32 (s := s) he ht
    exact ⟨s, c', q', h6, fun q => h4 (Decidable.byContradiction fun hc => h5 hc (h7 q).1 (h7 q).2)⟩
  unfold FP.Core.roundRatio
  by_cases h0 : a.toInt.natAbs = 0
  · rw [if_pos h0]
    exact fin 0 _ (by decide) (by decide) (by decide) (fun _ => Int32.toInt_inj.mp (by show a.toInt = 0; omega))
  rw [if_neg h0]
  have hlog : a.toInt.natAbs.log2 < 32 := (Nat.log2_lt h0).mpr (by omega)
  have hle : 2 ^ a.toInt.natAbs.log2 ≤ a.toInt.natAbs := Nat.log2_self_le h0
  have hq : FP.Core.quantum FP.Core.b32 a.toInt.natAbs 1 0 ≤ 8 ∧ -149 ≤ FP.Core.quantum FP.Core.b32 a.toInt.natAbs 1 0 ∧ (0 < FP.Core.quantum FP.Core.b32 a.toInt.natAbs 1 0 → FP.Core.quantum FP.Core.b32 a.toInt.natAbs 1 0 ≤ a.toInt.natAbs.log2) := by
    have hl : FP.Core.leading a.toInt.natAbs 1 ≤ a.toInt.natAbs.log2 := by
      unfold FP.Core.leading
      have e1 : (1 : Nat).log2 = 0 := by decide
      dsimp only
      rw [e1]
      split <;> omega
    have e2 : ((FP.Core.b32.p : Nat) : Int) = 24 := rfl
    unfold FP.Core.quantum
    rw [e2, show FP.Core.b32.qmin = -149 from rfl]
    omega
  generalize FP.Core.quantum FP.Core.b32 a.toInt.natAbs 1 0 = q at hq
  unfold FP.Core.roundAt FP.Core.settle
  have hA : FP.Core.nearest (FP.Core.unitsNum a.toInt.natAbs 0 q) (FP.Core.unitsDen 1 0 q) ≠ 0 := by
    have hn : ∀ x y : Nat, x / y ≤ FP.Core.nearest x y := fun x y => by
      unfold FP.Core.nearest
      split
      · exact Nat.le_refl _
      · split <;> omega
    have hd : 1 ≤ FP.Core.unitsNum a.toInt.natAbs 0 q / FP.Core.unitsDen 1 0 q := by
      unfold FP.Core.unitsNum FP.Core.unitsDen
      rw [Nat.one_mul]
      refine (Nat.one_le_div_iff (Nat.two_pow_pos _)).mpr ?_
      by_cases q0 : 0 < q
      · rw [show (0 - q).toNat = 0 by omega, Nat.pow_zero, Nat.mul_one]
        have : 2 ^ (q - 0).toNat ≤ 2 ^ a.toInt.natAbs.log2 := Nat.pow_le_pow_right (by decide) (by have := hq.2.2 q0; omega)
        omega
      · rw [show (q - 0).toNat = 0 by omega, Nat.pow_zero]
        have := Nat.mul_ne_zero h0 (show 2 ^ (0 - q).toNat ≠ 0 by have := Nat.two_pow_pos (0 - q).toNat; omega)
        omega
    have := hn (FP.Core.unitsNum a.toInt.natAbs 0 q) (FP.Core.unitsDen 1 0 q)
    omega
  generalize FP.Core.nearest (FP.Core.unitsNum a.toInt.natAbs 0 q) (FP.Core.unitsDen 1 0 q) = c at hA
  unfold FP.Core.bound
  by_cases hc : c < 2 ^ FP.Core.b32.p
  · rw [if_pos hc, if_pos (show q ≤ FP.Core.b32.qmax from by show q ≤ 104; omega)]
    exact fin c q hc hq.2.1 (by omega) (fun e => absurd e hA)
  · rw [if_neg hc, if_pos (show q + 1 ≤ FP.Core.b32.qmax from by show q + 1 ≤ 104; omega)]
    exact fin 8388608 (q + 1) (by decide) (by omega) (by omega) (fun e => absurd e (by decide))
theorem fd_n {a b : Int32} (h0 : b ≠ 0) : vf_n32 (FP.fdiv (FP.i2f a) (FP.i2f b)) := by
  obtain ⟨s1, c1, q1, e1, _⟩ := i2_t (a := a)
  obtain ⟨s2, c2, q2, e2, z2⟩ := i2_t (a := b)
  have e : FP.fdiv (FP.i2f a) (FP.i2f b) = UInt32.ofNat (FP.Core.encode FP.Core.b32 (FP.Core.roundRatio FP.Core.b32 (s1 != s2) c1 c2 (q1 - q2))) := by
    show UInt32.ofNat (FP.Core.encode FP.Core.b32 (FP.Core.quotient FP.Core.b32 (FP.Core.decode FP.Core.b32 (FP.i2f a).toNat) (FP.Core.decode FP.Core.b32 (FP.i2f b).toNat))) = _
    rw [e1, e2]
    unfold FP.Core.quotient
    dsimp only
    rw [if_neg (fun q => h0 (z2 q))]
  rw [e]
  exact vf32 rn32.1 rn32.2
theorem fc0_n : vf_n32 FP.fconst0 := by unfold vf_n32; decide
theorem f2_n {a : UInt32} (h : vf_n32 a) : vf_n64 (FP.f2d a) := by
  have hd := dn32 h
  have hn : FP.fIsNaN a = false := by
    show decide (FP.Core.decode FP.Core.b32 a.toNat = .nan) = false
    rcases hd with ⟨s, e⟩ | ⟨s, c, q, e⟩ <;> rw [e] <;> rfl
  have e : FP.f2d a = UInt64.ofNat (FP.Core.encode FP.Core.b64 (FP.Core.round FP.Core.b64 (FP.Core.decode FP.Core.b32 a.toNat))) := by
    unfold FP.f2d
    rw [show FP.Core.fIsNaN a = false from hn]
    rfl
  rw [e]
  rcases hd with ⟨s, e⟩ | ⟨s, c, q, e⟩
  · rw [e]
    cases s
    · unfold vf_n64; decide +kernel
    · unfold vf_n64; decide +kernel
  · rw [e]
    exact vf64 rn64.1 rn64.2
theorem dc_0 {a : UInt64} (h : vf_n64 a) : Op.cmpValue (FP.dcmp a a) .l = 0 := by
  have e : FP.dcmp a a = some .eq := by
    show FP.Core.order (FP.Core.decode FP.Core.b64 a.toNat) (FP.Core.decode FP.Core.b64 a.toNat) = some .eq
    have hc : ∀ i : Int, compare i i = .eq := fun i => by simp
    rcases dn64 h with ⟨s, e⟩ | ⟨s, c, q, e⟩
    · rw [e]
      show some (compare (FP.Core.signed s 1) (FP.Core.signed s 1)) = _
      rw [hc]
    · rw [e]
      show some (compare (FP.Core.signed s (FP.Core.inUnits c q (min q q))) (FP.Core.signed s (FP.Core.inUnits c q (min q q)))) = _
      rw [hc]
  rw [e]
  rfl
end T44a
