/-! THE PLAIN PART 8: a block copied from another. -/
theorem kd_ap {b s : Nat} (hb : kd b = 7) (hs : kd s = 7) (h : b ≠ s) : b + 64 ≤ s ∨ s + 64 ≤ b := by
  have h1 := kd7 hb
  have h2 := kd7 hs
  omega
section R37
variable {v : vSt} {b s : Nat} {A : Ar}
theorem cp_tool {r o : Nat} (h : r ≠ o) : (∀ q, q ≠ r → fX8_copyFrom r o v q = v q) ∧ ∀ j, j < 9 → fX8_copyFrom r o v r j = v o j := by
  refine ⟨fun q hq => ?_, fun j hj => ?_⟩
  · simp only [fX8_copyFrom]
    rw [u2_r hq, u2_r hq, u2_r hq, u2_r hq, u2_r hq, u2_r hq, u2_r hq, u2_r hq, u2_r hq]
  · have ho : ∀ (w : vSt) k y, u2 w r k y o = w o := fun w k y => u2_r (Ne.symm h)
    simp only [fX8_copyFrom, ho, u2_q]
    have : j = 0 ∨ j = 1 ∨ j = 2 ∨ j = 3 ∨ j = 4 ∨ j = 5 ∨ j = 6 ∨ j = 7 ∨ j = 8 := by omega
    rcases this with rfl | rfl | rfl | rfl | rfl | rfl | rfl | rfl | rfl <;> simp
theorem cp_block {r o : Nat} (h : r ≠ o) : (∀ q, q ≠ r → fX1_copyFrom r o v q = v q) ∧ ∀ j, j < 3 → fX1_copyFrom r o v r j = v o j := by
  refine ⟨fun q hq => ?_, fun j hj => ?_⟩
  · simp only [fX1_copyFrom]
    rw [u2_r hq, u2_r hq, u2_r hq]
  · have ho : ∀ (w : vSt) k y, u2 w r k y o = w o := fun w k y => u2_r (Ne.symm h)
    simp only [fX1_copyFrom, ho, u2_q]
    have : j = 0 ∨ j = 1 ∨ j = 2 := by omega
    rcases this with rfl | rfl | rfl <;> simp
theorem cp_type {r o : Nat} (h : r + 64 ≤ o ∨ o + 64 ≤ r) : (∀ q, q ≠ r → q ≠ r + 5 → q ≠ r + 10 → fX4_copyFrom r o v q = v q) ∧ (∀ j, (j < 6 ∨ j = 7 ∨ j = 9) → fX4_copyFrom r o v r j = v o j) ∧ (∀ i, i < 10 → fX4_copyFrom r o v (r + 5) i = v (o + 5) i) ∧ (∀ i, i < 12 → fX4_copyFrom r o v (r + 10) i = v (o + 10) i) ∧ ((v o 5 = 0 ∨ v o 5 = 1) → oX4_copyFrom r o v) := by
  have ho : ∀ (w : vSt) k y, u2 w r k y o = w o := fun w k y => u2_r (by omega)
  have ho5 : ∀ (w : vSt) k y, u2 w r k y (o + 5) = w (o + 5) := fun w k y => u2_r (by omega)
  have ho10 : ∀ (w : vSt) k y, u2 w r k y (o + 10) = w (o + 10) := fun w k y => u2_r (by omega)
  have hr5 : ∀ (w : vSt) k y, u2 w r k y (r + 5) = w (r + 5) := fun w k y => u2_r (by omega)
  have hr10 : ∀ (w : vSt) k y, u2 w r k y (r + 10) = w (r + 10) := fun w k y => u2_r (by omega)
  have a1 : ∀ (w : vSt) f, uA w (r + 5) f o = w o := fun w f => uA_n (by omega)
  have a2 : ∀ (w : vSt) f, uA w (r + 10) f o = w o := fun w f => uA_n (by omega)
  have a3 : ∀ (w : vSt) f, uA w (r + 5) f r = w r := fun w f => uA_n (by omega)
  have a4 : ∀ (w : vSt) f, uA w (r + 10) f r = w r := fun w f => uA_n (by omega)
  have a5 : ∀ (w : vSt) f, uA w (r + 5) f (o + 10) = w (o + 10) := fun w f => uA_n (by omega)
  have a6 : ∀ (w : vSt) f, uA w (r + 5) f (r + 10) = w (r + 10) := fun w f => uA_n (by omega)
  have a7 : ∀ (w : vSt) f, uA w (r + 10) f (r + 5) = w (r + 5) := fun w f => uA_n (by omega)
  refine ⟨fun q h1 h2 h3 => ?_, fun j hj => ?_, fun i hi => ?_, fun i hi => ?_, fun hv => ?_⟩
  · simp only [fX4_copyFrom]
    rw [uA_n h3, u2_r h1, uA_n h2, u2_r h1, u2_r h1, u2_r h1, u2_r h1, u2_r h1, u2_r h1, u2_r h1]
  · simp only [fX4_copyFrom, ho, ho5, ho10, hr5, hr10, a1, a2, a3, a4, a5, a6, a7, u2_q]
    have : j = 0 ∨ j = 1 ∨ j = 2 ∨ j = 3 ∨ j = 4 ∨ j = 5 ∨ j = 7 ∨ j = 9 := by omega
    rcases this with rfl | rfl | rfl | rfl | rfl | rfl | rfl | rfl <;> simp
  · simp only [fX4_copyFrom, ho, ho5, ho10, hr5, hr10, a1, a2, a3, a4, a5, a6, a7, uA_s]
    exact cpy_0 hi
  · simp only [fX4_copyFrom, ho, ho5, ho10, hr5, hr10, a1, a2, a3, a4, a5, a6, a7, uA_s]
    exact cpy_0 hi
  · unfold oX4_copyFrom
    intro v1 e1 v2 e2 v3 e3 v4 e4 v5 e5
    rw [e5, ho, e4, ho, e3, ho, e2, ho, e1, ho]
    exact hv
theorem cpl_tool (hap : b + 64 ≤ s ∨ s + 64 ≤ b) {N : Nat} (hN : N ≤ 6) : ∀ (n k : Nat) (w : vSt), w (b + 1) 2 = Int32.ofNat N → k ≤ N → N + 1 ≤ n + k →
    (∀ q, (q < ((b + 1 + 2) + 13 + 0) ∨ ((b + 1 + 2) + 13 + 6) ≤ q) → lX2_copyFrom_18 (b + 1) (s + 1) n (Int32.ofNat k) w q = w q) ∧ (∀ t, k ≤ t → t < N → ∀ j, j < 9 → lX2_copyFrom_18 (b + 1) (s + 1) n (Int32.ofNat k) w (((b + 1 + 2) + 13 + t)) j = w (((s + 1 + 2) + 13 + t)) j) ∧ (∀ t, t < k → lX2_copyFrom_18 (b + 1) (s + 1) n (Int32.ofNat k) w (((b + 1 + 2) + 13 + t)) = w (((b + 1 + 2) + 13 + t))) ∧ olX2_copyFrom_18 (b + 1) (s + 1) n (Int32.ofNat k) w := by
  intro n
  induction n with
  | zero => intro k w _ h1 h2; omega
  | succ n ih =>
    intro k w hw h1 h2
    unfold lX2_copyFrom_18 olX2_copyFrom_18
    have ofl : (w (b + 1) 2 ≤ Int32.ofNat k) ↔ N ≤ k := by rw [hw, of_le (by rw [of_ti (by omega)]; omega) (by omega), to_of (by omega)]
    by_cases hk : N ≤ k
    · rw [if_pos (ofl.mpr hk)]
      exact ⟨fun _ _ => rfl, fun t h3 h4 => by omega, fun _ _ => rfl, fun q => absurd (ofl.mpr hk) q⟩
    · rw [if_neg (mt ofl.mp hk), if_neg (ncap6 (k := k) (by omega)), of_S (by omega), to_of (by omega)]
      have hc := cp_tool (v := w) (r := ((b + 1 + 2) + 13 + k)) (o := ((s + 1 + 2) + 13 + k)) (by omega)
      obtain ⟨i1, i2, i3, i4⟩ := ih (k + 1) (fX8_copyFrom (((b + 1 + 2) + 13 + k)) (((s + 1 + 2) + 13 + k)) w) (by rw [hc.1 _ (by omega)]; exact hw) (by omega) (by omega)
      refine ⟨fun q hq => (i1 q hq).trans (hc.1 q (by omega)), fun t h3 h4 j hj => ?_, fun t ht => (i3 t (by omega)).trans (hc.1 _ (by omega)), fun _ _ => ⟨i_in (of_in (n := 6) (by omega) (by decide)).1 (of_in (n := 6) (by omega) (by decide)).2, fun v6 e6 => by rw [e6]; exact i4⟩⟩
      by_cases htk : t = k
      · subst htk
        rw [i3 t (by omega)]
        exact hc.2 j hj
      · rw [i2 t (by omega) h4 j hj, hc.1 _ (by omega)]
theorem cpl_block (hap : b + 64 ≤ s ∨ s + 64 ≤ b) {N : Nat} (hN : N ≤ 10) : ∀ (n k : Nat) (w : vSt), w (b + 1) 3 = Int32.ofNat N → k ≤ N → N + 1 ≤ n + k →
    (∀ q, (q < ((b + 1 + 3) + 20 + 0) ∨ ((b + 1 + 3) + 20 + 10) ≤ q) → lX2_copyFrom_65 (b + 1) (s + 1) n (Int32.ofNat k) w q = w q) ∧ (∀ t, k ≤ t → t < N → ∀ j, j < 3 → lX2_copyFrom_65 (b + 1) (s + 1) n (Int32.ofNat k) w (((b + 1 + 3) + 20 + t)) j = w (((s + 1 + 3) + 20 + t)) j) ∧ (∀ t, t < k → lX2_copyFrom_65 (b + 1) (s + 1) n (Int32.ofNat k) w (((b + 1 + 3) + 20 + t)) = w (((b + 1 + 3) + 20 + t))) ∧ olX2_copyFrom_65 (b + 1) (s + 1) n (Int32.ofNat k) w := by
  intro n
  induction n with
  | zero => intro k w _ h1 h2; omega
  | succ n ih =>
    intro k w hw h1 h2
    unfold lX2_copyFrom_65 olX2_copyFrom_65
    have ofl : (w (b + 1) 3 ≤ Int32.ofNat k) ↔ N ≤ k := by rw [hw, of_le (by rw [of_ti (by omega)]; omega) (by omega), to_of (by omega)]
    by_cases hk : N ≤ k
    · rw [if_pos (ofl.mpr hk)]
      exact ⟨fun _ _ => rfl, fun t h3 h4 => by omega, fun _ _ => rfl, fun q => absurd (ofl.mpr hk) q⟩
    · rw [if_neg (mt ofl.mp hk), if_neg (ncap10 (k := k) (by omega)), of_S (by omega), to_of (by omega)]
      have hc := cp_block (v := w) (r := ((b + 1 + 3) + 20 + k)) (o := ((s + 1 + 3) + 20 + k)) (by omega)
      obtain ⟨i1, i2, i3, i4⟩ := ih (k + 1) (fX1_copyFrom (((b + 1 + 3) + 20 + k)) (((s + 1 + 3) + 20 + k)) w) (by rw [hc.1 _ (by omega)]; exact hw) (by omega) (by omega)
      refine ⟨fun q hq => (i1 q hq).trans (hc.1 q (by omega)), fun t h3 h4 j hj => ?_, fun t ht => (i3 t (by omega)).trans (hc.1 _ (by omega)), fun _ _ => ⟨i_in (of_in (n := 10) (by omega) (by decide)).1 (of_in (n := 10) (by omega) (by decide)).2, fun v6 e6 => by rw [e6]; exact i4⟩⟩
      by_cases htk : t = k
      · subst htk
        rw [i3 t (by omega)]
        exact hc.2 j hj
      · rw [i2 t (by omega) h4 j hj, hc.1 _ (by omega)]
theorem cpl_type (hap : b + 64 ≤ s ∨ s + 64 ≤ b) {N : Nat} (hN : N ≤ 5) : ∀ (n k : Nat) (w : vSt), w (b + 2) 1 = Int32.ofNat N → k ≤ N → N + 1 ≤ n + k → (∀ t, t < N → w (((s + 2 + 3) + 31 + t)) 5 = 0 ∨ w (((s + 2 + 3) + 31 + t)) 5 = 1) →
    (∀ q, (q < ((b + 2 + 3) + 31 + 0) ∨ ((b + 2 + 3) + 31 + 15) ≤ q) → lX0_copyFrom_18 (b + 2) (s + 2) n (Int32.ofNat k) w q = w q) ∧
    (∀ t, k ≤ t → t < N → (∀ j, (j < 6 ∨ j = 7 ∨ j = 9) → lX0_copyFrom_18 (b + 2) (s + 2) n (Int32.ofNat k) w (((b + 2 + 3) + 31 + t)) j = w (((s + 2 + 3) + 31 + t)) j) ∧ (∀ i, i < 10 → lX0_copyFrom_18 (b + 2) (s + 2) n (Int32.ofNat k) w (((b + 2 + 3) + 31 + t) + 5) i = w (((s + 2 + 3) + 31 + t) + 5) i) ∧ (∀ i, i < 12 → lX0_copyFrom_18 (b + 2) (s + 2) n (Int32.ofNat k) w (((b + 2 + 3) + 31 + t) + 10) i = w (((s + 2 + 3) + 31 + t) + 10) i)) ∧
    (∀ t, t < k → lX0_copyFrom_18 (b + 2) (s + 2) n (Int32.ofNat k) w (((b + 2 + 3) + 31 + t)) = w (((b + 2 + 3) + 31 + t)) ∧ lX0_copyFrom_18 (b + 2) (s + 2) n (Int32.ofNat k) w (((b + 2 + 3) + 31 + t) + 5) = w (((b + 2 + 3) + 31 + t) + 5) ∧ lX0_copyFrom_18 (b + 2) (s + 2) n (Int32.ofNat k) w (((b + 2 + 3) + 31 + t) + 10) = w (((b + 2 + 3) + 31 + t) + 10)) ∧ olX0_copyFrom_18 (b + 2) (s + 2) n (Int32.ofNat k) w := by
  intro n
  induction n with
  | zero => intro k w _ h1 h2; omega
  | succ n ih =>
    intro k w hw h1 h2 h5
    unfold lX0_copyFrom_18 olX0_copyFrom_18
    have ofl : (w (b + 2) 1 ≤ Int32.ofNat k) ↔ N ≤ k := by rw [hw, of_le (by rw [of_ti (by omega)]; omega) (by omega), to_of (by omega)]
    by_cases hk : N ≤ k
    · rw [if_pos (ofl.mpr hk)]
      exact ⟨fun _ _ => rfl, fun t h3 h4 => by omega, fun _ _ => ⟨rfl, rfl, rfl⟩, fun q => absurd (ofl.mpr hk) q⟩
    · rw [if_neg (mt ofl.mp hk), if_neg (ncap5 (k := k) (by omega)), of_S (by omega), to_of (by omega)]
      obtain ⟨c1, c2, c3, c4, c5⟩ := cp_type (v := w) (r := ((b + 2 + 3) + 31 + k)) (o := ((s + 2 + 3) + 31 + k)) (by omega)
      obtain ⟨i1, i2, i3, i4⟩ := ih (k + 1) (fX4_copyFrom (((b + 2 + 3) + 31 + k)) (((s + 2 + 3) + 31 + k)) w) (by rw [c1 _ (by omega) (by omega) (by omega)]; exact hw) (by omega) (by omega) (fun t ht => by rw [c1 _ (by omega) (by omega) (by omega)]; exact h5 t ht)
      refine ⟨fun q hq => (i1 q hq).trans (c1 q (by omega) (by omega) (by omega)), fun t h3 h4 => ?_, fun t ht => ?_, fun _ _ => ⟨i_in (of_in (n := 5) (by omega) (by decide)).1 (of_in (n := 5) (by omega) (by decide)).2, c5 (h5 k (by omega)), fun v6 e6 => by rw [e6]; exact i4⟩⟩
      · by_cases htk : t = k
        · subst htk
          obtain ⟨j1, j2, j3⟩ := i3 t (by omega)
          rw [j1, j2, j3]
          exact ⟨c2, c3, c4⟩
        · obtain ⟨j1, j2, j3⟩ := i2 t (by omega) h4
          refine ⟨fun j hj => ?_, fun i hi => ?_, fun i hi => ?_⟩
          · rw [j1 j hj, c1 _ (by omega) (by omega) (by omega)]
          · rw [j2 i hi, c1 _ (by omega) (by omega) (by omega)]
          · rw [j3 i hi, c1 _ (by omega) (by omega) (by omega)]
      · obtain ⟨j1, j2, j3⟩ := i3 t (by omega)
        rw [j1, j2, j3, c1 _ (by omega) (by omega) (by omega), c1 _ (by omega) (by omega) (by omega), c1 _ (by omega) (by omega) (by omega)]
        exact ⟨rfl, rfl, rfl⟩
end R37
