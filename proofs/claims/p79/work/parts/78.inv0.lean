/-! THE WORLD AT THE BEGINNING: its numbers, and that the invariant holds of them. -/
def v0 : vSt := fun r k =>
  if r < 448 then (if r % 64 = 1 then (if k = 4 then 20 else 0) else if r % 64 = 2 then (if k = 4 then 10 else 0) else if r % 64 = 6 ∨ r % 64 = 7 then (if k = 4 ∨ k = 5 ∨ k = 6 then 20 else 0) else 0)
  else if r = 449 then (if k = 0 then 64 else if k = 1 then 128 else if k = 2 then 192 else if k = 3 then 256 else 0)
  else if r = 451 then (if k = 0 then 384 else 0)
  else if r = 462 then (if k = 208 then 20 else if k = 209 then 10 else 0)
  else 0
def x0 : gX := (fun _ _ => 0, fun _ => 0)
theorem A0_0 {j : Nat} (h : j ≠ 208) (h2 : j ≠ 209) : v0 462 j = 0 := by
  unfold v0
  rw [if_neg (by decide), if_neg (by decide), if_neg (by decide), if_pos rfl, if_neg h, if_neg h2]
theorem cp0 : ∀ b, kd b = 7 → CP v0 b := by
  intro b hb
  have h := (by decide +kernel : ∀ b, b < 470 → kd b = 7 → (v0 (b + 6) 4 = 20 ∧ v0 (b + 6) 5 = 20 ∧ v0 (b + 6) 6 = 20) ∧ (v0 (b + 7) 4 = 20 ∧ v0 (b + 7) 5 = 20 ∧ v0 (b + 7) 6 = 20 ∧ v0 (b + 7) 3 = 0)) b (kd_lt (by rw [hb]; decide)) hb
  obtain ⟨h1, h2, h3, h4, h5⟩ := h
  have g2 : v0 (b + 2 + 5) 4 = 20 := h2
  have g3 : v0 (b + 2 + 5) 5 = 20 := h3
  have g4 : v0 (b + 2 + 5) 6 = 20 := h4
  have g5 : v0 (b + 2 + 5) 3 = 0 := h5
  refine ⟨h1, ?_⟩
  rw [g2, g3, g4, g5]
  exact ⟨by decide, by decide, rfl, rfl, by decide⟩
theorem Inv0 : Inv 0 0 v0 := by
  have z203 : v0 462 203 = 0 := A0_0 (by decide) (by decide)
  have z204 : v0 462 204 = 0 := A0_0 (by decide) (by decide)
  have z205 : v0 462 205 = 0 := A0_0 (by decide) (by decide)
  have z206 : v0 462 206 = 0 := A0_0 (by decide) (by decide)
  have z207 : v0 462 207 = 0 := A0_0 (by decide) (by decide)
  have t0 : (0 : Int32).toNatClampNeg = 0 := rfl
  refine ⟨⟨by decide +kernel, by decide +kernel, by decide +kernel, by decide +kernel, by decide +kernel, fun i j hi hj hne => (by decide +kernel : ∀ i, i < 4 → ∀ j, j < 4 → i ≠ j → rN (v0 449 i) ≠ rN (v0 449 j)) i hi j hj hne⟩,
    cp0, ⟨by decide +kernel, by decide +kernel⟩, ⟨by decide +kernel, by decide +kernel⟩, ⟨⟨by decide +kernel, by decide +kernel, fun i hi => absurd hi (by rw [show TL v0 = 0 by decide +kernel]; exact Nat.not_lt_zero i)⟩, by decide +kernel, Nat.le_refl _, by decide⟩, ?_,
    fun i hi => absurd hi (by rw [show (v0 461 5).toNatClampNeg = 0 by decide +kernel]; exact Nat.not_lt_zero i), fun h => absurd h (by decide +kernel)⟩
  rw [show rN (v0 448 0) = 0 by decide +kernel]
  have kT : ∀ t, ¬ t < (v0 462 203).toNatClampNeg := fun t => by rw [z203, t0]; exact Nat.not_lt_zero t
  have kB : ∀ t, ¬ t < (v0 462 204).toNatClampNeg := fun t => by rw [z204, t0]; exact Nat.not_lt_zero t
  have kY : ∀ t, ¬ t < (v0 462 205).toNatClampNeg := fun t => by rw [z205, t0]; exact Nat.not_lt_zero t
  have kW : ∀ t, ¬ t < (v0 462 206).toNatClampNeg := fun t => by rw [z206, t0]; exact Nat.not_lt_zero t
  have kQ : ∀ t, ¬ t < (v0 462 207).toNatClampNeg := fun t => by rw [z207, t0]; exact Nat.not_lt_zero t
  refine ⟨⟨by unfold SRd; decide +kernel, by unfold SRe; decide +kernel, fun t ht => absurd ht (kT t), fun t ht => absurd ht (kB t), fun t ht => absurd ht (kY t), ⟨by decide +kernel, ?_⟩, ⟨by decide +kernel, ?_⟩⟩, ⟨?_, ?_, ?_, ?_, ?_, ?_⟩, ?_, ?_, ?_⟩
  · exact fun i hi => absurd hi (kW i)
  · exact fun i hi => absurd hi (kQ i)
  · unfold WFc
    decide +kernel
  · exact ⟨fun t ht => absurd ht (kT t), fun j _ hj => A0_0 (by omega) (by omega)⟩
  · exact ⟨fun t ht => absurd ht (kB t), fun j _ hj => A0_0 (by omega) (by omega)⟩
  · exact ⟨fun t ht => absurd ht (kY t), fun j _ hj => A0_0 (by omega) (by omega)⟩
  · exact fun t ht => absurd ht (kW t)
  · exact fun t ht => absurd ht (kQ t)
  · unfold AC WFa
    decide +kernel
  · unfold QB
    rw [z207, t0]
    exact Nat.le_refl _
  · unfold WT
    decide +kernel
