/-! P79, PLAIN 5b: undoing, keeping, going back, clearing, on the model's side. -/
section T51d
variable {n m : Nat} {u v w v4 : vSt} {A A' : Ar} {z k p : Int32} {code : Nat}
theorem m_undo (hI : Inv n m v) (hu : ∀ q, 453 ≤ q → u q = v q) : (v 461 5 = 0 → ∃ w, fX11_undo 461 u = (0, w) ∧ mFa u w 1) ∧
    (v 461 5 ≠ 0 → ∃ w, fX11_undo 461 u = (v 461 5 - 1, w) ∧ (∀ q, q ≠ 461 → q ≠ 462 → w q = u q) ∧ (∀ f, f ≠ 5 → f ≠ 8 → w 461 f = u 461 f) ∧ w 461 5 = v 461 5 - 1 ∧ w 461 8 = 0 ∧ eqA (w 462) (sl v (v 461 5 - 1).toNatClampNeg)) := by
  have c2 := hI.2.2.1.2
  have q5 : ∀ u : vSt, ∀ y, u2 u 461 8 y 461 5 = u 461 5 := fun u y => by rw [u2_q, if_neg (by decide)]
  have e461 : u 461 = v 461 := hu _ (by decide)
  have e465 : u 465 = v 465 := hu _ (by decide)
  refine ⟨fun h0 => ⟨_, ?_, m_ref8 (u := u) (k := 1) (x := 0)⟩, fun h0 => ?_⟩
  · unfold fX11_undo
    dsimp only
    rw [q5, e461, if_pos h0]
    rfl
  · obtain ⟨s1, s2, s3, s4⟩ := sub1 c2 h0
    have s5 : inn (v 461 5 - 1) 4 := ⟨s4.1, by rw [s1]; have := c2.2; omega⟩
    have s6 := inn_lt s5
    unfold fX11_undo
    dsimp only
    rw [q5, e461, if_neg h0]
    have e5 : u2 (u2 u 461 8 0) 461 5 (v 461 5 - 1) 461 5 = v 461 5 - 1 := u2_s
    rw [e5]
    have eI : 3417 * (v 461 5 - 1) = Int32.ofNat (3417 * (v 461 5 - 1).toNatClampNeg) := by
      have e := rn_to s5.1
      have h2 := s5.2
      refine Int32.toInt_inj.mp ?_
      rw [of_ti (by omega), ti_mul (by rw [show (3417 : Int32).toInt = 3417 from rfl]; omega), show (3417 : Int32).toInt = 3417 from rfl]
      omega
    have mc := m_copies (v := u2 (u2 u 461 8 0) 461 5 (v 461 5 - 1)) (o1 := 465) (o2 := 462) (s := 3417 * (v 461 5 - 1).toNatClampNeg) (d := 0) (by decide) (by rw [show mlen 465 = 13668 from rfl]; omega) (by decide)
    rw [show (Int32.ofNat 0) = (0 : Int32) from rfl] at mc
    rw [eI, mc.1]
    have i465 : u2 (u2 u 461 8 0) 461 5 (v 461 5 - 1) 465 = v 465 := by rw [u2_r (by decide), u2_r (by decide), e465]
    refine ⟨_, Prod.ext ?_ rfl, fun q a b => ?_, fun f a b => ?_, ?_, ?_, fun j hj => ?_⟩
    · dsimp only
      rw [uA_n (by decide), u2_s]
    · rw [uA_n b, u2_r a, u2_r a]
    · rw [uA_n (by decide), u2_q, if_neg (by omega), u2_q, if_neg (by omega), e461]
    · rw [uA_n (by decide), u2_s]
    · rw [uA_n (by decide), u2_q, if_neg (by decide), u2_s]
    · rw [uA_s, i465]
      unfold va_cpy sl
      rw [if_pos (by omega)]
      congr 1
theorem m_keep (hu : ∀ q, 453 ≤ q → u q = v q) : ∃ w, fX11_keep 461 u = (v 462 206, w) ∧ (∀ q, q ≠ 461 → q ≠ 464 → w q = u q) ∧ (∀ f, f ≠ 3 → f ≠ 8 → w 461 f = u 461 f) ∧ w 461 3 = 1 ∧ w 461 8 = 0 ∧ eqA (w 464) (v 462) := by
  have e462 : u 462 = v 462 := hu _ (by decide)
  have mc := m_copies (v := u2 (u2 u 461 8 0) 461 3 1) (o1 := 462) (o2 := 464) (s := 0) (d := 0) (by decide) (by decide) (by decide)
  rw [show (Int32.ofNat 0) = (0 : Int32) from rfl] at mc
  have i462 : u2 (u2 u 461 8 0) 461 3 1 462 = v 462 := by rw [u2_r (by decide), u2_r (by decide), e462]
  unfold fX11_keep
  dsimp only
  rw [mc.1]
  refine ⟨_, Prod.ext ?_ rfl, fun q a b => ?_, fun f a b => ?_, ?_, ?_, fun j hj => ?_⟩
  · have e6 : (206 : Int32).toNatClampNeg = 206 := rfl
    dsimp only
    rw [uA_n (by decide), i462, e6]
  · rw [uA_n b, u2_r a, u2_r a]
  · rw [uA_n (by decide), u2_q, if_neg (by omega), u2_q, if_neg (by omega)]
  · rw [uA_n (by decide), u2_s]
  · rw [uA_n (by decide), u2_q, if_neg (by decide), u2_s]
  · rw [uA_s, cpy_0 hj, i462]
theorem m_goBack (hI : Inv n m v) (hu : ∀ q, 453 ≤ q → u q = v q) : (v 461 3 = 0 → ∃ w, fX11_goBack 461 u = (0, w) ∧ mFa u w 1) ∧
    (v 461 3 ≠ 0 → ∃ w A', fX11_goBack 461 u = (A' 206, w) ∧ mSu u w A' ∧ eqA A' (v 464)) := by
  have c2 := hI.2.2.1.2
  have hbg : ∀ u : vSt, fX11_begins 461 u 461 3 = u 461 3 := fun u => m_begins.2.1 3 (by decide)
  have e461 : u 461 = v 461 := hu _ (by decide)
  refine ⟨fun h0 => ⟨_, ?_, m_ref (u := u) (k := 1)⟩, fun h0 => ?_⟩
  · unfold fX11_goBack
    dsimp only
    rw [hbg, e461, if_pos h0]
    rfl
  · unfold fX11_goBack
    dsimp only
    rw [hbg, e461, if_neg h0]
    have i464 : fX11_begins 461 u 464 = v 464 := by rw [m_begins.1 _ (by decide) (by decide), hu _ (by decide)]
    have mc := m_copies (v := fX11_begins 461 u) (o1 := 464) (o2 := 462) (s := 0) (d := 0) (by decide) (by decide) (by decide)
    rw [show (Int32.ofNat 0) = (0 : Int32) from rfl] at mc
    rw [mc.1, i464]
    generalize hA : va_cpy (v 464) (fX11_begins 461 u 462) 0 0 3417 = A'
    have eA : eqA A' (v 464) := fun j hj => by rw [← hA, cpy_0 hj]
    obtain ⟨w, e, hmS, ho⟩ := m_endsS (u := u) (k := 1) (A' := A') (x := 0) (by rw [e461]; exact c2) (by decide)
    have ew : fX11_records 461 (uA (fX11_begins 461 u) 462 A') = w := by
      unfold fX11_ends at e
      rw [if_neg (by decide), if_neg (by decide)] at e
      exact (Prod.mk.inj e).2
    rw [ew]
    refine ⟨w, A', Prod.ext ?_ rfl, hmS, eA⟩
    show w 462 206 = A' 206
    rw [hmS.2.1]
end T51d
