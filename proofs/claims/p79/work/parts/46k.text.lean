/-! THE PLAIN PART 17k: the three questions upon faults. -/
section T46k
variable {n m len f pos k : Nat} {u v w V : vSt} {A A' A0 T T' : Ar} {c p : Int32}
/-- the model tells of a fault, in the world that the class's run left -/
theorem fault_m (hI : Inv n m v) (hn : n ≤ 3150) (hC : CE (v 450) (TL v) (v 462) (rN (v 451 0)) v V (rNow v)) (hp : p = 0 ∨ p = 1 ∨ p = 2) : oX11_faultTold 461 p V ∧ pot (fX11_faultTold 461 p V).2 = pot V ∧ Inv (n + 1) m (fX11_faultTold 461 p V).2 ∧
    ((rNow v).2.2.2.1 = 0 → (fX11_faultTold 461 p V).2 461 8 = 1) ∧ ((rNow v).2.2.2.1 ≠ 0 → (fX11_faultTold 461 p V).2 461 8 = 0 ∧ (fX11_faultTold 461 p V).1 = if p = 0 then Int32.ofNat (rNow v).2.1 else (if p = 1 then (rNow v).2.2.2.1 else (rNow v).2.2.2.2)) ∧ (∀ q, q ≠ 461 → q ≠ 462 → q ≠ 463 → (fX11_faultTold 461 p V).2 q = V q) ∧ eqA ((fX11_faultTold 461 p V).2 462) (v 462) ∧ (∀ f, f < 8 → (fX11_faultTold 461 p V).2 461 f = v 461 f) ∧ ∀ j, 3417 ≤ j → (fX11_faultTold 461 p V).2 462 j = (rNow v).1 j := by
  have hb7 := kd7 hI.1.2.1.1
  have ha7 := kd7 hI.1.1.1
  obtain ⟨C1, C2, C3, C4, C5⟩ := hC
  have vq : ∀ q, 453 ≤ q → V q = v q := fun q hq => C3.1 q (by omega) (by omega) (by omega)
  -- the worlds of the model
  have M1 := m_copies (v := u2 V 461 8 0) (o1 := 462) (o2 := 463) (s := 0) (d := 0) (by decide) (by decide) (by decide)
  rw [i0] at M1
  have w3 : ∀ q, q ≠ 461 → q ≠ 463 → fX11_copies 462 0 463 0 (u2 V 461 8 0) q = V q := fun q h1 h2 => by rw [M1.1, uA_n h2, u2_r h1]
  have w3f : ∀ f, f ≠ 8 → fX11_copies 462 0 463 0 (u2 V 461 8 0) 461 f = V 461 f := fun f hf => by rw [M1.1, uA_n (by decide), u2_q, if_neg hf]
  have w38 : fX11_copies 462 0 463 0 (u2 V 461 8 0) 461 8 = 0 := by rw [M1.1, uA_n (by decide), u2_q, if_pos rfl]
  have w3c : eqA (fX11_copies 462 0 463 0 (u2 V 461 8 0) 463) (v 462) := fun j hj => by
    rw [M1.1, uA_s, cpy_0 hj, u2_r (by decide), vq 462 (by omega)]
  obtain ⟨d1, D⟩ := mr_all (u := fX11_copies 462 0 463 0 (u2 V 461 8 0)) hI hn (by rw [w3 462 (by decide) (by decide)]; exact vq 462 (by omega)) (by rw [w3f 7 (by decide), vq 461 (by omega)]) (by rw [w3 466 (by decide) (by decide)]; exact vq 466 (by omega))
  have M2 := m_copies (v := (fX11_doesAll 461 (fX11_copies 462 0 463 0 (u2 V 461 8 0))).2) (o1 := 463) (o2 := 462) (s := 0) (d := 0) (by decide) (by decide) (by decide)
  rw [i0] at M2
  have hO : oX11_faultTold 461 p V := fun v1 h1 => ⟨by rw [h1]; exact M1.2, fun v3 h3 => ⟨by rw [h3, h1]; exact d1, fun v5 h5 => by rw [h5, h3, h1]; exact M2.2⟩⟩
  have s1 : ∀ q, q ≠ 461 → q ≠ 462 → q ≠ 463 → fX11_copies 463 0 462 0 (fX11_doesAll 461 (fX11_copies 462 0 463 0 (u2 V 461 8 0))).2 q = V q := fun q h1 h2 h3 => by rw [M2.1, uA_n h2, D.2.2.2.2.1 q h1 h2, w3 q h1 h3]
  have s2 : ∀ f, fX11_copies 463 0 462 0 (fX11_doesAll 461 (fX11_copies 462 0 463 0 (u2 V 461 8 0))).2 461 f = (fX11_doesAll 461 (fX11_copies 462 0 463 0 (u2 V 461 8 0))).2 461 f := fun f => by rw [M2.1, uA_n (by decide)]
  have s3 : eqA (fX11_copies 463 0 462 0 (fX11_doesAll 461 (fX11_copies 462 0 463 0 (u2 V 461 8 0))).2 462) (v 462) := fun j hj => by
    rw [M2.1, uA_s, cpy_0 hj, D.2.2.2.2.1 463 (by decide) (by decide), w3c j hj]
  have s3h : ∀ j, 3417 ≤ j → fX11_copies 463 0 462 0 (fX11_doesAll 461 (fX11_copies 462 0 463 0 (u2 V 461 8 0))).2 462 j = (rNow v).1 j := fun j hj => by
    rw [M2.1, uA_s]
    unfold va_cpy
    rw [if_neg (by omega), D.2.1]
  have s8 : fX11_copies 463 0 462 0 (fX11_doesAll 461 (fX11_copies 462 0 463 0 (u2 V 461 8 0))).2 461 8 = 0 := by rw [s2, D.2.2.2.2.2 8 (by omega), w38]
  have s16 : fX11_copies 463 0 462 0 (fX11_doesAll 461 (fX11_copies 462 0 463 0 (u2 V 461 8 0))).2 461 16 = (rNow v).2.2.2.1 := by rw [s2]; exact D.2.2.1
  have s11 : (rNow v).2.2.2.1 ≠ 0 → fX11_copies 463 0 462 0 (fX11_doesAll 461 (fX11_copies 462 0 463 0 (u2 V 461 8 0))).2 461 11 = Int32.ofNat (rNow v).2.1 := fun z => by rw [s2]; exact (D.2.2.2.1 z).2
  have s17 : (rNow v).2.2.2.1 ≠ 0 → fX11_copies 463 0 462 0 (fX11_doesAll 461 (fX11_copies 462 0 463 0 (u2 V 461 8 0))).2 461 17 = (rNow v).2.2.2.2 := fun z => by rw [s2]; exact (D.2.2.2.1 z).1
  have sf : ∀ f, f < 8 → fX11_copies 463 0 462 0 (fX11_doesAll 461 (fX11_copies 462 0 463 0 (u2 V 461 8 0))).2 461 f = v 461 f := fun f hf => by rw [s2, D.2.2.2.2.2 f (by omega), w3f f (by omega), vq 461 (by omega)]
  unfold fX11_faultTold
  dsimp only
  generalize fX11_copies 463 0 462 0 (fX11_doesAll 461 (fX11_copies 462 0 463 0 (u2 V 461 8 0))).2 = v7 at *
  rw [s16]
  -- what stands in every case
  have key : ∀ w : vSt, (∀ q, q ≠ 461 → w q = v7 q) → (∀ f, f ≠ 8 → w 461 f = v7 461 f) → pot w = pot V ∧ Inv (n + 1) m w := fun w h1 h2 => by
    refine ⟨?_, (Inv.trial hI (fun q a1 a2 a3 a4 a5 a6 => ?_) ?_ ?_ ?_ (fun f hf => ?_)).up (Nat.zero_le _)⟩
    · rw [← pot_cg (v := V) (v' := w) (fun q hq => by rw [h1 q (fun e => by rw [e] at hq; exact absurd hq (by decide)), s1 q (fun e => by rw [e] at hq; exact absurd hq (by decide)) (fun e => by rw [e] at hq; exact absurd hq (by decide)) (fun e => by rw [e] at hq; exact absurd hq (by decide))])]
    · rw [h1 q a4, s1 q a4 a5 a6]; exact C3.1 q a1 a2 a3
    · rw [h1 451 (by decide), s1 451 (by decide) (by decide) (by decide)]; exact C3.2.2.2
    · exact C2.fr ⟨by rw [h1 _ (by omega), s1 _ (by omega) (by omega) (by omega)], by rw [h1 _ (by omega), s1 _ (by omega) (by omega) (by omega)]⟩
    · rw [h1 462 (by decide)]; exact s3
    · rw [h2 f (by omega)]; exact sf f hf
  by_cases z : (rNow v).2.2.2.1 = 0
  · rw [if_pos z]
    obtain ⟨k1, k2⟩ := key (u2 v7 461 8 1) (fun q h => u2_r h) (fun f h => by rw [u2_q, if_neg h])
    exact ⟨hO, k1, k2, fun _ => by show u2 v7 461 8 1 461 8 = 1; rw [u2_q, if_pos rfl], fun z2 => absurd z z2, fun q a b c => by show u2 v7 461 8 1 q = _; rw [u2_r a]; exact s1 q a b c, by show eqA (u2 v7 461 8 1 462) _; rw [u2_r (by decide)]; exact s3, fun f hf => by show u2 v7 461 8 1 461 f = _; rw [u2_q, if_neg (by omega)]; exact sf f hf, fun j hj => by show u2 v7 461 8 1 462 j = _; rw [u2_r (by decide)]; exact s3h j hj⟩
  · rw [if_neg z]
    obtain ⟨k1, k2⟩ := key v7 (fun _ _ => rfl) (fun _ _ => rfl)
    rcases hp with e | e | e
    · rw [e, if_pos rfl, if_pos rfl]
      exact ⟨by rw [← e]; exact hO, k1, k2, fun z2 => absurd z2 z, fun _ => ⟨s8, s11 z⟩, s1, s3, sf, s3h⟩
    · rw [e, if_neg (by decide), if_pos rfl, if_neg (by decide), if_pos rfl]
      exact ⟨by rw [← e]; exact hO, k1, k2, fun z2 => absurd z2 z, fun _ => ⟨s8, rfl⟩, s1, s3, sf, s3h⟩
    · rw [e, if_neg (by decide), if_neg (by decide), if_neg (by decide), if_neg (by decide)]
      exact ⟨by rw [← e]; exact hO, k1, k2, fun z2 => absurd z2 z, fun _ => ⟨s8, s17 z⟩, s1, s3, sf, s3h⟩
theorem t_faultPosition (hI : Inv n m v) (hn : n ≤ 3150) : oX10_faultPosition 448 v ∧ oX11_faultPosition 461 (fX10_faultPosition 448 v).2.2 ∧ ((fX10_faultPosition 448 v).1 = 0 ∨ (fX10_faultPosition 448 v).1 = 3) ∧
    OKC n v (fX10_faultPosition 448 v).1 (fX10_faultPosition 448 v).2.1 (fX10_faultPosition 448 v).2.2 (fX11_faultPosition 461 (fX10_faultPosition 448 v).2.2).1 (fX11_faultPosition 461 (fX10_faultPosition 448 v).2.2).2 cc1 := by
  obtain ⟨o9, C, hp, _⟩ := cr_all hI hn
  have hb7 := kd7 hI.1.2.1.1
  have ha7 := kd7 hI.1.1.1
  obtain ⟨f1, f2, f3, f4, f5, f6⟩ := fault_m (p := 0) hI hn C (Or.inl rfl)
  have hk9 : kkX9_run 451 (rN (v 448 0)) 450 (v 448 6) v = pot (fX9_run 451 (rN (v 448 0)) 450 (v 448 6) v) - pot v := rfl
  obtain ⟨c1, c2, c3, c4, c5, c6, c7, c8, _⟩ := C
  unfold oX10_faultPosition kkX10_faultPosition oX11_faultPosition fX11_faultPosition fX10_faultPosition fX10_needFault
  dsimp only
  generalize fX9_run 451 (rN (v 448 0)) 450 (v 448 6) v = V at *
  rw [c7]
  by_cases z : (rNow v).2.2.2.1 = 0
  · rw [if_pos z, if_neg (show ¬ (3 : Nat) = 0 by decide)]
    exact ⟨⟨hI.1.1.1, o9, by rw [hk9]; dsimp only; omega, fun v4 _ => by rw [hk9]; dsimp only; omega⟩, f1, Or.inr rfl, fun q hq => c3.1 q (by omega) (by omega) (by omega), hp, f2, by rw [f4 z]; rfl, fun q => absurd (show (3 : Nat) = 0 from q) (by decide), m, f3⟩
  · rw [if_neg z, if_pos rfl]
    exact ⟨⟨hI.1.1.1, o9, by rw [hk9]; dsimp only; omega, fun v4 _ => by rw [hk9]; dsimp only; omega⟩, f1, Or.inl rfl, fun q hq => c3.1 q (by omega) (by omega) (by omega), hp, f2, by rw [(f5 z).1]; rfl, fun _ => by rw [(f5 z).2, if_pos rfl]; exact c6, m, f3⟩
theorem t_faultReason (hI : Inv n m v) (hn : n ≤ 3150) : oX10_faultReason 448 v ∧ oX11_faultReason 461 (fX10_faultReason 448 v).2.2 ∧ ((fX10_faultReason 448 v).1 = 0 ∨ (fX10_faultReason 448 v).1 = 3) ∧
    OKC n v (fX10_faultReason 448 v).1 (fX10_faultReason 448 v).2.1 (fX10_faultReason 448 v).2.2 (fX11_faultReason 461 (fX10_faultReason 448 v).2.2).1 (fX11_faultReason 461 (fX10_faultReason 448 v).2.2).2 cc1 := by
  obtain ⟨o9, C, hp, _⟩ := cr_all hI hn
  have hb7 := kd7 hI.1.2.1.1
  have ha7 := kd7 hI.1.1.1
  obtain ⟨f1, f2, f3, f4, f5, f6⟩ := fault_m (p := 1) hI hn C (Or.inr (Or.inl rfl))
  have hk9 : kkX9_run 451 (rN (v 448 0)) 450 (v 448 6) v = pot (fX9_run 451 (rN (v 448 0)) 450 (v 448 6) v) - pot v := rfl
  obtain ⟨c1, c2, c3, c4, c5, c6, c7, c8, _⟩ := C
  unfold oX10_faultReason kkX10_faultReason oX11_faultReason fX11_faultReason fX10_faultReason fX10_needFault
  dsimp only
  generalize fX9_run 451 (rN (v 448 0)) 450 (v 448 6) v = V at *
  rw [c7]
  by_cases z : (rNow v).2.2.2.1 = 0
  · rw [if_pos z, if_neg (show ¬ (3 : Nat) = 0 by decide)]
    exact ⟨⟨hI.1.1.1, o9, by rw [hk9]; dsimp only; omega, fun v4 _ => by rw [hk9]; dsimp only; omega⟩, f1, Or.inr rfl, fun q hq => c3.1 q (by omega) (by omega) (by omega), hp, f2, by rw [f4 z]; rfl, fun q => absurd (show (3 : Nat) = 0 from q) (by decide), m, f3⟩
  · rw [if_neg z, if_pos rfl]
    exact ⟨⟨hI.1.1.1, o9, by rw [hk9]; dsimp only; omega, fun v4 _ => by rw [hk9]; dsimp only; omega⟩, f1, Or.inl rfl, fun q hq => c3.1 q (by omega) (by omega) (by omega), hp, f2, by rw [(f5 z).1]; rfl, fun _ => by rw [(f5 z).2, if_neg (by decide), if_pos rfl], m, f3⟩
theorem t_faultCause (hI : Inv n m v) (hn : n ≤ 3150) : oX10_faultCause 448 v ∧ oX11_faultCause 461 (fX10_faultCause 448 v).2.2 ∧ ((fX10_faultCause 448 v).1 = 0 ∨ (fX10_faultCause 448 v).1 = 3) ∧
    OKC n v (fX10_faultCause 448 v).1 (fX10_faultCause 448 v).2.1 (fX10_faultCause 448 v).2.2 (fX11_faultCause 461 (fX10_faultCause 448 v).2.2).1 (fX11_faultCause 461 (fX10_faultCause 448 v).2.2).2 cc1 := by
  obtain ⟨o9, C, hp, _⟩ := cr_all hI hn
  have hb7 := kd7 hI.1.2.1.1
  have ha7 := kd7 hI.1.1.1
  obtain ⟨f1, f2, f3, f4, f5, f6⟩ := fault_m (p := 2) hI hn C (Or.inr (Or.inr rfl))
  have hk9 : kkX9_run 451 (rN (v 448 0)) 450 (v 448 6) v = pot (fX9_run 451 (rN (v 448 0)) 450 (v 448 6) v) - pot v := rfl
  obtain ⟨c1, c2, c3, c4, c5, c6, c7, c8, _⟩ := C
  unfold oX10_faultCause kkX10_faultCause oX11_faultCause fX11_faultCause fX10_faultCause fX10_needFault
  dsimp only
  generalize fX9_run 451 (rN (v 448 0)) 450 (v 448 6) v = V at *
  rw [c7]
  by_cases z : (rNow v).2.2.2.1 = 0
  · rw [if_pos z, if_neg (show ¬ (3 : Nat) = 0 by decide)]
    exact ⟨⟨hI.1.1.1, o9, by rw [hk9]; dsimp only; omega, fun v4 _ => by rw [hk9]; dsimp only; omega⟩, f1, Or.inr rfl, fun q hq => c3.1 q (by omega) (by omega) (by omega), hp, f2, by rw [f4 z]; rfl, fun q => absurd (show (3 : Nat) = 0 from q) (by decide), m, f3⟩
  · rw [if_neg z, if_pos rfl]
    exact ⟨⟨hI.1.1.1, o9, by rw [hk9]; dsimp only; omega, fun v4 _ => by rw [hk9]; dsimp only; omega⟩, f1, Or.inl rfl, fun q hq => c3.1 q (by omega) (by omega) (by omega), hp, f2, by rw [(f5 z).1]; rfl, fun _ => by rw [(f5 z).2, if_neg (by decide), if_neg (by decide)]; exact c8, m, f3⟩
end T46k
