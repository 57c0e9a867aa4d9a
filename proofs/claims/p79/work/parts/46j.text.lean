/-! THE PLAIN PART 17j: both runs between calls; what a fault is. -/
section T46j
variable {n m len f pos k : Nat} {u v w : vSt} {A A' A0 T T' : Ar} {c p : Int32}
theorem run_len : ∀ {f : Nat} {A : Ar} {pos k : Nat}, len ≤ f + pos → pos ≤ len → ((runP T len f A pos k).2.2.2.1 = 0 ∨ (runP T len f A pos k).2.2.2.1 = 1 ∨ (runP T len f A pos k).2.2.2.1 = 2) ∧ ((runP T len f A pos k).2.2.2.1 = 0 → (runP T len f A pos k).2.1 = len)
  | 0, A, pos, k, h1, h2 => ⟨Or.inl rfl, fun _ => by show pos = len; omega⟩
  | f + 1, A, pos, k, h1, h2 => by
    unfold runP
    by_cases q : len ≤ pos
    · rw [if_pos q]; exact ⟨Or.inl rfl, fun _ => by show pos = len; omega⟩
    rw [if_neg q]
    by_cases z : (pE T len pos).1 = true
    · rw [if_pos z]
      by_cases hx : rfc (oAt T len A pos).1 = 0
      · rw [if_pos hx]
        obtain ⟨o1, o2, _⟩ := pOk (by omega) z
        have := pE_le (T := T) (len := len) (b := pos) (by omega)
        exact run_len (by omega) (by omega)
      · rw [if_neg hx]
        exact ⟨Or.inr (Or.inr rfl), fun q => absurd (show (2 : Int32) = 0 from q) (by decide)⟩
    · rw [if_neg z]
      exact ⟨Or.inr (Or.inl rfl), fun q => absurd (show (1 : Int32) = 0 from q) (by decide)⟩
/-- the run from the state now -/
def rNow (v : vSt) : Ar × Nat × Nat × Int32 × Int32 := runP (v 466) (TL v) 60 (v 462) 0 0
theorem tl_of (hI : Inv n m v) : v 448 6 = Int32.ofNat (TL v) ∧ v 461 7 = Int32.ofNat (TL v) ∧ TL v ≤ 60 := by
  obtain ⟨_, _, _, _, ⟨⟨x1, x2, x3⟩, x4, x5, x6⟩, _⟩ := hI
  have e : v 461 7 = Int32.ofNat (TL v) := (of_to x2.1).symm
  exact ⟨by rw [x1]; exact e, e, by omega⟩
theorem rq_now (hI : Inv n m v) (hn : n ≤ 3150) : RQ (v 466) (TL v) (v 462) := by
  obtain ⟨_, _, _, _, ⟨_, x4, x5, x6⟩, hN, _⟩ := hI
  exact QB.rq hN.2.2.2.1 hn x4 x5 x6
theorem ri_now (hI : Inv n m v) : RI (v 466) (TL v) (v 462) (v 462) 0 := by
  have hN := hI.2.2.2.2.2.1
  exact ⟨Nat.zero_le _, hN.2.1, hN.2.2.1, rfl, rfl, 0, by show 5 * 0 + 3 * 0 ≤ 0; omega, by omega, by omega⟩
theorem cr_all (hI : Inv n m v) (hn : n ≤ 3150) : oX9_run 451 (rN (v 448 0)) 450 (v 448 6) v ∧ CE (v 450) (TL v) (v 462) (rN (v 451 0)) v (fX9_run 451 (rN (v 448 0)) 450 (v 448 6) v) (rNow v) ∧ pot v ≤ pot (fX9_run 451 (rN (v 448 0)) 450 (v 448 6) v) ∧ ∃ wc, CI (v 466) (rN (v 451 0)) wc (v 462) 0 0 := by
  obtain ⟨t1, t2, t3⟩ := tl_of hI
  have hx := hI.2.2.2.2.1.1.2.2
  have hb := hI.1.2.1.1
  have ha := hI.1.1.1
  have hb7 := kd7 hb
  have hne : rN (v 451 0) ≠ rN (v 448 0) := fun e => hI.1.2.2.2.1 e.symm
  have hN := hI.2.2.2.2.2.1
  have hT : ∀ i, i < TL v → v 450 i = v 466 i := fun i hi => (hx i hi).1
  have hT32 : ∀ i, i < TL v → 32 ≤ (v 450 i).toInt ∧ (v 450 i).toInt ≤ 126 := fun i hi => by rw [hT i hi]; exact (hx i hi).2
  obtain ⟨z1, z2, z3⟩ := c_copy hb ha hne hN.1 hN.2.1 (hI.2.1 _ hb) (hI.2.1 _ ha)
  have hpm := z2.mono hb
  have hq := rq_cg hT (rq_now hI hn)
  have hR0 := ri_cg (fun i hi => (hT i hi).symm) (ri_now hI)
  rw [t1]
  have m60 : (if 60 < Int32.ofNat (TL v) then 60 else Int32.ofNat (TL v) : Int32) = Int32.ofNat (TL v) := if_neg (mt (oflt (k := 60) (n := TL v) (by decide) (by omega)).mp (by omega))
  unfold oX9_run
  have hkr : kkX9_run 451 (rN (v 448 0)) 450 (Int32.ofNat (TL v)) v = pot (fX9_run 451 (rN (v 448 0)) 450 (Int32.ofNat (TL v)) v) - pot v := rfl
  have hkc : kkX7_copyFrom (rN (v 451 0)) (rN (v 448 0)) v = pot (fX7_copyFrom (rN (v 451 0)) (rN (v 448 0)) v) - pot v := rfl
  have eV : fX9_run 451 (rN (v 448 0)) 450 (Int32.ofNat (TL v)) v = lX9_run_31 451 450 (Int32.ofNat (TL v)) 61 0 (u2 (u2 (u2 (u2 (fX7_copyFrom (rN (v 451 0)) (rN (v 448 0)) v) 451 2 0) 451 3 0) 451 4 0) 451 5 0) := by
    unfold fX9_run
    rw [m60]
  generalize hv4 : fX7_copyFrom (rN (v 451 0)) (rN (v 448 0)) v = v4 at *
  have e8 : ∀ q, q ≠ 451 → u2 (u2 (u2 (u2 v4 451 2 0) 451 3 0) 451 4 0) 451 5 0 q = v4 q := fun q h => by rw [u2_r h, u2_r h, u2_r h, u2_r h]
  have q451 : v4 451 = v 451 := z2.1 451 (by omega)
  have hCI : CI (v 450) (rN (v 451 0)) (u2 (u2 (u2 (u2 v4 451 2 0) 451 3 0) 451 4 0) 451 5 0) (v 462) 0 0 := by
    refine ⟨?_, z1.fr hb (fun q a1 a2 => e8 q (by omega)) ⟨hN.2.1.1.1, hN.2.1.1.2.1, hN.2.1.1.2.2.1⟩, z2.2.1.fr ⟨e8 _ (by omega), e8 _ (by omega)⟩, by rw [e8 450 (by decide)]; exact z2.1 450 (by omega), ?_, ?_, ?_, ?_⟩
    · rw [u2_q, if_neg (by decide), u2_q, if_neg (by decide), u2_q, if_neg (by decide), u2_q, if_neg (by decide), q451]
    · rw [u2_q, if_neg (by decide), u2_q, if_neg (by decide), u2_q, if_neg (by decide), u2_q, if_pos rfl]; rfl
    · rw [u2_q, if_neg (by decide), u2_q, if_neg (by decide), u2_q, if_pos rfl]; rfl
    · rw [u2_q, if_neg (by decide), u2_q, if_pos rfl]
    · rw [u2_q, if_pos rfl]
  have e80 : u2 (u2 (u2 (u2 v4 451 2 0) 451 3 0) 451 4 0) 451 5 0 451 0 = v 451 0 := by rw [u2_q, if_neg (by decide), u2_q, if_neg (by decide), u2_q, if_neg (by decide), u2_q, if_neg (by decide), q451]
  have ep8 : pot (u2 (u2 (u2 (u2 v4 451 2 0) 451 3 0) 451 4 0) 451 5 0) = pot v4 := pot_cg (fun q hq => by rw [e8 q (fun e => by rw [e] at hq; exact absurd hq (by decide))])
  have eo8 : ∀ v4' : vSt, v4' = v4 → ∀ v5 : vSt, v5 = u2 v4' 451 2 0 → ∀ v6 : vSt, v6 = u2 v5 451 3 0 → ∀ v7 : vSt, v7 = u2 v6 451 4 0 → ∀ v8 : vSt, v8 = u2 v7 451 5 0 → v8 = u2 (u2 (u2 (u2 v4 451 2 0) 451 3 0) 451 4 0) 451 5 0 := fun a h1 b h2 c h3 d h4 e h5 => by rw [h5, h4, h3, h2, h1]
  have F48 : FT (rN (v 451 0)) v (u2 (u2 (u2 (u2 v4 451 2 0) 451 3 0) 451 4 0) 451 5 0) := (FT.po (by omega) z2).tr (FT.of (by omega) (fun q a1 _ => e8 q a1) (by rw [e80, q451]))
  generalize hv8 : u2 (u2 (u2 (u2 v4 451 2 0) 451 3 0) 451 4 0) 451 5 0 = v8 at *
  have C := run_c hb t3 hT32 hq 60 61 0 0 0 (v 462) v8 (by omega) (by omega) (Nat.le_refl _) (Nat.le_refl _) hCI hR0
  rw [i0, run_cg hT] at C
  have pV := ft_pot hb C.2.2.1 C.2.1
  rw [eV]
  rw [eV] at hkr
  have O := run_o (v8 := v8) (V := lX9_run_31 451 450 (Int32.ofNat (TL v)) 61 0 v8) (o1 := rN (v 448 0)) (v0 := v) hb t3 hT32 hq (fun x x1 x2 => by rw [hkc, hkr]; omega) 60 61 0 0 0 (v 462) v8 (by omega) (by omega) (Nat.le_refl _) (Nat.le_refl _) hCI hR0 (Nat.le_refl _) rfl
  rw [i0] at O
  refine ⟨fun y1 ey => by rw [m60] at ey; rw [ey]; exact ⟨hb, z3, by rw [hkc, hkr]; omega, fun v4' h1 v5 h2 v6 h3 v7 h4 v8' h5 => by rw [eo8 v4' h1 v5 h2 v6 h3 v7 h4 v8' h5]; exact ⟨by omega, O, fun v12 h12 => by rw [h12, hkc, hkr]; omega⟩⟩, ⟨C.1, C.2.1, F48.tr C.2.2.1, C.2.2.2⟩, by omega, uA v8 450 (v 466), ?_⟩
  · obtain ⟨i1, i2, i3, i4, i5, i6, i7, i8⟩ := hCI
    have er : ∀ q, q ≠ 450 → uA v8 450 (v 466) q = v8 q := fun q h => uA_n h
    exact ⟨by rw [er 451 (by decide)]; exact i1, i2.fr hb (fun q a1 a2 => er q (by omega)) ⟨hN.2.1.1.1, hN.2.1.1.2.1, hN.2.1.1.2.2.1⟩, i3.fr ⟨er _ (by omega), er _ (by omega)⟩, uA_s, by rw [er 451 (by decide)]; exact i5, by rw [er 451 (by decide)]; exact i6, by rw [er 451 (by decide)]; exact i7, by rw [er 451 (by decide)]; exact i8⟩
/-- the model's run, from a world that shows the same -/
theorem mr_all (hI : Inv n m v) (hn : n ≤ 3150) (e462 : u 462 = v 462) (e7 : u 461 7 = v 461 7) (e466 : u 466 = v 466) : oX11_doesAll 461 u ∧ MEo u (fX11_doesAll 461 u) (rNow v) := by
  obtain ⟨t1, t2, t3⟩ := tl_of hI
  have hx := hI.2.2.2.2.1.1.2.2
  have hb := hI.1.2.1.1
  obtain ⟨_, _, _, wc, hC⟩ := cr_all hI hn
  have hT32 : ∀ i, i < TL v → 32 ≤ (v 466 i).toInt ∧ (v 466 i).toInt ≤ 126 := fun i hi => (hx i hi).2
  have r := rn_m hb t3 hT32 (rq_now hI hn) 60 61 0 0 (v 462) (u2 (u2 u 461 16 0) 461 10 0) wc (by omega) (by omega) (Nat.le_refl _)
    ⟨by rw [u2_q, if_neg (by decide), u2_q, if_neg (by decide), e7]; exact t2, by rw [u2_q, if_pos rfl]; rfl, by rw [u2_q, if_neg (by decide), u2_q, if_pos rfl], by rw [u2_r (by decide), u2_r (by decide)]; exact e462, by rw [u2_r (by decide), u2_r (by decide)]; exact e466⟩ hC (ri_now hI)
  rw [i0] at r
  unfold oX11_doesAll fX11_doesAll
  refine ⟨fun v1 h1 v2 h2 => by rw [h2, h1]; exact r.1, r.2.1, r.2.2.1, r.2.2.2.1, r.2.2.2.2.1, fun q a1 a2 => ?_, fun f hf => ?_⟩
  · have := r.2.2.2.2.2.1 q a1 a2
    rw [u2_r a1, u2_r a1] at this
    exact this
  · have := r.2.2.2.2.2.2 f hf
    rw [u2_q, if_neg (by omega), u2_q, if_neg (by omega)] at this
    exact this
end T46j
