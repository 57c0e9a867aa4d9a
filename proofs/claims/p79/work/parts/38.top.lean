/-! THE PLAIN PART 9: the model's copies and records. -/
def eqA (A B : Ar) : Prop := ∀ j, j < 3417 → A j = B j
theorem eqA.rf {A : Ar} : eqA A A := fun _ _ => rfl
theorem eqA.tr {A B C : Ar} (h : eqA A B) (h' : eqA B C) : eqA A C := fun j hj => (h j hj).trans (h' j hj)
def sl (v : vSt) (i : Nat) : Ar := fun j => v 465 (3417 * i + j)
theorem SR.ext {v : vSt} {b : Nat} {A A' : Ar} (h : SR v b A) (hw : WF A) (e : eqA A' A) : SR v b A' := by
  obtain ⟨h1, h2, h3, h4, h5, h6, h7⟩ := h
  obtain ⟨⟨c1, c2, c3, c4, c5, c6⟩, w2, w3, w4, w5, w6⟩ := hw
  exact ⟨h1.cg rfl ⟨e _ (by omega), e _ (by omega), e _ (by omega), e _ (by omega)⟩, h2.cg rfl ⟨e _ (by omega), e _ (by omega), fun j _ _ => e _ (by omega)⟩, h3.cg c1 (e _ (by omega)) (fun _ _ => rfl) (fun j _ => e _ (by omega)), h4.cg c2 (e _ (by omega)) (fun _ _ => rfl) (fun j _ _ => e _ (by omega)), h5.cg c3 w4 (e _ (by omega)) (fun _ _ => ⟨rfl, rfl, rfl⟩) (fun j _ _ => e _ (by omega)), h6.cg c4 ⟨rfl, rfl, rfl, rfl⟩ ⟨e _ (by omega), fun j _ _ => e _ (by omega)⟩, h7.cg c5 ⟨rfl, rfl, rfl, rfl⟩ ⟨e _ (by omega), fun j _ _ => e _ (by omega)⟩⟩
theorem WF.ext {A A' : Ar} (hw : WF A) (e : eqA A' A) : WF A' := by
  have n6 := inn_lt hw.1.2.2.2.1
  have n7 := inn_lt hw.1.2.2.2.2.1
  refine hw.cgE (fun j hj => e j (by omega)) ⟨e _ (by omega), e _ (by omega), e _ (by omega)⟩ ⟨by rw [e _ (by omega)]; exact hw.1.2.2.2.1, by rw [e _ (by omega)]; exact hw.1.2.2.2.2.1, by rw [e _ (by omega)]; exact hw.1.2.2.2.2.2⟩ (fun i hi => ?_) (fun i hi => ?_)
  · rw [e 206 (by omega)] at hi
    rw [e _ (by omega)]; exact hw.2.2.2.2.1 i hi
  · rw [e 207 (by omega)] at hi
    rw [e _ (by omega)]; exact hw.2.2.2.2.2 i hi
theorem AC.ext {A A' : Ar} (h : AC A) (e : eqA A' A) : AC A' := by
  show WFa A'
  unfold WFa
  rw [e _ (by omega), e _ (by omega), e _ (by omega), e _ (by omega), e _ (by omega), e _ (by omega)]
  exact h
section T38
variable {v : vSt}
theorem cpy_S {g f : Ar} {s d k : Nat} : st (va_cpy g f s d k) (d + k) (g (s + k)) = va_cpy g f s d (k + 1) := by
  funext j
  unfold st va_cpy
  by_cases h : j = d + k
  · rw [if_pos h, if_pos (by omega)]
    congr 1
    omega
  · rw [if_neg h]
    by_cases h2 : d ≤ j ∧ j < d + k
    · rw [if_pos h2, if_pos (by omega)]
    · rw [if_neg h2, if_neg (by omega)]
theorem cpy_z {g f : Ar} {s d : Nat} : va_cpy g f s d 0 = f := by
  funext j
  unfold va_cpy
  rw [if_neg (by omega)]
theorem u2_uA {r k : Nat} {f : Ar} {y : Int32} : u2 (uA v r f) r k y = uA v r (st f k y) := by
  funext q j
  unfold u2 uA st
  by_cases h : q = r
  · subst h; simp
  · simp [h]
theorem m_copies {o1 o2 s d : Nat} (hne : o1 ≠ o2) (h1 : s + 3417 ≤ mlen o1) (h2 : d + 3417 ≤ mlen o2) : fX11_copies o1 (Int32.ofNat s) o2 (Int32.ofNat d) v = uA v o2 (va_cpy (v o1) (v o2) s d 3417) ∧ oX11_copies o1 (Int32.ofNat s) o2 (Int32.ofNat d) v := by
  have hm : ∀ r, mlen r ≤ 13668 := fun r => by unfold mlen; split <;> omega
  have m1 := hm o1
  have m2 := hm o2
  have key : ∀ (n k : Nat), k ≤ 3417 → 3418 ≤ n + k → lX11_copies_3 o1 (Int32.ofNat s) o2 (Int32.ofNat d) n (Int32.ofNat k) (uA v o2 (va_cpy (v o1) (v o2) s d k)) = uA v o2 (va_cpy (v o1) (v o2) s d 3417) ∧ olX11_copies_3 o1 (Int32.ofNat s) o2 (Int32.ofNat d) n (Int32.ofNat k) (uA v o2 (va_cpy (v o1) (v o2) s d k)) := by
    intro n
    induction n with
    | zero => intro k h1 h2; omega
    | succ n ih =>
      intro k h3 h4
      unfold lX11_copies_3 olX11_copies_3
      have ofl : (3417 : Int32) ≤ Int32.ofNat k ↔ 3417 ≤ k := by rw [of_le (by decide) (by omega)]; rfl
      by_cases hk : 3417 ≤ k
      · rw [if_pos (ofl.mpr hk)]
        exact ⟨by rw [show k = 3417 by omega], fun q => absurd (ofl.mpr hk) q⟩
      · have i1 := ih (k + 1) (by omega) (by omega)
        have a1 : (Int32.ofNat s + Int32.ofNat k).toInt = s + k := by rw [ti_add (by rw [of_ti (by omega), of_ti (by omega)]; omega), of_ti (by omega), of_ti (by omega)]
        have a2 : (Int32.ofNat d + Int32.ofNat k).toInt = d + k := by rw [ti_add (by rw [of_ti (by omega), of_ti (by omega)]; omega), of_ti (by omega), of_ti (by omega)]
        have b1 : (Int32.ofNat s + Int32.ofNat k).toNatClampNeg = s + k := rn_of (by omega)
        have b2 : (Int32.ofNat d + Int32.ofNat k).toNatClampNeg = d + k := rn_of (by omega)
        have e : u2 (uA v o2 (va_cpy (v o1) (v o2) s d k)) o2 (Int32.ofNat d + Int32.ofNat k).toNatClampNeg (uA v o2 (va_cpy (v o1) (v o2) s d k) o1 (Int32.ofNat s + Int32.ofNat k).toNatClampNeg) = uA v o2 (va_cpy (v o1) (v o2) s d (k + 1)) := by
          rw [b1, b2, uA_n hne, u2_uA, cpy_S]
        rw [if_neg (mt ofl.mp hk), of_S (by omega), e]
        exact ⟨i1.1, fun _ => ⟨i_in (by omega) (by omega), i_in (by omega) (by omega), fun v6 e6 => by rw [e6]; exact i1.2⟩⟩
  have e := key 3418 0 (by omega) (by omega)
  rw [cpy_z, uI] at e
  exact ⟨e.1, e.2⟩
theorem m_begins : (∀ q, q ≠ 461 → q ≠ 463 → fX11_begins 461 v q = v q) ∧ (∀ f, f ≠ 8 → fX11_begins 461 v 461 f = v 461 f) ∧ fX11_begins 461 v 461 8 = 0 ∧ eqA (fX11_begins 461 v 463) (v 462) ∧ oX11_begins 461 v := by
  have h := m_copies (v := u2 v 461 8 0) (o1 := 462) (o2 := 463) (s := 0) (d := 0) (by decide) (by decide) (by decide)
  have hf : fX11_begins 461 v = uA (u2 v 461 8 0) 463 (va_cpy (u2 v 461 8 0 462) (u2 v 461 8 0 463) 0 0 3417) := h.1
  refine ⟨fun q h1 h2 => ?_, fun f hf2 => ?_, ?_, fun j hj => ?_, fun v1 e1 => by rw [e1]; exact h.2⟩
  · rw [hf, uA_n h2, u2_r h1]
  · rw [hf, uA_n (by decide), u2_q, if_neg hf2]
  · rw [hf, uA_n (by decide), u2_s]
  · rw [hf, uA_s, cpy_0 hj, u2_r (by decide)]
theorem m_shift : lX11_records_10 10252 0 v = uA v 465 (va_cpy (v 465) (v 465) 3417 0 10251) ∧ olX11_records_10 10252 0 v := by
  have key : ∀ (n k : Nat), k ≤ 10251 → 10252 ≤ n + k → lX11_records_10 n (Int32.ofNat k) (uA v 465 (va_cpy (v 465) (v 465) 3417 0 k)) = uA v 465 (va_cpy (v 465) (v 465) 3417 0 10251) ∧ olX11_records_10 n (Int32.ofNat k) (uA v 465 (va_cpy (v 465) (v 465) 3417 0 k)) := by
    intro n
    induction n with
    | zero => intro k h1 h2; omega
    | succ n ih =>
      intro k h3 h4
      unfold lX11_records_10 olX11_records_10
      have ofl : (10251 : Int32) ≤ Int32.ofNat k ↔ 10251 ≤ k := by rw [of_le (by decide) (by omega)]; rfl
      by_cases hk : 10251 ≤ k
      · rw [if_pos (ofl.mpr hk)]
        exact ⟨by rw [show k = 10251 by omega], fun q => absurd (ofl.mpr hk) q⟩
      · have i1 := ih (k + 1) (by omega) (by omega)
        have z : (3417 : Int32).toInt = 3417 := rfl
        have a1 : (Int32.ofNat k + 3417).toInt = k + 3417 := by rw [ti_add (by rw [of_ti (by omega), z]; omega), of_ti (by omega), z]
        have b1 : (Int32.ofNat k + 3417).toNatClampNeg = k + 3417 := rn_of (by omega)
        have e : u2 (uA v 465 (va_cpy (v 465) (v 465) 3417 0 k)) 465 (Int32.ofNat k).toNatClampNeg (uA v 465 (va_cpy (v 465) (v 465) 3417 0 k) 465 (Int32.ofNat k + 3417).toNatClampNeg) = uA v 465 (va_cpy (v 465) (v 465) 3417 0 (k + 1)) := by
          rw [b1, to_of (by omega), uA_s, u2_uA, ← cpy_S, show va_cpy (v 465) (v 465) 3417 0 k (k + 3417) = v 465 (3417 + k) by unfold va_cpy; rw [if_neg (by omega), Nat.add_comm], Nat.zero_add]
        rw [if_neg (mt ofl.mp hk), of_S (by omega), e]
        exact ⟨i1.1, fun _ => ⟨i_in (by omega) (by rw [show mlen 465 = 13668 from rfl]; omega), i_in (by rw [of_ti (by omega)]; omega) (by rw [of_ti (by omega), show mlen 465 = 13668 from rfl]; omega), fun v6 e6 => by rw [e6]; exact i1.2⟩⟩
  have e := key 10252 0 (by omega) (by omega)
  rw [cpy_z, uI] at e
  exact ⟨e.1, e.2⟩
/-- the slices of the past behind a record -/
theorem m_records (hc : inn (v 461 5) 5) : (∀ q, q ≠ 461 → q ≠ 465 → fX11_records 461 v q = v q) ∧ (∀ f, f ≠ 5 → fX11_records 461 v 461 f = v 461 f) ∧ oX11_records 461 v ∧
    (v 461 5 = 4 → fX11_records 461 v 461 5 = 4 ∧ (∀ i, i < 3 → eqA (sl (fX11_records 461 v) i) (sl v (i + 1))) ∧ eqA (sl (fX11_records 461 v) 3) (v 463)) ∧
    (inn (v 461 5) 4 → fX11_records 461 v 461 5 = v 461 5 + 1 ∧ (∀ i, i < (v 461 5).toNatClampNeg → eqA (sl (fX11_records 461 v) i) (sl v i)) ∧ eqA (sl (fX11_records 461 v) (v 461 5).toNatClampNeg) (v 463)) := by
  have ec := rn_to hc.1
  have eI : ∀ c : Int32, inn c 4 → 3417 * c = Int32.ofNat (3417 * c.toNatClampNeg) := by
    intro c h
    have e := rn_to h.1
    have h2 := h.2
    refine Int32.toInt_inj.mp ?_
    rw [of_ti (by omega), ti_mul (by rw [show (3417 : Int32).toInt = 3417 from rfl]; omega), show (3417 : Int32).toInt = 3417 from rfl]
    omega
  by_cases h4 : v 461 5 = 4
  · have hs := m_shift (v := v)
    have hv1 : (if v 461 5 = 4 then (let v5 : vSt := lX11_records_10 ((Int32.toInt 10251 - Int32.toInt 0).toNat + 1) 0 v; let v9 : vSt := u2 v5 461 5 (v5 461 5 - 1); v9) else v : vSt) = u2 (uA v 465 (va_cpy (v 465) (v 465) 3417 0 10251)) 461 5 3 := by
      rw [if_pos h4]
      show u2 (lX11_records_10 10252 0 v) 461 5 (lX11_records_10 10252 0 v 461 5 - 1) = _
      rw [hs.1, uA_n (by decide), h4]
      rfl
    have h := m_copies (v := u2 (uA v 465 (va_cpy (v 465) (v 465) 3417 0 10251)) 461 5 3) (o1 := 463) (o2 := 465) (s := 0) (d := 3417 * 3) (by decide) (by decide) (by decide)
    have hf : fX11_records 461 v = u2 (uA (u2 (uA v 465 (va_cpy (v 465) (v 465) 3417 0 10251)) 461 5 3) 465 (va_cpy (v 463) (va_cpy (v 465) (v 465) 3417 0 10251) 0 (3417 * 3) 3417)) 461 5 4 := by
      unfold fX11_records
      simp only [hv1]
      rw [u2_s, show (3417 * 3 : Int32) = Int32.ofNat (3417 * 3) from rfl, show (0 : Int32) = Int32.ofNat 0 from rfl, h.1, uA_n (show 461 ≠ 465 by decide), u2_s, u2_r (show 463 ≠ 461 by decide), uA_n (show 463 ≠ 465 by decide), u2_r (show 465 ≠ 461 by decide), uA_s]
      rfl
    refine ⟨fun q h1 h2 => ?_, fun f hf2 => ?_, ⟨fun _ => hs.2, fun v1 e1 => ?_⟩, fun _ => ⟨?_, fun i hi j hj => ?_, fun j hj => ?_⟩, fun q => ?_⟩
    · rw [hf, u2_r h1, uA_n h2, u2_r h1, uA_n h2]
    · rw [hf, u2_q, if_neg hf2, uA_n (by decide), u2_q, if_neg hf2, uA_n (by decide)]
    · rw [hv1] at e1
      rw [e1, u2_s]
      exact h.2
    · rw [hf, u2_s]
    · unfold sl
      rw [hf, u2_r (by decide), uA_s]
      unfold va_cpy
      rw [if_neg (by omega), if_pos (by omega), show 3417 + (3417 * i + j - 0) = 3417 * (i + 1) + j by omega]
    · unfold sl
      rw [hf, u2_r (by decide), uA_s]
      unfold va_cpy
      rw [if_pos (by omega), show 0 + (3417 * 3 + j - 3417 * 3) = j by omega]
    · rw [h4] at q
      exact absurd q (by decide)
  · have hc4 : inn (v 461 5) 4 := ⟨hc.1, by
      have := hc.2
      have : (v 461 5).toInt ≠ 4 := fun e => h4 (Int32.toInt_inj.mp e)
      omega⟩
    have hl := inn_lt hc4
    have h := m_copies (v := v) (o1 := 463) (o2 := 465) (s := 0) (d := 3417 * (v 461 5).toNatClampNeg) (by decide) (by decide) (by rw [show mlen 465 = 13668 from rfl]; omega)
    have hf : fX11_records 461 v = u2 (uA v 465 (va_cpy (v 463) (v 465) 0 (3417 * (v 461 5).toNatClampNeg) 3417)) 461 5 (v 461 5 + 1) := by
      unfold fX11_records
      simp only [if_neg h4]
      rw [eI _ hc4, show (0 : Int32) = Int32.ofNat 0 from rfl, h.1, uA_n (show 461 ≠ 465 by decide)]
    refine ⟨fun q h1 h2 => ?_, fun f hf2 => ?_, ⟨fun q => absurd q h4, fun v1 e1 => ?_⟩, fun q => absurd q h4, fun _ => ⟨?_, fun i hi j hj => ?_, fun j hj => ?_⟩⟩
    · rw [hf, u2_r h1, uA_n h2]
    · rw [hf, u2_q, if_neg hf2, uA_n (by decide)]
    · rw [if_neg h4] at e1
      rw [e1, eI _ hc4]
      exact h.2
    · rw [hf, u2_s]
    · unfold sl
      rw [hf, u2_r (by decide), uA_s]
      unfold va_cpy
      rw [if_neg (by omega)]
    · unfold sl
      rw [hf, u2_r (by decide), uA_s]
      unfold va_cpy
      rw [if_pos (by omega), show 0 + (3417 * (v 461 5).toNatClampNeg + j - 3417 * (v 461 5).toNatClampNeg) = j by omega]
end T38
