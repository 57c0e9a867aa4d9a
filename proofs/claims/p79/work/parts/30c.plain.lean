/-! THE PLAIN PART 1c: the model's bench, records, charts; its orders. -/
def shf (A : Ar) (b k : Nat) : Ar := fun j => if b ≤ j ∧ j < b + k then A (j + 1) else A j
theorem shf_S {A : Ar} {b k : Nat} : st (shf A b k) (b + k) (shf A b k (b + k + 1)) = shf A b (k + 1) := by
  funext j
  unfold st shf
  by_cases h : j = b + k
  · subst h
    rw [if_pos rfl, if_neg (by omega), if_pos (by omega)]
  · rw [if_neg h]
    by_cases h2 : b ≤ j ∧ j < b + k
    · rw [if_pos h2, if_pos (by omega)]
    · rw [if_neg h2, if_neg (by omega)]
theorem shf_o {A : Ar} {b k j : Nat} (h : j < b ∨ b + k ≤ j) : shf A b k j = A j := by
  unfold shf
  rw [if_neg (by omega)]
theorem shf_0 {A : Ar} {b : Nat} : shf A b 0 = A := by
  funext j
  exact shf_o (by omega)
def sLeave (A : Ar) : Ar := st (shf (st A 206 (A 206 - 1)) 183 ((A 206).toNatClampNeg - 1)) (183 + ((A 206).toNatClampNeg - 1)) 0
def sLeaveQ (A : Ar) : Ar := st (shf (st A 207 (A 207 - 1)) 217 ((A 207).toNatClampNeg - 1)) (217 + ((A 207).toNatClampNeg - 1)) 0
def sToB (A : Ar) (p : Int32) : Ar := st (st A (183 + (A 206).toNatClampNeg) p) 206 (st A (183 + (A 206).toNatClampNeg) p 206 + 1)
def sToQ (A : Ar) (p : Int32) : Ar := st (st A (217 + (A 207).toNatClampNeg) p) 207 (st A (217 + (A 207).toNatClampNeg) p 207 + 1)
def sManner (A : Ar) (k : Nat) (bad : Int32) : Int32 :=
  if A ((78 + 21 * k + 4)) = 0 then (if fX11_ones (A ((78 + 21 * k + 6)) &&& 31) < 2 then (if (if A ((78 + 21 * k + 5)) = 10 then (if A ((78 + 21 * k + 6)) = 0 then 1 else 0) else 0 : Int32) = 0 then 0 else 2) else 1)
  else (if (if A ((78 + 21 * k + 4)) = 1 then (if A ((78 + 21 * k + 5)) < 5 then 0 else (if (A ((78 + 21 * k + 6)) &&& 31) = 0 then 1 else 0)) else bad : Int32) = 0 then A ((78 + 21 * k + 4)) else 0)
def sNote1 (A : Ar) (k : Nat) (bad : Int32) : Ar := st A ((78 + 21 * k + 6)) ((A ((78 + 21 * k + 6)) * 2 + (if bad = 0 then 0 else 1)) - (A ((78 + 21 * k + 6)) * 2 + (if bad = 0 then 0 else 1)) / 1024 * 1024)
def sNote2 (A : Ar) (k : Nat) (bad : Int32) : Ar := st (sNote1 A k bad) ((78 + 21 * k + 5)) (fX11_less 10 (sNote1 A k bad ((78 + 21 * k + 5)) + 1))
def sNotes (A : Ar) (k : Nat) (bad : Int32) : Ar :=
  if sManner (sNote2 A k bad) k bad = sNote2 A k bad ((78 + 21 * k + 4)) then sNote2 A k bad
  else st (st (st (sNote2 A k bad) ((78 + 21 * k + 4)) (sManner (sNote2 A k bad) k bad)) ((78 + 21 * k + 6)) 0) ((78 + 21 * k + 5)) 0
def sCharts (A : Ar) (k : Nat) (x : Int32) : Ar :=
  if A ((78 + 21 * k + 8)) = 12 then st (st (shf A ((78 + 21 * k + 9)) 11) ((78 + 21 * k + 20)) x) ((78 + 21 * k + 8)) 12
  else st (st A ((78 + 21 * k + (9 + (A ((78 + 21 * k + 8))).toNatClampNeg))) x) ((78 + 21 * k + 8)) (A ((78 + 21 * k + 8)) + 1)
section M30C
variable {v : vSt} {p q x : Int32}
theorem sub1 {x : Int32} {n : Nat} (h : inn x n) (h1 : x ≠ 0) : (x - 1).toInt = x.toInt - 1 ∧ 1 ≤ x.toNatClampNeg ∧ (x - 1).toNatClampNeg = x.toNatClampNeg - 1 ∧ inn (x - 1) n := by
  have h2 : x.toInt ≠ 0 := fun e => h1 (Int32.toInt_inj.mp e)
  have h0 := h.1
  have h3 := h.2
  have hr := fb_rngX x
  have e : (x - 1).toInt = x.toInt - 1 := ti_sub (b := 1) (by rw [show (1 : Int32).toInt = 1 from rfl]; omega)
  have e1 := rn_to h0
  refine ⟨e, by omega, rn_of (by omega), by omega, by omega⟩
theorem m_leavesBench (h : inn (v 462 206) 21) (h1 : v 462 206 ≠ 0) : fX11_leavesBench 461 v = uA v 462 (sLeave (v 462)) := by
  obtain ⟨e1, e2, e3, e4⟩ := sub1 h h1
  have hB : ((v 462) 206).toNatClampNeg < 21 := inn_lt h
  have e3 : (v 462 206 - 1).toNatClampNeg = ((v 462) 206).toNatClampNeg - 1 := e3
  have e2 : 1 ≤ ((v 462) 206).toNatClampNeg := e2
  have key : ∀ (n k : Nat), k ≤ ((v 462) 206).toNatClampNeg - 1 → ((v 462) 206).toNatClampNeg - 1 + 1 ≤ n + k → lX11_leavesBench_14 n (Int32.ofNat k) (uA v 462 (shf (st (v 462) 206 (v 462 206 - 1)) 183 k)) = uA v 462 (shf (st (v 462) 206 (v 462 206 - 1)) 183 (((v 462) 206).toNatClampNeg - 1)) := by
    intro n
    induction n with
    | zero => intro k h1 h2; omega
    | succ n ih =>
      intro k h1 h2
      unfold lX11_leavesBench_14
      simp only [Int32.reduceToNatClampNeg, uA_s]
      have ofl : (v 462 206 - 1 ≤ Int32.ofNat k) ↔ ((v 462) 206).toNatClampNeg - 1 ≤ k := by rw [of_le e4.1 (by omega), e3]
      rw [shf_o (j := 206) (by omega), st_s]
      by_cases hk : ((v 462) 206).toNatClampNeg - 1 ≤ k
      · rw [if_pos (ofl.mpr hk), show k = ((v 462) 206).toNatClampNeg - 1 by omega]
      · rw [if_neg (mt ofl.mp hk), ← ih (k + 1) (by omega) (by omega), of_S (by omega)]
        congr 1
        have hi : inn (Int32.ofNat k) 3300 := of_in (by omega) (by decide)
        have hi1 : (183 + Int32.ofNat k + 1 : Int32).toNatClampNeg = 183 + k + 1 := by
          rw [show (183 + Int32.ofNat k + 1 : Int32) = 183 + Int32.ofNat (k + 1) by rw [← of_S (by omega), Int32.add_assoc], ixP (of_in (by omega) (by decide)), to_of (by omega)]
          omega
        rw [ixP hi, to_of (by omega), hi1, w2, uA_s, uu, shf_S]
  unfold fX11_leavesBench
  simp only [Int32.reduceToNatClampNeg]
  rw [fu0, u2_s, e3, show u2 v 462 206 (v 462 206 - 1) = uA v 462 (st (v 462) 206 (v 462 206 - 1)) from w2]
  have e := key (((v 462) 206).toNatClampNeg - 1 + 1) 0 (by omega) (by omega)
  rw [shf_0] at e
  rw [show (0 : Int32) = Int32.ofNat 0 from rfl, e, uA_s, shf_o (j := 206) (by omega), st_s, ixP ⟨e4.1, by have := e4.2; omega⟩, e3, w2, uA_s, uu]
  rfl
theorem mo_leavesBench (h : inn (v 462 206) 21) (h1 : v 462 206 ≠ 0) : oX11_leavesBench 461 v := by
  obtain ⟨e1, e2, e3, e4⟩ := sub1 h h1
  have hB : ((v 462) 206).toNatClampNeg < 21 := inn_lt h
  have e3 : (v 462 206 - 1).toNatClampNeg = ((v 462) 206).toNatClampNeg - 1 := e3
  have e2 : 1 ≤ ((v 462) 206).toNatClampNeg := e2
  have key : ∀ (n k : Nat) (w : vSt), w 462 206 = v 462 206 - 1 → k ≤ ((v 462) 206).toNatClampNeg - 1 → ((v 462) 206).toNatClampNeg - 1 + 1 ≤ n + k → olX11_leavesBench_14 n (Int32.ofNat k) w ∧ (lX11_leavesBench_14 n (Int32.ofNat k) w) 462 206 = v 462 206 - 1 := by
    intro n
    induction n with
    | zero => intro k w h0 h1 h2; omega
    | succ n ih =>
      intro k w h0 h1 h2
      unfold olX11_leavesBench_14 lX11_leavesBench_14
      simp only [Int32.reduceToNatClampNeg]
      have ofl : (v 462 206 - 1 ≤ Int32.ofNat k) ↔ ((v 462) 206).toNatClampNeg - 1 ≤ k := by rw [of_le e4.1 (by omega), e3]
      rw [h0]
      have hi : inn (Int32.ofNat k) 3300 := of_in (by omega) (by decide)
      have e5 : (183 + Int32.ofNat k + 1 : Int32) = 183 + Int32.ofNat (k + 1) := by rw [← of_S (by omega), Int32.add_assoc]
      by_cases hk : ((v 462) 206).toNatClampNeg - 1 ≤ k
      · rw [if_pos (ofl.mpr hk)]
        exact ⟨fun q => absurd (ofl.mpr hk) q, h0⟩
      · have := ih (k + 1) (u2 w 462 (183 + Int32.ofNat k : Int32).toNatClampNeg (w 462 ((183 + Int32.ofNat k) + 1 : Int32).toNatClampNeg)) (by rw [ixP hi, to_of (by omega), u2_n (by omega), h0]) (by omega) (by omega)
        rw [if_neg (mt ofl.mp hk), of_S (by omega)]
        refine ⟨fun _ => ⟨?_, vP (of_in (by omega) (by decide)), fun v8 e8 => ?_⟩, this.2⟩
        · rw [e5]; exact vP (of_in (by omega) (by decide))
        · rw [e8]; exact this.1
  have k2 := key (((v 462) 206).toNatClampNeg - 1 + 1) 0 (u2 v 462 206 (v 462 206 - 1)) u2_s (by omega) (by omega)
  unfold oX11_leavesBench
  simp only [Int32.reduceToNatClampNeg]
  refine ⟨vL (by decide), fun v2 e => ?_⟩
  subst e
  rw [fu0, u2_s, e3]
  refine ⟨k2.1, fun v5 e5 => ?_⟩
  rw [e5]
  have := k2.2
  rw [show Int32.ofNat 0 = 0 from rfl] at this
  rw [this]
  exact vP ⟨e4.1, by have := e4.2; omega⟩
theorem m_toBench (h : inn (v 462 206) 21) : fX11_toBench 461 p v = uA v 462 (sToB (v 462) p) := by
  unfold fX11_toBench sToB
  simp only [Int32.reduceToNatClampNeg]
  rw [ixP ⟨h.1, by have := h.2; omega⟩, w2, w2, uA_s, uu]
theorem mo_toBench (h : inn (v 462 206) 21) : oX11_toBench 461 p v := ⟨vL (by decide), by
  simp only [Int32.reduceToNatClampNeg]
  exact vP ⟨h.1, by have := h.2; omega⟩⟩
theorem m_mannerThen (hp : inn p 5) : fX11_mannerThen 461 p q v = sManner (v 462) p.toNatClampNeg q := by
  unfold fX11_mannerThen sManner
  simp only [m_of hp (show inn 4 21 by decide), m_of hp (show inn 5 21 by decide), m_of hp (show inn 6 21 by decide), Int32.reduceToNatClampNeg]
theorem mo_mannerThen (hp : inn p 5) : oX11_mannerThen 461 p q v :=
  ⟨mo_of hp (by decide), mo_of hp (by decide), fun _ => ⟨mo_of hp (by decide), fun _ _ => ones_o _⟩, fun _ _ => mo_of hp (by decide)⟩
theorem m_notes (hp : inn p 5) : fX11_notes 461 p q v = uA v 462 (sNotes (v 462) p.toNatClampNeg q) := by
  unfold fX11_notes sNotes sNote2 sNote1
  simp only [m_of hp (show inn 4 21 by decide), m_of hp (show inn 5 21 by decide), m_of hp (show inn 6 21 by decide), m_lays hp (show inn 4 21 by decide), m_lays hp (show inn 5 21 by decide), m_lays hp (show inn 6 21 by decide), m_mannerThen hp, Int32.reduceToNatClampNeg, uA_s, uu, ite_uA]
theorem mo_notes (hp : inn p 5) : oX11_notes 461 p q v :=
  ⟨mo_of hp (by decide), fun _ _ => ⟨mo_lays hp (by decide), fun _ _ => ⟨mo_of hp (by decide), mo_lays hp (by decide), fun _ _ => ⟨mo_mannerThen hp, mo_of hp (by decide), fun _ => ⟨mo_lays hp (by decide), fun _ _ => ⟨mo_lays hp (by decide), fun _ _ => mo_lays hp (by decide)⟩⟩⟩⟩⟩⟩
theorem ch_i {k : Nat} (h : k < 12) : (9 + Int32.ofNat (k + 1)) - 1 = 9 + Int32.ofNat k := by
  rw [← of_S (by omega), ← Int32.add_assoc]
  exact Int32.add_sub_cancel _ _
theorem m_charts (hp : inn p 5) (h : inn (v 462 ((78 + 21 * p.toNatClampNeg + 8))) 13) : fX11_charts 461 p x v = uA v 462 (sCharts (v 462) p.toNatClampNeg x) := by
  have hB := inn_lt h
  unfold fX11_charts sCharts
  simp only [m_of hp (show inn 8 21 by decide), Int32.reduceToNatClampNeg]
  by_cases h12 : v 462 ((78 + 21 * p.toNatClampNeg + 8)) = 12
  · have key : ∀ (n k : Nat), k ≤ 11 → 12 ≤ n + k → lX11_charts_17 v 461 p n (Int32.ofNat (k + 1)) (uA v 462 (shf (v 462) ((78 + 21 * p.toNatClampNeg + 9)) k)) = uA v 462 (shf (v 462) ((78 + 21 * p.toNatClampNeg + 9)) 11) := by
      intro n
      induction n with
      | zero => intro k h1 h2; omega
      | succ n ih =>
        intro k h1 h2
        unfold lX11_charts_17
        simp only [m_of hp (show inn 8 21 by decide), Int32.reduceToNatClampNeg]
        have ofl : (12 ≤ Int32.ofNat (k + 1)) ↔ 12 ≤ k + 1 := by rw [of_le (by decide) (by omega)]; rfl
        rw [h12]
        by_cases hk : 12 ≤ k + 1
        · rw [if_pos (ofl.mpr hk), show k = 11 by omega]
        · rw [if_neg (mt ofl.mp hk), ← ih (k + 1) (by omega) (by omega), of_S (by omega)]
          congr 1
          rw [ch_i (by omega), m_laysC hp (of_in (by omega) (by decide)), m_onChart hp (of_in (by omega) (by decide)), uA_s, uu, to_of (by omega), to_of (by omega), ← shf_S, show (78 + 21 * p.toNatClampNeg + (9 + k)) = (78 + 21 * p.toNatClampNeg + 9) + k by omega, show (78 + 21 * p.toNatClampNeg + (9 + (k + 1))) = (78 + 21 * p.toNatClampNeg + 9) + k + 1 by omega]
    have e := key 12 0 (by omega) (by omega)
    rw [shf_0, uI] at e
    have e : lX11_charts_17 v 461 p 12 1 v = uA v 462 (shf (v 462) ((78 + 21 * p.toNatClampNeg + 9)) 11) := e
    rw [if_pos h12, if_pos h12, h12, show (Int32.toInt 12 - Int32.toInt 1).toNat + 1 = 12 from rfl, e]
    simp only []
    rw [show (12 + -1 : Int32) = 11 from rfl, m_laysC hp (by decide), m_lays hp (by decide), uA_s, uA_s, uu, uu]
    rfl
  · rw [if_neg h12, if_neg h12]
    simp only []
    have hl : inn (v 462 ((78 + 21 * p.toNatClampNeg + 8))) 12 := ⟨h.1, by
      have := h.2
      have : (v 462 ((78 + 21 * p.toNatClampNeg + 8))).toInt ≠ 12 := fun e => h12 (Int32.toInt_inj.mp e)
      omega⟩
    rw [m_laysC hp hl, m_lays hp (by decide), uA_s, uu]
    rfl
theorem mo_charts (hp : inn p 5) (h : inn (v 462 ((78 + 21 * p.toNatClampNeg + 8))) 13) : oX11_charts 461 p x v := by
  have hB := inn_lt h
  unfold oX11_charts
  simp only [m_of hp (show inn 8 21 by decide), Int32.reduceToNatClampNeg]
  refine ⟨mo_of hp (by decide), fun h12 => ?_, fun y2 v3 e2 e3 => ⟨mo_lays hp (i9 ?_), fun _ _ => mo_lays hp (by decide)⟩⟩
  · have key : ∀ (n k : Nat) (w : vSt), k ≤ 11 → 12 ≤ n + k → olX11_charts_17 v 461 p n (Int32.ofNat (k + 1)) w := by
      intro n
      induction n with
      | zero => intro k w h1 h2; omega
      | succ n ih =>
        intro k w h1 h2
        unfold olX11_charts_17
        simp only [m_of hp (show inn 8 21 by decide), Int32.reduceToNatClampNeg]
        have ofl : (12 ≤ Int32.ofNat (k + 1)) ↔ 12 ≤ k + 1 := by rw [of_le (by decide) (by omega)]; rfl
        rw [h12, of_S (by omega)]
        intro hk
        have hk := mt ofl.mpr hk
        rw [ch_i (by omega)]
        exact ⟨mo_onChart hp (of_in (by omega) (by decide)), mo_lays hp (i9 (of_in (by omega) (by decide))), fun _ _ => ih (k + 1) _ (by omega) (by omega)⟩
    rw [h12]
    exact key 12 0 _ (by omega) (by omega)
  · rw [e2]
    by_cases h12 : v 462 ((78 + 21 * p.toNatClampNeg + 8)) = 12
    · rw [if_pos h12, h12]
      show inn (12 + -1) 12
      decide
    · rw [if_neg h12]
      refine ⟨h.1, ?_⟩
      have := h.2
      have : (v 462 ((78 + 21 * p.toNatClampNeg + 8))).toInt ≠ 12 := fun e => h12 (Int32.toInt_inj.mp e)
      show (v 462 ((78 + 21 * p.toNatClampNeg + 8))).toInt < _
      omega
end M30C
