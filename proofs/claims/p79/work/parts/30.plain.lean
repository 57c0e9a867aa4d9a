/-! THE PLAIN PART 1: numbers; the model upon its array. -/
abbrev Ar : Type := Nat → Int32
def st (A : Ar) (i : Nat) (x : Int32) : Ar := fun j => if j = i then x else A j
abbrev inn (p : Int32) (n : Nat) : Prop := 0 ≤ p.toInt ∧ p.toInt < (n : Int)
theorem ml2 : mlen 462 = 3417 := rfl
theorem rn_of {x : Int32} {n : Nat} (h : x.toInt = (n : Int)) : x.toNatClampNeg = n := by
  have := i_rN (i := x) (by omega)
  have e : x.toNatClampNeg = rN x := rfl
  omega
theorem rn_to {x : Int32} (h : 0 ≤ x.toInt) : x.toInt = (x.toNatClampNeg : Int) := (i_rN h).symm
theorem inn_lt {p : Int32} {n : Nat} (h : inn p n) : p.toNatClampNeg < n := by
  have := rn_to h.1
  have := h.2
  omega
theorem ti_add {a b : Int32} (h : -2147483648 ≤ a.toInt + b.toInt ∧ a.toInt + b.toInt < 2147483648) : (a + b).toInt = a.toInt + b.toInt := by
  rw [Int32.toInt_add, Int.bmod_def]
  split <;> omega
theorem ti_sub {a b : Int32} (h : -2147483648 ≤ a.toInt - b.toInt ∧ a.toInt - b.toInt < 2147483648) : (a - b).toInt = a.toInt - b.toInt := by
  rw [Int32.toInt_sub, Int.bmod_def]
  split <;> omega
theorem ti_mul {a b : Int32} (h : -2147483648 ≤ a.toInt * b.toInt ∧ a.toInt * b.toInt < 2147483648) : (a * b).toInt = a.toInt * b.toInt := by
  rw [Int32.toInt_mul, Int.bmod_def]
  split <;> omega
theorem ti_m8 {p : Int32} {n : Nat} (h : inn p n) (hn : n ≤ 1000) : (8 * p).toInt = 8 * p.toInt := ti_mul (a := 8) (by rw [show (8 : Int32).toInt = 8 from rfl]; have := h.1; have := h.2; omega)
theorem ti_m3 {p : Int32} {n : Nat} (h : inn p n) (hn : n ≤ 1000) : (3 * p).toInt = 3 * p.toInt := ti_mul (a := 3) (by rw [show (3 : Int32).toInt = 3 from rfl]; have := h.1; have := h.2; omega)
theorem ti_m21 {p : Int32} {n : Nat} (h : inn p n) (hn : n ≤ 1000) : (21 * p).toInt = 21 * p.toInt := ti_mul (a := 21) (by rw [show (21 : Int32).toInt = 21 from rfl]; have := h.1; have := h.2; omega)
theorem tT {p c : Int32} (h : inn p 6) (hc : inn c 8) : (0 + 8 * p + c).toInt = 8 * p.toInt + c.toInt := by
  have e := ti_m8 h (by decide)
  have e1 : (0 + 8 * p).toInt = 8 * p.toInt := by rw [ti_add (by rw [e, show (0 : Int32).toInt = 0 from rfl]; have := h.1; have := h.2; omega), e]; exact Int.zero_add _
  rw [ti_add (by rw [e1]; have := h.1; have := h.2; have := hc.1; have := hc.2; omega), e1]
theorem tB {p c : Int32} (h : inn p 10) (hc : inn c 3) : (48 + 3 * p + c).toInt = 48 + 3 * p.toInt + c.toInt := by
  have e := ti_m3 h (by decide)
  have e0 : (48 : Int32).toInt = 48 := rfl
  have e1 : (48 + 3 * p).toInt = 48 + 3 * p.toInt := by rw [ti_add (by rw [e, e0]; have := h.1; have := h.2; omega), e, e0]
  rw [ti_add (by rw [e1]; have := h.1; have := h.2; have := hc.1; have := hc.2; omega), e1]
theorem tY {p c : Int32} (h : inn p 5) (hc : inn c 21) : (78 + 21 * p + c).toInt = 78 + 21 * p.toInt + c.toInt := by
  have e := ti_m21 h (by decide)
  have e0 : (78 : Int32).toInt = 78 := rfl
  have e1 : (78 + 21 * p).toInt = 78 + 21 * p.toInt := by rw [ti_add (by rw [e, e0]; have := h.1; have := h.2; omega), e, e0]
  rw [ti_add (by rw [e1]; have := h.1; have := h.2; have := hc.1; have := hc.2; omega), e1]
theorem t9 {q : Int32} (h : inn q 12) : (9 + q).toInt = 9 + q.toInt := by
  have e0 : (9 : Int32).toInt = 9 := rfl
  rw [ti_add (by rw [e0]; have := h.1; have := h.2; omega), e0]
theorem i9 {q : Int32} (h : inn q 12) : inn (9 + q) 21 := by
  have := t9 h
  have := h.1
  have := h.2
  exact ⟨by omega, by omega⟩
theorem tP {q : Int32} (h : inn q 3300) : (183 + q).toInt = 183 + q.toInt := by
  have e0 : (183 : Int32).toInt = 183 := rfl
  rw [ti_add (by rw [e0]; have := h.1; have := h.2; omega), e0]
theorem tQ {q : Int32} (h : inn q 3300) : (217 + q).toInt = 217 + q.toInt := by
  have e0 : (217 : Int32).toInt = 217 := rfl
  rw [ti_add (by rw [e0]; have := h.1; have := h.2; omega), e0]
theorem ixT {p c : Int32} (h : inn p 6) (hc : inn c 8) : (0 + 8 * p + c).toNatClampNeg = 8 * p.toNatClampNeg + c.toNatClampNeg :=
  rn_of (by rw [tT h hc]; have h1 := rn_to h.1; have h2 := rn_to hc.1; omega)
theorem ixB {p c : Int32} (h : inn p 10) (hc : inn c 3) : (48 + 3 * p + c).toNatClampNeg = 48 + 3 * p.toNatClampNeg + c.toNatClampNeg :=
  rn_of (by rw [tB h hc]; have h1 := rn_to h.1; have h2 := rn_to hc.1; omega)
theorem ixY {p c : Int32} (h : inn p 5) (hc : inn c 21) : (78 + 21 * p + c).toNatClampNeg = 78 + 21 * p.toNatClampNeg + c.toNatClampNeg :=
  rn_of (by rw [tY h hc]; have h1 := rn_to h.1; have h2 := rn_to hc.1; omega)
theorem ixC {p q : Int32} (h : inn p 5) (hc : inn q 12) : (78 + 21 * p + (9 + q)).toNatClampNeg = 78 + 21 * p.toNatClampNeg + 9 + q.toNatClampNeg :=
  rn_of (by rw [tY h (i9 hc), t9 hc]; have h1 := rn_to h.1; have h2 := rn_to hc.1; omega)
theorem ixP {q : Int32} (h : inn q 3300) : (183 + q).toNatClampNeg = 183 + q.toNatClampNeg := rn_of (by rw [tP h]; have h1 := rn_to h.1; omega)
theorem ixQ {q : Int32} (h : inn q 3300) : (217 + q).toNatClampNeg = 217 + q.toNatClampNeg := rn_of (by rw [tQ h]; have h1 := rn_to h.1; omega)
theorem vT {p c : Int32} (h : inn p 6) (hc : inn c 8) : vp_in (0 + 8 * p + c) (mlen 462) := i_in (by rw [tT h hc]; have := h.1; have := hc.1; omega) (by rw [tT h hc, ml2]; have := h.2; have := hc.2; omega)
theorem vB {p c : Int32} (h : inn p 10) (hc : inn c 3) : vp_in (48 + 3 * p + c) (mlen 462) := i_in (by rw [tB h hc]; have := h.1; have := hc.1; omega) (by rw [tB h hc, ml2]; have := h.2; have := hc.2; omega)
theorem vY {p c : Int32} (h : inn p 5) (hc : inn c 21) : vp_in (78 + 21 * p + c) (mlen 462) := i_in (by rw [tY h hc]; have := h.1; have := hc.1; omega) (by rw [tY h hc, ml2]; have := h.2; have := hc.2; omega)
theorem vP {q : Int32} (h : inn q 23) : vp_in (183 + q) (mlen 462) := i_in (by rw [tP ⟨h.1, by have := h.2; omega⟩]; have := h.1; omega) (by rw [tP ⟨h.1, by have := h.2; omega⟩, ml2]; have := h.2; omega)
theorem vQ {q : Int32} (h : inn q 3200) : vp_in (217 + q) (mlen 462) := i_in (by rw [tQ ⟨h.1, by have := h.2; omega⟩]; have := h.1; omega) (by rw [tQ ⟨h.1, by have := h.2; omega⟩, ml2]; have := h.2; omega)
theorem vL {k : Int32} (h : inn k 3417) : vp_in k (mlen 462) := i_in h.1 (by rw [ml2]; exact h.2)
theorem ite_ap2 {c : Prop} [Decidable c] {f g : vSt} {r j : Nat} : (if c then f else g) r j = if c then f r j else g r j := by split <;> rfl
theorem ite_ap1 {c : Prop} [Decidable c] {f g : Nat → Int32} {j : Nat} : (if c then f else g) j = if c then f j else g j := by split <;> rfl
theorem w2 {v : vSt} {k : Nat} {y : Int32} : u2 v 462 k y = uA v 462 (st (v 462) k y) := by
  funext r j
  unfold u2 uA st
  by_cases h : r = 462
  · subst h; simp
  · simp [h]
theorem uu {v : vSt} {r : Nat} {f g : Ar} : uA (uA v r f) r g = uA v r g := by
  funext q
  unfold uA
  split <;> rfl
theorem uI {v : vSt} {r : Nat} : uA v r (v r) = v := by
  funext q
  unfold uA
  split
  · subst_vars; rfl
  · rfl
theorem ite_uA {c : Prop} [Decidable c] {v : vSt} {r : Nat} {f g : Ar} : (if c then uA v r f else uA v r g) = uA v r (if c then f else g) := by split <;> rfl
theorem st_s {A : Ar} {i : Nat} {x : Int32} : st A i x i = x := if_pos rfl
theorem st_n {A : Ar} {i j : Nat} {x : Int32} (h : j ≠ i) : st A i x j = A j := if_neg h
/-- the world with this array alone -/
def wA (A : Ar) : vSt := fun r j => if r = 462 then A j else 0
theorem wA_462 {A : Ar} : wA A 462 = A := rfl
abbrev cY (k c : Nat) : Nat := 78 + 21 * k + c
def sStretch (A : Ar) (m len : Int32) : Int32 := ((len * (if m = 0 then 12 else (if m = 1 then 19 else 23))) * (A 208 - 20)) / 1000000
def sStep (k : Int32) : Int32 := if k = 0 then 10 else (if k = 1 then 5 else (if k = 2 then 2 else 1))
def sShown (A : Ar) (t : Nat) (m len : Int32) : Int32 := (((len + sStretch A m len) + A (8 * t + 1)) - sStretch A 0 len) - A (8 * t + 2)
def sReading (A : Ar) (t : Nat) (m len : Int32) : Int32 := if sShown A t m len < 0 then -1 else (if (if 3 ≤ A (8 * t) then 2500 else 15000) < sShown A t m len then -1 else ((sShown A t m len + sStep (A (8 * t)) / 2) / sStep (A (8 * t))) * sStep (A (8 * t)))
def sDue (A : Ar) (t : Nat) : Int32 := if 30 ≤ A (8 * t + 6) then 1 else (if A 210 - A (8 * t + 7) < 10 then 0 else 1)
def sUse (A : Ar) (t : Nat) (m : Int32) : Ar := fun j =>
  if j = 8 * t + 5 then A j + 1 else if j = 8 * t + 6 then A j + 1
  else if j = 8 * t + 4 then (if A j + 3 - m < 20 then A j + 3 - m else A j + 3 - m - 20)
  else if j = 8 * t + 2 then (if A (8 * t + 4) + 3 - m < 20 then A j else (if A j + 1 ≤ 40 then A j + 1 else 40))
  else A j
section M30
variable {v : vSt} {p c m len y : Int32}
theorem m_tool (hp : inn p 6) (hc : inn c 8) : fX11_tool 461 p c v = v 462 (8 * p.toNatClampNeg + c.toNatClampNeg) := by
  unfold fX11_tool
  rw [ixT hp hc]
theorem mo_tool (hp : inn p 6) (hc : inn c 8) : oX11_tool 461 p c v := vT hp hc
theorem m_sets (hp : inn p 6) (hc : inn c 8) : fX11_sets 461 p c y v = uA v 462 (st (v 462) (8 * p.toNatClampNeg + c.toNatClampNeg) y) := by
  unfold fX11_sets
  rw [ixT hp hc]
  exact w2
theorem mo_sets (hp : inn p 6) (hc : inn c 8) : oX11_sets 461 p c y v := vT hp hc
theorem m_stretch : fX11_stretch 461 m len v = sStretch (v 462) m len := rfl
theorem mo_stretch : oX11_stretch 461 m len v := fun _ _ => vL (by decide)
theorem m_step (hp : inn p 6) : fX11_step 461 p v = sStep (v 462 (8 * p.toNatClampNeg)) := by
  simp (disch := first | assumption | decide) only [fX11_step, m_tool, Int32.reduceToNatClampNeg, Nat.add_zero, sStep]
theorem mo_step (hp : inn p 6) : oX11_step 461 p v := mo_tool hp (by decide)
theorem sStep_pos {k : Int32} : 0 < (sStep k).toInt ∧ (sStep k).toInt ≤ 10 := by
  unfold sStep
  split
  · decide
  · split
    · decide
    · split <;> decide
theorem m_reading (hp : inn p 6) : fX11_reading 461 p m len v = sReading (v 462) p.toNatClampNeg m len := by
  simp (disch := first | assumption | decide) only [fX11_reading, m_tool, m_stretch, m_step, Int32.reduceToNatClampNeg, Nat.add_zero, fX11_in, sReading, sShown]
  grind
theorem mo_reading (hp : inn p 6) : oX11_reading 461 p m len v := by
  unfold oX11_reading
  refine ⟨mo_stretch, mo_tool hp (by decide), mo_stretch, mo_tool hp (by decide), fun _ _ => ⟨mo_tool hp (by decide), fun _ _ => ⟨mo_step hp, fun _ => ?_⟩⟩⟩
  rw [m_step hp]
  intro h
  have := (sStep_pos (k := v 462 (8 * p.toNatClampNeg))).1
  rw [h] at this
  exact absurd this (by decide)
theorem m_due (hp : inn p 6) : fX11_due 461 p v = sDue (v 462) p.toNatClampNeg := by
  simp (disch := first | assumption | decide) only [fX11_due, m_tool, Int32.reduceToNatClampNeg, sDue]
theorem mo_due (hp : inn p 6) : oX11_due 461 p v := ⟨mo_tool hp (by decide), fun _ => ⟨vL (by decide), mo_tool hp (by decide)⟩⟩
theorem m_uses (hp : inn p 6) : fX11_uses 461 p m v = uA v 462 (sUse (v 462) p.toNatClampNeg m) := by
  simp (disch := first | assumption | decide) only [fX11_uses, m_sets, m_tool, fX11_less, Int32.reduceToNatClampNeg, uA_s, uu, ite_uA]
  generalize p.toNatClampNeg = t
  congr 1
  funext j
  simp only [ite_ap1, st, sUse, Nat.add_left_cancel_iff, Nat.reduceEqDiff, if_true, if_false]
  by_cases h5 : j = 8 * t + 5
  · subst h5
    simp
  by_cases h6 : j = 8 * t + 6
  · subst h6
    simp
  by_cases h4 : j = 8 * t + 4
  · subst h4
    simp
  by_cases h2 : j = 8 * t + 2
  · subst h2
    simp
  · simp [h2, h4, h5, h6]
theorem mo_uses (hp : inn p 6) : oX11_uses 461 p m v := by
  unfold oX11_uses
  exact ⟨mo_tool hp (by decide), mo_sets hp (by decide), fun _ _ => ⟨mo_tool hp (by decide), mo_sets hp (by decide), fun _ _ => ⟨mo_tool hp (by decide), mo_sets hp (by decide), fun _ _ => ⟨mo_tool hp (by decide), fun _ => ⟨mo_tool hp (by decide), mo_sets hp (by decide), fun _ _ => ⟨mo_tool hp (by decide), mo_sets hp (by decide)⟩⟩⟩⟩⟩⟩
theorem m_block (hp : inn p 10) (hc : inn c 3) : fX11_block 461 p c v = v 462 (48 + 3 * p.toNatClampNeg + c.toNatClampNeg) := by
  unfold fX11_block
  rw [ixB hp hc]
theorem mo_block (hp : inn p 10) (hc : inn c 3) : oX11_block 461 p c v := vB hp hc
theorem m_of (hp : inn p 5) (hc : inn c 21) : fX11_of 461 p c v = v 462 ((78 + 21 * p.toNatClampNeg + c.toNatClampNeg)) := by
  unfold fX11_of
  rw [ixY hp hc]
theorem mo_of (hp : inn p 5) (hc : inn c 21) : oX11_of 461 p c v := vY hp hc
theorem m_lays (hp : inn p 5) (hc : inn c 21) : fX11_lays 461 p c y v = uA v 462 (st (v 462) ((78 + 21 * p.toNatClampNeg + c.toNatClampNeg)) y) := by
  unfold fX11_lays
  rw [ixY hp hc]
  exact w2
theorem mo_lays (hp : inn p 5) (hc : inn c 21) : oX11_lays 461 p c y v := vY hp hc
theorem m_onChart {q : Int32} (hp : inn p 5) (hc : inn q 12) : fX11_onChart 461 p q v = v 462 ((78 + 21 * p.toNatClampNeg + (9 + q.toNatClampNeg))) := by
  unfold fX11_onChart fX11_of
  rw [ixC hp hc, Nat.add_assoc]
theorem mo_onChart {q : Int32} (hp : inn p 5) (hc : inn q 12) : oX11_onChart 461 p q v := mo_of hp (i9 hc)
theorem m_laysC {q : Int32} (hp : inn p 5) (hc : inn q 12) : fX11_lays 461 p (9 + q) y v = uA v 462 (st (v 462) ((78 + 21 * p.toNatClampNeg + (9 + q.toNatClampNeg))) y) := by
  unfold fX11_lays
  rw [ixC hp hc, Nat.add_assoc]
  exact w2
end M30
