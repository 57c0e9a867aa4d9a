/-! THE PLAIN PART: numbers, loops, arrays -/
abbrev inn (p : Int32) (n : Nat) : Prop := 0 ≤ p.toInt ∧ p.toInt < (n : Int)
theorem rn_of {x : Int32} {n : Nat} (h : x.toInt = (n : Int)) : x.toNatClampNeg = n := by
  have := i_rN (i := x) (by omega)
  have e : x.toNatClampNeg = rN x := rfl
  omega
theorem rn_to {x : Int32} (h : 0 ≤ x.toInt) : x.toInt = (x.toNatClampNeg : Int) := (i_rN h).symm
theorem vp_of {x : Int32} {n : Nat} (h : 0 ≤ x.toInt) (h1 : x.toInt < (n : Int)) : vp_in x n := i_in h h1
theorem ixT {p c : Int32} (h : inn p 6) (hc : inn c 8) : (0 + 8 * p + c).toNatClampNeg = 8 * p.toNatClampNeg + c.toNatClampNeg := by
  refine rn_of ?_
  have h1 := rn_to h.1
  have h2 := rn_to hc.1
  simp only [Int32.toInt_add, Int32.toInt_mul, Int.bmod_def, show (8 : Int32).toInt = 8 from rfl, show (0 : Int32).toInt = 0 from rfl]
  omega
theorem tst (v : vSt) {p : Int32} (h : inn p 6) : v 462 (0 + 8 * p + 5).toNatClampNeg = v 462 (8 * p.toNatClampNeg + 5) := by
  simp (disch := first | assumption | decide) only [ixT, Int32.reduceToNatClampNeg]
theorem ite_ap2 {c : Prop} [Decidable c] {f g : vSt} {r j : Nat} : (if c then f else g) r j = if c then f r j else g r j := by split <;> rfl
theorem ite_ap1 {c : Prop} [Decidable c] {f g : Nat → Int32} {j : Nat} : (if c then f else g) j = if c then f j else g j := by split <;> rfl
abbrev Ar : Type := Nat → Int32
def st (A : Ar) (i : Nat) (x : Int32) : Ar := fun j => if j = i then x else A j
def sStretch (A : Ar) (m len : Int32) : Int32 := ((len * (if m = 0 then 12 else (if m = 1 then 19 else 23))) * (A 208 - 20)) / 1000000
def sStep (k : Int32) : Int32 := if k = 0 then 10 else (if k = 1 then 5 else (if k = 2 then 2 else 1))
def sShown (A : Ar) (t : Nat) (m len : Int32) : Int32 := (((len + sStretch A m len) + A (8 * t + 1)) - sStretch A 0 len) - A (8 * t + 2)
def sReading (A : Ar) (t : Nat) (m len : Int32) : Int32 := if sShown A t m len < 0 then -1 else (if (if 3 ≤ A (8 * t) then 2500 else 15000) < sShown A t m len then -1 else ((sShown A t m len + sStep (A (8 * t)) / 2) / sStep (A (8 * t))) * sStep (A (8 * t)))
def sDue (A : Ar) (t : Nat) : Int32 := if 30 ≤ A (8 * t + 6) then 1 else (if A 210 - A (8 * t + 7) < 10 then 0 else 1)
def sUse (A : Ar) (t : Nat) (m : Int32) : Ar := fun j =>
  if j = 8 * t + 5 then A j + 1 else if j = 8 * t + 6 then A j + 1
  else if j = 8 * t + 4 then (if A j + 3 - m < 20 then A j + 3 - m else A j + 3 - m - 20)
  else if j = 8 * t + 2 then (if A (8 * t + 4) + 3 - m < 20 then A j else (if A j + 1 ≤ 40 then A j + 1 else 40))
  else A j
theorem t_in {x : Int32} : (fX11_in x 0 15000 : Int32) = 0 ↔ (x < 0 ∨ 15000 < x) := by
  unfold fX11_in
  grind
section TL
variable {v : vSt} {p m len : Int32} (hp : inn p 6)
theorem m_tool {c : Int32} (hp : inn p 6) (hc : inn c 8) : fX11_tool 461 p c v = v 462 (8 * p.toNatClampNeg + c.toNatClampNeg) := by
  unfold fX11_tool
  rw [ixT hp hc]
theorem m_stretch : fX11_stretch 461 m len v = sStretch (v 462) m len := rfl
theorem m_step (hp : inn p 6) : fX11_step 461 p v = sStep (v 462 (8 * p.toNatClampNeg)) := by
  simp (disch := first | assumption | decide) only [fX11_step, m_tool, Int32.reduceToNatClampNeg, Nat.add_zero, sStep]
theorem m_reading (hp : inn p 6) : fX11_reading 461 p m len v = sReading (v 462) p.toNatClampNeg m len := by
  simp (disch := first | assumption | decide) only [fX11_reading, m_tool, m_stretch, m_step, Int32.reduceToNatClampNeg, Nat.add_zero, fX11_in, sReading, sShown]
  grind
theorem m_due (hp : inn p 6) : fX11_due 461 p v = sDue (v 462) p.toNatClampNeg := by
  simp (disch := first | assumption | decide) only [fX11_due, m_tool, Int32.reduceToNatClampNeg, sDue]
theorem m_uses (hp : inn p 6) : fX11_uses 461 p m v = uA v 462 (sUse (v 462) p.toNatClampNeg m) := by
  simp (disch := first | assumption | decide) only [fX11_uses, fX11_sets, fX11_tool, fX11_less, ixT, Int32.reduceToNatClampNeg]
  funext r j
  simp only [ite_ap2, ite_ap1, u2, uA, sUse]
  grind
end TL
