/-! P79, PLAIN 3: records, by trying all; what an invariant of the array says beside WF. -/
section T51a
variable {A : Ar} {k t : Nat} {bad x : Int32}
/-- a record that its manner allows -/
abbrev rOK (M R B : Int32) : Prop := (M = 2 → B = 0) ∧ (M = 0 → ¬ (R = 10 ∧ B = 0) ∧ fX11_ones (B &&& 31) < 2) ∧ (M = 1 → ¬ (5 ≤ R ∧ B &&& 31 = 0))
def nM (M R B bad : Int32) : Int32 :=
  if M = 0 then (if fX11_ones (B &&& 31) < 2 then (if (if R = 10 then (if B = 0 then 1 else 0) else 0 : Int32) = 0 then 0 else 2) else 1)
  else (if (if M = 1 then (if R < 5 then 0 else (if (B &&& 31) = 0 then 1 else 0)) else bad : Int32) = 0 then M else 0)
def nR2 (R : Int32) : Int32 := fX11_less 10 (R + 1)
def nB2 (B bad : Int32) : Int32 := nxB B (if bad = 0 then 0 else 1)
/-- a record behind a result -/
def nRec (M R B bad : Int32) : Int32 × Int32 × Int32 := if nM M (nR2 R) (nB2 B bad) bad = M then (M, nR2 R, nB2 B bad) else (nM M (nR2 R) (nB2 B bad) bad, 0, 0)
theorem sNotes_rec : sNotes A k bad ((78 + 21 * k + 4)) = (nRec (A ((78 + 21 * k + 4))) (A ((78 + 21 * k + 5))) (A ((78 + 21 * k + 6))) bad).1 ∧ sNotes A k bad ((78 + 21 * k + 5)) = (nRec (A ((78 + 21 * k + 4))) (A ((78 + 21 * k + 5))) (A ((78 + 21 * k + 6))) bad).2.1 ∧ sNotes A k bad ((78 + 21 * k + 6)) = (nRec (A ((78 + 21 * k + 4))) (A ((78 + 21 * k + 5))) (A ((78 + 21 * k + 6))) bad).2.2 := by
  have a6 : sNote2 A k bad ((78 + 21 * k + 6)) = nB2 (A ((78 + 21 * k + 6))) bad := by unfold sNote2 sNote1; rw [st_n (by omega), st_s]; rfl
  have a5 : sNote2 A k bad ((78 + 21 * k + 5)) = nR2 (A ((78 + 21 * k + 5))) := by unfold sNote2 sNote1; rw [st_s, st_n (by omega)]; rfl
  have a4 : sNote2 A k bad ((78 + 21 * k + 4)) = A ((78 + 21 * k + 4)) := by unfold sNote2 sNote1; rw [st_n (by omega), st_n (by omega)]
  have am : sManner (sNote2 A k bad) k bad = nM (A ((78 + 21 * k + 4))) (nR2 (A ((78 + 21 * k + 5)))) (nB2 (A ((78 + 21 * k + 6))) bad) bad := by unfold sManner; rw [a4, a5, a6]; rfl
  unfold sNotes nRec
  rw [am, a4]
  by_cases h : nM (A ((78 + 21 * k + 4))) (nR2 (A ((78 + 21 * k + 5)))) (nB2 (A ((78 + 21 * k + 6))) bad) bad = A ((78 + 21 * k + 4))
  · rw [if_pos h, if_pos h]
    exact ⟨a4, a5, a6⟩
  · rw [if_neg h, if_neg h]
    refine ⟨?_, ?_, ?_⟩
    · rw [st_n (by omega), st_n (by omega), st_s]
    · rw [st_s]
    · rw [st_n (by omega), st_s]
/-- how many good ones until the manner changes -/
def gUC (M R B : Int32) : Int32 := (if M = 0 then 10 else 5) - sGood B R
def okB (M r b : Nat) : Bool := decide (rOK (Int32.ofNat M) (Int32.ofNat r) (Int32.ofNat b))
def lawB0 (M r b : Nat) : Bool := decide ((Int32.ofNat M) ≠ 2 → 1 ≤ gUC (Int32.ofNat M) (Int32.ofNat r) (Int32.ofNat b) ∧ gUC (Int32.ofNat M) (Int32.ofNat r) (Int32.ofNat b) ≤ (if (Int32.ofNat M) = 0 then 10 else 5) ∧ (fX11_ones (Int32.ofNat b) ≤ 0 → gUC (Int32.ofNat M) (Int32.ofNat r) (Int32.ofNat b) = (if (Int32.ofNat M) = 0 then 10 else 5) - (Int32.ofNat r)))
set_option maxRecDepth 100000 in
theorem lawT0 : ∀ M, M < 3 → ∀ r, r < 11 → ∀ b, b < 2 ^ r → (!okB M r b || lawB0 M r b) = true := by decide +kernel
theorem lawP0 {M r b : Nat} (h1 : M < 3) (h2 : r < 11) (h3 : b < 2 ^ r) (h : rOK (Int32.ofNat M) (Int32.ofNat r) (Int32.ofNat b)) : (Int32.ofNat M) ≠ 2 → 1 ≤ gUC (Int32.ofNat M) (Int32.ofNat r) (Int32.ofNat b) ∧ gUC (Int32.ofNat M) (Int32.ofNat r) (Int32.ofNat b) ≤ (if (Int32.ofNat M) = 0 then 10 else 5) ∧ (fX11_ones (Int32.ofNat b) ≤ 0 → gUC (Int32.ofNat M) (Int32.ofNat r) (Int32.ofNat b) = (if (Int32.ofNat M) = 0 then 10 else 5) - (Int32.ofNat r)) := by
  have e := lawT0 M h1 r h2 b h3
  rw [show okB M r b = true from decide_eq_true h, Bool.not_true, Bool.false_or] at e
  exact of_decide_eq_true e
def lawB1 (M r b : Nat) : Bool := decide ((Int32.ofNat M) = 2 → fX11_ones (Int32.ofNat b) = 0)
set_option maxRecDepth 100000 in
theorem lawT1 : ∀ M, M < 3 → ∀ r, r < 11 → ∀ b, b < 2 ^ r → (!okB M r b || lawB1 M r b) = true := by decide +kernel
theorem lawP1 {M r b : Nat} (h1 : M < 3) (h2 : r < 11) (h3 : b < 2 ^ r) (h : rOK (Int32.ofNat M) (Int32.ofNat r) (Int32.ofNat b)) : (Int32.ofNat M) = 2 → fX11_ones (Int32.ofNat b) = 0 := by
  have e := lawT1 M h1 r h2 b h3
  rw [show okB M r b = true from decide_eq_true h, Bool.not_true, Bool.false_or] at e
  exact of_decide_eq_true e
def lawB2 (M r b : Nat) : Bool := decide (0 ≤ fX11_ones (Int32.ofNat b))
set_option maxRecDepth 100000 in
theorem lawT2 : ∀ M, M < 3 → ∀ r, r < 11 → ∀ b, b < 2 ^ r → (!okB M r b || lawB2 M r b) = true := by decide +kernel
theorem lawP2 {M r b : Nat} (h1 : M < 3) (h2 : r < 11) (h3 : b < 2 ^ r) (h : rOK (Int32.ofNat M) (Int32.ofNat r) (Int32.ofNat b)) : 0 ≤ fX11_ones (Int32.ofNat b) := by
  have e := lawT2 M h1 r h2 b h3
  rw [show okB M r b = true from decide_eq_true h, Bool.not_true, Bool.false_or] at e
  exact of_decide_eq_true e
def lawB3 (M r b : Nat) : Bool := decide (fX11_ones (Int32.ofNat b) ≤ (Int32.ofNat r))
set_option maxRecDepth 100000 in
theorem lawT3 : ∀ M, M < 3 → ∀ r, r < 11 → ∀ b, b < 2 ^ r → (!okB M r b || lawB3 M r b) = true := by decide +kernel
theorem lawP3 {M r b : Nat} (h1 : M < 3) (h2 : r < 11) (h3 : b < 2 ^ r) (h : rOK (Int32.ofNat M) (Int32.ofNat r) (Int32.ofNat b)) : fX11_ones (Int32.ofNat b) ≤ (Int32.ofNat r) := by
  have e := lawT3 M h1 r h2 b h3
  rw [show okB M r b = true from decide_eq_true h, Bool.not_true, Bool.false_or] at e
  exact of_decide_eq_true e
theorem rec_law (M : Nat) (h1 : M < 3) (r : Nat) (h2 : r < 11) (b : Nat) (h3 : b < 2 ^ r) (h : rOK (Int32.ofNat M) (Int32.ofNat r) (Int32.ofNat b)) : ((Int32.ofNat M) ≠ 2 → 1 ≤ gUC (Int32.ofNat M) (Int32.ofNat r) (Int32.ofNat b) ∧ gUC (Int32.ofNat M) (Int32.ofNat r) (Int32.ofNat b) ≤ (if (Int32.ofNat M) = 0 then 10 else 5) ∧ (fX11_ones (Int32.ofNat b) ≤ 0 → gUC (Int32.ofNat M) (Int32.ofNat r) (Int32.ofNat b) = (if (Int32.ofNat M) = 0 then 10 else 5) - (Int32.ofNat r))) ∧ ((Int32.ofNat M) = 2 → fX11_ones (Int32.ofNat b) = 0) ∧ (0 ≤ fX11_ones (Int32.ofNat b)) ∧ (fX11_ones (Int32.ofNat b) ≤ (Int32.ofNat r)) :=
  ⟨lawP0 h1 h2 h3 h, lawP1 h1 h2 h3 h, lawP2 h1 h2 h3 h, lawP3 h1 h2 h3 h⟩
def goodB0 (M r b : Nat) : Bool := decide (rOK (nRec (Int32.ofNat M) (Int32.ofNat r) (Int32.ofNat b) 0).1 (nRec (Int32.ofNat M) (Int32.ofNat r) (Int32.ofNat b) 0).2.1 (nRec (Int32.ofNat M) (Int32.ofNat r) (Int32.ofNat b) 0).2.2)
set_option maxRecDepth 100000 in
theorem goodT0 : ∀ M, M < 3 → ∀ r, r < 11 → ∀ b, b < 2 ^ r → (!okB M r b || goodB0 M r b) = true := by decide +kernel
theorem goodP0 {M r b : Nat} (h1 : M < 3) (h2 : r < 11) (h3 : b < 2 ^ r) (h : rOK (Int32.ofNat M) (Int32.ofNat r) (Int32.ofNat b)) : rOK (nRec (Int32.ofNat M) (Int32.ofNat r) (Int32.ofNat b) 0).1 (nRec (Int32.ofNat M) (Int32.ofNat r) (Int32.ofNat b) 0).2.1 (nRec (Int32.ofNat M) (Int32.ofNat r) (Int32.ofNat b) 0).2.2 := by
  have e := goodT0 M h1 r h2 b h3
  rw [show okB M r b = true from decide_eq_true h, Bool.not_true, Bool.false_or] at e
  exact of_decide_eq_true e
def goodB1 (M r b : Nat) : Bool := decide ((nRec (Int32.ofNat M) (Int32.ofNat r) (Int32.ofNat b) 0).1 ≠ (Int32.ofNat M) → (nRec (Int32.ofNat M) (Int32.ofNat r) (Int32.ofNat b) 0).2.1 = 0 ∧ fX11_ones (nRec (Int32.ofNat M) (Int32.ofNat r) (Int32.ofNat b) 0).2.2 = 0)
set_option maxRecDepth 100000 in
theorem goodT1 : ∀ M, M < 3 → ∀ r, r < 11 → ∀ b, b < 2 ^ r → (!okB M r b || goodB1 M r b) = true := by decide +kernel
theorem goodP1 {M r b : Nat} (h1 : M < 3) (h2 : r < 11) (h3 : b < 2 ^ r) (h : rOK (Int32.ofNat M) (Int32.ofNat r) (Int32.ofNat b)) : (nRec (Int32.ofNat M) (Int32.ofNat r) (Int32.ofNat b) 0).1 ≠ (Int32.ofNat M) → (nRec (Int32.ofNat M) (Int32.ofNat r) (Int32.ofNat b) 0).2.1 = 0 ∧ fX11_ones (nRec (Int32.ofNat M) (Int32.ofNat r) (Int32.ofNat b) 0).2.2 = 0 := by
  have e := goodT1 M h1 r h2 b h3
  rw [show okB M r b = true from decide_eq_true h, Bool.not_true, Bool.false_or] at e
  exact of_decide_eq_true e
def goodB2 (M r b : Nat) : Bool := decide ((nRec (Int32.ofNat M) (Int32.ofNat r) (Int32.ofNat b) 0).1 = (Int32.ofNat M) → (nRec (Int32.ofNat M) (Int32.ofNat r) (Int32.ofNat b) 0).2.1 = (if (Int32.ofNat r) = 10 then 10 else (Int32.ofNat r) + 1) ∧ fX11_ones (nRec (Int32.ofNat M) (Int32.ofNat r) (Int32.ofNat b) 0).2.2 ≤ fX11_ones (Int32.ofNat b) + 0)
set_option maxRecDepth 100000 in
theorem goodT2 : ∀ M, M < 3 → ∀ r, r < 11 → ∀ b, b < 2 ^ r → (!okB M r b || goodB2 M r b) = true := by decide +kernel
theorem goodP2 {M r b : Nat} (h1 : M < 3) (h2 : r < 11) (h3 : b < 2 ^ r) (h : rOK (Int32.ofNat M) (Int32.ofNat r) (Int32.ofNat b)) : (nRec (Int32.ofNat M) (Int32.ofNat r) (Int32.ofNat b) 0).1 = (Int32.ofNat M) → (nRec (Int32.ofNat M) (Int32.ofNat r) (Int32.ofNat b) 0).2.1 = (if (Int32.ofNat r) = 10 then 10 else (Int32.ofNat r) + 1) ∧ fX11_ones (nRec (Int32.ofNat M) (Int32.ofNat r) (Int32.ofNat b) 0).2.2 ≤ fX11_ones (Int32.ofNat b) + 0 := by
  have e := goodT2 M h1 r h2 b h3
  rw [show okB M r b = true from decide_eq_true h, Bool.not_true, Bool.false_or] at e
  exact of_decide_eq_true e
def goodB3 (M r b : Nat) : Bool := decide ((Int32.ofNat M) = 2 → (nRec (Int32.ofNat M) (Int32.ofNat r) (Int32.ofNat b) 0).1 = 2)
set_option maxRecDepth 100000 in
theorem goodT3 : ∀ M, M < 3 → ∀ r, r < 11 → ∀ b, b < 2 ^ r → (!okB M r b || goodB3 M r b) = true := by decide +kernel
theorem goodP3 {M r b : Nat} (h1 : M < 3) (h2 : r < 11) (h3 : b < 2 ^ r) (h : rOK (Int32.ofNat M) (Int32.ofNat r) (Int32.ofNat b)) : (Int32.ofNat M) = 2 → (nRec (Int32.ofNat M) (Int32.ofNat r) (Int32.ofNat b) 0).1 = 2 := by
  have e := goodT3 M h1 r h2 b h3
  rw [show okB M r b = true from decide_eq_true h, Bool.not_true, Bool.false_or] at e
  exact of_decide_eq_true e
def goodB4 (M r b : Nat) : Bool := decide ((Int32.ofNat M) ≠ 2 → gUC (Int32.ofNat M) (Int32.ofNat r) (Int32.ofNat b) = 1 → (nRec (Int32.ofNat M) (Int32.ofNat r) (Int32.ofNat b) 0).1 = (if (Int32.ofNat M) = 0 then 2 else 0))
set_option maxRecDepth 100000 in
theorem goodT4 : ∀ M, M < 3 → ∀ r, r < 11 → ∀ b, b < 2 ^ r → (!okB M r b || goodB4 M r b) = true := by decide +kernel
theorem goodP4 {M r b : Nat} (h1 : M < 3) (h2 : r < 11) (h3 : b < 2 ^ r) (h : rOK (Int32.ofNat M) (Int32.ofNat r) (Int32.ofNat b)) : (Int32.ofNat M) ≠ 2 → gUC (Int32.ofNat M) (Int32.ofNat r) (Int32.ofNat b) = 1 → (nRec (Int32.ofNat M) (Int32.ofNat r) (Int32.ofNat b) 0).1 = (if (Int32.ofNat M) = 0 then 2 else 0) := by
  have e := goodT4 M h1 r h2 b h3
  rw [show okB M r b = true from decide_eq_true h, Bool.not_true, Bool.false_or] at e
  exact of_decide_eq_true e
def goodB5 (M r b : Nat) : Bool := decide ((Int32.ofNat M) ≠ 2 → gUC (Int32.ofNat M) (Int32.ofNat r) (Int32.ofNat b) ≠ 1 → (nRec (Int32.ofNat M) (Int32.ofNat r) (Int32.ofNat b) 0).1 = (Int32.ofNat M) ∧ gUC (nRec (Int32.ofNat M) (Int32.ofNat r) (Int32.ofNat b) 0).1 (nRec (Int32.ofNat M) (Int32.ofNat r) (Int32.ofNat b) 0).2.1 (nRec (Int32.ofNat M) (Int32.ofNat r) (Int32.ofNat b) 0).2.2 = gUC (Int32.ofNat M) (Int32.ofNat r) (Int32.ofNat b) - 1)
set_option maxRecDepth 100000 in
theorem goodT5 : ∀ M, M < 3 → ∀ r, r < 11 → ∀ b, b < 2 ^ r → (!okB M r b || goodB5 M r b) = true := by decide +kernel
theorem goodP5 {M r b : Nat} (h1 : M < 3) (h2 : r < 11) (h3 : b < 2 ^ r) (h : rOK (Int32.ofNat M) (Int32.ofNat r) (Int32.ofNat b)) : (Int32.ofNat M) ≠ 2 → gUC (Int32.ofNat M) (Int32.ofNat r) (Int32.ofNat b) ≠ 1 → (nRec (Int32.ofNat M) (Int32.ofNat r) (Int32.ofNat b) 0).1 = (Int32.ofNat M) ∧ gUC (nRec (Int32.ofNat M) (Int32.ofNat r) (Int32.ofNat b) 0).1 (nRec (Int32.ofNat M) (Int32.ofNat r) (Int32.ofNat b) 0).2.1 (nRec (Int32.ofNat M) (Int32.ofNat r) (Int32.ofNat b) 0).2.2 = gUC (Int32.ofNat M) (Int32.ofNat r) (Int32.ofNat b) - 1 := by
  have e := goodT5 M h1 r h2 b h3
  rw [show okB M r b = true from decide_eq_true h, Bool.not_true, Bool.false_or] at e
  exact of_decide_eq_true e
theorem rec_good (M : Nat) (h1 : M < 3) (r : Nat) (h2 : r < 11) (b : Nat) (h3 : b < 2 ^ r) (h : rOK (Int32.ofNat M) (Int32.ofNat r) (Int32.ofNat b)) : (rOK (nRec (Int32.ofNat M) (Int32.ofNat r) (Int32.ofNat b) 0).1 (nRec (Int32.ofNat M) (Int32.ofNat r) (Int32.ofNat b) 0).2.1 (nRec (Int32.ofNat M) (Int32.ofNat r) (Int32.ofNat b) 0).2.2) ∧ ((nRec (Int32.ofNat M) (Int32.ofNat r) (Int32.ofNat b) 0).1 ≠ (Int32.ofNat M) → (nRec (Int32.ofNat M) (Int32.ofNat r) (Int32.ofNat b) 0).2.1 = 0 ∧ fX11_ones (nRec (Int32.ofNat M) (Int32.ofNat r) (Int32.ofNat b) 0).2.2 = 0) ∧ ((nRec (Int32.ofNat M) (Int32.ofNat r) (Int32.ofNat b) 0).1 = (Int32.ofNat M) → (nRec (Int32.ofNat M) (Int32.ofNat r) (Int32.ofNat b) 0).2.1 = (if (Int32.ofNat r) = 10 then 10 else (Int32.ofNat r) + 1) ∧ fX11_ones (nRec (Int32.ofNat M) (Int32.ofNat r) (Int32.ofNat b) 0).2.2 ≤ fX11_ones (Int32.ofNat b) + 0) ∧ ((Int32.ofNat M) = 2 → (nRec (Int32.ofNat M) (Int32.ofNat r) (Int32.ofNat b) 0).1 = 2) ∧ ((Int32.ofNat M) ≠ 2 → gUC (Int32.ofNat M) (Int32.ofNat r) (Int32.ofNat b) = 1 → (nRec (Int32.ofNat M) (Int32.ofNat r) (Int32.ofNat b) 0).1 = (if (Int32.ofNat M) = 0 then 2 else 0)) ∧ ((Int32.ofNat M) ≠ 2 → gUC (Int32.ofNat M) (Int32.ofNat r) (Int32.ofNat b) ≠ 1 → (nRec (Int32.ofNat M) (Int32.ofNat r) (Int32.ofNat b) 0).1 = (Int32.ofNat M) ∧ gUC (nRec (Int32.ofNat M) (Int32.ofNat r) (Int32.ofNat b) 0).1 (nRec (Int32.ofNat M) (Int32.ofNat r) (Int32.ofNat b) 0).2.1 (nRec (Int32.ofNat M) (Int32.ofNat r) (Int32.ofNat b) 0).2.2 = gUC (Int32.ofNat M) (Int32.ofNat r) (Int32.ofNat b) - 1) :=
  ⟨goodP0 h1 h2 h3 h, goodP1 h1 h2 h3 h, goodP2 h1 h2 h3 h, goodP3 h1 h2 h3 h, goodP4 h1 h2 h3 h, goodP5 h1 h2 h3 h⟩
def badB0 (M r b : Nat) : Bool := decide (rOK (nRec (Int32.ofNat M) (Int32.ofNat r) (Int32.ofNat b) 1).1 (nRec (Int32.ofNat M) (Int32.ofNat r) (Int32.ofNat b) 1).2.1 (nRec (Int32.ofNat M) (Int32.ofNat r) (Int32.ofNat b) 1).2.2)
set_option maxRecDepth 100000 in
theorem badT0 : ∀ M, M < 3 → ∀ r, r < 11 → ∀ b, b < 2 ^ r → (!okB M r b || badB0 M r b) = true := by decide +kernel
theorem badP0 {M r b : Nat} (h1 : M < 3) (h2 : r < 11) (h3 : b < 2 ^ r) (h : rOK (Int32.ofNat M) (Int32.ofNat r) (Int32.ofNat b)) : rOK (nRec (Int32.ofNat M) (Int32.ofNat r) (Int32.ofNat b) 1).1 (nRec (Int32.ofNat M) (Int32.ofNat r) (Int32.ofNat b) 1).2.1 (nRec (Int32.ofNat M) (Int32.ofNat r) (Int32.ofNat b) 1).2.2 := by
  have e := badT0 M h1 r h2 b h3
  rw [show okB M r b = true from decide_eq_true h, Bool.not_true, Bool.false_or] at e
  exact of_decide_eq_true e
def badB1 (M r b : Nat) : Bool := decide ((nRec (Int32.ofNat M) (Int32.ofNat r) (Int32.ofNat b) 1).1 ≠ (Int32.ofNat M) → (nRec (Int32.ofNat M) (Int32.ofNat r) (Int32.ofNat b) 1).2.1 = 0 ∧ fX11_ones (nRec (Int32.ofNat M) (Int32.ofNat r) (Int32.ofNat b) 1).2.2 = 0)
set_option maxRecDepth 100000 in
theorem badT1 : ∀ M, M < 3 → ∀ r, r < 11 → ∀ b, b < 2 ^ r → (!okB M r b || badB1 M r b) = true := by decide +kernel
theorem badP1 {M r b : Nat} (h1 : M < 3) (h2 : r < 11) (h3 : b < 2 ^ r) (h : rOK (Int32.ofNat M) (Int32.ofNat r) (Int32.ofNat b)) : (nRec (Int32.ofNat M) (Int32.ofNat r) (Int32.ofNat b) 1).1 ≠ (Int32.ofNat M) → (nRec (Int32.ofNat M) (Int32.ofNat r) (Int32.ofNat b) 1).2.1 = 0 ∧ fX11_ones (nRec (Int32.ofNat M) (Int32.ofNat r) (Int32.ofNat b) 1).2.2 = 0 := by
  have e := badT1 M h1 r h2 b h3
  rw [show okB M r b = true from decide_eq_true h, Bool.not_true, Bool.false_or] at e
  exact of_decide_eq_true e
def badB2 (M r b : Nat) : Bool := decide ((nRec (Int32.ofNat M) (Int32.ofNat r) (Int32.ofNat b) 1).1 = (Int32.ofNat M) → (nRec (Int32.ofNat M) (Int32.ofNat r) (Int32.ofNat b) 1).2.1 = (if (Int32.ofNat r) = 10 then 10 else (Int32.ofNat r) + 1) ∧ fX11_ones (nRec (Int32.ofNat M) (Int32.ofNat r) (Int32.ofNat b) 1).2.2 ≤ fX11_ones (Int32.ofNat b) + 1)
set_option maxRecDepth 100000 in
theorem badT2 : ∀ M, M < 3 → ∀ r, r < 11 → ∀ b, b < 2 ^ r → (!okB M r b || badB2 M r b) = true := by decide +kernel
theorem badP2 {M r b : Nat} (h1 : M < 3) (h2 : r < 11) (h3 : b < 2 ^ r) (h : rOK (Int32.ofNat M) (Int32.ofNat r) (Int32.ofNat b)) : (nRec (Int32.ofNat M) (Int32.ofNat r) (Int32.ofNat b) 1).1 = (Int32.ofNat M) → (nRec (Int32.ofNat M) (Int32.ofNat r) (Int32.ofNat b) 1).2.1 = (if (Int32.ofNat r) = 10 then 10 else (Int32.ofNat r) + 1) ∧ fX11_ones (nRec (Int32.ofNat M) (Int32.ofNat r) (Int32.ofNat b) 1).2.2 ≤ fX11_ones (Int32.ofNat b) + 1 := by
  have e := badT2 M h1 r h2 b h3
  rw [show okB M r b = true from decide_eq_true h, Bool.not_true, Bool.false_or] at e
  exact of_decide_eq_true e
def badB3 (M r b : Nat) : Bool := decide ((Int32.ofNat M) = 2 → (nRec (Int32.ofNat M) (Int32.ofNat r) (Int32.ofNat b) 1).1 = 0)
set_option maxRecDepth 100000 in
theorem badT3 : ∀ M, M < 3 → ∀ r, r < 11 → ∀ b, b < 2 ^ r → (!okB M r b || badB3 M r b) = true := by decide +kernel
theorem badP3 {M r b : Nat} (h1 : M < 3) (h2 : r < 11) (h3 : b < 2 ^ r) (h : rOK (Int32.ofNat M) (Int32.ofNat r) (Int32.ofNat b)) : (Int32.ofNat M) = 2 → (nRec (Int32.ofNat M) (Int32.ofNat r) (Int32.ofNat b) 1).1 = 0 := by
  have e := badT3 M h1 r h2 b h3
  rw [show okB M r b = true from decide_eq_true h, Bool.not_true, Bool.false_or] at e
  exact of_decide_eq_true e
def badB4 (M r b : Nat) : Bool := decide ((Int32.ofNat M) = 1 → (nRec (Int32.ofNat M) (Int32.ofNat r) (Int32.ofNat b) 1).1 = 1)
set_option maxRecDepth 100000 in
theorem badT4 : ∀ M, M < 3 → ∀ r, r < 11 → ∀ b, b < 2 ^ r → (!okB M r b || badB4 M r b) = true := by decide +kernel
theorem badP4 {M r b : Nat} (h1 : M < 3) (h2 : r < 11) (h3 : b < 2 ^ r) (h : rOK (Int32.ofNat M) (Int32.ofNat r) (Int32.ofNat b)) : (Int32.ofNat M) = 1 → (nRec (Int32.ofNat M) (Int32.ofNat r) (Int32.ofNat b) 1).1 = 1 := by
  have e := badT4 M h1 r h2 b h3
  rw [show okB M r b = true from decide_eq_true h, Bool.not_true, Bool.false_or] at e
  exact of_decide_eq_true e
def badB5 (M r b : Nat) : Bool := decide ((Int32.ofNat M) = 0 → (nRec (Int32.ofNat M) (Int32.ofNat r) (Int32.ofNat b) 1).1 < 2)
set_option maxRecDepth 100000 in
theorem badT5 : ∀ M, M < 3 → ∀ r, r < 11 → ∀ b, b < 2 ^ r → (!okB M r b || badB5 M r b) = true := by decide +kernel
theorem badP5 {M r b : Nat} (h1 : M < 3) (h2 : r < 11) (h3 : b < 2 ^ r) (h : rOK (Int32.ofNat M) (Int32.ofNat r) (Int32.ofNat b)) : (Int32.ofNat M) = 0 → (nRec (Int32.ofNat M) (Int32.ofNat r) (Int32.ofNat b) 1).1 < 2 := by
  have e := badT5 M h1 r h2 b h3
  rw [show okB M r b = true from decide_eq_true h, Bool.not_true, Bool.false_or] at e
  exact of_decide_eq_true e
def badB6 (M r b : Nat) : Bool := decide ((nRec (Int32.ofNat M) (Int32.ofNat r) (Int32.ofNat b) 1).1 ≠ 2 → gUC (nRec (Int32.ofNat M) (Int32.ofNat r) (Int32.ofNat b) 1).1 (nRec (Int32.ofNat M) (Int32.ofNat r) (Int32.ofNat b) 1).2.1 (nRec (Int32.ofNat M) (Int32.ofNat r) (Int32.ofNat b) 1).2.2 = (if (nRec (Int32.ofNat M) (Int32.ofNat r) (Int32.ofNat b) 1).1 = 0 then 10 else 5))
set_option maxRecDepth 100000 in
theorem badT6 : ∀ M, M < 3 → ∀ r, r < 11 → ∀ b, b < 2 ^ r → (!okB M r b || badB6 M r b) = true := by decide +kernel
theorem badP6 {M r b : Nat} (h1 : M < 3) (h2 : r < 11) (h3 : b < 2 ^ r) (h : rOK (Int32.ofNat M) (Int32.ofNat r) (Int32.ofNat b)) : (nRec (Int32.ofNat M) (Int32.ofNat r) (Int32.ofNat b) 1).1 ≠ 2 → gUC (nRec (Int32.ofNat M) (Int32.ofNat r) (Int32.ofNat b) 1).1 (nRec (Int32.ofNat M) (Int32.ofNat r) (Int32.ofNat b) 1).2.1 (nRec (Int32.ofNat M) (Int32.ofNat r) (Int32.ofNat b) 1).2.2 = (if (nRec (Int32.ofNat M) (Int32.ofNat r) (Int32.ofNat b) 1).1 = 0 then 10 else 5) := by
  have e := badT6 M h1 r h2 b h3
  rw [show okB M r b = true from decide_eq_true h, Bool.not_true, Bool.false_or] at e
  exact of_decide_eq_true e
theorem rec_bad (M : Nat) (h1 : M < 3) (r : Nat) (h2 : r < 11) (b : Nat) (h3 : b < 2 ^ r) (h : rOK (Int32.ofNat M) (Int32.ofNat r) (Int32.ofNat b)) : (rOK (nRec (Int32.ofNat M) (Int32.ofNat r) (Int32.ofNat b) 1).1 (nRec (Int32.ofNat M) (Int32.ofNat r) (Int32.ofNat b) 1).2.1 (nRec (Int32.ofNat M) (Int32.ofNat r) (Int32.ofNat b) 1).2.2) ∧ ((nRec (Int32.ofNat M) (Int32.ofNat r) (Int32.ofNat b) 1).1 ≠ (Int32.ofNat M) → (nRec (Int32.ofNat M) (Int32.ofNat r) (Int32.ofNat b) 1).2.1 = 0 ∧ fX11_ones (nRec (Int32.ofNat M) (Int32.ofNat r) (Int32.ofNat b) 1).2.2 = 0) ∧ ((nRec (Int32.ofNat M) (Int32.ofNat r) (Int32.ofNat b) 1).1 = (Int32.ofNat M) → (nRec (Int32.ofNat M) (Int32.ofNat r) (Int32.ofNat b) 1).2.1 = (if (Int32.ofNat r) = 10 then 10 else (Int32.ofNat r) + 1) ∧ fX11_ones (nRec (Int32.ofNat M) (Int32.ofNat r) (Int32.ofNat b) 1).2.2 ≤ fX11_ones (Int32.ofNat b) + 1) ∧ ((Int32.ofNat M) = 2 → (nRec (Int32.ofNat M) (Int32.ofNat r) (Int32.ofNat b) 1).1 = 0) ∧ ((Int32.ofNat M) = 1 → (nRec (Int32.ofNat M) (Int32.ofNat r) (Int32.ofNat b) 1).1 = 1) ∧ ((Int32.ofNat M) = 0 → (nRec (Int32.ofNat M) (Int32.ofNat r) (Int32.ofNat b) 1).1 < 2) ∧ ((nRec (Int32.ofNat M) (Int32.ofNat r) (Int32.ofNat b) 1).1 ≠ 2 → gUC (nRec (Int32.ofNat M) (Int32.ofNat r) (Int32.ofNat b) 1).1 (nRec (Int32.ofNat M) (Int32.ofNat r) (Int32.ofNat b) 1).2.1 (nRec (Int32.ofNat M) (Int32.ofNat r) (Int32.ofNat b) 1).2.2 = (if (nRec (Int32.ofNat M) (Int32.ofNat r) (Int32.ofNat b) 1).1 = 0 then 10 else 5)) :=
  ⟨badP0 h1 h2 h3 h, badP1 h1 h2 h3 h, badP2 h1 h2 h3 h, badP3 h1 h2 h3 h, badP4 h1 h2 h3 h, badP5 h1 h2 h3 h, badP6 h1 h2 h3 h⟩
end T51a
