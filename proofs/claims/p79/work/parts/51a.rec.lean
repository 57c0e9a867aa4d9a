/-! P79, PLAIN 3: records, by trying all; what an invariant of the array says beside WF. -/
section T51a
variable {A : Ar} {k t : Nat} {bad x : Int32}
/-- a record that its manner allows -/
abbrev rOK (M R B : Int32) : Prop := (M = 2 → B = 0) ∧ (M = 0 → ¬ (R = 10 ∧ B = 0) ∧ fX11_ones (B &&& 31) < 2) ∧ (M = 1 → ¬ (5 ≤ R ∧ B &&& 31 = 0))
def nM (M R B bad : Int32) : Int32 :=
  if M = 0 then (if fX11_ones (B &&& 31) < 2 then (if (if R = 10 then (if B = 0 then 1 else 0) else 0 : Int32) = 0 then 0 else 2) else 1)
  else (if (if M = 1 then (if R < 5 then 0 else (if (B &&& 31) = 0 then 1 else 0)) else bad : Int32) = 0 then M else 0)
def nR2 (R : Int32) : Int32 := fX11_less 10 (R + 1)
def nB2 (B bad : Int32) : Int32 := nxB B (if bad = 0 then 0 else 1)
/-- a record behind a result -/
def nRec (M R B bad : Int32) : Int32 × Int32 × Int32 := if nM M (nR2 R) (nB2 B bad) bad = M then (M, nR2 R, nB2 B bad) else (nM M (nR2 R) (nB2 B bad) bad, 0, 0)
theorem sNotes_rec : sNotes A k bad ((78 + 21 * k + 4)) = (nRec (A ((78 + 21 * k + 4))) (A ((78 + 21 * k + 5))) (A ((78 + 21 * k + 6))) bad).1 ∧ sNotes A k bad ((78 + 21 * k + 5)) = (nRec (A ((78 + 21 * k + 4))) (A ((78 + 21 * k + 5))) (A ((78 + 21 * k + 6))) bad).2.1 ∧ sNotes A k bad ((78 + 21 * k + 6)) = (nRec (A ((78 + 21 * k + 4))) (A ((78 + 21 * k + 5))) (A ((78 + 21 * k + 6))) bad).2.2 := by
  have a6 : sNote2 A k bad ((78 + 21 * k + 6)) = nB2 (A ((78 + 21 * k + 6))) bad := by unfold sNote2 sNote1; rw [st_n (by omega), st_s]; rfl
  have a5 : sNote2 A k bad ((78 + 21 * k + 5)) = nR2 (A ((78 + 21 * k + 5))) := by unfold sNote2 sNote1; rw [st_s, st_n (by omega)]; rfl
  have a4 : sNote2 A k bad ((78 + 21 * k + 4)) = A ((78 + 21 * k + 4)) := by unfold sNote2 sNote1; rw [st_n (by omega), st_n (by omega)]
  have am : sManner (sNote2 A k bad) k bad = nM (A ((78 + 21 * k + 4))) (nR2 (A ((78 + 21 * k + 5)))) (nB2 (A ((78 + 21 * k + 6))) bad) bad := by unfold sManner; rw [a4, a5, a6]; rfl
  unfold sNotes nRec
  rw [am, a4]
  by_cases h : nM (A ((78 + 21 * k + 4))) (nR2 (A ((78 + 21 * k + 5)))) (nB2 (A ((78 + 21 * k + 6))) bad) bad = A ((78 + 21 * k + 4))
  · rw [if_pos h, if_pos h]
    exact ⟨a4, a5, a6⟩
  · rw [if_neg h, if_neg h]
    refine ⟨?_, ?_, ?_⟩
    · rw [st_n (by omega), st_n (by omega), st_s]
    · rw [st_s]
    · rw [st_n (by omega), st_s]
/-- how many good ones until the manner changes -/
def gUC (M R B : Int32) : Int32 := (if M = 0 then 10 else 5) - sGood B R
set_option maxRecDepth 100000 in
theorem rec_law : ∀ M, M < 3 → ∀ r, r < 11 → ∀ b, b < 2 ^ r → rOK (Int32.ofNat M) (Int32.ofNat r) (Int32.ofNat b) →
    ((Int32.ofNat M ≠ 2 → 1 ≤ gUC (Int32.ofNat M) (Int32.ofNat r) (Int32.ofNat b) ∧ gUC (Int32.ofNat M) (Int32.ofNat r) (Int32.ofNat b) ≤ (if Int32.ofNat M = 0 then 10 else 5) ∧ (fX11_ones (Int32.ofNat b) ≤ 0 → gUC (Int32.ofNat M) (Int32.ofNat r) (Int32.ofNat b) = (if Int32.ofNat M = 0 then 10 else 5) - Int32.ofNat r)) ∧
      (Int32.ofNat M = 2 → fX11_ones (Int32.ofNat b) = 0) ∧ 0 ≤ fX11_ones (Int32.ofNat b) ∧ fX11_ones (Int32.ofNat b) ≤ Int32.ofNat r) := by decide +kernel
set_option maxRecDepth 100000 in
theorem rec_good : ∀ M, M < 3 → ∀ r, r < 11 → ∀ b, b < 2 ^ r → rOK (Int32.ofNat M) (Int32.ofNat r) (Int32.ofNat b) →
    rOK (nRec (Int32.ofNat M) (Int32.ofNat r) (Int32.ofNat b) 0).1 (nRec (Int32.ofNat M) (Int32.ofNat r) (Int32.ofNat b) 0).2.1 (nRec (Int32.ofNat M) (Int32.ofNat r) (Int32.ofNat b) 0).2.2 ∧
    ((nRec (Int32.ofNat M) (Int32.ofNat r) (Int32.ofNat b) 0).1 ≠ Int32.ofNat M → (nRec (Int32.ofNat M) (Int32.ofNat r) (Int32.ofNat b) 0).2.1 = 0 ∧ fX11_ones (nRec (Int32.ofNat M) (Int32.ofNat r) (Int32.ofNat b) 0).2.2 = 0) ∧
    ((nRec (Int32.ofNat M) (Int32.ofNat r) (Int32.ofNat b) 0).1 = Int32.ofNat M → (nRec (Int32.ofNat M) (Int32.ofNat r) (Int32.ofNat b) 0).2.1 = (if Int32.ofNat r = 10 then 10 else Int32.ofNat r + 1) ∧ fX11_ones (nRec (Int32.ofNat M) (Int32.ofNat r) (Int32.ofNat b) 0).2.2 ≤ fX11_ones (Int32.ofNat b) + 0) ∧
    (Int32.ofNat M = 2 → (nRec (Int32.ofNat M) (Int32.ofNat r) (Int32.ofNat b) 0).1 = 2) ∧
    (Int32.ofNat M ≠ 2 → gUC (Int32.ofNat M) (Int32.ofNat r) (Int32.ofNat b) = 1 → (nRec (Int32.ofNat M) (Int32.ofNat r) (Int32.ofNat b) 0).1 = (if Int32.ofNat M = 0 then 2 else 0)) ∧
    (Int32.ofNat M ≠ 2 → gUC (Int32.ofNat M) (Int32.ofNat r) (Int32.ofNat b) ≠ 1 → (nRec (Int32.ofNat M) (Int32.ofNat r) (Int32.ofNat b) 0).1 = Int32.ofNat M ∧ gUC (nRec (Int32.ofNat M) (Int32.ofNat r) (Int32.ofNat b) 0).1 (nRec (Int32.ofNat M) (Int32.ofNat r) (Int32.ofNat b) 0).2.1 (nRec (Int32.ofNat M) (Int32.ofNat r) (Int32.ofNat b) 0).2.2 = gUC (Int32.ofNat M) (Int32.ofNat r) (Int32.ofNat b) - 1) := by decide +kernel
set_option maxRecDepth 100000 in
theorem rec_bad : ∀ M, M < 3 → ∀ r, r < 11 → ∀ b, b < 2 ^ r → rOK (Int32.ofNat M) (Int32.ofNat r) (Int32.ofNat b) →
    rOK (nRec (Int32.ofNat M) (Int32.ofNat r) (Int32.ofNat b) 1).1 (nRec (Int32.ofNat M) (Int32.ofNat r) (Int32.ofNat b) 1).2.1 (nRec (Int32.ofNat M) (Int32.ofNat r) (Int32.ofNat b) 1).2.2 ∧
    ((nRec (Int32.ofNat M) (Int32.ofNat r) (Int32.ofNat b) 1).1 ≠ Int32.ofNat M → (nRec (Int32.ofNat M) (Int32.ofNat r) (Int32.ofNat b) 1).2.1 = 0 ∧ fX11_ones (nRec (Int32.ofNat M) (Int32.ofNat r) (Int32.ofNat b) 1).2.2 = 0) ∧
    ((nRec (Int32.ofNat M) (Int32.ofNat r) (Int32.ofNat b) 1).1 = Int32.ofNat M → (nRec (Int32.ofNat M) (Int32.ofNat r) (Int32.ofNat b) 1).2.1 = (if Int32.ofNat r = 10 then 10 else Int32.ofNat r + 1) ∧ fX11_ones (nRec (Int32.ofNat M) (Int32.ofNat r) (Int32.ofNat b) 1).2.2 ≤ fX11_ones (Int32.ofNat b) + 1) ∧
    (Int32.ofNat M = 2 → (nRec (Int32.ofNat M) (Int32.ofNat r) (Int32.ofNat b) 1).1 = 0) ∧ (Int32.ofNat M = 1 → (nRec (Int32.ofNat M) (Int32.ofNat r) (Int32.ofNat b) 1).1 = 1) ∧ (Int32.ofNat M = 0 → (nRec (Int32.ofNat M) (Int32.ofNat r) (Int32.ofNat b) 1).1 < 2) ∧
    ((nRec (Int32.ofNat M) (Int32.ofNat r) (Int32.ofNat b) 1).1 ≠ 2 → gUC (nRec (Int32.ofNat M) (Int32.ofNat r) (Int32.ofNat b) 1).1 (nRec (Int32.ofNat M) (Int32.ofNat r) (Int32.ofNat b) 1).2.1 (nRec (Int32.ofNat M) (Int32.ofNat r) (Int32.ofNat b) 1).2.2 = (if (nRec (Int32.ofNat M) (Int32.ofNat r) (Int32.ofNat b) 1).1 = 0 then 10 else 5)) := by decide +kernel
end T51a
