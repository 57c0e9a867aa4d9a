/-! THE PLAIN PART 10: what holds between calls; the record of a change. -/
def cP (T : Ar) : Nat → Nat
  | 0 => 0
  | i + 1 => cP T i + (if T i = 112 then 1 else 0)
/-- the queue's bound: n calls done, m the text's greatest length, len its length, a its letters p -/
def QB (n _m _len _a : Nat) (A : Ar) : Prop := (A 207).toNatClampNeg ≤ n
def TL (v : vSt) : Nat := (v 461 7).toNatClampNeg
/-- warmth and tolerance are what the document lets them be -/
def WT (A : Ar) : Prop := (-10 ≤ (A 208).toInt ∧ (A 208).toInt ≤ 50) ∧ (0 ≤ (A 209).toInt ∧ (A 209).toInt ≤ 99)
def QVp (n m : Nat) (v : vSt) (A : Ar) : Prop := QB n m (TL v) (cP (v 466) (TL v)) A ∧ WT A
def LIV (n m : Nat) (v : vSt) (b : Nat) (A : Ar) : Prop := SR v b A ∧ WF A ∧ AC A ∧ QVp n m v A
def RB (v : vSt) : Prop :=
  (kd (rN (v 448 0)) = 7 ∧ rN (v 448 0) ≠ 320) ∧ (kd (rN (v 451 0)) = 7 ∧ rN (v 451 0) ≠ 320) ∧ (∀ i, i < 4 → kd (rN (v 449 i)) = 7 ∧ rN (v 449 i) ≠ 320) ∧
  rN (v 448 0) ≠ rN (v 451 0) ∧ (∀ i, i < 4 → rN (v 449 i) ≠ rN (v 448 0) ∧ rN (v 449 i) ≠ rN (v 451 0)) ∧ (∀ i j, i < 4 → j < 4 → i ≠ j → rN (v 449 i) ≠ rN (v 449 j))
def TX (v : vSt) : Prop := v 448 6 = v 461 7 ∧ inn (v 461 7) 61 ∧ ∀ i, i < TL v → v 450 i = v 466 i ∧ 32 ≤ (v 466 i).toInt ∧ (v 466 i).toInt ≤ 126
def Inv (n m : Nat) (v : vSt) : Prop :=
  RB v ∧ (∀ b, kd b = 7 → CP v b) ∧ (v 448 2 = v 461 5 ∧ inn (v 461 5) 5) ∧ (v 448 4 = v 461 3 ∧ inn (v 461 3) 2) ∧ (TX v ∧ TL v ≤ m ∧ m ≤ n ∧ m ≤ 60) ∧
  LIV n m v (rN (v 448 0)) (v 462) ∧ (∀ i, i < (v 461 5).toNatClampNeg → LIV n m v (rN (v 449 i)) (sl v i)) ∧ (v 461 3 = 1 → LIV n m v 320 (v 464))
theorem kd_lt7 {b : Nat} (h : kd b = 7) : b < 448 := by have := kd7 h; omega
theorem QB.up {n m len a : Nat} {A : Ar} (h : QB n m len a A) (_hl : len ≤ n) : QB (n + 1) m len a A := by
  have h : (A 207).toNatClampNeg ≤ n := h
  show (A 207).toNatClampNeg ≤ n + 1
  omega
theorem QB.cg {n m len a : Nat} {A A' : Ar} (h : QB n m len a A) (_e6 : (A' 206).toNatClampNeg = (A 206).toNatClampNeg) (e7 : (A' 207).toNatClampNeg = (A 207).toNatClampNeg) : QB n m len a A' := by
  have h : (A 207).toNatClampNeg ≤ n := h
  show (A' 207).toNatClampNeg ≤ n
  omega
theorem WT.cg {A A' : Ar} (h : WT A) (e8 : A' 208 = A 208) (e9 : A' 209 = A 209) : WT A' := by
  unfold WT
  rw [e8, e9]
  exact h
theorem LIV.fr {n m : Nat} {v w : vSt} {b : Nat} {A B : Ar} (hb : kd b = 7) (h : LIV n m v b A) (hq : ∀ q, b ≤ q → q < b + 64 → w q = v q) (ht : w 461 7 = v 461 7 ∧ w 466 = v 466) (he : eqA B A) : LIV n m w b B := by
  obtain ⟨h1, h2, h3, h4⟩ := h
  refine ⟨(h1.fr hb hq ⟨h2.1.1, h2.1.2.1, h2.1.2.2.1⟩).ext h2 he, h2.ext he, h3.ext he, ?_⟩
  unfold QVp TL
  rw [ht.1, ht.2]
  exact ⟨QB.cg h4.1 (by rw [he _ (by omega)]) (by rw [he _ (by omega)]), h4.2.cg (he _ (by omega)) (he _ (by omega))⟩
theorem LIV.up {n m : Nat} {v : vSt} {b : Nat} {A : Ar} (h : LIV n m v b A) (hl : TL v ≤ n) : LIV (n + 1) m v b A := ⟨h.1, h.2.1, h.2.2.1, h.2.2.2.1.up hl, h.2.2.2.2⟩
/-- the model's world behind a change that is recorded -/
def mSu (u w : vSt) (A' : Ar) : Prop :=
  (∀ q, q ≠ 461 → q ≠ 462 → q ≠ 463 → q ≠ 465 → w q = u q) ∧ w 462 = A' ∧ (w 461 3 = u 461 3 ∧ w 461 7 = u 461 7 ∧ w 461 8 = 0) ∧
  (u 461 5 = 4 → w 461 5 = 4 ∧ (∀ i, i < 3 → eqA (sl w i) (sl u (i + 1))) ∧ eqA (sl w 3) (u 462)) ∧
  (inn (u 461 5) 4 → w 461 5 = u 461 5 + 1 ∧ (∀ i, i < (u 461 5).toNatClampNeg → eqA (sl w i) (sl u i)) ∧ eqA (sl w (u 461 5).toNatClampNeg) (u 462))
/-- .. and behind one that is refused -/
def mFa (u w : vSt) (k : Int32) : Prop :=
  (∀ q, q ≠ 461 → q ≠ 463 → w q = u q) ∧ (w 461 3 = u 461 3 ∧ w 461 5 = u 461 5 ∧ w 461 7 = u 461 7 ∧ w 461 8 = k)
section T39
variable {u v : vSt} {x k : Int32} {A' : Ar}
theorem m_endsS (hc : inn (u 461 5) 5) (hx : rfc x = 0) : ∃ w, fX11_ends 461 x k (uA (fX11_begins 461 u) 462 A') = (x, w) ∧ mSu u w A' ∧ oX11_ends 461 x k (uA (fX11_begins 461 u) 462 A') := by
  obtain ⟨b1, b2, b3, b4, b5⟩ := m_begins (v := u)
  have n1 : ¬ x = -100001 := fun e => by rw [e] at hx; exact absurd hx (by decide)
  have n2 : ¬ x = -100002 := fun e => by rw [e] at hx; exact absurd hx (by decide)
  have e5 : uA (fX11_begins 461 u) 462 A' 461 5 = u 461 5 := by rw [uA_n (by decide), b2 _ (by decide)]
  obtain ⟨r1, r2, r3, r4, r5⟩ := m_records (v := uA (fX11_begins 461 u) 462 A') (by rw [e5]; exact hc)
  have s3 : uA (fX11_begins 461 u) 462 A' 463 = fX11_begins 461 u 463 := uA_n (by decide)
  have sE : ∀ i, sl (uA (fX11_begins 461 u) 462 A') i = sl u i := fun i => by
    unfold sl
    rw [uA_n (by decide), b1 _ (by decide) (by decide)]
  rw [e5, s3] at r4 r5
  refine ⟨fX11_records 461 (uA (fX11_begins 461 u) 462 A'), ?_, ⟨fun q h1 h2 h3 h4 => ?_, ?_, ⟨?_, ?_, ?_⟩, fun h4 => ?_, fun h4 => ?_⟩, fun _ _ => r3⟩
  · unfold fX11_ends
    rw [if_neg n1, if_neg n2]
  · rw [r1 q h1 h4, uA_n h2, b1 q h1 h3]
  · rw [r1 _ (by decide) (by decide), uA_s]
  · rw [r2 _ (by decide), uA_n (by decide), b2 _ (by decide)]
  · rw [r2 _ (by decide), uA_n (by decide), b2 _ (by decide)]
  · rw [r2 _ (by decide), uA_n (by decide), b3]
  · obtain ⟨a1, a2, a3⟩ := r4 h4
    exact ⟨a1, fun i hi => by have := a2 i hi; rw [sE] at this; exact this, a3.tr b4⟩
  · obtain ⟨a1, a2, a3⟩ := r5 h4
    exact ⟨a1, fun i hi => by have := a2 i hi; rw [sE] at this; exact this, a3.tr b4⟩
theorem m_endsF (hx : x = -100001 ∨ x = -100002) : ∃ w, fX11_ends 461 x k (fX11_begins 461 u) = (0, w) ∧ mFa u w (if x = -100001 then 1 else k) ∧ oX11_ends 461 x k (fX11_begins 461 u) := by
  obtain ⟨b1, b2, b3, b4, b5⟩ := m_begins (v := u)
  refine ⟨u2 (fX11_begins 461 u) 461 8 (if x = -100001 then 1 else k), ?_, ⟨fun q h1 h2 => by rw [u2_r h1, b1 q h1 h2], by rw [u2_q, if_neg (by decide), b2 _ (by decide)], by rw [u2_q, if_neg (by decide), b2 _ (by decide)], by rw [u2_q, if_neg (by decide), b2 _ (by decide)], by rw [u2_s]⟩, fun h1 h2 => ?_⟩
  · unfold fX11_ends
    rcases hx with e | e
    · rw [if_pos e]; rfl
    · rw [if_neg (by rw [e]; decide), if_pos e]; rfl
  · rcases hx with e | e
    · exact absurd e h1
    · exact absurd e h2
/-- a go of the model ends so or so -/
def EO (r : Int32 × Ar) (A : Ar) : Prop := ((r.1 = -100001 ∨ r.1 = -100002) ∧ r.2 = A) ∨ rfc r.1 = 0
end T39
