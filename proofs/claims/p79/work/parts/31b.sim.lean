/-! THE PLAIN PART 2b: what must hold of an array; how the relation goes over. -/
def PV (A : Ar) (p : Int32) : Prop := ∃ t d x : Int32, p = fX11_piece t d x ∧ inn t ((A 205).toNatClampNeg) ∧ -14000 ≤ d.toInt ∧ d.toInt ≤ 200 ∧ inn x 2 ∧ 1 ≤ (A ((78 + 21 * t.toNatClampNeg + 0))).toInt + d.toInt
def WFc (A : Ar) : Prop := inn (A 203) 7 ∧ inn (A 204) 11 ∧ inn (A 205) 6 ∧ inn (A 206) 21 ∧ inn (A 207) 3201 ∧ inn (A 210) 1000
def WFt (A : Ar) : Prop := (∀ t, t < (A 203).toNatClampNeg → inn (A (8 * t)) 5 ∧ -15000 ≤ (A (8 * t + 3)).toInt ∧ (A (8 * t + 3)).toInt ≤ 16000) ∧ ∀ j, 8 * (A 203).toNatClampNeg ≤ j → j < 48 → A j = 0
def WFb (A : Ar) : Prop := (∀ i, i < (A 204).toNatClampNeg → 1 ≤ (A (48 + 3 * i)).toInt ∧ (A (48 + 3 * i)).toInt ≤ 5000) ∧ ∀ j, 48 + 3 * (A 204).toNatClampNeg ≤ j → j < 78 → A j = 0
def WY (A : Ar) (k : Nat) : Prop :=
  (100 ≤ (A ((78 + 21 * k + 0))).toInt ∧ (A ((78 + 21 * k + 0))).toInt ≤ 14000) ∧ (-99 ≤ (A ((78 + 21 * k + 1))).toInt ∧ (A ((78 + 21 * k + 1))).toInt ≤ 0) ∧ inn (A ((78 + 21 * k + 2))) 100 ∧ inn (A ((78 + 21 * k + 3))) 3 ∧ inn (A ((78 + 21 * k + 4))) 3 ∧ inn (A ((78 + 21 * k + 5))) 11 ∧ (0 ≤ (A ((78 + 21 * k + 6))).toInt ∧ (A ((78 + 21 * k + 6))).toInt < 2 ^ (A ((78 + 21 * k + 5))).toNatClampNeg) ∧ inn (A ((78 + 21 * k + 7))) 2 ∧ inn (A ((78 + 21 * k + 8))) 13 ∧ ∀ i, i < 12 → -50000 ≤ (A ((78 + 21 * k + (9 + i)))).toInt ∧ (A ((78 + 21 * k + (9 + i)))).toInt ≤ 50000
def WFy (A : Ar) : Prop := (∀ k, k < (A 205).toNatClampNeg → WY A k) ∧ ∀ j, 78 + 21 * (A 205).toNatClampNeg ≤ j → j < 183 → A j = 0
def WFw (A : Ar) : Prop := ∀ i, i < (A 206).toNatClampNeg → PV A (A (183 + i))
def WFq (A : Ar) : Prop := ∀ i, i < (A 207).toNatClampNeg → PV A (A (217 + i))
def WFa (A : Ar) : Prop := A 211 = A 206 + A 207 + A 212 + A 213 + A 214
def WF (A : Ar) : Prop := WFc A ∧ WFt A ∧ WFb A ∧ WFy A ∧ WFw A ∧ WFq A
section CG
variable {v v' : vSt} {b : Nat} {A A' : Ar}
theorem SRt.cg (h : SRt v b A) (hn : inn (A 203) 7) (h3 : A' 203 = A 203) (hv : ∀ t, t < 6 → v' (((b + 1 + 2) + 13 + t)) = v (((b + 1 + 2) + 13 + t))) (hA : ∀ j, j < 48 → A' j = A j) : SRt v' b A' := by
  intro t ht
  have ht : t < (A 203).toNatClampNeg := by rw [← h3]; exact ht
  have := inn_lt hn
  rw [hv t (by omega)]
  obtain ⟨a0, a1, a2, a3, a4, a5, a6, a7, a8⟩ := h t ht
  exact ⟨a0.trans (hA _ (by omega)).symm, by rw [hA _ (by omega)]; exact a1, a2.trans (hA _ (by omega)).symm, a3.trans (hA _ (by omega)).symm, a4.trans (hA _ (by omega)).symm, a5.trans (hA _ (by omega)).symm, a6.trans (hA _ (by omega)).symm, a7.trans (hA _ (by omega)).symm, a8.trans (hA _ (by omega)).symm⟩
theorem SRb.cg (h : SRb v b A) (hn : inn (A 204) 11) (h3 : A' 204 = A 204) (hv : ∀ t, t < 10 → v' (((b + 1 + 3) + 20 + t)) = v (((b + 1 + 3) + 20 + t))) (hA : ∀ j, 48 ≤ j → j < 78 → A' j = A j) : SRb v' b A' := by
  intro t ht
  have ht : t < (A 204).toNatClampNeg := by rw [← h3]; exact ht
  have := inn_lt hn
  rw [hv t (by omega)]
  obtain ⟨a0, a1, a2⟩ := h t ht
  exact ⟨a0.trans (hA _ (by omega) (by omega)).symm, a1.trans (hA _ (by omega) (by omega)).symm, a2.trans (hA _ (by omega) (by omega)).symm⟩
theorem yR.cg {R B C R' B' C' : Ar} {k : Nat} (h : yR R B C A k) (hR : R' = R) (hB : B' = B) (hC : C' = C) (h8 : inn (A ((78 + 21 * k + 8))) 13) (hA : ∀ j, j < 21 → A' ((78 + 21 * k + j)) = A ((78 + 21 * k + j))) : yR R' B' C' A' k := by
  subst hR hB hC
  obtain ⟨⟨a0, a1, a2, a3, a4, a5, a6, a7⟩, h2, h3⟩ := h
  have := inn_lt h8
  unfold yR
  rw [hA 0 (by omega), hA 1 (by omega), hA 2 (by omega), hA 3 (by omega), hA 4 (by omega), hA 5 (by omega), hA 6 (by omega), hA 7 (by omega), hA 8 (by omega)]
  exact ⟨⟨a0, a1, a2, a3, a4, a5, a6, a7⟩, h2, fun i hi => by rw [hA _ (by omega)]; exact h3 i hi⟩
theorem SRy.cg (h : SRy v b A) (hn : inn (A 205) 6) (hw : WFy A) (h3 : A' 205 = A 205) (hv : ∀ t, t < 5 → v' (((b + 2 + 3) + 31 + t)) = v (((b + 2 + 3) + 31 + t)) ∧ v' (((b + 2 + 3) + 31 + t) + 5) = v (((b + 2 + 3) + 31 + t) + 5) ∧ v' (((b + 2 + 3) + 31 + t) + 10) = v (((b + 2 + 3) + 31 + t) + 10)) (hA : ∀ j, 78 ≤ j → j < 183 → A' j = A j) : SRy v' b A' := by
  intro t ht
  have ht : t < (A 205).toNatClampNeg := by rw [← h3]; exact ht
  have := inn_lt hn
  obtain ⟨e1, e2, e3⟩ := hv t (by omega)
  exact (h t ht).cg e1 e2 e3 (hw.1 t ht).2.2.2.2.2.2.2.2.1 (fun j hj => hA _ (by omega) (by omega))
theorem SRd.cg (h : SRd v b A) (hv : v' (b + 1) = v (b + 1)) (hA : A' 203 = A 203 ∧ A' 204 = A 204 ∧ A' 208 = A 208 ∧ A' 210 = A 210) : SRd v' b A' := by
  unfold SRd
  rw [hv, hA.1, hA.2.1, hA.2.2.1, hA.2.2.2]
  exact h
theorem SRe.cg (h : SRe v b A) (hv : v' (b + 2) = v (b + 2)) (hA : A' 205 = A 205 ∧ A' 209 = A 209 ∧ ∀ j, 211 ≤ j → j < 217 → A' j = A j) : SRe v' b A' := by
  unfold SRe
  rw [hv, hA.1, hA.2.1, hA.2.2 211 (by omega) (by omega), hA.2.2 212 (by omega) (by omega), hA.2.2 213 (by omega) (by omega), hA.2.2 214 (by omega) (by omega), hA.2.2 215 (by omega) (by omega), hA.2.2 216 (by omega) (by omega)]
  exact h
theorem pR.cg {T D X : Ar} {s n : Nat} (h : pR T D X A s n) (hA : ∀ i, i < n → A' (s + i) = A (s + i)) : pR T D X A' s n := by
  intro i hi
  rw [hA i hi]
  exact h i hi
theorem SRw.cg (h : SRw v b A) (hn : inn (A 206) 21) (hv : v' ((b + 2 + 4)) = v ((b + 2 + 4)) ∧ v' (chP ((b + 2 + 4))) = v (chP ((b + 2 + 4))) ∧ v' (chP ((b + 2 + 4)) + 1) = v (chP ((b + 2 + 4)) + 1) ∧ v' (chP ((b + 2 + 4)) + 2) = v (chP ((b + 2 + 4)) + 2)) (hA : A' 206 = A 206 ∧ ∀ j, 183 ≤ j → j < 203 → A' j = A j) : SRw v' b A' := by
  unfold SRw
  rw [hv.1, hv.2.1, hv.2.2.1, hv.2.2.2, hA.1]
  have := inn_lt hn
  exact ⟨h.1, h.2.cg (fun i hi => hA.2 _ (by omega) (by omega))⟩
theorem SRf.cg (h : SRf v b A) (hn : inn (A 207) 3201) (hv : v' ((b + 2 + 5)) = v ((b + 2 + 5)) ∧ v' (chP ((b + 2 + 5))) = v (chP ((b + 2 + 5))) ∧ v' (chP ((b + 2 + 5)) + 1) = v (chP ((b + 2 + 5)) + 1) ∧ v' (chP ((b + 2 + 5)) + 2) = v (chP ((b + 2 + 5)) + 2)) (hA : A' 207 = A 207 ∧ ∀ j, 217 ≤ j → j < 3417 → A' j = A j) : SRf v' b A' := by
  unfold SRf
  rw [hv.1, hv.2.1, hv.2.2.1, hv.2.2.2, hA.1]
  have := inn_lt hn
  exact ⟨h.1, h.2.cg (fun i hi => hA.2 _ (by omega) (by omega))⟩
/-- a change of the array and the block but for some roles and cells -/
theorem SR.cgW (hb : kd b = 7) (h : SRw v b A) (hn : inn (A 206) 21) (hv : ∀ q, q = b + 6 ∨ (b + 8 ≤ q ∧ q < b + 11) → v' q = v q) (hA : A' 206 = A 206 ∧ ∀ j, 183 ≤ j → j < 203 → A' j = A j) : SRw v' b A' :=
  h.cg hn ⟨hv _ (by omega), hv _ (by rw [chW hb]; omega), hv _ (by rw [chW hb]; omega), hv _ (by rw [chW hb]; omega)⟩ hA
theorem SR.cgF (hb : kd b = 7) (h : SRf v b A) (hn : inn (A 207) 3201) (hv : ∀ q, q = b + 7 ∨ (b + 11 ≤ q ∧ q < b + 14) → v' q = v q) (hA : A' 207 = A 207 ∧ ∀ j, 217 ≤ j → j < 3417 → A' j = A j) : SRf v' b A' :=
  h.cg hn ⟨hv _ (by omega), hv _ (by rw [chF hb]; omega), hv _ (by rw [chF hb]; omega), hv _ (by rw [chF hb]; omega)⟩ hA
theorem SR.setT {t : Nat} (hb : kd b = 7) (h : SR v b A) (hw : WF A) (ht : t < 6) (hv : ∀ q, q ≠ ((b + 1 + 2) + 13 + t) → v' q = v q) (hA : ∀ j, (j < 8 * t ∨ 8 * t + 8 ≤ j) → A' j = A j) (hT : tR (v' (((b + 1 + 2) + 13 + t))) A' t) : SR v' b A' := by
  obtain ⟨h1, h2, h3, h4, h5, h6, h7⟩ := h
  obtain ⟨⟨c1, c2, c3, c4, c5, c6⟩, w2, w3, w4, w5, w6⟩ := hw
  refine ⟨h1.cg (hv _ (by omega)) ⟨hA _ (by omega), hA _ (by omega), hA _ (by omega), hA _ (by omega)⟩, h2.cg (hv _ (by omega)) ⟨hA _ (by omega), hA _ (by omega), fun j _ _ => hA _ (by omega)⟩, ?_, h4.cg c2 (hA _ (by omega)) (fun i _ => hv _ (by omega)) (fun j _ _ => hA _ (by omega)), h5.cg c3 w4 (hA _ (by omega)) (fun i _ => ⟨hv _ (by omega), hv _ (by omega), hv _ (by omega)⟩) (fun j _ _ => hA _ (by omega)), SR.cgW hb h6 c4 (fun q hq => hv _ (by omega)) ⟨hA _ (by omega), fun j _ _ => hA _ (by omega)⟩, SR.cgF hb h7 c5 (fun q hq => hv _ (by omega)) ⟨hA _ (by omega), fun j _ _ => hA _ (by omega)⟩⟩
  intro u hu
  have hu : u < (A 203).toNatClampNeg := by rw [← hA 203 (by omega)]; exact hu
  by_cases e : u = t
  · subst e; exact hT
  · rw [hv _ (by omega)]
    obtain ⟨a0, a1, a2, a3, a4, a5, a6, a7, a8⟩ := h3 u hu
    exact ⟨a0.trans (hA _ (by omega)).symm, by rw [hA _ (by omega)]; exact a1, a2.trans (hA _ (by omega)).symm, a3.trans (hA _ (by omega)).symm, a4.trans (hA _ (by omega)).symm, a5.trans (hA _ (by omega)).symm, a6.trans (hA _ (by omega)).symm, a7.trans (hA _ (by omega)).symm, a8.trans (hA _ (by omega)).symm⟩
theorem SR.setB {t : Nat} (hb : kd b = 7) (h : SR v b A) (hw : WF A) (ht : t < 10) (hv : ∀ q, q ≠ ((b + 1 + 3) + 20 + t) → v' q = v q) (hA : ∀ j, (j < 48 + 3 * t ∨ 48 + 3 * t + 3 ≤ j) → A' j = A j) (hT : bR (v' (((b + 1 + 3) + 20 + t))) A' t) : SR v' b A' := by
  obtain ⟨h1, h2, h3, h4, h5, h6, h7⟩ := h
  obtain ⟨⟨c1, c2, c3, c4, c5, c6⟩, w2, w3, w4, w5, w6⟩ := hw
  refine ⟨h1.cg (hv _ (by omega)) ⟨hA _ (by omega), hA _ (by omega), hA _ (by omega), hA _ (by omega)⟩, h2.cg (hv _ (by omega)) ⟨hA _ (by omega), hA _ (by omega), fun j _ _ => hA _ (by omega)⟩, h3.cg c1 (hA _ (by omega)) (fun i _ => hv _ (by omega)) (fun j _ => hA _ (by omega)), ?_, h5.cg c3 w4 (hA _ (by omega)) (fun i _ => ⟨hv _ (by omega), hv _ (by omega), hv _ (by omega)⟩) (fun j _ _ => hA _ (by omega)), SR.cgW hb h6 c4 (fun q hq => hv _ (by omega)) ⟨hA _ (by omega), fun j _ _ => hA _ (by omega)⟩, SR.cgF hb h7 c5 (fun q hq => hv _ (by omega)) ⟨hA _ (by omega), fun j _ _ => hA _ (by omega)⟩⟩
  intro u hu
  have hu : u < (A 204).toNatClampNeg := by rw [← hA 204 (by omega)]; exact hu
  by_cases e : u = t
  · subst e; exact hT
  · rw [hv _ (by omega)]
    obtain ⟨a0, a1, a2⟩ := h4 u hu
    exact ⟨a0.trans (hA _ (by omega)).symm, a1.trans (hA _ (by omega)).symm, a2.trans (hA _ (by omega)).symm⟩
theorem SR.setY {t : Nat} (hb : kd b = 7) (h : SR v b A) (hw : WF A) (ht : t < 5) (hv : ∀ q, q ≠ ((b + 2 + 3) + 31 + t) → q ≠ ((b + 2 + 3) + 31 + t) + 5 → q ≠ ((b + 2 + 3) + 31 + t) + 10 → v' q = v q) (hA : ∀ j, (j < (78 + 21 * t + 0) ∨ (78 + 21 * t + 21) ≤ j) → A' j = A j) (hT : yR (v' (((b + 2 + 3) + 31 + t))) (v' (((b + 2 + 3) + 31 + t) + 5)) (v' (((b + 2 + 3) + 31 + t) + 10)) A' t) : SR v' b A' := by
  obtain ⟨h1, h2, h3, h4, h5, h6, h7⟩ := h
  obtain ⟨⟨c1, c2, c3, c4, c5, c6⟩, w2, w3, w4, w5, w6⟩ := hw

  refine ⟨h1.cg (hv _ (by omega) (by omega) (by omega)) ⟨hA _ (by omega), hA _ (by omega), hA _ (by omega), hA _ (by omega)⟩, h2.cg (hv _ (by omega) (by omega) (by omega)) ⟨hA _ (by omega), hA _ (by omega), fun j _ _ => hA _ (by omega)⟩, h3.cg c1 (hA _ (by omega)) (fun i _ => hv _ (by omega) (by omega) (by omega)) (fun j _ => hA _ (by omega)), h4.cg c2 (hA _ (by omega)) (fun i _ => hv _ (by omega) (by omega) (by omega)) (fun j _ _ => hA _ (by omega)), ?_, SR.cgW hb h6 c4 (fun q hq => hv _ (by omega) (by omega) (by omega)) ⟨hA _ (by omega), fun j _ _ => hA _ (by omega)⟩, SR.cgF hb h7 c5 (fun q hq => hv _ (by omega) (by omega) (by omega)) ⟨hA _ (by omega), fun j _ _ => hA _ (by omega)⟩⟩
  intro u hu
  have hu : u < (A 205).toNatClampNeg := by rw [← hA 205 (by omega)]; exact hu
  have := inn_lt c3
  by_cases e : u = t
  · subst e; exact hT
  · exact (h5 u hu).cg (hv _ (by omega) (by omega) (by omega)) (hv _ (by omega) (by omega) (by omega)) (hv _ (by omega) (by omega) (by omega)) (w4.1 u hu).2.2.2.2.2.2.2.2.1 (fun j hj => hA _ (by omega))
/-- what the bench, the accounts and the header have is another; the tools, blocks and types are the same -/
theorem SR.setE (hb : kd b = 7) (h : SR v b A) (hw : WF A) (hd : SRd v' b A') (he : SRe v' b A') (hW : SRw v' b A') (hF : SRf v' b A') (hv : ∀ q, b + 16 ≤ q → q < b + 51 → v' q = v q) (h3 : A' 203 = A 203 ∧ A' 204 = A 204 ∧ A' 205 = A 205) (hA : ∀ j, j < 183 → A' j = A j) : SR v' b A' := by
  obtain ⟨h1, h2, h3', h4, h5, h6, h7⟩ := h
  obtain ⟨⟨c1, c2, c3, c4, c5, c6⟩, w2, w3, w4, w5, w6⟩ := hw
  exact ⟨hd, he, h3'.cg c1 h3.1 (fun i _ => hv _ (by omega) (by omega)) (fun j _ => hA _ (by omega)), h4.cg c2 h3.2.1 (fun i _ => hv _ (by omega) (by omega)) (fun j _ _ => hA _ (by omega)), h5.cg c3 w4 h3.2.2 (fun i _ => ⟨hv _ (by omega) (by omega), hv _ (by omega) (by omega), hv _ (by omega) (by omega)⟩) (fun j _ _ => hA _ (by omega)), hW, hF⟩
end CG
