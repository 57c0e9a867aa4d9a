/-! THE PLAIN PART 17f: the class's run of the text. -/
section T46f
variable {T A A0 : Ar} {len b pos k n m : Nat} {a c p q y : Int32} {u v w W : vSt}
/-- what is read, in the class's order -/
theorem c_rF (hT : v 450 = T) (hb : b < len) (h60 : len ≤ 60) (hc : 32 ≤ (T b).toInt ∧ (T b).toInt ≤ 126) :
    oX3_readFrom 452 450 (Int32.ofNat len) (Int32.ofNat b) v ∧ (∀ q, q ≠ 452 → fX3_readFrom 452 450 (Int32.ofNat len) (Int32.ofNat b) v q = v q) ∧
    ((pE T len b).1 = true → fX3_readFrom 452 450 (Int32.ofNat len) (Int32.ofNat b) v 452 4 = -1 ∧ fX3_readFrom 452 450 (Int32.ofNat len) (Int32.ofNat b) v 452 3 = Int32.ofNat (pE T len b).2 ∧ fX3_readFrom 452 450 (Int32.ofNat len) (Int32.ofNat b) v 452 0 = Int32.ofNat (lk (T b)) ∧
      (lk (T b) ≤ 4 → fX3_readFrom 452 450 (Int32.ofNat len) (Int32.ofNat b) v 452 1 = (pN1 T len b).2) ∧ (lk (T b) ≤ 2 → fX3_readFrom 452 450 (Int32.ofNat len) (Int32.ofNat b) v 452 2 = (pN2 T len b).2)) ∧
    ((pE T len b).1 = false → fX3_readFrom 452 450 (Int32.ofNat len) (Int32.ofNat b) v 452 4 = Int32.ofNat ((pE T len b).2 - b)) := by
  unfold oX3_readFrom fX3_readFrom
  have fV : ∀ q, q ≠ 452 → u2 (u2 (u2 (u2 v 452 1 0) 452 2 0) 452 3 (Int32.ofNat b)) 452 4 (-1) q = v q := fun q hq => by rw [u2_r hq, u2_r hq, u2_r hq, u2_r hq]
  have e3 : u2 (u2 (u2 (u2 v 452 1 0) 452 2 0) 452 3 (Int32.ofNat b)) 452 4 (-1) 452 3 = Int32.ofNat b := by rw [u2_q, if_neg (by decide), u2_q, if_pos rfl]
  have e4 : u2 (u2 (u2 (u2 v 452 1 0) 452 2 0) 452 3 (Int32.ofNat b)) 452 4 (-1) 452 4 = -1 := by rw [u2_q, if_pos rfl]
  have eO : ∀ v1 : vSt, v1 = u2 v 452 1 0 → ∀ v2 : vSt, v2 = u2 v1 452 2 0 → ∀ v3 : vSt, v3 = u2 v2 452 3 (Int32.ofNat b) → ∀ v4 : vSt, v4 = u2 v3 452 4 (-1) → v4 = u2 (u2 (u2 (u2 v 452 1 0) 452 2 0) 452 3 (Int32.ofNat b)) 452 4 (-1) := fun v1 h1 v2 h2 v3 h3 v4 h4 => by rw [h4, h3, h2, h1]
  dsimp only
  generalize u2 (u2 (u2 (u2 v 452 1 0) 452 2 0) 452 3 (Int32.ofNat b)) 452 4 (-1) = V4 at *
  have eT : V4 450 = T := by rw [fV 450 (by decide)]; exact hT
  obtain ⟨r1, r2, r3, r4, r5, r6⟩ := c_rW (v := V4) (len := len) (b := b) ⟨fun _ _ => rfl, fun _ _ _ => rfl, e3⟩ hb h60 (by rw [eT]; exact hc)
  rw [eT] at r2 r4 r6
  have ho : ∀ v1 : vSt, v1 = u2 v 452 1 0 → ∀ v2 : vSt, v2 = u2 v1 452 2 0 → ∀ v3 : vSt, v3 = u2 v2 452 3 (Int32.ofNat b) → ∀ v4 : vSt, v4 = u2 v3 452 4 (-1) → oX3_readWhole 452 450 (Int32.ofNat len) v4 := fun v1 h1 v2 h2 v3 h3 v4 h4 => by rw [eO v1 h1 v2 h2 v3 h3 v4 h4]; exact r1
  refine ⟨ho, ?_⟩
  rw [r2]
  have n10 : ¬ (1 : Int32) = 0 := by decide
  have hle := pE_le (T := T) hb
  by_cases z : (pE T len b).1 = true
  · rw [if_pos z, if_neg n10]
    obtain ⟨g1, g2, g3, g4⟩ := r6 z
    exact ⟨fun q hq => by rw [r3 q hq, fV q hq], fun _ => ⟨by rw [r5, e4], r4, g2, g3, g4⟩, fun z2 => by rw [z] at z2; exact absurd z2 (by decide)⟩
  · rw [if_neg z, if_pos rfl]
    refine ⟨fun q hq => by rw [u2_r hq, r3 q hq, fV q hq], fun z2 => absurd z2 z, fun _ => ?_⟩
    rw [u2_q, if_pos rfl, r4]
    apply Int32.toInt_inj.mp
    rw [ti_sub (by rw [of_ti (by omega), of_ti (by omega)]; omega), of_ti (by omega), of_ti (by omega), of_ti (by omega)]
    omega
/-- only the trial's state, the trial and its order may change -/
def FT (b : Nat) (w W : vSt) : Prop := (∀ q, (q < b ∨ b + 64 ≤ q) → q ≠ 451 → q ≠ 452 → W q = w q) ∧ rN (w ((b + 2 + 4)) 4) ≤ rN (W ((b + 2 + 4)) 4) ∧ rN (w ((b + 2 + 5)) 4) ≤ rN (W ((b + 2 + 5)) 4) ∧ W 451 0 = w 451 0
theorem FT.rf : FT b w w := ⟨fun _ _ _ _ => rfl, Nat.le_refl _, Nat.le_refl _, rfl⟩
theorem FT.tr (h : FT b u v) (h' : FT b v w) : FT b u w := ⟨fun q a1 a2 a3 => (h'.1 q a1 a2 a3).trans (h.1 q a1 a2 a3), Nat.le_trans h.2.1 h'.2.1, Nat.le_trans h.2.2.1 h'.2.2.1, h'.2.2.2.trans h.2.2.2⟩
theorem FT.po (hb : b + 64 ≤ 448) (h : PO b u v) : FT b u v := ⟨fun q a1 _ _ => h.1 q a1, h.2.2.1, h.2.2.2, by rw [h.1 451 (by omega)]⟩
theorem FT.of (hb : b + 64 ≤ 448) (h : ∀ q, q ≠ 451 → q ≠ 452 → v q = u q) (h0 : v 451 0 = u 451 0) : FT b u v :=
  ⟨fun q _ a2 a3 => h q a2 a3, by rw [h _ (by omega) (by omega)]; exact Nat.le_refl _, by rw [h _ (by omega) (by omega)]; exact Nat.le_refl _, h0⟩
theorem ft_pot (hb : kd b = 7) (h : FT b u v) (hc : CP v b) : pot u ≤ pot v := by
  have hb7 := kd7 hb
  have hP : PO b u (uA (uA v 451 (u 451)) 452 (u 452)) := by
    have hr : ∀ q, q ≠ 451 → q ≠ 452 → uA (uA v 451 (u 451)) 452 (u 452) q = v q := fun q a1 a2 => by rw [uA_n a2, uA_n a1]
    refine ⟨fun q hq => ?_, hc.fr ⟨hr _ (by omega) (by omega), hr _ (by omega) (by omega)⟩, by rw [hr _ (by omega) (by omega)]; exact h.2.1, by rw [hr _ (by omega) (by omega)]; exact h.2.2.1⟩
    by_cases z1 : q = 452
    · rw [z1, uA_s]
    by_cases z2 : q = 451
    · rw [z2, uA_n (by decide), uA_s]
    · rw [hr q z2 z1]; exact h.1 q hq z2 z1
  have e : pot (uA (uA v 451 (u 451)) 452 (u 452)) = pot v := pot_cg (fun q hq => by
    rw [uA_n (fun e => by rw [e] at hq; exact absurd hq (by decide)), uA_n (fun e => by rw [e] at hq; exact absurd hq (by decide))])
  rw [← e]
  exact hP.mono hb
/-- the class's world at a position of the run -/
def CI (T : Ar) (b : Nat) (w : vSt) (A : Ar) (pos k : Nat) : Prop := rN (w 451 0) = b ∧ SR w b A ∧ CP w b ∧ w 450 = T ∧ w 451 2 = Int32.ofNat k ∧ w 451 3 = Int32.ofNat pos ∧ w 451 4 = 0 ∧ w 451 5 = 0
/-- one order -/
def stC (w : vSt) (len : Nat) : vSt := fX3_readFrom 452 450 (Int32.ofNat len) (w 451 3) w
theorem c_step (hb : kd b = 7) (h60 : len ≤ 60) (hT : ∀ i, i < len → 32 ≤ (T i).toInt ∧ (T i).toInt ≤ 126) (hq : RQ T len A0) (hI : CI T b w A pos k) (hR : RI T len A0 A pos) (hp : pos < len) (hk : k < 2 ^ 30) :
    oX3_readFrom 452 450 (Int32.ofNat len) (w 451 3) w ∧ pot (stC w len) = pot w ∧ rN (stC w len 451 0) = b ∧ (0 ≤ (stC w len (b + 1) 2).toInt ∧ (stC w len (b + 1) 2).toInt ≤ 6 ∧ 0 ≤ (stC w len (b + 1) 3).toInt ∧ (stC w len (b + 1) 3).toInt ≤ 10) ∧
    (((pE T len pos).1 = false ∧ ¬ stC w len 452 4 = -1 ∧ stC w len 452 4 = Int32.ofNat ((pE T len pos).2 - pos) ∧ FT b w (stC w len) ∧ SR (stC w len) b A ∧ CP (stC w len) b ∧ (∀ f, stC w len 451 f = w 451 f) ∧ stC w len 450 = T) ∨
     ((pE T len pos).1 = true ∧ stC w len 452 4 = -1 ∧ fX7_refusalOf b 452 (stC w len) = rfc (oAt T len A pos).1 ∧
      (rfc (oAt T len A pos).1 ≠ 0 → FT b w (stC w len) ∧ SR (stC w len) b A ∧ CP (stC w len) b ∧ (∀ f, stC w len 451 f = w 451 f) ∧ stC w len 450 = T) ∧
      (rfc (oAt T len A pos).1 = 0 → oX7_perform b 452 (stC w len) ∧ WF (oAt T len A pos).2 ∧ AC (oAt T len A pos).2 ∧ pot w ≤ pot (fX7_perform b 452 (stC w len)) ∧
        CI T b (u2 (u2 (fX7_perform b 452 (stC w len)) 451 2 (fX7_perform b 452 (stC w len) 451 2 + 1)) 451 3 (u2 (fX7_perform b 452 (stC w len)) 451 2 (fX7_perform b 452 (stC w len) 451 2 + 1) 452 3)) (oAt T len A pos).2 (pE T len pos).2 (k + 1) ∧
        FT b w (u2 (u2 (fX7_perform b 452 (stC w len)) 451 2 (fX7_perform b 452 (stC w len) 451 2 + 1)) 451 3 (u2 (fX7_perform b 452 (stC w len)) 451 2 (fX7_perform b 452 (stC w len) 451 2 + 1) 452 3))))) := by
  have hb7 := kd7 hb
  obtain ⟨i1, i2, i3, i4, i5, i6, i7, i8⟩ := hI
  have h207 := hR.qq hq
  obtain ⟨hR1, hW, hA, _⟩ := hR
  obtain ⟨r1, r2, r3, r4⟩ := c_rF (len := len) i4 hp h60 (hT pos hp)
  unfold stC
  rw [i6]
  generalize fX3_readFrom 452 450 (Int32.ofNat len) (Int32.ofNat pos) w = v20 at *
  have fF : FT b w v20 := FT.of (by omega) (fun q _ a2 => r2 q a2) (by rw [r2 451 (by decide)])
  have sS : SR v20 b A := i2.fr hb (fun q a1 a2 => r2 q (by omega)) ⟨hW.1.1, hW.1.2.1, hW.1.2.2.1⟩
  have sC : CP v20 b := i3.fr ⟨r2 _ (by omega), r2 _ (by omega)⟩
  have s451 : ∀ f, v20 451 f = w 451 f := fun f => by rw [r2 451 (by decide)]
  have s450 : v20 450 = T := by rw [r2 450 (by decide)]; exact i4
  have hpot : pot v20 = pot w := pot_cg (fun q hq => by rw [r2 q (fun e => by rw [e] at hq; exact absurd hq (by decide))])
  have hw := hW.1
  have hhd : 0 ≤ (v20 (b + 1) 2).toInt ∧ (v20 (b + 1) 2).toInt ≤ 6 ∧ 0 ≤ (v20 (b + 1) 3).toInt ∧ (v20 (b + 1) 3).toInt ≤ 10 := by
    rw [sS.1.1, sS.1.2.1]
    exact ⟨hw.1.1, by have := hw.1.2; omega, hw.2.1.1, by have := hw.2.1.2; omega⟩
  refine ⟨r1, hpot, by rw [s451]; exact i1, hhd, ?_⟩
  have hle := pE_le (T := T) hp
  by_cases z : (pE T len pos).1 = true
  · right
    obtain ⟨g1, g2, g3, g4, g5⟩ := r3 z
    obtain ⟨o1, o2, o3, o4, o5⟩ := pOk hp z
    have ee : exO A (lk (T pos)) (v20 452 1) (v20 452 2) = oAt T len A pos := ex_cg g4 g5
    have hr := c_ref sS hW sC g3 o1
    rw [ee] at hr
    refine ⟨z, g1, hr, fun _ => ⟨fF, sS, sC, s451, s450⟩, fun hx => ?_⟩
    obtain ⟨p1, p2, p3, p4, p5⟩ := c_perf hb sS hW hA sC h207 g3 o1 (by rw [ee]; exact hx)
    rw [ee] at p1 p3 p4
    have q451 : fX7_perform b 452 v20 451 = v20 451 := p2.1 451 (by omega)
    have q450 : fX7_perform b 452 v20 450 = v20 450 := p2.1 450 (by omega)
    have q452 : fX7_perform b 452 v20 452 = v20 452 := p2.1 452 (by omega)
    have hF : FT b w (fX7_perform b 452 v20) := fF.tr (FT.po (by omega) p2)
    have hm := p2.mono hb
    generalize fX7_perform b 452 v20 = v28 at *
    have e2 : v28 451 2 + 1 = Int32.ofNat (k + 1) := by rw [q451, s451, i5]; exact of_S (by omega)
    have e3 : u2 v28 451 2 (v28 451 2 + 1) 452 3 = Int32.ofNat (pE T len pos).2 := by rw [u2_r (by decide), q452]; exact g2
    rw [e3, e2]
    have hr2 : ∀ q, q ≠ 451 → u2 (u2 v28 451 2 (Int32.ofNat (k + 1))) 451 3 (Int32.ofNat (pE T len pos).2) q = v28 q := fun q h => by rw [u2_r h, u2_r h]
    refine ⟨p5, p3, p4, by rw [← hpot]; exact hm, ⟨?_, p1.fr hb (fun q a1 a2 => hr2 q (by omega)) ⟨p3.1.1, p3.1.2.1, p3.1.2.2.1⟩, p2.2.1.fr ⟨hr2 _ (by omega), hr2 _ (by omega)⟩, ?_, ?_, ?_, ?_, ?_⟩, ?_⟩
    · rw [u2_q, if_neg (by decide), u2_q, if_neg (by decide), q451, s451]; exact i1
    · rw [hr2 450 (by decide), q450]; exact s450
    · rw [u2_q, if_neg (by decide), u2_q, if_pos rfl]
    · rw [u2_q, if_pos rfl]
    · rw [u2_q, if_neg (by decide), u2_q, if_neg (by decide), q451, s451]; exact i7
    · rw [u2_q, if_neg (by decide), u2_q, if_neg (by decide), q451, s451]; exact i8
    · exact hF.tr (FT.of (by omega) (fun q a1 _ => hr2 q a1) (by rw [u2_q, if_neg (by decide), u2_q, if_neg (by decide)]))
  · left
    have z := Bool.eq_false_iff.mpr z
    have e4 := r4 z
    refine ⟨z, fun e => ?_, e4, fF, sS, sC, s451, s450⟩
    rw [e4] at e
    have := congrArg Int32.toInt e
    rw [of_ti (by omega), show Int32.toInt (-1) = -1 from rfl] at this
    omega
end T46f
