/-! Arrays.copyOf, and new arrays put into queues. -/
def cpF (g : Nat → Int32) (n0 : Nat) (n : Int32) : Nat → Int32 := va_cpy g (fun _ => 0) (0 : Int32).toNatClampNeg (0 : Int32).toNatClampNeg ((if n < Int32.ofNat n0 then n else Int32.ofNat n0) : Int32).toNatClampNeg
abbrev rmJ7_copyOf_59c91 (p1 : Int32) : Room := { frames := 1, cells := rN p1 + 1, slots := rN p1 + 1, locals := 60 }
theorem dJ7_copyOf_0 : decode cJ7_copyOf_59c91 0 = .ok (.iload_n 1, 1) := by decide +kernel
theorem dJ7_copyOf_1 : decode cJ7_copyOf_59c91 1 = .ok (.aload_n 0, 1) := by decide +kernel
theorem dJ7_copyOf_2 : decode cJ7_copyOf_59c91 2 = .ok (.arraylength, 1) := by decide +kernel
theorem dJ7_copyOf_3 : decode cJ7_copyOf_59c91 3 = .ok (.if_icmp .ne 11, 3) := by decide +kernel
theorem dJ7_copyOf_14 : decode cJ7_copyOf_59c91 14 = .ok (.iload_n 1, 1) := by decide +kernel
theorem dJ7_copyOf_15 : decode cJ7_copyOf_59c91 15 = .ok (.newarray .int, 2) := by decide +kernel
theorem dJ7_copyOf_17 : decode cJ7_copyOf_59c91 17 = .ok (.astore_n 2, 1) := by decide +kernel
theorem dJ7_copyOf_18 : decode cJ7_copyOf_59c91 18 = .ok (.aload_n 0, 1) := by decide +kernel
theorem dJ7_copyOf_19 : decode cJ7_copyOf_59c91 19 = .ok (.iconst 0, 1) := by decide +kernel
theorem dJ7_copyOf_20 : decode cJ7_copyOf_59c91 20 = .ok (.aload_n 2, 1) := by decide +kernel
theorem dJ7_copyOf_21 : decode cJ7_copyOf_59c91 21 = .ok (.iconst 0, 1) := by decide +kernel
theorem dJ7_copyOf_22 : decode cJ7_copyOf_59c91 22 = .ok (.aload_n 0, 1) := by decide +kernel
theorem dJ7_copyOf_23 : decode cJ7_copyOf_59c91 23 = .ok (.arraylength, 1) := by decide +kernel
theorem dJ7_copyOf_24 : decode cJ7_copyOf_59c91 24 = .ok (.iload_n 1, 1) := by decide +kernel
theorem dJ7_copyOf_25 : decode cJ7_copyOf_59c91 25 = .ok (.invokestatic 304, 3) := by decide +kernel
theorem dJ7_copyOf_28 : decode cJ7_copyOf_59c91 28 = .ok (.invokestatic 150, 3) := by decide +kernel
theorem dJ7_copyOf_31 : decode cJ7_copyOf_59c91 31 = .ok (.aload_n 2, 1) := by decide +kernel
theorem dJ7_copyOf_32 : decode cJ7_copyOf_59c91 32 = .ok (.areturn, 1) := by decide +kernel
abbrev CO (l : Launch) (rm : Room) (avs : List Value) (G : gG) (da : Nat → Nat) (v : vSt) (x : gX) (k N : Nat) (f : Nat → Int32) : Prop :=
  Met l yJ7_copyOf_59c91 (wc yJ7_copyOf_59c91 cJ7_copyOf_59c91 3 (some (.array .int))) rm (va_Pc avs (pW G da v x)) (va_Qr (fun _ : Unit => True) (fun _ a t => Hq G da v x a N f t.heap) (gA G)) k k (gA G)
theorem i_nn0 {p1 : Int32} (h : 0 ≤ p1.toInt) : ¬ p1 < 0 := fun q => by
  have := Int32.lt_iff_toInt_lt.mp q
  rw [show (0 : Int32).toInt = 0 from rfl] at this
  omega
set_option maxHeartbeats 8000000 in
set_option maxRecDepth 100000 in
theorem mJ7_copyOf_59c91 (l : Launch) (G : gG) (da : Nat → Nat) (v : vSt) (x : gX) {r n0 a0 : Nat} (h0 : AL G da v x r n0 a0) (hn31 : n0 < 2 ^ 31) (p1 : Int32) (h1 : ¬ p1 = Int32.ofNat n0) (h2 : 0 ≤ p1.toInt ∧ p1.toInt ≤ 100000) :
    CO l (rmJ7_copyOf_59c91 p1) [.ref a0, .int p1] G da v x (rN p1 + 1) (rN p1) (cpF (v r) n0 p1) := by
  refine gofW (own := RJ7) (by decide) rfl (Nat.le_of_ble_eq_true rfl) (fun p e s m below meth c ls X hr hlk hH hl => ?_)
  have hx := X.1
  have hb := X.2.1
  have hts := X.2.2.2.2.1
  have hS : va_S (gA G) s.heap s.heap [] := va_S.rf
  have hl : lv_has ls 3 [(0, .ref a0), (1, .int p1)] := hl
  refine lv_iload_n hx hb dJ7_copyOf_0 rfl (lv_at hl 1 rfl) ?_
  refine lv_aload_n hx hb dJ7_copyOf_1 rfl (lv_at hl 0 rfl) ?_
  refine r_len X hH (t0 := 0) h0.1 h0.2.2.2.1 rfl rfl dJ7_copyOf_2 h0.2.2.1.symm ?_
  refine lv_icmp_ne (tgt := 14) hx hb dJ7_copyOf_3 (by decide) (fun _ => ?_) (fun c1 => ?_)
  · refine lv_iload_n hx hb dJ7_copyOf_14 rfl (lv_at hl 1 rfl) ?_
    have hN : (rN p1 : Int) = p1.toInt := i_rN h2.1
    refine va_newa (atype := .int) hx hb (hts _ t_ac_int) (ty := .int) rfl X.2.2.2.2.2.1.1 hH.1 hH.2 hS (fun q hq => Nat.le_trans X.2.2.2.2.2.2 hq) (n := p1) (N' := rN p1) (a0 := (rN p1, .inl (fun _ => 0))) (fun _ => rfl) (i_nn0 h2.1) rfl (by show rN p1 * 4 ≤ 536870912; omega) (by show 0 + 1 ≤ rN p1 + 1; omega) (by show 0 + rN p1 ≤ rN p1 + 1; omega) dJ7_copyOf_15 (fun q cA H1 hK hP hD hS => ?_)
    have hcA : cA = gc G 0 := by
      have e1 := (hK.2 (tysL G).length (cA, .int) (by rw [List.getElem?_append_right (Nat.le_refl _), Nat.sub_self]; rfl)).2
      have e2 := (hK.2 0 (gc G 0, .int) rfl).2
      exact Option.some.inj (e1.symm.trans e2)
    subst hcA
    have hQ : Hq G da v x q (rN p1) (fun _ => 0) H1 := Hq.of hP hD
    refine lv_astore_n (lv' := [(2, .ref q), (0, .ref a0), (1, .int p1)]) hx hb dJ7_copyOf_17 rfl hl (by decide) rfl (fun ls hl => ?_)
    refine lv_aload_n hx hb dJ7_copyOf_18 rfl (lv_at hl 1 rfl) ?_
    refine lv_iconst (v := 0) hx hb dJ7_copyOf_19 (by decide) ?_
    refine lv_aload_n hx hb dJ7_copyOf_20 rfl (lv_at hl 0 rfl) ?_
    refine lv_iconst (v := 0) hx hb dJ7_copyOf_21 (by decide) ?_
    refine lv_aload_n hx hb dJ7_copyOf_22 rfl (lv_at hl 1 rfl) ?_
    refine r_len X hQ.hp (t0 := 0) h0.1 h0.2.2.2.1 rfl rfl dJ7_copyOf_23 h0.2.2.1.symm ?_
    refine lv_iload_n hx hb dJ7_copyOf_24 rfl (lv_at hl 2 rfl) ?_
    refine k_mmin X t_ml_ju_Arrays_304 hl.1 ⟨Nat.le_of_ble_eq_true rfl, Nat.le_of_ble_eq_true rfl⟩ ⟨by show 0 + 1 ≤ rN p1 + 1; omega, by show 0 + rN p1 ≤ rN p1 + 1; omega⟩ dJ7_copyOf_25 ?_
    have hofn : (Int32.ofNat n0).toInt = (n0 : Int) := nI_toInt hn31
    refine q_cpy X hQ hS h0 t_ml_ju_Arrays_150 hl.1 (sp := 0) (dp := 0) (n := if p1 < Int32.ofNat n0 then p1 else Int32.ofNat n0) ?_ ⟨Nat.le_of_ble_eq_true rfl, Nat.le_of_ble_eq_true rfl⟩ dJ7_copyOf_28 (fun H locs f1 ef hQ hS => ?_)
    · have hz : (0 : Int32).toInt = 0 := rfl
      unfold cpOK
      rw [hz]
      by_cases hc : p1 < Int32.ofNat n0
      · have hc2 := Int32.lt_iff_toInt_lt.mp hc
        simp only [hc, if_true]
        omega
      · have hc2 : ¬ p1.toInt < (Int32.ofNat n0).toInt := fun z => hc (Int32.lt_iff_toInt_lt.mpr z)
        simp only [hc, if_false]
        omega
    refine lv_aload_n hx hb dJ7_copyOf_31 rfl (lv_at hl 0 rfl) ?_
    refine W.widen (k := rN p1 + 1) (n := rN p1 + 1) (by omega) (by omega) ?_
    refine W.aret hx hb hr (Or.inr ⟨_, rfl⟩) (Or.inr ⟨_, rfl⟩) (fun t ht _ => ⟨⟨(), q, rfl, trivial, ?_⟩, hS.F ht⟩) hS.2.2 dJ7_copyOf_32 hlk
    show Hq G da v x q (rN p1) (cpF (v r) n0 p1) t.heap
    rw [ht]
    unfold cpF
    rw [ef] at hQ
    exact hQ
  · exact absurd c1 (by first | exact h1 | exact fun z => h1 z.symm | exact fun z => z h1)
section K14
variable {p : Program} {l : Launch} {e : Env} {R : Room} {s : State} {m : MethodId} {args : Array Value} {below : List Frame} {meth : Method} {c : Code} {H : Heap} {locs : List Loc} {cells slots : Nat} {Q : State → Prop}
variable {cc : ByteArray} {pc nL : Nat} {ls : Array Slot} {rest : List Value} {G : gG} {own : String} {da : Nat → Nat} {v : vSt} {x : gX}
theorem k_J7_copyOf (X : CX G p s m args c cc nL own) (hS : va_S (gA G) s.heap H locs) (hH : Hp G da v x H) {r n0 a0 : Nat} (h0 : AL G da v x r n0 a0) (hn31 : n0 < 2 ^ 31) {p1 : Int32} (h1 : ¬ p1 = Int32.ofNat n0) (h2 : 0 ≤ p1.toInt ∧ p1.toInt ≤ 100000) {idx : Nat} (hml : Cond.methodLink own idx yJ7_copyOf_59c91 ∈ TT) (hls : ls.size = nL) (hsum : (rest.map fun v => v.category).sum ≤ 8)
    (hR : 1 + 1 ≤ R.frames ∧ 8 + (3 + 11) + 60 ≤ R.locals) (hcs : cells + (rN p1 + 1) ≤ R.cells ∧ slots + (rN p1 + 1) ≤ R.slots) (hdg : decode cc pc = .ok (.invokestatic idx, 3))
    (kk : ∀ (a9 : Nat) (H1 : Heap) (locs1 : List Loc), Hq G da v x a9 (rN p1) (cpF (v r) n0 p1) H1 → va_S (gA G) s.heap H1 locs1 → W p l e R s m args below meth c H1 locs1 (cells + (rN p1 + 1)) (slots + (rN p1 + 1)) Q (F0 m (pc + 3) ls (.ref a9 :: rest))) :
    W p l e R s m args below meth c H locs cells slots Q (F0 m pc ls (.int p1 :: .ref a0 :: rest)) :=
  va_callr (A1 := gA G) (runS (k := 2) X.1 X.2.1 X.2.2.1 X.2.2.2.1 X.2.2.2.2.1 (mJ7_copyOf_59c91 l G da v x h0 hn31 p1 h1 h2) pW_bl hml t_st_J7_copyOf_59c91 t_ini_ju_Arrays t_code_J7_copyOf_59c91 ⟨by decide, by decide, by decide +kernel⟩ rfl rfl hR hcs (preW X hS hH) rfl hls rfl hsum hdg) hS (fun _ _ h => h) (fun _ h => h)
    (fun _ a9 t H1 locs1 ht _ _ hB _ _ hS1 => kk a9 H1 locs1 (by rw [← ht]; exact hB) hS1)
variable {r a n : Nat} {f : Nat → Int32}
theorem pd_0 (X : CX G p s m args c cc nL RX5) (hQ : Hq G da v x a n f H) (hn : n < 2 ^ 31) (hS : va_S (gA G) s.heap H locs) (hk : kd r = 5 ∨ kd r = 15) {idx : Nat} (hfl : Cond.fieldLink RX5 idx RX5 "typeRow" "[I" ∈ TT) (hdg : decode cc pc = .ok (.putfield idx, 3))
    (kk : ∀ (da1 : Nat → Nat) (H1 : Heap) (locs1 : List Loc) (v1 : vSt), v1 = uG v r 0 n f → Hp G da1 v1 x H1 → va_S (gA G) s.heap H1 locs1 → W p l e R s m args below meth c H1 locs1 cells slots Q (F0 m (pc + 3) ls rest)) :
    W p l e R s m args below meth c H locs cells slots Q (F0 m pc ls (.ref a :: .ref (ga G r) :: rest)) :=
  pd_any X (j := 0) (by decide) hQ hn hS hk (cap_P_0 hk) (kc_P_0 hk) rfl rfl rfl rfl hfl hdg kk
theorem pd_1 (X : CX G p s m args c cc nL RX5) (hQ : Hq G da v x a n f H) (hn : n < 2 ^ 31) (hS : va_S (gA G) s.heap H locs) (hk : kd r = 5 ∨ kd r = 15) {idx : Nat} (hfl : Cond.fieldLink RX5 idx RX5 "deviationRow" "[I" ∈ TT) (hdg : decode cc pc = .ok (.putfield idx, 3))
    (kk : ∀ (da1 : Nat → Nat) (H1 : Heap) (locs1 : List Loc) (v1 : vSt), v1 = uG v r 1 n f → Hp G da1 v1 x H1 → va_S (gA G) s.heap H1 locs1 → W p l e R s m args below meth c H1 locs1 cells slots Q (F0 m (pc + 3) ls rest)) :
    W p l e R s m args below meth c H locs cells slots Q (F0 m pc ls (.ref a :: .ref (ga G r) :: rest)) :=
  pd_any X (j := 1) (by decide) hQ hn hS hk (cap_P_1 hk) (kc_P_1 hk) rfl rfl rfl rfl hfl hdg kk
theorem pd_2 (X : CX G p s m args c cc nL RX5) (hQ : Hq G da v x a n f H) (hn : n < 2 ^ 31) (hS : va_S (gA G) s.heap H locs) (hk : kd r = 5 ∨ kd r = 15) {idx : Nat} (hfl : Cond.fieldLink RX5 idx RX5 "doubtedRow" "[I" ∈ TT) (hdg : decode cc pc = .ok (.putfield idx, 3))
    (kk : ∀ (da1 : Nat → Nat) (H1 : Heap) (locs1 : List Loc) (v1 : vSt), v1 = uG v r 2 n f → Hp G da1 v1 x H1 → va_S (gA G) s.heap H1 locs1 → W p l e R s m args below meth c H1 locs1 cells slots Q (F0 m (pc + 3) ls rest)) :
    W p l e R s m args below meth c H locs cells slots Q (F0 m pc ls (.ref a :: .ref (ga G r) :: rest)) :=
  pd_any X (j := 2) (by decide) hQ hn hS hk (cap_P_2 hk) (kc_P_2 hk) rfl rfl rfl rfl hfl hdg kk
end K14
/-- what the growing rows have cost so far, and more -/
def pot (v : vSt) : Nat := 7 * (rN (v 6 4) + rN (v 7 4) + rN (v 70 4) + rN (v 71 4) + rN (v 134 4) + rN (v 135 4) + rN (v 198 4) + rN (v 199 4) + rN (v 262 4) + rN (v 263 4) + rN (v 326 4) + rN (v 327 4) + rN (v 390 4) + rN (v 391 4))
