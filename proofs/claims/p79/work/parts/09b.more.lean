/-! MORE ROWS: arrays as wholes (copies, clones), new arrays of the growing rows, references that change. -/
def uA (v : vSt) (r : Nat) (f : Nat → Int32) : vSt := fun q => if q = r then f else v q
theorem uA_s {v : vSt} {r : Nat} {f : Nat → Int32} : uA v r f r = f := if_pos rfl
theorem uA_n {v : vSt} {r q : Nat} {f : Nat → Int32} (h : q ≠ r) : uA v r f q = v q := if_neg h
def uG (v : vSt) (r j n : Nat) (f : Nat → Int32) : vSt := u2 (uA v (chP r + j) f) r (4 + j) (Int32.ofNat n)
def mlen (r : Nat) : Nat := if r = 465 then 13668 else 3417
abbrev cpOK (sp dp n : Int32) (n0 n1 : Nat) : Prop := 0 ≤ sp.toInt ∧ 0 ≤ dp.toInt ∧ 0 ≤ n.toInt ∧ sp.toInt + n.toInt ≤ (n0 : Int) ∧ dp.toInt + n.toInt ≤ (n1 : Int)
theorem cpOK.to {sp dp n : Int32} {n0 n1 : Nat} (h : cpOK sp dp n n0 n1) : ¬ sp < 0 ∧ ¬ dp < 0 ∧ ¬ n < 0 ∧ sp.toNatClampNeg + n.toNatClampNeg ≤ n0 ∧ dp.toNatClampNeg + n.toNatClampNeg ≤ n1 := by
  obtain ⟨h1, h2, h3, h4, h5⟩ := h
  have e1 : (sp.toNatClampNeg : Int) = sp.toInt := i_rN h1
  have e2 : (dp.toNatClampNeg : Int) = dp.toInt := i_rN h2
  have e3 : (n.toNatClampNeg : Int) = n.toInt := i_rN h3
  exact ⟨i_n0 h1, i_n0 h2, i_n0 h3, by omega, by omega⟩
theorem ia_in {i : Int32} {n : Nat} (h : vp_in i n) (hn : n < 2 ^ 31) : ¬ i < 0 ∧ i < Int32.ofNat n :=
  ⟨fun q => h (Or.inl q), i_ofn hn (by
    have h1 := vp_lt h
    have h0 : 0 ≤ i.toInt := (vp_in_iff.mp h).1
    have e : (i.toNatClampNeg : Int) = i.toInt := i_rN h0
    omega)⟩
theorem IA.lt31 {a n : Nat} {f : Nat → Int32} {s : State} {H : Heap} (h : IA a n f s H) : n < 2 ^ 31 := by
  obtain ⟨_, _, _, _, _, _, _, h7⟩ := h
  exact h7
theorem gA_of {G : gG} {a : Nat} (h : gb G ≤ a) : gA G a := h
/-- the row of a role, as a whole -/
def AL (G : gG) (da : Nat → Nat) (v : vSt) (x : gX) (r n a : Nat) : Prop := kd r ≠ 99 ∧ ¬ (kd r = 5 ∨ kd r = 15) ∧ adr G da r = a ∧ cE G da v x r = aI (gc G 0) n (v r) ∧ ∀ f, cE G da (uA v r f) x r = aI (gc G 0) n f
section AL1
variable {G : gG} {da : Nat → Nat} {v : vSt} {x : gX} {r : Nat} {H : Heap}
theorem al_st {k n : Nat} (hk : kd r = k) (h99 : k ≠ 99) (h5 : k ≠ 5) (h15 : k ≠ 15) (h23 : k ≠ 23) (hc : ∀ w : vSt, cE G da w x r = aI (gc G 0) n (w r)) : AL G da v x r n (ga G r) :=
  ⟨by rw [hk]; exact h99, by rw [hk]; omega, adr_st hk h23, hc v, fun f => by rw [hc, uA_s]⟩
theorem al_24 (hk : kd r = 24) : AL G da v x r 10 (ga G r) := al_st hk (by decide) (by decide) (by decide) (by decide) (fun _ => ce_24 hk)
theorem al_25 (hk : kd r = 25) : AL G da v x r 12 (ga G r) := al_st hk (by decide) (by decide) (by decide) (by decide) (fun _ => ce_25 hk)
theorem al_30 (hk : kd r = 30) : AL G da v x r 3417 (ga G r) := al_st hk (by decide) (by decide) (by decide) (by decide) (fun _ => ce_30 hk)
theorem al_31 (hk : kd r = 31) : AL G da v x r 13668 (ga G r) := al_st hk (by decide) (by decide) (by decide) (by decide) (fun _ => ce_31 hk)
theorem al_23 (hk : kd r = 23) : AL G da v x r (rN (v (par r) (cap r))) (da r) :=
  ⟨by rw [hk]; decide, by rw [hk]; decide, adr_dy hk, ce_23 hk, fun f => by
    rw [ce_23 hk, uA_s, uA_n]
    intro e
    have := par_kd hk
    rw [e, hk] at this
    omega⟩
theorem al_d0 (hk : kd r = 5 ∨ kd r = 15) : AL G da v x (chP r) (rN (v r 4)) (da (chP r)) := by
  have h := al_23 (G := G) (da := da) (v := v) (x := x) (kc_P_0 hk).1
  rwa [(kc_P_0 hk).2, cap_P_0 hk] at h
theorem al_d1 (hk : kd r = 5 ∨ kd r = 15) : AL G da v x (chP r + 1) (rN (v r 5)) (da (chP r + 1)) := by
  have h := al_23 (G := G) (da := da) (v := v) (x := x) (kc_P_1 hk).1
  rwa [(kc_P_1 hk).2, cap_P_1 hk] at h
theorem al_d2 (hk : kd r = 5 ∨ kd r = 15) : AL G da v x (chP r + 2) (rN (v r 6)) (da (chP r + 2)) := by
  have h := al_23 (G := G) (da := da) (v := v) (x := x) (kc_P_2 hk).1
  rwa [(kc_P_2 hk).2, cap_P_2 hk] at h
theorem AL.set {n a k : Nat} {f : Nat → Int32} (h : AL G da v x r n a) (hi : rol[k]? = some r) : (wl G da v x).set k (a, aI (gc G 0) n f) = wl G da (uA v r f) x := by
  have := wl_set (G := G) (da := da) (v := v) (v' := uA v r f) (x := x) (x' := x) hi (h.2.2.2.2 f) (fun q hq => cE_cong (uA_n hq) (fun h23 => congrFun (uA_n (v := v) (r := r) (q := par q) (f := f) (fun z => h.2.1 (z ▸ par_kd h23))) (cap q)))
  rwa [h.2.2.1] at this
theorem AL.at {n a : Nat} (h : AL G da v x r n a) : ∃ k : Nat, rol[k]? = some r ∧ (wl G da v x)[k]? = some (a, aI (gc G 0) n (v r)) := by
  obtain ⟨k, hk⟩ := rol_at h.1
  refine ⟨k, hk, ?_⟩
  rw [wl_get hk, h.2.2.1, h.2.2.2.1]
theorem Hp.la {n a : Nat} (hH : Hp G da v x H) (h : AL G da v x r n a) : lAr G a n (v r) H := by
  have hP := hH.get h.1
  rwa [h.2.2.1, h.2.2.2.1] at hP
theorem Hp.la_24 (hH : Hp G da v x H) (hk : kd r = 24) : lAr G (ga G r) 10 (v r) H := hH.la (al_24 hk)
theorem Hp.la_25 (hH : Hp G da v x H) (hk : kd r = 25) : lAr G (ga G r) 12 (v r) H := hH.la (al_25 hk)
theorem Hp.gb_24 (hH : Hp G da v x H) (hk : kd r = 24) : gb G ≤ ga G r := by
  have := (hH.lt (r := r) (by rw [hk]; decide)).2
  rwa [adr_st hk (by decide)] at this
theorem Hp.gb_25 (hH : Hp G da v x H) (hk : kd r = 25) : gb G ≤ ga G r := by
  have := (hH.lt (r := r) (by rw [hk]; decide)).2
  rwa [adr_st hk (by decide)] at this
theorem Hp.row_24 {H1 : Heap} (hH : Hp G da v x H) (hk : kd r = 24) {F : Nat → Int32} {v1 : vSt} (hv : v1 = uA v r F) (hL : lAr G (ga G r) 10 F H1) (ho : ∀ q : Nat, q < H.size → q ≠ ga G r → H1[q]? = H[q]?) : Hp G da v1 x H1 :=
  hH.row (by rw [hk]; decide) (Or.inl hk) (ce_24 hk) hv (by rw [ce_24 hk, hv, uA_s]) hL ho
theorem Hp.row_25 {H1 : Heap} (hH : Hp G da v x H) (hk : kd r = 25) {F : Nat → Int32} {v1 : vSt} (hv : v1 = uA v r F) (hL : lAr G (ga G r) 12 F H1) (ho : ∀ q : Nat, q < H.size → q ≠ ga G r → H1[q]? = H[q]?) : Hp G da v1 x H1 :=
  hH.row (by rw [hk]; decide) (Or.inr hk) (ce_25 hk) hv (by rw [ce_25 hk, hv, uA_s]) hL ho
end AL1
/-- the world, and one more array that is nobody's -/
def Hq (G : gG) (da : Nat → Nat) (v : vSt) (x : gX) (a n : Nat) (f : Nat → Int32) (H : Heap) : Prop := Hp G da v x H ∧ lAr G a n f H ∧ gb G ≤ a ∧ ∀ r, kd r ≠ 99 → adr G da r ≠ a
section HQ1
variable {G : gG} {da : Nat → Nat} {v : vSt} {x : gX} {a n : Nat} {f : Nat → Int32} {H : Heap}
theorem Hq.hp (h : Hq G da v x a n f H) : Hp G da v x H := h.1
theorem Hq.la (h : Hq G da v x a n f H) : lAr G a n f H := h.2.1
theorem Hq.gb (h : Hq G da v x a n f H) : gb G ≤ a := h.2.2.1
theorem Hq.upd {H1 : Heap} {f1 : Nat → Int32} (h : Hq G da v x a n f H) (hL : lAr G a n f1 H1) (ho : ∀ q : Nat, q < H.size → q ≠ a → H1[q]? = H[q]?) : Hq G da v x a n f1 H1 := by
  refine ⟨⟨fun k q hk => ?_, h.1.2⟩, hL, h.2.2.1, h.2.2.2⟩
  have hne : q.1 ≠ a := by
    have hk2 := hk
    unfold wl at hk2
    rw [List.getElem?_map] at hk2
    cases hq : rol[k]? with
    | none => rw [hq] at hk2; cases hk2
    | some r =>
      rw [hq] at hk2
      cases hk2
      exact h.2.2.2 r (rol_mem.mp (List.mem_of_getElem? hq))
  exact (h.1.1 k q hk).kept (ho q.1 (h.1.1 k q hk).lt hne)
theorem Hq.no (h : Hq G da v x a n f H) (i : Nat) (y : Nat × va_E) (hy : (wl G da v x)[i]? = some y) : y.1 ≠ a := by
  unfold wl at hy
  rw [List.getElem?_map] at hy
  cases hq : rol[i]? with
  | none => rw [hq] at hy; cases hy
  | some r' =>
    rw [hq] at hy
    cases hy
    exact h.2.2.2 r' (rol_mem.mp (List.mem_of_getElem? hq))
theorem Hq.pd (h : Hq G da v x a n f H) : va_P (gD G) vwCl (wl G da v x ++ [(a, aI (gc G 0) n f)]) H ∧ va_D (gA G) (wl G da v x ++ [((a, aI (gc G 0) n f) : Nat × va_E)]) := by
  refine ⟨h.1.1.app (fun k q hk => h.2.1 k q hk), fun i j y z hy hz e9 => ?_, fun i y hy => ?_⟩
  · have hl1 := (List.getElem?_eq_some_iff.mp hy).1
    have hl2 := (List.getElem?_eq_some_iff.mp hz).1
    rw [List.length_append] at hl1 hl2
    simp only [List.length_cons, List.length_nil] at hl1 hl2
    by_cases h1 : i < (wl G da v x).length
    · rw [List.getElem?_append_left h1] at hy
      by_cases h2 : j < (wl G da v x).length
      · rw [List.getElem?_append_left h2] at hz
        exact h.1.2.1 i j y z hy hz e9
      · rw [List.getElem?_append_right (by omega), show j - (wl G da v x).length = 0 by omega] at hz
        cases hz
        exact absurd e9 (h.no i y hy)
    · rw [List.getElem?_append_right (by omega), show i - (wl G da v x).length = 0 by omega] at hy
      cases hy
      by_cases h2 : j < (wl G da v x).length
      · rw [List.getElem?_append_left h2] at hz
        exact absurd e9.symm (h.no j z hz)
      · omega
  · by_cases h1 : i < (wl G da v x).length
    · rw [List.getElem?_append_left h1] at hy
      exact h.1.2.2 i y hy
    · have hl1 := (List.getElem?_eq_some_iff.mp hy).1
      rw [List.length_append] at hl1
      simp only [List.length_cons, List.length_nil] at hl1
      rw [List.getElem?_append_right (by omega), show i - (wl G da v x).length = 0 by omega] at hy
      cases hy
      exact h.2.2.1
theorem Hq.of (hP : va_P (gD G) vwCl (wl G da v x ++ [(a, aI (gc G 0) n f)]) H) (hD : va_D (gA G) (wl G da v x ++ [((a, aI (gc G 0) n f) : Nat × va_E)])) : Hq G da v x a n f H := by
  refine ⟨⟨fun j z hj => hP j z (by rw [List.getElem?_append_left (List.getElem?_eq_some_iff.mp hj).1]; exact hj), ⟨fun i j y z hy hz => hD.1 i j y z (by rw [List.getElem?_append_left (List.getElem?_eq_some_iff.mp hy).1]; exact hy) (by rw [List.getElem?_append_left (List.getElem?_eq_some_iff.mp hz).1]; exact hz), fun j z hj => hD.2 j z (by rw [List.getElem?_append_left (List.getElem?_eq_some_iff.mp hj).1]; exact hj)⟩⟩, ?_, ?_, ?_⟩
  · intro j z hj
    have hz : j < 1 := (List.getElem?_eq_some_iff.mp hj).1
    have h0 : j = 0 := by omega
    subst h0
    exact hP (wl G da v x).length z (by rw [List.getElem?_append_right (Nat.le_refl _), Nat.sub_self]; exact hj)
  · exact hD.2 (wl G da v x).length _ (by rw [List.getElem?_append_right (Nat.le_refl _), Nat.sub_self]; rfl)
  · intro r' hr' e
    obtain ⟨k', hk'⟩ := rol_at hr'
    have g' := wl_get (G := G) (da := da) (v := v) (x := x) hk'
    have hlt := (List.getElem?_eq_some_iff.mp g').1
    have := hD.1 k' (wl G da v x).length _ _ (by rw [List.getElem?_append_left hlt]; exact g') (by rw [List.getElem?_append_right (Nat.le_refl _), Nat.sub_self]; rfl) e
    omega
end HQ1
section M1
variable {p : Program} {l : Launch} {e : Env} {R : Room} {s : State} {m : MethodId} {args : Array Value} {below : List Frame} {meth : Method} {c : Code} {H : Heap} {locs : List Loc} {cells slots : Nat} {Q : State → Prop}
variable {cc : ByteArray} {pc nL : Nat} {ls : Array Slot} {rest st0 : List Value} {G : gG} {own : String} {da : Nat → Nat} {v : vSt} {x : gX} {r : Nat}
theorem r_cpy (X : CX G p s m args c cc nL own) (hH : Hp G da v x H) (hS : va_S (gA G) s.heap H locs) {r0 r1 n0 n1 a0 a1 idx : Nat} (h0 : AL G da v x r0 n0 a0) (h1 : AL G da v x r1 n1 a1) (hml : Cond.methodLink own idx arraycopyName ∈ TT) (hls : ls.size = nL) {sp dp n : Int32} (hc : cpOK sp dp n n0 n1)
    (hR : 1 ≤ R.frames ∧ (rest.map fun v => v.category).sum + (nativeFrameWords "java/lang/System" "arraycopy" 5 + 11) ≤ R.locals) (hdg : decode cc pc = .ok (.invokestatic idx, 3))
    (kk : ∀ (H1 : Heap) (locs1 : List Loc) (v1 : vSt), v1 = uA v r1 (va_cpy (v r0) (v r1) sp.toNatClampNeg dp.toNatClampNeg n.toNatClampNeg) → Hp G da v1 x H1 → va_S (gA G) s.heap H1 locs1 → W p l e R s m args below meth c H1 locs1 cells slots Q (F0 m (pc + 3) ls rest)) :
    W p l e R s m args below meth c H locs cells slots Q (F0 m pc ls (.int n :: .int dp :: .ref a1 :: .int sp :: .ref a0 :: rest)) := by
  obtain ⟨hx, hb, hml0, hown, hts, hT, -⟩ := X
  obtain ⟨k0, -, g0⟩ := h0.at
  obtain ⟨k1, i1, g1⟩ := h1.at
  obtain ⟨c1, c2, c3, c4, c5⟩ := hc.to
  refine va_copyi hx hb (hml0.trans hls.symm) hown (hts _ hml) (hts _ t_nat_arraycopy) (hts _ t_st_arraycopy) (hts _ t_ini_jl_System) hT.1 hH.1 hH.2 hS k0 k1 0 0 g0 g1 rfl rfl rfl c1 c2 c3 c4 c5 (fun _ _ => rfl) hR.1 hR.2 hdg (fun H1 locs1 hP hD hS1 => ?_)
  have e9 := h1.set (f := va_cpy (v r0) (v r1) sp.toNatClampNeg dp.toNatClampNeg n.toNatClampNeg) i1
  unfold aI at e9
  rw [e9] at hP hD
  exact kk H1 locs1 _ rfl ⟨hP, hD⟩ hS1
theorem a_cpy {a n1 : Nat} {f : Nat → Int32} (X : CX G p s m args c cc nL own) (hH : lAr G a n1 f H) (hS : va_S (fun q => q = a) s.heap H locs) {idx : Nat} (hml : Cond.methodLink own idx arraycopyName ∈ TT) (hls : ls.size = nL) {sp dp n : Int32} (hc : cpOK sp dp n n1 n1)
    (hR : 1 ≤ R.frames ∧ (rest.map fun v => v.category).sum + (nativeFrameWords "java/lang/System" "arraycopy" 5 + 11) ≤ R.locals) (hdg : decode cc pc = .ok (.invokestatic idx, 3))
    (kk : ∀ (H1 : Heap) (locs1 : List Loc) (f1 : Nat → Int32), f1 = va_cpy f f sp.toNatClampNeg dp.toNatClampNeg n.toNatClampNeg → lAr G a n1 f1 H1 → va_S (fun q => q = a) s.heap H1 locs1 → W p l e R s m args below meth c H1 locs1 cells slots Q (F0 m (pc + 3) ls rest)) :
    W p l e R s m args below meth c H locs cells slots Q (F0 m pc ls (.int n :: .int dp :: .ref a :: .int sp :: .ref a :: rest)) := by
  obtain ⟨hx, hb, hml0, hown, hts, hT, -⟩ := X
  obtain ⟨c1, c2, c3, c4, c5⟩ := hc.to
  have hD : va_D (fun q => q = a) [((a, aI (gc G 0) n1 f) : Nat × va_E)] := ⟨fun i j p q hi hj _ => by
    have h1 := (List.getElem?_eq_some_iff.mp hi).1
    have h2 := (List.getElem?_eq_some_iff.mp hj).1
    simp only [List.length_cons, List.length_nil] at h1 h2
    omega, fun k q hk => by
    have h1 := (List.getElem?_eq_some_iff.mp hk).1
    simp only [List.length_cons, List.length_nil] at h1
    have h0 : k = 0 := by omega
    subst h0
    cases hk
    rfl⟩
  exact va_copyi hx hb (hml0.trans hls.symm) hown (hts _ hml) (hts _ t_nat_arraycopy) (hts _ t_st_arraycopy) (hts _ t_ini_jl_System) hT.1 hH hD hS 0 0 0 0 rfl rfl rfl rfl rfl c1 c2 c3 c4 c5 (fun _ _ => rfl) hR.1 hR.2 hdg (fun H1 locs1 hP _ hS1 => kk H1 locs1 _ rfl hP hS1)
theorem len_d0 (X : CX G p s m args c cc nL own) (hH : Hp G da v x H) (hk : kd r = 5 ∨ kd r = 15) (hdg : decode cc pc = .ok (.arraylength, 1))
    (kk : W p l e R s m args below meth c H locs cells slots Q (F0 m (pc + 1) ls (.int (Int32.ofNat (rN (v r 4))) :: rest))) : W p l e R s m args below meth c H locs cells slots Q (F0 m pc ls (.ref (da (chP r)) :: rest)) :=
  r_len X hH (t0 := 0) (al_d0 (G := G) (da := da) (v := v) (x := x) hk).1 (al_d0 hk).2.2.2.1 rfl rfl hdg (al_d0 (G := G) (v := v) (x := x) hk).2.2.1.symm kk
theorem len_d1 (X : CX G p s m args c cc nL own) (hH : Hp G da v x H) (hk : kd r = 5 ∨ kd r = 15) (hdg : decode cc pc = .ok (.arraylength, 1))
    (kk : W p l e R s m args below meth c H locs cells slots Q (F0 m (pc + 1) ls (.int (Int32.ofNat (rN (v r 5))) :: rest))) : W p l e R s m args below meth c H locs cells slots Q (F0 m pc ls (.ref (da (chP r + 1)) :: rest)) :=
  r_len X hH (t0 := 0) (al_d1 (G := G) (da := da) (v := v) (x := x) hk).1 (al_d1 hk).2.2.2.1 rfl rfl hdg (al_d1 (G := G) (v := v) (x := x) hk).2.2.1.symm kk
theorem len_d2 (X : CX G p s m args c cc nL own) (hH : Hp G da v x H) (hk : kd r = 5 ∨ kd r = 15) (hdg : decode cc pc = .ok (.arraylength, 1))
    (kk : W p l e R s m args below meth c H locs cells slots Q (F0 m (pc + 1) ls (.int (Int32.ofNat (rN (v r 6))) :: rest))) : W p l e R s m args below meth c H locs cells slots Q (F0 m pc ls (.ref (da (chP r + 2)) :: rest)) :=
  r_len X hH (t0 := 0) (al_d2 (G := G) (da := da) (v := v) (x := x) hk).1 (al_d2 hk).2.2.2.1 rfl rfl hdg (al_d2 (G := G) (v := v) (x := x) hk).2.2.1.symm kk
/-- an int into a row of ints, whatever its place -/
theorem al_ast (X : CX G p s m args c cc nL own) (hH : Hp G da v x H) (hS : va_S (gA G) s.heap H locs) {n a : Nat} (h : AL G da v x r n a) {i y : Int32} (hin : vp_in i n) (hdg : decode cc pc = .ok (.iastore, 1))
    (kk : ∀ (H1 : Heap) (locs1 : List Loc) (v1 : vSt), v1 = u2 v r i.toNatClampNeg y → Hp G da v1 x H1 → va_S (gA G) s.heap H1 locs1 → W p l e R s m args below meth c H1 locs1 cells slots Q (F0 m (pc + 1) ls rest)) :
    W p l e R s m args below meth c H locs cells slots Q (F0 m pc ls (.int y :: .int i :: .ref a :: rest)) := by
  obtain ⟨hx, hb, hml0, hown, hts, hT, -⟩ := X
  obtain ⟨k1, i1, g1⟩ := h.at
  refine va_iast hx hb hT.1 hH.1 hH.2 hS k1 0 (f := v r) g1 rfl hin hdg (fun H1 locs1 hP hD hS1 => ?_)
  have e9 := h.set (f := upd (v r) i.toNatClampNeg y) i1
  unfold aI at e9
  rw [e9] at hP hD
  have e8 : uA v r (upd (v r) i.toNatClampNeg y) = u2 v r i.toNatClampNeg y := by
    funext q j
    unfold uA u2 upd
    by_cases hq : q = r
    · subst hq
      simp
    · simp [hq]
  rw [e8] at hP hD
  exact kk H1 locs1 _ rfl ⟨hP, hD⟩ hS1
theorem ast_d0 (X : CX G p s m args c cc nL own) (hH : Hp G da v x H) (hS : va_S (gA G) s.heap H locs) (hk : kd r = 5 ∨ kd r = 15) {i y : Int32} (hin : vp_in i (rN (v r 4))) (hdg : decode cc pc = .ok (.iastore, 1))
    (kk : ∀ (H1 : Heap) (locs1 : List Loc) (v1 : vSt), v1 = u2 v (chP r) i.toNatClampNeg y → Hp G da v1 x H1 → va_S (gA G) s.heap H1 locs1 → W p l e R s m args below meth c H1 locs1 cells slots Q (F0 m (pc + 1) ls rest)) :
    W p l e R s m args below meth c H locs cells slots Q (F0 m pc ls (.int y :: .int i :: .ref (da (chP r)) :: rest)) := al_ast X hH hS (al_d0 hk) hin hdg kk
theorem ast_d1 (X : CX G p s m args c cc nL own) (hH : Hp G da v x H) (hS : va_S (gA G) s.heap H locs) (hk : kd r = 5 ∨ kd r = 15) {i y : Int32} (hin : vp_in i (rN (v r 5))) (hdg : decode cc pc = .ok (.iastore, 1))
    (kk : ∀ (H1 : Heap) (locs1 : List Loc) (v1 : vSt), v1 = u2 v (chP r + 1) i.toNatClampNeg y → Hp G da v1 x H1 → va_S (gA G) s.heap H1 locs1 → W p l e R s m args below meth c H1 locs1 cells slots Q (F0 m (pc + 1) ls rest)) :
    W p l e R s m args below meth c H locs cells slots Q (F0 m pc ls (.int y :: .int i :: .ref (da (chP r + 1)) :: rest)) := al_ast X hH hS (al_d1 hk) hin hdg kk
theorem ast_d2 (X : CX G p s m args c cc nL own) (hH : Hp G da v x H) (hS : va_S (gA G) s.heap H locs) (hk : kd r = 5 ∨ kd r = 15) {i y : Int32} (hin : vp_in i (rN (v r 6))) (hdg : decode cc pc = .ok (.iastore, 1))
    (kk : ∀ (H1 : Heap) (locs1 : List Loc) (v1 : vSt), v1 = u2 v (chP r + 2) i.toNatClampNeg y → Hp G da v1 x H1 → va_S (gA G) s.heap H1 locs1 → W p l e R s m args below meth c H1 locs1 cells slots Q (F0 m (pc + 1) ls rest)) :
    W p l e R s m args below meth c H locs cells slots Q (F0 m pc ls (.int y :: .int i :: .ref (da (chP r + 2)) :: rest)) := al_ast X hH hS (al_d2 hk) hin hdg kk
theorem cast_27 (X : CX G p s m args c cc nL own) (hH : Hp G da v x H) (hS : va_S (gA G) s.heap H locs) (hk : kd r = 27) {i y : Int32} (hin : vp_in i 60) (hy : 0 ≤ y.toInt ∧ y.toInt < 65536) (hdg : decode cc pc = .ok (.castore, 1))
    (kk : ∀ (H1 : Heap) (locs1 : List Loc) (v1 : vSt), v1 = u2 v r i.toNatClampNeg y → Hp G da v1 x H1 → va_S (gA G) s.heap H1 locs1 → W p l e R s m args below meth c H1 locs1 cells slots Q (F0 m (pc + 1) ls rest)) :
    W p l e R s m args below meth c H locs cells slots Q (F0 m pc ls (.int y :: .int i :: .ref (ga G r) :: rest)) := by
  obtain ⟨k, hi⟩ := rol_at (r := r) (by rw [hk]; decide)
  have hg := wl_get (G := G) (da := da) (v := v) (x := x) hi
  rw [ce_27 hk, adr_st hk (by decide)] at hg
  refine va_cast X.1 X.2.1 X.2.2.2.2.2.1.1 hH.1 hH.2 hS k 2 (f := v r) hg rfl hin hdg (fun H1 locs1 hP hD hS1 => ?_)
  have hz : vp_nar .char y = y := by
    have h1 : y.toInt = y.toUInt32.toBitVec.toInt := rfl
    rw [BitVec.toInt_eq_toNat_cond] at h1
    have h2 : y.toUInt32.toNat < 65536 := by
      have h3 : y.toUInt32.toBitVec.toNat = y.toUInt32.toNat := rfl
      have h4 := y.toUInt32.toNat_lt
      rw [h3] at h1
      split at h1 <;> omega
    have h5 : y.toUInt32 % 65536 = y.toUInt32 := by
      apply UInt32.toNat_inj.mp
      rw [UInt32.toNat_mod]
      exact Nat.mod_eq_of_lt h2
    show (y.toUInt32 % 65536).toInt32 = y
    rw [h5]
    rfl
  rw [hz] at hP hD
  have hn2 : cE G da (u2 v r i.toNatClampNeg y) x r = .inl (gc G 2, 60, .inl (upd (v r) i.toNatClampNeg y)) := by
    rw [ce_27 hk]
    unfold aI
    congr 4
    funext j
    simp [u2, upd]
  have hw := wl_set (G := G) (da := da) (v := v) (v' := u2 v r i.toNatClampNeg y) (x := x) (x' := x) hi hn2 (fun q hq => cE_u2 (fun z => by rw [hk] at z; omega) hq)
  rw [adr_st hk (by decide)] at hw
  rw [hw] at hP hD
  exact kk H1 locs1 _ rfl ⟨hP, hD⟩ hS1
/-- chart.clone(): a new array, nobody's -/
theorem r_clo (X : CX G p s m args c cc nL own) (hH : Hp G da v x H) (hS : va_S (gA G) s.heap H locs) (hk : kd r = 25) {idx : Nat} (hml : Cond.methodLink own idx (⟨"[I", "clone", "()Ljava/lang/Object;"⟩ : MethodName) ∈ TT) (hls : ls.size = nL)
    (hR : 1 ≤ R.frames ∧ (rest.map fun v => v.category).sum + 14 ≤ R.locals) (hcs : cells + 12 ≤ R.cells ∧ slots + 12 ≤ R.slots) (hdg : decode cc pc = .ok (.invokevirtual idx, 3))
    (kk : ∀ (a1 : Nat) (H1 : Heap) (f1 : Nat → Int32), f1 = v r → Hq G da v x a1 12 f1 H1 → va_S (gA G) s.heap H1 locs → W p l e R s m args below meth c H1 locs (cells + 12) (slots + 12) Q (F0 m (pc + 3) ls (.ref a1 :: rest))) :
    W p l e R s m args below meth c H locs cells slots Q (F0 m pc ls (.ref (ga G r) :: rest)) := by
  obtain ⟨hx, hb, hml0, hown, hts, hT, hbz⟩ := X
  obtain ⟨k, hi, hg⟩ := (al_25 (G := G) (da := da) (v := v) (x := x) hk).at
  refine va_clone hx hb (hml0.trans hls.symm) hown (hts _ hml) (hts _ t_sm_aclone) (hts _ t_nat_oclone) (hts _ t_im_oclone) (hts _ t_sel_aclone) (hT.2.2.1 _ t_cst_aI_jl_Cloneable rfl) hT.1 hH.1 hH.2 hS (fun q hq => Nat.le_trans hbz hq) k 0 hg rfl (hT.1.2 0 _ rfl).2 (fun i w hw => ?_) hR.1 hR.2 (by omega) hcs.2 hdg (fun q H1 _ hP hD hS1 => ?_)
  · change (arrV _ _ _).slots[i]? = some w at hw
    by_cases hin : i < 12
    · rw [arrV_read _ _ hin] at hw
      cases hw
      rfl
    · rw [Array.getElem?_eq_none (by rw [arrV_size]; omega)] at hw
      cases hw
  · exact W.widen (k := cells + 12) (n := slots + 12) (by omega) (Nat.le_refl _) (kk q H1 _ rfl (Hq.of hP hD) hS1)
/-- the cast behind it -/
theorem q_cst {a n : Nat} {f : Nat → Int32} (X : CX G p s m args c cc nL own) (hQ : Hq G da v x a n f H) {idx : Nat} (hcl : Cond.classLink own idx "[I" ∈ TT) (hdg : decode cc pc = .ok (.checkcast idx, 3))
    (kk : W p l e R s m args below meth c H locs cells slots Q (F0 m (pc + 3) ls (.ref a :: rest))) : W p l e R s m args below meth c H locs cells slots Q (F0 m pc ls (.ref a :: rest)) :=
  va_castA X.1 X.2.1 X.2.2.2.1 (X.2.2.2.2.1 _ hcl) hQ.2.1 0 rfl (X.2.2.2.2.2.1.1.2 0 _ rfl).2 hdg kk
/-- a new array for a growing row -/
theorem pd_any (X : CX G p s m args c cc nL RX5) {j a n : Nat} {f : Nat → Int32} (hj : j < 3) (hQ : Hq G da v x a n f H) (hn : n < 2 ^ 31) (hS : va_S (gA G) s.heap H locs) (hk : kd r = 5 ∨ kd r = 15) (hcap : cap (chP r + j) = 4 + j) (hpar : kd (chP r + j) = 23 ∧ par (chP r + j) = r) {idx : Nat} {nm : String} (hT5 : (TX5 j).2.1 = nm) (hT6 : (TX5 j).2.2.1 = "[I") (hT7 : (TX5 j).1 = RX5) (hT8 : (TX5 j).2.2.2 = false)
    (hfl : Cond.fieldLink RX5 idx RX5 nm "[I" ∈ TT) (hdg : decode cc pc = .ok (.putfield idx, 3))
    (kk : ∀ (da1 : Nat → Nat) (H1 : Heap) (locs1 : List Loc) (v1 : vSt), v1 = uG v r j n f → Hp G da1 v1 x H1 → va_S (gA G) s.heap H1 locs1 → W p l e R s m args below meth c H1 locs1 cells slots Q (F0 m (pc + 3) ls rest)) :
    W p l e R s m args below meth c H locs cells slots Q (F0 m pc ls (.ref a :: .ref (ga G r) :: rest)) := by
  obtain ⟨hx, hb, hml0, hown, hts, hT, hbz⟩ := X
  have hr99 : kd r ≠ 99 := by omega
  obtain ⟨k, hi⟩ := rol_at hr99
  have hg := wl_get (G := G) (da := da) (v := v) (x := x) hi
  have ha : adr G da r = ga G r := if_neg (by omega)
  rw [ce_P hk, ha] at hg
  have hlt := (List.getElem?_eq_some_iff.mp hg).1
  obtain ⟨hP2, hD2⟩ := hQ.pd
  have hg2 : (wl G da v x ++ [((a, aI (gc G 0) n f) : Nat × va_E)])[k]? = some (ga G r, .inr (5, [.ref (da (chP r)), .ref (da (chP r + 1)), .ref (da (chP r + 2)), .int (v r 3)])) := by
    rw [List.getElem?_append_left hlt]
    exact hg
  refine va_put hx hb hts inX5 tyX5 tyX5_ok nmX5 hown hT.1 hP2 hD2 hS k hg2 (show vwCl[5]? = some (RX5, TX5, 4) from rfl) j (by omega) (by rw [hT5, hT6]; exact hts _ hfl) (fun y hy => by rw [hT7] at hy; exact hy) hT8 (ty := .array .int) (v := .ref a) (by rw [hT6]; rfl) rfl rfl (by show j < 4; omega) hdg (fun H1 locs1 hP hD hS1 => ?_)
  refine kk (fun q => if q = chP r + j then a else da q) H1 locs1 _ rfl ?_ hS1
  have hne : ∀ q, q ≠ chP r + j → adr G (fun q => if q = chP r + j then a else da q) q = adr G da q := by
    intro q hq
    unfold adr
    by_cases h : kd q = 23
    · rw [if_pos h, if_pos h]
      show (if q = chP r + j then a else da q) = da q
      rw [if_neg hq]
    · rw [if_neg h, if_neg h]
  have hd : adr G (fun q => if q = chP r + j then a else da q) (chP r + j) = a := by
    unfold adr
    rw [if_pos hpar.1]
    show (if chP r + j = chP r + j then a else da (chP r + j)) = a
    rw [if_pos rfl]
  have hrd : r ≠ chP r + j := fun z => by
    have h1 := hpar.1
    rw [← z] at h1
    omega
  -- the cells of the others
  have hoth : ∀ q, kd q ≠ 99 → q ≠ chP r + j → q ≠ r → cE G (fun q => if q = chP r + j then a else da q) (uG v r j n f) x q = cE G da v x q := by
    intro q hq99 hq hqr
    have hv : uG v r j n f q = v q := by
      unfold uG
      rw [u2_r hqr, uA_n hq]
    by_cases h23 : kd q = 23
    · rw [ce_23 h23, ce_23 h23, hv]
      have : uG v r j n f (par q) (cap q) = v (par q) (cap q) := by
        by_cases hpr : par q = r
        · have hc : cap q ≠ 4 + j := by
            intro hc
            apply hq
            have hall := (by decide +kernel : ∀ q, q < 470 → kd q = 23 → ∀ j, j < 3 → cap q = 4 + j → q = chP (par q) + j) q (kd_lt hq99) h23 j hj hc
            rw [hall, hpr]
          unfold uG
          rw [u2_n (fun z => hc z.2), uA_n]
          intro z
          have := par_kd h23
          rw [z, hpar.1] at this
          omega
        · unfold uG
          rw [u2_r hpr, uA_n]
          intro z
          have := par_kd h23
          rw [z, hpar.1] at this
          omega
      rw [this]
    · by_cases hP5 : kd q = 5 ∨ kd q = 15
      · rw [ce_P hP5, ce_P hP5, hv]
        have hx : ∀ i, i < 3 → chP q + i ≠ chP r + j := by
          intro i hi2 z
          have h1 := hpar.2
          rw [← z] at h1
          have h2 : par (chP q + i) = q := by
            rcases (by omega : i = 0 ∨ i = 1 ∨ i = 2) with h | h | h <;> subst h
            · exact (kc_P_0 hP5).2
            · exact (kc_P_1 hP5).2
            · exact (kc_P_2 hP5).2
          exact hqr (h2.symm.trans h1)
        have g0 : chP q ≠ chP r + j := hx 0 (by decide)
        have g1 := hx 1 (by decide)
        have g2 := hx 2 (by decide)
        simp [g0, g1, g2]
      · have h5 : kd q ≠ 5 := fun z => hP5 (Or.inl z)
        have h15 : kd q ≠ 15 := fun z => hP5 (Or.inr z)
        unfold cE
        split <;> first | rfl | (simp only [hv]; done) | (exfalso; omega)
  have hself : cE G (fun q => if q = chP r + j then a else da q) (uG v r j n f) x r = .inr (5, [.ref (da (chP r)), .ref (da (chP r + 1)), .ref (da (chP r + 2)), .int (v r 3)].set j (.ref a)) := by
    rw [ce_P hk]
    have h3 : uG v r j n f r 3 = v r 3 := by
      unfold uG
      rw [u2_n (by omega), uA_n hrd]
    rw [h3]
    rcases (by omega : j = 0 ∨ j = 1 ∨ j = 2) with h | h | h <;> subst h <;> simp
  have hnew : cE G (fun q => if q = chP r + j then a else da q) (uG v r j n f) x (chP r + j) = aI (gc G 0) n f := by
    rw [ce_23 hpar.1, hpar.2, hcap]
    have h1 : uG v r j n f r (4 + j) = Int32.ofNat n := u2_s
    have h2 : uG v r j n f (chP r + j) = f := by
      unfold uG
      rw [u2_r (Ne.symm hrd), uA_s]
    rw [h1, h2]
    congr 1
    exact nI_clamp hn
  have key : ∀ (i q : Nat), rol[i]? = some q → ∃ i2, ((wl G da v x ++ [((a, aI (gc G 0) n f) : Nat × va_E)]).set k (ga G r, .inr (5, [.ref (da (chP r)), .ref (da (chP r + 1)), .ref (da (chP r + 2)), .int (v r 3)].set j (.ref a))))[i2]? = some (adr G (fun q => if q = chP r + j then a else da q) q, cE G (fun q => if q = chP r + j then a else da q) (uG v r j n f) x q) ∧ (q = chP r + j → i2 = (wl G da v x).length) ∧ (q ≠ chP r + j → i2 = i) := by
    intro i q hiq
    have hq99 : kd q ≠ 99 := rol_mem.mp (List.mem_of_getElem? hiq)
    by_cases hq : q = chP r + j
    · refine ⟨(wl G da v x).length, ?_, fun _ => rfl, fun h => absurd hq h⟩
      rw [List.getElem?_set_ne (by omega), List.getElem?_append_right (Nat.le_refl _), Nat.sub_self, hq, hd, hnew]
      rfl
    · refine ⟨i, ?_, fun h => absurd h hq, fun _ => rfl⟩
      by_cases hqr : q = r
      · have hik : i = k := rol_inj (hqr ▸ hiq) hi
        rw [hik, List.getElem?_set_self (List.getElem?_eq_some_iff.mp hg2).1, hqr, hself, hne r hrd, ha]
      · have hik : i ≠ k := fun z => hqr (by rw [z, hi] at hiq; exact (Option.some.inj hiq).symm)
        have g := wl_get (G := G) (da := da) (v := v) (x := x) hiq
        rw [List.getElem?_set_ne (Ne.symm hik), List.getElem?_append_left (List.getElem?_eq_some_iff.mp g).1, g, hne q hq, hoth q hq99 hq hqr]
  have look : ∀ (i : Nat) (y : Nat × va_E), (wl G (fun q => if q = chP r + j then a else da q) (uG v r j n f) x)[i]? = some y → ∃ q, rol[i]? = some q ∧ y = (adr G (fun q => if q = chP r + j then a else da q) q, cE G (fun q => if q = chP r + j then a else da q) (uG v r j n f) x q) := by
    intro i y hy
    unfold wl at hy
    rw [List.getElem?_map] at hy
    cases hq : rol[i]? with
    | none => rw [hq] at hy; cases hy
    | some q => rw [hq] at hy; exact ⟨q, rfl, (Option.some.inj hy).symm⟩
  refine ⟨fun i y hy => ?_, fun i1 i2 y z hy hz e9 => ?_, fun i y hy => ?_⟩
  · obtain ⟨q, hq, rfl⟩ := look i y hy
    obtain ⟨i2, h2, -⟩ := key i q hq
    exact hP i2 _ h2
  · obtain ⟨q, hq, rfl⟩ := look i1 y hy
    obtain ⟨q', hq', rfl⟩ := look i2 z hz
    obtain ⟨j1, g1, a1, b1⟩ := key i1 q hq
    obtain ⟨j2, g2, a2, b2⟩ := key i2 q' hq'
    have hj12 := hD.1 j1 j2 _ _ g1 g2 e9
    have l1 := (List.getElem?_eq_some_iff.mp (wl_get (G := G) (da := da) (v := v) (x := x) hq)).1
    have l2 := (List.getElem?_eq_some_iff.mp (wl_get (G := G) (da := da) (v := v) (x := x) hq')).1
    by_cases c1 : q = chP r + j <;> by_cases c2 : q' = chP r + j
    · exact rol_inj (c1 ▸ hq) (c2 ▸ hq')
    · have := a1 c1; have := b2 c2; omega
    · have := b1 c1; have := a2 c2; omega
    · have := b1 c1; have := b2 c2; omega
  · obtain ⟨q, hq, rfl⟩ := look i y hy
    obtain ⟨i2, h2, -⟩ := key i q hq
    exact hD.2 i2 _ h2
/-- a row of the world into a new array -/
theorem q_cpy {a n1 : Nat} {f : Nat → Int32} (X : CX G p s m args c cc nL own) (hQ : Hq G da v x a n1 f H) (hS : va_S (gA G) s.heap H locs) {r0 n0 a0 idx : Nat} (h0 : AL G da v x r0 n0 a0) (hml : Cond.methodLink own idx arraycopyName ∈ TT) (hls : ls.size = nL) {sp dp n : Int32} (hc : cpOK sp dp n n0 n1)
    (hR : 1 ≤ R.frames ∧ (rest.map fun v => v.category).sum + (nativeFrameWords "java/lang/System" "arraycopy" 5 + 11) ≤ R.locals) (hdg : decode cc pc = .ok (.invokestatic idx, 3))
    (kk : ∀ (H1 : Heap) (locs1 : List Loc) (f1 : Nat → Int32), f1 = va_cpy (v r0) f sp.toNatClampNeg dp.toNatClampNeg n.toNatClampNeg → Hq G da v x a n1 f1 H1 → va_S (gA G) s.heap H1 locs1 → W p l e R s m args below meth c H1 locs1 cells slots Q (F0 m (pc + 3) ls rest)) :
    W p l e R s m args below meth c H locs cells slots Q (F0 m pc ls (.int n :: .int dp :: .ref a :: .int sp :: .ref a0 :: rest)) := by
  obtain ⟨hx, hb, hml0, hown, hts, hT, -⟩ := X
  obtain ⟨hP, hD⟩ := hQ.pd
  obtain ⟨k0, -, g0⟩ := h0.at
  obtain ⟨c1, c2, c3, c4, c5⟩ := hc.to
  refine va_copyi hx hb (hml0.trans hls.symm) hown (hts _ hml) (hts _ t_nat_arraycopy) (hts _ t_st_arraycopy) (hts _ t_ini_jl_System) hT.1 hP hD hS k0 (wl G da v x).length 0 0 (by rw [List.getElem?_append_left (List.getElem?_eq_some_iff.mp g0).1]; exact g0) (by rw [List.getElem?_append_right (Nat.le_refl _), Nat.sub_self]; rfl) rfl rfl rfl c1 c2 c3 c4 c5 (fun _ _ => rfl) hR.1 hR.2 hdg (fun H1 locs1 hP hD hS1 => ?_)
  rw [List.set_append_right _ _ (Nat.le_refl _), Nat.sub_self] at hP hD
  exact kk H1 locs1 _ rfl (Hq.of hP hD) hS1
end M1
