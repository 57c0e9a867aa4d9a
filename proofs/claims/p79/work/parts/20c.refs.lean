/-! REFERENCES that change: which state is now, the trial's, the history's. -/
theorem rN_of {q : Nat} (h : q < 2147483648) : rN (Int32.ofNat q) = q := nI_clamp h
section R3
variable {p : Program} {l : Launch} {e : Env} {R : Room} {s : State} {m : MethodId} {args : Array Value} {below : List Frame} {meth : Method} {c : Code} {H : Heap} {locs : List Loc} {cells slots : Nat} {Q : State → Prop}
variable {cc : ByteArray} {pc nL : Nat} {ls : Array Slot} {rest : List Value} {G : gG} {own : String} {da : Nat → Nat} {v : vSt} {x : gX}
theorem pq_any (X : CX G p s m args c cc nL own) (hH : Hp G da v x H) (hS : va_S (gA G) s.heap H locs) {r q ci index : Nat} {C : String} {T : u_T} {N : Nat} {fs : List Value} (hr : kd r ≠ 99) (h23 : kd r ≠ 23) (he : cE G da v x r = .inr (ci, fs)) (hc : vwCl[ci]? = some (C, T, N)) (hin : ∀ w ∈ u_ws C T N, w ∈ TT)
    (ty0 : Nat → FieldType) (hty : ∀ k, k < N → parseFieldDescriptor (T k).2.2.1 = some (ty0 k)) (hnm : ∀ a, a < N → ∀ b, b < N → a ≠ b → (T a).2.1 ≠ (T b).2.1)
    (k : Nat) (hk : k < N) {ref : String} (hlink : Cond.fieldLink own index ref (T k).2.1 (T k).2.2.1 ∈ TT) (href : ref = (T k).1) (hfin : (T k).2.2.2 = false) {ty : FieldType} (hd : parseFieldDescriptor (T k).2.2.1 = some ty) (hn : narrow ty (.ref (ga G q)) = .ref (ga G q)) (hfit : fits ty (.ref (ga G q)) = true) (hl : k < fs.length)
    (hk4 : ¬ ((kd r = 5 ∨ kd r = 15) ∧ 4 ≤ k)) (hnew : cE G da (u2 v r k (Int32.ofNat q)) x r = .inr (ci, fs.set k (.ref (ga G q)))) (hdg : decode cc pc = .ok (.putfield index, 3))
    (kk : ∀ (H1 : Heap) (locs1 : List Loc) (v1 : vSt), v1 = u2 v r k (Int32.ofNat q) → Hp G da v1 x H1 → va_S (gA G) s.heap H1 locs1 → W p l e R s m args below meth c H1 locs1 cells slots Q (F0 m (pc + 3) ls rest)) :
    W p l e R s m args below meth c H locs cells slots Q (F0 m pc ls (.ref (ga G q) :: .ref (ga G r) :: rest)) := by
  obtain ⟨hx, hb, -, hown, hts, hT, -⟩ := X
  obtain ⟨i, hi⟩ := rol_at hr
  have hg := wl_get (G := G) (da := da) (v := v) (x := x) hi
  have ha : adr G da r = ga G r := if_neg h23
  rw [he, ha] at hg
  subst href
  refine va_put hx hb hts hin ty0 hty hnm hown hT.1 hH.1 hH.2 hS i hg hc k hk (hts _ hlink) (fun _ h => h) hfin hd hn hfit hl hdg (fun H1 locs1 hP hD hS1 => ?_)
  have hw := wl_set (G := G) (da := da) (v := v) (v' := u2 v r k (Int32.ofNat q)) (x := x) (x' := x) hi hnew (fun q hq => cE_u2 hk4 hq)
  rw [ha] at hw
  rw [hw] at hP hD
  exact kk H1 locs1 _ rfl ⟨hP, hD⟩ hS1
theorem pq_10 (X : CX G p s m args c cc nL RX10) (hH : Hp G da v x H) (hS : va_S (gA G) s.heap H locs) {r q idx : Nat} (hk : kd r = 10) (hq : kd q = 7) (hfl : Cond.fieldLink RX10 idx RX10 "now" "LVernierDrawers$State;" ∈ TT) (hdg : decode cc pc = .ok (.putfield idx, 3))
    (kk : ∀ (H1 : Heap) (locs1 : List Loc) (v1 : vSt), v1 = u2 v r 0 (Int32.ofNat q) → Hp G da v1 x H1 → va_S (gA G) s.heap H1 locs1 → W p l e R s m args below meth c H1 locs1 cells slots Q (F0 m (pc + 3) ls rest)) :
    W p l e R s m args below meth c H locs cells slots Q (F0 m pc ls (.ref (ga G q) :: .ref (ga G r) :: rest)) := by
  have hz : rN (Int32.ofNat q) = q := rN_of (by have := kd_lt (r := q) (by rw [hq]; decide); omega)
  refine pq_any X hH hS (by rw [hk]; decide) (by rw [hk]; decide) (ce_10 hk) rfl inX10 tyX10 tyX10_ok nmX10 0 (by decide) hfl rfl rfl (ty := .object "VernierDrawers$State") (by decide +kernel) rfl rfl (Nat.le_of_ble_eq_true rfl) (fun z => by rw [hk] at z; exact absurd z.1 (by decide)) ?_ hdg kk
  rw [ce_10 hk]
  simp [u2, hz]
theorem pq_9 (X : CX G p s m args c cc nL RX10) (hH : Hp G da v x H) (hS : va_S (gA G) s.heap H locs) {r q idx : Nat} (hk : kd r = 9) (hq : kd q = 7) (hfl : Cond.fieldLink RX10 idx RX9 "state" "LVernierDrawers$State;" ∈ TT) (hdg : decode cc pc = .ok (.putfield idx, 3))
    (kk : ∀ (H1 : Heap) (locs1 : List Loc) (v1 : vSt), v1 = u2 v r 0 (Int32.ofNat q) → Hp G da v1 x H1 → va_S (gA G) s.heap H1 locs1 → W p l e R s m args below meth c H1 locs1 cells slots Q (F0 m (pc + 3) ls rest)) :
    W p l e R s m args below meth c H locs cells slots Q (F0 m pc ls (.ref (ga G q) :: .ref (ga G r) :: rest)) := by
  have hz : rN (Int32.ofNat q) = q := rN_of (by have := kd_lt (r := q) (by rw [hq]; decide); omega)
  refine pq_any X hH hS (by rw [hk]; decide) (by rw [hk]; decide) (ce_9 hk) rfl inX9 tyX9 tyX9_ok nmX9 0 (by decide) hfl rfl rfl (ty := .object "VernierDrawers$State") (by decide +kernel) rfl rfl (Nat.le_of_ble_eq_true rfl) (fun z => by rw [hk] at z; exact absurd z.1 (by decide)) ?_ hdg kk
  rw [ce_9 hk]
  simp [u2, hz]
theorem qst_26 (X : CX G p s m args c cc nL own) (hH : Hp G da v x H) (hS : va_S (gA G) s.heap H locs) {r q : Nat} (hk : kd r = 26) (hq : kd q = 7) {i : Int32} (hin : vp_in i 4) (hdg : decode cc pc = .ok (.aastore, 1))
    (kk : ∀ (H1 : Heap) (locs1 : List Loc) (v1 : vSt), v1 = u2 v r i.toNatClampNeg (Int32.ofNat q) → Hp G da v1 x H1 → va_S (gA G) s.heap H1 locs1 → W p l e R s m args below meth c H1 locs1 cells slots Q (F0 m (pc + 1) ls rest)) :
    W p l e R s m args below meth c H locs cells slots Q (F0 m pc ls (.ref (ga G q) :: .int i :: .ref (ga G r) :: rest)) := by
  have hz : rN (Int32.ofNat q) = q := rN_of (by have := kd_lt (r := q) (by rw [hq]; decide); omega)
  obtain ⟨hx, hb, -, hown, hts, hT, -⟩ := X
  obtain ⟨j, hj⟩ := rol_at (r := r) (by rw [hk]; decide)
  obtain ⟨jq, hjq⟩ := rol_at (r := q) (by rw [hq]; decide)
  have hg := wl_get (G := G) (da := da) (v := v) (x := x) hj
  have hgq := wl_get (G := G) (da := da) (v := v) (x := x) hjq
  rw [ce_26 hk, adr_st hk (by decide)] at hg
  rw [ce_7 hq, adr_st hq (by decide)] at hgq
  refine va_astq hx hb hT.1 hH.1 hH.2 hS j 8 jq 7 (f := fun i => some (ga G (rN (v r i)))) hg rfl hgq rfl hin hdg (fun H1 locs1 hP hD hS1 => ?_)
  have hn2 : cE G da (u2 v r i.toNatClampNeg (Int32.ofNat q)) x r = .inl (gc G 8, 4, .inr (.inr (.inr (.inr (va_up (fun i => some (ga G (rN (v r i)))) i.toNatClampNeg (some (ga G q))))))) := by
    rw [ce_26 hk]
    unfold aQ
    congr 7
    funext t
    by_cases ht : t = i.toNatClampNeg
    · subst ht
      simp [u2, va_up, hz]
    · simp [u2, va_up, ht]
  have hw := wl_set (G := G) (da := da) (v := v) (v' := u2 v r i.toNatClampNeg (Int32.ofNat q)) (x := x) (x' := x) hj hn2 (fun q hq => cE_u2 (fun z => by rw [hk] at z; exact absurd z.1 (by decide)) hq)
  rw [adr_st hk (by decide)] at hw
  rw [hw] at hP hD
  exact kk H1 locs1 _ rfl ⟨hP, hD⟩ hS1
end R3
