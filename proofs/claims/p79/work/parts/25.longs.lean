/-! LONGS: the table's rows, the law's own rows. -/
def xu (x : gX) (r k : Nat) (y : Int64) : gX := (fun q j => if q = r ∧ j = k then y else x.1 q j, x.2)
def xd (x : gX) (k : Nat) (y : UInt64) : gX := (x.1, fun j => if j = k then y else x.2 j)
theorem cE_x {G : gG} {da : Nat → Nat} {v : vSt} {x x' : gX} {q : Nat} (h1 : x'.1 q = x.1 q) (h2 : kd q = 35 → x'.2 = x.2) : cE G da v x' q = cE G da v x q := by
  unfold cE
  split <;> first | rfl | (rw [h1]; done) | (rename_i hk; rw [h2 hk])
theorem xu_n {x : gX} {r k q : Nat} {y : Int64} (h : q ≠ r) : (xu x r k y).1 q = x.1 q := funext fun _ => if_neg (fun z => h z.1)
section L25
variable {p : Program} {l : Launch} {e : Env} {R : Room} {s : State} {m : MethodId} {args : Array Value} {below : List Frame} {meth : Method} {c : Code} {H : Heap} {locs : List Loc} {cells slots : Nat} {Q : State → Prop}
variable {cc : ByteArray} {pc nL : Nat} {ls : Array Slot} {rest : List Value} {G : gG} {own : String} {da : Nat → Nat} {v : vSt} {x : gX} {r : Nat}
theorem lald_any (X : CX G p s m args c cc nL own) (hH : Hp G da v x H) {n : Nat} (h99 : kd r ≠ 99) (h23 : kd r ≠ 23) (he : cE G da v x r = aJ (gc G 1) n (x.1 r)) {i : Int32} (hin : vp_in i n) (hdg : decode cc pc = .ok (.laload, 1))
    (kk : W p l e R s m args below meth c H locs cells slots Q (F0 m (pc + 1) ls (.long (x.1 r i.toNatClampNeg) :: rest))) : W p l e R s m args below meth c H locs cells slots Q (F0 m pc ls (.int i :: .ref (ga G r) :: rest)) := by
  obtain ⟨hx, hb, -, hown, hts, hT, -⟩ := X
  have hP := hH.get h99
  rw [he, show adr G da r = ga G r from if_neg h23] at hP
  exact va_lald hx hb hT.1 hP 0 1 (f := x.1 r) rfl rfl hin hdg kk
theorem last_any (X : CX G p s m args c cc nL own) (hH : Hp G da v x H) (hS : va_S (gA G) s.heap H locs) {n : Nat} (h99 : kd r ≠ 99) (h23 : kd r ≠ 23) (he : ∀ x : gX, cE G da v x r = aJ (gc G 1) n (x.1 r)) {i : Int32} {y : Int64} (hin : vp_in i n) (hdg : decode cc pc = .ok (.lastore, 1))
    (kk : ∀ (H1 : Heap) (locs1 : List Loc) (x1 : gX), x1 = xu x r i.toNatClampNeg y → Hp G da v x1 H1 → va_S (gA G) s.heap H1 locs1 → W p l e R s m args below meth c H1 locs1 cells slots Q (F0 m (pc + 1) ls rest)) :
    W p l e R s m args below meth c H locs cells slots Q (F0 m pc ls (.long y :: .int i :: .ref (ga G r) :: rest)) := by
  obtain ⟨hx, hb, -, hown, hts, hT, -⟩ := X
  obtain ⟨k, hi⟩ := rol_at h99
  have ha : adr G da r = ga G r := if_neg h23
  have hg := wl_get (G := G) (da := da) (v := v) (x := x) hi
  rw [he, ha] at hg
  refine va_last hx hb hT.1 hH.1 hH.2 hS k 1 (f := x.1 r) hg rfl hin hdg (fun H1 locs1 hP hD hS1 => ?_)
  have hw := wl_set (G := G) (da := da) (v := v) (v' := v) (x := x) (x' := xu x r i.toNatClampNeg y) (e := aJ (gc G 1) n ((xu x r i.toNatClampNeg y).1 r)) hi (he _) (fun q hq => cE_x (xu_n hq) (fun _ => rfl))
  rw [ha] at hw
  have hf : (xu x r i.toNatClampNeg y).1 r = vp_updL (x.1 r) i.toNatClampNeg y := by
    funext j
    simp [xu, vp_updL]
  rw [hf] at hw
  refine kk H1 locs1 _ rfl ⟨?_, ?_⟩ hS1
  · rw [← hw]
    exact hP
  · rw [← hw]
    exact hD
theorem lald_29 (X : CX G p s m args c cc nL own) (hH : Hp G da v x H) (hk : kd r = 29) {i : Int32} (hin : vp_in i 235) (hdg : decode cc pc = .ok (.laload, 1))
    (kk : W p l e R s m args below meth c H locs cells slots Q (F0 m (pc + 1) ls (.long (x.1 r i.toNatClampNeg) :: rest))) : W p l e R s m args below meth c H locs cells slots Q (F0 m pc ls (.int i :: .ref (ga G r) :: rest)) := lald_any X hH (by rw [hk]; decide) (by rw [hk]; decide) (ce_29 hk) hin hdg kk
theorem lald_34 (X : CX G p s m args c cc nL own) (hH : Hp G da v x H) (hk : kd r = 34) {i : Int32} (hin : vp_in i 1) (hdg : decode cc pc = .ok (.laload, 1))
    (kk : W p l e R s m args below meth c H locs cells slots Q (F0 m (pc + 1) ls (.long (x.1 r i.toNatClampNeg) :: rest))) : W p l e R s m args below meth c H locs cells slots Q (F0 m pc ls (.int i :: .ref (ga G r) :: rest)) := lald_any X hH (by rw [hk]; decide) (by rw [hk]; decide) (ce_34 hk) hin hdg kk
theorem last_29 (X : CX G p s m args c cc nL own) (hH : Hp G da v x H) (hS : va_S (gA G) s.heap H locs) (hk : kd r = 29) {i : Int32} {y : Int64} (hin : vp_in i 235) (hdg : decode cc pc = .ok (.lastore, 1))
    (kk : ∀ (H1 : Heap) (locs1 : List Loc) (x1 : gX), x1 = xu x r i.toNatClampNeg y → Hp G da v x1 H1 → va_S (gA G) s.heap H1 locs1 → W p l e R s m args below meth c H1 locs1 cells slots Q (F0 m (pc + 1) ls rest)) :
    W p l e R s m args below meth c H locs cells slots Q (F0 m pc ls (.long y :: .int i :: .ref (ga G r) :: rest)) := last_any X hH hS (by rw [hk]; decide) (by rw [hk]; decide) (fun _ => ce_29 hk) hin hdg kk
theorem last_34 (X : CX G p s m args c cc nL own) (hH : Hp G da v x H) (hS : va_S (gA G) s.heap H locs) (hk : kd r = 34) {i : Int32} {y : Int64} (hin : vp_in i 1) (hdg : decode cc pc = .ok (.lastore, 1))
    (kk : ∀ (H1 : Heap) (locs1 : List Loc) (x1 : gX), x1 = xu x r i.toNatClampNeg y → Hp G da v x1 H1 → va_S (gA G) s.heap H1 locs1 → W p l e R s m args below meth c H1 locs1 cells slots Q (F0 m (pc + 1) ls rest)) :
    W p l e R s m args below meth c H locs cells slots Q (F0 m pc ls (.long y :: .int i :: .ref (ga G r) :: rest)) := last_any X hH hS (by rw [hk]; decide) (by rw [hk]; decide) (fun _ => ce_34 hk) hin hdg kk
theorem qld_28 (X : CX G p s m args c cc nL own) (hH : Hp G da v x H) (hk : kd r = 28) {i : Int32} (hin : vp_in i 6) (hdg : decode cc pc = .ok (.aaload, 1))
    (kk : W p l e R s m args below meth c H locs cells slots Q (F0 m (pc + 1) ls (.ref (ga G (455 + i.toNatClampNeg)) :: rest))) : W p l e R s m args below meth c H locs cells slots Q (F0 m pc ls (.int i :: .ref (ga G r) :: rest)) := by
  obtain ⟨hx, hb, -, hown, hts, hT, -⟩ := X
  have hP := hH.get (r := r) (by rw [hk]; decide)
  rw [ce_28 hk, adr_st hk (by decide)] at hP
  have hlt : i.toNatClampNeg < 6 := Nat.not_le.mp fun q => hin (Or.inr q)
  exact W.aald (v := .ref (ga G (455 + i.toNatClampNeg))) (ty := .array .long) hx hb (hP 0 _ rfl) ((hT.1.2 9 (gc G 9, .array .long) rfl).1 6 (fun j => va_rf (some (ga G (455 + j))))) rfl (fun q => by cases q) (by show ¬ (i < 0 ∨ (arrV _ _ _).slots.size ≤ _); rw [arrV_size]; exact hin) (by show (arrV _ _ _).slots[_]? = _; rw [arrV_read _ _ hlt]; rfl) rfl rfl hdg kk
end L25
def lsl (a : Int64) (b : Int32) : Int64 := a <<< (b.toInt64 &&& 63)
def lsr (a : Int64) (b : Int32) : Int64 := (a.toUInt64 >>> (b.toInt64.toUInt64 &&& Int64.toUInt64 63)).toInt64
theorem hp_x {G : gG} {da : Nat → Nat} {v : vSt} {x x' : gX} {H : Heap} (h : x' = x) (hH : Hp G da v x H) : Hp G da v x' H := h ▸ hH
