/-! the middles change nothing that stays. -/
theorem stX10_middleOf (r : Nat) (p1 : Int32) (v : vSt) : (fX10_middleOf r p1 v).2.2 = v := by
  unfold fX10_middleOf
  try dsimp only
  (repeat' split) <;> rfl
theorem kk36_X10_middleOf (r : Nat) (p1 : Int32) (v : vSt) : kkX10_middleOf r p1 v = 36 := by
  unfold kkX10_middleOf
  rw [stX10_middleOf]
  omega
theorem kU_X10_middleOf {p : Program} {l : Launch} {e : Env} {R : Room} {s : State} {m : MethodId} {args : Array Value} {below : List Frame} {meth : Method} {c : Code} {H : Heap} {locs : List Loc} {cells slots : Nat} {Q : State → Prop} {cc : ByteArray} {pc nL : Nat} {ls : Array Slot} {rest : List Value} {G : gG} {own : String} {da : Nat → Nat} {v : vSt} {x : gX} (hst : l.stackTraces = false) (X : CX G p s m args c cc nL own) (hS : va_S (gA G) s.heap H locs) (hH : Hp G da v x H) {r : Nat} (hk_r : kd r = 10) {p1 : Int32} (ho : oX10_middleOf r p1 v) {idx : Nat} (hml : Cond.methodLink own idx yX10_middleOf ∈ TT) (hls : ls.size = nL) (hsum : (rest.map fun v => v.category).sum ≤ 8) (hR : (rmX10_middleOf r p1 v).frames + 1 ≤ R.frames ∧ 8 + (2 + 11) + (rmX10_middleOf r p1 v).locals ≤ R.locals) (hcs : cells + 36 ≤ R.cells ∧ slots + 36 ≤ R.slots) (hdg : decode cc pc = .ok (.invokevirtual idx, 3)) (kx : ¬ (fX10_middleOf r p1 v).1 = 0 → ∀ (d : Nat → Nat) (ce : Cell) (q9 : Addr) (H1 : Heap) (locs1 : List Loc), Hp G d v x H1 → va_S (gA G) s.heap H1 locs1 → H1[q9]? = some ce → ce.vm = .none → s.vm.findClass (exN (fX10_middleOf r p1 v).1) = some ce.cls → vx_W p l e R s m args below meth c H1 locs1 (cells + 36) (slots + 36) Q (F0 m pc ls rest) q9) (kk : (fX10_middleOf r p1 v).1 = 0 → ∀ (d : Nat → Nat) (H1 : Heap) (locs1 : List Loc), Hp G d v x H1 → va_S (gA G) s.heap H1 locs1 → W p l e R s m args below meth c H1 locs1 (cells + 36) (slots + 36) Q (F0 m (pc + 3) ls (.int (fX10_middleOf r p1 v).2.1 :: rest))) : W p l e R s m args below meth c H locs cells slots Q (F0 m pc ls (.int p1 :: .ref (ga G r) :: rest)) := by
  have e := kk36_X10_middleOf r p1 v
  refine k_X10_middleOf hst X hS hH hk_r ho hml hls hsum hR (by rw [e]; exact hcs) hdg (fun h d ce q9 H1 locs1 v1 e1 hH1 hS1 g1 g2 g3 => ?_) (fun h d H1 locs1 v1 e1 hH1 hS1 => ?_)
  · rw [stX10_middleOf] at e1
    subst e1
    rw [e]
    exact kx h d ce q9 H1 locs1 hH1 hS1 g1 g2 g3
  · rw [stX10_middleOf] at e1
    subst e1
    rw [e]
    exact kk h d H1 locs1 hH1 hS1
theorem stX10_middleByTaking (r : Nat) (p1 : Int32) (v : vSt) : (fX10_middleByTaking r p1 v).2.2 = v := by
  unfold fX10_middleByTaking
  try dsimp only
  (repeat' split) <;> rfl
theorem kk36_X10_middleByTaking (r : Nat) (p1 : Int32) (v : vSt) : kkX10_middleByTaking r p1 v = 36 := by
  unfold kkX10_middleByTaking
  rw [stX10_middleByTaking]
  omega
theorem kU_X10_middleByTaking {p : Program} {l : Launch} {e : Env} {R : Room} {s : State} {m : MethodId} {args : Array Value} {below : List Frame} {meth : Method} {c : Code} {H : Heap} {locs : List Loc} {cells slots : Nat} {Q : State → Prop} {cc : ByteArray} {pc nL : Nat} {ls : Array Slot} {rest : List Value} {G : gG} {own : String} {da : Nat → Nat} {v : vSt} {x : gX} (hst : l.stackTraces = false) (X : CX G p s m args c cc nL own) (hS : va_S (gA G) s.heap H locs) (hH : Hp G da v x H) {r : Nat} (hk_r : kd r = 10) {p1 : Int32} (ho : oX10_middleByTaking r p1 v) {idx : Nat} (hml : Cond.methodLink own idx yX10_middleByTaking ∈ TT) (hls : ls.size = nL) (hsum : (rest.map fun v => v.category).sum ≤ 8) (hR : (rmX10_middleByTaking r p1 v).frames + 1 ≤ R.frames ∧ 8 + (2 + 11) + (rmX10_middleByTaking r p1 v).locals ≤ R.locals) (hcs : cells + 36 ≤ R.cells ∧ slots + 36 ≤ R.slots) (hdg : decode cc pc = .ok (.invokevirtual idx, 3)) (kx : ¬ (fX10_middleByTaking r p1 v).1 = 0 → ∀ (d : Nat → Nat) (ce : Cell) (q9 : Addr) (H1 : Heap) (locs1 : List Loc), Hp G d v x H1 → va_S (gA G) s.heap H1 locs1 → H1[q9]? = some ce → ce.vm = .none → s.vm.findClass (exN (fX10_middleByTaking r p1 v).1) = some ce.cls → vx_W p l e R s m args below meth c H1 locs1 (cells + 36) (slots + 36) Q (F0 m pc ls rest) q9) (kk : (fX10_middleByTaking r p1 v).1 = 0 → ∀ (d : Nat → Nat) (H1 : Heap) (locs1 : List Loc), Hp G d v x H1 → va_S (gA G) s.heap H1 locs1 → W p l e R s m args below meth c H1 locs1 (cells + 36) (slots + 36) Q (F0 m (pc + 3) ls (.int (fX10_middleByTaking r p1 v).2.1 :: rest))) : W p l e R s m args below meth c H locs cells slots Q (F0 m pc ls (.int p1 :: .ref (ga G r) :: rest)) := by
  have e := kk36_X10_middleByTaking r p1 v
  refine k_X10_middleByTaking hst X hS hH hk_r ho hml hls hsum hR (by rw [e]; exact hcs) hdg (fun h d ce q9 H1 locs1 v1 e1 hH1 hS1 g1 g2 g3 => ?_) (fun h d H1 locs1 v1 e1 hH1 hS1 => ?_)
  · rw [stX10_middleByTaking] at e1
    subst e1
    rw [e]
    exact kx h d ce q9 H1 locs1 hH1 hS1 g1 g2 g3
  · rw [stX10_middleByTaking] at e1
    subst e1
    rw [e]
    exact kk h d H1 locs1 hH1 hS1
theorem tp5_0 {α0 α1 α2 α3 α4 : Type} {x : α0 × α1 × α2 × α3 × α4} {a0 : α0} {a1 : α1} {a2 : α2} {a3 : α3} {a4 : α4} (h : x = (a0, a1, a2, a3, a4)) : a0 = x.1 := by rw [h]
theorem tp5_1 {α0 α1 α2 α3 α4 : Type} {x : α0 × α1 × α2 × α3 × α4} {a0 : α0} {a1 : α1} {a2 : α2} {a3 : α3} {a4 : α4} (h : x = (a0, a1, a2, a3, a4)) : a1 = x.2.1 := by rw [h]
theorem tp5_2 {α0 α1 α2 α3 α4 : Type} {x : α0 × α1 × α2 × α3 × α4} {a0 : α0} {a1 : α1} {a2 : α2} {a3 : α3} {a4 : α4} (h : x = (a0, a1, a2, a3, a4)) : a2 = x.2.2.1 := by rw [h]
theorem tp5_3 {α0 α1 α2 α3 α4 : Type} {x : α0 × α1 × α2 × α3 × α4} {a0 : α0} {a1 : α1} {a2 : α2} {a3 : α3} {a4 : α4} (h : x = (a0, a1, a2, a3, a4)) : a3 = x.2.2.2.1 := by rw [h]
theorem tp5_4 {α0 α1 α2 α3 α4 : Type} {x : α0 × α1 × α2 × α3 × α4} {a0 : α0} {a1 : α1} {a2 : α2} {a3 : α3} {a4 : α4} (h : x = (a0, a1, a2, a3, a4)) : a4 = x.2.2.2.2 := by rw [h]
theorem tp6_0 {α0 α1 α2 α3 α4 α5 : Type} {x : α0 × α1 × α2 × α3 × α4 × α5} {a0 : α0} {a1 : α1} {a2 : α2} {a3 : α3} {a4 : α4} {a5 : α5} (h : x = (a0, a1, a2, a3, a4, a5)) : a0 = x.1 := by rw [h]
theorem tp6_1 {α0 α1 α2 α3 α4 α5 : Type} {x : α0 × α1 × α2 × α3 × α4 × α5} {a0 : α0} {a1 : α1} {a2 : α2} {a3 : α3} {a4 : α4} {a5 : α5} (h : x = (a0, a1, a2, a3, a4, a5)) : a1 = x.2.1 := by rw [h]
theorem tp6_2 {α0 α1 α2 α3 α4 α5 : Type} {x : α0 × α1 × α2 × α3 × α4 × α5} {a0 : α0} {a1 : α1} {a2 : α2} {a3 : α3} {a4 : α4} {a5 : α5} (h : x = (a0, a1, a2, a3, a4, a5)) : a2 = x.2.2.1 := by rw [h]
theorem tp6_3 {α0 α1 α2 α3 α4 α5 : Type} {x : α0 × α1 × α2 × α3 × α4 × α5} {a0 : α0} {a1 : α1} {a2 : α2} {a3 : α3} {a4 : α4} {a5 : α5} (h : x = (a0, a1, a2, a3, a4, a5)) : a3 = x.2.2.2.1 := by rw [h]
theorem tp6_4 {α0 α1 α2 α3 α4 α5 : Type} {x : α0 × α1 × α2 × α3 × α4 × α5} {a0 : α0} {a1 : α1} {a2 : α2} {a3 : α3} {a4 : α4} {a5 : α5} (h : x = (a0, a1, a2, a3, a4, a5)) : a4 = x.2.2.2.2.1 := by rw [h]
theorem tp6_5 {α0 α1 α2 α3 α4 α5 : Type} {x : α0 × α1 × α2 × α3 × α4 × α5} {a0 : α0} {a1 : α1} {a2 : α2} {a3 : α3} {a4 : α4} {a5 : α5} (h : x = (a0, a1, a2, a3, a4, a5)) : a5 = x.2.2.2.2.2 := by rw [h]
theorem tp7_0 {α0 α1 α2 α3 α4 α5 α6 : Type} {x : α0 × α1 × α2 × α3 × α4 × α5 × α6} {a0 : α0} {a1 : α1} {a2 : α2} {a3 : α3} {a4 : α4} {a5 : α5} {a6 : α6} (h : x = (a0, a1, a2, a3, a4, a5, a6)) : a0 = x.1 := by rw [h]
theorem tp7_1 {α0 α1 α2 α3 α4 α5 α6 : Type} {x : α0 × α1 × α2 × α3 × α4 × α5 × α6} {a0 : α0} {a1 : α1} {a2 : α2} {a3 : α3} {a4 : α4} {a5 : α5} {a6 : α6} (h : x = (a0, a1, a2, a3, a4, a5, a6)) : a1 = x.2.1 := by rw [h]
theorem tp7_2 {α0 α1 α2 α3 α4 α5 α6 : Type} {x : α0 × α1 × α2 × α3 × α4 × α5 × α6} {a0 : α0} {a1 : α1} {a2 : α2} {a3 : α3} {a4 : α4} {a5 : α5} {a6 : α6} (h : x = (a0, a1, a2, a3, a4, a5, a6)) : a2 = x.2.2.1 := by rw [h]
theorem tp7_3 {α0 α1 α2 α3 α4 α5 α6 : Type} {x : α0 × α1 × α2 × α3 × α4 × α5 × α6} {a0 : α0} {a1 : α1} {a2 : α2} {a3 : α3} {a4 : α4} {a5 : α5} {a6 : α6} (h : x = (a0, a1, a2, a3, a4, a5, a6)) : a3 = x.2.2.2.1 := by rw [h]
theorem tp7_4 {α0 α1 α2 α3 α4 α5 α6 : Type} {x : α0 × α1 × α2 × α3 × α4 × α5 × α6} {a0 : α0} {a1 : α1} {a2 : α2} {a3 : α3} {a4 : α4} {a5 : α5} {a6 : α6} (h : x = (a0, a1, a2, a3, a4, a5, a6)) : a4 = x.2.2.2.2.1 := by rw [h]
theorem tp7_5 {α0 α1 α2 α3 α4 α5 α6 : Type} {x : α0 × α1 × α2 × α3 × α4 × α5 × α6} {a0 : α0} {a1 : α1} {a2 : α2} {a3 : α3} {a4 : α4} {a5 : α5} {a6 : α6} (h : x = (a0, a1, a2, a3, a4, a5, a6)) : a5 = x.2.2.2.2.2.1 := by rw [h]
theorem tp7_6 {α0 α1 α2 α3 α4 α5 α6 : Type} {x : α0 × α1 × α2 × α3 × α4 × α5 × α6} {a0 : α0} {a1 : α1} {a2 : α2} {a3 : α3} {a4 : α4} {a5 : α5} {a6 : α6} (h : x = (a0, a1, a2, a3, a4, a5, a6)) : a6 = x.2.2.2.2.2.2 := by rw [h]
