/-! WHAT A METHOD MAY LEAN ON (Tb), and the rows of the world: fields, arrays, calls, ends. -/
def tbL : Nat → Int32 := fun j => ([10, 20, 50, 50, 100] : List Int32).getD j 0
def tbM : Nat → Int32 := fun j => ([100, 100, 100, 50, 100] : List Int32).getD j 0
def tbG : Nat → Int32 := fun j => ([15000, 15000, 15000, 2500, 2500] : List Int32).getD j 0
def tbS : Nat → Int32 := fun j => ([12, 19, 23] : List Int32).getD j 0
def tbR : Nat → Int32 := fun j => ([3, 2, 1] : List Int32).getD j 0
def tbO : Nat → Int32 := fun j => ([2, 2, 2, 1, 1, 0, 0] : List Int32).getD j 0
def tysL (G : gG) : List (ClassId × FieldType) := [(gc G 0, .int), (gc G 1, .long), (gc G 2, .char), (gc G 3, .byte), (gc G 4, .byte), (gc G 5, .object "VernierDrawers$Tool"), (gc G 6, .object "VernierDrawers$Block"), (gc G 7, .object "VernierDrawers$PieceType"), (gc G 8, .object "VernierDrawers$State"), (gc G 9, .array .long)]
def nwk : Cond → Bool
  | .fieldLinkNest .. => true
  | .methodLinkNest .. => true
  | .declares .. => true
  | .castable .. => true
  | _ => false
theorem nwk_tab {w : Cond} (h : nwk w = true) : w.onTables = true := by
  cases w <;> first | rfl | exact Bool.noConfusion (show false = true from h)
theorem nwk_warm {w : Cond} (h : nwk w = true) {s U : State} (hW : s.WarmedH U.vm) (hZ : va_Nw w s) : va_Nw w U := by
  cases w <;> first | exact va_Nw.warmF hW hZ | exact va_Nw.warmM hW hZ | exact va_Nw.warmD hW hZ | exact va_Nw.warmC hW hZ | exact Bool.noConfusion (show false = true from h)
def stA (G : gG) (U : State) (i n : Nat) (nm : String) (f : Nat → Int32) : Prop := va_Z RX10 nm "[I" (.ref (gs G i)) (gA G) U U.heap ∧ va_T .int (gs G i) n (fun j => .int (f j)) (gA G) U U.heap
def Tb (G : gG) (U : State) : Prop :=
  va_K (gD G) vwCl (tysL G) U ∧
  (stA G U 0 5 "LINES" tbL ∧ stA G U 1 5 "MARK_DISTANCES" tbM ∧ stA G U 2 5 "GREATEST_MARKS" tbG ∧ stA G U 3 3 "STRETCH_NUMBERS" tbS ∧ stA G U 4 3 "RUBBINGS" tbR ∧ stA G U 5 7 "ORDER_NUMBERS" tbO) ∧
  (∀ w ∈ lw_tbl, nwk w = true → va_Nw w U) ∧
  (∀ own k tx, Cond.stringRef own k tx ∈ lw_tbl → ∃ a, vk_R own k tx a U) ∧
  (vk_R RX3 28 "mcpjfud" (gs G 10) U ∧ vk_S 1 [7] [[109, 99, 112, 106, 102, 117, 100]] (fun _ => gs G 10) (fun _ => gs G 11) (gA G) U U.heap ∧ va_Z "java/lang/String" "COMPACT_STRINGS" "Z" (.int 1) (gA G) U U.heap) ∧
  vx_Zq Bundle.tN "UNASSIGNED_STACK" Bundle.steD (gA G) U U.heap ∧ vx_Zq Bundle.tN "SUPPRESSED_SENTINEL" Bundle.listD (gA G) U U.heap
theorem stA.to {G : gG} {s U : State} {i n : Nat} {nm : String} {f : Nat → Int32} (h : stA G s i n nm f) (hv : s.vm.Alike U.vm) (hh : ∀ a : Nat, a < s.heap.size → ¬ gA G a → U.heap[a]? = s.heap[a]?) : stA G U i n nm f :=
  ⟨(h.1.moved hv).kept hh, (h.2.moved hv).kept hh⟩
theorem Tb.warm {G : gG} {s U : State} (h : Tb G s) (hW : s.WarmedH U.vm) (hh : ∀ a : Nat, a < s.heap.size → ¬ gA G a → U.heap[a]? = s.heap[a]?) : Tb G U := by
  obtain ⟨h1, ⟨a1, a2, a3, a4, a5, a6⟩, h3, h4, ⟨b1, b2, b3⟩, c1, c2⟩ := h
  have hv := hW.alike
  exact ⟨h1.moved hv, ⟨a1.to hv hh, a2.to hv hh, a3.to hv hh, a4.to hv hh, a5.to hv hh, a6.to hv hh⟩, fun w hw hk => nwk_warm hk hW (h3 w hw hk),
    fun own k tx hm => (h4 own k tx hm).imp fun a ha => ha.warm hW, ⟨b1.warm hW, (b2.moved hv).kept hh, (b3.moved hv).kept hh⟩, (c1.moved hv).kept hh, (c2.moved hv).kept hh⟩
theorem Tb.same {G : gG} {s U : State} (h : Tb G s) (hv : U.vm = s.vm) (hh : U.heap = s.heap) : Tb G U := by
  obtain ⟨h1, ⟨a1, a2, a3, a4, a5, a6⟩, h3, h4, ⟨b1, b2, b3⟩, c1, c2⟩ := h
  have ha : s.vm.Alike U.vm := by rw [hv]; exact Vm.Alike.refl _
  have hk : ∀ a : Nat, a < s.heap.size → ¬ gA G a → U.heap[a]? = s.heap[a]? := fun a _ _ => by rw [hh]
  exact ⟨h1.moved ha, ⟨a1.to ha hk, a2.to ha hk, a3.to ha hk, a4.to ha hk, a5.to ha hk, a6.to ha hk⟩, fun w hw hk => (h3 w hw hk).same (nwk_tab hk) hv.symm,
    fun own k tx hm => (h4 own k tx hm).imp fun a ha => ha.same hv, ⟨b1.same hv, (b2.moved ha).kept hk, (b3.moved ha).kept hk⟩, (c1.moved ha).kept hk, (c2.moved ha).kept hk⟩
/-- what stands in every walk -/
def CX (G : gG) (p : Program) (s : State) (m : MethodId) (args : Array Value) (c : Code) (cc : ByteArray) (nL : Nat) (own : String) : Prop :=
  p.tables.exec = Jvm.exec ∧ c.code = cc ∧ c.maxLocals = nL ∧ s.vm.findClass own = some m.cls ∧ (∀ w ∈ TT, w.before args s = true) ∧ Tb G s ∧ gb G ≤ s.heap.size
/-- the words of a method: its own code, and the common list -/
abbrev wc (y : MethodName) (b : ByteArray) (n : Nat) (ret : Option FieldType) : List Cond := .code y b n ret :: TT
theorem gT {y : MethodName} {b : ByteArray} {n : Nat} {ret : Option FieldType} (h : Cond.code y b n ret ∈ TT) : GoodIn TT (wc y b n ret) := fun w hw =>
  (List.mem_cons.mp hw).elim (fun e => e ▸ ⟨h, TT_good _ h⟩) (fun h => ⟨h, TT_good _ h⟩)
theorem gT1 {a : Cond} {L : List Cond} (h : a ∈ TT) (hL : GoodIn TT L) : GoodIn TT (a :: L) := fun w hw =>
  (List.mem_cons.mp hw).elim (fun e => e ▸ ⟨h, TT_good _ h⟩) (fun h => hL w h)
def pW (G : gG) (da : Nat → Nat) (v : vSt) (x : gX) (U : State) : Prop := Tb G U ∧ gb G ≤ U.heap.size ∧ Hp G da v x U.heap
def pT (G : gG) (U : State) : Prop := Tb G U ∧ gb G ≤ U.heap.size
theorem pT_bl {G : gG} {av : List Value} {R : State → Prop} (hR : ∀ (U : State) (g : JFrame) (mk : MethodId) (a : Array Value), R U → R (U.calling g mk a)) : FrameBlind (va_Pc av (fun U => pT G U ∧ R U)) :=
  fun a U g mk h => ⟨h.1, ⟨h.2.1.1.same rfl rfl, h.2.1.2⟩, hR U g mk a h.2.2⟩
theorem pW_bl {G : gG} {da : Nat → Nat} {v : vSt} {x : gX} {av : List Value} : FrameBlind (va_Pc av (pW G da v x)) :=
  fun a U g mk h => ⟨h.1, h.2.1.same rfl rfl, h.2.2.1, h.2.2.2⟩
section R1
variable {p : Program} {l : Launch} {e : Env} {R : Room} {s : State} {m : MethodId} {args : Array Value} {below : List Frame} {meth : Method} {c : Code} {H : Heap} {locs : List Loc} {cells slots : Nat} {Q : State → Prop}
variable {cc : ByteArray} {pc nL : Nat} {ls : Array Slot} {rest st0 : List Value} {G : gG} {own : String} {da : Nat → Nat} {v : vSt} {x : gX}
/-- a field of a role is read -/
theorem r_get (X : CX G p s m args c cc nL own) (hH : Hp G da v x H) {r ci index : Nat} {C : String} {T : u_T} {N : Nat} {fs : List Value} (hr : kd r ≠ 99) (h23 : kd r ≠ 23) (he : cE G da v x r = .inr (ci, fs)) (hc : vwCl[ci]? = some (C, T, N)) (hin : ∀ w ∈ u_ws C T N, w ∈ TT)
    (k : Nat) (hk : k < N) {ref : String} (hlink : Cond.fieldLink own index ref (T k).2.1 (T k).2.2.1 ∈ TT) (href : ref = (T k).1) {y : Value} (hv : fs[k]? = some y) (hdg : decode cc pc = .ok (.getfield index, 3))
    (kk : W p l e R s m args below meth c H locs cells slots Q (F0 m (pc + 3) ls (y :: rest))) : W p l e R s m args below meth c H locs cells slots Q (F0 m pc ls (.ref (ga G r) :: rest)) := by
  obtain ⟨hx, hb, -, hown, hts, hT, -⟩ := X
  have hP := hH.get hr
  rw [he, show adr G da r = ga G r from if_neg h23] at hP
  subst href
  exact va_get hx hb hts hin hown hT.1 hP 0 rfl hc k hk (hts _ hlink) (fun _ h => h) hv hdg kk
/-- an int field of a role is written -/
theorem r_put (X : CX G p s m args c cc nL own) (hH : Hp G da v x H) (hS : va_S (gA G) s.heap H locs) {r ci index : Nat} {C : String} {T : u_T} {N : Nat} {fs : List Value} (hr : kd r ≠ 99) (h23 : kd r ≠ 23) (he : cE G da v x r = .inr (ci, fs)) (hc : vwCl[ci]? = some (C, T, N)) (hin : ∀ w ∈ u_ws C T N, w ∈ TT)
    (ty0 : Nat → FieldType) (hty : ∀ k, k < N → parseFieldDescriptor (T k).2.2.1 = some (ty0 k)) (hnm : ∀ a, a < N → ∀ b, b < N → a ≠ b → (T a).2.1 ≠ (T b).2.1)
    (k : Nat) (hk : k < N) {ref : String} (hlink : Cond.fieldLink own index ref (T k).2.1 (T k).2.2.1 ∈ TT) (href : ref = (T k).1) (hfin : (T k).2.2.2 = false) {ty : FieldType} {y : Int32} (hd : parseFieldDescriptor (T k).2.2.1 = some ty) (hn : narrow ty (.int y) = .int y) (hfit : fits ty (.int y) = true) (hl : k < fs.length)
    (hk4 : ¬ ((kd r = 5 ∨ kd r = 15) ∧ 4 ≤ k)) (hnew : cE G da (u2 v r k y) x r = .inr (ci, fs.set k (.int y))) (hdg : decode cc pc = .ok (.putfield index, 3))
    (kk : ∀ (H1 : Heap) (locs1 : List Loc) (v1 : vSt), v1 = u2 v r k y → Hp G da v1 x H1 → va_S (gA G) s.heap H1 locs1 → W p l e R s m args below meth c H1 locs1 cells slots Q (F0 m (pc + 3) ls rest)) :
    W p l e R s m args below meth c H locs cells slots Q (F0 m pc ls (.int y :: .ref (ga G r) :: rest)) := by
  obtain ⟨hx, hb, -, hown, hts, hT, -⟩ := X
  obtain ⟨i, hi⟩ := rol_at hr
  have hg := wl_get (G := G) (da := da) (v := v) (x := x) hi
  have ha : adr G da r = ga G r := if_neg h23
  rw [he, ha] at hg
  subst href
  refine va_put hx hb hts hin ty0 hty hnm hown hT.1 hH.1 hH.2 hS i hg hc k hk (hts _ hlink) (fun _ h => h) hfin hd hn hfit hl hdg (fun H1 locs1 hP hD hS1 => ?_)
  have hw := wl_set (G := G) (da := da) (v := v) (v' := u2 v r k y) (x := x) (x' := x) hi hnew (fun q hq => cE_u2 hk4 hq)
  rw [ha] at hw
  rw [hw] at hP hD
  exact kk H1 locs1 _ rfl ⟨hP, hD⟩ hS1
/-- a reference out of a row of references -/
theorem r_ald (X : CX G p s m args c cc nL own) (hH : Hp G da v x H) {r t0 n : Nat} {C : String} {cA : ClassId} {f : Nat → Option Nat} (hr : kd r ≠ 99) (h23 : kd r ≠ 23) (he : cE G da v x r = aQ cA n f) (ht : (tysL G)[t0]? = some (cA, .object C)) {i : Int32} (hin : vp_in i n) {a : Nat} (hf : f i.toNatClampNeg = some a) (hdg : decode cc pc = .ok (.aaload, 1))
    (kk : W p l e R s m args below meth c H locs cells slots Q (F0 m (pc + 1) ls (.ref a :: rest))) : W p l e R s m args below meth c H locs cells slots Q (F0 m pc ls (.int i :: .ref (ga G r) :: rest)) := by
  obtain ⟨hx, hb, -, hown, hts, hT, -⟩ := X
  have hP := hH.get hr
  rw [he, show adr G da r = ga G r from if_neg h23] at hP
  refine va_aldq hx hb hT.1 hP 0 t0 (f := f) rfl ht hin hdg ?_
  rw [hf]
  exact kk
/-- the length of a row -/
theorem r_len (X : CX G p s m args c cc nL own) (hH : Hp G da v x H) {r t0 : Nat} {cA : ClassId} {z : vp_A} {ty : FieldType} (hr : kd r ≠ 99) (he : cE G da v x r = .inl (cA, z)) (ht : (tysL G)[t0]? = some (cA, ty)) {y : Int32} (hy : Int32.ofNat z.1 = y) (hdg : decode cc pc = .ok (.arraylength, 1)) {a : Nat} (ha : a = adr G da r)
    (kk : W p l e R s m args below meth c H locs cells slots Q (F0 m (pc + 1) ls (.int y :: rest))) : W p l e R s m args below meth c H locs cells slots Q (F0 m pc ls (.ref a :: rest)) := by
  obtain ⟨hx, hb, -, hown, hts, hT, -⟩ := X
  have hP := hH.get hr
  rw [he] at hP
  subst ha
  exact va_alen hx hb hT.1 hP 0 t0 rfl ht hy hdg kk
/-- an int out of a row of ints -/
theorem r_iald (X : CX G p s m args c cc nL own) (hH : Hp G da v x H) {r n : Nat} {f : Nat → Int32} (hr : kd r ≠ 99) (he : cE G da v x r = aI (gc G 0) n f) {i : Int32} (hin : vp_in i n) (hdg : decode cc pc = .ok (.iaload, 1)) {a : Nat} (ha : a = adr G da r)
    (kk : W p l e R s m args below meth c H locs cells slots Q (F0 m (pc + 1) ls (.int (f i.toNatClampNeg) :: rest))) : W p l e R s m args below meth c H locs cells slots Q (F0 m pc ls (.int i :: .ref a :: rest)) := by
  obtain ⟨hx, hb, -, hown, hts, hT, -⟩ := X
  have hP := hH.get hr
  rw [he] at hP
  subst ha
  exact va_iald hx hb hT.1 hP 0 0 (f := f) rfl rfl hin hdg kk
/-- an int into a row of ints -/
theorem r_iast (X : CX G p s m args c cc nL own) (hH : Hp G da v x H) (hS : va_S (gA G) s.heap H locs) {r n : Nat} (hr : kd r ≠ 99) (hk4 : ¬ (kd r = 5 ∨ kd r = 15)) (he : cE G da v x r = aI (gc G 0) n (v r)) {i y : Int32} (hin : vp_in i n)
    (hnew : cE G da (u2 v r i.toNatClampNeg y) x r = aI (gc G 0) n (u2 v r i.toNatClampNeg y r)) (hdg : decode cc pc = .ok (.iastore, 1)) {a : Nat} (ha : a = adr G da r)
    (kk : ∀ (H1 : Heap) (locs1 : List Loc) (v1 : vSt), v1 = u2 v r i.toNatClampNeg y → Hp G da v1 x H1 → va_S (gA G) s.heap H1 locs1 → W p l e R s m args below meth c H1 locs1 cells slots Q (F0 m (pc + 1) ls rest)) :
    W p l e R s m args below meth c H locs cells slots Q (F0 m pc ls (.int y :: .int i :: .ref a :: rest)) := by
  obtain ⟨hx, hb, -, hown, hts, hT, -⟩ := X
  obtain ⟨k, hi⟩ := rol_at hr
  have hg := wl_get (G := G) (da := da) (v := v) (x := x) hi
  rw [he] at hg
  subst ha
  refine va_iast hx hb hT.1 hH.1 hH.2 hS k 0 (f := v r) hg rfl hin hdg (fun H1 locs1 hP hD hS1 => ?_)
  have hn2 : cE G da (u2 v r i.toNatClampNeg y) x r = .inl (gc G 0, n, .inl (upd (v r) i.toNatClampNeg y)) := by
    rw [hnew]
    unfold aI
    congr 4
    funext j
    simp [u2, upd]
  have hw := wl_set (G := G) (da := da) (v := v) (v' := u2 v r i.toNatClampNeg y) (x := x) (x' := x) hi hn2 (fun q hq => cE_u2 (fun z => hk4 z.1) hq)
  rw [hw] at hP hD
  exact kk H1 locs1 _ rfl ⟨hP, hD⟩ hS1
/-- an int array that is read alone: of the world, a constant one, or a new one -/
def IA (a n : Nat) (f : Nat → Int32) (U : State) (H : Heap) : Prop := ∃ cell : Cell, H[a]? = some cell ∧ U.isArrayOf cell .int ∧ cell.vm ≠ .unknown ∧ n ≤ cell.slots.size ∧ cell.slots.size.toInt32 = Int32.ofNat n ∧ (∀ j : Nat, j < n → cell.slots[j]? = some (.int (f j))) ∧ n < 2 ^ 31
theorem IA.moved {a n : Nat} {f : Nat → Int32} {u U : State} {H : Heap} (hv : u.vm.Alike U.vm) (h : IA a n f u H) : IA a n f U H := by
  obtain ⟨cell, h1, h2, h3⟩ := h
  exact ⟨cell, h1, State.isArrayOf_alike hv h2, h3⟩
theorem IA.ald (hx : p.tables.exec = Jvm.exec) (hb : c.code = cc) {a n : Nat} {f : Nat → Int32} (h : IA a n f s H) {i : Int32} (h0 : ¬ i < 0) (hin : i < Int32.ofNat n) (hdg : decode cc pc = .ok (.iaload, 1))
    (kk : W p l e R s m args below meth c H locs cells slots Q (F0 m (pc + 1) ls (.int (f i.toNatClampNeg) :: rest))) : W p l e R s m args below meth c H locs cells slots Q (F0 m pc ls (.int i :: .ref a :: rest)) := by
  obtain ⟨cell, h1, h2, h3, h4, h5, h6, h7⟩ := h
  obtain ⟨j, hj, rfl⟩ := nI_of h0
  have hjn : j < n := (nI_ltI hj h7).mp hin
  have e : (nI j).toNatClampNeg = j := nI_clamp hj
  refine W.iald (v := .int (f (nI j).toNatClampNeg)) hx hb h1 h2 h3 ?_ (by rw [e]; exact h6 j hjn) rfl rfl hdg kk
  rw [e]
  exact fun q => q.elim h0 (fun q => absurd (Nat.lt_of_lt_of_le hjn h4) (Nat.not_lt.mpr q))
theorem IA.len (hx : p.tables.exec = Jvm.exec) (hb : c.code = cc) {a n : Nat} {f : Nat → Int32} (h : IA a n f s H) (hdg : decode cc pc = .ok (.arraylength, 1))
    (kk : W p l e R s m args below meth c H locs cells slots Q (F0 m (pc + 1) ls (.int (Int32.ofNat n) :: rest))) : W p l e R s m args below meth c H locs cells slots Q (F0 m pc ls (.ref a :: rest)) := by
  obtain ⟨cell, h1, h2, h3, h4, h5, h6⟩ := h
  exact W.alen hx hb h1 h2 h5 rfl rfl hdg kk
theorem IA.of_st {i n : Nat} {nm : String} {f : Nat → Int32} (h : stA G s i n nm f) (hS : va_S (gA G) s.heap H locs) (hn : n < 2 ^ 31) : IA (gs G i) n f s H := by
  obtain ⟨cell, h1, h2, h3, h4, h5, h6, h7⟩ := h.2
  exact ⟨cell, by rw [hS.2.1 _ (Array.getElem?_eq_some_iff.mp h1).1 h7]; exact h1, h2, h3, h4, h5, h6, hn⟩
theorem IA.of_at {D : va_G} {a n : Nat} {cA : ClassId} {f : Nat → Int32} {tys : List (ClassId × FieldType)} (hK : va_K D vwCl tys s) {t0 : Nat} (ht : tys[t0]? = some (cA, .int)) (h : H[a]? = some (vp_cell cA (n, .inl f))) (hn : n < 2 ^ 31) : IA a n f s H := by
  refine ⟨_, h, (hK.2 t0 _ ht).1 n (fun j => .int (f j)), (fun q => by cases q), ?_, ?_, ?_, hn⟩
  · show n ≤ (arrV _ _ _).slots.size
    rw [arrV_size]
    exact Nat.le_refl _
  · show (arrV _ _ _).slots.size.toInt32 = _
    rw [arrV_size]
  · intro j hj
    show (arrV _ _ _).slots[j]? = _
    rw [arrV_read _ _ hj]
theorem IA.of_r (hT : Tb G s) (hH : Hp G da v x H) {r n : Nat} {f : Nat → Int32} (hr : kd r ≠ 99) (he : cE G da v x r = aI (gc G 0) n f) (hn : n < 2 ^ 31) : IA (adr G da r) n f s H := by
  have hP := hH.get hr
  rw [he] at hP
  exact IA.of_at hT.1 (t0 := 0) rfl (hP 0 _ rfl) hn
/-- a call that leaves the heap as it is, with an int -/
theorem c_qi {a : Array Value} {post : Int32 → Prop} (hr : va_Run p l e R s m args below meth c H locs cells slots 0 0 (F0 m pc ls st0) rest (vp_Si post a) (fun _ => False))
    (kk : ∀ r : Int32, post r → W p l e R s m args below meth c H locs cells slots Q (F0 m (pc + 3) ls (.int r :: rest))) : W p l e R s m args below meth c H locs cells slots Q (F0 m pc ls st0) := by
  intro T hT X
  obtain ⟨v, st₀, t, T', L, h0, X', hL, e1, e2, ⟨r, hv, hp, hb⟩, st⟩ := hr T hT X
  cases hv
  have hl : L = [] := List.eq_nil_iff_forall_not_mem.mpr (fun q hq => hL q hq)
  subst hl
  rw [List.append_nil] at X'
  obtain ⟨t2, a1, b1⟩ := kk r hp T' (e1.trans (hb.trans h0)) X'
  exact ⟨t2, st t2 a1, b1⟩
/-- .. with a reference -/
theorem c_qr {a : Array Value} {post : Nat → Prop} (hr : va_Run p l e R s m args below meth c H locs cells slots 0 0 (F0 m pc ls st0) rest (va_Sr post (fun k => .ref k) a) (fun _ => False))
    (kk : ∀ r : Nat, post r → W p l e R s m args below meth c H locs cells slots Q (F0 m (pc + 3) ls (.ref r :: rest))) : W p l e R s m args below meth c H locs cells slots Q (F0 m pc ls st0) := by
  intro T hT X
  obtain ⟨v, st₀, t, T', L, h0, X', hL, e1, e2, ⟨r, hv, hp, hb⟩, st⟩ := hr T hT X
  cases hv
  have hl : L = [] := List.eq_nil_iff_forall_not_mem.mpr (fun q hq => hL q hq)
  subst hl
  rw [List.append_nil] at X'
  obtain ⟨t2, a1, b1⟩ := kk r hp T' (e1.trans (hb.trans h0)) X'
  exact ⟨t2, st t2 a1, b1⟩
end R1
