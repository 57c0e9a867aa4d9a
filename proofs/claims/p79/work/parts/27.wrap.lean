/-! THE LAW'S WRAPPERS: they catch what the class throws. -/
def NC (U : State) : Prop := va_Nc (exN 2) (exN 1) U ∧ va_Nc (exN 3) (exN 1) U
def pN (G : gG) (da : Nat → Nat) (v : vSt) (x : gX) (U : State) : Prop := pW G da v x U ∧ NC U
theorem NC.moved {u U : State} (hv : u.vm.Alike U.vm) (h : NC u) : NC U := ⟨h.1.moved hv, h.2.moved hv⟩
theorem pN_bl {G : gG} {da : Nat → Nat} {v : vSt} {x : gX} {av : List Value} : FrameBlind (va_Pc av (pN G da v x)) := fun a U g mk h => ⟨h.1, ⟨h.2.1.1.same rfl rfl, h.2.1.2.1, h.2.1.2.2⟩, h.2.2.moved (Vm.Alike.refl _)⟩
abbrev wcH (y : MethodName) (b : ByteArray) (n : Nat) (ret : Option FieldType) (hh : List (Nat × Nat × Nat × Nat)) : List Cond := .codeWith y b n ret hh :: TT
abbrev LI (l : Launch) (y : MethodName) (b : ByteArray) (n : Nat) (hh : List (Nat × Nat × Nat × Nat)) (rm : Room) (avs : List Value) (G : gG) (da : Nat → Nat) (v : vSt) (x : gX) (mc ms : Nat) (z : Int32) (F : vSt) (x1 : gX) : Prop :=
  vx_Met l y (wcH y b n (some .int) hh) rm (va_Pc avs (pN G da v x)) (va_Qi (fun (q : Int32) (_ : Nat → Nat) => q = z) (fun d t => Hp G d F x1 t.heap) (gA G)) (fun _ _ _ => False) mc ms (gA G)
section W27
variable {l : Launch} {y : MethodName} {cc : ByteArray} {nL : Nat} {rm : Room} {avs : List Value} {G : gG} {da : Nat → Nat} {v : vSt} {x : gX} {mc ms : Nat} {hh : List (Nat × Nat × Nat × Nat)}
theorem gofL {z0 : Int32} {F : vSt} {x1 : gX} (hy : plainName y.cls = true) (hown : y.cls = RL) (hlen : (lg_sl avs).length ≤ nL)
    (body : ∀ (p : Program) (e : Env) (s : State) (m : MethodId) (args : Array Value) (below : List Frame) (meth : Method) (c : Code) (ls : Array Slot) (Q : State → Prop), CX G p s m args c cc nL RL → NC s → c.exceptionTable.toList = tableOf hh → Hp G da v x s.heap → lv_has ls nL (lv_args 0 avs) →
      (∀ (pc : Nat) (ls : Array Slot) (H : Heap) (locs : List Loc) (da1 : Nat → Nat) (cells slots : Nat) (z : Int32) (v2 : vSt) (x2 : gX), decode cc pc = .ok (.ireturn, 1) → z = z0 → v2 = F → x2 = x1 → Hp G da1 v2 x2 H → va_S (gA G) s.heap H locs → cells ≤ mc → slots ≤ ms → W p l e rm s m args below meth c H locs cells slots Q (F0 m pc ls [.int z])) →
      W p l e rm s m args below meth c s.heap [] 0 0 Q (F0 m 0 ls [])) : LI l y cc nL hh rm avs G da v x mc ms z0 F x1 := by
  refine vx_ofWH (cc := cc) (maxL := nL) (ret := some .int) (hh := hh) hy rfl ?_
  intro p e s m args below meth c s₁ B hml hv
  obtain ⟨rfl, hP⟩ := hv
  have hts : ∀ w ∈ TT, w.before _ s = true := fun w h => atoms_spec (ws := wcH y cc nL (some .int) hh) B.pre w (List.mem_cons_of_mem _ h)
  have hown2 : s.vm.findClass RL = some m.cls := hown ▸ findClass_of_methodNamed B.named
  have htab : c.exceptionTable.toList = tableOf hh := vx_table (x := y) B (atoms_spec (ws := wcH y cc nL (some .int) hh) B.pre _ List.mem_cons_self)
  have hl := lv_entry avs (n := nL) hlen
  rw [lg_entry_eq]
  exact body p e s m _ below meth c _ _ ⟨B.exec, B.bytes, hml, hown2, hts, hP.1.1, hP.1.2.1⟩ hP.2 htab hP.1.2.2 hl
    (fun _ _ _ _ _ _ _ _ _ _ hd hz hv hx hH hS hc hs => vx_ret (W.widen (k := mc) (n := ms) hc hs (W.zret B.exec B.bytes B.returns (show narrow .int (.int _) = .int _ from rfl) (fun t ht _ => ⟨⟨_, _, rfl, hz, (by show Hp G _ _ _ t.heap; rw [ht, ← hv, ← hx]; exact hH)⟩, hS.F ht⟩) hS.2.2 hd B.notSynchronized)))
abbrev LF (l : Launch) (y : MethodName) (b : ByteArray) (n : Nat) (hh : List (Nat × Nat × Nat × Nat)) (rm : Room) (avs : List Value) (G : gG) (da : Nat → Nat) (v : vSt) (x : gX) (mc ms : Nat) (z : UInt32) : Prop :=
  vx_Met l y (.codeWith y b n (some .float) hh :: TT) rm (va_Pc avs (pN G da v x)) (va_Qf (fun (q : UInt32) (_ : Nat → Nat) => q = z) (fun d t => Hp G d v x t.heap) (gA G)) (fun _ _ _ => False) mc ms (gA G)
theorem gofLF {z0 : UInt32} (hy : plainName y.cls = true) (hown : y.cls = RL) (hlen : (lg_sl avs).length ≤ nL)
    (body : ∀ (p : Program) (e : Env) (s : State) (m : MethodId) (args : Array Value) (below : List Frame) (meth : Method) (c : Code) (ls : Array Slot) (Q : State → Prop), CX G p s m args c cc nL RL → NC s → c.exceptionTable.toList = tableOf hh → Hp G da v x s.heap → lv_has ls nL (lv_args 0 avs) →
      (∀ (pc : Nat) (ls : Array Slot) (H : Heap) (locs : List Loc) (da1 : Nat → Nat) (cells slots : Nat) (z : UInt32), decode cc pc = .ok (.freturn, 1) → z = z0 → Hp G da1 v x H → va_S (gA G) s.heap H locs → cells ≤ mc → slots ≤ ms → W p l e rm s m args below meth c H locs cells slots Q (F0 m pc ls [.float z])) →
      W p l e rm s m args below meth c s.heap [] 0 0 Q (F0 m 0 ls [])) : LF l y cc nL hh rm avs G da v x mc ms z0 := by
  refine vx_ofWH (cc := cc) (maxL := nL) (ret := some .float) (hh := hh) hy rfl ?_
  intro p e s m args below meth c s₁ B hml hv
  obtain ⟨rfl, hP⟩ := hv
  have hts : ∀ w ∈ TT, w.before _ s = true := fun w h => atoms_spec (ws := .codeWith y cc nL (some .float) hh :: TT) B.pre w (List.mem_cons_of_mem _ h)
  have hown2 : s.vm.findClass RL = some m.cls := hown ▸ findClass_of_methodNamed B.named
  have htab : c.exceptionTable.toList = tableOf hh := vx_table (x := y) B (atoms_spec (ws := .codeWith y cc nL (some .float) hh :: TT) B.pre _ List.mem_cons_self)
  have hl := lv_entry avs (n := nL) hlen
  rw [lg_entry_eq]
  exact body p e s m _ below meth c _ _ ⟨B.exec, B.bytes, hml, hown2, hts, hP.1.1, hP.1.2.1⟩ hP.2 htab hP.1.2.2 hl
    (fun _ _ _ _ _ _ _ _ hd hz hH hS hc hs => vx_ret (W.widen (k := mc) (n := ms) hc hs (W.fret B.exec B.bytes B.returns (fun t ht _ => ⟨⟨_, _, rfl, hz, (by show Hp G _ _ _ t.heap; rw [ht]; exact hH)⟩, hS.F ht⟩) hS.2.2 hd B.notSynchronized)))
/-- the law's methods that catch nothing -/
abbrev NI (l : Launch) (y : MethodName) (b : ByteArray) (n : Nat) (ty : FieldType) (rm : Room) (avs : List Value) (G : gG) (da : Nat → Nat) (v : vSt) (x : gX) (mc ms : Nat) (z : Int32) (F : vSt) : Prop :=
  Met l y (wc y b n (some ty)) rm (va_Pc avs (pN G da v x)) (va_Qi (fun (q : Int32) (_ : Nat → Nat) => q = z) (fun d t => Hp G d F x t.heap) (gA G)) mc ms (gA G)
abbrev NJ (l : Launch) (y : MethodName) (b : ByteArray) (n : Nat) (rm : Room) (avs : List Value) (G : gG) (da : Nat → Nat) (v : vSt) (x : gX) (mc ms : Nat) (z : Int64) : Prop :=
  Met l y (wc y b n (some .long)) rm (va_Pc avs (pN G da v x)) (va_Ql (fun (q : Int64) (_ : Nat → Nat) => q = z) (fun d t => Hp G d v x t.heap) (gA G)) mc ms (gA G)
theorem gofNI {ty : FieldType} {z0 : Int32} {F : vSt} (hy : plainName y.cls = true) (hown : y.cls = RL) (hlen : (lg_sl avs).length ≤ nL)
    (body : ∀ (p : Program) (e : Env) (s : State) (m : MethodId) (args : Array Value) (below : List Frame) (meth : Method) (c : Code) (ls : Array Slot) (Q : State → Prop), CX G p s m args c cc nL RL → NC s → Hp G da v x s.heap → lv_has ls nL (lv_args 0 avs) →
      (∀ (pc : Nat) (ls : Array Slot) (H : Heap) (locs : List Loc) (da1 : Nat → Nat) (v1 : vSt) (cells slots : Nat) (z : Int32), decode cc pc = .ok (.ireturn, 1) → narrow ty (.int z) = .int z → z = z0 → v1 = F → Hp G da1 v1 x H → va_S (gA G) s.heap H locs → cells ≤ mc → slots ≤ ms → W p l e rm s m args below meth c H locs cells slots Q (F0 m pc ls [.int z])) →
      W p l e rm s m args below meth c s.heap [] 0 0 Q (F0 m 0 ls [])) : NI l y cc nL ty rm avs G da v x mc ms z0 F :=
  gofT hy hown hlen (fun p e s m below meth c ls h1 h2 h3 h4 h5 h6 h7 hP hl => body p e s m _ below meth c ls _ ⟨h1, h2, h3, h4, h5, hP.1.1, hP.1.2.1⟩ hP.2 hP.1.2.2 hl (fun _ _ _ _ _ _ _ _ _ hd hn hz he hH hS hc hs => e_mi h1 h2 h6 h7 hn hz he hH hS hc hs hd))
theorem gofNJ {z0 : Int64} (hy : plainName y.cls = true) (hown : y.cls = RL) (hlen : (lg_sl avs).length ≤ nL)
    (body : ∀ (p : Program) (e : Env) (s : State) (m : MethodId) (args : Array Value) (below : List Frame) (meth : Method) (c : Code) (ls : Array Slot) (Q : State → Prop), CX G p s m args c cc nL RL → NC s → Hp G da v x s.heap → lv_has ls nL (lv_args 0 avs) →
      (∀ (pc : Nat) (ls : Array Slot) (H : Heap) (locs : List Loc) (da1 : Nat → Nat) (cells slots : Nat) (z : Int64), decode cc pc = .ok (.lreturn, 1) → z = z0 → Hp G da1 v x H → va_S (gA G) s.heap H locs → cells ≤ mc → slots ≤ ms → W p l e rm s m args below meth c H locs cells slots Q (F0 m pc ls [.long z])) →
      W p l e rm s m args below meth c s.heap [] 0 0 Q (F0 m 0 ls [])) : NJ l y cc nL rm avs G da v x mc ms z0 :=
  gofT hy hown hlen (fun p e s m below meth c ls h1 h2 h3 h4 h5 h6 h7 hP hl => body p e s m _ below meth c ls _ ⟨h1, h2, h3, h4, h5, hP.1.1, hP.1.2.1⟩ hP.2 hP.1.2.2 hl (fun _ _ _ _ _ _ _ _ hd hz hH hS hc hs => W.widen (k := mc) (n := ms) hc hs (W.lret h1 h2 h6 (fun t ht _ => ⟨⟨_, _, rfl, hz, (by show Hp G _ _ _ t.heap; rw [ht]; exact hH)⟩, hS.F ht⟩) hS.2.2 hd h7)))
end W27
section W28
variable {p : Program} {l : Launch} {e : Env} {R : Room} {s : State} {m : MethodId} {args : Array Value} {below : List Frame} {meth : Method} {c : Code} {H : Heap} {locs : List Loc} {cells slots : Nat} {Q : State → Prop}
variable {cc : ByteArray} {pc nL : Nat} {ls : Array Slot} {rest st0 : List Value} {G : gG} {own : String} {da : Nat → Nat} {v : vSt} {x : gX} {mc ms k : Nat}
/-- the index of the class link of an exception in the law's pool -/
def exI (k : Nat) : Nat := if k = 1 then 15 else if k = 2 then 18 else 71
theorem ex_cl (X : CX G p s m args c cc nL RL) (k : Nat) : (Cond.classLink RL (exI k) (exN k)).before args s = true := by
  unfold exI exN
  split
  · exact X.2.2.2.2.1 _ t_cl_VernierDrawersLaw_15
  · split
    · exact X.2.2.2.2.1 _ t_cl_VernierDrawersLaw_18
    · exact X.2.2.2.2.1 _ t_cl_VernierDrawersLaw_71
theorem ex_ca (X : CX G p s m args c cc nL RL) (k : Nat) : (Cond.castable (exN k) (exN k)).before args s = true := by
  unfold exN
  split
  · exact va_Nw.use rfl (X.2.2.2.2.2.1.2.2.1 _ t_cst_jl_IllegalArgumentException_jl_IllegalArgumentException rfl)
  · split
    · exact va_Nw.use rfl (X.2.2.2.2.2.1.2.2.1 _ t_cst_jl_IllegalStateException_jl_IllegalStateException rfl)
    · exact va_Nw.use rfl (X.2.2.2.2.2.1.2.2.1 _ t_cst_ju_NoSuchElementException_ju_NoSuchElementException rfl)
theorem exI_ne (k : Nat) : exI k ≠ 0 := by
  unfold exI
  split
  · decide
  · split <;> decide
/-- caught by the first row -/
theorem t_c1 (X : CX G p s m args c cc nL RL) {a b h : Nat} {tl : List (Nat × Nat × Nat × Nat)} (htab : c.exceptionTable.toList = tableOf ((a, b, h, exI k) :: tl)) (hcov : covers ⟨a, b, h, exI k⟩ pc = true) {ce : Cell} {q : Addr} (hq : H[q]? = some ce) (hv : ce.vm = .none) (hcl : s.vm.findClass (exN k) = some ce.cls)
    (kk : W p l e R s m args below meth c H locs cells slots Q (F0 m h ls [.ref q])) : vx_W p l e R s m args below meth c H locs cells slots Q (F0 m pc ls rest) q :=
  vx_catch X.2.2.2.1 [] ⟨a, b, h, exI k⟩ (tableOf tl) htab (fun _ h => nomatch h) hcov (exI_ne k) (ex_cl X k) (ex_ca X k) hq hv hcl kk
/-- caught by the second row -/
theorem t_c2 (X : CX G p s m args c cc nL RL) (hN : NC s) {a b h a1 b1 h1 : Nat} {tl : List (Nat × Nat × Nat × Nat)} (htab : c.exceptionTable.toList = tableOf ((a1, b1, h1, exI 1) :: (a, b, h, exI k) :: tl)) (hk : k = 2 ∨ k = 3) (hcov : covers ⟨a, b, h, exI k⟩ pc = true) {ce : Cell} {q : Addr} (hq : H[q]? = some ce) (hv : ce.vm = .none) (hcl : s.vm.findClass (exN k) = some ce.cls)
    (kk : W p l e R s m args below meth c H locs cells slots Q (F0 m h ls [.ref q])) : vx_W p l e R s m args below meth c H locs cells slots Q (F0 m pc ls rest) q := by
  refine vx_catch X.2.2.2.1 [⟨a1, b1, h1, exI 1⟩] ⟨a, b, h, exI k⟩ (tableOf tl) htab (fun z hz => ?_) hcov (exI_ne k) (ex_cl X k) (ex_ca X k) hq hv hcl kk
  rcases List.mem_singleton.mp hz with rfl
  refine Or.inr ⟨exI_ne 1, exN 1, ex_cl X 1, ?_⟩
  rcases hk with rfl | rfl
  · exact hN.1
  · exact hN.2
theorem runLS {y : MethodName} {b : ByteArray} {n kp idx : Nat} {hh : List (Nat × Nat × Nat × Nat)} {rm : Room} {Qc : Array Value → State → Outcome → State → Prop} {free : Addr → Prop} {Pre : State → Prop} {As : List Value} (hx : p.tables.exec = Jvm.exec) (hb : c.code = cc) (hml0 : c.maxLocals = nL) (hown : s.vm.findClass own = some m.cls) (hts : ∀ w ∈ TT, w.before args s = true)
    (hM : vx_Met l y (wcH y b n (some .int) hh) rm (va_Pc As Pre) Qc (fun _ _ _ => False) mc ms free) (hbl : FrameBlind (va_Pc As Pre)) (hml : Cond.methodLink own idx y ∈ TT) (hst1 : Cond.static y ∈ TT) (hini : Cond.initialized y.cls ∈ TT) (hcode : Cond.codeWith y b n (some .int) hh ∈ TT)
    (hd : y.cls ≠ "java/lang/invoke/MethodHandle" ∧ y.cls ≠ "java/lang/invoke/VarHandle" ∧ (parseMethodDescriptor y.desc).map (fun d => d.parameters.length) = some kp) (hrc : rm.cells = mc) (hrs : rm.slots = ms)
    (hR : rm.frames + 1 ≤ R.frames ∧ 8 + (n + 11) + rm.locals ≤ R.locals) (hcs : cells + mc ≤ R.cells ∧ slots + ms ≤ R.slots)
    (hpre : ∀ U : State, U.heap = H → s.WarmedH U.vm → Pre U) (hlen : As.length = kp) (hls : ls.size = nL) (hst : st0 = As.reverse ++ rest) (hsum : (rest.map fun v => v.category).sum ≤ 8) (hdg : decode cc pc = .ok (.invokestatic idx, 3)) :
    vx_Run p l e R s m args below meth c H locs cells slots mc ms (F0 m pc ls st0) rest (Qc As.toArray) (fun _ _ _ => False) free :=
  vx_runSX (As := As) (rest := rest) (Ts := TT) ⟨hx, hb, hml0, hown, hts⟩ hM (vx_cwSW kp hts (gT1 hml (gT1 hst1 (gT1 hini (fun w hw => (List.mem_cons.mp hw).elim (fun e => e ▸ ⟨hcode, TT_good _ hcode⟩) (fun h => ⟨h, TT_good _ h⟩))))) rfl hrc hrs hd hR) ⟨hbl, fun U hU hW => ⟨rfl, hpre U hU hW⟩⟩ rfl hlen hls hst (lv_room hsum) hdg hcs
theorem c_li {av : Array Value} {z : Int32} {F : vSt} {x1 : gX} (hr : vx_Run p l e R s m args below meth c H locs cells slots mc ms (F0 m pc ls st0) rest (va_Qi (fun (q : Int32) (_ : Nat → Nat) => q = z) (fun d t => Hp G d F x1 t.heap) (gA G) av) (fun _ _ _ => False) (gA G)) (hS : va_S (gA G) s.heap H locs)
    (kk : ∀ (d : Nat → Nat) (H1 : Heap) (locs1 : List Loc), Hp G d F x1 H1 → va_S (gA G) s.heap H1 locs1 → W p l e R s m args below meth c H1 locs1 (cells + mc) (slots + ms) Q (F0 m (pc + 3) ls (.int z :: rest))) :
    W p l e R s m args below meth c H locs cells slots Q (F0 m pc ls st0) := by
  intro T hT X
  rcases hr T hT X with ⟨v, st₀, t, T', L, h0, X', hL, e1, e2, ⟨⟨q, u, hv, hp, hb⟩, hF⟩, st⟩ | ⟨q, st₀, t, T', L, E, ce, h0, X', hL, e1, e2, hf, hce, hcv, hcl, st⟩
  · cases hv
    subst hp
    obtain ⟨k1, k2, k3⟩ := vx_keep h0 e1 hS (fun _ _ h => h) (fun _ h => h) hL hF
    obtain ⟨t2, a1, b1⟩ := kk u T'.heap (locs ++ L) (by rw [e1]; exact hb) k3 T' rfl X'
    exact ⟨t2, st t2 a1, b1⟩
  · exact hf.elim
theorem preN (X : CX G p s m args c cc nL own) (hN : NC s) (hS : va_S (gA G) s.heap H locs) (hH : Hp G da v x H) : ∀ U : State, U.heap = H → s.WarmedH U.vm → pN G da v x U := fun U hU hW => ⟨preW X hS hH U hU hW, hN.moved hW.alike⟩
theorem runLF {y : MethodName} {b : ByteArray} {n kp idx : Nat} {hh : List (Nat × Nat × Nat × Nat)} {rm : Room} {Qc : Array Value → State → Outcome → State → Prop} {free : Addr → Prop} {Pre : State → Prop} {As : List Value} (hx : p.tables.exec = Jvm.exec) (hb : c.code = cc) (hml0 : c.maxLocals = nL) (hown : s.vm.findClass own = some m.cls) (hts : ∀ w ∈ TT, w.before args s = true)
    (hM : vx_Met l y (.codeWith y b n (some .float) hh :: TT) rm (va_Pc As Pre) Qc (fun _ _ _ => False) mc ms free) (hbl : FrameBlind (va_Pc As Pre)) (hml : Cond.methodLink own idx y ∈ TT) (hst1 : Cond.static y ∈ TT) (hini : Cond.initialized y.cls ∈ TT) (hcode : Cond.codeWith y b n (some .float) hh ∈ TT)
    (hd : y.cls ≠ "java/lang/invoke/MethodHandle" ∧ y.cls ≠ "java/lang/invoke/VarHandle" ∧ (parseMethodDescriptor y.desc).map (fun d => d.parameters.length) = some kp) (hrc : rm.cells = mc) (hrs : rm.slots = ms)
    (hR : rm.frames + 1 ≤ R.frames ∧ 8 + (n + 11) + rm.locals ≤ R.locals) (hcs : cells + mc ≤ R.cells ∧ slots + ms ≤ R.slots)
    (hpre : ∀ U : State, U.heap = H → s.WarmedH U.vm → Pre U) (hlen : As.length = kp) (hls : ls.size = nL) (hst : st0 = As.reverse ++ rest) (hsum : (rest.map fun v => v.category).sum ≤ 8) (hdg : decode cc pc = .ok (.invokestatic idx, 3)) :
    vx_Run p l e R s m args below meth c H locs cells slots mc ms (F0 m pc ls st0) rest (Qc As.toArray) (fun _ _ _ => False) free :=
  vx_runSX (As := As) (rest := rest) (Ts := TT) ⟨hx, hb, hml0, hown, hts⟩ hM (vx_cwSW kp hts (gT1 hml (gT1 hst1 (gT1 hini (fun w hw => (List.mem_cons.mp hw).elim (fun e => e ▸ ⟨hcode, TT_good _ hcode⟩) (fun h => ⟨h, TT_good _ h⟩))))) rfl hrc hrs hd hR) ⟨hbl, fun U hU hW => ⟨rfl, hpre U hU hW⟩⟩ rfl hlen hls hst (lv_room hsum) hdg hcs
theorem c_lf {av : Array Value} {z : UInt32} {F : vSt} {x1 : gX} (hr : vx_Run p l e R s m args below meth c H locs cells slots mc ms (F0 m pc ls st0) rest (va_Qf (fun (q : UInt32) (_ : Nat → Nat) => q = z) (fun d t => Hp G d F x1 t.heap) (gA G) av) (fun _ _ _ => False) (gA G)) (hS : va_S (gA G) s.heap H locs)
    (kk : ∀ (d : Nat → Nat) (H1 : Heap) (locs1 : List Loc), Hp G d F x1 H1 → va_S (gA G) s.heap H1 locs1 → W p l e R s m args below meth c H1 locs1 (cells + mc) (slots + ms) Q (F0 m (pc + 3) ls (.float z :: rest))) :
    W p l e R s m args below meth c H locs cells slots Q (F0 m pc ls st0) := by
  intro T hT X
  rcases hr T hT X with ⟨v, st₀, t, T', L, h0, X', hL, e1, e2, ⟨⟨q, u, hv, hp, hb⟩, hF⟩, st⟩ | ⟨q, st₀, t, T', L, E, ce, h0, X', hL, e1, e2, hf, hce, hcv, hcl, st⟩
  · cases hv
    subst hp
    obtain ⟨k1, k2, k3⟩ := vx_keep h0 e1 hS (fun _ _ h => h) (fun _ h => h) hL hF
    obtain ⟨t2, a1, b1⟩ := kk u T'.heap (locs ++ L) (by rw [e1]; exact hb) k3 T' rfl X'
    exact ⟨t2, st t2 a1, b1⟩
  · exact hf.elim
theorem c_nj {av : Array Value} {z : Int64} {F : vSt} {x1 : gX} (hr : va_Run p l e R s m args below meth c H locs cells slots mc ms (F0 m pc ls st0) rest (va_Ql (fun (q : Int64) (_ : Nat → Nat) => q = z) (fun d t => Hp G d F x1 t.heap) (gA G) av) (gA G)) (hS : va_S (gA G) s.heap H locs)
    (kk : ∀ (d : Nat → Nat) (H1 : Heap) (locs1 : List Loc), Hp G d F x1 H1 → va_S (gA G) s.heap H1 locs1 → W p l e R s m args below meth c H1 locs1 (cells + mc) (slots + ms) Q (F0 m (pc + 3) ls (.long z :: rest))) :
    W p l e R s m args below meth c H locs cells slots Q (F0 m pc ls st0) :=
  va_calll hr hS (fun _ _ h => h) (fun _ h => h) (fun q d t H1 locs1 ht _ hq hB _ _ hS1 => by subst hq; exact kk d H1 locs1 (by rw [← ht]; exact hB) hS1)
end W28
/-- the world speaks of the class's roles alone: the array's may be what they like -/
def gM (w u : vSt) : vSt := fun r => if r < 461 then w r else u r
theorem gM_lo {w u : vSt} {r : Nat} (h : r < 461) : gM w u r = w r := if_pos h
theorem gM_hi {w u : vSt} {r : Nat} (h : ¬ r < 461) : gM w u r = u r := if_neg h
theorem pot_gM {w u : vSt} : pot (gM w u) = pot w := rfl
theorem kd_lt461 {r : Nat} (h : kd r ≠ 99) : r < 461 := by
  have h1 := kd_lt h
  exact (by decide +kernel : ∀ r, r < 470 → kd r ≠ 99 → r < 461) r h1 h
theorem wl_cg {G : gG} {da : Nat → Nat} {v v' : vSt} {x : gX} (h : ∀ r, r < 461 → v' r = v r) : wl G da v' x = wl G da v x := by
  unfold wl
  refine List.map_congr_left (fun r hr => ?_)
  have hk := rol_mem.mp hr
  have h1 := kd_lt461 hk
  have e : cE G da v' x r = cE G da v x r := cE_cong (h r h1) (fun h23 => by
    have hp : par r < 461 := kd_lt461 (by rcases par_kd h23 with q | q <;> rw [q] <;> decide)
    rw [h _ hp])
  rw [e]
theorem Hp.gh {G : gG} {da : Nat → Nat} {v v' : vSt} {x : gX} {H : Heap} (h : Hp G da v x H) (hv : ∀ r, r < 461 → v' r = v r) : Hp G da v' x H := by
  unfold Hp
  rw [wl_cg hv]
  exact h
theorem Hp.gM {G : gG} {da : Nat → Nat} {v u w : vSt} {x : gX} {H : Heap} (h : Hp G da v x H) (e : w = gM v u) : Hp G da w x H := h.gh (fun r hr => by rw [e]; exact gM_lo hr)

