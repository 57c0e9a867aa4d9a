/-! METHODS THAT THROW: entries, ends, calls. -/
section T0
variable {l : Launch} {y : MethodName} {cc : ByteArray} {nL : Nat} {ret : Option FieldType} {rm : Room} {avs : List Value} {Qc : Array Value → State → Outcome → State → Prop} {XC : String → State → State → Prop} {mc ms : Nat} {free : Addr → Prop}
theorem gofXW {G : gG} {da : Nat → Nat} {v : vSt} {x : gX} {own : String} (hy : plainName y.cls = true) (hown : y.cls = own) (hlen : (lg_sl avs).length ≤ nL)
    (body : ∀ (p : Program) (e : Env) (s : State) (m : MethodId) (below : List Frame) (meth : Method) (c : Code) (ls : Array Slot), CX G p s m avs.toArray c cc nL own → (∀ x ∈ c.exceptionTable.toList, False) → meth.sig.returnType = ret → meth.locks = false → Hp G da v x s.heap → lv_has ls nL (lv_args 0 avs) →
      W p l e rm s m avs.toArray below meth c s.heap [] 0 0 (vx_MQ below Qc XC avs.toArray s mc ms free) (F0 m 0 ls [])) : vx_Met l y (wc y cc nL ret) rm (va_Pc avs (pW G da v x)) Qc XC mc ms free := by
  refine vx_ofW (cc := cc) (maxL := nL) (ret := ret) hy rfl ?_
  intro p e s m args below meth c s₁ B hml hex hv
  obtain ⟨rfl, hP⟩ := hv
  have hts : ∀ w ∈ TT, w.before _ s = true := fun w h => atoms_spec (ws := wc y cc nL ret) B.pre w (List.mem_cons_of_mem _ h)
  have hown2 : s.vm.findClass own = some m.cls := hown ▸ findClass_of_methodNamed B.named
  have hl := lv_entry avs (n := nL) hlen
  rw [lg_entry_eq]
  exact body p e s m below meth c _ ⟨B.exec, B.bytes, hml, hown2, hts, hP.1, hP.2.1⟩ hex B.returns B.notSynchronized hP.2.2 hl
end T0
section T1
variable {p : Program} {l : Launch} {e : Env} {R : Room} {s : State} {m : MethodId} {args : Array Value} {below : List Frame} {meth : Method} {c : Code} {H : Heap} {locs : List Loc} {cells slots : Nat} {Q : State → Prop}
variable {cc : ByteArray} {pc nL : Nat} {ls : Array Slot} {rest st0 : List Value} {G : gG} {own : String} {da : Nat → Nat} {v : vSt} {x : gX} {mc ms k : Nat} {XC : String → State → State → Prop} {Qc : Array Value → State → Outcome → State → Prop}
theorem th_1 (X : CX G p s m args c cc nL own) : thW args s 1 53 57 := ⟨X.2.2.2.2.1 _ t_cl_VernierDrawers_53, X.2.2.2.2.1 _ t_ini_jl_IllegalArgumentException, Or.inl ⟨th_of X tw_1 tg_1, to_1⟩⟩
theorem th_2 (X : CX G p s m args c cc nL own) : thW args s 2 66 70 := ⟨X.2.2.2.2.1 _ t_cl_VernierDrawers_66, X.2.2.2.2.1 _ t_ini_jl_IllegalStateException, Or.inl ⟨th_of X tw_2 tg_2, to_2⟩⟩
theorem th_3 (X : CX G p s m args c cc nL own) : thW args s 3 259 263 := ⟨X.2.2.2.2.1 _ t_cl_VernierDrawers_259, X.2.2.2.2.1 _ t_ini_ju_NoSuchElementException, Or.inr ⟨13, rx3, by decide +kernel, by decide +kernel, by decide +kernel, by decide +kernel, th_of X tw_3 tg_3, to_3⟩⟩
/-- what a callee has thrown goes on -/
theorem t_out (hex : ∀ x ∈ c.exceptionTable.toList, False) (hlk : meth.locks = false) {ce : Cell} {q : Addr} (hk : ¬ k = 0) (hq : H[q]? = some ce) (hv : ce.vm = .none) (hcl : s.vm.findClass (exN k) = some ce.cls) (hc : cells ≤ mc) (hs : slots ≤ ms) (hH : Hp G da v x H) (hS : va_S (gA G) s.heap H locs) :
    vx_W p l e R s m args below meth c H locs cells slots (vx_MQ below Qc (XQ G k v x) args s mc ms (gA G)) (F0 m pc ls rest) q :=
  vx_out (fun x hx => (hex x hx).elim) hlk hq hv hcl (fun t ht _ => ⟨da, trivial, ⟨hk, rfl, by rw [ht]; exact hH⟩, va_F_of hS (by rw [ht]; exact Nat.le_refl _) (fun q _ => by rw [ht])⟩) hS.2.2 hc hs
theorem t_thrS (X : CX G p s m args c cc nL RX10) (hst : l.stackTraces = false) (hex : ∀ x ∈ c.exceptionTable.toList, False) (hlk : meth.locks = false) {ik is ic : Nat} {text : String} (hw : thW args s k ik ic) (hk : ¬ k = 0) (hstr : Cond.stringRef RX10 is text ∈ lw_tbl) (hls : ls.size = nL)
    (d0 : decode cc pc = .ok (.new ik, 3)) (d3 : decode cc (pc + 3) = .ok (.dup, 1)) (d4 : decode cc (pc + 4) = .ok (.ldc is, 2)) (d6 : decode cc (pc + 6) = .ok (.invokespecial ic, 3)) (d9 : decode cc (pc + 9) = .ok (.athrow, 1))
    (hRf : 5 < R.frames) (hsum : (rest.map fun v => v.category).sum ≤ 8) (hRl : 90 ≤ R.locals) (hRc : cells + 1 ≤ R.cells) (hRs : slots + 6 ≤ R.slots) (hc : cells + 1 ≤ mc) (hs : slots + 6 ≤ ms) (hH : Hp G da v x H) (hS : va_S (gA G) s.heap H locs) :
    W p l e R s m args below meth c H locs cells slots (vx_MQ below Qc (XQ G k v x) args s mc ms (gA G)) (F0 m pc ls rest) := by
  obtain ⟨sa, hsa⟩ := X.2.2.2.2.2.1.2.2.2.1 _ _ _ hstr
  obtain ⟨hw1, hw2, ⟨hw3, hw4⟩ | ⟨ix, rx, x0, x1, x2, x5, hw3, hw4⟩⟩ := hw
  · exact vx_throwS X.1 X.2.1 hst X.2.2.2.1 (exN_fit k) nmX_fit hw1 hw2 hsa hw3 hw4 X.2.2.2.2.2.1.2.2.2.2.2.1 X.2.2.2.2.2.1.2.2.2.2.2.2 hS (hls.trans X.2.2.1.symm) d0 d3 d4 d6 d9 (fun x hx => (hex x hx).elim) hRf (by show _ + (13 * 3 + 43) ≤ _; omega) hRc hRs hlk (fun t _ h1 h2 => ⟨da, trivial, ⟨hk, rfl, hH.grow h2⟩, va_F_of hS h1 h2⟩) hS.2.2 hc hs
  · refine vx_makeX X.1 X.2.1 hst x0 x1 x2 x5 X.2.2.2.1 (exN_fit k) nmX_fit hw1 hw2 hsa hw3 hw4 X.2.2.2.2.2.1.2.2.2.2.2.1 X.2.2.2.2.2.1.2.2.2.2.2.2 hS (hls.trans X.2.2.1.symm) d0 d3 d4 d6 hRf (by show _ + (13 * 3 + 43) ≤ _; omega) hRc hRs (fun q ce H1 h1 h2 hq hv hcl => ?_)
    exact vx_athrow X.1 X.2.1 d9 (t_out hex hlk hk hq hv hcl hc hs (hH.grow h2) ⟨Nat.le_trans hS.1 h1, fun q0 h3 h4 => (h2 q0 (Nat.lt_of_lt_of_le h3 hS.1)).trans (hS.2.1 q0 h3 h4), hS.2.2⟩)
theorem t_thrW (X : CX G p s m args c cc nL RX10) (hst : l.stackTraces = false) (hex : ∀ x ∈ c.exceptionTable.toList, False) (hlk : meth.locks = false) {ik is ic : Nat} {text : String} (hw : thW args s k ik ic) (hk : ¬ k = 0) (hstr : Cond.stringRef RX10 is text ∈ lw_tbl) (hls : ls.size = nL)
    (d0 : decode cc pc = .ok (.new ik, 3)) (d3 : decode cc (pc + 3) = .ok (.dup, 1)) (d4 : decode cc (pc + 4) = .ok (.ldc_w is, 3)) (d7 : decode cc (pc + 7) = .ok (.invokespecial ic, 3)) (d10 : decode cc (pc + 10) = .ok (.athrow, 1))
    (hRf : 5 < R.frames) (hsum : (rest.map fun v => v.category).sum ≤ 8) (hRl : 90 ≤ R.locals) (hRc : cells + 1 ≤ R.cells) (hRs : slots + 6 ≤ R.slots) (hc : cells + 1 ≤ mc) (hs : slots + 6 ≤ ms) (hH : Hp G da v x H) (hS : va_S (gA G) s.heap H locs) :
    W p l e R s m args below meth c H locs cells slots (vx_MQ below Qc (XQ G k v x) args s mc ms (gA G)) (F0 m pc ls rest) := by
  obtain ⟨sa, hsa⟩ := X.2.2.2.2.2.1.2.2.2.1 _ _ _ hstr
  obtain ⟨hw1, hw2, ⟨hw3, hw4⟩ | ⟨ix, rx, x0, x1, x2, x5, hw3, hw4⟩⟩ := hw
  · exact vx_throwSW X.1 X.2.1 hst X.2.2.2.1 (exN_fit k) nmX_fit hw1 hw2 hsa hw3 hw4 X.2.2.2.2.2.1.2.2.2.2.2.1 X.2.2.2.2.2.1.2.2.2.2.2.2 hS (hls.trans X.2.2.1.symm) d0 d3 d4 d7 d10 (fun x hx => (hex x hx).elim) hRf (by show _ + (13 * 3 + 43) ≤ _; omega) hRc hRs hlk (fun t _ h1 h2 => ⟨da, trivial, ⟨hk, rfl, hH.grow h2⟩, va_F_of hS h1 h2⟩) hS.2.2 hc hs
  · refine vx_makeXW X.1 X.2.1 hst x0 x1 x2 x5 X.2.2.2.1 (exN_fit k) nmX_fit hw1 hw2 hsa hw3 hw4 X.2.2.2.2.2.1.2.2.2.2.2.1 X.2.2.2.2.2.1.2.2.2.2.2.2 hS (hls.trans X.2.2.1.symm) d0 d3 d4 d7 hRf (by show _ + (13 * 3 + 43) ≤ _; omega) hRc hRs (fun q ce H1 h1 h2 hq hv hcl => ?_)
    exact vx_athrow X.1 X.2.1 d10 (t_out hex hlk hk hq hv hcl hc hs (hH.grow h2) ⟨Nat.le_trans hS.1 h1, fun q0 h3 h4 => (h2 q0 (Nat.lt_of_lt_of_le h3 hS.1)).trans (hS.2.1 q0 h3 h4), hS.2.2⟩)
theorem e_ti (hx : p.tables.exec = Jvm.exec) (hb : c.code = cc) {ty : FieldType} (hr : meth.sig.returnType = some ty) (hlocks : meth.locks = false) {z z0 : Int32} {F : vSt} (hn : narrow ty (.int z) = .int z) (hk : k = 0) (hz : z = z0) (he : v = F) (hH : Hp G da v x H) (hS : va_S (gA G) s.heap H locs) (hc : cells ≤ mc) (hs : slots ≤ ms) (hdg : decode cc pc = .ok (.ireturn, 1)) :
    W p l e R s m args below meth c H locs cells slots (vx_MQ below (va_Qi (fun (q : Int32) (_ : Nat → Nat) => k = 0 ∧ q = z0) (fun d t => Hp G d F x t.heap) (gA G)) XC args s mc ms (gA G)) (F0 m pc ls [.int z]) :=
  vx_ret (W.widen (k := mc) (n := ms) hc hs (W.zret hx hb hr hn (fun t ht _ => ⟨⟨z, da, rfl, ⟨hk, hz⟩, (by show Hp G _ _ _ t.heap; rw [ht, ← he]; exact hH)⟩, hS.F ht⟩) hS.2.2 hdg hlocks))
theorem e_tv (hx : p.tables.exec = Jvm.exec) (hb : c.code = cc) (hr : meth.sig.returnType = none) (hlocks : meth.locks = false) {F : vSt} (hk : k = 0) (he : v = F) (hH : Hp G da v x H) (hS : va_S (gA G) s.heap H locs) (hc : cells ≤ mc) (hs : slots ≤ ms) (hdg : decode cc pc = .ok (.return_, 1)) :
    W p l e R s m args below meth c H locs cells slots (vx_MQ below (va_Qv (fun _ : Nat → Nat => k = 0) (fun d t => Hp G d F x t.heap) (gA G)) XC args s mc ms (gA G)) (F0 m pc ls []) :=
  vx_ret (W.widen (k := mc) (n := ms) hc hs (W.vret hx hb hr (fun t ht _ => ⟨⟨da, rfl, hk, (by show Hp G _ _ _ t.heap; rw [ht, ← he]; exact hH)⟩, hS.F ht⟩) hS.2.2 hdg hlocks))
theorem e_tr (hx : p.tables.exec = Jvm.exec) (hb : c.code = cc) {C : String} (hr : meth.sig.returnType = some (.object C)) (hlocks : meth.locks = false) {z z0 : Nat} {F : vSt} (hk : k = 0) (hz : z = z0) (he : v = F) (hH : Hp G da v x H) (hS : va_S (gA G) s.heap H locs) (hc : cells ≤ mc) (hs : slots ≤ ms) (hdg : decode cc pc = .ok (.areturn, 1)) :
    W p l e R s m args below meth c H locs cells slots (vx_MQ below (va_Qr (fun _ : Nat → Nat => k = 0) (fun d a t => a = ga G z0 ∧ Hp G d F x t.heap) (gA G)) XC args s mc ms (gA G)) (F0 m pc ls [.ref (ga G z)]) :=
  vx_ret (W.widen (k := mc) (n := ms) hc hs (W.aret hx hb hr (Or.inl ⟨C, rfl⟩) (Or.inr ⟨_, rfl⟩) (fun t ht _ => ⟨⟨da, _, rfl, hk, by rw [hz], (by show Hp G _ _ _ t.heap; rw [ht, ← he]; exact hH)⟩, hS.F ht⟩) hS.2.2 hdg hlocks))
theorem e_tf (hx : p.tables.exec = Jvm.exec) (hb : c.code = cc) (hr : meth.sig.returnType = some .float) (hlocks : meth.locks = false) {z z0 : UInt32} {F : vSt} (hk : k = 0) (hz : z = z0) (he : v = F) (hH : Hp G da v x H) (hS : va_S (gA G) s.heap H locs) (hc : cells ≤ mc) (hs : slots ≤ ms) (hdg : decode cc pc = .ok (.freturn, 1)) :
    W p l e R s m args below meth c H locs cells slots (vx_MQ below (va_Qf (fun (q : UInt32) (_ : Nat → Nat) => k = 0 ∧ q = z0) (fun d t => Hp G d F x t.heap) (gA G)) XC args s mc ms (gA G)) (F0 m pc ls [.float z]) :=
  vx_ret (W.widen (k := mc) (n := ms) hc hs (W.fret hx hb hr (fun t ht _ => ⟨⟨z, da, rfl, ⟨hk, hz⟩, (by show Hp G _ _ _ t.heap; rw [ht, ← he]; exact hH)⟩, hS.F ht⟩) hS.2.2 hdg hlocks))
/-- the goals behind a call that may throw -/
theorem c_ti {av : Array Value} {z : Int32} {F : vSt} {x1 : gX} (hr : vx_Run p l e R s m args below meth c H locs cells slots mc ms (F0 m pc ls st0) rest (va_Qi (fun (q : Int32) (_ : Nat → Nat) => k = 0 ∧ q = z) (fun d t => Hp G d F x1 t.heap) (gA G) av) (XQ G k F x1) (gA G)) (hS : va_S (gA G) s.heap H locs)
    (kx : ¬ k = 0 → ∀ (d : Nat → Nat) (ce : Cell) (q9 : Addr) (H1 : Heap) (locs1 : List Loc) (v1 : vSt), v1 = F → Hp G d v1 x1 H1 → va_S (gA G) s.heap H1 locs1 → H1[q9]? = some ce → ce.vm = .none → s.vm.findClass (exN k) = some ce.cls → vx_W p l e R s m args below meth c H1 locs1 (cells + mc) (slots + ms) Q (F0 m pc ls rest) q9)
    (kk : k = 0 → ∀ (d : Nat → Nat) (H1 : Heap) (locs1 : List Loc) (v1 : vSt), v1 = F → Hp G d v1 x1 H1 → va_S (gA G) s.heap H1 locs1 → W p l e R s m args below meth c H1 locs1 (cells + mc) (slots + ms) Q (F0 m (pc + 3) ls (.int z :: rest))) :
    W p l e R s m args below meth c H locs cells slots Q (F0 m pc ls st0) :=
  vx_calli hr hS (fun _ _ h => h) (fun _ h => h) (fun _ _ h => h)
    (fun E ce q9 u t H1 locs1 ht _ _ hB _ _ hS1 hq hv hcl => by obtain ⟨hk, rfl, hH⟩ := hB; exact kx hk u ce q9 H1 locs1 F rfl (by rw [← ht]; exact hH) hS1 hq hv hcl)
    (fun r u t H1 locs1 ht _ hp hB _ _ hS1 => by obtain ⟨hk, rfl⟩ := hp; exact kk hk u H1 locs1 F rfl (by rw [← ht]; exact hB) hS1)
theorem c_tf {av : Array Value} {z : UInt32} {F : vSt} {x1 : gX} (hr : vx_Run p l e R s m args below meth c H locs cells slots mc ms (F0 m pc ls st0) rest (va_Qf (fun (q : UInt32) (_ : Nat → Nat) => k = 0 ∧ q = z) (fun d t => Hp G d F x1 t.heap) (gA G) av) (XQ G k F x1) (gA G)) (hS : va_S (gA G) s.heap H locs)
    (kx : ¬ k = 0 → ∀ (d : Nat → Nat) (ce : Cell) (q9 : Addr) (H1 : Heap) (locs1 : List Loc) (v1 : vSt), v1 = F → Hp G d v1 x1 H1 → va_S (gA G) s.heap H1 locs1 → H1[q9]? = some ce → ce.vm = .none → s.vm.findClass (exN k) = some ce.cls → vx_W p l e R s m args below meth c H1 locs1 (cells + mc) (slots + ms) Q (F0 m pc ls rest) q9)
    (kk : k = 0 → ∀ (d : Nat → Nat) (H1 : Heap) (locs1 : List Loc) (v1 : vSt), v1 = F → Hp G d v1 x1 H1 → va_S (gA G) s.heap H1 locs1 → W p l e R s m args below meth c H1 locs1 (cells + mc) (slots + ms) Q (F0 m (pc + 3) ls (.float z :: rest))) :
    W p l e R s m args below meth c H locs cells slots Q (F0 m pc ls st0) :=
  vx_callf hr hS (fun _ _ h => h) (fun _ h => h) (fun _ _ h => h)
    (fun E ce q9 u t H1 locs1 ht _ _ hB _ _ hS1 hq hv hcl => by obtain ⟨hk, rfl, hH⟩ := hB; exact kx hk u ce q9 H1 locs1 F rfl (by rw [← ht]; exact hH) hS1 hq hv hcl)
    (fun r u t H1 locs1 ht _ hp hB _ _ hS1 => by obtain ⟨hk, rfl⟩ := hp; exact kk hk u H1 locs1 F rfl (by rw [← ht]; exact hB) hS1)
theorem c_tv {av : Array Value} {F : vSt} {x1 : gX} (hr : vx_Run p l e R s m args below meth c H locs cells slots mc ms (F0 m pc ls st0) rest (va_Qv (fun _ : Nat → Nat => k = 0) (fun d t => Hp G d F x1 t.heap) (gA G) av) (XQ G k F x1) (gA G)) (hS : va_S (gA G) s.heap H locs)
    (kx : ¬ k = 0 → ∀ (d : Nat → Nat) (ce : Cell) (q9 : Addr) (H1 : Heap) (locs1 : List Loc) (v1 : vSt), v1 = F → Hp G d v1 x1 H1 → va_S (gA G) s.heap H1 locs1 → H1[q9]? = some ce → ce.vm = .none → s.vm.findClass (exN k) = some ce.cls → vx_W p l e R s m args below meth c H1 locs1 (cells + mc) (slots + ms) Q (F0 m pc ls rest) q9)
    (kk : k = 0 → ∀ (d : Nat → Nat) (H1 : Heap) (locs1 : List Loc) (v1 : vSt), v1 = F → Hp G d v1 x1 H1 → va_S (gA G) s.heap H1 locs1 → W p l e R s m args below meth c H1 locs1 (cells + mc) (slots + ms) Q (F0 m (pc + 3) ls rest)) :
    W p l e R s m args below meth c H locs cells slots Q (F0 m pc ls st0) :=
  vx_callv hr hS (fun _ _ h => h) (fun _ h => h) (fun _ _ h => h)
    (fun E ce q9 u t H1 locs1 ht _ _ hB _ _ hS1 hq hv hcl => by obtain ⟨hk, rfl, hH⟩ := hB; exact kx hk u ce q9 H1 locs1 F rfl (by rw [← ht]; exact hH) hS1 hq hv hcl)
    (fun u t H1 locs1 ht _ hp hB _ _ hS1 => kk hp u H1 locs1 F rfl (by rw [← ht]; exact hB) hS1)
theorem c_tr {av : Array Value} {z : Nat} {F : vSt} {x1 : gX} (hr : vx_Run p l e R s m args below meth c H locs cells slots mc ms (F0 m pc ls st0) rest (va_Qr (fun _ : Nat → Nat => k = 0) (fun d a t => a = ga G z ∧ Hp G d F x1 t.heap) (gA G) av) (XQ G k F x1) (gA G)) (hS : va_S (gA G) s.heap H locs)
    (kx : ¬ k = 0 → ∀ (d : Nat → Nat) (ce : Cell) (q9 : Addr) (H1 : Heap) (locs1 : List Loc) (v1 : vSt), v1 = F → Hp G d v1 x1 H1 → va_S (gA G) s.heap H1 locs1 → H1[q9]? = some ce → ce.vm = .none → s.vm.findClass (exN k) = some ce.cls → vx_W p l e R s m args below meth c H1 locs1 (cells + mc) (slots + ms) Q (F0 m pc ls rest) q9)
    (kk : k = 0 → ∀ (d : Nat → Nat) (H1 : Heap) (locs1 : List Loc) (v1 : vSt), v1 = F → Hp G d v1 x1 H1 → va_S (gA G) s.heap H1 locs1 → W p l e R s m args below meth c H1 locs1 (cells + mc) (slots + ms) Q (F0 m (pc + 3) ls (.ref (ga G z) :: rest))) :
    W p l e R s m args below meth c H locs cells slots Q (F0 m pc ls st0) := by
  intro T hT X
  rcases hr T hT X with ⟨v, st₀, t, T', L, h0, X', hL, e1, e2, ⟨⟨u, a, hv, hp, hb⟩, hF⟩, st⟩ | ⟨q, st₀, t, T', L, E, ce, h0, X', hL, e1, e2, ⟨u, hp, hb, hF⟩, hce, hcv, hcl, st⟩
  · cases hv
    obtain ⟨ha, hH⟩ := hb
    subst ha
    obtain ⟨k1, k2, k3⟩ := vx_keep h0 e1 hS (fun _ _ h => h) (fun _ h => h) hL hF
    obtain ⟨t2, a1, b1⟩ := kk hp u T'.heap (locs ++ L) F rfl (by rw [e1]; exact hH) k3 T' rfl X'
    exact ⟨t2, st t2 a1, b1⟩
  · obtain ⟨k1, k2, k3⟩ := vx_keep h0 e1 hS (fun _ _ h => h) (fun _ h => h) hL hF
    obtain ⟨hk, rfl, hH⟩ := hb
    obtain ⟨t2, a1, b1⟩ := kx hk u ce q T'.heap (locs ++ L) F rfl (by rw [e1]; exact hH) k3 (by rw [e1]; exact hce) hcv hcl T' rfl X'
    exact ⟨t2, st.trans a1, b1⟩
variable {y : MethodName} {b : ByteArray} {n : Nat} {ret : Option FieldType} {rm : Room} {free : Addr → Prop} {Pre : State → Prop} {As : List Value} {a idx kp : Nat} {C : String}
theorem runxV (hx : p.tables.exec = Jvm.exec) (hb : c.code = cc) (hml0 : c.maxLocals = nL) (hown : s.vm.findClass own = some m.cls) (hts : ∀ w ∈ TT, w.before args s = true)
    (hM : vx_Met l y (wc y b n ret) rm (va_Pc (.ref a :: As) Pre) Qc XC mc ms free) (hbl : FrameBlind (va_Pc (.ref a :: As) Pre)) (hml : Cond.methodLink own idx y ∈ TT) (him : Cond.instanceMethod y ∈ TT) (hsel : Cond.selects C y y ∈ TT) (hini : Cond.initialized C ∈ TT) (hcode : Cond.code y b n ret ∈ TT)
    (hd : y.cls = C ∧ y.cls ≠ "java/lang/invoke/MethodHandle" ∧ y.cls ≠ "java/lang/invoke/VarHandle" ∧ (parseMethodDescriptor y.desc).map (fun d => d.parameters.length) = some kp) (hrc : rm.cells = mc) (hrs : rm.slots = ms)
    (hR : rm.frames + 1 ≤ R.frames ∧ 8 + (n + 11) + rm.locals ≤ R.locals) (hcs : cells + mc ≤ R.cells ∧ slots + ms ≤ R.slots) (hrecv : ∃ cell : Cell, H[a]? = some cell ∧ cell.vm.isStatics = false ∧ s.vm.findClass C = some cell.cls)
    (hpre : ∀ U : State, U.heap = H → s.WarmedH U.vm → Pre U) (hlen : As.length = kp) (hls : ls.size = nL) (hst : st0 = As.reverse ++ .ref a :: rest) (hsum : (rest.map fun v => v.category).sum ≤ 8) (hdg : decode cc pc = .ok (.invokevirtual idx, 3)) :
    vx_Run p l e R s m args below meth c H locs cells slots mc ms (F0 m pc ls st0) rest (Qc (Value.ref a :: As).toArray) XC free :=
  vx_runV (As := As) (rest := rest) (Ts := TT) ⟨hx, hb, hml0, hown, hts⟩ hM (cwV kp hts (gT1 hml (gT1 him (gT1 hsel (gT1 hini (gT hcode))))) rfl hrc hrs hd hR) ⟨hbl, hrecv, fun U hU hW => ⟨rfl, hpre U hU hW⟩⟩ rfl hlen hls hst (lv_room hsum) hdg hcs
theorem runxS (hx : p.tables.exec = Jvm.exec) (hb : c.code = cc) (hml0 : c.maxLocals = nL) (hown : s.vm.findClass own = some m.cls) (hts : ∀ w ∈ TT, w.before args s = true)
    (hM : vx_Met l y (wc y b n ret) rm (va_Pc As Pre) Qc XC mc ms free) (hbl : FrameBlind (va_Pc As Pre)) (hml : Cond.methodLink own idx y ∈ TT) (hst1 : Cond.static y ∈ TT) (hini : Cond.initialized y.cls ∈ TT) (hcode : Cond.code y b n ret ∈ TT)
    (hd : y.cls ≠ "java/lang/invoke/MethodHandle" ∧ y.cls ≠ "java/lang/invoke/VarHandle" ∧ (parseMethodDescriptor y.desc).map (fun d => d.parameters.length) = some kp) (hrc : rm.cells = mc) (hrs : rm.slots = ms)
    (hR : rm.frames + 1 ≤ R.frames ∧ 8 + (n + 11) + rm.locals ≤ R.locals) (hcs : cells + mc ≤ R.cells ∧ slots + ms ≤ R.slots)
    (hpre : ∀ U : State, U.heap = H → s.WarmedH U.vm → Pre U) (hlen : As.length = kp) (hls : ls.size = nL) (hst : st0 = As.reverse ++ rest) (hsum : (rest.map fun v => v.category).sum ≤ 8) (hdg : decode cc pc = .ok (.invokestatic idx, 3)) :
    vx_Run p l e R s m args below meth c H locs cells slots mc ms (F0 m pc ls st0) rest (Qc As.toArray) XC free :=
  vx_runS (As := As) (rest := rest) (Ts := TT) ⟨hx, hb, hml0, hown, hts⟩ hM (va_cwS kp hts (gT1 hml (gT1 hst1 (gT1 hini (gT hcode)))) rfl hrc hrs hd hR) ⟨hbl, fun U hU hW => ⟨rfl, hpre U hU hW⟩⟩ rfl hlen hls hst (lv_room hsum) hdg hcs
end T1
