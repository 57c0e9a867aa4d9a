/-! ENTRIES, ENDS, CALLS: the shapes of contracts and what a caller has of them. -/
abbrev QI (l : Launch) (y : MethodName) (b : ByteArray) (n : Nat) (ret : Option FieldType) (rm : Room) (avs : List Value) (Pre : State → Prop) (F : Int32) : Prop := Met l y (wc y b n ret) rm (va_Pc avs Pre) (vp_Si (fun z => z = F)) 0 0 (fun _ => False)
abbrev QR (l : Launch) (y : MethodName) (b : ByteArray) (n : Nat) (ret : Option FieldType) (rm : Room) (avs : List Value) (Pre : State → Prop) (F : Nat) : Prop := Met l y (wc y b n ret) rm (va_Pc avs Pre) (va_Sr (fun z => z = F) (fun k => .ref k)) 0 0 (fun _ => False)
abbrev MV (l : Launch) (y : MethodName) (b : ByteArray) (n : Nat) (ret : Option FieldType) (rm : Room) (avs : List Value) (G : gG) (da : Nat → Nat) (v : vSt) (x : gX) (mc ms : Nat) (F : vSt) (x1 : gX) : Prop := Met l y (wc y b n ret) rm (va_Pc avs (pW G da v x)) (va_Qv (fun _ : Nat → Nat => True) (fun d t => Hp G d F x1 t.heap) (gA G)) mc ms (gA G)
abbrev MI (l : Launch) (y : MethodName) (b : ByteArray) (n : Nat) (ret : Option FieldType) (rm : Room) (avs : List Value) (G : gG) (da : Nat → Nat) (v : vSt) (x : gX) (mc ms : Nat) (z : Int32) (F : vSt) (x1 : gX) : Prop := Met l y (wc y b n ret) rm (va_Pc avs (pW G da v x)) (va_Qi (fun (q : Int32) (_ : Nat → Nat) => q = z) (fun d t => Hp G d F x1 t.heap) (gA G)) mc ms (gA G)
section E1
variable {l : Launch} {y : MethodName} {cc : ByteArray} {nL : Nat} {ret : Option FieldType} {rm : Room} {avs : List Value} {Qc : Array Value → State → Outcome → State → Prop} {mc ms : Nat} {free : Addr → Prop}
theorem gofT {Pre : State → Prop} {own : String} (hy : plainName y.cls = true) (hown : y.cls = own) (hlen : (lg_sl avs).length ≤ nL)
    (body : ∀ (p : Program) (e : Env) (s : State) (m : MethodId) (below : List Frame) (meth : Method) (c : Code) (ls : Array Slot), p.tables.exec = Jvm.exec → c.code = cc → c.maxLocals = nL → s.vm.findClass own = some m.cls → (∀ w ∈ TT, w.before avs.toArray s = true) → meth.sig.returnType = ret → meth.locks = false → Pre s → lv_has ls nL (lv_args 0 avs) →
      W p l e rm s m avs.toArray below meth c s.heap [] 0 0 (MQ below Qc avs.toArray s mc ms free) (F0 m 0 ls [])) : Met l y (wc y cc nL ret) rm (va_Pc avs Pre) Qc mc ms free := by
  refine Met.ofW (cc := cc) (maxL := nL) (ret := ret) hy rfl ?_
  intro p e s m args below meth c s₁ B hml hv
  obtain ⟨rfl, hP⟩ := hv
  have hts : ∀ w ∈ TT, w.before _ s = true := fun w h => atoms_spec (ws := wc y cc nL ret) B.pre w (List.mem_cons_of_mem _ h)
  have hown2 : s.vm.findClass own = some m.cls := hown ▸ findClass_of_methodNamed B.named
  have hl := lv_entry avs (n := nL) hlen
  rw [lg_entry_eq]
  exact body p e s m below meth c _ B.exec B.bytes hml hown2 hts B.returns B.notSynchronized hP hl
theorem gofW {G : gG} {da : Nat → Nat} {v : vSt} {x : gX} {own : String} (hy : plainName y.cls = true) (hown : y.cls = own) (hlen : (lg_sl avs).length ≤ nL)
    (body : ∀ (p : Program) (e : Env) (s : State) (m : MethodId) (below : List Frame) (meth : Method) (c : Code) (ls : Array Slot), CX G p s m avs.toArray c cc nL own → meth.sig.returnType = ret → meth.locks = false → Hp G da v x s.heap → lv_has ls nL (lv_args 0 avs) →
      W p l e rm s m avs.toArray below meth c s.heap [] 0 0 (MQ below Qc avs.toArray s mc ms free) (F0 m 0 ls [])) : Met l y (wc y cc nL ret) rm (va_Pc avs (pW G da v x)) Qc mc ms free :=
  gofT hy hown hlen (fun p e s m below meth c ls h1 h2 h3 h4 h5 h6 h7 hP hl => body p e s m below meth c ls ⟨h1, h2, h3, h4, h5, hP.1, hP.2.1⟩ h6 h7 hP.2.2 hl)
end E1
section E2
variable {p : Program} {l : Launch} {e : Env} {R : Room} {s : State} {m : MethodId} {args : Array Value} {below : List Frame} {meth : Method} {c : Code} {H : Heap} {locs : List Loc} {cells slots : Nat} {Q : State → Prop}
variable {cc : ByteArray} {pc nL : Nat} {ls : Array Slot} {rest st0 : List Value} {G : gG} {own : String} {da : Nat → Nat} {v : vSt} {x : gX} {mc ms : Nat}
/-- the ends -/
theorem e_qi (hx : p.tables.exec = Jvm.exec) (hb : c.code = cc) {ty : FieldType} (hr : meth.sig.returnType = some ty) (hlocks : meth.locks = false) {z F : Int32} (hn : narrow ty (.int z) = .int z) (he : z = F) (hdg : decode cc pc = .ok (.ireturn, 1)) :
    W p l e R s m args below meth c s.heap [] 0 0 (MQ below (vp_Si (fun z => z = F)) args s 0 0 (fun _ => False)) (F0 m pc ls [.int z]) :=
  W.zret hx hb hr hn (fun _ ht _ => ⟨z, rfl, he, ht⟩) (fun _ h => absurd h List.not_mem_nil) hdg hlocks
theorem e_qr (hx : p.tables.exec = Jvm.exec) (hb : c.code = cc) {C : String} (hr : meth.sig.returnType = some (.object C)) (hlocks : meth.locks = false) {z F : Nat} (he : z = F) (hdg : decode cc pc = .ok (.areturn, 1)) :
    W p l e R s m args below meth c s.heap [] 0 0 (MQ below (va_Sr (fun z => z = F) (fun k => .ref k)) args s 0 0 (fun _ => False)) (F0 m pc ls [.ref z]) :=
  W.aret hx hb hr (Or.inl ⟨C, rfl⟩) (Or.inr ⟨z, rfl⟩) (fun _ ht _ => ⟨z, rfl, he, ht⟩) (fun _ h => absurd h List.not_mem_nil) hdg hlocks
theorem e_mv (hx : p.tables.exec = Jvm.exec) (hb : c.code = cc) (hr : meth.sig.returnType = none) (hlocks : meth.locks = false) {F : vSt} (he : v = F) (hH : Hp G da v x H) (hS : va_S (gA G) s.heap H locs) (hc : cells ≤ mc) (hs : slots ≤ ms) (hdg : decode cc pc = .ok (.return_, 1)) :
    W p l e R s m args below meth c H locs cells slots (MQ below (va_Qv (fun _ : Nat → Nat => True) (fun d t => Hp G d F x t.heap) (gA G)) args s mc ms (gA G)) (F0 m pc ls []) :=
  W.widen (k := mc) (n := ms) hc hs (W.vret hx hb hr (fun t ht _ => ⟨⟨da, rfl, trivial, (by show Hp G _ _ _ t.heap; rw [ht, ← he]; exact hH)⟩, hS.F ht⟩) hS.2.2 hdg hlocks)
theorem e_mi (hx : p.tables.exec = Jvm.exec) (hb : c.code = cc) {ty : FieldType} (hr : meth.sig.returnType = some ty) (hlocks : meth.locks = false) {z z0 : Int32} {F : vSt} (hn : narrow ty (.int z) = .int z) (hz : z = z0) (he : v = F) (hH : Hp G da v x H) (hS : va_S (gA G) s.heap H locs) (hc : cells ≤ mc) (hs : slots ≤ ms) (hdg : decode cc pc = .ok (.ireturn, 1)) :
    W p l e R s m args below meth c H locs cells slots (MQ below (va_Qi (fun (q : Int32) (_ : Nat → Nat) => q = z0) (fun d t => Hp G d F x t.heap) (gA G)) args s mc ms (gA G)) (F0 m pc ls [.int z]) :=
  W.widen (k := mc) (n := ms) hc hs (W.zret hx hb hr hn (fun t ht _ => ⟨⟨z, da, rfl, hz, (by show Hp G _ _ _ t.heap; rw [ht, ← he]; exact hH)⟩, hS.F ht⟩) hS.2.2 hdg hlocks)
/-- what a callee's start has of the caller's -/
theorem preW (X : CX G p s m args c cc nL own) (hS : va_S (gA G) s.heap H locs) (hH : Hp G da v x H) : ∀ U : State, U.heap = H → s.WarmedH U.vm → pW G da v x U := fun U hU hW =>
  ⟨X.2.2.2.2.2.1.warm hW (fun a h1 h2 => by rw [hU]; exact hS.2.1 a h1 h2), by rw [hU]; exact Nat.le_trans X.2.2.2.2.2.2 hS.1, by rw [hU]; exact hH⟩
theorem recvW (X : CX G p s m args c cc nL own) (hH : Hp G da v x H) {r ci : Nat} {C : String} {T : u_T} {N : Nat} {fs : List Value} (hr : kd r ≠ 99) (h23 : kd r ≠ 23) (he : cE G da v x r = .inr (ci, fs)) (hc : vwCl[ci]? = some (C, T, N)) :
    ∃ cell : Cell, H[ga G r]? = some cell ∧ cell.vm.isStatics = false ∧ s.vm.findClass C = some cell.cls := by
  have hP := hH.get hr
  rw [he, show adr G da r = ga G r from if_neg h23] at hP
  exact va_recv X.2.2.2.2.2.1.1 hP hc (q0 := 0) rfl
variable {y : MethodName} {b : ByteArray} {n : Nat} {ret : Option FieldType} {rm : Room} {Qc : Array Value → State → Outcome → State → Prop} {free : Addr → Prop} {Pre : State → Prop} {As : List Value} {a idx k : Nat} {C : String}
theorem runV (hx : p.tables.exec = Jvm.exec) (hb : c.code = cc) (hml0 : c.maxLocals = nL) (hown : s.vm.findClass own = some m.cls) (hts : ∀ w ∈ TT, w.before args s = true)
    (hM : Met l y (wc y b n ret) rm (va_Pc (.ref a :: As) Pre) Qc mc ms free) (hbl : FrameBlind (va_Pc (.ref a :: As) Pre)) (hml : Cond.methodLink own idx y ∈ TT) (him : Cond.instanceMethod y ∈ TT) (hsel : Cond.selects C y y ∈ TT) (hini : Cond.initialized C ∈ TT) (hcode : Cond.code y b n ret ∈ TT)
    (hd : y.cls = C ∧ y.cls ≠ "java/lang/invoke/MethodHandle" ∧ y.cls ≠ "java/lang/invoke/VarHandle" ∧ (parseMethodDescriptor y.desc).map (fun d => d.parameters.length) = some k) (hrc : rm.cells = mc) (hrs : rm.slots = ms)
    (hR : rm.frames + 1 ≤ R.frames ∧ 8 + (n + 11) + rm.locals ≤ R.locals) (hcs : cells + mc ≤ R.cells ∧ slots + ms ≤ R.slots) (hrecv : ∃ cell : Cell, H[a]? = some cell ∧ cell.vm.isStatics = false ∧ s.vm.findClass C = some cell.cls)
    (hpre : ∀ U : State, U.heap = H → s.WarmedH U.vm → Pre U) (hlen : As.length = k) (hls : ls.size = nL) (hst : st0 = As.reverse ++ .ref a :: rest) (hsum : (rest.map fun v => v.category).sum ≤ 8) (hdg : decode cc pc = .ok (.invokevirtual idx, 3)) :
    va_Run p l e R s m args below meth c H locs cells slots mc ms (F0 m pc ls st0) rest (Qc (Value.ref a :: As).toArray) free :=
  va_runV (As := As) (rest := rest) (Ts := TT) ⟨hx, hb, hml0, hown, hts⟩ hM (cwV k hts (gT1 hml (gT1 him (gT1 hsel (gT1 hini (gT hcode))))) rfl hrc hrs hd hR) ⟨hbl, hrecv, fun U hU hW => ⟨rfl, hpre U hU hW⟩⟩ rfl hlen hls hst (lv_room hsum) hdg hcs
theorem runS (hx : p.tables.exec = Jvm.exec) (hb : c.code = cc) (hml0 : c.maxLocals = nL) (hown : s.vm.findClass own = some m.cls) (hts : ∀ w ∈ TT, w.before args s = true)
    (hM : Met l y (wc y b n ret) rm (va_Pc As Pre) Qc mc ms free) (hbl : FrameBlind (va_Pc As Pre)) (hml : Cond.methodLink own idx y ∈ TT) (hst1 : Cond.static y ∈ TT) (hini : Cond.initialized y.cls ∈ TT) (hcode : Cond.code y b n ret ∈ TT)
    (hd : y.cls ≠ "java/lang/invoke/MethodHandle" ∧ y.cls ≠ "java/lang/invoke/VarHandle" ∧ (parseMethodDescriptor y.desc).map (fun d => d.parameters.length) = some k) (hrc : rm.cells = mc) (hrs : rm.slots = ms)
    (hR : rm.frames + 1 ≤ R.frames ∧ 8 + (n + 11) + rm.locals ≤ R.locals) (hcs : cells + mc ≤ R.cells ∧ slots + ms ≤ R.slots)
    (hpre : ∀ U : State, U.heap = H → s.WarmedH U.vm → Pre U) (hlen : As.length = k) (hls : ls.size = nL) (hst : st0 = As.reverse ++ rest) (hsum : (rest.map fun v => v.category).sum ≤ 8) (hdg : decode cc pc = .ok (.invokestatic idx, 3)) :
    va_Run p l e R s m args below meth c H locs cells slots mc ms (F0 m pc ls st0) rest (Qc As.toArray) free :=
  va_runS (As := As) (rest := rest) (Ts := TT) ⟨hx, hb, hml0, hown, hts⟩ hM (va_cwS k hts (gT1 hml (gT1 hst1 (gT1 hini (gT hcode)))) rfl hrc hrs hd hR) ⟨hbl, fun U hU hW => ⟨rfl, hpre U hU hW⟩⟩ rfl hlen hls hst (lv_room hsum) hdg hcs
theorem runN (hx : p.tables.exec = Jvm.exec) (hb : c.code = cc) (hml0 : c.maxLocals = nL) (hown : s.vm.findClass own = some m.cls) (hts : ∀ w ∈ TT, w.before args s = true)
    (hM : Met l y (wc y b n ret) rm (va_Pc As Pre) Qc mc ms free) (hbl : FrameBlind (va_Pc As Pre)) {host : String} (hml : va_Nw (.methodLinkNest own idx y host) s) (hst1 : Cond.static y ∈ TT) (hini : Cond.initialized y.cls ∈ TT) (hcode : Cond.code y b n ret ∈ TT)
    (hd : y.cls ≠ "java/lang/invoke/MethodHandle" ∧ y.cls ≠ "java/lang/invoke/VarHandle" ∧ (parseMethodDescriptor y.desc).map (fun d => d.parameters.length) = some k) (hrc : rm.cells = mc) (hrs : rm.slots = ms)
    (hR : rm.frames + 1 ≤ R.frames ∧ 8 + (n + 11) + rm.locals ≤ R.locals) (hcs : cells + mc ≤ R.cells ∧ slots + ms ≤ R.slots)
    (hpre : ∀ U : State, U.heap = H → s.WarmedH U.vm → Pre U) (hlen : As.length = k) (hls : ls.size = nL) (hst : st0 = As.reverse ++ rest) (hsum : (rest.map fun v => v.category).sum ≤ 8) (hdg : decode cc pc = .ok (.invokestatic idx, 3)) :
    va_Run p l e R s m args below meth c H locs cells slots mc ms (F0 m pc ls st0) rest (Qc As.toArray) free :=
  va_runSN (As := As) (rest := rest) (Ts := TT) ⟨hx, hb, hml0, hown, hts⟩ hM ⟨va_cnB k hts (gT hcode) rfl hrc hrs hml (hts _ hini) hd hR, hts _ hst1, trivial⟩ ⟨hbl, fun U hU hW => ⟨rfl, hpre U hU hW⟩⟩ rfl hlen hls hst (lv_room hsum) hdg hcs
/-- the goal behind a call that changes the world -/
theorem c_mv {av : Array Value} {F : vSt} {x1 : gX} (hbz : gb G ≤ s.heap.size) (hr : va_Run p l e R s m args below meth c H locs cells slots mc ms (F0 m pc ls st0) rest (va_Qv (fun _ : Nat → Nat => True) (fun d t => Hp G d F x1 t.heap) (gA G) av) (gA G)) (hS : va_S (gA G) s.heap H locs)
    (kk : ∀ (d : Nat → Nat) (H1 : Heap) (locs1 : List Loc) (v1 : vSt), v1 = F → Hp G d v1 x1 H1 → va_S (gA G) s.heap H1 locs1 → W p l e R s m args below meth c H1 locs1 (cells + mc) (slots + ms) Q (F0 m (pc + 3) ls rest)) :
    W p l e R s m args below meth c H locs cells slots Q (F0 m pc ls st0) :=
  va_callv hr hS (fun _ _ h => h) (fun _ h => h) (fun d t H1 locs1 ht _ _ hB _ _ hS1 => kk d H1 locs1 F rfl (by rw [← ht]; exact hB) hS1)
theorem c_mi {av : Array Value} {z : Int32} {F : vSt} {x1 : gX} (hbz : gb G ≤ s.heap.size) (hr : va_Run p l e R s m args below meth c H locs cells slots mc ms (F0 m pc ls st0) rest (va_Qi (fun (q : Int32) (_ : Nat → Nat) => q = z) (fun d t => Hp G d F x1 t.heap) (gA G) av) (gA G)) (hS : va_S (gA G) s.heap H locs)
    (kk : ∀ (d : Nat → Nat) (H1 : Heap) (locs1 : List Loc) (v1 : vSt), v1 = F → Hp G d v1 x1 H1 → va_S (gA G) s.heap H1 locs1 → W p l e R s m args below meth c H1 locs1 (cells + mc) (slots + ms) Q (F0 m (pc + 3) ls (.int z :: rest))) :
    W p l e R s m args below meth c H locs cells slots Q (F0 m pc ls st0) :=
  va_calli hr hS (fun _ _ h => h) (fun _ h => h) (fun q d t H1 locs1 ht _ hq hB _ _ hS1 => by subst hq; exact kk d H1 locs1 F rfl (by rw [← ht]; exact hB) hS1)
end E2
theorem i_lt {a b : Int32} (h : a < b) : a.toInt < b.toInt := Int32.lt_iff_toInt_lt.mp h
theorem i_nlt {a b : Int32} (h : ¬ a < b) : b.toInt ≤ a.toInt := Int.not_lt.mp (fun q => h (Int32.lt_iff_toInt_lt.mpr q))
theorem i_le {a b : Int32} (h : a ≤ b) : a.toInt ≤ b.toInt := Int32.le_iff_toInt_le.mp h
theorem i_nle {a b : Int32} (h : ¬ a ≤ b) : b.toInt < a.toInt := Int.not_le.mp (fun q => h (Int32.le_iff_toInt_le.mpr q))
theorem i_eq {a b : Int32} (h : a = b) : a.toInt = b.toInt := congrArg _ h
theorem i_ne {a b : Int32} (h : ¬ a = b) : a.toInt ≠ b.toInt := fun q => h (Int32.toInt_inj.mp q)
theorem i_in {i : Int32} {n : Nat} (h0 : 0 ≤ i.toInt) (h1 : i.toInt < n) : vp_in i n := vp_in_iff.mpr ⟨h0, h1⟩
theorem i_rN {i : Int32} (h0 : 0 ≤ i.toInt) : (rN i : Int) = i.toInt := by
  show ((i.toInt.toNat : Nat) : Int) = _
  omega
theorem fb_rngX (x : Int32) : -2147483648 ≤ x.toInt ∧ x.toInt < 2147483648 := ⟨by have := Int32.minValue_le_toInt x; have e : Int32.minValue.toInt = -2147483648 := rfl; omega, by have := Int32.toInt_le x; have e : Int32.maxValue.toInt = 2147483647 := rfl; omega⟩
theorem i_add1 {i : Int32} (h : i.toInt < 2147483647) : (i + 1).toInt = i.toInt + 1 := by
  rw [Int32.toInt_add, show (1 : Int32).toInt = 1 from rfl]
  have := fb_rngX i
  rw [Int.bmod_def]
  split <;> omega
