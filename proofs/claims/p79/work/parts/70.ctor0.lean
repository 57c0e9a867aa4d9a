/-! THE CONSTRUCTORS: worlds as lists, the newest first; entries, ends, calls. -/
theorem va_P_mem {D : va_G} {cl : List vw_C} {ws : va_W} {H : Heap} : va_P D cl ws H ↔ ∀ q ∈ ws, va_at D cl q H :=
  ⟨fun h q hq => (List.getElem?_of_mem hq).elim fun k hk => h k q hk, fun h k q hk => h q (List.mem_of_getElem? hk)⟩
theorem va_D_nd {A : Nat → Prop} {ws : va_W} : va_D A ws ↔ (ws.map Prod.fst).Nodup ∧ ∀ q ∈ ws, A q.1 := by
  constructor
  · intro h
    refine ⟨List.pairwise_iff_getElem.mpr (fun i j hi hj hij he => ?_), fun q hq => (List.getElem?_of_mem hq).elim fun k hk => h.2 k q hk⟩
    simp only [List.getElem_map] at he
    have := h.1 i j _ _ (List.getElem?_eq_getElem (by simpa using hi)) (List.getElem?_eq_getElem (by simpa using hj)) he
    omega
  · intro h
    refine ⟨fun i j p q hi hj he => ?_, fun k q hk => h.2 q (List.mem_of_getElem? hk)⟩
    have h1 : (ws.map Prod.fst)[i]? = some p.1 := by rw [List.getElem?_map, hi]; rfl
    have h2 : (ws.map Prod.fst)[j]? = some q.1 := by rw [List.getElem?_map, hj]; rfl
    exact (List.getElem?_inj (List.getElem?_eq_some_iff.mp h1).1 h.1).mp (by rw [h1, h2, he])
def GW (G : gG) (ws : va_W) (H : Heap) : Prop := va_P (gD G) vwCl ws H ∧ va_D (gA G) ws
theorem GW.perm {G : gG} {ws ws' : va_W} {H : Heap} (h : GW G ws H) (hp : ws.Perm ws') : GW G ws' H := by
  refine ⟨va_P_mem.mpr (fun q hq => va_P_mem.mp h.1 q (hp.mem_iff.mpr hq)), va_D_nd.mpr ?_⟩
  have hd := va_D_nd.mp h.2
  exact ⟨(hp.map Prod.fst).nodup_iff.mp hd.1, fun q hq => hd.2 q (hp.mem_iff.mpr hq)⟩
/-- the newest cells behind the head -/
theorem GW.under {G : gG} {f h r : va_W} {H : Heap} (hw : GW G (f ++ (h ++ r)) H) : GW G (h ++ (f ++ r)) H :=
  hw.perm (by rw [← List.append_assoc, ← List.append_assoc]; exact (List.perm_append_comm).append_right r)
/-- one head's content is another that is the same cell -/
theorem GW.hd {G : gG} {a : Nat} {e e' : va_E} {r : va_W} {H : Heap} (hw : GW G ((a, e) :: r) H) (he : va_at (gD G) vwCl (a, e) H → va_at (gD G) vwCl (a, e') H) : GW G ((a, e') :: r) H := by
  refine ⟨va_P_mem.mpr (fun q hq => ?_), va_D_nd.mpr ?_⟩
  · have hm := va_P_mem.mp hw.1
    rcases List.mem_cons.mp hq with rfl | hq
    · exact he (hm _ List.mem_cons_self)
    · exact hm q (List.mem_cons_of_mem _ hq)
  · obtain ⟨h1, h2⟩ := va_D_nd.mp hw.2
    refine ⟨h1, fun q hq => ?_⟩
    rcases List.mem_cons.mp hq with rfl | hq
    · exact h2 (a, e) List.mem_cons_self
    · exact h2 q (List.mem_cons_of_mem _ hq)
theorem arrV_cg {c : ClassId} {n : Nat} {f g : Nat → Value} (h : ∀ i, i < n → f i = g i) : arrV c n f = arrV c n g := by
  unfold arrV
  congr 1
  congr 1
  funext j
  exact h j.1 j.2
theorem at_aQ {D : va_G} {cl : List vw_C} {a n : Nat} {c : ClassId} {f g : Nat → Option Nat} {H : Heap} (h : ∀ i, i < n → f i = g i) (hw : va_at D cl (a, aQ c n f) H) : va_at D cl (a, aQ c n g) H := by
  have e : arrV c n (fun j => va_rf (f j)) = arrV c n (fun j => va_rf (g j)) := arrV_cg (fun i hi => by rw [h i hi])
  show H[a]? = some (arrV c n (fun j => va_rf (g j)))
  rw [← e]
  exact hw
def va_AOL (U : State) : Prop := (Cond.arrayOver (.array .long)).before #[] U = true
theorem va_AOL.moved {u U : State} (hvm : u.vm.Alike U.vm) (h : va_AOL u) : va_AOL U := by
  obtain ⟨comp, c, k, h1, h2, h3, h4, h5⟩ := arrayOverA_spec h
  obtain ⟨k', hk', he⟩ := hvm.2.2 _ _ h3
  have hi : (U.vm.classes.findIdx? fun (x : Class) => match x.kind with | .array component _ => component == comp | _ => false) = some c := by
    rw [hvm.findIdx?_eqK _ (fun _ => rfl)]
    exact h2
  have hkind : k'.kind = .array comp (.array .long) := by rw [he]; exact h4
  have f1 : U.vm.findClass (FieldType.array .long).toString = some comp := by rw [hvm.findClass]; exact h1
  have f2 : U.vm.findClass ("[" ++ (FieldType.array .long).toString) = some c := by rw [hvm.findClass]; exact h5
  unfold va_AOL Cond.before Cond.holds
  simp only [Cond.value]
  rw [f1, Option.bind_some]
  refine (congrArg (fun o : Option Nat => (o.bind (fun c => (U.vm.classes[c]?).map fun (k : Class) => match k.kind with | .array _ ty => decide (ty = FieldType.array .long) && decide (U.vm.findClass ("[" ++ (FieldType.array .long).toString) = some c) | _ => false) == some true)) hi).trans ?_
  simp [hk', hkind, f2]
def AOs (U : State) : Prop := va_AO RX8 U ∧ va_AO RX1 U ∧ va_AO RX4 U ∧ va_AO RX7 U ∧ va_AOL U
theorem AOs.moved {u U : State} (hv : u.vm.Alike U.vm) (h : AOs u) : AOs U := ⟨h.1.moved hv, h.2.1.moved hv, h.2.2.1.moved hv, h.2.2.2.1.moved hv, h.2.2.2.2.moved hv⟩
def pNw (G : gG) (U : State) : Prop := Tb G U ∧ gb G ≤ U.heap.size ∧ AOs U
/-- a constructor: of the new object a, before all other cells ws, to the cells F -/
abbrev NIc (l : Launch) (y : MethodName) (b : ByteArray) (n : Nat) (rm : Room) (G : gG) (e0 : va_E) (mc ms : Nat) (F : Nat → (Nat → Nat) → va_W) : Prop :=
  ∀ (a : Nat) (ws : va_W), Met l y (wc y b n none) rm (va_Pc [.ref a] (fun U => pNw G U ∧ GW G ((a, e0) :: ws) U.heap)) (va_Qv (fun _ : Nat → Nat => True) (fun α t => GW G (F a α ++ ws) t.heap) (gA G)) mc ms (gA G)
theorem gofN {l : Launch} {y : MethodName} {cc : ByteArray} {nL : Nat} {rm : Room} {G : gG} {e0 : va_E} {mc ms : Nat} {F : Nat → (Nat → Nat) → va_W} {own : String} (hy : plainName y.cls = true) (hown : y.cls = own) (hyn : y.name = "<init>") (hlen : 1 ≤ nL)
    (body : ∀ (a : Nat) (ws : va_W) (p : Program) (e : Env) (s : State) (m : MethodId) (args : Array Value) (below : List Frame) (meth : Method) (c : Code) (ls : Array Slot) (Q : State → Prop), CX G p s m args c cc nL own → meth.name = "<init>" → AOs s → GW G ((a, e0) :: ws) s.heap → lv_has ls nL [(0, .ref a)] →
      (∀ (pc : Nat) (ls : Array Slot) (H : Heap) (locs : List Loc) (α : Nat → Nat) (cells slots : Nat), decode cc pc = .ok (.return_, 1) → GW G (F a α ++ ws) H → va_S (gA G) s.heap H locs → cells ≤ mc → slots ≤ ms → W p l e rm s m args below meth c H locs cells slots Q (F0 m pc ls [])) →
      W p l e rm s m args below meth c s.heap [] 0 0 Q (F0 m 0 ls [])) : NIc l y cc nL rm G e0 mc ms F := by
  intro a ws
  refine Met.ofW (cc := cc) (maxL := nL) (ret := none) hy rfl ?_
  intro p e s m args below meth c s₁ B hml hv
  obtain ⟨rfl, ⟨hT, hgb, hAO⟩, hP⟩ := hv
  have hts : ∀ w ∈ TT, w.before _ s = true := fun w h => atoms_spec (ws := wc y cc nL none) B.pre w (List.mem_cons_of_mem _ h)
  have hown2 : s.vm.findClass own = some m.cls := hown ▸ findClass_of_methodNamed B.named
  have hin : meth.name = "<init>" := (name_of_methodNamed B.named B.method).1.trans hyn
  have hl := lv_entry [.ref a] (n := nL) hlen
  rw [lg_entry_eq]
  exact body a ws p e s m _ below meth c _ _ ⟨B.exec, B.bytes, hml, hown2, hts, hT, hgb⟩ hin hAO hP hl
    (fun pc ls H locs α cells slots hd hH hS hc hs => W.widen (k := mc) (n := ms) hc hs (W.vret B.exec B.bytes B.returns (fun t ht _ => ⟨⟨α, rfl, trivial, (by show GW G _ t.heap; rw [ht]; exact hH)⟩, hS.F ht⟩) hS.2.2 hd B.notSynchronized))
section N1
variable {p : Program} {l : Launch} {e : Env} {R : Room} {s : State} {m : MethodId} {args : Array Value} {below : List Frame} {meth : Method} {c : Code} {H : Heap} {locs : List Loc} {cells slots : Nat} {Q : State → Prop}
variable {cc : ByteArray} {pc nL : Nat} {ls : Array Slot} {rest : List Value} {G : gG} {own : String} {mc ms : Nat} {ws : va_W} {a : Nat}
theorem n_new (X : CX G p s m args c cc nL own) {C : String} {T : u_T} {N ci index : Nat} (ty : Nat → FieldType) (hty : ∀ k, k < N → parseFieldDescriptor (T k).2.2.1 = some (ty k)) (hin : ∀ w ∈ u_ws C T N, w ∈ TT) (hcl : Cond.classLink own index C ∈ TT) (hinst : Cond.instantiable C N ∈ TT) (hini : Cond.initialized C ∈ TT)
    (hc : vwCl[ci]? = some (C, T, N)) {fs : List Value} (hfs : ∀ j, j < N → defaultValue (ty j) = vp_V fs j) (hH : GW G ws H) (hS : va_S (gA G) s.heap H locs) (hcells : cells + 1 ≤ R.cells) (hslots : slots + N ≤ R.slots) (hdg : decode cc pc = .ok (.new index, 3))
    (kk : ∀ (q : Nat) (H1 : Heap), GW G ((q, .inr (ci, fs)) :: ws) H1 → va_S (gA G) s.heap H1 locs → W p l e R s m args below meth c H1 locs (cells + 1) (slots + N) Q (F0 m (pc + 3) ls (.ref q :: rest))) :
    W p l e R s m args below meth c H locs cells slots Q (F0 m pc ls rest) := by
  obtain ⟨hx, hb, -, hown, hts, hT, hg⟩ := X
  exact va_new hx hb hts hin ty hty hown (hts _ hcl) (hts _ hinst) (hts _ hini) hT.1 hH.1 hH.2 hS (fun q hq => Nat.le_trans hg hq) hc hfs hcells hslots hdg
    (fun q H1 h1 h2 h3 => kk q H1 (GW.perm ⟨h1, h2⟩ (List.perm_append_singleton _ _)) h3)
theorem n_newa (X : CX G p s m args c cc nL own) {atype : ArrayType} {ty : FieldType} (hty : newarray.typeOf atype = ty) (harr : Cond.arrayClass (newarray.typeOf atype) ∈ TT) {t0 : Nat} {cT : ClassId} (ht : (tysL G)[t0]? = some (cT, ty)) (hra : ∀ c1 c2, va_RA s c1 ty → va_RA s c2 ty → c1 = c2)
    {n : Int32} {N' : Nat} {a0 : vp_A} (ha : ∀ cA : ClassId, vp_cell cA a0 = arrV cA N' (fun _ => defaultValue ty)) (hn : ¬ n < 0) (hN : n.toNatClampNeg = N') (hbytes : N' * componentBytes ty ≤ 536870912) (hH : GW G ws H) (hS : va_S (gA G) s.heap H locs) (hcells : cells + 1 ≤ R.cells) (hslots : slots + N' ≤ R.slots) (hdg : decode cc pc = .ok (.newarray atype, 2))
    (kk : ∀ (q : Nat) (H1 : Heap), GW G ((q, .inl (cT, a0)) :: ws) H1 → va_S (gA G) s.heap H1 locs → W p l e R s m args below meth c H1 locs (cells + 1) (slots + N') Q (F0 m (pc + 2) ls (.ref q :: rest))) :
    W p l e R s m args below meth c H locs cells slots Q (F0 m pc ls (.int n :: rest)) := by
  obtain ⟨hx, hb, -, hown, hts, hT, hg⟩ := X
  refine va_newa hx hb (hts _ harr) hty hT.1 hH.1 hH.2 hS (fun q hq => Nat.le_trans hg hq) ha hn hN hbytes hcells hslots hdg (fun q cA H1 hK h1 h2 h3 => ?_)
  have hcA : cA = cT := hra _ _ (hK.2 (tysL G).length (cA, ty) (by rw [List.getElem?_append_right (Nat.le_refl _), Nat.sub_self]; rfl)).2 (hT.1.2 t0 (cT, ty) ht).2
  subst hcA
  exact kk q H1 (GW.perm ⟨h1, h2⟩ (List.perm_append_singleton _ _)) h3
theorem n_newq (X : CX G p s m args c cc nL own) {C : String} {index : Nat} (hcl : Cond.classLink own index C ∈ TT) (hover : va_AO C s) {t0 : Nat} {cT : ClassId} (ht : (tysL G)[t0]? = some (cT, .object C))
    {n : Int32} {N' : Nat} (hn : ¬ n < 0) (hN : n.toNatClampNeg = N') (hbytes : N' * 4 ≤ 536870912) (hH : GW G ws H) (hS : va_S (gA G) s.heap H locs) (hcells : cells + 1 ≤ R.cells) (hslots : slots + N' ≤ R.slots) (hdg : decode cc pc = .ok (.anewarray index, 3))
    (kk : ∀ (q : Nat) (H1 : Heap), GW G ((q, aQ cT N' (fun _ => none)) :: ws) H1 → va_S (gA G) s.heap H1 locs → W p l e R s m args below meth c H1 locs (cells + 1) (slots + N') Q (F0 m (pc + 3) ls (.ref q :: rest))) :
    W p l e R s m args below meth c H locs cells slots Q (F0 m pc ls (.int n :: rest)) := by
  obtain ⟨hx, hb, -, hown, hts, hT, hg⟩ := X
  refine va_newq hx hb hown (hts _ hcl) hover hT.1 hH.1 hH.2 hS (fun q hq => Nat.le_trans hg hq) hn hN hbytes hcells hslots hdg (fun q cA H1 hK h1 h2 h3 => ?_)
  have hcA : cA = cT := by
    obtain ⟨_, _, _, _, _, e1⟩ := (hK.2 (tysL G).length (cA, .object C) (by rw [List.getElem?_append_right (Nat.le_refl _), Nat.sub_self]; rfl)).2
    obtain ⟨_, _, _, _, _, e2⟩ := (hT.1.2 t0 (cT, .object C) ht).2
    exact Option.some.inj (e1.symm.trans e2)
  subst hcA
  exact kk q H1 (GW.perm ⟨h1, h2⟩ (List.perm_append_singleton _ _)) h3
theorem n_putF (X : CX G p s m args c cc nL own) (hin2 : meth.name = "<init>") {ref C : String} {T : u_T} {N ci index : Nat} (hin : ∀ w ∈ u_ws C T N, w ∈ TT) (ty0 : Nat → FieldType) (hty : ∀ k, k < N → parseFieldDescriptor (T k).2.2.1 = some (ty0 k)) (hnm : ∀ a, a < N → ∀ b, b < N → a ≠ b → (T a).2.1 ≠ (T b).2.1)
    (hH : GW G ws H) (hS : va_S (gA G) s.heap H locs) (q0 : Nat) {fs : List Value} (he : ws[q0]? = some (a, .inr (ci, fs))) (hc : vwCl[ci]? = some (C, T, N)) (k : Nat) (hk : k < N) (hlink : Cond.fieldLink own index ref (T k).2.1 (T k).2.2.1 ∈ TT) (href : ref = (T k).1) (hfin : (T k).2.2.2 = true) (hdecl : (T k).1 = own)
    {ty : FieldType} {y : Value} (hd : parseFieldDescriptor (T k).2.2.1 = some ty) (hn : narrow ty y = y) (hfit : fits ty y = true) (hl : k < fs.length) (hdg : decode cc pc = .ok (.putfield index, 3))
    (kk : ∀ (H1 : Heap) (locs1 : List Loc), GW G (ws.set q0 (a, .inr (ci, fs.set k y))) H1 → va_S (gA G) s.heap H1 locs1 → W p l e R s m args below meth c H1 locs1 cells slots Q (F0 m (pc + 3) ls rest)) :
    W p l e R s m args below meth c H locs cells slots Q (F0 m pc ls (y :: .ref a :: rest)) := by
  obtain ⟨hx, hb, -, hown, hts, hT, hg⟩ := X
  subst href
  exact va_putF hx hb hts hin ty0 hty hnm hown hT.1 hH.1 hH.2 hS q0 he hc k hk (hts _ hlink) (fun _ h => h) hfin hin2 hdecl hd hn hfit hl hdg (fun H1 locs1 h1 h2 h3 => kk H1 locs1 ⟨h1, h2⟩ h3)
theorem n_put (X : CX G p s m args c cc nL own) {ref C : String} {T : u_T} {N ci index : Nat} (hin : ∀ w ∈ u_ws C T N, w ∈ TT) (ty0 : Nat → FieldType) (hty : ∀ k, k < N → parseFieldDescriptor (T k).2.2.1 = some (ty0 k)) (hnm : ∀ a, a < N → ∀ b, b < N → a ≠ b → (T a).2.1 ≠ (T b).2.1)
    (hH : GW G ws H) (hS : va_S (gA G) s.heap H locs) (q0 : Nat) {fs : List Value} (he : ws[q0]? = some (a, .inr (ci, fs))) (hc : vwCl[ci]? = some (C, T, N)) (k : Nat) (hk : k < N) (hlink : Cond.fieldLink own index ref (T k).2.1 (T k).2.2.1 ∈ TT) (href : ref = (T k).1) (hfin : (T k).2.2.2 = false)
    {ty : FieldType} {y : Value} (hd : parseFieldDescriptor (T k).2.2.1 = some ty) (hn : narrow ty y = y) (hfit : fits ty y = true) (hl : k < fs.length) (hdg : decode cc pc = .ok (.putfield index, 3))
    (kk : ∀ (H1 : Heap) (locs1 : List Loc), GW G (ws.set q0 (a, .inr (ci, fs.set k y))) H1 → va_S (gA G) s.heap H1 locs1 → W p l e R s m args below meth c H1 locs1 cells slots Q (F0 m (pc + 3) ls rest)) :
    W p l e R s m args below meth c H locs cells slots Q (F0 m pc ls (y :: .ref a :: rest)) := by
  obtain ⟨hx, hb, -, hown, hts, hT, hg⟩ := X
  subst href
  exact va_put hx hb hts hin ty0 hty hnm hown hT.1 hH.1 hH.2 hS q0 he hc k hk (hts _ hlink) (fun _ h => h) hfin hd hn hfit hl hdg (fun H1 locs1 h1 h2 h3 => kk H1 locs1 ⟨h1, h2⟩ h3)
theorem n_get (X : CX G p s m args c cc nL own) {ref C : String} {T : u_T} {N ci index : Nat} (hin : ∀ w ∈ u_ws C T N, w ∈ TT) (hH : GW G ws H) (q0 : Nat) {fs : List Value} (he : ws[q0]? = some (a, .inr (ci, fs))) (hc : vwCl[ci]? = some (C, T, N)) (k : Nat) (hk : k < N) (hlink : Cond.fieldLink own index ref (T k).2.1 (T k).2.2.1 ∈ TT) (href : ref = (T k).1)
    {y : Value} (hv : fs[k]? = some y) (hdg : decode cc pc = .ok (.getfield index, 3)) (kk : W p l e R s m args below meth c H locs cells slots Q (F0 m (pc + 3) ls (y :: rest))) : W p l e R s m args below meth c H locs cells slots Q (F0 m pc ls (.ref a :: rest)) := by
  obtain ⟨hx, hb, -, hown, hts, hT, hg⟩ := X
  subst href
  exact va_get hx hb hts hin hown hT.1 hH.1 q0 he hc k hk (hts _ hlink) (fun _ h => h) hv hdg kk
theorem n_obj (X : CX G p s m args c cc nL own) {idx : Nat} (hlink : Cond.methodLink own idx objectInit ∈ TT) (hsize : ls.size = nL) (hdg : decode cc pc = .ok (.invokespecial idx, 3)) (hfr : 1 ≤ R.frames) (hlo : 2 * (F0 m pc ls [.ref a]).monitorRoom + (([] : List Value).map fun v => v.category).sum + 12 ≤ R.locals)
    (kk : W p l e R s m args below meth c H locs cells slots Q (F0 m (pc + 3) ls [])) : W p l e R s m args below meth c H locs cells slots Q (F0 m pc ls [.ref a]) := by
  obtain ⟨hx, hb, hml, hown, hts, hT, hg⟩ := X
  exact W.objInit hx hb hown (hts _ hlink) (hts _ t_im_objInit) (hts _ t_code_objInit) rfl (by rw [hml]; exact hsize) rfl hdg hfr hlo (W.eq (g2 := F0 m (pc + 3) ls []) rfl kk)
theorem n_alen (X : CX G p s m args c cc nL own) (hH : GW G ws H) (q0 t0 : Nat) {cA : ClassId} {z : vp_A} (ha : ws[q0]? = some (a, .inl (cA, z))) {ty : FieldType} (ht : (tysL G)[t0]? = some (cA, ty)) {y : Int32} (hv : Int32.ofNat z.1 = y) (hdg : decode cc pc = .ok (.arraylength, 1))
    (kk : W p l e R s m args below meth c H locs cells slots Q (F0 m (pc + 1) ls (.int y :: rest))) : W p l e R s m args below meth c H locs cells slots Q (F0 m pc ls (.ref a :: rest)) :=
  va_alen X.1 X.2.1 X.2.2.2.2.2.1.1 hH.1 q0 t0 ha ht hv hdg kk
theorem n_astq (X : CX G p s m args c cc nL own) (hH : GW G ws H) (hS : va_S (gA G) s.heap H locs) (q0 t0 qk ci : Nat) {cA : ClassId} {r : vw_C} {n v : Nat} {vs : List Value} {f : Nat → Option Nat} (ha : ws[q0]? = some (a, aQ cA n f)) (ht : (tysL G)[t0]? = some (cA, .object r.1)) (hv : ws[qk]? = some (v, .inr (ci, vs))) (hc : vwCl[ci]? = some r) {i : Int32} (hin : vp_in i n) (hdg : decode cc pc = .ok (.aastore, 1))
    (kk : ∀ (H1 : Heap) (locs1 : List Loc), GW G (ws.set q0 (a, aQ cA n (va_up f i.toNatClampNeg (some v)))) H1 → va_S (gA G) s.heap H1 locs1 → W p l e R s m args below meth c H1 locs1 cells slots Q (F0 m (pc + 1) ls rest)) : W p l e R s m args below meth c H locs cells slots Q (F0 m pc ls (.ref v :: .int i :: .ref a :: rest)) :=
  va_astq X.1 X.2.1 X.2.2.2.2.2.1.1 hH.1 hH.2 hS q0 t0 qk ci ha ht hv hc hin hdg (fun H1 locs1 h1 h2 h3 => kk H1 locs1 ⟨h1, h2⟩ h3)
theorem n_iast (X : CX G p s m args c cc nL own) (hH : GW G ws H) (hS : va_S (gA G) s.heap H locs) (q0 t0 : Nat) {cA : ClassId} {n : Nat} {f : Nat → Int32} (ha : ws[q0]? = some (a, aI cA n f)) (ht : (tysL G)[t0]? = some (cA, .int)) {i y : Int32} (hin : vp_in i n) (hdg : decode cc pc = .ok (.iastore, 1))
    (kk : ∀ (H1 : Heap) (locs1 : List Loc), GW G (ws.set q0 (a, aI cA n (upd f i.toNatClampNeg y))) H1 → va_S (gA G) s.heap H1 locs1 → W p l e R s m args below meth c H1 locs1 cells slots Q (F0 m (pc + 1) ls rest)) : W p l e R s m args below meth c H locs cells slots Q (F0 m pc ls (.int y :: .int i :: .ref a :: rest)) :=
  va_iast X.1 X.2.1 X.2.2.2.2.2.1.1 hH.1 hH.2 hS q0 t0 ha ht hin hdg (fun H1 locs1 h1 h2 h3 => kk H1 locs1 ⟨h1, h2⟩ h3)
theorem preNw (X : CX G p s m args c cc nL own) (hAO : AOs s) (hS : va_S (gA G) s.heap H locs) (hH : GW G ws H) : ∀ U : State, U.heap = H → s.WarmedH U.vm → pNw G U ∧ GW G ws U.heap := fun U hU hW =>
  ⟨⟨X.2.2.2.2.2.1.warm hW (fun a h1 h2 => by rw [hU]; exact hS.2.1 a h1 h2), by rw [hU]; exact Nat.le_trans X.2.2.2.2.2.2 hS.1, hAO.moved hW.alike⟩, by rw [hU]; exact hH⟩
theorem pNw_bl {av : List Value} : FrameBlind (va_Pc av (fun U => pNw G U ∧ GW G ws U.heap)) :=
  fun a U g mk h => ⟨h.1, ⟨h.2.1.1.same rfl rfl, h.2.1.2.1, AOs.moved (u := U) (U := U.calling g mk a) (Vm.Alike.refl U.vm) h.2.1.2.2⟩, h.2.2⟩
variable {y : MethodName} {b : ByteArray} {n idx q : Nat} {rm : Room} {e0 : va_E} {F : Nat → (Nat → Nat) → va_W}
theorem n_call (X : CX G p s m args c cc nL own) (hAO : AOs s) (hM : NIc l y b n rm G e0 mc ms F) (hlk : Cond.methodLink own idx y ∈ TT) (him : Cond.instanceMethod y ∈ TT) (hini : Cond.initialized y.cls ∈ TT) (hcode : Cond.code y b n none ∈ TT) (hyn : y.name = "<init>")
    (hd : y.cls ≠ "java/lang/invoke/MethodHandle" ∧ y.cls ≠ "java/lang/invoke/VarHandle" ∧ (parseMethodDescriptor y.desc).map (fun d => d.parameters.length) = some 0) (hrc : rm.cells = mc) (hrs : rm.slots = ms) (hR : rm.frames + 1 ≤ R.frames ∧ 8 + (n + 11) + rm.locals ≤ R.locals) (hcs : cells + mc ≤ R.cells ∧ slots + ms ≤ R.slots)
    (hH : GW G ((q, e0) :: ws) H) (hS : va_S (gA G) s.heap H locs) (hls : ls.size = nL) (hsum : (rest.map fun v => v.category).sum ≤ 8) (hdg : decode cc pc = .ok (.invokespecial idx, 3))
    (kk : ∀ (α : Nat → Nat) (H1 : Heap) (locs1 : List Loc), GW G (F q α ++ ws) H1 → va_S (gA G) s.heap H1 locs1 → W p l e R s m args below meth c H1 locs1 (cells + mc) (slots + ms) Q (F0 m (pc + 3) ls rest)) :
    W p l e R s m args below meth c H locs cells slots Q (F0 m pc ls (.ref q :: rest)) :=
  have hpre := preNw X hAO hS hH
  va_callv (va_runI (As := []) (rest := rest) (Ts := TT) ⟨X.1, X.2.1, X.2.2.1, X.2.2.2.1, X.2.2.2.2.1⟩ (hM q ws) (cwI 0 X.2.2.2.2.1 (gT hcode) rfl hrc hrs (X.2.2.2.2.1 _ hini) (X.2.2.2.2.1 _ hlk) (X.2.2.2.2.1 _ him) hyn hd hR) ⟨pNw_bl, fun U hU hW => ⟨rfl, hpre U hU hW⟩⟩ rfl rfl hls rfl (lv_room hsum) hdg hcs)
    hS (fun _ _ h => h) (fun _ h => h) (fun α t H1 locs1 ht _ _ hB _ _ hS1 => kk α H1 locs1 (by rw [← ht]; exact hB) hS1)
theorem n_callN (X : CX G p s m args c cc nL own) (hAO : AOs s) (hM : NIc l y b n rm G e0 mc ms F) {host : String} (hlk : va_Nw (.methodLinkNest own idx y host) s) (him : Cond.instanceMethod y ∈ TT) (hini : Cond.initialized y.cls ∈ TT) (hcode : Cond.code y b n none ∈ TT) (hyn : y.name = "<init>")
    (hd : y.cls ≠ "java/lang/invoke/MethodHandle" ∧ y.cls ≠ "java/lang/invoke/VarHandle" ∧ (parseMethodDescriptor y.desc).map (fun d => d.parameters.length) = some 0) (hrc : rm.cells = mc) (hrs : rm.slots = ms) (hR : rm.frames + 1 ≤ R.frames ∧ 8 + (n + 11) + rm.locals ≤ R.locals) (hcs : cells + mc ≤ R.cells ∧ slots + ms ≤ R.slots)
    (hH : GW G ((q, e0) :: ws) H) (hS : va_S (gA G) s.heap H locs) (hls : ls.size = nL) (hsum : (rest.map fun v => v.category).sum ≤ 8) (hdg : decode cc pc = .ok (.invokespecial idx, 3))
    (kk : ∀ (α : Nat → Nat) (H1 : Heap) (locs1 : List Loc), GW G (F q α ++ ws) H1 → va_S (gA G) s.heap H1 locs1 → W p l e R s m args below meth c H1 locs1 (cells + mc) (slots + ms) Q (F0 m (pc + 3) ls rest)) :
    W p l e R s m args below meth c H locs cells slots Q (F0 m pc ls (.ref q :: rest)) :=
  have hpre := preNw X hAO hS hH
  va_callv (va_runIN (As := []) (rest := rest) (Ts := TT) ⟨X.1, X.2.1, X.2.2.1, X.2.2.2.1, X.2.2.2.2.1⟩ (hM q ws) ⟨va_cnB 0 X.2.2.2.2.1 (gT hcode) rfl hrc hrs hlk (X.2.2.2.2.1 _ hini) hd hR, hyn, X.2.2.2.2.1 _ him⟩ ⟨pNw_bl, fun U hU hW => ⟨rfl, hpre U hU hW⟩⟩ rfl rfl hls rfl (lv_room hsum) hdg hcs)
    hS (fun _ _ h => h) (fun _ h => h) (fun α t H1 locs1 ht _ _ hB _ _ hS1 => kk α H1 locs1 (by rw [← ht]; exact hB) hS1)
end N1
