/-! AN ARRAY OF ONE'S OWN: methods that write into an int array that they are given, and nothing else. -/
def lAr (G : gG) (a n : Nat) (f : Nat → Int32) (H : Heap) : Prop := va_P (gD G) vwCl [(a, aI (gc G 0) n f)] H
def pL (G : gG) (a n : Nat) (f : Nat → Int32) (U : State) : Prop := pT G U ∧ lAr G a n f U.heap ∧ gb G ≤ a
abbrev AV (l : Launch) (y : MethodName) (b : ByteArray) (nn : Nat) (rm : Room) (avs : List Value) (G : gG) (a n : Nat) (f : Nat → Int32) (F : Nat → Int32) : Prop := Met l y (wc y b nn none) rm (va_Pc avs (pL G a n f)) (va_Qv (fun _ : Unit => True) (fun _ t => lAr G a n F t.heap) (fun q => q = a)) 0 0 (fun q => q = a)
abbrev AI (l : Launch) (y : MethodName) (b : ByteArray) (nn : Nat) (rm : Room) (avs : List Value) (G : gG) (a n : Nat) (f : Nat → Int32) (z : Int32) (F : Nat → Int32) : Prop := Met l y (wc y b nn (some .int)) rm (va_Pc avs (pL G a n f)) (va_Qi (fun (q : Int32) (_ : Unit) => q = z) (fun _ t => lAr G a n F t.heap) (fun q => q = a)) 0 0 (fun q => q = a)
theorem lAr.ia {G : gG} {s : State} {a n : Nat} {f : Nat → Int32} {H : Heap} (hT : Tb G s) (h : lAr G a n f H) (hn : n < 2 ^ 31) : IA a n f s H := IA.of_at hT.1 (t0 := 0) rfl (h 0 _ rfl) hn
theorem va_S_wk {A B : Nat → Prop} {H0 H : Heap} {locs : List Loc} (h : va_S A H0 H locs) (hAB : ∀ q, A q → B q) : va_S B H0 H locs := ⟨h.1, fun q h1 h2 => h.2.1 q h1 (fun z => h2 (hAB q z)), fun z hz => hAB _ (h.2.2 z hz)⟩
section L9
variable {l : Launch} {y : MethodName} {cc : ByteArray} {nL : Nat} {rm : Room} {avs : List Value} {G : gG} {a n : Nat} {f : Nat → Int32} {own : String}
theorem gofAV {F : Nat → Int32} (hy : plainName y.cls = true) (hown : y.cls = own) (hlen : (lg_sl avs).length ≤ nL)
    (body : ∀ (p : Program) (e : Env) (s : State) (m : MethodId) (args : Array Value) (below : List Frame) (meth : Method) (c : Code) (ls : Array Slot) (Q : State → Prop), CX G p s m args c cc nL own → gb G ≤ a → lAr G a n f s.heap → lv_has ls nL (lv_args 0 avs) →
      (∀ (pc : Nat) (ls : Array Slot) (H : Heap) (locs : List Loc) (f1 : Nat → Int32), decode cc pc = .ok (.return_, 1) → f1 = F → lAr G a n f1 H → va_S (fun q => q = a) s.heap H locs → W p l e rm s m args below meth c H locs 0 0 Q (F0 m pc ls [])) →
      W p l e rm s m args below meth c s.heap [] 0 0 Q (F0 m 0 ls [])) : AV l y cc nL rm avs G a n f F :=
  gofT hy hown hlen (fun p e s m below meth c ls h1 h2 h3 h4 h5 h6 h7 hP hl => body p e s m _ below meth c ls _ ⟨h1, h2, h3, h4, h5, hP.1.1, hP.1.2⟩ hP.2.2 hP.2.1 hl
    (fun _ _ _ _ _ hd he hH hS => W.vret h1 h2 h6 (fun t ht _ => ⟨⟨(), rfl, trivial, (by show lAr G a n F t.heap; rw [ht, ← he]; exact hH)⟩, hS.F ht⟩) hS.2.2 hd h7))
theorem gofAI {z0 : Int32} {F : Nat → Int32} (hy : plainName y.cls = true) (hown : y.cls = own) (hlen : (lg_sl avs).length ≤ nL)
    (body : ∀ (p : Program) (e : Env) (s : State) (m : MethodId) (args : Array Value) (below : List Frame) (meth : Method) (c : Code) (ls : Array Slot) (Q : State → Prop), CX G p s m args c cc nL own → gb G ≤ a → lAr G a n f s.heap → lv_has ls nL (lv_args 0 avs) →
      (∀ (pc : Nat) (ls : Array Slot) (H : Heap) (locs : List Loc) (f1 : Nat → Int32) (z : Int32), decode cc pc = .ok (.ireturn, 1) → z = z0 → f1 = F → lAr G a n f1 H → va_S (fun q => q = a) s.heap H locs → W p l e rm s m args below meth c H locs 0 0 Q (F0 m pc ls [.int z])) →
      W p l e rm s m args below meth c s.heap [] 0 0 Q (F0 m 0 ls [])) : AI l y cc nL rm avs G a n f z0 F :=
  gofT hy hown hlen (fun p e s m below meth c ls h1 h2 h3 h4 h5 h6 h7 hP hl => body p e s m _ below meth c ls _ ⟨h1, h2, h3, h4, h5, hP.1.1, hP.1.2⟩ hP.2.2 hP.2.1 hl
    (fun _ _ _ _ _ z hd hz he hH hS => W.iret h1 h2 h6 (fun t ht _ => ⟨⟨z, (), rfl, hz, (by show lAr G a n F t.heap; rw [ht, ← he]; exact hH)⟩, hS.F ht⟩) hS.2.2 hd h7))
end L9
section L9r
variable {p : Program} {l : Launch} {e : Env} {R : Room} {s : State} {m : MethodId} {args : Array Value} {below : List Frame} {meth : Method} {c : Code} {H : Heap} {locs : List Loc} {cells slots : Nat} {Q : State → Prop}
variable {cc : ByteArray} {pc nL : Nat} {ls : Array Slot} {rest st0 : List Value} {G : gG} {own : String} {a n : Nat} {f : Nat → Int32}
theorem a_ast (X : CX G p s m args c cc nL own) (hH : lAr G a n f H) (hS : va_S (fun q => q = a) s.heap H locs) {i y : Int32} (hin : vp_in i n) (hdg : decode cc pc = .ok (.iastore, 1))
    (kk : ∀ (H1 : Heap) (locs1 : List Loc) (f1 : Nat → Int32), f1 = upd f i.toNatClampNeg y → lAr G a n f1 H1 → va_S (fun q => q = a) s.heap H1 locs1 → W p l e R s m args below meth c H1 locs1 cells slots Q (F0 m (pc + 1) ls rest)) :
    W p l e R s m args below meth c H locs cells slots Q (F0 m pc ls (.int y :: .int i :: .ref a :: rest)) := by
  have hD : va_D (fun q => q = a) [((a, aI (gc G 0) n f) : Nat × va_E)] := ⟨fun i j p q hi hj _ => by
    have h1 := (List.getElem?_eq_some_iff.mp hi).1
    have h2 := (List.getElem?_eq_some_iff.mp hj).1
    simp only [List.length_cons, List.length_nil] at h1 h2
    omega, fun k q hk => by
    have h1 := (List.getElem?_eq_some_iff.mp hk).1
    simp only [List.length_cons, List.length_nil] at h1
    have h0 : k = 0 := by omega
    subst h0
    cases hk
    rfl⟩
  exact va_iast X.1 X.2.1 X.2.2.2.2.2.1.1 hH hD hS 0 0 (f := f) rfl rfl hin hdg (fun H1 locs1 hP _ hS1 => kk H1 locs1 _ rfl hP hS1)
theorem a_pre (X : CX G p s m args c cc nL own) (hS : va_S (gA G) s.heap H locs) (hH : lAr G a n f H) (ha : gb G ≤ a) : ∀ U : State, U.heap = H → s.WarmedH U.vm → pL G a n f U := fun U hU hW =>
  ⟨preT X hS U hU hW, by rw [hU]; exact hH, ha⟩
theorem pL_bl {av : List Value} : FrameBlind (va_Pc av (pL G a n f)) := fun _ _ _ _ h => ⟨h.1, ⟨h.2.1.1.same rfl rfl, h.2.1.2⟩, h.2.2⟩
/-- a call that writes into one array: what holds behind it of all else -/
theorem c_av {av : Array Value} {F : Nat → Int32} (hr : va_Run p l e R s m args below meth c H locs cells slots 0 0 (F0 m pc ls st0) rest (va_Qv (fun _ : Unit => True) (fun _ t => lAr G a n F t.heap) (fun q => q = a) av) (fun q => q = a)) {A : Nat → Prop} (hS : va_S A s.heap H locs) (hA : A a)
    (kk : ∀ (H1 : Heap) (locs1 : List Loc) (f1 : Nat → Int32), f1 = F → lAr G a n f1 H1 → (∀ q : Nat, q < H.size → q ≠ a → H1[q]? = H[q]?) → H.size ≤ H1.size → va_S A s.heap H1 locs1 → W p l e R s m args below meth c H1 locs1 cells slots Q (F0 m (pc + 3) ls rest)) :
    W p l e R s m args below meth c H locs cells slots Q (F0 m pc ls st0) :=
  va_callv hr hS (fun _ _ h => h ▸ hA) (fun _ h => h ▸ hA) (fun _ t H1 locs1 ht _ _ hB hz ho hS1 => kk H1 locs1 F rfl (by rw [← ht]; exact hB) ho hz hS1)
theorem c_ai {av : Array Value} {z : Int32} {F : Nat → Int32} (hr : va_Run p l e R s m args below meth c H locs cells slots 0 0 (F0 m pc ls st0) rest (va_Qi (fun (q : Int32) (_ : Unit) => q = z) (fun _ t => lAr G a n F t.heap) (fun q => q = a) av) (fun q => q = a)) {A : Nat → Prop} (hS : va_S A s.heap H locs) (hA : A a)
    (kk : ∀ (H1 : Heap) (locs1 : List Loc) (f1 : Nat → Int32), f1 = F → lAr G a n f1 H1 → (∀ q : Nat, q < H.size → q ≠ a → H1[q]? = H[q]?) → H.size ≤ H1.size → va_S A s.heap H1 locs1 → W p l e R s m args below meth c H1 locs1 cells slots Q (F0 m (pc + 3) ls (.int z :: rest))) :
    W p l e R s m args below meth c H locs cells slots Q (F0 m pc ls st0) :=
  va_calli hr hS (fun _ _ h => h ▸ hA) (fun _ h => h ▸ hA) (fun q _ t H1 locs1 ht _ hq hB hz ho hS1 => by subst hq; exact kk H1 locs1 F rfl (by rw [← ht]; exact hB) ho hz hS1)
/-- a role's row was that array -/
theorem Hp.row {da : Nat → Nat} {v : vSt} {x : gX} {H1 : Heap} (hH : Hp G da v x H) {r : Nat} (hr : kd r ≠ 99) (hk : kd r = 24 ∨ kd r = 25) (he : cE G da v x r = aI (gc G 0) n (v r)) {F : Nat → Int32} {v1 : vSt} (hv : v1 = fun q => if q = r then F else v q) (he1 : cE G da v1 x r = aI (gc G 0) n F)
    (hL : lAr G (ga G r) n F H1) (ho : ∀ q : Nat, q < H.size → q ≠ ga G r → H1[q]? = H[q]?) : Hp G da v1 x H1 := by
  have ha : adr G da r = ga G r := if_neg (by rcases hk with h | h <;> rw [h] <;> decide)
  obtain ⟨k, hi⟩ := rol_at hr
  have hother : ∀ q, q ≠ r → cE G da v1 x q = cE G da v x q := fun q hq => cE_cong (by rw [hv]; exact if_neg hq) (fun h23 => by
    rw [hv]
    show (if par q = r then F else v (par q)) (cap q) = _
    rw [if_neg (fun z => by have := par_kd h23; rw [z] at this; rcases hk with h | h <;> rw [h] at this <;> simp at this)])
  have hw := wl_set (G := G) (da := da) (v := v) (v' := v1) (x := x) (x' := x) hi he1 hother
  rw [ha] at hw
  have hg := wl_get (G := G) (da := da) (v := v) (x := x) hi
  rw [ha] at hg
  refine ⟨?_, ?_⟩
  · rw [← hw]
    intro j q hj
    by_cases hjk : j = k
    · subst hjk
      rw [List.getElem?_set_self (List.getElem?_eq_some_iff.mp hg).1] at hj
      cases hj
      exact hL 0 _ rfl
    · rw [List.getElem?_set_ne (Ne.symm hjk)] at hj
      have hne : q.1 ≠ ga G r := fun z => hjk (hH.2.1 j k q _ hj hg z)
      exact (hH.1 j q hj).kept (ho q.1 (hH.1 j q hj).lt hne)
  · rw [← hw]
    exact hH.2.set hg
end L9r
