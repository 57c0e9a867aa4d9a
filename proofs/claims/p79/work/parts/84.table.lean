/-! THE TABLE OF STACKS IS MADE: the step, the row, the constructor. -/
section MV1
variable {p : Program} {l : Launch} {e : Env} {R : Room} {s : State} {m : MethodId} {args : Array Value} {below : List Frame} {meth : Method} {c : Code} {T : State} {locs : List Loc} {cells slots : Nat}
theorem mn_fill (X : Stand p l e R s m args below meth c T locs cells slots) (cA k : ClassId) : ∀ i : Nat, Stand p l e R s m args below meth c (mnS T cA k i) (locs ++ (List.range i).map (fun j => (⟨T.heap.size, j⟩ : Loc))) (cells + 1 + i) (slots + 6 + i * 235)
  | 0 => by
    have h := X.pushed (mnO cA T.heap.size 0)
    rw [mnO_size] at h
    simpa [mnS] using h
  | i + 1 => by
    have Xi := mn_fill X cA k i
    obtain ⟨f1, f2, f3, f4, f5, f6⟩ := mnS_f T cA k i
    have hl : T.heap.size < (mnS T cA k i).heap.size := by omega
    have hb : ((mnS T cA k i).pushCell (mnR k)).heap[T.heap.size]? = some (mnO cA T.heap.size i) := by rw [State.heap_pushCell_of_lt (h := hl)]; exact f2
    have h := (Xi.pushed (mnR k)).stored hb i (.ref (T.heap.size + 1 + i))
    have hr : (mnR k).slots.size = 235 := arrV_size _ _ _
    rw [mnO_step, hr] at h
    rw [show locs ++ (List.range (i + 1)).map (fun j => (⟨T.heap.size, j⟩ : Loc)) = (locs ++ (List.range i).map (fun j => (⟨T.heap.size, j⟩ : Loc))) ++ [⟨T.heap.size, i⟩] by simp [List.range_succ, List.append_assoc], show slots + 6 + (i + 1) * 235 = slots + 6 + i * 235 + 235 by omega]
    exact h
theorem mn_e1 : "[" ++ (FieldType.array .long).toString = "[[J" := by decide +kernel
theorem mn_e2 : (FieldType.array .long).toString = "[J" := by decide +kernel
theorem mn_e3 : "[" ++ FieldType.long.toString = "[J" := by decide +kernel
theorem mn_step (X : Stand p l e R s m args below meth c T locs cells slots) (hexec : p.tables.exec = Jvm.exec) {own : String} {index : Nat} (hown : s.vm.findClass own = some m.cls) (hclink : (Cond.classLink own index "[[J").before args s = true) (hover : (Cond.arrayOver (.array .long)).before args s = true) (harr : (Cond.arrayClass .long).before args s = true)
    {g : JFrame} (hg : g.method = m) (hdg : decode c.code g.pc = .ok (.multianewarray index 2, 4)) {rest : List Value} (hstack : g.stack = .int 235 :: .int 6 :: rest) (hcells : cells + 7 ≤ R.cells) (hslots : slots + 1416 ≤ R.slots) :
    ∃ (vm₁ : Vm) (cA k : ClassId), s.vm.findClass "[[J" = some cA ∧ s.vm.findClass "[J" = some k ∧ Stand p l e R s m args below meth c (mnS (T.setVm vm₁) cA k 6) locs (cells + 7) (slots + 1416) ∧
      ∀ target, Steps p.tables e below ((mnS (T.setVm vm₁) cA k 6).setTop { g with pc := g.pc + 4, stack := .ref T.heap.size :: rest }) target → Steps p.tables e below (T.setTop g) target := by
  subst hg
  have hpl : e.platform.magicAccessors = ({} : Platform).magicAccessors := by rw [X.admits.platform]
  obtain ⟨k, cA, kA, hk, -, hkA, hkindA, hnA⟩ := arrayOverA_spec hover
  rw [mn_e1] at hnA
  rw [mn_e2] at hk
  obtain ⟨k2, kC, cc, hk2, hkC, hkindC⟩ := Cond.arrayClass_spec harr
  rw [mn_e3] at hk2
  have ek : k2 = k := Option.some.inj (hk2.symm.trans hk)
  subst ek
  obtain ⟨c0, hf0, hcl⟩ := Cond.classLink_spec hown hclink e.platform hpl
  cases hnA.symm.trans hf0
  obtain ⟨hg1, hw1, hr1⟩ := State.classEntry (e := e) X.warmed hcl
  generalize T.vm.noted g.method.cls index (.cls cA) = vm₁ at hg1 hw1 hr1
  have hal : s.vm.Alike vm₁ := hw1.alike
  obtain ⟨kA1, hkA1, heA⟩ := hal.2.2 _ _ hkA
  obtain ⟨kC1, hkC1, heC⟩ := hal.2.2 _ _ hkC
  have X1 := X.noted hw1
  have XF := mn_fill X1 cA k2 6
  have hgrow := X.heapGrown
  have XG : Stand p l e R s g.method args below meth c (mnS (T.setVm vm₁) cA k2 6) locs (cells + 7) (slots + 1416) := XF.dropFresh (fun x hx => by
    obtain ⟨j, -, rfl⟩ := List.mem_map.mp hx
    exact hgrow)
  obtain ⟨q1, q2⟩ := X.roomAbove hcells hslots
  refine ⟨vm₁, cA, k2, hnA, hk, XG, fun target hrest => ?_⟩
  have hl1 : 235 ≤ e.platform.arrayLengthLimit := by rw [Launch.admits_arrayLengthLimit X.admits]; omega
  have hh1 : 1880 ≤ e.platform.maxHeapBytes := by rw [Launch.admits_maxHeapBytes X.admits]; omega
  jvm_step X.here [hexec, hdg]
  simp only [multianewarray.sem, wp_bind', W.resolveClassAt_links (State.method?_setTop g X.here.top) hg1]
  rw [W.popN, if_neg (by decide)]
  refine ⟨g, State.topJava?_setTop' (s := T.setVm vm₁) g X.here.top, [.int 6, .int 235], rest, rfl, hstack, ?_⟩
  simp only [List.mapM_cons, List.mapM_nil, wp_bind', wp_pure']
  refine mw_make (kA := kA1) (kc := kC1) (k := k2) (cc := cc) hkA1 (by rw [heA]; exact hkindA) hkC1 (by rw [heC]; exact hkindC) hl1 hh1 (by show T.heap.size + 7 ≤ _; omega) (by show T.slotsUsed + 1416 ≤ _; omega) (fun d' acts' => ?_)
  have eS : ((T.setTop g).setVm vm₁).setTop { g with stack := rest } = (T.setVm vm₁).setTop { g with stack := rest } := by
    show ((T.setVm vm₁).setTop g).setTop _ = _
    rw [State.setTop_setTop]
  rw [eS, mnS_top]
  simp only [wp_bind', W.mark, W.pushRef, State.topJava?_setTop' _ XF.here.top, Option.some.injEq, exists_eq_left', State.setTop_setTop, State.heap_setTop]
  intro acts
  simp [jvm, XF.here.top]
  exact hrest
end MV1
