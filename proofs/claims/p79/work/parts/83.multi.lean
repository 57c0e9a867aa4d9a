/-! THE TABLE OF STACKS IS MADE: new long[6][235], one instruction. -/
def mnO (c : ClassId) (h i : Nat) : Cell := arrV c 6 (fun j => va_rf (if j < i then some (h + 1 + j) else none))
def mnR (c : ClassId) : Cell := arrV c 235 (fun _ => .long 0)
/-- the state with the outer array and i rows in it -/
def mnS (s : State) (c k : ClassId) : Nat → State
  | 0 => s.pushCell (mnO c s.heap.size 0)
  | i + 1 => ((mnS s c k i).pushCell (mnR k)).setCell s.heap.size (mnO c s.heap.size (i + 1))
theorem mnO_0 (c : ClassId) (h : Nat) : ({ cls := c, slots := Array.replicate 6 .null, vm := .none } : Cell) = mnO c h 0 := by
  rw [arrV_new]
  exact arrV_cg (fun j _ => by rw [if_neg (Nat.not_lt_zero j)]; rfl)
theorem mnR_0 (c : ClassId) : ({ cls := c, slots := Array.replicate 235 (.long 0), vm := .none } : Cell) = mnR c := arrV_new _ _ _
theorem mnO_step (c : ClassId) (h i : Nat) : (mnO c h i).setSlot i (.ref (h + 1 + i)) = mnO c h (i + 1) := by
  unfold mnO
  rw [arrV_store]
  refine arrV_cg (fun j hj => ?_)
  unfold updV
  by_cases e : j = i
  · rw [if_pos e, if_pos (show j < i + 1 by omega), e]
    rfl
  · rw [if_neg e]
    dsimp only
    by_cases h2 : j < i
    · rw [if_pos h2, if_pos (show j < i + 1 by omega)]
    · rw [if_neg h2, if_neg (show ¬ j < i + 1 by omega)]
theorem mnO_size (c : ClassId) (h i : Nat) : (mnO c h i).slots.size = 6 := arrV_size _ _ _
theorem mnS_f (s : State) (c k : ClassId) : ∀ i : Nat, (mnS s c k i).heap.size = s.heap.size + 1 + i ∧ (mnS s c k i).heap[s.heap.size]? = some (mnO c s.heap.size i) ∧ (mnS s c k i).vm = s.vm ∧ (mnS s c k i).slotsUsed = s.slotsUsed + 6 + i * 235 ∧
    (∀ a : Nat, a < s.heap.size → (mnS s c k i).heap[a]? = s.heap[a]?) ∧ (∀ j : Nat, j < i → (mnS s c k i).heap[s.heap.size + 1 + j]? = some (mnR k))
  | 0 => ⟨by simp [mnS], by simp [mnS], rfl, by simp [mnS, mnO_size], fun a ha => State.heap_pushCell_of_lt _ _ ha, fun j hj => absurd hj (Nat.not_lt_zero j)⟩
  | i + 1 => by
    obtain ⟨f1, f2, f3, f4, f5, f6⟩ := mnS_f s c k i
    have hl : s.heap.size < (mnS s c k i).heap.size := by omega
    have hb : ((mnS s c k i).pushCell (mnR k)).heap[s.heap.size]? = some (mnO c s.heap.size i) := by rw [State.heap_pushCell_of_lt (h := hl)]; exact f2
    have hr : (mnR k).slots.size = 235 := arrV_size _ _ _
    refine ⟨?_, State.heap_setCell_self hb, by simp [mnS, f3], ?_, fun a ha => ?_, fun j hj => ?_⟩
    · simp [mnS, State.setCell, f1]
      omega
    · simp [mnS, f4, hr]
      omega
    · show (((mnS s c k i).pushCell (mnR k)).setCell s.heap.size _).heap[a]? = _
      rw [State.heap_setCell_other (Nat.ne_of_gt ha), State.heap_pushCell_of_lt (h := show a < (mnS s c k i).heap.size by omega)]
      exact f5 a ha
    · show (((mnS s c k i).pushCell (mnR k)).setCell s.heap.size _).heap[s.heap.size + 1 + j]? = _
      rw [State.heap_setCell_other (show s.heap.size ≠ s.heap.size + 1 + j by omega)]
      by_cases hj2 : j < i
      · rw [State.heap_pushCell_of_lt (h := show s.heap.size + 1 + j < (mnS s c k i).heap.size by omega)]
        exact f6 j hj2
      · have e : j = i := by omega
        rw [e, ← f1]
        exact State.heap_pushCell_size _ _
theorem mnS_top (s : State) (f : JFrame) (c k : ClassId) : ∀ i : Nat, mnS (s.setTop f) c k i = (mnS s c k i).setTop f
  | 0 => rfl
  | i + 1 => by simp only [mnS, mnS_top s f c k i, State.heap_setTop, State.pushCell_setTop, State.setCell_setTop]
section MU
variable {E : CtlPost} {e : Env} {d : Bool} {acts : List Action} {s : State}
theorem mw_new {c comp : ClassId} {k : Class} {ty : FieldType} {len : Nat} {init : Value} (hk : s.vm.classes[c]? = some k) (hkind : k.kind = .array comp ty) (hlim : len ≤ e.platform.arrayLengthLimit) (hheap : len * componentBytes ty ≤ e.platform.maxHeapBytes)
    (hfit : fits ty init = true) (hdef : init.isDefault = true) {Q : Addr → Pre} (h1 : s.heap.size < e.platform.maxCells) (h2 : s.slotsUsed + len ≤ e.platform.maxSlots)
    (hq : Q s.heap.size d acts (s.pushCell { cls := c, slots := Array.replicate len init, vm := .none })) : wp (Jvm.newArray c len init) Q E e d acts s := by
  have hall : ((Array.replicate len init).all (·.isDefault)) = true := by
    rw [Array.all_replicate]
    split
    · rfl
    · exact hdef
  have hda : allocActs (Array.replicate len init) s.heap.size acts = acts := by
    unfold allocActs
    rw [if_pos hall]
  have hfits : ∀ (i : Nat) (v : Value), (Array.replicate len init)[i]? = some v → s.fitsSlot c .none i v = true := fun i v hv => by
    rw [Array.getElem?_replicate] at hv
    split at hv
    · cases hv
      simp [State.fitsSlot, State.slotType?, hk, hkind, hfit]
    · cases hv
  simp only [Jvm.newArray, Jvm.arrayFits, wp_bind', W.ask, W.ite, Nat.not_lt.mpr hlim, if_false, wp_pure', W.theClass, hk, hkind, Nat.not_lt.mpr hheap, W.alloc, W.stop, Option.some.injEq, exists_eq_left', Array.size_replicate, hda, gt_iff_lt]
  rw [if_neg (by omega)]
  exact ⟨h1, h2, hfits, hq⟩
theorem mw_row {k cc : ClassId} {kc : Class} (hkc : s.vm.classes[k]? = some kc) (hkindc : kc.kind = .array cc .long) (hlim : 235 ≤ e.platform.arrayLengthLimit) (hh : 1880 ≤ e.platform.maxHeapBytes) (h1 : s.heap.size < e.platform.maxCells) (h2 : s.slotsUsed + 235 ≤ e.platform.maxSlots)
    {Q : Addr → Pre} (hq : Q s.heap.size d acts (s.pushCell (mnR k))) : wp (multianewarray.make k [235]) Q E e d acts s := by
  have hn : ¬ (235 : Int32) < 0 := by decide
  have h235 : (235 : Int32).toNatClampNeg = 235 := rfl
  rw [multianewarray.make]
  simp only [wp_bind', W.ite, hn, if_false, wp_pure', W.theClass, hkc, hkindc, Option.some.injEq, exists_eq_left', h235]
  refine mw_new hkc hkindc hlim hh rfl rfl h1 h2 ?_
  rw [show defaultValue .long = Value.long 0 from rfl, mnR_0]
  exact hq
theorem mw_make {c k cc : ClassId} {kA kc : Class} (hk : s.vm.classes[c]? = some kA) (hkind : kA.kind = .array k (.array .long)) (hkc : s.vm.classes[k]? = some kc) (hkindc : kc.kind = .array cc .long) (hlim : 235 ≤ e.platform.arrayLengthLimit) (hh : 1880 ≤ e.platform.maxHeapBytes)
    (hc : s.heap.size + 7 ≤ e.platform.maxCells) (hs : s.slotsUsed + 1416 ≤ e.platform.maxSlots) {Q : Addr → Pre} (hq : ∀ d' acts', Q s.heap.size d' acts' (mnS s c k 6)) : wp (multianewarray.make c [6, 235]) Q E e d acts s := by
  have hn : ¬ (6 : Int32) < 0 := by decide
  have h6 : (6 : Int32).toNatClampNeg = 6 := rfl
  have hfind : (([235] : List Int32).find? (· < 0)) = none := rfl
  rw [multianewarray.make]
  simp only [wp_bind', W.ite, hn, if_false, wp_pure', W.theClass, hk, hkind, Option.some.injEq, exists_eq_left', h6]
  refine mw_new hk hkind (by omega) (by show 6 * 4 ≤ _; omega) rfl rfl (by omega) (by omega) ?_
  rw [mnO_0 c s.heap.size]
  simp only [hfind]
  rw [ite_self, wp_bind', Std.Legacy.Range.forIn_eq_forIn_range']
  show wp (forIn (List.range' 0 6 1) PUnit.unit _) _ E e d acts _
  refine wp_forIn_inv (fun rest s' => ∃ i, i ≤ 6 ∧ rest = List.range' i (6 - i) ∧ s' = mnS s c k i) _ _ ⟨0, Nat.zero_le _, rfl, rfl⟩ ?_ ?_
  · rintro x rest s' d' acts' Q' ⟨i, hi, hl, rfl⟩ hnext
    have hlt : i < 6 := by
      refine Nat.lt_of_not_le (fun h => ?_)
      rw [show 6 - i = 0 by omega] at hl
      cases hl
    rw [show 6 - i = (6 - (i + 1)) + 1 by omega, List.range'_succ] at hl
    obtain ⟨hx, hrest⟩ := List.cons.inj hl
    subst hx
    obtain ⟨f1, f2, f3, f4, f5, f6⟩ := mnS_f s c k x
    have hl0 : s.heap.size < (mnS s c k x).heap.size := by omega
    simp only [wp_bind']
    refine mw_row (by rw [f3]; exact hkc) hkindc hlim hh (by omega) (by omega) ?_
    simp only [wp_bind', W.writeLoc, wp_pure']
    refine ⟨mnO c s.heap.size x, by rw [State.heap_pushCell_of_lt (h := hl0)]; exact f2, by unfold mnO arrV; simp, by rw [mnO_size]; exact hlt, ?_, hnext _ _ _ ⟨x + 1, hlt, hrest, ?_⟩⟩
    · have e1 : (mnO c s.heap.size x).cls = c := rfl
      have e2 : (mnO c s.heap.size x).vm = .none := rfl
      rw [e1, e2]
      simp [State.fitsSlot, State.slotType?, f3, hk, hkind, fits]
    · rw [f1, mnO_step]
      rfl
  · rintro s' d' acts' ⟨i, hi, hl, rfl⟩
    have hi6 : i = 6 := by
      refine Nat.le_antisymm hi (Nat.le_of_not_lt (fun h => ?_))
      rw [show 6 - i = (6 - (i + 1)) + 1 by omega, List.range'_succ] at hl
      cases hl
    subst hi6
    simp only [wp_pure']
    exact hq _ _
end MU
