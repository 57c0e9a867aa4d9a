/-! THE TEXT "mcpjfud": what String's own methods read. -/
def ksB (j : Nat) : Int32 := ([109, 99, 112, 106, 102, 117, 100] : List Int32).getD j 0
section S22
variable {p : Program} {l : Launch} {e : Env} {R : Room} {s : State} {m : MethodId} {args : Array Value} {below : List Frame} {meth : Method} {c : Code} {H : Heap} {locs : List Loc} {cells slots : Nat} {Q : State → Prop}
variable {cc : ByteArray} {pc nL : Nat} {ls : Array Slot} {rest : List Value} {G : gG} {own : String}
theorem ks_S (X : CX G p s m args c cc nL own) : vk_S 1 [7] [[109, 99, 112, 106, 102, 117, 100]] (fun _ => gs G 10) (fun _ => gs G 11) (gA G) s s.heap := X.2.2.2.2.2.1.2.2.2.2.1.2.1
theorem ks_b (X : CX G p s m args c cc nL own) : va_T .byte (gs G 11) 7 (fun j => .int (ksB j)) (gA G) s s.heap := ((ks_S X).1 0 (by decide)).2.2.2
theorem ks_recv (X : CX G p s m args c cc nL own) (hS : va_S (gA G) s.heap H locs) : ∃ cell : Cell, H[gs G 10]? = some cell ∧ cell.vm.isStatics = false ∧ s.vm.findClass RJ0 = some cell.cls := vk_recv (ks_S X) (i := 0) (by decide) hS
theorem ks_value (X : CX G p s m args c cc nL RJ0) (hS : va_S (gA G) s.heap H locs) (hdg : decode cc pc = .ok (.getfield 9, 3)) (kk : W p l e R s m args below meth c H locs cells slots Q (F0 m (pc + 3) ls (.ref (gs G 11) :: rest))) : W p l e R s m args below meth c H locs cells slots Q (F0 m pc ls (.ref (gs G 10) :: rest)) :=
  vk_getf X.1 X.2.1 ((ks_S X).1 0 (by decide)).2.2.1 hS X.2.2.2.1 (X.2.2.2.2.1 _ t_fl_jl_String_9) (fun _ h => h) hdg kk
theorem ks_coder (X : CX G p s m args c cc nL RJ0) (hS : va_S (gA G) s.heap H locs) (hdg : decode cc pc = .ok (.getfield 15, 3)) (kk : W p l e R s m args below meth c H locs cells slots Q (F0 m (pc + 3) ls (.int 0 :: rest))) : W p l e R s m args below meth c H locs cells slots Q (F0 m pc ls (.ref (gs G 10) :: rest)) :=
  vk_getf X.1 X.2.1 ((ks_S X).1 0 (by decide)).2.1 hS X.2.2.2.1 (X.2.2.2.2.1 _ t_fl_jl_String_15) (fun _ h => h) hdg kk
theorem ks_cs (X : CX G p s m args c cc nL RJ0) (hS : va_S (gA G) s.heap H locs) (hdg : decode cc pc = .ok (.getstatic 38, 3)) (kk : W p l e R s m args below meth c H locs cells slots Q (F0 m (pc + 3) ls (.int 1 :: rest))) : W p l e R s m args below meth c H locs cells slots Q (F0 m pc ls rest) :=
  va_gets X.1 X.2.1 X.2.2.2.2.2.1.2.2.2.2.1.2.2 hS X.2.2.2.1 (X.2.2.2.2.1 _ t_fl_jl_String_38) (fun _ h => h) hdg kk
end S22
