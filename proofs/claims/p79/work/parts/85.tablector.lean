/-! THE TABLE'S CONSTRUCTOR. -/
section N85
variable {p : Program} {l : Launch} {e : Env} {R : Room} {s : State} {m : MethodId} {args : Array Value} {below : List Frame} {meth : Method} {c : Code} {H : Heap} {locs : List Loc} {cells slots : Nat} {Q : State → Prop}
variable {cc : ByteArray} {pc nL : Nat} {ls : Array Slot} {rest : List Value} {G : gG} {own : String} {ws : va_W}
def mnE (G : gG) (r : Nat → Nat) : va_E := aQ (gc G 9) 6 (fun i => ([some (r 1), some (r 2), some (r 3), some (r 4), some (r 5), some (r 6)] : List (Option Nat)).getD i none)
def mnL (G : gG) (r : Nat → Nat) : va_W := (List.range 7).map (fun i => (r i, if i = 0 then mnE G r else aJ (gc G 1) 235 (fun _ => 0)))
theorem n_mna (X : CX G p s m args c cc nL own) (hAO : AOs s) {index : Nat} (hcl : Cond.classLink own index "[[J" ∈ TT) (hH : GW G ws H) (hS : va_S (gA G) s.heap H locs) (hcells : cells + 7 ≤ R.cells) (hslots : slots + 1416 ≤ R.slots) (hdg : decode cc pc = .ok (.multianewarray index 2, 4))
    (kk : ∀ (r : Nat → Nat) (H1 : Heap), GW G (mnL G r ++ ws) H1 → va_S (gA G) s.heap H1 locs → W p l e R s m args below meth c H1 locs (cells + 7) (slots + 1416) Q (F0 m (pc + 4) ls (.ref (r 0) :: rest))) :
    W p l e R s m args below meth c H locs cells slots Q (F0 m pc ls (.int 235 :: .int 6 :: rest)) := by
  obtain ⟨hx, hb, -, hown, hts, hT, hg⟩ := X
  intro T hTh Xs
  obtain ⟨vm₁, cA, k, fA, fk, X', step⟩ := mn_step Xs hx hown (hts _ hcl) hAO.2.2.2.2 (hts _ t_ac_long) (g := F0 m pc ls (.int 235 :: .int 6 :: rest)) rfl (by rw [hb]; exact hdg) rfl hcells hslots
  have g9 : s.vm.findClass ("[" ++ (FieldType.array .long).toString) = some (gc G 9) := (hT.1.2 9 (gc G 9, .array .long) rfl).2
  have g1 : s.vm.findClass ("[" ++ FieldType.long.toString) = some (gc G 1) := (hT.1.2 1 (gc G 1, .long) rfl).2
  rw [mn_e1] at g9
  rw [mn_e3] at g1
  cases fA.symm.trans g9
  cases fk.symm.trans g1
  obtain ⟨f1, f2, f3, f4, f5, f6⟩ := mnS_f (T.setVm vm₁) (gc G 9) (gc G 1) 6
  have hsz : (T.setVm vm₁).heap = H := hTh
  rw [hsz] at f1 f2 f5 f6
  generalize mnS (T.setVm vm₁) (gc G 9) (gc G 1) 6 = F at X' step f1 f2 f3 f4 f5 f6
  have hlt : ∀ q ∈ ws, q.1 < H.size := fun q hq => (List.getElem?_of_mem hq).elim fun k hk => (hH.1 k q hk).lt
  have hold : va_P (gD G) vwCl ws F.heap := hH.1.kept (fun k q hk => f5 q.1 (hlt q (List.mem_of_getElem? hk)))
  have hGW : GW G (mnL G (fun i => H.size + i) ++ ws) F.heap := by
    refine ⟨va_P_mem.mpr (fun q hq => ?_), va_D_nd.mpr ⟨?_, fun q hq => ?_⟩⟩
    · rcases List.mem_append.mp hq with hq | hq
      · obtain ⟨i, hi, rfl⟩ := List.mem_map.mp hq
        have hi7 := List.mem_range.mp hi
        match i, hi7 with
        | 0, _ =>
          show va_at (gD G) vwCl (H.size, aQ (gc G 9) 6 _) F.heap
          refine at_aQ (f := fun j => if j < 6 then some (H.size + 1 + j) else none) (fun j hj => ?_) (show F.heap[H.size]? = some (arrV (gc G 9) 6 _) from f2)
          match j, hj with
          | 0, _ => rfl
          | 1, _ => rfl
          | 2, _ => rfl
          | 3, _ => rfl
          | 4, _ => rfl
          | 5, _ => rfl
          | j + 6, h => exact absurd h (by omega)
        | i + 1, h =>
          have h6 := f6 i (by omega)
          rw [show H.size + 1 + i = H.size + (i + 1) by omega] at h6
          exact h6
      · exact va_P_mem.mp hold q hq
    · rw [List.map_append]
      refine List.nodup_append.mpr ⟨?_, (va_D_nd.mp hH.2).1, fun a ha b hb he => ?_⟩
      · unfold mnL
        rw [List.map_map]
        exact List.pairwise_map.mpr (List.nodup_range.imp (fun hne he => hne (by have he2 : H.size + _ = H.size + _ := he; omega)))
      · obtain ⟨q, hq, rfl⟩ := List.mem_map.mp ha
        obtain ⟨q2, hq2, rfl⟩ := List.mem_map.mp hb
        obtain ⟨i, hi, rfl⟩ := List.mem_map.mp hq
        have h1 := hlt q2 hq2
        have he2 : H.size + i = q2.1 := he
        omega
    · rcases List.mem_append.mp hq with hq | hq
      · obtain ⟨i, hi, rfl⟩ := List.mem_map.mp hq
        show gb G ≤ H.size + i
        have := hS.1
        omega
      · exact (va_D_nd.mp hH.2).2 q hq
  have hS1 : va_S (gA G) s.heap F.heap locs := ⟨by rw [f1]; have := hS.1; omega, fun a h1 h2 => (f5 a (Nat.lt_of_lt_of_le h1 hS.1)).trans (hS.2.1 a h1 h2), hS.2.2⟩
  obtain ⟨t, a1, b1⟩ := kk (fun i => H.size + i) F.heap hGW hS1 F rfl X'
  refine ⟨t, step t ?_, b1⟩
  rw [hTh]
  exact a1
end N85
theorem dX6_init_0 : decode cX6_init 0 = .ok (.aload_n 0, 1) := by decide +kernel
theorem dX6_init_1 : decode cX6_init 1 = .ok (.invokespecial 5, 3) := by decide +kernel
theorem dX6_init_4 : decode cX6_init 4 = .ok (.aload_n 0, 1) := by decide +kernel
theorem dX6_init_5 : decode cX6_init 5 = .ok (.bipush 6, 2) := by decide +kernel
theorem dX6_init_7 : decode cX6_init 7 = .ok (.sipush 235, 3) := by decide +kernel
theorem dX6_init_10 : decode cX6_init 10 = .ok (.multianewarray 11 2, 4) := by decide +kernel
theorem dX6_init_14 : decode cX6_init 14 = .ok (.putfield 13, 3) := by decide +kernel
theorem dX6_init_17 : decode cX6_init 17 = .ok (.return_, 1) := by decide +kernel
theorem k_N6 (l : Launch) (G : gG) : NIc l yX6_init cX6_init 1 rmN_X6 G (.inr (6, [.null])) 7 1416 (FN_X6 G) := by
  refine gofN (own := RX6) (by decide +kernel) rfl rfl (by decide) (fun a ws p e s m args below meth c ls Q X hin hAO hH hl E => ?_)
  have hx := X.1
  have hb := X.2.1
  have hS : va_S (gA G) s.heap s.heap [] := va_S.rf
  refine lv_aload_n hx hb dX6_init_0 rfl (lv_at hl 0 rfl) ?_
  refine n_obj X t_ml_StackTable_5 hl.1 dX6_init_1 (Nat.le_of_ble_eq_true rfl) (Nat.le_of_ble_eq_true rfl) ?_
  refine lv_aload_n hx hb dX6_init_4 rfl (lv_at hl 0 rfl) ?_
  refine lv_bipush (v := 6) hx hb dX6_init_5 (by decide) ?_
  refine lv_sipush (v := 235) hx hb dX6_init_7 (by decide) ?_
  refine n_mna X hAO t_cl_StackTable_11 hH hS (Nat.le_of_ble_eq_true rfl) (Nat.le_of_ble_eq_true rfl) dX6_init_10 (fun r H hH hS => ?_)
  refine n_putF X hin (C := RX6) inX6 tyX6 tyX6_ok nmX6 hH hS 7 rfl rfl 0 (by decide) t_fl_StackTable_13 rfl rfl rfl (tyX6_ok 0 (by decide)) rfl rfl (Nat.le_of_ble_eq_true rfl) dX6_init_14 (fun H locs hH hS => ?_)
  exact E _ _ _ _ r _ _ dX6_init_17 hH hS (Nat.le_of_ble_eq_true rfl) (Nat.le_of_ble_eq_true rfl)
