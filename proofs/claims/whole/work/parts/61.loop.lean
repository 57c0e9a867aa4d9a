/-! the law's dispatch and its loop -/
theorem dL_law_28 : decode cL_law 28 = .ok (.iload 5, 2) := by decide +kernel
theorem dL_law_30 : decode cL_law 30 = .ok (.aload_n 0, 1) := by decide +kernel
theorem dL_law_31 : decode cL_law 31 = .ok (.arraylength, 1) := by decide +kernel
theorem dL_law_32 : decode cL_law 32 = .ok (.iconst 5, 1) := by decide +kernel
theorem dL_law_33 : decode cL_law 33 = .ok (.isub, 1) := by decide +kernel
theorem dL_law_34 : decode cL_law 34 = .ok (.if_icmp .gt 4008, 3) := by decide +kernel
theorem dL_law_37 : decode cL_law 37 = .ok (.aload_n 0, 1) := by decide +kernel
theorem dL_law_38 : decode cL_law 38 = .ok (.iload 5, 2) := by decide +kernel
theorem dL_law_40 : decode cL_law 40 = .ok (.iaload, 1) := by decide +kernel
theorem dL_law_41 : decode cL_law 41 = .ok (.bipush 127, 2) := by decide +kernel
theorem dL_law_43 : decode cL_law 43 = .ok (.iand, 1) := by decide +kernel
theorem dL_law_44 : decode cL_law 44 = .ok (.tableswitch 3992 0 75 #[320, 388, 456, 512, 592, 660, 704, 796, 864, 920, 976, 1020, 1076, 1132, 1145, 1201, 1257, 1313, 1369, 1425, 1488, 1544, 1557, 1625, 1705, 1785, 1865, 1945, 2025, 2038, 2094, 2150, 2206, 2262, 2318, 2374, 2387, 2400, 2456, 2512, 2525, 2581, 2644, 2657, 2713, 2769, 2813, 2826, 2882, 2938, 2994, 3050, 3106, 3174, 3230, 3286, 3342, 3398, 3476, 3489, 3502, 3515, 3528, 3541, 3554, 3567, 3633, 3646, 3690, 3703, 3747, 3803, 3816, 3860, 3904, 3948], 320) := by decide +kernel
theorem dL_law_4036 : decode cL_law 4036 = .ok (.iinc 5 5, 3) := by decide +kernel
theorem dL_law_4039 : decode cL_law 4039 = .ok (.goto (-4011), 3) := by decide +kernel
theorem Inv.mono {n m0 : Nat} {v : vSt} (hI : Inv n m0 v) : Inv (n + 1) m0 v := hI.refused (k := v 461 8) ⟨fun q _ _ => rfl, rfl, rfl, rfl, rfl⟩
theorem law_i5 (n : Nat) : Int32.ofNat (5 * n) + Int32.ofInt 5 = Int32.ofNat (5 * (n + 1)) := by
  rw [show Int32.ofInt 5 = Int32.ofNat 5 from rfl, show 5 * (n + 1) = 5 * n + 5 by omega, Int32.ofNat_add]
theorem law_rm {n m0 K c0 : Nat} {v : vSt} (hI : Inv n m0 v) (hK : K ≤ 268012) (hn : n ≤ 512) (hc : c0 ≤ K + pot v + 36 * n) : c0 ≤ 601024 := by
  have := pot_le hI
  omega
theorem law_sub {L : Nat} (hL : L ≤ 2560) : (Int32.ofNat L - 5).toInt = (L : Int) - 5 := by
  have h1 : (Int32.ofNat L).toInt = (L : Int) := nI_toInt (by omega)
  rw [Int32.toInt_sub, h1, show (5 : Int32).toInt = 5 from rfl, Int.bmod_def]
  split <;> omega
theorem law_head {p : Program} {l : Launch} {e : Env} {s : State} {m : MethodId} {args : Array Value} {below : List Frame} {meth : Method} {c : Code} {Q : State → Prop} {G : gG} (hx : p.tables.exec = Jvm.exec) (hb : c.code = cL_law) {b L : Nat} {xs : Nat → Int32} (hX : va_X b L xs s s.heap) (hbl : b < s.heap.size) (hbA : ¬ gA G b) (hL : L ≤ 2560) {n c0 : Nat} (hn : n ≤ 512) {H : Heap} {locs : List Loc} {ls : Array Slot} (hS : va_S (gA G) s.heap H locs) (hl : lv_has ls 8 [(0, .ref b), (1, .ref (ga G 448)), (2, .ref (ga G 461)), (3, .ref (ga G 468)), (4, .ref (ga G 469)), (5, .int (Int32.ofNat (5 * n)))])
    (kt : L < 5 * n + 5 → W p l e room_1 s m args below meth c H locs c0 c0 Q (F0 m 4042 ls [])) (kf : 5 * n + 5 ≤ L → W p l e room_1 s m args below meth c H locs c0 c0 Q (F0 m 37 ls [])) : W p l e room_1 s m args below meth c H locs c0 c0 Q (F0 m 28 ls []) := by
  have h1 := law_sub hL
  have h2 : (Int32.ofNat (5 * n)).toInt = ((5 * n : Nat) : Int) := nI_toInt (by omega)
  refine lv_iload hx hb dL_law_28 (lv_at hl 5 rfl) ?_
  refine lv_aload_n hx hb dL_law_30 rfl (lv_at hl 0 rfl) ?_
  refine va_slen hx hb hX hbl hbA hS dL_law_31 ?_
  refine lv_iconst (v := 5) hx hb dL_law_32 (by decide) ?_
  refine lv_isub hx hb dL_law_33 ?_
  refine lv_icmp_gt (tgt := 4042) hx hb dL_law_34 (by decide) (fun q => kt ?_) (fun q => kf ?_)
  · have := Int32.lt_iff_toInt_lt.mp q
    omega
  · have : ¬ (Int32.ofNat L - 5).toInt < (Int32.ofNat (5 * n)).toInt := fun r => q (Int32.lt_iff_toInt_lt.mpr r)
    omega
theorem law_disp {p : Program} {l : Launch} {e : Env} {s : State} {m : MethodId} {args : Array Value} {below : List Frame} {meth : Method} {c : Code} {Q : State → Prop} {G : gG} (hst : l.stackTraces = false) (X : CX G p s m args c cL_law 8 RL) (hN : NC s) {b L : Nat} {xs : Nat → Int32} (hX : va_X b L xs s s.heap) (hbl : b < s.heap.size) (hbA : ¬ gA G b) {i : Int32} (hi : 0 ≤ i.toInt ∧ i.toInt + 5 ≤ (L : Int) ∧ L ≤ 2560) {H : Heap} {locs : List Loc} {ls : Array Slot} {da : Nat → Nat} {v : vSt} {x : gX} {n m0 K c0 : Nat} (hI : Inv n m0 v) (hn : n ≤ 511) (hK : K ≤ 268012) (hc : c0 ≤ K + pot v + 36 * n) (hH : Hp G da v x H) (hS : va_S (gA G) s.heap H locs) (hl : lv_has ls 8 [(0, .ref b), (1, .ref (ga G 448)), (2, .ref (ga G 461)), (3, .ref (ga G 468)), (4, .ref (ga G 469)), (5, .int i)]) {z : Int32}
    (E : ∀ (da1 : Nat → Nat) (H1 : Heap) (locs1 : List Loc) (ls1 : Array Slot) (v2 : vSt) (x2 : gX) (c1 : Nat), Hp G da1 v2 x2 H1 → va_S (gA G) s.heap H1 locs1 → lv_has ls1 8 [(0, .ref b), (1, .ref (ga G 448)), (2, .ref (ga G 461)), (3, .ref (ga G 468)), (4, .ref (ga G 469)), (5, .int i)] → c1 ≤ K + pot v2 + 36 * (n + 1) → (∃ m', Inv (n + 1) m' v2) → W p l e room_1 s m args below meth c H1 locs1 c1 c1 Q (F0 m 4036 ls1 [])) :
    W p l e room_1 s m args below meth c H locs c0 c0 Q (F0 m 44 ls [.int z]) := by
  have hx := X.1
  have hb := X.2.1
  by_cases z0 : z = 0
  · refine lv_tableIn (tgt := 364) hx hb dL_law_44 (by rw [z0]; decide) (by rw [z0]; decide) (by rw [z0]; rfl) (by decide) ?_
    obtain ⟨c1, ho, hb1, hm⟩ := cs_0 (i := i) (xs := xs) (x := x) hI hn hK hc
    exact lc_0 hst X hN hX hbl hbA hi hH hS hl ho (fun da1 H1 locs1 ls1 v2 x2 e1 e2 hH1 hS1 hl1 => E da1 H1 locs1 ls1 v2 x2 c1 hH1 hS1 hl1 (by rw [e1]; exact hb1) (by rw [e1]; exact hm))
  by_cases z1 : z = 1
  · refine lv_tableIn (tgt := 432) hx hb dL_law_44 (by rw [z1]; decide) (by rw [z1]; decide) (by rw [z1]; rfl) (by decide) ?_
    obtain ⟨c1, ho, hb1, hm⟩ := cs_1 (i := i) (xs := xs) (x := x) hI hn hK hc
    exact lc_1 hst X hN hX hbl hbA hi hH hS hl ho (fun da1 H1 locs1 ls1 v2 x2 e1 e2 hH1 hS1 hl1 => E da1 H1 locs1 ls1 v2 x2 c1 hH1 hS1 hl1 (by rw [e1]; exact hb1) (by rw [e1]; exact hm))
  by_cases z2 : z = 2
  · refine lv_tableIn (tgt := 500) hx hb dL_law_44 (by rw [z2]; decide) (by rw [z2]; decide) (by rw [z2]; rfl) (by decide) ?_
    obtain ⟨c1, ho, hb1, hm⟩ := cs_2 (i := i) (xs := xs) (x := x) hI hn hK hc
    exact lc_2 hst X hN hX hbl hbA hi hH hS hl ho (fun da1 H1 locs1 ls1 v2 x2 e1 e2 hH1 hS1 hl1 => E da1 H1 locs1 ls1 v2 x2 c1 hH1 hS1 hl1 (by rw [e1]; exact hb1) (by rw [e1]; exact hm))
  by_cases z3 : z = 3
  · refine lv_tableIn (tgt := 556) hx hb dL_law_44 (by rw [z3]; decide) (by rw [z3]; decide) (by rw [z3]; rfl) (by decide) ?_
    obtain ⟨c1, ho, hb1, hm⟩ := cs_3 (i := i) (xs := xs) (x := x) hI hn hK hc
    exact lc_3 hst X hN hX hbl hbA hi hH hS hl ho (fun da1 H1 locs1 ls1 v2 x2 e1 e2 hH1 hS1 hl1 => E da1 H1 locs1 ls1 v2 x2 c1 hH1 hS1 hl1 (by rw [e1]; exact hb1) (by rw [e1]; exact hm))
  by_cases z4 : z = 4
  · refine lv_tableIn (tgt := 636) hx hb dL_law_44 (by rw [z4]; decide) (by rw [z4]; decide) (by rw [z4]; rfl) (by decide) ?_
    obtain ⟨c1, ho, hb1, hm⟩ := cs_4 (i := i) (xs := xs) (x := x) hI hn hK hc
    exact lc_4 hst X hN hX hbl hbA hi hH hS hl ho (fun da1 H1 locs1 ls1 v2 x2 e1 e2 hH1 hS1 hl1 => E da1 H1 locs1 ls1 v2 x2 c1 hH1 hS1 hl1 (by rw [e1]; exact hb1) (by rw [e1]; exact hm))
  by_cases z5 : z = 5
  · refine lv_tableIn (tgt := 704) hx hb dL_law_44 (by rw [z5]; decide) (by rw [z5]; decide) (by rw [z5]; rfl) (by decide) ?_
    obtain ⟨c1, ho, hb1, hm⟩ := cs_5 (i := i) (xs := xs) (x := x) hI hn hK hc
    exact lc_5 hst X hN hX hbl hbA hi hH hS hl ho (fun da1 H1 locs1 ls1 v2 x2 e1 e2 hH1 hS1 hl1 => E da1 H1 locs1 ls1 v2 x2 c1 hH1 hS1 hl1 (by rw [e1]; exact hb1) (by rw [e1]; exact hm))
  by_cases z6 : z = 6
  · refine lv_tableIn (tgt := 748) hx hb dL_law_44 (by rw [z6]; decide) (by rw [z6]; decide) (by rw [z6]; rfl) (by decide) ?_
    obtain ⟨c1, ho, hb1, hm⟩ := cs_6 (i := i) (xs := xs) (x := x) hI hn hK hc
    exact lc_6 hst X hN hX hbl hbA hi hH hS hl ho (fun da1 H1 locs1 ls1 v2 x2 e1 e2 hH1 hS1 hl1 => E da1 H1 locs1 ls1 v2 x2 c1 hH1 hS1 hl1 (by rw [e1]; exact hb1) (by rw [e1]; exact hm))
  by_cases z7 : z = 7
  · refine lv_tableIn (tgt := 840) hx hb dL_law_44 (by rw [z7]; decide) (by rw [z7]; decide) (by rw [z7]; rfl) (by decide) ?_
    obtain ⟨c1, ho, hb1, hm⟩ := cs_7 (i := i) (xs := xs) (x := x) hI hn hK hc
    exact lc_7 hst X hN hX hbl hbA hi hH hS hl ho (fun da1 H1 locs1 ls1 v2 x2 e1 e2 hH1 hS1 hl1 => E da1 H1 locs1 ls1 v2 x2 c1 hH1 hS1 hl1 (by rw [e1]; exact hb1) (by rw [e1]; exact hm))
  by_cases z8 : z = 8
  · refine lv_tableIn (tgt := 908) hx hb dL_law_44 (by rw [z8]; decide) (by rw [z8]; decide) (by rw [z8]; rfl) (by decide) ?_
    obtain ⟨c1, ho, hb1, hm⟩ := cs_8 (i := i) (xs := xs) (x := x) hI hn hK hc
    exact lc_8 hst X hN hX hbl hbA hi hH hS hl ho (fun da1 H1 locs1 ls1 v2 x2 e1 e2 hH1 hS1 hl1 => E da1 H1 locs1 ls1 v2 x2 c1 hH1 hS1 hl1 (by rw [e1]; exact hb1) (by rw [e1]; exact hm))
  by_cases z9 : z = 9
  · refine lv_tableIn (tgt := 964) hx hb dL_law_44 (by rw [z9]; decide) (by rw [z9]; decide) (by rw [z9]; rfl) (by decide) ?_
    obtain ⟨c1, ho, hb1, hm⟩ := cs_9 (i := i) (xs := xs) (x := x) hI hn hK hc
    exact lc_9 hst X hN hX hbl hbA hi hH hS hl ho (fun da1 H1 locs1 ls1 v2 x2 e1 e2 hH1 hS1 hl1 => E da1 H1 locs1 ls1 v2 x2 c1 hH1 hS1 hl1 (by rw [e1]; exact hb1) (by rw [e1]; exact hm))
  by_cases z10 : z = 10
  · refine lv_tableIn (tgt := 1020) hx hb dL_law_44 (by rw [z10]; decide) (by rw [z10]; decide) (by rw [z10]; rfl) (by decide) ?_
    obtain ⟨c1, ho, hb1, hm⟩ := cs_10 (i := i) (xs := xs) (x := x) hI hn hK hc
    exact lc_10 hst X hN hX hbl hbA hi hH hS hl ho (fun da1 H1 locs1 ls1 v2 x2 e1 e2 hH1 hS1 hl1 => E da1 H1 locs1 ls1 v2 x2 c1 hH1 hS1 hl1 (by rw [e1]; exact hb1) (by rw [e1]; exact hm))
  by_cases z11 : z = 11
  · refine lv_tableIn (tgt := 1064) hx hb dL_law_44 (by rw [z11]; decide) (by rw [z11]; decide) (by rw [z11]; rfl) (by decide) ?_
    obtain ⟨c1, ho, hb1, hm⟩ := cs_11 (i := i) (xs := xs) (x := x) hI hn hK hc
    exact lc_11 hst X hN hX hbl hbA hi hH hS hl ho (fun da1 H1 locs1 ls1 v2 x2 e1 e2 hH1 hS1 hl1 => E da1 H1 locs1 ls1 v2 x2 c1 hH1 hS1 hl1 (by rw [e1]; exact hb1) (by rw [e1]; exact hm))
  by_cases z12 : z = 12
  · refine lv_tableIn (tgt := 1120) hx hb dL_law_44 (by rw [z12]; decide) (by rw [z12]; decide) (by rw [z12]; rfl) (by decide) ?_
    obtain ⟨c1, ho, hb1, hm⟩ := cs_12 (i := i) (xs := xs) (x := x) hI hn hK hc
    exact lc_12 hst X hN hX hbl hbA hi hH hS hl ho (fun da1 H1 locs1 ls1 v2 x2 e1 e2 hH1 hS1 hl1 => E da1 H1 locs1 ls1 v2 x2 c1 hH1 hS1 hl1 (by rw [e1]; exact hb1) (by rw [e1]; exact hm))
  by_cases z13 : z = 13
  · refine lv_tableIn (tgt := 1176) hx hb dL_law_44 (by rw [z13]; decide) (by rw [z13]; decide) (by rw [z13]; rfl) (by decide) ?_
    obtain ⟨c1, ho, hb1, hm⟩ := cs_13 (i := i) (xs := xs) (x := x) hI hn hK hc
    exact lc_13 hst X hN hX hbl hbA hi hH hS hl ho (fun da1 H1 locs1 ls1 v2 x2 e1 e2 hH1 hS1 hl1 => E da1 H1 locs1 ls1 v2 x2 c1 hH1 hS1 hl1 (by rw [e1]; exact hb1) (by rw [e1]; exact hm))
  by_cases z14 : z = 14
  · refine lv_tableIn (tgt := 1189) hx hb dL_law_44 (by rw [z14]; decide) (by rw [z14]; decide) (by rw [z14]; rfl) (by decide) ?_
    obtain ⟨c1, ho, hb1, hm⟩ := cs_14 (i := i) (xs := xs) (x := x) hI hn hK hc
    exact lc_14 hst X hN hX hbl hbA hi hH hS hl ho (fun da1 H1 locs1 ls1 v2 x2 e1 e2 hH1 hS1 hl1 => E da1 H1 locs1 ls1 v2 x2 c1 hH1 hS1 hl1 (by rw [e1]; exact hb1) (by rw [e1]; exact hm))
  by_cases z15 : z = 15
  · refine lv_tableIn (tgt := 1245) hx hb dL_law_44 (by rw [z15]; decide) (by rw [z15]; decide) (by rw [z15]; rfl) (by decide) ?_
    obtain ⟨c1, ho, hb1, hm⟩ := cs_15 (i := i) (xs := xs) (x := x) hI hn hK hc
    exact lc_15 hst X hN hX hbl hbA hi hH hS hl ho (fun da1 H1 locs1 ls1 v2 x2 e1 e2 hH1 hS1 hl1 => E da1 H1 locs1 ls1 v2 x2 c1 hH1 hS1 hl1 (by rw [e1]; exact hb1) (by rw [e1]; exact hm))
  by_cases z16 : z = 16
  · refine lv_tableIn (tgt := 1301) hx hb dL_law_44 (by rw [z16]; decide) (by rw [z16]; decide) (by rw [z16]; rfl) (by decide) ?_
    obtain ⟨c1, ho, hb1, hm⟩ := cs_16 (i := i) (xs := xs) (x := x) hI hn hK hc
    exact lc_16 hst X hN hX hbl hbA hi hH hS hl ho (fun da1 H1 locs1 ls1 v2 x2 e1 e2 hH1 hS1 hl1 => E da1 H1 locs1 ls1 v2 x2 c1 hH1 hS1 hl1 (by rw [e1]; exact hb1) (by rw [e1]; exact hm))
  by_cases z17 : z = 17
  · refine lv_tableIn (tgt := 1357) hx hb dL_law_44 (by rw [z17]; decide) (by rw [z17]; decide) (by rw [z17]; rfl) (by decide) ?_
    obtain ⟨c1, ho, hb1, hm⟩ := cs_17 (i := i) (xs := xs) (x := x) hI hn hK hc
    exact lc_17 hst X hN hX hbl hbA hi hH hS hl ho (fun da1 H1 locs1 ls1 v2 x2 e1 e2 hH1 hS1 hl1 => E da1 H1 locs1 ls1 v2 x2 c1 hH1 hS1 hl1 (by rw [e1]; exact hb1) (by rw [e1]; exact hm))
  by_cases z18 : z = 18
  · refine lv_tableIn (tgt := 1413) hx hb dL_law_44 (by rw [z18]; decide) (by rw [z18]; decide) (by rw [z18]; rfl) (by decide) ?_
    obtain ⟨c1, ho, hb1, hm⟩ := cs_18 (i := i) (xs := xs) (x := x) hI hn hK hc
    exact lc_18 hst X hN hX hbl hbA hi hH hS hl ho (fun da1 H1 locs1 ls1 v2 x2 e1 e2 hH1 hS1 hl1 => E da1 H1 locs1 ls1 v2 x2 c1 hH1 hS1 hl1 (by rw [e1]; exact hb1) (by rw [e1]; exact hm))
  by_cases z19 : z = 19
  · refine lv_tableIn (tgt := 1469) hx hb dL_law_44 (by rw [z19]; decide) (by rw [z19]; decide) (by rw [z19]; rfl) (by decide) ?_
    obtain ⟨c1, ho, hb1, hm⟩ := cs_19 (i := i) (xs := xs) (x := x) hI hn hK hc
    exact lc_19 hst X hN hX hbl hbA hi hH hS hl ho (fun da1 H1 locs1 ls1 v2 x2 e1 e2 hH1 hS1 hl1 => E da1 H1 locs1 ls1 v2 x2 c1 hH1 hS1 hl1 (by rw [e1]; exact hb1) (by rw [e1]; exact hm))
  by_cases z20 : z = 20
  · refine lv_tableIn (tgt := 1532) hx hb dL_law_44 (by rw [z20]; decide) (by rw [z20]; decide) (by rw [z20]; rfl) (by decide) ?_
    obtain ⟨c1, ho, hb1, hm⟩ := cs_20 (i := i) (xs := xs) (x := x) hI hn hK hc
    exact lc_20 hst X hN hX hbl hbA hi hH hS hl ho (fun da1 H1 locs1 ls1 v2 x2 e1 e2 hH1 hS1 hl1 => E da1 H1 locs1 ls1 v2 x2 c1 hH1 hS1 hl1 (by rw [e1]; exact hb1) (by rw [e1]; exact hm))
  by_cases z21 : z = 21
  · refine lv_tableIn (tgt := 1588) hx hb dL_law_44 (by rw [z21]; decide) (by rw [z21]; decide) (by rw [z21]; rfl) (by decide) ?_
    obtain ⟨c1, ho, hb1, hm⟩ := cs_21 (i := i) (xs := xs) (x := x) hI hn hK hc
    exact lc_21 hst X hN hX hbl hbA hi hH hS hl ho (fun da1 H1 locs1 ls1 v2 x2 e1 e2 hH1 hS1 hl1 => E da1 H1 locs1 ls1 v2 x2 c1 hH1 hS1 hl1 (by rw [e1]; exact hb1) (by rw [e1]; exact hm))
  by_cases z22 : z = 22
  · refine lv_tableIn (tgt := 1601) hx hb dL_law_44 (by rw [z22]; decide) (by rw [z22]; decide) (by rw [z22]; rfl) (by decide) ?_
    obtain ⟨c1, ho, hb1, hm⟩ := cs_22 (i := i) (xs := xs) (x := x) hI hn hK hc
    exact lc_22 hst X hN hX hbl hbA hi hH hS hl ho (fun da1 H1 locs1 ls1 v2 x2 e1 e2 hH1 hS1 hl1 => E da1 H1 locs1 ls1 v2 x2 c1 hH1 hS1 hl1 (by rw [e1]; exact hb1) (by rw [e1]; exact hm))
  by_cases z23 : z = 23
  · refine lv_tableIn (tgt := 1669) hx hb dL_law_44 (by rw [z23]; decide) (by rw [z23]; decide) (by rw [z23]; rfl) (by decide) ?_
    obtain ⟨c1, ho, hb1, hm⟩ := cs_23 (i := i) (xs := xs) (x := x) hI hn hK hc
    exact lc_23 hst X hN hX hbl hbA hi hH hS hl ho (fun da1 H1 locs1 ls1 v2 x2 e1 e2 hH1 hS1 hl1 => E da1 H1 locs1 ls1 v2 x2 c1 hH1 hS1 hl1 (by rw [e1]; exact hb1) (by rw [e1]; exact hm))
  by_cases z24 : z = 24
  · refine lv_tableIn (tgt := 1749) hx hb dL_law_44 (by rw [z24]; decide) (by rw [z24]; decide) (by rw [z24]; rfl) (by decide) ?_
    obtain ⟨c1, ho, hb1, hm⟩ := cs_24 (i := i) (xs := xs) (x := x) hI hn hK hc
    exact lc_24 hst X hN hX hbl hbA hi hH hS hl ho (fun da1 H1 locs1 ls1 v2 x2 e1 e2 hH1 hS1 hl1 => E da1 H1 locs1 ls1 v2 x2 c1 hH1 hS1 hl1 (by rw [e1]; exact hb1) (by rw [e1]; exact hm))
  by_cases z25 : z = 25
  · refine lv_tableIn (tgt := 1829) hx hb dL_law_44 (by rw [z25]; decide) (by rw [z25]; decide) (by rw [z25]; rfl) (by decide) ?_
    obtain ⟨c1, ho, hb1, hm⟩ := cs_25 (i := i) (xs := xs) (x := x) hI hn hK hc
    exact lc_25 hst X hN hX hbl hbA hi hH hS hl ho (fun da1 H1 locs1 ls1 v2 x2 e1 e2 hH1 hS1 hl1 => E da1 H1 locs1 ls1 v2 x2 c1 hH1 hS1 hl1 (by rw [e1]; exact hb1) (by rw [e1]; exact hm))
  by_cases z26 : z = 26
  · refine lv_tableIn (tgt := 1909) hx hb dL_law_44 (by rw [z26]; decide) (by rw [z26]; decide) (by rw [z26]; rfl) (by decide) ?_
    obtain ⟨c1, ho, hb1, hm⟩ := cs_26 (i := i) (xs := xs) (x := x) hI hn hK hc
    exact lc_26 hst X hN hX hbl hbA hi hH hS hl ho (fun da1 H1 locs1 ls1 v2 x2 e1 e2 hH1 hS1 hl1 => E da1 H1 locs1 ls1 v2 x2 c1 hH1 hS1 hl1 (by rw [e1]; exact hb1) (by rw [e1]; exact hm))
  by_cases z27 : z = 27
  · refine lv_tableIn (tgt := 1989) hx hb dL_law_44 (by rw [z27]; decide) (by rw [z27]; decide) (by rw [z27]; rfl) (by decide) ?_
    obtain ⟨c1, ho, hb1, hm⟩ := cs_27 (i := i) (xs := xs) (x := x) hI hn hK hc
    exact lc_27 hst X hN hX hbl hbA hi hH hS hl ho (fun da1 H1 locs1 ls1 v2 x2 e1 e2 hH1 hS1 hl1 => E da1 H1 locs1 ls1 v2 x2 c1 hH1 hS1 hl1 (by rw [e1]; exact hb1) (by rw [e1]; exact hm))
  by_cases z28 : z = 28
  · refine lv_tableIn (tgt := 2069) hx hb dL_law_44 (by rw [z28]; decide) (by rw [z28]; decide) (by rw [z28]; rfl) (by decide) ?_
    obtain ⟨c1, ho, hb1, hm⟩ := cs_28 (i := i) (xs := xs) (x := x) hI hn hK hc
    exact lc_28 hst X hN hX hbl hbA hi hH hS hl ho (fun da1 H1 locs1 ls1 v2 x2 e1 e2 hH1 hS1 hl1 => E da1 H1 locs1 ls1 v2 x2 c1 hH1 hS1 hl1 (by rw [e1]; exact hb1) (by rw [e1]; exact hm))
  by_cases z29 : z = 29
  · refine lv_tableIn (tgt := 2082) hx hb dL_law_44 (by rw [z29]; decide) (by rw [z29]; decide) (by rw [z29]; rfl) (by decide) ?_
    obtain ⟨c1, ho, hb1, hm⟩ := cs_29 (i := i) (xs := xs) (x := x) hI hn hK hc
    exact lc_29 hst X hN hX hbl hbA hi hH hS hl ho (fun da1 H1 locs1 ls1 v2 x2 e1 e2 hH1 hS1 hl1 => E da1 H1 locs1 ls1 v2 x2 c1 hH1 hS1 hl1 (by rw [e1]; exact hb1) (by rw [e1]; exact hm))
  by_cases z30 : z = 30
  · refine lv_tableIn (tgt := 2138) hx hb dL_law_44 (by rw [z30]; decide) (by rw [z30]; decide) (by rw [z30]; rfl) (by decide) ?_
    obtain ⟨c1, ho, hb1, hm⟩ := cs_30 (i := i) (xs := xs) (x := x) hI hn hK hc
    exact lc_30 hst X hN hX hbl hbA hi hH hS hl ho (fun da1 H1 locs1 ls1 v2 x2 e1 e2 hH1 hS1 hl1 => E da1 H1 locs1 ls1 v2 x2 c1 hH1 hS1 hl1 (by rw [e1]; exact hb1) (by rw [e1]; exact hm))
  by_cases z31 : z = 31
  · refine lv_tableIn (tgt := 2194) hx hb dL_law_44 (by rw [z31]; decide) (by rw [z31]; decide) (by rw [z31]; rfl) (by decide) ?_
    obtain ⟨c1, ho, hb1, hm⟩ := cs_31 (i := i) (xs := xs) (x := x) hI hn hK hc
    exact lc_31 hst X hN hX hbl hbA hi hH hS hl ho (fun da1 H1 locs1 ls1 v2 x2 e1 e2 hH1 hS1 hl1 => E da1 H1 locs1 ls1 v2 x2 c1 hH1 hS1 hl1 (by rw [e1]; exact hb1) (by rw [e1]; exact hm))
  by_cases z32 : z = 32
  · refine lv_tableIn (tgt := 2250) hx hb dL_law_44 (by rw [z32]; decide) (by rw [z32]; decide) (by rw [z32]; rfl) (by decide) ?_
    obtain ⟨c1, ho, hb1, hm⟩ := cs_32 (i := i) (xs := xs) (x := x) hI hn hK hc
    exact lc_32 hst X hN hX hbl hbA hi hH hS hl ho (fun da1 H1 locs1 ls1 v2 x2 e1 e2 hH1 hS1 hl1 => E da1 H1 locs1 ls1 v2 x2 c1 hH1 hS1 hl1 (by rw [e1]; exact hb1) (by rw [e1]; exact hm))
  by_cases z33 : z = 33
  · refine lv_tableIn (tgt := 2306) hx hb dL_law_44 (by rw [z33]; decide) (by rw [z33]; decide) (by rw [z33]; rfl) (by decide) ?_
    obtain ⟨c1, ho, hb1, hm⟩ := cs_33 (i := i) (xs := xs) (x := x) hI hn hK hc
    exact lc_33 hst X hN hX hbl hbA hi hH hS hl ho (fun da1 H1 locs1 ls1 v2 x2 e1 e2 hH1 hS1 hl1 => E da1 H1 locs1 ls1 v2 x2 c1 hH1 hS1 hl1 (by rw [e1]; exact hb1) (by rw [e1]; exact hm))
  by_cases z34 : z = 34
  · refine lv_tableIn (tgt := 2362) hx hb dL_law_44 (by rw [z34]; decide) (by rw [z34]; decide) (by rw [z34]; rfl) (by decide) ?_
    obtain ⟨c1, ho, hb1, hm⟩ := cs_34 (i := i) (xs := xs) (x := x) hI hn hK hc
    exact lc_34 hst X hN hX hbl hbA hi hH hS hl ho (fun da1 H1 locs1 ls1 v2 x2 e1 e2 hH1 hS1 hl1 => E da1 H1 locs1 ls1 v2 x2 c1 hH1 hS1 hl1 (by rw [e1]; exact hb1) (by rw [e1]; exact hm))
  by_cases z35 : z = 35
  · refine lv_tableIn (tgt := 2418) hx hb dL_law_44 (by rw [z35]; decide) (by rw [z35]; decide) (by rw [z35]; rfl) (by decide) ?_
    obtain ⟨c1, ho, hb1, hm⟩ := cs_35 (i := i) (xs := xs) (x := x) hI hn hK hc
    exact lc_35 hst X hN hX hbl hbA hi hH hS hl ho (fun da1 H1 locs1 ls1 v2 x2 e1 e2 hH1 hS1 hl1 => E da1 H1 locs1 ls1 v2 x2 c1 hH1 hS1 hl1 (by rw [e1]; exact hb1) (by rw [e1]; exact hm))
  by_cases z36 : z = 36
  · refine lv_tableIn (tgt := 2431) hx hb dL_law_44 (by rw [z36]; decide) (by rw [z36]; decide) (by rw [z36]; rfl) (by decide) ?_
    obtain ⟨c1, ho, hb1, hm⟩ := cs_36 (i := i) (xs := xs) (x := x) hI hn hK hc
    exact lc_36 hst X hN hX hbl hbA hi hH hS hl ho (fun da1 H1 locs1 ls1 v2 x2 e1 e2 hH1 hS1 hl1 => E da1 H1 locs1 ls1 v2 x2 c1 hH1 hS1 hl1 (by rw [e1]; exact hb1) (by rw [e1]; exact hm))
  by_cases z37 : z = 37
  · refine lv_tableIn (tgt := 2444) hx hb dL_law_44 (by rw [z37]; decide) (by rw [z37]; decide) (by rw [z37]; rfl) (by decide) ?_
    obtain ⟨c1, ho, hb1, hm⟩ := cs_37 (i := i) (xs := xs) (x := x) hI hn hK hc
    exact lc_37 hst X hN hX hbl hbA hi hH hS hl ho (fun da1 H1 locs1 ls1 v2 x2 e1 e2 hH1 hS1 hl1 => E da1 H1 locs1 ls1 v2 x2 c1 hH1 hS1 hl1 (by rw [e1]; exact hb1) (by rw [e1]; exact hm))
  by_cases z38 : z = 38
  · refine lv_tableIn (tgt := 2500) hx hb dL_law_44 (by rw [z38]; decide) (by rw [z38]; decide) (by rw [z38]; rfl) (by decide) ?_
    obtain ⟨c1, ho, hb1, hm⟩ := cs_38 (i := i) (xs := xs) (x := x) hI hn hK hc
    exact lc_38 hst X hN hX hbl hbA hi hH hS hl ho (fun da1 H1 locs1 ls1 v2 x2 e1 e2 hH1 hS1 hl1 => E da1 H1 locs1 ls1 v2 x2 c1 hH1 hS1 hl1 (by rw [e1]; exact hb1) (by rw [e1]; exact hm))
  by_cases z39 : z = 39
  · refine lv_tableIn (tgt := 2556) hx hb dL_law_44 (by rw [z39]; decide) (by rw [z39]; decide) (by rw [z39]; rfl) (by decide) ?_
    obtain ⟨c1, ho, hb1, hm⟩ := cs_39 (i := i) (xs := xs) (x := x) hI hn hK hc
    exact lc_39 hst X hN hX hbl hbA hi hH hS hl ho (fun da1 H1 locs1 ls1 v2 x2 e1 e2 hH1 hS1 hl1 => E da1 H1 locs1 ls1 v2 x2 c1 hH1 hS1 hl1 (by rw [e1]; exact hb1) (by rw [e1]; exact hm))
  by_cases z40 : z = 40
  · refine lv_tableIn (tgt := 2569) hx hb dL_law_44 (by rw [z40]; decide) (by rw [z40]; decide) (by rw [z40]; rfl) (by decide) ?_
    obtain ⟨c1, ho, hb1, hm⟩ := cs_40 (i := i) (xs := xs) (x := x) hI hn hK hc
    exact lc_40 hst X hN hX hbl hbA hi hH hS hl ho (fun da1 H1 locs1 ls1 v2 x2 e1 e2 hH1 hS1 hl1 => E da1 H1 locs1 ls1 v2 x2 c1 hH1 hS1 hl1 (by rw [e1]; exact hb1) (by rw [e1]; exact hm))
  by_cases z41 : z = 41
  · refine lv_tableIn (tgt := 2625) hx hb dL_law_44 (by rw [z41]; decide) (by rw [z41]; decide) (by rw [z41]; rfl) (by decide) ?_
    obtain ⟨c1, ho, hb1, hm⟩ := cs_41 (i := i) (xs := xs) (x := x) hI hn hK hc
    exact lc_41 hst X hN hX hbl hbA hi hH hS hl ho (fun da1 H1 locs1 ls1 v2 x2 e1 e2 hH1 hS1 hl1 => E da1 H1 locs1 ls1 v2 x2 c1 hH1 hS1 hl1 (by rw [e1]; exact hb1) (by rw [e1]; exact hm))
  by_cases z42 : z = 42
  · refine lv_tableIn (tgt := 2688) hx hb dL_law_44 (by rw [z42]; decide) (by rw [z42]; decide) (by rw [z42]; rfl) (by decide) ?_
    obtain ⟨c1, ho, hb1, hm⟩ := cs_42 (i := i) (xs := xs) (x := x) hI hn hK hc
    exact lc_42 hst X hN hX hbl hbA hi hH hS hl ho (fun da1 H1 locs1 ls1 v2 x2 e1 e2 hH1 hS1 hl1 => E da1 H1 locs1 ls1 v2 x2 c1 hH1 hS1 hl1 (by rw [e1]; exact hb1) (by rw [e1]; exact hm))
  by_cases z43 : z = 43
  · refine lv_tableIn (tgt := 2701) hx hb dL_law_44 (by rw [z43]; decide) (by rw [z43]; decide) (by rw [z43]; rfl) (by decide) ?_
    obtain ⟨c1, ho, hb1, hm⟩ := cs_43 (i := i) (xs := xs) (x := x) hI hn hK hc
    exact lc_43 hst X hN hX hbl hbA hi hH hS hl ho (fun da1 H1 locs1 ls1 v2 x2 e1 e2 hH1 hS1 hl1 => E da1 H1 locs1 ls1 v2 x2 c1 hH1 hS1 hl1 (by rw [e1]; exact hb1) (by rw [e1]; exact hm))
  by_cases z44 : z = 44
  · refine lv_tableIn (tgt := 2757) hx hb dL_law_44 (by rw [z44]; decide) (by rw [z44]; decide) (by rw [z44]; rfl) (by decide) ?_
    obtain ⟨c1, ho, hb1, hm⟩ := cs_44 (i := i) (xs := xs) (x := x) hI hn hK hc
    exact lc_44 hst X hN hX hbl hbA hi hH hS hl ho (fun da1 H1 locs1 ls1 v2 x2 e1 e2 hH1 hS1 hl1 => E da1 H1 locs1 ls1 v2 x2 c1 hH1 hS1 hl1 (by rw [e1]; exact hb1) (by rw [e1]; exact hm))
  by_cases z45 : z = 45
  · refine lv_tableIn (tgt := 2813) hx hb dL_law_44 (by rw [z45]; decide) (by rw [z45]; decide) (by rw [z45]; rfl) (by decide) ?_
    obtain ⟨c1, ho, hb1, hm⟩ := cs_45 (i := i) (xs := xs) (x := x) hI hn hK hc
    exact lc_45 hst X hN hX hbl hbA hi hH hS hl ho (fun da1 H1 locs1 ls1 v2 x2 e1 e2 hH1 hS1 hl1 => E da1 H1 locs1 ls1 v2 x2 c1 hH1 hS1 hl1 (by rw [e1]; exact hb1) (by rw [e1]; exact hm))
  by_cases z46 : z = 46
  · refine lv_tableIn (tgt := 2857) hx hb dL_law_44 (by rw [z46]; decide) (by rw [z46]; decide) (by rw [z46]; rfl) (by decide) ?_
    obtain ⟨c1, ho, hb1, hm⟩ := cs_46 (i := i) (xs := xs) (x := x) hI hn hK hc
    exact lc_46 hst X hN hX hbl hbA hi hH hS hl ho (fun da1 H1 locs1 ls1 v2 x2 e1 e2 hH1 hS1 hl1 => E da1 H1 locs1 ls1 v2 x2 c1 hH1 hS1 hl1 (by rw [e1]; exact hb1) (by rw [e1]; exact hm))
  by_cases z47 : z = 47
  · refine lv_tableIn (tgt := 2870) hx hb dL_law_44 (by rw [z47]; decide) (by rw [z47]; decide) (by rw [z47]; rfl) (by decide) ?_
    obtain ⟨c1, ho, hb1, hm⟩ := cs_47 (i := i) (xs := xs) (x := x) hI hn hK hc
    exact lc_47 hst X hN hX hbl hbA hi hH hS hl ho (fun da1 H1 locs1 ls1 v2 x2 e1 e2 hH1 hS1 hl1 => E da1 H1 locs1 ls1 v2 x2 c1 hH1 hS1 hl1 (by rw [e1]; exact hb1) (by rw [e1]; exact hm))
  by_cases z48 : z = 48
  · refine lv_tableIn (tgt := 2926) hx hb dL_law_44 (by rw [z48]; decide) (by rw [z48]; decide) (by rw [z48]; rfl) (by decide) ?_
    obtain ⟨c1, ho, hb1, hm⟩ := cs_48 (i := i) (xs := xs) (x := x) hI hn hK hc
    exact lc_48 hst X hN hX hbl hbA hi hH hS hl ho (fun da1 H1 locs1 ls1 v2 x2 e1 e2 hH1 hS1 hl1 => E da1 H1 locs1 ls1 v2 x2 c1 hH1 hS1 hl1 (by rw [e1]; exact hb1) (by rw [e1]; exact hm))
  by_cases z49 : z = 49
  · refine lv_tableIn (tgt := 2982) hx hb dL_law_44 (by rw [z49]; decide) (by rw [z49]; decide) (by rw [z49]; rfl) (by decide) ?_
    obtain ⟨c1, ho, hb1, hm⟩ := cs_49 (i := i) (xs := xs) (x := x) hI hn hK hc
    exact lc_49 hst X hN hX hbl hbA hi hH hS hl ho (fun da1 H1 locs1 ls1 v2 x2 e1 e2 hH1 hS1 hl1 => E da1 H1 locs1 ls1 v2 x2 c1 hH1 hS1 hl1 (by rw [e1]; exact hb1) (by rw [e1]; exact hm))
  by_cases z50 : z = 50
  · refine lv_tableIn (tgt := 3038) hx hb dL_law_44 (by rw [z50]; decide) (by rw [z50]; decide) (by rw [z50]; rfl) (by decide) ?_
    obtain ⟨c1, ho, hb1, hm⟩ := cs_50 (i := i) (xs := xs) (x := x) hI hn hK hc
    exact lc_50 hst X hN hX hbl hbA hi hH hS hl ho (fun da1 H1 locs1 ls1 v2 x2 e1 e2 hH1 hS1 hl1 => E da1 H1 locs1 ls1 v2 x2 c1 hH1 hS1 hl1 (by rw [e1]; exact hb1) (by rw [e1]; exact hm))
  by_cases z51 : z = 51
  · refine lv_tableIn (tgt := 3094) hx hb dL_law_44 (by rw [z51]; decide) (by rw [z51]; decide) (by rw [z51]; rfl) (by decide) ?_
    obtain ⟨c1, ho, hb1, hm⟩ := cs_51 (i := i) (xs := xs) (x := x) hI hn hK hc
    exact lc_51 hst X hN hX hbl hbA hi hH hS hl ho (fun da1 H1 locs1 ls1 v2 x2 e1 e2 hH1 hS1 hl1 => E da1 H1 locs1 ls1 v2 x2 c1 hH1 hS1 hl1 (by rw [e1]; exact hb1) (by rw [e1]; exact hm))
  by_cases z52 : z = 52
  · refine lv_tableIn (tgt := 3150) hx hb dL_law_44 (by rw [z52]; decide) (by rw [z52]; decide) (by rw [z52]; rfl) (by decide) ?_
    obtain ⟨c1, ho, hb1, hm⟩ := cs_52 (i := i) (xs := xs) (x := x) hI hn hK hc
    exact lc_52 hst X hN hX hbl hbA hi hH hS hl ho (fun da1 H1 locs1 ls1 v2 x2 e1 e2 hH1 hS1 hl1 => E da1 H1 locs1 ls1 v2 x2 c1 hH1 hS1 hl1 (by rw [e1]; exact hb1) (by rw [e1]; exact hm))
  by_cases z53 : z = 53
  · refine lv_tableIn (tgt := 3218) hx hb dL_law_44 (by rw [z53]; decide) (by rw [z53]; decide) (by rw [z53]; rfl) (by decide) ?_
    obtain ⟨c1, ho, hb1, hm⟩ := cs_53 (i := i) (xs := xs) (x := x) hI hn hK hc
    exact lc_53 hst X hN hX hbl hbA hi hH hS hl ho (fun da1 H1 locs1 ls1 v2 x2 e1 e2 hH1 hS1 hl1 => E da1 H1 locs1 ls1 v2 x2 c1 hH1 hS1 hl1 (by rw [e1]; exact hb1) (by rw [e1]; exact hm))
  by_cases z54 : z = 54
  · refine lv_tableIn (tgt := 3274) hx hb dL_law_44 (by rw [z54]; decide) (by rw [z54]; decide) (by rw [z54]; rfl) (by decide) ?_
    obtain ⟨c1, ho, hb1, hm⟩ := cs_54 (i := i) (xs := xs) (x := x) hI hn hK hc
    exact lc_54 hst X hN hX hbl hbA hi hH hS hl ho (fun da1 H1 locs1 ls1 v2 x2 e1 e2 hH1 hS1 hl1 => E da1 H1 locs1 ls1 v2 x2 c1 hH1 hS1 hl1 (by rw [e1]; exact hb1) (by rw [e1]; exact hm))
  by_cases z55 : z = 55
  · refine lv_tableIn (tgt := 3330) hx hb dL_law_44 (by rw [z55]; decide) (by rw [z55]; decide) (by rw [z55]; rfl) (by decide) ?_
    obtain ⟨c1, ho, hb1, hm⟩ := cs_55 (i := i) (xs := xs) (x := x) hI hn hK hc
    exact lc_55 hst X hN hX hbl hbA hi hH hS hl ho (fun da1 H1 locs1 ls1 v2 x2 e1 e2 hH1 hS1 hl1 => E da1 H1 locs1 ls1 v2 x2 c1 hH1 hS1 hl1 (by rw [e1]; exact hb1) (by rw [e1]; exact hm))
  by_cases z56 : z = 56
  · refine lv_tableIn (tgt := 3386) hx hb dL_law_44 (by rw [z56]; decide) (by rw [z56]; decide) (by rw [z56]; rfl) (by decide) ?_
    obtain ⟨c1, ho, hb1, hm⟩ := cs_56 (i := i) (xs := xs) (x := x) hI hn hK hc
    exact lc_56 hst X hN hX hbl hbA hi hH hS hl ho (fun da1 H1 locs1 ls1 v2 x2 e1 e2 hH1 hS1 hl1 => E da1 H1 locs1 ls1 v2 x2 c1 hH1 hS1 hl1 (by rw [e1]; exact hb1) (by rw [e1]; exact hm))
  by_cases z57 : z = 57
  · refine lv_tableIn (tgt := 3442) hx hb dL_law_44 (by rw [z57]; decide) (by rw [z57]; decide) (by rw [z57]; rfl) (by decide) ?_
    obtain ⟨c1, ho, hb1, hm⟩ := cs_57 (i := i) (xs := xs) (x := x) hI hn hK hc
    exact lc_57 hst X hN hX hbl hbA hi hH hS hl ho (fun da1 H1 locs1 ls1 v2 x2 e1 e2 hH1 hS1 hl1 => E da1 H1 locs1 ls1 v2 x2 c1 hH1 hS1 hl1 (by rw [e1]; exact hb1) (by rw [e1]; exact hm))
  by_cases z58 : z = 58
  · refine lv_tableIn (tgt := 3520) hx hb dL_law_44 (by rw [z58]; decide) (by rw [z58]; decide) (by rw [z58]; rfl) (by decide) ?_
    obtain ⟨c1, ho, hb1, hm⟩ := cs_58 (i := i) (xs := xs) (x := x) hI hn hK hc
    exact lc_58 hst X hN hX hbl hbA hi hH hS hl ho (fun da1 H1 locs1 ls1 v2 x2 e1 e2 hH1 hS1 hl1 => E da1 H1 locs1 ls1 v2 x2 c1 hH1 hS1 hl1 (by rw [e1]; exact hb1) (by rw [e1]; exact hm))
  by_cases z59 : z = 59
  · refine lv_tableIn (tgt := 3533) hx hb dL_law_44 (by rw [z59]; decide) (by rw [z59]; decide) (by rw [z59]; rfl) (by decide) ?_
    obtain ⟨c1, ho, hb1, hm⟩ := cs_59 (i := i) (xs := xs) (x := x) hI hn hK hc
    exact lc_59 hst X hN hX hbl hbA hi hH hS hl ho (fun da1 H1 locs1 ls1 v2 x2 e1 e2 hH1 hS1 hl1 => E da1 H1 locs1 ls1 v2 x2 c1 hH1 hS1 hl1 (by rw [e1]; exact hb1) (by rw [e1]; exact hm))
  by_cases z60 : z = 60
  · refine lv_tableIn (tgt := 3546) hx hb dL_law_44 (by rw [z60]; decide) (by rw [z60]; decide) (by rw [z60]; rfl) (by decide) ?_
    obtain ⟨c1, ho, hb1, hm⟩ := cs_60 (i := i) (xs := xs) (x := x) hI hn hK hc
    exact lc_60 hst X hN hX hbl hbA hi hH hS hl ho (fun da1 H1 locs1 ls1 v2 x2 e1 e2 hH1 hS1 hl1 => E da1 H1 locs1 ls1 v2 x2 c1 hH1 hS1 hl1 (by rw [e1]; exact hb1) (by rw [e1]; exact hm))
  by_cases z61 : z = 61
  · refine lv_tableIn (tgt := 3559) hx hb dL_law_44 (by rw [z61]; decide) (by rw [z61]; decide) (by rw [z61]; rfl) (by decide) ?_
    obtain ⟨c1, ho, hb1, hm⟩ := cs_61 (i := i) (xs := xs) (x := x) hI hn hK hc
    exact lc_61 hst X hN hX hbl hbA hi hH hS hl ho (fun da1 H1 locs1 ls1 v2 x2 e1 e2 hH1 hS1 hl1 => E da1 H1 locs1 ls1 v2 x2 c1 hH1 hS1 hl1 (by rw [e1]; exact hb1) (by rw [e1]; exact hm))
  by_cases z62 : z = 62
  · refine lv_tableIn (tgt := 3572) hx hb dL_law_44 (by rw [z62]; decide) (by rw [z62]; decide) (by rw [z62]; rfl) (by decide) ?_
    obtain ⟨c1, ho, hb1, hm⟩ := cs_62 (i := i) (xs := xs) (x := x) hI hn hK hc
    exact lc_62 hst X hN hX hbl hbA hi hH hS hl ho (fun da1 H1 locs1 ls1 v2 x2 e1 e2 hH1 hS1 hl1 => E da1 H1 locs1 ls1 v2 x2 c1 hH1 hS1 hl1 (by rw [e1]; exact hb1) (by rw [e1]; exact hm))
  by_cases z63 : z = 63
  · refine lv_tableIn (tgt := 3585) hx hb dL_law_44 (by rw [z63]; decide) (by rw [z63]; decide) (by rw [z63]; rfl) (by decide) ?_
    obtain ⟨c1, ho, hb1, hm⟩ := cs_63 (i := i) (xs := xs) (x := x) hI hn hK hc
    exact lc_63 hst X hN hX hbl hbA hi hH hS hl ho (fun da1 H1 locs1 ls1 v2 x2 e1 e2 hH1 hS1 hl1 => E da1 H1 locs1 ls1 v2 x2 c1 hH1 hS1 hl1 (by rw [e1]; exact hb1) (by rw [e1]; exact hm))
  by_cases z64 : z = 64
  · refine lv_tableIn (tgt := 3598) hx hb dL_law_44 (by rw [z64]; decide) (by rw [z64]; decide) (by rw [z64]; rfl) (by decide) ?_
    obtain ⟨c1, ho, hb1, hm⟩ := cs_64 (i := i) (xs := xs) (x := x) hI hn hK hc
    exact lc_64 hst X hN hX hbl hbA hi hH hS hl ho (fun da1 H1 locs1 ls1 v2 x2 e1 e2 hH1 hS1 hl1 => E da1 H1 locs1 ls1 v2 x2 c1 hH1 hS1 hl1 (by rw [e1]; exact hb1) (by rw [e1]; exact hm))
  by_cases z65 : z = 65
  · refine lv_tableIn (tgt := 3611) hx hb dL_law_44 (by rw [z65]; decide) (by rw [z65]; decide) (by rw [z65]; rfl) (by decide) ?_
    obtain ⟨c1, ho, hb1, hm⟩ := cs_65 (i := i) (xs := xs) (x := x) hI hn hK hc
    exact lc_65 hst X hN hX hbl hbA hi hH hS hl ho (fun da1 H1 locs1 ls1 v2 x2 e1 e2 hH1 hS1 hl1 => E da1 H1 locs1 ls1 v2 x2 c1 hH1 hS1 hl1 (by rw [e1]; exact hb1) (by rw [e1]; exact hm))
  by_cases z66 : z = 66
  · refine lv_tableIn (tgt := 3677) hx hb dL_law_44 (by rw [z66]; decide) (by rw [z66]; decide) (by rw [z66]; rfl) (by decide) ?_
    obtain ⟨c1, ho, hb1, hm⟩ := cs_66 (i := i) (xs := xs) (x := x) hI hn hK hc
    exact lc_66 hst X hN hX hbl hbA hi hH hS hl ho (fun da1 H1 locs1 ls1 v2 x2 e1 e2 hH1 hS1 hl1 => E da1 H1 locs1 ls1 v2 x2 c1 hH1 hS1 hl1 (by rw [e1]; exact hb1) (by rw [e1]; exact hm))
  by_cases z67 : z = 67
  · refine lv_tableIn (tgt := 3690) hx hb dL_law_44 (by rw [z67]; decide) (by rw [z67]; decide) (by rw [z67]; rfl) (by decide) ?_
    obtain ⟨c1, ho, hb1, hm⟩ := cs_67 (i := i) (xs := xs) (x := x) hI hn hK hc
    exact lc_67 hst X hN hX hbl hbA hi hH hS hl ho (fun da1 H1 locs1 ls1 v2 x2 e1 e2 hH1 hS1 hl1 => E da1 H1 locs1 ls1 v2 x2 c1 hH1 hS1 hl1 (by rw [e1]; exact hb1) (by rw [e1]; exact hm))
  by_cases z68 : z = 68
  · refine lv_tableIn (tgt := 3734) hx hb dL_law_44 (by rw [z68]; decide) (by rw [z68]; decide) (by rw [z68]; rfl) (by decide) ?_
    obtain ⟨c1, ho, hb1, hm⟩ := cs_68 (i := i) (xs := xs) (x := x) hI hn hK hc
    exact lc_68 hst X hN hX hbl hbA hi hH hS hl ho (fun da1 H1 locs1 ls1 v2 x2 e1 e2 hH1 hS1 hl1 => E da1 H1 locs1 ls1 v2 x2 c1 hH1 hS1 hl1 (by rw [e1]; exact hb1) (by rw [e1]; exact hm))
  by_cases z69 : z = 69
  · refine lv_tableIn (tgt := 3747) hx hb dL_law_44 (by rw [z69]; decide) (by rw [z69]; decide) (by rw [z69]; rfl) (by decide) ?_
    obtain ⟨c1, ho, hb1, hm⟩ := cs_69 (i := i) (xs := xs) (x := x) hI hn hK hc
    exact lc_69 hst X hN hX hbl hbA hi hH hS hl ho (fun da1 H1 locs1 ls1 v2 x2 e1 e2 hH1 hS1 hl1 => E da1 H1 locs1 ls1 v2 x2 c1 hH1 hS1 hl1 (by rw [e1]; exact hb1) (by rw [e1]; exact hm))
  by_cases z70 : z = 70
  · refine lv_tableIn (tgt := 3791) hx hb dL_law_44 (by rw [z70]; decide) (by rw [z70]; decide) (by rw [z70]; rfl) (by decide) ?_
    obtain ⟨c1, ho, hb1, hm⟩ := cs_70 (i := i) (xs := xs) (x := x) hI hn hK hc
    exact lc_70 hst X hN hX hbl hbA hi hH hS hl ho (fun da1 H1 locs1 ls1 v2 x2 e1 e2 hH1 hS1 hl1 => E da1 H1 locs1 ls1 v2 x2 c1 hH1 hS1 hl1 (by rw [e1]; exact hb1) (by rw [e1]; exact hm))
  by_cases z71 : z = 71
  · refine lv_tableIn (tgt := 3847) hx hb dL_law_44 (by rw [z71]; decide) (by rw [z71]; decide) (by rw [z71]; rfl) (by decide) ?_
    obtain ⟨c1, ho, hb1, hm⟩ := cs_71 (i := i) (xs := xs) (x := x) hI hn hK hc
    exact lc_71 hst X hN hX hbl hbA hi hH hS hl ho (fun da1 H1 locs1 ls1 v2 x2 e1 e2 hH1 hS1 hl1 => E da1 H1 locs1 ls1 v2 x2 c1 hH1 hS1 hl1 (by rw [e1]; exact hb1) (by rw [e1]; exact hm))
  by_cases z72 : z = 72
  · refine lv_tableIn (tgt := 3860) hx hb dL_law_44 (by rw [z72]; decide) (by rw [z72]; decide) (by rw [z72]; rfl) (by decide) ?_
    obtain ⟨c1, ho, hb1, hm⟩ := cs_72 (i := i) (xs := xs) (x := x) hI hn hK hc
    exact lc_72 hst X hN hX hbl hbA hi hH hS hl ho (fun da1 H1 locs1 ls1 v2 x2 e1 e2 hH1 hS1 hl1 => E da1 H1 locs1 ls1 v2 x2 c1 hH1 hS1 hl1 (by rw [e1]; exact hb1) (by rw [e1]; exact hm))
  by_cases z73 : z = 73
  · refine lv_tableIn (tgt := 3904) hx hb dL_law_44 (by rw [z73]; decide) (by rw [z73]; decide) (by rw [z73]; rfl) (by decide) ?_
    obtain ⟨c1, ho, hb1, hm⟩ := cs_73 (i := i) (xs := xs) (x := x) hI hn hK hc
    exact lc_73 hst X hN hX hbl hbA hi hH hS hl ho (fun da1 H1 locs1 ls1 v2 x2 e1 e2 hH1 hS1 hl1 => E da1 H1 locs1 ls1 v2 x2 c1 hH1 hS1 hl1 (by rw [e1]; exact hb1) (by rw [e1]; exact hm))
  by_cases z74 : z = 74
  · refine lv_tableIn (tgt := 3948) hx hb dL_law_44 (by rw [z74]; decide) (by rw [z74]; decide) (by rw [z74]; rfl) (by decide) ?_
    obtain ⟨c1, ho, hb1, hm⟩ := cs_74 (i := i) (xs := xs) (x := x) hI hn hK hc
    exact lc_74 hst X hN hX hbl hbA hi hH hS hl ho (fun da1 H1 locs1 ls1 v2 x2 e1 e2 hH1 hS1 hl1 => E da1 H1 locs1 ls1 v2 x2 c1 hH1 hS1 hl1 (by rw [e1]; exact hb1) (by rw [e1]; exact hm))
  by_cases z75 : z = 75
  · refine lv_tableIn (tgt := 3992) hx hb dL_law_44 (by rw [z75]; decide) (by rw [z75]; decide) (by rw [z75]; rfl) (by decide) ?_
    obtain ⟨c1, ho, hb1, hm⟩ := cs_75 (i := i) (xs := xs) (x := x) hI hn hK hc
    exact lc_75 hst X hN hX hbl hbA hi hH hS hl ho (fun da1 H1 locs1 ls1 v2 x2 e1 e2 hH1 hS1 hl1 => E da1 H1 locs1 ls1 v2 x2 c1 hH1 hS1 hl1 (by rw [e1]; exact hb1) (by rw [e1]; exact hm))
  have hz : z.toInt < 0 ∨ 75 < z.toInt := by
    have hne : ∀ k : Nat, k < 76 → z.toInt ≠ k := by
      intro k hk q
      have hk2 : z = Int32.ofNat k := Int32.toInt_inj.mp (q.trans (show (Int32.ofNat k).toInt = (k : Int) from nI_toInt (by omega)).symm)
      have key : ∀ k : Nat, k < 76 → z ≠ Int32.ofNat k := by
        intro k hk
        match k, hk with
        | 0, _ => exact z0
        | 1, _ => exact z1
        | 2, _ => exact z2
        | 3, _ => exact z3
        | 4, _ => exact z4
        | 5, _ => exact z5
        | 6, _ => exact z6
        | 7, _ => exact z7
        | 8, _ => exact z8
        | 9, _ => exact z9
        | 10, _ => exact z10
        | 11, _ => exact z11
        | 12, _ => exact z12
        | 13, _ => exact z13
        | 14, _ => exact z14
        | 15, _ => exact z15
        | 16, _ => exact z16
        | 17, _ => exact z17
        | 18, _ => exact z18
        | 19, _ => exact z19
        | 20, _ => exact z20
        | 21, _ => exact z21
        | 22, _ => exact z22
        | 23, _ => exact z23
        | 24, _ => exact z24
        | 25, _ => exact z25
        | 26, _ => exact z26
        | 27, _ => exact z27
        | 28, _ => exact z28
        | 29, _ => exact z29
        | 30, _ => exact z30
        | 31, _ => exact z31
        | 32, _ => exact z32
        | 33, _ => exact z33
        | 34, _ => exact z34
        | 35, _ => exact z35
        | 36, _ => exact z36
        | 37, _ => exact z37
        | 38, _ => exact z38
        | 39, _ => exact z39
        | 40, _ => exact z40
        | 41, _ => exact z41
        | 42, _ => exact z42
        | 43, _ => exact z43
        | 44, _ => exact z44
        | 45, _ => exact z45
        | 46, _ => exact z46
        | 47, _ => exact z47
        | 48, _ => exact z48
        | 49, _ => exact z49
        | 50, _ => exact z50
        | 51, _ => exact z51
        | 52, _ => exact z52
        | 53, _ => exact z53
        | 54, _ => exact z54
        | 55, _ => exact z55
        | 56, _ => exact z56
        | 57, _ => exact z57
        | 58, _ => exact z58
        | 59, _ => exact z59
        | 60, _ => exact z60
        | 61, _ => exact z61
        | 62, _ => exact z62
        | 63, _ => exact z63
        | 64, _ => exact z64
        | 65, _ => exact z65
        | 66, _ => exact z66
        | 67, _ => exact z67
        | 68, _ => exact z68
        | 69, _ => exact z69
        | 70, _ => exact z70
        | 71, _ => exact z71
        | 72, _ => exact z72
        | 73, _ => exact z73
        | 74, _ => exact z74
        | 75, _ => exact z75
        | k + 76, h => exact absurd h (by omega)
      exact key k hk hk2
    refine Decidable.byContradiction (fun q => ?_)
    exact hne z.toInt.toNat (by omega) (by omega)
  refine lv_tableOut (tgt := 4036) hx hb dL_law_44 hz (by decide) ?_
  exact E da H locs ls v x c0 hH hS hl (by omega) ⟨m0, hI.mono⟩
theorem law_loop {p : Program} {l : Launch} {e : Env} {s : State} {m : MethodId} {args : Array Value} {below : List Frame} {meth : Method} {c : Code} {Q : State → Prop} {G : gG} (hst : l.stackTraces = false) (X : CX G p s m args c cL_law 8 RL) (hN : NC s) {b L : Nat} {xs : Nat → Int32} (hX : va_X b L xs s s.heap) (hbl : b < s.heap.size) (hbA : ¬ gA G b) (hL : L ≤ 2560) {K : Nat} (hK : K ≤ 268012)
    (E : ∀ (H1 : Heap) (locs1 : List Loc) (ls1 : Array Slot) (c1 : Nat), c1 ≤ 601024 → va_S (gA G) s.heap H1 locs1 → W p l e room_1 s m args below meth c H1 locs1 c1 c1 Q (F0 m 4042 ls1 [])) :
    ∀ (k n m0 : Nat) (c0 : Nat) (H : Heap) (locs : List Loc) (ls : Array Slot) (da : Nat → Nat) (v : vSt) (x : gX), L < 5 * n + k → n ≤ 512 → Inv n m0 v → c0 ≤ K + pot v + 36 * n → Hp G da v x H → va_S (gA G) s.heap H locs → lv_has ls 8 [(0, .ref b), (1, .ref (ga G 448)), (2, .ref (ga G 461)), (3, .ref (ga G 468)), (4, .ref (ga G 469)), (5, .int (Int32.ofNat (5 * n)))] → W p l e room_1 s m args below meth c H locs c0 c0 Q (F0 m 28 ls []) := by
  have hx := X.1
  have hb := X.2.1
  intro k
  induction k with
  | zero =>
    intro n m0 c0 H locs ls da v x hk hn hI hc hH hS hl
    refine law_head hx hb hX hbl hbA hL hn hS hl (fun _ => E H locs ls c0 (law_rm hI hK hn hc) hS) (fun h => ?_)
    omega
  | succ k ih =>
    intro n m0 c0 H locs ls da v x hk hn hI hc hH hS hl
    refine law_head hx hb hX hbl hbA hL hn hS hl (fun _ => E H locs ls c0 (law_rm hI hK hn hc) hS) (fun h => ?_)
    have hnn : (Int32.ofNat (5 * n)).toInt = ((5 * n : Nat) : Int) := nI_toInt (by omega)
    have hi : 0 ≤ (Int32.ofNat (5 * n)).toInt ∧ (Int32.ofNat (5 * n)).toInt + 5 ≤ (L : Int) ∧ L ≤ 2560 := by rw [hnn]; omega
    refine lv_aload_n hx hb dL_law_37 rfl (lv_at hl 0 rfl) ?_
    refine lv_iload hx hb dL_law_38 (lv_at hl 5 rfl) ?_
    refine va_sld hx hb hX hbl hbA hS (i_in hi.1 (by omega)) dL_law_40 ?_
    refine lv_bipush (v := 127) hx hb dL_law_41 (by decide) ?_
    refine lv_iand hx hb dL_law_43 ?_
    refine law_disp hst X hN hX hbl hbA hi hI (by omega) hK hc hH hS hl (fun da1 H1 locs1 ls1 v2 x2 c1 hH1 hS1 hl1 hc1 hm => ?_)
    obtain ⟨m', hI1⟩ := hm
    refine lv_iinc (v := Int32.ofNat (5 * (n + 1))) (lv' := [(5, .int (Int32.ofNat (5 * (n + 1)))), (0, .ref b), (1, .ref (ga G 448)), (2, .ref (ga G 461)), (3, .ref (ga G 468)), (4, .ref (ga G 469))]) hx hb dL_law_4036 hl1 (k := 5) rfl (law_i5 n) (by decide) rfl (fun ls2 hl2 => ?_)
    refine lv_goto (tgt := 28) hx hb dL_law_4039 (by decide) ?_
    exact ih (n + 1) m' c1 H1 locs1 ls2 da1 v2 x2 (by omega) (by omega) hI1 hc1 hH1 hS1 (lv_sub hl2 [1, 2, 3, 4, 5, 0] rfl)
