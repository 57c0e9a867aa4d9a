/-! VernierDrawers$PieceType: arrays that are sorted, shifted, cloned. -/
def fX10_append (n1 : Nat) (f1 : Nat → Int32) (p1 : Int32) (p2 : Int32) : Int32 × (Nat → Int32) := let qy1 : Int32 × (Nat → Int32) := (if ((if Int32.ofNat n1 < p1 then Int32.ofNat n1 else p1 : Int32) : Int32) = (Int32.ofNat n1) then (if ((if Int32.ofNat n1 < p1 then Int32.ofNat n1 else p1 : Int32) : Int32) ≤ 0 then (((if Int32.ofNat n1 < p1 then Int32.ofNat n1 else p1 : Int32), f1)) else (let g6 : (Nat → Int32) := va_cpy f1 f1 (1 : Int32).toNatClampNeg (0 : Int32).toNatClampNeg ((Int32.ofNat n1) - 1 : Int32).toNatClampNeg; ((if Int32.ofNat n1 < p1 then Int32.ofNat n1 else p1 : Int32) + (-1), g6))) else (((if Int32.ofNat n1 < p1 then Int32.ofNat n1 else p1 : Int32), f1)) : Int32 × (Nat → Int32)); let y1 := qy1.1; let g2 := qy1.2; if ((fX10_inRange y1 0 ((Int32.ofNat n1) - 1)) : Int32) = 0 then ((y1, g2)) else (let g6 : (Nat → Int32) := upd g2 (y1 : Int32).toNatClampNeg p2; (y1 + 1, g6))
def oX10_append (n1 : Nat) (f1 : Nat → Int32) (p1 : Int32) (p2 : Int32) : Prop := ((((if Int32.ofNat n1 < p1 then Int32.ofNat n1 else p1 : Int32) : Int32) = (Int32.ofNat n1)) → (¬ (((if Int32.ofNat n1 < p1 then Int32.ofNat n1 else p1 : Int32) : Int32) ≤ 0) → (cpOK (1) (0) ((Int32.ofNat n1) - 1) n1 n1))) ∧ (∀ (y1 : Int32) (g2 : (Nat → Int32)), y1 = ((if ((if Int32.ofNat n1 < p1 then Int32.ofNat n1 else p1 : Int32) : Int32) = (Int32.ofNat n1) then (if ((if Int32.ofNat n1 < p1 then Int32.ofNat n1 else p1 : Int32) : Int32) ≤ 0 then (((if Int32.ofNat n1 < p1 then Int32.ofNat n1 else p1 : Int32), f1)) else (let g6 : (Nat → Int32) := va_cpy f1 f1 (1 : Int32).toNatClampNeg (0 : Int32).toNatClampNeg ((Int32.ofNat n1) - 1 : Int32).toNatClampNeg; ((if Int32.ofNat n1 < p1 then Int32.ofNat n1 else p1 : Int32) + (-1), g6))) else (((if Int32.ofNat n1 < p1 then Int32.ofNat n1 else p1 : Int32), f1)) : Int32 × (Nat → Int32)) : Int32 × (Nat → Int32)).1 → g2 = ((if ((if Int32.ofNat n1 < p1 then Int32.ofNat n1 else p1 : Int32) : Int32) = (Int32.ofNat n1) then (if ((if Int32.ofNat n1 < p1 then Int32.ofNat n1 else p1 : Int32) : Int32) ≤ 0 then (((if Int32.ofNat n1 < p1 then Int32.ofNat n1 else p1 : Int32), f1)) else (let g6 : (Nat → Int32) := va_cpy f1 f1 (1 : Int32).toNatClampNeg (0 : Int32).toNatClampNeg ((Int32.ofNat n1) - 1 : Int32).toNatClampNeg; ((if Int32.ofNat n1 < p1 then Int32.ofNat n1 else p1 : Int32) + (-1), g6))) else (((if Int32.ofNat n1 < p1 then Int32.ofNat n1 else p1 : Int32), f1)) : Int32 × (Nat → Int32)) : Int32 × (Nat → Int32)).2 → (¬ (((fX10_inRange y1 0 ((Int32.ofNat n1) - 1)) : Int32) = 0) → (vp_in (y1) n1)))
abbrev rmX10_append : Room := { frames := 1, cells := 0, slots := 0, locals := 40 }
theorem dX10_append_0 : decode cX10_append 0 = .ok (.iload_n 1, 1) := by decide +kernel
theorem dX10_append_1 : decode cX10_append 1 = .ok (.aload_n 0, 1) := by decide +kernel
theorem dX10_append_2 : decode cX10_append 2 = .ok (.arraylength, 1) := by decide +kernel
theorem dX10_append_3 : decode cX10_append 3 = .ok (.invokestatic 492, 3) := by decide +kernel
theorem dX10_append_6 : decode cX10_append 6 = .ok (.istore_n 3, 1) := by decide +kernel
theorem dX10_append_7 : decode cX10_append 7 = .ok (.iload_n 3, 1) := by decide +kernel
theorem dX10_append_8 : decode cX10_append 8 = .ok (.aload_n 0, 1) := by decide +kernel
theorem dX10_append_9 : decode cX10_append 9 = .ok (.arraylength, 1) := by decide +kernel
theorem dX10_append_10 : decode cX10_append 10 = .ok (.if_icmp .ne 21, 3) := by decide +kernel
theorem dX10_append_13 : decode cX10_append 13 = .ok (.iload_n 3, 1) := by decide +kernel
theorem dX10_append_14 : decode cX10_append 14 = .ok (.ifCond .le 17, 3) := by decide +kernel
theorem dX10_append_17 : decode cX10_append 17 = .ok (.aload_n 0, 1) := by decide +kernel
theorem dX10_append_18 : decode cX10_append 18 = .ok (.iconst 1, 1) := by decide +kernel
theorem dX10_append_19 : decode cX10_append 19 = .ok (.aload_n 0, 1) := by decide +kernel
theorem dX10_append_20 : decode cX10_append 20 = .ok (.iconst 0, 1) := by decide +kernel
theorem dX10_append_21 : decode cX10_append 21 = .ok (.aload_n 0, 1) := by decide +kernel
theorem dX10_append_22 : decode cX10_append 22 = .ok (.arraylength, 1) := by decide +kernel
theorem dX10_append_23 : decode cX10_append 23 = .ok (.iconst 1, 1) := by decide +kernel
theorem dX10_append_24 : decode cX10_append 24 = .ok (.isub, 1) := by decide +kernel
theorem dX10_append_25 : decode cX10_append 25 = .ok (.invokestatic 495, 3) := by decide +kernel
theorem dX10_append_28 : decode cX10_append 28 = .ok (.iinc 3 (-1), 3) := by decide +kernel
theorem dX10_append_31 : decode cX10_append 31 = .ok (.iload_n 3, 1) := by decide +kernel
theorem dX10_append_32 : decode cX10_append 32 = .ok (.iconst 0, 1) := by decide +kernel
theorem dX10_append_33 : decode cX10_append 33 = .ok (.aload_n 0, 1) := by decide +kernel
theorem dX10_append_34 : decode cX10_append 34 = .ok (.arraylength, 1) := by decide +kernel
theorem dX10_append_35 : decode cX10_append 35 = .ok (.iconst 1, 1) := by decide +kernel
theorem dX10_append_36 : decode cX10_append 36 = .ok (.isub, 1) := by decide +kernel
theorem dX10_append_37 : decode cX10_append 37 = .ok (.invokestatic 49, 3) := by decide +kernel
theorem dX10_append_40 : decode cX10_append 40 = .ok (.ifCond .eq 10, 3) := by decide +kernel
theorem dX10_append_43 : decode cX10_append 43 = .ok (.aload_n 0, 1) := by decide +kernel
theorem dX10_append_44 : decode cX10_append 44 = .ok (.iload_n 3, 1) := by decide +kernel
theorem dX10_append_45 : decode cX10_append 45 = .ok (.iload_n 2, 1) := by decide +kernel
theorem dX10_append_46 : decode cX10_append 46 = .ok (.iastore, 1) := by decide +kernel
theorem dX10_append_47 : decode cX10_append 47 = .ok (.iinc 3 1, 3) := by decide +kernel
theorem dX10_append_50 : decode cX10_append 50 = .ok (.iload_n 3, 1) := by decide +kernel
theorem dX10_append_51 : decode cX10_append 51 = .ok (.ireturn, 1) := by decide +kernel
set_option maxHeartbeats 8000000 in
set_option maxRecDepth 100000 in
theorem mX10_append (l : Launch) (G : gG) (a1 n1 : Nat) (f1 : Nat → Int32) (p1 : Int32) (p2 : Int32) (hn1 : n1 < 2 ^ 31) (ho : oX10_append n1 f1 p1 p2) : AI l yX10_append cX10_append 4 rmX10_append [.ref a1, .int p1, .int p2] G a1 n1 f1 (fX10_append n1 f1 p1 p2).1 (fX10_append n1 f1 p1 p2).2 := by
  refine gofAI (own := RX10) (by decide) rfl (Nat.le_of_ble_eq_true rfl) (fun p e s m args below meth c ls Q X hg hH hl E => ?_)
  have hx := X.1
  have hb := X.2.1
  have hown := X.2.2.2.1
  have hts := X.2.2.2.2.1
  have hS : va_S (fun q => q = a1) s.heap s.heap [] := va_S.rf
  unfold oX10_append at ho
  have hl : lv_has ls 4 [(0, .ref a1), (1, .int p1), (2, .int p2)] := hl
  refine lv_iload_n hx hb dX10_append_0 rfl (lv_at hl 1 rfl) ?_
  refine lv_aload_n hx hb dX10_append_1 rfl (lv_at hl 0 rfl) ?_
  refine IA.len hx hb (lAr.ia X.2.2.2.2.2.1 hH hn1) dX10_append_2 ?_
  refine k_mmin X t_ml_VernierDrawers_492 hl.1 ⟨Nat.le_of_ble_eq_true rfl, Nat.le_of_ble_eq_true rfl⟩ ⟨Nat.zero_le _, Nat.zero_le _⟩ dX10_append_3 ?_
  refine lv_istore_n (lv' := [(3, .int (if Int32.ofNat n1 < p1 then Int32.ofNat n1 else p1 : Int32)), (0, .ref a1), (1, .int p1), (2, .int p2)]) hx hb dX10_append_6 rfl hl (by decide) rfl (fun ls hl => ?_)
  refine lv_iload_n hx hb dX10_append_7 rfl (lv_at hl 0 rfl) ?_
  refine lv_aload_n hx hb dX10_append_8 rfl (lv_at hl 1 rfl) ?_
  refine IA.len hx hb (lAr.ia X.2.2.2.2.2.1 hH hn1) dX10_append_9 ?_
  have K3 : ∀ (y1 : Int32) (g2 : (Nat → Int32)) (H : Heap) (locs : List Loc) (ls : Array Slot), y1 = (if ((if Int32.ofNat n1 < p1 then Int32.ofNat n1 else p1 : Int32) : Int32) = (Int32.ofNat n1) then (if ((if Int32.ofNat n1 < p1 then Int32.ofNat n1 else p1 : Int32) : Int32) ≤ 0 then (((if Int32.ofNat n1 < p1 then Int32.ofNat n1 else p1 : Int32), f1)) else (let g6 : (Nat → Int32) := va_cpy f1 f1 (1 : Int32).toNatClampNeg (0 : Int32).toNatClampNeg ((Int32.ofNat n1) - 1 : Int32).toNatClampNeg; ((if Int32.ofNat n1 < p1 then Int32.ofNat n1 else p1 : Int32) + (-1), g6))) else (((if Int32.ofNat n1 < p1 then Int32.ofNat n1 else p1 : Int32), f1)) : Int32 × (Nat → Int32)).1 → g2 = (if ((if Int32.ofNat n1 < p1 then Int32.ofNat n1 else p1 : Int32) : Int32) = (Int32.ofNat n1) then (if ((if Int32.ofNat n1 < p1 then Int32.ofNat n1 else p1 : Int32) : Int32) ≤ 0 then (((if Int32.ofNat n1 < p1 then Int32.ofNat n1 else p1 : Int32), f1)) else (let g6 : (Nat → Int32) := va_cpy f1 f1 (1 : Int32).toNatClampNeg (0 : Int32).toNatClampNeg ((Int32.ofNat n1) - 1 : Int32).toNatClampNeg; ((if Int32.ofNat n1 < p1 then Int32.ofNat n1 else p1 : Int32) + (-1), g6))) else (((if Int32.ofNat n1 < p1 then Int32.ofNat n1 else p1 : Int32), f1)) : Int32 × (Nat → Int32)).2 → lAr G a1 n1 g2 H → va_S (fun q => q = a1) s.heap H locs → lv_has ls 4 [(3, .int y1), (0, .ref a1), (2, .int p2)] → W p l e rmX10_append s m args below meth c H locs 0 0 Q (F0 m 31 ls []) := by
    intro y1 g2 H locs ls ey1 eg2 hH hS hl
    have ho := ho.2 y1 g2 ey1 eg2
    refine lv_iload_n hx hb dX10_append_31 rfl (lv_at hl 0 rfl) ?_
    refine lv_iconst (v := 0) hx hb dX10_append_32 (by decide) ?_
    refine lv_aload_n hx hb dX10_append_33 rfl (lv_at hl 1 rfl) ?_
    refine IA.len hx hb (lAr.ia X.2.2.2.2.2.1 hH hn1) dX10_append_34 ?_
    refine lv_iconst (v := 1) hx hb dX10_append_35 (by decide) ?_
    refine lv_isub hx hb dX10_append_36 ?_
    refine k_X10_inRange X (va_S_wk hS (fun q h => h ▸ hg))  t_ml_VernierDrawers_49 hl.1 (Nat.le_of_ble_eq_true rfl) ⟨Nat.le_of_ble_eq_true rfl, Nat.le_of_ble_eq_true rfl⟩ ⟨Nat.zero_le _, Nat.zero_le _⟩ dX10_append_37 ?_
    refine lv_if_eq (tgt := 50) hx hb dX10_append_40 (by decide) (fun c4 => ?_) (fun c4 => ?_)
    · skip
      refine lv_iload_n hx hb dX10_append_50 rfl (lv_at hl 0 rfl) ?_
      replace ey1 := Eq.symm ey1
      replace eg2 := Eq.symm eg2
      subst ey1 eg2
      exact E _ _ _ _ _ _ dX10_append_51 (pr1 ((fX10_append.eq_1 _ _ _ _).trans ((if_pos c4).trans rfl))) (pr2 ((fX10_append.eq_1 _ _ _ _).trans ((if_pos c4).trans rfl))) hH hS
    · have ho := ho c4
      refine lv_aload_n hx hb dX10_append_43 rfl (lv_at hl 1 rfl) ?_
      refine lv_iload_n hx hb dX10_append_44 rfl (lv_at hl 0 rfl) ?_
      refine lv_iload_n hx hb dX10_append_45 rfl (lv_at hl 2 rfl) ?_
      have hq5 := ho
      refine a_ast X hH hS hq5 dX10_append_46 (fun H locs g6 eg6 hH hS => ?_)
      refine lv_iinc (v := y1 + 1) (lv' := [(3, .int (y1 + 1)), (0, .ref a1), (2, .int p2)]) hx hb dX10_append_47 hl (k := 0) rfl rfl (by decide) rfl (fun ls hl => ?_)
      refine lv_iload_n hx hb dX10_append_50 rfl (lv_at hl 0 rfl) ?_
      replace ey1 := Eq.symm ey1
      replace eg2 := Eq.symm eg2
      replace eg6 := Eq.symm eg6
      subst ey1 eg2 eg6
      exact E _ _ _ _ _ _ dX10_append_51 (pr1 ((fX10_append.eq_1 _ _ _ _).trans ((if_neg c4).trans rfl))) (pr2 ((fX10_append.eq_1 _ _ _ _).trans ((if_neg c4).trans rfl))) hH hS
  have ho := ho.1
  refine lv_icmp_ne (tgt := 31) hx hb dX10_append_10 (by decide) (fun c3 => ?_) (fun c3 => ?_)
  · skip
    exact K3 _ _ _ _ _ (pr1 ((if_neg c3).trans rfl)) (pr2 ((if_neg c3).trans rfl)) hH hS (lv_sub hl [0, 1, 3] rfl)
  · have ho := ho c3
    refine lv_iload_n hx hb dX10_append_13 rfl (lv_at hl 0 rfl) ?_
    refine lv_if_le (tgt := 31) hx hb dX10_append_14 (by decide) (fun c4 => ?_) (fun c4 => ?_)
    · skip
      exact K3 _ _ _ _ _ (pr1 ((if_pos c3).trans ((if_pos c4).trans rfl))) (pr2 ((if_pos c3).trans ((if_pos c4).trans rfl))) hH hS (lv_sub hl [0, 1, 3] rfl)
    · have ho := ho c4
      refine lv_aload_n hx hb dX10_append_17 rfl (lv_at hl 1 rfl) ?_
      refine lv_iconst (v := 1) hx hb dX10_append_18 (by decide) ?_
      refine lv_aload_n hx hb dX10_append_19 rfl (lv_at hl 1 rfl) ?_
      refine lv_iconst (v := 0) hx hb dX10_append_20 (by decide) ?_
      refine lv_aload_n hx hb dX10_append_21 rfl (lv_at hl 1 rfl) ?_
      refine IA.len hx hb (lAr.ia X.2.2.2.2.2.1 hH hn1) dX10_append_22 ?_
      refine lv_iconst (v := 1) hx hb dX10_append_23 (by decide) ?_
      refine lv_isub hx hb dX10_append_24 ?_
      have hq5 := ho
      refine a_cpy X hH hS t_ml_VernierDrawers_495 hl.1 hq5 ⟨Nat.le_of_ble_eq_true rfl, Nat.le_of_ble_eq_true rfl⟩ dX10_append_25 (fun H locs g6 eg6 hH hS => ?_)
      refine lv_iinc (v := (if Int32.ofNat n1 < p1 then Int32.ofNat n1 else p1 : Int32) + (-1)) (lv' := [(3, .int ((if Int32.ofNat n1 < p1 then Int32.ofNat n1 else p1 : Int32) + (-1))), (0, .ref a1), (1, .int p1), (2, .int p2)]) hx hb dX10_append_28 hl (k := 0) rfl rfl (by decide) rfl (fun ls hl => ?_)
      replace eg6 := Eq.symm eg6
      subst eg6
      exact K3 _ _ _ _ _ (pr1 ((if_pos c3).trans ((if_neg c4).trans rfl))) (pr2 ((if_pos c3).trans ((if_neg c4).trans rfl))) hH hS (lv_sub hl [0, 1, 3] rfl)
theorem kn_X10_append {p : Program} {l : Launch} {e : Env} {R : Room} {s : State} {m : MethodId} {args : Array Value} {below : List Frame} {meth : Method} {c : Code} {H : Heap} {locs : List Loc} {cells slots : Nat} {Q : State → Prop} {cc : ByteArray} {pc nL : Nat} {ls : Array Slot} {rest : List Value} {G : gG} {own : String} (X : CX G p s m args c cc nL own) (hS : va_S (gA G) s.heap H locs) {a1 n1 : Nat} {f1 : Nat → Int32} (hia : lAr G a1 n1 f1 H) {p1 : Int32} {p2 : Int32} (hn1 : n1 < 2 ^ 31) (ho : oX10_append n1 f1 p1 p2) {idx : Nat} (hml : Cond.methodLinkNest own idx yX10_append "VernierDrawers" ∈ lw_tbl) (hls : ls.size = nL) (hsum : (rest.map fun v => v.category).sum ≤ 8) (hR : rmX10_append.frames + 1 ≤ R.frames ∧ 8 + (4 + 11) + rmX10_append.locals ≤ R.locals) (hcs : cells ≤ R.cells ∧ slots ≤ R.slots) (hdg : decode cc pc = .ok (.invokestatic idx, 3)) (hag : gb G ≤ a1) (hA : gA G a1) (kk : ∀ (H1 : Heap) (locs1 : List Loc) (f2 : Nat → Int32), f2 = (fX10_append n1 f1 p1 p2).2 → lAr G a1 n1 f2 H1 → (∀ q : Nat, q < H.size → q ≠ a1 → H1[q]? = H[q]?) → H.size ≤ H1.size → va_S (gA G) s.heap H1 locs1 → W p l e R s m args below meth c H1 locs1 cells slots Q (F0 m (pc + 3) ls (.int (fX10_append n1 f1 p1 p2).1 :: rest))) : W p l e R s m args below meth c H locs cells slots Q (F0 m pc ls (.int p2 :: .int p1 :: .ref a1 :: rest)) := c_ai (runN (k := 3) X.1 X.2.1 X.2.2.1 X.2.2.2.1 X.2.2.2.2.1 (mX10_append l G a1 n1 f1 p1 p2 hn1 ho) pL_bl (X.2.2.2.2.2.1.2.2.1 _ hml rfl) t_st_X10_append t_ini_VernierDrawers t_code_X10_append ⟨by decide, by decide, by decide +kernel⟩ rfl rfl hR hcs (a_pre X hS hia hag) rfl hls rfl hsum hdg) hS hA kk
def lX4_sort_20 (i1 : Int32) (g2 : (Nat → Int32)) : Nat → Int32 → (Nat → Int32) → Int32 × (Nat → Int32)
  | 0, i6, g7 => (i6, g7)
  | n + 1, i6, g7 => if (i6 : Int32) ≤ 0 then ((i6, g7)) else (if ((g7 (i6 - 1 : Int32).toNatClampNeg) : Int32) ≤ (g2 (i1 : Int32).toNatClampNeg) then ((i6, g7)) else (let g12 : (Nat → Int32) := upd g7 (i6 : Int32).toNatClampNeg (g7 (i6 - 1 : Int32).toNatClampNeg); lX4_sort_20 i1 g2 n (i6 + (-1)) g12))
def olX4_sort_20 (n1 : Nat) (i1 : Int32) (g2 : (Nat → Int32)) : Nat → Int32 → (Nat → Int32) → Prop
  | 0, _, _ => False
  | n + 1, i6, g7 => ¬ ((i6 : Int32) ≤ 0) → ((vp_in (i6 - 1) n1) ∧ (¬ (((g7 (i6 - 1 : Int32).toNatClampNeg) : Int32) ≤ (g2 (i1 : Int32).toNatClampNeg)) → ((vp_in (i6) n1) ∧ (∀ g12 : (Nat → Int32), g12 = (upd g7 (i6 : Int32).toNatClampNeg (g7 (i6 - 1 : Int32).toNatClampNeg)) → (olX4_sort_20 n1 i1 g2 n (i6 + (-1)) g12)))))
def lX4_sort_2 (n1 : Nat) (p1 : Int32) : Nat → Int32 → (Nat → Int32) → (Nat → Int32)
  | 0, i1, g2 => g2
  | n + 1, i1, g2 => if (p1 : Int32) ≤ i1 then g2 else (if ((Int32.ofNat n1) : Int32) ≤ i1 then g2 else (let qy8 : Int32 × (Nat → Int32) := (lX4_sort_20 i1 g2 (13) i1 g2); let y8 := qy8.1; let g9 := qy8.2; let g14 : (Nat → Int32) := upd g9 (y8 : Int32).toNatClampNeg (g2 (i1 : Int32).toNatClampNeg); lX4_sort_2 n1 p1 n (i1 + 1) g14))
def olX4_sort_2 (n1 : Nat) (p1 : Int32) : Nat → Int32 → (Nat → Int32) → Prop
  | 0, _, _ => False
  | n + 1, i1, g2 => ¬ ((p1 : Int32) ≤ i1) → (¬ (((Int32.ofNat n1) : Int32) ≤ i1) → ((vp_in (i1) n1) ∧ (olX4_sort_20 n1 i1 g2 (13) i1 g2 ∧ (∀ (y8 : Int32) (g9 : (Nat → Int32)), y8 = ((lX4_sort_20 i1 g2 (13) i1 g2) : Int32 × (Nat → Int32)).1 → g9 = ((lX4_sort_20 i1 g2 (13) i1 g2) : Int32 × (Nat → Int32)).2 → ((vp_in (y8) n1) ∧ (∀ g14 : (Nat → Int32), g14 = (upd g9 (y8 : Int32).toNatClampNeg (g2 (i1 : Int32).toNatClampNeg)) → (olX4_sort_2 n1 p1 n (i1 + 1) g14)))))))
def fX4_sort (n1 : Nat) (f1 : Nat → Int32) (p1 : Int32) : (Nat → Int32) := let g3 : (Nat → Int32) := (lX4_sort_2 n1 p1 ((Int32.toInt (p1) - Int32.toInt 1).toNat + 1) 1 f1); g3
def oX4_sort (n1 : Nat) (f1 : Nat → Int32) (p1 : Int32) : Prop := olX4_sort_2 n1 p1 ((Int32.toInt (p1) - Int32.toInt 1).toNat + 1) 1 f1
abbrev rmX4_sort : Room := { frames := 0, cells := 0, slots := 0, locals := 0 }
theorem dX4_sort_0 : decode cX4_sort 0 = .ok (.iconst 1, 1) := by decide +kernel
theorem dX4_sort_1 : decode cX4_sort 1 = .ok (.istore_n 2, 1) := by decide +kernel
theorem dX4_sort_2 : decode cX4_sort 2 = .ok (.iload_n 2, 1) := by decide +kernel
theorem dX4_sort_3 : decode cX4_sort 3 = .ok (.iload_n 1, 1) := by decide +kernel
theorem dX4_sort_4 : decode cX4_sort 4 = .ok (.if_icmp .ge 58, 3) := by decide +kernel
theorem dX4_sort_7 : decode cX4_sort 7 = .ok (.iload_n 2, 1) := by decide +kernel
theorem dX4_sort_8 : decode cX4_sort 8 = .ok (.aload_n 0, 1) := by decide +kernel
theorem dX4_sort_9 : decode cX4_sort 9 = .ok (.arraylength, 1) := by decide +kernel
theorem dX4_sort_10 : decode cX4_sort 10 = .ok (.if_icmp .ge 52, 3) := by decide +kernel
theorem dX4_sort_13 : decode cX4_sort 13 = .ok (.aload_n 0, 1) := by decide +kernel
theorem dX4_sort_14 : decode cX4_sort 14 = .ok (.iload_n 2, 1) := by decide +kernel
theorem dX4_sort_15 : decode cX4_sort 15 = .ok (.iaload, 1) := by decide +kernel
theorem dX4_sort_16 : decode cX4_sort 16 = .ok (.istore_n 3, 1) := by decide +kernel
theorem dX4_sort_17 : decode cX4_sort 17 = .ok (.iload_n 2, 1) := by decide +kernel
theorem dX4_sort_18 : decode cX4_sort 18 = .ok (.istore 4, 2) := by decide +kernel
theorem dX4_sort_20 : decode cX4_sort 20 = .ok (.iload 4, 2) := by decide +kernel
theorem dX4_sort_22 : decode cX4_sort 22 = .ok (.ifCond .le 29, 3) := by decide +kernel
theorem dX4_sort_25 : decode cX4_sort 25 = .ok (.aload_n 0, 1) := by decide +kernel
theorem dX4_sort_26 : decode cX4_sort 26 = .ok (.iload 4, 2) := by decide +kernel
theorem dX4_sort_28 : decode cX4_sort 28 = .ok (.iconst 1, 1) := by decide +kernel
theorem dX4_sort_29 : decode cX4_sort 29 = .ok (.isub, 1) := by decide +kernel
theorem dX4_sort_30 : decode cX4_sort 30 = .ok (.iaload, 1) := by decide +kernel
theorem dX4_sort_31 : decode cX4_sort 31 = .ok (.iload_n 3, 1) := by decide +kernel
theorem dX4_sort_32 : decode cX4_sort 32 = .ok (.if_icmp .le 19, 3) := by decide +kernel
theorem dX4_sort_35 : decode cX4_sort 35 = .ok (.aload_n 0, 1) := by decide +kernel
theorem dX4_sort_36 : decode cX4_sort 36 = .ok (.iload 4, 2) := by decide +kernel
theorem dX4_sort_38 : decode cX4_sort 38 = .ok (.aload_n 0, 1) := by decide +kernel
theorem dX4_sort_39 : decode cX4_sort 39 = .ok (.iload 4, 2) := by decide +kernel
theorem dX4_sort_41 : decode cX4_sort 41 = .ok (.iconst 1, 1) := by decide +kernel
theorem dX4_sort_42 : decode cX4_sort 42 = .ok (.isub, 1) := by decide +kernel
theorem dX4_sort_43 : decode cX4_sort 43 = .ok (.iaload, 1) := by decide +kernel
theorem dX4_sort_44 : decode cX4_sort 44 = .ok (.iastore, 1) := by decide +kernel
theorem dX4_sort_45 : decode cX4_sort 45 = .ok (.iinc 4 (-1), 3) := by decide +kernel
theorem dX4_sort_48 : decode cX4_sort 48 = .ok (.goto (-28), 3) := by decide +kernel
theorem dX4_sort_51 : decode cX4_sort 51 = .ok (.aload_n 0, 1) := by decide +kernel
theorem dX4_sort_52 : decode cX4_sort 52 = .ok (.iload 4, 2) := by decide +kernel
theorem dX4_sort_54 : decode cX4_sort 54 = .ok (.iload_n 3, 1) := by decide +kernel
theorem dX4_sort_55 : decode cX4_sort 55 = .ok (.iastore, 1) := by decide +kernel
theorem dX4_sort_56 : decode cX4_sort 56 = .ok (.iinc 2 1, 3) := by decide +kernel
theorem dX4_sort_59 : decode cX4_sort 59 = .ok (.goto (-57), 3) := by decide +kernel
theorem dX4_sort_62 : decode cX4_sort 62 = .ok (.return_, 1) := by decide +kernel
set_option maxHeartbeats 8000000 in
set_option maxRecDepth 100000 in
theorem mX4_sort (l : Launch) (G : gG) (a1 n1 : Nat) (f1 : Nat → Int32) (p1 : Int32) (hn1 : n1 < 2 ^ 31) (ho : oX4_sort n1 f1 p1) : AV l yX4_sort cX4_sort 5 rmX4_sort [.ref a1, .int p1] G a1 n1 f1 (fX4_sort n1 f1 p1) := by
  refine gofAV (own := RX4) (by decide) rfl (Nat.le_of_ble_eq_true rfl) (fun p e s m args below meth c ls Q X hg hH hl E => ?_)
  have hx := X.1
  have hb := X.2.1
  have hown := X.2.2.2.1
  have hts := X.2.2.2.2.1
  have hS : va_S (fun q => q = a1) s.heap s.heap [] := va_S.rf
  unfold oX4_sort at ho
  have hl : lv_has ls 5 [(0, .ref a1), (1, .int p1)] := hl
  refine lv_iconst (v := 1) hx hb dX4_sort_0 (by decide) ?_
  refine lv_istore_n (lv' := [(2, .int 1), (0, .ref a1), (1, .int p1)]) hx hb dX4_sort_1 rfl hl (by decide) rfl (fun ls hl => ?_)
  have L4 : ∀ (n : Nat) (i1 : Int32) (g2 : (Nat → Int32)) (H : Heap) (locs : List Loc) (ls : Array Slot), olX4_sort_2 n1 p1 n i1 g2 → lAr G a1 n1 g2 H → va_S (fun q => q = a1) s.heap H locs → lv_has ls 5 [(2, .int i1), (0, .ref a1), (1, .int p1)] → (∀ (g3 : (Nat → Int32)) (H : Heap) (locs : List Loc) (ls : Array Slot), g3 = (lX4_sort_2 n1 p1 n i1 g2 : (Nat → Int32)) → lAr G a1 n1 g3 H → va_S (fun q => q = a1) s.heap H locs → lv_has ls 5 [] → W p l e rmX4_sort s m args below meth c H locs 0 0 Q (F0 m 62 ls [])) → W p l e rmX4_sort s m args below meth c H locs 0 0 Q (F0 m 2 ls []) := by
    clear ho
    intro n
    induction n with
    | zero =>
      intro i1 g2 H locs ls ho
      exact ho.elim
    | succ n ih =>
      intro i1 g2 H locs ls ho hH hS hl K5
      refine lv_iload_n hx hb dX4_sort_2 rfl (lv_at hl 0 rfl) ?_
      refine lv_iload_n hx hb dX4_sort_3 rfl (lv_at hl 2 rfl) ?_
      refine lv_icmp_ge (tgt := 62) hx hb dX4_sort_4 (by decide) (fun c3 => ?_) (fun c3 => ?_)
      · skip
        exact K5 _ _ _ _ (Eq.symm (((lX4_sort_2.eq_2 _ _ _ _ _)).trans ((if_pos c3).trans rfl))) hH hS (lv_sub hl [] rfl)
      · have ho := ho c3
        refine lv_iload_n hx hb dX4_sort_7 rfl (lv_at hl 0 rfl) ?_
        refine lv_aload_n hx hb dX4_sort_8 rfl (lv_at hl 1 rfl) ?_
        refine IA.len hx hb (lAr.ia X.2.2.2.2.2.1 hH hn1) dX4_sort_9 ?_
        refine lv_icmp_ge (tgt := 62) hx hb dX4_sort_10 (by decide) (fun c4 => ?_) (fun c4 => ?_)
        · skip
          exact K5 _ _ _ _ (Eq.symm (((lX4_sort_2.eq_2 _ _ _ _ _)).trans ((if_neg c3).trans ((if_pos c4).trans rfl)))) hH hS (lv_sub hl [] rfl)
        · have ho := ho c4
          refine lv_aload_n hx hb dX4_sort_13 rfl (lv_at hl 1 rfl) ?_
          refine lv_iload_n hx hb dX4_sort_14 rfl (lv_at hl 0 rfl) ?_
          have hq5 := ho.1
          have ho := ho.2
          refine IA.ald hx hb (lAr.ia X.2.2.2.2.2.1 hH hn1) (ia_in hq5 (IA.lt31 (lAr.ia X.2.2.2.2.2.1 hH hn1))).1 (ia_in hq5 (IA.lt31 (lAr.ia X.2.2.2.2.2.1 hH hn1))).2 dX4_sort_15 ?_
          refine lv_istore_n (lv' := [(3, .int (g2 (i1 : Int32).toNatClampNeg)), (2, .int i1), (0, .ref a1), (1, .int p1)]) hx hb dX4_sort_16 rfl hl (by decide) rfl (fun ls hl => ?_)
          refine lv_iload_n hx hb dX4_sort_17 rfl (lv_at hl 1 rfl) ?_
          refine lv_istore (lv' := [(4, .int i1), (3, .int (g2 (i1 : Int32).toNatClampNeg)), (2, .int i1), (0, .ref a1), (1, .int p1)]) hx hb dX4_sort_18 hl (by decide) rfl (fun ls hl => ?_)
          have L10 : ∀ (n : Nat) (i6 : Int32) (g7 : (Nat → Int32)) (H : Heap) (locs : List Loc) (ls : Array Slot), olX4_sort_20 n1 i1 g2 n i6 g7 → lAr G a1 n1 g7 H → va_S (fun q => q = a1) s.heap H locs → lv_has ls 5 [(4, .int i6), (3, .int (g2 (i1 : Int32).toNatClampNeg)), (2, .int i1), (0, .ref a1), (1, .int p1)] → (∀ (y8 : Int32) (g9 : (Nat → Int32)) (H : Heap) (locs : List Loc) (ls : Array Slot), y8 = (lX4_sort_20 i1 g2 n i6 g7 : Int32 × (Nat → Int32)).1 → g9 = (lX4_sort_20 i1 g2 n i6 g7 : Int32 × (Nat → Int32)).2 → lAr G a1 n1 g9 H → va_S (fun q => q = a1) s.heap H locs → lv_has ls 5 [(4, .int y8), (3, .int (g2 (i1 : Int32).toNatClampNeg)), (2, .int i1), (0, .ref a1), (1, .int p1)] → W p l e rmX4_sort s m args below meth c H locs 0 0 Q (F0 m 51 ls [])) → W p l e rmX4_sort s m args below meth c H locs 0 0 Q (F0 m 20 ls []) := by
            clear ho
            intro n
            induction n with
            | zero =>
              intro i6 g7 H locs ls ho
              exact ho.elim
            | succ n ih =>
              intro i6 g7 H locs ls ho hH hS hl K11
              refine lv_iload hx hb dX4_sort_20 (lv_at hl 0 rfl) ?_
              refine lv_if_le (tgt := 51) hx hb dX4_sort_22 (by decide) (fun c8 => ?_) (fun c8 => ?_)
              · skip
                exact K11 _ _ _ _ _ (pr1 (((lX4_sort_20.eq_2 _ _ _ _ _)).trans ((if_pos c8).trans rfl))) (pr2 (((lX4_sort_20.eq_2 _ _ _ _ _)).trans ((if_pos c8).trans rfl))) hH hS (lv_sub hl [0, 1, 2, 3, 4] rfl)
              · have ho := ho c8
                refine lv_aload_n hx hb dX4_sort_25 rfl (lv_at hl 3 rfl) ?_
                refine lv_iload hx hb dX4_sort_26 (lv_at hl 0 rfl) ?_
                refine lv_iconst (v := 1) hx hb dX4_sort_28 (by decide) ?_
                refine lv_isub hx hb dX4_sort_29 ?_
                have hq9 := ho.1
                have ho := ho.2
                refine IA.ald hx hb (lAr.ia X.2.2.2.2.2.1 hH hn1) (ia_in hq9 (IA.lt31 (lAr.ia X.2.2.2.2.2.1 hH hn1))).1 (ia_in hq9 (IA.lt31 (lAr.ia X.2.2.2.2.2.1 hH hn1))).2 dX4_sort_30 ?_
                refine lv_iload_n hx hb dX4_sort_31 rfl (lv_at hl 1 rfl) ?_
                refine lv_icmp_le (tgt := 51) hx hb dX4_sort_32 (by decide) (fun c10 => ?_) (fun c10 => ?_)
                · skip
                  exact K11 _ _ _ _ _ (pr1 (((lX4_sort_20.eq_2 _ _ _ _ _)).trans ((if_neg c8).trans ((if_pos c10).trans rfl)))) (pr2 (((lX4_sort_20.eq_2 _ _ _ _ _)).trans ((if_neg c8).trans ((if_pos c10).trans rfl)))) hH hS (lv_sub hl [0, 1, 2, 3, 4] rfl)
                · have ho := ho c10
                  refine lv_aload_n hx hb dX4_sort_35 rfl (lv_at hl 3 rfl) ?_
                  refine lv_iload hx hb dX4_sort_36 (lv_at hl 0 rfl) ?_
                  refine lv_aload_n hx hb dX4_sort_38 rfl (lv_at hl 3 rfl) ?_
                  refine lv_iload hx hb dX4_sort_39 (lv_at hl 0 rfl) ?_
                  refine lv_iconst (v := 1) hx hb dX4_sort_41 (by decide) ?_
                  refine lv_isub hx hb dX4_sort_42 ?_
                  refine IA.ald hx hb (lAr.ia X.2.2.2.2.2.1 hH hn1) (ia_in hq9 (IA.lt31 (lAr.ia X.2.2.2.2.2.1 hH hn1))).1 (ia_in hq9 (IA.lt31 (lAr.ia X.2.2.2.2.2.1 hH hn1))).2 dX4_sort_43 ?_
                  have hq11 := ho.1
                  have ho := ho.2
                  refine a_ast X hH hS hq11 dX4_sort_44 (fun H locs g12 eg12 hH hS => ?_)
                  have ho := ho g12 eg12
                  refine lv_iinc (v := i6 + (-1)) (lv' := [(4, .int (i6 + (-1))), (3, .int (g2 (i1 : Int32).toNatClampNeg)), (2, .int i1), (0, .ref a1), (1, .int p1)]) hx hb dX4_sort_45 hl (k := 0) rfl rfl (by decide) rfl (fun ls hl => ?_)
                  refine lv_goto (tgt := 20) hx hb dX4_sort_48 (by decide) ?_
                  replace eg12 := Eq.symm eg12
                  subst eg12
                  exact ih _ _ _ _ _ ho hH hS (lv_sub hl [0, 1, 2, 3, 4] rfl) (fun y8 g9 H locs ls q0 q1 hH hS hl => K11 y8 g9 H locs ls (q0.trans (congrArg (fun z : Int32 × (Nat → Int32) => z.1) (Eq.symm (((lX4_sort_20.eq_2 _ _ _ _ _)).trans ((if_neg c8).trans ((if_neg c10).trans rfl)))))) (q1.trans (congrArg (fun z : Int32 × (Nat → Int32) => z.2) (Eq.symm (((lX4_sort_20.eq_2 _ _ _ _ _)).trans ((if_neg c8).trans ((if_neg c10).trans rfl)))))) hH hS hl)
          have hol := ho.1
          refine L10 (13) i1 g2 _ _ _ hol hH hS (lv_sub hl [0, 1, 2, 3, 4] rfl) (fun y8 g9 H locs ls ey8 eg9 hH hS hl => ?_)
          have ho := ho.2 y8 g9 ey8 eg9
          refine lv_aload_n hx hb dX4_sort_51 rfl (lv_at hl 3 rfl) ?_
          refine lv_iload hx hb dX4_sort_52 (lv_at hl 0 rfl) ?_
          refine lv_iload_n hx hb dX4_sort_54 rfl (lv_at hl 1 rfl) ?_
          have hq13 := ho.1
          have ho := ho.2
          refine a_ast X hH hS hq13 dX4_sort_55 (fun H locs g14 eg14 hH hS => ?_)
          have ho := ho g14 eg14
          refine lv_iinc (v := i1 + 1) (lv' := [(2, .int (i1 + 1)), (4, .int y8), (3, .int (g2 (i1 : Int32).toNatClampNeg)), (0, .ref a1), (1, .int p1)]) hx hb dX4_sort_56 hl (k := 2) rfl rfl (by decide) rfl (fun ls hl => ?_)
          refine lv_goto (tgt := 2) hx hb dX4_sort_59 (by decide) ?_
          replace ey8 := Eq.symm ey8
          replace eg9 := Eq.symm eg9
          replace eg14 := Eq.symm eg14
          subst ey8 eg9 eg14
          exact ih _ _ _ _ _ ho hH hS (lv_sub hl [0, 3, 4] rfl) (fun g3 H locs ls q0 hH hS hl => K5 g3 H locs ls (q0.trans (congrArg (fun z : (Nat → Int32) => z) (Eq.symm (((lX4_sort_2.eq_2 _ _ _ _ _)).trans ((if_neg c3).trans ((if_neg c4).trans rfl)))))) hH hS hl)
  have hol := ho
  refine L4 ((Int32.toInt (p1) - Int32.toInt 1).toNat + 1) 1 f1 _ _ _ hol hH hS (lv_sub hl [0, 1, 2] rfl) (fun g3 H locs ls eg3 hH hS hl => ?_)
  replace eg3 := Eq.symm eg3
  subst eg3
  exact E _ _ _ _ _ dX4_sort_62 (Eq.symm rfl) hH hS
theorem k_X4_sort {p : Program} {l : Launch} {e : Env} {R : Room} {s : State} {m : MethodId} {args : Array Value} {below : List Frame} {meth : Method} {c : Code} {H : Heap} {locs : List Loc} {cells slots : Nat} {Q : State → Prop} {cc : ByteArray} {pc nL : Nat} {ls : Array Slot} {rest : List Value} {G : gG} {own : String} (X : CX G p s m args c cc nL own) (hS : va_S (gA G) s.heap H locs) {a1 n1 : Nat} {f1 : Nat → Int32} (hia : lAr G a1 n1 f1 H) {p1 : Int32} (hn1 : n1 < 2 ^ 31) (ho : oX4_sort n1 f1 p1) {idx : Nat} (hml : Cond.methodLink own idx yX4_sort ∈ TT) (hls : ls.size = nL) (hsum : (rest.map fun v => v.category).sum ≤ 8) (hR : rmX4_sort.frames + 1 ≤ R.frames ∧ 8 + (5 + 11) + rmX4_sort.locals ≤ R.locals) (hcs : cells ≤ R.cells ∧ slots ≤ R.slots) (hdg : decode cc pc = .ok (.invokestatic idx, 3)) (hag : gb G ≤ a1) (hA : gA G a1) (kk : ∀ (H1 : Heap) (locs1 : List Loc) (f2 : Nat → Int32), f2 = fX4_sort n1 f1 p1 → lAr G a1 n1 f2 H1 → (∀ q : Nat, q < H.size → q ≠ a1 → H1[q]? = H[q]?) → H.size ≤ H1.size → va_S (gA G) s.heap H1 locs1 → W p l e R s m args below meth c H1 locs1 cells slots Q (F0 m (pc + 3) ls (rest))) : W p l e R s m args below meth c H locs cells slots Q (F0 m pc ls (.int p1 :: .ref a1 :: rest)) := c_av (runS (k := 2) X.1 X.2.1 X.2.2.1 X.2.2.2.1 X.2.2.2.2.1 (mX4_sort l G a1 n1 f1 p1 hn1 ho) pL_bl hml t_st_X4_sort t_ini_PieceType t_code_X4_sort ⟨by decide, by decide, by decide +kernel⟩ rfl rfl hR hcs (a_pre X hS hia hag) rfl hls rfl hsum hdg) hS hA kk
def lX4_take_6 (n1 : Nat) (p2 : Int32) : Nat → Int32 → (Nat → Int32) → (Nat → Int32)
  | 0, i1, g2 => g2
  | n + 1, i1, g2 => if ((p2 - 1) : Int32) ≤ i1 then g2 else (if (((Int32.ofNat n1) - 1) : Int32) ≤ i1 then g2 else (let g7 : (Nat → Int32) := upd g2 (i1 : Int32).toNatClampNeg (g2 (i1 + 1 : Int32).toNatClampNeg); lX4_take_6 n1 p2 n (i1 + 1) g7))
def olX4_take_6 (n1 : Nat) (p2 : Int32) : Nat → Int32 → (Nat → Int32) → Prop
  | 0, _, _ => False
  | n + 1, i1, g2 => ¬ (((p2 - 1) : Int32) ≤ i1) → (¬ ((((Int32.ofNat n1) - 1) : Int32) ≤ i1) → ((vp_in (i1 + 1) n1) ∧ ((vp_in (i1) n1) ∧ (∀ g7 : (Nat → Int32), g7 = (upd g2 (i1 : Int32).toNatClampNeg (g2 (i1 + 1 : Int32).toNatClampNeg)) → (olX4_take_6 n1 p2 n (i1 + 1) g7)))))
def fX4_take (n1 : Nat) (f1 : Nat → Int32) (p1 : Int32) (p2 : Int32) : (Nat → Int32) := let g3 : (Nat → Int32) := (lX4_take_6 n1 p2 ((Int32.toInt ((p2 - 1)) - Int32.toInt (if 0 < p1 then p1 else 0 : Int32)).toNat + 1) (if 0 < p1 then p1 else 0 : Int32) f1); g3
def oX4_take (n1 : Nat) (f1 : Nat → Int32) (p1 : Int32) (p2 : Int32) : Prop := olX4_take_6 n1 p2 ((Int32.toInt ((p2 - 1)) - Int32.toInt (if 0 < p1 then p1 else 0 : Int32)).toNat + 1) (if 0 < p1 then p1 else 0 : Int32) f1
abbrev rmX4_take : Room := { frames := 1, cells := 0, slots := 0, locals := 21 }
theorem dX4_take_0 : decode cX4_take 0 = .ok (.iconst 0, 1) := by decide +kernel
theorem dX4_take_1 : decode cX4_take 1 = .ok (.iload_n 1, 1) := by decide +kernel
theorem dX4_take_2 : decode cX4_take 2 = .ok (.invokestatic 71, 3) := by decide +kernel
theorem dX4_take_5 : decode cX4_take 5 = .ok (.istore_n 3, 1) := by decide +kernel
theorem dX4_take_6 : decode cX4_take 6 = .ok (.iload_n 3, 1) := by decide +kernel
theorem dX4_take_7 : decode cX4_take 7 = .ok (.iload_n 2, 1) := by decide +kernel
theorem dX4_take_8 : decode cX4_take 8 = .ok (.iconst 1, 1) := by decide +kernel
theorem dX4_take_9 : decode cX4_take 9 = .ok (.isub, 1) := by decide +kernel
theorem dX4_take_10 : decode cX4_take 10 = .ok (.if_icmp .ge 25, 3) := by decide +kernel
theorem dX4_take_13 : decode cX4_take 13 = .ok (.iload_n 3, 1) := by decide +kernel
theorem dX4_take_14 : decode cX4_take 14 = .ok (.aload_n 0, 1) := by decide +kernel
theorem dX4_take_15 : decode cX4_take 15 = .ok (.arraylength, 1) := by decide +kernel
theorem dX4_take_16 : decode cX4_take 16 = .ok (.iconst 1, 1) := by decide +kernel
theorem dX4_take_17 : decode cX4_take 17 = .ok (.isub, 1) := by decide +kernel
theorem dX4_take_18 : decode cX4_take 18 = .ok (.if_icmp .ge 17, 3) := by decide +kernel
theorem dX4_take_21 : decode cX4_take 21 = .ok (.aload_n 0, 1) := by decide +kernel
theorem dX4_take_22 : decode cX4_take 22 = .ok (.iload_n 3, 1) := by decide +kernel
theorem dX4_take_23 : decode cX4_take 23 = .ok (.aload_n 0, 1) := by decide +kernel
theorem dX4_take_24 : decode cX4_take 24 = .ok (.iload_n 3, 1) := by decide +kernel
theorem dX4_take_25 : decode cX4_take 25 = .ok (.iconst 1, 1) := by decide +kernel
theorem dX4_take_26 : decode cX4_take 26 = .ok (.iadd, 1) := by decide +kernel
theorem dX4_take_27 : decode cX4_take 27 = .ok (.iaload, 1) := by decide +kernel
theorem dX4_take_28 : decode cX4_take 28 = .ok (.iastore, 1) := by decide +kernel
theorem dX4_take_29 : decode cX4_take 29 = .ok (.iinc 3 1, 3) := by decide +kernel
theorem dX4_take_32 : decode cX4_take 32 = .ok (.goto (-26), 3) := by decide +kernel
theorem dX4_take_35 : decode cX4_take 35 = .ok (.return_, 1) := by decide +kernel
set_option maxHeartbeats 8000000 in
set_option maxRecDepth 100000 in
theorem mX4_take (l : Launch) (G : gG) (a1 n1 : Nat) (f1 : Nat → Int32) (p1 : Int32) (p2 : Int32) (hn1 : n1 < 2 ^ 31) (ho : oX4_take n1 f1 p1 p2) : AV l yX4_take cX4_take 4 rmX4_take [.ref a1, .int p1, .int p2] G a1 n1 f1 (fX4_take n1 f1 p1 p2) := by
  refine gofAV (own := RX4) (by decide) rfl (Nat.le_of_ble_eq_true rfl) (fun p e s m args below meth c ls Q X hg hH hl E => ?_)
  have hx := X.1
  have hb := X.2.1
  have hown := X.2.2.2.1
  have hts := X.2.2.2.2.1
  have hS : va_S (fun q => q = a1) s.heap s.heap [] := va_S.rf
  unfold oX4_take at ho
  have hl : lv_has ls 4 [(0, .ref a1), (1, .int p1), (2, .int p2)] := hl
  refine lv_iconst (v := 0) hx hb dX4_take_0 (by decide) ?_
  refine lv_iload_n hx hb dX4_take_1 rfl (lv_at hl 1 rfl) ?_
  refine k_mmax X t_ml_PieceType_71 hl.1 ⟨Nat.le_of_ble_eq_true rfl, Nat.le_of_ble_eq_true rfl⟩ ⟨Nat.zero_le _, Nat.zero_le _⟩ dX4_take_2 ?_
  refine lv_istore_n (lv' := [(3, .int (if 0 < p1 then p1 else 0 : Int32)), (0, .ref a1), (1, .int p1), (2, .int p2)]) hx hb dX4_take_5 rfl hl (by decide) rfl (fun ls hl => ?_)
  have L4 : ∀ (n : Nat) (i1 : Int32) (g2 : (Nat → Int32)) (H : Heap) (locs : List Loc) (ls : Array Slot), olX4_take_6 n1 p2 n i1 g2 → lAr G a1 n1 g2 H → va_S (fun q => q = a1) s.heap H locs → lv_has ls 4 [(3, .int i1), (0, .ref a1), (2, .int p2)] → (∀ (g3 : (Nat → Int32)) (H : Heap) (locs : List Loc) (ls : Array Slot), g3 = (lX4_take_6 n1 p2 n i1 g2 : (Nat → Int32)) → lAr G a1 n1 g3 H → va_S (fun q => q = a1) s.heap H locs → lv_has ls 4 [] → W p l e rmX4_take s m args below meth c H locs 0 0 Q (F0 m 35 ls [])) → W p l e rmX4_take s m args below meth c H locs 0 0 Q (F0 m 6 ls []) := by
    clear ho
    intro n
    induction n with
    | zero =>
      intro i1 g2 H locs ls ho
      exact ho.elim
    | succ n ih =>
      intro i1 g2 H locs ls ho hH hS hl K5
      refine lv_iload_n hx hb dX4_take_6 rfl (lv_at hl 0 rfl) ?_
      refine lv_iload_n hx hb dX4_take_7 rfl (lv_at hl 2 rfl) ?_
      refine lv_iconst (v := 1) hx hb dX4_take_8 (by decide) ?_
      refine lv_isub hx hb dX4_take_9 ?_
      refine lv_icmp_ge (tgt := 35) hx hb dX4_take_10 (by decide) (fun c3 => ?_) (fun c3 => ?_)
      · skip
        exact K5 _ _ _ _ (Eq.symm (((lX4_take_6.eq_2 _ _ _ _ _)).trans ((if_pos c3).trans rfl))) hH hS (lv_sub hl [] rfl)
      · have ho := ho c3
        refine lv_iload_n hx hb dX4_take_13 rfl (lv_at hl 0 rfl) ?_
        refine lv_aload_n hx hb dX4_take_14 rfl (lv_at hl 1 rfl) ?_
        refine IA.len hx hb (lAr.ia X.2.2.2.2.2.1 hH hn1) dX4_take_15 ?_
        refine lv_iconst (v := 1) hx hb dX4_take_16 (by decide) ?_
        refine lv_isub hx hb dX4_take_17 ?_
        refine lv_icmp_ge (tgt := 35) hx hb dX4_take_18 (by decide) (fun c4 => ?_) (fun c4 => ?_)
        · skip
          exact K5 _ _ _ _ (Eq.symm (((lX4_take_6.eq_2 _ _ _ _ _)).trans ((if_neg c3).trans ((if_pos c4).trans rfl)))) hH hS (lv_sub hl [] rfl)
        · have ho := ho c4
          refine lv_aload_n hx hb dX4_take_21 rfl (lv_at hl 1 rfl) ?_
          refine lv_iload_n hx hb dX4_take_22 rfl (lv_at hl 0 rfl) ?_
          refine lv_aload_n hx hb dX4_take_23 rfl (lv_at hl 1 rfl) ?_
          refine lv_iload_n hx hb dX4_take_24 rfl (lv_at hl 0 rfl) ?_
          refine lv_iconst (v := 1) hx hb dX4_take_25 (by decide) ?_
          refine lv_iadd hx hb dX4_take_26 ?_
          have hq5 := ho.1
          have ho := ho.2
          refine IA.ald hx hb (lAr.ia X.2.2.2.2.2.1 hH hn1) (ia_in hq5 (IA.lt31 (lAr.ia X.2.2.2.2.2.1 hH hn1))).1 (ia_in hq5 (IA.lt31 (lAr.ia X.2.2.2.2.2.1 hH hn1))).2 dX4_take_27 ?_
          have hq6 := ho.1
          have ho := ho.2
          refine a_ast X hH hS hq6 dX4_take_28 (fun H locs g7 eg7 hH hS => ?_)
          have ho := ho g7 eg7
          refine lv_iinc (v := i1 + 1) (lv' := [(3, .int (i1 + 1)), (0, .ref a1), (2, .int p2)]) hx hb dX4_take_29 hl (k := 0) rfl rfl (by decide) rfl (fun ls hl => ?_)
          refine lv_goto (tgt := 6) hx hb dX4_take_32 (by decide) ?_
          replace eg7 := Eq.symm eg7
          subst eg7
          exact ih _ _ _ _ _ ho hH hS (lv_sub hl [0, 1, 2] rfl) (fun g3 H locs ls q0 hH hS hl => K5 g3 H locs ls (q0.trans (congrArg (fun z : (Nat → Int32) => z) (Eq.symm (((lX4_take_6.eq_2 _ _ _ _ _)).trans ((if_neg c3).trans ((if_neg c4).trans rfl)))))) hH hS hl)
  have hol := ho
  refine L4 ((Int32.toInt ((p2 - 1)) - Int32.toInt (if 0 < p1 then p1 else 0 : Int32)).toNat + 1) (if 0 < p1 then p1 else 0 : Int32) f1 _ _ _ hol hH hS (lv_sub hl [0, 1, 3] rfl) (fun g3 H locs ls eg3 hH hS hl => ?_)
  replace eg3 := Eq.symm eg3
  subst eg3
  exact E _ _ _ _ _ dX4_take_35 (Eq.symm rfl) hH hS
theorem k_X4_take {p : Program} {l : Launch} {e : Env} {R : Room} {s : State} {m : MethodId} {args : Array Value} {below : List Frame} {meth : Method} {c : Code} {H : Heap} {locs : List Loc} {cells slots : Nat} {Q : State → Prop} {cc : ByteArray} {pc nL : Nat} {ls : Array Slot} {rest : List Value} {G : gG} {own : String} (X : CX G p s m args c cc nL own) (hS : va_S (gA G) s.heap H locs) {a1 n1 : Nat} {f1 : Nat → Int32} (hia : lAr G a1 n1 f1 H) {p1 : Int32} {p2 : Int32} (hn1 : n1 < 2 ^ 31) (ho : oX4_take n1 f1 p1 p2) {idx : Nat} (hml : Cond.methodLink own idx yX4_take ∈ TT) (hls : ls.size = nL) (hsum : (rest.map fun v => v.category).sum ≤ 8) (hR : rmX4_take.frames + 1 ≤ R.frames ∧ 8 + (4 + 11) + rmX4_take.locals ≤ R.locals) (hcs : cells ≤ R.cells ∧ slots ≤ R.slots) (hdg : decode cc pc = .ok (.invokestatic idx, 3)) (hag : gb G ≤ a1) (hA : gA G a1) (kk : ∀ (H1 : Heap) (locs1 : List Loc) (f2 : Nat → Int32), f2 = fX4_take n1 f1 p1 p2 → lAr G a1 n1 f2 H1 → (∀ q : Nat, q < H.size → q ≠ a1 → H1[q]? = H[q]?) → H.size ≤ H1.size → va_S (gA G) s.heap H1 locs1 → W p l e R s m args below meth c H1 locs1 cells slots Q (F0 m (pc + 3) ls (rest))) : W p l e R s m args below meth c H locs cells slots Q (F0 m pc ls (.int p2 :: .int p1 :: .ref a1 :: rest)) := c_av (runS (k := 3) X.1 X.2.1 X.2.2.1 X.2.2.2.1 X.2.2.2.2.1 (mX4_take l G a1 n1 f1 p1 p2 hn1 ho) pL_bl hml t_st_X4_take t_ini_PieceType t_code_X4_take ⟨by decide, by decide, by decide +kernel⟩ rfl rfl hR hcs (a_pre X hS hia hag) rfl hls rfl hsum hdg) hS hA kk
def lX4_placeOfLeast_4 (n1 : Nat) (f1 : (Nat → Int32)) (p1 : Int32) : Nat → Int32 → Int32 → Int32
  | 0, i1, i2 => i2
  | n + 1, i1, i2 => if (p1 : Int32) ≤ i1 then i2 else (let y4 : Int32 := (if ((fX10_entry n1 f1 i2) : Int32) ≤ (fX10_entry n1 f1 i1) then i2 else i1 : Int32); lX4_placeOfLeast_4 n1 f1 p1 n (i1 + 1) y4)
def olX4_placeOfLeast_4 (n1 : Nat) (f1 : (Nat → Int32)) (p1 : Int32) : Nat → Int32 → Int32 → Prop
  | 0, _, _ => False
  | n + 1, i1, i2 => ¬ ((p1 : Int32) ≤ i1) → ((∀ (y4 : Int32), y4 = ((if ((fX10_entry n1 f1 i2) : Int32) ≤ (fX10_entry n1 f1 i1) then i2 else i1 : Int32) : Int32) → (olX4_placeOfLeast_4 n1 f1 p1 n (i1 + 1) y4)))
def fX4_placeOfLeast (n1 : Nat) (f1 : Nat → Int32) (p1 : Int32) : Int32 := let y3 : Int32 := (lX4_placeOfLeast_4 n1 f1 p1 ((Int32.toInt (p1) - Int32.toInt 1).toNat + 1) 1 0); y3
def oX4_placeOfLeast (n1 : Nat) (f1 : Nat → Int32) (p1 : Int32) : Prop := olX4_placeOfLeast_4 n1 f1 p1 ((Int32.toInt (p1) - Int32.toInt 1).toNat + 1) 1 0
abbrev rmX4_placeOfLeast : Room := { frames := 1, cells := 0, slots := 0, locals := 21 }
theorem dX4_placeOfLeast_0 : decode cX4_placeOfLeast 0 = .ok (.iconst 0, 1) := by decide +kernel
theorem dX4_placeOfLeast_1 : decode cX4_placeOfLeast 1 = .ok (.istore_n 2, 1) := by decide +kernel
theorem dX4_placeOfLeast_2 : decode cX4_placeOfLeast 2 = .ok (.iconst 1, 1) := by decide +kernel
theorem dX4_placeOfLeast_3 : decode cX4_placeOfLeast 3 = .ok (.istore_n 3, 1) := by decide +kernel
theorem dX4_placeOfLeast_4 : decode cX4_placeOfLeast 4 = .ok (.iload_n 3, 1) := by decide +kernel
theorem dX4_placeOfLeast_5 : decode cX4_placeOfLeast 5 = .ok (.iload_n 1, 1) := by decide +kernel
theorem dX4_placeOfLeast_6 : decode cX4_placeOfLeast 6 = .ok (.if_icmp .ge 24, 3) := by decide +kernel
theorem dX4_placeOfLeast_9 : decode cX4_placeOfLeast 9 = .ok (.aload_n 0, 1) := by decide +kernel
theorem dX4_placeOfLeast_10 : decode cX4_placeOfLeast 10 = .ok (.iload_n 3, 1) := by decide +kernel
theorem dX4_placeOfLeast_11 : decode cX4_placeOfLeast 11 = .ok (.invokestatic 75, 3) := by decide +kernel
theorem dX4_placeOfLeast_14 : decode cX4_placeOfLeast 14 = .ok (.aload_n 0, 1) := by decide +kernel
theorem dX4_placeOfLeast_15 : decode cX4_placeOfLeast 15 = .ok (.iload_n 2, 1) := by decide +kernel
theorem dX4_placeOfLeast_16 : decode cX4_placeOfLeast 16 = .ok (.invokestatic 75, 3) := by decide +kernel
theorem dX4_placeOfLeast_19 : decode cX4_placeOfLeast 19 = .ok (.if_icmp .ge 5, 3) := by decide +kernel
theorem dX4_placeOfLeast_22 : decode cX4_placeOfLeast 22 = .ok (.iload_n 3, 1) := by decide +kernel
theorem dX4_placeOfLeast_23 : decode cX4_placeOfLeast 23 = .ok (.istore_n 2, 1) := by decide +kernel
theorem dX4_placeOfLeast_24 : decode cX4_placeOfLeast 24 = .ok (.iinc 3 1, 3) := by decide +kernel
theorem dX4_placeOfLeast_27 : decode cX4_placeOfLeast 27 = .ok (.goto (-23), 3) := by decide +kernel
theorem dX4_placeOfLeast_30 : decode cX4_placeOfLeast 30 = .ok (.iload_n 2, 1) := by decide +kernel
theorem dX4_placeOfLeast_31 : decode cX4_placeOfLeast 31 = .ok (.ireturn, 1) := by decide +kernel
set_option maxHeartbeats 8000000 in
set_option maxRecDepth 100000 in
theorem mX4_placeOfLeast (l : Launch) (G : gG) (a1 n1 : Nat) (f1 : Nat → Int32) (p1 : Int32) (ho : oX4_placeOfLeast n1 f1 p1) : PI l yX4_placeOfLeast cX4_placeOfLeast 4 (some .int) rmX4_placeOfLeast [.ref a1, .int p1] G (fun U => IA a1 n1 f1 U U.heap) (fX4_placeOfLeast n1 f1 p1) := by
  refine gofP (own := RX4) (by decide) rfl (Nat.le_of_ble_eq_true rfl) (fun p e s m args below meth c ls Q X hia hl E => ?_)
  have hx := X.1
  have hb := X.2.1
  have hown := X.2.2.2.1
  have hts := X.2.2.2.2.1
  have hS : va_S (gA G) s.heap s.heap [] := va_S.rf
  unfold oX4_placeOfLeast at ho
  have hl : lv_has ls 4 [(0, .ref a1), (1, .int p1)] := hl
  refine lv_iconst (v := 0) hx hb dX4_placeOfLeast_0 (by decide) ?_
  refine lv_istore_n (lv' := [(2, .int 0), (0, .ref a1), (1, .int p1)]) hx hb dX4_placeOfLeast_1 rfl hl (by decide) rfl (fun ls hl => ?_)
  refine lv_iconst (v := 1) hx hb dX4_placeOfLeast_2 (by decide) ?_
  refine lv_istore_n (lv' := [(3, .int 1), (2, .int 0), (0, .ref a1), (1, .int p1)]) hx hb dX4_placeOfLeast_3 rfl hl (by decide) rfl (fun ls hl => ?_)
  have L4 : ∀ (n : Nat) (i1 : Int32) (i2 : Int32) (ls : Array Slot), olX4_placeOfLeast_4 n1 f1 p1 n i1 i2 → lv_has ls 4 [(3, .int i1), (2, .int i2), (0, .ref a1), (1, .int p1)] → (∀ (y3 : Int32) (ls : Array Slot), y3 = (lX4_placeOfLeast_4 n1 f1 p1 n i1 i2 : Int32) → lv_has ls 4 [(2, .int y3)] → W p l e rmX4_placeOfLeast s m args below meth c s.heap [] 0 0 Q (F0 m 30 ls [])) → W p l e rmX4_placeOfLeast s m args below meth c s.heap [] 0 0 Q (F0 m 4 ls []) := by
    clear ho
    intro n
    induction n with
    | zero =>
      intro i1 i2 ls ho
      exact ho.elim
    | succ n ih =>
      intro i1 i2 ls ho hl K5
      refine lv_iload_n hx hb dX4_placeOfLeast_4 rfl (lv_at hl 0 rfl) ?_
      refine lv_iload_n hx hb dX4_placeOfLeast_5 rfl (lv_at hl 3 rfl) ?_
      refine lv_icmp_ge (tgt := 30) hx hb dX4_placeOfLeast_6 (by decide) (fun c3 => ?_) (fun c3 => ?_)
      · skip
        exact K5 _ _ (Eq.symm (((lX4_placeOfLeast_4.eq_2 _ _ _ _ _ _)).trans ((if_pos c3).trans rfl))) (lv_sub hl [1] rfl)
      · have ho := ho c3
        refine lv_aload_n hx hb dX4_placeOfLeast_9 rfl (lv_at hl 2 rfl) ?_
        refine lv_iload_n hx hb dX4_placeOfLeast_10 rfl (lv_at hl 0 rfl) ?_
        refine kn_X10_entry X hS hia t_mn_PieceType_75 hl.1 (Nat.le_of_ble_eq_true rfl) ⟨Nat.le_of_ble_eq_true rfl, Nat.le_of_ble_eq_true rfl⟩ ⟨Nat.zero_le _, Nat.zero_le _⟩ dX4_placeOfLeast_11 ?_
        refine lv_aload_n hx hb dX4_placeOfLeast_14 rfl (lv_at hl 2 rfl) ?_
        refine lv_iload_n hx hb dX4_placeOfLeast_15 rfl (lv_at hl 1 rfl) ?_
        refine kn_X10_entry X hS hia t_mn_PieceType_75 hl.1 (Nat.le_of_ble_eq_true rfl) ⟨Nat.le_of_ble_eq_true rfl, Nat.le_of_ble_eq_true rfl⟩ ⟨Nat.zero_le _, Nat.zero_le _⟩ dX4_placeOfLeast_16 ?_
        have K5 : ∀ (y4 : Int32) (ls : Array Slot), y4 = (if ((fX10_entry n1 f1 i2) : Int32) ≤ (fX10_entry n1 f1 i1) then i2 else i1 : Int32) → lv_has ls 4 [(3, .int i1), (2, .int y4), (0, .ref a1), (1, .int p1)] → W p l e rmX4_placeOfLeast s m args below meth c s.heap [] 0 0 Q (F0 m 24 ls []) := by
          intro y4 ls ey4 hl
          have ho := ho y4 ey4
          refine lv_iinc (v := i1 + 1) (lv' := [(3, .int (i1 + 1)), (2, .int y4), (0, .ref a1), (1, .int p1)]) hx hb dX4_placeOfLeast_24 hl (k := 0) rfl rfl (by decide) rfl (fun ls hl => ?_)
          refine lv_goto (tgt := 4) hx hb dX4_placeOfLeast_27 (by decide) ?_
          replace ey4 := Eq.symm ey4
          subst ey4
          exact ih _ _ _ ho (lv_sub hl [0, 1, 2, 3] rfl) (fun y3 ls q0 hl => K5 y3 ls (q0.trans (congrArg (fun z : Int32 => z) (Eq.symm (((lX4_placeOfLeast_4.eq_2 _ _ _ _ _ _)).trans ((if_neg c3).trans rfl))))) hl)
        refine lv_icmp_ge (tgt := 24) hx hb dX4_placeOfLeast_19 (by decide) (fun c5 => ?_) (fun c5 => ?_)
        · skip
          exact K5 _ _ (Eq.symm ((if_pos c5).trans rfl)) (lv_sub hl [0, 1, 2, 3] rfl)
        · skip
          refine lv_iload_n hx hb dX4_placeOfLeast_22 rfl (lv_at hl 0 rfl) ?_
          refine lv_istore_n (lv' := [(2, .int i1), (3, .int i1), (0, .ref a1), (1, .int p1)]) hx hb dX4_placeOfLeast_23 rfl hl (by decide) rfl (fun ls hl => ?_)
          exact K5 _ _ (Eq.symm ((if_neg c5).trans rfl)) (lv_sub hl [1, 0, 2, 3] rfl)
  have hol := ho
  refine L4 ((Int32.toInt (p1) - Int32.toInt 1).toNat + 1) 1 0 _ hol (lv_sub hl [0, 1, 2, 3] rfl) (fun y3 ls ey3 hl => ?_)
  refine lv_iload_n hx hb dX4_placeOfLeast_30 rfl (lv_at hl 0 rfl) ?_
  replace ey3 := Eq.symm ey3
  subst ey3
  exact E _ _ _ dX4_placeOfLeast_31 rfl (Eq.symm rfl)
theorem k_X4_placeOfLeast {p : Program} {l : Launch} {e : Env} {R : Room} {s : State} {m : MethodId} {args : Array Value} {below : List Frame} {meth : Method} {c : Code} {H : Heap} {locs : List Loc} {cells slots : Nat} {Q : State → Prop} {cc : ByteArray} {pc nL : Nat} {ls : Array Slot} {rest : List Value} {G : gG} {own : String} (X : CX G p s m args c cc nL own) (hS : va_S (gA G) s.heap H locs) {a1 n1 : Nat} {f1 : Nat → Int32} (hia : IA a1 n1 f1 s H) {p1 : Int32} (ho : oX4_placeOfLeast n1 f1 p1) {idx : Nat} (hml : Cond.methodLink own idx yX4_placeOfLeast ∈ TT) (hls : ls.size = nL) (hsum : (rest.map fun v => v.category).sum ≤ 8) (hR : rmX4_placeOfLeast.frames + 1 ≤ R.frames ∧ 8 + (4 + 11) + rmX4_placeOfLeast.locals ≤ R.locals) (hcs : cells ≤ R.cells ∧ slots ≤ R.slots) (hdg : decode cc pc = .ok (.invokestatic idx, 3)) (kk : W p l e R s m args below meth c H locs cells slots Q (F0 m (pc + 3) ls (.int (fX4_placeOfLeast n1 f1 p1) :: rest))) : W p l e R s m args below meth c H locs cells slots Q (F0 m pc ls (.int p1 :: .ref a1 :: rest)) := c_qi (runS (k := 2) X.1 X.2.1 X.2.2.1 X.2.2.2.1 X.2.2.2.2.1 (mX4_placeOfLeast l G a1 n1 f1 p1 ho) (pT_bl (fun U g mk a h => IA.moved (U := U.calling g mk a) (Vm.Alike.refl U.vm) h)) hml t_st_X4_placeOfLeast t_ini_PieceType t_code_X4_placeOfLeast ⟨by decide, by decide, by decide +kernel⟩ rfl rfl hR hcs (fun U hU hW => ⟨preT X hS U hU hW, by show IA _ _ _ U U.heap; rw [hU]; exact IA.moved hW.alike hia⟩) rfl hls rfl hsum hdg) (fun _ h => h ▸ kk)
def lX4_placeOfGreatest_4 (n1 : Nat) (f1 : (Nat → Int32)) (p1 : Int32) : Nat → Int32 → Int32 → Int32
  | 0, i1, i2 => i2
  | n + 1, i1, i2 => if (p1 : Int32) ≤ i1 then i2 else (let y4 : Int32 := (if ((fX10_entry n1 f1 i1) : Int32) ≤ (fX10_entry n1 f1 i2) then i2 else i1 : Int32); lX4_placeOfGreatest_4 n1 f1 p1 n (i1 + 1) y4)
def olX4_placeOfGreatest_4 (n1 : Nat) (f1 : (Nat → Int32)) (p1 : Int32) : Nat → Int32 → Int32 → Prop
  | 0, _, _ => False
  | n + 1, i1, i2 => ¬ ((p1 : Int32) ≤ i1) → ((∀ (y4 : Int32), y4 = ((if ((fX10_entry n1 f1 i1) : Int32) ≤ (fX10_entry n1 f1 i2) then i2 else i1 : Int32) : Int32) → (olX4_placeOfGreatest_4 n1 f1 p1 n (i1 + 1) y4)))
def fX4_placeOfGreatest (n1 : Nat) (f1 : Nat → Int32) (p1 : Int32) : Int32 := let y3 : Int32 := (lX4_placeOfGreatest_4 n1 f1 p1 ((Int32.toInt (p1) - Int32.toInt 1).toNat + 1) 1 0); y3
def oX4_placeOfGreatest (n1 : Nat) (f1 : Nat → Int32) (p1 : Int32) : Prop := olX4_placeOfGreatest_4 n1 f1 p1 ((Int32.toInt (p1) - Int32.toInt 1).toNat + 1) 1 0
abbrev rmX4_placeOfGreatest : Room := { frames := 1, cells := 0, slots := 0, locals := 21 }
theorem dX4_placeOfGreatest_0 : decode cX4_placeOfGreatest 0 = .ok (.iconst 0, 1) := by decide +kernel
theorem dX4_placeOfGreatest_1 : decode cX4_placeOfGreatest 1 = .ok (.istore_n 2, 1) := by decide +kernel
theorem dX4_placeOfGreatest_2 : decode cX4_placeOfGreatest 2 = .ok (.iconst 1, 1) := by decide +kernel
theorem dX4_placeOfGreatest_3 : decode cX4_placeOfGreatest 3 = .ok (.istore_n 3, 1) := by decide +kernel
theorem dX4_placeOfGreatest_4 : decode cX4_placeOfGreatest 4 = .ok (.iload_n 3, 1) := by decide +kernel
theorem dX4_placeOfGreatest_5 : decode cX4_placeOfGreatest 5 = .ok (.iload_n 1, 1) := by decide +kernel
theorem dX4_placeOfGreatest_6 : decode cX4_placeOfGreatest 6 = .ok (.if_icmp .ge 24, 3) := by decide +kernel
theorem dX4_placeOfGreatest_9 : decode cX4_placeOfGreatest 9 = .ok (.aload_n 0, 1) := by decide +kernel
theorem dX4_placeOfGreatest_10 : decode cX4_placeOfGreatest 10 = .ok (.iload_n 3, 1) := by decide +kernel
theorem dX4_placeOfGreatest_11 : decode cX4_placeOfGreatest 11 = .ok (.invokestatic 75, 3) := by decide +kernel
theorem dX4_placeOfGreatest_14 : decode cX4_placeOfGreatest 14 = .ok (.aload_n 0, 1) := by decide +kernel
theorem dX4_placeOfGreatest_15 : decode cX4_placeOfGreatest 15 = .ok (.iload_n 2, 1) := by decide +kernel
theorem dX4_placeOfGreatest_16 : decode cX4_placeOfGreatest 16 = .ok (.invokestatic 75, 3) := by decide +kernel
theorem dX4_placeOfGreatest_19 : decode cX4_placeOfGreatest 19 = .ok (.if_icmp .le 5, 3) := by decide +kernel
theorem dX4_placeOfGreatest_22 : decode cX4_placeOfGreatest 22 = .ok (.iload_n 3, 1) := by decide +kernel
theorem dX4_placeOfGreatest_23 : decode cX4_placeOfGreatest 23 = .ok (.istore_n 2, 1) := by decide +kernel
theorem dX4_placeOfGreatest_24 : decode cX4_placeOfGreatest 24 = .ok (.iinc 3 1, 3) := by decide +kernel
theorem dX4_placeOfGreatest_27 : decode cX4_placeOfGreatest 27 = .ok (.goto (-23), 3) := by decide +kernel
theorem dX4_placeOfGreatest_30 : decode cX4_placeOfGreatest 30 = .ok (.iload_n 2, 1) := by decide +kernel
theorem dX4_placeOfGreatest_31 : decode cX4_placeOfGreatest 31 = .ok (.ireturn, 1) := by decide +kernel
set_option maxHeartbeats 8000000 in
set_option maxRecDepth 100000 in
theorem mX4_placeOfGreatest (l : Launch) (G : gG) (a1 n1 : Nat) (f1 : Nat → Int32) (p1 : Int32) (ho : oX4_placeOfGreatest n1 f1 p1) : PI l yX4_placeOfGreatest cX4_placeOfGreatest 4 (some .int) rmX4_placeOfGreatest [.ref a1, .int p1] G (fun U => IA a1 n1 f1 U U.heap) (fX4_placeOfGreatest n1 f1 p1) := by
  refine gofP (own := RX4) (by decide) rfl (Nat.le_of_ble_eq_true rfl) (fun p e s m args below meth c ls Q X hia hl E => ?_)
  have hx := X.1
  have hb := X.2.1
  have hown := X.2.2.2.1
  have hts := X.2.2.2.2.1
  have hS : va_S (gA G) s.heap s.heap [] := va_S.rf
  unfold oX4_placeOfGreatest at ho
  have hl : lv_has ls 4 [(0, .ref a1), (1, .int p1)] := hl
  refine lv_iconst (v := 0) hx hb dX4_placeOfGreatest_0 (by decide) ?_
  refine lv_istore_n (lv' := [(2, .int 0), (0, .ref a1), (1, .int p1)]) hx hb dX4_placeOfGreatest_1 rfl hl (by decide) rfl (fun ls hl => ?_)
  refine lv_iconst (v := 1) hx hb dX4_placeOfGreatest_2 (by decide) ?_
  refine lv_istore_n (lv' := [(3, .int 1), (2, .int 0), (0, .ref a1), (1, .int p1)]) hx hb dX4_placeOfGreatest_3 rfl hl (by decide) rfl (fun ls hl => ?_)
  have L4 : ∀ (n : Nat) (i1 : Int32) (i2 : Int32) (ls : Array Slot), olX4_placeOfGreatest_4 n1 f1 p1 n i1 i2 → lv_has ls 4 [(3, .int i1), (2, .int i2), (0, .ref a1), (1, .int p1)] → (∀ (y3 : Int32) (ls : Array Slot), y3 = (lX4_placeOfGreatest_4 n1 f1 p1 n i1 i2 : Int32) → lv_has ls 4 [(2, .int y3)] → W p l e rmX4_placeOfGreatest s m args below meth c s.heap [] 0 0 Q (F0 m 30 ls [])) → W p l e rmX4_placeOfGreatest s m args below meth c s.heap [] 0 0 Q (F0 m 4 ls []) := by
    clear ho
    intro n
    induction n with
    | zero =>
      intro i1 i2 ls ho
      exact ho.elim
    | succ n ih =>
      intro i1 i2 ls ho hl K5
      refine lv_iload_n hx hb dX4_placeOfGreatest_4 rfl (lv_at hl 0 rfl) ?_
      refine lv_iload_n hx hb dX4_placeOfGreatest_5 rfl (lv_at hl 3 rfl) ?_
      refine lv_icmp_ge (tgt := 30) hx hb dX4_placeOfGreatest_6 (by decide) (fun c3 => ?_) (fun c3 => ?_)
      · skip
        exact K5 _ _ (Eq.symm (((lX4_placeOfGreatest_4.eq_2 _ _ _ _ _ _)).trans ((if_pos c3).trans rfl))) (lv_sub hl [1] rfl)
      · have ho := ho c3
        refine lv_aload_n hx hb dX4_placeOfGreatest_9 rfl (lv_at hl 2 rfl) ?_
        refine lv_iload_n hx hb dX4_placeOfGreatest_10 rfl (lv_at hl 0 rfl) ?_
        refine kn_X10_entry X hS hia t_mn_PieceType_75 hl.1 (Nat.le_of_ble_eq_true rfl) ⟨Nat.le_of_ble_eq_true rfl, Nat.le_of_ble_eq_true rfl⟩ ⟨Nat.zero_le _, Nat.zero_le _⟩ dX4_placeOfGreatest_11 ?_
        refine lv_aload_n hx hb dX4_placeOfGreatest_14 rfl (lv_at hl 2 rfl) ?_
        refine lv_iload_n hx hb dX4_placeOfGreatest_15 rfl (lv_at hl 1 rfl) ?_
        refine kn_X10_entry X hS hia t_mn_PieceType_75 hl.1 (Nat.le_of_ble_eq_true rfl) ⟨Nat.le_of_ble_eq_true rfl, Nat.le_of_ble_eq_true rfl⟩ ⟨Nat.zero_le _, Nat.zero_le _⟩ dX4_placeOfGreatest_16 ?_
        have K5 : ∀ (y4 : Int32) (ls : Array Slot), y4 = (if ((fX10_entry n1 f1 i1) : Int32) ≤ (fX10_entry n1 f1 i2) then i2 else i1 : Int32) → lv_has ls 4 [(3, .int i1), (2, .int y4), (0, .ref a1), (1, .int p1)] → W p l e rmX4_placeOfGreatest s m args below meth c s.heap [] 0 0 Q (F0 m 24 ls []) := by
          intro y4 ls ey4 hl
          have ho := ho y4 ey4
          refine lv_iinc (v := i1 + 1) (lv' := [(3, .int (i1 + 1)), (2, .int y4), (0, .ref a1), (1, .int p1)]) hx hb dX4_placeOfGreatest_24 hl (k := 0) rfl rfl (by decide) rfl (fun ls hl => ?_)
          refine lv_goto (tgt := 4) hx hb dX4_placeOfGreatest_27 (by decide) ?_
          replace ey4 := Eq.symm ey4
          subst ey4
          exact ih _ _ _ ho (lv_sub hl [0, 1, 2, 3] rfl) (fun y3 ls q0 hl => K5 y3 ls (q0.trans (congrArg (fun z : Int32 => z) (Eq.symm (((lX4_placeOfGreatest_4.eq_2 _ _ _ _ _ _)).trans ((if_neg c3).trans rfl))))) hl)
        refine lv_icmp_le (tgt := 24) hx hb dX4_placeOfGreatest_19 (by decide) (fun c5 => ?_) (fun c5 => ?_)
        · skip
          exact K5 _ _ (Eq.symm ((if_pos c5).trans rfl)) (lv_sub hl [0, 1, 2, 3] rfl)
        · skip
          refine lv_iload_n hx hb dX4_placeOfGreatest_22 rfl (lv_at hl 0 rfl) ?_
          refine lv_istore_n (lv' := [(2, .int i1), (3, .int i1), (0, .ref a1), (1, .int p1)]) hx hb dX4_placeOfGreatest_23 rfl hl (by decide) rfl (fun ls hl => ?_)
          exact K5 _ _ (Eq.symm ((if_neg c5).trans rfl)) (lv_sub hl [1, 0, 2, 3] rfl)
  have hol := ho
  refine L4 ((Int32.toInt (p1) - Int32.toInt 1).toNat + 1) 1 0 _ hol (lv_sub hl [0, 1, 2, 3] rfl) (fun y3 ls ey3 hl => ?_)
  refine lv_iload_n hx hb dX4_placeOfGreatest_30 rfl (lv_at hl 0 rfl) ?_
  replace ey3 := Eq.symm ey3
  subst ey3
  exact E _ _ _ dX4_placeOfGreatest_31 rfl (Eq.symm rfl)
theorem k_X4_placeOfGreatest {p : Program} {l : Launch} {e : Env} {R : Room} {s : State} {m : MethodId} {args : Array Value} {below : List Frame} {meth : Method} {c : Code} {H : Heap} {locs : List Loc} {cells slots : Nat} {Q : State → Prop} {cc : ByteArray} {pc nL : Nat} {ls : Array Slot} {rest : List Value} {G : gG} {own : String} (X : CX G p s m args c cc nL own) (hS : va_S (gA G) s.heap H locs) {a1 n1 : Nat} {f1 : Nat → Int32} (hia : IA a1 n1 f1 s H) {p1 : Int32} (ho : oX4_placeOfGreatest n1 f1 p1) {idx : Nat} (hml : Cond.methodLink own idx yX4_placeOfGreatest ∈ TT) (hls : ls.size = nL) (hsum : (rest.map fun v => v.category).sum ≤ 8) (hR : rmX4_placeOfGreatest.frames + 1 ≤ R.frames ∧ 8 + (4 + 11) + rmX4_placeOfGreatest.locals ≤ R.locals) (hcs : cells ≤ R.cells ∧ slots ≤ R.slots) (hdg : decode cc pc = .ok (.invokestatic idx, 3)) (kk : W p l e R s m args below meth c H locs cells slots Q (F0 m (pc + 3) ls (.int (fX4_placeOfGreatest n1 f1 p1) :: rest))) : W p l e R s m args below meth c H locs cells slots Q (F0 m pc ls (.int p1 :: .ref a1 :: rest)) := c_qi (runS (k := 2) X.1 X.2.1 X.2.2.1 X.2.2.2.1 X.2.2.2.2.1 (mX4_placeOfGreatest l G a1 n1 f1 p1 ho) (pT_bl (fun U g mk a h => IA.moved (U := U.calling g mk a) (Vm.Alike.refl U.vm) h)) hml t_st_X4_placeOfGreatest t_ini_PieceType t_code_X4_placeOfGreatest ⟨by decide, by decide, by decide +kernel⟩ rfl rfl hR hcs (fun U hU hW => ⟨preT X hS U hU hW, by show IA _ _ _ U U.heap; rw [hU]; exact IA.moved hW.alike hia⟩) rfl hls rfl hsum hdg) (fun _ h => h ▸ kk)
def fX4_middleInOrder (r : Nat) (v : vSt) : Int32 × vSt := let g1 : (Nat → Int32) := v (r + 10); let g3 : (Nat → Int32) := fX4_sort 12 g1 (v r 9); (fX10_entry 12 g3 ((v r 9) / 2), v)
def oX4_middleInOrder (r : Nat) (v : vSt) : Prop := ∀ g1 : (Nat → Int32), g1 = (v (r + 10)) → (oX4_sort 12 g1 (v r 9))
abbrev rmX4_middleInOrder : Room := { frames := 1, cells := 12, slots := 12, locals := 40 }
theorem dX4_middleInOrder_0 : decode cX4_middleInOrder 0 = .ok (.aload_n 0, 1) := by decide +kernel
theorem dX4_middleInOrder_1 : decode cX4_middleInOrder 1 = .ok (.getfield 15, 3) := by decide +kernel
theorem dX4_middleInOrder_4 : decode cX4_middleInOrder 4 = .ok (.invokevirtual 97, 3) := by decide +kernel
theorem dX4_middleInOrder_7 : decode cX4_middleInOrder 7 = .ok (.checkcast 98, 3) := by decide +kernel
theorem dX4_middleInOrder_10 : decode cX4_middleInOrder 10 = .ok (.astore_n 1, 1) := by decide +kernel
theorem dX4_middleInOrder_11 : decode cX4_middleInOrder 11 = .ok (.aload_n 1, 1) := by decide +kernel
theorem dX4_middleInOrder_12 : decode cX4_middleInOrder 12 = .ok (.aload_n 0, 1) := by decide +kernel
theorem dX4_middleInOrder_13 : decode cX4_middleInOrder 13 = .ok (.getfield 41, 3) := by decide +kernel
theorem dX4_middleInOrder_16 : decode cX4_middleInOrder 16 = .ok (.invokestatic 102, 3) := by decide +kernel
theorem dX4_middleInOrder_19 : decode cX4_middleInOrder 19 = .ok (.aload_n 1, 1) := by decide +kernel
theorem dX4_middleInOrder_20 : decode cX4_middleInOrder 20 = .ok (.aload_n 0, 1) := by decide +kernel
theorem dX4_middleInOrder_21 : decode cX4_middleInOrder 21 = .ok (.getfield 41, 3) := by decide +kernel
theorem dX4_middleInOrder_24 : decode cX4_middleInOrder 24 = .ok (.iconst 2, 1) := by decide +kernel
theorem dX4_middleInOrder_25 : decode cX4_middleInOrder 25 = .ok (.idiv, 1) := by decide +kernel
theorem dX4_middleInOrder_26 : decode cX4_middleInOrder 26 = .ok (.invokestatic 75, 3) := by decide +kernel
theorem dX4_middleInOrder_29 : decode cX4_middleInOrder 29 = .ok (.ireturn, 1) := by decide +kernel
set_option maxHeartbeats 8000000 in
set_option maxRecDepth 100000 in
theorem mX4_middleInOrder (l : Launch) (G : gG) (da : Nat → Nat) (v : vSt) (x : gX) (r : Nat) (hk_r : kd r = 4) (ho : oX4_middleInOrder r v) : MI l yX4_middleInOrder cX4_middleInOrder 2 (some .int) rmX4_middleInOrder [.ref (ga G r)] G da v x 12 12 (fX4_middleInOrder r v).1 (fX4_middleInOrder r v).2 x := by
  refine gofMI (own := RX4) (by decide) rfl (Nat.le_of_ble_eq_true rfl) (fun p e s m args below meth c ls Q X hH hl E => ?_)
  have hx := X.1
  have hb := X.2.1
  have hown := X.2.2.2.1
  have hts := X.2.2.2.2.1
  have hS : va_S (gA G) s.heap s.heap [] := va_S.rf
  unfold oX4_middleInOrder at ho
  have hl : lv_has ls 2 [(0, .ref (ga G r))] := hl
  refine lv_aload_n hx hb dX4_middleInOrder_0 rfl (lv_at hl 0 rfl) ?_
  refine g_PieceType_15 X hH hk_r dX4_middleInOrder_1 ?_
  refine r_clo X hH hS (kc_4_25 hk_r) t_ml_PieceType_97 hl.1 ⟨Nat.le_of_ble_eq_true rfl, Nat.le_of_ble_eq_true rfl⟩ ⟨(Nat.le_of_ble_eq_true rfl), (Nat.le_of_ble_eq_true rfl)⟩ dX4_middleInOrder_4 (fun a1 H g1 eg1 hQ hS => ?_)
  have ho := ho g1 eg1
  refine q_cst X hQ t_cl_PieceType_98 dX4_middleInOrder_7 ?_
  refine lv_astore_n (lv' := [(1, .ref a1), (0, .ref (ga G r))]) hx hb dX4_middleInOrder_10 rfl hl (by decide) rfl (fun ls hl => ?_)
  refine lv_aload_n hx hb dX4_middleInOrder_11 rfl (lv_at hl 0 rfl) ?_
  refine lv_aload_n hx hb dX4_middleInOrder_12 rfl (lv_at hl 1 rfl) ?_
  refine g_PieceType_41 X hQ.hp hk_r dX4_middleInOrder_13 ?_
  have hq2 := ho
  refine k_X4_sort X hS hQ.la (by decide) hq2 t_ml_PieceType_102 hl.1 (Nat.le_of_ble_eq_true rfl) ⟨Nat.le_of_ble_eq_true rfl, Nat.le_of_ble_eq_true rfl⟩ ⟨(Nat.le_of_ble_eq_true rfl), (Nat.le_of_ble_eq_true rfl)⟩ dX4_middleInOrder_16 hQ.gb (gA_of hQ.gb) (fun H locs g3 eg3 hA1 hoth hsz hS => ?_)
  replace hQ := hQ.upd hA1 hoth
  clear hA1 hoth hsz
  refine lv_aload_n hx hb dX4_middleInOrder_19 rfl (lv_at hl 0 rfl) ?_
  refine lv_aload_n hx hb dX4_middleInOrder_20 rfl (lv_at hl 1 rfl) ?_
  refine g_PieceType_41 X hQ.hp hk_r dX4_middleInOrder_21 ?_
  refine lv_iconst (v := 2) hx hb dX4_middleInOrder_24 (by decide) ?_
  refine lv_idiv hx hb dX4_middleInOrder_25 (by decide) ?_
  refine kn_X10_entry X hS (lAr.ia X.2.2.2.2.2.1 hQ.la (by decide)) t_mn_PieceType_75 hl.1 (Nat.le_of_ble_eq_true rfl) ⟨Nat.le_of_ble_eq_true rfl, Nat.le_of_ble_eq_true rfl⟩ ⟨(Nat.le_of_ble_eq_true rfl), (Nat.le_of_ble_eq_true rfl)⟩ dX4_middleInOrder_26 ?_
  replace eg1 := Eq.symm eg1
  replace eg3 := Eq.symm eg3
  subst eg1 eg3
  exact E _ _ _ _ _ _ _ _ _ dX4_middleInOrder_29 rfl (pr1 rfl) (pr2 rfl) hQ.hp hS (Nat.le_of_ble_eq_true rfl) (Nat.le_of_ble_eq_true rfl)
theorem k_X4_middleInOrder {p : Program} {l : Launch} {e : Env} {R : Room} {s : State} {m : MethodId} {args : Array Value} {below : List Frame} {meth : Method} {c : Code} {H : Heap} {locs : List Loc} {cells slots : Nat} {Q : State → Prop} {cc : ByteArray} {pc nL : Nat} {ls : Array Slot} {rest : List Value} {G : gG} {own : String} {da : Nat → Nat} {v : vSt} {x : gX} (X : CX G p s m args c cc nL own) (hS : va_S (gA G) s.heap H locs) (hH : Hp G da v x H) {r : Nat} (hk_r : kd r = 4) (ho : oX4_middleInOrder r v) {idx : Nat} (hml : Cond.methodLink own idx yX4_middleInOrder ∈ TT) (hls : ls.size = nL) (hsum : (rest.map fun v => v.category).sum ≤ 8) (hR : rmX4_middleInOrder.frames + 1 ≤ R.frames ∧ 8 + (2 + 11) + rmX4_middleInOrder.locals ≤ R.locals) (hcs : cells + 12 ≤ R.cells ∧ slots + 12 ≤ R.slots) (hdg : decode cc pc = .ok (.invokevirtual idx, 3)) (kk : ∀ (d : Nat → Nat) (H1 : Heap) (locs1 : List Loc) (v1 : vSt), v1 = (fX4_middleInOrder r v).2 → Hp G d v1 x H1 → va_S (gA G) s.heap H1 locs1 → W p l e R s m args below meth c H1 locs1 (cells + 12) (slots + 12) Q (F0 m (pc + 3) ls (.int (fX4_middleInOrder r v).1 :: rest))) : W p l e R s m args below meth c H locs cells slots Q (F0 m pc ls (.ref (ga G r) :: rest)) := c_mi X.2.2.2.2.2.2 (runV (k := 0) X.1 X.2.1 X.2.2.1 X.2.2.2.1 X.2.2.2.2.1 (mX4_middleInOrder l G da v x r hk_r ho) pW_bl hml t_im_X4_middleInOrder t_sel_X4_middleInOrder t_ini_PieceType t_code_X4_middleInOrder ⟨rfl, by decide, by decide, by decide +kernel⟩ rfl rfl hR hcs (recvW X hH (by rw [hk_r]; decide) (by rw [hk_r]; decide) (ce_4 hk_r) rfl) (preW X hS hH) rfl hls rfl hsum hdg) hS kk
def lX4_middleLeft_16 : Nat → Int32 → (Nat → Int32) → Int32 × (Nat → Int32)
  | 0, i2, g3 => (i2, g3)
  | n + 1, i2, g3 => if (i2 : Int32) ≤ 2 then ((i2, g3)) else (let g7 : (Nat → Int32) := fX4_take 12 g3 (fX4_placeOfLeast 12 g3 i2) i2; let g10 : (Nat → Int32) := fX4_take 12 g7 (fX4_placeOfGreatest 12 g7 (i2 - 1)) (i2 - 1); lX4_middleLeft_16 n (i2 + (-2)) g10)
def olX4_middleLeft_16 : Nat → Int32 → (Nat → Int32) → Prop
  | 0, _, _ => False
  | n + 1, i2, g3 => ¬ ((i2 : Int32) ≤ 2) → ((oX4_placeOfLeast 12 g3 i2) ∧ ((oX4_take 12 g3 (fX4_placeOfLeast 12 g3 i2) i2) ∧ (∀ g7 : (Nat → Int32), g7 = (fX4_take 12 g3 (fX4_placeOfLeast 12 g3 i2) i2) → ((oX4_placeOfGreatest 12 g7 (i2 - 1)) ∧ ((oX4_take 12 g7 (fX4_placeOfGreatest 12 g7 (i2 - 1)) (i2 - 1)) ∧ (∀ g10 : (Nat → Int32), g10 = (fX4_take 12 g7 (fX4_placeOfGreatest 12 g7 (i2 - 1)) (i2 - 1)) → (olX4_middleLeft_16 n (i2 + (-2)) g10)))))))
def fX4_middleLeft (r : Nat) (v : vSt) : Int32 × vSt := let g1 : (Nat → Int32) := v (r + 10); let qy4 : Int32 × (Nat → Int32) := (lX4_middleLeft_16 (13) (v r 9) g1); let y4 := qy4.1; let g5 := qy4.2; (fX10_entry 12 g5 (fX4_placeOfGreatest 12 g5 y4), v)
def oX4_middleLeft (r : Nat) (v : vSt) : Prop := ∀ g1 : (Nat → Int32), g1 = (v (r + 10)) → (olX4_middleLeft_16 (13) (v r 9) g1 ∧ (∀ (y4 : Int32) (g5 : (Nat → Int32)), y4 = ((lX4_middleLeft_16 (13) (v r 9) g1) : Int32 × (Nat → Int32)).1 → g5 = ((lX4_middleLeft_16 (13) (v r 9) g1) : Int32 × (Nat → Int32)).2 → (oX4_placeOfGreatest 12 g5 y4)))
abbrev rmX4_middleLeft : Room := { frames := 2, cells := 12, slots := 12, locals := 44 }
theorem dX4_middleLeft_0 : decode cX4_middleLeft 0 = .ok (.aload_n 0, 1) := by decide +kernel
theorem dX4_middleLeft_1 : decode cX4_middleLeft 1 = .ok (.getfield 15, 3) := by decide +kernel
theorem dX4_middleLeft_4 : decode cX4_middleLeft 4 = .ok (.invokevirtual 97, 3) := by decide +kernel
theorem dX4_middleLeft_7 : decode cX4_middleLeft 7 = .ok (.checkcast 98, 3) := by decide +kernel
theorem dX4_middleLeft_10 : decode cX4_middleLeft 10 = .ok (.astore_n 1, 1) := by decide +kernel
theorem dX4_middleLeft_11 : decode cX4_middleLeft 11 = .ok (.aload_n 0, 1) := by decide +kernel
theorem dX4_middleLeft_12 : decode cX4_middleLeft 12 = .ok (.getfield 41, 3) := by decide +kernel
theorem dX4_middleLeft_15 : decode cX4_middleLeft 15 = .ok (.istore_n 2, 1) := by decide +kernel
theorem dX4_middleLeft_16 : decode cX4_middleLeft 16 = .ok (.iload_n 2, 1) := by decide +kernel
theorem dX4_middleLeft_17 : decode cX4_middleLeft 17 = .ok (.iconst 2, 1) := by decide +kernel
theorem dX4_middleLeft_18 : decode cX4_middleLeft 18 = .ok (.if_icmp .le 33, 3) := by decide +kernel
theorem dX4_middleLeft_21 : decode cX4_middleLeft 21 = .ok (.aload_n 1, 1) := by decide +kernel
theorem dX4_middleLeft_22 : decode cX4_middleLeft 22 = .ok (.aload_n 1, 1) := by decide +kernel
theorem dX4_middleLeft_23 : decode cX4_middleLeft 23 = .ok (.iload_n 2, 1) := by decide +kernel
theorem dX4_middleLeft_24 : decode cX4_middleLeft 24 = .ok (.invokestatic 106, 3) := by decide +kernel
theorem dX4_middleLeft_27 : decode cX4_middleLeft 27 = .ok (.iload_n 2, 1) := by decide +kernel
theorem dX4_middleLeft_28 : decode cX4_middleLeft 28 = .ok (.invokestatic 109, 3) := by decide +kernel
theorem dX4_middleLeft_31 : decode cX4_middleLeft 31 = .ok (.aload_n 1, 1) := by decide +kernel
theorem dX4_middleLeft_32 : decode cX4_middleLeft 32 = .ok (.aload_n 1, 1) := by decide +kernel
theorem dX4_middleLeft_33 : decode cX4_middleLeft 33 = .ok (.iload_n 2, 1) := by decide +kernel
theorem dX4_middleLeft_34 : decode cX4_middleLeft 34 = .ok (.iconst 1, 1) := by decide +kernel
theorem dX4_middleLeft_35 : decode cX4_middleLeft 35 = .ok (.isub, 1) := by decide +kernel
theorem dX4_middleLeft_36 : decode cX4_middleLeft 36 = .ok (.invokestatic 113, 3) := by decide +kernel
theorem dX4_middleLeft_39 : decode cX4_middleLeft 39 = .ok (.iload_n 2, 1) := by decide +kernel
theorem dX4_middleLeft_40 : decode cX4_middleLeft 40 = .ok (.iconst 1, 1) := by decide +kernel
theorem dX4_middleLeft_41 : decode cX4_middleLeft 41 = .ok (.isub, 1) := by decide +kernel
theorem dX4_middleLeft_42 : decode cX4_middleLeft 42 = .ok (.invokestatic 109, 3) := by decide +kernel
theorem dX4_middleLeft_45 : decode cX4_middleLeft 45 = .ok (.iinc 2 (-2), 3) := by decide +kernel
theorem dX4_middleLeft_48 : decode cX4_middleLeft 48 = .ok (.goto (-32), 3) := by decide +kernel
theorem dX4_middleLeft_51 : decode cX4_middleLeft 51 = .ok (.aload_n 1, 1) := by decide +kernel
theorem dX4_middleLeft_52 : decode cX4_middleLeft 52 = .ok (.aload_n 1, 1) := by decide +kernel
theorem dX4_middleLeft_53 : decode cX4_middleLeft 53 = .ok (.iload_n 2, 1) := by decide +kernel
theorem dX4_middleLeft_54 : decode cX4_middleLeft 54 = .ok (.invokestatic 113, 3) := by decide +kernel
theorem dX4_middleLeft_57 : decode cX4_middleLeft 57 = .ok (.invokestatic 75, 3) := by decide +kernel
theorem dX4_middleLeft_60 : decode cX4_middleLeft 60 = .ok (.ireturn, 1) := by decide +kernel
set_option maxHeartbeats 8000000 in
set_option maxRecDepth 100000 in
theorem mX4_middleLeft (l : Launch) (G : gG) (da : Nat → Nat) (v : vSt) (x : gX) (r : Nat) (hk_r : kd r = 4) (ho : oX4_middleLeft r v) : MI l yX4_middleLeft cX4_middleLeft 3 (some .int) rmX4_middleLeft [.ref (ga G r)] G da v x 12 12 (fX4_middleLeft r v).1 (fX4_middleLeft r v).2 x := by
  refine gofMI (own := RX4) (by decide) rfl (Nat.le_of_ble_eq_true rfl) (fun p e s m args below meth c ls Q X hH hl E => ?_)
  have hx := X.1
  have hb := X.2.1
  have hown := X.2.2.2.1
  have hts := X.2.2.2.2.1
  have hS : va_S (gA G) s.heap s.heap [] := va_S.rf
  unfold oX4_middleLeft at ho
  have hl : lv_has ls 3 [(0, .ref (ga G r))] := hl
  refine lv_aload_n hx hb dX4_middleLeft_0 rfl (lv_at hl 0 rfl) ?_
  refine g_PieceType_15 X hH hk_r dX4_middleLeft_1 ?_
  refine r_clo X hH hS (kc_4_25 hk_r) t_ml_PieceType_97 hl.1 ⟨Nat.le_of_ble_eq_true rfl, Nat.le_of_ble_eq_true rfl⟩ ⟨(Nat.le_of_ble_eq_true rfl), (Nat.le_of_ble_eq_true rfl)⟩ dX4_middleLeft_4 (fun a1 H g1 eg1 hQ hS => ?_)
  have ho := ho g1 eg1
  refine q_cst X hQ t_cl_PieceType_98 dX4_middleLeft_7 ?_
  refine lv_astore_n (lv' := [(1, .ref a1), (0, .ref (ga G r))]) hx hb dX4_middleLeft_10 rfl hl (by decide) rfl (fun ls hl => ?_)
  refine lv_aload_n hx hb dX4_middleLeft_11 rfl (lv_at hl 1 rfl) ?_
  refine g_PieceType_41 X hQ.hp hk_r dX4_middleLeft_12 ?_
  refine lv_istore_n (lv' := [(2, .int (v r 9)), (1, .ref a1), (0, .ref (ga G r))]) hx hb dX4_middleLeft_15 rfl hl (by decide) rfl (fun ls hl => ?_)
  have L6 : ∀ (n : Nat) (i2 : Int32) (g3 : (Nat → Int32)) (H : Heap) (locs : List Loc) (ls : Array Slot), olX4_middleLeft_16 n i2 g3 → Hq G da v x a1 12 g3 H → va_S (gA G) s.heap H locs → lv_has ls 3 [(2, .int i2), (1, .ref a1)] → (∀ (y4 : Int32) (g5 : (Nat → Int32)) (H : Heap) (locs : List Loc) (ls : Array Slot), y4 = (lX4_middleLeft_16 n i2 g3 : Int32 × (Nat → Int32)).1 → g5 = (lX4_middleLeft_16 n i2 g3 : Int32 × (Nat → Int32)).2 → Hq G da v x a1 12 g5 H → va_S (gA G) s.heap H locs → lv_has ls 3 [(2, .int y4), (1, .ref a1)] → W p l e rmX4_middleLeft s m args below meth c H locs (0 + 12) (0 + 12) Q (F0 m 51 ls [])) → W p l e rmX4_middleLeft s m args below meth c H locs (0 + 12) (0 + 12) Q (F0 m 16 ls []) := by
    clear ho
    intro n
    induction n with
    | zero =>
      intro i2 g3 H locs ls ho
      exact ho.elim
    | succ n ih =>
      intro i2 g3 H locs ls ho hQ hS hl K7
      refine lv_iload_n hx hb dX4_middleLeft_16 rfl (lv_at hl 0 rfl) ?_
      refine lv_iconst (v := 2) hx hb dX4_middleLeft_17 (by decide) ?_
      refine lv_icmp_le (tgt := 51) hx hb dX4_middleLeft_18 (by decide) (fun c4 => ?_) (fun c4 => ?_)
      · skip
        exact K7 _ _ _ _ _ (pr1 (((lX4_middleLeft_16.eq_2 _ _ _)).trans ((if_pos c4).trans rfl))) (pr2 (((lX4_middleLeft_16.eq_2 _ _ _)).trans ((if_pos c4).trans rfl))) hQ hS (lv_sub hl [0, 1] rfl)
      · have ho := ho c4
        refine lv_aload_n hx hb dX4_middleLeft_21 rfl (lv_at hl 1 rfl) ?_
        refine lv_aload_n hx hb dX4_middleLeft_22 rfl (lv_at hl 1 rfl) ?_
        refine lv_iload_n hx hb dX4_middleLeft_23 rfl (lv_at hl 0 rfl) ?_
        have hq5 := ho.1
        have ho := ho.2
        refine k_X4_placeOfLeast X hS (lAr.ia X.2.2.2.2.2.1 hQ.la (by decide)) hq5 t_ml_PieceType_106 hl.1 (Nat.le_of_ble_eq_true rfl) ⟨Nat.le_of_ble_eq_true rfl, Nat.le_of_ble_eq_true rfl⟩ ⟨(Nat.le_of_ble_eq_true rfl), (Nat.le_of_ble_eq_true rfl)⟩ dX4_middleLeft_24 ?_
        refine lv_iload_n hx hb dX4_middleLeft_27 rfl (lv_at hl 0 rfl) ?_
        have hq6 := ho.1
        have ho := ho.2
        refine k_X4_take X hS hQ.la (by decide) hq6 t_ml_PieceType_109 hl.1 (Nat.le_of_ble_eq_true rfl) ⟨Nat.le_of_ble_eq_true rfl, Nat.le_of_ble_eq_true rfl⟩ ⟨(Nat.le_of_ble_eq_true rfl), (Nat.le_of_ble_eq_true rfl)⟩ dX4_middleLeft_28 hQ.gb (gA_of hQ.gb) (fun H locs g7 eg7 hA1 hoth hsz hS => ?_)
        replace hQ := hQ.upd hA1 hoth
        clear hA1 hoth hsz
        have ho := ho g7 eg7
        refine lv_aload_n hx hb dX4_middleLeft_31 rfl (lv_at hl 1 rfl) ?_
        refine lv_aload_n hx hb dX4_middleLeft_32 rfl (lv_at hl 1 rfl) ?_
        refine lv_iload_n hx hb dX4_middleLeft_33 rfl (lv_at hl 0 rfl) ?_
        refine lv_iconst (v := 1) hx hb dX4_middleLeft_34 (by decide) ?_
        refine lv_isub hx hb dX4_middleLeft_35 ?_
        have hq8 := ho.1
        have ho := ho.2
        refine k_X4_placeOfGreatest X hS (lAr.ia X.2.2.2.2.2.1 hQ.la (by decide)) hq8 t_ml_PieceType_113 hl.1 (Nat.le_of_ble_eq_true rfl) ⟨Nat.le_of_ble_eq_true rfl, Nat.le_of_ble_eq_true rfl⟩ ⟨(Nat.le_of_ble_eq_true rfl), (Nat.le_of_ble_eq_true rfl)⟩ dX4_middleLeft_36 ?_
        refine lv_iload_n hx hb dX4_middleLeft_39 rfl (lv_at hl 0 rfl) ?_
        refine lv_iconst (v := 1) hx hb dX4_middleLeft_40 (by decide) ?_
        refine lv_isub hx hb dX4_middleLeft_41 ?_
        have hq9 := ho.1
        have ho := ho.2
        refine k_X4_take X hS hQ.la (by decide) hq9 t_ml_PieceType_109 hl.1 (Nat.le_of_ble_eq_true rfl) ⟨Nat.le_of_ble_eq_true rfl, Nat.le_of_ble_eq_true rfl⟩ ⟨(Nat.le_of_ble_eq_true rfl), (Nat.le_of_ble_eq_true rfl)⟩ dX4_middleLeft_42 hQ.gb (gA_of hQ.gb) (fun H locs g10 eg10 hA1 hoth hsz hS => ?_)
        replace hQ := hQ.upd hA1 hoth
        clear hA1 hoth hsz
        have ho := ho g10 eg10
        refine lv_iinc (v := i2 + (-2)) (lv' := [(2, .int (i2 + (-2))), (1, .ref a1)]) hx hb dX4_middleLeft_45 hl (k := 0) rfl rfl (by decide) rfl (fun ls hl => ?_)
        refine lv_goto (tgt := 16) hx hb dX4_middleLeft_48 (by decide) ?_
        replace eg7 := Eq.symm eg7
        replace eg10 := Eq.symm eg10
        subst eg7 eg10
        exact ih _ _ _ _ _ ho hQ hS (lv_sub hl [0, 1] rfl) (fun y4 g5 H locs ls q0 q1 hQ hS hl => K7 y4 g5 H locs ls (q0.trans (congrArg (fun z : Int32 × (Nat → Int32) => z.1) (Eq.symm (((lX4_middleLeft_16.eq_2 _ _ _)).trans ((if_neg c4).trans rfl))))) (q1.trans (congrArg (fun z : Int32 × (Nat → Int32) => z.2) (Eq.symm (((lX4_middleLeft_16.eq_2 _ _ _)).trans ((if_neg c4).trans rfl))))) hQ hS hl)
  have hol := ho.1
  refine L6 (13) (v r 9) g1 _ _ _ hol hQ hS (lv_sub hl [0, 1] rfl) (fun y4 g5 H locs ls ey4 eg5 hQ hS hl => ?_)
  have ho := ho.2 y4 g5 ey4 eg5
  refine lv_aload_n hx hb dX4_middleLeft_51 rfl (lv_at hl 1 rfl) ?_
  refine lv_aload_n hx hb dX4_middleLeft_52 rfl (lv_at hl 1 rfl) ?_
  refine lv_iload_n hx hb dX4_middleLeft_53 rfl (lv_at hl 0 rfl) ?_
  have hq11 := ho
  refine k_X4_placeOfGreatest X hS (lAr.ia X.2.2.2.2.2.1 hQ.la (by decide)) hq11 t_ml_PieceType_113 hl.1 (Nat.le_of_ble_eq_true rfl) ⟨Nat.le_of_ble_eq_true rfl, Nat.le_of_ble_eq_true rfl⟩ ⟨(Nat.le_of_ble_eq_true rfl), (Nat.le_of_ble_eq_true rfl)⟩ dX4_middleLeft_54 ?_
  refine kn_X10_entry X hS (lAr.ia X.2.2.2.2.2.1 hQ.la (by decide)) t_mn_PieceType_75 hl.1 (Nat.le_of_ble_eq_true rfl) ⟨Nat.le_of_ble_eq_true rfl, Nat.le_of_ble_eq_true rfl⟩ ⟨(Nat.le_of_ble_eq_true rfl), (Nat.le_of_ble_eq_true rfl)⟩ dX4_middleLeft_57 ?_
  replace eg1 := Eq.symm eg1
  replace ey4 := Eq.symm ey4
  replace eg5 := Eq.symm eg5
  subst eg1 ey4 eg5
  exact E _ _ _ _ _ _ _ _ _ dX4_middleLeft_60 rfl (pr1 rfl) (pr2 rfl) hQ.hp hS (Nat.le_of_ble_eq_true rfl) (Nat.le_of_ble_eq_true rfl)
theorem k_X4_middleLeft {p : Program} {l : Launch} {e : Env} {R : Room} {s : State} {m : MethodId} {args : Array Value} {below : List Frame} {meth : Method} {c : Code} {H : Heap} {locs : List Loc} {cells slots : Nat} {Q : State → Prop} {cc : ByteArray} {pc nL : Nat} {ls : Array Slot} {rest : List Value} {G : gG} {own : String} {da : Nat → Nat} {v : vSt} {x : gX} (X : CX G p s m args c cc nL own) (hS : va_S (gA G) s.heap H locs) (hH : Hp G da v x H) {r : Nat} (hk_r : kd r = 4) (ho : oX4_middleLeft r v) {idx : Nat} (hml : Cond.methodLink own idx yX4_middleLeft ∈ TT) (hls : ls.size = nL) (hsum : (rest.map fun v => v.category).sum ≤ 8) (hR : rmX4_middleLeft.frames + 1 ≤ R.frames ∧ 8 + (3 + 11) + rmX4_middleLeft.locals ≤ R.locals) (hcs : cells + 12 ≤ R.cells ∧ slots + 12 ≤ R.slots) (hdg : decode cc pc = .ok (.invokevirtual idx, 3)) (kk : ∀ (d : Nat → Nat) (H1 : Heap) (locs1 : List Loc) (v1 : vSt), v1 = (fX4_middleLeft r v).2 → Hp G d v1 x H1 → va_S (gA G) s.heap H1 locs1 → W p l e R s m args below meth c H1 locs1 (cells + 12) (slots + 12) Q (F0 m (pc + 3) ls (.int (fX4_middleLeft r v).1 :: rest))) : W p l e R s m args below meth c H locs cells slots Q (F0 m pc ls (.ref (ga G r) :: rest)) := c_mi X.2.2.2.2.2.2 (runV (k := 0) X.1 X.2.1 X.2.2.1 X.2.2.2.1 X.2.2.2.2.1 (mX4_middleLeft l G da v x r hk_r ho) pW_bl hml t_im_X4_middleLeft t_sel_X4_middleLeft t_ini_PieceType t_code_X4_middleLeft ⟨rfl, by decide, by decide, by decide +kernel⟩ rfl rfl hR hcs (recvW X hH (by rw [hk_r]; decide) (by rw [hk_r]; decide) (ce_4 hk_r) rfl) (preW X hS hH) rfl hls rfl hsum hdg) hS kk
def fX4_spread (r : Nat) (v : vSt) : Int32 := (fX10_entry 12 (v (r + 10)) (fX4_placeOfGreatest 12 (v (r + 10)) (v r 9))) - (fX10_entry 12 (v (r + 10)) (fX4_placeOfLeast 12 (v (r + 10)) (v r 9)))
def oX4_spread (r : Nat) (v : vSt) : Prop := (oX4_placeOfGreatest 12 (v (r + 10)) (v r 9)) ∧ (oX4_placeOfLeast 12 (v (r + 10)) (v r 9))
abbrev rmX4_spread : Room := { frames := 2, cells := 0, slots := 0, locals := 44 }
theorem dX4_spread_0 : decode cX4_spread 0 = .ok (.aload_n 0, 1) := by decide +kernel
theorem dX4_spread_1 : decode cX4_spread 1 = .ok (.getfield 15, 3) := by decide +kernel
theorem dX4_spread_4 : decode cX4_spread 4 = .ok (.aload_n 0, 1) := by decide +kernel
theorem dX4_spread_5 : decode cX4_spread 5 = .ok (.getfield 15, 3) := by decide +kernel
theorem dX4_spread_8 : decode cX4_spread 8 = .ok (.aload_n 0, 1) := by decide +kernel
theorem dX4_spread_9 : decode cX4_spread 9 = .ok (.getfield 41, 3) := by decide +kernel
theorem dX4_spread_12 : decode cX4_spread 12 = .ok (.invokestatic 113, 3) := by decide +kernel
theorem dX4_spread_15 : decode cX4_spread 15 = .ok (.invokestatic 75, 3) := by decide +kernel
theorem dX4_spread_18 : decode cX4_spread 18 = .ok (.istore_n 1, 1) := by decide +kernel
theorem dX4_spread_19 : decode cX4_spread 19 = .ok (.iload_n 1, 1) := by decide +kernel
theorem dX4_spread_20 : decode cX4_spread 20 = .ok (.aload_n 0, 1) := by decide +kernel
theorem dX4_spread_21 : decode cX4_spread 21 = .ok (.getfield 15, 3) := by decide +kernel
theorem dX4_spread_24 : decode cX4_spread 24 = .ok (.aload_n 0, 1) := by decide +kernel
theorem dX4_spread_25 : decode cX4_spread 25 = .ok (.getfield 15, 3) := by decide +kernel
theorem dX4_spread_28 : decode cX4_spread 28 = .ok (.aload_n 0, 1) := by decide +kernel
theorem dX4_spread_29 : decode cX4_spread 29 = .ok (.getfield 41, 3) := by decide +kernel
theorem dX4_spread_32 : decode cX4_spread 32 = .ok (.invokestatic 106, 3) := by decide +kernel
theorem dX4_spread_35 : decode cX4_spread 35 = .ok (.invokestatic 75, 3) := by decide +kernel
theorem dX4_spread_38 : decode cX4_spread 38 = .ok (.isub, 1) := by decide +kernel
theorem dX4_spread_39 : decode cX4_spread 39 = .ok (.ireturn, 1) := by decide +kernel
set_option maxHeartbeats 8000000 in
set_option maxRecDepth 100000 in
theorem mX4_spread (l : Launch) (G : gG) (da : Nat → Nat) (v : vSt) (x : gX) (r : Nat) (hk_r : kd r = 4) (ho : oX4_spread r v) : QI l yX4_spread cX4_spread 2 (some .int) rmX4_spread [.ref (ga G r)] (pW G da v x) (fX4_spread r v) := by
  refine gofQ (own := RX4) (by decide) rfl (Nat.le_of_ble_eq_true rfl) (fun p e s m args below meth c ls Q X hH hl E => ?_)
  have hx := X.1
  have hb := X.2.1
  have hown := X.2.2.2.1
  have hts := X.2.2.2.2.1
  have hS : va_S (gA G) s.heap s.heap [] := va_S.rf
  unfold oX4_spread at ho
  have hl : lv_has ls 2 [(0, .ref (ga G r))] := hl
  refine lv_aload_n hx hb dX4_spread_0 rfl (lv_at hl 0 rfl) ?_
  refine g_PieceType_15 X hH hk_r dX4_spread_1 ?_
  refine lv_aload_n hx hb dX4_spread_4 rfl (lv_at hl 0 rfl) ?_
  refine g_PieceType_15 X hH hk_r dX4_spread_5 ?_
  refine lv_aload_n hx hb dX4_spread_8 rfl (lv_at hl 0 rfl) ?_
  refine g_PieceType_41 X hH hk_r dX4_spread_9 ?_
  have hq1 := ho.1
  have ho := ho.2
  refine k_X4_placeOfGreatest X hS (ia_25 X hH (kc_4_25 hk_r)) hq1 t_ml_PieceType_113 hl.1 (Nat.le_of_ble_eq_true rfl) ⟨Nat.le_of_ble_eq_true rfl, Nat.le_of_ble_eq_true rfl⟩ ⟨Nat.zero_le _, Nat.zero_le _⟩ dX4_spread_12 ?_
  refine kn_X10_entry X hS (ia_25 X hH (kc_4_25 hk_r)) t_mn_PieceType_75 hl.1 (Nat.le_of_ble_eq_true rfl) ⟨Nat.le_of_ble_eq_true rfl, Nat.le_of_ble_eq_true rfl⟩ ⟨Nat.zero_le _, Nat.zero_le _⟩ dX4_spread_15 ?_
  refine lv_istore_n (lv' := [(1, .int (fX10_entry 12 (v (r + 10)) (fX4_placeOfGreatest 12 (v (r + 10)) (v r 9)))), (0, .ref (ga G r))]) hx hb dX4_spread_18 rfl hl (by decide) rfl (fun ls hl => ?_)
  refine lv_iload_n hx hb dX4_spread_19 rfl (lv_at hl 0 rfl) ?_
  refine lv_aload_n hx hb dX4_spread_20 rfl (lv_at hl 1 rfl) ?_
  refine g_PieceType_15 X hH hk_r dX4_spread_21 ?_
  refine lv_aload_n hx hb dX4_spread_24 rfl (lv_at hl 1 rfl) ?_
  refine g_PieceType_15 X hH hk_r dX4_spread_25 ?_
  refine lv_aload_n hx hb dX4_spread_28 rfl (lv_at hl 1 rfl) ?_
  refine g_PieceType_41 X hH hk_r dX4_spread_29 ?_
  have hq2 := ho
  refine k_X4_placeOfLeast X hS (ia_25 X hH (kc_4_25 hk_r)) hq2 t_ml_PieceType_106 hl.1 (Nat.le_of_ble_eq_true rfl) ⟨Nat.le_of_ble_eq_true rfl, Nat.le_of_ble_eq_true rfl⟩ ⟨Nat.zero_le _, Nat.zero_le _⟩ dX4_spread_32 ?_
  refine kn_X10_entry X hS (ia_25 X hH (kc_4_25 hk_r)) t_mn_PieceType_75 hl.1 (Nat.le_of_ble_eq_true rfl) ⟨Nat.le_of_ble_eq_true rfl, Nat.le_of_ble_eq_true rfl⟩ ⟨Nat.zero_le _, Nat.zero_le _⟩ dX4_spread_35 ?_
  refine lv_isub hx hb dX4_spread_38 ?_
  exact E _ _ _ dX4_spread_39 rfl (Eq.symm rfl)
theorem k_X4_spread {p : Program} {l : Launch} {e : Env} {R : Room} {s : State} {m : MethodId} {args : Array Value} {below : List Frame} {meth : Method} {c : Code} {H : Heap} {locs : List Loc} {cells slots : Nat} {Q : State → Prop} {cc : ByteArray} {pc nL : Nat} {ls : Array Slot} {rest : List Value} {G : gG} {own : String} {da : Nat → Nat} {v : vSt} {x : gX} (X : CX G p s m args c cc nL own) (hS : va_S (gA G) s.heap H locs) (hH : Hp G da v x H) {r : Nat} (hk_r : kd r = 4) (ho : oX4_spread r v) {idx : Nat} (hml : Cond.methodLink own idx yX4_spread ∈ TT) (hls : ls.size = nL) (hsum : (rest.map fun v => v.category).sum ≤ 8) (hR : rmX4_spread.frames + 1 ≤ R.frames ∧ 8 + (2 + 11) + rmX4_spread.locals ≤ R.locals) (hcs : cells ≤ R.cells ∧ slots ≤ R.slots) (hdg : decode cc pc = .ok (.invokevirtual idx, 3)) (kk : W p l e R s m args below meth c H locs cells slots Q (F0 m (pc + 3) ls (.int (fX4_spread r v) :: rest))) : W p l e R s m args below meth c H locs cells slots Q (F0 m pc ls (.ref (ga G r) :: rest)) := c_qi (runV (k := 0) X.1 X.2.1 X.2.2.1 X.2.2.2.1 X.2.2.2.2.1 (mX4_spread l G da v x r hk_r ho) pW_bl hml t_im_X4_spread t_sel_X4_spread t_ini_PieceType t_code_X4_spread ⟨rfl, by decide, by decide, by decide +kernel⟩ rfl rfl hR hcs (recvW X hH (by rw [hk_r]; decide) (by rw [hk_r]; decide) (ce_4 hk_r) rfl) (preW X hS hH) rfl hls rfl hsum hdg) (fun _ h => h ▸ kk)
def lX4_throwOutOfChart_24 (v : vSt) (r : Nat) (p1 : Int32) : Nat → Int32 → Int32 → vSt → Int32 × vSt
  | 0, i3, i4, v5 => (i4, v5)
  | n + 1, i3, i4, v5 => if ((v r 9) : Int32) ≤ i3 then ((i4, v5)) else (if (12 : Int32) ≤ i3 then ((i4, v5)) else (let qy9 : Int32 × vSt := (if (p1 : Int32) < (if 0 ≤ (v5 (r + 10) (i3 : Int32).toNatClampNeg) - ((fX4_middleInOrder r v).1) then (v5 (r + 10) (i3 : Int32).toNatClampNeg) - ((fX4_middleInOrder r v).1) else 0 - ((v5 (r + 10) (i3 : Int32).toNatClampNeg) - ((fX4_middleInOrder r v).1)) : Int32) then ((i4, v5)) else (let v13 : vSt := u2 v5 (r + 10) (i4 : Int32).toNatClampNeg (v5 (r + 10) (i3 : Int32).toNatClampNeg); (i4 + 1, v13)) : Int32 × vSt); let y9 := qy9.1; let v10 := qy9.2; lX4_throwOutOfChart_24 v r p1 n (i3 + 1) y9 v10))
def olX4_throwOutOfChart_24 (v : vSt) (r : Nat) (p1 : Int32) : Nat → Int32 → Int32 → vSt → Prop
  | 0, _, _, _ => False
  | n + 1, i3, i4, v5 => ¬ (((v r 9) : Int32) ≤ i3) → (¬ ((12 : Int32) ≤ i3) → ((vp_in (i3) 12) ∧ ((¬ ((p1 : Int32) < (if 0 ≤ (v5 (r + 10) (i3 : Int32).toNatClampNeg) - ((fX4_middleInOrder r v).1) then (v5 (r + 10) (i3 : Int32).toNatClampNeg) - ((fX4_middleInOrder r v).1) else 0 - ((v5 (r + 10) (i3 : Int32).toNatClampNeg) - ((fX4_middleInOrder r v).1)) : Int32)) → (vp_in (i4) 12)) ∧ (∀ (y9 : Int32) (v10 : vSt), y9 = ((if (p1 : Int32) < (if 0 ≤ (v5 (r + 10) (i3 : Int32).toNatClampNeg) - ((fX4_middleInOrder r v).1) then (v5 (r + 10) (i3 : Int32).toNatClampNeg) - ((fX4_middleInOrder r v).1) else 0 - ((v5 (r + 10) (i3 : Int32).toNatClampNeg) - ((fX4_middleInOrder r v).1)) : Int32) then ((i4, v5)) else (let v13 : vSt := u2 v5 (r + 10) (i4 : Int32).toNatClampNeg (v5 (r + 10) (i3 : Int32).toNatClampNeg); (i4 + 1, v13)) : Int32 × vSt) : Int32 × vSt).1 → v10 = ((if (p1 : Int32) < (if 0 ≤ (v5 (r + 10) (i3 : Int32).toNatClampNeg) - ((fX4_middleInOrder r v).1) then (v5 (r + 10) (i3 : Int32).toNatClampNeg) - ((fX4_middleInOrder r v).1) else 0 - ((v5 (r + 10) (i3 : Int32).toNatClampNeg) - ((fX4_middleInOrder r v).1)) : Int32) then ((i4, v5)) else (let v13 : vSt := u2 v5 (r + 10) (i4 : Int32).toNatClampNeg (v5 (r + 10) (i3 : Int32).toNatClampNeg); (i4 + 1, v13)) : Int32 × vSt) : Int32 × vSt).2 → (olX4_throwOutOfChart_24 v r p1 n (i3 + 1) y9 v10)))))
def fX4_throwOutOfChart (r : Nat) (p1 : Int32) (v : vSt) : Int32 × vSt := let v2 : vSt := (fX4_middleInOrder r v).2; let qy6 : Int32 × vSt := (lX4_throwOutOfChart_24 v r p1 ((Int32.toInt ((v r 9)) - Int32.toInt 0).toNat + 1) 0 0 v2); let y6 := qy6.1; let v7 := qy6.2; let v14 : vSt := u2 v7 r 9 y6; ((v r 9) - y6, v14)
def oX4_throwOutOfChart (r : Nat) (p1 : Int32) (v : vSt) : Prop := (oX4_middleInOrder r v) ∧ (∀ v2 : vSt, v2 = ((fX4_middleInOrder r v).2) → (olX4_throwOutOfChart_24 v r p1 ((Int32.toInt ((v r 9)) - Int32.toInt 0).toNat + 1) 0 0 v2))
abbrev rmX4_throwOutOfChart : Room := { frames := 2, cells := 12, slots := 12, locals := 61 }
theorem dX4_throwOutOfChart_0 : decode cX4_throwOutOfChart 0 = .ok (.aload_n 0, 1) := by decide +kernel
theorem dX4_throwOutOfChart_1 : decode cX4_throwOutOfChart 1 = .ok (.getfield 41, 3) := by decide +kernel
theorem dX4_throwOutOfChart_4 : decode cX4_throwOutOfChart 4 = .ok (.istore_n 2, 1) := by decide +kernel
theorem dX4_throwOutOfChart_5 : decode cX4_throwOutOfChart 5 = .ok (.aload_n 0, 1) := by decide +kernel
theorem dX4_throwOutOfChart_6 : decode cX4_throwOutOfChart 6 = .ok (.invokevirtual 116, 3) := by decide +kernel
theorem dX4_throwOutOfChart_9 : decode cX4_throwOutOfChart 9 = .ok (.istore_n 3, 1) := by decide +kernel
theorem dX4_throwOutOfChart_10 : decode cX4_throwOutOfChart 10 = .ok (.iconst 0, 1) := by decide +kernel
theorem dX4_throwOutOfChart_11 : decode cX4_throwOutOfChart 11 = .ok (.istore 4, 2) := by decide +kernel
theorem dX4_throwOutOfChart_13 : decode cX4_throwOutOfChart 13 = .ok (.iconst 0, 1) := by decide +kernel
theorem dX4_throwOutOfChart_14 : decode cX4_throwOutOfChart 14 = .ok (.istore 5, 2) := by decide +kernel
theorem dX4_throwOutOfChart_16 : decode cX4_throwOutOfChart 16 = .ok (.iload 5, 2) := by decide +kernel
theorem dX4_throwOutOfChart_18 : decode cX4_throwOutOfChart 18 = .ok (.iload_n 2, 1) := by decide +kernel
theorem dX4_throwOutOfChart_19 : decode cX4_throwOutOfChart 19 = .ok (.if_icmp .ge 52, 3) := by decide +kernel
theorem dX4_throwOutOfChart_22 : decode cX4_throwOutOfChart 22 = .ok (.iload 5, 2) := by decide +kernel
theorem dX4_throwOutOfChart_24 : decode cX4_throwOutOfChart 24 = .ok (.aload_n 0, 1) := by decide +kernel
theorem dX4_throwOutOfChart_25 : decode cX4_throwOutOfChart 25 = .ok (.getfield 15, 3) := by decide +kernel
theorem dX4_throwOutOfChart_28 : decode cX4_throwOutOfChart 28 = .ok (.arraylength, 1) := by decide +kernel
theorem dX4_throwOutOfChart_29 : decode cX4_throwOutOfChart 29 = .ok (.if_icmp .ge 42, 3) := by decide +kernel
theorem dX4_throwOutOfChart_32 : decode cX4_throwOutOfChart 32 = .ok (.aload_n 0, 1) := by decide +kernel
theorem dX4_throwOutOfChart_33 : decode cX4_throwOutOfChart 33 = .ok (.getfield 15, 3) := by decide +kernel
theorem dX4_throwOutOfChart_36 : decode cX4_throwOutOfChart 36 = .ok (.iload 5, 2) := by decide +kernel
theorem dX4_throwOutOfChart_38 : decode cX4_throwOutOfChart 38 = .ok (.iaload, 1) := by decide +kernel
theorem dX4_throwOutOfChart_39 : decode cX4_throwOutOfChart 39 = .ok (.iload_n 3, 1) := by decide +kernel
theorem dX4_throwOutOfChart_40 : decode cX4_throwOutOfChart 40 = .ok (.isub, 1) := by decide +kernel
theorem dX4_throwOutOfChart_41 : decode cX4_throwOutOfChart 41 = .ok (.invokestatic 50, 3) := by decide +kernel
theorem dX4_throwOutOfChart_44 : decode cX4_throwOutOfChart 44 = .ok (.iload_n 1, 1) := by decide +kernel
theorem dX4_throwOutOfChart_45 : decode cX4_throwOutOfChart 45 = .ok (.if_icmp .gt 20, 3) := by decide +kernel
theorem dX4_throwOutOfChart_48 : decode cX4_throwOutOfChart 48 = .ok (.aload_n 0, 1) := by decide +kernel
theorem dX4_throwOutOfChart_49 : decode cX4_throwOutOfChart 49 = .ok (.getfield 15, 3) := by decide +kernel
theorem dX4_throwOutOfChart_52 : decode cX4_throwOutOfChart 52 = .ok (.iload 4, 2) := by decide +kernel
theorem dX4_throwOutOfChart_54 : decode cX4_throwOutOfChart 54 = .ok (.aload_n 0, 1) := by decide +kernel
theorem dX4_throwOutOfChart_55 : decode cX4_throwOutOfChart 55 = .ok (.getfield 15, 3) := by decide +kernel
theorem dX4_throwOutOfChart_58 : decode cX4_throwOutOfChart 58 = .ok (.iload 5, 2) := by decide +kernel
theorem dX4_throwOutOfChart_60 : decode cX4_throwOutOfChart 60 = .ok (.iaload, 1) := by decide +kernel
theorem dX4_throwOutOfChart_61 : decode cX4_throwOutOfChart 61 = .ok (.iastore, 1) := by decide +kernel
theorem dX4_throwOutOfChart_62 : decode cX4_throwOutOfChart 62 = .ok (.iinc 4 1, 3) := by decide +kernel
theorem dX4_throwOutOfChart_65 : decode cX4_throwOutOfChart 65 = .ok (.iinc 5 1, 3) := by decide +kernel
theorem dX4_throwOutOfChart_68 : decode cX4_throwOutOfChart 68 = .ok (.goto (-52), 3) := by decide +kernel
theorem dX4_throwOutOfChart_71 : decode cX4_throwOutOfChart 71 = .ok (.aload_n 0, 1) := by decide +kernel
theorem dX4_throwOutOfChart_72 : decode cX4_throwOutOfChart 72 = .ok (.iload 4, 2) := by decide +kernel
theorem dX4_throwOutOfChart_74 : decode cX4_throwOutOfChart 74 = .ok (.putfield 41, 3) := by decide +kernel
theorem dX4_throwOutOfChart_77 : decode cX4_throwOutOfChart 77 = .ok (.iload_n 2, 1) := by decide +kernel
theorem dX4_throwOutOfChart_78 : decode cX4_throwOutOfChart 78 = .ok (.iload 4, 2) := by decide +kernel
theorem dX4_throwOutOfChart_80 : decode cX4_throwOutOfChart 80 = .ok (.isub, 1) := by decide +kernel
theorem dX4_throwOutOfChart_81 : decode cX4_throwOutOfChart 81 = .ok (.ireturn, 1) := by decide +kernel
set_option maxHeartbeats 8000000 in
set_option maxRecDepth 100000 in
theorem mX4_throwOutOfChart (l : Launch) (G : gG) (da : Nat → Nat) (v : vSt) (x : gX) (r : Nat) (hk_r : kd r = 4) (p1 : Int32) (ho : oX4_throwOutOfChart r p1 v) : MI l yX4_throwOutOfChart cX4_throwOutOfChart 6 (some .int) rmX4_throwOutOfChart [.ref (ga G r), .int p1] G da v x 12 12 (fX4_throwOutOfChart r p1 v).1 (fX4_throwOutOfChart r p1 v).2 x := by
  refine gofMI (own := RX4) (by decide) rfl (Nat.le_of_ble_eq_true rfl) (fun p e s m args below meth c ls Q X hH hl E => ?_)
  have hx := X.1
  have hb := X.2.1
  have hown := X.2.2.2.1
  have hts := X.2.2.2.2.1
  have hS : va_S (gA G) s.heap s.heap [] := va_S.rf
  unfold oX4_throwOutOfChart at ho
  have hl : lv_has ls 6 [(0, .ref (ga G r)), (1, .int p1)] := hl
  refine lv_aload_n hx hb dX4_throwOutOfChart_0 rfl (lv_at hl 0 rfl) ?_
  refine g_PieceType_41 X hH hk_r dX4_throwOutOfChart_1 ?_
  refine lv_istore_n (lv' := [(2, .int (v r 9)), (0, .ref (ga G r)), (1, .int p1)]) hx hb dX4_throwOutOfChart_4 rfl hl (by decide) rfl (fun ls hl => ?_)
  refine lv_aload_n hx hb dX4_throwOutOfChart_5 rfl (lv_at hl 1 rfl) ?_
  have hq1 := ho.1
  have ho := ho.2
  refine k_X4_middleInOrder X hS hH hk_r hq1 t_ml_PieceType_116 hl.1 (Nat.le_of_ble_eq_true rfl) ⟨Nat.le_of_ble_eq_true rfl, Nat.le_of_ble_eq_true rfl⟩ ⟨(Nat.le_of_ble_eq_true rfl), (Nat.le_of_ble_eq_true rfl)⟩ dX4_throwOutOfChart_6 (fun da H locs v2 ev2 hH hS => ?_)
  have ho := ho v2 ev2
  refine lv_istore_n (lv' := [(3, .int ((fX4_middleInOrder r v).1)), (2, .int (v r 9)), (0, .ref (ga G r)), (1, .int p1)]) hx hb dX4_throwOutOfChart_9 rfl hl (by decide) rfl (fun ls hl => ?_)
  refine lv_iconst (v := 0) hx hb dX4_throwOutOfChart_10 (by decide) ?_
  refine lv_istore (lv' := [(4, .int 0), (3, .int ((fX4_middleInOrder r v).1)), (2, .int (v r 9)), (0, .ref (ga G r)), (1, .int p1)]) hx hb dX4_throwOutOfChart_11 hl (by decide) rfl (fun ls hl => ?_)
  refine lv_iconst (v := 0) hx hb dX4_throwOutOfChart_13 (by decide) ?_
  refine lv_istore (lv' := [(5, .int 0), (4, .int 0), (3, .int ((fX4_middleInOrder r v).1)), (2, .int (v r 9)), (0, .ref (ga G r)), (1, .int p1)]) hx hb dX4_throwOutOfChart_14 hl (by decide) rfl (fun ls hl => ?_)
  have L8 : ∀ (n : Nat) (i3 : Int32) (i4 : Int32) (v5 : vSt) (da : Nat → Nat) (H : Heap) (locs : List Loc) (ls : Array Slot), olX4_throwOutOfChart_24 v r p1 n i3 i4 v5 → Hp G da v5 x H → va_S (gA G) s.heap H locs → lv_has ls 6 [(5, .int i3), (4, .int i4), (3, .int ((fX4_middleInOrder r v).1)), (2, .int (v r 9)), (0, .ref (ga G r)), (1, .int p1)] → (∀ (y6 : Int32) (v7 : vSt) (da : Nat → Nat) (H : Heap) (locs : List Loc) (ls : Array Slot), y6 = (lX4_throwOutOfChart_24 v r p1 n i3 i4 v5 : Int32 × vSt).1 → v7 = (lX4_throwOutOfChart_24 v r p1 n i3 i4 v5 : Int32 × vSt).2 → Hp G da v7 x H → va_S (gA G) s.heap H locs → lv_has ls 6 [(4, .int y6), (2, .int (v r 9)), (0, .ref (ga G r))] → W p l e rmX4_throwOutOfChart s m args below meth c H locs (0 + 12) (0 + 12) Q (F0 m 71 ls [])) → W p l e rmX4_throwOutOfChart s m args below meth c H locs (0 + 12) (0 + 12) Q (F0 m 16 ls []) := by
    clear ho
    intro n
    induction n with
    | zero =>
      intro i3 i4 v5 da H locs ls ho
      exact ho.elim
    | succ n ih =>
      intro i3 i4 v5 da H locs ls ho hH hS hl K9
      refine lv_iload hx hb dX4_throwOutOfChart_16 (lv_at hl 0 rfl) ?_
      refine lv_iload_n hx hb dX4_throwOutOfChart_18 rfl (lv_at hl 3 rfl) ?_
      refine lv_icmp_ge (tgt := 71) hx hb dX4_throwOutOfChart_19 (by decide) (fun c6 => ?_) (fun c6 => ?_)
      · skip
        exact K9 _ _ _ _ _ _ (pr1 (((lX4_throwOutOfChart_24.eq_2 _ _ _ _ _ _ _)).trans ((if_pos c6).trans rfl))) (pr2 (((lX4_throwOutOfChart_24.eq_2 _ _ _ _ _ _ _)).trans ((if_pos c6).trans rfl))) hH hS (lv_sub hl [1, 3, 4] rfl)
      · have ho := ho c6
        refine lv_iload hx hb dX4_throwOutOfChart_22 (lv_at hl 0 rfl) ?_
        refine lv_aload_n hx hb dX4_throwOutOfChart_24 rfl (lv_at hl 4 rfl) ?_
        refine g_PieceType_15 X hH hk_r dX4_throwOutOfChart_25 ?_
        refine len_25 X hH (kc_4_25 hk_r) dX4_throwOutOfChart_28 ?_
        refine lv_icmp_ge (tgt := 71) hx hb dX4_throwOutOfChart_29 (by decide) (fun c7 => ?_) (fun c7 => ?_)
        · skip
          exact K9 _ _ _ _ _ _ (pr1 (((lX4_throwOutOfChart_24.eq_2 _ _ _ _ _ _ _)).trans ((if_neg c6).trans ((if_pos c7).trans rfl)))) (pr2 (((lX4_throwOutOfChart_24.eq_2 _ _ _ _ _ _ _)).trans ((if_neg c6).trans ((if_pos c7).trans rfl)))) hH hS (lv_sub hl [1, 3, 4] rfl)
        · have ho := ho c7
          refine lv_aload_n hx hb dX4_throwOutOfChart_32 rfl (lv_at hl 4 rfl) ?_
          refine g_PieceType_15 X hH hk_r dX4_throwOutOfChart_33 ?_
          refine lv_iload hx hb dX4_throwOutOfChart_36 (lv_at hl 0 rfl) ?_
          have hq8 := ho.1
          have ho := ho.2
          refine ald_25 X hH (kc_4_25 hk_r) hq8 dX4_throwOutOfChart_38 ?_
          refine lv_iload_n hx hb dX4_throwOutOfChart_39 rfl (lv_at hl 2 rfl) ?_
          refine lv_isub hx hb dX4_throwOutOfChart_40 ?_
          refine k_mabs X t_ml_PieceType_50 hl.1 ⟨Nat.le_of_ble_eq_true rfl, Nat.le_of_ble_eq_true rfl⟩ ⟨(Nat.le_of_ble_eq_true rfl), (Nat.le_of_ble_eq_true rfl)⟩ dX4_throwOutOfChart_41 ?_
          refine lv_iload_n hx hb dX4_throwOutOfChart_44 rfl (lv_at hl 5 rfl) ?_
          have K11 : ∀ (y9 : Int32) (v10 : vSt) (da : Nat → Nat) (H : Heap) (locs : List Loc) (ls : Array Slot), y9 = (if (p1 : Int32) < (if 0 ≤ (v5 (r + 10) (i3 : Int32).toNatClampNeg) - ((fX4_middleInOrder r v).1) then (v5 (r + 10) (i3 : Int32).toNatClampNeg) - ((fX4_middleInOrder r v).1) else 0 - ((v5 (r + 10) (i3 : Int32).toNatClampNeg) - ((fX4_middleInOrder r v).1)) : Int32) then ((i4, v5)) else (let v13 : vSt := u2 v5 (r + 10) (i4 : Int32).toNatClampNeg (v5 (r + 10) (i3 : Int32).toNatClampNeg); (i4 + 1, v13)) : Int32 × vSt).1 → v10 = (if (p1 : Int32) < (if 0 ≤ (v5 (r + 10) (i3 : Int32).toNatClampNeg) - ((fX4_middleInOrder r v).1) then (v5 (r + 10) (i3 : Int32).toNatClampNeg) - ((fX4_middleInOrder r v).1) else 0 - ((v5 (r + 10) (i3 : Int32).toNatClampNeg) - ((fX4_middleInOrder r v).1)) : Int32) then ((i4, v5)) else (let v13 : vSt := u2 v5 (r + 10) (i4 : Int32).toNatClampNeg (v5 (r + 10) (i3 : Int32).toNatClampNeg); (i4 + 1, v13)) : Int32 × vSt).2 → Hp G da v10 x H → va_S (gA G) s.heap H locs → lv_has ls 6 [(5, .int i3), (4, .int y9), (3, .int ((fX4_middleInOrder r v).1)), (2, .int (v r 9)), (0, .ref (ga G r)), (1, .int p1)] → W p l e rmX4_throwOutOfChart s m args below meth c H locs (0 + 12) (0 + 12) Q (F0 m 65 ls []) := by
            intro y9 v10 da H locs ls ey9 ev10 hH hS hl
            have ho := ho.2 y9 v10 ey9 ev10
            refine lv_iinc (v := i3 + 1) (lv' := [(5, .int (i3 + 1)), (4, .int y9), (3, .int ((fX4_middleInOrder r v).1)), (2, .int (v r 9)), (0, .ref (ga G r)), (1, .int p1)]) hx hb dX4_throwOutOfChart_65 hl (k := 0) rfl rfl (by decide) rfl (fun ls hl => ?_)
            refine lv_goto (tgt := 16) hx hb dX4_throwOutOfChart_68 (by decide) ?_
            replace ey9 := Eq.symm ey9
            replace ev10 := Eq.symm ev10
            subst ey9 ev10
            exact ih _ _ _ _ _ _ _ ho hH hS (lv_sub hl [0, 1, 2, 3, 4, 5] rfl) (fun y6 v7 da H locs ls q0 q1 hH hS hl => K9 y6 v7 da H locs ls (q0.trans (congrArg (fun z : Int32 × vSt => z.1) (Eq.symm (((lX4_throwOutOfChart_24.eq_2 _ _ _ _ _ _ _)).trans ((if_neg c6).trans ((if_neg c7).trans rfl)))))) (q1.trans (congrArg (fun z : Int32 × vSt => z.2) (Eq.symm (((lX4_throwOutOfChart_24.eq_2 _ _ _ _ _ _ _)).trans ((if_neg c6).trans ((if_neg c7).trans rfl)))))) hH hS hl)
          have ho := ho.1
          refine lv_icmp_gt (tgt := 65) hx hb dX4_throwOutOfChart_45 (by decide) (fun c11 => ?_) (fun c11 => ?_)
          · skip
            exact K11 _ _ _ _ _ _ (pr1 ((if_pos c11).trans rfl)) (pr2 ((if_pos c11).trans rfl)) hH hS (lv_sub hl [0, 1, 2, 3, 4, 5] rfl)
          · have ho := ho c11
            refine lv_aload_n hx hb dX4_throwOutOfChart_48 rfl (lv_at hl 4 rfl) ?_
            refine g_PieceType_15 X hH hk_r dX4_throwOutOfChart_49 ?_
            refine lv_iload hx hb dX4_throwOutOfChart_52 (lv_at hl 1 rfl) ?_
            refine lv_aload_n hx hb dX4_throwOutOfChart_54 rfl (lv_at hl 4 rfl) ?_
            refine g_PieceType_15 X hH hk_r dX4_throwOutOfChart_55 ?_
            refine lv_iload hx hb dX4_throwOutOfChart_58 (lv_at hl 0 rfl) ?_
            refine ald_25 X hH (kc_4_25 hk_r) hq8 dX4_throwOutOfChart_60 ?_
            have hq12 := ho
            refine ast_25 X hH hS (kc_4_25 hk_r) hq12 dX4_throwOutOfChart_61 (fun H locs v13 ev13 hH hS => ?_)
            refine lv_iinc (v := i4 + 1) (lv' := [(4, .int (i4 + 1)), (5, .int i3), (3, .int ((fX4_middleInOrder r v).1)), (2, .int (v r 9)), (0, .ref (ga G r)), (1, .int p1)]) hx hb dX4_throwOutOfChart_62 hl (k := 1) rfl rfl (by decide) rfl (fun ls hl => ?_)
            replace ev13 := Eq.symm ev13
            subst ev13
            exact K11 _ _ _ _ _ _ (pr1 ((if_neg c11).trans rfl)) (pr2 ((if_neg c11).trans rfl)) hH hS (lv_sub hl [1, 0, 2, 3, 4, 5] rfl)
  have hol := ho
  refine L8 ((Int32.toInt ((v r 9)) - Int32.toInt 0).toNat + 1) 0 0 v2 _ _ _ _ hol hH hS (lv_sub hl [0, 1, 2, 3, 4, 5] rfl) (fun y6 v7 da H locs ls ey6 ev7 hH hS hl => ?_)
  refine lv_aload_n hx hb dX4_throwOutOfChart_71 rfl (lv_at hl 2 rfl) ?_
  refine lv_iload hx hb dX4_throwOutOfChart_72 (lv_at hl 0 rfl) ?_
  refine p_PieceType_41 X hH hS hk_r dX4_throwOutOfChart_74 (fun H locs v14 ev14 hH hS => ?_)
  refine lv_iload_n hx hb dX4_throwOutOfChart_77 rfl (lv_at hl 1 rfl) ?_
  refine lv_iload hx hb dX4_throwOutOfChart_78 (lv_at hl 0 rfl) ?_
  refine lv_isub hx hb dX4_throwOutOfChart_80 ?_
  replace ev2 := Eq.symm ev2
  replace ey6 := Eq.symm ey6
  replace ev7 := Eq.symm ev7
  replace ev14 := Eq.symm ev14
  subst ev2 ey6 ev7 ev14
  exact E _ _ _ _ _ _ _ _ _ dX4_throwOutOfChart_81 rfl (pr1 rfl) (pr2 rfl) hH hS (Nat.le_of_ble_eq_true rfl) (Nat.le_of_ble_eq_true rfl)
theorem k_X4_throwOutOfChart {p : Program} {l : Launch} {e : Env} {R : Room} {s : State} {m : MethodId} {args : Array Value} {below : List Frame} {meth : Method} {c : Code} {H : Heap} {locs : List Loc} {cells slots : Nat} {Q : State → Prop} {cc : ByteArray} {pc nL : Nat} {ls : Array Slot} {rest : List Value} {G : gG} {own : String} {da : Nat → Nat} {v : vSt} {x : gX} (X : CX G p s m args c cc nL own) (hS : va_S (gA G) s.heap H locs) (hH : Hp G da v x H) {r : Nat} (hk_r : kd r = 4) {p1 : Int32} (ho : oX4_throwOutOfChart r p1 v) {idx : Nat} (hml : Cond.methodLink own idx yX4_throwOutOfChart ∈ TT) (hls : ls.size = nL) (hsum : (rest.map fun v => v.category).sum ≤ 8) (hR : rmX4_throwOutOfChart.frames + 1 ≤ R.frames ∧ 8 + (6 + 11) + rmX4_throwOutOfChart.locals ≤ R.locals) (hcs : cells + 12 ≤ R.cells ∧ slots + 12 ≤ R.slots) (hdg : decode cc pc = .ok (.invokevirtual idx, 3)) (kk : ∀ (d : Nat → Nat) (H1 : Heap) (locs1 : List Loc) (v1 : vSt), v1 = (fX4_throwOutOfChart r p1 v).2 → Hp G d v1 x H1 → va_S (gA G) s.heap H1 locs1 → W p l e R s m args below meth c H1 locs1 (cells + 12) (slots + 12) Q (F0 m (pc + 3) ls (.int (fX4_throwOutOfChart r p1 v).1 :: rest))) : W p l e R s m args below meth c H locs cells slots Q (F0 m pc ls (.int p1 :: .ref (ga G r) :: rest)) := c_mi X.2.2.2.2.2.2 (runV (k := 1) X.1 X.2.1 X.2.2.1 X.2.2.2.1 X.2.2.2.2.1 (mX4_throwOutOfChart l G da v x r hk_r p1 ho) pW_bl hml t_im_X4_throwOutOfChart t_sel_X4_throwOutOfChart t_ini_PieceType t_code_X4_throwOutOfChart ⟨rfl, by decide, by decide, by decide +kernel⟩ rfl rfl hR hcs (recvW X hH (by rw [hk_r]; decide) (by rw [hk_r]; decide) (ce_4 hk_r) rfl) (preW X hS hH) rfl hls rfl hsum hdg) hS kk
def fX4_takeResult (r : Nat) (p1 : Int32) (p2 : Int32) (v : vSt) : vSt := let v1 : vSt := u2 v r 5 0; let g3 : (Nat → Int32) := (fX10_append 12 (v1 (r + 10)) (v1 r 9) p1).2; let v4 : vSt := uA v1 (r + 10) g3; let v5 : vSt := u2 v4 r 9 ((fX10_append 12 (v1 (r + 10)) (v1 r 9) p1).1); let y6 : Int32 := (if (p2 : Int32) = 0 then 0 else 1 : Int32); let g9 : (Nat → Int32) := (fX10_append 10 (v5 (r + 5)) (v5 r 7) y6).2; let v10 : vSt := uA v5 (r + 5) g9; let v11 : vSt := u2 v10 r 7 ((fX10_append 10 (v5 (r + 5)) (v5 r 7) y6).1); if ((fX4_mannerAfter r p2 v11) : Int32) = (v11 r 4) then v11 else (let v13 : vSt := u2 v11 r 4 (fX4_mannerAfter r p2 v11); let v14 : vSt := u2 v13 r 7 0; v14)
def oX4_takeResult (r : Nat) (p1 : Int32) (p2 : Int32) (v : vSt) : Prop := ∀ v1 : vSt, v1 = (u2 v r 5 0) → ((oX10_append 12 (v1 (r + 10)) (v1 r 9) p1) ∧ (∀ g3 : (Nat → Int32), g3 = ((fX10_append 12 (v1 (r + 10)) (v1 r 9) p1).2) → (∀ v4 : vSt, v4 = (uA v1 (r + 10) g3) → (∀ v5 : vSt, v5 = (u2 v4 r 9 ((fX10_append 12 (v1 (r + 10)) (v1 r 9) p1).1)) → ((∀ (y6 : Int32), y6 = ((if (p2 : Int32) = 0 then 0 else 1 : Int32) : Int32) → (oX10_append 10 (v5 (r + 5)) (v5 r 7) y6)))))))
abbrev rmX4_takeResult : Room := { frames := 3, cells := 0, slots := 0, locals := 65 }
theorem dX4_takeResult_0 : decode cX4_takeResult 0 = .ok (.aload_n 0, 1) := by decide +kernel
theorem dX4_takeResult_1 : decode cX4_takeResult 1 = .ok (.iconst 0, 1) := by decide +kernel
theorem dX4_takeResult_2 : decode cX4_takeResult 2 = .ok (.putfield 34, 3) := by decide +kernel
theorem dX4_takeResult_5 : decode cX4_takeResult 5 = .ok (.aload_n 0, 1) := by decide +kernel
theorem dX4_takeResult_6 : decode cX4_takeResult 6 = .ok (.aload_n 0, 1) := by decide +kernel
theorem dX4_takeResult_7 : decode cX4_takeResult 7 = .ok (.getfield 15, 3) := by decide +kernel
theorem dX4_takeResult_10 : decode cX4_takeResult 10 = .ok (.aload_n 0, 1) := by decide +kernel
theorem dX4_takeResult_11 : decode cX4_takeResult 11 = .ok (.getfield 41, 3) := by decide +kernel
theorem dX4_takeResult_14 : decode cX4_takeResult 14 = .ok (.iload_n 1, 1) := by decide +kernel
theorem dX4_takeResult_15 : decode cX4_takeResult 15 = .ok (.invokestatic 56, 3) := by decide +kernel
theorem dX4_takeResult_18 : decode cX4_takeResult 18 = .ok (.putfield 41, 3) := by decide +kernel
theorem dX4_takeResult_21 : decode cX4_takeResult 21 = .ok (.aload_n 0, 1) := by decide +kernel
theorem dX4_takeResult_22 : decode cX4_takeResult 22 = .ok (.aload_n 0, 1) := by decide +kernel
theorem dX4_takeResult_23 : decode cX4_takeResult 23 = .ok (.getfield 9, 3) := by decide +kernel
theorem dX4_takeResult_26 : decode cX4_takeResult 26 = .ok (.aload_n 0, 1) := by decide +kernel
theorem dX4_takeResult_27 : decode cX4_takeResult 27 = .ok (.getfield 38, 3) := by decide +kernel
theorem dX4_takeResult_30 : decode cX4_takeResult 30 = .ok (.iload_n 2, 1) := by decide +kernel
theorem dX4_takeResult_31 : decode cX4_takeResult 31 = .ok (.ifCond .eq 7, 3) := by decide +kernel
theorem dX4_takeResult_34 : decode cX4_takeResult 34 = .ok (.iconst 1, 1) := by decide +kernel
theorem dX4_takeResult_35 : decode cX4_takeResult 35 = .ok (.goto 4, 3) := by decide +kernel
theorem dX4_takeResult_38 : decode cX4_takeResult 38 = .ok (.iconst 0, 1) := by decide +kernel
theorem dX4_takeResult_39 : decode cX4_takeResult 39 = .ok (.invokestatic 56, 3) := by decide +kernel
theorem dX4_takeResult_42 : decode cX4_takeResult 42 = .ok (.putfield 38, 3) := by decide +kernel
theorem dX4_takeResult_45 : decode cX4_takeResult 45 = .ok (.aload_n 0, 1) := by decide +kernel
theorem dX4_takeResult_46 : decode cX4_takeResult 46 = .ok (.iload_n 2, 1) := by decide +kernel
theorem dX4_takeResult_47 : decode cX4_takeResult 47 = .ok (.invokevirtual 60, 3) := by decide +kernel
theorem dX4_takeResult_50 : decode cX4_takeResult 50 = .ok (.istore_n 3, 1) := by decide +kernel
theorem dX4_takeResult_51 : decode cX4_takeResult 51 = .ok (.iload_n 3, 1) := by decide +kernel
theorem dX4_takeResult_52 : decode cX4_takeResult 52 = .ok (.aload_n 0, 1) := by decide +kernel
theorem dX4_takeResult_53 : decode cX4_takeResult 53 = .ok (.getfield 31, 3) := by decide +kernel
theorem dX4_takeResult_56 : decode cX4_takeResult 56 = .ok (.if_icmp .eq 13, 3) := by decide +kernel
theorem dX4_takeResult_59 : decode cX4_takeResult 59 = .ok (.aload_n 0, 1) := by decide +kernel
theorem dX4_takeResult_60 : decode cX4_takeResult 60 = .ok (.iload_n 3, 1) := by decide +kernel
theorem dX4_takeResult_61 : decode cX4_takeResult 61 = .ok (.putfield 31, 3) := by decide +kernel
theorem dX4_takeResult_64 : decode cX4_takeResult 64 = .ok (.aload_n 0, 1) := by decide +kernel
theorem dX4_takeResult_65 : decode cX4_takeResult 65 = .ok (.iconst 0, 1) := by decide +kernel
theorem dX4_takeResult_66 : decode cX4_takeResult 66 = .ok (.putfield 38, 3) := by decide +kernel
theorem dX4_takeResult_69 : decode cX4_takeResult 69 = .ok (.return_, 1) := by decide +kernel
set_option maxHeartbeats 8000000 in
set_option maxRecDepth 100000 in
theorem mX4_takeResult (l : Launch) (G : gG) (da : Nat → Nat) (v : vSt) (x : gX) (r : Nat) (hk_r : kd r = 4) (p1 : Int32) (p2 : Int32) (ho : oX4_takeResult r p1 p2 v) : MV l yX4_takeResult cX4_takeResult 4 none rmX4_takeResult [.ref (ga G r), .int p1, .int p2] G da v x 0 0 (fX4_takeResult r p1 p2 v) x := by
  refine gofMV (own := RX4) (by decide) rfl (Nat.le_of_ble_eq_true rfl) (fun p e s m args below meth c ls Q X hH hl E => ?_)
  have hx := X.1
  have hb := X.2.1
  have hown := X.2.2.2.1
  have hts := X.2.2.2.2.1
  have hS : va_S (gA G) s.heap s.heap [] := va_S.rf
  unfold oX4_takeResult at ho
  have hl : lv_has ls 4 [(0, .ref (ga G r)), (1, .int p1), (2, .int p2)] := hl
  refine lv_aload_n hx hb dX4_takeResult_0 rfl (lv_at hl 0 rfl) ?_
  refine lv_iconst (v := 0) hx hb dX4_takeResult_1 (by decide) ?_
  refine p_PieceType_34 X hH hS hk_r rfl rfl dX4_takeResult_2 (fun H locs v1 ev1 hH hS => ?_)
  have ho := ho v1 ev1
  refine lv_aload_n hx hb dX4_takeResult_5 rfl (lv_at hl 0 rfl) ?_
  refine lv_aload_n hx hb dX4_takeResult_6 rfl (lv_at hl 0 rfl) ?_
  refine g_PieceType_15 X hH hk_r dX4_takeResult_7 ?_
  refine lv_aload_n hx hb dX4_takeResult_10 rfl (lv_at hl 0 rfl) ?_
  refine g_PieceType_41 X hH hk_r dX4_takeResult_11 ?_
  refine lv_iload_n hx hb dX4_takeResult_14 rfl (lv_at hl 1 rfl) ?_
  have hq2 := ho.1
  have ho := ho.2
  refine kn_X10_append X hS (hH.la_25 (kc_4_25 hk_r)) (by decide) hq2 t_mn_PieceType_56 hl.1 (Nat.le_of_ble_eq_true rfl) ⟨Nat.le_of_ble_eq_true rfl, Nat.le_of_ble_eq_true rfl⟩ ⟨Nat.zero_le _, Nat.zero_le _⟩ dX4_takeResult_15 (hH.gb_25 (kc_4_25 hk_r)) (gA_of (hH.gb_25 (kc_4_25 hk_r))) (fun H locs g3 eg3 hA1 hoth hsz hS => ?_)
  obtain ⟨v4, ev4⟩ : ∃ z, z = uA v1 (r + 10) g3 := ⟨_, rfl⟩
  replace hH := hH.row_25 (kc_4_25 hk_r) ev4 hA1 hoth
  clear hA1 hoth hsz
  have ho := ho g3 eg3
  have ho := ho v4 ev4
  refine p_PieceType_41 X hH hS hk_r dX4_takeResult_18 (fun H locs v5 ev5 hH hS => ?_)
  have ho := ho v5 ev5
  refine lv_aload_n hx hb dX4_takeResult_21 rfl (lv_at hl 0 rfl) ?_
  refine lv_aload_n hx hb dX4_takeResult_22 rfl (lv_at hl 0 rfl) ?_
  refine g_PieceType_9 X hH hk_r dX4_takeResult_23 ?_
  refine lv_aload_n hx hb dX4_takeResult_26 rfl (lv_at hl 0 rfl) ?_
  refine g_PieceType_38 X hH hk_r dX4_takeResult_27 ?_
  refine lv_iload_n hx hb dX4_takeResult_30 rfl (lv_at hl 2 rfl) ?_
  have K7 : ∀ (y6 : Int32) (ls : Array Slot), y6 = (if (p2 : Int32) = 0 then 0 else 1 : Int32) → lv_has ls 4 [(0, .ref (ga G r)), (2, .int p2)] → W p l e rmX4_takeResult s m args below meth c H locs 0 0 Q (F0 m 39 ls [.int y6, .int (v5 r 7), .ref (ga G (r + 5)), .ref (ga G r)]) := by
    intro y6 ls ey6 hl
    have ho := ho y6 ey6
    have hq8 := ho
    refine kn_X10_append X hS (hH.la_24 (kc_4_24 hk_r)) (by decide) hq8 t_mn_PieceType_56 hl.1 (Nat.le_of_ble_eq_true rfl) ⟨Nat.le_of_ble_eq_true rfl, Nat.le_of_ble_eq_true rfl⟩ ⟨Nat.zero_le _, Nat.zero_le _⟩ dX4_takeResult_39 (hH.gb_24 (kc_4_24 hk_r)) (gA_of (hH.gb_24 (kc_4_24 hk_r))) (fun H locs g9 eg9 hA1 hoth hsz hS => ?_)
    obtain ⟨v10, ev10⟩ : ∃ z, z = uA v5 (r + 5) g9 := ⟨_, rfl⟩
    replace hH := hH.row_24 (kc_4_24 hk_r) ev10 hA1 hoth
    clear hA1 hoth hsz
    refine p_PieceType_38 X hH hS hk_r dX4_takeResult_42 (fun H locs v11 ev11 hH hS => ?_)
    refine lv_aload_n hx hb dX4_takeResult_45 rfl (lv_at hl 0 rfl) ?_
    refine lv_iload_n hx hb dX4_takeResult_46 rfl (lv_at hl 1 rfl) ?_
    refine k_X4_mannerAfter X hS hH hk_r t_ml_PieceType_60 hl.1 (Nat.le_of_ble_eq_true rfl) ⟨Nat.le_of_ble_eq_true rfl, Nat.le_of_ble_eq_true rfl⟩ ⟨Nat.zero_le _, Nat.zero_le _⟩ dX4_takeResult_47 ?_
    refine lv_istore_n (lv' := [(3, .int (fX4_mannerAfter r p2 v11)), (0, .ref (ga G r)), (2, .int p2)]) hx hb dX4_takeResult_50 rfl hl (by decide) rfl (fun ls hl => ?_)
    refine lv_iload_n hx hb dX4_takeResult_51 rfl (lv_at hl 0 rfl) ?_
    refine lv_aload_n hx hb dX4_takeResult_52 rfl (lv_at hl 1 rfl) ?_
    refine g_PieceType_31 X hH hk_r dX4_takeResult_53 ?_
    refine lv_icmp_eq (tgt := 69) hx hb dX4_takeResult_56 (by decide) (fun c12 => ?_) (fun c12 => ?_)
    · skip
      replace ev1 := Eq.symm ev1
      replace eg3 := Eq.symm eg3
      replace ev4 := Eq.symm ev4
      replace ev5 := Eq.symm ev5
      replace ey6 := Eq.symm ey6
      replace eg9 := Eq.symm eg9
      replace ev10 := Eq.symm ev10
      replace ev11 := Eq.symm ev11
      subst ev1 eg3 ev4 ev5 ey6 eg9 ev10 ev11
      exact E _ _ _ _ _ _ _ _ dX4_takeResult_69 (Eq.symm ((fX4_takeResult.eq_1 _ _ _ _).trans ((if_pos c12).trans rfl))) hH hS (Nat.zero_le _) (Nat.zero_le _)
    · skip
      refine lv_aload_n hx hb dX4_takeResult_59 rfl (lv_at hl 1 rfl) ?_
      refine lv_iload_n hx hb dX4_takeResult_60 rfl (lv_at hl 0 rfl) ?_
      refine p_PieceType_31 X hH hS hk_r dX4_takeResult_61 (fun H locs v13 ev13 hH hS => ?_)
      refine lv_aload_n hx hb dX4_takeResult_64 rfl (lv_at hl 1 rfl) ?_
      refine lv_iconst (v := 0) hx hb dX4_takeResult_65 (by decide) ?_
      refine p_PieceType_38 X hH hS hk_r dX4_takeResult_66 (fun H locs v14 ev14 hH hS => ?_)
      replace ev1 := Eq.symm ev1
      replace eg3 := Eq.symm eg3
      replace ev4 := Eq.symm ev4
      replace ev5 := Eq.symm ev5
      replace ey6 := Eq.symm ey6
      replace eg9 := Eq.symm eg9
      replace ev10 := Eq.symm ev10
      replace ev11 := Eq.symm ev11
      replace ev13 := Eq.symm ev13
      replace ev14 := Eq.symm ev14
      subst ev1 eg3 ev4 ev5 ey6 eg9 ev10 ev11 ev13 ev14
      exact E _ _ _ _ _ _ _ _ dX4_takeResult_69 (Eq.symm ((fX4_takeResult.eq_1 _ _ _ _).trans ((if_neg c12).trans rfl))) hH hS (Nat.zero_le _) (Nat.zero_le _)
  refine lv_if_eq (tgt := 38) hx hb dX4_takeResult_31 (by decide) (fun c7 => ?_) (fun c7 => ?_)
  · skip
    refine lv_iconst (v := 0) hx hb dX4_takeResult_38 (by decide) ?_
    exact K7 _ _ (Eq.symm ((if_pos c7).trans rfl)) (lv_sub hl [0, 2] rfl)
  · skip
    refine lv_iconst (v := 1) hx hb dX4_takeResult_34 (by decide) ?_
    refine lv_goto (tgt := 39) hx hb dX4_takeResult_35 (by decide) ?_
    exact K7 _ _ (Eq.symm ((if_neg c7).trans rfl)) (lv_sub hl [0, 2] rfl)
theorem k_X4_takeResult {p : Program} {l : Launch} {e : Env} {R : Room} {s : State} {m : MethodId} {args : Array Value} {below : List Frame} {meth : Method} {c : Code} {H : Heap} {locs : List Loc} {cells slots : Nat} {Q : State → Prop} {cc : ByteArray} {pc nL : Nat} {ls : Array Slot} {rest : List Value} {G : gG} {own : String} {da : Nat → Nat} {v : vSt} {x : gX} (X : CX G p s m args c cc nL own) (hS : va_S (gA G) s.heap H locs) (hH : Hp G da v x H) {r : Nat} (hk_r : kd r = 4) {p1 : Int32} {p2 : Int32} (ho : oX4_takeResult r p1 p2 v) {idx : Nat} (hml : Cond.methodLink own idx yX4_takeResult ∈ TT) (hls : ls.size = nL) (hsum : (rest.map fun v => v.category).sum ≤ 8) (hR : rmX4_takeResult.frames + 1 ≤ R.frames ∧ 8 + (4 + 11) + rmX4_takeResult.locals ≤ R.locals) (hcs : cells ≤ R.cells ∧ slots ≤ R.slots) (hdg : decode cc pc = .ok (.invokevirtual idx, 3)) (kk : ∀ (d : Nat → Nat) (H1 : Heap) (locs1 : List Loc) (v1 : vSt), v1 = fX4_takeResult r p1 p2 v → Hp G d v1 x H1 → va_S (gA G) s.heap H1 locs1 → W p l e R s m args below meth c H1 locs1 cells slots Q (F0 m (pc + 3) ls rest)) : W p l e R s m args below meth c H locs cells slots Q (F0 m pc ls (.int p2 :: .int p1 :: .ref (ga G r) :: rest)) := c_mv X.2.2.2.2.2.2 (runV (k := 2) X.1 X.2.1 X.2.2.1 X.2.2.2.1 X.2.2.2.2.1 (mX4_takeResult l G da v x r hk_r p1 p2 ho) pW_bl hml t_im_X4_takeResult t_sel_X4_takeResult t_ini_PieceType t_code_X4_takeResult ⟨rfl, by decide, by decide, by decide +kernel⟩ rfl rfl hR hcs (recvW X hH (by rw [hk_r]; decide) (by rw [hk_r]; decide) (ce_4 hk_r) rfl) (preW X hS hH) rfl hls rfl hsum hdg) hS kk
def fX4_copyFrom (r : Nat) (o1 : Nat) (v : vSt) : vSt := let v1 : vSt := u2 v r 0 (v o1 0); let v2 : vSt := u2 v1 r 1 (v1 o1 1); let v3 : vSt := u2 v2 r 2 (v2 o1 2); let v4 : vSt := u2 v3 r 3 (v3 o1 3); let v5 : vSt := u2 v4 r 4 (v4 o1 4); let v7 : vSt := u2 v5 r 5 (v5 o1 5); let v8 : vSt := u2 v7 r 7 (v7 o1 7); let v9 : vSt := uA v8 (r + 5) (va_cpy (v8 (o1 + 5)) (v8 (r + 5)) (0 : Int32).toNatClampNeg (0 : Int32).toNatClampNeg (10 : Int32).toNatClampNeg); let v10 : vSt := u2 v9 r 9 (v9 o1 9); let v11 : vSt := uA v10 (r + 10) (va_cpy (v10 (o1 + 10)) (v10 (r + 10)) (0 : Int32).toNatClampNeg (0 : Int32).toNatClampNeg (12 : Int32).toNatClampNeg); v11
def oX4_copyFrom (r : Nat) (o1 : Nat) (v : vSt) : Prop := ∀ v1 : vSt, v1 = (u2 v r 0 (v o1 0)) → (∀ v2 : vSt, v2 = (u2 v1 r 1 (v1 o1 1)) → (∀ v3 : vSt, v3 = (u2 v2 r 2 (v2 o1 2)) → (∀ v4 : vSt, v4 = (u2 v3 r 3 (v3 o1 3)) → (∀ v5 : vSt, v5 = (u2 v4 r 4 (v4 o1 4)) → (((v5 o1 5 : Int32) = 0 ∨ (v5 o1 5 : Int32) = 1))))))
abbrev rmX4_copyFrom : Room := { frames := 1, cells := 0, slots := 0, locals := 40 }
theorem dX4_copyFrom_0 : decode cX4_copyFrom 0 = .ok (.aload_n 0, 1) := by decide +kernel
theorem dX4_copyFrom_1 : decode cX4_copyFrom 1 = .ok (.aload_n 1, 1) := by decide +kernel
theorem dX4_copyFrom_2 : decode cX4_copyFrom 2 = .ok (.getfield 18, 3) := by decide +kernel
theorem dX4_copyFrom_5 : decode cX4_copyFrom 5 = .ok (.putfield 18, 3) := by decide +kernel
theorem dX4_copyFrom_8 : decode cX4_copyFrom 8 = .ok (.aload_n 0, 1) := by decide +kernel
theorem dX4_copyFrom_9 : decode cX4_copyFrom 9 = .ok (.aload_n 1, 1) := by decide +kernel
theorem dX4_copyFrom_10 : decode cX4_copyFrom 10 = .ok (.getfield 22, 3) := by decide +kernel
theorem dX4_copyFrom_13 : decode cX4_copyFrom 13 = .ok (.putfield 22, 3) := by decide +kernel
theorem dX4_copyFrom_16 : decode cX4_copyFrom 16 = .ok (.aload_n 0, 1) := by decide +kernel
theorem dX4_copyFrom_17 : decode cX4_copyFrom 17 = .ok (.aload_n 1, 1) := by decide +kernel
theorem dX4_copyFrom_18 : decode cX4_copyFrom 18 = .ok (.getfield 25, 3) := by decide +kernel
theorem dX4_copyFrom_21 : decode cX4_copyFrom 21 = .ok (.putfield 25, 3) := by decide +kernel
theorem dX4_copyFrom_24 : decode cX4_copyFrom 24 = .ok (.aload_n 0, 1) := by decide +kernel
theorem dX4_copyFrom_25 : decode cX4_copyFrom 25 = .ok (.aload_n 1, 1) := by decide +kernel
theorem dX4_copyFrom_26 : decode cX4_copyFrom 26 = .ok (.getfield 28, 3) := by decide +kernel
theorem dX4_copyFrom_29 : decode cX4_copyFrom 29 = .ok (.putfield 28, 3) := by decide +kernel
theorem dX4_copyFrom_32 : decode cX4_copyFrom 32 = .ok (.aload_n 0, 1) := by decide +kernel
theorem dX4_copyFrom_33 : decode cX4_copyFrom 33 = .ok (.aload_n 1, 1) := by decide +kernel
theorem dX4_copyFrom_34 : decode cX4_copyFrom 34 = .ok (.getfield 31, 3) := by decide +kernel
theorem dX4_copyFrom_37 : decode cX4_copyFrom 37 = .ok (.putfield 31, 3) := by decide +kernel
theorem dX4_copyFrom_40 : decode cX4_copyFrom 40 = .ok (.aload_n 0, 1) := by decide +kernel
theorem dX4_copyFrom_41 : decode cX4_copyFrom 41 = .ok (.aload_n 1, 1) := by decide +kernel
theorem dX4_copyFrom_42 : decode cX4_copyFrom 42 = .ok (.getfield 34, 3) := by decide +kernel
theorem dX4_copyFrom_45 : decode cX4_copyFrom 45 = .ok (.putfield 34, 3) := by decide +kernel
theorem dX4_copyFrom_48 : decode cX4_copyFrom 48 = .ok (.aload_n 0, 1) := by decide +kernel
theorem dX4_copyFrom_49 : decode cX4_copyFrom 49 = .ok (.aload_n 1, 1) := by decide +kernel
theorem dX4_copyFrom_50 : decode cX4_copyFrom 50 = .ok (.getfield 38, 3) := by decide +kernel
theorem dX4_copyFrom_53 : decode cX4_copyFrom 53 = .ok (.putfield 38, 3) := by decide +kernel
theorem dX4_copyFrom_56 : decode cX4_copyFrom 56 = .ok (.aload_n 1, 1) := by decide +kernel
theorem dX4_copyFrom_57 : decode cX4_copyFrom 57 = .ok (.getfield 9, 3) := by decide +kernel
theorem dX4_copyFrom_60 : decode cX4_copyFrom 60 = .ok (.iconst 0, 1) := by decide +kernel
theorem dX4_copyFrom_61 : decode cX4_copyFrom 61 = .ok (.aload_n 0, 1) := by decide +kernel
theorem dX4_copyFrom_62 : decode cX4_copyFrom 62 = .ok (.getfield 9, 3) := by decide +kernel
theorem dX4_copyFrom_65 : decode cX4_copyFrom 65 = .ok (.iconst 0, 1) := by decide +kernel
theorem dX4_copyFrom_66 : decode cX4_copyFrom 66 = .ok (.bipush 10, 2) := by decide +kernel
theorem dX4_copyFrom_68 : decode cX4_copyFrom 68 = .ok (.invokestatic 44, 3) := by decide +kernel
theorem dX4_copyFrom_71 : decode cX4_copyFrom 71 = .ok (.aload_n 0, 1) := by decide +kernel
theorem dX4_copyFrom_72 : decode cX4_copyFrom 72 = .ok (.aload_n 1, 1) := by decide +kernel
theorem dX4_copyFrom_73 : decode cX4_copyFrom 73 = .ok (.getfield 41, 3) := by decide +kernel
theorem dX4_copyFrom_76 : decode cX4_copyFrom 76 = .ok (.putfield 41, 3) := by decide +kernel
theorem dX4_copyFrom_79 : decode cX4_copyFrom 79 = .ok (.aload_n 1, 1) := by decide +kernel
theorem dX4_copyFrom_80 : decode cX4_copyFrom 80 = .ok (.getfield 15, 3) := by decide +kernel
theorem dX4_copyFrom_83 : decode cX4_copyFrom 83 = .ok (.iconst 0, 1) := by decide +kernel
theorem dX4_copyFrom_84 : decode cX4_copyFrom 84 = .ok (.aload_n 0, 1) := by decide +kernel
theorem dX4_copyFrom_85 : decode cX4_copyFrom 85 = .ok (.getfield 15, 3) := by decide +kernel
theorem dX4_copyFrom_88 : decode cX4_copyFrom 88 = .ok (.iconst 0, 1) := by decide +kernel
theorem dX4_copyFrom_89 : decode cX4_copyFrom 89 = .ok (.bipush 12, 2) := by decide +kernel
theorem dX4_copyFrom_91 : decode cX4_copyFrom 91 = .ok (.invokestatic 44, 3) := by decide +kernel
theorem dX4_copyFrom_94 : decode cX4_copyFrom 94 = .ok (.return_, 1) := by decide +kernel
set_option maxHeartbeats 8000000 in
set_option maxRecDepth 100000 in
theorem mX4_copyFrom (l : Launch) (G : gG) (da : Nat → Nat) (v : vSt) (x : gX) (r : Nat) (hk_r : kd r = 4) (o1 : Nat) (hk_o1 : kd o1 = 4) (ho : oX4_copyFrom r o1 v) : MV l yX4_copyFrom cX4_copyFrom 2 none rmX4_copyFrom [.ref (ga G r), .ref (ga G o1)] G da v x 0 0 (fX4_copyFrom r o1 v) x := by
  refine gofMV (own := RX4) (by decide) rfl (Nat.le_of_ble_eq_true rfl) (fun p e s m args below meth c ls Q X hH hl E => ?_)
  have hx := X.1
  have hb := X.2.1
  have hown := X.2.2.2.1
  have hts := X.2.2.2.2.1
  have hS : va_S (gA G) s.heap s.heap [] := va_S.rf
  unfold oX4_copyFrom at ho
  have hl : lv_has ls 2 [(0, .ref (ga G r)), (1, .ref (ga G o1))] := hl
  refine lv_aload_n hx hb dX4_copyFrom_0 rfl (lv_at hl 0 rfl) ?_
  refine lv_aload_n hx hb dX4_copyFrom_1 rfl (lv_at hl 1 rfl) ?_
  refine g_PieceType_18 X hH hk_o1 dX4_copyFrom_2 ?_
  refine p_PieceType_18 X hH hS hk_r dX4_copyFrom_5 (fun H locs v1 ev1 hH hS => ?_)
  have ho := ho v1 ev1
  refine lv_aload_n hx hb dX4_copyFrom_8 rfl (lv_at hl 0 rfl) ?_
  refine lv_aload_n hx hb dX4_copyFrom_9 rfl (lv_at hl 1 rfl) ?_
  refine g_PieceType_22 X hH hk_o1 dX4_copyFrom_10 ?_
  refine p_PieceType_22 X hH hS hk_r dX4_copyFrom_13 (fun H locs v2 ev2 hH hS => ?_)
  have ho := ho v2 ev2
  refine lv_aload_n hx hb dX4_copyFrom_16 rfl (lv_at hl 0 rfl) ?_
  refine lv_aload_n hx hb dX4_copyFrom_17 rfl (lv_at hl 1 rfl) ?_
  refine g_PieceType_25 X hH hk_o1 dX4_copyFrom_18 ?_
  refine p_PieceType_25 X hH hS hk_r dX4_copyFrom_21 (fun H locs v3 ev3 hH hS => ?_)
  have ho := ho v3 ev3
  refine lv_aload_n hx hb dX4_copyFrom_24 rfl (lv_at hl 0 rfl) ?_
  refine lv_aload_n hx hb dX4_copyFrom_25 rfl (lv_at hl 1 rfl) ?_
  refine g_PieceType_28 X hH hk_o1 dX4_copyFrom_26 ?_
  refine p_PieceType_28 X hH hS hk_r dX4_copyFrom_29 (fun H locs v4 ev4 hH hS => ?_)
  have ho := ho v4 ev4
  refine lv_aload_n hx hb dX4_copyFrom_32 rfl (lv_at hl 0 rfl) ?_
  refine lv_aload_n hx hb dX4_copyFrom_33 rfl (lv_at hl 1 rfl) ?_
  refine g_PieceType_31 X hH hk_o1 dX4_copyFrom_34 ?_
  refine p_PieceType_31 X hH hS hk_r dX4_copyFrom_37 (fun H locs v5 ev5 hH hS => ?_)
  have ho := ho v5 ev5
  refine lv_aload_n hx hb dX4_copyFrom_40 rfl (lv_at hl 0 rfl) ?_
  refine lv_aload_n hx hb dX4_copyFrom_41 rfl (lv_at hl 1 rfl) ?_
  refine g_PieceType_34 X hH hk_o1 dX4_copyFrom_42 ?_
  have hq6 := ho
  refine p_PieceType_34 X hH hS hk_r (bn01 hq6).1 (bn01 hq6).2 dX4_copyFrom_45 (fun H locs v7 ev7 hH hS => ?_)
  refine lv_aload_n hx hb dX4_copyFrom_48 rfl (lv_at hl 0 rfl) ?_
  refine lv_aload_n hx hb dX4_copyFrom_49 rfl (lv_at hl 1 rfl) ?_
  refine g_PieceType_38 X hH hk_o1 dX4_copyFrom_50 ?_
  refine p_PieceType_38 X hH hS hk_r dX4_copyFrom_53 (fun H locs v8 ev8 hH hS => ?_)
  refine lv_aload_n hx hb dX4_copyFrom_56 rfl (lv_at hl 1 rfl) ?_
  refine g_PieceType_9 X hH hk_o1 dX4_copyFrom_57 ?_
  refine lv_iconst (v := 0) hx hb dX4_copyFrom_60 (by decide) ?_
  refine lv_aload_n hx hb dX4_copyFrom_61 rfl (lv_at hl 0 rfl) ?_
  refine g_PieceType_9 X hH hk_r dX4_copyFrom_62 ?_
  refine lv_iconst (v := 0) hx hb dX4_copyFrom_65 (by decide) ?_
  refine lv_bipush (v := 10) hx hb dX4_copyFrom_66 (by decide) ?_
  refine r_cpy X hH hS (al_24 (kc_4_24 hk_o1)) (al_24 (kc_4_24 hk_r)) t_ml_PieceType_44 hl.1 (by decide) ⟨Nat.le_of_ble_eq_true rfl, Nat.le_of_ble_eq_true rfl⟩ dX4_copyFrom_68 (fun H locs v9 ev9 hH hS => ?_)
  refine lv_aload_n hx hb dX4_copyFrom_71 rfl (lv_at hl 0 rfl) ?_
  refine lv_aload_n hx hb dX4_copyFrom_72 rfl (lv_at hl 1 rfl) ?_
  refine g_PieceType_41 X hH hk_o1 dX4_copyFrom_73 ?_
  refine p_PieceType_41 X hH hS hk_r dX4_copyFrom_76 (fun H locs v10 ev10 hH hS => ?_)
  refine lv_aload_n hx hb dX4_copyFrom_79 rfl (lv_at hl 1 rfl) ?_
  refine g_PieceType_15 X hH hk_o1 dX4_copyFrom_80 ?_
  refine lv_iconst (v := 0) hx hb dX4_copyFrom_83 (by decide) ?_
  refine lv_aload_n hx hb dX4_copyFrom_84 rfl (lv_at hl 0 rfl) ?_
  refine g_PieceType_15 X hH hk_r dX4_copyFrom_85 ?_
  refine lv_iconst (v := 0) hx hb dX4_copyFrom_88 (by decide) ?_
  refine lv_bipush (v := 12) hx hb dX4_copyFrom_89 (by decide) ?_
  refine r_cpy X hH hS (al_25 (kc_4_25 hk_o1)) (al_25 (kc_4_25 hk_r)) t_ml_PieceType_44 hl.1 (by decide) ⟨Nat.le_of_ble_eq_true rfl, Nat.le_of_ble_eq_true rfl⟩ dX4_copyFrom_91 (fun H locs v11 ev11 hH hS => ?_)
  replace ev1 := Eq.symm ev1
  replace ev2 := Eq.symm ev2
  replace ev3 := Eq.symm ev3
  replace ev4 := Eq.symm ev4
  replace ev5 := Eq.symm ev5
  replace ev7 := Eq.symm ev7
  replace ev8 := Eq.symm ev8
  replace ev9 := Eq.symm ev9
  replace ev10 := Eq.symm ev10
  replace ev11 := Eq.symm ev11
  subst ev1 ev2 ev3 ev4 ev5 ev7 ev8 ev9 ev10 ev11
  exact E _ _ _ _ _ _ _ _ dX4_copyFrom_94 (Eq.symm rfl) hH hS (Nat.zero_le _) (Nat.zero_le _)
theorem k_X4_copyFrom {p : Program} {l : Launch} {e : Env} {R : Room} {s : State} {m : MethodId} {args : Array Value} {below : List Frame} {meth : Method} {c : Code} {H : Heap} {locs : List Loc} {cells slots : Nat} {Q : State → Prop} {cc : ByteArray} {pc nL : Nat} {ls : Array Slot} {rest : List Value} {G : gG} {own : String} {da : Nat → Nat} {v : vSt} {x : gX} (X : CX G p s m args c cc nL own) (hS : va_S (gA G) s.heap H locs) (hH : Hp G da v x H) {r : Nat} (hk_r : kd r = 4) {o1 : Nat} (hk_o1 : kd o1 = 4) (ho : oX4_copyFrom r o1 v) {idx : Nat} (hml : Cond.methodLink own idx yX4_copyFrom ∈ TT) (hls : ls.size = nL) (hsum : (rest.map fun v => v.category).sum ≤ 8) (hR : rmX4_copyFrom.frames + 1 ≤ R.frames ∧ 8 + (2 + 11) + rmX4_copyFrom.locals ≤ R.locals) (hcs : cells ≤ R.cells ∧ slots ≤ R.slots) (hdg : decode cc pc = .ok (.invokevirtual idx, 3)) (kk : ∀ (d : Nat → Nat) (H1 : Heap) (locs1 : List Loc) (v1 : vSt), v1 = fX4_copyFrom r o1 v → Hp G d v1 x H1 → va_S (gA G) s.heap H1 locs1 → W p l e R s m args below meth c H1 locs1 cells slots Q (F0 m (pc + 3) ls rest)) : W p l e R s m args below meth c H locs cells slots Q (F0 m pc ls (.ref (ga G o1) :: .ref (ga G r) :: rest)) := c_mv X.2.2.2.2.2.2 (runV (k := 1) X.1 X.2.1 X.2.2.1 X.2.2.2.1 X.2.2.2.2.1 (mX4_copyFrom l G da v x r hk_r o1 hk_o1 ho) pW_bl hml t_im_X4_copyFrom t_sel_X4_copyFrom t_ini_PieceType t_code_X4_copyFrom ⟨rfl, by decide, by decide, by decide +kernel⟩ rfl rfl hR hcs (recvW X hH (by rw [hk_r]; decide) (by rw [hk_r]; decide) (ce_4 hk_r) rfl) (preW X hS hH) rfl hls rfl hsum hdg) hS kk
def lX8_nearestLine_51 (v : vSt) (r : Nat) (p1 : Int32) (i1 : Int32) : Nat → Int32 → Int32 → Int32
  | 0, i4, i5 => i5
  | n + 1, i4, i5 => if ((fX10_entry 5 tbL (v r 0)) : Int32) ≤ i4 then i5 else (let y7 : Int32 := (if ((if 0 ≤ i5 - p1 then i5 - p1 else 0 - (i5 - p1) : Int32) : Int32) < (if 0 ≤ ((i1 * (fX10_entry 5 tbM (v r 0))) + (i4 * (v r 1))) - p1 then ((i1 * (fX10_entry 5 tbM (v r 0))) + (i4 * (v r 1))) - p1 else 0 - (((i1 * (fX10_entry 5 tbM (v r 0))) + (i4 * (v r 1))) - p1) : Int32) then i5 else ((i1 * (fX10_entry 5 tbM (v r 0))) + (i4 * (v r 1))) : Int32); lX8_nearestLine_51 v r p1 i1 n (i4 + 1) y7)
def olX8_nearestLine_51 (v : vSt) (r : Nat) (p1 : Int32) (i1 : Int32) : Nat → Int32 → Int32 → Prop
  | 0, _, _ => False
  | n + 1, i4, i5 => ¬ (((fX10_entry 5 tbL (v r 0)) : Int32) ≤ i4) → ((∀ (y7 : Int32), y7 = ((if ((if 0 ≤ i5 - p1 then i5 - p1 else 0 - (i5 - p1) : Int32) : Int32) < (if 0 ≤ ((i1 * (fX10_entry 5 tbM (v r 0))) + (i4 * (v r 1))) - p1 then ((i1 * (fX10_entry 5 tbM (v r 0))) + (i4 * (v r 1))) - p1 else 0 - (((i1 * (fX10_entry 5 tbM (v r 0))) + (i4 * (v r 1))) - p1) : Int32) then i5 else ((i1 * (fX10_entry 5 tbM (v r 0))) + (i4 * (v r 1))) : Int32) : Int32) → (olX8_nearestLine_51 v r p1 i1 n (i4 + 1) y7)))
def lX8_nearestLine_39 (v : vSt) (r : Nat) (p1 : Int32) : Nat → Int32 → Int32 → Int32
  | 0, i1, i2 => i2
  | n + 1, i1, i2 => if (((fX8_markAt r p1 v) + 1) : Int32) < i1 then i2 else (let y6 : Int32 := (lX8_nearestLine_51 v r p1 i1 ((Int32.toInt ((fX10_entry 5 tbL (v r 0))) - Int32.toInt 0).toNat + 1) 0 i2); lX8_nearestLine_39 v r p1 n (i1 + 1) y6)
def olX8_nearestLine_39 (v : vSt) (r : Nat) (p1 : Int32) : Nat → Int32 → Int32 → Prop
  | 0, _, _ => False
  | n + 1, i1, i2 => ¬ ((((fX8_markAt r p1 v) + 1) : Int32) < i1) → (olX8_nearestLine_51 v r p1 i1 ((Int32.toInt ((fX10_entry 5 tbL (v r 0))) - Int32.toInt 0).toNat + 1) 0 i2 ∧ (∀ (y6 : Int32), y6 = ((lX8_nearestLine_51 v r p1 i1 ((Int32.toInt ((fX10_entry 5 tbL (v r 0))) - Int32.toInt 0).toNat + 1) 0 i2) : Int32) → (olX8_nearestLine_39 v r p1 n (i1 + 1) y6)))
def fX8_nearestLine (r : Nat) (p1 : Int32) (v : vSt) : Int32 := let y3 : Int32 := (lX8_nearestLine_39 v r p1 (3) (fX8_markAt r p1 v) ((fX8_markAt r p1 v) * (fX10_entry 5 tbM (v r 0)))); y3
def oX8_nearestLine (r : Nat) (p1 : Int32) (v : vSt) : Prop := olX8_nearestLine_39 v r p1 (3) (fX8_markAt r p1 v) ((fX8_markAt r p1 v) * (fX10_entry 5 tbM (v r 0)))
abbrev rmX8_nearestLine : Room := { frames := 2, cells := 0, slots := 0, locals := 43 }
theorem dX8_nearestLine_0 : decode cX8_nearestLine 0 = .ok (.getstatic 23, 3) := by decide +kernel
theorem dX8_nearestLine_3 : decode cX8_nearestLine 3 = .ok (.aload_n 0, 1) := by decide +kernel
theorem dX8_nearestLine_4 : decode cX8_nearestLine 4 = .ok (.getfield 17, 3) := by decide +kernel
theorem dX8_nearestLine_7 : decode cX8_nearestLine 7 = .ok (.invokestatic 13, 3) := by decide +kernel
theorem dX8_nearestLine_10 : decode cX8_nearestLine 10 = .ok (.istore_n 2, 1) := by decide +kernel
theorem dX8_nearestLine_11 : decode cX8_nearestLine 11 = .ok (.getstatic 9, 3) := by decide +kernel
theorem dX8_nearestLine_14 : decode cX8_nearestLine 14 = .ok (.aload_n 0, 1) := by decide +kernel
theorem dX8_nearestLine_15 : decode cX8_nearestLine 15 = .ok (.getfield 17, 3) := by decide +kernel
theorem dX8_nearestLine_18 : decode cX8_nearestLine 18 = .ok (.invokestatic 13, 3) := by decide +kernel
theorem dX8_nearestLine_21 : decode cX8_nearestLine 21 = .ok (.istore_n 3, 1) := by decide +kernel
theorem dX8_nearestLine_22 : decode cX8_nearestLine 22 = .ok (.aload_n 0, 1) := by decide +kernel
theorem dX8_nearestLine_23 : decode cX8_nearestLine 23 = .ok (.iload_n 1, 1) := by decide +kernel
theorem dX8_nearestLine_24 : decode cX8_nearestLine 24 = .ok (.invokevirtual 66, 3) := by decide +kernel
theorem dX8_nearestLine_27 : decode cX8_nearestLine 27 = .ok (.istore 4, 2) := by decide +kernel
theorem dX8_nearestLine_29 : decode cX8_nearestLine 29 = .ok (.iload 4, 2) := by decide +kernel
theorem dX8_nearestLine_31 : decode cX8_nearestLine 31 = .ok (.iload_n 2, 1) := by decide +kernel
theorem dX8_nearestLine_32 : decode cX8_nearestLine 32 = .ok (.imul, 1) := by decide +kernel
theorem dX8_nearestLine_33 : decode cX8_nearestLine 33 = .ok (.istore 5, 2) := by decide +kernel
theorem dX8_nearestLine_35 : decode cX8_nearestLine 35 = .ok (.iload 4, 2) := by decide +kernel
theorem dX8_nearestLine_37 : decode cX8_nearestLine 37 = .ok (.istore 6, 2) := by decide +kernel
theorem dX8_nearestLine_39 : decode cX8_nearestLine 39 = .ok (.iload 6, 2) := by decide +kernel
theorem dX8_nearestLine_41 : decode cX8_nearestLine 41 = .ok (.iload 4, 2) := by decide +kernel
theorem dX8_nearestLine_43 : decode cX8_nearestLine 43 = .ok (.iconst 1, 1) := by decide +kernel
theorem dX8_nearestLine_44 : decode cX8_nearestLine 44 = .ok (.iadd, 1) := by decide +kernel
theorem dX8_nearestLine_45 : decode cX8_nearestLine 45 = .ok (.if_icmp .gt 59, 3) := by decide +kernel
theorem dX8_nearestLine_48 : decode cX8_nearestLine 48 = .ok (.iconst 0, 1) := by decide +kernel
theorem dX8_nearestLine_49 : decode cX8_nearestLine 49 = .ok (.istore 7, 2) := by decide +kernel
theorem dX8_nearestLine_51 : decode cX8_nearestLine 51 = .ok (.iload 7, 2) := by decide +kernel
theorem dX8_nearestLine_53 : decode cX8_nearestLine 53 = .ok (.iload_n 3, 1) := by decide +kernel
theorem dX8_nearestLine_54 : decode cX8_nearestLine 54 = .ok (.if_icmp .ge 44, 3) := by decide +kernel
theorem dX8_nearestLine_57 : decode cX8_nearestLine 57 = .ok (.iload 6, 2) := by decide +kernel
theorem dX8_nearestLine_59 : decode cX8_nearestLine 59 = .ok (.iload_n 2, 1) := by decide +kernel
theorem dX8_nearestLine_60 : decode cX8_nearestLine 60 = .ok (.imul, 1) := by decide +kernel
theorem dX8_nearestLine_61 : decode cX8_nearestLine 61 = .ok (.iload 7, 2) := by decide +kernel
theorem dX8_nearestLine_63 : decode cX8_nearestLine 63 = .ok (.aload_n 0, 1) := by decide +kernel
theorem dX8_nearestLine_64 : decode cX8_nearestLine 64 = .ok (.getfield 26, 3) := by decide +kernel
theorem dX8_nearestLine_67 : decode cX8_nearestLine 67 = .ok (.imul, 1) := by decide +kernel
theorem dX8_nearestLine_68 : decode cX8_nearestLine 68 = .ok (.iadd, 1) := by decide +kernel
theorem dX8_nearestLine_69 : decode cX8_nearestLine 69 = .ok (.istore 8, 2) := by decide +kernel
theorem dX8_nearestLine_71 : decode cX8_nearestLine 71 = .ok (.iload 8, 2) := by decide +kernel
theorem dX8_nearestLine_73 : decode cX8_nearestLine 73 = .ok (.iload_n 1, 1) := by decide +kernel
theorem dX8_nearestLine_74 : decode cX8_nearestLine 74 = .ok (.isub, 1) := by decide +kernel
theorem dX8_nearestLine_75 : decode cX8_nearestLine 75 = .ok (.invokestatic 70, 3) := by decide +kernel
theorem dX8_nearestLine_78 : decode cX8_nearestLine 78 = .ok (.iload 5, 2) := by decide +kernel
theorem dX8_nearestLine_80 : decode cX8_nearestLine 80 = .ok (.iload_n 1, 1) := by decide +kernel
theorem dX8_nearestLine_81 : decode cX8_nearestLine 81 = .ok (.isub, 1) := by decide +kernel
theorem dX8_nearestLine_82 : decode cX8_nearestLine 82 = .ok (.invokestatic 70, 3) := by decide +kernel
theorem dX8_nearestLine_85 : decode cX8_nearestLine 85 = .ok (.if_icmp .gt 7, 3) := by decide +kernel
theorem dX8_nearestLine_88 : decode cX8_nearestLine 88 = .ok (.iload 8, 2) := by decide +kernel
theorem dX8_nearestLine_90 : decode cX8_nearestLine 90 = .ok (.istore 5, 2) := by decide +kernel
theorem dX8_nearestLine_92 : decode cX8_nearestLine 92 = .ok (.iinc 7 1, 3) := by decide +kernel
theorem dX8_nearestLine_95 : decode cX8_nearestLine 95 = .ok (.goto (-44), 3) := by decide +kernel
theorem dX8_nearestLine_98 : decode cX8_nearestLine 98 = .ok (.iinc 6 1, 3) := by decide +kernel
theorem dX8_nearestLine_101 : decode cX8_nearestLine 101 = .ok (.goto (-62), 3) := by decide +kernel
theorem dX8_nearestLine_104 : decode cX8_nearestLine 104 = .ok (.iload 5, 2) := by decide +kernel
theorem dX8_nearestLine_106 : decode cX8_nearestLine 106 = .ok (.ireturn, 1) := by decide +kernel
set_option maxHeartbeats 8000000 in
set_option maxRecDepth 100000 in
theorem mX8_nearestLine (l : Launch) (G : gG) (da : Nat → Nat) (v : vSt) (x : gX) (r : Nat) (hk_r : kd r = 8) (p1 : Int32) (ho : oX8_nearestLine r p1 v) : QI l yX8_nearestLine cX8_nearestLine 9 (some .int) rmX8_nearestLine [.ref (ga G r), .int p1] (pW G da v x) (fX8_nearestLine r p1 v) := by
  refine gofQ (own := RX8) (by decide) rfl (Nat.le_of_ble_eq_true rfl) (fun p e s m args below meth c ls Q X hH hl E => ?_)
  have hx := X.1
  have hb := X.2.1
  have hown := X.2.2.2.1
  have hts := X.2.2.2.2.1
  have hS : va_S (gA G) s.heap s.heap [] := va_S.rf
  unfold oX8_nearestLine at ho
  have hl : lv_has ls 9 [(0, .ref (ga G r)), (1, .int p1)] := hl
  refine gs_Tool_23 X hS dX8_nearestLine_0 ?_
  refine lv_aload_n hx hb dX8_nearestLine_3 rfl (lv_at hl 0 rfl) ?_
  refine g_Tool_17 X hH hk_r dX8_nearestLine_4 ?_
  refine kn_X10_entry X hS (ia_s1 X hS) t_mn_Tool_13 hl.1 (Nat.le_of_ble_eq_true rfl) ⟨Nat.le_of_ble_eq_true rfl, Nat.le_of_ble_eq_true rfl⟩ ⟨Nat.zero_le _, Nat.zero_le _⟩ dX8_nearestLine_7 ?_
  refine lv_istore_n (lv' := [(2, .int (fX10_entry 5 tbM (v r 0))), (0, .ref (ga G r)), (1, .int p1)]) hx hb dX8_nearestLine_10 rfl hl (by decide) rfl (fun ls hl => ?_)
  refine gs_Tool_9 X hS dX8_nearestLine_11 ?_
  refine lv_aload_n hx hb dX8_nearestLine_14 rfl (lv_at hl 1 rfl) ?_
  refine g_Tool_17 X hH hk_r dX8_nearestLine_15 ?_
  refine kn_X10_entry X hS (ia_s0 X hS) t_mn_Tool_13 hl.1 (Nat.le_of_ble_eq_true rfl) ⟨Nat.le_of_ble_eq_true rfl, Nat.le_of_ble_eq_true rfl⟩ ⟨Nat.zero_le _, Nat.zero_le _⟩ dX8_nearestLine_18 ?_
  refine lv_istore_n (lv' := [(3, .int (fX10_entry 5 tbL (v r 0))), (2, .int (fX10_entry 5 tbM (v r 0))), (0, .ref (ga G r)), (1, .int p1)]) hx hb dX8_nearestLine_21 rfl hl (by decide) rfl (fun ls hl => ?_)
  refine lv_aload_n hx hb dX8_nearestLine_22 rfl (lv_at hl 2 rfl) ?_
  refine lv_iload_n hx hb dX8_nearestLine_23 rfl (lv_at hl 3 rfl) ?_
  refine k_X8_markAt X hS hH hk_r t_ml_Tool_66 hl.1 (Nat.le_of_ble_eq_true rfl) ⟨Nat.le_of_ble_eq_true rfl, Nat.le_of_ble_eq_true rfl⟩ ⟨Nat.zero_le _, Nat.zero_le _⟩ dX8_nearestLine_24 ?_
  refine lv_istore (lv' := [(4, .int (fX8_markAt r p1 v)), (3, .int (fX10_entry 5 tbL (v r 0))), (2, .int (fX10_entry 5 tbM (v r 0))), (0, .ref (ga G r)), (1, .int p1)]) hx hb dX8_nearestLine_27 hl (by decide) rfl (fun ls hl => ?_)
  refine lv_iload hx hb dX8_nearestLine_29 (lv_at hl 0 rfl) ?_
  refine lv_iload_n hx hb dX8_nearestLine_31 rfl (lv_at hl 2 rfl) ?_
  refine lv_imul hx hb dX8_nearestLine_32 ?_
  refine lv_istore (lv' := [(5, .int ((fX8_markAt r p1 v) * (fX10_entry 5 tbM (v r 0)))), (4, .int (fX8_markAt r p1 v)), (3, .int (fX10_entry 5 tbL (v r 0))), (2, .int (fX10_entry 5 tbM (v r 0))), (0, .ref (ga G r)), (1, .int p1)]) hx hb dX8_nearestLine_33 hl (by decide) rfl (fun ls hl => ?_)
  refine lv_iload hx hb dX8_nearestLine_35 (lv_at hl 1 rfl) ?_
  refine lv_istore (lv' := [(6, .int (fX8_markAt r p1 v)), (5, .int ((fX8_markAt r p1 v) * (fX10_entry 5 tbM (v r 0)))), (4, .int (fX8_markAt r p1 v)), (3, .int (fX10_entry 5 tbL (v r 0))), (2, .int (fX10_entry 5 tbM (v r 0))), (0, .ref (ga G r)), (1, .int p1)]) hx hb dX8_nearestLine_37 hl (by decide) rfl (fun ls hl => ?_)
  have L4 : ∀ (n : Nat) (i1 : Int32) (i2 : Int32) (ls : Array Slot), olX8_nearestLine_39 v r p1 n i1 i2 → lv_has ls 9 [(6, .int i1), (5, .int i2), (4, .int (fX8_markAt r p1 v)), (3, .int (fX10_entry 5 tbL (v r 0))), (2, .int (fX10_entry 5 tbM (v r 0))), (0, .ref (ga G r)), (1, .int p1)] → (∀ (y3 : Int32) (ls : Array Slot), y3 = (lX8_nearestLine_39 v r p1 n i1 i2 : Int32) → lv_has ls 9 [(5, .int y3)] → W p l e rmX8_nearestLine s m args below meth c s.heap [] 0 0 Q (F0 m 104 ls [])) → W p l e rmX8_nearestLine s m args below meth c s.heap [] 0 0 Q (F0 m 39 ls []) := by
    clear ho
    intro n
    induction n with
    | zero =>
      intro i1 i2 ls ho
      exact ho.elim
    | succ n ih =>
      intro i1 i2 ls ho hl K5
      refine lv_iload hx hb dX8_nearestLine_39 (lv_at hl 0 rfl) ?_
      refine lv_iload hx hb dX8_nearestLine_41 (lv_at hl 2 rfl) ?_
      refine lv_iconst (v := 1) hx hb dX8_nearestLine_43 (by decide) ?_
      refine lv_iadd hx hb dX8_nearestLine_44 ?_
      refine lv_icmp_gt (tgt := 104) hx hb dX8_nearestLine_45 (by decide) (fun c3 => ?_) (fun c3 => ?_)
      · skip
        exact K5 _ _ (Eq.symm (((lX8_nearestLine_39.eq_2 _ _ _ _ _ _)).trans ((if_pos c3).trans rfl))) (lv_sub hl [1] rfl)
      · have ho := ho c3
        refine lv_iconst (v := 0) hx hb dX8_nearestLine_48 (by decide) ?_
        refine lv_istore (lv' := [(7, .int 0), (6, .int i1), (5, .int i2), (4, .int (fX8_markAt r p1 v)), (3, .int (fX10_entry 5 tbL (v r 0))), (2, .int (fX10_entry 5 tbM (v r 0))), (0, .ref (ga G r)), (1, .int p1)]) hx hb dX8_nearestLine_49 hl (by decide) rfl (fun ls hl => ?_)
        have L7 : ∀ (n : Nat) (i4 : Int32) (i5 : Int32) (ls : Array Slot), olX8_nearestLine_51 v r p1 i1 n i4 i5 → lv_has ls 9 [(7, .int i4), (6, .int i1), (5, .int i5), (4, .int (fX8_markAt r p1 v)), (3, .int (fX10_entry 5 tbL (v r 0))), (2, .int (fX10_entry 5 tbM (v r 0))), (0, .ref (ga G r)), (1, .int p1)] → (∀ (y6 : Int32) (ls : Array Slot), y6 = (lX8_nearestLine_51 v r p1 i1 n i4 i5 : Int32) → lv_has ls 9 [(6, .int i1), (5, .int y6), (4, .int (fX8_markAt r p1 v)), (3, .int (fX10_entry 5 tbL (v r 0))), (2, .int (fX10_entry 5 tbM (v r 0))), (0, .ref (ga G r)), (1, .int p1)] → W p l e rmX8_nearestLine s m args below meth c s.heap [] 0 0 Q (F0 m 98 ls [])) → W p l e rmX8_nearestLine s m args below meth c s.heap [] 0 0 Q (F0 m 51 ls []) := by
          clear ho
          intro n
          induction n with
          | zero =>
            intro i4 i5 ls ho
            exact ho.elim
          | succ n ih =>
            intro i4 i5 ls ho hl K8
            refine lv_iload hx hb dX8_nearestLine_51 (lv_at hl 0 rfl) ?_
            refine lv_iload_n hx hb dX8_nearestLine_53 rfl (lv_at hl 4 rfl) ?_
            refine lv_icmp_ge (tgt := 98) hx hb dX8_nearestLine_54 (by decide) (fun c6 => ?_) (fun c6 => ?_)
            · skip
              exact K8 _ _ (Eq.symm (((lX8_nearestLine_51.eq_2 _ _ _ _ _ _ _)).trans ((if_pos c6).trans rfl))) (lv_sub hl [1, 2, 3, 4, 5, 6, 7] rfl)
            · have ho := ho c6
              refine lv_iload hx hb dX8_nearestLine_57 (lv_at hl 1 rfl) ?_
              refine lv_iload_n hx hb dX8_nearestLine_59 rfl (lv_at hl 5 rfl) ?_
              refine lv_imul hx hb dX8_nearestLine_60 ?_
              refine lv_iload hx hb dX8_nearestLine_61 (lv_at hl 0 rfl) ?_
              refine lv_aload_n hx hb dX8_nearestLine_63 rfl (lv_at hl 6 rfl) ?_
              refine g_Tool_26 X hH hk_r dX8_nearestLine_64 ?_
              refine lv_imul hx hb dX8_nearestLine_67 ?_
              refine lv_iadd hx hb dX8_nearestLine_68 ?_
              refine lv_istore (lv' := [(8, .int ((i1 * (fX10_entry 5 tbM (v r 0))) + (i4 * (v r 1)))), (7, .int i4), (6, .int i1), (5, .int i5), (4, .int (fX8_markAt r p1 v)), (3, .int (fX10_entry 5 tbL (v r 0))), (2, .int (fX10_entry 5 tbM (v r 0))), (0, .ref (ga G r)), (1, .int p1)]) hx hb dX8_nearestLine_69 hl (by decide) rfl (fun ls hl => ?_)
              refine lv_iload hx hb dX8_nearestLine_71 (lv_at hl 0 rfl) ?_
              refine lv_iload_n hx hb dX8_nearestLine_73 rfl (lv_at hl 8 rfl) ?_
              refine lv_isub hx hb dX8_nearestLine_74 ?_
              refine k_mabs X t_ml_Tool_70 hl.1 ⟨Nat.le_of_ble_eq_true rfl, Nat.le_of_ble_eq_true rfl⟩ ⟨Nat.zero_le _, Nat.zero_le _⟩ dX8_nearestLine_75 ?_
              refine lv_iload hx hb dX8_nearestLine_78 (lv_at hl 3 rfl) ?_
              refine lv_iload_n hx hb dX8_nearestLine_80 rfl (lv_at hl 8 rfl) ?_
              refine lv_isub hx hb dX8_nearestLine_81 ?_
              refine k_mabs X t_ml_Tool_70 hl.1 ⟨Nat.le_of_ble_eq_true rfl, Nat.le_of_ble_eq_true rfl⟩ ⟨Nat.zero_le _, Nat.zero_le _⟩ dX8_nearestLine_82 ?_
              have K8 : ∀ (y7 : Int32) (ls : Array Slot), y7 = (if ((if 0 ≤ i5 - p1 then i5 - p1 else 0 - (i5 - p1) : Int32) : Int32) < (if 0 ≤ ((i1 * (fX10_entry 5 tbM (v r 0))) + (i4 * (v r 1))) - p1 then ((i1 * (fX10_entry 5 tbM (v r 0))) + (i4 * (v r 1))) - p1 else 0 - (((i1 * (fX10_entry 5 tbM (v r 0))) + (i4 * (v r 1))) - p1) : Int32) then i5 else ((i1 * (fX10_entry 5 tbM (v r 0))) + (i4 * (v r 1))) : Int32) → lv_has ls 9 [(7, .int i4), (6, .int i1), (5, .int y7), (4, .int (fX8_markAt r p1 v)), (3, .int (fX10_entry 5 tbL (v r 0))), (2, .int (fX10_entry 5 tbM (v r 0))), (0, .ref (ga G r)), (1, .int p1)] → W p l e rmX8_nearestLine s m args below meth c s.heap [] 0 0 Q (F0 m 92 ls []) := by
                intro y7 ls ey7 hl
                have ho := ho y7 ey7
                refine lv_iinc (v := i4 + 1) (lv' := [(7, .int (i4 + 1)), (6, .int i1), (5, .int y7), (4, .int (fX8_markAt r p1 v)), (3, .int (fX10_entry 5 tbL (v r 0))), (2, .int (fX10_entry 5 tbM (v r 0))), (0, .ref (ga G r)), (1, .int p1)]) hx hb dX8_nearestLine_92 hl (k := 0) rfl rfl (by decide) rfl (fun ls hl => ?_)
                refine lv_goto (tgt := 51) hx hb dX8_nearestLine_95 (by decide) ?_
                replace ey7 := Eq.symm ey7
                subst ey7
                exact ih _ _ _ ho (lv_sub hl [0, 1, 2, 3, 4, 5, 6, 7] rfl) (fun y6 ls q0 hl => K8 y6 ls (q0.trans (congrArg (fun z : Int32 => z) (Eq.symm (((lX8_nearestLine_51.eq_2 _ _ _ _ _ _ _)).trans ((if_neg c6).trans rfl))))) hl)
              refine lv_icmp_gt (tgt := 92) hx hb dX8_nearestLine_85 (by decide) (fun c8 => ?_) (fun c8 => ?_)
              · skip
                exact K8 _ _ (Eq.symm ((if_pos c8).trans rfl)) (lv_sub hl [1, 2, 3, 4, 5, 6, 7, 8] rfl)
              · skip
                refine lv_iload hx hb dX8_nearestLine_88 (lv_at hl 0 rfl) ?_
                refine lv_istore (lv' := [(5, .int ((i1 * (fX10_entry 5 tbM (v r 0))) + (i4 * (v r 1)))), (8, .int ((i1 * (fX10_entry 5 tbM (v r 0))) + (i4 * (v r 1)))), (7, .int i4), (6, .int i1), (4, .int (fX8_markAt r p1 v)), (3, .int (fX10_entry 5 tbL (v r 0))), (2, .int (fX10_entry 5 tbM (v r 0))), (0, .ref (ga G r)), (1, .int p1)]) hx hb dX8_nearestLine_90 hl (by decide) rfl (fun ls hl => ?_)
                exact K8 _ _ (Eq.symm ((if_neg c8).trans rfl)) (lv_sub hl [2, 3, 0, 4, 5, 6, 7, 8] rfl)
        have hol := ho.1
        refine L7 ((Int32.toInt ((fX10_entry 5 tbL (v r 0))) - Int32.toInt 0).toNat + 1) 0 i2 _ hol (lv_sub hl [0, 1, 2, 3, 4, 5, 6, 7] rfl) (fun y6 ls ey6 hl => ?_)
        have ho := ho.2 y6 ey6
        refine lv_iinc (v := i1 + 1) (lv' := [(6, .int (i1 + 1)), (5, .int y6), (4, .int (fX8_markAt r p1 v)), (3, .int (fX10_entry 5 tbL (v r 0))), (2, .int (fX10_entry 5 tbM (v r 0))), (0, .ref (ga G r)), (1, .int p1)]) hx hb dX8_nearestLine_98 hl (k := 0) rfl rfl (by decide) rfl (fun ls hl => ?_)
        refine lv_goto (tgt := 39) hx hb dX8_nearestLine_101 (by decide) ?_
        replace ey6 := Eq.symm ey6
        subst ey6
        exact ih _ _ _ ho (lv_sub hl [0, 1, 2, 3, 4, 5, 6] rfl) (fun y3 ls q0 hl => K5 y3 ls (q0.trans (congrArg (fun z : Int32 => z) (Eq.symm (((lX8_nearestLine_39.eq_2 _ _ _ _ _ _)).trans ((if_neg c3).trans rfl))))) hl)
  have hol := ho
  refine L4 (3) (fX8_markAt r p1 v) ((fX8_markAt r p1 v) * (fX10_entry 5 tbM (v r 0))) _ hol (lv_sub hl [0, 1, 2, 3, 4, 5, 6] rfl) (fun y3 ls ey3 hl => ?_)
  refine lv_iload hx hb dX8_nearestLine_104 (lv_at hl 0 rfl) ?_
  replace ey3 := Eq.symm ey3
  subst ey3
  exact E _ _ _ dX8_nearestLine_106 rfl (Eq.symm rfl)
theorem k_X8_nearestLine {p : Program} {l : Launch} {e : Env} {R : Room} {s : State} {m : MethodId} {args : Array Value} {below : List Frame} {meth : Method} {c : Code} {H : Heap} {locs : List Loc} {cells slots : Nat} {Q : State → Prop} {cc : ByteArray} {pc nL : Nat} {ls : Array Slot} {rest : List Value} {G : gG} {own : String} {da : Nat → Nat} {v : vSt} {x : gX} (X : CX G p s m args c cc nL own) (hS : va_S (gA G) s.heap H locs) (hH : Hp G da v x H) {r : Nat} (hk_r : kd r = 8) {p1 : Int32} (ho : oX8_nearestLine r p1 v) {idx : Nat} (hml : Cond.methodLink own idx yX8_nearestLine ∈ TT) (hls : ls.size = nL) (hsum : (rest.map fun v => v.category).sum ≤ 8) (hR : rmX8_nearestLine.frames + 1 ≤ R.frames ∧ 8 + (9 + 11) + rmX8_nearestLine.locals ≤ R.locals) (hcs : cells ≤ R.cells ∧ slots ≤ R.slots) (hdg : decode cc pc = .ok (.invokevirtual idx, 3)) (kk : W p l e R s m args below meth c H locs cells slots Q (F0 m (pc + 3) ls (.int (fX8_nearestLine r p1 v) :: rest))) : W p l e R s m args below meth c H locs cells slots Q (F0 m pc ls (.int p1 :: .ref (ga G r) :: rest)) := c_qi (runV (k := 1) X.1 X.2.1 X.2.2.1 X.2.2.2.1 X.2.2.2.2.1 (mX8_nearestLine l G da v x r hk_r p1 ho) pW_bl hml t_im_X8_nearestLine t_sel_X8_nearestLine t_ini_Tool t_code_X8_nearestLine ⟨rfl, by decide, by decide, by decide +kernel⟩ rfl rfl hR hcs (recvW X hH (by rw [hk_r]; decide) (by rw [hk_r]; decide) (ce_8 hk_r) rfl) (preW X hS hH) rfl hls rfl hsum hdg) (fun _ h => h ▸ kk)
def lX2_calibrateTool_58 (v : vSt) (r : Nat) (p2 : Int32) : Nat → Int32 → vSt → vSt
  | 0, i7, v8 => v8
  | n + 1, i7, v8 => if ((v8 r 3) : Int32) ≤ i7 then v8 else (if (10 : Int32) ≤ i7 then v8 else (let v11 : vSt := (if ((fX2_isIn (fX2_stack r p2 v) i7) : Int32) = 0 then v8 else (let v14 : vSt := fX1_useOnce ((r + 3) + 20 + (i7 : Int32).toNatClampNeg) v8; v14) : vSt); lX2_calibrateTool_58 v r p2 n (i7 + 1) v11))
def olX2_calibrateTool_58 (v : vSt) (r : Nat) (p2 : Int32) : Nat → Int32 → vSt → Prop
  | 0, _, _ => False
  | n + 1, i7, v8 => ¬ (((v8 r 3) : Int32) ≤ i7) → (¬ ((10 : Int32) ≤ i7) → ((¬ (((fX2_isIn (fX2_stack r p2 v) i7) : Int32) = 0) → (vp_in (i7) 10)) ∧ (∀ (v11 : vSt), v11 = ((if ((fX2_isIn (fX2_stack r p2 v) i7) : Int32) = 0 then v8 else (let v14 : vSt := fX1_useOnce ((r + 3) + 20 + (i7 : Int32).toNatClampNeg) v8; v14) : vSt) : vSt) → (olX2_calibrateTool_58 v r p2 n (i7 + 1) v11))))
def fX2_calibrateTool (r : Nat) (p1 : Int32) (p2 : Int32) (v : vSt) : Int32 × vSt := if ((fX2_hasTool r p1 v) : Int32) = 0 then ((0, v)) else (let y4 : Int32 := (fX2_reading r ((r + 2) + 13 + (p1 : Int32).toNatClampNeg) 0 (fX2_trueLengthOf r (fX2_stack r p2 v) v) v) - p2; let v5 : vSt := fX8_useOn ((r + 2) + 13 + (p1 : Int32).toNatClampNeg) 0 v; let v6 : vSt := fX8_learn ((r + 2) + 13 + (p1 : Int32).toNatClampNeg) y4 (v5 r 5) v5; let v9 : vSt := (lX2_calibrateTool_58 v r p2 ((Int32.toInt ((v6 r 3)) - Int32.toInt 0).toNat + 1) 0 v6); (y4, v9))
def oX2_calibrateTool (r : Nat) (p1 : Int32) (p2 : Int32) (v : vSt) : Prop := ¬ (((fX2_hasTool r p1 v) : Int32) = 0) → ((vp_in (p1) 6) ∧ ((0 ≤ (v r 2).toInt ∧ (v r 2).toInt ≤ 6 ∧ 0 ≤ (v r 3).toInt ∧ (v r 3).toInt ≤ 10) ∧ (∀ y4 : Int32, y4 = ((fX2_reading r ((r + 2) + 13 + (p1 : Int32).toNatClampNeg) 0 (fX2_trueLengthOf r (fX2_stack r p2 v) v) v) - p2) → (∀ v5 : vSt, v5 = (fX8_useOn ((r + 2) + 13 + (p1 : Int32).toNatClampNeg) 0 v) → (∀ v6 : vSt, v6 = (fX8_learn ((r + 2) + 13 + (p1 : Int32).toNatClampNeg) y4 (v5 r 5) v5) → (olX2_calibrateTool_58 v r p2 ((Int32.toInt ((v6 r 3)) - Int32.toInt 0).toNat + 1) 0 v6))))))
abbrev rmX2_calibrateTool : Room := { frames := 3, cells := 0, slots := 0, locals := 70 }
theorem dX2_calibrateTool_0 : decode cX2_calibrateTool 0 = .ok (.aload_n 0, 1) := by decide +kernel
theorem dX2_calibrateTool_1 : decode cX2_calibrateTool 1 = .ok (.iload_n 1, 1) := by decide +kernel
theorem dX2_calibrateTool_2 : decode cX2_calibrateTool 2 = .ok (.invokevirtual 79, 3) := by decide +kernel
theorem dX2_calibrateTool_5 : decode cX2_calibrateTool 5 = .ok (.ifCond .ne 5, 3) := by decide +kernel
theorem dX2_calibrateTool_8 : decode cX2_calibrateTool 8 = .ok (.iconst 0, 1) := by decide +kernel
theorem dX2_calibrateTool_9 : decode cX2_calibrateTool 9 = .ok (.ireturn, 1) := by decide +kernel
theorem dX2_calibrateTool_10 : decode cX2_calibrateTool 10 = .ok (.aload_n 0, 1) := by decide +kernel
theorem dX2_calibrateTool_11 : decode cX2_calibrateTool 11 = .ok (.getfield 11, 3) := by decide +kernel
theorem dX2_calibrateTool_14 : decode cX2_calibrateTool 14 = .ok (.iload_n 1, 1) := by decide +kernel
theorem dX2_calibrateTool_15 : decode cX2_calibrateTool 15 = .ok (.aaload, 1) := by decide +kernel
theorem dX2_calibrateTool_16 : decode cX2_calibrateTool 16 = .ok (.astore_n 3, 1) := by decide +kernel
theorem dX2_calibrateTool_17 : decode cX2_calibrateTool 17 = .ok (.aload_n 0, 1) := by decide +kernel
theorem dX2_calibrateTool_18 : decode cX2_calibrateTool 18 = .ok (.iload_n 2, 1) := by decide +kernel
theorem dX2_calibrateTool_19 : decode cX2_calibrateTool 19 = .ok (.invokevirtual 99, 3) := by decide +kernel
theorem dX2_calibrateTool_22 : decode cX2_calibrateTool 22 = .ok (.istore 4, 2) := by decide +kernel
theorem dX2_calibrateTool_24 : decode cX2_calibrateTool 24 = .ok (.aload_n 0, 1) := by decide +kernel
theorem dX2_calibrateTool_25 : decode cX2_calibrateTool 25 = .ok (.aload_n 3, 1) := by decide +kernel
theorem dX2_calibrateTool_26 : decode cX2_calibrateTool 26 = .ok (.iconst 0, 1) := by decide +kernel
theorem dX2_calibrateTool_27 : decode cX2_calibrateTool 27 = .ok (.aload_n 0, 1) := by decide +kernel
theorem dX2_calibrateTool_28 : decode cX2_calibrateTool 28 = .ok (.iload 4, 2) := by decide +kernel
theorem dX2_calibrateTool_30 : decode cX2_calibrateTool 30 = .ok (.invokevirtual 102, 3) := by decide +kernel
theorem dX2_calibrateTool_33 : decode cX2_calibrateTool 33 = .ok (.invokevirtual 89, 3) := by decide +kernel
theorem dX2_calibrateTool_36 : decode cX2_calibrateTool 36 = .ok (.iload_n 2, 1) := by decide +kernel
theorem dX2_calibrateTool_37 : decode cX2_calibrateTool 37 = .ok (.isub, 1) := by decide +kernel
theorem dX2_calibrateTool_38 : decode cX2_calibrateTool 38 = .ok (.istore 5, 2) := by decide +kernel
theorem dX2_calibrateTool_40 : decode cX2_calibrateTool 40 = .ok (.aload_n 3, 1) := by decide +kernel
theorem dX2_calibrateTool_41 : decode cX2_calibrateTool 41 = .ok (.iconst 0, 1) := by decide +kernel
theorem dX2_calibrateTool_42 : decode cX2_calibrateTool 42 = .ok (.invokevirtual 95, 3) := by decide +kernel
theorem dX2_calibrateTool_45 : decode cX2_calibrateTool 45 = .ok (.aload_n 3, 1) := by decide +kernel
theorem dX2_calibrateTool_46 : decode cX2_calibrateTool 46 = .ok (.iload 5, 2) := by decide +kernel
theorem dX2_calibrateTool_48 : decode cX2_calibrateTool 48 = .ok (.aload_n 0, 1) := by decide +kernel
theorem dX2_calibrateTool_49 : decode cX2_calibrateTool 49 = .ok (.getfield 42, 3) := by decide +kernel
theorem dX2_calibrateTool_52 : decode cX2_calibrateTool 52 = .ok (.invokevirtual 105, 3) := by decide +kernel
theorem dX2_calibrateTool_55 : decode cX2_calibrateTool 55 = .ok (.iconst 0, 1) := by decide +kernel
theorem dX2_calibrateTool_56 : decode cX2_calibrateTool 56 = .ok (.istore 6, 2) := by decide +kernel
theorem dX2_calibrateTool_58 : decode cX2_calibrateTool 58 = .ok (.iload 6, 2) := by decide +kernel
theorem dX2_calibrateTool_60 : decode cX2_calibrateTool 60 = .ok (.aload_n 0, 1) := by decide +kernel
theorem dX2_calibrateTool_61 : decode cX2_calibrateTool 61 = .ok (.getfield 36, 3) := by decide +kernel
theorem dX2_calibrateTool_64 : decode cX2_calibrateTool 64 = .ok (.if_icmp .ge 39, 3) := by decide +kernel
theorem dX2_calibrateTool_67 : decode cX2_calibrateTool 67 = .ok (.iload 6, 2) := by decide +kernel
theorem dX2_calibrateTool_69 : decode cX2_calibrateTool 69 = .ok (.aload_n 0, 1) := by decide +kernel
theorem dX2_calibrateTool_70 : decode cX2_calibrateTool 70 = .ok (.getfield 19, 3) := by decide +kernel
theorem dX2_calibrateTool_73 : decode cX2_calibrateTool 73 = .ok (.arraylength, 1) := by decide +kernel
theorem dX2_calibrateTool_74 : decode cX2_calibrateTool 74 = .ok (.if_icmp .ge 29, 3) := by decide +kernel
theorem dX2_calibrateTool_77 : decode cX2_calibrateTool 77 = .ok (.iload 4, 2) := by decide +kernel
theorem dX2_calibrateTool_79 : decode cX2_calibrateTool 79 = .ok (.iload 6, 2) := by decide +kernel
theorem dX2_calibrateTool_81 : decode cX2_calibrateTool 81 = .ok (.invokestatic 108, 3) := by decide +kernel
theorem dX2_calibrateTool_84 : decode cX2_calibrateTool 84 = .ok (.ifCond .eq 13, 3) := by decide +kernel
theorem dX2_calibrateTool_87 : decode cX2_calibrateTool 87 = .ok (.aload_n 0, 1) := by decide +kernel
theorem dX2_calibrateTool_88 : decode cX2_calibrateTool 88 = .ok (.getfield 19, 3) := by decide +kernel
theorem dX2_calibrateTool_91 : decode cX2_calibrateTool 91 = .ok (.iload 6, 2) := by decide +kernel
theorem dX2_calibrateTool_93 : decode cX2_calibrateTool 93 = .ok (.aaload, 1) := by decide +kernel
theorem dX2_calibrateTool_94 : decode cX2_calibrateTool 94 = .ok (.invokevirtual 112, 3) := by decide +kernel
theorem dX2_calibrateTool_97 : decode cX2_calibrateTool 97 = .ok (.iinc 6 1, 3) := by decide +kernel
theorem dX2_calibrateTool_100 : decode cX2_calibrateTool 100 = .ok (.goto (-42), 3) := by decide +kernel
theorem dX2_calibrateTool_103 : decode cX2_calibrateTool 103 = .ok (.iload 5, 2) := by decide +kernel
theorem dX2_calibrateTool_105 : decode cX2_calibrateTool 105 = .ok (.ireturn, 1) := by decide +kernel
set_option maxHeartbeats 8000000 in
set_option maxRecDepth 100000 in
theorem mX2_calibrateTool (l : Launch) (G : gG) (da : Nat → Nat) (v : vSt) (x : gX) (r : Nat) (hk_r : kd r = 2) (p1 : Int32) (p2 : Int32) (ho : oX2_calibrateTool r p1 p2 v) : MI l yX2_calibrateTool cX2_calibrateTool 7 (some .int) rmX2_calibrateTool [.ref (ga G r), .int p1, .int p2] G da v x 0 0 (fX2_calibrateTool r p1 p2 v).1 (fX2_calibrateTool r p1 p2 v).2 x := by
  refine gofMI (own := RX2) (by decide) rfl (Nat.le_of_ble_eq_true rfl) (fun p e s m args below meth c ls Q X hH hl E => ?_)
  have hx := X.1
  have hb := X.2.1
  have hown := X.2.2.2.1
  have hts := X.2.2.2.2.1
  have hS : va_S (gA G) s.heap s.heap [] := va_S.rf
  unfold oX2_calibrateTool at ho
  have hl : lv_has ls 7 [(0, .ref (ga G r)), (1, .int p1), (2, .int p2)] := hl
  refine lv_aload_n hx hb dX2_calibrateTool_0 rfl (lv_at hl 0 rfl) ?_
  refine lv_iload_n hx hb dX2_calibrateTool_1 rfl (lv_at hl 1 rfl) ?_
  refine k_X2_hasTool X hS hH hk_r t_ml_Drawer_79 hl.1 (Nat.le_of_ble_eq_true rfl) ⟨Nat.le_of_ble_eq_true rfl, Nat.le_of_ble_eq_true rfl⟩ ⟨Nat.zero_le _, Nat.zero_le _⟩ dX2_calibrateTool_2 ?_
  refine lv_if_ne (tgt := 10) hx hb dX2_calibrateTool_5 (by decide) (fun c1 => ?_) (fun c1 => ?_)
  · have ho := ho c1
    refine lv_aload_n hx hb dX2_calibrateTool_10 rfl (lv_at hl 0 rfl) ?_
    refine g_Drawer_11 X hH hk_r dX2_calibrateTool_11 ?_
    refine lv_iload_n hx hb dX2_calibrateTool_14 rfl (lv_at hl 1 rfl) ?_
    have hq2 := ho.1
    have ho := ho.2
    refine qld_20 X hH (kc_2_20 hk_r) hq2 dX2_calibrateTool_15 ?_
    refine lv_astore_n (lv' := [(3, .ref (ga G ((r + 2) + 13 + (p1 : Int32).toNatClampNeg))), (0, .ref (ga G r)), (1, .int p1), (2, .int p2)]) hx hb dX2_calibrateTool_16 rfl hl (by decide) rfl (fun ls hl => ?_)
    refine lv_aload_n hx hb dX2_calibrateTool_17 rfl (lv_at hl 1 rfl) ?_
    refine lv_iload_n hx hb dX2_calibrateTool_18 rfl (lv_at hl 3 rfl) ?_
    have hq3 := ho.1
    have ho := ho.2
    refine k_X2_stack X hS hH hk_r hq3 t_ml_Drawer_99 hl.1 (Nat.le_of_ble_eq_true rfl) ⟨Nat.le_of_ble_eq_true rfl, Nat.le_of_ble_eq_true rfl⟩ ⟨Nat.zero_le _, Nat.zero_le _⟩ dX2_calibrateTool_19 ?_
    refine lv_istore (lv' := [(4, .int (fX2_stack r p2 v)), (3, .ref (ga G ((r + 2) + 13 + (p1 : Int32).toNatClampNeg))), (0, .ref (ga G r)), (1, .int p1), (2, .int p2)]) hx hb dX2_calibrateTool_22 hl (by decide) rfl (fun ls hl => ?_)
    refine lv_aload_n hx hb dX2_calibrateTool_24 rfl (lv_at hl 2 rfl) ?_
    refine lv_aload_n hx hb dX2_calibrateTool_25 rfl (lv_at hl 1 rfl) ?_
    refine lv_iconst (v := 0) hx hb dX2_calibrateTool_26 (by decide) ?_
    refine lv_aload_n hx hb dX2_calibrateTool_27 rfl (lv_at hl 2 rfl) ?_
    refine lv_iload hx hb dX2_calibrateTool_28 (lv_at hl 0 rfl) ?_
    refine k_X2_trueLengthOf X hS hH hk_r hq3 t_ml_Drawer_102 hl.1 (Nat.le_of_ble_eq_true rfl) ⟨Nat.le_of_ble_eq_true rfl, Nat.le_of_ble_eq_true rfl⟩ ⟨Nat.zero_le _, Nat.zero_le _⟩ dX2_calibrateTool_30 ?_
    refine k_X2_reading X hS hH hk_r (ki_20 (kc_2_20 hk_r) (vp_lt hq2)) t_ml_Drawer_89 hl.1 (Nat.le_of_ble_eq_true rfl) ⟨Nat.le_of_ble_eq_true rfl, Nat.le_of_ble_eq_true rfl⟩ ⟨Nat.zero_le _, Nat.zero_le _⟩ dX2_calibrateTool_33 ?_
    refine lv_iload_n hx hb dX2_calibrateTool_36 rfl (lv_at hl 4 rfl) ?_
    refine lv_isub hx hb dX2_calibrateTool_37 ?_
    obtain ⟨y4, ey4⟩ : ∃ z : Int32, z = (fX2_reading r ((r + 2) + 13 + (p1 : Int32).toNatClampNeg) 0 (fX2_trueLengthOf r (fX2_stack r p2 v) v) v) - p2 := ⟨_, rfl⟩
    rw [← ey4]
    have ho := ho y4 ey4
    refine lv_istore (lv' := [(5, .int y4), (4, .int (fX2_stack r p2 v)), (3, .ref (ga G ((r + 2) + 13 + (p1 : Int32).toNatClampNeg))), (0, .ref (ga G r)), (1, .int p1), (2, .int p2)]) hx hb dX2_calibrateTool_38 hl (by decide) rfl (fun ls hl => ?_)
    refine lv_aload_n hx hb dX2_calibrateTool_40 rfl (lv_at hl 2 rfl) ?_
    refine lv_iconst (v := 0) hx hb dX2_calibrateTool_41 (by decide) ?_
    refine k_X8_useOn X hS hH (ki_20 (kc_2_20 hk_r) (vp_lt hq2)) t_ml_Drawer_95 hl.1 (Nat.le_of_ble_eq_true rfl) ⟨Nat.le_of_ble_eq_true rfl, Nat.le_of_ble_eq_true rfl⟩ ⟨Nat.zero_le _, Nat.zero_le _⟩ dX2_calibrateTool_42 (fun da H locs v5 ev5 hH hS => ?_)
    have ho := ho v5 ev5
    refine lv_aload_n hx hb dX2_calibrateTool_45 rfl (lv_at hl 2 rfl) ?_
    refine lv_iload hx hb dX2_calibrateTool_46 (lv_at hl 0 rfl) ?_
    refine lv_aload_n hx hb dX2_calibrateTool_48 rfl (lv_at hl 3 rfl) ?_
    refine g_Drawer_42 X hH hk_r dX2_calibrateTool_49 ?_
    refine k_X8_learn X hS hH (ki_20 (kc_2_20 hk_r) (vp_lt hq2)) t_ml_Drawer_105 hl.1 (Nat.le_of_ble_eq_true rfl) ⟨Nat.le_of_ble_eq_true rfl, Nat.le_of_ble_eq_true rfl⟩ ⟨Nat.zero_le _, Nat.zero_le _⟩ dX2_calibrateTool_52 (fun da H locs v6 ev6 hH hS => ?_)
    have ho := ho v6 ev6
    refine lv_iconst (v := 0) hx hb dX2_calibrateTool_55 (by decide) ?_
    refine lv_istore (lv' := [(6, .int 0), (5, .int y4), (4, .int (fX2_stack r p2 v)), (3, .ref (ga G ((r + 2) + 13 + (p1 : Int32).toNatClampNeg))), (0, .ref (ga G r)), (1, .int p1), (2, .int p2)]) hx hb dX2_calibrateTool_56 hl (by decide) rfl (fun ls hl => ?_)
    have L10 : ∀ (n : Nat) (i7 : Int32) (v8 : vSt) (da : Nat → Nat) (H : Heap) (locs : List Loc) (ls : Array Slot), olX2_calibrateTool_58 v r p2 n i7 v8 → Hp G da v8 x H → va_S (gA G) s.heap H locs → lv_has ls 7 [(6, .int i7), (5, .int y4), (4, .int (fX2_stack r p2 v)), (0, .ref (ga G r))] → (∀ (v9 : vSt) (da : Nat → Nat) (H : Heap) (locs : List Loc) (ls : Array Slot), v9 = (lX2_calibrateTool_58 v r p2 n i7 v8 : vSt) → Hp G da v9 x H → va_S (gA G) s.heap H locs → lv_has ls 7 [(5, .int y4)] → W p l e rmX2_calibrateTool s m args below meth c H locs 0 0 Q (F0 m 103 ls [])) → W p l e rmX2_calibrateTool s m args below meth c H locs 0 0 Q (F0 m 58 ls []) := by
      clear ho
      intro n
      induction n with
      | zero =>
        intro i7 v8 da H locs ls ho
        exact ho.elim
      | succ n ih =>
        intro i7 v8 da H locs ls ho hH hS hl K11
        refine lv_iload hx hb dX2_calibrateTool_58 (lv_at hl 0 rfl) ?_
        refine lv_aload_n hx hb dX2_calibrateTool_60 rfl (lv_at hl 3 rfl) ?_
        refine g_Drawer_36 X hH hk_r dX2_calibrateTool_61 ?_
        refine lv_icmp_ge (tgt := 103) hx hb dX2_calibrateTool_64 (by decide) (fun c9 => ?_) (fun c9 => ?_)
        · skip
          exact K11 _ _ _ _ _ (Eq.symm (((lX2_calibrateTool_58.eq_2 _ _ _ _ _ _)).trans ((if_pos c9).trans rfl))) hH hS (lv_sub hl [1] rfl)
        · have ho := ho c9
          refine lv_iload hx hb dX2_calibrateTool_67 (lv_at hl 0 rfl) ?_
          refine lv_aload_n hx hb dX2_calibrateTool_69 rfl (lv_at hl 3 rfl) ?_
          refine g_Drawer_19 X hH hk_r dX2_calibrateTool_70 ?_
          refine len_21 X hH (kc_2_21 hk_r) dX2_calibrateTool_73 ?_
          refine lv_icmp_ge (tgt := 103) hx hb dX2_calibrateTool_74 (by decide) (fun c10 => ?_) (fun c10 => ?_)
          · skip
            exact K11 _ _ _ _ _ (Eq.symm (((lX2_calibrateTool_58.eq_2 _ _ _ _ _ _)).trans ((if_neg c9).trans ((if_pos c10).trans rfl)))) hH hS (lv_sub hl [1] rfl)
          · have ho := ho c10
            refine lv_iload hx hb dX2_calibrateTool_77 (lv_at hl 2 rfl) ?_
            refine lv_iload hx hb dX2_calibrateTool_79 (lv_at hl 0 rfl) ?_
            refine k_X2_isIn X hS  t_ml_Drawer_108 hl.1 (Nat.le_of_ble_eq_true rfl) ⟨Nat.le_of_ble_eq_true rfl, Nat.le_of_ble_eq_true rfl⟩ ⟨Nat.zero_le _, Nat.zero_le _⟩ dX2_calibrateTool_81 ?_
            have K12 : ∀ (v11 : vSt) (da : Nat → Nat) (H : Heap) (locs : List Loc) (ls : Array Slot), v11 = (if ((fX2_isIn (fX2_stack r p2 v) i7) : Int32) = 0 then v8 else (let v14 : vSt := fX1_useOnce ((r + 3) + 20 + (i7 : Int32).toNatClampNeg) v8; v14) : vSt) → Hp G da v11 x H → va_S (gA G) s.heap H locs → lv_has ls 7 [(6, .int i7), (5, .int y4), (4, .int (fX2_stack r p2 v)), (0, .ref (ga G r))] → W p l e rmX2_calibrateTool s m args below meth c H locs 0 0 Q (F0 m 97 ls []) := by
              intro v11 da H locs ls ev11 hH hS hl
              have ho := ho.2 v11 ev11
              refine lv_iinc (v := i7 + 1) (lv' := [(6, .int (i7 + 1)), (5, .int y4), (4, .int (fX2_stack r p2 v)), (0, .ref (ga G r))]) hx hb dX2_calibrateTool_97 hl (k := 0) rfl rfl (by decide) rfl (fun ls hl => ?_)
              refine lv_goto (tgt := 58) hx hb dX2_calibrateTool_100 (by decide) ?_
              replace ev11 := Eq.symm ev11
              subst ev11
              exact ih _ _ _ _ _ _ ho hH hS (lv_sub hl [0, 1, 2, 3] rfl) (fun v9 da H locs ls q0 hH hS hl => K11 v9 da H locs ls (q0.trans (congrArg (fun z : vSt => z) (Eq.symm (((lX2_calibrateTool_58.eq_2 _ _ _ _ _ _)).trans ((if_neg c9).trans ((if_neg c10).trans rfl)))))) hH hS hl)
            have ho := ho.1
            refine lv_if_eq (tgt := 97) hx hb dX2_calibrateTool_84 (by decide) (fun c12 => ?_) (fun c12 => ?_)
            · skip
              exact K12 _ _ _ _ _ (Eq.symm ((if_pos c12).trans rfl)) hH hS (lv_sub hl [0, 1, 2, 3] rfl)
            · have ho := ho c12
              refine lv_aload_n hx hb dX2_calibrateTool_87 rfl (lv_at hl 3 rfl) ?_
              refine g_Drawer_19 X hH hk_r dX2_calibrateTool_88 ?_
              refine lv_iload hx hb dX2_calibrateTool_91 (lv_at hl 0 rfl) ?_
              have hq13 := ho
              refine qld_21 X hH (kc_2_21 hk_r) hq13 dX2_calibrateTool_93 ?_
              refine k_X1_useOnce X hS hH (ki_21 (kc_2_21 hk_r) (vp_lt hq13)) t_ml_Drawer_112 hl.1 (Nat.le_of_ble_eq_true rfl) ⟨Nat.le_of_ble_eq_true rfl, Nat.le_of_ble_eq_true rfl⟩ ⟨Nat.zero_le _, Nat.zero_le _⟩ dX2_calibrateTool_94 (fun da H locs v14 ev14 hH hS => ?_)
              replace ev14 := Eq.symm ev14
              subst ev14
              exact K12 _ _ _ _ _ (Eq.symm ((if_neg c12).trans rfl)) hH hS (lv_sub hl [0, 1, 2, 3] rfl)
    have hol := ho
    refine L10 ((Int32.toInt ((v6 r 3)) - Int32.toInt 0).toNat + 1) 0 v6 _ _ _ _ hol hH hS (lv_sub hl [0, 1, 2, 4] rfl) (fun v9 da H locs ls ev9 hH hS hl => ?_)
    refine lv_iload hx hb dX2_calibrateTool_103 (lv_at hl 0 rfl) ?_
    replace ey4 := Eq.symm ey4
    replace ev5 := Eq.symm ev5
    replace ev6 := Eq.symm ev6
    replace ev9 := Eq.symm ev9
    subst ey4 ev5 ev6 ev9
    exact E _ _ _ _ _ _ _ _ _ dX2_calibrateTool_105 rfl (pr1 ((fX2_calibrateTool.eq_1 _ _ _ _).trans ((if_neg c1).trans rfl))) (pr2 ((fX2_calibrateTool.eq_1 _ _ _ _).trans ((if_neg c1).trans rfl))) hH hS (Nat.zero_le _) (Nat.zero_le _)
  · skip
    refine lv_iconst (v := 0) hx hb dX2_calibrateTool_8 (by decide) ?_
    exact E _ _ _ _ _ _ _ _ _ dX2_calibrateTool_9 rfl (pr1 ((fX2_calibrateTool.eq_1 _ _ _ _).trans ((if_pos c1).trans rfl))) (pr2 ((fX2_calibrateTool.eq_1 _ _ _ _).trans ((if_pos c1).trans rfl))) hH hS (Nat.zero_le _) (Nat.zero_le _)
theorem k_X2_calibrateTool {p : Program} {l : Launch} {e : Env} {R : Room} {s : State} {m : MethodId} {args : Array Value} {below : List Frame} {meth : Method} {c : Code} {H : Heap} {locs : List Loc} {cells slots : Nat} {Q : State → Prop} {cc : ByteArray} {pc nL : Nat} {ls : Array Slot} {rest : List Value} {G : gG} {own : String} {da : Nat → Nat} {v : vSt} {x : gX} (X : CX G p s m args c cc nL own) (hS : va_S (gA G) s.heap H locs) (hH : Hp G da v x H) {r : Nat} (hk_r : kd r = 2) {p1 : Int32} {p2 : Int32} (ho : oX2_calibrateTool r p1 p2 v) {idx : Nat} (hml : Cond.methodLink own idx yX2_calibrateTool ∈ TT) (hls : ls.size = nL) (hsum : (rest.map fun v => v.category).sum ≤ 8) (hR : rmX2_calibrateTool.frames + 1 ≤ R.frames ∧ 8 + (7 + 11) + rmX2_calibrateTool.locals ≤ R.locals) (hcs : cells ≤ R.cells ∧ slots ≤ R.slots) (hdg : decode cc pc = .ok (.invokevirtual idx, 3)) (kk : ∀ (d : Nat → Nat) (H1 : Heap) (locs1 : List Loc) (v1 : vSt), v1 = (fX2_calibrateTool r p1 p2 v).2 → Hp G d v1 x H1 → va_S (gA G) s.heap H1 locs1 → W p l e R s m args below meth c H1 locs1 cells slots Q (F0 m (pc + 3) ls (.int (fX2_calibrateTool r p1 p2 v).1 :: rest))) : W p l e R s m args below meth c H locs cells slots Q (F0 m pc ls (.int p2 :: .int p1 :: .ref (ga G r) :: rest)) := c_mi X.2.2.2.2.2.2 (runV (k := 2) X.1 X.2.1 X.2.2.1 X.2.2.2.1 X.2.2.2.2.1 (mX2_calibrateTool l G da v x r hk_r p1 p2 ho) pW_bl hml t_im_X2_calibrateTool t_sel_X2_calibrateTool t_ini_Drawer t_code_X2_calibrateTool ⟨rfl, by decide, by decide, by decide +kernel⟩ rfl rfl hR hcs (recvW X hH (by rw [hk_r]; decide) (by rw [hk_r]; decide) (ce_2 hk_r) rfl) (preW X hS hH) rfl hls rfl hsum hdg) hS kk
def lX2_copyFrom_18 (r : Nat) (o1 : Nat) : Nat → Int32 → vSt → vSt
  | 0, i2, v3 => v3
  | n + 1, i2, v3 => if ((v3 r 2) : Int32) ≤ i2 then v3 else (if (6 : Int32) ≤ i2 then v3 else (let v7 : vSt := fX8_copyFrom ((r + 2) + 13 + (i2 : Int32).toNatClampNeg) ((o1 + 2) + 13 + (i2 : Int32).toNatClampNeg) v3; lX2_copyFrom_18 r o1 n (i2 + 1) v7))
def olX2_copyFrom_18 (r : Nat) (o1 : Nat) : Nat → Int32 → vSt → Prop
  | 0, _, _ => False
  | n + 1, i2, v3 => ¬ (((v3 r 2) : Int32) ≤ i2) → (¬ ((6 : Int32) ≤ i2) → ((vp_in (i2) 6) ∧ (∀ v7 : vSt, v7 = (fX8_copyFrom ((r + 2) + 13 + (i2 : Int32).toNatClampNeg) ((o1 + 2) + 13 + (i2 : Int32).toNatClampNeg) v3) → (olX2_copyFrom_18 r o1 n (i2 + 1) v7))))
def lX2_copyFrom_65 (r : Nat) (o1 : Nat) : Nat → Int32 → vSt → vSt
  | 0, i9, v10 => v10
  | n + 1, i9, v10 => if ((v10 r 3) : Int32) ≤ i9 then v10 else (if (10 : Int32) ≤ i9 then v10 else (let v14 : vSt := fX1_copyFrom ((r + 3) + 20 + (i9 : Int32).toNatClampNeg) ((o1 + 3) + 20 + (i9 : Int32).toNatClampNeg) v10; lX2_copyFrom_65 r o1 n (i9 + 1) v14))
def olX2_copyFrom_65 (r : Nat) (o1 : Nat) : Nat → Int32 → vSt → Prop
  | 0, _, _ => False
  | n + 1, i9, v10 => ¬ (((v10 r 3) : Int32) ≤ i9) → (¬ ((10 : Int32) ≤ i9) → ((vp_in (i9) 10) ∧ (∀ v14 : vSt, v14 = (fX1_copyFrom ((r + 3) + 20 + (i9 : Int32).toNatClampNeg) ((o1 + 3) + 20 + (i9 : Int32).toNatClampNeg) v10) → (olX2_copyFrom_65 r o1 n (i9 + 1) v14))))
def fX2_copyFrom (r : Nat) (o1 : Nat) (v : vSt) : vSt := let v1 : vSt := u2 v r 2 (v o1 2); let v4 : vSt := (lX2_copyFrom_18 r o1 ((Int32.toInt ((v1 r 2)) - Int32.toInt 0).toNat + 1) 0 v1); let v8 : vSt := u2 v4 r 3 (v4 o1 3); let v11 : vSt := (lX2_copyFrom_65 r o1 ((Int32.toInt ((v8 r 3)) - Int32.toInt 0).toNat + 1) 0 v8); let v15 : vSt := u2 v11 r 4 (v11 o1 4); let v16 : vSt := u2 v15 r 5 (v15 o1 5); v16
def oX2_copyFrom (r : Nat) (o1 : Nat) (v : vSt) : Prop := ∀ v1 : vSt, v1 = (u2 v r 2 (v o1 2)) → (olX2_copyFrom_18 r o1 ((Int32.toInt ((v1 r 2)) - Int32.toInt 0).toNat + 1) 0 v1 ∧ (∀ (v4 : vSt), v4 = ((lX2_copyFrom_18 r o1 ((Int32.toInt ((v1 r 2)) - Int32.toInt 0).toNat + 1) 0 v1) : vSt) → (∀ v8 : vSt, v8 = (u2 v4 r 3 (v4 o1 3)) → (olX2_copyFrom_65 r o1 ((Int32.toInt ((v8 r 3)) - Int32.toInt 0).toNat + 1) 0 v8))))
abbrev rmX2_copyFrom : Room := { frames := 1, cells := 0, slots := 0, locals := 21 }
theorem dX2_copyFrom_0 : decode cX2_copyFrom 0 = .ok (.aload_n 0, 1) := by decide +kernel
theorem dX2_copyFrom_1 : decode cX2_copyFrom 1 = .ok (.aload_n 1, 1) := by decide +kernel
theorem dX2_copyFrom_2 : decode cX2_copyFrom 2 = .ok (.getfield 29, 3) := by decide +kernel
theorem dX2_copyFrom_5 : decode cX2_copyFrom 5 = .ok (.putfield 29, 3) := by decide +kernel
theorem dX2_copyFrom_8 : decode cX2_copyFrom 8 = .ok (.iconst 0, 1) := by decide +kernel
theorem dX2_copyFrom_9 : decode cX2_copyFrom 9 = .ok (.istore_n 2, 1) := by decide +kernel
theorem dX2_copyFrom_10 : decode cX2_copyFrom 10 = .ok (.iload_n 2, 1) := by decide +kernel
theorem dX2_copyFrom_11 : decode cX2_copyFrom 11 = .ok (.aload_n 0, 1) := by decide +kernel
theorem dX2_copyFrom_12 : decode cX2_copyFrom 12 = .ok (.getfield 29, 3) := by decide +kernel
theorem dX2_copyFrom_15 : decode cX2_copyFrom 15 = .ok (.if_icmp .ge 33, 3) := by decide +kernel
theorem dX2_copyFrom_18 : decode cX2_copyFrom 18 = .ok (.iload_n 2, 1) := by decide +kernel
theorem dX2_copyFrom_19 : decode cX2_copyFrom 19 = .ok (.aload_n 0, 1) := by decide +kernel
theorem dX2_copyFrom_20 : decode cX2_copyFrom 20 = .ok (.getfield 11, 3) := by decide +kernel
theorem dX2_copyFrom_23 : decode cX2_copyFrom 23 = .ok (.arraylength, 1) := by decide +kernel
theorem dX2_copyFrom_24 : decode cX2_copyFrom 24 = .ok (.if_icmp .ge 24, 3) := by decide +kernel
theorem dX2_copyFrom_27 : decode cX2_copyFrom 27 = .ok (.aload_n 0, 1) := by decide +kernel
theorem dX2_copyFrom_28 : decode cX2_copyFrom 28 = .ok (.getfield 11, 3) := by decide +kernel
theorem dX2_copyFrom_31 : decode cX2_copyFrom 31 = .ok (.iload_n 2, 1) := by decide +kernel
theorem dX2_copyFrom_32 : decode cX2_copyFrom 32 = .ok (.aaload, 1) := by decide +kernel
theorem dX2_copyFrom_33 : decode cX2_copyFrom 33 = .ok (.aload_n 1, 1) := by decide +kernel
theorem dX2_copyFrom_34 : decode cX2_copyFrom 34 = .ok (.getfield 11, 3) := by decide +kernel
theorem dX2_copyFrom_37 : decode cX2_copyFrom 37 = .ok (.iload_n 2, 1) := by decide +kernel
theorem dX2_copyFrom_38 : decode cX2_copyFrom 38 = .ok (.aaload, 1) := by decide +kernel
theorem dX2_copyFrom_39 : decode cX2_copyFrom 39 = .ok (.invokevirtual 32, 3) := by decide +kernel
theorem dX2_copyFrom_42 : decode cX2_copyFrom 42 = .ok (.iinc 2 1, 3) := by decide +kernel
theorem dX2_copyFrom_45 : decode cX2_copyFrom 45 = .ok (.goto (-35), 3) := by decide +kernel
theorem dX2_copyFrom_48 : decode cX2_copyFrom 48 = .ok (.aload_n 0, 1) := by decide +kernel
theorem dX2_copyFrom_49 : decode cX2_copyFrom 49 = .ok (.aload_n 1, 1) := by decide +kernel
theorem dX2_copyFrom_50 : decode cX2_copyFrom 50 = .ok (.getfield 36, 3) := by decide +kernel
theorem dX2_copyFrom_53 : decode cX2_copyFrom 53 = .ok (.putfield 36, 3) := by decide +kernel
theorem dX2_copyFrom_56 : decode cX2_copyFrom 56 = .ok (.iconst 0, 1) := by decide +kernel
theorem dX2_copyFrom_57 : decode cX2_copyFrom 57 = .ok (.istore_n 2, 1) := by decide +kernel
theorem dX2_copyFrom_58 : decode cX2_copyFrom 58 = .ok (.iload_n 2, 1) := by decide +kernel
theorem dX2_copyFrom_59 : decode cX2_copyFrom 59 = .ok (.aload_n 0, 1) := by decide +kernel
theorem dX2_copyFrom_60 : decode cX2_copyFrom 60 = .ok (.getfield 36, 3) := by decide +kernel
theorem dX2_copyFrom_63 : decode cX2_copyFrom 63 = .ok (.if_icmp .ge 33, 3) := by decide +kernel
theorem dX2_copyFrom_66 : decode cX2_copyFrom 66 = .ok (.iload_n 2, 1) := by decide +kernel
theorem dX2_copyFrom_67 : decode cX2_copyFrom 67 = .ok (.aload_n 0, 1) := by decide +kernel
theorem dX2_copyFrom_68 : decode cX2_copyFrom 68 = .ok (.getfield 19, 3) := by decide +kernel
theorem dX2_copyFrom_71 : decode cX2_copyFrom 71 = .ok (.arraylength, 1) := by decide +kernel
theorem dX2_copyFrom_72 : decode cX2_copyFrom 72 = .ok (.if_icmp .ge 24, 3) := by decide +kernel
theorem dX2_copyFrom_75 : decode cX2_copyFrom 75 = .ok (.aload_n 0, 1) := by decide +kernel
theorem dX2_copyFrom_76 : decode cX2_copyFrom 76 = .ok (.getfield 19, 3) := by decide +kernel
theorem dX2_copyFrom_79 : decode cX2_copyFrom 79 = .ok (.iload_n 2, 1) := by decide +kernel
theorem dX2_copyFrom_80 : decode cX2_copyFrom 80 = .ok (.aaload, 1) := by decide +kernel
theorem dX2_copyFrom_81 : decode cX2_copyFrom 81 = .ok (.aload_n 1, 1) := by decide +kernel
theorem dX2_copyFrom_82 : decode cX2_copyFrom 82 = .ok (.getfield 19, 3) := by decide +kernel
theorem dX2_copyFrom_85 : decode cX2_copyFrom 85 = .ok (.iload_n 2, 1) := by decide +kernel
theorem dX2_copyFrom_86 : decode cX2_copyFrom 86 = .ok (.aaload, 1) := by decide +kernel
theorem dX2_copyFrom_87 : decode cX2_copyFrom 87 = .ok (.invokevirtual 39, 3) := by decide +kernel
theorem dX2_copyFrom_90 : decode cX2_copyFrom 90 = .ok (.iinc 2 1, 3) := by decide +kernel
theorem dX2_copyFrom_93 : decode cX2_copyFrom 93 = .ok (.goto (-35), 3) := by decide +kernel
theorem dX2_copyFrom_96 : decode cX2_copyFrom 96 = .ok (.aload_n 0, 1) := by decide +kernel
theorem dX2_copyFrom_97 : decode cX2_copyFrom 97 = .ok (.aload_n 1, 1) := by decide +kernel
theorem dX2_copyFrom_98 : decode cX2_copyFrom 98 = .ok (.getfield 23, 3) := by decide +kernel
theorem dX2_copyFrom_101 : decode cX2_copyFrom 101 = .ok (.putfield 23, 3) := by decide +kernel
theorem dX2_copyFrom_104 : decode cX2_copyFrom 104 = .ok (.aload_n 0, 1) := by decide +kernel
theorem dX2_copyFrom_105 : decode cX2_copyFrom 105 = .ok (.aload_n 1, 1) := by decide +kernel
theorem dX2_copyFrom_106 : decode cX2_copyFrom 106 = .ok (.getfield 42, 3) := by decide +kernel
theorem dX2_copyFrom_109 : decode cX2_copyFrom 109 = .ok (.putfield 42, 3) := by decide +kernel
theorem dX2_copyFrom_112 : decode cX2_copyFrom 112 = .ok (.return_, 1) := by decide +kernel
set_option maxHeartbeats 8000000 in
set_option maxRecDepth 100000 in
theorem mX2_copyFrom (l : Launch) (G : gG) (da : Nat → Nat) (v : vSt) (x : gX) (r : Nat) (hk_r : kd r = 2) (o1 : Nat) (hk_o1 : kd o1 = 2) (ho : oX2_copyFrom r o1 v) : MV l yX2_copyFrom cX2_copyFrom 3 none rmX2_copyFrom [.ref (ga G r), .ref (ga G o1)] G da v x 0 0 (fX2_copyFrom r o1 v) x := by
  refine gofMV (own := RX2) (by decide) rfl (Nat.le_of_ble_eq_true rfl) (fun p e s m args below meth c ls Q X hH hl E => ?_)
  have hx := X.1
  have hb := X.2.1
  have hown := X.2.2.2.1
  have hts := X.2.2.2.2.1
  have hS : va_S (gA G) s.heap s.heap [] := va_S.rf
  unfold oX2_copyFrom at ho
  have hl : lv_has ls 3 [(0, .ref (ga G r)), (1, .ref (ga G o1))] := hl
  refine lv_aload_n hx hb dX2_copyFrom_0 rfl (lv_at hl 0 rfl) ?_
  refine lv_aload_n hx hb dX2_copyFrom_1 rfl (lv_at hl 1 rfl) ?_
  refine g_Drawer_29 X hH hk_o1 dX2_copyFrom_2 ?_
  refine p_Drawer_29 X hH hS hk_r dX2_copyFrom_5 (fun H locs v1 ev1 hH hS => ?_)
  have ho := ho v1 ev1
  refine lv_iconst (v := 0) hx hb dX2_copyFrom_8 (by decide) ?_
  refine lv_istore_n (lv' := [(2, .int 0), (0, .ref (ga G r)), (1, .ref (ga G o1))]) hx hb dX2_copyFrom_9 rfl hl (by decide) rfl (fun ls hl => ?_)
  have L5 : ∀ (n : Nat) (i2 : Int32) (v3 : vSt) (da : Nat → Nat) (H : Heap) (locs : List Loc) (ls : Array Slot), olX2_copyFrom_18 r o1 n i2 v3 → Hp G da v3 x H → va_S (gA G) s.heap H locs → lv_has ls 3 [(2, .int i2), (0, .ref (ga G r)), (1, .ref (ga G o1))] → (∀ (v4 : vSt) (da : Nat → Nat) (H : Heap) (locs : List Loc) (ls : Array Slot), v4 = (lX2_copyFrom_18 r o1 n i2 v3 : vSt) → Hp G da v4 x H → va_S (gA G) s.heap H locs → lv_has ls 3 [(0, .ref (ga G r)), (1, .ref (ga G o1))] → W p l e rmX2_copyFrom s m args below meth c H locs 0 0 Q (F0 m 48 ls [])) → W p l e rmX2_copyFrom s m args below meth c H locs 0 0 Q (F0 m 10 ls []) := by
    clear ho
    intro n
    induction n with
    | zero =>
      intro i2 v3 da H locs ls ho
      exact ho.elim
    | succ n ih =>
      intro i2 v3 da H locs ls ho hH hS hl K6
      refine lv_iload_n hx hb dX2_copyFrom_10 rfl (lv_at hl 0 rfl) ?_
      refine lv_aload_n hx hb dX2_copyFrom_11 rfl (lv_at hl 1 rfl) ?_
      refine g_Drawer_29 X hH hk_r dX2_copyFrom_12 ?_
      refine lv_icmp_ge (tgt := 48) hx hb dX2_copyFrom_15 (by decide) (fun c4 => ?_) (fun c4 => ?_)
      · skip
        exact K6 _ _ _ _ _ (Eq.symm (((lX2_copyFrom_18.eq_2 _ _ _ _ _)).trans ((if_pos c4).trans rfl))) hH hS (lv_sub hl [1, 2] rfl)
      · have ho := ho c4
        refine lv_iload_n hx hb dX2_copyFrom_18 rfl (lv_at hl 0 rfl) ?_
        refine lv_aload_n hx hb dX2_copyFrom_19 rfl (lv_at hl 1 rfl) ?_
        refine g_Drawer_11 X hH hk_r dX2_copyFrom_20 ?_
        refine len_20 X hH (kc_2_20 hk_r) dX2_copyFrom_23 ?_
        refine lv_icmp_ge (tgt := 48) hx hb dX2_copyFrom_24 (by decide) (fun c5 => ?_) (fun c5 => ?_)
        · skip
          exact K6 _ _ _ _ _ (Eq.symm (((lX2_copyFrom_18.eq_2 _ _ _ _ _)).trans ((if_neg c4).trans ((if_pos c5).trans rfl)))) hH hS (lv_sub hl [1, 2] rfl)
        · have ho := ho c5
          refine lv_aload_n hx hb dX2_copyFrom_27 rfl (lv_at hl 1 rfl) ?_
          refine g_Drawer_11 X hH hk_r dX2_copyFrom_28 ?_
          refine lv_iload_n hx hb dX2_copyFrom_31 rfl (lv_at hl 0 rfl) ?_
          have hq6 := ho.1
          have ho := ho.2
          refine qld_20 X hH (kc_2_20 hk_r) hq6 dX2_copyFrom_32 ?_
          refine lv_aload_n hx hb dX2_copyFrom_33 rfl (lv_at hl 2 rfl) ?_
          refine g_Drawer_11 X hH hk_o1 dX2_copyFrom_34 ?_
          refine lv_iload_n hx hb dX2_copyFrom_37 rfl (lv_at hl 0 rfl) ?_
          refine qld_20 X hH (kc_2_20 hk_o1) hq6 dX2_copyFrom_38 ?_
          refine k_X8_copyFrom X hS hH (ki_20 (kc_2_20 hk_r) (vp_lt hq6)) (ki_20 (kc_2_20 hk_o1) (vp_lt hq6)) t_ml_Drawer_32 hl.1 (Nat.le_of_ble_eq_true rfl) ⟨Nat.le_of_ble_eq_true rfl, Nat.le_of_ble_eq_true rfl⟩ ⟨Nat.zero_le _, Nat.zero_le _⟩ dX2_copyFrom_39 (fun da H locs v7 ev7 hH hS => ?_)
          have ho := ho v7 ev7
          refine lv_iinc (v := i2 + 1) (lv' := [(2, .int (i2 + 1)), (0, .ref (ga G r)), (1, .ref (ga G o1))]) hx hb dX2_copyFrom_42 hl (k := 0) rfl rfl (by decide) rfl (fun ls hl => ?_)
          refine lv_goto (tgt := 10) hx hb dX2_copyFrom_45 (by decide) ?_
          replace ev7 := Eq.symm ev7
          subst ev7
          exact ih _ _ _ _ _ _ ho hH hS (lv_sub hl [0, 1, 2] rfl) (fun v4 da H locs ls q0 hH hS hl => K6 v4 da H locs ls (q0.trans (congrArg (fun z : vSt => z) (Eq.symm (((lX2_copyFrom_18.eq_2 _ _ _ _ _)).trans ((if_neg c4).trans ((if_neg c5).trans rfl)))))) hH hS hl)
  have hol := ho.1
  refine L5 ((Int32.toInt ((v1 r 2)) - Int32.toInt 0).toNat + 1) 0 v1 _ _ _ _ hol hH hS (lv_sub hl [0, 1, 2] rfl) (fun v4 da H locs ls ev4 hH hS hl => ?_)
  have ho := ho.2 v4 ev4
  refine lv_aload_n hx hb dX2_copyFrom_48 rfl (lv_at hl 0 rfl) ?_
  refine lv_aload_n hx hb dX2_copyFrom_49 rfl (lv_at hl 1 rfl) ?_
  refine g_Drawer_36 X hH hk_o1 dX2_copyFrom_50 ?_
  refine p_Drawer_36 X hH hS hk_r dX2_copyFrom_53 (fun H locs v8 ev8 hH hS => ?_)
  have ho := ho v8 ev8
  refine lv_iconst (v := 0) hx hb dX2_copyFrom_56 (by decide) ?_
  refine lv_istore_n (lv' := [(2, .int 0), (0, .ref (ga G r)), (1, .ref (ga G o1))]) hx hb dX2_copyFrom_57 rfl hl (by decide) rfl (fun ls hl => ?_)
  have L12 : ∀ (n : Nat) (i9 : Int32) (v10 : vSt) (da : Nat → Nat) (H : Heap) (locs : List Loc) (ls : Array Slot), olX2_copyFrom_65 r o1 n i9 v10 → Hp G da v10 x H → va_S (gA G) s.heap H locs → lv_has ls 3 [(2, .int i9), (0, .ref (ga G r)), (1, .ref (ga G o1))] → (∀ (v11 : vSt) (da : Nat → Nat) (H : Heap) (locs : List Loc) (ls : Array Slot), v11 = (lX2_copyFrom_65 r o1 n i9 v10 : vSt) → Hp G da v11 x H → va_S (gA G) s.heap H locs → lv_has ls 3 [(0, .ref (ga G r)), (1, .ref (ga G o1))] → W p l e rmX2_copyFrom s m args below meth c H locs 0 0 Q (F0 m 96 ls [])) → W p l e rmX2_copyFrom s m args below meth c H locs 0 0 Q (F0 m 58 ls []) := by
    clear ho
    intro n
    induction n with
    | zero =>
      intro i9 v10 da H locs ls ho
      exact ho.elim
    | succ n ih =>
      intro i9 v10 da H locs ls ho hH hS hl K13
      refine lv_iload_n hx hb dX2_copyFrom_58 rfl (lv_at hl 0 rfl) ?_
      refine lv_aload_n hx hb dX2_copyFrom_59 rfl (lv_at hl 1 rfl) ?_
      refine g_Drawer_36 X hH hk_r dX2_copyFrom_60 ?_
      refine lv_icmp_ge (tgt := 96) hx hb dX2_copyFrom_63 (by decide) (fun c11 => ?_) (fun c11 => ?_)
      · skip
        exact K13 _ _ _ _ _ (Eq.symm (((lX2_copyFrom_65.eq_2 _ _ _ _ _)).trans ((if_pos c11).trans rfl))) hH hS (lv_sub hl [1, 2] rfl)
      · have ho := ho c11
        refine lv_iload_n hx hb dX2_copyFrom_66 rfl (lv_at hl 0 rfl) ?_
        refine lv_aload_n hx hb dX2_copyFrom_67 rfl (lv_at hl 1 rfl) ?_
        refine g_Drawer_19 X hH hk_r dX2_copyFrom_68 ?_
        refine len_21 X hH (kc_2_21 hk_r) dX2_copyFrom_71 ?_
        refine lv_icmp_ge (tgt := 96) hx hb dX2_copyFrom_72 (by decide) (fun c12 => ?_) (fun c12 => ?_)
        · skip
          exact K13 _ _ _ _ _ (Eq.symm (((lX2_copyFrom_65.eq_2 _ _ _ _ _)).trans ((if_neg c11).trans ((if_pos c12).trans rfl)))) hH hS (lv_sub hl [1, 2] rfl)
        · have ho := ho c12
          refine lv_aload_n hx hb dX2_copyFrom_75 rfl (lv_at hl 1 rfl) ?_
          refine g_Drawer_19 X hH hk_r dX2_copyFrom_76 ?_
          refine lv_iload_n hx hb dX2_copyFrom_79 rfl (lv_at hl 0 rfl) ?_
          have hq13 := ho.1
          have ho := ho.2
          refine qld_21 X hH (kc_2_21 hk_r) hq13 dX2_copyFrom_80 ?_
          refine lv_aload_n hx hb dX2_copyFrom_81 rfl (lv_at hl 2 rfl) ?_
          refine g_Drawer_19 X hH hk_o1 dX2_copyFrom_82 ?_
          refine lv_iload_n hx hb dX2_copyFrom_85 rfl (lv_at hl 0 rfl) ?_
          refine qld_21 X hH (kc_2_21 hk_o1) hq13 dX2_copyFrom_86 ?_
          refine k_X1_copyFrom X hS hH (ki_21 (kc_2_21 hk_r) (vp_lt hq13)) (ki_21 (kc_2_21 hk_o1) (vp_lt hq13)) t_ml_Drawer_39 hl.1 (Nat.le_of_ble_eq_true rfl) ⟨Nat.le_of_ble_eq_true rfl, Nat.le_of_ble_eq_true rfl⟩ ⟨Nat.zero_le _, Nat.zero_le _⟩ dX2_copyFrom_87 (fun da H locs v14 ev14 hH hS => ?_)
          have ho := ho v14 ev14
          refine lv_iinc (v := i9 + 1) (lv' := [(2, .int (i9 + 1)), (0, .ref (ga G r)), (1, .ref (ga G o1))]) hx hb dX2_copyFrom_90 hl (k := 0) rfl rfl (by decide) rfl (fun ls hl => ?_)
          refine lv_goto (tgt := 58) hx hb dX2_copyFrom_93 (by decide) ?_
          replace ev14 := Eq.symm ev14
          subst ev14
          exact ih _ _ _ _ _ _ ho hH hS (lv_sub hl [0, 1, 2] rfl) (fun v11 da H locs ls q0 hH hS hl => K13 v11 da H locs ls (q0.trans (congrArg (fun z : vSt => z) (Eq.symm (((lX2_copyFrom_65.eq_2 _ _ _ _ _)).trans ((if_neg c11).trans ((if_neg c12).trans rfl)))))) hH hS hl)
  have hol := ho
  refine L12 ((Int32.toInt ((v8 r 3)) - Int32.toInt 0).toNat + 1) 0 v8 _ _ _ _ hol hH hS (lv_sub hl [0, 1, 2] rfl) (fun v11 da H locs ls ev11 hH hS hl => ?_)
  refine lv_aload_n hx hb dX2_copyFrom_96 rfl (lv_at hl 0 rfl) ?_
  refine lv_aload_n hx hb dX2_copyFrom_97 rfl (lv_at hl 1 rfl) ?_
  refine g_Drawer_23 X hH hk_o1 dX2_copyFrom_98 ?_
  refine p_Drawer_23 X hH hS hk_r dX2_copyFrom_101 (fun H locs v15 ev15 hH hS => ?_)
  refine lv_aload_n hx hb dX2_copyFrom_104 rfl (lv_at hl 0 rfl) ?_
  refine lv_aload_n hx hb dX2_copyFrom_105 rfl (lv_at hl 1 rfl) ?_
  refine g_Drawer_42 X hH hk_o1 dX2_copyFrom_106 ?_
  refine p_Drawer_42 X hH hS hk_r dX2_copyFrom_109 (fun H locs v16 ev16 hH hS => ?_)
  replace ev1 := Eq.symm ev1
  replace ev4 := Eq.symm ev4
  replace ev8 := Eq.symm ev8
  replace ev11 := Eq.symm ev11
  replace ev15 := Eq.symm ev15
  replace ev16 := Eq.symm ev16
  subst ev1 ev4 ev8 ev11 ev15 ev16
  exact E _ _ _ _ _ _ _ _ dX2_copyFrom_112 (Eq.symm rfl) hH hS (Nat.zero_le _) (Nat.zero_le _)
theorem k_X2_copyFrom {p : Program} {l : Launch} {e : Env} {R : Room} {s : State} {m : MethodId} {args : Array Value} {below : List Frame} {meth : Method} {c : Code} {H : Heap} {locs : List Loc} {cells slots : Nat} {Q : State → Prop} {cc : ByteArray} {pc nL : Nat} {ls : Array Slot} {rest : List Value} {G : gG} {own : String} {da : Nat → Nat} {v : vSt} {x : gX} (X : CX G p s m args c cc nL own) (hS : va_S (gA G) s.heap H locs) (hH : Hp G da v x H) {r : Nat} (hk_r : kd r = 2) {o1 : Nat} (hk_o1 : kd o1 = 2) (ho : oX2_copyFrom r o1 v) {idx : Nat} (hml : Cond.methodLink own idx yX2_copyFrom ∈ TT) (hls : ls.size = nL) (hsum : (rest.map fun v => v.category).sum ≤ 8) (hR : rmX2_copyFrom.frames + 1 ≤ R.frames ∧ 8 + (3 + 11) + rmX2_copyFrom.locals ≤ R.locals) (hcs : cells ≤ R.cells ∧ slots ≤ R.slots) (hdg : decode cc pc = .ok (.invokevirtual idx, 3)) (kk : ∀ (d : Nat → Nat) (H1 : Heap) (locs1 : List Loc) (v1 : vSt), v1 = fX2_copyFrom r o1 v → Hp G d v1 x H1 → va_S (gA G) s.heap H1 locs1 → W p l e R s m args below meth c H1 locs1 cells slots Q (F0 m (pc + 3) ls rest)) : W p l e R s m args below meth c H locs cells slots Q (F0 m pc ls (.ref (ga G o1) :: .ref (ga G r) :: rest)) := c_mv X.2.2.2.2.2.2 (runV (k := 1) X.1 X.2.1 X.2.2.1 X.2.2.2.1 X.2.2.2.2.1 (mX2_copyFrom l G da v x r hk_r o1 hk_o1 ho) pW_bl hml t_im_X2_copyFrom t_sel_X2_copyFrom t_ini_Drawer t_code_X2_copyFrom ⟨rfl, by decide, by decide, by decide +kernel⟩ rfl rfl hR hcs (recvW X hH (by rw [hk_r]; decide) (by rw [hk_r]; decide) (ce_2 hk_r) rfl) (preW X hS hH) rfl hls rfl hsum hdg) hS kk
