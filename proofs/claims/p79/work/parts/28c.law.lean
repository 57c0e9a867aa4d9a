/-! the law -/
theorem IA.of_X {s : State} {H : Heap} {locs : List Loc} {G : gG} {b L : Nat} {xs : Nat → Int32} (hX : va_X b L xs s s.heap) (hbl : b < s.heap.size) (hbA : ¬ gA G b) (hS : va_S (gA G) s.heap H locs) (hL : L < 2 ^ 31) : IA b L xs s H := by
  obtain ⟨scr, h1, h2, h3, h4, h5⟩ := hX
  exact ⟨scr, by rw [hS.2.1 b hbl hbA]; exact h1, h2, h3, Nat.le_of_eq h4.symm, by rw [h4], h5, hL⟩
theorem le_ce {a : Nat} (h : a ≤ 600104) : a ≤ room_1.cells := Nat.le_trans h (by decide +kernel)
theorem le_sl {a : Nat} (h : a ≤ 600104) : a ≤ room_1.slots := Nat.le_trans h (by decide +kernel)
def fL_lot (n1 : Nat) (f1 : Nat → Int32) (p1 : Int32) : Int32 := if ((Int32.ofNat n1) : Int32) ≤ p1 then (((-1038217619) * (p1 + 6197)) + 5927) else (f1 (p1 : Int32).toNatClampNeg)
def oL_lot (n1 : Nat) (f1 : Nat → Int32) (p1 : Int32) : Prop := ¬ (((Int32.ofNat n1) : Int32) ≤ p1) → (vp_in (p1) n1)
abbrev rmL_lot : Room := { frames := 0, cells := 0, slots := 0, locals := 0 }
theorem dL_lot_0 : decode cL_lot 0 = .ok (.iload_n 1, 1) := by decide +kernel
theorem dL_lot_1 : decode cL_lot 1 = .ok (.aload_n 0, 1) := by decide +kernel
theorem dL_lot_2 : decode cL_lot 2 = .ok (.arraylength, 1) := by decide +kernel
theorem dL_lot_3 : decode cL_lot 3 = .ok (.if_icmp .ge 9, 3) := by decide +kernel
theorem dL_lot_6 : decode cL_lot 6 = .ok (.aload_n 0, 1) := by decide +kernel
theorem dL_lot_7 : decode cL_lot 7 = .ok (.iload_n 1, 1) := by decide +kernel
theorem dL_lot_8 : decode cL_lot 8 = .ok (.iaload, 1) := by decide +kernel
theorem dL_lot_9 : decode cL_lot 9 = .ok (.goto 15, 3) := by decide +kernel
theorem dL_lot_12 : decode cL_lot 12 = .ok (.ldc 7, 2) := by decide +kernel
theorem dL_lot_14 : decode cL_lot 14 = .ok (.iload_n 1, 1) := by decide +kernel
theorem dL_lot_15 : decode cL_lot 15 = .ok (.sipush 6197, 3) := by decide +kernel
theorem dL_lot_18 : decode cL_lot 18 = .ok (.iadd, 1) := by decide +kernel
theorem dL_lot_19 : decode cL_lot 19 = .ok (.imul, 1) := by decide +kernel
theorem dL_lot_20 : decode cL_lot 20 = .ok (.sipush 5927, 3) := by decide +kernel
theorem dL_lot_23 : decode cL_lot 23 = .ok (.iadd, 1) := by decide +kernel
theorem dL_lot_24 : decode cL_lot 24 = .ok (.ireturn, 1) := by decide +kernel
set_option maxHeartbeats 8000000 in
set_option maxRecDepth 100000 in
theorem mL_lot (l : Launch) (G : gG) (a1 n1 : Nat) (f1 : Nat → Int32) (p1 : Int32) (ho : oL_lot n1 f1 p1) : PI l yL_lot cL_lot 2 (some .int) rmL_lot [.ref a1, .int p1] G (fun U => IA a1 n1 f1 U U.heap) (fL_lot n1 f1 p1) := by
  refine gofP (own := RL) (by decide) rfl (Nat.le_of_ble_eq_true rfl) (fun p e s m args below meth c ls Q X hia hl E => ?_)
  have hx := X.1
  have hb := X.2.1
  have hown := X.2.2.2.1
  have hts := X.2.2.2.2.1
  have hS : va_S (gA G) s.heap s.heap [] := va_S.rf
  unfold oL_lot at ho
  have hl : lv_has ls 2 [(0, .ref a1), (1, .int p1)] := hl
  refine lv_iload_n hx hb dL_lot_0 rfl (lv_at hl 1 rfl) ?_
  refine lv_aload_n hx hb dL_lot_1 rfl (lv_at hl 0 rfl) ?_
  refine IA.len hx hb hia dL_lot_2 ?_
  refine lv_icmp_ge (tgt := 12) hx hb dL_lot_3 (by decide) (fun c1 => ?_) (fun c1 => ?_)
  · skip
    refine lv_ldc (v := (-1038217619)) hx hb hown (hts _ t_con_VernierDrawersLaw_7) dL_lot_12 ?_
    refine lv_iload_n hx hb dL_lot_14 rfl (lv_at hl 1 rfl) ?_
    refine lv_sipush (v := 6197) hx hb dL_lot_15 (by decide) ?_
    refine lv_iadd hx hb dL_lot_18 ?_
    refine lv_imul hx hb dL_lot_19 ?_
    refine lv_sipush (v := 5927) hx hb dL_lot_20 (by decide) ?_
    refine lv_iadd hx hb dL_lot_23 ?_
    exact E _ _ _ dL_lot_24 rfl (Eq.symm ((fL_lot.eq_1 _ _ _).trans ((if_pos c1).trans rfl)))
  · have ho := ho c1
    refine lv_aload_n hx hb dL_lot_6 rfl (lv_at hl 0 rfl) ?_
    refine lv_iload_n hx hb dL_lot_7 rfl (lv_at hl 1 rfl) ?_
    have hq2 := ho
    refine IA.ald hx hb hia (ia_in hq2 (IA.lt31 hia)).1 (ia_in hq2 (IA.lt31 hia)).2 dL_lot_8 ?_
    refine lv_goto (tgt := 24) hx hb dL_lot_9 (by decide) ?_
    exact E _ _ _ dL_lot_24 rfl (Eq.symm ((fL_lot.eq_1 _ _ _).trans ((if_neg c1).trans rfl)))
theorem k_L_lot {p : Program} {l : Launch} {e : Env} {R : Room} {s : State} {m : MethodId} {args : Array Value} {below : List Frame} {meth : Method} {c : Code} {H : Heap} {locs : List Loc} {cells slots : Nat} {Q : State → Prop} {cc : ByteArray} {pc nL : Nat} {ls : Array Slot} {rest : List Value} {G : gG} {own : String} (X : CX G p s m args c cc nL own) (hS : va_S (gA G) s.heap H locs) {a1 n1 : Nat} {f1 : Nat → Int32} (hia : IA a1 n1 f1 s H) {p1 : Int32} (ho : oL_lot n1 f1 p1) {idx : Nat} (hml : Cond.methodLink own idx yL_lot ∈ TT) (hls : ls.size = nL) (hsum : (rest.map fun v => v.category).sum ≤ 8) (hR : rmL_lot.frames + 1 ≤ R.frames ∧ 8 + (2 + 11) + rmL_lot.locals ≤ R.locals) (hcs : cells ≤ R.cells ∧ slots ≤ R.slots) (hdg : decode cc pc = .ok (.invokestatic idx, 3)) (kk : W p l e R s m args below meth c H locs cells slots Q (F0 m (pc + 3) ls (.int (fL_lot n1 f1 p1) :: rest))) : W p l e R s m args below meth c H locs cells slots Q (F0 m pc ls (.int p1 :: .ref a1 :: rest)) := c_qi (runS (k := 2) X.1 X.2.1 X.2.2.1 X.2.2.2.1 X.2.2.2.2.1 (mL_lot l G a1 n1 f1 p1 ho) (pT_bl (fun U g mk a h => IA.moved (U := U.calling g mk a) (Vm.Alike.refl U.vm) h)) hml t_st_L_lot t_ini_VernierDrawersLaw t_code_L_lot ⟨by decide, by decide, by decide +kernel⟩ rfl rfl hR hcs (fun U hU hW => ⟨preT X hS U hU hW, by show IA _ _ _ U U.heap; rw [hU]; exact IA.moved hW.alike hia⟩) rfl hls rfl hsum hdg) (fun _ h => h ▸ kk)
def lL_law_46 (xs : (Nat → Int32)) (L : Nat) : Nat → Int32 → Int64 → vSt → vSt
  | 0, i15, i16, v17 => v17
  | n + 1, i15, i16, v17 => if (58 : Int32) ≤ i15 then v17 else (let v26 : vSt := fL_acts 448 ((fL_lot L xs ((2 : Int32) * i15)) >>> ((6 : Int32) &&& 31)) ((fL_lot L xs (((2 : Int32) * i15) + (1 : Int32))) >>> ((4 : Int32) &&& 31)) v17; let v33 : vSt := fL_acts 448 (fL_lot L xs ((2 : Int32) * i15)) (fL_lot L xs (((2 : Int32) * i15) + (1 : Int32))) v26; let v40 : vSt := (if ((fX10_states 448 v33) : Int32) = ((fX10_states 448 v26) + (1 : Int32)) then (if ((fL_low ((fL_lot L xs (((2 : Int32) * i15) + (1 : Int32))) >>> ((8 : Int32) &&& 31)) 4) : Int32) = 0 then (let v47 : vSt := (fL_undo 448 v33).2; v47) else v33) else v33 : vSt); let qy43 : Int64 × vSt := (if ((i15 - i15 / (20 : Int32) * (20 : Int32)) : Int32) = 9 then (let v49 : vSt := (fX10_keep 448 v40).2; let v50 : vSt := gM v49 (fX11_keep 461 v49).2; (fL_look 448 v50, v50)) else ((i16, v40)) : Int64 × vSt); let y43 := qy43.1; let v44 := qy43.2; let v47 : vSt := (if ((i15 - i15 / (20 : Int32) * (20 : Int32)) : Int32) = 19 then (let v52 : vSt := (fL_goBack 448 v44).2; v52) else v44 : vSt); let v50 : vSt := (if ((i15 - i15 / (9 : Int32) * (9 : Int32)) : Int32) = 8 then (let v55 : vSt := (fL_undo 448 v47).2; let y57 : Int32 := (if ((fX10_states 448 v47) : Int32) = 0 then ((-100103)) else ((fX10_states 448 v47) - (1 : Int32)) : Int32); v55) else v47 : vSt); lL_law_46 xs L n (i15 + 1) y43 v50)
def olL_law_46 (xs : (Nat → Int32)) (L : Nat) : Nat → Int32 → Int64 → vSt → Prop
  | 0, _, _, _ => False
  | n + 1, i15, i16, v17 => ¬ ((58 : Int32) ≤ i15) → ((oL_lot L xs ((2 : Int32) * i15)) ∧ ((oL_lot L xs (((2 : Int32) * i15) + (1 : Int32))) ∧ ((oL_acts 448 ((fL_lot L xs ((2 : Int32) * i15)) >>> ((6 : Int32) &&& 31)) ((fL_lot L xs (((2 : Int32) * i15) + (1 : Int32))) >>> ((4 : Int32) &&& 31)) v17) ∧ ((pot v17 ≤ pot v17 ∧ pot v17 ≤ pot (fL_acts 448 ((fL_lot L xs ((2 : Int32) * i15)) >>> ((6 : Int32) &&& 31)) ((fL_lot L xs (((2 : Int32) * i15) + (1 : Int32))) >>> ((4 : Int32) &&& 31)) v17) ∧ pot (fL_acts 448 ((fL_lot L xs ((2 : Int32) * i15)) >>> ((6 : Int32) &&& 31)) ((fL_lot L xs (((2 : Int32) * i15) + (1 : Int32))) >>> ((4 : Int32) &&& 31)) v17) ≤ 314580) ∧ (∀ v26 : vSt, v26 = (fL_acts 448 ((fL_lot L xs ((2 : Int32) * i15)) >>> ((6 : Int32) &&& 31)) ((fL_lot L xs (((2 : Int32) * i15) + (1 : Int32))) >>> ((4 : Int32) &&& 31)) v17) → ((oL_look 448 v26) ∧ ((oL_acts 448 (fL_lot L xs ((2 : Int32) * i15)) (fL_lot L xs (((2 : Int32) * i15) + (1 : Int32))) v26) ∧ ((pot v17 ≤ pot v26 ∧ pot v26 ≤ pot (fL_acts 448 (fL_lot L xs ((2 : Int32) * i15)) (fL_lot L xs (((2 : Int32) * i15) + (1 : Int32))) v26) ∧ pot (fL_acts 448 (fL_lot L xs ((2 : Int32) * i15)) (fL_lot L xs (((2 : Int32) * i15) + (1 : Int32))) v26) ≤ 314580) ∧ (∀ v33 : vSt, v33 = (fL_acts 448 (fL_lot L xs ((2 : Int32) * i15)) (fL_lot L xs (((2 : Int32) * i15) + (1 : Int32))) v26) → ((¬ ((0 : Int32) < (i15 - i15 / (5 : Int32) * (5 : Int32))) → (oL_holds 448 ((fL_lot L xs (((2 : Int32) * i15) + (1 : Int32))) >>> ((2 : Int32) &&& 31)) v33)) ∧ ((((((fX10_states 448 v33) : Int32) = (fX10_states 448 v26)) → (¬ (((fX10_states 448 v26) : Int32) = 4) → ((oL_look 448 v33) ∧ (¬ (((lg_cmp (fL_look 448 v33) (fL_look 448 v26)) : Int32) = 0) → ((((fX10_states 448 v33) : Int32) = ((fX10_states 448 v26) + (1 : Int32)))))))) ∧ (¬ (((fX10_states 448 v33) : Int32) = (fX10_states 448 v26)) → ((((fX10_states 448 v33) : Int32) = ((fX10_states 448 v26) + (1 : Int32)))))) ∧ (((((fX10_states 448 v33) : Int32) = ((fX10_states 448 v26) + (1 : Int32))) → ((oL_low ((fL_lot L xs (((2 : Int32) * i15) + (1 : Int32))) >>> ((8 : Int32) &&& 31)) 4) ∧ ((((fL_low ((fL_lot L xs (((2 : Int32) * i15) + (1 : Int32))) >>> ((8 : Int32) &&& 31)) 4) : Int32) = 0) → ((oL_undo 448 v33) ∧ ((pot v17 ≤ pot v33 ∧ pot v33 ≤ pot ((fL_undo 448 v33).2) ∧ pot ((fL_undo 448 v33).2) ≤ 314580) ∧ (∀ v47 : vSt, v47 = ((fL_undo 448 v33).2) → (((((fL_undo 448 v33).1) : Int32) = (fX10_states 448 v26)) ∧ ((oL_look 448 v47) ∧ ((((lg_cmp (fL_look 448 v47) (fL_look 448 v26)) : Int32) = 0)))))))))) ∧ (∀ (v40 : vSt), v40 = ((if ((fX10_states 448 v33) : Int32) = ((fX10_states 448 v26) + (1 : Int32)) then (if ((fL_low ((fL_lot L xs (((2 : Int32) * i15) + (1 : Int32))) >>> ((8 : Int32) &&& 31)) 4) : Int32) = 0 then (let v47 : vSt := (fL_undo 448 v33).2; v47) else v33) else v33 : vSt) : vSt) → (((((i15 - i15 / (20 : Int32) * (20 : Int32)) : Int32) = 9) → ((oX10_keep 448 v40) ∧ ((pot v17 ≤ pot v40 ∧ pot v40 ≤ pot ((fX10_keep 448 v40).2) ∧ pot ((fX10_keep 448 v40).2) ≤ 314580) ∧ (∀ v49 : vSt, v49 = ((fX10_keep 448 v40).2) → (∀ v50 : vSt, v50 = (gM v49 (fX11_keep 461 v49).2) → ((oX10_onBench 448 v50) ∧ (((((fX10_keep 448 v40).1) : Int32) = (fX10_onBench 448 v50)) ∧ (oL_look 448 v50)))))))) ∧ (∀ (y43 : Int64) (v44 : vSt), y43 = ((if ((i15 - i15 / (20 : Int32) * (20 : Int32)) : Int32) = 9 then (let v49 : vSt := (fX10_keep 448 v40).2; let v50 : vSt := gM v49 (fX11_keep 461 v49).2; (fL_look 448 v50, v50)) else ((i16, v40)) : Int64 × vSt) : Int64 × vSt).1 → v44 = ((if ((i15 - i15 / (20 : Int32) * (20 : Int32)) : Int32) = 9 then (let v49 : vSt := (fX10_keep 448 v40).2; let v50 : vSt := gM v49 (fX11_keep 461 v49).2; (fL_look 448 v50, v50)) else ((i16, v40)) : Int64 × vSt) : Int64 × vSt).2 → (((((i15 - i15 / (20 : Int32) * (20 : Int32)) : Int32) = 19) → ((oL_goBack 448 v44) ∧ ((pot v17 ≤ pot v44 ∧ pot v44 ≤ pot ((fL_goBack 448 v44).2) ∧ pot ((fL_goBack 448 v44).2) ≤ 314580) ∧ (∀ v52 : vSt, v52 = ((fL_goBack 448 v44).2) → ((oX10_onBench 448 v52) ∧ (((((fL_goBack 448 v44).1) : Int32) = (fX10_onBench 448 v52)) ∧ ((oL_look 448 v52) ∧ ((((lg_cmp (fL_look 448 v52) y43) : Int32) = 0))))))))) ∧ (∀ (v47 : vSt), v47 = ((if ((i15 - i15 / (20 : Int32) * (20 : Int32)) : Int32) = 19 then (let v52 : vSt := (fL_goBack 448 v44).2; v52) else v44 : vSt) : vSt) → (((((i15 - i15 / (9 : Int32) * (9 : Int32)) : Int32) = 8) → ((oL_undo 448 v47) ∧ ((pot v17 ≤ pot v47 ∧ pot v47 ≤ pot ((fL_undo 448 v47).2) ∧ pot ((fL_undo 448 v47).2) ≤ 314580) ∧ (∀ v55 : vSt, v55 = ((fL_undo 448 v47).2) → ((∀ (y57 : Int32), y57 = ((if ((fX10_states 448 v47) : Int32) = 0 then ((-100103)) else ((fX10_states 448 v47) - (1 : Int32)) : Int32) : Int32) → (((((fL_undo 448 v47).1) : Int32) = y57)))))))) ∧ (∀ (v50 : vSt), v50 = ((if ((i15 - i15 / (9 : Int32) * (9 : Int32)) : Int32) = 8 then (let v55 : vSt := (fL_undo 448 v47).2; let y57 : Int32 := (if ((fX10_states 448 v47) : Int32) = 0 then ((-100103)) else ((fX10_states 448 v47) - (1 : Int32)) : Int32); v55) else v47 : vSt) : vSt) → (olL_law_46 xs L n (i15 + 1) y43 v50))))))))))))))))))))
def oL_law (L : Nat) (xs : Nat → Int32) (v : vSt) : Prop := (oL_holds 448 0 v) ∧ ((oL_undo 448 v) ∧ ((pot v ≤ pot v ∧ pot v ≤ pot ((fL_undo 448 v).2) ∧ pot ((fL_undo 448 v).2) ≤ 314580) ∧ (∀ v6 : vSt, v6 = ((fL_undo 448 v).2) → (((((fL_undo 448 v).1) : Int32) = (-100103)) ∧ ((oL_goBack 448 v6) ∧ ((pot v ≤ pot v6 ∧ pot v6 ≤ pot ((fL_goBack 448 v6).2) ∧ pot ((fL_goBack 448 v6).2) ≤ 314580) ∧ (∀ v12 : vSt, v12 = ((fL_goBack 448 v6).2) → (((((fL_goBack 448 v6).1) : Int32) = (-100103)) ∧ (olL_law_46 xs L (59) 0 0 v12 ∧ (∀ (v18 : vSt), v18 = ((lL_law_46 xs L (59) 0 0 v12) : vSt) → (oL_holds 448 5 v18)))))))))))
theorem dL_law_8 : decode cL_law 8 = .ok (.lconst 0, 1) := by decide +kernel
theorem dL_law_9 : decode cL_law 9 = .ok (.lstore_n 2, 1) := by decide +kernel
theorem dL_law_10 : decode cL_law 10 = .ok (.aload_n 1, 1) := by decide +kernel
theorem dL_law_11 : decode cL_law 11 = .ok (.iconst 0, 1) := by decide +kernel
theorem dL_law_12 : decode cL_law 12 = .ok (.invokestatic 385, 3) := by decide +kernel
theorem dL_law_15 : decode cL_law 15 = .ok (.ifCond .eq 25, 3) := by decide +kernel
theorem dL_law_18 : decode cL_law 18 = .ok (.aload_n 1, 1) := by decide +kernel
theorem dL_law_19 : decode cL_law 19 = .ok (.invokestatic 388, 3) := by decide +kernel
theorem dL_law_22 : decode cL_law 22 = .ok (.ldc 20, 2) := by decide +kernel
theorem dL_law_24 : decode cL_law 24 = .ok (.if_icmp .ne 16, 3) := by decide +kernel
theorem dL_law_27 : decode cL_law 27 = .ok (.aload_n 1, 1) := by decide +kernel
theorem dL_law_28 : decode cL_law 28 = .ok (.invokestatic 390, 3) := by decide +kernel
theorem dL_law_31 : decode cL_law 31 = .ok (.ldc 20, 2) := by decide +kernel
theorem dL_law_33 : decode cL_law 33 = .ok (.if_icmp .ne 7, 3) := by decide +kernel
theorem dL_law_36 : decode cL_law 36 = .ok (.iconst 1, 1) := by decide +kernel
theorem dL_law_37 : decode cL_law 37 = .ok (.goto 4, 3) := by decide +kernel
theorem dL_law_41 : decode cL_law 41 = .ok (.istore 4, 2) := by decide +kernel
theorem dL_law_43 : decode cL_law 43 = .ok (.iconst 0, 1) := by decide +kernel
theorem dL_law_44 : decode cL_law 44 = .ok (.istore 5, 2) := by decide +kernel
theorem dL_law_46 : decode cL_law 46 = .ok (.iload 5, 2) := by decide +kernel
theorem dL_law_48 : decode cL_law 48 = .ok (.bipush 58, 2) := by decide +kernel
theorem dL_law_50 : decode cL_law 50 = .ok (.if_icmp .ge 335, 3) := by decide +kernel
theorem dL_law_53 : decode cL_law 53 = .ok (.iload 4, 2) := by decide +kernel
theorem dL_law_55 : decode cL_law 55 = .ok (.ifCond .eq 330, 3) := by decide +kernel
theorem dL_law_58 : decode cL_law 58 = .ok (.aload_n 0, 1) := by decide +kernel
theorem dL_law_59 : decode cL_law 59 = .ok (.iconst 2, 1) := by decide +kernel
theorem dL_law_60 : decode cL_law 60 = .ok (.iload 5, 2) := by decide +kernel
theorem dL_law_62 : decode cL_law 62 = .ok (.imul, 1) := by decide +kernel
theorem dL_law_63 : decode cL_law 63 = .ok (.invokestatic 392, 3) := by decide +kernel
theorem dL_law_66 : decode cL_law 66 = .ok (.istore 6, 2) := by decide +kernel
theorem dL_law_68 : decode cL_law 68 = .ok (.aload_n 0, 1) := by decide +kernel
theorem dL_law_69 : decode cL_law 69 = .ok (.iconst 2, 1) := by decide +kernel
theorem dL_law_70 : decode cL_law 70 = .ok (.iload 5, 2) := by decide +kernel
theorem dL_law_72 : decode cL_law 72 = .ok (.imul, 1) := by decide +kernel
theorem dL_law_73 : decode cL_law 73 = .ok (.iconst 1, 1) := by decide +kernel
theorem dL_law_74 : decode cL_law 74 = .ok (.iadd, 1) := by decide +kernel
theorem dL_law_75 : decode cL_law 75 = .ok (.invokestatic 392, 3) := by decide +kernel
theorem dL_law_78 : decode cL_law 78 = .ok (.istore 7, 2) := by decide +kernel
theorem dL_law_80 : decode cL_law 80 = .ok (.aload_n 1, 1) := by decide +kernel
theorem dL_law_81 : decode cL_law 81 = .ok (.iload 6, 2) := by decide +kernel
theorem dL_law_83 : decode cL_law 83 = .ok (.bipush 6, 2) := by decide +kernel
theorem dL_law_85 : decode cL_law 85 = .ok (.ishr, 1) := by decide +kernel
theorem dL_law_86 : decode cL_law 86 = .ok (.iload 7, 2) := by decide +kernel
theorem dL_law_88 : decode cL_law 88 = .ok (.iconst 4, 1) := by decide +kernel
theorem dL_law_89 : decode cL_law 89 = .ok (.ishr, 1) := by decide +kernel
theorem dL_law_90 : decode cL_law 90 = .ok (.invokestatic 396, 3) := by decide +kernel
theorem dL_law_93 : decode cL_law 93 = .ok (.istore 4, 2) := by decide +kernel
theorem dL_law_95 : decode cL_law 95 = .ok (.aload_n 1, 1) := by decide +kernel
theorem dL_law_96 : decode cL_law 96 = .ok (.invokestatic 399, 3) := by decide +kernel
theorem dL_law_99 : decode cL_law 99 = .ok (.lstore 8, 2) := by decide +kernel
theorem dL_law_101 : decode cL_law 101 = .ok (.aload_n 1, 1) := by decide +kernel
theorem dL_law_102 : decode cL_law 102 = .ok (.invokevirtual 288, 3) := by decide +kernel
theorem dL_law_105 : decode cL_law 105 = .ok (.istore 10, 2) := by decide +kernel
theorem dL_law_107 : decode cL_law 107 = .ok (.iload 4, 2) := by decide +kernel
theorem dL_law_109 : decode cL_law 109 = .ok (.ifCond .eq 36, 3) := by decide +kernel
theorem dL_law_112 : decode cL_law 112 = .ok (.aload_n 1, 1) := by decide +kernel
theorem dL_law_113 : decode cL_law 113 = .ok (.iload 6, 2) := by decide +kernel
theorem dL_law_115 : decode cL_law 115 = .ok (.iload 7, 2) := by decide +kernel
theorem dL_law_117 : decode cL_law 117 = .ok (.invokestatic 396, 3) := by decide +kernel
theorem dL_law_120 : decode cL_law 120 = .ok (.ifCond .eq 25, 3) := by decide +kernel
theorem dL_law_123 : decode cL_law 123 = .ok (.iload 5, 2) := by decide +kernel
theorem dL_law_125 : decode cL_law 125 = .ok (.iconst 5, 1) := by decide +kernel
theorem dL_law_126 : decode cL_law 126 = .ok (.irem, 1) := by decide +kernel
theorem dL_law_127 : decode cL_law 127 = .ok (.ifCond .gt 14, 3) := by decide +kernel
theorem dL_law_130 : decode cL_law 130 = .ok (.aload_n 1, 1) := by decide +kernel
theorem dL_law_131 : decode cL_law 131 = .ok (.iload 7, 2) := by decide +kernel
theorem dL_law_133 : decode cL_law 133 = .ok (.iconst 2, 1) := by decide +kernel
theorem dL_law_134 : decode cL_law 134 = .ok (.ishr, 1) := by decide +kernel
theorem dL_law_135 : decode cL_law 135 = .ok (.invokestatic 385, 3) := by decide +kernel
theorem dL_law_138 : decode cL_law 138 = .ok (.ifCond .eq 7, 3) := by decide +kernel
theorem dL_law_141 : decode cL_law 141 = .ok (.iconst 1, 1) := by decide +kernel
theorem dL_law_142 : decode cL_law 142 = .ok (.goto 4, 3) := by decide +kernel
theorem dL_law_146 : decode cL_law 146 = .ok (.istore 4, 2) := by decide +kernel
theorem dL_law_148 : decode cL_law 148 = .ok (.aload_n 1, 1) := by decide +kernel
theorem dL_law_149 : decode cL_law 149 = .ok (.invokevirtual 288, 3) := by decide +kernel
theorem dL_law_152 : decode cL_law 152 = .ok (.istore 11, 2) := by decide +kernel
theorem dL_law_154 : decode cL_law 154 = .ok (.iload 4, 2) := by decide +kernel
theorem dL_law_156 : decode cL_law 156 = .ok (.ifCond .eq 39, 3) := by decide +kernel
theorem dL_law_159 : decode cL_law 159 = .ok (.iload 11, 2) := by decide +kernel
theorem dL_law_161 : decode cL_law 161 = .ok (.iload 10, 2) := by decide +kernel
theorem dL_law_163 : decode cL_law 163 = .ok (.if_icmp .ne 19, 3) := by decide +kernel
theorem dL_law_166 : decode cL_law 166 = .ok (.iload 10, 2) := by decide +kernel
theorem dL_law_168 : decode cL_law 168 = .ok (.iconst 4, 1) := by decide +kernel
theorem dL_law_169 : decode cL_law 169 = .ok (.if_icmp .eq 22, 3) := by decide +kernel
theorem dL_law_172 : decode cL_law 172 = .ok (.aload_n 1, 1) := by decide +kernel
theorem dL_law_173 : decode cL_law 173 = .ok (.invokestatic 399, 3) := by decide +kernel
theorem dL_law_176 : decode cL_law 176 = .ok (.lload 8, 2) := by decide +kernel
theorem dL_law_178 : decode cL_law 178 = .ok (.lcmp, 1) := by decide +kernel
theorem dL_law_179 : decode cL_law 179 = .ok (.ifCond .eq 12, 3) := by decide +kernel
theorem dL_law_182 : decode cL_law 182 = .ok (.iload 11, 2) := by decide +kernel
theorem dL_law_184 : decode cL_law 184 = .ok (.iload 10, 2) := by decide +kernel
theorem dL_law_186 : decode cL_law 186 = .ok (.iconst 1, 1) := by decide +kernel
theorem dL_law_187 : decode cL_law 187 = .ok (.iadd, 1) := by decide +kernel
theorem dL_law_188 : decode cL_law 188 = .ok (.if_icmp .ne 7, 3) := by decide +kernel
theorem dL_law_191 : decode cL_law 191 = .ok (.iconst 1, 1) := by decide +kernel
theorem dL_law_192 : decode cL_law 192 = .ok (.goto 4, 3) := by decide +kernel
theorem dL_law_196 : decode cL_law 196 = .ok (.istore 4, 2) := by decide +kernel
theorem dL_law_198 : decode cL_law 198 = .ok (.iload 4, 2) := by decide +kernel
theorem dL_law_200 : decode cL_law 200 = .ok (.ifCond .eq 50, 3) := by decide +kernel
theorem dL_law_203 : decode cL_law 203 = .ok (.iload 11, 2) := by decide +kernel
theorem dL_law_205 : decode cL_law 205 = .ok (.iload 10, 2) := by decide +kernel
theorem dL_law_207 : decode cL_law 207 = .ok (.iconst 1, 1) := by decide +kernel
theorem dL_law_208 : decode cL_law 208 = .ok (.iadd, 1) := by decide +kernel
theorem dL_law_209 : decode cL_law 209 = .ok (.if_icmp .ne 41, 3) := by decide +kernel
theorem dL_law_212 : decode cL_law 212 = .ok (.iload 7, 2) := by decide +kernel
theorem dL_law_214 : decode cL_law 214 = .ok (.bipush 8, 2) := by decide +kernel
theorem dL_law_216 : decode cL_law 216 = .ok (.ishr, 1) := by decide +kernel
theorem dL_law_217 : decode cL_law 217 = .ok (.iconst 4, 1) := by decide +kernel
theorem dL_law_218 : decode cL_law 218 = .ok (.invokestatic 250, 3) := by decide +kernel
theorem dL_law_221 : decode cL_law 221 = .ok (.ifCond .ne 29, 3) := by decide +kernel
theorem dL_law_224 : decode cL_law 224 = .ok (.aload_n 1, 1) := by decide +kernel
theorem dL_law_225 : decode cL_law 225 = .ok (.invokestatic 388, 3) := by decide +kernel
theorem dL_law_228 : decode cL_law 228 = .ok (.iload 10, 2) := by decide +kernel
theorem dL_law_230 : decode cL_law 230 = .ok (.if_icmp .ne 17, 3) := by decide +kernel
theorem dL_law_233 : decode cL_law 233 = .ok (.aload_n 1, 1) := by decide +kernel
theorem dL_law_234 : decode cL_law 234 = .ok (.invokestatic 399, 3) := by decide +kernel
theorem dL_law_237 : decode cL_law 237 = .ok (.lload 8, 2) := by decide +kernel
theorem dL_law_239 : decode cL_law 239 = .ok (.lcmp, 1) := by decide +kernel
theorem dL_law_240 : decode cL_law 240 = .ok (.ifCond .ne 7, 3) := by decide +kernel
theorem dL_law_243 : decode cL_law 243 = .ok (.iconst 1, 1) := by decide +kernel
theorem dL_law_244 : decode cL_law 244 = .ok (.goto 4, 3) := by decide +kernel
theorem dL_law_248 : decode cL_law 248 = .ok (.istore 4, 2) := by decide +kernel
theorem dL_law_250 : decode cL_law 250 = .ok (.iload 4, 2) := by decide +kernel
theorem dL_law_252 : decode cL_law 252 = .ok (.ifCond .eq 36, 3) := by decide +kernel
theorem dL_law_255 : decode cL_law 255 = .ok (.iload 5, 2) := by decide +kernel
theorem dL_law_257 : decode cL_law 257 = .ok (.bipush 20, 2) := by decide +kernel
theorem dL_law_259 : decode cL_law 259 = .ok (.irem, 1) := by decide +kernel
theorem dL_law_260 : decode cL_law 260 = .ok (.bipush 9, 2) := by decide +kernel
theorem dL_law_262 : decode cL_law 262 = .ok (.if_icmp .ne 26, 3) := by decide +kernel
theorem dL_law_265 : decode cL_law 265 = .ok (.aload_n 1, 1) := by decide +kernel
theorem dL_law_266 : decode cL_law 266 = .ok (.invokevirtual 403, 3) := by decide +kernel
theorem dL_law_269 : decode cL_law 269 = .ok (.aload_n 1, 1) := by decide +kernel
theorem dL_law_270 : decode cL_law 270 = .ok (.invokevirtual 247, 3) := by decide +kernel
theorem dL_law_273 : decode cL_law 273 = .ok (.if_icmp .ne 7, 3) := by decide +kernel
theorem dL_law_276 : decode cL_law 276 = .ok (.iconst 1, 1) := by decide +kernel
theorem dL_law_277 : decode cL_law 277 = .ok (.goto 4, 3) := by decide +kernel
theorem dL_law_281 : decode cL_law 281 = .ok (.istore 4, 2) := by decide +kernel
theorem dL_law_283 : decode cL_law 283 = .ok (.aload_n 1, 1) := by decide +kernel
theorem dL_law_284 : decode cL_law 284 = .ok (.invokestatic 399, 3) := by decide +kernel
theorem dL_law_287 : decode cL_law 287 = .ok (.lstore_n 2, 1) := by decide +kernel
theorem dL_law_288 : decode cL_law 288 = .ok (.iload 4, 2) := by decide +kernel
theorem dL_law_290 : decode cL_law 290 = .ok (.ifCond .eq 40, 3) := by decide +kernel
theorem dL_law_293 : decode cL_law 293 = .ok (.iload 5, 2) := by decide +kernel
theorem dL_law_295 : decode cL_law 295 = .ok (.bipush 20, 2) := by decide +kernel
theorem dL_law_297 : decode cL_law 297 = .ok (.irem, 1) := by decide +kernel
theorem dL_law_298 : decode cL_law 298 = .ok (.bipush 19, 2) := by decide +kernel
theorem dL_law_300 : decode cL_law 300 = .ok (.if_icmp .ne 30, 3) := by decide +kernel
theorem dL_law_303 : decode cL_law 303 = .ok (.aload_n 1, 1) := by decide +kernel
theorem dL_law_304 : decode cL_law 304 = .ok (.invokestatic 390, 3) := by decide +kernel
theorem dL_law_307 : decode cL_law 307 = .ok (.aload_n 1, 1) := by decide +kernel
theorem dL_law_308 : decode cL_law 308 = .ok (.invokevirtual 247, 3) := by decide +kernel
theorem dL_law_311 : decode cL_law 311 = .ok (.if_icmp .ne 16, 3) := by decide +kernel
theorem dL_law_314 : decode cL_law 314 = .ok (.aload_n 1, 1) := by decide +kernel
theorem dL_law_315 : decode cL_law 315 = .ok (.invokestatic 399, 3) := by decide +kernel
theorem dL_law_318 : decode cL_law 318 = .ok (.lload_n 2, 1) := by decide +kernel
theorem dL_law_319 : decode cL_law 319 = .ok (.lcmp, 1) := by decide +kernel
theorem dL_law_320 : decode cL_law 320 = .ok (.ifCond .ne 7, 3) := by decide +kernel
theorem dL_law_323 : decode cL_law 323 = .ok (.iconst 1, 1) := by decide +kernel
theorem dL_law_324 : decode cL_law 324 = .ok (.goto 4, 3) := by decide +kernel
theorem dL_law_328 : decode cL_law 328 = .ok (.istore 4, 2) := by decide +kernel
theorem dL_law_330 : decode cL_law 330 = .ok (.iload 4, 2) := by decide +kernel
theorem dL_law_332 : decode cL_law 332 = .ok (.ifCond .eq 47, 3) := by decide +kernel
theorem dL_law_335 : decode cL_law 335 = .ok (.iload 5, 2) := by decide +kernel
theorem dL_law_337 : decode cL_law 337 = .ok (.bipush 9, 2) := by decide +kernel
theorem dL_law_339 : decode cL_law 339 = .ok (.irem, 1) := by decide +kernel
theorem dL_law_340 : decode cL_law 340 = .ok (.bipush 8, 2) := by decide +kernel
theorem dL_law_342 : decode cL_law 342 = .ok (.if_icmp .ne 37, 3) := by decide +kernel
theorem dL_law_345 : decode cL_law 345 = .ok (.aload_n 1, 1) := by decide +kernel
theorem dL_law_346 : decode cL_law 346 = .ok (.invokevirtual 288, 3) := by decide +kernel
theorem dL_law_349 : decode cL_law 349 = .ok (.istore 12, 2) := by decide +kernel
theorem dL_law_351 : decode cL_law 351 = .ok (.aload_n 1, 1) := by decide +kernel
theorem dL_law_352 : decode cL_law 352 = .ok (.invokestatic 388, 3) := by decide +kernel
theorem dL_law_355 : decode cL_law 355 = .ok (.iload 12, 2) := by decide +kernel
theorem dL_law_357 : decode cL_law 357 = .ok (.ifCond .ne 8, 3) := by decide +kernel
theorem dL_law_360 : decode cL_law 360 = .ok (.ldc 20, 2) := by decide +kernel
theorem dL_law_362 : decode cL_law 362 = .ok (.goto 7, 3) := by decide +kernel
theorem dL_law_365 : decode cL_law 365 = .ok (.iload 12, 2) := by decide +kernel
theorem dL_law_367 : decode cL_law 367 = .ok (.iconst 1, 1) := by decide +kernel
theorem dL_law_368 : decode cL_law 368 = .ok (.isub, 1) := by decide +kernel
theorem dL_law_369 : decode cL_law 369 = .ok (.if_icmp .ne 7, 3) := by decide +kernel
theorem dL_law_372 : decode cL_law 372 = .ok (.iconst 1, 1) := by decide +kernel
theorem dL_law_373 : decode cL_law 373 = .ok (.goto 4, 3) := by decide +kernel
theorem dL_law_377 : decode cL_law 377 = .ok (.istore 4, 2) := by decide +kernel
theorem dL_law_379 : decode cL_law 379 = .ok (.iinc 5 1, 3) := by decide +kernel
theorem dL_law_382 : decode cL_law 382 = .ok (.goto (-336), 3) := by decide +kernel
theorem dL_law_385 : decode cL_law 385 = .ok (.iload 4, 2) := by decide +kernel
theorem dL_law_387 : decode cL_law 387 = .ok (.ifCond .eq 15, 3) := by decide +kernel
theorem dL_law_390 : decode cL_law 390 = .ok (.aload_n 1, 1) := by decide +kernel
theorem dL_law_391 : decode cL_law 391 = .ok (.iconst 5, 1) := by decide +kernel
theorem dL_law_392 : decode cL_law 392 = .ok (.invokestatic 385, 3) := by decide +kernel
theorem dL_law_395 : decode cL_law 395 = .ok (.ifCond .eq 7, 3) := by decide +kernel
theorem dL_law_398 : decode cL_law 398 = .ok (.iconst 1, 1) := by decide +kernel
theorem dL_law_399 : decode cL_law 399 = .ok (.goto 4, 3) := by decide +kernel
set_option maxHeartbeats 8000000 in
set_option maxRecDepth 100000 in
theorem law_body {p : Program} {l : Launch} {e : Env} {s : State} {m : MethodId} {args : Array Value} {below : List Frame} {meth : Method} {c : Code} {H : Heap} {locs : List Loc} {Q : State → Prop} {ls : Array Slot} {G : gG} {da : Nat → Nat} {v : vSt} {x : gX} (hst : l.stackTraces = false) (X : CX G p s m args c cL_law 13 RL) (hN : NC s) {b L : Nat} {xs : Nat → Int32} (hX : va_X b L xs s s.heap) (hbl : b < s.heap.size) (hbA : ¬ gA G b) (hL : L ≤ 260) (hH : Hp G da v x H) (hS : va_S (gA G) s.heap H locs) (hl : lv_has ls 13 [(0, .ref b), (1, .ref (ga G 448))]) {c0 : Nat} (hc0 : c0 ≤ 100000) (hpv : pot v ≤ 314580) (ho : oL_law L xs v) (E : ∀ (da1 : Nat → Nat) (H1 : Heap) (locs1 : List Loc) (ls1 : Array Slot) (v2 : vSt) (c1 : Nat), c1 ≤ 600104 → Hp G da1 v2 x H1 → va_S (gA G) s.heap H1 locs1 → W p l e room_1 s m args below meth c H1 locs1 c1 c1 Q (F0 m 403 ls1 [.int 1])) : W p l e room_1 s m args below meth c H locs c0 c0 Q (F0 m 8 ls []) := by
  have hx := X.1
  have hb := X.2.1
  have hown := X.2.2.2.1
  have hts := X.2.2.2.2.1
  refine W.widen (k := (c0 + 0)) (n := (c0 + 0)) (Nat.le_refl _) (Nat.le_refl _) ?_
  unfold oL_law at ho
  refine lv_lconst (v := 0) hx hb dL_law_8 rfl ?_
  refine lv_lstore_n (lv' := [(2, .long 0), (0, .ref b), (1, .ref (ga G 448))]) hx hb dL_law_9 rfl hl (by decide) rfl (fun ls hl => ?_)
  refine lv_aload_n hx hb dL_law_10 rfl (lv_at hl 2 rfl) ?_
  refine lv_iconst (v := 0) hx hb dL_law_11 (by decide) ?_
  have hq1 := ho.1
  have ho := ho.2
  refine k_L_holds hst X hS hN hH kd_448 hq1 t_ml_VernierDrawersLaw_385 hl.1 (Nat.le_of_ble_eq_true rfl) ⟨Nat.le_of_ble_eq_true rfl, Nat.le_of_ble_eq_true rfl⟩ ⟨(le_ce (show (c0 + 0) + 1404 ≤ 600104 by omega)), (le_sl (show (c0 + 0) + 1404 ≤ 600104 by omega))⟩ dL_law_12 (fun da H locs hH hS => ?_)
  refine W.widen (k := (c0 + 1404)) (n := (c0 + 1404)) (Nat.le_of_eq (Nat.add_assoc _ _ _)) (Nat.le_of_eq (Nat.add_assoc _ _ _)) ?_
  refine lv_if_eq (tgt := 40) hx hb dL_law_15 (by decide) (fun c2 => absurd c2 (by decide)) (fun c2 => ?_)
  refine lv_aload_n hx hb dL_law_18 rfl (lv_at hl 2 rfl) ?_
  have hq3 := ho.1
  have ho := ho.2
  have hk4 : kkL_undo 448 v = pot ((fL_undo 448 v).2) - pot v + 36 := rfl
  have hq5 := ho.1
  have ho := ho.2
  refine k_L_undo hst X hS hN hH kd_448 hq3 t_ml_VernierDrawersLaw_388 hl.1 (Nat.le_of_ble_eq_true rfl) ⟨Nat.le_of_ble_eq_true rfl, Nat.le_of_ble_eq_true rfl⟩ ⟨(le_ce (show (c0 + 1404) + kkL_undo 448 v ≤ 600104 by omega)), (le_sl (show (c0 + 1404) + kkL_undo 448 v ≤ 600104 by omega))⟩ dL_law_19 (fun da H locs v6 ev6 hH hS => ?_)
  have ho := ho v6 ev6
  have hp7 : pot v6 = pot ((fL_undo 448 v).2) := by rw [ev6]
  refine W.widen (k := ((c0 + (pot v6 - pot v)) + 1440)) (n := ((c0 + (pot v6 - pot v)) + 1440)) (by omega) (by omega) ?_
  refine lv_ldc (v := (-100103)) hx hb hown (hts _ t_con_VernierDrawersLaw_20) dL_law_22 ?_
  refine lv_icmp_ne (tgt := 40) hx hb dL_law_24 (by decide) (fun c8 => ?_) (fun c8 => ?_)
  · exact absurd ho.1 c8
  have ho := ho.2
  refine lv_aload_n hx hb dL_law_27 rfl (lv_at hl 2 rfl) ?_
  have hq9 := ho.1
  have ho := ho.2
  have hk10 : kkL_goBack 448 v6 = pot ((fL_goBack 448 v6).2) - pot v6 + 36 := rfl
  have hq11 := ho.1
  have ho := ho.2
  refine k_L_goBack hst X hS hN hH kd_448 hq9 t_ml_VernierDrawersLaw_390 hl.1 (Nat.le_of_ble_eq_true rfl) ⟨Nat.le_of_ble_eq_true rfl, Nat.le_of_ble_eq_true rfl⟩ ⟨(le_ce (show ((c0 + (pot v6 - pot v)) + 1440) + kkL_goBack 448 v6 ≤ 600104 by omega)), (le_sl (show ((c0 + (pot v6 - pot v)) + 1440) + kkL_goBack 448 v6 ≤ 600104 by omega))⟩ dL_law_28 (fun da H locs v12 ev12 hH hS => ?_)
  have ho := ho v12 ev12
  have hp13 : pot v12 = pot ((fL_goBack 448 v6).2) := by rw [ev12]
  refine W.widen (k := ((c0 + (pot v12 - pot v)) + 1476)) (n := ((c0 + (pot v12 - pot v)) + 1476)) (by omega) (by omega) ?_
  refine lv_ldc (v := (-100103)) hx hb hown (hts _ t_con_VernierDrawersLaw_20) dL_law_31 ?_
  refine lv_icmp_ne (tgt := 40) hx hb dL_law_33 (by decide) (fun c14 => ?_) (fun c14 => ?_)
  · exact absurd ho.1 c14
  have ho := ho.2
  refine lv_iconst (v := 1) hx hb dL_law_36 (by decide) ?_
  refine lv_goto (tgt := 41) hx hb dL_law_37 (by decide) ?_
  refine lv_istore (lv' := [(4, .int 1), (2, .long 0), (0, .ref b), (1, .ref (ga G 448))]) hx hb dL_law_41 hl (by decide) rfl (fun ls hl => ?_)
  refine lv_iconst (v := 0) hx hb dL_law_43 (by decide) ?_
  refine lv_istore (lv' := [(5, .int 0), (4, .int 1), (2, .long 0), (0, .ref b), (1, .ref (ga G 448))]) hx hb dL_law_44 hl (by decide) rfl (fun ls hl => ?_)
  have L19 : ∀ (n : Nat) (i15 : Int32) (i16 : Int64) (v17 : vSt) (da : Nat → Nat) (H : Heap) (locs : List Loc) (cc18 : Nat) (ls : Array Slot), olL_law_46 xs L n i15 i16 v17 → cc18 + 2046 * n + 0 ≤ ((c0 + (pot v17 - pot v)) + 122190) → (pot v ≤ pot v17 ∧ pot v17 ≤ 314580) → Hp G da v17 x H → va_S (gA G) s.heap H locs → lv_has ls 13 [(5, .int i15), (4, .int 1), (2, .long i16), (0, .ref b), (1, .ref (ga G 448))] → (∀ (v18 : vSt) (da : Nat → Nat) (H : Heap) (locs : List Loc) (ls : Array Slot), v18 = (lL_law_46 xs L n i15 i16 v17 : vSt) → (pot v ≤ pot v18 ∧ pot v18 ≤ 314580) → Hp G da v18 x H → va_S (gA G) s.heap H locs → lv_has ls 13 [(4, .int 1), (1, .ref (ga G 448))] → W p l e room_1 s m args below meth c H locs ((c0 + (pot v18 - pot v)) + 122190) ((c0 + (pot v18 - pot v)) + 122190) Q (F0 m 385 ls [])) → W p l e room_1 s m args below meth c H locs (cc18 + 0) (cc18 + 0) Q (F0 m 46 ls []) := by
    clear ho
    intro n
    induction n with
    | zero =>
      intro i15 i16 v17 da H locs cc18 ls ho
      exact ho.elim
    | succ n ih =>
      intro i15 i16 v17 da H locs cc18 ls ho hcc21 hpv46 hH hS hl K20
      have hcc21x : cc18 + 2046 ≤ ((c0 + (pot v17 - pot v)) + 122190) := by omega
      refine lv_iload hx hb dL_law_46 (lv_at hl 0 rfl) ?_
      refine lv_bipush (v := 58) hx hb dL_law_48 (by decide) ?_
      refine lv_icmp_ge (tgt := 385) hx hb dL_law_50 (by decide) (fun c22 => ?_) (fun c22 => ?_)
      · skip
        have hoz := ho
        have hlz := hl
        have hHz := hH
        have hSz := hS
        refine W.widen (k := ((c0 + (pot v17 - pot v)) + 122190)) (n := ((c0 + (pot v17 - pot v)) + 122190)) (by omega) (by omega) ?_
        have hpz : pot v ≤ pot v17 ∧ pot v17 ≤ 314580 := by omega
        exact K20 _ _ _ _ _ (Eq.symm (((lL_law_46.eq_2 _ _ _ _ _ _)).trans ((if_pos c22).trans rfl))) hpz  hHz hSz (lv_sub hlz [1, 4] rfl)
      · have ho := ho c22
        refine lv_iload hx hb dL_law_53 (lv_at hl 1 rfl) ?_
        refine lv_if_eq (tgt := 385) hx hb dL_law_55 (by decide) (fun c23 => absurd c23 (by decide)) (fun c23 => ?_)
        refine lv_aload_n hx hb dL_law_58 rfl (lv_at hl 3 rfl) ?_
        refine lv_iconst (v := 2) hx hb dL_law_59 (by decide) ?_
        refine lv_iload hx hb dL_law_60 (lv_at hl 0 rfl) ?_
        refine lv_imul hx hb dL_law_62 ?_
        have hq24 := ho.1
        have ho := ho.2
        refine k_L_lot X hS (IA.of_X hX hbl hbA hS (by omega)) hq24 t_ml_VernierDrawersLaw_392 hl.1 (Nat.le_of_ble_eq_true rfl) ⟨Nat.le_of_ble_eq_true rfl, Nat.le_of_ble_eq_true rfl⟩ ⟨(le_ce (show (cc18 + 0) ≤ 600104 by omega)), (le_sl (show (cc18 + 0) ≤ 600104 by omega))⟩ dL_law_63 ?_
        refine lv_istore (lv' := [(6, .int (fL_lot L xs ((2 : Int32) * i15))), (5, .int i15), (4, .int 1), (2, .long i16), (0, .ref b), (1, .ref (ga G 448))]) hx hb dL_law_66 hl (by decide) rfl (fun ls hl => ?_)
        refine lv_aload_n hx hb dL_law_68 rfl (lv_at hl 4 rfl) ?_
        refine lv_iconst (v := 2) hx hb dL_law_69 (by decide) ?_
        refine lv_iload hx hb dL_law_70 (lv_at hl 1 rfl) ?_
        refine lv_imul hx hb dL_law_72 ?_
        refine lv_iconst (v := 1) hx hb dL_law_73 (by decide) ?_
        refine lv_iadd hx hb dL_law_74 ?_
        have hq25 := ho.1
        have ho := ho.2
        refine k_L_lot X hS (IA.of_X hX hbl hbA hS (by omega)) hq25 t_ml_VernierDrawersLaw_392 hl.1 (Nat.le_of_ble_eq_true rfl) ⟨Nat.le_of_ble_eq_true rfl, Nat.le_of_ble_eq_true rfl⟩ ⟨(le_ce (show (cc18 + 0) ≤ 600104 by omega)), (le_sl (show (cc18 + 0) ≤ 600104 by omega))⟩ dL_law_75 ?_
        refine lv_istore (lv' := [(7, .int (fL_lot L xs (((2 : Int32) * i15) + (1 : Int32)))), (6, .int (fL_lot L xs ((2 : Int32) * i15))), (5, .int i15), (4, .int 1), (2, .long i16), (0, .ref b), (1, .ref (ga G 448))]) hx hb dL_law_78 hl (by decide) rfl (fun ls hl => ?_)
        refine lv_aload_n hx hb dL_law_80 rfl (lv_at hl 6 rfl) ?_
        refine lv_iload hx hb dL_law_81 (lv_at hl 1 rfl) ?_
        refine lv_bipush (v := 6) hx hb dL_law_83 (by decide) ?_
        refine lv_ishr hx hb dL_law_85 ?_
        refine lv_iload hx hb dL_law_86 (lv_at hl 0 rfl) ?_
        refine lv_iconst (v := 4) hx hb dL_law_88 (by decide) ?_
        refine lv_ishr hx hb dL_law_89 ?_
        have hq26 := ho.1
        have ho := ho.2
        have hk27 : kkL_acts 448 ((fL_lot L xs ((2 : Int32) * i15)) >>> ((6 : Int32) &&& 31)) ((fL_lot L xs (((2 : Int32) * i15) + (1 : Int32))) >>> ((4 : Int32) &&& 31)) v17 = pot (fL_acts 448 ((fL_lot L xs ((2 : Int32) * i15)) >>> ((6 : Int32) &&& 31)) ((fL_lot L xs (((2 : Int32) * i15) + (1 : Int32))) >>> ((4 : Int32) &&& 31)) v17) - pot v17 + 144 := rfl
        have hq28 := ho.1
        have ho := ho.2
        refine k_L_acts hst X hS hN hH kd_448 hq26 t_ml_VernierDrawersLaw_396 hl.1 (Nat.le_of_ble_eq_true rfl) ⟨Nat.le_of_ble_eq_true rfl, Nat.le_of_ble_eq_true rfl⟩ ⟨(le_ce (show (cc18 + 0) + kkL_acts 448 ((fL_lot L xs ((2 : Int32) * i15)) >>> ((6 : Int32) &&& 31)) ((fL_lot L xs (((2 : Int32) * i15) + (1 : Int32))) >>> ((4 : Int32) &&& 31)) v17 ≤ 600104 by omega)), (le_sl (show (cc18 + 0) + kkL_acts 448 ((fL_lot L xs ((2 : Int32) * i15)) >>> ((6 : Int32) &&& 31)) ((fL_lot L xs (((2 : Int32) * i15) + (1 : Int32))) >>> ((4 : Int32) &&& 31)) v17 ≤ 600104 by omega))⟩ dL_law_90 (fun da H locs v29 ev29 hH hS => ?_)
        have ho := ho v29 ev29
        have hp30 : pot v29 = pot (fL_acts 448 ((fL_lot L xs ((2 : Int32) * i15)) >>> ((6 : Int32) &&& 31)) ((fL_lot L xs (((2 : Int32) * i15) + (1 : Int32))) >>> ((4 : Int32) &&& 31)) v17) := by rw [ev29]
        refine W.widen (k := ((cc18 + (pot v29 - pot v17)) + 144)) (n := ((cc18 + (pot v29 - pot v17)) + 144)) (by omega) (by omega) ?_
        refine lv_istore (lv' := [(4, .int 1), (7, .int (fL_lot L xs (((2 : Int32) * i15) + (1 : Int32)))), (6, .int (fL_lot L xs ((2 : Int32) * i15))), (5, .int i15), (2, .long i16), (0, .ref b), (1, .ref (ga G 448))]) hx hb dL_law_93 hl (by decide) rfl (fun ls hl => ?_)
        refine lv_aload_n hx hb dL_law_95 rfl (lv_at hl 6 rfl) ?_
        have hq31 := ho.1
        have ho := ho.2
        refine k_L_look hst X hS hN hH kd_448 hq31 t_ml_VernierDrawersLaw_399 hl.1 (Nat.le_of_ble_eq_true rfl) ⟨Nat.le_of_ble_eq_true rfl, Nat.le_of_ble_eq_true rfl⟩ ⟨(le_ce (show ((cc18 + (pot v29 - pot v17)) + 144) + 42 ≤ 600104 by omega)), (le_sl (show ((cc18 + (pot v29 - pot v17)) + 144) + 42 ≤ 600104 by omega))⟩ dL_law_96 (fun da H locs hH hS => ?_)
        refine W.widen (k := ((cc18 + (pot v29 - pot v17)) + 186)) (n := ((cc18 + (pot v29 - pot v17)) + 186)) (Nat.le_of_eq (Nat.add_assoc _ _ _)) (Nat.le_of_eq (Nat.add_assoc _ _ _)) ?_
        refine lv_lstore (lv' := [(8, .long (fL_look 448 v29)), (4, .int 1), (7, .int (fL_lot L xs (((2 : Int32) * i15) + (1 : Int32)))), (6, .int (fL_lot L xs ((2 : Int32) * i15))), (5, .int i15), (2, .long i16), (0, .ref b), (1, .ref (ga G 448))]) hx hb dL_law_99 hl (by decide) rfl (fun ls hl => ?_)
        refine lv_aload_n hx hb dL_law_101 rfl (lv_at hl 7 rfl) ?_
        refine k_X10_states X hS hH kd_448 t_ml_VernierDrawersLaw_288 hl.1 (Nat.le_of_ble_eq_true rfl) ⟨Nat.le_of_ble_eq_true rfl, Nat.le_of_ble_eq_true rfl⟩ ⟨(le_ce (show ((cc18 + (pot v29 - pot v17)) + 186) ≤ 600104 by omega)), (le_sl (show ((cc18 + (pot v29 - pot v17)) + 186) ≤ 600104 by omega))⟩ dL_law_102 ?_
        refine lv_istore (lv' := [(10, .int (fX10_states 448 v29)), (8, .long (fL_look 448 v29)), (4, .int 1), (7, .int (fL_lot L xs (((2 : Int32) * i15) + (1 : Int32)))), (6, .int (fL_lot L xs ((2 : Int32) * i15))), (5, .int i15), (2, .long i16), (0, .ref b), (1, .ref (ga G 448))]) hx hb dL_law_105 hl (by decide) rfl (fun ls hl => ?_)
        refine lv_iload hx hb dL_law_107 (lv_at hl 2 rfl) ?_
        refine lv_if_eq (tgt := 145) hx hb dL_law_109 (by decide) (fun c32 => absurd c32 (by decide)) (fun c32 => ?_)
        refine lv_aload_n hx hb dL_law_112 rfl (lv_at hl 8 rfl) ?_
        refine lv_iload hx hb dL_law_113 (lv_at hl 4 rfl) ?_
        refine lv_iload hx hb dL_law_115 (lv_at hl 3 rfl) ?_
        have hq33 := ho.1
        have ho := ho.2
        have hk34 : kkL_acts 448 (fL_lot L xs ((2 : Int32) * i15)) (fL_lot L xs (((2 : Int32) * i15) + (1 : Int32))) v29 = pot (fL_acts 448 (fL_lot L xs ((2 : Int32) * i15)) (fL_lot L xs (((2 : Int32) * i15) + (1 : Int32))) v29) - pot v29 + 144 := rfl
        have hq35 := ho.1
        have ho := ho.2
        refine k_L_acts hst X hS hN hH kd_448 hq33 t_ml_VernierDrawersLaw_396 hl.1 (Nat.le_of_ble_eq_true rfl) ⟨Nat.le_of_ble_eq_true rfl, Nat.le_of_ble_eq_true rfl⟩ ⟨(le_ce (show ((cc18 + (pot v29 - pot v17)) + 186) + kkL_acts 448 (fL_lot L xs ((2 : Int32) * i15)) (fL_lot L xs (((2 : Int32) * i15) + (1 : Int32))) v29 ≤ 600104 by omega)), (le_sl (show ((cc18 + (pot v29 - pot v17)) + 186) + kkL_acts 448 (fL_lot L xs ((2 : Int32) * i15)) (fL_lot L xs (((2 : Int32) * i15) + (1 : Int32))) v29 ≤ 600104 by omega))⟩ dL_law_117 (fun da H locs v36 ev36 hH hS => ?_)
        have ho := ho v36 ev36
        have hp37 : pot v36 = pot (fL_acts 448 (fL_lot L xs ((2 : Int32) * i15)) (fL_lot L xs (((2 : Int32) * i15) + (1 : Int32))) v29) := by rw [ev36]
        refine W.widen (k := ((cc18 + (pot v36 - pot v17)) + 330)) (n := ((cc18 + (pot v36 - pot v17)) + 330)) (by omega) (by omega) ?_
        refine lv_if_eq (tgt := 145) hx hb dL_law_120 (by decide) (fun c38 => absurd c38 (by decide)) (fun c38 => ?_)
        refine lv_iload hx hb dL_law_123 (lv_at hl 5 rfl) ?_
        refine lv_iconst (v := 5) hx hb dL_law_125 (by decide) ?_
        refine lv_irem hx hb dL_law_126 (by decide) ?_
        have K39 : ∀  (da : Nat → Nat) (H : Heap) (locs : List Loc) (ls : Array Slot), Hp G da v36 x H → va_S (gA G) s.heap H locs → lv_has ls 13 [(10, .int (fX10_states 448 v29)), (8, .long (fL_look 448 v29)), (7, .int (fL_lot L xs (((2 : Int32) * i15) + (1 : Int32)))), (5, .int i15), (2, .long i16), (0, .ref b), (1, .ref (ga G 448))] → W p l e room_1 s m args below meth c H locs ((cc18 + (pot v36 - pot v17)) + 1734) ((cc18 + (pot v36 - pot v17)) + 1734) Q (F0 m 141 ls []) := by
          intro  da H locs ls  hH hS hl
          have ho := ho.2
          refine lv_iconst (v := 1) hx hb dL_law_141 (by decide) ?_
          refine lv_goto (tgt := 146) hx hb dL_law_142 (by decide) ?_
          refine lv_istore (lv' := [(4, .int 1), (10, .int (fX10_states 448 v29)), (8, .long (fL_look 448 v29)), (7, .int (fL_lot L xs (((2 : Int32) * i15) + (1 : Int32)))), (5, .int i15), (2, .long i16), (0, .ref b), (1, .ref (ga G 448))]) hx hb dL_law_146 hl (by decide) rfl (fun ls hl => ?_)
          refine lv_aload_n hx hb dL_law_148 rfl (lv_at hl 7 rfl) ?_
          refine k_X10_states X hS hH kd_448 t_ml_VernierDrawersLaw_288 hl.1 (Nat.le_of_ble_eq_true rfl) ⟨Nat.le_of_ble_eq_true rfl, Nat.le_of_ble_eq_true rfl⟩ ⟨(le_ce (show ((cc18 + (pot v36 - pot v17)) + 1734) ≤ 600104 by omega)), (le_sl (show ((cc18 + (pot v36 - pot v17)) + 1734) ≤ 600104 by omega))⟩ dL_law_149 ?_
          refine lv_istore (lv' := [(11, .int (fX10_states 448 v36)), (4, .int 1), (10, .int (fX10_states 448 v29)), (8, .long (fL_look 448 v29)), (7, .int (fL_lot L xs (((2 : Int32) * i15) + (1 : Int32)))), (5, .int i15), (2, .long i16), (0, .ref b), (1, .ref (ga G 448))]) hx hb dL_law_152 hl (by decide) rfl (fun ls hl => ?_)
          refine lv_iload hx hb dL_law_154 (lv_at hl 1 rfl) ?_
          refine lv_if_eq (tgt := 195) hx hb dL_law_156 (by decide) (fun c40 => absurd c40 (by decide)) (fun c40 => ?_)
          refine lv_iload hx hb dL_law_159 (lv_at hl 0 rfl) ?_
          refine lv_iload hx hb dL_law_161 (lv_at hl 2 rfl) ?_
          have K41 : ∀  (da : Nat → Nat) (H : Heap) (locs : List Loc) (ls : Array Slot), Hp G da v36 x H → va_S (gA G) s.heap H locs → lv_has ls 13 [(11, .int (fX10_states 448 v36)), (10, .int (fX10_states 448 v29)), (8, .long (fL_look 448 v29)), (7, .int (fL_lot L xs (((2 : Int32) * i15) + (1 : Int32)))), (5, .int i15), (2, .long i16), (0, .ref b), (1, .ref (ga G 448))] → W p l e room_1 s m args below meth c H locs ((cc18 + (pot v36 - pot v17)) + 1776) ((cc18 + (pot v36 - pot v17)) + 1776) Q (F0 m 191 ls []) := by
            intro  da H locs ls  hH hS hl
            have ho := ho.2
            refine lv_iconst (v := 1) hx hb dL_law_191 (by decide) ?_
            refine lv_goto (tgt := 196) hx hb dL_law_192 (by decide) ?_
            refine lv_istore (lv' := [(4, .int 1), (11, .int (fX10_states 448 v36)), (10, .int (fX10_states 448 v29)), (8, .long (fL_look 448 v29)), (7, .int (fL_lot L xs (((2 : Int32) * i15) + (1 : Int32)))), (5, .int i15), (2, .long i16), (0, .ref b), (1, .ref (ga G 448))]) hx hb dL_law_196 hl (by decide) rfl (fun ls hl => ?_)
            refine lv_iload hx hb dL_law_198 (lv_at hl 0 rfl) ?_
            refine lv_if_eq (tgt := 250) hx hb dL_law_200 (by decide) (fun c42 => absurd c42 (by decide)) (fun c42 => ?_)
            refine lv_iload hx hb dL_law_203 (lv_at hl 1 rfl) ?_
            refine lv_iload hx hb dL_law_205 (lv_at hl 2 rfl) ?_
            refine lv_iconst (v := 1) hx hb dL_law_207 (by decide) ?_
            refine lv_iadd hx hb dL_law_208 ?_
            have K44 : ∀ (v43 : vSt) (da : Nat → Nat) (H : Heap) (locs : List Loc) (ls : Array Slot), v43 = (if ((fX10_states 448 v36) : Int32) = ((fX10_states 448 v29) + (1 : Int32)) then (if ((fL_low ((fL_lot L xs (((2 : Int32) * i15) + (1 : Int32))) >>> ((8 : Int32) &&& 31)) 4) : Int32) = 0 then (let v50 : vSt := (fL_undo 448 v36).2; v50) else v36) else v36 : vSt) → (pot v17 ≤ pot v43 ∧ pot v43 ≤ 314580) → Hp G da v43 x H → va_S (gA G) s.heap H locs → lv_has ls 13 [(4, .int 1), (5, .int i15), (2, .long i16), (0, .ref b), (1, .ref (ga G 448))] → W p l e room_1 s m args below meth c H locs ((cc18 + (pot v43 - pot v17)) + 1854) ((cc18 + (pot v43 - pot v17)) + 1854) Q (F0 m 250 ls []) := by
              intro v43 da H locs ls ev43 hpj hH hS hl
              have ho := ho.2 v43 ev43
              refine lv_iload hx hb dL_law_250 (lv_at hl 0 rfl) ?_
              refine lv_if_eq (tgt := 288) hx hb dL_law_252 (by decide) (fun c45 => absurd c45 (by decide)) (fun c45 => ?_)
              refine lv_iload hx hb dL_law_255 (lv_at hl 1 rfl) ?_
              refine lv_bipush (v := 20) hx hb dL_law_257 (by decide) ?_
              refine lv_irem hx hb dL_law_259 (by decide) ?_
              refine lv_bipush (v := 9) hx hb dL_law_260 (by decide) ?_
              have K48 : ∀ (y46 : Int64) (v47 : vSt) (da : Nat → Nat) (H : Heap) (locs : List Loc) (ls : Array Slot), y46 = (if ((i15 - i15 / (20 : Int32) * (20 : Int32)) : Int32) = 9 then (let v52 : vSt := (fX10_keep 448 v43).2; let v53 : vSt := gM v52 (fX11_keep 461 v52).2; (fL_look 448 v53, v53)) else ((i16, v43)) : Int64 × vSt).1 → v47 = (if ((i15 - i15 / (20 : Int32) * (20 : Int32)) : Int32) = 9 then (let v52 : vSt := (fX10_keep 448 v43).2; let v53 : vSt := gM v52 (fX11_keep 461 v52).2; (fL_look 448 v53, v53)) else ((i16, v43)) : Int64 × vSt).2 → (pot v17 ≤ pot v47 ∧ pot v47 ≤ 314580) → Hp G da v47 x H → va_S (gA G) s.heap H locs → lv_has ls 13 [(4, .int 1), (5, .int i15), (2, .long y46), (0, .ref b), (1, .ref (ga G 448))] → W p l e room_1 s m args below meth c H locs ((cc18 + (pot v47 - pot v17)) + 1932) ((cc18 + (pot v47 - pot v17)) + 1932) Q (F0 m 288 ls []) := by
                intro y46 v47 da H locs ls ey46 ev47 hpj hH hS hl
                have ho := ho.2 y46 v47 ey46 ev47
                refine lv_iload hx hb dL_law_288 (lv_at hl 0 rfl) ?_
                refine lv_if_eq (tgt := 330) hx hb dL_law_290 (by decide) (fun c49 => absurd c49 (by decide)) (fun c49 => ?_)
                refine lv_iload hx hb dL_law_293 (lv_at hl 1 rfl) ?_
                refine lv_bipush (v := 20) hx hb dL_law_295 (by decide) ?_
                refine lv_irem hx hb dL_law_297 (by decide) ?_
                refine lv_bipush (v := 19) hx hb dL_law_298 (by decide) ?_
                have K51 : ∀ (v50 : vSt) (da : Nat → Nat) (H : Heap) (locs : List Loc) (ls : Array Slot), v50 = (if ((i15 - i15 / (20 : Int32) * (20 : Int32)) : Int32) = 19 then (let v55 : vSt := (fL_goBack 448 v47).2; v55) else v47 : vSt) → (pot v17 ≤ pot v50 ∧ pot v50 ≤ 314580) → Hp G da v50 x H → va_S (gA G) s.heap H locs → lv_has ls 13 [(4, .int 1), (5, .int i15), (2, .long y46), (0, .ref b), (1, .ref (ga G 448))] → W p l e room_1 s m args below meth c H locs ((cc18 + (pot v50 - pot v17)) + 2010) ((cc18 + (pot v50 - pot v17)) + 2010) Q (F0 m 330 ls []) := by
                  intro v50 da H locs ls ev50 hpj hH hS hl
                  have ho := ho.2 v50 ev50
                  refine lv_iload hx hb dL_law_330 (lv_at hl 0 rfl) ?_
                  refine lv_if_eq (tgt := 379) hx hb dL_law_332 (by decide) (fun c52 => absurd c52 (by decide)) (fun c52 => ?_)
                  refine lv_iload hx hb dL_law_335 (lv_at hl 1 rfl) ?_
                  refine lv_bipush (v := 9) hx hb dL_law_337 (by decide) ?_
                  refine lv_irem hx hb dL_law_339 (by decide) ?_
                  refine lv_bipush (v := 8) hx hb dL_law_340 (by decide) ?_
                  have K54 : ∀ (v53 : vSt) (da : Nat → Nat) (H : Heap) (locs : List Loc) (ls : Array Slot), v53 = (if ((i15 - i15 / (9 : Int32) * (9 : Int32)) : Int32) = 8 then (let v58 : vSt := (fL_undo 448 v50).2; let y60 : Int32 := (if ((fX10_states 448 v50) : Int32) = 0 then ((-100103)) else ((fX10_states 448 v50) - (1 : Int32)) : Int32); v58) else v50 : vSt) → (pot v17 ≤ pot v53 ∧ pot v53 ≤ 314580) → Hp G da v53 x H → va_S (gA G) s.heap H locs → lv_has ls 13 [(4, .int 1), (5, .int i15), (2, .long y46), (0, .ref b), (1, .ref (ga G 448))] → W p l e room_1 s m args below meth c H locs ((cc18 + (pot v53 - pot v17)) + 2046) ((cc18 + (pot v53 - pot v17)) + 2046) Q (F0 m 379 ls []) := by
                    intro v53 da H locs ls ev53 hpj hH hS hl
                    have ho := ho.2 v53 ev53
                    refine lv_iinc (v := i15 + 1) (lv' := [(5, .int (i15 + 1)), (4, .int 1), (2, .long y46), (0, .ref b), (1, .ref (ga G 448))]) hx hb dL_law_379 hl (k := 1) rfl rfl (by decide) rfl (fun ls hl => ?_)
                    refine lv_goto (tgt := 46) hx hb dL_law_382 (by decide) ?_
                    have hoz := ho
                    have hlz := hl
                    have hHz := hH
                    have hSz := hS
                    refine W.widen (k := (cc18 + (pot v53 - pot v17) + 2046)) (n := (cc18 + (pot v53 - pot v17) + 2046)) (by omega) (by omega) ?_
                    have hpz : pot v ≤ pot v53 ∧ pot v53 ≤ 314580 := by omega
                    have hcz : (cc18 + (pot v53 - pot v17) + 2046) + 2046 * n + 0 ≤ ((c0 + (pot v53 - pot v)) + 122190) := by omega
                    replace ev29 := Eq.symm ev29
                    replace ev36 := Eq.symm ev36
                    replace ev43 := Eq.symm ev43
                    replace ey46 := Eq.symm ey46
                    replace ev47 := Eq.symm ev47
                    replace ev50 := Eq.symm ev50
                    replace ev53 := Eq.symm ev53
                    subst ev29 ev36 ev43 ey46 ev47 ev50 ev53
                    exact ih _ _ _ _ _ _ _ _ hoz hcz hpz hHz hSz (lv_sub hlz [0, 1, 2, 3, 4] rfl) (fun v18 da H locs ls q0 hpo hH hS hl => K20 v18 da H locs ls (q0.trans (congrArg (fun z : vSt => z) (Eq.symm (((lL_law_46.eq_2 _ _ _ _ _ _)).trans ((if_neg c22).trans rfl))))) hpo hH hS hl)
                  have ho := ho.1
                  refine lv_icmp_ne (tgt := 379) hx hb dL_law_342 (by decide) (fun c54 => ?_) (fun c54 => ?_)
                  · skip
                    refine W.widen (k := ((cc18 + (pot v50 - pot v17)) + 2046)) (n := ((cc18 + (pot v50 - pot v17)) + 2046)) (by omega) (by omega) ?_
                    have hpj : pot v17 ≤ pot v50 ∧ pot v50 ≤ 314580 := by omega
                    have hlz := hl
                    have hHz := hH
                    have hSz := hS
                    exact K54 _ _ _ _ _ (Eq.symm ((if_neg c54).trans rfl)) hpj hHz hSz (lv_sub hlz [0, 1, 2, 3, 4] rfl)
                  · have ho := ho c54
                    refine lv_aload_n hx hb dL_law_345 rfl (lv_at hl 4 rfl) ?_
                    refine k_X10_states X hS hH kd_448 t_ml_VernierDrawersLaw_288 hl.1 (Nat.le_of_ble_eq_true rfl) ⟨Nat.le_of_ble_eq_true rfl, Nat.le_of_ble_eq_true rfl⟩ ⟨(le_ce (show ((cc18 + (pot v50 - pot v17)) + 2010) ≤ 600104 by omega)), (le_sl (show ((cc18 + (pot v50 - pot v17)) + 2010) ≤ 600104 by omega))⟩ dL_law_346 ?_
                    refine lv_istore (lv' := [(12, .int (fX10_states 448 v50)), (4, .int 1), (5, .int i15), (2, .long y46), (0, .ref b), (1, .ref (ga G 448))]) hx hb dL_law_349 hl (by decide) rfl (fun ls hl => ?_)
                    refine lv_aload_n hx hb dL_law_351 rfl (lv_at hl 5 rfl) ?_
                    have hq55 := ho.1
                    have ho := ho.2
                    have hk56 : kkL_undo 448 v50 = pot ((fL_undo 448 v50).2) - pot v50 + 36 := rfl
                    have hq57 := ho.1
                    have ho := ho.2
                    refine k_L_undo hst X hS hN hH kd_448 hq55 t_ml_VernierDrawersLaw_388 hl.1 (Nat.le_of_ble_eq_true rfl) ⟨Nat.le_of_ble_eq_true rfl, Nat.le_of_ble_eq_true rfl⟩ ⟨(le_ce (show ((cc18 + (pot v50 - pot v17)) + 2010) + kkL_undo 448 v50 ≤ 600104 by omega)), (le_sl (show ((cc18 + (pot v50 - pot v17)) + 2010) + kkL_undo 448 v50 ≤ 600104 by omega))⟩ dL_law_352 (fun da H locs v58 ev58 hH hS => ?_)
                    have ho := ho v58 ev58
                    have hp59 : pot v58 = pot ((fL_undo 448 v50).2) := by rw [ev58]
                    refine W.widen (k := ((cc18 + (pot v58 - pot v17)) + 2046)) (n := ((cc18 + (pot v58 - pot v17)) + 2046)) (by omega) (by omega) ?_
                    refine lv_iload hx hb dL_law_355 (lv_at hl 0 rfl) ?_
                    have K61 : ∀ (y60 : Int32) (ls : Array Slot), y60 = (if ((fX10_states 448 v50) : Int32) = 0 then ((-100103)) else ((fX10_states 448 v50) - (1 : Int32)) : Int32) → lv_has ls 13 [(5, .int i15), (2, .long y46), (0, .ref b), (1, .ref (ga G 448))] → W p l e room_1 s m args below meth c H locs ((cc18 + (pot v58 - pot v17)) + 2046) ((cc18 + (pot v58 - pot v17)) + 2046) Q (F0 m 369 ls [.int y60, .int ((fL_undo 448 v50).1)]) := by
                      intro y60 ls ey60 hl
                      have ho := ho y60 ey60
                      refine lv_icmp_ne (tgt := 376) hx hb dL_law_369 (by decide) (fun c62 => ?_) (fun c62 => ?_)
                      · exact absurd ho c62
                      refine lv_iconst (v := 1) hx hb dL_law_372 (by decide) ?_
                      refine lv_goto (tgt := 377) hx hb dL_law_373 (by decide) ?_
                      refine lv_istore (lv' := [(4, .int 1), (5, .int i15), (2, .long y46), (0, .ref b), (1, .ref (ga G 448))]) hx hb dL_law_377 hl (by decide) rfl (fun ls hl => ?_)
                      refine W.widen (k := ((cc18 + (pot v58 - pot v17)) + 2046)) (n := ((cc18 + (pot v58 - pot v17)) + 2046)) (by omega) (by omega) ?_
                      have hpj : pot v17 ≤ pot v58 ∧ pot v58 ≤ 314580 := by omega
                      have hlz := hl
                      have hHz := hH
                      have hSz := hS
                      replace ev58 := Eq.symm ev58
                      replace ey60 := Eq.symm ey60
                      subst ev58 ey60
                      exact K54 _ _ _ _ _ (Eq.symm ((if_pos c54).trans rfl)) hpj hHz hSz (lv_sub hlz [0, 1, 2, 3, 4] rfl)
                    refine lv_if_ne (tgt := 365) hx hb dL_law_357 (by decide) (fun c61 => ?_) (fun c61 => ?_)
                    · skip
                      refine lv_iload hx hb dL_law_365 (lv_at hl 0 rfl) ?_
                      refine lv_iconst (v := 1) hx hb dL_law_367 (by decide) ?_
                      refine lv_isub hx hb dL_law_368 ?_
                      have hlz := hl
                      exact K61 _ _ (Eq.symm ((if_neg c61).trans rfl)) (lv_sub hlz [2, 3, 4, 5] rfl)
                    · skip
                      refine lv_ldc (v := (-100103)) hx hb hown (hts _ t_con_VernierDrawersLaw_20) dL_law_360 ?_
                      refine lv_goto (tgt := 369) hx hb dL_law_362 (by decide) ?_
                      have hlz := hl
                      exact K61 _ _ (Eq.symm ((if_pos c61).trans rfl)) (lv_sub hlz [2, 3, 4, 5] rfl)
                have ho := ho.1
                refine lv_icmp_ne (tgt := 330) hx hb dL_law_300 (by decide) (fun c51 => ?_) (fun c51 => ?_)
                · skip
                  refine W.widen (k := ((cc18 + (pot v47 - pot v17)) + 2010)) (n := ((cc18 + (pot v47 - pot v17)) + 2010)) (by omega) (by omega) ?_
                  have hpj : pot v17 ≤ pot v47 ∧ pot v47 ≤ 314580 := by omega
                  have hlz := hl
                  have hHz := hH
                  have hSz := hS
                  exact K51 _ _ _ _ _ (Eq.symm ((if_neg c51).trans rfl)) hpj hHz hSz (lv_sub hlz [0, 1, 2, 3, 4] rfl)
                · have ho := ho c51
                  refine lv_aload_n hx hb dL_law_303 rfl (lv_at hl 4 rfl) ?_
                  have hq52 := ho.1
                  have ho := ho.2
                  have hk53 : kkL_goBack 448 v47 = pot ((fL_goBack 448 v47).2) - pot v47 + 36 := rfl
                  have hq54 := ho.1
                  have ho := ho.2
                  refine k_L_goBack hst X hS hN hH kd_448 hq52 t_ml_VernierDrawersLaw_390 hl.1 (Nat.le_of_ble_eq_true rfl) ⟨Nat.le_of_ble_eq_true rfl, Nat.le_of_ble_eq_true rfl⟩ ⟨(le_ce (show ((cc18 + (pot v47 - pot v17)) + 1932) + kkL_goBack 448 v47 ≤ 600104 by omega)), (le_sl (show ((cc18 + (pot v47 - pot v17)) + 1932) + kkL_goBack 448 v47 ≤ 600104 by omega))⟩ dL_law_304 (fun da H locs v55 ev55 hH hS => ?_)
                  have ho := ho v55 ev55
                  have hp56 : pot v55 = pot ((fL_goBack 448 v47).2) := by rw [ev55]
                  refine W.widen (k := ((cc18 + (pot v55 - pot v17)) + 1968)) (n := ((cc18 + (pot v55 - pot v17)) + 1968)) (by omega) (by omega) ?_
                  refine lv_aload_n hx hb dL_law_307 rfl (lv_at hl 4 rfl) ?_
                  have hq57 := ho.1
                  have ho := ho.2
                  refine k_X10_onBench X hS hH kd_448 hq57 t_ml_VernierDrawersLaw_247 hl.1 (Nat.le_of_ble_eq_true rfl) ⟨Nat.le_of_ble_eq_true rfl, Nat.le_of_ble_eq_true rfl⟩ ⟨(le_ce (show ((cc18 + (pot v55 - pot v17)) + 1968) ≤ 600104 by omega)), (le_sl (show ((cc18 + (pot v55 - pot v17)) + 1968) ≤ 600104 by omega))⟩ dL_law_308 ?_
                  refine lv_icmp_ne (tgt := 327) hx hb dL_law_311 (by decide) (fun c58 => ?_) (fun c58 => ?_)
                  · exact absurd ho.1 c58
                  have ho := ho.2
                  refine lv_aload_n hx hb dL_law_314 rfl (lv_at hl 4 rfl) ?_
                  have hq59 := ho.1
                  have ho := ho.2
                  refine k_L_look hst X hS hN hH kd_448 hq59 t_ml_VernierDrawersLaw_399 hl.1 (Nat.le_of_ble_eq_true rfl) ⟨Nat.le_of_ble_eq_true rfl, Nat.le_of_ble_eq_true rfl⟩ ⟨(le_ce (show ((cc18 + (pot v55 - pot v17)) + 1968) + 42 ≤ 600104 by omega)), (le_sl (show ((cc18 + (pot v55 - pot v17)) + 1968) + 42 ≤ 600104 by omega))⟩ dL_law_315 (fun da H locs hH hS => ?_)
                  refine W.widen (k := ((cc18 + (pot v55 - pot v17)) + 2010)) (n := ((cc18 + (pot v55 - pot v17)) + 2010)) (Nat.le_of_eq (Nat.add_assoc _ _ _)) (Nat.le_of_eq (Nat.add_assoc _ _ _)) ?_
                  refine lv_lload_n hx hb dL_law_318 rfl (lv_at hl 2 rfl) ?_
                  refine W.lcmp hx hb dL_law_319 ?_
                  refine lv_if_ne (tgt := 327) hx hb dL_law_320 (by decide) (fun c60 => ?_) (fun c60 => ?_)
                  · exact absurd ho c60
                  refine lv_iconst (v := 1) hx hb dL_law_323 (by decide) ?_
                  refine lv_goto (tgt := 328) hx hb dL_law_324 (by decide) ?_
                  refine lv_istore (lv' := [(4, .int 1), (5, .int i15), (2, .long y46), (0, .ref b), (1, .ref (ga G 448))]) hx hb dL_law_328 hl (by decide) rfl (fun ls hl => ?_)
                  refine W.widen (k := ((cc18 + (pot v55 - pot v17)) + 2010)) (n := ((cc18 + (pot v55 - pot v17)) + 2010)) (by omega) (by omega) ?_
                  have hpj : pot v17 ≤ pot v55 ∧ pot v55 ≤ 314580 := by omega
                  have hlz := hl
                  have hHz := hH
                  have hSz := hS
                  replace ev55 := Eq.symm ev55
                  subst ev55
                  exact K51 _ _ _ _ _ (Eq.symm ((if_pos c51).trans rfl)) hpj hHz hSz (lv_sub hlz [0, 1, 2, 3, 4] rfl)
              have ho := ho.1
              refine lv_icmp_ne (tgt := 288) hx hb dL_law_262 (by decide) (fun c48 => ?_) (fun c48 => ?_)
              · skip
                refine W.widen (k := ((cc18 + (pot v43 - pot v17)) + 1932)) (n := ((cc18 + (pot v43 - pot v17)) + 1932)) (by omega) (by omega) ?_
                have hpj : pot v17 ≤ pot v43 ∧ pot v43 ≤ 314580 := by omega
                have hlz := hl
                have hHz := hH
                have hSz := hS
                exact K48 _ _ _ _ _ _ (pr1 ((if_neg c48).trans rfl)) (pr2 ((if_neg c48).trans rfl)) hpj hHz hSz (lv_sub hlz [0, 1, 2, 3, 4] rfl)
              · have ho := ho c48
                refine lv_aload_n hx hb dL_law_265 rfl (lv_at hl 4 rfl) ?_
                have hq49 := ho.1
                have ho := ho.2
                have hk50 : kkX10_keep 448 v43 = pot ((fX10_keep 448 v43).2) - pot v43 + 36 := rfl
                have hq51 := ho.1
                have ho := ho.2
                refine k_X10_keep X hS hH kd_448 hq49 t_ml_VernierDrawersLaw_403 hl.1 (Nat.le_of_ble_eq_true rfl) ⟨Nat.le_of_ble_eq_true rfl, Nat.le_of_ble_eq_true rfl⟩ ⟨(le_ce (show ((cc18 + (pot v43 - pot v17)) + 1854) + kkX10_keep 448 v43 ≤ 600104 by omega)), (le_sl (show ((cc18 + (pot v43 - pot v17)) + 1854) + kkX10_keep 448 v43 ≤ 600104 by omega))⟩ dL_law_266 (fun da H locs v52 ev52 hH hS => ?_)
                have ho := ho v52 ev52
                obtain ⟨v53, ev53⟩ : ∃ z : vSt, z = gM v52 (fX11_keep 461 v52).2 := ⟨_, rfl⟩
                replace hH := hH.gM ev53
                have ho := ho v53 ev53
                have hp54 : pot v53 = pot ((fX10_keep 448 v43).2) := by rw [ev53, pot_gM, ev52]
                refine W.widen (k := ((cc18 + (pot v53 - pot v17)) + 1890)) (n := ((cc18 + (pot v53 - pot v17)) + 1890)) (by omega) (by omega) ?_
                refine lv_aload_n hx hb dL_law_269 rfl (lv_at hl 4 rfl) ?_
                have hq55 := ho.1
                have ho := ho.2
                refine k_X10_onBench X hS hH kd_448 hq55 t_ml_VernierDrawersLaw_247 hl.1 (Nat.le_of_ble_eq_true rfl) ⟨Nat.le_of_ble_eq_true rfl, Nat.le_of_ble_eq_true rfl⟩ ⟨(le_ce (show ((cc18 + (pot v53 - pot v17)) + 1890) ≤ 600104 by omega)), (le_sl (show ((cc18 + (pot v53 - pot v17)) + 1890) ≤ 600104 by omega))⟩ dL_law_270 ?_
                refine lv_icmp_ne (tgt := 280) hx hb dL_law_273 (by decide) (fun c56 => ?_) (fun c56 => ?_)
                · exact absurd ho.1 c56
                have ho := ho.2
                refine lv_iconst (v := 1) hx hb dL_law_276 (by decide) ?_
                refine lv_goto (tgt := 281) hx hb dL_law_277 (by decide) ?_
                refine lv_istore (lv' := [(4, .int 1), (5, .int i15), (2, .long i16), (0, .ref b), (1, .ref (ga G 448))]) hx hb dL_law_281 hl (by decide) rfl (fun ls hl => ?_)
                refine lv_aload_n hx hb dL_law_283 rfl (lv_at hl 4 rfl) ?_
                have hq57 := ho
                refine k_L_look hst X hS hN hH kd_448 hq57 t_ml_VernierDrawersLaw_399 hl.1 (Nat.le_of_ble_eq_true rfl) ⟨Nat.le_of_ble_eq_true rfl, Nat.le_of_ble_eq_true rfl⟩ ⟨(le_ce (show ((cc18 + (pot v53 - pot v17)) + 1890) + 42 ≤ 600104 by omega)), (le_sl (show ((cc18 + (pot v53 - pot v17)) + 1890) + 42 ≤ 600104 by omega))⟩ dL_law_284 (fun da H locs hH hS => ?_)
                refine W.widen (k := ((cc18 + (pot v53 - pot v17)) + 1932)) (n := ((cc18 + (pot v53 - pot v17)) + 1932)) (Nat.le_of_eq (Nat.add_assoc _ _ _)) (Nat.le_of_eq (Nat.add_assoc _ _ _)) ?_
                refine lv_lstore_n (lv' := [(2, .long (fL_look 448 v53)), (4, .int 1), (5, .int i15), (0, .ref b), (1, .ref (ga G 448))]) hx hb dL_law_287 rfl hl (by decide) rfl (fun ls hl => ?_)
                refine W.widen (k := ((cc18 + (pot v53 - pot v17)) + 1932)) (n := ((cc18 + (pot v53 - pot v17)) + 1932)) (by omega) (by omega) ?_
                have hpj : pot v17 ≤ pot v53 ∧ pot v53 ≤ 314580 := by omega
                have hlz := hl
                have hHz := hH
                have hSz := hS
                replace ev52 := Eq.symm ev52
                replace ev53 := Eq.symm ev53
                subst ev52 ev53
                exact K48 _ _ _ _ _ _ (pr1 ((if_pos c48).trans rfl)) (pr2 ((if_pos c48).trans rfl)) hpj hHz hSz (lv_sub hlz [1, 2, 0, 3, 4] rfl)
            have ho := ho.1
            refine lv_icmp_ne (tgt := 250) hx hb dL_law_209 (by decide) (fun c44 => ?_) (fun c44 => ?_)
            · skip
              refine W.widen (k := ((cc18 + (pot v36 - pot v17)) + 1854)) (n := ((cc18 + (pot v36 - pot v17)) + 1854)) (by omega) (by omega) ?_
              have hpj : pot v17 ≤ pot v36 ∧ pot v36 ≤ 314580 := by omega
              have hlz := hl
              have hHz := hH
              have hSz := hS
              exact K44 _ _ _ _ _ (Eq.symm ((if_neg c44).trans rfl)) hpj hHz hSz (lv_sub hlz [0, 5, 6, 7, 8] rfl)
            · have ho := ho c44
              refine lv_iload hx hb dL_law_212 (lv_at hl 4 rfl) ?_
              refine lv_bipush (v := 8) hx hb dL_law_214 (by decide) ?_
              refine lv_ishr hx hb dL_law_216 ?_
              refine lv_iconst (v := 4) hx hb dL_law_217 (by decide) ?_
              have hq45 := ho.1
              have ho := ho.2
              refine k_L_low X hS hq45 t_ml_VernierDrawersLaw_250 hl.1 (Nat.le_of_ble_eq_true rfl) ⟨Nat.le_of_ble_eq_true rfl, Nat.le_of_ble_eq_true rfl⟩ ⟨(le_ce (show ((cc18 + (pot v36 - pot v17)) + 1776) ≤ 600104 by omega)), (le_sl (show ((cc18 + (pot v36 - pot v17)) + 1776) ≤ 600104 by omega))⟩ dL_law_218 ?_
              refine lv_if_ne (tgt := 250) hx hb dL_law_221 (by decide) (fun c46 => ?_) (fun c46 => ?_)
              · skip
                refine W.widen (k := ((cc18 + (pot v36 - pot v17)) + 1854)) (n := ((cc18 + (pot v36 - pot v17)) + 1854)) (by omega) (by omega) ?_
                have hpj : pot v17 ≤ pot v36 ∧ pot v36 ≤ 314580 := by omega
                have hlz := hl
                have hHz := hH
                have hSz := hS
                exact K44 _ _ _ _ _ (Eq.symm ((if_pos c44).trans ((if_neg c46).trans rfl))) hpj hHz hSz (lv_sub hlz [0, 5, 6, 7, 8] rfl)
              · have ho := ho c46
                refine lv_aload_n hx hb dL_law_224 rfl (lv_at hl 8 rfl) ?_
                have hq47 := ho.1
                have ho := ho.2
                have hk48 : kkL_undo 448 v36 = pot ((fL_undo 448 v36).2) - pot v36 + 36 := rfl
                have hq49 := ho.1
                have ho := ho.2
                refine k_L_undo hst X hS hN hH kd_448 hq47 t_ml_VernierDrawersLaw_388 hl.1 (Nat.le_of_ble_eq_true rfl) ⟨Nat.le_of_ble_eq_true rfl, Nat.le_of_ble_eq_true rfl⟩ ⟨(le_ce (show ((cc18 + (pot v36 - pot v17)) + 1776) + kkL_undo 448 v36 ≤ 600104 by omega)), (le_sl (show ((cc18 + (pot v36 - pot v17)) + 1776) + kkL_undo 448 v36 ≤ 600104 by omega))⟩ dL_law_225 (fun da H locs v50 ev50 hH hS => ?_)
                have ho := ho v50 ev50
                have hp51 : pot v50 = pot ((fL_undo 448 v36).2) := by rw [ev50]
                refine W.widen (k := ((cc18 + (pot v50 - pot v17)) + 1812)) (n := ((cc18 + (pot v50 - pot v17)) + 1812)) (by omega) (by omega) ?_
                refine lv_iload hx hb dL_law_228 (lv_at hl 2 rfl) ?_
                refine lv_icmp_ne (tgt := 247) hx hb dL_law_230 (by decide) (fun c52 => ?_) (fun c52 => ?_)
                · exact absurd ho.1 c52
                have ho := ho.2
                refine lv_aload_n hx hb dL_law_233 rfl (lv_at hl 8 rfl) ?_
                have hq53 := ho.1
                have ho := ho.2
                refine k_L_look hst X hS hN hH kd_448 hq53 t_ml_VernierDrawersLaw_399 hl.1 (Nat.le_of_ble_eq_true rfl) ⟨Nat.le_of_ble_eq_true rfl, Nat.le_of_ble_eq_true rfl⟩ ⟨(le_ce (show ((cc18 + (pot v50 - pot v17)) + 1812) + 42 ≤ 600104 by omega)), (le_sl (show ((cc18 + (pot v50 - pot v17)) + 1812) + 42 ≤ 600104 by omega))⟩ dL_law_234 (fun da H locs hH hS => ?_)
                refine W.widen (k := ((cc18 + (pot v50 - pot v17)) + 1854)) (n := ((cc18 + (pot v50 - pot v17)) + 1854)) (Nat.le_of_eq (Nat.add_assoc _ _ _)) (Nat.le_of_eq (Nat.add_assoc _ _ _)) ?_
                refine lv_lload hx hb dL_law_237 (lv_at hl 3 rfl) ?_
                refine W.lcmp hx hb dL_law_239 ?_
                refine lv_if_ne (tgt := 247) hx hb dL_law_240 (by decide) (fun c54 => ?_) (fun c54 => ?_)
                · exact absurd ho c54
                refine lv_iconst (v := 1) hx hb dL_law_243 (by decide) ?_
                refine lv_goto (tgt := 248) hx hb dL_law_244 (by decide) ?_
                refine lv_istore (lv' := [(4, .int 1), (11, .int (fX10_states 448 v36)), (10, .int (fX10_states 448 v29)), (8, .long (fL_look 448 v29)), (7, .int (fL_lot L xs (((2 : Int32) * i15) + (1 : Int32)))), (5, .int i15), (2, .long i16), (0, .ref b), (1, .ref (ga G 448))]) hx hb dL_law_248 hl (by decide) rfl (fun ls hl => ?_)
                refine W.widen (k := ((cc18 + (pot v50 - pot v17)) + 1854)) (n := ((cc18 + (pot v50 - pot v17)) + 1854)) (by omega) (by omega) ?_
                have hpj : pot v17 ≤ pot v50 ∧ pot v50 ≤ 314580 := by omega
                have hlz := hl
                have hHz := hH
                have hSz := hS
                replace ev50 := Eq.symm ev50
                subst ev50
                exact K44 _ _ _ _ _ (Eq.symm ((if_pos c44).trans ((if_pos c46).trans rfl))) hpj hHz hSz (lv_sub hlz [0, 5, 6, 7, 8] rfl)
          have ho := ho.1
          refine lv_icmp_ne (tgt := 182) hx hb dL_law_163 (by decide) (fun c41 => ?_) (fun c41 => ?_)
          · have ho := ho.2 c41
            refine lv_iload hx hb dL_law_182 (lv_at hl 0 rfl) ?_
            refine lv_iload hx hb dL_law_184 (lv_at hl 2 rfl) ?_
            refine lv_iconst (v := 1) hx hb dL_law_186 (by decide) ?_
            refine lv_iadd hx hb dL_law_187 ?_
            refine lv_icmp_ne (tgt := 195) hx hb dL_law_188 (by decide) (fun c42 => ?_) (fun c42 => ?_)
            · exact absurd ho c42
            refine W.widen (k := ((cc18 + (pot v36 - pot v17)) + 1776)) (n := ((cc18 + (pot v36 - pot v17)) + 1776)) (by omega) (by omega) ?_
            have hlz := hl
            have hHz := hH
            have hSz := hS
            exact K41  _ _ _ _  hHz hSz (lv_sub hlz [0, 2, 3, 4, 5, 6, 7, 8] rfl)
          · have ho := ho.1 c41
            refine lv_iload hx hb dL_law_166 (lv_at hl 2 rfl) ?_
            refine lv_iconst (v := 4) hx hb dL_law_168 (by decide) ?_
            refine lv_icmp_eq (tgt := 191) hx hb dL_law_169 (by decide) (fun c43 => ?_) (fun c43 => ?_)
            · skip
              refine W.widen (k := ((cc18 + (pot v36 - pot v17)) + 1776)) (n := ((cc18 + (pot v36 - pot v17)) + 1776)) (by omega) (by omega) ?_
              have hlz := hl
              have hHz := hH
              have hSz := hS
              exact K41  _ _ _ _  hHz hSz (lv_sub hlz [0, 2, 3, 4, 5, 6, 7, 8] rfl)
            · have ho := ho c43
              refine lv_aload_n hx hb dL_law_172 rfl (lv_at hl 8 rfl) ?_
              have hq44 := ho.1
              have ho := ho.2
              refine k_L_look hst X hS hN hH kd_448 hq44 t_ml_VernierDrawersLaw_399 hl.1 (Nat.le_of_ble_eq_true rfl) ⟨Nat.le_of_ble_eq_true rfl, Nat.le_of_ble_eq_true rfl⟩ ⟨(le_ce (show ((cc18 + (pot v36 - pot v17)) + 1734) + 42 ≤ 600104 by omega)), (le_sl (show ((cc18 + (pot v36 - pot v17)) + 1734) + 42 ≤ 600104 by omega))⟩ dL_law_173 (fun da H locs hH hS => ?_)
              refine W.widen (k := ((cc18 + (pot v36 - pot v17)) + 1776)) (n := ((cc18 + (pot v36 - pot v17)) + 1776)) (Nat.le_of_eq (Nat.add_assoc _ _ _)) (Nat.le_of_eq (Nat.add_assoc _ _ _)) ?_
              refine lv_lload hx hb dL_law_176 (lv_at hl 3 rfl) ?_
              refine W.lcmp hx hb dL_law_178 ?_
              refine lv_if_eq (tgt := 191) hx hb dL_law_179 (by decide) (fun c45 => ?_) (fun c45 => ?_)
              · skip
                have hlz := hl
                have hHz := hH
                have hSz := hS
                exact K41  _ _ _ _  hHz hSz (lv_sub hlz [0, 2, 3, 4, 5, 6, 7, 8] rfl)
              · have ho := ho c45
                refine lv_iload hx hb dL_law_182 (lv_at hl 0 rfl) ?_
                refine lv_iload hx hb dL_law_184 (lv_at hl 2 rfl) ?_
                refine lv_iconst (v := 1) hx hb dL_law_186 (by decide) ?_
                refine lv_iadd hx hb dL_law_187 ?_
                refine lv_icmp_ne (tgt := 195) hx hb dL_law_188 (by decide) (fun c46 => ?_) (fun c46 => ?_)
                · exact absurd ho c46
                have hlz := hl
                have hHz := hH
                have hSz := hS
                exact K41  _ _ _ _  hHz hSz (lv_sub hlz [0, 2, 3, 4, 5, 6, 7, 8] rfl)
        have ho := ho.1
        refine lv_if_gt (tgt := 141) hx hb dL_law_127 (by decide) (fun c39 => ?_) (fun c39 => ?_)
        · skip
          refine W.widen (k := ((cc18 + (pot v36 - pot v17)) + 1734)) (n := ((cc18 + (pot v36 - pot v17)) + 1734)) (by omega) (by omega) ?_
          have hlz := hl
          have hHz := hH
          have hSz := hS
          exact K39  _ _ _ _  hHz hSz (lv_sub hlz [0, 1, 3, 5, 6, 7, 8] rfl)
        · have ho := ho c39
          refine lv_aload_n hx hb dL_law_130 rfl (lv_at hl 8 rfl) ?_
          refine lv_iload hx hb dL_law_131 (lv_at hl 3 rfl) ?_
          refine lv_iconst (v := 2) hx hb dL_law_133 (by decide) ?_
          refine lv_ishr hx hb dL_law_134 ?_
          have hq40 := ho
          refine k_L_holds hst X hS hN hH kd_448 hq40 t_ml_VernierDrawersLaw_385 hl.1 (Nat.le_of_ble_eq_true rfl) ⟨Nat.le_of_ble_eq_true rfl, Nat.le_of_ble_eq_true rfl⟩ ⟨(le_ce (show ((cc18 + (pot v36 - pot v17)) + 330) + 1404 ≤ 600104 by omega)), (le_sl (show ((cc18 + (pot v36 - pot v17)) + 330) + 1404 ≤ 600104 by omega))⟩ dL_law_135 (fun da H locs hH hS => ?_)
          refine W.widen (k := ((cc18 + (pot v36 - pot v17)) + 1734)) (n := ((cc18 + (pot v36 - pot v17)) + 1734)) (Nat.le_of_eq (Nat.add_assoc _ _ _)) (Nat.le_of_eq (Nat.add_assoc _ _ _)) ?_
          refine lv_if_eq (tgt := 145) hx hb dL_law_138 (by decide) (fun c41 => absurd c41 (by decide)) (fun c41 => ?_)
          have hlz := hl
          have hHz := hH
          have hSz := hS
          exact K39  _ _ _ _  hHz hSz (lv_sub hlz [0, 1, 3, 5, 6, 7, 8] rfl)
  have hol := ho.1
  refine L19 (59) 0 0 v12 _ _ _ ((c0 + (pot v12 - pot v)) + 1476) _ hol (by omega) (by omega) hH hS (lv_sub hl [0, 1, 2, 3, 4] rfl) (fun v18 da H locs ls ev18 hpo46 hH hS hl => ?_)
  have ho := ho.2 v18 ev18
  refine lv_iload hx hb dL_law_385 (lv_at hl 0 rfl) ?_
  refine lv_if_eq (tgt := 402) hx hb dL_law_387 (by decide) (fun c63 => absurd c63 (by decide)) (fun c63 => ?_)
  refine lv_aload_n hx hb dL_law_390 rfl (lv_at hl 1 rfl) ?_
  refine lv_iconst (v := 5) hx hb dL_law_391 (by decide) ?_
  have hq64 := ho
  refine k_L_holds hst X hS hN hH kd_448 hq64 t_ml_VernierDrawersLaw_385 hl.1 (Nat.le_of_ble_eq_true rfl) ⟨Nat.le_of_ble_eq_true rfl, Nat.le_of_ble_eq_true rfl⟩ ⟨(le_ce (show ((c0 + (pot v18 - pot v)) + 122190) + 1404 ≤ 600104 by omega)), (le_sl (show ((c0 + (pot v18 - pot v)) + 122190) + 1404 ≤ 600104 by omega))⟩ dL_law_392 (fun da H locs hH hS => ?_)
  refine W.widen (k := ((c0 + (pot v18 - pot v)) + 123594)) (n := ((c0 + (pot v18 - pot v)) + 123594)) (Nat.le_of_eq (Nat.add_assoc _ _ _)) (Nat.le_of_eq (Nat.add_assoc _ _ _)) ?_
  refine lv_if_eq (tgt := 402) hx hb dL_law_395 (by decide) (fun c65 => absurd c65 (by decide)) (fun c65 => ?_)
  refine lv_iconst (v := 1) hx hb dL_law_398 (by decide) ?_
  refine lv_goto (tgt := 403) hx hb dL_law_399 (by decide) ?_
  exact E _ _ _ _ _ _ (show ((c0 + (pot v18 - pot v)) + 123594) ≤ 600104 by omega) hH hS
