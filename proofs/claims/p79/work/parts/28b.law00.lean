/-! the law's methods: what looks and checks -/
def fL_most (o1 : Nat) (p1 : Int32) (v : vSt) : Int32 := if (3 : Int32) ≤ ((fX10_kindOf o1 p1 v).2) then 2500 else 15000
def oL_most (o1 : Nat) (p1 : Int32) (v : vSt) : Prop := (oX10_kindOf o1 p1 v) ∧ ((fX10_kindOf o1 p1 v).1 = 0)
abbrev rmL_most : Room := { frames := 3, cells := 0, slots := 0, locals := 63 }
theorem dL_most_0 : decode cL_most 0 = .ok (.aload_n 0, 1) := by decide +kernel
theorem dL_most_1 : decode cL_most 1 = .ok (.iload_n 1, 1) := by decide +kernel
theorem dL_most_2 : decode cL_most 2 = .ok (.invokevirtual 122, 3) := by decide +kernel
theorem dL_most_5 : decode cL_most 5 = .ok (.iconst 3, 1) := by decide +kernel
theorem dL_most_6 : decode cL_most 6 = .ok (.if_icmp .ge 9, 3) := by decide +kernel
theorem dL_most_9 : decode cL_most 9 = .ok (.sipush 15000, 3) := by decide +kernel
theorem dL_most_12 : decode cL_most 12 = .ok (.goto 6, 3) := by decide +kernel
theorem dL_most_15 : decode cL_most 15 = .ok (.sipush 2500, 3) := by decide +kernel
theorem dL_most_18 : decode cL_most 18 = .ok (.ireturn, 1) := by decide +kernel
set_option maxHeartbeats 8000000 in
set_option maxRecDepth 100000 in
theorem mL_most (l : Launch) (hst : l.stackTraces = false) (G : gG) (da : Nat → Nat) (v : vSt) (x : gX) (o1 : Nat) (hk_o1 : kd o1 = 10) (p1 : Int32) (ho : oL_most o1 p1 v) : NI l yL_most cL_most 2 .int rmL_most [.ref (ga G o1), .int p1] G da v x 0 0 (fL_most o1 p1 v) v := by
  refine gofNI (by decide) rfl (Nat.le_of_ble_eq_true rfl) (fun p e s m args below meth c ls Q X hN hH hl E => ?_)
  have hx := X.1
  have hb := X.2.1
  have hown := X.2.2.2.1
  have hts := X.2.2.2.2.1
  have hS : va_S (gA G) s.heap s.heap [] := va_S.rf
  unfold oL_most at ho
  have hl : lv_has ls 2 [(0, .ref (ga G o1)), (1, .int p1)] := hl
  refine lv_aload_n hx hb dL_most_0 rfl (lv_at hl 0 rfl) ?_
  refine lv_iload_n hx hb dL_most_1 rfl (lv_at hl 1 rfl) ?_
  have hq1 := ho.1
  have ho := ho.2
  have hq2 := ho
  refine kZ_X10_kindOf X hS hH hk_o1 hq1 hq2 t_ml_VernierDrawersLaw_122 hl.1 (Nat.le_of_ble_eq_true rfl) ⟨Nat.le_of_ble_eq_true rfl, Nat.le_of_ble_eq_true rfl⟩ ⟨Nat.zero_le _, Nat.zero_le _⟩ dL_most_2 ?_
  refine lv_iconst (v := 3) hx hb dL_most_5 (by decide) ?_
  refine lv_icmp_ge (tgt := 15) hx hb dL_most_6 (by decide) (fun c3 => ?_) (fun c3 => ?_)
  · skip
    refine lv_sipush (v := 2500) hx hb dL_most_15 (by decide) ?_
    exact E _ _ _ _ _ _ _ _ _ dL_most_18 rfl (Eq.symm ((fL_most.eq_1 _ _ _).trans ((if_pos c3).trans rfl))) rfl hH hS (Nat.zero_le _) (Nat.zero_le _)
  · skip
    refine lv_sipush (v := 15000) hx hb dL_most_9 (by decide) ?_
    refine lv_goto (tgt := 18) hx hb dL_most_12 (by decide) ?_
    exact E _ _ _ _ _ _ _ _ _ dL_most_18 rfl (Eq.symm ((fL_most.eq_1 _ _ _).trans ((if_neg c3).trans rfl))) rfl hH hS (Nat.zero_le _) (Nat.zero_le _)
theorem k_L_most {p : Program} {l : Launch} {e : Env} {R : Room} {s : State} {m : MethodId} {args : Array Value} {below : List Frame} {meth : Method} {c : Code} {H : Heap} {locs : List Loc} {cells slots : Nat} {Q : State → Prop} {cc : ByteArray} {pc nL : Nat} {ls : Array Slot} {rest : List Value} {G : gG} {own : String} {da : Nat → Nat} {v : vSt} {x : gX} (hst : l.stackTraces = false) (X : CX G p s m args c cc nL own) (hS : va_S (gA G) s.heap H locs) (hN : NC s) (hH : Hp G da v x H) {o1 : Nat} (hk_o1 : kd o1 = 10) {p1 : Int32} (ho : oL_most o1 p1 v) {idx : Nat} (hml : Cond.methodLink own idx yL_most ∈ TT) (hls : ls.size = nL) (hsum : (rest.map fun v => v.category).sum ≤ 8) (hR : rmL_most.frames + 1 ≤ R.frames ∧ 8 + (2 + 11) + rmL_most.locals ≤ R.locals) (hcs : cells + 0 ≤ R.cells ∧ slots + 0 ≤ R.slots) (hdg : decode cc pc = .ok (.invokestatic idx, 3)) (kk : ∀ (d : Nat → Nat) (H1 : Heap) (locs1 : List Loc), Hp G d v x H1 → va_S (gA G) s.heap H1 locs1 → W p l e R s m args below meth c H1 locs1 (cells + 0) (slots + 0) Q (F0 m (pc + 3) ls (.int (fL_most o1 p1 v) :: rest))) : W p l e R s m args below meth c H locs cells slots Q (F0 m pc ls (.int p1 :: .ref (ga G o1) :: rest)) := c_mi X.2.2.2.2.2.2 (runS (k := 2) X.1 X.2.1 X.2.2.1 X.2.2.2.1 X.2.2.2.2.1 (mL_most l hst G da v x o1 hk_o1 p1 ho) pN_bl hml t_st_L_most t_ini_VernierDrawersLaw t_code_L_most ⟨by decide, by decide, by decide +kernel⟩ rfl rfl hR hcs (preN X hN hS hH) rfl hls rfl hsum hdg) hS (fun d9 H9 L9 v9 e9 hH9 => kk d9 H9 L9 (by subst e9; exact hH9))
def lL_look_114 (v : vSt) (o1 : Nat) : Nat → Int32 → Int64 → Int64
  | 0, i14, i15 => i15
  | n + 1, i14, i15 => if ((fX10_tools o1 v) : Int32) ≤ i14 then i15 else (let y28 : Int64 := ((31 : Int64) * (((31 : Int64) * (((31 : Int64) * (((31 : Int64) * (((31 : Int64) * i15) + (((fX10_kindOf o1 i14 v).2 : Int32).toInt64))) + (((fX10_usesOf o1 i14 v).2 : Int32).toInt64))) + (((fX10_wearOf o1 i14 v).2 : Int32).toInt64))) + (((fX10_knownError o1 i14 v).2 : Int32).toInt64))) + (((fX10_usesLeft o1 i14 v).2 : Int32).toInt64); let y32 : Int32 := (if (((fX10_isDue o1 i14 v).2) : Int32) = 0 then 0 else 1 : Int32); let y34 : Int64 := ((31 : Int64) * (((31 : Int64) * y28) + ((fL_readingFor o1 i14 0 1000 v : Int32).toInt64))) + ((y32 : Int32).toInt64); lL_look_114 v o1 n (i14 + 1) y34)
def olL_look_114 (v : vSt) (o1 : Nat) : Nat → Int32 → Int64 → Prop
  | 0, _, _ => False
  | n + 1, i14, i15 => ¬ (((fX10_tools o1 v) : Int32) ≤ i14) → ((oX10_kindOf o1 i14 v) ∧ (((fX10_kindOf o1 i14 v).1 = 0) ∧ ((oX10_usesOf o1 i14 v) ∧ (((fX10_usesOf o1 i14 v).1 = 0) ∧ ((oX10_wearOf o1 i14 v) ∧ (((fX10_wearOf o1 i14 v).1 = 0) ∧ ((oX10_knownError o1 i14 v) ∧ (((fX10_knownError o1 i14 v).1 = 0) ∧ ((oX10_usesLeft o1 i14 v) ∧ (((fX10_usesLeft o1 i14 v).1 = 0) ∧ (∀ y28 : Int64, y28 = (((31 : Int64) * (((31 : Int64) * (((31 : Int64) * (((31 : Int64) * (((31 : Int64) * i15) + (((fX10_kindOf o1 i14 v).2 : Int32).toInt64))) + (((fX10_usesOf o1 i14 v).2 : Int32).toInt64))) + (((fX10_wearOf o1 i14 v).2 : Int32).toInt64))) + (((fX10_knownError o1 i14 v).2 : Int32).toInt64))) + (((fX10_usesLeft o1 i14 v).2 : Int32).toInt64)) → ((oL_readingFor o1 i14 0 1000 v) ∧ ((oX10_isDue o1 i14 v) ∧ (((fX10_isDue o1 i14 v).1 = 0) ∧ ((∀ (y32 : Int32), y32 = ((if (((fX10_isDue o1 i14 v).2) : Int32) = 0 then 0 else 1 : Int32) : Int32) → (∀ y34 : Int64, y34 = (((31 : Int64) * (((31 : Int64) * y28) + ((fL_readingFor o1 i14 0 1000 v : Int32).toInt64))) + ((y32 : Int32).toInt64)) → (olL_look_114 v o1 n (i14 + 1) y34))))))))))))))))))
def lL_look_223 (v : vSt) (o1 : Nat) : Nat → Int32 → Int64 → Int64
  | 0, i38, i39 => i39
  | n + 1, i38, i39 => if ((fX10_blocks o1 v) : Int32) ≤ i38 then i39 else (let y45 : Int64 := ((31 : Int64) * (((31 : Int64) * i39) + (((fX10_blockLength o1 i38 v).2 : Int32).toInt64))) + (((fX10_blockError o1 i38 v).2 : Int32).toInt64); lL_look_223 v o1 n (i38 + 1) y45)
def olL_look_223 (v : vSt) (o1 : Nat) : Nat → Int32 → Int64 → Prop
  | 0, _, _ => False
  | n + 1, i38, i39 => ¬ (((fX10_blocks o1 v) : Int32) ≤ i38) → ((oX10_blockLength o1 i38 v) ∧ (((fX10_blockLength o1 i38 v).1 = 0) ∧ ((oX10_blockError o1 i38 v) ∧ (((fX10_blockError o1 i38 v).1 = 0) ∧ (∀ y45 : Int64, y45 = (((31 : Int64) * (((31 : Int64) * i39) + (((fX10_blockLength o1 i38 v).2 : Int32).toInt64))) + (((fX10_blockError o1 i38 v).2 : Int32).toInt64)) → (olL_look_223 v o1 n (i38 + 1) y45))))))
def lL_look_263 (v : vSt) (o1 : Nat) : Nat → Int32 → Int64 → Int64
  | 0, i50, i51 => i51
  | n + 1, i50, i51 => if ((fX10_onBench o1 v) : Int32) ≤ i50 then i51 else (let y58 : Int32 := (if (((fX10_wasDoubted o1 i50 v).2) : Int32) = 0 then 0 else 1 : Int32); let y60 : Int64 := (((31 : Int64) * i51) + (((2 : Int32) * ((fX10_typeAt o1 i50 v).2) : Int32).toInt64)) + ((y58 : Int32).toInt64); lL_look_263 v o1 n (i50 + 1) y60)
def olL_look_263 (v : vSt) (o1 : Nat) : Nat → Int32 → Int64 → Prop
  | 0, _, _ => False
  | n + 1, i50, i51 => (oX10_onBench o1 v) ∧ (¬ (((fX10_onBench o1 v) : Int32) ≤ i50) → ((oX10_typeAt o1 i50 v) ∧ (((fX10_typeAt o1 i50 v).1 = 0) ∧ ((oX10_wasDoubted o1 i50 v) ∧ (((fX10_wasDoubted o1 i50 v).1 = 0) ∧ ((∀ (y58 : Int32), y58 = ((if (((fX10_wasDoubted o1 i50 v).2) : Int32) = 0 then 0 else 1 : Int32) : Int32) → (∀ y60 : Int64, y60 = ((((31 : Int64) * i51) + (((2 : Int32) * ((fX10_typeAt o1 i50 v).2) : Int32).toInt64)) + ((y58 : Int32).toInt64)) → (olL_look_263 v o1 n (i50 + 1) y60)))))))))
def lL_look_377 (v : vSt) (o1 : Nat) (i65 : Int32) : Nat → Int32 → Int64 → Int64
  | 0, i80, i81 => i81
  | n + 1, i80, i81 => if (((fX10_charted o1 i65 v).2) : Int32) ≤ i80 then i81 else (lL_look_377 v o1 i65 n (i80 + 1) (((31 : Int64) * i81) + (((fX10_chartedAt o1 i65 i80 v).2 : Int32).toInt64)))
def olL_look_377 (v : vSt) (o1 : Nat) (i65 : Int32) : Nat → Int32 → Int64 → Prop
  | 0, _, _ => False
  | n + 1, i80, i81 => (oX10_charted o1 i65 v) ∧ (((fX10_charted o1 i65 v).1 = 0) ∧ (¬ ((((fX10_charted o1 i65 v).2) : Int32) ≤ i80) → ((oX10_chartedAt o1 i65 i80 v) ∧ (((fX10_chartedAt o1 i65 i80 v).1 = 0) ∧ (olL_look_377 v o1 i65 n (i80 + 1) (((31 : Int64) * i81) + (((fX10_chartedAt o1 i65 i80 v).2 : Int32).toInt64)))))))
def lL_look_309 (v : vSt) (o1 : Nat) : Nat → Int32 → Int64 → Int64
  | 0, i65, i66 => i66
  | n + 1, i65, i66 => if ((fX10_types o1 v) : Int32) ≤ i65 then i66 else (let y78 : Int64 := ((31 : Int64) * (((31 : Int64) * (((31 : Int64) * (((31 : Int64) * (((31 : Int64) * i66) + (((fX10_lengthOf o1 i65 v).2 : Int32).toInt64))) + (((fX10_widthOf o1 i65 v).2 : Int32).toInt64))) + (((fX10_mannerOf o1 i65 v).2 : Int32).toInt64))) + (((fX10_recordOf o1 i65 v).2 : Int32).toInt64))) + (((fX10_badOf o1 i65 v).2 : Int32).toInt64); let y81 : Int64 := (lL_look_377 v o1 i65 (13) 0 y78); lL_look_309 v o1 n (i65 + 1) y81)
def olL_look_309 (v : vSt) (o1 : Nat) : Nat → Int32 → Int64 → Prop
  | 0, _, _ => False
  | n + 1, i65, i66 => ¬ (((fX10_types o1 v) : Int32) ≤ i65) → ((oX10_lengthOf o1 i65 v) ∧ (((fX10_lengthOf o1 i65 v).1 = 0) ∧ ((oX10_widthOf o1 i65 v) ∧ (((fX10_widthOf o1 i65 v).1 = 0) ∧ ((oX10_mannerOf o1 i65 v) ∧ (((fX10_mannerOf o1 i65 v).1 = 0) ∧ ((oX10_recordOf o1 i65 v) ∧ (((fX10_recordOf o1 i65 v).1 = 0) ∧ ((oX10_badOf o1 i65 v) ∧ (((fX10_badOf o1 i65 v).1 = 0) ∧ (∀ y78 : Int64, y78 = (((31 : Int64) * (((31 : Int64) * (((31 : Int64) * (((31 : Int64) * (((31 : Int64) * i66) + (((fX10_lengthOf o1 i65 v).2 : Int32).toInt64))) + (((fX10_widthOf o1 i65 v).2 : Int32).toInt64))) + (((fX10_mannerOf o1 i65 v).2 : Int32).toInt64))) + (((fX10_recordOf o1 i65 v).2 : Int32).toInt64))) + (((fX10_badOf o1 i65 v).2 : Int32).toInt64)) → (olL_look_377 v o1 i65 (13) 0 y78 ∧ (∀ (y81 : Int64), y81 = ((lL_look_377 v o1 i65 (13) 0 y78) : Int64) → (olL_look_309 v o1 n (i65 + 1) y81))))))))))))))
def fL_look (o1 : Nat) (v : vSt) : Int64 := let y7 : Int64 := ((31 : Int64) * (((31 : Int64) * (((31 : Int64) * (((31 : Int64) * (((31 : Int64) * ((25637 : Int64) + ((fX10_warmth o1 v : Int32).toInt64))) + ((fX10_days o1 v : Int32).toInt64))) + ((fX10_brought o1 v : Int32).toInt64))) + ((fX10_good o1 v : Int32).toInt64))) + ((fX10_thrownAway o1 v : Int32).toInt64))) + ((fX10_unseen o1 v : Int32).toInt64); let y13 : Int64 := ((31 : Int64) * (((31 : Int64) * (((31 : Int64) * (((31 : Int64) * (((31 : Int64) * y7) + ((fX10_doubts o1 v : Int32).toInt64))) + ((fX10_tools o1 v : Int32).toInt64))) + ((fX10_blocks o1 v : Int32).toInt64))) + ((fX10_types o1 v : Int32).toInt64))) + ((fX10_toFile o1 v : Int32).toInt64); let y16 : Int64 := (lL_look_114 v o1 (7) 0 y13); let y40 : Int64 := (lL_look_223 v o1 (11) 0 y16); let y52 : Int64 := (lL_look_263 v o1 (21) 0 y40); let y67 : Int64 := (lL_look_309 v o1 (6) 0 y52); y67
def oL_look (o1 : Nat) (v : vSt) : Prop := (oX10_warmth o1 v) ∧ ((oX10_days o1 v) ∧ ((oX10_brought o1 v) ∧ ((oX10_good o1 v) ∧ ((oX10_thrownAway o1 v) ∧ ((oX10_unseen o1 v) ∧ (∀ y7 : Int64, y7 = (((31 : Int64) * (((31 : Int64) * (((31 : Int64) * (((31 : Int64) * (((31 : Int64) * ((25637 : Int64) + ((fX10_warmth o1 v : Int32).toInt64))) + ((fX10_days o1 v : Int32).toInt64))) + ((fX10_brought o1 v : Int32).toInt64))) + ((fX10_good o1 v : Int32).toInt64))) + ((fX10_thrownAway o1 v : Int32).toInt64))) + ((fX10_unseen o1 v : Int32).toInt64)) → ((oX10_doubts o1 v) ∧ ((oX10_tools o1 v) ∧ ((oX10_blocks o1 v) ∧ ((oX10_types o1 v) ∧ ((oX10_toFile o1 v) ∧ (∀ y13 : Int64, y13 = (((31 : Int64) * (((31 : Int64) * (((31 : Int64) * (((31 : Int64) * (((31 : Int64) * y7) + ((fX10_doubts o1 v : Int32).toInt64))) + ((fX10_tools o1 v : Int32).toInt64))) + ((fX10_blocks o1 v : Int32).toInt64))) + ((fX10_types o1 v : Int32).toInt64))) + ((fX10_toFile o1 v : Int32).toInt64)) → (olL_look_114 v o1 (7) 0 y13 ∧ (∀ (y16 : Int64), y16 = ((lL_look_114 v o1 (7) 0 y13) : Int64) → (olL_look_223 v o1 (11) 0 y16 ∧ (∀ (y40 : Int64), y40 = ((lL_look_223 v o1 (11) 0 y16) : Int64) → (olL_look_263 v o1 (21) 0 y40 ∧ (∀ (y52 : Int64), y52 = ((lL_look_263 v o1 (21) 0 y40) : Int64) → (olL_look_309 v o1 (6) 0 y52)))))))))))))))))))
abbrev rmL_look : Room := { frames := 10, cells := 42, slots := 42, locals := 182 }
theorem dL_look_0 : decode cL_look 0 = .ok (.ldc2_w 205, 3) := by decide +kernel
theorem dL_look_3 : decode cL_look 3 = .ok (.ldc2_w 205, 3) := by decide +kernel
theorem dL_look_6 : decode cL_look 6 = .ok (.ldc2_w 205, 3) := by decide +kernel
theorem dL_look_9 : decode cL_look 9 = .ok (.ldc2_w 205, 3) := by decide +kernel
theorem dL_look_12 : decode cL_look 12 = .ok (.ldc2_w 205, 3) := by decide +kernel
theorem dL_look_15 : decode cL_look 15 = .ok (.ldc2_w 207, 3) := by decide +kernel
theorem dL_look_18 : decode cL_look 18 = .ok (.aload_n 0, 1) := by decide +kernel
theorem dL_look_19 : decode cL_look 19 = .ok (.invokevirtual 209, 3) := by decide +kernel
theorem dL_look_22 : decode cL_look 22 = .ok (.i2l, 1) := by decide +kernel
theorem dL_look_23 : decode cL_look 23 = .ok (.ladd, 1) := by decide +kernel
theorem dL_look_24 : decode cL_look 24 = .ok (.lmul, 1) := by decide +kernel
theorem dL_look_25 : decode cL_look 25 = .ok (.aload_n 0, 1) := by decide +kernel
theorem dL_look_26 : decode cL_look 26 = .ok (.invokevirtual 212, 3) := by decide +kernel
theorem dL_look_29 : decode cL_look 29 = .ok (.i2l, 1) := by decide +kernel
theorem dL_look_30 : decode cL_look 30 = .ok (.ladd, 1) := by decide +kernel
theorem dL_look_31 : decode cL_look 31 = .ok (.lmul, 1) := by decide +kernel
theorem dL_look_32 : decode cL_look 32 = .ok (.aload_n 0, 1) := by decide +kernel
theorem dL_look_33 : decode cL_look 33 = .ok (.invokevirtual 215, 3) := by decide +kernel
theorem dL_look_36 : decode cL_look 36 = .ok (.i2l, 1) := by decide +kernel
theorem dL_look_37 : decode cL_look 37 = .ok (.ladd, 1) := by decide +kernel
theorem dL_look_38 : decode cL_look 38 = .ok (.lmul, 1) := by decide +kernel
theorem dL_look_39 : decode cL_look 39 = .ok (.aload_n 0, 1) := by decide +kernel
theorem dL_look_40 : decode cL_look 40 = .ok (.invokevirtual 218, 3) := by decide +kernel
theorem dL_look_43 : decode cL_look 43 = .ok (.i2l, 1) := by decide +kernel
theorem dL_look_44 : decode cL_look 44 = .ok (.ladd, 1) := by decide +kernel
theorem dL_look_45 : decode cL_look 45 = .ok (.lmul, 1) := by decide +kernel
theorem dL_look_46 : decode cL_look 46 = .ok (.aload_n 0, 1) := by decide +kernel
theorem dL_look_47 : decode cL_look 47 = .ok (.invokevirtual 221, 3) := by decide +kernel
theorem dL_look_50 : decode cL_look 50 = .ok (.i2l, 1) := by decide +kernel
theorem dL_look_51 : decode cL_look 51 = .ok (.ladd, 1) := by decide +kernel
theorem dL_look_52 : decode cL_look 52 = .ok (.lmul, 1) := by decide +kernel
theorem dL_look_53 : decode cL_look 53 = .ok (.aload_n 0, 1) := by decide +kernel
theorem dL_look_54 : decode cL_look 54 = .ok (.invokevirtual 224, 3) := by decide +kernel
theorem dL_look_57 : decode cL_look 57 = .ok (.i2l, 1) := by decide +kernel
theorem dL_look_58 : decode cL_look 58 = .ok (.ladd, 1) := by decide +kernel
theorem dL_look_59 : decode cL_look 59 = .ok (.lstore_n 1, 1) := by decide +kernel
theorem dL_look_60 : decode cL_look 60 = .ok (.ldc2_w 205, 3) := by decide +kernel
theorem dL_look_63 : decode cL_look 63 = .ok (.ldc2_w 205, 3) := by decide +kernel
theorem dL_look_66 : decode cL_look 66 = .ok (.ldc2_w 205, 3) := by decide +kernel
theorem dL_look_69 : decode cL_look 69 = .ok (.ldc2_w 205, 3) := by decide +kernel
theorem dL_look_72 : decode cL_look 72 = .ok (.ldc2_w 205, 3) := by decide +kernel
theorem dL_look_75 : decode cL_look 75 = .ok (.lload_n 1, 1) := by decide +kernel
theorem dL_look_76 : decode cL_look 76 = .ok (.lmul, 1) := by decide +kernel
theorem dL_look_77 : decode cL_look 77 = .ok (.aload_n 0, 1) := by decide +kernel
theorem dL_look_78 : decode cL_look 78 = .ok (.invokevirtual 227, 3) := by decide +kernel
theorem dL_look_81 : decode cL_look 81 = .ok (.i2l, 1) := by decide +kernel
theorem dL_look_82 : decode cL_look 82 = .ok (.ladd, 1) := by decide +kernel
theorem dL_look_83 : decode cL_look 83 = .ok (.lmul, 1) := by decide +kernel
theorem dL_look_84 : decode cL_look 84 = .ok (.aload_n 0, 1) := by decide +kernel
theorem dL_look_85 : decode cL_look 85 = .ok (.invokevirtual 230, 3) := by decide +kernel
theorem dL_look_88 : decode cL_look 88 = .ok (.i2l, 1) := by decide +kernel
theorem dL_look_89 : decode cL_look 89 = .ok (.ladd, 1) := by decide +kernel
theorem dL_look_90 : decode cL_look 90 = .ok (.lmul, 1) := by decide +kernel
theorem dL_look_91 : decode cL_look 91 = .ok (.aload_n 0, 1) := by decide +kernel
theorem dL_look_92 : decode cL_look 92 = .ok (.invokevirtual 233, 3) := by decide +kernel
theorem dL_look_95 : decode cL_look 95 = .ok (.i2l, 1) := by decide +kernel
theorem dL_look_96 : decode cL_look 96 = .ok (.ladd, 1) := by decide +kernel
theorem dL_look_97 : decode cL_look 97 = .ok (.lmul, 1) := by decide +kernel
theorem dL_look_98 : decode cL_look 98 = .ok (.aload_n 0, 1) := by decide +kernel
theorem dL_look_99 : decode cL_look 99 = .ok (.invokevirtual 236, 3) := by decide +kernel
theorem dL_look_102 : decode cL_look 102 = .ok (.i2l, 1) := by decide +kernel
theorem dL_look_103 : decode cL_look 103 = .ok (.ladd, 1) := by decide +kernel
theorem dL_look_104 : decode cL_look 104 = .ok (.lmul, 1) := by decide +kernel
theorem dL_look_105 : decode cL_look 105 = .ok (.aload_n 0, 1) := by decide +kernel
theorem dL_look_106 : decode cL_look 106 = .ok (.invokevirtual 239, 3) := by decide +kernel
theorem dL_look_109 : decode cL_look 109 = .ok (.i2l, 1) := by decide +kernel
theorem dL_look_110 : decode cL_look 110 = .ok (.ladd, 1) := by decide +kernel
theorem dL_look_111 : decode cL_look 111 = .ok (.lstore_n 1, 1) := by decide +kernel
theorem dL_look_112 : decode cL_look 112 = .ok (.iconst 0, 1) := by decide +kernel
theorem dL_look_113 : decode cL_look 113 = .ok (.istore_n 3, 1) := by decide +kernel
theorem dL_look_114 : decode cL_look 114 = .ok (.iload_n 3, 1) := by decide +kernel
theorem dL_look_115 : decode cL_look 115 = .ok (.aload_n 0, 1) := by decide +kernel
theorem dL_look_116 : decode cL_look 116 = .ok (.invokevirtual 230, 3) := by decide +kernel
theorem dL_look_119 : decode cL_look 119 = .ok (.if_icmp .ge 102, 3) := by decide +kernel
theorem dL_look_122 : decode cL_look 122 = .ok (.ldc2_w 205, 3) := by decide +kernel
theorem dL_look_125 : decode cL_look 125 = .ok (.ldc2_w 205, 3) := by decide +kernel
theorem dL_look_128 : decode cL_look 128 = .ok (.ldc2_w 205, 3) := by decide +kernel
theorem dL_look_131 : decode cL_look 131 = .ok (.ldc2_w 205, 3) := by decide +kernel
theorem dL_look_134 : decode cL_look 134 = .ok (.ldc2_w 205, 3) := by decide +kernel
theorem dL_look_137 : decode cL_look 137 = .ok (.lload_n 1, 1) := by decide +kernel
theorem dL_look_138 : decode cL_look 138 = .ok (.lmul, 1) := by decide +kernel
theorem dL_look_139 : decode cL_look 139 = .ok (.aload_n 0, 1) := by decide +kernel
theorem dL_look_140 : decode cL_look 140 = .ok (.iload_n 3, 1) := by decide +kernel
theorem dL_look_141 : decode cL_look 141 = .ok (.invokevirtual 122, 3) := by decide +kernel
theorem dL_look_144 : decode cL_look 144 = .ok (.i2l, 1) := by decide +kernel
theorem dL_look_145 : decode cL_look 145 = .ok (.ladd, 1) := by decide +kernel
theorem dL_look_146 : decode cL_look 146 = .ok (.lmul, 1) := by decide +kernel
theorem dL_look_147 : decode cL_look 147 = .ok (.aload_n 0, 1) := by decide +kernel
theorem dL_look_148 : decode cL_look 148 = .ok (.iload_n 3, 1) := by decide +kernel
theorem dL_look_149 : decode cL_look 149 = .ok (.invokevirtual 128, 3) := by decide +kernel
theorem dL_look_152 : decode cL_look 152 = .ok (.i2l, 1) := by decide +kernel
theorem dL_look_153 : decode cL_look 153 = .ok (.ladd, 1) := by decide +kernel
theorem dL_look_154 : decode cL_look 154 = .ok (.lmul, 1) := by decide +kernel
theorem dL_look_155 : decode cL_look 155 = .ok (.aload_n 0, 1) := by decide +kernel
theorem dL_look_156 : decode cL_look 156 = .ok (.iload_n 3, 1) := by decide +kernel
theorem dL_look_157 : decode cL_look 157 = .ok (.invokevirtual 131, 3) := by decide +kernel
theorem dL_look_160 : decode cL_look 160 = .ok (.i2l, 1) := by decide +kernel
theorem dL_look_161 : decode cL_look 161 = .ok (.ladd, 1) := by decide +kernel
theorem dL_look_162 : decode cL_look 162 = .ok (.lmul, 1) := by decide +kernel
theorem dL_look_163 : decode cL_look 163 = .ok (.aload_n 0, 1) := by decide +kernel
theorem dL_look_164 : decode cL_look 164 = .ok (.iload_n 3, 1) := by decide +kernel
theorem dL_look_165 : decode cL_look 165 = .ok (.invokevirtual 134, 3) := by decide +kernel
theorem dL_look_168 : decode cL_look 168 = .ok (.i2l, 1) := by decide +kernel
theorem dL_look_169 : decode cL_look 169 = .ok (.ladd, 1) := by decide +kernel
theorem dL_look_170 : decode cL_look 170 = .ok (.lmul, 1) := by decide +kernel
theorem dL_look_171 : decode cL_look 171 = .ok (.aload_n 0, 1) := by decide +kernel
theorem dL_look_172 : decode cL_look 172 = .ok (.iload_n 3, 1) := by decide +kernel
theorem dL_look_173 : decode cL_look 173 = .ok (.invokevirtual 137, 3) := by decide +kernel
theorem dL_look_176 : decode cL_look 176 = .ok (.i2l, 1) := by decide +kernel
theorem dL_look_177 : decode cL_look 177 = .ok (.ladd, 1) := by decide +kernel
theorem dL_look_178 : decode cL_look 178 = .ok (.lstore_n 1, 1) := by decide +kernel
theorem dL_look_179 : decode cL_look 179 = .ok (.ldc2_w 205, 3) := by decide +kernel
theorem dL_look_182 : decode cL_look 182 = .ok (.ldc2_w 205, 3) := by decide +kernel
theorem dL_look_185 : decode cL_look 185 = .ok (.lload_n 1, 1) := by decide +kernel
theorem dL_look_186 : decode cL_look 186 = .ok (.lmul, 1) := by decide +kernel
theorem dL_look_187 : decode cL_look 187 = .ok (.aload_n 0, 1) := by decide +kernel
theorem dL_look_188 : decode cL_look 188 = .ok (.iload_n 3, 1) := by decide +kernel
theorem dL_look_189 : decode cL_look 189 = .ok (.iconst 0, 1) := by decide +kernel
theorem dL_look_190 : decode cL_look 190 = .ok (.sipush 1000, 3) := by decide +kernel
theorem dL_look_193 : decode cL_look 193 = .ok (.invokestatic 242, 3) := by decide +kernel
theorem dL_look_196 : decode cL_look 196 = .ok (.i2l, 1) := by decide +kernel
theorem dL_look_197 : decode cL_look 197 = .ok (.ladd, 1) := by decide +kernel
theorem dL_look_198 : decode cL_look 198 = .ok (.lmul, 1) := by decide +kernel
theorem dL_look_199 : decode cL_look 199 = .ok (.aload_n 0, 1) := by decide +kernel
theorem dL_look_200 : decode cL_look 200 = .ok (.iload_n 3, 1) := by decide +kernel
theorem dL_look_201 : decode cL_look 201 = .ok (.invokevirtual 61, 3) := by decide +kernel
theorem dL_look_204 : decode cL_look 204 = .ok (.ifCond .eq 7, 3) := by decide +kernel
theorem dL_look_207 : decode cL_look 207 = .ok (.iconst 1, 1) := by decide +kernel
theorem dL_look_208 : decode cL_look 208 = .ok (.goto 4, 3) := by decide +kernel
theorem dL_look_211 : decode cL_look 211 = .ok (.iconst 0, 1) := by decide +kernel
theorem dL_look_212 : decode cL_look 212 = .ok (.i2l, 1) := by decide +kernel
theorem dL_look_213 : decode cL_look 213 = .ok (.ladd, 1) := by decide +kernel
theorem dL_look_214 : decode cL_look 214 = .ok (.lstore_n 1, 1) := by decide +kernel
theorem dL_look_215 : decode cL_look 215 = .ok (.iinc 3 1, 3) := by decide +kernel
theorem dL_look_218 : decode cL_look 218 = .ok (.goto (-104), 3) := by decide +kernel
theorem dL_look_221 : decode cL_look 221 = .ok (.iconst 0, 1) := by decide +kernel
theorem dL_look_222 : decode cL_look 222 = .ok (.istore_n 3, 1) := by decide +kernel
theorem dL_look_223 : decode cL_look 223 = .ok (.iload_n 3, 1) := by decide +kernel
theorem dL_look_224 : decode cL_look 224 = .ok (.aload_n 0, 1) := by decide +kernel
theorem dL_look_225 : decode cL_look 225 = .ok (.invokevirtual 233, 3) := by decide +kernel
theorem dL_look_228 : decode cL_look 228 = .ok (.if_icmp .ge 33, 3) := by decide +kernel
theorem dL_look_231 : decode cL_look 231 = .ok (.ldc2_w 205, 3) := by decide +kernel
theorem dL_look_234 : decode cL_look 234 = .ok (.ldc2_w 205, 3) := by decide +kernel
theorem dL_look_237 : decode cL_look 237 = .ok (.lload_n 1, 1) := by decide +kernel
theorem dL_look_238 : decode cL_look 238 = .ok (.lmul, 1) := by decide +kernel
theorem dL_look_239 : decode cL_look 239 = .ok (.aload_n 0, 1) := by decide +kernel
theorem dL_look_240 : decode cL_look 240 = .ok (.iload_n 3, 1) := by decide +kernel
theorem dL_look_241 : decode cL_look 241 = .ok (.invokevirtual 155, 3) := by decide +kernel
theorem dL_look_244 : decode cL_look 244 = .ok (.i2l, 1) := by decide +kernel
theorem dL_look_245 : decode cL_look 245 = .ok (.ladd, 1) := by decide +kernel
theorem dL_look_246 : decode cL_look 246 = .ok (.lmul, 1) := by decide +kernel
theorem dL_look_247 : decode cL_look 247 = .ok (.aload_n 0, 1) := by decide +kernel
theorem dL_look_248 : decode cL_look 248 = .ok (.iload_n 3, 1) := by decide +kernel
theorem dL_look_249 : decode cL_look 249 = .ok (.invokevirtual 158, 3) := by decide +kernel
theorem dL_look_252 : decode cL_look 252 = .ok (.i2l, 1) := by decide +kernel
theorem dL_look_253 : decode cL_look 253 = .ok (.ladd, 1) := by decide +kernel
theorem dL_look_254 : decode cL_look 254 = .ok (.lstore_n 1, 1) := by decide +kernel
theorem dL_look_255 : decode cL_look 255 = .ok (.iinc 3 1, 3) := by decide +kernel
theorem dL_look_258 : decode cL_look 258 = .ok (.goto (-35), 3) := by decide +kernel
theorem dL_look_261 : decode cL_look 261 = .ok (.iconst 0, 1) := by decide +kernel
theorem dL_look_262 : decode cL_look 262 = .ok (.istore_n 3, 1) := by decide +kernel
theorem dL_look_263 : decode cL_look 263 = .ok (.iload_n 3, 1) := by decide +kernel
theorem dL_look_264 : decode cL_look 264 = .ok (.aload_n 0, 1) := by decide +kernel
theorem dL_look_265 : decode cL_look 265 = .ok (.invokevirtual 247, 3) := by decide +kernel
theorem dL_look_268 : decode cL_look 268 = .ok (.if_icmp .ge 39, 3) := by decide +kernel
theorem dL_look_271 : decode cL_look 271 = .ok (.ldc2_w 205, 3) := by decide +kernel
theorem dL_look_274 : decode cL_look 274 = .ok (.lload_n 1, 1) := by decide +kernel
theorem dL_look_275 : decode cL_look 275 = .ok (.lmul, 1) := by decide +kernel
theorem dL_look_276 : decode cL_look 276 = .ok (.iconst 2, 1) := by decide +kernel
theorem dL_look_277 : decode cL_look 277 = .ok (.aload_n 0, 1) := by decide +kernel
theorem dL_look_278 : decode cL_look 278 = .ok (.iload_n 3, 1) := by decide +kernel
theorem dL_look_279 : decode cL_look 279 = .ok (.invokevirtual 68, 3) := by decide +kernel
theorem dL_look_282 : decode cL_look 282 = .ok (.imul, 1) := by decide +kernel
theorem dL_look_283 : decode cL_look 283 = .ok (.i2l, 1) := by decide +kernel
theorem dL_look_284 : decode cL_look 284 = .ok (.ladd, 1) := by decide +kernel
theorem dL_look_285 : decode cL_look 285 = .ok (.aload_n 0, 1) := by decide +kernel
theorem dL_look_286 : decode cL_look 286 = .ok (.iload_n 3, 1) := by decide +kernel
theorem dL_look_287 : decode cL_look 287 = .ok (.invokevirtual 74, 3) := by decide +kernel
theorem dL_look_290 : decode cL_look 290 = .ok (.ifCond .eq 7, 3) := by decide +kernel
theorem dL_look_293 : decode cL_look 293 = .ok (.iconst 1, 1) := by decide +kernel
theorem dL_look_294 : decode cL_look 294 = .ok (.goto 4, 3) := by decide +kernel
theorem dL_look_297 : decode cL_look 297 = .ok (.iconst 0, 1) := by decide +kernel
theorem dL_look_298 : decode cL_look 298 = .ok (.i2l, 1) := by decide +kernel
theorem dL_look_299 : decode cL_look 299 = .ok (.ladd, 1) := by decide +kernel
theorem dL_look_300 : decode cL_look 300 = .ok (.lstore_n 1, 1) := by decide +kernel
theorem dL_look_301 : decode cL_look 301 = .ok (.iinc 3 1, 3) := by decide +kernel
theorem dL_look_304 : decode cL_look 304 = .ok (.goto (-41), 3) := by decide +kernel
theorem dL_look_307 : decode cL_look 307 = .ok (.iconst 0, 1) := by decide +kernel
theorem dL_look_308 : decode cL_look 308 = .ok (.istore_n 3, 1) := by decide +kernel
theorem dL_look_309 : decode cL_look 309 = .ok (.iload_n 3, 1) := by decide +kernel
theorem dL_look_310 : decode cL_look 310 = .ok (.aload_n 0, 1) := by decide +kernel
theorem dL_look_311 : decode cL_look 311 = .ok (.invokevirtual 236, 3) := by decide +kernel
theorem dL_look_314 : decode cL_look 314 = .ok (.if_icmp .ge 100, 3) := by decide +kernel
theorem dL_look_317 : decode cL_look 317 = .ok (.ldc2_w 205, 3) := by decide +kernel
theorem dL_look_320 : decode cL_look 320 = .ok (.ldc2_w 205, 3) := by decide +kernel
theorem dL_look_323 : decode cL_look 323 = .ok (.ldc2_w 205, 3) := by decide +kernel
theorem dL_look_326 : decode cL_look 326 = .ok (.ldc2_w 205, 3) := by decide +kernel
theorem dL_look_329 : decode cL_look 329 = .ok (.ldc2_w 205, 3) := by decide +kernel
theorem dL_look_332 : decode cL_look 332 = .ok (.lload_n 1, 1) := by decide +kernel
theorem dL_look_333 : decode cL_look 333 = .ok (.lmul, 1) := by decide +kernel
theorem dL_look_334 : decode cL_look 334 = .ok (.aload_n 0, 1) := by decide +kernel
theorem dL_look_335 : decode cL_look 335 = .ok (.iload_n 3, 1) := by decide +kernel
theorem dL_look_336 : decode cL_look 336 = .ok (.invokevirtual 173, 3) := by decide +kernel
theorem dL_look_339 : decode cL_look 339 = .ok (.i2l, 1) := by decide +kernel
theorem dL_look_340 : decode cL_look 340 = .ok (.ladd, 1) := by decide +kernel
theorem dL_look_341 : decode cL_look 341 = .ok (.lmul, 1) := by decide +kernel
theorem dL_look_342 : decode cL_look 342 = .ok (.aload_n 0, 1) := by decide +kernel
theorem dL_look_343 : decode cL_look 343 = .ok (.iload_n 3, 1) := by decide +kernel
theorem dL_look_344 : decode cL_look 344 = .ok (.invokevirtual 176, 3) := by decide +kernel
theorem dL_look_347 : decode cL_look 347 = .ok (.i2l, 1) := by decide +kernel
theorem dL_look_348 : decode cL_look 348 = .ok (.ladd, 1) := by decide +kernel
theorem dL_look_349 : decode cL_look 349 = .ok (.lmul, 1) := by decide +kernel
theorem dL_look_350 : decode cL_look 350 = .ok (.aload_n 0, 1) := by decide +kernel
theorem dL_look_351 : decode cL_look 351 = .ok (.iload_n 3, 1) := by decide +kernel
theorem dL_look_352 : decode cL_look 352 = .ok (.invokevirtual 179, 3) := by decide +kernel
theorem dL_look_355 : decode cL_look 355 = .ok (.i2l, 1) := by decide +kernel
theorem dL_look_356 : decode cL_look 356 = .ok (.ladd, 1) := by decide +kernel
theorem dL_look_357 : decode cL_look 357 = .ok (.lmul, 1) := by decide +kernel
theorem dL_look_358 : decode cL_look 358 = .ok (.aload_n 0, 1) := by decide +kernel
theorem dL_look_359 : decode cL_look 359 = .ok (.iload_n 3, 1) := by decide +kernel
theorem dL_look_360 : decode cL_look 360 = .ok (.invokevirtual 182, 3) := by decide +kernel
theorem dL_look_363 : decode cL_look 363 = .ok (.i2l, 1) := by decide +kernel
theorem dL_look_364 : decode cL_look 364 = .ok (.ladd, 1) := by decide +kernel
theorem dL_look_365 : decode cL_look 365 = .ok (.lmul, 1) := by decide +kernel
theorem dL_look_366 : decode cL_look 366 = .ok (.aload_n 0, 1) := by decide +kernel
theorem dL_look_367 : decode cL_look 367 = .ok (.iload_n 3, 1) := by decide +kernel
theorem dL_look_368 : decode cL_look 368 = .ok (.invokevirtual 185, 3) := by decide +kernel
theorem dL_look_371 : decode cL_look 371 = .ok (.i2l, 1) := by decide +kernel
theorem dL_look_372 : decode cL_look 372 = .ok (.ladd, 1) := by decide +kernel
theorem dL_look_373 : decode cL_look 373 = .ok (.lstore_n 1, 1) := by decide +kernel
theorem dL_look_374 : decode cL_look 374 = .ok (.iconst 0, 1) := by decide +kernel
theorem dL_look_375 : decode cL_look 375 = .ok (.istore 4, 2) := by decide +kernel
theorem dL_look_377 : decode cL_look 377 = .ok (.iload 4, 2) := by decide +kernel
theorem dL_look_379 : decode cL_look 379 = .ok (.aload_n 0, 1) := by decide +kernel
theorem dL_look_380 : decode cL_look 380 = .ok (.iload_n 3, 1) := by decide +kernel
theorem dL_look_381 : decode cL_look 381 = .ok (.invokevirtual 188, 3) := by decide +kernel
theorem dL_look_384 : decode cL_look 384 = .ok (.if_icmp .ge 24, 3) := by decide +kernel
theorem dL_look_387 : decode cL_look 387 = .ok (.ldc2_w 205, 3) := by decide +kernel
theorem dL_look_390 : decode cL_look 390 = .ok (.lload_n 1, 1) := by decide +kernel
theorem dL_look_391 : decode cL_look 391 = .ok (.lmul, 1) := by decide +kernel
theorem dL_look_392 : decode cL_look 392 = .ok (.aload_n 0, 1) := by decide +kernel
theorem dL_look_393 : decode cL_look 393 = .ok (.iload_n 3, 1) := by decide +kernel
theorem dL_look_394 : decode cL_look 394 = .ok (.iload 4, 2) := by decide +kernel
theorem dL_look_396 : decode cL_look 396 = .ok (.invokevirtual 89, 3) := by decide +kernel
theorem dL_look_399 : decode cL_look 399 = .ok (.i2l, 1) := by decide +kernel
theorem dL_look_400 : decode cL_look 400 = .ok (.ladd, 1) := by decide +kernel
theorem dL_look_401 : decode cL_look 401 = .ok (.lstore_n 1, 1) := by decide +kernel
theorem dL_look_402 : decode cL_look 402 = .ok (.iinc 4 1, 3) := by decide +kernel
theorem dL_look_405 : decode cL_look 405 = .ok (.goto (-28), 3) := by decide +kernel
theorem dL_look_408 : decode cL_look 408 = .ok (.iinc 3 1, 3) := by decide +kernel
theorem dL_look_411 : decode cL_look 411 = .ok (.goto (-102), 3) := by decide +kernel
theorem dL_look_414 : decode cL_look 414 = .ok (.lload_n 1, 1) := by decide +kernel
theorem dL_look_415 : decode cL_look 415 = .ok (.lreturn, 1) := by decide +kernel
set_option maxHeartbeats 8000000 in
set_option maxRecDepth 100000 in
theorem mL_look (l : Launch) (hst : l.stackTraces = false) (G : gG) (da : Nat → Nat) (v : vSt) (x : gX) (o1 : Nat) (hk_o1 : kd o1 = 10) (ho : oL_look o1 v) : NJ l yL_look cL_look 5 rmL_look [.ref (ga G o1)] G da v x 42 42 (fL_look o1 v) := by
  refine gofNJ (by decide) rfl (Nat.le_of_ble_eq_true rfl) (fun p e s m args below meth c ls Q X hN hH hl E => ?_)
  have hx := X.1
  have hb := X.2.1
  have hown := X.2.2.2.1
  have hts := X.2.2.2.2.1
  have hS : va_S (gA G) s.heap s.heap [] := va_S.rf
  unfold oL_look at ho
  have hl : lv_has ls 5 [(0, .ref (ga G o1))] := hl
  refine lv_ldc2 (v := 31) hx hb hown (hts _ t_con_VernierDrawersLaw_205) dL_look_0 ?_
  refine lv_ldc2 (v := 31) hx hb hown (hts _ t_con_VernierDrawersLaw_205) dL_look_3 ?_
  refine lv_ldc2 (v := 31) hx hb hown (hts _ t_con_VernierDrawersLaw_205) dL_look_6 ?_
  refine lv_ldc2 (v := 31) hx hb hown (hts _ t_con_VernierDrawersLaw_205) dL_look_9 ?_
  refine lv_ldc2 (v := 31) hx hb hown (hts _ t_con_VernierDrawersLaw_205) dL_look_12 ?_
  refine lv_ldc2 (v := 25637) hx hb hown (hts _ t_con_VernierDrawersLaw_207) dL_look_15 ?_
  refine lv_aload_n hx hb dL_look_18 rfl (lv_at hl 0 rfl) ?_
  have hq1 := ho.1
  have ho := ho.2
  refine k16_X10_warmth X hS hH hk_o1 hq1 t_ml_VernierDrawersLaw_209 hl.1 (Nat.le_of_ble_eq_true rfl) ⟨Nat.le_of_ble_eq_true rfl, Nat.le_of_ble_eq_true rfl⟩ ⟨Nat.zero_le _, Nat.zero_le _⟩ dL_look_19 ?_
  refine lv_i2l (v := (fX10_warmth o1 v : Int32).toInt64) hx hb dL_look_22 rfl ?_
  refine lv_ladd hx hb dL_look_23 ?_
  refine lv_lmul hx hb dL_look_24 ?_
  refine lv_aload_n hx hb dL_look_25 rfl (lv_at hl 0 rfl) ?_
  have hq2 := ho.1
  have ho := ho.2
  refine k16_X10_days X hS hH hk_o1 hq2 t_ml_VernierDrawersLaw_212 hl.1 (Nat.le_of_ble_eq_true rfl) ⟨Nat.le_of_ble_eq_true rfl, Nat.le_of_ble_eq_true rfl⟩ ⟨Nat.zero_le _, Nat.zero_le _⟩ dL_look_26 ?_
  refine lv_i2l (v := (fX10_days o1 v : Int32).toInt64) hx hb dL_look_29 rfl ?_
  refine lv_ladd hx hb dL_look_30 ?_
  refine lv_lmul hx hb dL_look_31 ?_
  refine lv_aload_n hx hb dL_look_32 rfl (lv_at hl 0 rfl) ?_
  have hq3 := ho.1
  have ho := ho.2
  refine k_X10_brought X hS hH hk_o1 hq3 t_ml_VernierDrawersLaw_215 hl.1 (Nat.le_of_ble_eq_true rfl) ⟨Nat.le_of_ble_eq_true rfl, Nat.le_of_ble_eq_true rfl⟩ ⟨Nat.zero_le _, Nat.zero_le _⟩ dL_look_33 ?_
  refine lv_i2l (v := (fX10_brought o1 v : Int32).toInt64) hx hb dL_look_36 rfl ?_
  refine lv_ladd hx hb dL_look_37 ?_
  refine lv_lmul hx hb dL_look_38 ?_
  refine lv_aload_n hx hb dL_look_39 rfl (lv_at hl 0 rfl) ?_
  have hq4 := ho.1
  have ho := ho.2
  refine k_X10_good X hS hH hk_o1 hq4 t_ml_VernierDrawersLaw_218 hl.1 (Nat.le_of_ble_eq_true rfl) ⟨Nat.le_of_ble_eq_true rfl, Nat.le_of_ble_eq_true rfl⟩ ⟨Nat.zero_le _, Nat.zero_le _⟩ dL_look_40 ?_
  refine lv_i2l (v := (fX10_good o1 v : Int32).toInt64) hx hb dL_look_43 rfl ?_
  refine lv_ladd hx hb dL_look_44 ?_
  refine lv_lmul hx hb dL_look_45 ?_
  refine lv_aload_n hx hb dL_look_46 rfl (lv_at hl 0 rfl) ?_
  have hq5 := ho.1
  have ho := ho.2
  refine k_X10_thrownAway X hS hH hk_o1 hq5 t_ml_VernierDrawersLaw_221 hl.1 (Nat.le_of_ble_eq_true rfl) ⟨Nat.le_of_ble_eq_true rfl, Nat.le_of_ble_eq_true rfl⟩ ⟨Nat.zero_le _, Nat.zero_le _⟩ dL_look_47 ?_
  refine lv_i2l (v := (fX10_thrownAway o1 v : Int32).toInt64) hx hb dL_look_50 rfl ?_
  refine lv_ladd hx hb dL_look_51 ?_
  refine lv_lmul hx hb dL_look_52 ?_
  refine lv_aload_n hx hb dL_look_53 rfl (lv_at hl 0 rfl) ?_
  have hq6 := ho.1
  have ho := ho.2
  refine k_X10_unseen X hS hH hk_o1 hq6 t_ml_VernierDrawersLaw_224 hl.1 (Nat.le_of_ble_eq_true rfl) ⟨Nat.le_of_ble_eq_true rfl, Nat.le_of_ble_eq_true rfl⟩ ⟨Nat.zero_le _, Nat.zero_le _⟩ dL_look_54 ?_
  refine lv_i2l (v := (fX10_unseen o1 v : Int32).toInt64) hx hb dL_look_57 rfl ?_
  refine lv_ladd hx hb dL_look_58 ?_
  obtain ⟨y7, ey7⟩ : ∃ z : Int64, z = ((31 : Int64) * (((31 : Int64) * (((31 : Int64) * (((31 : Int64) * (((31 : Int64) * ((25637 : Int64) + ((fX10_warmth o1 v : Int32).toInt64))) + ((fX10_days o1 v : Int32).toInt64))) + ((fX10_brought o1 v : Int32).toInt64))) + ((fX10_good o1 v : Int32).toInt64))) + ((fX10_thrownAway o1 v : Int32).toInt64))) + ((fX10_unseen o1 v : Int32).toInt64) := ⟨_, rfl⟩
  rw [← ey7]
  have ho := ho y7 ey7
  refine lv_lstore_n (lv' := [(1, .long y7), (0, .ref (ga G o1))]) hx hb dL_look_59 rfl hl (by decide) rfl (fun ls hl => ?_)
  refine lv_ldc2 (v := 31) hx hb hown (hts _ t_con_VernierDrawersLaw_205) dL_look_60 ?_
  refine lv_ldc2 (v := 31) hx hb hown (hts _ t_con_VernierDrawersLaw_205) dL_look_63 ?_
  refine lv_ldc2 (v := 31) hx hb hown (hts _ t_con_VernierDrawersLaw_205) dL_look_66 ?_
  refine lv_ldc2 (v := 31) hx hb hown (hts _ t_con_VernierDrawersLaw_205) dL_look_69 ?_
  refine lv_ldc2 (v := 31) hx hb hown (hts _ t_con_VernierDrawersLaw_205) dL_look_72 ?_
  refine lv_lload_n hx hb dL_look_75 rfl (lv_at hl 0 rfl) ?_
  refine lv_lmul hx hb dL_look_76 ?_
  refine lv_aload_n hx hb dL_look_77 rfl (lv_at hl 1 rfl) ?_
  have hq8 := ho.1
  have ho := ho.2
  refine k16_X10_doubts X hS hH hk_o1 hq8 t_ml_VernierDrawersLaw_227 hl.1 (Nat.le_of_ble_eq_true rfl) ⟨Nat.le_of_ble_eq_true rfl, Nat.le_of_ble_eq_true rfl⟩ ⟨Nat.zero_le _, Nat.zero_le _⟩ dL_look_78 ?_
  refine lv_i2l (v := (fX10_doubts o1 v : Int32).toInt64) hx hb dL_look_81 rfl ?_
  refine lv_ladd hx hb dL_look_82 ?_
  refine lv_lmul hx hb dL_look_83 ?_
  refine lv_aload_n hx hb dL_look_84 rfl (lv_at hl 1 rfl) ?_
  have hq9 := ho.1
  have ho := ho.2
  refine k_X10_tools X hS hH hk_o1 hq9 t_ml_VernierDrawersLaw_230 hl.1 (Nat.le_of_ble_eq_true rfl) ⟨Nat.le_of_ble_eq_true rfl, Nat.le_of_ble_eq_true rfl⟩ ⟨Nat.zero_le _, Nat.zero_le _⟩ dL_look_85 ?_
  refine lv_i2l (v := (fX10_tools o1 v : Int32).toInt64) hx hb dL_look_88 rfl ?_
  refine lv_ladd hx hb dL_look_89 ?_
  refine lv_lmul hx hb dL_look_90 ?_
  refine lv_aload_n hx hb dL_look_91 rfl (lv_at hl 1 rfl) ?_
  have hq10 := ho.1
  have ho := ho.2
  refine k_X10_blocks X hS hH hk_o1 hq10 t_ml_VernierDrawersLaw_233 hl.1 (Nat.le_of_ble_eq_true rfl) ⟨Nat.le_of_ble_eq_true rfl, Nat.le_of_ble_eq_true rfl⟩ ⟨Nat.zero_le _, Nat.zero_le _⟩ dL_look_92 ?_
  refine lv_i2l (v := (fX10_blocks o1 v : Int32).toInt64) hx hb dL_look_95 rfl ?_
  refine lv_ladd hx hb dL_look_96 ?_
  refine lv_lmul hx hb dL_look_97 ?_
  refine lv_aload_n hx hb dL_look_98 rfl (lv_at hl 1 rfl) ?_
  have hq11 := ho.1
  have ho := ho.2
  refine k_X10_types X hS hH hk_o1 hq11 t_ml_VernierDrawersLaw_236 hl.1 (Nat.le_of_ble_eq_true rfl) ⟨Nat.le_of_ble_eq_true rfl, Nat.le_of_ble_eq_true rfl⟩ ⟨Nat.zero_le _, Nat.zero_le _⟩ dL_look_99 ?_
  refine lv_i2l (v := (fX10_types o1 v : Int32).toInt64) hx hb dL_look_102 rfl ?_
  refine lv_ladd hx hb dL_look_103 ?_
  refine lv_lmul hx hb dL_look_104 ?_
  refine lv_aload_n hx hb dL_look_105 rfl (lv_at hl 1 rfl) ?_
  have hq12 := ho.1
  have ho := ho.2
  refine k_X10_toFile X hS hH hk_o1 hq12 t_ml_VernierDrawersLaw_239 hl.1 (Nat.le_of_ble_eq_true rfl) ⟨Nat.le_of_ble_eq_true rfl, Nat.le_of_ble_eq_true rfl⟩ ⟨Nat.zero_le _, Nat.zero_le _⟩ dL_look_106 ?_
  refine lv_i2l (v := (fX10_toFile o1 v : Int32).toInt64) hx hb dL_look_109 rfl ?_
  refine lv_ladd hx hb dL_look_110 ?_
  obtain ⟨y13, ey13⟩ : ∃ z : Int64, z = ((31 : Int64) * (((31 : Int64) * (((31 : Int64) * (((31 : Int64) * (((31 : Int64) * y7) + ((fX10_doubts o1 v : Int32).toInt64))) + ((fX10_tools o1 v : Int32).toInt64))) + ((fX10_blocks o1 v : Int32).toInt64))) + ((fX10_types o1 v : Int32).toInt64))) + ((fX10_toFile o1 v : Int32).toInt64) := ⟨_, rfl⟩
  rw [← ey13]
  have ho := ho y13 ey13
  refine lv_lstore_n (lv' := [(1, .long y13), (0, .ref (ga G o1))]) hx hb dL_look_111 rfl hl (by decide) rfl (fun ls hl => ?_)
  refine lv_iconst (v := 0) hx hb dL_look_112 (by decide) ?_
  refine lv_istore_n (lv' := [(3, .int 0), (1, .long y13), (0, .ref (ga G o1))]) hx hb dL_look_113 rfl hl (by decide) rfl (fun ls hl => ?_)
  have L17 : ∀ (n : Nat) (i14 : Int32) (i15 : Int64) (da : Nat → Nat) (H : Heap) (locs : List Loc) (cc16 : Nat) (ls : Array Slot), olL_look_114 v o1 n i14 i15 → cc16 + 6 * n + 0 ≤ 42 → Hp G da v x H → va_S (gA G) s.heap H locs → lv_has ls 5 [(3, .int i14), (1, .long i15), (0, .ref (ga G o1))] → (∀ (y16 : Int64) (da : Nat → Nat) (H : Heap) (locs : List Loc) (ls : Array Slot), y16 = (lL_look_114 v o1 n i14 i15 : Int64) → Hp G da v x H → va_S (gA G) s.heap H locs → lv_has ls 5 [(1, .long y16), (0, .ref (ga G o1))] → W p l e rmL_look s m args below meth c H locs 42 42 Q (F0 m 221 ls [])) → W p l e rmL_look s m args below meth c H locs (cc16 + 0) (cc16 + 0) Q (F0 m 114 ls []) := by
    clear ho
    intro n
    induction n with
    | zero =>
      intro i14 i15 da H locs cc16 ls ho
      exact ho.elim
    | succ n ih =>
      intro i14 i15 da H locs cc16 ls ho hcc19 hH hS hl K18
      have hcc19x : cc16 + 6 ≤ 42 := by omega
      refine lv_iload_n hx hb dL_look_114 rfl (lv_at hl 0 rfl) ?_
      refine lv_aload_n hx hb dL_look_115 rfl (lv_at hl 2 rfl) ?_
      refine k_X10_tools X hS hH hk_o1 hq9 t_ml_VernierDrawersLaw_230 hl.1 (Nat.le_of_ble_eq_true rfl) ⟨Nat.le_of_ble_eq_true rfl, Nat.le_of_ble_eq_true rfl⟩ ⟨(show (cc16 + 0) ≤ 42 by omega), (show (cc16 + 0) ≤ 42 by omega)⟩ dL_look_116 ?_
      refine lv_icmp_ge (tgt := 221) hx hb dL_look_119 (by decide) (fun c20 => ?_) (fun c20 => ?_)
      · skip
        have hoz := ho
        have hlz := hl
        have hHz := hH
        have hSz := hS
        refine W.widen (k := 42) (n := 42) (by omega) (by omega) ?_
        exact K18 _ _ _ _ _ (Eq.symm (((lL_look_114.eq_2 _ _ _ _ _)).trans ((if_pos c20).trans rfl)))  hHz hSz (lv_sub hlz [1, 2] rfl)
      · have ho := ho c20
        refine lv_ldc2 (v := 31) hx hb hown (hts _ t_con_VernierDrawersLaw_205) dL_look_122 ?_
        refine lv_ldc2 (v := 31) hx hb hown (hts _ t_con_VernierDrawersLaw_205) dL_look_125 ?_
        refine lv_ldc2 (v := 31) hx hb hown (hts _ t_con_VernierDrawersLaw_205) dL_look_128 ?_
        refine lv_ldc2 (v := 31) hx hb hown (hts _ t_con_VernierDrawersLaw_205) dL_look_131 ?_
        refine lv_ldc2 (v := 31) hx hb hown (hts _ t_con_VernierDrawersLaw_205) dL_look_134 ?_
        refine lv_lload_n hx hb dL_look_137 rfl (lv_at hl 1 rfl) ?_
        refine lv_lmul hx hb dL_look_138 ?_
        refine lv_aload_n hx hb dL_look_139 rfl (lv_at hl 2 rfl) ?_
        refine lv_iload_n hx hb dL_look_140 rfl (lv_at hl 0 rfl) ?_
        have hq21 := ho.1
        have ho := ho.2
        have hq22 := ho.1
        have ho := ho.2
        refine kZ16_X10_kindOf X hS hH hk_o1 hq21 hq22 t_ml_VernierDrawersLaw_122 hl.1 (Nat.le_of_ble_eq_true rfl) ⟨Nat.le_of_ble_eq_true rfl, Nat.le_of_ble_eq_true rfl⟩ ⟨(show (cc16 + 0) ≤ 42 by omega), (show (cc16 + 0) ≤ 42 by omega)⟩ dL_look_141 ?_
        refine lv_i2l (v := ((fX10_kindOf o1 i14 v).2 : Int32).toInt64) hx hb dL_look_144 rfl ?_
        refine lv_ladd hx hb dL_look_145 ?_
        refine lv_lmul hx hb dL_look_146 ?_
        refine lv_aload_n hx hb dL_look_147 rfl (lv_at hl 2 rfl) ?_
        refine lv_iload_n hx hb dL_look_148 rfl (lv_at hl 0 rfl) ?_
        have hq23 := ho.1
        have ho := ho.2
        have hq24 := ho.1
        have ho := ho.2
        refine kZ_X10_usesOf X hS hH hk_o1 hq23 hq24 t_ml_VernierDrawersLaw_128 hl.1 (Nat.le_of_ble_eq_true rfl) ⟨Nat.le_of_ble_eq_true rfl, Nat.le_of_ble_eq_true rfl⟩ ⟨(show (cc16 + 0) ≤ 42 by omega), (show (cc16 + 0) ≤ 42 by omega)⟩ dL_look_149 ?_
        refine lv_i2l (v := ((fX10_usesOf o1 i14 v).2 : Int32).toInt64) hx hb dL_look_152 rfl ?_
        refine lv_ladd hx hb dL_look_153 ?_
        refine lv_lmul hx hb dL_look_154 ?_
        refine lv_aload_n hx hb dL_look_155 rfl (lv_at hl 2 rfl) ?_
        refine lv_iload_n hx hb dL_look_156 rfl (lv_at hl 0 rfl) ?_
        have hq25 := ho.1
        have ho := ho.2
        have hq26 := ho.1
        have ho := ho.2
        refine kZ_X10_wearOf X hS hH hk_o1 hq25 hq26 t_ml_VernierDrawersLaw_131 hl.1 (Nat.le_of_ble_eq_true rfl) ⟨Nat.le_of_ble_eq_true rfl, Nat.le_of_ble_eq_true rfl⟩ ⟨(show (cc16 + 0) ≤ 42 by omega), (show (cc16 + 0) ≤ 42 by omega)⟩ dL_look_157 ?_
        refine lv_i2l (v := ((fX10_wearOf o1 i14 v).2 : Int32).toInt64) hx hb dL_look_160 rfl ?_
        refine lv_ladd hx hb dL_look_161 ?_
        refine lv_lmul hx hb dL_look_162 ?_
        refine lv_aload_n hx hb dL_look_163 rfl (lv_at hl 2 rfl) ?_
        refine lv_iload_n hx hb dL_look_164 rfl (lv_at hl 0 rfl) ?_
        have hq27 := ho.1
        have ho := ho.2
        have hq28 := ho.1
        have ho := ho.2
        refine kZ_X10_knownError X hS hH hk_o1 hq27 hq28 t_ml_VernierDrawersLaw_134 hl.1 (Nat.le_of_ble_eq_true rfl) ⟨Nat.le_of_ble_eq_true rfl, Nat.le_of_ble_eq_true rfl⟩ ⟨(show (cc16 + 0) ≤ 42 by omega), (show (cc16 + 0) ≤ 42 by omega)⟩ dL_look_165 ?_
        refine lv_i2l (v := ((fX10_knownError o1 i14 v).2 : Int32).toInt64) hx hb dL_look_168 rfl ?_
        refine lv_ladd hx hb dL_look_169 ?_
        refine lv_lmul hx hb dL_look_170 ?_
        refine lv_aload_n hx hb dL_look_171 rfl (lv_at hl 2 rfl) ?_
        refine lv_iload_n hx hb dL_look_172 rfl (lv_at hl 0 rfl) ?_
        have hq29 := ho.1
        have ho := ho.2
        have hq30 := ho.1
        have ho := ho.2
        refine kZ_X10_usesLeft X hS hH hk_o1 hq29 hq30 t_ml_VernierDrawersLaw_137 hl.1 (Nat.le_of_ble_eq_true rfl) ⟨Nat.le_of_ble_eq_true rfl, Nat.le_of_ble_eq_true rfl⟩ ⟨(show (cc16 + 0) ≤ 42 by omega), (show (cc16 + 0) ≤ 42 by omega)⟩ dL_look_173 ?_
        refine lv_i2l (v := ((fX10_usesLeft o1 i14 v).2 : Int32).toInt64) hx hb dL_look_176 rfl ?_
        refine lv_ladd hx hb dL_look_177 ?_
        obtain ⟨y31, ey31⟩ : ∃ z : Int64, z = ((31 : Int64) * (((31 : Int64) * (((31 : Int64) * (((31 : Int64) * (((31 : Int64) * i15) + (((fX10_kindOf o1 i14 v).2 : Int32).toInt64))) + (((fX10_usesOf o1 i14 v).2 : Int32).toInt64))) + (((fX10_wearOf o1 i14 v).2 : Int32).toInt64))) + (((fX10_knownError o1 i14 v).2 : Int32).toInt64))) + (((fX10_usesLeft o1 i14 v).2 : Int32).toInt64) := ⟨_, rfl⟩
        rw [← ey31]
        have ho := ho y31 ey31
        refine lv_lstore_n (lv' := [(1, .long y31), (3, .int i14), (0, .ref (ga G o1))]) hx hb dL_look_178 rfl hl (by decide) rfl (fun ls hl => ?_)
        refine lv_ldc2 (v := 31) hx hb hown (hts _ t_con_VernierDrawersLaw_205) dL_look_179 ?_
        refine lv_ldc2 (v := 31) hx hb hown (hts _ t_con_VernierDrawersLaw_205) dL_look_182 ?_
        refine lv_lload_n hx hb dL_look_185 rfl (lv_at hl 0 rfl) ?_
        refine lv_lmul hx hb dL_look_186 ?_
        refine lv_aload_n hx hb dL_look_187 rfl (lv_at hl 2 rfl) ?_
        refine lv_iload_n hx hb dL_look_188 rfl (lv_at hl 1 rfl) ?_
        refine lv_iconst (v := 0) hx hb dL_look_189 (by decide) ?_
        refine lv_sipush (v := 1000) hx hb dL_look_190 (by decide) ?_
        have hq32 := ho.1
        have ho := ho.2
        refine k_L_readingFor hst X hS hN hH hk_o1 hq32 t_ml_VernierDrawersLaw_242 hl.1 (Nat.le_of_ble_eq_true rfl) ⟨Nat.le_of_ble_eq_true rfl, Nat.le_of_ble_eq_true rfl⟩ ⟨(show (cc16 + 0) + 6 ≤ 42 by omega), (show (cc16 + 0) + 6 ≤ 42 by omega)⟩ dL_look_193 (fun da H locs hH hS => ?_)
        refine W.widen (k := (cc16 + 6)) (n := (cc16 + 6)) (Nat.le_of_eq (Nat.add_assoc _ _ _)) (Nat.le_of_eq (Nat.add_assoc _ _ _)) ?_
        refine lv_i2l (v := (fL_readingFor o1 i14 0 1000 v : Int32).toInt64) hx hb dL_look_196 rfl ?_
        refine lv_ladd hx hb dL_look_197 ?_
        refine lv_lmul hx hb dL_look_198 ?_
        refine lv_aload_n hx hb dL_look_199 rfl (lv_at hl 2 rfl) ?_
        refine lv_iload_n hx hb dL_look_200 rfl (lv_at hl 1 rfl) ?_
        have hq33 := ho.1
        have ho := ho.2
        have hq34 := ho.1
        have ho := ho.2
        refine kZ_X10_isDue X hS hH hk_o1 hq33 hq34 t_ml_VernierDrawersLaw_61 hl.1 (Nat.le_of_ble_eq_true rfl) ⟨Nat.le_of_ble_eq_true rfl, Nat.le_of_ble_eq_true rfl⟩ ⟨(show (cc16 + 6) ≤ 42 by omega), (show (cc16 + 6) ≤ 42 by omega)⟩ dL_look_201 ?_
        have K36 : ∀ (y35 : Int32) (ls : Array Slot), y35 = (if (((fX10_isDue o1 i14 v).2) : Int32) = 0 then 0 else 1 : Int32) → lv_has ls 5 [(3, .int i14), (0, .ref (ga G o1))] → W p l e rmL_look s m args below meth c H locs (cc16 + 6) (cc16 + 6) Q (F0 m 212 ls [.int y35, .long ((31 : Int64) * (((31 : Int64) * y31) + ((fL_readingFor o1 i14 0 1000 v : Int32).toInt64)))]) := by
          intro y35 ls ey35 hl
          have ho := ho y35 ey35
          refine lv_i2l (v := (y35 : Int32).toInt64) hx hb dL_look_212 rfl ?_
          refine lv_ladd hx hb dL_look_213 ?_
          obtain ⟨y37, ey37⟩ : ∃ z : Int64, z = ((31 : Int64) * (((31 : Int64) * y31) + ((fL_readingFor o1 i14 0 1000 v : Int32).toInt64))) + ((y35 : Int32).toInt64) := ⟨_, rfl⟩
          rw [← ey37]
          have ho := ho y37 ey37
          refine lv_lstore_n (lv' := [(1, .long y37), (3, .int i14), (0, .ref (ga G o1))]) hx hb dL_look_214 rfl hl (by decide) rfl (fun ls hl => ?_)
          refine lv_iinc (v := i14 + 1) (lv' := [(3, .int (i14 + 1)), (1, .long y37), (0, .ref (ga G o1))]) hx hb dL_look_215 hl (k := 1) rfl rfl (by decide) rfl (fun ls hl => ?_)
          refine lv_goto (tgt := 114) hx hb dL_look_218 (by decide) ?_
          have hoz := ho
          have hlz := hl
          have hHz := hH
          have hSz := hS
          replace ey31 := Eq.symm ey31
          replace ey35 := Eq.symm ey35
          replace ey37 := Eq.symm ey37
          subst ey31 ey35 ey37
          refine W.widen (k := cc16 + 6) (n := cc16 + 6) (by omega) (by omega) ?_
          exact ih _ _ _ _ _ _ _ hoz (by omega) hHz hSz (lv_sub hlz [0, 1, 2] rfl) (fun y16 da H locs ls q0 hH hS hl => K18 y16 da H locs ls (q0.trans (congrArg (fun z : Int64 => z) (Eq.symm (((lL_look_114.eq_2 _ _ _ _ _)).trans ((if_neg c20).trans rfl))))) hH hS hl)
        refine lv_if_eq (tgt := 211) hx hb dL_look_204 (by decide) (fun c36 => ?_) (fun c36 => ?_)
        · skip
          refine lv_iconst (v := 0) hx hb dL_look_211 (by decide) ?_
          have hlz := hl
          exact K36 _ _ (Eq.symm ((if_pos c36).trans rfl)) (lv_sub hlz [1, 2] rfl)
        · skip
          refine lv_iconst (v := 1) hx hb dL_look_207 (by decide) ?_
          refine lv_goto (tgt := 212) hx hb dL_look_208 (by decide) ?_
          have hlz := hl
          exact K36 _ _ (Eq.symm ((if_neg c36).trans rfl)) (lv_sub hlz [1, 2] rfl)
  have hol := ho.1
  refine L17 (7) 0 y13 _ _ _ 0 _ hol (by omega) hH hS (lv_sub hl [0, 1, 2] rfl) (fun y16 da H locs ls ey16 hH hS hl => ?_)
  have ho := ho.2 y16 ey16
  refine lv_iconst (v := 0) hx hb dL_look_221 (by decide) ?_
  refine lv_istore_n (lv' := [(3, .int 0), (1, .long y16), (0, .ref (ga G o1))]) hx hb dL_look_222 rfl hl (by decide) rfl (fun ls hl => ?_)
  have L41 : ∀ (n : Nat) (i38 : Int32) (i39 : Int64) (ls : Array Slot), olL_look_223 v o1 n i38 i39 → lv_has ls 5 [(3, .int i38), (1, .long i39), (0, .ref (ga G o1))] → (∀ (y40 : Int64) (ls : Array Slot), y40 = (lL_look_223 v o1 n i38 i39 : Int64) → lv_has ls 5 [(1, .long y40), (0, .ref (ga G o1))] → W p l e rmL_look s m args below meth c H locs 42 42 Q (F0 m 261 ls [])) → W p l e rmL_look s m args below meth c H locs 42 42 Q (F0 m 223 ls []) := by
    clear ho
    intro n
    induction n with
    | zero =>
      intro i38 i39 ls ho
      exact ho.elim
    | succ n ih =>
      intro i38 i39 ls ho hl K42
      refine lv_iload_n hx hb dL_look_223 rfl (lv_at hl 0 rfl) ?_
      refine lv_aload_n hx hb dL_look_224 rfl (lv_at hl 2 rfl) ?_
      refine k_X10_blocks X hS hH hk_o1 hq10 t_ml_VernierDrawersLaw_233 hl.1 (Nat.le_of_ble_eq_true rfl) ⟨Nat.le_of_ble_eq_true rfl, Nat.le_of_ble_eq_true rfl⟩ ⟨(Nat.le_of_ble_eq_true rfl), (Nat.le_of_ble_eq_true rfl)⟩ dL_look_225 ?_
      refine lv_icmp_ge (tgt := 261) hx hb dL_look_228 (by decide) (fun c44 => ?_) (fun c44 => ?_)
      · skip
        have hoz := ho
        have hlz := hl
        exact K42 _ _ (Eq.symm (((lL_look_223.eq_2 _ _ _ _ _)).trans ((if_pos c44).trans rfl))) (lv_sub hlz [1, 2] rfl)
      · have ho := ho c44
        refine lv_ldc2 (v := 31) hx hb hown (hts _ t_con_VernierDrawersLaw_205) dL_look_231 ?_
        refine lv_ldc2 (v := 31) hx hb hown (hts _ t_con_VernierDrawersLaw_205) dL_look_234 ?_
        refine lv_lload_n hx hb dL_look_237 rfl (lv_at hl 1 rfl) ?_
        refine lv_lmul hx hb dL_look_238 ?_
        refine lv_aload_n hx hb dL_look_239 rfl (lv_at hl 2 rfl) ?_
        refine lv_iload_n hx hb dL_look_240 rfl (lv_at hl 0 rfl) ?_
        have hq45 := ho.1
        have ho := ho.2
        have hq46 := ho.1
        have ho := ho.2
        refine kZ_X10_blockLength X hS hH hk_o1 hq45 hq46 t_ml_VernierDrawersLaw_155 hl.1 (Nat.le_of_ble_eq_true rfl) ⟨Nat.le_of_ble_eq_true rfl, Nat.le_of_ble_eq_true rfl⟩ ⟨(Nat.le_of_ble_eq_true rfl), (Nat.le_of_ble_eq_true rfl)⟩ dL_look_241 ?_
        refine lv_i2l (v := ((fX10_blockLength o1 i38 v).2 : Int32).toInt64) hx hb dL_look_244 rfl ?_
        refine lv_ladd hx hb dL_look_245 ?_
        refine lv_lmul hx hb dL_look_246 ?_
        refine lv_aload_n hx hb dL_look_247 rfl (lv_at hl 2 rfl) ?_
        refine lv_iload_n hx hb dL_look_248 rfl (lv_at hl 0 rfl) ?_
        have hq47 := ho.1
        have ho := ho.2
        have hq48 := ho.1
        have ho := ho.2
        refine kZ_X10_blockError X hS hH hk_o1 hq47 hq48 t_ml_VernierDrawersLaw_158 hl.1 (Nat.le_of_ble_eq_true rfl) ⟨Nat.le_of_ble_eq_true rfl, Nat.le_of_ble_eq_true rfl⟩ ⟨(Nat.le_of_ble_eq_true rfl), (Nat.le_of_ble_eq_true rfl)⟩ dL_look_249 ?_
        refine lv_i2l (v := ((fX10_blockError o1 i38 v).2 : Int32).toInt64) hx hb dL_look_252 rfl ?_
        refine lv_ladd hx hb dL_look_253 ?_
        obtain ⟨y49, ey49⟩ : ∃ z : Int64, z = ((31 : Int64) * (((31 : Int64) * i39) + (((fX10_blockLength o1 i38 v).2 : Int32).toInt64))) + (((fX10_blockError o1 i38 v).2 : Int32).toInt64) := ⟨_, rfl⟩
        rw [← ey49]
        have ho := ho y49 ey49
        refine lv_lstore_n (lv' := [(1, .long y49), (3, .int i38), (0, .ref (ga G o1))]) hx hb dL_look_254 rfl hl (by decide) rfl (fun ls hl => ?_)
        refine lv_iinc (v := i38 + 1) (lv' := [(3, .int (i38 + 1)), (1, .long y49), (0, .ref (ga G o1))]) hx hb dL_look_255 hl (k := 1) rfl rfl (by decide) rfl (fun ls hl => ?_)
        refine lv_goto (tgt := 223) hx hb dL_look_258 (by decide) ?_
        have hoz := ho
        have hlz := hl
        replace ey49 := Eq.symm ey49
        subst ey49
        exact ih _ _ _ hoz (lv_sub hlz [0, 1, 2] rfl) (fun y40 ls q0 hl => K42 y40 ls (q0.trans (congrArg (fun z : Int64 => z) (Eq.symm (((lL_look_223.eq_2 _ _ _ _ _)).trans ((if_neg c44).trans rfl))))) hl)
  have hol := ho.1
  refine L41 (11) 0 y16 _ hol (lv_sub hl [0, 1, 2] rfl) (fun y40 ls ey40 hl => ?_)
  have ho := ho.2 y40 ey40
  refine lv_iconst (v := 0) hx hb dL_look_261 (by decide) ?_
  refine lv_istore_n (lv' := [(3, .int 0), (1, .long y40), (0, .ref (ga G o1))]) hx hb dL_look_262 rfl hl (by decide) rfl (fun ls hl => ?_)
  have L53 : ∀ (n : Nat) (i50 : Int32) (i51 : Int64) (ls : Array Slot), olL_look_263 v o1 n i50 i51 → lv_has ls 5 [(3, .int i50), (1, .long i51), (0, .ref (ga G o1))] → (∀ (y52 : Int64) (ls : Array Slot), y52 = (lL_look_263 v o1 n i50 i51 : Int64) → lv_has ls 5 [(1, .long y52), (0, .ref (ga G o1))] → W p l e rmL_look s m args below meth c H locs 42 42 Q (F0 m 307 ls [])) → W p l e rmL_look s m args below meth c H locs 42 42 Q (F0 m 263 ls []) := by
    clear ho
    intro n
    induction n with
    | zero =>
      intro i50 i51 ls ho
      exact ho.elim
    | succ n ih =>
      intro i50 i51 ls ho hl K54
      refine lv_iload_n hx hb dL_look_263 rfl (lv_at hl 0 rfl) ?_
      refine lv_aload_n hx hb dL_look_264 rfl (lv_at hl 2 rfl) ?_
      have hq56 := ho.1
      have ho := ho.2
      refine k_X10_onBench X hS hH hk_o1 hq56 t_ml_VernierDrawersLaw_247 hl.1 (Nat.le_of_ble_eq_true rfl) ⟨Nat.le_of_ble_eq_true rfl, Nat.le_of_ble_eq_true rfl⟩ ⟨(Nat.le_of_ble_eq_true rfl), (Nat.le_of_ble_eq_true rfl)⟩ dL_look_265 ?_
      refine lv_icmp_ge (tgt := 307) hx hb dL_look_268 (by decide) (fun c57 => ?_) (fun c57 => ?_)
      · skip
        have hoz := ho
        have hlz := hl
        exact K54 _ _ (Eq.symm (((lL_look_263.eq_2 _ _ _ _ _)).trans ((if_pos c57).trans rfl))) (lv_sub hlz [1, 2] rfl)
      · have ho := ho c57
        refine lv_ldc2 (v := 31) hx hb hown (hts _ t_con_VernierDrawersLaw_205) dL_look_271 ?_
        refine lv_lload_n hx hb dL_look_274 rfl (lv_at hl 1 rfl) ?_
        refine lv_lmul hx hb dL_look_275 ?_
        refine lv_iconst (v := 2) hx hb dL_look_276 (by decide) ?_
        refine lv_aload_n hx hb dL_look_277 rfl (lv_at hl 2 rfl) ?_
        refine lv_iload_n hx hb dL_look_278 rfl (lv_at hl 0 rfl) ?_
        have hq58 := ho.1
        have ho := ho.2
        have hq59 := ho.1
        have ho := ho.2
        refine kZ_X10_typeAt X hS hH hk_o1 hq58 hq59 t_ml_VernierDrawersLaw_68 hl.1 (Nat.le_of_ble_eq_true rfl) ⟨Nat.le_of_ble_eq_true rfl, Nat.le_of_ble_eq_true rfl⟩ ⟨(Nat.le_of_ble_eq_true rfl), (Nat.le_of_ble_eq_true rfl)⟩ dL_look_279 ?_
        refine lv_imul hx hb dL_look_282 ?_
        refine lv_i2l (v := ((2 : Int32) * ((fX10_typeAt o1 i50 v).2) : Int32).toInt64) hx hb dL_look_283 rfl ?_
        refine lv_ladd hx hb dL_look_284 ?_
        refine lv_aload_n hx hb dL_look_285 rfl (lv_at hl 2 rfl) ?_
        refine lv_iload_n hx hb dL_look_286 rfl (lv_at hl 0 rfl) ?_
        have hq60 := ho.1
        have ho := ho.2
        have hq61 := ho.1
        have ho := ho.2
        refine kZ_X10_wasDoubted X hS hH hk_o1 hq60 hq61 t_ml_VernierDrawersLaw_74 hl.1 (Nat.le_of_ble_eq_true rfl) ⟨Nat.le_of_ble_eq_true rfl, Nat.le_of_ble_eq_true rfl⟩ ⟨(Nat.le_of_ble_eq_true rfl), (Nat.le_of_ble_eq_true rfl)⟩ dL_look_287 ?_
        have K63 : ∀ (y62 : Int32) (ls : Array Slot), y62 = (if (((fX10_wasDoubted o1 i50 v).2) : Int32) = 0 then 0 else 1 : Int32) → lv_has ls 5 [(3, .int i50), (0, .ref (ga G o1))] → W p l e rmL_look s m args below meth c H locs 42 42 Q (F0 m 298 ls [.int y62, .long (((31 : Int64) * i51) + (((2 : Int32) * ((fX10_typeAt o1 i50 v).2) : Int32).toInt64))]) := by
          intro y62 ls ey62 hl
          have ho := ho y62 ey62
          refine lv_i2l (v := (y62 : Int32).toInt64) hx hb dL_look_298 rfl ?_
          refine lv_ladd hx hb dL_look_299 ?_
          obtain ⟨y64, ey64⟩ : ∃ z : Int64, z = (((31 : Int64) * i51) + (((2 : Int32) * ((fX10_typeAt o1 i50 v).2) : Int32).toInt64)) + ((y62 : Int32).toInt64) := ⟨_, rfl⟩
          rw [← ey64]
          have ho := ho y64 ey64
          refine lv_lstore_n (lv' := [(1, .long y64), (3, .int i50), (0, .ref (ga G o1))]) hx hb dL_look_300 rfl hl (by decide) rfl (fun ls hl => ?_)
          refine lv_iinc (v := i50 + 1) (lv' := [(3, .int (i50 + 1)), (1, .long y64), (0, .ref (ga G o1))]) hx hb dL_look_301 hl (k := 1) rfl rfl (by decide) rfl (fun ls hl => ?_)
          refine lv_goto (tgt := 263) hx hb dL_look_304 (by decide) ?_
          have hoz := ho
          have hlz := hl
          replace ey62 := Eq.symm ey62
          replace ey64 := Eq.symm ey64
          subst ey62 ey64
          exact ih _ _ _ hoz (lv_sub hlz [0, 1, 2] rfl) (fun y52 ls q0 hl => K54 y52 ls (q0.trans (congrArg (fun z : Int64 => z) (Eq.symm (((lL_look_263.eq_2 _ _ _ _ _)).trans ((if_neg c57).trans rfl))))) hl)
        refine lv_if_eq (tgt := 297) hx hb dL_look_290 (by decide) (fun c63 => ?_) (fun c63 => ?_)
        · skip
          refine lv_iconst (v := 0) hx hb dL_look_297 (by decide) ?_
          have hlz := hl
          exact K63 _ _ (Eq.symm ((if_pos c63).trans rfl)) (lv_sub hlz [0, 2] rfl)
        · skip
          refine lv_iconst (v := 1) hx hb dL_look_293 (by decide) ?_
          refine lv_goto (tgt := 298) hx hb dL_look_294 (by decide) ?_
          have hlz := hl
          exact K63 _ _ (Eq.symm ((if_neg c63).trans rfl)) (lv_sub hlz [0, 2] rfl)
  have hol := ho.1
  refine L53 (21) 0 y40 _ hol (lv_sub hl [0, 1, 2] rfl) (fun y52 ls ey52 hl => ?_)
  have ho := ho.2 y52 ey52
  refine lv_iconst (v := 0) hx hb dL_look_307 (by decide) ?_
  refine lv_istore_n (lv' := [(3, .int 0), (1, .long y52), (0, .ref (ga G o1))]) hx hb dL_look_308 rfl hl (by decide) rfl (fun ls hl => ?_)
  have L68 : ∀ (n : Nat) (i65 : Int32) (i66 : Int64) (ls : Array Slot), olL_look_309 v o1 n i65 i66 → lv_has ls 5 [(3, .int i65), (1, .long i66), (0, .ref (ga G o1))] → (∀ (y67 : Int64) (ls : Array Slot), y67 = (lL_look_309 v o1 n i65 i66 : Int64) → lv_has ls 5 [(1, .long y67)] → W p l e rmL_look s m args below meth c H locs 42 42 Q (F0 m 414 ls [])) → W p l e rmL_look s m args below meth c H locs 42 42 Q (F0 m 309 ls []) := by
    clear ho
    intro n
    induction n with
    | zero =>
      intro i65 i66 ls ho
      exact ho.elim
    | succ n ih =>
      intro i65 i66 ls ho hl K69
      refine lv_iload_n hx hb dL_look_309 rfl (lv_at hl 0 rfl) ?_
      refine lv_aload_n hx hb dL_look_310 rfl (lv_at hl 2 rfl) ?_
      refine k_X10_types X hS hH hk_o1 hq11 t_ml_VernierDrawersLaw_236 hl.1 (Nat.le_of_ble_eq_true rfl) ⟨Nat.le_of_ble_eq_true rfl, Nat.le_of_ble_eq_true rfl⟩ ⟨(Nat.le_of_ble_eq_true rfl), (Nat.le_of_ble_eq_true rfl)⟩ dL_look_311 ?_
      refine lv_icmp_ge (tgt := 414) hx hb dL_look_314 (by decide) (fun c71 => ?_) (fun c71 => ?_)
      · skip
        have hoz := ho
        have hlz := hl
        exact K69 _ _ (Eq.symm (((lL_look_309.eq_2 _ _ _ _ _)).trans ((if_pos c71).trans rfl))) (lv_sub hlz [1] rfl)
      · have ho := ho c71
        refine lv_ldc2 (v := 31) hx hb hown (hts _ t_con_VernierDrawersLaw_205) dL_look_317 ?_
        refine lv_ldc2 (v := 31) hx hb hown (hts _ t_con_VernierDrawersLaw_205) dL_look_320 ?_
        refine lv_ldc2 (v := 31) hx hb hown (hts _ t_con_VernierDrawersLaw_205) dL_look_323 ?_
        refine lv_ldc2 (v := 31) hx hb hown (hts _ t_con_VernierDrawersLaw_205) dL_look_326 ?_
        refine lv_ldc2 (v := 31) hx hb hown (hts _ t_con_VernierDrawersLaw_205) dL_look_329 ?_
        refine lv_lload_n hx hb dL_look_332 rfl (lv_at hl 1 rfl) ?_
        refine lv_lmul hx hb dL_look_333 ?_
        refine lv_aload_n hx hb dL_look_334 rfl (lv_at hl 2 rfl) ?_
        refine lv_iload_n hx hb dL_look_335 rfl (lv_at hl 0 rfl) ?_
        have hq72 := ho.1
        have ho := ho.2
        have hq73 := ho.1
        have ho := ho.2
        refine kZ16_X10_lengthOf X hS hH hk_o1 hq72 hq73 t_ml_VernierDrawersLaw_173 hl.1 (Nat.le_of_ble_eq_true rfl) ⟨Nat.le_of_ble_eq_true rfl, Nat.le_of_ble_eq_true rfl⟩ ⟨(Nat.le_of_ble_eq_true rfl), (Nat.le_of_ble_eq_true rfl)⟩ dL_look_336 ?_
        refine lv_i2l (v := ((fX10_lengthOf o1 i65 v).2 : Int32).toInt64) hx hb dL_look_339 rfl ?_
        refine lv_ladd hx hb dL_look_340 ?_
        refine lv_lmul hx hb dL_look_341 ?_
        refine lv_aload_n hx hb dL_look_342 rfl (lv_at hl 2 rfl) ?_
        refine lv_iload_n hx hb dL_look_343 rfl (lv_at hl 0 rfl) ?_
        have hq74 := ho.1
        have ho := ho.2
        have hq75 := ho.1
        have ho := ho.2
        refine kZ_X10_widthOf X hS hH hk_o1 hq74 hq75 t_ml_VernierDrawersLaw_176 hl.1 (Nat.le_of_ble_eq_true rfl) ⟨Nat.le_of_ble_eq_true rfl, Nat.le_of_ble_eq_true rfl⟩ ⟨(Nat.le_of_ble_eq_true rfl), (Nat.le_of_ble_eq_true rfl)⟩ dL_look_344 ?_
        refine lv_i2l (v := ((fX10_widthOf o1 i65 v).2 : Int32).toInt64) hx hb dL_look_347 rfl ?_
        refine lv_ladd hx hb dL_look_348 ?_
        refine lv_lmul hx hb dL_look_349 ?_
        refine lv_aload_n hx hb dL_look_350 rfl (lv_at hl 2 rfl) ?_
        refine lv_iload_n hx hb dL_look_351 rfl (lv_at hl 0 rfl) ?_
        have hq76 := ho.1
        have ho := ho.2
        have hq77 := ho.1
        have ho := ho.2
        refine kZ_X10_mannerOf X hS hH hk_o1 hq76 hq77 t_ml_VernierDrawersLaw_179 hl.1 (Nat.le_of_ble_eq_true rfl) ⟨Nat.le_of_ble_eq_true rfl, Nat.le_of_ble_eq_true rfl⟩ ⟨(Nat.le_of_ble_eq_true rfl), (Nat.le_of_ble_eq_true rfl)⟩ dL_look_352 ?_
        refine lv_i2l (v := ((fX10_mannerOf o1 i65 v).2 : Int32).toInt64) hx hb dL_look_355 rfl ?_
        refine lv_ladd hx hb dL_look_356 ?_
        refine lv_lmul hx hb dL_look_357 ?_
        refine lv_aload_n hx hb dL_look_358 rfl (lv_at hl 2 rfl) ?_
        refine lv_iload_n hx hb dL_look_359 rfl (lv_at hl 0 rfl) ?_
        have hq78 := ho.1
        have ho := ho.2
        have hq79 := ho.1
        have ho := ho.2
        refine kZ_X10_recordOf X hS hH hk_o1 hq78 hq79 t_ml_VernierDrawersLaw_182 hl.1 (Nat.le_of_ble_eq_true rfl) ⟨Nat.le_of_ble_eq_true rfl, Nat.le_of_ble_eq_true rfl⟩ ⟨(Nat.le_of_ble_eq_true rfl), (Nat.le_of_ble_eq_true rfl)⟩ dL_look_360 ?_
        refine lv_i2l (v := ((fX10_recordOf o1 i65 v).2 : Int32).toInt64) hx hb dL_look_363 rfl ?_
        refine lv_ladd hx hb dL_look_364 ?_
        refine lv_lmul hx hb dL_look_365 ?_
        refine lv_aload_n hx hb dL_look_366 rfl (lv_at hl 2 rfl) ?_
        refine lv_iload_n hx hb dL_look_367 rfl (lv_at hl 0 rfl) ?_
        have hq80 := ho.1
        have ho := ho.2
        have hq81 := ho.1
        have ho := ho.2
        refine kZ_X10_badOf X hS hH hk_o1 hq80 hq81 t_ml_VernierDrawersLaw_185 hl.1 (Nat.le_of_ble_eq_true rfl) ⟨Nat.le_of_ble_eq_true rfl, Nat.le_of_ble_eq_true rfl⟩ ⟨(Nat.le_of_ble_eq_true rfl), (Nat.le_of_ble_eq_true rfl)⟩ dL_look_368 ?_
        refine lv_i2l (v := ((fX10_badOf o1 i65 v).2 : Int32).toInt64) hx hb dL_look_371 rfl ?_
        refine lv_ladd hx hb dL_look_372 ?_
        obtain ⟨y82, ey82⟩ : ∃ z : Int64, z = ((31 : Int64) * (((31 : Int64) * (((31 : Int64) * (((31 : Int64) * (((31 : Int64) * i66) + (((fX10_lengthOf o1 i65 v).2 : Int32).toInt64))) + (((fX10_widthOf o1 i65 v).2 : Int32).toInt64))) + (((fX10_mannerOf o1 i65 v).2 : Int32).toInt64))) + (((fX10_recordOf o1 i65 v).2 : Int32).toInt64))) + (((fX10_badOf o1 i65 v).2 : Int32).toInt64) := ⟨_, rfl⟩
        rw [← ey82]
        have ho := ho y82 ey82
        refine lv_lstore_n (lv' := [(1, .long y82), (3, .int i65), (0, .ref (ga G o1))]) hx hb dL_look_373 rfl hl (by decide) rfl (fun ls hl => ?_)
        refine lv_iconst (v := 0) hx hb dL_look_374 (by decide) ?_
        refine lv_istore (lv' := [(4, .int 0), (1, .long y82), (3, .int i65), (0, .ref (ga G o1))]) hx hb dL_look_375 hl (by decide) rfl (fun ls hl => ?_)
        have L86 : ∀ (n : Nat) (i83 : Int32) (i84 : Int64) (ls : Array Slot), olL_look_377 v o1 i65 n i83 i84 → lv_has ls 5 [(4, .int i83), (1, .long i84), (3, .int i65), (0, .ref (ga G o1))] → (∀ (y85 : Int64) (ls : Array Slot), y85 = (lL_look_377 v o1 i65 n i83 i84 : Int64) → lv_has ls 5 [(1, .long y85), (3, .int i65), (0, .ref (ga G o1))] → W p l e rmL_look s m args below meth c H locs 42 42 Q (F0 m 408 ls [])) → W p l e rmL_look s m args below meth c H locs 42 42 Q (F0 m 377 ls []) := by
          clear ho
          intro n
          induction n with
          | zero =>
            intro i83 i84 ls ho
            exact ho.elim
          | succ n ih =>
            intro i83 i84 ls ho hl K87
            refine lv_iload hx hb dL_look_377 (lv_at hl 0 rfl) ?_
            refine lv_aload_n hx hb dL_look_379 rfl (lv_at hl 3 rfl) ?_
            refine lv_iload_n hx hb dL_look_380 rfl (lv_at hl 2 rfl) ?_
            have hq89 := ho.1
            have ho := ho.2
            have hq90 := ho.1
            have ho := ho.2
            refine kZ_X10_charted X hS hH hk_o1 hq89 hq90 t_ml_VernierDrawersLaw_188 hl.1 (Nat.le_of_ble_eq_true rfl) ⟨Nat.le_of_ble_eq_true rfl, Nat.le_of_ble_eq_true rfl⟩ ⟨(Nat.le_of_ble_eq_true rfl), (Nat.le_of_ble_eq_true rfl)⟩ dL_look_381 ?_
            refine lv_icmp_ge (tgt := 408) hx hb dL_look_384 (by decide) (fun c91 => ?_) (fun c91 => ?_)
            · skip
              have hoz := ho
              have hlz := hl
              exact K87 _ _ (Eq.symm (((lL_look_377.eq_2 _ _ _ _ _ _)).trans ((if_pos c91).trans rfl))) (lv_sub hlz [1, 2, 3] rfl)
            · have ho := ho c91
              refine lv_ldc2 (v := 31) hx hb hown (hts _ t_con_VernierDrawersLaw_205) dL_look_387 ?_
              refine lv_lload_n hx hb dL_look_390 rfl (lv_at hl 1 rfl) ?_
              refine lv_lmul hx hb dL_look_391 ?_
              refine lv_aload_n hx hb dL_look_392 rfl (lv_at hl 3 rfl) ?_
              refine lv_iload_n hx hb dL_look_393 rfl (lv_at hl 2 rfl) ?_
              refine lv_iload hx hb dL_look_394 (lv_at hl 0 rfl) ?_
              have hq92 := ho.1
              have ho := ho.2
              have hq93 := ho.1
              have ho := ho.2
              refine kZ_X10_chartedAt X hS hH hk_o1 hq92 hq93 t_ml_VernierDrawersLaw_89 hl.1 (Nat.le_of_ble_eq_true rfl) ⟨Nat.le_of_ble_eq_true rfl, Nat.le_of_ble_eq_true rfl⟩ ⟨(Nat.le_of_ble_eq_true rfl), (Nat.le_of_ble_eq_true rfl)⟩ dL_look_396 ?_
              refine lv_i2l (v := ((fX10_chartedAt o1 i65 i83 v).2 : Int32).toInt64) hx hb dL_look_399 rfl ?_
              refine lv_ladd hx hb dL_look_400 ?_
              refine lv_lstore_n (lv' := [(1, .long (((31 : Int64) * i84) + (((fX10_chartedAt o1 i65 i83 v).2 : Int32).toInt64))), (4, .int i83), (3, .int i65), (0, .ref (ga G o1))]) hx hb dL_look_401 rfl hl (by decide) rfl (fun ls hl => ?_)
              refine lv_iinc (v := i83 + 1) (lv' := [(4, .int (i83 + 1)), (1, .long (((31 : Int64) * i84) + (((fX10_chartedAt o1 i65 i83 v).2 : Int32).toInt64))), (3, .int i65), (0, .ref (ga G o1))]) hx hb dL_look_402 hl (k := 1) rfl rfl (by decide) rfl (fun ls hl => ?_)
              refine lv_goto (tgt := 377) hx hb dL_look_405 (by decide) ?_
              have hoz := ho
              have hlz := hl
              exact ih _ _ _ hoz (lv_sub hlz [0, 1, 2, 3] rfl) (fun y85 ls q0 hl => K87 y85 ls (q0.trans (congrArg (fun z : Int64 => z) (Eq.symm (((lL_look_377.eq_2 _ _ _ _ _ _)).trans ((if_neg c91).trans rfl))))) hl)
        have hol := ho.1
        refine L86 (13) 0 y82 _ hol (lv_sub hl [0, 1, 2, 3] rfl) (fun y85 ls ey85 hl => ?_)
        have ho := ho.2 y85 ey85
        refine lv_iinc (v := i65 + 1) (lv' := [(3, .int (i65 + 1)), (1, .long y85), (0, .ref (ga G o1))]) hx hb dL_look_408 hl (k := 1) rfl rfl (by decide) rfl (fun ls hl => ?_)
        refine lv_goto (tgt := 309) hx hb dL_look_411 (by decide) ?_
        have hoz := ho
        have hlz := hl
        replace ey82 := Eq.symm ey82
        replace ey85 := Eq.symm ey85
        subst ey82 ey85
        exact ih _ _ _ hoz (lv_sub hlz [0, 1, 2] rfl) (fun y67 ls q0 hl => K69 y67 ls (q0.trans (congrArg (fun z : Int64 => z) (Eq.symm (((lL_look_309.eq_2 _ _ _ _ _)).trans ((if_neg c71).trans rfl))))) hl)
  have hol := ho
  refine L68 (6) 0 y52 _ hol (lv_sub hl [0, 1, 2] rfl) (fun y67 ls ey67 hl => ?_)
  refine lv_lload_n hx hb dL_look_414 rfl (lv_at hl 0 rfl) ?_
  replace ey7 := Eq.symm ey7
  replace ey13 := Eq.symm ey13
  replace ey16 := Eq.symm ey16
  replace ey40 := Eq.symm ey40
  replace ey52 := Eq.symm ey52
  replace ey67 := Eq.symm ey67
  subst ey7 ey13 ey16 ey40 ey52 ey67
  exact E _ _ _ _ _ _ _ _ dL_look_415 (Eq.symm rfl) hH hS (Nat.le_of_ble_eq_true rfl) (Nat.le_of_ble_eq_true rfl)
theorem k_L_look {p : Program} {l : Launch} {e : Env} {R : Room} {s : State} {m : MethodId} {args : Array Value} {below : List Frame} {meth : Method} {c : Code} {H : Heap} {locs : List Loc} {cells slots : Nat} {Q : State → Prop} {cc : ByteArray} {pc nL : Nat} {ls : Array Slot} {rest : List Value} {G : gG} {own : String} {da : Nat → Nat} {v : vSt} {x : gX} (hst : l.stackTraces = false) (X : CX G p s m args c cc nL own) (hS : va_S (gA G) s.heap H locs) (hN : NC s) (hH : Hp G da v x H) {o1 : Nat} (hk_o1 : kd o1 = 10) (ho : oL_look o1 v) {idx : Nat} (hml : Cond.methodLink own idx yL_look ∈ TT) (hls : ls.size = nL) (hsum : (rest.map fun v => v.category).sum ≤ 8) (hR : rmL_look.frames + 1 ≤ R.frames ∧ 8 + (5 + 11) + rmL_look.locals ≤ R.locals) (hcs : cells + 42 ≤ R.cells ∧ slots + 42 ≤ R.slots) (hdg : decode cc pc = .ok (.invokestatic idx, 3)) (kk : ∀ (d : Nat → Nat) (H1 : Heap) (locs1 : List Loc), Hp G d v x H1 → va_S (gA G) s.heap H1 locs1 → W p l e R s m args below meth c H1 locs1 (cells + 42) (slots + 42) Q (F0 m (pc + 3) ls (.long (fL_look o1 v) :: rest))) : W p l e R s m args below meth c H locs cells slots Q (F0 m pc ls (.ref (ga G o1) :: rest)) := c_nj (runS (k := 1) X.1 X.2.1 X.2.2.1 X.2.2.2.1 X.2.2.2.2.1 (mL_look l hst G da v x o1 hk_o1 ho) pN_bl hml t_st_L_look t_ini_VernierDrawersLaw t_code_L_look ⟨by decide, by decide, by decide +kernel⟩ rfl rfl hR hcs (preN X hN hS hH) rfl hls rfl hsum hdg) hS kk
def oL_tool (o1 : Nat) (p1 : Int32) (p2 : Int32) (v : vSt) : Prop := (oX10_kindOf o1 p1 v) ∧ (((fX10_kindOf o1 p1 v).1 = 0) ∧ ((oX10_stepOf o1 p1 v) ∧ (((fX10_stepOf o1 p1 v).1 = 0) ∧ ((∀ (y5 : Int32), y5 = ((if (((fX10_kindOf o1 p1 v).2) : Int32) = 3 then 50 else 100 : Int32) : Int32) → ((oL_low p2 3) ∧ ((oL_low (p2 >>> ((3 : Int32) &&& 31)) 3) ∧ ((((((fL_low (p2 >>> ((3 : Int32) &&& 31)) 3) : Int32) = 0) → (oL_low (p2 >>> ((5 : Int32) &&& 31)) 15001)) ∧ (¬ (((fL_low (p2 >>> ((3 : Int32) &&& 31)) 3) : Int32) = 0) → (oL_low (p2 >>> ((5 : Int32) &&& 31)) 2600))) ∧ (∀ (y9 : Int32), y9 = ((if ((fL_low (p2 >>> ((3 : Int32) &&& 31)) 3) : Int32) = 0 then (fL_low (p2 >>> ((5 : Int32) &&& 31)) 15001) else (fL_low (p2 >>> ((5 : Int32) &&& 31)) 2600) : Int32) : Int32) → ((oL_readingFor o1 p1 (fL_low p2 3) y9 v) ∧ ((¬ ((((fX10_kindOf o1 p1 v).2) : Int32) < 0)) ∧ ((¬ ((5 : Int32) ≤ ((fX10_kindOf o1 p1 v).2))) ∧ ((∀ (y14 : Int32), y14 = ((if (((fX10_kindOf o1 p1 v).2) : Int32) = 0 then 10 else (if (((fX10_kindOf o1 p1 v).2) : Int32) = 1 then 5 else (if (((fX10_kindOf o1 p1 v).2) : Int32) = 2 then 2 else 1)) : Int32) : Int32) → (((((fX10_stepOf o1 p1 v).2) : Int32) = y14) ∧ ((oL_readingByLooking o1 p1 (fL_low p2 3) y9 v) ∧ ((((fL_readingByLooking o1 p1 (fL_low p2 3) y9 v) : Int32) = (fL_readingFor o1 p1 (fL_low p2 3) y9 v)) ∧ ((oX10_usesOf o1 p1 v) ∧ (((fX10_usesOf o1 p1 v).1 = 0) ∧ ((¬ ((((fX10_usesOf o1 p1 v).2) : Int32) < 0)) ∧ ((oX10_wearOf o1 p1 v) ∧ (((fX10_wearOf o1 p1 v).1 = 0) ∧ ((¬ ((((fX10_wearOf o1 p1 v).2) : Int32) < 0)) ∧ ((¬ ((40 : Int32) < ((fX10_wearOf o1 p1 v).2))) ∧ ((oX10_usesLeft o1 p1 v) ∧ (((fX10_usesLeft o1 p1 v).1 = 0) ∧ ((¬ ((((fX10_usesLeft o1 p1 v).2) : Int32) < 0)) ∧ ((¬ ((30 : Int32) < ((fX10_usesLeft o1 p1 v).2))) ∧ ((¬ ((0 : Int32) < ((fX10_usesLeft o1 p1 v).2)) → ((oX10_isDue o1 p1 v) ∧ (((fX10_isDue o1 p1 v).1 = 0) ∧ ((¬ ((((fX10_isDue o1 p1 v).2) : Int32) = 0)))))) ∧ (((((fL_readingFor o1 p1 (fL_low p2 3) y9 v) : Int32) = (-100104)) → ((oL_markFor o1 p1 (fL_low p2 3) y9 v) ∧ ((((fL_markFor o1 p1 (fL_low p2 3) y9 v) : Int32) = (-100104)) ∧ ((oL_lineFor o1 p1 (fL_low p2 3) y9 v) ∧ ((((fL_lineFor o1 p1 (fL_low p2 3) y9 v) : Int32) = (-100104)) ∧ ((oL_offBy o1 p1 (fL_low p2 3) y9 v) ∧ ((((fL_offBy o1 p1 (fL_low p2 3) y9 v) : Int32) = (-100104))))))))) ∧ (¬ (((fL_readingFor o1 p1 (fL_low p2 3) y9 v) : Int32) = (-100104)) → ((oX10_knownError o1 p1 v) ∧ (((fX10_knownError o1 p1 v).1 = 0) ∧ ((¬ (((fL_readingFor o1 p1 (fL_low p2 3) y9 v) : Int32) < 0)) ∧ ((oL_most o1 p1 v) ∧ ((¬ (((fL_most o1 p1 v) : Int32) < (fL_readingFor o1 p1 (fL_low p2 3) y9 v))) ∧ ((¬ ((fX10_stepOf o1 p1 v).2 : Int32) = 0) ∧ (((((fL_readingFor o1 p1 (fL_low p2 3) y9 v) - (fL_readingFor o1 p1 (fL_low p2 3) y9 v) / ((fX10_stepOf o1 p1 v).2) * ((fX10_stepOf o1 p1 v).2)) : Int32) = 0) ∧ ((oX10_markFor o1 p1 (fL_low p2 3) y9 v) ∧ (((fX10_markFor o1 p1 (fL_low p2 3) y9 v).1 = 0) ∧ ((¬ (y5 : Int32) = 0) ∧ (((((fX10_markFor o1 p1 (fL_low p2 3) y9 v).2) : Int32) = ((fL_readingFor o1 p1 (fL_low p2 3) y9 v) / y5)) ∧ ((oX10_lineFor o1 p1 (fL_low p2 3) y9 v) ∧ (((fX10_lineFor o1 p1 (fL_low p2 3) y9 v).1 = 0) ∧ (((((fX10_lineFor o1 p1 (fL_low p2 3) y9 v).2) : Int32) = (((fL_readingFor o1 p1 (fL_low p2 3) y9 v) - (fL_readingFor o1 p1 (fL_low p2 3) y9 v) / y5 * y5) / ((fX10_stepOf o1 p1 v).2))) ∧ ((oX10_offBy o1 p1 (fL_low p2 3) y9 v) ∧ (((fX10_offBy o1 p1 (fL_low p2 3) y9 v).1 = 0) ∧ ((∀ (y49 : Int32), y49 = ((if (0 : Int32) ≤ (((fL_readingFor o1 p1 (fL_low p2 3) y9 v) - ((fX10_knownError o1 p1 v).2)) - y9) then (((fL_readingFor o1 p1 (fL_low p2 3) y9 v) - ((fX10_knownError o1 p1 v).2)) - y9) else (-(((fL_readingFor o1 p1 (fL_low p2 3) y9 v) - ((fX10_knownError o1 p1 v).2)) - y9)) : Int32) : Int32) → (((((fX10_offBy o1 p1 (fL_low p2 3) y9 v).2) : Int32) = y49) ∧ ((oL_low (p2 >>> ((7 : Int32) &&& 31)) 40) ∧ ((((((y9 + (1 : Int32)) + (fL_low (p2 >>> ((7 : Int32) &&& 31)) 40)) : Int32) ≤ 15000) → (oL_readingFor o1 p1 (fL_low p2 3) ((y9 + (1 : Int32)) + (fL_low (p2 >>> ((7 : Int32) &&& 31)) 40)) v)) ∧ (∀ (y53 : Int32), y53 = ((if (((y9 + (1 : Int32)) + (fL_low (p2 >>> ((7 : Int32) &&& 31)) 40)) : Int32) ≤ 15000 then (fL_readingFor o1 p1 (fL_low p2 3) ((y9 + (1 : Int32)) + (fL_low (p2 >>> ((7 : Int32) &&& 31)) 40)) v) else ((-100104)) : Int32) : Int32) → (¬ ((y53 : Int32) = (-100104)) → ((¬ ((y53 : Int32) < (fL_readingFor o1 p1 (fL_low p2 3) y9 v))))))))))))))))))))))))))))))))))))))))))))))))))))))))))
abbrev rmL_tool : Room := { frames := 10, cells := 54, slots := 54, locals := 183 }
theorem dL_tool_0 : decode cL_tool 0 = .ok (.aload_n 0, 1) := by decide +kernel
theorem dL_tool_1 : decode cL_tool 1 = .ok (.iload_n 1, 1) := by decide +kernel
theorem dL_tool_2 : decode cL_tool 2 = .ok (.invokevirtual 122, 3) := by decide +kernel
theorem dL_tool_5 : decode cL_tool 5 = .ok (.istore_n 3, 1) := by decide +kernel
theorem dL_tool_6 : decode cL_tool 6 = .ok (.aload_n 0, 1) := by decide +kernel
theorem dL_tool_7 : decode cL_tool 7 = .ok (.iload_n 1, 1) := by decide +kernel
theorem dL_tool_8 : decode cL_tool 8 = .ok (.invokevirtual 125, 3) := by decide +kernel
theorem dL_tool_11 : decode cL_tool 11 = .ok (.istore 4, 2) := by decide +kernel
theorem dL_tool_13 : decode cL_tool 13 = .ok (.iload_n 3, 1) := by decide +kernel
theorem dL_tool_14 : decode cL_tool 14 = .ok (.iconst 3, 1) := by decide +kernel
theorem dL_tool_15 : decode cL_tool 15 = .ok (.if_icmp .ne 8, 3) := by decide +kernel
theorem dL_tool_18 : decode cL_tool 18 = .ok (.bipush 50, 2) := by decide +kernel
theorem dL_tool_20 : decode cL_tool 20 = .ok (.goto 5, 3) := by decide +kernel
theorem dL_tool_23 : decode cL_tool 23 = .ok (.bipush 100, 2) := by decide +kernel
theorem dL_tool_25 : decode cL_tool 25 = .ok (.istore 5, 2) := by decide +kernel
theorem dL_tool_27 : decode cL_tool 27 = .ok (.iload_n 2, 1) := by decide +kernel
theorem dL_tool_28 : decode cL_tool 28 = .ok (.iconst 3, 1) := by decide +kernel
theorem dL_tool_29 : decode cL_tool 29 = .ok (.invokestatic 250, 3) := by decide +kernel
theorem dL_tool_32 : decode cL_tool 32 = .ok (.istore 6, 2) := by decide +kernel
theorem dL_tool_34 : decode cL_tool 34 = .ok (.iload_n 2, 1) := by decide +kernel
theorem dL_tool_35 : decode cL_tool 35 = .ok (.iconst 3, 1) := by decide +kernel
theorem dL_tool_36 : decode cL_tool 36 = .ok (.ishr, 1) := by decide +kernel
theorem dL_tool_37 : decode cL_tool 37 = .ok (.iconst 3, 1) := by decide +kernel
theorem dL_tool_38 : decode cL_tool 38 = .ok (.invokestatic 250, 3) := by decide +kernel
theorem dL_tool_41 : decode cL_tool 41 = .ok (.ifCond .ne 15, 3) := by decide +kernel
theorem dL_tool_44 : decode cL_tool 44 = .ok (.iload_n 2, 1) := by decide +kernel
theorem dL_tool_45 : decode cL_tool 45 = .ok (.iconst 5, 1) := by decide +kernel
theorem dL_tool_46 : decode cL_tool 46 = .ok (.ishr, 1) := by decide +kernel
theorem dL_tool_47 : decode cL_tool 47 = .ok (.sipush 15001, 3) := by decide +kernel
theorem dL_tool_50 : decode cL_tool 50 = .ok (.invokestatic 250, 3) := by decide +kernel
theorem dL_tool_53 : decode cL_tool 53 = .ok (.goto 12, 3) := by decide +kernel
theorem dL_tool_56 : decode cL_tool 56 = .ok (.iload_n 2, 1) := by decide +kernel
theorem dL_tool_57 : decode cL_tool 57 = .ok (.iconst 5, 1) := by decide +kernel
theorem dL_tool_58 : decode cL_tool 58 = .ok (.ishr, 1) := by decide +kernel
theorem dL_tool_59 : decode cL_tool 59 = .ok (.sipush 2600, 3) := by decide +kernel
theorem dL_tool_62 : decode cL_tool 62 = .ok (.invokestatic 250, 3) := by decide +kernel
theorem dL_tool_65 : decode cL_tool 65 = .ok (.istore 7, 2) := by decide +kernel
theorem dL_tool_67 : decode cL_tool 67 = .ok (.aload_n 0, 1) := by decide +kernel
theorem dL_tool_68 : decode cL_tool 68 = .ok (.iload_n 1, 1) := by decide +kernel
theorem dL_tool_69 : decode cL_tool 69 = .ok (.iload 6, 2) := by decide +kernel
theorem dL_tool_71 : decode cL_tool 71 = .ok (.iload 7, 2) := by decide +kernel
theorem dL_tool_73 : decode cL_tool 73 = .ok (.invokestatic 242, 3) := by decide +kernel
theorem dL_tool_76 : decode cL_tool 76 = .ok (.istore 8, 2) := by decide +kernel
theorem dL_tool_78 : decode cL_tool 78 = .ok (.iload_n 3, 1) := by decide +kernel
theorem dL_tool_79 : decode cL_tool 79 = .ok (.ifCond .lt 119, 3) := by decide +kernel
theorem dL_tool_82 : decode cL_tool 82 = .ok (.iload_n 3, 1) := by decide +kernel
theorem dL_tool_83 : decode cL_tool 83 = .ok (.iconst 5, 1) := by decide +kernel
theorem dL_tool_84 : decode cL_tool 84 = .ok (.if_icmp .ge 114, 3) := by decide +kernel
theorem dL_tool_87 : decode cL_tool 87 = .ok (.iload 4, 2) := by decide +kernel
theorem dL_tool_89 : decode cL_tool 89 = .ok (.iload_n 3, 1) := by decide +kernel
theorem dL_tool_90 : decode cL_tool 90 = .ok (.ifCond .ne 8, 3) := by decide +kernel
theorem dL_tool_93 : decode cL_tool 93 = .ok (.bipush 10, 2) := by decide +kernel
theorem dL_tool_95 : decode cL_tool 95 = .ok (.goto 22, 3) := by decide +kernel
theorem dL_tool_98 : decode cL_tool 98 = .ok (.iload_n 3, 1) := by decide +kernel
theorem dL_tool_99 : decode cL_tool 99 = .ok (.iconst 1, 1) := by decide +kernel
theorem dL_tool_100 : decode cL_tool 100 = .ok (.if_icmp .ne 7, 3) := by decide +kernel
theorem dL_tool_103 : decode cL_tool 103 = .ok (.iconst 5, 1) := by decide +kernel
theorem dL_tool_104 : decode cL_tool 104 = .ok (.goto 13, 3) := by decide +kernel
theorem dL_tool_107 : decode cL_tool 107 = .ok (.iload_n 3, 1) := by decide +kernel
theorem dL_tool_108 : decode cL_tool 108 = .ok (.iconst 2, 1) := by decide +kernel
theorem dL_tool_109 : decode cL_tool 109 = .ok (.if_icmp .ne 7, 3) := by decide +kernel
theorem dL_tool_112 : decode cL_tool 112 = .ok (.iconst 2, 1) := by decide +kernel
theorem dL_tool_113 : decode cL_tool 113 = .ok (.goto 4, 3) := by decide +kernel
theorem dL_tool_116 : decode cL_tool 116 = .ok (.iconst 1, 1) := by decide +kernel
theorem dL_tool_117 : decode cL_tool 117 = .ok (.if_icmp .ne 81, 3) := by decide +kernel
theorem dL_tool_120 : decode cL_tool 120 = .ok (.aload_n 0, 1) := by decide +kernel
theorem dL_tool_121 : decode cL_tool 121 = .ok (.iload_n 1, 1) := by decide +kernel
theorem dL_tool_122 : decode cL_tool 122 = .ok (.iload 6, 2) := by decide +kernel
theorem dL_tool_124 : decode cL_tool 124 = .ok (.iload 7, 2) := by decide +kernel
theorem dL_tool_126 : decode cL_tool 126 = .ok (.invokestatic 253, 3) := by decide +kernel
theorem dL_tool_129 : decode cL_tool 129 = .ok (.iload 8, 2) := by decide +kernel
theorem dL_tool_131 : decode cL_tool 131 = .ok (.if_icmp .ne 67, 3) := by decide +kernel
theorem dL_tool_134 : decode cL_tool 134 = .ok (.aload_n 0, 1) := by decide +kernel
theorem dL_tool_135 : decode cL_tool 135 = .ok (.iload_n 1, 1) := by decide +kernel
theorem dL_tool_136 : decode cL_tool 136 = .ok (.invokevirtual 128, 3) := by decide +kernel
theorem dL_tool_139 : decode cL_tool 139 = .ok (.ifCond .lt 59, 3) := by decide +kernel
theorem dL_tool_142 : decode cL_tool 142 = .ok (.aload_n 0, 1) := by decide +kernel
theorem dL_tool_143 : decode cL_tool 143 = .ok (.iload_n 1, 1) := by decide +kernel
theorem dL_tool_144 : decode cL_tool 144 = .ok (.invokevirtual 131, 3) := by decide +kernel
theorem dL_tool_147 : decode cL_tool 147 = .ok (.ifCond .lt 51, 3) := by decide +kernel
theorem dL_tool_150 : decode cL_tool 150 = .ok (.aload_n 0, 1) := by decide +kernel
theorem dL_tool_151 : decode cL_tool 151 = .ok (.iload_n 1, 1) := by decide +kernel
theorem dL_tool_152 : decode cL_tool 152 = .ok (.invokevirtual 131, 3) := by decide +kernel
theorem dL_tool_155 : decode cL_tool 155 = .ok (.bipush 40, 2) := by decide +kernel
theorem dL_tool_157 : decode cL_tool 157 = .ok (.if_icmp .gt 41, 3) := by decide +kernel
theorem dL_tool_160 : decode cL_tool 160 = .ok (.aload_n 0, 1) := by decide +kernel
theorem dL_tool_161 : decode cL_tool 161 = .ok (.iload_n 1, 1) := by decide +kernel
theorem dL_tool_162 : decode cL_tool 162 = .ok (.invokevirtual 137, 3) := by decide +kernel
theorem dL_tool_165 : decode cL_tool 165 = .ok (.ifCond .lt 33, 3) := by decide +kernel
theorem dL_tool_168 : decode cL_tool 168 = .ok (.aload_n 0, 1) := by decide +kernel
theorem dL_tool_169 : decode cL_tool 169 = .ok (.iload_n 1, 1) := by decide +kernel
theorem dL_tool_170 : decode cL_tool 170 = .ok (.invokevirtual 137, 3) := by decide +kernel
theorem dL_tool_173 : decode cL_tool 173 = .ok (.bipush 30, 2) := by decide +kernel
theorem dL_tool_175 : decode cL_tool 175 = .ok (.if_icmp .gt 23, 3) := by decide +kernel
theorem dL_tool_178 : decode cL_tool 178 = .ok (.aload_n 0, 1) := by decide +kernel
theorem dL_tool_179 : decode cL_tool 179 = .ok (.iload_n 1, 1) := by decide +kernel
theorem dL_tool_180 : decode cL_tool 180 = .ok (.invokevirtual 137, 3) := by decide +kernel
theorem dL_tool_183 : decode cL_tool 183 = .ok (.ifCond .gt 11, 3) := by decide +kernel
theorem dL_tool_186 : decode cL_tool 186 = .ok (.aload_n 0, 1) := by decide +kernel
theorem dL_tool_187 : decode cL_tool 187 = .ok (.iload_n 1, 1) := by decide +kernel
theorem dL_tool_188 : decode cL_tool 188 = .ok (.invokevirtual 61, 3) := by decide +kernel
theorem dL_tool_191 : decode cL_tool 191 = .ok (.ifCond .eq 7, 3) := by decide +kernel
theorem dL_tool_194 : decode cL_tool 194 = .ok (.iconst 1, 1) := by decide +kernel
theorem dL_tool_195 : decode cL_tool 195 = .ok (.goto 4, 3) := by decide +kernel
theorem dL_tool_199 : decode cL_tool 199 = .ok (.istore 9, 2) := by decide +kernel
theorem dL_tool_201 : decode cL_tool 201 = .ok (.iload 8, 2) := by decide +kernel
theorem dL_tool_203 : decode cL_tool 203 = .ok (.ldc 73, 2) := by decide +kernel
theorem dL_tool_205 : decode cL_tool 205 = .ok (.if_icmp .ne 56, 3) := by decide +kernel
theorem dL_tool_208 : decode cL_tool 208 = .ok (.iload 9, 2) := by decide +kernel
theorem dL_tool_210 : decode cL_tool 210 = .ok (.ifCond .eq 49, 3) := by decide +kernel
theorem dL_tool_213 : decode cL_tool 213 = .ok (.aload_n 0, 1) := by decide +kernel
theorem dL_tool_214 : decode cL_tool 214 = .ok (.iload_n 1, 1) := by decide +kernel
theorem dL_tool_215 : decode cL_tool 215 = .ok (.iload 6, 2) := by decide +kernel
theorem dL_tool_217 : decode cL_tool 217 = .ok (.iload 7, 2) := by decide +kernel
theorem dL_tool_219 : decode cL_tool 219 = .ok (.invokestatic 255, 3) := by decide +kernel
theorem dL_tool_222 : decode cL_tool 222 = .ok (.ldc 73, 2) := by decide +kernel
theorem dL_tool_224 : decode cL_tool 224 = .ok (.if_icmp .ne 35, 3) := by decide +kernel
theorem dL_tool_227 : decode cL_tool 227 = .ok (.aload_n 0, 1) := by decide +kernel
theorem dL_tool_228 : decode cL_tool 228 = .ok (.iload_n 1, 1) := by decide +kernel
theorem dL_tool_229 : decode cL_tool 229 = .ok (.iload 6, 2) := by decide +kernel
theorem dL_tool_231 : decode cL_tool 231 = .ok (.iload 7, 2) := by decide +kernel
theorem dL_tool_233 : decode cL_tool 233 = .ok (.invokestatic 257, 3) := by decide +kernel
theorem dL_tool_236 : decode cL_tool 236 = .ok (.ldc 73, 2) := by decide +kernel
theorem dL_tool_238 : decode cL_tool 238 = .ok (.if_icmp .ne 21, 3) := by decide +kernel
theorem dL_tool_241 : decode cL_tool 241 = .ok (.aload_n 0, 1) := by decide +kernel
theorem dL_tool_242 : decode cL_tool 242 = .ok (.iload_n 1, 1) := by decide +kernel
theorem dL_tool_243 : decode cL_tool 243 = .ok (.iload 6, 2) := by decide +kernel
theorem dL_tool_245 : decode cL_tool 245 = .ok (.iload 7, 2) := by decide +kernel
theorem dL_tool_247 : decode cL_tool 247 = .ok (.invokestatic 259, 3) := by decide +kernel
theorem dL_tool_250 : decode cL_tool 250 = .ok (.ldc 73, 2) := by decide +kernel
theorem dL_tool_252 : decode cL_tool 252 = .ok (.if_icmp .ne 7, 3) := by decide +kernel
theorem dL_tool_255 : decode cL_tool 255 = .ok (.iconst 1, 1) := by decide +kernel
theorem dL_tool_256 : decode cL_tool 256 = .ok (.goto 4, 3) := by decide +kernel
theorem dL_tool_260 : decode cL_tool 260 = .ok (.ireturn, 1) := by decide +kernel
theorem dL_tool_261 : decode cL_tool 261 = .ok (.iload 8, 2) := by decide +kernel
theorem dL_tool_263 : decode cL_tool 263 = .ok (.aload_n 0, 1) := by decide +kernel
theorem dL_tool_264 : decode cL_tool 264 = .ok (.iload_n 1, 1) := by decide +kernel
theorem dL_tool_265 : decode cL_tool 265 = .ok (.invokevirtual 134, 3) := by decide +kernel
theorem dL_tool_268 : decode cL_tool 268 = .ok (.isub, 1) := by decide +kernel
theorem dL_tool_269 : decode cL_tool 269 = .ok (.iload 7, 2) := by decide +kernel
theorem dL_tool_271 : decode cL_tool 271 = .ok (.isub, 1) := by decide +kernel
theorem dL_tool_272 : decode cL_tool 272 = .ok (.istore 10, 2) := by decide +kernel
theorem dL_tool_274 : decode cL_tool 274 = .ok (.iload 9, 2) := by decide +kernel
theorem dL_tool_276 : decode cL_tool 276 = .ok (.ifCond .eq 92, 3) := by decide +kernel
theorem dL_tool_279 : decode cL_tool 279 = .ok (.iload 8, 2) := by decide +kernel
theorem dL_tool_281 : decode cL_tool 281 = .ok (.ifCond .lt 87, 3) := by decide +kernel
theorem dL_tool_284 : decode cL_tool 284 = .ok (.iload 8, 2) := by decide +kernel
theorem dL_tool_286 : decode cL_tool 286 = .ok (.aload_n 0, 1) := by decide +kernel
theorem dL_tool_287 : decode cL_tool 287 = .ok (.iload_n 1, 1) := by decide +kernel
theorem dL_tool_288 : decode cL_tool 288 = .ok (.invokestatic 261, 3) := by decide +kernel
theorem dL_tool_291 : decode cL_tool 291 = .ok (.if_icmp .gt 77, 3) := by decide +kernel
theorem dL_tool_294 : decode cL_tool 294 = .ok (.iload 8, 2) := by decide +kernel
theorem dL_tool_296 : decode cL_tool 296 = .ok (.iload 4, 2) := by decide +kernel
theorem dL_tool_298 : decode cL_tool 298 = .ok (.irem, 1) := by decide +kernel
theorem dL_tool_299 : decode cL_tool 299 = .ok (.ifCond .ne 69, 3) := by decide +kernel
theorem dL_tool_302 : decode cL_tool 302 = .ok (.aload_n 0, 1) := by decide +kernel
theorem dL_tool_303 : decode cL_tool 303 = .ok (.iload_n 1, 1) := by decide +kernel
theorem dL_tool_304 : decode cL_tool 304 = .ok (.iload 6, 2) := by decide +kernel
theorem dL_tool_306 : decode cL_tool 306 = .ok (.iload 7, 2) := by decide +kernel
theorem dL_tool_308 : decode cL_tool 308 = .ok (.invokevirtual 146, 3) := by decide +kernel
theorem dL_tool_311 : decode cL_tool 311 = .ok (.iload 8, 2) := by decide +kernel
theorem dL_tool_313 : decode cL_tool 313 = .ok (.iload 5, 2) := by decide +kernel
theorem dL_tool_315 : decode cL_tool 315 = .ok (.idiv, 1) := by decide +kernel
theorem dL_tool_316 : decode cL_tool 316 = .ok (.if_icmp .ne 52, 3) := by decide +kernel
theorem dL_tool_319 : decode cL_tool 319 = .ok (.aload_n 0, 1) := by decide +kernel
theorem dL_tool_320 : decode cL_tool 320 = .ok (.iload_n 1, 1) := by decide +kernel
theorem dL_tool_321 : decode cL_tool 321 = .ok (.iload 6, 2) := by decide +kernel
theorem dL_tool_323 : decode cL_tool 323 = .ok (.iload 7, 2) := by decide +kernel
theorem dL_tool_325 : decode cL_tool 325 = .ok (.invokevirtual 149, 3) := by decide +kernel
theorem dL_tool_328 : decode cL_tool 328 = .ok (.iload 8, 2) := by decide +kernel
theorem dL_tool_330 : decode cL_tool 330 = .ok (.iload 5, 2) := by decide +kernel
theorem dL_tool_332 : decode cL_tool 332 = .ok (.irem, 1) := by decide +kernel
theorem dL_tool_333 : decode cL_tool 333 = .ok (.iload 4, 2) := by decide +kernel
theorem dL_tool_335 : decode cL_tool 335 = .ok (.idiv, 1) := by decide +kernel
theorem dL_tool_336 : decode cL_tool 336 = .ok (.if_icmp .ne 32, 3) := by decide +kernel
theorem dL_tool_339 : decode cL_tool 339 = .ok (.aload_n 0, 1) := by decide +kernel
theorem dL_tool_340 : decode cL_tool 340 = .ok (.iload_n 1, 1) := by decide +kernel
theorem dL_tool_341 : decode cL_tool 341 = .ok (.iload 6, 2) := by decide +kernel
theorem dL_tool_343 : decode cL_tool 343 = .ok (.iload 7, 2) := by decide +kernel
theorem dL_tool_345 : decode cL_tool 345 = .ok (.invokevirtual 152, 3) := by decide +kernel
theorem dL_tool_348 : decode cL_tool 348 = .ok (.iload 10, 2) := by decide +kernel
theorem dL_tool_350 : decode cL_tool 350 = .ok (.ifCond .ge 9, 3) := by decide +kernel
theorem dL_tool_353 : decode cL_tool 353 = .ok (.iload 10, 2) := by decide +kernel
theorem dL_tool_355 : decode cL_tool 355 = .ok (.ineg, 1) := by decide +kernel
theorem dL_tool_356 : decode cL_tool 356 = .ok (.goto 5, 3) := by decide +kernel
theorem dL_tool_359 : decode cL_tool 359 = .ok (.iload 10, 2) := by decide +kernel
theorem dL_tool_361 : decode cL_tool 361 = .ok (.if_icmp .ne 7, 3) := by decide +kernel
theorem dL_tool_364 : decode cL_tool 364 = .ok (.iconst 1, 1) := by decide +kernel
theorem dL_tool_365 : decode cL_tool 365 = .ok (.goto 4, 3) := by decide +kernel
theorem dL_tool_369 : decode cL_tool 369 = .ok (.istore 9, 2) := by decide +kernel
theorem dL_tool_371 : decode cL_tool 371 = .ok (.iload 7, 2) := by decide +kernel
theorem dL_tool_373 : decode cL_tool 373 = .ok (.iconst 1, 1) := by decide +kernel
theorem dL_tool_374 : decode cL_tool 374 = .ok (.iadd, 1) := by decide +kernel
theorem dL_tool_375 : decode cL_tool 375 = .ok (.iload_n 2, 1) := by decide +kernel
theorem dL_tool_376 : decode cL_tool 376 = .ok (.bipush 7, 2) := by decide +kernel
theorem dL_tool_378 : decode cL_tool 378 = .ok (.ishr, 1) := by decide +kernel
theorem dL_tool_379 : decode cL_tool 379 = .ok (.bipush 40, 2) := by decide +kernel
theorem dL_tool_381 : decode cL_tool 381 = .ok (.invokestatic 250, 3) := by decide +kernel
theorem dL_tool_384 : decode cL_tool 384 = .ok (.iadd, 1) := by decide +kernel
theorem dL_tool_385 : decode cL_tool 385 = .ok (.istore 11, 2) := by decide +kernel
theorem dL_tool_387 : decode cL_tool 387 = .ok (.iload 11, 2) := by decide +kernel
theorem dL_tool_389 : decode cL_tool 389 = .ok (.sipush 15000, 3) := by decide +kernel
theorem dL_tool_392 : decode cL_tool 392 = .ok (.if_icmp .le 8, 3) := by decide +kernel
theorem dL_tool_395 : decode cL_tool 395 = .ok (.ldc 73, 2) := by decide +kernel
theorem dL_tool_397 : decode cL_tool 397 = .ok (.goto 12, 3) := by decide +kernel
theorem dL_tool_400 : decode cL_tool 400 = .ok (.aload_n 0, 1) := by decide +kernel
theorem dL_tool_401 : decode cL_tool 401 = .ok (.iload_n 1, 1) := by decide +kernel
theorem dL_tool_402 : decode cL_tool 402 = .ok (.iload 6, 2) := by decide +kernel
theorem dL_tool_404 : decode cL_tool 404 = .ok (.iload 11, 2) := by decide +kernel
theorem dL_tool_406 : decode cL_tool 406 = .ok (.invokestatic 242, 3) := by decide +kernel
theorem dL_tool_409 : decode cL_tool 409 = .ok (.istore 12, 2) := by decide +kernel
theorem dL_tool_411 : decode cL_tool 411 = .ok (.iload 9, 2) := by decide +kernel
theorem dL_tool_413 : decode cL_tool 413 = .ok (.ifCond .eq 21, 3) := by decide +kernel
theorem dL_tool_416 : decode cL_tool 416 = .ok (.iload 12, 2) := by decide +kernel
theorem dL_tool_418 : decode cL_tool 418 = .ok (.ldc 73, 2) := by decide +kernel
theorem dL_tool_420 : decode cL_tool 420 = .ok (.if_icmp .eq 10, 3) := by decide +kernel
theorem dL_tool_423 : decode cL_tool 423 = .ok (.iload 12, 2) := by decide +kernel
theorem dL_tool_425 : decode cL_tool 425 = .ok (.iload 8, 2) := by decide +kernel
theorem dL_tool_427 : decode cL_tool 427 = .ok (.if_icmp .lt 7, 3) := by decide +kernel
theorem dL_tool_430 : decode cL_tool 430 = .ok (.iconst 1, 1) := by decide +kernel
theorem dL_tool_431 : decode cL_tool 431 = .ok (.goto 4, 3) := by decide +kernel
theorem dL_tool_435 : decode cL_tool 435 = .ok (.ireturn, 1) := by decide +kernel
set_option maxHeartbeats 8000000 in
set_option maxRecDepth 100000 in
theorem mL_tool (l : Launch) (hst : l.stackTraces = false) (G : gG) (da : Nat → Nat) (v : vSt) (x : gX) (o1 : Nat) (hk_o1 : kd o1 = 10) (p1 : Int32) (p2 : Int32) (ho : oL_tool o1 p1 p2 v) : NI l yL_tool cL_tool 13 .boolean rmL_tool [.ref (ga G o1), .int p1, .int p2] G da v x 54 54 1 v := by
  refine gofNI (by decide) rfl (Nat.le_of_ble_eq_true rfl) (fun p e s m args below meth c ls Q X hN hH hl E => ?_)
  have hx := X.1
  have hb := X.2.1
  have hown := X.2.2.2.1
  have hts := X.2.2.2.2.1
  have hS : va_S (gA G) s.heap s.heap [] := va_S.rf
  unfold oL_tool at ho
  have hl : lv_has ls 13 [(0, .ref (ga G o1)), (1, .int p1), (2, .int p2)] := hl
  refine lv_aload_n hx hb dL_tool_0 rfl (lv_at hl 0 rfl) ?_
  refine lv_iload_n hx hb dL_tool_1 rfl (lv_at hl 1 rfl) ?_
  have hq1 := ho.1
  have ho := ho.2
  have hq2 := ho.1
  have ho := ho.2
  refine kZ_X10_kindOf X hS hH hk_o1 hq1 hq2 t_ml_VernierDrawersLaw_122 hl.1 (Nat.le_of_ble_eq_true rfl) ⟨Nat.le_of_ble_eq_true rfl, Nat.le_of_ble_eq_true rfl⟩ ⟨Nat.zero_le _, Nat.zero_le _⟩ dL_tool_2 ?_
  refine lv_istore_n (lv' := [(3, .int ((fX10_kindOf o1 p1 v).2)), (0, .ref (ga G o1)), (1, .int p1), (2, .int p2)]) hx hb dL_tool_5 rfl hl (by decide) rfl (fun ls hl => ?_)
  refine lv_aload_n hx hb dL_tool_6 rfl (lv_at hl 1 rfl) ?_
  refine lv_iload_n hx hb dL_tool_7 rfl (lv_at hl 2 rfl) ?_
  have hq3 := ho.1
  have ho := ho.2
  have hq4 := ho.1
  have ho := ho.2
  refine kZ_X10_stepOf X hS hH hk_o1 hq3 hq4 t_ml_VernierDrawersLaw_125 hl.1 (Nat.le_of_ble_eq_true rfl) ⟨Nat.le_of_ble_eq_true rfl, Nat.le_of_ble_eq_true rfl⟩ ⟨Nat.zero_le _, Nat.zero_le _⟩ dL_tool_8 ?_
  refine lv_istore (lv' := [(4, .int ((fX10_stepOf o1 p1 v).2)), (3, .int ((fX10_kindOf o1 p1 v).2)), (0, .ref (ga G o1)), (1, .int p1), (2, .int p2)]) hx hb dL_tool_11 hl (by decide) rfl (fun ls hl => ?_)
  refine lv_iload_n hx hb dL_tool_13 rfl (lv_at hl 1 rfl) ?_
  refine lv_iconst (v := 3) hx hb dL_tool_14 (by decide) ?_
  have K6 : ∀ (y5 : Int32) (ls : Array Slot), y5 = (if (((fX10_kindOf o1 p1 v).2) : Int32) = 3 then 50 else 100 : Int32) → lv_has ls 13 [(4, .int ((fX10_stepOf o1 p1 v).2)), (3, .int ((fX10_kindOf o1 p1 v).2)), (0, .ref (ga G o1)), (1, .int p1), (2, .int p2)] → W p l e rmL_tool s m args below meth c s.heap [] 0 0 Q (F0 m 25 ls [.int y5]) := by
    intro y5 ls ey5 hl
    have ho := ho y5 ey5
    refine lv_istore (lv' := [(5, .int y5), (4, .int ((fX10_stepOf o1 p1 v).2)), (3, .int ((fX10_kindOf o1 p1 v).2)), (0, .ref (ga G o1)), (1, .int p1), (2, .int p2)]) hx hb dL_tool_25 hl (by decide) rfl (fun ls hl => ?_)
    refine lv_iload_n hx hb dL_tool_27 rfl (lv_at hl 5 rfl) ?_
    refine lv_iconst (v := 3) hx hb dL_tool_28 (by decide) ?_
    have hq7 := ho.1
    have ho := ho.2
    refine k_L_low X hS hq7 t_ml_VernierDrawersLaw_250 hl.1 (Nat.le_of_ble_eq_true rfl) ⟨Nat.le_of_ble_eq_true rfl, Nat.le_of_ble_eq_true rfl⟩ ⟨Nat.zero_le _, Nat.zero_le _⟩ dL_tool_29 ?_
    refine lv_istore (lv' := [(6, .int (fL_low p2 3)), (5, .int y5), (4, .int ((fX10_stepOf o1 p1 v).2)), (3, .int ((fX10_kindOf o1 p1 v).2)), (0, .ref (ga G o1)), (1, .int p1), (2, .int p2)]) hx hb dL_tool_32 hl (by decide) rfl (fun ls hl => ?_)
    refine lv_iload_n hx hb dL_tool_34 rfl (lv_at hl 6 rfl) ?_
    refine lv_iconst (v := 3) hx hb dL_tool_35 (by decide) ?_
    refine lv_ishr hx hb dL_tool_36 ?_
    refine lv_iconst (v := 3) hx hb dL_tool_37 (by decide) ?_
    have hq8 := ho.1
    have ho := ho.2
    refine k_L_low X hS hq8 t_ml_VernierDrawersLaw_250 hl.1 (Nat.le_of_ble_eq_true rfl) ⟨Nat.le_of_ble_eq_true rfl, Nat.le_of_ble_eq_true rfl⟩ ⟨Nat.zero_le _, Nat.zero_le _⟩ dL_tool_38 ?_
    have K10 : ∀ (y9 : Int32) (ls : Array Slot), y9 = (if ((fL_low (p2 >>> ((3 : Int32) &&& 31)) 3) : Int32) = 0 then (fL_low (p2 >>> ((5 : Int32) &&& 31)) 15001) else (fL_low (p2 >>> ((5 : Int32) &&& 31)) 2600) : Int32) → lv_has ls 13 [(6, .int (fL_low p2 3)), (5, .int y5), (4, .int ((fX10_stepOf o1 p1 v).2)), (3, .int ((fX10_kindOf o1 p1 v).2)), (0, .ref (ga G o1)), (1, .int p1), (2, .int p2)] → W p l e rmL_tool s m args below meth c s.heap [] 0 0 Q (F0 m 65 ls [.int y9]) := by
      intro y9 ls ey9 hl
      have ho := ho.2 y9 ey9
      refine lv_istore (lv' := [(7, .int y9), (6, .int (fL_low p2 3)), (5, .int y5), (4, .int ((fX10_stepOf o1 p1 v).2)), (3, .int ((fX10_kindOf o1 p1 v).2)), (0, .ref (ga G o1)), (1, .int p1), (2, .int p2)]) hx hb dL_tool_65 hl (by decide) rfl (fun ls hl => ?_)
      refine lv_aload_n hx hb dL_tool_67 rfl (lv_at hl 5 rfl) ?_
      refine lv_iload_n hx hb dL_tool_68 rfl (lv_at hl 6 rfl) ?_
      refine lv_iload hx hb dL_tool_69 (lv_at hl 1 rfl) ?_
      refine lv_iload hx hb dL_tool_71 (lv_at hl 0 rfl) ?_
      have hq11 := ho.1
      have ho := ho.2
      refine k_L_readingFor hst X hS hN hH hk_o1 hq11 t_ml_VernierDrawersLaw_242 hl.1 (Nat.le_of_ble_eq_true rfl) ⟨Nat.le_of_ble_eq_true rfl, Nat.le_of_ble_eq_true rfl⟩ ⟨(Nat.le_of_ble_eq_true rfl), (Nat.le_of_ble_eq_true rfl)⟩ dL_tool_73 (fun da H locs hH hS => ?_)
      refine W.widen (k := 6) (n := 6) (Nat.le_refl _) (Nat.le_refl _) ?_
      refine lv_istore (lv' := [(8, .int (fL_readingFor o1 p1 (fL_low p2 3) y9 v)), (7, .int y9), (6, .int (fL_low p2 3)), (5, .int y5), (4, .int ((fX10_stepOf o1 p1 v).2)), (3, .int ((fX10_kindOf o1 p1 v).2)), (0, .ref (ga G o1)), (1, .int p1), (2, .int p2)]) hx hb dL_tool_76 hl (by decide) rfl (fun ls hl => ?_)
      refine lv_iload_n hx hb dL_tool_78 rfl (lv_at hl 5 rfl) ?_
      refine lv_if_lt (tgt := 198) hx hb dL_tool_79 (by decide) (fun c12 => ?_) (fun c12 => ?_)
      · exact absurd c12 ho.1
      have ho := ho.2
      refine lv_iload_n hx hb dL_tool_82 rfl (lv_at hl 5 rfl) ?_
      refine lv_iconst (v := 5) hx hb dL_tool_83 (by decide) ?_
      refine lv_icmp_ge (tgt := 198) hx hb dL_tool_84 (by decide) (fun c13 => ?_) (fun c13 => ?_)
      · exact absurd c13 ho.1
      have ho := ho.2
      refine lv_iload hx hb dL_tool_87 (lv_at hl 4 rfl) ?_
      refine lv_iload_n hx hb dL_tool_89 rfl (lv_at hl 5 rfl) ?_
      have K15 : ∀ (y14 : Int32) (ls : Array Slot), y14 = (if (((fX10_kindOf o1 p1 v).2) : Int32) = 0 then 10 else (if (((fX10_kindOf o1 p1 v).2) : Int32) = 1 then 5 else (if (((fX10_kindOf o1 p1 v).2) : Int32) = 2 then 2 else 1)) : Int32) → lv_has ls 13 [(8, .int (fL_readingFor o1 p1 (fL_low p2 3) y9 v)), (7, .int y9), (6, .int (fL_low p2 3)), (5, .int y5), (4, .int ((fX10_stepOf o1 p1 v).2)), (0, .ref (ga G o1)), (1, .int p1), (2, .int p2)] → W p l e rmL_tool s m args below meth c H locs 6 6 Q (F0 m 117 ls [.int y14, .int ((fX10_stepOf o1 p1 v).2)]) := by
        intro y14 ls ey14 hl
        have ho := ho y14 ey14
        refine lv_icmp_ne (tgt := 198) hx hb dL_tool_117 (by decide) (fun c16 => ?_) (fun c16 => ?_)
        · exact absurd ho.1 c16
        have ho := ho.2
        refine lv_aload_n hx hb dL_tool_120 rfl (lv_at hl 5 rfl) ?_
        refine lv_iload_n hx hb dL_tool_121 rfl (lv_at hl 6 rfl) ?_
        refine lv_iload hx hb dL_tool_122 (lv_at hl 2 rfl) ?_
        refine lv_iload hx hb dL_tool_124 (lv_at hl 1 rfl) ?_
        have hq17 := ho.1
        have ho := ho.2
        refine k_L_readingByLooking hst X hS hN hH hk_o1 hq17 t_ml_VernierDrawersLaw_253 hl.1 (Nat.le_of_ble_eq_true rfl) ⟨Nat.le_of_ble_eq_true rfl, Nat.le_of_ble_eq_true rfl⟩ ⟨(Nat.le_of_ble_eq_true rfl), (Nat.le_of_ble_eq_true rfl)⟩ dL_tool_126 (fun da H locs hH hS => ?_)
        refine W.widen (k := 18) (n := 18) (Nat.le_refl _) (Nat.le_refl _) ?_
        refine lv_iload hx hb dL_tool_129 (lv_at hl 0 rfl) ?_
        refine lv_icmp_ne (tgt := 198) hx hb dL_tool_131 (by decide) (fun c18 => ?_) (fun c18 => ?_)
        · exact absurd ho.1 c18
        have ho := ho.2
        refine lv_aload_n hx hb dL_tool_134 rfl (lv_at hl 5 rfl) ?_
        refine lv_iload_n hx hb dL_tool_135 rfl (lv_at hl 6 rfl) ?_
        have hq19 := ho.1
        have ho := ho.2
        have hq20 := ho.1
        have ho := ho.2
        refine kZ_X10_usesOf X hS hH hk_o1 hq19 hq20 t_ml_VernierDrawersLaw_128 hl.1 (Nat.le_of_ble_eq_true rfl) ⟨Nat.le_of_ble_eq_true rfl, Nat.le_of_ble_eq_true rfl⟩ ⟨(Nat.le_of_ble_eq_true rfl), (Nat.le_of_ble_eq_true rfl)⟩ dL_tool_136 ?_
        refine lv_if_lt (tgt := 198) hx hb dL_tool_139 (by decide) (fun c21 => ?_) (fun c21 => ?_)
        · exact absurd c21 ho.1
        have ho := ho.2
        refine lv_aload_n hx hb dL_tool_142 rfl (lv_at hl 5 rfl) ?_
        refine lv_iload_n hx hb dL_tool_143 rfl (lv_at hl 6 rfl) ?_
        have hq22 := ho.1
        have ho := ho.2
        have hq23 := ho.1
        have ho := ho.2
        refine kZ_X10_wearOf X hS hH hk_o1 hq22 hq23 t_ml_VernierDrawersLaw_131 hl.1 (Nat.le_of_ble_eq_true rfl) ⟨Nat.le_of_ble_eq_true rfl, Nat.le_of_ble_eq_true rfl⟩ ⟨(Nat.le_of_ble_eq_true rfl), (Nat.le_of_ble_eq_true rfl)⟩ dL_tool_144 ?_
        refine lv_if_lt (tgt := 198) hx hb dL_tool_147 (by decide) (fun c24 => ?_) (fun c24 => ?_)
        · exact absurd c24 ho.1
        have ho := ho.2
        refine lv_aload_n hx hb dL_tool_150 rfl (lv_at hl 5 rfl) ?_
        refine lv_iload_n hx hb dL_tool_151 rfl (lv_at hl 6 rfl) ?_
        refine kZ_X10_wearOf X hS hH hk_o1 hq22 hq23 t_ml_VernierDrawersLaw_131 hl.1 (Nat.le_of_ble_eq_true rfl) ⟨Nat.le_of_ble_eq_true rfl, Nat.le_of_ble_eq_true rfl⟩ ⟨(Nat.le_of_ble_eq_true rfl), (Nat.le_of_ble_eq_true rfl)⟩ dL_tool_152 ?_
        refine lv_bipush (v := 40) hx hb dL_tool_155 (by decide) ?_
        refine lv_icmp_gt (tgt := 198) hx hb dL_tool_157 (by decide) (fun c25 => ?_) (fun c25 => ?_)
        · exact absurd c25 ho.1
        have ho := ho.2
        refine lv_aload_n hx hb dL_tool_160 rfl (lv_at hl 5 rfl) ?_
        refine lv_iload_n hx hb dL_tool_161 rfl (lv_at hl 6 rfl) ?_
        have hq26 := ho.1
        have ho := ho.2
        have hq27 := ho.1
        have ho := ho.2
        refine kZ_X10_usesLeft X hS hH hk_o1 hq26 hq27 t_ml_VernierDrawersLaw_137 hl.1 (Nat.le_of_ble_eq_true rfl) ⟨Nat.le_of_ble_eq_true rfl, Nat.le_of_ble_eq_true rfl⟩ ⟨(Nat.le_of_ble_eq_true rfl), (Nat.le_of_ble_eq_true rfl)⟩ dL_tool_162 ?_
        refine lv_if_lt (tgt := 198) hx hb dL_tool_165 (by decide) (fun c28 => ?_) (fun c28 => ?_)
        · exact absurd c28 ho.1
        have ho := ho.2
        refine lv_aload_n hx hb dL_tool_168 rfl (lv_at hl 5 rfl) ?_
        refine lv_iload_n hx hb dL_tool_169 rfl (lv_at hl 6 rfl) ?_
        refine kZ_X10_usesLeft X hS hH hk_o1 hq26 hq27 t_ml_VernierDrawersLaw_137 hl.1 (Nat.le_of_ble_eq_true rfl) ⟨Nat.le_of_ble_eq_true rfl, Nat.le_of_ble_eq_true rfl⟩ ⟨(Nat.le_of_ble_eq_true rfl), (Nat.le_of_ble_eq_true rfl)⟩ dL_tool_170 ?_
        refine lv_bipush (v := 30) hx hb dL_tool_173 (by decide) ?_
        refine lv_icmp_gt (tgt := 198) hx hb dL_tool_175 (by decide) (fun c29 => ?_) (fun c29 => ?_)
        · exact absurd c29 ho.1
        have ho := ho.2
        refine lv_aload_n hx hb dL_tool_178 rfl (lv_at hl 5 rfl) ?_
        refine lv_iload_n hx hb dL_tool_179 rfl (lv_at hl 6 rfl) ?_
        refine kZ_X10_usesLeft X hS hH hk_o1 hq26 hq27 t_ml_VernierDrawersLaw_137 hl.1 (Nat.le_of_ble_eq_true rfl) ⟨Nat.le_of_ble_eq_true rfl, Nat.le_of_ble_eq_true rfl⟩ ⟨(Nat.le_of_ble_eq_true rfl), (Nat.le_of_ble_eq_true rfl)⟩ dL_tool_180 ?_
        have K30 : ∀  (ls : Array Slot), lv_has ls 13 [(8, .int (fL_readingFor o1 p1 (fL_low p2 3) y9 v)), (7, .int y9), (6, .int (fL_low p2 3)), (5, .int y5), (4, .int ((fX10_stepOf o1 p1 v).2)), (0, .ref (ga G o1)), (1, .int p1), (2, .int p2)] → W p l e rmL_tool s m args below meth c H locs 18 18 Q (F0 m 194 ls []) := by
          intro  ls  hl
          have ho := ho.2
          refine lv_iconst (v := 1) hx hb dL_tool_194 (by decide) ?_
          refine lv_goto (tgt := 199) hx hb dL_tool_195 (by decide) ?_
          refine lv_istore (lv' := [(9, .int 1), (8, .int (fL_readingFor o1 p1 (fL_low p2 3) y9 v)), (7, .int y9), (6, .int (fL_low p2 3)), (5, .int y5), (4, .int ((fX10_stepOf o1 p1 v).2)), (0, .ref (ga G o1)), (1, .int p1), (2, .int p2)]) hx hb dL_tool_199 hl (by decide) rfl (fun ls hl => ?_)
          refine lv_iload hx hb dL_tool_201 (lv_at hl 1 rfl) ?_
          refine lv_ldc (v := (-100104)) hx hb hown (hts _ t_con_VernierDrawersLaw_73) dL_tool_203 ?_
          refine lv_icmp_ne (tgt := 261) hx hb dL_tool_205 (by decide) (fun c31 => ?_) (fun c31 => ?_)
          · have ho := ho.2 c31
            refine lv_iload hx hb dL_tool_261 (lv_at hl 1 rfl) ?_
            refine lv_aload_n hx hb dL_tool_263 rfl (lv_at hl 6 rfl) ?_
            refine lv_iload_n hx hb dL_tool_264 rfl (lv_at hl 7 rfl) ?_
            have hq32 := ho.1
            have ho := ho.2
            have hq33 := ho.1
            have ho := ho.2
            refine kZ_X10_knownError X hS hH hk_o1 hq32 hq33 t_ml_VernierDrawersLaw_134 hl.1 (Nat.le_of_ble_eq_true rfl) ⟨Nat.le_of_ble_eq_true rfl, Nat.le_of_ble_eq_true rfl⟩ ⟨(Nat.le_of_ble_eq_true rfl), (Nat.le_of_ble_eq_true rfl)⟩ dL_tool_265 ?_
            refine lv_isub hx hb dL_tool_268 ?_
            refine lv_iload hx hb dL_tool_269 (lv_at hl 2 rfl) ?_
            refine lv_isub hx hb dL_tool_271 ?_
            refine lv_istore (lv' := [(10, .int (((fL_readingFor o1 p1 (fL_low p2 3) y9 v) - ((fX10_knownError o1 p1 v).2)) - y9)), (9, .int 1), (8, .int (fL_readingFor o1 p1 (fL_low p2 3) y9 v)), (7, .int y9), (6, .int (fL_low p2 3)), (5, .int y5), (4, .int ((fX10_stepOf o1 p1 v).2)), (0, .ref (ga G o1)), (1, .int p1), (2, .int p2)]) hx hb dL_tool_272 hl (by decide) rfl (fun ls hl => ?_)
            refine lv_iload hx hb dL_tool_274 (lv_at hl 1 rfl) ?_
            refine lv_if_eq (tgt := 368) hx hb dL_tool_276 (by decide) (fun c34 => absurd c34 (by decide)) (fun c34 => ?_)
            refine lv_iload hx hb dL_tool_279 (lv_at hl 2 rfl) ?_
            refine lv_if_lt (tgt := 368) hx hb dL_tool_281 (by decide) (fun c35 => ?_) (fun c35 => ?_)
            · exact absurd c35 ho.1
            have ho := ho.2
            refine lv_iload hx hb dL_tool_284 (lv_at hl 2 rfl) ?_
            refine lv_aload_n hx hb dL_tool_286 rfl (lv_at hl 7 rfl) ?_
            refine lv_iload_n hx hb dL_tool_287 rfl (lv_at hl 8 rfl) ?_
            have hq36 := ho.1
            have ho := ho.2
            refine k_L_most hst X hS hN hH hk_o1 hq36 t_ml_VernierDrawersLaw_261 hl.1 (Nat.le_of_ble_eq_true rfl) ⟨Nat.le_of_ble_eq_true rfl, Nat.le_of_ble_eq_true rfl⟩ ⟨(Nat.le_of_ble_eq_true rfl), (Nat.le_of_ble_eq_true rfl)⟩ dL_tool_288 (fun da H locs hH hS => ?_)
            refine lv_icmp_gt (tgt := 368) hx hb dL_tool_291 (by decide) (fun c37 => ?_) (fun c37 => ?_)
            · exact absurd c37 ho.1
            have ho := ho.2
            refine lv_iload hx hb dL_tool_294 (lv_at hl 2 rfl) ?_
            refine lv_iload hx hb dL_tool_296 (lv_at hl 6 rfl) ?_
            have hq38 := ho.1
            have ho := ho.2
            refine lv_irem hx hb dL_tool_298 hq38 ?_
            refine lv_if_ne (tgt := 368) hx hb dL_tool_299 (by decide) (fun c39 => ?_) (fun c39 => ?_)
            · exact absurd ho.1 c39
            have ho := ho.2
            refine lv_aload_n hx hb dL_tool_302 rfl (lv_at hl 7 rfl) ?_
            refine lv_iload_n hx hb dL_tool_303 rfl (lv_at hl 8 rfl) ?_
            refine lv_iload hx hb dL_tool_304 (lv_at hl 4 rfl) ?_
            refine lv_iload hx hb dL_tool_306 (lv_at hl 3 rfl) ?_
            have hq40 := ho.1
            have ho := ho.2
            have hq41 := ho.1
            have ho := ho.2
            refine kZ_X10_markFor X hS hH hk_o1 hq40 hq41 t_ml_VernierDrawersLaw_146 hl.1 (Nat.le_of_ble_eq_true rfl) ⟨Nat.le_of_ble_eq_true rfl, Nat.le_of_ble_eq_true rfl⟩ ⟨(Nat.le_of_ble_eq_true rfl), (Nat.le_of_ble_eq_true rfl)⟩ dL_tool_308 ?_
            refine lv_iload hx hb dL_tool_311 (lv_at hl 2 rfl) ?_
            refine lv_iload hx hb dL_tool_313 (lv_at hl 5 rfl) ?_
            have hq42 := ho.1
            have ho := ho.2
            refine lv_idiv hx hb dL_tool_315 hq42 ?_
            refine lv_icmp_ne (tgt := 368) hx hb dL_tool_316 (by decide) (fun c43 => ?_) (fun c43 => ?_)
            · exact absurd ho.1 c43
            have ho := ho.2
            refine lv_aload_n hx hb dL_tool_319 rfl (lv_at hl 7 rfl) ?_
            refine lv_iload_n hx hb dL_tool_320 rfl (lv_at hl 8 rfl) ?_
            refine lv_iload hx hb dL_tool_321 (lv_at hl 4 rfl) ?_
            refine lv_iload hx hb dL_tool_323 (lv_at hl 3 rfl) ?_
            have hq44 := ho.1
            have ho := ho.2
            have hq45 := ho.1
            have ho := ho.2
            refine kZ_X10_lineFor X hS hH hk_o1 hq44 hq45 t_ml_VernierDrawersLaw_149 hl.1 (Nat.le_of_ble_eq_true rfl) ⟨Nat.le_of_ble_eq_true rfl, Nat.le_of_ble_eq_true rfl⟩ ⟨(Nat.le_of_ble_eq_true rfl), (Nat.le_of_ble_eq_true rfl)⟩ dL_tool_325 ?_
            refine lv_iload hx hb dL_tool_328 (lv_at hl 2 rfl) ?_
            refine lv_iload hx hb dL_tool_330 (lv_at hl 5 rfl) ?_
            refine lv_irem hx hb dL_tool_332 hq42 ?_
            refine lv_iload hx hb dL_tool_333 (lv_at hl 6 rfl) ?_
            refine lv_idiv hx hb dL_tool_335 hq38 ?_
            refine lv_icmp_ne (tgt := 368) hx hb dL_tool_336 (by decide) (fun c46 => ?_) (fun c46 => ?_)
            · exact absurd ho.1 c46
            have ho := ho.2
            refine lv_aload_n hx hb dL_tool_339 rfl (lv_at hl 7 rfl) ?_
            refine lv_iload_n hx hb dL_tool_340 rfl (lv_at hl 8 rfl) ?_
            refine lv_iload hx hb dL_tool_341 (lv_at hl 4 rfl) ?_
            refine lv_iload hx hb dL_tool_343 (lv_at hl 3 rfl) ?_
            have hq47 := ho.1
            have ho := ho.2
            have hq48 := ho.1
            have ho := ho.2
            refine kZ_X10_offBy X hS hH hk_o1 hq47 hq48 t_ml_VernierDrawersLaw_152 hl.1 (Nat.le_of_ble_eq_true rfl) ⟨Nat.le_of_ble_eq_true rfl, Nat.le_of_ble_eq_true rfl⟩ ⟨(Nat.le_of_ble_eq_true rfl), (Nat.le_of_ble_eq_true rfl)⟩ dL_tool_345 ?_
            refine lv_iload hx hb dL_tool_348 (lv_at hl 0 rfl) ?_
            have K50 : ∀ (y49 : Int32) (ls : Array Slot), y49 = (if (0 : Int32) ≤ (((fL_readingFor o1 p1 (fL_low p2 3) y9 v) - ((fX10_knownError o1 p1 v).2)) - y9) then (((fL_readingFor o1 p1 (fL_low p2 3) y9 v) - ((fX10_knownError o1 p1 v).2)) - y9) else (-(((fL_readingFor o1 p1 (fL_low p2 3) y9 v) - ((fX10_knownError o1 p1 v).2)) - y9)) : Int32) → lv_has ls 13 [(8, .int (fL_readingFor o1 p1 (fL_low p2 3) y9 v)), (7, .int y9), (6, .int (fL_low p2 3)), (0, .ref (ga G o1)), (1, .int p1), (2, .int p2)] → W p l e rmL_tool s m args below meth c H locs 18 18 Q (F0 m 361 ls [.int y49, .int ((fX10_offBy o1 p1 (fL_low p2 3) y9 v).2)]) := by
              intro y49 ls ey49 hl
              have ho := ho y49 ey49
              refine lv_icmp_ne (tgt := 368) hx hb dL_tool_361 (by decide) (fun c51 => ?_) (fun c51 => ?_)
              · exact absurd ho.1 c51
              have ho := ho.2
              refine lv_iconst (v := 1) hx hb dL_tool_364 (by decide) ?_
              refine lv_goto (tgt := 369) hx hb dL_tool_365 (by decide) ?_
              refine lv_istore (lv' := [(9, .int 1), (8, .int (fL_readingFor o1 p1 (fL_low p2 3) y9 v)), (7, .int y9), (6, .int (fL_low p2 3)), (0, .ref (ga G o1)), (1, .int p1), (2, .int p2)]) hx hb dL_tool_369 hl (by decide) rfl (fun ls hl => ?_)
              refine lv_iload hx hb dL_tool_371 (lv_at hl 2 rfl) ?_
              refine lv_iconst (v := 1) hx hb dL_tool_373 (by decide) ?_
              refine lv_iadd hx hb dL_tool_374 ?_
              refine lv_iload_n hx hb dL_tool_375 rfl (lv_at hl 6 rfl) ?_
              refine lv_bipush (v := 7) hx hb dL_tool_376 (by decide) ?_
              refine lv_ishr hx hb dL_tool_378 ?_
              refine lv_bipush (v := 40) hx hb dL_tool_379 (by decide) ?_
              have hq52 := ho.1
              have ho := ho.2
              refine k_L_low X hS hq52 t_ml_VernierDrawersLaw_250 hl.1 (Nat.le_of_ble_eq_true rfl) ⟨Nat.le_of_ble_eq_true rfl, Nat.le_of_ble_eq_true rfl⟩ ⟨(Nat.le_of_ble_eq_true rfl), (Nat.le_of_ble_eq_true rfl)⟩ dL_tool_381 ?_
              refine lv_iadd hx hb dL_tool_384 ?_
              refine lv_istore (lv' := [(11, .int ((y9 + (1 : Int32)) + (fL_low (p2 >>> ((7 : Int32) &&& 31)) 40))), (9, .int 1), (8, .int (fL_readingFor o1 p1 (fL_low p2 3) y9 v)), (7, .int y9), (6, .int (fL_low p2 3)), (0, .ref (ga G o1)), (1, .int p1), (2, .int p2)]) hx hb dL_tool_385 hl (by decide) rfl (fun ls hl => ?_)
              refine lv_iload hx hb dL_tool_387 (lv_at hl 0 rfl) ?_
              refine lv_sipush (v := 15000) hx hb dL_tool_389 (by decide) ?_
              have K54 : ∀ (y53 : Int32) (da : Nat → Nat) (H : Heap) (locs : List Loc) (ls : Array Slot), y53 = (if (((y9 + (1 : Int32)) + (fL_low (p2 >>> ((7 : Int32) &&& 31)) 40)) : Int32) ≤ 15000 then (fL_readingFor o1 p1 (fL_low p2 3) ((y9 + (1 : Int32)) + (fL_low (p2 >>> ((7 : Int32) &&& 31)) 40)) v) else ((-100104)) : Int32) → Hp G da v x H → va_S (gA G) s.heap H locs → lv_has ls 13 [(9, .int 1), (8, .int (fL_readingFor o1 p1 (fL_low p2 3) y9 v))] → W p l e rmL_tool s m args below meth c H locs 24 24 Q (F0 m 409 ls [.int y53]) := by
                intro y53 da H locs ls ey53 hH hS hl
                have ho := ho.2 y53 ey53
                refine lv_istore (lv' := [(12, .int y53), (9, .int 1), (8, .int (fL_readingFor o1 p1 (fL_low p2 3) y9 v))]) hx hb dL_tool_409 hl (by decide) rfl (fun ls hl => ?_)
                refine lv_iload hx hb dL_tool_411 (lv_at hl 1 rfl) ?_
                refine lv_if_eq (tgt := 434) hx hb dL_tool_413 (by decide) (fun c55 => absurd c55 (by decide)) (fun c55 => ?_)
                refine lv_iload hx hb dL_tool_416 (lv_at hl 0 rfl) ?_
                refine lv_ldc (v := (-100104)) hx hb hown (hts _ t_con_VernierDrawersLaw_73) dL_tool_418 ?_
                refine lv_icmp_eq (tgt := 430) hx hb dL_tool_420 (by decide) (fun c56 => ?_) (fun c56 => ?_)
                · skip
                  refine lv_iconst (v := 1) hx hb dL_tool_430 (by decide) ?_
                  refine lv_goto (tgt := 435) hx hb dL_tool_431 (by decide) ?_
                  exact E _ _ _ _ _ _ _ _ _ dL_tool_435 rfl rfl rfl hH hS (Nat.le_of_ble_eq_true rfl) (Nat.le_of_ble_eq_true rfl)
                · have ho := ho c56
                  refine lv_iload hx hb dL_tool_423 (lv_at hl 0 rfl) ?_
                  refine lv_iload hx hb dL_tool_425 (lv_at hl 2 rfl) ?_
                  refine lv_icmp_lt (tgt := 434) hx hb dL_tool_427 (by decide) (fun c57 => ?_) (fun c57 => ?_)
                  · exact absurd c57 ho
                  refine lv_iconst (v := 1) hx hb dL_tool_430 (by decide) ?_
                  refine lv_goto (tgt := 435) hx hb dL_tool_431 (by decide) ?_
                  exact E _ _ _ _ _ _ _ _ _ dL_tool_435 rfl rfl rfl hH hS (Nat.le_of_ble_eq_true rfl) (Nat.le_of_ble_eq_true rfl)
              have ho := ho.1
              refine lv_icmp_le (tgt := 400) hx hb dL_tool_392 (by decide) (fun c54 => ?_) (fun c54 => ?_)
              · have ho := ho c54
                refine lv_aload_n hx hb dL_tool_400 rfl (lv_at hl 5 rfl) ?_
                refine lv_iload_n hx hb dL_tool_401 rfl (lv_at hl 6 rfl) ?_
                refine lv_iload hx hb dL_tool_402 (lv_at hl 4 rfl) ?_
                refine lv_iload hx hb dL_tool_404 (lv_at hl 0 rfl) ?_
                have hq55 := ho
                refine k_L_readingFor hst X hS hN hH hk_o1 hq55 t_ml_VernierDrawersLaw_242 hl.1 (Nat.le_of_ble_eq_true rfl) ⟨Nat.le_of_ble_eq_true rfl, Nat.le_of_ble_eq_true rfl⟩ ⟨(Nat.le_of_ble_eq_true rfl), (Nat.le_of_ble_eq_true rfl)⟩ dL_tool_406 (fun da H locs hH hS => ?_)
                refine W.widen (k := 24) (n := 24) (Nat.le_refl _) (Nat.le_refl _) ?_
                have hlz := hl
                have hHz := hH
                have hSz := hS
                exact K54 _ _ _ _ _ (Eq.symm ((if_pos c54).trans rfl)) hHz hSz (lv_sub hlz [1, 2] rfl)
              · skip
                refine lv_ldc (v := (-100104)) hx hb hown (hts _ t_con_VernierDrawersLaw_73) dL_tool_395 ?_
                refine lv_goto (tgt := 409) hx hb dL_tool_397 (by decide) ?_
                refine W.widen (k := 24) (n := 24) (Nat.le_of_ble_eq_true rfl) (Nat.le_of_ble_eq_true rfl) ?_
                have hlz := hl
                have hHz := hH
                have hSz := hS
                exact K54 _ _ _ _ _ (Eq.symm ((if_neg c54).trans rfl)) hHz hSz (lv_sub hlz [1, 2] rfl)
            refine lv_if_ge (tgt := 359) hx hb dL_tool_350 (by decide) (fun c50 => ?_) (fun c50 => ?_)
            · skip
              refine lv_iload hx hb dL_tool_359 (lv_at hl 0 rfl) ?_
              have hlz := hl
              exact K50 _ _ (Eq.symm ((if_pos c50).trans rfl)) (lv_sub hlz [2, 3, 4, 7, 8, 9] rfl)
            · skip
              refine lv_iload hx hb dL_tool_353 (lv_at hl 0 rfl) ?_
              refine lv_ineg hx hb dL_tool_355 ?_
              refine lv_goto (tgt := 361) hx hb dL_tool_356 (by decide) ?_
              have hlz := hl
              exact K50 _ _ (Eq.symm ((if_neg c50).trans rfl)) (lv_sub hlz [2, 3, 4, 7, 8, 9] rfl)
          · have ho := ho.1 c31
            refine lv_iload hx hb dL_tool_208 (lv_at hl 0 rfl) ?_
            refine lv_if_eq (tgt := 259) hx hb dL_tool_210 (by decide) (fun c58 => absurd c58 (by decide)) (fun c58 => ?_)
            refine lv_aload_n hx hb dL_tool_213 rfl (lv_at hl 6 rfl) ?_
            refine lv_iload_n hx hb dL_tool_214 rfl (lv_at hl 7 rfl) ?_
            refine lv_iload hx hb dL_tool_215 (lv_at hl 3 rfl) ?_
            refine lv_iload hx hb dL_tool_217 (lv_at hl 2 rfl) ?_
            have hq59 := ho.1
            have ho := ho.2
            refine k_L_markFor hst X hS hN hH hk_o1 hq59 t_ml_VernierDrawersLaw_255 hl.1 (Nat.le_of_ble_eq_true rfl) ⟨Nat.le_of_ble_eq_true rfl, Nat.le_of_ble_eq_true rfl⟩ ⟨(Nat.le_of_ble_eq_true rfl), (Nat.le_of_ble_eq_true rfl)⟩ dL_tool_219 (fun da H locs hH hS => ?_)
            refine W.widen (k := 30) (n := 30) (Nat.le_refl _) (Nat.le_refl _) ?_
            refine lv_ldc (v := (-100104)) hx hb hown (hts _ t_con_VernierDrawersLaw_73) dL_tool_222 ?_
            refine lv_icmp_ne (tgt := 259) hx hb dL_tool_224 (by decide) (fun c60 => ?_) (fun c60 => ?_)
            · exact absurd ho.1 c60
            have ho := ho.2
            refine lv_aload_n hx hb dL_tool_227 rfl (lv_at hl 6 rfl) ?_
            refine lv_iload_n hx hb dL_tool_228 rfl (lv_at hl 7 rfl) ?_
            refine lv_iload hx hb dL_tool_229 (lv_at hl 3 rfl) ?_
            refine lv_iload hx hb dL_tool_231 (lv_at hl 2 rfl) ?_
            have hq61 := ho.1
            have ho := ho.2
            refine k_L_lineFor hst X hS hN hH hk_o1 hq61 t_ml_VernierDrawersLaw_257 hl.1 (Nat.le_of_ble_eq_true rfl) ⟨Nat.le_of_ble_eq_true rfl, Nat.le_of_ble_eq_true rfl⟩ ⟨(Nat.le_of_ble_eq_true rfl), (Nat.le_of_ble_eq_true rfl)⟩ dL_tool_233 (fun da H locs hH hS => ?_)
            refine W.widen (k := 42) (n := 42) (Nat.le_refl _) (Nat.le_refl _) ?_
            refine lv_ldc (v := (-100104)) hx hb hown (hts _ t_con_VernierDrawersLaw_73) dL_tool_236 ?_
            refine lv_icmp_ne (tgt := 259) hx hb dL_tool_238 (by decide) (fun c62 => ?_) (fun c62 => ?_)
            · exact absurd ho.1 c62
            have ho := ho.2
            refine lv_aload_n hx hb dL_tool_241 rfl (lv_at hl 6 rfl) ?_
            refine lv_iload_n hx hb dL_tool_242 rfl (lv_at hl 7 rfl) ?_
            refine lv_iload hx hb dL_tool_243 (lv_at hl 3 rfl) ?_
            refine lv_iload hx hb dL_tool_245 (lv_at hl 2 rfl) ?_
            have hq63 := ho.1
            have ho := ho.2
            refine k_L_offBy hst X hS hN hH hk_o1 hq63 t_ml_VernierDrawersLaw_259 hl.1 (Nat.le_of_ble_eq_true rfl) ⟨Nat.le_of_ble_eq_true rfl, Nat.le_of_ble_eq_true rfl⟩ ⟨(Nat.le_of_ble_eq_true rfl), (Nat.le_of_ble_eq_true rfl)⟩ dL_tool_247 (fun da H locs hH hS => ?_)
            refine W.widen (k := 54) (n := 54) (Nat.le_refl _) (Nat.le_refl _) ?_
            refine lv_ldc (v := (-100104)) hx hb hown (hts _ t_con_VernierDrawersLaw_73) dL_tool_250 ?_
            refine lv_icmp_ne (tgt := 259) hx hb dL_tool_252 (by decide) (fun c64 => ?_) (fun c64 => ?_)
            · exact absurd ho c64
            refine lv_iconst (v := 1) hx hb dL_tool_255 (by decide) ?_
            refine lv_goto (tgt := 260) hx hb dL_tool_256 (by decide) ?_
            exact E _ _ _ _ _ _ _ _ _ dL_tool_260 rfl rfl rfl hH hS (Nat.le_of_ble_eq_true rfl) (Nat.le_of_ble_eq_true rfl)
        have ho := ho.1
        refine lv_if_gt (tgt := 194) hx hb dL_tool_183 (by decide) (fun c30 => ?_) (fun c30 => ?_)
        · skip
          have hlz := hl
          exact K30  _  (lv_sub hlz [0, 1, 2, 3, 4, 5, 6, 7] rfl)
        · have ho := ho c30
          refine lv_aload_n hx hb dL_tool_186 rfl (lv_at hl 5 rfl) ?_
          refine lv_iload_n hx hb dL_tool_187 rfl (lv_at hl 6 rfl) ?_
          have hq31 := ho.1
          have ho := ho.2
          have hq32 := ho.1
          have ho := ho.2
          refine kZ_X10_isDue X hS hH hk_o1 hq31 hq32 t_ml_VernierDrawersLaw_61 hl.1 (Nat.le_of_ble_eq_true rfl) ⟨Nat.le_of_ble_eq_true rfl, Nat.le_of_ble_eq_true rfl⟩ ⟨(Nat.le_of_ble_eq_true rfl), (Nat.le_of_ble_eq_true rfl)⟩ dL_tool_188 ?_
          refine lv_if_eq (tgt := 198) hx hb dL_tool_191 (by decide) (fun c33 => ?_) (fun c33 => ?_)
          · exact absurd c33 ho
          have hlz := hl
          exact K30  _  (lv_sub hlz [0, 1, 2, 3, 4, 5, 6, 7] rfl)
      refine lv_if_ne (tgt := 98) hx hb dL_tool_90 (by decide) (fun c15 => ?_) (fun c15 => ?_)
      · skip
        refine lv_iload_n hx hb dL_tool_98 rfl (lv_at hl 5 rfl) ?_
        refine lv_iconst (v := 1) hx hb dL_tool_99 (by decide) ?_
        refine lv_icmp_ne (tgt := 107) hx hb dL_tool_100 (by decide) (fun c16 => ?_) (fun c16 => ?_)
        · skip
          refine lv_iload_n hx hb dL_tool_107 rfl (lv_at hl 5 rfl) ?_
          refine lv_iconst (v := 2) hx hb dL_tool_108 (by decide) ?_
          refine lv_icmp_ne (tgt := 116) hx hb dL_tool_109 (by decide) (fun c17 => ?_) (fun c17 => ?_)
          · skip
            refine lv_iconst (v := 1) hx hb dL_tool_116 (by decide) ?_
            have hlz := hl
            exact K15 _ _ (Eq.symm ((if_neg c15).trans ((if_neg c16).trans ((if_neg c17).trans rfl)))) (lv_sub hlz [0, 1, 2, 3, 4, 6, 7, 8] rfl)
          · skip
            refine lv_iconst (v := 2) hx hb dL_tool_112 (by decide) ?_
            refine lv_goto (tgt := 117) hx hb dL_tool_113 (by decide) ?_
            have hlz := hl
            exact K15 _ _ (Eq.symm ((if_neg c15).trans ((if_neg c16).trans ((if_pos c17).trans rfl)))) (lv_sub hlz [0, 1, 2, 3, 4, 6, 7, 8] rfl)
        · skip
          refine lv_iconst (v := 5) hx hb dL_tool_103 (by decide) ?_
          refine lv_goto (tgt := 117) hx hb dL_tool_104 (by decide) ?_
          have hlz := hl
          exact K15 _ _ (Eq.symm ((if_neg c15).trans ((if_pos c16).trans rfl))) (lv_sub hlz [0, 1, 2, 3, 4, 6, 7, 8] rfl)
      · skip
        refine lv_bipush (v := 10) hx hb dL_tool_93 (by decide) ?_
        refine lv_goto (tgt := 117) hx hb dL_tool_95 (by decide) ?_
        have hlz := hl
        exact K15 _ _ (Eq.symm ((if_pos c15).trans rfl)) (lv_sub hlz [0, 1, 2, 3, 4, 6, 7, 8] rfl)
    have ho := ho.1
    refine lv_if_ne (tgt := 56) hx hb dL_tool_41 (by decide) (fun c10 => ?_) (fun c10 => ?_)
    · have ho := ho.2 c10
      refine lv_iload_n hx hb dL_tool_56 rfl (lv_at hl 6 rfl) ?_
      refine lv_iconst (v := 5) hx hb dL_tool_57 (by decide) ?_
      refine lv_ishr hx hb dL_tool_58 ?_
      refine lv_sipush (v := 2600) hx hb dL_tool_59 (by decide) ?_
      have hq11 := ho
      refine k_L_low X hS hq11 t_ml_VernierDrawersLaw_250 hl.1 (Nat.le_of_ble_eq_true rfl) ⟨Nat.le_of_ble_eq_true rfl, Nat.le_of_ble_eq_true rfl⟩ ⟨Nat.zero_le _, Nat.zero_le _⟩ dL_tool_62 ?_
      have hlz := hl
      exact K10 _ _ (Eq.symm ((if_neg c10).trans rfl)) (lv_sub hlz [0, 1, 2, 3, 4, 5, 6] rfl)
    · have ho := ho.1 c10
      refine lv_iload_n hx hb dL_tool_44 rfl (lv_at hl 6 rfl) ?_
      refine lv_iconst (v := 5) hx hb dL_tool_45 (by decide) ?_
      refine lv_ishr hx hb dL_tool_46 ?_
      refine lv_sipush (v := 15001) hx hb dL_tool_47 (by decide) ?_
      have hq12 := ho
      refine k_L_low X hS hq12 t_ml_VernierDrawersLaw_250 hl.1 (Nat.le_of_ble_eq_true rfl) ⟨Nat.le_of_ble_eq_true rfl, Nat.le_of_ble_eq_true rfl⟩ ⟨Nat.zero_le _, Nat.zero_le _⟩ dL_tool_50 ?_
      refine lv_goto (tgt := 65) hx hb dL_tool_53 (by decide) ?_
      have hlz := hl
      exact K10 _ _ (Eq.symm ((if_pos c10).trans rfl)) (lv_sub hlz [0, 1, 2, 3, 4, 5, 6] rfl)
  refine lv_icmp_ne (tgt := 23) hx hb dL_tool_15 (by decide) (fun c6 => ?_) (fun c6 => ?_)
  · skip
    refine lv_bipush (v := 100) hx hb dL_tool_23 (by decide) ?_
    have hlz := hl
    exact K6 _ _ (Eq.symm ((if_neg c6).trans rfl)) (lv_sub hlz [0, 1, 2, 3, 4] rfl)
  · skip
    refine lv_bipush (v := 50) hx hb dL_tool_18 (by decide) ?_
    refine lv_goto (tgt := 25) hx hb dL_tool_20 (by decide) ?_
    have hlz := hl
    exact K6 _ _ (Eq.symm ((if_pos c6).trans rfl)) (lv_sub hlz [0, 1, 2, 3, 4] rfl)
theorem k_L_tool {p : Program} {l : Launch} {e : Env} {R : Room} {s : State} {m : MethodId} {args : Array Value} {below : List Frame} {meth : Method} {c : Code} {H : Heap} {locs : List Loc} {cells slots : Nat} {Q : State → Prop} {cc : ByteArray} {pc nL : Nat} {ls : Array Slot} {rest : List Value} {G : gG} {own : String} {da : Nat → Nat} {v : vSt} {x : gX} (hst : l.stackTraces = false) (X : CX G p s m args c cc nL own) (hS : va_S (gA G) s.heap H locs) (hN : NC s) (hH : Hp G da v x H) {o1 : Nat} (hk_o1 : kd o1 = 10) {p1 : Int32} {p2 : Int32} (ho : oL_tool o1 p1 p2 v) {idx : Nat} (hml : Cond.methodLink own idx yL_tool ∈ TT) (hls : ls.size = nL) (hsum : (rest.map fun v => v.category).sum ≤ 8) (hR : rmL_tool.frames + 1 ≤ R.frames ∧ 8 + (13 + 11) + rmL_tool.locals ≤ R.locals) (hcs : cells + 54 ≤ R.cells ∧ slots + 54 ≤ R.slots) (hdg : decode cc pc = .ok (.invokestatic idx, 3)) (kk : ∀ (d : Nat → Nat) (H1 : Heap) (locs1 : List Loc), Hp G d v x H1 → va_S (gA G) s.heap H1 locs1 → W p l e R s m args below meth c H1 locs1 (cells + 54) (slots + 54) Q (F0 m (pc + 3) ls (.int 1 :: rest))) : W p l e R s m args below meth c H locs cells slots Q (F0 m pc ls (.int p2 :: .int p1 :: .ref (ga G o1) :: rest)) := c_mi X.2.2.2.2.2.2 (runS (k := 3) X.1 X.2.1 X.2.2.1 X.2.2.2.1 X.2.2.2.2.1 (mL_tool l hst G da v x o1 hk_o1 p1 p2 ho) pN_bl hml t_st_L_tool t_ini_VernierDrawersLaw t_code_L_tool ⟨by decide, by decide, by decide +kernel⟩ rfl rfl hR hcs (preN X hN hS hH) rfl hls rfl hsum hdg) hS (fun d9 H9 L9 v9 e9 hH9 => kk d9 H9 L9 (by subst e9; exact hH9))
