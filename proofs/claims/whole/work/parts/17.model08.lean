/-! 17.model -/
def fX11_notes (r : Nat) (p1 : Int32) (p2 : Int32) (v : vSt) : vSt := let y2 : Int32 := (if (p2 : Int32) = 0 then 0 else 1 : Int32); let v5 : vSt := fX11_lays r p1 6 ((((fX11_of r p1 6 v) * 2) + y2) - (((fX11_of r p1 6 v) * 2) + y2) / 1024 * 1024) v; let v8 : vSt := fX11_lays r p1 5 (fX11_less 10 ((fX11_of r p1 5 v5) + 1)) v5; if ((fX11_mannerThen r p1 p2 v8) : Int32) = (fX11_of r p1 4 v8) then v8 else (let v13 : vSt := fX11_lays r p1 4 (fX11_mannerThen r p1 p2 v8) v8; let v15 : vSt := fX11_lays r p1 6 0 v13; let v17 : vSt := fX11_lays r p1 5 0 v15; v17)
def oX11_notes (r : Nat) (p1 : Int32) (p2 : Int32) (v : vSt) : Prop := (oX11_of r p1 6 v) ∧ ((∀ (y2 : Int32), y2 = ((if (p2 : Int32) = 0 then 0 else 1 : Int32) : Int32) → ((oX11_lays r p1 6 ((((fX11_of r p1 6 v) * 2) + y2) - (((fX11_of r p1 6 v) * 2) + y2) / 1024 * 1024) v) ∧ (∀ v5 : vSt, v5 = (fX11_lays r p1 6 ((((fX11_of r p1 6 v) * 2) + y2) - (((fX11_of r p1 6 v) * 2) + y2) / 1024 * 1024) v) → ((oX11_of r p1 5 v5) ∧ ((oX11_lays r p1 5 (fX11_less 10 ((fX11_of r p1 5 v5) + 1)) v5) ∧ (∀ v8 : vSt, v8 = (fX11_lays r p1 5 (fX11_less 10 ((fX11_of r p1 5 v5) + 1)) v5) → ((oX11_mannerThen r p1 p2 v8) ∧ ((oX11_of r p1 4 v8) ∧ (¬ (((fX11_mannerThen r p1 p2 v8) : Int32) = (fX11_of r p1 4 v8)) → ((oX11_lays r p1 4 (fX11_mannerThen r p1 p2 v8) v8) ∧ (∀ v13 : vSt, v13 = (fX11_lays r p1 4 (fX11_mannerThen r p1 p2 v8) v8) → ((oX11_lays r p1 6 0 v13) ∧ (∀ v15 : vSt, v15 = (fX11_lays r p1 6 0 v13) → (oX11_lays r p1 5 0 v15)))))))))))))))
abbrev rmX11_notes : Room := { frames := 2, cells := 0, slots := 0, locals := 46 }
theorem dX11_notes_0 : decode cX11_notes 0 = .ok (.aload_n 0, 1) := by decide +kernel
theorem dX11_notes_1 : decode cX11_notes 1 = .ok (.iload_n 1, 1) := by decide +kernel
theorem dX11_notes_2 : decode cX11_notes 2 = .ok (.bipush 6, 2) := by decide +kernel
theorem dX11_notes_4 : decode cX11_notes 4 = .ok (.aload_n 0, 1) := by decide +kernel
theorem dX11_notes_5 : decode cX11_notes 5 = .ok (.iload_n 1, 1) := by decide +kernel
theorem dX11_notes_6 : decode cX11_notes 6 = .ok (.bipush 6, 2) := by decide +kernel
theorem dX11_notes_8 : decode cX11_notes 8 = .ok (.invokevirtual 90, 3) := by decide +kernel
theorem dX11_notes_11 : decode cX11_notes 11 = .ok (.iconst 2, 1) := by decide +kernel
theorem dX11_notes_12 : decode cX11_notes 12 = .ok (.imul, 1) := by decide +kernel
theorem dX11_notes_13 : decode cX11_notes 13 = .ok (.iload_n 2, 1) := by decide +kernel
theorem dX11_notes_14 : decode cX11_notes 14 = .ok (.ifCond .eq 7, 3) := by decide +kernel
theorem dX11_notes_17 : decode cX11_notes 17 = .ok (.iconst 1, 1) := by decide +kernel
theorem dX11_notes_18 : decode cX11_notes 18 = .ok (.goto 4, 3) := by decide +kernel
theorem dX11_notes_21 : decode cX11_notes 21 = .ok (.iconst 0, 1) := by decide +kernel
theorem dX11_notes_22 : decode cX11_notes 22 = .ok (.iadd, 1) := by decide +kernel
theorem dX11_notes_23 : decode cX11_notes 23 = .ok (.sipush 1024, 3) := by decide +kernel
theorem dX11_notes_26 : decode cX11_notes 26 = .ok (.irem, 1) := by decide +kernel
theorem dX11_notes_27 : decode cX11_notes 27 = .ok (.invokevirtual 116, 3) := by decide +kernel
theorem dX11_notes_30 : decode cX11_notes 30 = .ok (.aload_n 0, 1) := by decide +kernel
theorem dX11_notes_31 : decode cX11_notes 31 = .ok (.iload_n 1, 1) := by decide +kernel
theorem dX11_notes_32 : decode cX11_notes 32 = .ok (.iconst 5, 1) := by decide +kernel
theorem dX11_notes_33 : decode cX11_notes 33 = .ok (.bipush 10, 2) := by decide +kernel
theorem dX11_notes_35 : decode cX11_notes 35 = .ok (.aload_n 0, 1) := by decide +kernel
theorem dX11_notes_36 : decode cX11_notes 36 = .ok (.iload_n 1, 1) := by decide +kernel
theorem dX11_notes_37 : decode cX11_notes 37 = .ok (.iconst 5, 1) := by decide +kernel
theorem dX11_notes_38 : decode cX11_notes 38 = .ok (.invokevirtual 90, 3) := by decide +kernel
theorem dX11_notes_41 : decode cX11_notes 41 = .ok (.iconst 1, 1) := by decide +kernel
theorem dX11_notes_42 : decode cX11_notes 42 = .ok (.iadd, 1) := by decide +kernel
theorem dX11_notes_43 : decode cX11_notes 43 = .ok (.invokestatic 68, 3) := by decide +kernel
theorem dX11_notes_46 : decode cX11_notes 46 = .ok (.invokevirtual 116, 3) := by decide +kernel
theorem dX11_notes_49 : decode cX11_notes 49 = .ok (.aload_n 0, 1) := by decide +kernel
theorem dX11_notes_50 : decode cX11_notes 50 = .ok (.iload_n 1, 1) := by decide +kernel
theorem dX11_notes_51 : decode cX11_notes 51 = .ok (.iload_n 2, 1) := by decide +kernel
theorem dX11_notes_52 : decode cX11_notes 52 = .ok (.invokevirtual 119, 3) := by decide +kernel
theorem dX11_notes_55 : decode cX11_notes 55 = .ok (.istore_n 3, 1) := by decide +kernel
theorem dX11_notes_56 : decode cX11_notes 56 = .ok (.iload_n 3, 1) := by decide +kernel
theorem dX11_notes_57 : decode cX11_notes 57 = .ok (.aload_n 0, 1) := by decide +kernel
theorem dX11_notes_58 : decode cX11_notes 58 = .ok (.iload_n 1, 1) := by decide +kernel
theorem dX11_notes_59 : decode cX11_notes 59 = .ok (.iconst 4, 1) := by decide +kernel
theorem dX11_notes_60 : decode cX11_notes 60 = .ok (.invokevirtual 90, 3) := by decide +kernel
theorem dX11_notes_63 : decode cX11_notes 63 = .ok (.if_icmp .eq 25, 3) := by decide +kernel
theorem dX11_notes_66 : decode cX11_notes 66 = .ok (.aload_n 0, 1) := by decide +kernel
theorem dX11_notes_67 : decode cX11_notes 67 = .ok (.iload_n 1, 1) := by decide +kernel
theorem dX11_notes_68 : decode cX11_notes 68 = .ok (.iconst 4, 1) := by decide +kernel
theorem dX11_notes_69 : decode cX11_notes 69 = .ok (.iload_n 3, 1) := by decide +kernel
theorem dX11_notes_70 : decode cX11_notes 70 = .ok (.invokevirtual 116, 3) := by decide +kernel
theorem dX11_notes_73 : decode cX11_notes 73 = .ok (.aload_n 0, 1) := by decide +kernel
theorem dX11_notes_74 : decode cX11_notes 74 = .ok (.iload_n 1, 1) := by decide +kernel
theorem dX11_notes_75 : decode cX11_notes 75 = .ok (.bipush 6, 2) := by decide +kernel
theorem dX11_notes_77 : decode cX11_notes 77 = .ok (.iconst 0, 1) := by decide +kernel
theorem dX11_notes_78 : decode cX11_notes 78 = .ok (.invokevirtual 116, 3) := by decide +kernel
theorem dX11_notes_81 : decode cX11_notes 81 = .ok (.aload_n 0, 1) := by decide +kernel
theorem dX11_notes_82 : decode cX11_notes 82 = .ok (.iload_n 1, 1) := by decide +kernel
theorem dX11_notes_83 : decode cX11_notes 83 = .ok (.iconst 5, 1) := by decide +kernel
theorem dX11_notes_84 : decode cX11_notes 84 = .ok (.iconst 0, 1) := by decide +kernel
theorem dX11_notes_85 : decode cX11_notes 85 = .ok (.invokevirtual 116, 3) := by decide +kernel
theorem dX11_notes_88 : decode cX11_notes 88 = .ok (.return_, 1) := by decide +kernel
set_option maxHeartbeats 8000000 in
set_option maxRecDepth 100000 in
theorem mX11_notes (l : Launch) (G : gG) (da : Nat → Nat) (v : vSt) (x : gX) (r : Nat) (hk_r : kd r = 11) (p1 : Int32) (p2 : Int32) (ho : oX11_notes r p1 p2 v) : MV l yX11_notes cX11_notes 4 none rmX11_notes [.ref (ga G r), .int p1, .int p2] G da v x 0 0 (fX11_notes r p1 p2 v) x := by
  refine gofMV (own := RX11) (by decide) rfl (Nat.le_of_ble_eq_true rfl) (fun p e s m args below meth c ls Q X hH hl E => ?_)
  have hx := X.1
  have hb := X.2.1
  have hown := X.2.2.2.1
  have hts := X.2.2.2.2.1
  have hS : va_S (gA G) s.heap s.heap [] := va_S.rf
  unfold oX11_notes at ho
  have hl : lv_has ls 4 [(0, .ref (ga G r)), (1, .int p1), (2, .int p2)] := hl
  refine lv_aload_n hx hb dX11_notes_0 rfl (lv_at hl 0 rfl) ?_
  refine lv_iload_n hx hb dX11_notes_1 rfl (lv_at hl 1 rfl) ?_
  refine lv_bipush (v := 6) hx hb dX11_notes_2 (by decide) ?_
  refine lv_aload_n hx hb dX11_notes_4 rfl (lv_at hl 0 rfl) ?_
  refine lv_iload_n hx hb dX11_notes_5 rfl (lv_at hl 1 rfl) ?_
  refine lv_bipush (v := 6) hx hb dX11_notes_6 (by decide) ?_
  have hq1 := ho.1
  have ho := ho.2
  refine k_X11_of X hS hH hk_r hq1 t_ml_VernierDrawersModel_90 hl.1 (Nat.le_of_ble_eq_true rfl) ⟨Nat.le_of_ble_eq_true rfl, Nat.le_of_ble_eq_true rfl⟩ ⟨Nat.zero_le _, Nat.zero_le _⟩ dX11_notes_8 ?_
  refine lv_iconst (v := 2) hx hb dX11_notes_11 (by decide) ?_
  refine lv_imul hx hb dX11_notes_12 ?_
  refine lv_iload_n hx hb dX11_notes_13 rfl (lv_at hl 2 rfl) ?_
  have K3 : ∀ (y2 : Int32) (ls : Array Slot), y2 = (if (p2 : Int32) = 0 then 0 else 1 : Int32) → lv_has ls 4 [(0, .ref (ga G r)), (1, .int p1), (2, .int p2)] → W p l e rmX11_notes s m args below meth c s.heap [] 0 0 Q (F0 m 22 ls [.int y2, .int ((fX11_of r p1 6 v) * 2), .int 6, .int p1, .ref (ga G r)]) := by
    intro y2 ls ey2 hl
    have ho := ho y2 ey2
    refine lv_iadd hx hb dX11_notes_22 ?_
    refine lv_sipush (v := 1024) hx hb dX11_notes_23 (by decide) ?_
    refine lv_irem hx hb dX11_notes_26 (by decide) ?_
    have hq4 := ho.1
    have ho := ho.2
    refine k_X11_lays X hS hH hk_r hq4 t_ml_VernierDrawersModel_116 hl.1 (Nat.le_of_ble_eq_true rfl) ⟨Nat.le_of_ble_eq_true rfl, Nat.le_of_ble_eq_true rfl⟩ ⟨Nat.zero_le _, Nat.zero_le _⟩ dX11_notes_27 (fun da H locs v5 ev5 hH hS => ?_)
    have ho := ho v5 ev5
    refine lv_aload_n hx hb dX11_notes_30 rfl (lv_at hl 0 rfl) ?_
    refine lv_iload_n hx hb dX11_notes_31 rfl (lv_at hl 1 rfl) ?_
    refine lv_iconst (v := 5) hx hb dX11_notes_32 (by decide) ?_
    refine lv_bipush (v := 10) hx hb dX11_notes_33 (by decide) ?_
    refine lv_aload_n hx hb dX11_notes_35 rfl (lv_at hl 0 rfl) ?_
    refine lv_iload_n hx hb dX11_notes_36 rfl (lv_at hl 1 rfl) ?_
    refine lv_iconst (v := 5) hx hb dX11_notes_37 (by decide) ?_
    have hq6 := ho.1
    have ho := ho.2
    refine k_X11_of X hS hH hk_r hq6 t_ml_VernierDrawersModel_90 hl.1 (Nat.le_of_ble_eq_true rfl) ⟨Nat.le_of_ble_eq_true rfl, Nat.le_of_ble_eq_true rfl⟩ ⟨Nat.zero_le _, Nat.zero_le _⟩ dX11_notes_38 ?_
    refine lv_iconst (v := 1) hx hb dX11_notes_41 (by decide) ?_
    refine lv_iadd hx hb dX11_notes_42 ?_
    refine k_X11_less X hS  t_ml_VernierDrawersModel_68 hl.1 (Nat.le_of_ble_eq_true rfl) ⟨Nat.le_of_ble_eq_true rfl, Nat.le_of_ble_eq_true rfl⟩ ⟨Nat.zero_le _, Nat.zero_le _⟩ dX11_notes_43 ?_
    have hq7 := ho.1
    have ho := ho.2
    refine k_X11_lays X hS hH hk_r hq7 t_ml_VernierDrawersModel_116 hl.1 (Nat.le_of_ble_eq_true rfl) ⟨Nat.le_of_ble_eq_true rfl, Nat.le_of_ble_eq_true rfl⟩ ⟨Nat.zero_le _, Nat.zero_le _⟩ dX11_notes_46 (fun da H locs v8 ev8 hH hS => ?_)
    have ho := ho v8 ev8
    refine lv_aload_n hx hb dX11_notes_49 rfl (lv_at hl 0 rfl) ?_
    refine lv_iload_n hx hb dX11_notes_50 rfl (lv_at hl 1 rfl) ?_
    refine lv_iload_n hx hb dX11_notes_51 rfl (lv_at hl 2 rfl) ?_
    have hq9 := ho.1
    have ho := ho.2
    refine k_X11_mannerThen X hS hH hk_r hq9 t_ml_VernierDrawersModel_119 hl.1 (Nat.le_of_ble_eq_true rfl) ⟨Nat.le_of_ble_eq_true rfl, Nat.le_of_ble_eq_true rfl⟩ ⟨Nat.zero_le _, Nat.zero_le _⟩ dX11_notes_52 ?_
    refine lv_istore_n (lv' := [(3, .int (fX11_mannerThen r p1 p2 v8)), (0, .ref (ga G r)), (1, .int p1), (2, .int p2)]) hx hb dX11_notes_55 rfl hl (by decide) rfl (fun ls hl => ?_)
    refine lv_iload_n hx hb dX11_notes_56 rfl (lv_at hl 0 rfl) ?_
    refine lv_aload_n hx hb dX11_notes_57 rfl (lv_at hl 1 rfl) ?_
    refine lv_iload_n hx hb dX11_notes_58 rfl (lv_at hl 2 rfl) ?_
    refine lv_iconst (v := 4) hx hb dX11_notes_59 (by decide) ?_
    have hq10 := ho.1
    have ho := ho.2
    refine k_X11_of X hS hH hk_r hq10 t_ml_VernierDrawersModel_90 hl.1 (Nat.le_of_ble_eq_true rfl) ⟨Nat.le_of_ble_eq_true rfl, Nat.le_of_ble_eq_true rfl⟩ ⟨Nat.zero_le _, Nat.zero_le _⟩ dX11_notes_60 ?_
    refine lv_icmp_eq (tgt := 88) hx hb dX11_notes_63 (by decide) (fun c11 => ?_) (fun c11 => ?_)
    · skip
      replace ey2 := Eq.symm ey2
      replace ev5 := Eq.symm ev5
      replace ev8 := Eq.symm ev8
      subst ey2 ev5 ev8
      exact E _ _ _ _ _ _ _ _ dX11_notes_88 (Eq.symm ((fX11_notes.eq_1 _ _ _ _).trans ((if_pos c11).trans rfl))) hH hS (Nat.zero_le _) (Nat.zero_le _)
    · have ho := ho c11
      refine lv_aload_n hx hb dX11_notes_66 rfl (lv_at hl 1 rfl) ?_
      refine lv_iload_n hx hb dX11_notes_67 rfl (lv_at hl 2 rfl) ?_
      refine lv_iconst (v := 4) hx hb dX11_notes_68 (by decide) ?_
      refine lv_iload_n hx hb dX11_notes_69 rfl (lv_at hl 0 rfl) ?_
      have hq12 := ho.1
      have ho := ho.2
      refine k_X11_lays X hS hH hk_r hq12 t_ml_VernierDrawersModel_116 hl.1 (Nat.le_of_ble_eq_true rfl) ⟨Nat.le_of_ble_eq_true rfl, Nat.le_of_ble_eq_true rfl⟩ ⟨Nat.zero_le _, Nat.zero_le _⟩ dX11_notes_70 (fun da H locs v13 ev13 hH hS => ?_)
      have ho := ho v13 ev13
      refine lv_aload_n hx hb dX11_notes_73 rfl (lv_at hl 1 rfl) ?_
      refine lv_iload_n hx hb dX11_notes_74 rfl (lv_at hl 2 rfl) ?_
      refine lv_bipush (v := 6) hx hb dX11_notes_75 (by decide) ?_
      refine lv_iconst (v := 0) hx hb dX11_notes_77 (by decide) ?_
      have hq14 := ho.1
      have ho := ho.2
      refine k_X11_lays X hS hH hk_r hq14 t_ml_VernierDrawersModel_116 hl.1 (Nat.le_of_ble_eq_true rfl) ⟨Nat.le_of_ble_eq_true rfl, Nat.le_of_ble_eq_true rfl⟩ ⟨Nat.zero_le _, Nat.zero_le _⟩ dX11_notes_78 (fun da H locs v15 ev15 hH hS => ?_)
      have ho := ho v15 ev15
      refine lv_aload_n hx hb dX11_notes_81 rfl (lv_at hl 1 rfl) ?_
      refine lv_iload_n hx hb dX11_notes_82 rfl (lv_at hl 2 rfl) ?_
      refine lv_iconst (v := 5) hx hb dX11_notes_83 (by decide) ?_
      refine lv_iconst (v := 0) hx hb dX11_notes_84 (by decide) ?_
      have hq16 := ho
      refine k_X11_lays X hS hH hk_r hq16 t_ml_VernierDrawersModel_116 hl.1 (Nat.le_of_ble_eq_true rfl) ⟨Nat.le_of_ble_eq_true rfl, Nat.le_of_ble_eq_true rfl⟩ ⟨Nat.zero_le _, Nat.zero_le _⟩ dX11_notes_85 (fun da H locs v17 ev17 hH hS => ?_)
      replace ey2 := Eq.symm ey2
      replace ev5 := Eq.symm ev5
      replace ev8 := Eq.symm ev8
      replace ev13 := Eq.symm ev13
      replace ev15 := Eq.symm ev15
      replace ev17 := Eq.symm ev17
      subst ey2 ev5 ev8 ev13 ev15 ev17
      exact E _ _ _ _ _ _ _ _ dX11_notes_88 (Eq.symm ((fX11_notes.eq_1 _ _ _ _).trans ((if_neg c11).trans rfl))) hH hS (Nat.zero_le _) (Nat.zero_le _)
  refine lv_if_eq (tgt := 21) hx hb dX11_notes_14 (by decide) (fun c3 => ?_) (fun c3 => ?_)
  · skip
    refine lv_iconst (v := 0) hx hb dX11_notes_21 (by decide) ?_
    exact K3 _ _ (Eq.symm ((if_pos c3).trans rfl)) (lv_sub hl [0, 1, 2] rfl)
  · skip
    refine lv_iconst (v := 1) hx hb dX11_notes_17 (by decide) ?_
    refine lv_goto (tgt := 22) hx hb dX11_notes_18 (by decide) ?_
    exact K3 _ _ (Eq.symm ((if_neg c3).trans rfl)) (lv_sub hl [0, 1, 2] rfl)
theorem k_X11_notes {p : Program} {l : Launch} {e : Env} {R : Room} {s : State} {m : MethodId} {args : Array Value} {below : List Frame} {meth : Method} {c : Code} {H : Heap} {locs : List Loc} {cells slots : Nat} {Q : State → Prop} {cc : ByteArray} {pc nL : Nat} {ls : Array Slot} {rest : List Value} {G : gG} {own : String} {da : Nat → Nat} {v : vSt} {x : gX} (X : CX G p s m args c cc nL own) (hS : va_S (gA G) s.heap H locs) (hH : Hp G da v x H) {r : Nat} (hk_r : kd r = 11) {p1 : Int32} {p2 : Int32} (ho : oX11_notes r p1 p2 v) {idx : Nat} (hml : Cond.methodLink own idx yX11_notes ∈ TT) (hls : ls.size = nL) (hsum : (rest.map fun v => v.category).sum ≤ 8) (hR : rmX11_notes.frames + 1 ≤ R.frames ∧ 8 + (4 + 11) + rmX11_notes.locals ≤ R.locals) (hcs : cells ≤ R.cells ∧ slots ≤ R.slots) (hdg : decode cc pc = .ok (.invokevirtual idx, 3)) (kk : ∀ (d : Nat → Nat) (H1 : Heap) (locs1 : List Loc) (v1 : vSt), v1 = fX11_notes r p1 p2 v → Hp G d v1 x H1 → va_S (gA G) s.heap H1 locs1 → W p l e R s m args below meth c H1 locs1 cells slots Q (F0 m (pc + 3) ls rest)) : W p l e R s m args below meth c H locs cells slots Q (F0 m pc ls (.int p2 :: .int p1 :: .ref (ga G r) :: rest)) := c_mv X.2.2.2.2.2.2 (runV (k := 2) X.1 X.2.1 X.2.2.1 X.2.2.2.1 X.2.2.2.2.1 (mX11_notes l G da v x r hk_r p1 p2 ho) pW_bl hml t_im_X11_notes t_sel_X11_notes t_ini_VernierDrawersModel t_code_X11_notes ⟨rfl, by decide, by decide, by decide +kernel⟩ rfl rfl hR hcs (recvW X hH (by rw [hk_r]; decide) (by rw [hk_r]; decide) (ce_11 hk_r) rfl) (preW X hS hH) rfl hls rfl hsum hdg) hS kk
def fX11_onChart (r : Nat) (p1 : Int32) (p2 : Int32) (v : vSt) : Int32 := fX11_of r p1 (9 + p2) v
def oX11_onChart (r : Nat) (p1 : Int32) (p2 : Int32) (v : vSt) : Prop := oX11_of r p1 (9 + p2) v
abbrev rmX11_onChart : Room := { frames := 1, cells := 0, slots := 0, locals := 22 }
theorem dX11_onChart_0 : decode cX11_onChart 0 = .ok (.aload_n 0, 1) := by decide +kernel
theorem dX11_onChart_1 : decode cX11_onChart 1 = .ok (.iload_n 1, 1) := by decide +kernel
theorem dX11_onChart_2 : decode cX11_onChart 2 = .ok (.bipush 9, 2) := by decide +kernel
theorem dX11_onChart_4 : decode cX11_onChart 4 = .ok (.iload_n 2, 1) := by decide +kernel
theorem dX11_onChart_5 : decode cX11_onChart 5 = .ok (.iadd, 1) := by decide +kernel
theorem dX11_onChart_6 : decode cX11_onChart 6 = .ok (.invokevirtual 90, 3) := by decide +kernel
theorem dX11_onChart_9 : decode cX11_onChart 9 = .ok (.ireturn, 1) := by decide +kernel
set_option maxHeartbeats 8000000 in
set_option maxRecDepth 100000 in
theorem mX11_onChart (l : Launch) (G : gG) (da : Nat → Nat) (v : vSt) (x : gX) (r : Nat) (hk_r : kd r = 11) (p1 : Int32) (p2 : Int32) (ho : oX11_onChart r p1 p2 v) : QI l yX11_onChart cX11_onChart 3 (some .int) rmX11_onChart [.ref (ga G r), .int p1, .int p2] (pW G da v x) (fX11_onChart r p1 p2 v) := by
  refine gofQ (own := RX11) (by decide) rfl (Nat.le_of_ble_eq_true rfl) (fun p e s m args below meth c ls Q X hH hl E => ?_)
  have hx := X.1
  have hb := X.2.1
  have hown := X.2.2.2.1
  have hts := X.2.2.2.2.1
  have hS : va_S (gA G) s.heap s.heap [] := va_S.rf
  unfold oX11_onChart at ho
  have hl : lv_has ls 3 [(0, .ref (ga G r)), (1, .int p1), (2, .int p2)] := hl
  refine lv_aload_n hx hb dX11_onChart_0 rfl (lv_at hl 0 rfl) ?_
  refine lv_iload_n hx hb dX11_onChart_1 rfl (lv_at hl 1 rfl) ?_
  refine lv_bipush (v := 9) hx hb dX11_onChart_2 (by decide) ?_
  refine lv_iload_n hx hb dX11_onChart_4 rfl (lv_at hl 2 rfl) ?_
  refine lv_iadd hx hb dX11_onChart_5 ?_
  have hq1 := ho
  refine k_X11_of X hS hH hk_r hq1 t_ml_VernierDrawersModel_90 hl.1 (Nat.le_of_ble_eq_true rfl) ⟨Nat.le_of_ble_eq_true rfl, Nat.le_of_ble_eq_true rfl⟩ ⟨Nat.zero_le _, Nat.zero_le _⟩ dX11_onChart_6 ?_
  exact E _ _ _ dX11_onChart_9 rfl (Eq.symm rfl)
theorem k_X11_onChart {p : Program} {l : Launch} {e : Env} {R : Room} {s : State} {m : MethodId} {args : Array Value} {below : List Frame} {meth : Method} {c : Code} {H : Heap} {locs : List Loc} {cells slots : Nat} {Q : State → Prop} {cc : ByteArray} {pc nL : Nat} {ls : Array Slot} {rest : List Value} {G : gG} {own : String} {da : Nat → Nat} {v : vSt} {x : gX} (X : CX G p s m args c cc nL own) (hS : va_S (gA G) s.heap H locs) (hH : Hp G da v x H) {r : Nat} (hk_r : kd r = 11) {p1 : Int32} {p2 : Int32} (ho : oX11_onChart r p1 p2 v) {idx : Nat} (hml : Cond.methodLink own idx yX11_onChart ∈ TT) (hls : ls.size = nL) (hsum : (rest.map fun v => v.category).sum ≤ 8) (hR : rmX11_onChart.frames + 1 ≤ R.frames ∧ 8 + (3 + 11) + rmX11_onChart.locals ≤ R.locals) (hcs : cells ≤ R.cells ∧ slots ≤ R.slots) (hdg : decode cc pc = .ok (.invokevirtual idx, 3)) (kk : W p l e R s m args below meth c H locs cells slots Q (F0 m (pc + 3) ls (.int (fX11_onChart r p1 p2 v) :: rest))) : W p l e R s m args below meth c H locs cells slots Q (F0 m pc ls (.int p2 :: .int p1 :: .ref (ga G r) :: rest)) := c_qi (runV (k := 2) X.1 X.2.1 X.2.2.1 X.2.2.2.1 X.2.2.2.2.1 (mX11_onChart l G da v x r hk_r p1 p2 ho) pW_bl hml t_im_X11_onChart t_sel_X11_onChart t_ini_VernierDrawersModel t_code_X11_onChart ⟨rfl, by decide, by decide, by decide +kernel⟩ rfl rfl hR hcs (recvW X hH (by rw [hk_r]; decide) (by rw [hk_r]; decide) (ce_11 hk_r) rfl) (preW X hS hH) rfl hls rfl hsum hdg) (fun _ h => h ▸ kk)
def lX11_charts_17 (v : vSt) (r : Nat) (p1 : Int32) : Nat → Int32 → vSt → vSt
  | 0, i5, v6 => v6
  | n + 1, i5, v6 => if ((fX11_of r p1 8 v) : Int32) ≤ i5 then v6 else (let v10 : vSt := fX11_lays r p1 ((9 + i5) - 1) (fX11_onChart r p1 i5 v6) v6; lX11_charts_17 v r p1 n (i5 + 1) v10)
def olX11_charts_17 (v : vSt) (r : Nat) (p1 : Int32) : Nat → Int32 → vSt → Prop
  | 0, _, _ => False
  | n + 1, i5, v6 => ¬ (((fX11_of r p1 8 v) : Int32) ≤ i5) → ((oX11_onChart r p1 i5 v6) ∧ ((oX11_lays r p1 ((9 + i5) - 1) (fX11_onChart r p1 i5 v6) v6) ∧ (∀ v10 : vSt, v10 = (fX11_lays r p1 ((9 + i5) - 1) (fX11_onChart r p1 i5 v6) v6) → (olX11_charts_17 v r p1 n (i5 + 1) v10))))
def fX11_charts (r : Nat) (p1 : Int32) (p2 : Int32) (v : vSt) : vSt := let qy2 : Int32 × vSt := (if ((fX11_of r p1 8 v) : Int32) = 12 then (let v7 : vSt := (lX11_charts_17 v r p1 ((Int32.toInt ((fX11_of r p1 8 v)) - Int32.toInt 1).toNat + 1) 1 v); ((fX11_of r p1 8 v) + (-1), v7)) else ((fX11_of r p1 8 v, v)) : Int32 × vSt); let y2 := qy2.1; let v3 := qy2.2; let v6 : vSt := fX11_lays r p1 (9 + y2) p2 v3; let v8 : vSt := fX11_lays r p1 8 (y2 + 1) v6; v8
def oX11_charts (r : Nat) (p1 : Int32) (p2 : Int32) (v : vSt) : Prop := (oX11_of r p1 8 v) ∧ (((((fX11_of r p1 8 v) : Int32) = 12) → (olX11_charts_17 v r p1 ((Int32.toInt ((fX11_of r p1 8 v)) - Int32.toInt 1).toNat + 1) 1 v)) ∧ (∀ (y2 : Int32) (v3 : vSt), y2 = ((if ((fX11_of r p1 8 v) : Int32) = 12 then (let v7 : vSt := (lX11_charts_17 v r p1 ((Int32.toInt ((fX11_of r p1 8 v)) - Int32.toInt 1).toNat + 1) 1 v); ((fX11_of r p1 8 v) + (-1), v7)) else ((fX11_of r p1 8 v, v)) : Int32 × vSt) : Int32 × vSt).1 → v3 = ((if ((fX11_of r p1 8 v) : Int32) = 12 then (let v7 : vSt := (lX11_charts_17 v r p1 ((Int32.toInt ((fX11_of r p1 8 v)) - Int32.toInt 1).toNat + 1) 1 v); ((fX11_of r p1 8 v) + (-1), v7)) else ((fX11_of r p1 8 v, v)) : Int32 × vSt) : Int32 × vSt).2 → ((oX11_lays r p1 (9 + y2) p2 v3) ∧ (∀ v6 : vSt, v6 = (fX11_lays r p1 (9 + y2) p2 v3) → (oX11_lays r p1 8 (y2 + 1) v6)))))
abbrev rmX11_charts : Room := { frames := 2, cells := 0, slots := 0, locals := 44 }
theorem dX11_charts_0 : decode cX11_charts 0 = .ok (.aload_n 0, 1) := by decide +kernel
theorem dX11_charts_1 : decode cX11_charts 1 = .ok (.iload_n 1, 1) := by decide +kernel
theorem dX11_charts_2 : decode cX11_charts 2 = .ok (.bipush 8, 2) := by decide +kernel
theorem dX11_charts_4 : decode cX11_charts 4 = .ok (.invokevirtual 90, 3) := by decide +kernel
theorem dX11_charts_7 : decode cX11_charts 7 = .ok (.istore_n 3, 1) := by decide +kernel
theorem dX11_charts_8 : decode cX11_charts 8 = .ok (.iload_n 3, 1) := by decide +kernel
theorem dX11_charts_9 : decode cX11_charts 9 = .ok (.bipush 12, 2) := by decide +kernel
theorem dX11_charts_11 : decode cX11_charts 11 = .ok (.if_icmp .ne 40, 3) := by decide +kernel
theorem dX11_charts_14 : decode cX11_charts 14 = .ok (.iconst 1, 1) := by decide +kernel
theorem dX11_charts_15 : decode cX11_charts 15 = .ok (.istore 4, 2) := by decide +kernel
theorem dX11_charts_17 : decode cX11_charts 17 = .ok (.iload 4, 2) := by decide +kernel
theorem dX11_charts_19 : decode cX11_charts 19 = .ok (.iload_n 3, 1) := by decide +kernel
theorem dX11_charts_20 : decode cX11_charts 20 = .ok (.if_icmp .ge 28, 3) := by decide +kernel
theorem dX11_charts_23 : decode cX11_charts 23 = .ok (.aload_n 0, 1) := by decide +kernel
theorem dX11_charts_24 : decode cX11_charts 24 = .ok (.iload_n 1, 1) := by decide +kernel
theorem dX11_charts_25 : decode cX11_charts 25 = .ok (.bipush 9, 2) := by decide +kernel
theorem dX11_charts_27 : decode cX11_charts 27 = .ok (.iload 4, 2) := by decide +kernel
theorem dX11_charts_29 : decode cX11_charts 29 = .ok (.iadd, 1) := by decide +kernel
theorem dX11_charts_30 : decode cX11_charts 30 = .ok (.iconst 1, 1) := by decide +kernel
theorem dX11_charts_31 : decode cX11_charts 31 = .ok (.isub, 1) := by decide +kernel
theorem dX11_charts_32 : decode cX11_charts 32 = .ok (.aload_n 0, 1) := by decide +kernel
theorem dX11_charts_33 : decode cX11_charts 33 = .ok (.iload_n 1, 1) := by decide +kernel
theorem dX11_charts_34 : decode cX11_charts 34 = .ok (.iload 4, 2) := by decide +kernel
theorem dX11_charts_36 : decode cX11_charts 36 = .ok (.invokevirtual 123, 3) := by decide +kernel
theorem dX11_charts_39 : decode cX11_charts 39 = .ok (.invokevirtual 116, 3) := by decide +kernel
theorem dX11_charts_42 : decode cX11_charts 42 = .ok (.iinc 4 1, 3) := by decide +kernel
theorem dX11_charts_45 : decode cX11_charts 45 = .ok (.goto (-28), 3) := by decide +kernel
theorem dX11_charts_48 : decode cX11_charts 48 = .ok (.iinc 3 (-1), 3) := by decide +kernel
theorem dX11_charts_51 : decode cX11_charts 51 = .ok (.aload_n 0, 1) := by decide +kernel
theorem dX11_charts_52 : decode cX11_charts 52 = .ok (.iload_n 1, 1) := by decide +kernel
theorem dX11_charts_53 : decode cX11_charts 53 = .ok (.bipush 9, 2) := by decide +kernel
theorem dX11_charts_55 : decode cX11_charts 55 = .ok (.iload_n 3, 1) := by decide +kernel
theorem dX11_charts_56 : decode cX11_charts 56 = .ok (.iadd, 1) := by decide +kernel
theorem dX11_charts_57 : decode cX11_charts 57 = .ok (.iload_n 2, 1) := by decide +kernel
theorem dX11_charts_58 : decode cX11_charts 58 = .ok (.invokevirtual 116, 3) := by decide +kernel
theorem dX11_charts_61 : decode cX11_charts 61 = .ok (.aload_n 0, 1) := by decide +kernel
theorem dX11_charts_62 : decode cX11_charts 62 = .ok (.iload_n 1, 1) := by decide +kernel
theorem dX11_charts_63 : decode cX11_charts 63 = .ok (.bipush 8, 2) := by decide +kernel
theorem dX11_charts_65 : decode cX11_charts 65 = .ok (.iload_n 3, 1) := by decide +kernel
theorem dX11_charts_66 : decode cX11_charts 66 = .ok (.iconst 1, 1) := by decide +kernel
theorem dX11_charts_67 : decode cX11_charts 67 = .ok (.iadd, 1) := by decide +kernel
theorem dX11_charts_68 : decode cX11_charts 68 = .ok (.invokevirtual 116, 3) := by decide +kernel
theorem dX11_charts_71 : decode cX11_charts 71 = .ok (.return_, 1) := by decide +kernel
set_option maxHeartbeats 8000000 in
set_option maxRecDepth 100000 in
theorem mX11_charts (l : Launch) (G : gG) (da : Nat → Nat) (v : vSt) (x : gX) (r : Nat) (hk_r : kd r = 11) (p1 : Int32) (p2 : Int32) (ho : oX11_charts r p1 p2 v) : MV l yX11_charts cX11_charts 5 none rmX11_charts [.ref (ga G r), .int p1, .int p2] G da v x 0 0 (fX11_charts r p1 p2 v) x := by
  refine gofMV (own := RX11) (by decide) rfl (Nat.le_of_ble_eq_true rfl) (fun p e s m args below meth c ls Q X hH hl E => ?_)
  have hx := X.1
  have hb := X.2.1
  have hown := X.2.2.2.1
  have hts := X.2.2.2.2.1
  have hS : va_S (gA G) s.heap s.heap [] := va_S.rf
  unfold oX11_charts at ho
  have hl : lv_has ls 5 [(0, .ref (ga G r)), (1, .int p1), (2, .int p2)] := hl
  refine lv_aload_n hx hb dX11_charts_0 rfl (lv_at hl 0 rfl) ?_
  refine lv_iload_n hx hb dX11_charts_1 rfl (lv_at hl 1 rfl) ?_
  refine lv_bipush (v := 8) hx hb dX11_charts_2 (by decide) ?_
  have hq1 := ho.1
  have ho := ho.2
  refine k_X11_of X hS hH hk_r hq1 t_ml_VernierDrawersModel_90 hl.1 (Nat.le_of_ble_eq_true rfl) ⟨Nat.le_of_ble_eq_true rfl, Nat.le_of_ble_eq_true rfl⟩ ⟨Nat.zero_le _, Nat.zero_le _⟩ dX11_charts_4 ?_
  refine lv_istore_n (lv' := [(3, .int (fX11_of r p1 8 v)), (0, .ref (ga G r)), (1, .int p1), (2, .int p2)]) hx hb dX11_charts_7 rfl hl (by decide) rfl (fun ls hl => ?_)
  refine lv_iload_n hx hb dX11_charts_8 rfl (lv_at hl 0 rfl) ?_
  refine lv_bipush (v := 12) hx hb dX11_charts_9 (by decide) ?_
  have K4 : ∀ (y2 : Int32) (v3 : vSt) (da : Nat → Nat) (H : Heap) (locs : List Loc) (ls : Array Slot), y2 = (if ((fX11_of r p1 8 v) : Int32) = 12 then (let v7 : vSt := (lX11_charts_17 v r p1 ((Int32.toInt ((fX11_of r p1 8 v)) - Int32.toInt 1).toNat + 1) 1 v); ((fX11_of r p1 8 v) + (-1), v7)) else ((fX11_of r p1 8 v, v)) : Int32 × vSt).1 → v3 = (if ((fX11_of r p1 8 v) : Int32) = 12 then (let v7 : vSt := (lX11_charts_17 v r p1 ((Int32.toInt ((fX11_of r p1 8 v)) - Int32.toInt 1).toNat + 1) 1 v); ((fX11_of r p1 8 v) + (-1), v7)) else ((fX11_of r p1 8 v, v)) : Int32 × vSt).2 → Hp G da v3 x H → va_S (gA G) s.heap H locs → lv_has ls 5 [(3, .int y2), (0, .ref (ga G r)), (1, .int p1), (2, .int p2)] → W p l e rmX11_charts s m args below meth c H locs 0 0 Q (F0 m 51 ls []) := by
    intro y2 v3 da H locs ls ey2 ev3 hH hS hl
    have ho := ho.2 y2 v3 ey2 ev3
    refine lv_aload_n hx hb dX11_charts_51 rfl (lv_at hl 1 rfl) ?_
    refine lv_iload_n hx hb dX11_charts_52 rfl (lv_at hl 2 rfl) ?_
    refine lv_bipush (v := 9) hx hb dX11_charts_53 (by decide) ?_
    refine lv_iload_n hx hb dX11_charts_55 rfl (lv_at hl 0 rfl) ?_
    refine lv_iadd hx hb dX11_charts_56 ?_
    refine lv_iload_n hx hb dX11_charts_57 rfl (lv_at hl 3 rfl) ?_
    have hq5 := ho.1
    have ho := ho.2
    refine k_X11_lays X hS hH hk_r hq5 t_ml_VernierDrawersModel_116 hl.1 (Nat.le_of_ble_eq_true rfl) ⟨Nat.le_of_ble_eq_true rfl, Nat.le_of_ble_eq_true rfl⟩ ⟨Nat.zero_le _, Nat.zero_le _⟩ dX11_charts_58 (fun da H locs v6 ev6 hH hS => ?_)
    have ho := ho v6 ev6
    refine lv_aload_n hx hb dX11_charts_61 rfl (lv_at hl 1 rfl) ?_
    refine lv_iload_n hx hb dX11_charts_62 rfl (lv_at hl 2 rfl) ?_
    refine lv_bipush (v := 8) hx hb dX11_charts_63 (by decide) ?_
    refine lv_iload_n hx hb dX11_charts_65 rfl (lv_at hl 0 rfl) ?_
    refine lv_iconst (v := 1) hx hb dX11_charts_66 (by decide) ?_
    refine lv_iadd hx hb dX11_charts_67 ?_
    have hq7 := ho
    refine k_X11_lays X hS hH hk_r hq7 t_ml_VernierDrawersModel_116 hl.1 (Nat.le_of_ble_eq_true rfl) ⟨Nat.le_of_ble_eq_true rfl, Nat.le_of_ble_eq_true rfl⟩ ⟨Nat.zero_le _, Nat.zero_le _⟩ dX11_charts_68 (fun da H locs v8 ev8 hH hS => ?_)
    replace ey2 := Eq.symm ey2
    replace ev3 := Eq.symm ev3
    replace ev6 := Eq.symm ev6
    replace ev8 := Eq.symm ev8
    subst ey2 ev3 ev6 ev8
    exact E _ _ _ _ _ _ _ _ dX11_charts_71 (Eq.symm rfl) hH hS (Nat.zero_le _) (Nat.zero_le _)
  have ho := ho.1
  refine lv_icmp_ne (tgt := 51) hx hb dX11_charts_11 (by decide) (fun c4 => ?_) (fun c4 => ?_)
  · skip
    exact K4 _ _ _ _ _ _ (pr1 ((if_neg c4).trans rfl)) (pr2 ((if_neg c4).trans rfl)) hH hS (lv_sub hl [0, 1, 2, 3] rfl)
  · have ho := ho c4
    refine lv_iconst (v := 1) hx hb dX11_charts_14 (by decide) ?_
    refine lv_istore (lv' := [(4, .int 1), (3, .int (fX11_of r p1 8 v)), (0, .ref (ga G r)), (1, .int p1), (2, .int p2)]) hx hb dX11_charts_15 hl (by decide) rfl (fun ls hl => ?_)
    have L8 : ∀ (n : Nat) (i5 : Int32) (v6 : vSt) (da : Nat → Nat) (H : Heap) (locs : List Loc) (ls : Array Slot), olX11_charts_17 v r p1 n i5 v6 → Hp G da v6 x H → va_S (gA G) s.heap H locs → lv_has ls 5 [(4, .int i5), (3, .int (fX11_of r p1 8 v)), (0, .ref (ga G r)), (1, .int p1), (2, .int p2)] → (∀ (v7 : vSt) (da : Nat → Nat) (H : Heap) (locs : List Loc) (ls : Array Slot), v7 = (lX11_charts_17 v r p1 n i5 v6 : vSt) → Hp G da v7 x H → va_S (gA G) s.heap H locs → lv_has ls 5 [(3, .int (fX11_of r p1 8 v)), (0, .ref (ga G r)), (1, .int p1), (2, .int p2)] → W p l e rmX11_charts s m args below meth c H locs 0 0 Q (F0 m 48 ls [])) → W p l e rmX11_charts s m args below meth c H locs 0 0 Q (F0 m 17 ls []) := by
      clear ho
      intro n
      induction n with
      | zero =>
        intro i5 v6 da H locs ls ho
        exact ho.elim
      | succ n ih =>
        intro i5 v6 da H locs ls ho hH hS hl K9
        refine lv_iload hx hb dX11_charts_17 (lv_at hl 0 rfl) ?_
        refine lv_iload_n hx hb dX11_charts_19 rfl (lv_at hl 1 rfl) ?_
        refine lv_icmp_ge (tgt := 48) hx hb dX11_charts_20 (by decide) (fun c7 => ?_) (fun c7 => ?_)
        · skip
          exact K9 _ _ _ _ _ (Eq.symm (((lX11_charts_17.eq_2 _ _ _ _ _ _)).trans ((if_pos c7).trans rfl))) hH hS (lv_sub hl [1, 2, 3, 4] rfl)
        · have ho := ho c7
          refine lv_aload_n hx hb dX11_charts_23 rfl (lv_at hl 2 rfl) ?_
          refine lv_iload_n hx hb dX11_charts_24 rfl (lv_at hl 3 rfl) ?_
          refine lv_bipush (v := 9) hx hb dX11_charts_25 (by decide) ?_
          refine lv_iload hx hb dX11_charts_27 (lv_at hl 0 rfl) ?_
          refine lv_iadd hx hb dX11_charts_29 ?_
          refine lv_iconst (v := 1) hx hb dX11_charts_30 (by decide) ?_
          refine lv_isub hx hb dX11_charts_31 ?_
          refine lv_aload_n hx hb dX11_charts_32 rfl (lv_at hl 2 rfl) ?_
          refine lv_iload_n hx hb dX11_charts_33 rfl (lv_at hl 3 rfl) ?_
          refine lv_iload hx hb dX11_charts_34 (lv_at hl 0 rfl) ?_
          have hq8 := ho.1
          have ho := ho.2
          refine k_X11_onChart X hS hH hk_r hq8 t_ml_VernierDrawersModel_123 hl.1 (Nat.le_of_ble_eq_true rfl) ⟨Nat.le_of_ble_eq_true rfl, Nat.le_of_ble_eq_true rfl⟩ ⟨Nat.zero_le _, Nat.zero_le _⟩ dX11_charts_36 ?_
          have hq9 := ho.1
          have ho := ho.2
          refine k_X11_lays X hS hH hk_r hq9 t_ml_VernierDrawersModel_116 hl.1 (Nat.le_of_ble_eq_true rfl) ⟨Nat.le_of_ble_eq_true rfl, Nat.le_of_ble_eq_true rfl⟩ ⟨Nat.zero_le _, Nat.zero_le _⟩ dX11_charts_39 (fun da H locs v10 ev10 hH hS => ?_)
          have ho := ho v10 ev10
          refine lv_iinc (v := i5 + 1) (lv' := [(4, .int (i5 + 1)), (3, .int (fX11_of r p1 8 v)), (0, .ref (ga G r)), (1, .int p1), (2, .int p2)]) hx hb dX11_charts_42 hl (k := 0) rfl rfl (by decide) rfl (fun ls hl => ?_)
          refine lv_goto (tgt := 17) hx hb dX11_charts_45 (by decide) ?_
          replace ev10 := Eq.symm ev10
          subst ev10
          exact ih _ _ _ _ _ _ ho hH hS (lv_sub hl [0, 1, 2, 3, 4] rfl) (fun v7 da H locs ls q0 hH hS hl => K9 v7 da H locs ls (q0.trans (congrArg (fun z : vSt => z) (Eq.symm (((lX11_charts_17.eq_2 _ _ _ _ _ _)).trans ((if_neg c7).trans rfl))))) hH hS hl)
    have hol := ho
    refine L8 ((Int32.toInt ((fX11_of r p1 8 v)) - Int32.toInt 1).toNat + 1) 1 v _ _ _ _ hol hH hS (lv_sub hl [0, 1, 2, 3, 4] rfl) (fun v7 da H locs ls ev7 hH hS hl => ?_)
    refine lv_iinc (v := (fX11_of r p1 8 v) + (-1)) (lv' := [(3, .int ((fX11_of r p1 8 v) + (-1))), (0, .ref (ga G r)), (1, .int p1), (2, .int p2)]) hx hb dX11_charts_48 hl (k := 0) rfl rfl (by decide) rfl (fun ls hl => ?_)
    replace ev7 := Eq.symm ev7
    subst ev7
    exact K4 _ _ _ _ _ _ (pr1 ((if_pos c4).trans rfl)) (pr2 ((if_pos c4).trans rfl)) hH hS (lv_sub hl [0, 1, 2, 3] rfl)
theorem k_X11_charts {p : Program} {l : Launch} {e : Env} {R : Room} {s : State} {m : MethodId} {args : Array Value} {below : List Frame} {meth : Method} {c : Code} {H : Heap} {locs : List Loc} {cells slots : Nat} {Q : State → Prop} {cc : ByteArray} {pc nL : Nat} {ls : Array Slot} {rest : List Value} {G : gG} {own : String} {da : Nat → Nat} {v : vSt} {x : gX} (X : CX G p s m args c cc nL own) (hS : va_S (gA G) s.heap H locs) (hH : Hp G da v x H) {r : Nat} (hk_r : kd r = 11) {p1 : Int32} {p2 : Int32} (ho : oX11_charts r p1 p2 v) {idx : Nat} (hml : Cond.methodLink own idx yX11_charts ∈ TT) (hls : ls.size = nL) (hsum : (rest.map fun v => v.category).sum ≤ 8) (hR : rmX11_charts.frames + 1 ≤ R.frames ∧ 8 + (5 + 11) + rmX11_charts.locals ≤ R.locals) (hcs : cells ≤ R.cells ∧ slots ≤ R.slots) (hdg : decode cc pc = .ok (.invokevirtual idx, 3)) (kk : ∀ (d : Nat → Nat) (H1 : Heap) (locs1 : List Loc) (v1 : vSt), v1 = fX11_charts r p1 p2 v → Hp G d v1 x H1 → va_S (gA G) s.heap H1 locs1 → W p l e R s m args below meth c H1 locs1 cells slots Q (F0 m (pc + 3) ls rest)) : W p l e R s m args below meth c H locs cells slots Q (F0 m pc ls (.int p2 :: .int p1 :: .ref (ga G r) :: rest)) := c_mv X.2.2.2.2.2.2 (runV (k := 2) X.1 X.2.1 X.2.2.1 X.2.2.2.1 X.2.2.2.2.1 (mX11_charts l G da v x r hk_r p1 p2 ho) pW_bl hml t_im_X11_charts t_sel_X11_charts t_ini_VernierDrawersModel t_code_X11_charts ⟨rfl, by decide, by decide, by decide +kernel⟩ rfl rfl hR hcs (recvW X hH (by rw [hk_r]; decide) (by rw [hk_r]; decide) (ce_11 hk_r) rfl) (preW X hS hH) rfl hls rfl hsum hdg) hS kk
