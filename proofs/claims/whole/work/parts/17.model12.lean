/-! 17.model -/
def lX11_goFile_102 : Nat → Int32 → vSt → vSt
  | 0, i10, v11 => v11
  | n + 1, i10, v11 => if ((v11 462 (207 : Int32).toNatClampNeg) : Int32) ≤ i10 then v11 else (let v15 : vSt := u2 v11 462 (217 + i10 : Int32).toNatClampNeg (v11 462 ((217 + i10) + 1 : Int32).toNatClampNeg); lX11_goFile_102 n (i10 + 1) v15)
def olX11_goFile_102 : Nat → Int32 → vSt → Prop
  | 0, _, _ => False
  | n + 1, i10, v11 => ¬ (((v11 462 (207 : Int32).toNatClampNeg) : Int32) ≤ i10) → ((vp_in ((217 + i10) + 1) (mlen 462)) ∧ ((vp_in (217 + i10) (mlen 462)) ∧ (∀ v15 : vSt, v15 = (u2 v11 462 (217 + i10 : Int32).toNatClampNeg (v11 462 ((217 + i10) + 1 : Int32).toNatClampNeg)) → (olX11_goFile_102 n (i10 + 1) v15))))
def fX11_goFile (r : Nat) (p1 : Int32) (v : vSt) : Int32 × vSt := if ((fX11_in p1 1 99) : Int32) = 0 then (((-100001), v)) else (let y4 : Int32 := (if ((v 462 (207 : Int32).toNatClampNeg) : Int32) ≤ 0 then 0 else (if (20 : Int32) ≤ (v 462 (206 : Int32).toNatClampNeg) then 0 else 1) : Int32); if (y4 : Int32) = 0 then (((-100002), v)) else (if (1 : Int32) ≤ ((fX11_of r (fX11_typeOf (v 462 (217 : Int32).toNatClampNeg)) 0 v) + ((fX11_deviationOf (v 462 (217 : Int32).toNatClampNeg)) - p1)) then (let v9 : vSt := u2 v 462 (207 : Int32).toNatClampNeg ((v 462 (207 : Int32).toNatClampNeg) - 1); let v12 : vSt := (lX11_goFile_102 ((Int32.toInt ((v9 462 (207 : Int32).toNatClampNeg)) - Int32.toInt 0).toNat + 1) 0 v9); let v17 : vSt := u2 v12 462 (217 + (v12 462 (207 : Int32).toNatClampNeg) : Int32).toNatClampNeg 0; let v19 : vSt := fX11_toBench r (fX11_piece (fX11_typeOf (v 462 (217 : Int32).toNatClampNeg)) ((fX11_deviationOf (v 462 (217 : Int32).toNatClampNeg)) - p1) 0) v17; ((fX11_deviationOf (v 462 (217 : Int32).toNatClampNeg)) - p1, v19)) else (((-100002), v))))
def oX11_goFile (r : Nat) (p1 : Int32) (v : vSt) : Prop := ¬ (((fX11_in p1 1 99) : Int32) = 0) → ((vp_in (217) (mlen 462)) ∧ ((vp_in (207) (mlen 462)) ∧ ((¬ (((v 462 (207 : Int32).toNatClampNeg) : Int32) ≤ 0) → (vp_in (206) (mlen 462))) ∧ (∀ (y4 : Int32), y4 = ((if ((v 462 (207 : Int32).toNatClampNeg) : Int32) ≤ 0 then 0 else (if (20 : Int32) ≤ (v 462 (206 : Int32).toNatClampNeg) then 0 else 1) : Int32) : Int32) → (¬ ((y4 : Int32) = 0) → ((oX11_of r (fX11_typeOf (v 462 (217 : Int32).toNatClampNeg)) 0 v) ∧ (((1 : Int32) ≤ ((fX11_of r (fX11_typeOf (v 462 (217 : Int32).toNatClampNeg)) 0 v) + ((fX11_deviationOf (v 462 (217 : Int32).toNatClampNeg)) - p1))) → (∀ v9 : vSt, v9 = (u2 v 462 (207 : Int32).toNatClampNeg ((v 462 (207 : Int32).toNatClampNeg) - 1)) → (olX11_goFile_102 ((Int32.toInt ((v9 462 (207 : Int32).toNatClampNeg)) - Int32.toInt 0).toNat + 1) 0 v9 ∧ (∀ (v12 : vSt), v12 = ((lX11_goFile_102 ((Int32.toInt ((v9 462 (207 : Int32).toNatClampNeg)) - Int32.toInt 0).toNat + 1) 0 v9) : vSt) → ((vp_in (217 + (v12 462 (207 : Int32).toNatClampNeg)) (mlen 462)) ∧ (∀ v17 : vSt, v17 = (u2 v12 462 (217 + (v12 462 (207 : Int32).toNatClampNeg) : Int32).toNatClampNeg 0) → (oX11_toBench r (fX11_piece (fX11_typeOf (v 462 (217 : Int32).toNatClampNeg)) ((fX11_deviationOf (v 462 (217 : Int32).toNatClampNeg)) - p1) 0) v17)))))))))))))
abbrev rmX11_goFile : Room := { frames := 1, cells := 0, slots := 0, locals := 22 }
theorem dX11_goFile_0 : decode cX11_goFile 0 = .ok (.iload_n 1, 1) := by decide +kernel
theorem dX11_goFile_1 : decode cX11_goFile 1 = .ok (.iconst 1, 1) := by decide +kernel
theorem dX11_goFile_2 : decode cX11_goFile 2 = .ok (.bipush 99, 2) := by decide +kernel
theorem dX11_goFile_4 : decode cX11_goFile 4 = .ok (.invokestatic 49, 3) := by decide +kernel
theorem dX11_goFile_7 : decode cX11_goFile 7 = .ok (.ifCond .ne 6, 3) := by decide +kernel
theorem dX11_goFile_10 : decode cX11_goFile 10 = .ok (.ldc 40, 2) := by decide +kernel
theorem dX11_goFile_12 : decode cX11_goFile 12 = .ok (.ireturn, 1) := by decide +kernel
theorem dX11_goFile_13 : decode cX11_goFile 13 = .ok (.aload_n 0, 1) := by decide +kernel
theorem dX11_goFile_14 : decode cX11_goFile 14 = .ok (.getfield 7, 3) := by decide +kernel
theorem dX11_goFile_17 : decode cX11_goFile 17 = .ok (.sipush 217, 3) := by decide +kernel
theorem dX11_goFile_20 : decode cX11_goFile 20 = .ok (.iaload, 1) := by decide +kernel
theorem dX11_goFile_21 : decode cX11_goFile 21 = .ok (.istore_n 2, 1) := by decide +kernel
theorem dX11_goFile_22 : decode cX11_goFile 22 = .ok (.iload_n 2, 1) := by decide +kernel
theorem dX11_goFile_23 : decode cX11_goFile 23 = .ok (.invokestatic 83, 3) := by decide +kernel
theorem dX11_goFile_26 : decode cX11_goFile 26 = .ok (.istore_n 3, 1) := by decide +kernel
theorem dX11_goFile_27 : decode cX11_goFile 27 = .ok (.iload_n 2, 1) := by decide +kernel
theorem dX11_goFile_28 : decode cX11_goFile 28 = .ok (.invokestatic 93, 3) := by decide +kernel
theorem dX11_goFile_31 : decode cX11_goFile 31 = .ok (.iload_n 1, 1) := by decide +kernel
theorem dX11_goFile_32 : decode cX11_goFile 32 = .ok (.isub, 1) := by decide +kernel
theorem dX11_goFile_33 : decode cX11_goFile 33 = .ok (.istore 4, 2) := by decide +kernel
theorem dX11_goFile_35 : decode cX11_goFile 35 = .ok (.aload_n 0, 1) := by decide +kernel
theorem dX11_goFile_36 : decode cX11_goFile 36 = .ok (.getfield 7, 3) := by decide +kernel
theorem dX11_goFile_39 : decode cX11_goFile 39 = .ok (.sipush 207, 3) := by decide +kernel
theorem dX11_goFile_42 : decode cX11_goFile 42 = .ok (.iaload, 1) := by decide +kernel
theorem dX11_goFile_43 : decode cX11_goFile 43 = .ok (.ifCond .le 20, 3) := by decide +kernel
theorem dX11_goFile_46 : decode cX11_goFile 46 = .ok (.aload_n 0, 1) := by decide +kernel
theorem dX11_goFile_47 : decode cX11_goFile 47 = .ok (.getfield 7, 3) := by decide +kernel
theorem dX11_goFile_50 : decode cX11_goFile 50 = .ok (.sipush 206, 3) := by decide +kernel
theorem dX11_goFile_53 : decode cX11_goFile 53 = .ok (.iaload, 1) := by decide +kernel
theorem dX11_goFile_54 : decode cX11_goFile 54 = .ok (.bipush 20, 2) := by decide +kernel
theorem dX11_goFile_56 : decode cX11_goFile 56 = .ok (.if_icmp .ge 7, 3) := by decide +kernel
theorem dX11_goFile_59 : decode cX11_goFile 59 = .ok (.iconst 1, 1) := by decide +kernel
theorem dX11_goFile_60 : decode cX11_goFile 60 = .ok (.goto 4, 3) := by decide +kernel
theorem dX11_goFile_63 : decode cX11_goFile 63 = .ok (.iconst 0, 1) := by decide +kernel
theorem dX11_goFile_64 : decode cX11_goFile 64 = .ok (.istore 5, 2) := by decide +kernel
theorem dX11_goFile_66 : decode cX11_goFile 66 = .ok (.iload 5, 2) := by decide +kernel
theorem dX11_goFile_68 : decode cX11_goFile 68 = .ok (.ifCond .eq 16, 3) := by decide +kernel
theorem dX11_goFile_71 : decode cX11_goFile 71 = .ok (.aload_n 0, 1) := by decide +kernel
theorem dX11_goFile_72 : decode cX11_goFile 72 = .ok (.iload_n 3, 1) := by decide +kernel
theorem dX11_goFile_73 : decode cX11_goFile 73 = .ok (.iconst 0, 1) := by decide +kernel
theorem dX11_goFile_74 : decode cX11_goFile 74 = .ok (.invokevirtual 90, 3) := by decide +kernel
theorem dX11_goFile_77 : decode cX11_goFile 77 = .ok (.iload 4, 2) := by decide +kernel
theorem dX11_goFile_79 : decode cX11_goFile 79 = .ok (.iadd, 1) := by decide +kernel
theorem dX11_goFile_80 : decode cX11_goFile 80 = .ok (.iconst 1, 1) := by decide +kernel
theorem dX11_goFile_81 : decode cX11_goFile 81 = .ok (.if_icmp .ge 6, 3) := by decide +kernel
theorem dX11_goFile_84 : decode cX11_goFile 84 = .ok (.ldc 41, 2) := by decide +kernel
theorem dX11_goFile_86 : decode cX11_goFile 86 = .ok (.ireturn, 1) := by decide +kernel
theorem dX11_goFile_87 : decode cX11_goFile 87 = .ok (.aload_n 0, 1) := by decide +kernel
theorem dX11_goFile_88 : decode cX11_goFile 88 = .ok (.getfield 7, 3) := by decide +kernel
theorem dX11_goFile_91 : decode cX11_goFile 91 = .ok (.sipush 207, 3) := by decide +kernel
theorem dX11_goFile_94 : decode cX11_goFile 94 = .ok (.dup2, 1) := by decide +kernel
theorem dX11_goFile_95 : decode cX11_goFile 95 = .ok (.iaload, 1) := by decide +kernel
theorem dX11_goFile_96 : decode cX11_goFile 96 = .ok (.iconst 1, 1) := by decide +kernel
theorem dX11_goFile_97 : decode cX11_goFile 97 = .ok (.isub, 1) := by decide +kernel
theorem dX11_goFile_98 : decode cX11_goFile 98 = .ok (.iastore, 1) := by decide +kernel
theorem dX11_goFile_99 : decode cX11_goFile 99 = .ok (.iconst 0, 1) := by decide +kernel
theorem dX11_goFile_100 : decode cX11_goFile 100 = .ok (.istore 6, 2) := by decide +kernel
theorem dX11_goFile_102 : decode cX11_goFile 102 = .ok (.iload 6, 2) := by decide +kernel
theorem dX11_goFile_104 : decode cX11_goFile 104 = .ok (.aload_n 0, 1) := by decide +kernel
theorem dX11_goFile_105 : decode cX11_goFile 105 = .ok (.getfield 7, 3) := by decide +kernel
theorem dX11_goFile_108 : decode cX11_goFile 108 = .ok (.sipush 207, 3) := by decide +kernel
theorem dX11_goFile_111 : decode cX11_goFile 111 = .ok (.iaload, 1) := by decide +kernel
theorem dX11_goFile_112 : decode cX11_goFile 112 = .ok (.if_icmp .ge 33, 3) := by decide +kernel
theorem dX11_goFile_115 : decode cX11_goFile 115 = .ok (.aload_n 0, 1) := by decide +kernel
theorem dX11_goFile_116 : decode cX11_goFile 116 = .ok (.getfield 7, 3) := by decide +kernel
theorem dX11_goFile_119 : decode cX11_goFile 119 = .ok (.sipush 217, 3) := by decide +kernel
theorem dX11_goFile_122 : decode cX11_goFile 122 = .ok (.iload 6, 2) := by decide +kernel
theorem dX11_goFile_124 : decode cX11_goFile 124 = .ok (.iadd, 1) := by decide +kernel
theorem dX11_goFile_125 : decode cX11_goFile 125 = .ok (.aload_n 0, 1) := by decide +kernel
theorem dX11_goFile_126 : decode cX11_goFile 126 = .ok (.getfield 7, 3) := by decide +kernel
theorem dX11_goFile_129 : decode cX11_goFile 129 = .ok (.sipush 217, 3) := by decide +kernel
theorem dX11_goFile_132 : decode cX11_goFile 132 = .ok (.iload 6, 2) := by decide +kernel
theorem dX11_goFile_134 : decode cX11_goFile 134 = .ok (.iadd, 1) := by decide +kernel
theorem dX11_goFile_135 : decode cX11_goFile 135 = .ok (.iconst 1, 1) := by decide +kernel
theorem dX11_goFile_136 : decode cX11_goFile 136 = .ok (.iadd, 1) := by decide +kernel
theorem dX11_goFile_137 : decode cX11_goFile 137 = .ok (.iaload, 1) := by decide +kernel
theorem dX11_goFile_138 : decode cX11_goFile 138 = .ok (.iastore, 1) := by decide +kernel
theorem dX11_goFile_139 : decode cX11_goFile 139 = .ok (.iinc 6 1, 3) := by decide +kernel
theorem dX11_goFile_142 : decode cX11_goFile 142 = .ok (.goto (-40), 3) := by decide +kernel
theorem dX11_goFile_145 : decode cX11_goFile 145 = .ok (.aload_n 0, 1) := by decide +kernel
theorem dX11_goFile_146 : decode cX11_goFile 146 = .ok (.getfield 7, 3) := by decide +kernel
theorem dX11_goFile_149 : decode cX11_goFile 149 = .ok (.sipush 217, 3) := by decide +kernel
theorem dX11_goFile_152 : decode cX11_goFile 152 = .ok (.aload_n 0, 1) := by decide +kernel
theorem dX11_goFile_153 : decode cX11_goFile 153 = .ok (.getfield 7, 3) := by decide +kernel
theorem dX11_goFile_156 : decode cX11_goFile 156 = .ok (.sipush 207, 3) := by decide +kernel
theorem dX11_goFile_159 : decode cX11_goFile 159 = .ok (.iaload, 1) := by decide +kernel
theorem dX11_goFile_160 : decode cX11_goFile 160 = .ok (.iadd, 1) := by decide +kernel
theorem dX11_goFile_161 : decode cX11_goFile 161 = .ok (.iconst 0, 1) := by decide +kernel
theorem dX11_goFile_162 : decode cX11_goFile 162 = .ok (.iastore, 1) := by decide +kernel
theorem dX11_goFile_163 : decode cX11_goFile 163 = .ok (.aload_n 0, 1) := by decide +kernel
theorem dX11_goFile_164 : decode cX11_goFile 164 = .ok (.iload_n 3, 1) := by decide +kernel
theorem dX11_goFile_165 : decode cX11_goFile 165 = .ok (.iload 4, 2) := by decide +kernel
theorem dX11_goFile_167 : decode cX11_goFile 167 = .ok (.iconst 0, 1) := by decide +kernel
theorem dX11_goFile_168 : decode cX11_goFile 168 = .ok (.invokestatic 155, 3) := by decide +kernel
theorem dX11_goFile_171 : decode cX11_goFile 171 = .ok (.invokevirtual 158, 3) := by decide +kernel
theorem dX11_goFile_174 : decode cX11_goFile 174 = .ok (.iload 4, 2) := by decide +kernel
theorem dX11_goFile_176 : decode cX11_goFile 176 = .ok (.ireturn, 1) := by decide +kernel
set_option maxHeartbeats 8000000 in
set_option maxRecDepth 100000 in
theorem mX11_goFile (l : Launch) (G : gG) (da : Nat → Nat) (v : vSt) (x : gX) (r : Nat) (hk_r : kd r = 11) (p1 : Int32) (ho : oX11_goFile r p1 v) : MI l yX11_goFile cX11_goFile 7 (some .int) rmX11_goFile [.ref (ga G r), .int p1] G da v x 0 0 (fX11_goFile r p1 v).1 (fX11_goFile r p1 v).2 x := by
  refine gofMI (own := RX11) (by decide) rfl (Nat.le_of_ble_eq_true rfl) (fun p e s m args below meth c ls Q X hH hl E => ?_)
  have hx := X.1
  have hb := X.2.1
  have hown := X.2.2.2.1
  have hts := X.2.2.2.2.1
  have hS : va_S (gA G) s.heap s.heap [] := va_S.rf
  unfold oX11_goFile at ho
  have hl : lv_has ls 7 [(0, .ref (ga G r)), (1, .int p1)] := hl
  refine lv_iload_n hx hb dX11_goFile_0 rfl (lv_at hl 1 rfl) ?_
  refine lv_iconst (v := 1) hx hb dX11_goFile_1 (by decide) ?_
  refine lv_bipush (v := 99) hx hb dX11_goFile_2 (by decide) ?_
  refine k_X11_in X hS  t_ml_VernierDrawersModel_49 hl.1 (Nat.le_of_ble_eq_true rfl) ⟨Nat.le_of_ble_eq_true rfl, Nat.le_of_ble_eq_true rfl⟩ ⟨Nat.zero_le _, Nat.zero_le _⟩ dX11_goFile_4 ?_
  refine lv_if_ne (tgt := 13) hx hb dX11_goFile_7 (by decide) (fun c1 => ?_) (fun c1 => ?_)
  · have ho := ho c1
    refine lv_aload_n hx hb dX11_goFile_13 rfl (lv_at hl 0 rfl) ?_
    refine g_VernierDrawersModel_7 X hH hk_r dX11_goFile_14 ?_
    refine lv_sipush (v := 217) hx hb dX11_goFile_17 (by decide) ?_
    have hq2 := ho.1
    have ho := ho.2
    refine ald_M X hH (Or.inl kd_462) hq2 dX11_goFile_20 ?_
    refine lv_istore_n (lv' := [(2, .int (v 462 (217 : Int32).toNatClampNeg)), (0, .ref (ga G r)), (1, .int p1)]) hx hb dX11_goFile_21 rfl hl (by decide) rfl (fun ls hl => ?_)
    refine lv_iload_n hx hb dX11_goFile_22 rfl (lv_at hl 0 rfl) ?_
    refine k_X11_typeOf X hS  t_ml_VernierDrawersModel_83 hl.1 (Nat.le_of_ble_eq_true rfl) ⟨Nat.le_of_ble_eq_true rfl, Nat.le_of_ble_eq_true rfl⟩ ⟨Nat.zero_le _, Nat.zero_le _⟩ dX11_goFile_23 ?_
    refine lv_istore_n (lv' := [(3, .int (fX11_typeOf (v 462 (217 : Int32).toNatClampNeg))), (2, .int (v 462 (217 : Int32).toNatClampNeg)), (0, .ref (ga G r)), (1, .int p1)]) hx hb dX11_goFile_26 rfl hl (by decide) rfl (fun ls hl => ?_)
    refine lv_iload_n hx hb dX11_goFile_27 rfl (lv_at hl 1 rfl) ?_
    refine k_X11_deviationOf X hS  t_ml_VernierDrawersModel_93 hl.1 (Nat.le_of_ble_eq_true rfl) ⟨Nat.le_of_ble_eq_true rfl, Nat.le_of_ble_eq_true rfl⟩ ⟨Nat.zero_le _, Nat.zero_le _⟩ dX11_goFile_28 ?_
    refine lv_iload_n hx hb dX11_goFile_31 rfl (lv_at hl 3 rfl) ?_
    refine lv_isub hx hb dX11_goFile_32 ?_
    refine lv_istore (lv' := [(4, .int ((fX11_deviationOf (v 462 (217 : Int32).toNatClampNeg)) - p1)), (3, .int (fX11_typeOf (v 462 (217 : Int32).toNatClampNeg))), (2, .int (v 462 (217 : Int32).toNatClampNeg)), (0, .ref (ga G r)), (1, .int p1)]) hx hb dX11_goFile_33 hl (by decide) rfl (fun ls hl => ?_)
    refine lv_aload_n hx hb dX11_goFile_35 rfl (lv_at hl 3 rfl) ?_
    refine g_VernierDrawersModel_7 X hH hk_r dX11_goFile_36 ?_
    refine lv_sipush (v := 207) hx hb dX11_goFile_39 (by decide) ?_
    have hq3 := ho.1
    have ho := ho.2
    refine ald_M X hH (Or.inl kd_462) hq3 dX11_goFile_42 ?_
    have K5 : ∀ (y4 : Int32) (ls : Array Slot), y4 = (if ((v 462 (207 : Int32).toNatClampNeg) : Int32) ≤ 0 then 0 else (if (20 : Int32) ≤ (v 462 (206 : Int32).toNatClampNeg) then 0 else 1) : Int32) → lv_has ls 7 [(4, .int ((fX11_deviationOf (v 462 (217 : Int32).toNatClampNeg)) - p1)), (3, .int (fX11_typeOf (v 462 (217 : Int32).toNatClampNeg))), (0, .ref (ga G r))] → W p l e rmX11_goFile s m args below meth c s.heap [] 0 0 Q (F0 m 64 ls [.int y4]) := by
      intro y4 ls ey4 hl
      have ho := ho.2 y4 ey4
      refine lv_istore (lv' := [(5, .int y4), (4, .int ((fX11_deviationOf (v 462 (217 : Int32).toNatClampNeg)) - p1)), (3, .int (fX11_typeOf (v 462 (217 : Int32).toNatClampNeg))), (0, .ref (ga G r))]) hx hb dX11_goFile_64 hl (by decide) rfl (fun ls hl => ?_)
      refine lv_iload hx hb dX11_goFile_66 (lv_at hl 0 rfl) ?_
      refine lv_if_eq (tgt := 84) hx hb dX11_goFile_68 (by decide) (fun c6 => ?_) (fun c6 => ?_)
      · skip
        refine lv_ldc (v := (-100002)) hx hb hown (hts _ t_con_VernierDrawersModel_41) dX11_goFile_84 ?_
        replace ey4 := Eq.symm ey4
        subst ey4
        exact E _ _ _ _ _ _ _ _ _ dX11_goFile_86 rfl (pr1 ((fX11_goFile.eq_1 _ _ _).trans ((if_neg c1).trans ((if_pos c6).trans rfl)))) (pr2 ((fX11_goFile.eq_1 _ _ _).trans ((if_neg c1).trans ((if_pos c6).trans rfl)))) hH hS (Nat.zero_le _) (Nat.zero_le _)
      · have ho := ho c6
        refine lv_aload_n hx hb dX11_goFile_71 rfl (lv_at hl 3 rfl) ?_
        refine lv_iload_n hx hb dX11_goFile_72 rfl (lv_at hl 2 rfl) ?_
        refine lv_iconst (v := 0) hx hb dX11_goFile_73 (by decide) ?_
        have hq7 := ho.1
        have ho := ho.2
        refine k_X11_of X hS hH hk_r hq7 t_ml_VernierDrawersModel_90 hl.1 (Nat.le_of_ble_eq_true rfl) ⟨Nat.le_of_ble_eq_true rfl, Nat.le_of_ble_eq_true rfl⟩ ⟨Nat.zero_le _, Nat.zero_le _⟩ dX11_goFile_74 ?_
        refine lv_iload hx hb dX11_goFile_77 (lv_at hl 1 rfl) ?_
        refine lv_iadd hx hb dX11_goFile_79 ?_
        refine lv_iconst (v := 1) hx hb dX11_goFile_80 (by decide) ?_
        refine lv_icmp_ge (tgt := 87) hx hb dX11_goFile_81 (by decide) (fun c8 => ?_) (fun c8 => ?_)
        · have ho := ho c8
          refine lv_aload_n hx hb dX11_goFile_87 rfl (lv_at hl 3 rfl) ?_
          refine g_VernierDrawersModel_7 X hH hk_r dX11_goFile_88 ?_
          refine lv_sipush (v := 207) hx hb dX11_goFile_91 (by decide) ?_
          refine lv_dup2_11 hx hb dX11_goFile_94 rfl rfl ?_
          refine ald_M X hH (Or.inl kd_462) hq3 dX11_goFile_95 ?_
          refine lv_iconst (v := 1) hx hb dX11_goFile_96 (by decide) ?_
          refine lv_isub hx hb dX11_goFile_97 ?_
          refine ast_M X hH hS (Or.inl kd_462) hq3 dX11_goFile_98 (fun H locs v9 ev9 hH hS => ?_)
          have ho := ho v9 ev9
          refine lv_iconst (v := 0) hx hb dX11_goFile_99 (by decide) ?_
          refine lv_istore (lv' := [(6, .int 0), (5, .int y4), (4, .int ((fX11_deviationOf (v 462 (217 : Int32).toNatClampNeg)) - p1)), (3, .int (fX11_typeOf (v 462 (217 : Int32).toNatClampNeg))), (0, .ref (ga G r))]) hx hb dX11_goFile_100 hl (by decide) rfl (fun ls hl => ?_)
          have L13 : ∀ (n : Nat) (i10 : Int32) (v11 : vSt) (da : Nat → Nat) (H : Heap) (locs : List Loc) (ls : Array Slot), olX11_goFile_102 n i10 v11 → Hp G da v11 x H → va_S (gA G) s.heap H locs → lv_has ls 7 [(6, .int i10), (4, .int ((fX11_deviationOf (v 462 (217 : Int32).toNatClampNeg)) - p1)), (3, .int (fX11_typeOf (v 462 (217 : Int32).toNatClampNeg))), (0, .ref (ga G r))] → (∀ (v12 : vSt) (da : Nat → Nat) (H : Heap) (locs : List Loc) (ls : Array Slot), v12 = (lX11_goFile_102 n i10 v11 : vSt) → Hp G da v12 x H → va_S (gA G) s.heap H locs → lv_has ls 7 [(4, .int ((fX11_deviationOf (v 462 (217 : Int32).toNatClampNeg)) - p1)), (3, .int (fX11_typeOf (v 462 (217 : Int32).toNatClampNeg))), (0, .ref (ga G r))] → W p l e rmX11_goFile s m args below meth c H locs 0 0 Q (F0 m 145 ls [])) → W p l e rmX11_goFile s m args below meth c H locs 0 0 Q (F0 m 102 ls []) := by
            clear ho
            intro n
            induction n with
            | zero =>
              intro i10 v11 da H locs ls ho
              exact ho.elim
            | succ n ih =>
              intro i10 v11 da H locs ls ho hH hS hl K14
              refine lv_iload hx hb dX11_goFile_102 (lv_at hl 0 rfl) ?_
              refine lv_aload_n hx hb dX11_goFile_104 rfl (lv_at hl 3 rfl) ?_
              refine g_VernierDrawersModel_7 X hH hk_r dX11_goFile_105 ?_
              refine lv_sipush (v := 207) hx hb dX11_goFile_108 (by decide) ?_
              refine ald_M X hH (Or.inl kd_462) hq3 dX11_goFile_111 ?_
              refine lv_icmp_ge (tgt := 145) hx hb dX11_goFile_112 (by decide) (fun c12 => ?_) (fun c12 => ?_)
              · skip
                exact K14 _ _ _ _ _ (Eq.symm (((lX11_goFile_102.eq_2 _ _ _)).trans ((if_pos c12).trans rfl))) hH hS (lv_sub hl [1, 2, 3] rfl)
              · have ho := ho c12
                refine lv_aload_n hx hb dX11_goFile_115 rfl (lv_at hl 3 rfl) ?_
                refine g_VernierDrawersModel_7 X hH hk_r dX11_goFile_116 ?_
                refine lv_sipush (v := 217) hx hb dX11_goFile_119 (by decide) ?_
                refine lv_iload hx hb dX11_goFile_122 (lv_at hl 0 rfl) ?_
                refine lv_iadd hx hb dX11_goFile_124 ?_
                refine lv_aload_n hx hb dX11_goFile_125 rfl (lv_at hl 3 rfl) ?_
                refine g_VernierDrawersModel_7 X hH hk_r dX11_goFile_126 ?_
                refine lv_sipush (v := 217) hx hb dX11_goFile_129 (by decide) ?_
                refine lv_iload hx hb dX11_goFile_132 (lv_at hl 0 rfl) ?_
                refine lv_iadd hx hb dX11_goFile_134 ?_
                refine lv_iconst (v := 1) hx hb dX11_goFile_135 (by decide) ?_
                refine lv_iadd hx hb dX11_goFile_136 ?_
                have hq13 := ho.1
                have ho := ho.2
                refine ald_M X hH (Or.inl kd_462) hq13 dX11_goFile_137 ?_
                have hq14 := ho.1
                have ho := ho.2
                refine ast_M X hH hS (Or.inl kd_462) hq14 dX11_goFile_138 (fun H locs v15 ev15 hH hS => ?_)
                have ho := ho v15 ev15
                refine lv_iinc (v := i10 + 1) (lv' := [(6, .int (i10 + 1)), (4, .int ((fX11_deviationOf (v 462 (217 : Int32).toNatClampNeg)) - p1)), (3, .int (fX11_typeOf (v 462 (217 : Int32).toNatClampNeg))), (0, .ref (ga G r))]) hx hb dX11_goFile_139 hl (k := 0) rfl rfl (by decide) rfl (fun ls hl => ?_)
                refine lv_goto (tgt := 102) hx hb dX11_goFile_142 (by decide) ?_
                replace ev15 := Eq.symm ev15
                subst ev15
                exact ih _ _ _ _ _ _ ho hH hS (lv_sub hl [0, 1, 2, 3] rfl) (fun v12 da H locs ls q0 hH hS hl => K14 v12 da H locs ls (q0.trans (congrArg (fun z : vSt => z) (Eq.symm (((lX11_goFile_102.eq_2 _ _ _)).trans ((if_neg c12).trans rfl))))) hH hS hl)
          have hol := ho.1
          refine L13 ((Int32.toInt ((v9 462 (207 : Int32).toNatClampNeg)) - Int32.toInt 0).toNat + 1) 0 v9 _ _ _ _ hol hH hS (lv_sub hl [0, 2, 3, 4] rfl) (fun v12 da H locs ls ev12 hH hS hl => ?_)
          have ho := ho.2 v12 ev12
          refine lv_aload_n hx hb dX11_goFile_145 rfl (lv_at hl 2 rfl) ?_
          refine g_VernierDrawersModel_7 X hH hk_r dX11_goFile_146 ?_
          refine lv_sipush (v := 217) hx hb dX11_goFile_149 (by decide) ?_
          refine lv_aload_n hx hb dX11_goFile_152 rfl (lv_at hl 2 rfl) ?_
          refine g_VernierDrawersModel_7 X hH hk_r dX11_goFile_153 ?_
          refine lv_sipush (v := 207) hx hb dX11_goFile_156 (by decide) ?_
          refine ald_M X hH (Or.inl kd_462) hq3 dX11_goFile_159 ?_
          refine lv_iadd hx hb dX11_goFile_160 ?_
          refine lv_iconst (v := 0) hx hb dX11_goFile_161 (by decide) ?_
          have hq16 := ho.1
          have ho := ho.2
          refine ast_M X hH hS (Or.inl kd_462) hq16 dX11_goFile_162 (fun H locs v17 ev17 hH hS => ?_)
          have ho := ho v17 ev17
          refine lv_aload_n hx hb dX11_goFile_163 rfl (lv_at hl 2 rfl) ?_
          refine lv_iload_n hx hb dX11_goFile_164 rfl (lv_at hl 1 rfl) ?_
          refine lv_iload hx hb dX11_goFile_165 (lv_at hl 0 rfl) ?_
          refine lv_iconst (v := 0) hx hb dX11_goFile_167 (by decide) ?_
          refine k_X11_piece X hS  t_ml_VernierDrawersModel_155 hl.1 (Nat.le_of_ble_eq_true rfl) ⟨Nat.le_of_ble_eq_true rfl, Nat.le_of_ble_eq_true rfl⟩ ⟨Nat.zero_le _, Nat.zero_le _⟩ dX11_goFile_168 ?_
          have hq18 := ho
          refine k_X11_toBench X hS hH hk_r hq18 t_ml_VernierDrawersModel_158 hl.1 (Nat.le_of_ble_eq_true rfl) ⟨Nat.le_of_ble_eq_true rfl, Nat.le_of_ble_eq_true rfl⟩ ⟨Nat.zero_le _, Nat.zero_le _⟩ dX11_goFile_171 (fun da H locs v19 ev19 hH hS => ?_)
          refine lv_iload hx hb dX11_goFile_174 (lv_at hl 0 rfl) ?_
          replace ey4 := Eq.symm ey4
          replace ev9 := Eq.symm ev9
          replace ev12 := Eq.symm ev12
          replace ev17 := Eq.symm ev17
          replace ev19 := Eq.symm ev19
          subst ey4 ev9 ev12 ev17 ev19
          exact E _ _ _ _ _ _ _ _ _ dX11_goFile_176 rfl (pr1 ((fX11_goFile.eq_1 _ _ _).trans ((if_neg c1).trans ((if_neg c6).trans ((if_pos c8).trans rfl))))) (pr2 ((fX11_goFile.eq_1 _ _ _).trans ((if_neg c1).trans ((if_neg c6).trans ((if_pos c8).trans rfl))))) hH hS (Nat.zero_le _) (Nat.zero_le _)
        · skip
          refine lv_ldc (v := (-100002)) hx hb hown (hts _ t_con_VernierDrawersModel_41) dX11_goFile_84 ?_
          replace ey4 := Eq.symm ey4
          subst ey4
          exact E _ _ _ _ _ _ _ _ _ dX11_goFile_86 rfl (pr1 ((fX11_goFile.eq_1 _ _ _).trans ((if_neg c1).trans ((if_neg c6).trans ((if_neg c8).trans rfl))))) (pr2 ((fX11_goFile.eq_1 _ _ _).trans ((if_neg c1).trans ((if_neg c6).trans ((if_neg c8).trans rfl))))) hH hS (Nat.zero_le _) (Nat.zero_le _)
    have ho := ho.1
    refine lv_if_le (tgt := 63) hx hb dX11_goFile_43 (by decide) (fun c5 => ?_) (fun c5 => ?_)
    · skip
      refine lv_iconst (v := 0) hx hb dX11_goFile_63 (by decide) ?_
      exact K5 _ _ (Eq.symm ((if_pos c5).trans rfl)) (lv_sub hl [0, 1, 3] rfl)
    · have ho := ho c5
      refine lv_aload_n hx hb dX11_goFile_46 rfl (lv_at hl 3 rfl) ?_
      refine g_VernierDrawersModel_7 X hH hk_r dX11_goFile_47 ?_
      refine lv_sipush (v := 206) hx hb dX11_goFile_50 (by decide) ?_
      have hq6 := ho
      refine ald_M X hH (Or.inl kd_462) hq6 dX11_goFile_53 ?_
      refine lv_bipush (v := 20) hx hb dX11_goFile_54 (by decide) ?_
      refine lv_icmp_ge (tgt := 63) hx hb dX11_goFile_56 (by decide) (fun c7 => ?_) (fun c7 => ?_)
      · skip
        refine lv_iconst (v := 0) hx hb dX11_goFile_63 (by decide) ?_
        exact K5 _ _ (Eq.symm ((if_neg c5).trans ((if_pos c7).trans rfl))) (lv_sub hl [0, 1, 3] rfl)
      · skip
        refine lv_iconst (v := 1) hx hb dX11_goFile_59 (by decide) ?_
        refine lv_goto (tgt := 64) hx hb dX11_goFile_60 (by decide) ?_
        exact K5 _ _ (Eq.symm ((if_neg c5).trans ((if_neg c7).trans rfl))) (lv_sub hl [0, 1, 3] rfl)
  · skip
    refine lv_ldc (v := (-100001)) hx hb hown (hts _ t_con_VernierDrawersModel_40) dX11_goFile_10 ?_
    exact E _ _ _ _ _ _ _ _ _ dX11_goFile_12 rfl (pr1 ((fX11_goFile.eq_1 _ _ _).trans ((if_pos c1).trans rfl))) (pr2 ((fX11_goFile.eq_1 _ _ _).trans ((if_pos c1).trans rfl))) hH hS (Nat.zero_le _) (Nat.zero_le _)
theorem k_X11_goFile {p : Program} {l : Launch} {e : Env} {R : Room} {s : State} {m : MethodId} {args : Array Value} {below : List Frame} {meth : Method} {c : Code} {H : Heap} {locs : List Loc} {cells slots : Nat} {Q : State → Prop} {cc : ByteArray} {pc nL : Nat} {ls : Array Slot} {rest : List Value} {G : gG} {own : String} {da : Nat → Nat} {v : vSt} {x : gX} (X : CX G p s m args c cc nL own) (hS : va_S (gA G) s.heap H locs) (hH : Hp G da v x H) {r : Nat} (hk_r : kd r = 11) {p1 : Int32} (ho : oX11_goFile r p1 v) {idx : Nat} (hml : Cond.methodLink own idx yX11_goFile ∈ TT) (hls : ls.size = nL) (hsum : (rest.map fun v => v.category).sum ≤ 8) (hR : rmX11_goFile.frames + 1 ≤ R.frames ∧ 8 + (7 + 11) + rmX11_goFile.locals ≤ R.locals) (hcs : cells ≤ R.cells ∧ slots ≤ R.slots) (hdg : decode cc pc = .ok (.invokevirtual idx, 3)) (kk : ∀ (d : Nat → Nat) (H1 : Heap) (locs1 : List Loc) (v1 : vSt), v1 = (fX11_goFile r p1 v).2 → Hp G d v1 x H1 → va_S (gA G) s.heap H1 locs1 → W p l e R s m args below meth c H1 locs1 cells slots Q (F0 m (pc + 3) ls (.int (fX11_goFile r p1 v).1 :: rest))) : W p l e R s m args below meth c H locs cells slots Q (F0 m pc ls (.int p1 :: .ref (ga G r) :: rest)) := c_mi X.2.2.2.2.2.2 (runV (k := 1) X.1 X.2.1 X.2.2.1 X.2.2.2.1 X.2.2.2.2.1 (mX11_goFile l G da v x r hk_r p1 ho) pW_bl hml t_im_X11_goFile t_sel_X11_goFile t_ini_VernierDrawersModel t_code_X11_goFile ⟨rfl, by decide, by decide, by decide +kernel⟩ rfl rfl hR hcs (recvW X hH (by rw [hk_r]; decide) (by rw [hk_r]; decide) (ce_11 hk_r) rfl) (preW X hS hH) rfl hls rfl hsum hdg) hS kk
def fX11_goPass (r : Nat) (v : vSt) : Int32 × vSt := if ((fX11_reasonNotPass r v) : Int32) ≤ 0 then (let v5 : vSt := fX11_leavesBench r v; let v7 : vSt := u2 v5 462 (214 : Int32).toNatClampNeg ((v5 462 (214 : Int32).toNatClampNeg) + 1); let v9 : vSt := fX11_lays r (fX11_firstType r v) 7 1 v7; (fX11_firstType r v, v9)) else (((-100002), v))
def oX11_goPass (r : Nat) (v : vSt) : Prop := (oX11_reasonNotPass r v) ∧ ((((fX11_reasonNotPass r v) : Int32) ≤ 0) → ((oX11_firstType r v) ∧ ((oX11_leavesBench r v) ∧ (∀ v5 : vSt, v5 = (fX11_leavesBench r v) → ((vp_in (214) (mlen 462)) ∧ (∀ v7 : vSt, v7 = (u2 v5 462 (214 : Int32).toNatClampNeg ((v5 462 (214 : Int32).toNatClampNeg) + 1)) → (oX11_lays r (fX11_firstType r v) 7 1 v7)))))))
abbrev rmX11_goPass : Room := { frames := 3, cells := 0, slots := 0, locals := 61 }
theorem dX11_goPass_0 : decode cX11_goPass 0 = .ok (.aload_n 0, 1) := by decide +kernel
theorem dX11_goPass_1 : decode cX11_goPass 1 = .ok (.invokevirtual 177, 3) := by decide +kernel
theorem dX11_goPass_4 : decode cX11_goPass 4 = .ok (.ifCond .le 6, 3) := by decide +kernel
theorem dX11_goPass_7 : decode cX11_goPass 7 = .ok (.ldc 41, 2) := by decide +kernel
theorem dX11_goPass_9 : decode cX11_goPass 9 = .ok (.ireturn, 1) := by decide +kernel
theorem dX11_goPass_10 : decode cX11_goPass 10 = .ok (.aload_n 0, 1) := by decide +kernel
theorem dX11_goPass_11 : decode cX11_goPass 11 = .ok (.invokevirtual 86, 3) := by decide +kernel
theorem dX11_goPass_14 : decode cX11_goPass 14 = .ok (.istore_n 1, 1) := by decide +kernel
theorem dX11_goPass_15 : decode cX11_goPass 15 = .ok (.aload_n 0, 1) := by decide +kernel
theorem dX11_goPass_16 : decode cX11_goPass 16 = .ok (.invokevirtual 167, 3) := by decide +kernel
theorem dX11_goPass_19 : decode cX11_goPass 19 = .ok (.aload_n 0, 1) := by decide +kernel
theorem dX11_goPass_20 : decode cX11_goPass 20 = .ok (.getfield 7, 3) := by decide +kernel
theorem dX11_goPass_23 : decode cX11_goPass 23 = .ok (.sipush 214, 3) := by decide +kernel
theorem dX11_goPass_26 : decode cX11_goPass 26 = .ok (.dup2, 1) := by decide +kernel
theorem dX11_goPass_27 : decode cX11_goPass 27 = .ok (.iaload, 1) := by decide +kernel
theorem dX11_goPass_28 : decode cX11_goPass 28 = .ok (.iconst 1, 1) := by decide +kernel
theorem dX11_goPass_29 : decode cX11_goPass 29 = .ok (.iadd, 1) := by decide +kernel
theorem dX11_goPass_30 : decode cX11_goPass 30 = .ok (.iastore, 1) := by decide +kernel
theorem dX11_goPass_31 : decode cX11_goPass 31 = .ok (.aload_n 0, 1) := by decide +kernel
theorem dX11_goPass_32 : decode cX11_goPass 32 = .ok (.iload_n 1, 1) := by decide +kernel
theorem dX11_goPass_33 : decode cX11_goPass 33 = .ok (.bipush 7, 2) := by decide +kernel
theorem dX11_goPass_35 : decode cX11_goPass 35 = .ok (.iconst 1, 1) := by decide +kernel
theorem dX11_goPass_36 : decode cX11_goPass 36 = .ok (.invokevirtual 116, 3) := by decide +kernel
theorem dX11_goPass_39 : decode cX11_goPass 39 = .ok (.iload_n 1, 1) := by decide +kernel
theorem dX11_goPass_40 : decode cX11_goPass 40 = .ok (.ireturn, 1) := by decide +kernel
set_option maxHeartbeats 8000000 in
set_option maxRecDepth 100000 in
theorem mX11_goPass (l : Launch) (G : gG) (da : Nat → Nat) (v : vSt) (x : gX) (r : Nat) (hk_r : kd r = 11) (ho : oX11_goPass r v) : MI l yX11_goPass cX11_goPass 2 (some .int) rmX11_goPass [.ref (ga G r)] G da v x 0 0 (fX11_goPass r v).1 (fX11_goPass r v).2 x := by
  refine gofMI (own := RX11) (by decide) rfl (Nat.le_of_ble_eq_true rfl) (fun p e s m args below meth c ls Q X hH hl E => ?_)
  have hx := X.1
  have hb := X.2.1
  have hown := X.2.2.2.1
  have hts := X.2.2.2.2.1
  have hS : va_S (gA G) s.heap s.heap [] := va_S.rf
  unfold oX11_goPass at ho
  have hl : lv_has ls 2 [(0, .ref (ga G r))] := hl
  refine lv_aload_n hx hb dX11_goPass_0 rfl (lv_at hl 0 rfl) ?_
  have hq1 := ho.1
  have ho := ho.2
  refine k_X11_reasonNotPass X hS hH hk_r hq1 t_ml_VernierDrawersModel_177 hl.1 (Nat.le_of_ble_eq_true rfl) ⟨Nat.le_of_ble_eq_true rfl, Nat.le_of_ble_eq_true rfl⟩ ⟨Nat.zero_le _, Nat.zero_le _⟩ dX11_goPass_1 ?_
  refine lv_if_le (tgt := 10) hx hb dX11_goPass_4 (by decide) (fun c2 => ?_) (fun c2 => ?_)
  · have ho := ho c2
    refine lv_aload_n hx hb dX11_goPass_10 rfl (lv_at hl 0 rfl) ?_
    have hq3 := ho.1
    have ho := ho.2
    refine k_X11_firstType X hS hH hk_r hq3 t_ml_VernierDrawersModel_86 hl.1 (Nat.le_of_ble_eq_true rfl) ⟨Nat.le_of_ble_eq_true rfl, Nat.le_of_ble_eq_true rfl⟩ ⟨Nat.zero_le _, Nat.zero_le _⟩ dX11_goPass_11 ?_
    refine lv_istore_n (lv' := [(1, .int (fX11_firstType r v)), (0, .ref (ga G r))]) hx hb dX11_goPass_14 rfl hl (by decide) rfl (fun ls hl => ?_)
    refine lv_aload_n hx hb dX11_goPass_15 rfl (lv_at hl 1 rfl) ?_
    have hq4 := ho.1
    have ho := ho.2
    refine k_X11_leavesBench X hS hH hk_r hq4 t_ml_VernierDrawersModel_167 hl.1 (Nat.le_of_ble_eq_true rfl) ⟨Nat.le_of_ble_eq_true rfl, Nat.le_of_ble_eq_true rfl⟩ ⟨Nat.zero_le _, Nat.zero_le _⟩ dX11_goPass_16 (fun da H locs v5 ev5 hH hS => ?_)
    have ho := ho v5 ev5
    refine lv_aload_n hx hb dX11_goPass_19 rfl (lv_at hl 1 rfl) ?_
    refine g_VernierDrawersModel_7 X hH hk_r dX11_goPass_20 ?_
    refine lv_sipush (v := 214) hx hb dX11_goPass_23 (by decide) ?_
    refine lv_dup2_11 hx hb dX11_goPass_26 rfl rfl ?_
    have hq6 := ho.1
    have ho := ho.2
    refine ald_M X hH (Or.inl kd_462) hq6 dX11_goPass_27 ?_
    refine lv_iconst (v := 1) hx hb dX11_goPass_28 (by decide) ?_
    refine lv_iadd hx hb dX11_goPass_29 ?_
    refine ast_M X hH hS (Or.inl kd_462) hq6 dX11_goPass_30 (fun H locs v7 ev7 hH hS => ?_)
    have ho := ho v7 ev7
    refine lv_aload_n hx hb dX11_goPass_31 rfl (lv_at hl 1 rfl) ?_
    refine lv_iload_n hx hb dX11_goPass_32 rfl (lv_at hl 0 rfl) ?_
    refine lv_bipush (v := 7) hx hb dX11_goPass_33 (by decide) ?_
    refine lv_iconst (v := 1) hx hb dX11_goPass_35 (by decide) ?_
    have hq8 := ho
    refine k_X11_lays X hS hH hk_r hq8 t_ml_VernierDrawersModel_116 hl.1 (Nat.le_of_ble_eq_true rfl) ⟨Nat.le_of_ble_eq_true rfl, Nat.le_of_ble_eq_true rfl⟩ ⟨Nat.zero_le _, Nat.zero_le _⟩ dX11_goPass_36 (fun da H locs v9 ev9 hH hS => ?_)
    refine lv_iload_n hx hb dX11_goPass_39 rfl (lv_at hl 0 rfl) ?_
    replace ev5 := Eq.symm ev5
    replace ev7 := Eq.symm ev7
    replace ev9 := Eq.symm ev9
    subst ev5 ev7 ev9
    exact E _ _ _ _ _ _ _ _ _ dX11_goPass_40 rfl (pr1 ((fX11_goPass.eq_1 _ _).trans ((if_pos c2).trans rfl))) (pr2 ((fX11_goPass.eq_1 _ _).trans ((if_pos c2).trans rfl))) hH hS (Nat.zero_le _) (Nat.zero_le _)
  · skip
    refine lv_ldc (v := (-100002)) hx hb hown (hts _ t_con_VernierDrawersModel_41) dX11_goPass_7 ?_
    exact E _ _ _ _ _ _ _ _ _ dX11_goPass_9 rfl (pr1 ((fX11_goPass.eq_1 _ _).trans ((if_neg c2).trans rfl))) (pr2 ((fX11_goPass.eq_1 _ _).trans ((if_neg c2).trans rfl))) hH hS (Nat.zero_le _) (Nat.zero_le _)
theorem k_X11_goPass {p : Program} {l : Launch} {e : Env} {R : Room} {s : State} {m : MethodId} {args : Array Value} {below : List Frame} {meth : Method} {c : Code} {H : Heap} {locs : List Loc} {cells slots : Nat} {Q : State → Prop} {cc : ByteArray} {pc nL : Nat} {ls : Array Slot} {rest : List Value} {G : gG} {own : String} {da : Nat → Nat} {v : vSt} {x : gX} (X : CX G p s m args c cc nL own) (hS : va_S (gA G) s.heap H locs) (hH : Hp G da v x H) {r : Nat} (hk_r : kd r = 11) (ho : oX11_goPass r v) {idx : Nat} (hml : Cond.methodLink own idx yX11_goPass ∈ TT) (hls : ls.size = nL) (hsum : (rest.map fun v => v.category).sum ≤ 8) (hR : rmX11_goPass.frames + 1 ≤ R.frames ∧ 8 + (2 + 11) + rmX11_goPass.locals ≤ R.locals) (hcs : cells ≤ R.cells ∧ slots ≤ R.slots) (hdg : decode cc pc = .ok (.invokevirtual idx, 3)) (kk : ∀ (d : Nat → Nat) (H1 : Heap) (locs1 : List Loc) (v1 : vSt), v1 = (fX11_goPass r v).2 → Hp G d v1 x H1 → va_S (gA G) s.heap H1 locs1 → W p l e R s m args below meth c H1 locs1 cells slots Q (F0 m (pc + 3) ls (.int (fX11_goPass r v).1 :: rest))) : W p l e R s m args below meth c H locs cells slots Q (F0 m pc ls (.ref (ga G r) :: rest)) := c_mi X.2.2.2.2.2.2 (runV (k := 0) X.1 X.2.1 X.2.2.1 X.2.2.2.1 X.2.2.2.2.1 (mX11_goPass l G da v x r hk_r ho) pW_bl hml t_im_X11_goPass t_sel_X11_goPass t_ini_VernierDrawersModel t_code_X11_goPass ⟨rfl, by decide, by decide, by decide +kernel⟩ rfl rfl hR hcs (recvW X hH (by rw [hk_r]; decide) (by rw [hk_r]; decide) (ce_11 hk_r) rfl) (preW X hS hH) rfl hls rfl hsum hdg) hS kk
