/-! 17.model -/
def lX11_onSide_18 (v : vSt) (r : Nat) (p1 : Int32) (p3 : Int32) (p4 : Int32) : Nat → Int32 → Int32 → Int32
  | 0, i2, i3 => i3
  | n + 1, i2, i3 => if ((fX11_of r p1 8 v) : Int32) ≤ i2 then i3 else (let y6 : Int32 := (if (p4 : Int32) = 0 then 0 else (fX11_onChart r p1 (i2 - 1) v) : Int32); let y8 : Int32 := (if ((p3 * ((fX11_onChart r p1 i2 v) - y6)) : Int32) ≤ 0 then 0 else 1 : Int32); lX11_onSide_18 v r p1 p3 p4 n (i2 + 1) (i3 + y8))
def olX11_onSide_18 (v : vSt) (r : Nat) (p1 : Int32) (p3 : Int32) (p4 : Int32) : Nat → Int32 → Int32 → Prop
  | 0, _, _ => False
  | n + 1, i2, i3 => ¬ (((fX11_of r p1 8 v) : Int32) ≤ i2) → ((oX11_onChart r p1 i2 v) ∧ ((¬ ((p4 : Int32) = 0) → (oX11_onChart r p1 (i2 - 1) v)) ∧ (∀ (y6 : Int32), y6 = ((if (p4 : Int32) = 0 then 0 else (fX11_onChart r p1 (i2 - 1) v) : Int32) : Int32) → ((∀ (y8 : Int32), y8 = ((if ((p3 * ((fX11_onChart r p1 i2 v) - y6)) : Int32) ≤ 0 then 0 else 1 : Int32) : Int32) → (olX11_onSide_18 v r p1 p3 p4 n (i2 + 1) (i3 + y8)))))))
def fX11_onSide (r : Nat) (p1 : Int32) (p2 : Int32) (p3 : Int32) (p4 : Int32) (v : vSt) : Int32 := let y4 : Int32 := (lX11_onSide_18 v r p1 p3 p4 ((Int32.toInt ((fX11_of r p1 8 v)) - Int32.toInt ((fX11_of r p1 8 v) - p2)).toNat + 1) ((fX11_of r p1 8 v) - p2) 0); y4
def oX11_onSide (r : Nat) (p1 : Int32) (p2 : Int32) (p3 : Int32) (p4 : Int32) (v : vSt) : Prop := (oX11_of r p1 8 v) ∧ (olX11_onSide_18 v r p1 p3 p4 ((Int32.toInt ((fX11_of r p1 8 v)) - Int32.toInt ((fX11_of r p1 8 v) - p2)).toNat + 1) ((fX11_of r p1 8 v) - p2) 0)
abbrev rmX11_onSide : Room := { frames := 2, cells := 0, slots := 0, locals := 44 }
theorem dX11_onSide_0 : decode cX11_onSide 0 = .ok (.aload_n 0, 1) := by decide +kernel
theorem dX11_onSide_1 : decode cX11_onSide 1 = .ok (.iload_n 1, 1) := by decide +kernel
theorem dX11_onSide_2 : decode cX11_onSide 2 = .ok (.bipush 8, 2) := by decide +kernel
theorem dX11_onSide_4 : decode cX11_onSide 4 = .ok (.invokevirtual 90, 3) := by decide +kernel
theorem dX11_onSide_7 : decode cX11_onSide 7 = .ok (.istore 5, 2) := by decide +kernel
theorem dX11_onSide_9 : decode cX11_onSide 9 = .ok (.iconst 0, 1) := by decide +kernel
theorem dX11_onSide_10 : decode cX11_onSide 10 = .ok (.istore 6, 2) := by decide +kernel
theorem dX11_onSide_12 : decode cX11_onSide 12 = .ok (.iload 5, 2) := by decide +kernel
theorem dX11_onSide_14 : decode cX11_onSide 14 = .ok (.iload_n 2, 1) := by decide +kernel
theorem dX11_onSide_15 : decode cX11_onSide 15 = .ok (.isub, 1) := by decide +kernel
theorem dX11_onSide_16 : decode cX11_onSide 16 = .ok (.istore 7, 2) := by decide +kernel
theorem dX11_onSide_18 : decode cX11_onSide 18 = .ok (.iload 7, 2) := by decide +kernel
theorem dX11_onSide_20 : decode cX11_onSide 20 = .ok (.iload 5, 2) := by decide +kernel
theorem dX11_onSide_22 : decode cX11_onSide 22 = .ok (.if_icmp .ge 54, 3) := by decide +kernel
theorem dX11_onSide_25 : decode cX11_onSide 25 = .ok (.aload_n 0, 1) := by decide +kernel
theorem dX11_onSide_26 : decode cX11_onSide 26 = .ok (.iload_n 1, 1) := by decide +kernel
theorem dX11_onSide_27 : decode cX11_onSide 27 = .ok (.iload 7, 2) := by decide +kernel
theorem dX11_onSide_29 : decode cX11_onSide 29 = .ok (.invokevirtual 123, 3) := by decide +kernel
theorem dX11_onSide_32 : decode cX11_onSide 32 = .ok (.iload 4, 2) := by decide +kernel
theorem dX11_onSide_34 : decode cX11_onSide 34 = .ok (.ifCond .eq 15, 3) := by decide +kernel
theorem dX11_onSide_37 : decode cX11_onSide 37 = .ok (.aload_n 0, 1) := by decide +kernel
theorem dX11_onSide_38 : decode cX11_onSide 38 = .ok (.iload_n 1, 1) := by decide +kernel
theorem dX11_onSide_39 : decode cX11_onSide 39 = .ok (.iload 7, 2) := by decide +kernel
theorem dX11_onSide_41 : decode cX11_onSide 41 = .ok (.iconst 1, 1) := by decide +kernel
theorem dX11_onSide_42 : decode cX11_onSide 42 = .ok (.isub, 1) := by decide +kernel
theorem dX11_onSide_43 : decode cX11_onSide 43 = .ok (.invokevirtual 123, 3) := by decide +kernel
theorem dX11_onSide_46 : decode cX11_onSide 46 = .ok (.goto 4, 3) := by decide +kernel
theorem dX11_onSide_49 : decode cX11_onSide 49 = .ok (.iconst 0, 1) := by decide +kernel
theorem dX11_onSide_50 : decode cX11_onSide 50 = .ok (.isub, 1) := by decide +kernel
theorem dX11_onSide_51 : decode cX11_onSide 51 = .ok (.istore 8, 2) := by decide +kernel
theorem dX11_onSide_53 : decode cX11_onSide 53 = .ok (.iload 6, 2) := by decide +kernel
theorem dX11_onSide_55 : decode cX11_onSide 55 = .ok (.iload_n 3, 1) := by decide +kernel
theorem dX11_onSide_56 : decode cX11_onSide 56 = .ok (.iload 8, 2) := by decide +kernel
theorem dX11_onSide_58 : decode cX11_onSide 58 = .ok (.imul, 1) := by decide +kernel
theorem dX11_onSide_59 : decode cX11_onSide 59 = .ok (.ifCond .le 7, 3) := by decide +kernel
theorem dX11_onSide_62 : decode cX11_onSide 62 = .ok (.iconst 1, 1) := by decide +kernel
theorem dX11_onSide_63 : decode cX11_onSide 63 = .ok (.goto 4, 3) := by decide +kernel
theorem dX11_onSide_66 : decode cX11_onSide 66 = .ok (.iconst 0, 1) := by decide +kernel
theorem dX11_onSide_67 : decode cX11_onSide 67 = .ok (.iadd, 1) := by decide +kernel
theorem dX11_onSide_68 : decode cX11_onSide 68 = .ok (.istore 6, 2) := by decide +kernel
theorem dX11_onSide_70 : decode cX11_onSide 70 = .ok (.iinc 7 1, 3) := by decide +kernel
theorem dX11_onSide_73 : decode cX11_onSide 73 = .ok (.goto (-55), 3) := by decide +kernel
theorem dX11_onSide_76 : decode cX11_onSide 76 = .ok (.iload 6, 2) := by decide +kernel
theorem dX11_onSide_78 : decode cX11_onSide 78 = .ok (.ireturn, 1) := by decide +kernel
set_option maxHeartbeats 8000000 in
set_option maxRecDepth 100000 in
theorem mX11_onSide (l : Launch) (G : gG) (da : Nat → Nat) (v : vSt) (x : gX) (r : Nat) (hk_r : kd r = 11) (p1 : Int32) (p2 : Int32) (p3 : Int32) (p4 : Int32) (ho : oX11_onSide r p1 p2 p3 p4 v) : QI l yX11_onSide cX11_onSide 9 (some .int) rmX11_onSide [.ref (ga G r), .int p1, .int p2, .int p3, .int p4] (pW G da v x) (fX11_onSide r p1 p2 p3 p4 v) := by
  refine gofQ (own := RX11) (by decide) rfl (Nat.le_of_ble_eq_true rfl) (fun p e s m args below meth c ls Q X hH hl E => ?_)
  have hx := X.1
  have hb := X.2.1
  have hown := X.2.2.2.1
  have hts := X.2.2.2.2.1
  have hS : va_S (gA G) s.heap s.heap [] := va_S.rf
  unfold oX11_onSide at ho
  have hl : lv_has ls 9 [(0, .ref (ga G r)), (1, .int p1), (2, .int p2), (3, .int p3), (4, .int p4)] := hl
  refine lv_aload_n hx hb dX11_onSide_0 rfl (lv_at hl 0 rfl) ?_
  refine lv_iload_n hx hb dX11_onSide_1 rfl (lv_at hl 1 rfl) ?_
  refine lv_bipush (v := 8) hx hb dX11_onSide_2 (by decide) ?_
  have hq1 := ho.1
  have ho := ho.2
  refine k_X11_of X hS hH hk_r hq1 t_ml_VernierDrawersModel_90 hl.1 (Nat.le_of_ble_eq_true rfl) ⟨Nat.le_of_ble_eq_true rfl, Nat.le_of_ble_eq_true rfl⟩ ⟨Nat.zero_le _, Nat.zero_le _⟩ dX11_onSide_4 ?_
  refine lv_istore (lv' := [(5, .int (fX11_of r p1 8 v)), (0, .ref (ga G r)), (1, .int p1), (2, .int p2), (3, .int p3), (4, .int p4)]) hx hb dX11_onSide_7 hl (by decide) rfl (fun ls hl => ?_)
  refine lv_iconst (v := 0) hx hb dX11_onSide_9 (by decide) ?_
  refine lv_istore (lv' := [(6, .int 0), (5, .int (fX11_of r p1 8 v)), (0, .ref (ga G r)), (1, .int p1), (2, .int p2), (3, .int p3), (4, .int p4)]) hx hb dX11_onSide_10 hl (by decide) rfl (fun ls hl => ?_)
  refine lv_iload hx hb dX11_onSide_12 (lv_at hl 1 rfl) ?_
  refine lv_iload_n hx hb dX11_onSide_14 rfl (lv_at hl 4 rfl) ?_
  refine lv_isub hx hb dX11_onSide_15 ?_
  refine lv_istore (lv' := [(7, .int ((fX11_of r p1 8 v) - p2)), (6, .int 0), (5, .int (fX11_of r p1 8 v)), (0, .ref (ga G r)), (1, .int p1), (2, .int p2), (3, .int p3), (4, .int p4)]) hx hb dX11_onSide_16 hl (by decide) rfl (fun ls hl => ?_)
  have L5 : ∀ (n : Nat) (i2 : Int32) (i3 : Int32) (ls : Array Slot), olX11_onSide_18 v r p1 p3 p4 n i2 i3 → lv_has ls 9 [(7, .int i2), (6, .int i3), (5, .int (fX11_of r p1 8 v)), (0, .ref (ga G r)), (1, .int p1), (3, .int p3), (4, .int p4)] → (∀ (y4 : Int32) (ls : Array Slot), y4 = (lX11_onSide_18 v r p1 p3 p4 n i2 i3 : Int32) → lv_has ls 9 [(6, .int y4)] → W p l e rmX11_onSide s m args below meth c s.heap [] 0 0 Q (F0 m 76 ls [])) → W p l e rmX11_onSide s m args below meth c s.heap [] 0 0 Q (F0 m 18 ls []) := by
    clear ho
    intro n
    induction n with
    | zero =>
      intro i2 i3 ls ho
      exact ho.elim
    | succ n ih =>
      intro i2 i3 ls ho hl K6
      refine lv_iload hx hb dX11_onSide_18 (lv_at hl 0 rfl) ?_
      refine lv_iload hx hb dX11_onSide_20 (lv_at hl 2 rfl) ?_
      refine lv_icmp_ge (tgt := 76) hx hb dX11_onSide_22 (by decide) (fun c4 => ?_) (fun c4 => ?_)
      · skip
        exact K6 _ _ (Eq.symm (((lX11_onSide_18.eq_2 _ _ _ _ _ _ _ _)).trans ((if_pos c4).trans rfl))) (lv_sub hl [1] rfl)
      · have ho := ho c4
        refine lv_aload_n hx hb dX11_onSide_25 rfl (lv_at hl 3 rfl) ?_
        refine lv_iload_n hx hb dX11_onSide_26 rfl (lv_at hl 4 rfl) ?_
        refine lv_iload hx hb dX11_onSide_27 (lv_at hl 0 rfl) ?_
        have hq5 := ho.1
        have ho := ho.2
        refine k_X11_onChart X hS hH hk_r hq5 t_ml_VernierDrawersModel_123 hl.1 (Nat.le_of_ble_eq_true rfl) ⟨Nat.le_of_ble_eq_true rfl, Nat.le_of_ble_eq_true rfl⟩ ⟨Nat.zero_le _, Nat.zero_le _⟩ dX11_onSide_29 ?_
        refine lv_iload hx hb dX11_onSide_32 (lv_at hl 6 rfl) ?_
        have K7 : ∀ (y6 : Int32) (ls : Array Slot), y6 = (if (p4 : Int32) = 0 then 0 else (fX11_onChart r p1 (i2 - 1) v) : Int32) → lv_has ls 9 [(7, .int i2), (6, .int i3), (5, .int (fX11_of r p1 8 v)), (0, .ref (ga G r)), (1, .int p1), (3, .int p3), (4, .int p4)] → W p l e rmX11_onSide s m args below meth c s.heap [] 0 0 Q (F0 m 50 ls [.int y6, .int (fX11_onChart r p1 i2 v)]) := by
          intro y6 ls ey6 hl
          have ho := ho.2 y6 ey6
          refine lv_isub hx hb dX11_onSide_50 ?_
          refine lv_istore (lv' := [(8, .int ((fX11_onChart r p1 i2 v) - y6)), (7, .int i2), (6, .int i3), (5, .int (fX11_of r p1 8 v)), (0, .ref (ga G r)), (1, .int p1), (3, .int p3), (4, .int p4)]) hx hb dX11_onSide_51 hl (by decide) rfl (fun ls hl => ?_)
          refine lv_iload hx hb dX11_onSide_53 (lv_at hl 2 rfl) ?_
          refine lv_iload_n hx hb dX11_onSide_55 rfl (lv_at hl 6 rfl) ?_
          refine lv_iload hx hb dX11_onSide_56 (lv_at hl 0 rfl) ?_
          refine lv_imul hx hb dX11_onSide_58 ?_
          have K9 : ∀ (y8 : Int32) (ls : Array Slot), y8 = (if ((p3 * ((fX11_onChart r p1 i2 v) - y6)) : Int32) ≤ 0 then 0 else 1 : Int32) → lv_has ls 9 [(7, .int i2), (5, .int (fX11_of r p1 8 v)), (0, .ref (ga G r)), (1, .int p1), (3, .int p3), (4, .int p4)] → W p l e rmX11_onSide s m args below meth c s.heap [] 0 0 Q (F0 m 67 ls [.int y8, .int i3]) := by
            intro y8 ls ey8 hl
            have ho := ho y8 ey8
            refine lv_iadd hx hb dX11_onSide_67 ?_
            refine lv_istore (lv' := [(6, .int (i3 + y8)), (7, .int i2), (5, .int (fX11_of r p1 8 v)), (0, .ref (ga G r)), (1, .int p1), (3, .int p3), (4, .int p4)]) hx hb dX11_onSide_68 hl (by decide) rfl (fun ls hl => ?_)
            refine lv_iinc (v := i2 + 1) (lv' := [(7, .int (i2 + 1)), (6, .int (i3 + y8)), (5, .int (fX11_of r p1 8 v)), (0, .ref (ga G r)), (1, .int p1), (3, .int p3), (4, .int p4)]) hx hb dX11_onSide_70 hl (k := 1) rfl rfl (by decide) rfl (fun ls hl => ?_)
            refine lv_goto (tgt := 18) hx hb dX11_onSide_73 (by decide) ?_
            replace ey6 := Eq.symm ey6
            replace ey8 := Eq.symm ey8
            subst ey6 ey8
            exact ih _ _ _ ho (lv_sub hl [0, 1, 2, 3, 4, 5, 6] rfl) (fun y4 ls q0 hl => K6 y4 ls (q0.trans (congrArg (fun z : Int32 => z) (Eq.symm (((lX11_onSide_18.eq_2 _ _ _ _ _ _ _ _)).trans ((if_neg c4).trans rfl))))) hl)
          refine lv_if_le (tgt := 66) hx hb dX11_onSide_59 (by decide) (fun c9 => ?_) (fun c9 => ?_)
          · skip
            refine lv_iconst (v := 0) hx hb dX11_onSide_66 (by decide) ?_
            exact K9 _ _ (Eq.symm ((if_pos c9).trans rfl)) (lv_sub hl [1, 3, 4, 5, 6, 7] rfl)
          · skip
            refine lv_iconst (v := 1) hx hb dX11_onSide_62 (by decide) ?_
            refine lv_goto (tgt := 67) hx hb dX11_onSide_63 (by decide) ?_
            exact K9 _ _ (Eq.symm ((if_neg c9).trans rfl)) (lv_sub hl [1, 3, 4, 5, 6, 7] rfl)
        have ho := ho.1
        refine lv_if_eq (tgt := 49) hx hb dX11_onSide_34 (by decide) (fun c7 => ?_) (fun c7 => ?_)
        · skip
          refine lv_iconst (v := 0) hx hb dX11_onSide_49 (by decide) ?_
          exact K7 _ _ (Eq.symm ((if_pos c7).trans rfl)) (lv_sub hl [0, 1, 2, 3, 4, 5, 6] rfl)
        · have ho := ho c7
          refine lv_aload_n hx hb dX11_onSide_37 rfl (lv_at hl 3 rfl) ?_
          refine lv_iload_n hx hb dX11_onSide_38 rfl (lv_at hl 4 rfl) ?_
          refine lv_iload hx hb dX11_onSide_39 (lv_at hl 0 rfl) ?_
          refine lv_iconst (v := 1) hx hb dX11_onSide_41 (by decide) ?_
          refine lv_isub hx hb dX11_onSide_42 ?_
          have hq8 := ho
          refine k_X11_onChart X hS hH hk_r hq8 t_ml_VernierDrawersModel_123 hl.1 (Nat.le_of_ble_eq_true rfl) ⟨Nat.le_of_ble_eq_true rfl, Nat.le_of_ble_eq_true rfl⟩ ⟨Nat.zero_le _, Nat.zero_le _⟩ dX11_onSide_43 ?_
          refine lv_goto (tgt := 50) hx hb dX11_onSide_46 (by decide) ?_
          exact K7 _ _ (Eq.symm ((if_neg c7).trans rfl)) (lv_sub hl [0, 1, 2, 3, 4, 5, 6] rfl)
  have hol := ho
  refine L5 ((Int32.toInt ((fX11_of r p1 8 v)) - Int32.toInt ((fX11_of r p1 8 v) - p2)).toNat + 1) ((fX11_of r p1 8 v) - p2) 0 _ hol (lv_sub hl [0, 1, 2, 3, 4, 6, 7] rfl) (fun y4 ls ey4 hl => ?_)
  refine lv_iload hx hb dX11_onSide_76 (lv_at hl 0 rfl) ?_
  replace ey4 := Eq.symm ey4
  subst ey4
  exact E _ _ _ dX11_onSide_78 rfl (Eq.symm rfl)
theorem k_X11_onSide {p : Program} {l : Launch} {e : Env} {R : Room} {s : State} {m : MethodId} {args : Array Value} {below : List Frame} {meth : Method} {c : Code} {H : Heap} {locs : List Loc} {cells slots : Nat} {Q : State → Prop} {cc : ByteArray} {pc nL : Nat} {ls : Array Slot} {rest : List Value} {G : gG} {own : String} {da : Nat → Nat} {v : vSt} {x : gX} (X : CX G p s m args c cc nL own) (hS : va_S (gA G) s.heap H locs) (hH : Hp G da v x H) {r : Nat} (hk_r : kd r = 11) {p1 : Int32} {p2 : Int32} {p3 : Int32} {p4 : Int32} (ho : oX11_onSide r p1 p2 p3 p4 v) {idx : Nat} (hml : Cond.methodLink own idx yX11_onSide ∈ TT) (hls : ls.size = nL) (hsum : (rest.map fun v => v.category).sum ≤ 8) (hR : rmX11_onSide.frames + 1 ≤ R.frames ∧ 8 + (9 + 11) + rmX11_onSide.locals ≤ R.locals) (hcs : cells ≤ R.cells ∧ slots ≤ R.slots) (hdg : decode cc pc = .ok (.invokevirtual idx, 3)) (kk : W p l e R s m args below meth c H locs cells slots Q (F0 m (pc + 3) ls (.int (fX11_onSide r p1 p2 p3 p4 v) :: rest))) : W p l e R s m args below meth c H locs cells slots Q (F0 m pc ls (.int p4 :: .int p3 :: .int p2 :: .int p1 :: .ref (ga G r) :: rest)) := c_qi (runV (k := 4) X.1 X.2.1 X.2.2.1 X.2.2.2.1 X.2.2.2.2.1 (mX11_onSide l G da v x r hk_r p1 p2 p3 p4 ho) pW_bl hml t_im_X11_onSide t_sel_X11_onSide t_ini_VernierDrawersModel t_code_X11_onSide ⟨rfl, by decide, by decide, by decide +kernel⟩ rfl rfl hR hcs (recvW X hH (by rw [hk_r]; decide) (by rw [hk_r]; decide) (ce_11 hk_r) rfl) (preW X hS hH) rfl hls rfl hsum hdg) (fun _ h => h ▸ kk)
def fX11_signalsOf (r : Nat) (p1 : Int32) (v : vSt) : Int32 × vSt := let v3 : vSt := (fX11_asks r (fX11_isType r p1 v) v).2; if (((fX11_asks r (fX11_isType r p1 v) v).1) : Int32) = 0 then ((0, v3)) else (if ((fX11_of r p1 8 v3) : Int32) = 0 then ((0, v3)) else (let y9 : Int32 := (if ((fX11_of r p1 2 v3) : Int32) < (fX11_onChart r p1 ((fX11_of r p1 8 v3) - 1) v3) then 1 else (if ((fX11_of r p1 1 v3) : Int32) ≤ (fX11_onChart r p1 ((fX11_of r p1 8 v3) - 1) v3) then 0 else 1) : Int32); let y11 : Int32 := (if ((fX11_of r p1 8 v3) : Int32) < 6 then 0 else (if ((fX11_onSide r p1 5 1 1 v3) : Int32) = 5 then 2 else (if ((fX11_onSide r p1 5 (-1) 1 v3) : Int32) = 5 then 2 else 0)) : Int32); let y13 : Int32 := (if ((fX11_of r p1 8 v3) : Int32) < 7 then 0 else (if ((fX11_onSide r p1 7 1 0 v3) : Int32) = 7 then 4 else (if ((fX11_onSide r p1 7 (-1) 0 v3) : Int32) = 7 then 4 else 0)) : Int32); if ((fX11_of r p1 8 v3) : Int32) < 3 then ((((y9 + y11) + y13) + 0, v3)) else (if (2 : Int32) ≤ (fX11_farOut r p1 1 v3) then ((((y9 + y11) + y13) + 8, v3)) else (if ((fX11_farOut r p1 0 v3) : Int32) < 2 then ((((y9 + y11) + y13) + 0, v3)) else ((((y9 + y11) + y13) + 8, v3))))))
def oX11_signalsOf (r : Nat) (p1 : Int32) (v : vSt) : Prop := (oX11_isType r p1 v) ∧ ((oX11_asks r (fX11_isType r p1 v) v) ∧ (∀ v3 : vSt, v3 = ((fX11_asks r (fX11_isType r p1 v) v).2) → (¬ ((((fX11_asks r (fX11_isType r p1 v) v).1) : Int32) = 0) → ((oX11_of r p1 8 v3) ∧ (¬ (((fX11_of r p1 8 v3) : Int32) = 0) → ((oX11_onChart r p1 ((fX11_of r p1 8 v3) - 1) v3) ∧ ((oX11_of r p1 2 v3) ∧ ((¬ (((fX11_of r p1 2 v3) : Int32) < (fX11_onChart r p1 ((fX11_of r p1 8 v3) - 1) v3)) → (oX11_of r p1 1 v3)) ∧ (∀ (y9 : Int32), y9 = ((if ((fX11_of r p1 2 v3) : Int32) < (fX11_onChart r p1 ((fX11_of r p1 8 v3) - 1) v3) then 1 else (if ((fX11_of r p1 1 v3) : Int32) ≤ (fX11_onChart r p1 ((fX11_of r p1 8 v3) - 1) v3) then 0 else 1) : Int32) : Int32) → ((¬ (((fX11_of r p1 8 v3) : Int32) < 6) → ((oX11_onSide r p1 5 1 1 v3) ∧ (¬ (((fX11_onSide r p1 5 1 1 v3) : Int32) = 5) → (oX11_onSide r p1 5 (-1) 1 v3)))) ∧ (∀ (y11 : Int32), y11 = ((if ((fX11_of r p1 8 v3) : Int32) < 6 then 0 else (if ((fX11_onSide r p1 5 1 1 v3) : Int32) = 5 then 2 else (if ((fX11_onSide r p1 5 (-1) 1 v3) : Int32) = 5 then 2 else 0)) : Int32) : Int32) → ((¬ (((fX11_of r p1 8 v3) : Int32) < 7) → ((oX11_onSide r p1 7 1 0 v3) ∧ (¬ (((fX11_onSide r p1 7 1 0 v3) : Int32) = 7) → (oX11_onSide r p1 7 (-1) 0 v3)))) ∧ (∀ (y13 : Int32), y13 = ((if ((fX11_of r p1 8 v3) : Int32) < 7 then 0 else (if ((fX11_onSide r p1 7 1 0 v3) : Int32) = 7 then 4 else (if ((fX11_onSide r p1 7 (-1) 0 v3) : Int32) = 7 then 4 else 0)) : Int32) : Int32) → (¬ (((fX11_of r p1 8 v3) : Int32) < 3) → ((oX11_farOut r p1 1 v3) ∧ (¬ ((2 : Int32) ≤ (fX11_farOut r p1 1 v3)) → (oX11_farOut r p1 0 v3)))))))))))))))))
abbrev rmX11_signalsOf : Room := { frames := 3, cells := 0, slots := 0, locals := 72 }
theorem dX11_signalsOf_0 : decode cX11_signalsOf 0 = .ok (.aload_n 0, 1) := by decide +kernel
theorem dX11_signalsOf_1 : decode cX11_signalsOf 1 = .ok (.aload_n 0, 1) := by decide +kernel
theorem dX11_signalsOf_2 : decode cX11_signalsOf 2 = .ok (.iload_n 1, 1) := by decide +kernel
theorem dX11_signalsOf_3 : decode cX11_signalsOf 3 = .ok (.invokevirtual 152, 3) := by decide +kernel
theorem dX11_signalsOf_6 : decode cX11_signalsOf 6 = .ok (.invokevirtual 214, 3) := by decide +kernel
theorem dX11_signalsOf_9 : decode cX11_signalsOf 9 = .ok (.ifCond .ne 5, 3) := by decide +kernel
theorem dX11_signalsOf_12 : decode cX11_signalsOf 12 = .ok (.iconst 0, 1) := by decide +kernel
theorem dX11_signalsOf_13 : decode cX11_signalsOf 13 = .ok (.ireturn, 1) := by decide +kernel
theorem dX11_signalsOf_14 : decode cX11_signalsOf 14 = .ok (.aload_n 0, 1) := by decide +kernel
theorem dX11_signalsOf_15 : decode cX11_signalsOf 15 = .ok (.iload_n 1, 1) := by decide +kernel
theorem dX11_signalsOf_16 : decode cX11_signalsOf 16 = .ok (.bipush 8, 2) := by decide +kernel
theorem dX11_signalsOf_18 : decode cX11_signalsOf 18 = .ok (.invokevirtual 90, 3) := by decide +kernel
theorem dX11_signalsOf_21 : decode cX11_signalsOf 21 = .ok (.istore_n 2, 1) := by decide +kernel
theorem dX11_signalsOf_22 : decode cX11_signalsOf 22 = .ok (.iload_n 2, 1) := by decide +kernel
theorem dX11_signalsOf_23 : decode cX11_signalsOf 23 = .ok (.ifCond .ne 5, 3) := by decide +kernel
theorem dX11_signalsOf_26 : decode cX11_signalsOf 26 = .ok (.iconst 0, 1) := by decide +kernel
theorem dX11_signalsOf_27 : decode cX11_signalsOf 27 = .ok (.ireturn, 1) := by decide +kernel
theorem dX11_signalsOf_28 : decode cX11_signalsOf 28 = .ok (.aload_n 0, 1) := by decide +kernel
theorem dX11_signalsOf_29 : decode cX11_signalsOf 29 = .ok (.iload_n 1, 1) := by decide +kernel
theorem dX11_signalsOf_30 : decode cX11_signalsOf 30 = .ok (.iload_n 2, 1) := by decide +kernel
theorem dX11_signalsOf_31 : decode cX11_signalsOf 31 = .ok (.iconst 1, 1) := by decide +kernel
theorem dX11_signalsOf_32 : decode cX11_signalsOf 32 = .ok (.isub, 1) := by decide +kernel
theorem dX11_signalsOf_33 : decode cX11_signalsOf 33 = .ok (.invokevirtual 123, 3) := by decide +kernel
theorem dX11_signalsOf_36 : decode cX11_signalsOf 36 = .ok (.istore_n 3, 1) := by decide +kernel
theorem dX11_signalsOf_37 : decode cX11_signalsOf 37 = .ok (.iload_n 3, 1) := by decide +kernel
theorem dX11_signalsOf_38 : decode cX11_signalsOf 38 = .ok (.aload_n 0, 1) := by decide +kernel
theorem dX11_signalsOf_39 : decode cX11_signalsOf 39 = .ok (.iload_n 1, 1) := by decide +kernel
theorem dX11_signalsOf_40 : decode cX11_signalsOf 40 = .ok (.iconst 2, 1) := by decide +kernel
theorem dX11_signalsOf_41 : decode cX11_signalsOf 41 = .ok (.invokevirtual 90, 3) := by decide +kernel
theorem dX11_signalsOf_44 : decode cX11_signalsOf 44 = .ok (.if_icmp .gt 13, 3) := by decide +kernel
theorem dX11_signalsOf_47 : decode cX11_signalsOf 47 = .ok (.iload_n 3, 1) := by decide +kernel
theorem dX11_signalsOf_48 : decode cX11_signalsOf 48 = .ok (.aload_n 0, 1) := by decide +kernel
theorem dX11_signalsOf_49 : decode cX11_signalsOf 49 = .ok (.iload_n 1, 1) := by decide +kernel
theorem dX11_signalsOf_50 : decode cX11_signalsOf 50 = .ok (.iconst 1, 1) := by decide +kernel
theorem dX11_signalsOf_51 : decode cX11_signalsOf 51 = .ok (.invokevirtual 90, 3) := by decide +kernel
theorem dX11_signalsOf_54 : decode cX11_signalsOf 54 = .ok (.if_icmp .ge 7, 3) := by decide +kernel
theorem dX11_signalsOf_57 : decode cX11_signalsOf 57 = .ok (.iconst 1, 1) := by decide +kernel
theorem dX11_signalsOf_58 : decode cX11_signalsOf 58 = .ok (.goto 4, 3) := by decide +kernel
theorem dX11_signalsOf_61 : decode cX11_signalsOf 61 = .ok (.iconst 0, 1) := by decide +kernel
theorem dX11_signalsOf_62 : decode cX11_signalsOf 62 = .ok (.istore 4, 2) := by decide +kernel
theorem dX11_signalsOf_64 : decode cX11_signalsOf 64 = .ok (.iload 4, 2) := by decide +kernel
theorem dX11_signalsOf_66 : decode cX11_signalsOf 66 = .ok (.iload_n 2, 1) := by decide +kernel
theorem dX11_signalsOf_67 : decode cX11_signalsOf 67 = .ok (.bipush 6, 2) := by decide +kernel
theorem dX11_signalsOf_69 : decode cX11_signalsOf 69 = .ok (.if_icmp .lt 31, 3) := by decide +kernel
theorem dX11_signalsOf_72 : decode cX11_signalsOf 72 = .ok (.aload_n 0, 1) := by decide +kernel
theorem dX11_signalsOf_73 : decode cX11_signalsOf 73 = .ok (.iload_n 1, 1) := by decide +kernel
theorem dX11_signalsOf_74 : decode cX11_signalsOf 74 = .ok (.iconst 5, 1) := by decide +kernel
theorem dX11_signalsOf_75 : decode cX11_signalsOf 75 = .ok (.iconst 1, 1) := by decide +kernel
theorem dX11_signalsOf_76 : decode cX11_signalsOf 76 = .ok (.iconst 1, 1) := by decide +kernel
theorem dX11_signalsOf_77 : decode cX11_signalsOf 77 = .ok (.invokevirtual 246, 3) := by decide +kernel
theorem dX11_signalsOf_80 : decode cX11_signalsOf 80 = .ok (.iconst 5, 1) := by decide +kernel
theorem dX11_signalsOf_81 : decode cX11_signalsOf 81 = .ok (.if_icmp .eq 15, 3) := by decide +kernel
theorem dX11_signalsOf_84 : decode cX11_signalsOf 84 = .ok (.aload_n 0, 1) := by decide +kernel
theorem dX11_signalsOf_85 : decode cX11_signalsOf 85 = .ok (.iload_n 1, 1) := by decide +kernel
theorem dX11_signalsOf_86 : decode cX11_signalsOf 86 = .ok (.iconst 5, 1) := by decide +kernel
theorem dX11_signalsOf_87 : decode cX11_signalsOf 87 = .ok (.iconst (-1), 1) := by decide +kernel
theorem dX11_signalsOf_88 : decode cX11_signalsOf 88 = .ok (.iconst 1, 1) := by decide +kernel
theorem dX11_signalsOf_89 : decode cX11_signalsOf 89 = .ok (.invokevirtual 246, 3) := by decide +kernel
theorem dX11_signalsOf_92 : decode cX11_signalsOf 92 = .ok (.iconst 5, 1) := by decide +kernel
theorem dX11_signalsOf_93 : decode cX11_signalsOf 93 = .ok (.if_icmp .ne 7, 3) := by decide +kernel
theorem dX11_signalsOf_96 : decode cX11_signalsOf 96 = .ok (.iconst 2, 1) := by decide +kernel
theorem dX11_signalsOf_97 : decode cX11_signalsOf 97 = .ok (.goto 4, 3) := by decide +kernel
theorem dX11_signalsOf_100 : decode cX11_signalsOf 100 = .ok (.iconst 0, 1) := by decide +kernel
theorem dX11_signalsOf_101 : decode cX11_signalsOf 101 = .ok (.iadd, 1) := by decide +kernel
theorem dX11_signalsOf_102 : decode cX11_signalsOf 102 = .ok (.istore 4, 2) := by decide +kernel
theorem dX11_signalsOf_104 : decode cX11_signalsOf 104 = .ok (.iload 4, 2) := by decide +kernel
theorem dX11_signalsOf_106 : decode cX11_signalsOf 106 = .ok (.iload_n 2, 1) := by decide +kernel
theorem dX11_signalsOf_107 : decode cX11_signalsOf 107 = .ok (.bipush 7, 2) := by decide +kernel
theorem dX11_signalsOf_109 : decode cX11_signalsOf 109 = .ok (.if_icmp .lt 35, 3) := by decide +kernel
theorem dX11_signalsOf_112 : decode cX11_signalsOf 112 = .ok (.aload_n 0, 1) := by decide +kernel
theorem dX11_signalsOf_113 : decode cX11_signalsOf 113 = .ok (.iload_n 1, 1) := by decide +kernel
theorem dX11_signalsOf_114 : decode cX11_signalsOf 114 = .ok (.bipush 7, 2) := by decide +kernel
theorem dX11_signalsOf_116 : decode cX11_signalsOf 116 = .ok (.iconst 1, 1) := by decide +kernel
theorem dX11_signalsOf_117 : decode cX11_signalsOf 117 = .ok (.iconst 0, 1) := by decide +kernel
theorem dX11_signalsOf_118 : decode cX11_signalsOf 118 = .ok (.invokevirtual 246, 3) := by decide +kernel
theorem dX11_signalsOf_121 : decode cX11_signalsOf 121 = .ok (.bipush 7, 2) := by decide +kernel
theorem dX11_signalsOf_123 : decode cX11_signalsOf 123 = .ok (.if_icmp .eq 17, 3) := by decide +kernel
theorem dX11_signalsOf_126 : decode cX11_signalsOf 126 = .ok (.aload_n 0, 1) := by decide +kernel
theorem dX11_signalsOf_127 : decode cX11_signalsOf 127 = .ok (.iload_n 1, 1) := by decide +kernel
theorem dX11_signalsOf_128 : decode cX11_signalsOf 128 = .ok (.bipush 7, 2) := by decide +kernel
theorem dX11_signalsOf_130 : decode cX11_signalsOf 130 = .ok (.iconst (-1), 1) := by decide +kernel
theorem dX11_signalsOf_131 : decode cX11_signalsOf 131 = .ok (.iconst 0, 1) := by decide +kernel
theorem dX11_signalsOf_132 : decode cX11_signalsOf 132 = .ok (.invokevirtual 246, 3) := by decide +kernel
theorem dX11_signalsOf_135 : decode cX11_signalsOf 135 = .ok (.bipush 7, 2) := by decide +kernel
theorem dX11_signalsOf_137 : decode cX11_signalsOf 137 = .ok (.if_icmp .ne 7, 3) := by decide +kernel
theorem dX11_signalsOf_140 : decode cX11_signalsOf 140 = .ok (.iconst 4, 1) := by decide +kernel
theorem dX11_signalsOf_141 : decode cX11_signalsOf 141 = .ok (.goto 4, 3) := by decide +kernel
theorem dX11_signalsOf_144 : decode cX11_signalsOf 144 = .ok (.iconst 0, 1) := by decide +kernel
theorem dX11_signalsOf_145 : decode cX11_signalsOf 145 = .ok (.iadd, 1) := by decide +kernel
theorem dX11_signalsOf_146 : decode cX11_signalsOf 146 = .ok (.istore 4, 2) := by decide +kernel
theorem dX11_signalsOf_148 : decode cX11_signalsOf 148 = .ok (.iload 4, 2) := by decide +kernel
theorem dX11_signalsOf_150 : decode cX11_signalsOf 150 = .ok (.iload_n 2, 1) := by decide +kernel
theorem dX11_signalsOf_151 : decode cX11_signalsOf 151 = .ok (.iconst 3, 1) := by decide +kernel
theorem dX11_signalsOf_152 : decode cX11_signalsOf 152 = .ok (.if_icmp .lt 28, 3) := by decide +kernel
theorem dX11_signalsOf_155 : decode cX11_signalsOf 155 = .ok (.aload_n 0, 1) := by decide +kernel
theorem dX11_signalsOf_156 : decode cX11_signalsOf 156 = .ok (.iload_n 1, 1) := by decide +kernel
theorem dX11_signalsOf_157 : decode cX11_signalsOf 157 = .ok (.iconst 1, 1) := by decide +kernel
theorem dX11_signalsOf_158 : decode cX11_signalsOf 158 = .ok (.invokevirtual 250, 3) := by decide +kernel
theorem dX11_signalsOf_161 : decode cX11_signalsOf 161 = .ok (.iconst 2, 1) := by decide +kernel
theorem dX11_signalsOf_162 : decode cX11_signalsOf 162 = .ok (.if_icmp .ge 13, 3) := by decide +kernel
theorem dX11_signalsOf_165 : decode cX11_signalsOf 165 = .ok (.aload_n 0, 1) := by decide +kernel
theorem dX11_signalsOf_166 : decode cX11_signalsOf 166 = .ok (.iload_n 1, 1) := by decide +kernel
theorem dX11_signalsOf_167 : decode cX11_signalsOf 167 = .ok (.iconst 0, 1) := by decide +kernel
theorem dX11_signalsOf_168 : decode cX11_signalsOf 168 = .ok (.invokevirtual 250, 3) := by decide +kernel
theorem dX11_signalsOf_171 : decode cX11_signalsOf 171 = .ok (.iconst 2, 1) := by decide +kernel
theorem dX11_signalsOf_172 : decode cX11_signalsOf 172 = .ok (.if_icmp .lt 8, 3) := by decide +kernel
theorem dX11_signalsOf_175 : decode cX11_signalsOf 175 = .ok (.bipush 8, 2) := by decide +kernel
theorem dX11_signalsOf_177 : decode cX11_signalsOf 177 = .ok (.goto 4, 3) := by decide +kernel
theorem dX11_signalsOf_180 : decode cX11_signalsOf 180 = .ok (.iconst 0, 1) := by decide +kernel
theorem dX11_signalsOf_181 : decode cX11_signalsOf 181 = .ok (.iadd, 1) := by decide +kernel
theorem dX11_signalsOf_182 : decode cX11_signalsOf 182 = .ok (.istore 4, 2) := by decide +kernel
theorem dX11_signalsOf_184 : decode cX11_signalsOf 184 = .ok (.iload 4, 2) := by decide +kernel
theorem dX11_signalsOf_186 : decode cX11_signalsOf 186 = .ok (.ireturn, 1) := by decide +kernel
set_option maxHeartbeats 8000000 in
set_option maxRecDepth 100000 in
theorem mX11_signalsOf (l : Launch) (G : gG) (da : Nat → Nat) (v : vSt) (x : gX) (r : Nat) (hk_r : kd r = 11) (p1 : Int32) (ho : oX11_signalsOf r p1 v) : MI l yX11_signalsOf cX11_signalsOf 5 (some .int) rmX11_signalsOf [.ref (ga G r), .int p1] G da v x 0 0 (fX11_signalsOf r p1 v).1 (fX11_signalsOf r p1 v).2 x := by
  refine gofMI (own := RX11) (by decide) rfl (Nat.le_of_ble_eq_true rfl) (fun p e s m args below meth c ls Q X hH hl E => ?_)
  have hx := X.1
  have hb := X.2.1
  have hown := X.2.2.2.1
  have hts := X.2.2.2.2.1
  have hS : va_S (gA G) s.heap s.heap [] := va_S.rf
  unfold oX11_signalsOf at ho
  have hl : lv_has ls 5 [(0, .ref (ga G r)), (1, .int p1)] := hl
  refine lv_aload_n hx hb dX11_signalsOf_0 rfl (lv_at hl 0 rfl) ?_
  refine lv_aload_n hx hb dX11_signalsOf_1 rfl (lv_at hl 0 rfl) ?_
  refine lv_iload_n hx hb dX11_signalsOf_2 rfl (lv_at hl 1 rfl) ?_
  have hq1 := ho.1
  have ho := ho.2
  refine k_X11_isType X hS hH hk_r hq1 t_ml_VernierDrawersModel_152 hl.1 (Nat.le_of_ble_eq_true rfl) ⟨Nat.le_of_ble_eq_true rfl, Nat.le_of_ble_eq_true rfl⟩ ⟨Nat.zero_le _, Nat.zero_le _⟩ dX11_signalsOf_3 ?_
  have hq2 := ho.1
  have ho := ho.2
  refine k_X11_asks X hS hH hk_r hq2 t_ml_VernierDrawersModel_214 hl.1 (Nat.le_of_ble_eq_true rfl) ⟨Nat.le_of_ble_eq_true rfl, Nat.le_of_ble_eq_true rfl⟩ ⟨Nat.zero_le _, Nat.zero_le _⟩ dX11_signalsOf_6 (fun da H locs v3 ev3 hH hS => ?_)
  have ho := ho v3 ev3
  refine lv_if_ne (tgt := 14) hx hb dX11_signalsOf_9 (by decide) (fun c4 => ?_) (fun c4 => ?_)
  · have ho := ho c4
    refine lv_aload_n hx hb dX11_signalsOf_14 rfl (lv_at hl 0 rfl) ?_
    refine lv_iload_n hx hb dX11_signalsOf_15 rfl (lv_at hl 1 rfl) ?_
    refine lv_bipush (v := 8) hx hb dX11_signalsOf_16 (by decide) ?_
    have hq5 := ho.1
    have ho := ho.2
    refine k_X11_of X hS hH hk_r hq5 t_ml_VernierDrawersModel_90 hl.1 (Nat.le_of_ble_eq_true rfl) ⟨Nat.le_of_ble_eq_true rfl, Nat.le_of_ble_eq_true rfl⟩ ⟨Nat.zero_le _, Nat.zero_le _⟩ dX11_signalsOf_18 ?_
    refine lv_istore_n (lv' := [(2, .int (fX11_of r p1 8 v3)), (0, .ref (ga G r)), (1, .int p1)]) hx hb dX11_signalsOf_21 rfl hl (by decide) rfl (fun ls hl => ?_)
    refine lv_iload_n hx hb dX11_signalsOf_22 rfl (lv_at hl 0 rfl) ?_
    refine lv_if_ne (tgt := 28) hx hb dX11_signalsOf_23 (by decide) (fun c6 => ?_) (fun c6 => ?_)
    · have ho := ho c6
      refine lv_aload_n hx hb dX11_signalsOf_28 rfl (lv_at hl 1 rfl) ?_
      refine lv_iload_n hx hb dX11_signalsOf_29 rfl (lv_at hl 2 rfl) ?_
      refine lv_iload_n hx hb dX11_signalsOf_30 rfl (lv_at hl 0 rfl) ?_
      refine lv_iconst (v := 1) hx hb dX11_signalsOf_31 (by decide) ?_
      refine lv_isub hx hb dX11_signalsOf_32 ?_
      have hq7 := ho.1
      have ho := ho.2
      refine k_X11_onChart X hS hH hk_r hq7 t_ml_VernierDrawersModel_123 hl.1 (Nat.le_of_ble_eq_true rfl) ⟨Nat.le_of_ble_eq_true rfl, Nat.le_of_ble_eq_true rfl⟩ ⟨Nat.zero_le _, Nat.zero_le _⟩ dX11_signalsOf_33 ?_
      refine lv_istore_n (lv' := [(3, .int (fX11_onChart r p1 ((fX11_of r p1 8 v3) - 1) v3)), (2, .int (fX11_of r p1 8 v3)), (0, .ref (ga G r)), (1, .int p1)]) hx hb dX11_signalsOf_36 rfl hl (by decide) rfl (fun ls hl => ?_)
      refine lv_iload_n hx hb dX11_signalsOf_37 rfl (lv_at hl 0 rfl) ?_
      refine lv_aload_n hx hb dX11_signalsOf_38 rfl (lv_at hl 2 rfl) ?_
      refine lv_iload_n hx hb dX11_signalsOf_39 rfl (lv_at hl 3 rfl) ?_
      refine lv_iconst (v := 2) hx hb dX11_signalsOf_40 (by decide) ?_
      have hq8 := ho.1
      have ho := ho.2
      refine k_X11_of X hS hH hk_r hq8 t_ml_VernierDrawersModel_90 hl.1 (Nat.le_of_ble_eq_true rfl) ⟨Nat.le_of_ble_eq_true rfl, Nat.le_of_ble_eq_true rfl⟩ ⟨Nat.zero_le _, Nat.zero_le _⟩ dX11_signalsOf_41 ?_
      have K10 : ∀ (y9 : Int32) (ls : Array Slot), y9 = (if ((fX11_of r p1 2 v3) : Int32) < (fX11_onChart r p1 ((fX11_of r p1 8 v3) - 1) v3) then 1 else (if ((fX11_of r p1 1 v3) : Int32) ≤ (fX11_onChart r p1 ((fX11_of r p1 8 v3) - 1) v3) then 0 else 1) : Int32) → lv_has ls 5 [(2, .int (fX11_of r p1 8 v3)), (0, .ref (ga G r)), (1, .int p1)] → W p l e rmX11_signalsOf s m args below meth c H locs 0 0 Q (F0 m 62 ls [.int y9]) := by
        intro y9 ls ey9 hl
        have ho := ho.2 y9 ey9
        refine lv_istore (lv' := [(4, .int y9), (2, .int (fX11_of r p1 8 v3)), (0, .ref (ga G r)), (1, .int p1)]) hx hb dX11_signalsOf_62 hl (by decide) rfl (fun ls hl => ?_)
        refine lv_iload hx hb dX11_signalsOf_64 (lv_at hl 0 rfl) ?_
        refine lv_iload_n hx hb dX11_signalsOf_66 rfl (lv_at hl 1 rfl) ?_
        refine lv_bipush (v := 6) hx hb dX11_signalsOf_67 (by decide) ?_
        have K12 : ∀ (y11 : Int32) (ls : Array Slot), y11 = (if ((fX11_of r p1 8 v3) : Int32) < 6 then 0 else (if ((fX11_onSide r p1 5 1 1 v3) : Int32) = 5 then 2 else (if ((fX11_onSide r p1 5 (-1) 1 v3) : Int32) = 5 then 2 else 0)) : Int32) → lv_has ls 5 [(2, .int (fX11_of r p1 8 v3)), (0, .ref (ga G r)), (1, .int p1)] → W p l e rmX11_signalsOf s m args below meth c H locs 0 0 Q (F0 m 101 ls [.int y11, .int y9]) := by
          intro y11 ls ey11 hl
          have ho := ho.2 y11 ey11
          refine lv_iadd hx hb dX11_signalsOf_101 ?_
          refine lv_istore (lv' := [(4, .int (y9 + y11)), (2, .int (fX11_of r p1 8 v3)), (0, .ref (ga G r)), (1, .int p1)]) hx hb dX11_signalsOf_102 hl (by decide) rfl (fun ls hl => ?_)
          refine lv_iload hx hb dX11_signalsOf_104 (lv_at hl 0 rfl) ?_
          refine lv_iload_n hx hb dX11_signalsOf_106 rfl (lv_at hl 1 rfl) ?_
          refine lv_bipush (v := 7) hx hb dX11_signalsOf_107 (by decide) ?_
          have K14 : ∀ (y13 : Int32) (ls : Array Slot), y13 = (if ((fX11_of r p1 8 v3) : Int32) < 7 then 0 else (if ((fX11_onSide r p1 7 1 0 v3) : Int32) = 7 then 4 else (if ((fX11_onSide r p1 7 (-1) 0 v3) : Int32) = 7 then 4 else 0)) : Int32) → lv_has ls 5 [(2, .int (fX11_of r p1 8 v3)), (0, .ref (ga G r)), (1, .int p1)] → W p l e rmX11_signalsOf s m args below meth c H locs 0 0 Q (F0 m 145 ls [.int y13, .int (y9 + y11)]) := by
            intro y13 ls ey13 hl
            have ho := ho.2 y13 ey13
            refine lv_iadd hx hb dX11_signalsOf_145 ?_
            refine lv_istore (lv' := [(4, .int ((y9 + y11) + y13)), (2, .int (fX11_of r p1 8 v3)), (0, .ref (ga G r)), (1, .int p1)]) hx hb dX11_signalsOf_146 hl (by decide) rfl (fun ls hl => ?_)
            refine lv_iload hx hb dX11_signalsOf_148 (lv_at hl 0 rfl) ?_
            refine lv_iload_n hx hb dX11_signalsOf_150 rfl (lv_at hl 1 rfl) ?_
            refine lv_iconst (v := 3) hx hb dX11_signalsOf_151 (by decide) ?_
            refine lv_icmp_lt (tgt := 180) hx hb dX11_signalsOf_152 (by decide) (fun c15 => ?_) (fun c15 => ?_)
            · skip
              refine lv_iconst (v := 0) hx hb dX11_signalsOf_180 (by decide) ?_
              refine lv_iadd hx hb dX11_signalsOf_181 ?_
              refine lv_istore (lv' := [(4, .int (((y9 + y11) + y13) + 0)), (2, .int (fX11_of r p1 8 v3)), (0, .ref (ga G r)), (1, .int p1)]) hx hb dX11_signalsOf_182 hl (by decide) rfl (fun ls hl => ?_)
              refine lv_iload hx hb dX11_signalsOf_184 (lv_at hl 0 rfl) ?_
              replace ev3 := Eq.symm ev3
              replace ey9 := Eq.symm ey9
              replace ey11 := Eq.symm ey11
              replace ey13 := Eq.symm ey13
              subst ev3 ey9 ey11 ey13
              exact E _ _ _ _ _ _ _ _ _ dX11_signalsOf_186 rfl (pr1 ((fX11_signalsOf.eq_1 _ _ _).trans ((if_neg c4).trans ((if_neg c6).trans ((if_pos c15).trans rfl))))) (pr2 ((fX11_signalsOf.eq_1 _ _ _).trans ((if_neg c4).trans ((if_neg c6).trans ((if_pos c15).trans rfl))))) hH hS (Nat.zero_le _) (Nat.zero_le _)
            · have ho := ho c15
              refine lv_aload_n hx hb dX11_signalsOf_155 rfl (lv_at hl 2 rfl) ?_
              refine lv_iload_n hx hb dX11_signalsOf_156 rfl (lv_at hl 3 rfl) ?_
              refine lv_iconst (v := 1) hx hb dX11_signalsOf_157 (by decide) ?_
              have hq16 := ho.1
              have ho := ho.2
              refine k_X11_farOut X hS hH hk_r hq16 t_ml_VernierDrawersModel_250 hl.1 (Nat.le_of_ble_eq_true rfl) ⟨Nat.le_of_ble_eq_true rfl, Nat.le_of_ble_eq_true rfl⟩ ⟨Nat.zero_le _, Nat.zero_le _⟩ dX11_signalsOf_158 ?_
              refine lv_iconst (v := 2) hx hb dX11_signalsOf_161 (by decide) ?_
              refine lv_icmp_ge (tgt := 175) hx hb dX11_signalsOf_162 (by decide) (fun c17 => ?_) (fun c17 => ?_)
              · skip
                refine lv_bipush (v := 8) hx hb dX11_signalsOf_175 (by decide) ?_
                refine lv_goto (tgt := 181) hx hb dX11_signalsOf_177 (by decide) ?_
                refine lv_iadd hx hb dX11_signalsOf_181 ?_
                refine lv_istore (lv' := [(4, .int (((y9 + y11) + y13) + 8)), (2, .int (fX11_of r p1 8 v3)), (0, .ref (ga G r)), (1, .int p1)]) hx hb dX11_signalsOf_182 hl (by decide) rfl (fun ls hl => ?_)
                refine lv_iload hx hb dX11_signalsOf_184 (lv_at hl 0 rfl) ?_
                replace ev3 := Eq.symm ev3
                replace ey9 := Eq.symm ey9
                replace ey11 := Eq.symm ey11
                replace ey13 := Eq.symm ey13
                subst ev3 ey9 ey11 ey13
                exact E _ _ _ _ _ _ _ _ _ dX11_signalsOf_186 rfl (pr1 ((fX11_signalsOf.eq_1 _ _ _).trans ((if_neg c4).trans ((if_neg c6).trans ((if_neg c15).trans ((if_pos c17).trans rfl)))))) (pr2 ((fX11_signalsOf.eq_1 _ _ _).trans ((if_neg c4).trans ((if_neg c6).trans ((if_neg c15).trans ((if_pos c17).trans rfl)))))) hH hS (Nat.zero_le _) (Nat.zero_le _)
              · have ho := ho c17
                refine lv_aload_n hx hb dX11_signalsOf_165 rfl (lv_at hl 2 rfl) ?_
                refine lv_iload_n hx hb dX11_signalsOf_166 rfl (lv_at hl 3 rfl) ?_
                refine lv_iconst (v := 0) hx hb dX11_signalsOf_167 (by decide) ?_
                have hq18 := ho
                refine k_X11_farOut X hS hH hk_r hq18 t_ml_VernierDrawersModel_250 hl.1 (Nat.le_of_ble_eq_true rfl) ⟨Nat.le_of_ble_eq_true rfl, Nat.le_of_ble_eq_true rfl⟩ ⟨Nat.zero_le _, Nat.zero_le _⟩ dX11_signalsOf_168 ?_
                refine lv_iconst (v := 2) hx hb dX11_signalsOf_171 (by decide) ?_
                refine lv_icmp_lt (tgt := 180) hx hb dX11_signalsOf_172 (by decide) (fun c19 => ?_) (fun c19 => ?_)
                · skip
                  refine lv_iconst (v := 0) hx hb dX11_signalsOf_180 (by decide) ?_
                  refine lv_iadd hx hb dX11_signalsOf_181 ?_
                  refine lv_istore (lv' := [(4, .int (((y9 + y11) + y13) + 0)), (2, .int (fX11_of r p1 8 v3)), (0, .ref (ga G r)), (1, .int p1)]) hx hb dX11_signalsOf_182 hl (by decide) rfl (fun ls hl => ?_)
                  refine lv_iload hx hb dX11_signalsOf_184 (lv_at hl 0 rfl) ?_
                  replace ev3 := Eq.symm ev3
                  replace ey9 := Eq.symm ey9
                  replace ey11 := Eq.symm ey11
                  replace ey13 := Eq.symm ey13
                  subst ev3 ey9 ey11 ey13
                  exact E _ _ _ _ _ _ _ _ _ dX11_signalsOf_186 rfl (pr1 ((fX11_signalsOf.eq_1 _ _ _).trans ((if_neg c4).trans ((if_neg c6).trans ((if_neg c15).trans ((if_neg c17).trans ((if_pos c19).trans rfl))))))) (pr2 ((fX11_signalsOf.eq_1 _ _ _).trans ((if_neg c4).trans ((if_neg c6).trans ((if_neg c15).trans ((if_neg c17).trans ((if_pos c19).trans rfl))))))) hH hS (Nat.zero_le _) (Nat.zero_le _)
                · skip
                  refine lv_bipush (v := 8) hx hb dX11_signalsOf_175 (by decide) ?_
                  refine lv_goto (tgt := 181) hx hb dX11_signalsOf_177 (by decide) ?_
                  refine lv_iadd hx hb dX11_signalsOf_181 ?_
                  refine lv_istore (lv' := [(4, .int (((y9 + y11) + y13) + 8)), (2, .int (fX11_of r p1 8 v3)), (0, .ref (ga G r)), (1, .int p1)]) hx hb dX11_signalsOf_182 hl (by decide) rfl (fun ls hl => ?_)
                  refine lv_iload hx hb dX11_signalsOf_184 (lv_at hl 0 rfl) ?_
                  replace ev3 := Eq.symm ev3
                  replace ey9 := Eq.symm ey9
                  replace ey11 := Eq.symm ey11
                  replace ey13 := Eq.symm ey13
                  subst ev3 ey9 ey11 ey13
                  exact E _ _ _ _ _ _ _ _ _ dX11_signalsOf_186 rfl (pr1 ((fX11_signalsOf.eq_1 _ _ _).trans ((if_neg c4).trans ((if_neg c6).trans ((if_neg c15).trans ((if_neg c17).trans ((if_neg c19).trans rfl))))))) (pr2 ((fX11_signalsOf.eq_1 _ _ _).trans ((if_neg c4).trans ((if_neg c6).trans ((if_neg c15).trans ((if_neg c17).trans ((if_neg c19).trans rfl))))))) hH hS (Nat.zero_le _) (Nat.zero_le _)
          have ho := ho.1
          refine lv_icmp_lt (tgt := 144) hx hb dX11_signalsOf_109 (by decide) (fun c14 => ?_) (fun c14 => ?_)
          · skip
            refine lv_iconst (v := 0) hx hb dX11_signalsOf_144 (by decide) ?_
            exact K14 _ _ (Eq.symm ((if_pos c14).trans rfl)) (lv_sub hl [1, 2, 3] rfl)
          · have ho := ho c14
            refine lv_aload_n hx hb dX11_signalsOf_112 rfl (lv_at hl 2 rfl) ?_
            refine lv_iload_n hx hb dX11_signalsOf_113 rfl (lv_at hl 3 rfl) ?_
            refine lv_bipush (v := 7) hx hb dX11_signalsOf_114 (by decide) ?_
            refine lv_iconst (v := 1) hx hb dX11_signalsOf_116 (by decide) ?_
            refine lv_iconst (v := 0) hx hb dX11_signalsOf_117 (by decide) ?_
            have hq15 := ho.1
            have ho := ho.2
            refine k_X11_onSide X hS hH hk_r hq15 t_ml_VernierDrawersModel_246 hl.1 (Nat.le_of_ble_eq_true rfl) ⟨Nat.le_of_ble_eq_true rfl, Nat.le_of_ble_eq_true rfl⟩ ⟨Nat.zero_le _, Nat.zero_le _⟩ dX11_signalsOf_118 ?_
            refine lv_bipush (v := 7) hx hb dX11_signalsOf_121 (by decide) ?_
            refine lv_icmp_eq (tgt := 140) hx hb dX11_signalsOf_123 (by decide) (fun c16 => ?_) (fun c16 => ?_)
            · skip
              refine lv_iconst (v := 4) hx hb dX11_signalsOf_140 (by decide) ?_
              refine lv_goto (tgt := 145) hx hb dX11_signalsOf_141 (by decide) ?_
              exact K14 _ _ (Eq.symm ((if_neg c14).trans ((if_pos c16).trans rfl))) (lv_sub hl [1, 2, 3] rfl)
            · have ho := ho c16
              refine lv_aload_n hx hb dX11_signalsOf_126 rfl (lv_at hl 2 rfl) ?_
              refine lv_iload_n hx hb dX11_signalsOf_127 rfl (lv_at hl 3 rfl) ?_
              refine lv_bipush (v := 7) hx hb dX11_signalsOf_128 (by decide) ?_
              refine lv_iconst (v := (-1)) hx hb dX11_signalsOf_130 (by decide) ?_
              refine lv_iconst (v := 0) hx hb dX11_signalsOf_131 (by decide) ?_
              have hq17 := ho
              refine k_X11_onSide X hS hH hk_r hq17 t_ml_VernierDrawersModel_246 hl.1 (Nat.le_of_ble_eq_true rfl) ⟨Nat.le_of_ble_eq_true rfl, Nat.le_of_ble_eq_true rfl⟩ ⟨Nat.zero_le _, Nat.zero_le _⟩ dX11_signalsOf_132 ?_
              refine lv_bipush (v := 7) hx hb dX11_signalsOf_135 (by decide) ?_
              refine lv_icmp_ne (tgt := 144) hx hb dX11_signalsOf_137 (by decide) (fun c18 => ?_) (fun c18 => ?_)
              · skip
                refine lv_iconst (v := 0) hx hb dX11_signalsOf_144 (by decide) ?_
                exact K14 _ _ (Eq.symm ((if_neg c14).trans ((if_neg c16).trans ((if_neg c18).trans rfl)))) (lv_sub hl [1, 2, 3] rfl)
              · skip
                refine lv_iconst (v := 4) hx hb dX11_signalsOf_140 (by decide) ?_
                refine lv_goto (tgt := 145) hx hb dX11_signalsOf_141 (by decide) ?_
                exact K14 _ _ (Eq.symm ((if_neg c14).trans ((if_neg c16).trans ((if_pos c18).trans rfl)))) (lv_sub hl [1, 2, 3] rfl)
        have ho := ho.1
        refine lv_icmp_lt (tgt := 100) hx hb dX11_signalsOf_69 (by decide) (fun c12 => ?_) (fun c12 => ?_)
        · skip
          refine lv_iconst (v := 0) hx hb dX11_signalsOf_100 (by decide) ?_
          exact K12 _ _ (Eq.symm ((if_pos c12).trans rfl)) (lv_sub hl [1, 2, 3] rfl)
        · have ho := ho c12
          refine lv_aload_n hx hb dX11_signalsOf_72 rfl (lv_at hl 2 rfl) ?_
          refine lv_iload_n hx hb dX11_signalsOf_73 rfl (lv_at hl 3 rfl) ?_
          refine lv_iconst (v := 5) hx hb dX11_signalsOf_74 (by decide) ?_
          refine lv_iconst (v := 1) hx hb dX11_signalsOf_75 (by decide) ?_
          refine lv_iconst (v := 1) hx hb dX11_signalsOf_76 (by decide) ?_
          have hq13 := ho.1
          have ho := ho.2
          refine k_X11_onSide X hS hH hk_r hq13 t_ml_VernierDrawersModel_246 hl.1 (Nat.le_of_ble_eq_true rfl) ⟨Nat.le_of_ble_eq_true rfl, Nat.le_of_ble_eq_true rfl⟩ ⟨Nat.zero_le _, Nat.zero_le _⟩ dX11_signalsOf_77 ?_
          refine lv_iconst (v := 5) hx hb dX11_signalsOf_80 (by decide) ?_
          refine lv_icmp_eq (tgt := 96) hx hb dX11_signalsOf_81 (by decide) (fun c14 => ?_) (fun c14 => ?_)
          · skip
            refine lv_iconst (v := 2) hx hb dX11_signalsOf_96 (by decide) ?_
            refine lv_goto (tgt := 101) hx hb dX11_signalsOf_97 (by decide) ?_
            exact K12 _ _ (Eq.symm ((if_neg c12).trans ((if_pos c14).trans rfl))) (lv_sub hl [1, 2, 3] rfl)
          · have ho := ho c14
            refine lv_aload_n hx hb dX11_signalsOf_84 rfl (lv_at hl 2 rfl) ?_
            refine lv_iload_n hx hb dX11_signalsOf_85 rfl (lv_at hl 3 rfl) ?_
            refine lv_iconst (v := 5) hx hb dX11_signalsOf_86 (by decide) ?_
            refine lv_iconst (v := (-1)) hx hb dX11_signalsOf_87 (by decide) ?_
            refine lv_iconst (v := 1) hx hb dX11_signalsOf_88 (by decide) ?_
            have hq15 := ho
            refine k_X11_onSide X hS hH hk_r hq15 t_ml_VernierDrawersModel_246 hl.1 (Nat.le_of_ble_eq_true rfl) ⟨Nat.le_of_ble_eq_true rfl, Nat.le_of_ble_eq_true rfl⟩ ⟨Nat.zero_le _, Nat.zero_le _⟩ dX11_signalsOf_89 ?_
            refine lv_iconst (v := 5) hx hb dX11_signalsOf_92 (by decide) ?_
            refine lv_icmp_ne (tgt := 100) hx hb dX11_signalsOf_93 (by decide) (fun c16 => ?_) (fun c16 => ?_)
            · skip
              refine lv_iconst (v := 0) hx hb dX11_signalsOf_100 (by decide) ?_
              exact K12 _ _ (Eq.symm ((if_neg c12).trans ((if_neg c14).trans ((if_neg c16).trans rfl)))) (lv_sub hl [1, 2, 3] rfl)
            · skip
              refine lv_iconst (v := 2) hx hb dX11_signalsOf_96 (by decide) ?_
              refine lv_goto (tgt := 101) hx hb dX11_signalsOf_97 (by decide) ?_
              exact K12 _ _ (Eq.symm ((if_neg c12).trans ((if_neg c14).trans ((if_pos c16).trans rfl)))) (lv_sub hl [1, 2, 3] rfl)
      have ho := ho.1
      refine lv_icmp_gt (tgt := 57) hx hb dX11_signalsOf_44 (by decide) (fun c10 => ?_) (fun c10 => ?_)
      · skip
        refine lv_iconst (v := 1) hx hb dX11_signalsOf_57 (by decide) ?_
        refine lv_goto (tgt := 62) hx hb dX11_signalsOf_58 (by decide) ?_
        exact K10 _ _ (Eq.symm ((if_pos c10).trans rfl)) (lv_sub hl [1, 2, 3] rfl)
      · have ho := ho c10
        refine lv_iload_n hx hb dX11_signalsOf_47 rfl (lv_at hl 0 rfl) ?_
        refine lv_aload_n hx hb dX11_signalsOf_48 rfl (lv_at hl 2 rfl) ?_
        refine lv_iload_n hx hb dX11_signalsOf_49 rfl (lv_at hl 3 rfl) ?_
        refine lv_iconst (v := 1) hx hb dX11_signalsOf_50 (by decide) ?_
        have hq11 := ho
        refine k_X11_of X hS hH hk_r hq11 t_ml_VernierDrawersModel_90 hl.1 (Nat.le_of_ble_eq_true rfl) ⟨Nat.le_of_ble_eq_true rfl, Nat.le_of_ble_eq_true rfl⟩ ⟨Nat.zero_le _, Nat.zero_le _⟩ dX11_signalsOf_51 ?_
        refine lv_icmp_ge (tgt := 61) hx hb dX11_signalsOf_54 (by decide) (fun c12 => ?_) (fun c12 => ?_)
        · skip
          refine lv_iconst (v := 0) hx hb dX11_signalsOf_61 (by decide) ?_
          exact K10 _ _ (Eq.symm ((if_neg c10).trans ((if_pos c12).trans rfl))) (lv_sub hl [1, 2, 3] rfl)
        · skip
          refine lv_iconst (v := 1) hx hb dX11_signalsOf_57 (by decide) ?_
          refine lv_goto (tgt := 62) hx hb dX11_signalsOf_58 (by decide) ?_
          exact K10 _ _ (Eq.symm ((if_neg c10).trans ((if_neg c12).trans rfl))) (lv_sub hl [1, 2, 3] rfl)
    · skip
      refine lv_iconst (v := 0) hx hb dX11_signalsOf_26 (by decide) ?_
      replace ev3 := Eq.symm ev3
      subst ev3
      exact E _ _ _ _ _ _ _ _ _ dX11_signalsOf_27 rfl (pr1 ((fX11_signalsOf.eq_1 _ _ _).trans ((if_neg c4).trans ((if_pos c6).trans rfl)))) (pr2 ((fX11_signalsOf.eq_1 _ _ _).trans ((if_neg c4).trans ((if_pos c6).trans rfl)))) hH hS (Nat.zero_le _) (Nat.zero_le _)
  · skip
    refine lv_iconst (v := 0) hx hb dX11_signalsOf_12 (by decide) ?_
    replace ev3 := Eq.symm ev3
    subst ev3
    exact E _ _ _ _ _ _ _ _ _ dX11_signalsOf_13 rfl (pr1 ((fX11_signalsOf.eq_1 _ _ _).trans ((if_pos c4).trans rfl))) (pr2 ((fX11_signalsOf.eq_1 _ _ _).trans ((if_pos c4).trans rfl))) hH hS (Nat.zero_le _) (Nat.zero_le _)
theorem k_X11_signalsOf {p : Program} {l : Launch} {e : Env} {R : Room} {s : State} {m : MethodId} {args : Array Value} {below : List Frame} {meth : Method} {c : Code} {H : Heap} {locs : List Loc} {cells slots : Nat} {Q : State → Prop} {cc : ByteArray} {pc nL : Nat} {ls : Array Slot} {rest : List Value} {G : gG} {own : String} {da : Nat → Nat} {v : vSt} {x : gX} (X : CX G p s m args c cc nL own) (hS : va_S (gA G) s.heap H locs) (hH : Hp G da v x H) {r : Nat} (hk_r : kd r = 11) {p1 : Int32} (ho : oX11_signalsOf r p1 v) {idx : Nat} (hml : Cond.methodLink own idx yX11_signalsOf ∈ TT) (hls : ls.size = nL) (hsum : (rest.map fun v => v.category).sum ≤ 8) (hR : rmX11_signalsOf.frames + 1 ≤ R.frames ∧ 8 + (5 + 11) + rmX11_signalsOf.locals ≤ R.locals) (hcs : cells ≤ R.cells ∧ slots ≤ R.slots) (hdg : decode cc pc = .ok (.invokevirtual idx, 3)) (kk : ∀ (d : Nat → Nat) (H1 : Heap) (locs1 : List Loc) (v1 : vSt), v1 = (fX11_signalsOf r p1 v).2 → Hp G d v1 x H1 → va_S (gA G) s.heap H1 locs1 → W p l e R s m args below meth c H1 locs1 cells slots Q (F0 m (pc + 3) ls (.int (fX11_signalsOf r p1 v).1 :: rest))) : W p l e R s m args below meth c H locs cells slots Q (F0 m pc ls (.int p1 :: .ref (ga G r) :: rest)) := c_mi X.2.2.2.2.2.2 (runV (k := 1) X.1 X.2.1 X.2.2.1 X.2.2.2.1 X.2.2.2.2.1 (mX11_signalsOf l G da v x r hk_r p1 ho) pW_bl hml t_im_X11_signalsOf t_sel_X11_signalsOf t_ini_VernierDrawersModel t_code_X11_signalsOf ⟨rfl, by decide, by decide, by decide +kernel⟩ rfl rfl hR hcs (recvW X hH (by rw [hk_r]; decide) (by rw [hk_r]; decide) (ce_11 hk_r) rfl) (preW X hS hH) rfl hls rfl hsum hdg) hS kk
