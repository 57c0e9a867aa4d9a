/-! Order, Trial. -/
def fX3_readSign (r : Nat) (o1 : Nat) (p1 : Int32) (p2 : Int32) (v : vSt) : Int32 × vSt := if (p1 : Int32) ≤ (v r 3) then ((0, v)) else (if ((v o1 (v r 3 : Int32).toNatClampNeg) : Int32) = p2 then (let v4 : vSt := u2 v r 3 ((v r 3) + 1); (1, v4)) else ((0, v)))
def oX3_readSign (r : Nat) (o1 : Nat) (p1 : Int32) (p2 : Int32) (v : vSt) : Prop := ¬ ((p1 : Int32) ≤ (v r 3)) → (vp_in (v r 3) 60)
abbrev rmX3_readSign : Room := { frames := 0, cells := 0, slots := 0, locals := 0 }
theorem dX3_readSign_0 : decode cX3_readSign 0 = .ok (.aload_n 0, 1) := by decide +kernel
theorem dX3_readSign_1 : decode cX3_readSign 1 = .ok (.getfield 18, 3) := by decide +kernel
theorem dX3_readSign_4 : decode cX3_readSign 4 = .ok (.iload_n 2, 1) := by decide +kernel
theorem dX3_readSign_5 : decode cX3_readSign 5 = .ok (.if_icmp .ge 13, 3) := by decide +kernel
theorem dX3_readSign_8 : decode cX3_readSign 8 = .ok (.aload_n 1, 1) := by decide +kernel
theorem dX3_readSign_9 : decode cX3_readSign 9 = .ok (.aload_n 0, 1) := by decide +kernel
theorem dX3_readSign_10 : decode cX3_readSign 10 = .ok (.getfield 18, 3) := by decide +kernel
theorem dX3_readSign_13 : decode cX3_readSign 13 = .ok (.caload, 1) := by decide +kernel
theorem dX3_readSign_14 : decode cX3_readSign 14 = .ok (.iload_n 3, 1) := by decide +kernel
theorem dX3_readSign_15 : decode cX3_readSign 15 = .ok (.if_icmp .eq 5, 3) := by decide +kernel
theorem dX3_readSign_18 : decode cX3_readSign 18 = .ok (.iconst 0, 1) := by decide +kernel
theorem dX3_readSign_19 : decode cX3_readSign 19 = .ok (.ireturn, 1) := by decide +kernel
theorem dX3_readSign_20 : decode cX3_readSign 20 = .ok (.aload_n 0, 1) := by decide +kernel
theorem dX3_readSign_21 : decode cX3_readSign 21 = .ok (.dup, 1) := by decide +kernel
theorem dX3_readSign_22 : decode cX3_readSign 22 = .ok (.getfield 18, 3) := by decide +kernel
theorem dX3_readSign_25 : decode cX3_readSign 25 = .ok (.iconst 1, 1) := by decide +kernel
theorem dX3_readSign_26 : decode cX3_readSign 26 = .ok (.iadd, 1) := by decide +kernel
theorem dX3_readSign_27 : decode cX3_readSign 27 = .ok (.putfield 18, 3) := by decide +kernel
theorem dX3_readSign_30 : decode cX3_readSign 30 = .ok (.iconst 1, 1) := by decide +kernel
theorem dX3_readSign_31 : decode cX3_readSign 31 = .ok (.ireturn, 1) := by decide +kernel
set_option maxHeartbeats 8000000 in
set_option maxRecDepth 100000 in
theorem mX3_readSign (l : Launch) (G : gG) (da : Nat → Nat) (v : vSt) (x : gX) (r : Nat) (hk_r : kd r = 3) (o1 : Nat) (hk_o1 : kd o1 = 27) (p1 : Int32) (p2 : Int32) (ho : oX3_readSign r o1 p1 p2 v) : MI l yX3_readSign cX3_readSign 4 (some .boolean) rmX3_readSign [.ref (ga G r), .ref (ga G o1), .int p1, .int p2] G da v x 0 0 (fX3_readSign r o1 p1 p2 v).1 (fX3_readSign r o1 p1 p2 v).2 x := by
  refine gofMI (own := RX3) (by decide) rfl (Nat.le_of_ble_eq_true rfl) (fun p e s m args below meth c ls Q X hH hl E => ?_)
  have hx := X.1
  have hb := X.2.1
  have hown := X.2.2.2.1
  have hts := X.2.2.2.2.1
  have hS : va_S (gA G) s.heap s.heap [] := va_S.rf
  unfold oX3_readSign at ho
  have hl : lv_has ls 4 [(0, .ref (ga G r)), (1, .ref (ga G o1)), (2, .int p1), (3, .int p2)] := hl
  refine lv_aload_n hx hb dX3_readSign_0 rfl (lv_at hl 0 rfl) ?_
  refine g_Order_18 X hH hk_r dX3_readSign_1 ?_
  refine lv_iload_n hx hb dX3_readSign_4 rfl (lv_at hl 2 rfl) ?_
  refine lv_icmp_ge (tgt := 18) hx hb dX3_readSign_5 (by decide) (fun c1 => ?_) (fun c1 => ?_)
  · skip
    refine lv_iconst (v := 0) hx hb dX3_readSign_18 (by decide) ?_
    exact E _ _ _ _ _ _ _ _ _ dX3_readSign_19 rfl (pr1 ((fX3_readSign.eq_1 _ _ _ _ _).trans ((if_pos c1).trans rfl))) (pr2 ((fX3_readSign.eq_1 _ _ _ _ _).trans ((if_pos c1).trans rfl))) hH hS (Nat.zero_le _) (Nat.zero_le _)
  · have ho := ho c1
    refine lv_aload_n hx hb dX3_readSign_8 rfl (lv_at hl 1 rfl) ?_
    refine lv_aload_n hx hb dX3_readSign_9 rfl (lv_at hl 0 rfl) ?_
    refine g_Order_18 X hH hk_r dX3_readSign_10 ?_
    have hq2 := ho
    refine cald_27 X hH hk_o1 hq2 dX3_readSign_13 ?_
    refine lv_iload_n hx hb dX3_readSign_14 rfl (lv_at hl 3 rfl) ?_
    refine lv_icmp_eq (tgt := 20) hx hb dX3_readSign_15 (by decide) (fun c3 => ?_) (fun c3 => ?_)
    · skip
      refine lv_aload_n hx hb dX3_readSign_20 rfl (lv_at hl 0 rfl) ?_
      refine lv_dup hx hb dX3_readSign_21 rfl ?_
      refine g_Order_18 X hH hk_r dX3_readSign_22 ?_
      refine lv_iconst (v := 1) hx hb dX3_readSign_25 (by decide) ?_
      refine lv_iadd hx hb dX3_readSign_26 ?_
      refine p_Order_18 X hH hS hk_r dX3_readSign_27 (fun H locs v4 ev4 hH hS => ?_)
      refine lv_iconst (v := 1) hx hb dX3_readSign_30 (by decide) ?_
      replace ev4 := Eq.symm ev4
      subst ev4
      exact E _ _ _ _ _ _ _ _ _ dX3_readSign_31 rfl (pr1 ((fX3_readSign.eq_1 _ _ _ _ _).trans ((if_neg c1).trans ((if_pos c3).trans rfl)))) (pr2 ((fX3_readSign.eq_1 _ _ _ _ _).trans ((if_neg c1).trans ((if_pos c3).trans rfl)))) hH hS (Nat.zero_le _) (Nat.zero_le _)
    · skip
      refine lv_iconst (v := 0) hx hb dX3_readSign_18 (by decide) ?_
      exact E _ _ _ _ _ _ _ _ _ dX3_readSign_19 rfl (pr1 ((fX3_readSign.eq_1 _ _ _ _ _).trans ((if_neg c1).trans ((if_neg c3).trans rfl)))) (pr2 ((fX3_readSign.eq_1 _ _ _ _ _).trans ((if_neg c1).trans ((if_neg c3).trans rfl)))) hH hS (Nat.zero_le _) (Nat.zero_le _)
theorem k_X3_readSign {p : Program} {l : Launch} {e : Env} {R : Room} {s : State} {m : MethodId} {args : Array Value} {below : List Frame} {meth : Method} {c : Code} {H : Heap} {locs : List Loc} {cells slots : Nat} {Q : State → Prop} {cc : ByteArray} {pc nL : Nat} {ls : Array Slot} {rest : List Value} {G : gG} {own : String} {da : Nat → Nat} {v : vSt} {x : gX} (X : CX G p s m args c cc nL own) (hS : va_S (gA G) s.heap H locs) (hH : Hp G da v x H) {r : Nat} (hk_r : kd r = 3) {o1 : Nat} (hk_o1 : kd o1 = 27) {p1 : Int32} {p2 : Int32} (ho : oX3_readSign r o1 p1 p2 v) {idx : Nat} (hml : Cond.methodLink own idx yX3_readSign ∈ TT) (hls : ls.size = nL) (hsum : (rest.map fun v => v.category).sum ≤ 8) (hR : rmX3_readSign.frames + 1 ≤ R.frames ∧ 8 + (4 + 11) + rmX3_readSign.locals ≤ R.locals) (hcs : cells ≤ R.cells ∧ slots ≤ R.slots) (hdg : decode cc pc = .ok (.invokevirtual idx, 3)) (kk : ∀ (d : Nat → Nat) (H1 : Heap) (locs1 : List Loc) (v1 : vSt), v1 = (fX3_readSign r o1 p1 p2 v).2 → Hp G d v1 x H1 → va_S (gA G) s.heap H1 locs1 → W p l e R s m args below meth c H1 locs1 cells slots Q (F0 m (pc + 3) ls (.int (fX3_readSign r o1 p1 p2 v).1 :: rest))) : W p l e R s m args below meth c H locs cells slots Q (F0 m pc ls (.int p2 :: .int p1 :: .ref (ga G o1) :: .ref (ga G r) :: rest)) := c_mi X.2.2.2.2.2.2 (runV (k := 3) X.1 X.2.1 X.2.2.1 X.2.2.2.1 X.2.2.2.2.1 (mX3_readSign l G da v x r hk_r o1 hk_o1 p1 p2 ho) pW_bl hml t_im_X3_readSign t_sel_X3_readSign t_ini_Order t_code_X3_readSign ⟨rfl, by decide, by decide, by decide +kernel⟩ rfl rfl hR hcs (recvW X hH (by rw [hk_r]; decide) (by rw [hk_r]; decide) (ce_3 hk_r) rfl) (preW X hS hH) rfl hls rfl hsum hdg) hS kk
def lX3_readDigits_7 (r : Nat) (o1 : Nat) (p1 : Int32) : Nat → Int32 → vSt → Int32 × vSt
  | 0, i2, v3 => (i2, v3)
  | n + 1, i2, v3 => if (5 : Int32) ≤ i2 then ((i2, v3)) else (if (p1 : Int32) ≤ (v3 r 3) then ((i2, v3)) else (if ((fX10_inRange (v3 o1 (v3 r 3 : Int32).toNatClampNeg) 48 57) : Int32) = 0 then ((i2, v3)) else (let v8 : vSt := u2 v3 r 5 (((v3 r 5) * 10) + ((v3 o1 (v3 r 3 : Int32).toNatClampNeg) - 48)); let v9 : vSt := u2 v8 r 3 ((v8 r 3) + 1); lX3_readDigits_7 r o1 p1 n (i2 + 1) v9)))
def olX3_readDigits_7 (r : Nat) (o1 : Nat) (p1 : Int32) : Nat → Int32 → vSt → Prop
  | 0, _, _ => False
  | n + 1, i2, v3 => ¬ ((5 : Int32) ≤ i2) → (¬ ((p1 : Int32) ≤ (v3 r 3)) → ((vp_in (v3 r 3) 60) ∧ (¬ (((fX10_inRange (v3 o1 (v3 r 3 : Int32).toNatClampNeg) 48 57) : Int32) = 0) → (∀ v8 : vSt, v8 = (u2 v3 r 5 (((v3 r 5) * 10) + ((v3 o1 (v3 r 3 : Int32).toNatClampNeg) - 48))) → (∀ v9 : vSt, v9 = (u2 v8 r 3 ((v8 r 3) + 1)) → (olX3_readDigits_7 r o1 p1 n (i2 + 1) v9))))))
def fX3_readDigits (r : Nat) (o1 : Nat) (p1 : Int32) (v : vSt) : Int32 × vSt := let v1 : vSt := u2 v r 5 0; let qy4 : Int32 × vSt := (lX3_readDigits_7 r o1 p1 (6) 0 v1); let y4 := qy4.1; let v5 := qy4.2; if (y4 : Int32) ≤ 0 then ((0, v5)) else ((1, v5))
def oX3_readDigits (r : Nat) (o1 : Nat) (p1 : Int32) (v : vSt) : Prop := ∀ v1 : vSt, v1 = (u2 v r 5 0) → (olX3_readDigits_7 r o1 p1 (6) 0 v1)
abbrev rmX3_readDigits : Room := { frames := 1, cells := 0, slots := 0, locals := 22 }
theorem dX3_readDigits_0 : decode cX3_readDigits 0 = .ok (.aload_n 0, 1) := by decide +kernel
theorem dX3_readDigits_1 : decode cX3_readDigits 1 = .ok (.iconst 0, 1) := by decide +kernel
theorem dX3_readDigits_2 : decode cX3_readDigits 2 = .ok (.putfield 50, 3) := by decide +kernel
theorem dX3_readDigits_5 : decode cX3_readDigits 5 = .ok (.iconst 0, 1) := by decide +kernel
theorem dX3_readDigits_6 : decode cX3_readDigits 6 = .ok (.istore_n 3, 1) := by decide +kernel
theorem dX3_readDigits_7 : decode cX3_readDigits 7 = .ok (.iload_n 3, 1) := by decide +kernel
theorem dX3_readDigits_8 : decode cX3_readDigits 8 = .ok (.iconst 5, 1) := by decide +kernel
theorem dX3_readDigits_9 : decode cX3_readDigits 9 = .ok (.if_icmp .ge 64, 3) := by decide +kernel
theorem dX3_readDigits_12 : decode cX3_readDigits 12 = .ok (.aload_n 0, 1) := by decide +kernel
theorem dX3_readDigits_13 : decode cX3_readDigits 13 = .ok (.getfield 18, 3) := by decide +kernel
theorem dX3_readDigits_16 : decode cX3_readDigits 16 = .ok (.iload_n 2, 1) := by decide +kernel
theorem dX3_readDigits_17 : decode cX3_readDigits 17 = .ok (.if_icmp .ge 56, 3) := by decide +kernel
theorem dX3_readDigits_20 : decode cX3_readDigits 20 = .ok (.aload_n 1, 1) := by decide +kernel
theorem dX3_readDigits_21 : decode cX3_readDigits 21 = .ok (.aload_n 0, 1) := by decide +kernel
theorem dX3_readDigits_22 : decode cX3_readDigits 22 = .ok (.getfield 18, 3) := by decide +kernel
theorem dX3_readDigits_25 : decode cX3_readDigits 25 = .ok (.caload, 1) := by decide +kernel
theorem dX3_readDigits_26 : decode cX3_readDigits 26 = .ok (.bipush 48, 2) := by decide +kernel
theorem dX3_readDigits_28 : decode cX3_readDigits 28 = .ok (.bipush 57, 2) := by decide +kernel
theorem dX3_readDigits_30 : decode cX3_readDigits 30 = .ok (.invokestatic 57, 3) := by decide +kernel
theorem dX3_readDigits_33 : decode cX3_readDigits 33 = .ok (.ifCond .eq 40, 3) := by decide +kernel
theorem dX3_readDigits_36 : decode cX3_readDigits 36 = .ok (.aload_n 0, 1) := by decide +kernel
theorem dX3_readDigits_37 : decode cX3_readDigits 37 = .ok (.aload_n 0, 1) := by decide +kernel
theorem dX3_readDigits_38 : decode cX3_readDigits 38 = .ok (.getfield 50, 3) := by decide +kernel
theorem dX3_readDigits_41 : decode cX3_readDigits 41 = .ok (.bipush 10, 2) := by decide +kernel
theorem dX3_readDigits_43 : decode cX3_readDigits 43 = .ok (.imul, 1) := by decide +kernel
theorem dX3_readDigits_44 : decode cX3_readDigits 44 = .ok (.aload_n 1, 1) := by decide +kernel
theorem dX3_readDigits_45 : decode cX3_readDigits 45 = .ok (.aload_n 0, 1) := by decide +kernel
theorem dX3_readDigits_46 : decode cX3_readDigits 46 = .ok (.getfield 18, 3) := by decide +kernel
theorem dX3_readDigits_49 : decode cX3_readDigits 49 = .ok (.caload, 1) := by decide +kernel
theorem dX3_readDigits_50 : decode cX3_readDigits 50 = .ok (.bipush 48, 2) := by decide +kernel
theorem dX3_readDigits_52 : decode cX3_readDigits 52 = .ok (.isub, 1) := by decide +kernel
theorem dX3_readDigits_53 : decode cX3_readDigits 53 = .ok (.iadd, 1) := by decide +kernel
theorem dX3_readDigits_54 : decode cX3_readDigits 54 = .ok (.putfield 50, 3) := by decide +kernel
theorem dX3_readDigits_57 : decode cX3_readDigits 57 = .ok (.iinc 3 1, 3) := by decide +kernel
theorem dX3_readDigits_60 : decode cX3_readDigits 60 = .ok (.aload_n 0, 1) := by decide +kernel
theorem dX3_readDigits_61 : decode cX3_readDigits 61 = .ok (.dup, 1) := by decide +kernel
theorem dX3_readDigits_62 : decode cX3_readDigits 62 = .ok (.getfield 18, 3) := by decide +kernel
theorem dX3_readDigits_65 : decode cX3_readDigits 65 = .ok (.iconst 1, 1) := by decide +kernel
theorem dX3_readDigits_66 : decode cX3_readDigits 66 = .ok (.iadd, 1) := by decide +kernel
theorem dX3_readDigits_67 : decode cX3_readDigits 67 = .ok (.putfield 18, 3) := by decide +kernel
theorem dX3_readDigits_70 : decode cX3_readDigits 70 = .ok (.goto (-63), 3) := by decide +kernel
theorem dX3_readDigits_73 : decode cX3_readDigits 73 = .ok (.iload_n 3, 1) := by decide +kernel
theorem dX3_readDigits_74 : decode cX3_readDigits 74 = .ok (.ifCond .le 7, 3) := by decide +kernel
theorem dX3_readDigits_77 : decode cX3_readDigits 77 = .ok (.iconst 1, 1) := by decide +kernel
theorem dX3_readDigits_78 : decode cX3_readDigits 78 = .ok (.goto 4, 3) := by decide +kernel
theorem dX3_readDigits_81 : decode cX3_readDigits 81 = .ok (.iconst 0, 1) := by decide +kernel
theorem dX3_readDigits_82 : decode cX3_readDigits 82 = .ok (.ireturn, 1) := by decide +kernel
set_option maxHeartbeats 8000000 in
set_option maxRecDepth 100000 in
theorem mX3_readDigits (l : Launch) (G : gG) (da : Nat → Nat) (v : vSt) (x : gX) (r : Nat) (hk_r : kd r = 3) (o1 : Nat) (hk_o1 : kd o1 = 27) (p1 : Int32) (ho : oX3_readDigits r o1 p1 v) : MI l yX3_readDigits cX3_readDigits 4 (some .boolean) rmX3_readDigits [.ref (ga G r), .ref (ga G o1), .int p1] G da v x 0 0 (fX3_readDigits r o1 p1 v).1 (fX3_readDigits r o1 p1 v).2 x := by
  refine gofMI (own := RX3) (by decide) rfl (Nat.le_of_ble_eq_true rfl) (fun p e s m args below meth c ls Q X hH hl E => ?_)
  have hx := X.1
  have hb := X.2.1
  have hown := X.2.2.2.1
  have hts := X.2.2.2.2.1
  have hS : va_S (gA G) s.heap s.heap [] := va_S.rf
  unfold oX3_readDigits at ho
  have hl : lv_has ls 4 [(0, .ref (ga G r)), (1, .ref (ga G o1)), (2, .int p1)] := hl
  refine lv_aload_n hx hb dX3_readDigits_0 rfl (lv_at hl 0 rfl) ?_
  refine lv_iconst (v := 0) hx hb dX3_readDigits_1 (by decide) ?_
  refine p_Order_50 X hH hS hk_r dX3_readDigits_2 (fun H locs v1 ev1 hH hS => ?_)
  have ho := ho v1 ev1
  refine lv_iconst (v := 0) hx hb dX3_readDigits_5 (by decide) ?_
  refine lv_istore_n (lv' := [(3, .int 0), (0, .ref (ga G r)), (1, .ref (ga G o1)), (2, .int p1)]) hx hb dX3_readDigits_6 rfl hl (by decide) rfl (fun ls hl => ?_)
  have L6 : ∀ (n : Nat) (i2 : Int32) (v3 : vSt) (da : Nat → Nat) (H : Heap) (locs : List Loc) (ls : Array Slot), olX3_readDigits_7 r o1 p1 n i2 v3 → Hp G da v3 x H → va_S (gA G) s.heap H locs → lv_has ls 4 [(3, .int i2), (0, .ref (ga G r)), (1, .ref (ga G o1)), (2, .int p1)] → (∀ (y4 : Int32) (v5 : vSt) (da : Nat → Nat) (H : Heap) (locs : List Loc) (ls : Array Slot), y4 = (lX3_readDigits_7 r o1 p1 n i2 v3 : Int32 × vSt).1 → v5 = (lX3_readDigits_7 r o1 p1 n i2 v3 : Int32 × vSt).2 → Hp G da v5 x H → va_S (gA G) s.heap H locs → lv_has ls 4 [(3, .int y4)] → W p l e rmX3_readDigits s m args below meth c H locs 0 0 Q (F0 m 73 ls [])) → W p l e rmX3_readDigits s m args below meth c H locs 0 0 Q (F0 m 7 ls []) := by
    clear ho
    intro n
    induction n with
    | zero =>
      intro i2 v3 da H locs ls ho
      exact ho.elim
    | succ n ih =>
      intro i2 v3 da H locs ls ho hH hS hl K7
      refine lv_iload_n hx hb dX3_readDigits_7 rfl (lv_at hl 0 rfl) ?_
      refine lv_iconst (v := 5) hx hb dX3_readDigits_8 (by decide) ?_
      refine lv_icmp_ge (tgt := 73) hx hb dX3_readDigits_9 (by decide) (fun c4 => ?_) (fun c4 => ?_)
      · skip
        exact K7 _ _ _ _ _ _ (pr1 (((lX3_readDigits_7.eq_2 _ _ _ _ _ _)).trans ((if_pos c4).trans rfl))) (pr2 (((lX3_readDigits_7.eq_2 _ _ _ _ _ _)).trans ((if_pos c4).trans rfl))) hH hS (lv_sub hl [0] rfl)
      · have ho := ho c4
        refine lv_aload_n hx hb dX3_readDigits_12 rfl (lv_at hl 1 rfl) ?_
        refine g_Order_18 X hH hk_r dX3_readDigits_13 ?_
        refine lv_iload_n hx hb dX3_readDigits_16 rfl (lv_at hl 3 rfl) ?_
        refine lv_icmp_ge (tgt := 73) hx hb dX3_readDigits_17 (by decide) (fun c5 => ?_) (fun c5 => ?_)
        · skip
          exact K7 _ _ _ _ _ _ (pr1 (((lX3_readDigits_7.eq_2 _ _ _ _ _ _)).trans ((if_neg c4).trans ((if_pos c5).trans rfl)))) (pr2 (((lX3_readDigits_7.eq_2 _ _ _ _ _ _)).trans ((if_neg c4).trans ((if_pos c5).trans rfl)))) hH hS (lv_sub hl [0] rfl)
        · have ho := ho c5
          refine lv_aload_n hx hb dX3_readDigits_20 rfl (lv_at hl 2 rfl) ?_
          refine lv_aload_n hx hb dX3_readDigits_21 rfl (lv_at hl 1 rfl) ?_
          refine g_Order_18 X hH hk_r dX3_readDigits_22 ?_
          have hq6 := ho.1
          have ho := ho.2
          refine cald_27 X hH hk_o1 hq6 dX3_readDigits_25 ?_
          refine lv_bipush (v := 48) hx hb dX3_readDigits_26 (by decide) ?_
          refine lv_bipush (v := 57) hx hb dX3_readDigits_28 (by decide) ?_
          refine kn_X10_inRange X hS  t_mn_Order_57 hl.1 (Nat.le_of_ble_eq_true rfl) ⟨Nat.le_of_ble_eq_true rfl, Nat.le_of_ble_eq_true rfl⟩ ⟨Nat.zero_le _, Nat.zero_le _⟩ dX3_readDigits_30 ?_
          refine lv_if_eq (tgt := 73) hx hb dX3_readDigits_33 (by decide) (fun c7 => ?_) (fun c7 => ?_)
          · skip
            exact K7 _ _ _ _ _ _ (pr1 (((lX3_readDigits_7.eq_2 _ _ _ _ _ _)).trans ((if_neg c4).trans ((if_neg c5).trans ((if_pos c7).trans rfl))))) (pr2 (((lX3_readDigits_7.eq_2 _ _ _ _ _ _)).trans ((if_neg c4).trans ((if_neg c5).trans ((if_pos c7).trans rfl))))) hH hS (lv_sub hl [0] rfl)
          · have ho := ho c7
            refine lv_aload_n hx hb dX3_readDigits_36 rfl (lv_at hl 1 rfl) ?_
            refine lv_aload_n hx hb dX3_readDigits_37 rfl (lv_at hl 1 rfl) ?_
            refine g_Order_50 X hH hk_r dX3_readDigits_38 ?_
            refine lv_bipush (v := 10) hx hb dX3_readDigits_41 (by decide) ?_
            refine lv_imul hx hb dX3_readDigits_43 ?_
            refine lv_aload_n hx hb dX3_readDigits_44 rfl (lv_at hl 2 rfl) ?_
            refine lv_aload_n hx hb dX3_readDigits_45 rfl (lv_at hl 1 rfl) ?_
            refine g_Order_18 X hH hk_r dX3_readDigits_46 ?_
            refine cald_27 X hH hk_o1 hq6 dX3_readDigits_49 ?_
            refine lv_bipush (v := 48) hx hb dX3_readDigits_50 (by decide) ?_
            refine lv_isub hx hb dX3_readDigits_52 ?_
            refine lv_iadd hx hb dX3_readDigits_53 ?_
            refine p_Order_50 X hH hS hk_r dX3_readDigits_54 (fun H locs v8 ev8 hH hS => ?_)
            have ho := ho v8 ev8
            refine lv_iinc (v := i2 + 1) (lv' := [(3, .int (i2 + 1)), (0, .ref (ga G r)), (1, .ref (ga G o1)), (2, .int p1)]) hx hb dX3_readDigits_57 hl (k := 0) rfl rfl (by decide) rfl (fun ls hl => ?_)
            refine lv_aload_n hx hb dX3_readDigits_60 rfl (lv_at hl 1 rfl) ?_
            refine lv_dup hx hb dX3_readDigits_61 rfl ?_
            refine g_Order_18 X hH hk_r dX3_readDigits_62 ?_
            refine lv_iconst (v := 1) hx hb dX3_readDigits_65 (by decide) ?_
            refine lv_iadd hx hb dX3_readDigits_66 ?_
            refine p_Order_18 X hH hS hk_r dX3_readDigits_67 (fun H locs v9 ev9 hH hS => ?_)
            have ho := ho v9 ev9
            refine lv_goto (tgt := 7) hx hb dX3_readDigits_70 (by decide) ?_
            replace ev8 := Eq.symm ev8
            replace ev9 := Eq.symm ev9
            subst ev8 ev9
            exact ih _ _ _ _ _ _ ho hH hS (lv_sub hl [0, 1, 2, 3] rfl) (fun y4 v5 da H locs ls q0 q1 hH hS hl => K7 y4 v5 da H locs ls (q0.trans (congrArg (fun z : Int32 × vSt => z.1) (Eq.symm (((lX3_readDigits_7.eq_2 _ _ _ _ _ _)).trans ((if_neg c4).trans ((if_neg c5).trans ((if_neg c7).trans rfl))))))) (q1.trans (congrArg (fun z : Int32 × vSt => z.2) (Eq.symm (((lX3_readDigits_7.eq_2 _ _ _ _ _ _)).trans ((if_neg c4).trans ((if_neg c5).trans ((if_neg c7).trans rfl))))))) hH hS hl)
  have hol := ho
  refine L6 (6) 0 v1 _ _ _ _ hol hH hS (lv_sub hl [0, 1, 2, 3] rfl) (fun y4 v5 da H locs ls ey4 ev5 hH hS hl => ?_)
  refine lv_iload_n hx hb dX3_readDigits_73 rfl (lv_at hl 0 rfl) ?_
  refine lv_if_le (tgt := 81) hx hb dX3_readDigits_74 (by decide) (fun c10 => ?_) (fun c10 => ?_)
  · skip
    refine lv_iconst (v := 0) hx hb dX3_readDigits_81 (by decide) ?_
    replace ev1 := Eq.symm ev1
    replace ey4 := Eq.symm ey4
    replace ev5 := Eq.symm ev5
    subst ev1 ey4 ev5
    exact E _ _ _ _ _ _ _ _ _ dX3_readDigits_82 rfl (pr1 ((fX3_readDigits.eq_1 _ _ _ _).trans ((if_pos c10).trans rfl))) (pr2 ((fX3_readDigits.eq_1 _ _ _ _).trans ((if_pos c10).trans rfl))) hH hS (Nat.zero_le _) (Nat.zero_le _)
  · skip
    refine lv_iconst (v := 1) hx hb dX3_readDigits_77 (by decide) ?_
    refine lv_goto (tgt := 82) hx hb dX3_readDigits_78 (by decide) ?_
    replace ev1 := Eq.symm ev1
    replace ey4 := Eq.symm ey4
    replace ev5 := Eq.symm ev5
    subst ev1 ey4 ev5
    exact E _ _ _ _ _ _ _ _ _ dX3_readDigits_82 rfl (pr1 ((fX3_readDigits.eq_1 _ _ _ _).trans ((if_neg c10).trans rfl))) (pr2 ((fX3_readDigits.eq_1 _ _ _ _).trans ((if_neg c10).trans rfl))) hH hS (Nat.zero_le _) (Nat.zero_le _)
theorem k_X3_readDigits {p : Program} {l : Launch} {e : Env} {R : Room} {s : State} {m : MethodId} {args : Array Value} {below : List Frame} {meth : Method} {c : Code} {H : Heap} {locs : List Loc} {cells slots : Nat} {Q : State → Prop} {cc : ByteArray} {pc nL : Nat} {ls : Array Slot} {rest : List Value} {G : gG} {own : String} {da : Nat → Nat} {v : vSt} {x : gX} (X : CX G p s m args c cc nL own) (hS : va_S (gA G) s.heap H locs) (hH : Hp G da v x H) {r : Nat} (hk_r : kd r = 3) {o1 : Nat} (hk_o1 : kd o1 = 27) {p1 : Int32} (ho : oX3_readDigits r o1 p1 v) {idx : Nat} (hml : Cond.methodLink own idx yX3_readDigits ∈ TT) (hls : ls.size = nL) (hsum : (rest.map fun v => v.category).sum ≤ 8) (hR : rmX3_readDigits.frames + 1 ≤ R.frames ∧ 8 + (4 + 11) + rmX3_readDigits.locals ≤ R.locals) (hcs : cells ≤ R.cells ∧ slots ≤ R.slots) (hdg : decode cc pc = .ok (.invokevirtual idx, 3)) (kk : ∀ (d : Nat → Nat) (H1 : Heap) (locs1 : List Loc) (v1 : vSt), v1 = (fX3_readDigits r o1 p1 v).2 → Hp G d v1 x H1 → va_S (gA G) s.heap H1 locs1 → W p l e R s m args below meth c H1 locs1 cells slots Q (F0 m (pc + 3) ls (.int (fX3_readDigits r o1 p1 v).1 :: rest))) : W p l e R s m args below meth c H locs cells slots Q (F0 m pc ls (.int p1 :: .ref (ga G o1) :: .ref (ga G r) :: rest)) := c_mi X.2.2.2.2.2.2 (runV (k := 2) X.1 X.2.1 X.2.2.1 X.2.2.2.1 X.2.2.2.2.1 (mX3_readDigits l G da v x r hk_r o1 hk_o1 p1 ho) pW_bl hml t_im_X3_readDigits t_sel_X3_readDigits t_ini_Order t_code_X3_readDigits ⟨rfl, by decide, by decide, by decide +kernel⟩ rfl rfl hR hcs (recvW X hH (by rw [hk_r]; decide) (by rw [hk_r]; decide) (ce_3 hk_r) rfl) (preW X hS hH) rfl hls rfl hsum hdg) hS kk
def fX3_readWhole (r : Nat) (o1 : Nat) (p1 : Int32) (v : vSt) : Int32 × vSt := let y1 : Int32 := (if (p1 : Int32) ≤ (v r 3) then ((-1)) else (fJ0_indexOf_0f7a4 (v o1 (v r 3 : Int32).toNatClampNeg)) : Int32); let v3 : vSt := u2 v r 0 y1; if (0 : Int32) ≤ (v3 r 0) then (let v5 : vSt := u2 v3 r 3 ((v3 r 3) + 1); if ((fX10_entry 7 tbO (v5 r 0)) : Int32) ≤ 0 then (if ((fX10_entry 7 tbO (v5 r 0)) : Int32) ≤ 1 then (let v9 : vSt := (fX3_readSign r o1 p1 59 v5).2; ((fX3_readSign r o1 p1 59 v5).1, v9)) else (let v12 : vSt := (fX3_readSign r o1 p1 44 v5).2; if (((fX3_readSign r o1 p1 44 v5).1) : Int32) = 0 then ((0, v12)) else (let v15 : vSt := (fX3_readDigits r o1 p1 v12).2; if (((fX3_readDigits r o1 p1 v12).1) : Int32) = 0 then ((0, v15)) else (let v17 : vSt := u2 v15 r 2 (v15 r 5); let v19 : vSt := (fX3_readSign r o1 p1 59 v17).2; ((fX3_readSign r o1 p1 59 v17).1, v19))))) else (let v22 : vSt := (fX3_readDigits r o1 p1 v5).2; if (((fX3_readDigits r o1 p1 v5).1) : Int32) = 0 then ((0, v22)) else (let v24 : vSt := u2 v22 r 1 (v22 r 5); if ((fX10_entry 7 tbO (v5 r 0)) : Int32) ≤ 1 then (let v27 : vSt := (fX3_readSign r o1 p1 59 v24).2; ((fX3_readSign r o1 p1 59 v24).1, v27)) else (let v30 : vSt := (fX3_readSign r o1 p1 44 v24).2; if (((fX3_readSign r o1 p1 44 v24).1) : Int32) = 0 then ((0, v30)) else (let v33 : vSt := (fX3_readDigits r o1 p1 v30).2; if (((fX3_readDigits r o1 p1 v30).1) : Int32) = 0 then ((0, v33)) else (let v35 : vSt := u2 v33 r 2 (v33 r 5); let v37 : vSt := (fX3_readSign r o1 p1 59 v35).2; ((fX3_readSign r o1 p1 59 v35).1, v37))))))) else ((0, v3))
def oX3_readWhole (r : Nat) (o1 : Nat) (p1 : Int32) (v : vSt) : Prop := (¬ ((p1 : Int32) ≤ (v r 3)) → ((vp_in (v r 3) 60) ∧ (oJ0_indexOf_0f7a4 (v o1 (v r 3 : Int32).toNatClampNeg)))) ∧ (∀ (y1 : Int32), y1 = ((if (p1 : Int32) ≤ (v r 3) then ((-1)) else (fJ0_indexOf_0f7a4 (v o1 (v r 3 : Int32).toNatClampNeg)) : Int32) : Int32) → (∀ v3 : vSt, v3 = (u2 v r 0 y1) → (((0 : Int32) ≤ (v3 r 0)) → (∀ v5 : vSt, v5 = (u2 v3 r 3 ((v3 r 3) + 1)) → (((((fX10_entry 7 tbO (v5 r 0)) : Int32) ≤ 0) → (((((fX10_entry 7 tbO (v5 r 0)) : Int32) ≤ 1) → ((oX3_readSign r o1 p1 59 v5) ∧ (∀ v9 : vSt, v9 = ((fX3_readSign r o1 p1 59 v5).2) → ((((fX3_readSign r o1 p1 59 v5).1 : Int32) = 0 ∨ ((fX3_readSign r o1 p1 59 v5).1 : Int32) = 1))))) ∧ (¬ (((fX10_entry 7 tbO (v5 r 0)) : Int32) ≤ 1) → ((oX3_readSign r o1 p1 44 v5) ∧ (∀ v12 : vSt, v12 = ((fX3_readSign r o1 p1 44 v5).2) → (¬ ((((fX3_readSign r o1 p1 44 v5).1) : Int32) = 0) → ((oX3_readDigits r o1 p1 v12) ∧ (∀ v15 : vSt, v15 = ((fX3_readDigits r o1 p1 v12).2) → (¬ ((((fX3_readDigits r o1 p1 v12).1) : Int32) = 0) → (∀ v17 : vSt, v17 = (u2 v15 r 2 (v15 r 5)) → ((oX3_readSign r o1 p1 59 v17) ∧ (∀ v19 : vSt, v19 = ((fX3_readSign r o1 p1 59 v17).2) → ((((fX3_readSign r o1 p1 59 v17).1 : Int32) = 0 ∨ ((fX3_readSign r o1 p1 59 v17).1 : Int32) = 1)))))))))))))) ∧ (¬ (((fX10_entry 7 tbO (v5 r 0)) : Int32) ≤ 0) → ((oX3_readDigits r o1 p1 v5) ∧ (∀ v22 : vSt, v22 = ((fX3_readDigits r o1 p1 v5).2) → (¬ ((((fX3_readDigits r o1 p1 v5).1) : Int32) = 0) → (∀ v24 : vSt, v24 = (u2 v22 r 1 (v22 r 5)) → (((((fX10_entry 7 tbO (v5 r 0)) : Int32) ≤ 1) → ((oX3_readSign r o1 p1 59 v24) ∧ (∀ v27 : vSt, v27 = ((fX3_readSign r o1 p1 59 v24).2) → ((((fX3_readSign r o1 p1 59 v24).1 : Int32) = 0 ∨ ((fX3_readSign r o1 p1 59 v24).1 : Int32) = 1))))) ∧ (¬ (((fX10_entry 7 tbO (v5 r 0)) : Int32) ≤ 1) → ((oX3_readSign r o1 p1 44 v24) ∧ (∀ v30 : vSt, v30 = ((fX3_readSign r o1 p1 44 v24).2) → (¬ ((((fX3_readSign r o1 p1 44 v24).1) : Int32) = 0) → ((oX3_readDigits r o1 p1 v30) ∧ (∀ v33 : vSt, v33 = ((fX3_readDigits r o1 p1 v30).2) → (¬ ((((fX3_readDigits r o1 p1 v30).1) : Int32) = 0) → (∀ v35 : vSt, v35 = (u2 v33 r 2 (v33 r 5)) → ((oX3_readSign r o1 p1 59 v35) ∧ (∀ v37 : vSt, v37 = ((fX3_readSign r o1 p1 59 v35).2) → ((((fX3_readSign r o1 p1 59 v35).1 : Int32) = 0 ∨ ((fX3_readSign r o1 p1 59 v35).1 : Int32) = 1)))))))))))))))))))))))
abbrev rmX3_readWhole : Room := { frames := 4, cells := 0, slots := 0, locals := 91 }
theorem dX3_readWhole_0 : decode cX3_readWhole 0 = .ok (.aload_n 0, 1) := by decide +kernel
theorem dX3_readWhole_1 : decode cX3_readWhole 1 = .ok (.aload_n 0, 1) := by decide +kernel
theorem dX3_readWhole_2 : decode cX3_readWhole 2 = .ok (.getfield 18, 3) := by decide +kernel
theorem dX3_readWhole_5 : decode cX3_readWhole 5 = .ok (.iload_n 2, 1) := by decide +kernel
theorem dX3_readWhole_6 : decode cX3_readWhole 6 = .ok (.if_icmp .ge 17, 3) := by decide +kernel
theorem dX3_readWhole_9 : decode cX3_readWhole 9 = .ok (.ldc 28, 2) := by decide +kernel
theorem dX3_readWhole_11 : decode cX3_readWhole 11 = .ok (.aload_n 1, 1) := by decide +kernel
theorem dX3_readWhole_12 : decode cX3_readWhole 12 = .ok (.aload_n 0, 1) := by decide +kernel
theorem dX3_readWhole_13 : decode cX3_readWhole 13 = .ok (.getfield 18, 3) := by decide +kernel
theorem dX3_readWhole_16 : decode cX3_readWhole 16 = .ok (.caload, 1) := by decide +kernel
theorem dX3_readWhole_17 : decode cX3_readWhole 17 = .ok (.invokevirtual 30, 3) := by decide +kernel
theorem dX3_readWhole_20 : decode cX3_readWhole 20 = .ok (.goto 4, 3) := by decide +kernel
theorem dX3_readWhole_23 : decode cX3_readWhole 23 = .ok (.iconst (-1), 1) := by decide +kernel
theorem dX3_readWhole_24 : decode cX3_readWhole 24 = .ok (.putfield 36, 3) := by decide +kernel
theorem dX3_readWhole_27 : decode cX3_readWhole 27 = .ok (.aload_n 0, 1) := by decide +kernel
theorem dX3_readWhole_28 : decode cX3_readWhole 28 = .ok (.getfield 36, 3) := by decide +kernel
theorem dX3_readWhole_31 : decode cX3_readWhole 31 = .ok (.ifCond .ge 5, 3) := by decide +kernel
theorem dX3_readWhole_34 : decode cX3_readWhole 34 = .ok (.iconst 0, 1) := by decide +kernel
theorem dX3_readWhole_35 : decode cX3_readWhole 35 = .ok (.ireturn, 1) := by decide +kernel
theorem dX3_readWhole_36 : decode cX3_readWhole 36 = .ok (.aload_n 0, 1) := by decide +kernel
theorem dX3_readWhole_37 : decode cX3_readWhole 37 = .ok (.dup, 1) := by decide +kernel
theorem dX3_readWhole_38 : decode cX3_readWhole 38 = .ok (.getfield 18, 3) := by decide +kernel
theorem dX3_readWhole_41 : decode cX3_readWhole 41 = .ok (.iconst 1, 1) := by decide +kernel
theorem dX3_readWhole_42 : decode cX3_readWhole 42 = .ok (.iadd, 1) := by decide +kernel
theorem dX3_readWhole_43 : decode cX3_readWhole 43 = .ok (.putfield 18, 3) := by decide +kernel
theorem dX3_readWhole_46 : decode cX3_readWhole 46 = .ok (.getstatic 39, 3) := by decide +kernel
theorem dX3_readWhole_49 : decode cX3_readWhole 49 = .ok (.aload_n 0, 1) := by decide +kernel
theorem dX3_readWhole_50 : decode cX3_readWhole 50 = .ok (.getfield 36, 3) := by decide +kernel
theorem dX3_readWhole_53 : decode cX3_readWhole 53 = .ok (.invokestatic 43, 3) := by decide +kernel
theorem dX3_readWhole_56 : decode cX3_readWhole 56 = .ok (.istore_n 3, 1) := by decide +kernel
theorem dX3_readWhole_57 : decode cX3_readWhole 57 = .ok (.iload_n 3, 1) := by decide +kernel
theorem dX3_readWhole_58 : decode cX3_readWhole 58 = .ok (.ifCond .le 22, 3) := by decide +kernel
theorem dX3_readWhole_61 : decode cX3_readWhole 61 = .ok (.aload_n 0, 1) := by decide +kernel
theorem dX3_readWhole_62 : decode cX3_readWhole 62 = .ok (.aload_n 1, 1) := by decide +kernel
theorem dX3_readWhole_63 : decode cX3_readWhole 63 = .ok (.iload_n 2, 1) := by decide +kernel
theorem dX3_readWhole_64 : decode cX3_readWhole 64 = .ok (.invokevirtual 47, 3) := by decide +kernel
theorem dX3_readWhole_67 : decode cX3_readWhole 67 = .ok (.ifCond .ne 5, 3) := by decide +kernel
theorem dX3_readWhole_70 : decode cX3_readWhole 70 = .ok (.iconst 0, 1) := by decide +kernel
theorem dX3_readWhole_71 : decode cX3_readWhole 71 = .ok (.ireturn, 1) := by decide +kernel
theorem dX3_readWhole_72 : decode cX3_readWhole 72 = .ok (.aload_n 0, 1) := by decide +kernel
theorem dX3_readWhole_73 : decode cX3_readWhole 73 = .ok (.aload_n 0, 1) := by decide +kernel
theorem dX3_readWhole_74 : decode cX3_readWhole 74 = .ok (.getfield 50, 3) := by decide +kernel
theorem dX3_readWhole_77 : decode cX3_readWhole 77 = .ok (.putfield 9, 3) := by decide +kernel
theorem dX3_readWhole_80 : decode cX3_readWhole 80 = .ok (.iload_n 3, 1) := by decide +kernel
theorem dX3_readWhole_81 : decode cX3_readWhole 81 = .ok (.iconst 1, 1) := by decide +kernel
theorem dX3_readWhole_82 : decode cX3_readWhole 82 = .ok (.if_icmp .le 33, 3) := by decide +kernel
theorem dX3_readWhole_85 : decode cX3_readWhole 85 = .ok (.aload_n 0, 1) := by decide +kernel
theorem dX3_readWhole_86 : decode cX3_readWhole 86 = .ok (.aload_n 1, 1) := by decide +kernel
theorem dX3_readWhole_87 : decode cX3_readWhole 87 = .ok (.iload_n 2, 1) := by decide +kernel
theorem dX3_readWhole_88 : decode cX3_readWhole 88 = .ok (.bipush 44, 2) := by decide +kernel
theorem dX3_readWhole_90 : decode cX3_readWhole 90 = .ok (.invokevirtual 53, 3) := by decide +kernel
theorem dX3_readWhole_93 : decode cX3_readWhole 93 = .ok (.ifCond .eq 12, 3) := by decide +kernel
theorem dX3_readWhole_96 : decode cX3_readWhole 96 = .ok (.aload_n 0, 1) := by decide +kernel
theorem dX3_readWhole_97 : decode cX3_readWhole 97 = .ok (.aload_n 1, 1) := by decide +kernel
theorem dX3_readWhole_98 : decode cX3_readWhole 98 = .ok (.iload_n 2, 1) := by decide +kernel
theorem dX3_readWhole_99 : decode cX3_readWhole 99 = .ok (.invokevirtual 47, 3) := by decide +kernel
theorem dX3_readWhole_102 : decode cX3_readWhole 102 = .ok (.ifCond .ne 5, 3) := by decide +kernel
theorem dX3_readWhole_105 : decode cX3_readWhole 105 = .ok (.iconst 0, 1) := by decide +kernel
theorem dX3_readWhole_106 : decode cX3_readWhole 106 = .ok (.ireturn, 1) := by decide +kernel
theorem dX3_readWhole_107 : decode cX3_readWhole 107 = .ok (.aload_n 0, 1) := by decide +kernel
theorem dX3_readWhole_108 : decode cX3_readWhole 108 = .ok (.aload_n 0, 1) := by decide +kernel
theorem dX3_readWhole_109 : decode cX3_readWhole 109 = .ok (.getfield 50, 3) := by decide +kernel
theorem dX3_readWhole_112 : decode cX3_readWhole 112 = .ok (.putfield 15, 3) := by decide +kernel
theorem dX3_readWhole_115 : decode cX3_readWhole 115 = .ok (.aload_n 0, 1) := by decide +kernel
theorem dX3_readWhole_116 : decode cX3_readWhole 116 = .ok (.aload_n 1, 1) := by decide +kernel
theorem dX3_readWhole_117 : decode cX3_readWhole 117 = .ok (.iload_n 2, 1) := by decide +kernel
theorem dX3_readWhole_118 : decode cX3_readWhole 118 = .ok (.bipush 59, 2) := by decide +kernel
theorem dX3_readWhole_120 : decode cX3_readWhole 120 = .ok (.invokevirtual 53, 3) := by decide +kernel
theorem dX3_readWhole_123 : decode cX3_readWhole 123 = .ok (.ireturn, 1) := by decide +kernel
set_option maxHeartbeats 8000000 in
set_option maxRecDepth 100000 in
theorem mX3_readWhole (l : Launch) (G : gG) (da : Nat → Nat) (v : vSt) (x : gX) (r : Nat) (hk_r : kd r = 3) (o1 : Nat) (hk_o1 : kd o1 = 27) (p1 : Int32) (ho : oX3_readWhole r o1 p1 v) : MI l yX3_readWhole cX3_readWhole 4 (some .boolean) rmX3_readWhole [.ref (ga G r), .ref (ga G o1), .int p1] G da v x 0 0 (fX3_readWhole r o1 p1 v).1 (fX3_readWhole r o1 p1 v).2 x := by
  refine gofMI (own := RX3) (by decide) rfl (Nat.le_of_ble_eq_true rfl) (fun p e s m args below meth c ls Q X hH hl E => ?_)
  have hx := X.1
  have hb := X.2.1
  have hown := X.2.2.2.1
  have hts := X.2.2.2.2.1
  have hS : va_S (gA G) s.heap s.heap [] := va_S.rf
  unfold oX3_readWhole at ho
  have hl : lv_has ls 4 [(0, .ref (ga G r)), (1, .ref (ga G o1)), (2, .int p1)] := hl
  refine lv_aload_n hx hb dX3_readWhole_0 rfl (lv_at hl 0 rfl) ?_
  refine lv_aload_n hx hb dX3_readWhole_1 rfl (lv_at hl 0 rfl) ?_
  refine g_Order_18 X hH hk_r dX3_readWhole_2 ?_
  refine lv_iload_n hx hb dX3_readWhole_5 rfl (lv_at hl 2 rfl) ?_
  have K2 : ∀ (y1 : Int32) (ls : Array Slot), y1 = (if (p1 : Int32) ≤ (v r 3) then ((-1)) else (fJ0_indexOf_0f7a4 (v o1 (v r 3 : Int32).toNatClampNeg)) : Int32) → lv_has ls 4 [(0, .ref (ga G r)), (1, .ref (ga G o1)), (2, .int p1)] → W p l e rmX3_readWhole s m args below meth c s.heap [] 0 0 Q (F0 m 24 ls [.int y1, .ref (ga G r)]) := by
    intro y1 ls ey1 hl
    have ho := ho.2 y1 ey1
    refine p_Order_36 X hH hS hk_r dX3_readWhole_24 (fun H locs v3 ev3 hH hS => ?_)
    have ho := ho v3 ev3
    refine lv_aload_n hx hb dX3_readWhole_27 rfl (lv_at hl 0 rfl) ?_
    refine g_Order_36 X hH hk_r dX3_readWhole_28 ?_
    refine lv_if_ge (tgt := 36) hx hb dX3_readWhole_31 (by decide) (fun c4 => ?_) (fun c4 => ?_)
    · have ho := ho c4
      refine lv_aload_n hx hb dX3_readWhole_36 rfl (lv_at hl 0 rfl) ?_
      refine lv_dup hx hb dX3_readWhole_37 rfl ?_
      refine g_Order_18 X hH hk_r dX3_readWhole_38 ?_
      refine lv_iconst (v := 1) hx hb dX3_readWhole_41 (by decide) ?_
      refine lv_iadd hx hb dX3_readWhole_42 ?_
      refine p_Order_18 X hH hS hk_r dX3_readWhole_43 (fun H locs v5 ev5 hH hS => ?_)
      have ho := ho v5 ev5
      refine gs_Order_39 X hS dX3_readWhole_46 ?_
      refine lv_aload_n hx hb dX3_readWhole_49 rfl (lv_at hl 0 rfl) ?_
      refine g_Order_36 X hH hk_r dX3_readWhole_50 ?_
      refine kn_X10_entry X hS (ia_s5 X hS) t_mn_Order_43 hl.1 (Nat.le_of_ble_eq_true rfl) ⟨Nat.le_of_ble_eq_true rfl, Nat.le_of_ble_eq_true rfl⟩ ⟨Nat.zero_le _, Nat.zero_le _⟩ dX3_readWhole_53 ?_
      refine lv_istore_n (lv' := [(3, .int (fX10_entry 7 tbO (v5 r 0))), (0, .ref (ga G r)), (1, .ref (ga G o1)), (2, .int p1)]) hx hb dX3_readWhole_56 rfl hl (by decide) rfl (fun ls hl => ?_)
      refine lv_iload_n hx hb dX3_readWhole_57 rfl (lv_at hl 0 rfl) ?_
      refine lv_if_le (tgt := 80) hx hb dX3_readWhole_58 (by decide) (fun c6 => ?_) (fun c6 => ?_)
      · have ho := ho.1 c6
        refine lv_iload_n hx hb dX3_readWhole_80 rfl (lv_at hl 0 rfl) ?_
        refine lv_iconst (v := 1) hx hb dX3_readWhole_81 (by decide) ?_
        refine lv_icmp_le (tgt := 115) hx hb dX3_readWhole_82 (by decide) (fun c7 => ?_) (fun c7 => ?_)
        · have ho := ho.1 c7
          refine lv_aload_n hx hb dX3_readWhole_115 rfl (lv_at hl 1 rfl) ?_
          refine lv_aload_n hx hb dX3_readWhole_116 rfl (lv_at hl 2 rfl) ?_
          refine lv_iload_n hx hb dX3_readWhole_117 rfl (lv_at hl 3 rfl) ?_
          refine lv_bipush (v := 59) hx hb dX3_readWhole_118 (by decide) ?_
          have hq8 := ho.1
          have ho := ho.2
          refine k_X3_readSign X hS hH hk_r hk_o1 hq8 t_ml_Order_53 hl.1 (Nat.le_of_ble_eq_true rfl) ⟨Nat.le_of_ble_eq_true rfl, Nat.le_of_ble_eq_true rfl⟩ ⟨Nat.zero_le _, Nat.zero_le _⟩ dX3_readWhole_120 (fun da H locs v9 ev9 hH hS => ?_)
          have ho := ho v9 ev9
          have hq10 := ho
          replace ey1 := Eq.symm ey1
          replace ev3 := Eq.symm ev3
          replace ev5 := Eq.symm ev5
          replace ev9 := Eq.symm ev9
          subst ey1 ev3 ev5 ev9
          exact E _ _ _ _ _ _ _ _ _ dX3_readWhole_123 (bn01 hq10).1 (pr1 ((fX3_readWhole.eq_1 _ _ _ _).trans ((if_pos c4).trans ((if_pos c6).trans ((if_pos c7).trans rfl))))) (pr2 ((fX3_readWhole.eq_1 _ _ _ _).trans ((if_pos c4).trans ((if_pos c6).trans ((if_pos c7).trans rfl))))) hH hS (Nat.zero_le _) (Nat.zero_le _)
        · have ho := ho.2 c7
          refine lv_aload_n hx hb dX3_readWhole_85 rfl (lv_at hl 1 rfl) ?_
          refine lv_aload_n hx hb dX3_readWhole_86 rfl (lv_at hl 2 rfl) ?_
          refine lv_iload_n hx hb dX3_readWhole_87 rfl (lv_at hl 3 rfl) ?_
          refine lv_bipush (v := 44) hx hb dX3_readWhole_88 (by decide) ?_
          have hq11 := ho.1
          have ho := ho.2
          refine k_X3_readSign X hS hH hk_r hk_o1 hq11 t_ml_Order_53 hl.1 (Nat.le_of_ble_eq_true rfl) ⟨Nat.le_of_ble_eq_true rfl, Nat.le_of_ble_eq_true rfl⟩ ⟨Nat.zero_le _, Nat.zero_le _⟩ dX3_readWhole_90 (fun da H locs v12 ev12 hH hS => ?_)
          have ho := ho v12 ev12
          refine lv_if_eq (tgt := 105) hx hb dX3_readWhole_93 (by decide) (fun c13 => ?_) (fun c13 => ?_)
          · skip
            refine lv_iconst (v := 0) hx hb dX3_readWhole_105 (by decide) ?_
            replace ey1 := Eq.symm ey1
            replace ev3 := Eq.symm ev3
            replace ev5 := Eq.symm ev5
            replace ev12 := Eq.symm ev12
            subst ey1 ev3 ev5 ev12
            exact E _ _ _ _ _ _ _ _ _ dX3_readWhole_106 rfl (pr1 ((fX3_readWhole.eq_1 _ _ _ _).trans ((if_pos c4).trans ((if_pos c6).trans ((if_neg c7).trans ((if_pos c13).trans rfl)))))) (pr2 ((fX3_readWhole.eq_1 _ _ _ _).trans ((if_pos c4).trans ((if_pos c6).trans ((if_neg c7).trans ((if_pos c13).trans rfl)))))) hH hS (Nat.zero_le _) (Nat.zero_le _)
          · have ho := ho c13
            refine lv_aload_n hx hb dX3_readWhole_96 rfl (lv_at hl 1 rfl) ?_
            refine lv_aload_n hx hb dX3_readWhole_97 rfl (lv_at hl 2 rfl) ?_
            refine lv_iload_n hx hb dX3_readWhole_98 rfl (lv_at hl 3 rfl) ?_
            have hq14 := ho.1
            have ho := ho.2
            refine k_X3_readDigits X hS hH hk_r hk_o1 hq14 t_ml_Order_47 hl.1 (Nat.le_of_ble_eq_true rfl) ⟨Nat.le_of_ble_eq_true rfl, Nat.le_of_ble_eq_true rfl⟩ ⟨Nat.zero_le _, Nat.zero_le _⟩ dX3_readWhole_99 (fun da H locs v15 ev15 hH hS => ?_)
            have ho := ho v15 ev15
            refine lv_if_ne (tgt := 107) hx hb dX3_readWhole_102 (by decide) (fun c16 => ?_) (fun c16 => ?_)
            · have ho := ho c16
              refine lv_aload_n hx hb dX3_readWhole_107 rfl (lv_at hl 1 rfl) ?_
              refine lv_aload_n hx hb dX3_readWhole_108 rfl (lv_at hl 1 rfl) ?_
              refine g_Order_50 X hH hk_r dX3_readWhole_109 ?_
              refine p_Order_15 X hH hS hk_r dX3_readWhole_112 (fun H locs v17 ev17 hH hS => ?_)
              have ho := ho v17 ev17
              refine lv_aload_n hx hb dX3_readWhole_115 rfl (lv_at hl 1 rfl) ?_
              refine lv_aload_n hx hb dX3_readWhole_116 rfl (lv_at hl 2 rfl) ?_
              refine lv_iload_n hx hb dX3_readWhole_117 rfl (lv_at hl 3 rfl) ?_
              refine lv_bipush (v := 59) hx hb dX3_readWhole_118 (by decide) ?_
              have hq18 := ho.1
              have ho := ho.2
              refine k_X3_readSign X hS hH hk_r hk_o1 hq18 t_ml_Order_53 hl.1 (Nat.le_of_ble_eq_true rfl) ⟨Nat.le_of_ble_eq_true rfl, Nat.le_of_ble_eq_true rfl⟩ ⟨Nat.zero_le _, Nat.zero_le _⟩ dX3_readWhole_120 (fun da H locs v19 ev19 hH hS => ?_)
              have ho := ho v19 ev19
              have hq20 := ho
              replace ey1 := Eq.symm ey1
              replace ev3 := Eq.symm ev3
              replace ev5 := Eq.symm ev5
              replace ev12 := Eq.symm ev12
              replace ev15 := Eq.symm ev15
              replace ev17 := Eq.symm ev17
              replace ev19 := Eq.symm ev19
              subst ey1 ev3 ev5 ev12 ev15 ev17 ev19
              exact E _ _ _ _ _ _ _ _ _ dX3_readWhole_123 (bn01 hq20).1 (pr1 ((fX3_readWhole.eq_1 _ _ _ _).trans ((if_pos c4).trans ((if_pos c6).trans ((if_neg c7).trans ((if_neg c13).trans ((if_neg c16).trans rfl))))))) (pr2 ((fX3_readWhole.eq_1 _ _ _ _).trans ((if_pos c4).trans ((if_pos c6).trans ((if_neg c7).trans ((if_neg c13).trans ((if_neg c16).trans rfl))))))) hH hS (Nat.zero_le _) (Nat.zero_le _)
            · skip
              refine lv_iconst (v := 0) hx hb dX3_readWhole_105 (by decide) ?_
              replace ey1 := Eq.symm ey1
              replace ev3 := Eq.symm ev3
              replace ev5 := Eq.symm ev5
              replace ev12 := Eq.symm ev12
              replace ev15 := Eq.symm ev15
              subst ey1 ev3 ev5 ev12 ev15
              exact E _ _ _ _ _ _ _ _ _ dX3_readWhole_106 rfl (pr1 ((fX3_readWhole.eq_1 _ _ _ _).trans ((if_pos c4).trans ((if_pos c6).trans ((if_neg c7).trans ((if_neg c13).trans ((if_pos c16).trans rfl))))))) (pr2 ((fX3_readWhole.eq_1 _ _ _ _).trans ((if_pos c4).trans ((if_pos c6).trans ((if_neg c7).trans ((if_neg c13).trans ((if_pos c16).trans rfl))))))) hH hS (Nat.zero_le _) (Nat.zero_le _)
      · have ho := ho.2 c6
        refine lv_aload_n hx hb dX3_readWhole_61 rfl (lv_at hl 1 rfl) ?_
        refine lv_aload_n hx hb dX3_readWhole_62 rfl (lv_at hl 2 rfl) ?_
        refine lv_iload_n hx hb dX3_readWhole_63 rfl (lv_at hl 3 rfl) ?_
        have hq21 := ho.1
        have ho := ho.2
        refine k_X3_readDigits X hS hH hk_r hk_o1 hq21 t_ml_Order_47 hl.1 (Nat.le_of_ble_eq_true rfl) ⟨Nat.le_of_ble_eq_true rfl, Nat.le_of_ble_eq_true rfl⟩ ⟨Nat.zero_le _, Nat.zero_le _⟩ dX3_readWhole_64 (fun da H locs v22 ev22 hH hS => ?_)
        have ho := ho v22 ev22
        refine lv_if_ne (tgt := 72) hx hb dX3_readWhole_67 (by decide) (fun c23 => ?_) (fun c23 => ?_)
        · have ho := ho c23
          refine lv_aload_n hx hb dX3_readWhole_72 rfl (lv_at hl 1 rfl) ?_
          refine lv_aload_n hx hb dX3_readWhole_73 rfl (lv_at hl 1 rfl) ?_
          refine g_Order_50 X hH hk_r dX3_readWhole_74 ?_
          refine p_Order_9 X hH hS hk_r dX3_readWhole_77 (fun H locs v24 ev24 hH hS => ?_)
          have ho := ho v24 ev24
          refine lv_iload_n hx hb dX3_readWhole_80 rfl (lv_at hl 0 rfl) ?_
          refine lv_iconst (v := 1) hx hb dX3_readWhole_81 (by decide) ?_
          refine lv_icmp_le (tgt := 115) hx hb dX3_readWhole_82 (by decide) (fun c25 => ?_) (fun c25 => ?_)
          · have ho := ho.1 c25
            refine lv_aload_n hx hb dX3_readWhole_115 rfl (lv_at hl 1 rfl) ?_
            refine lv_aload_n hx hb dX3_readWhole_116 rfl (lv_at hl 2 rfl) ?_
            refine lv_iload_n hx hb dX3_readWhole_117 rfl (lv_at hl 3 rfl) ?_
            refine lv_bipush (v := 59) hx hb dX3_readWhole_118 (by decide) ?_
            have hq26 := ho.1
            have ho := ho.2
            refine k_X3_readSign X hS hH hk_r hk_o1 hq26 t_ml_Order_53 hl.1 (Nat.le_of_ble_eq_true rfl) ⟨Nat.le_of_ble_eq_true rfl, Nat.le_of_ble_eq_true rfl⟩ ⟨Nat.zero_le _, Nat.zero_le _⟩ dX3_readWhole_120 (fun da H locs v27 ev27 hH hS => ?_)
            have ho := ho v27 ev27
            have hq28 := ho
            replace ey1 := Eq.symm ey1
            replace ev3 := Eq.symm ev3
            replace ev5 := Eq.symm ev5
            replace ev22 := Eq.symm ev22
            replace ev24 := Eq.symm ev24
            replace ev27 := Eq.symm ev27
            subst ey1 ev3 ev5 ev22 ev24 ev27
            exact E _ _ _ _ _ _ _ _ _ dX3_readWhole_123 (bn01 hq28).1 (pr1 ((fX3_readWhole.eq_1 _ _ _ _).trans ((if_pos c4).trans ((if_neg c6).trans ((if_neg c23).trans ((if_pos c25).trans rfl)))))) (pr2 ((fX3_readWhole.eq_1 _ _ _ _).trans ((if_pos c4).trans ((if_neg c6).trans ((if_neg c23).trans ((if_pos c25).trans rfl)))))) hH hS (Nat.zero_le _) (Nat.zero_le _)
          · have ho := ho.2 c25
            refine lv_aload_n hx hb dX3_readWhole_85 rfl (lv_at hl 1 rfl) ?_
            refine lv_aload_n hx hb dX3_readWhole_86 rfl (lv_at hl 2 rfl) ?_
            refine lv_iload_n hx hb dX3_readWhole_87 rfl (lv_at hl 3 rfl) ?_
            refine lv_bipush (v := 44) hx hb dX3_readWhole_88 (by decide) ?_
            have hq29 := ho.1
            have ho := ho.2
            refine k_X3_readSign X hS hH hk_r hk_o1 hq29 t_ml_Order_53 hl.1 (Nat.le_of_ble_eq_true rfl) ⟨Nat.le_of_ble_eq_true rfl, Nat.le_of_ble_eq_true rfl⟩ ⟨Nat.zero_le _, Nat.zero_le _⟩ dX3_readWhole_90 (fun da H locs v30 ev30 hH hS => ?_)
            have ho := ho v30 ev30
            refine lv_if_eq (tgt := 105) hx hb dX3_readWhole_93 (by decide) (fun c31 => ?_) (fun c31 => ?_)
            · skip
              refine lv_iconst (v := 0) hx hb dX3_readWhole_105 (by decide) ?_
              replace ey1 := Eq.symm ey1
              replace ev3 := Eq.symm ev3
              replace ev5 := Eq.symm ev5
              replace ev22 := Eq.symm ev22
              replace ev24 := Eq.symm ev24
              replace ev30 := Eq.symm ev30
              subst ey1 ev3 ev5 ev22 ev24 ev30
              exact E _ _ _ _ _ _ _ _ _ dX3_readWhole_106 rfl (pr1 ((fX3_readWhole.eq_1 _ _ _ _).trans ((if_pos c4).trans ((if_neg c6).trans ((if_neg c23).trans ((if_neg c25).trans ((if_pos c31).trans rfl))))))) (pr2 ((fX3_readWhole.eq_1 _ _ _ _).trans ((if_pos c4).trans ((if_neg c6).trans ((if_neg c23).trans ((if_neg c25).trans ((if_pos c31).trans rfl))))))) hH hS (Nat.zero_le _) (Nat.zero_le _)
            · have ho := ho c31
              refine lv_aload_n hx hb dX3_readWhole_96 rfl (lv_at hl 1 rfl) ?_
              refine lv_aload_n hx hb dX3_readWhole_97 rfl (lv_at hl 2 rfl) ?_
              refine lv_iload_n hx hb dX3_readWhole_98 rfl (lv_at hl 3 rfl) ?_
              have hq32 := ho.1
              have ho := ho.2
              refine k_X3_readDigits X hS hH hk_r hk_o1 hq32 t_ml_Order_47 hl.1 (Nat.le_of_ble_eq_true rfl) ⟨Nat.le_of_ble_eq_true rfl, Nat.le_of_ble_eq_true rfl⟩ ⟨Nat.zero_le _, Nat.zero_le _⟩ dX3_readWhole_99 (fun da H locs v33 ev33 hH hS => ?_)
              have ho := ho v33 ev33
              refine lv_if_ne (tgt := 107) hx hb dX3_readWhole_102 (by decide) (fun c34 => ?_) (fun c34 => ?_)
              · have ho := ho c34
                refine lv_aload_n hx hb dX3_readWhole_107 rfl (lv_at hl 1 rfl) ?_
                refine lv_aload_n hx hb dX3_readWhole_108 rfl (lv_at hl 1 rfl) ?_
                refine g_Order_50 X hH hk_r dX3_readWhole_109 ?_
                refine p_Order_15 X hH hS hk_r dX3_readWhole_112 (fun H locs v35 ev35 hH hS => ?_)
                have ho := ho v35 ev35
                refine lv_aload_n hx hb dX3_readWhole_115 rfl (lv_at hl 1 rfl) ?_
                refine lv_aload_n hx hb dX3_readWhole_116 rfl (lv_at hl 2 rfl) ?_
                refine lv_iload_n hx hb dX3_readWhole_117 rfl (lv_at hl 3 rfl) ?_
                refine lv_bipush (v := 59) hx hb dX3_readWhole_118 (by decide) ?_
                have hq36 := ho.1
                have ho := ho.2
                refine k_X3_readSign X hS hH hk_r hk_o1 hq36 t_ml_Order_53 hl.1 (Nat.le_of_ble_eq_true rfl) ⟨Nat.le_of_ble_eq_true rfl, Nat.le_of_ble_eq_true rfl⟩ ⟨Nat.zero_le _, Nat.zero_le _⟩ dX3_readWhole_120 (fun da H locs v37 ev37 hH hS => ?_)
                have ho := ho v37 ev37
                have hq38 := ho
                replace ey1 := Eq.symm ey1
                replace ev3 := Eq.symm ev3
                replace ev5 := Eq.symm ev5
                replace ev22 := Eq.symm ev22
                replace ev24 := Eq.symm ev24
                replace ev30 := Eq.symm ev30
                replace ev33 := Eq.symm ev33
                replace ev35 := Eq.symm ev35
                replace ev37 := Eq.symm ev37
                subst ey1 ev3 ev5 ev22 ev24 ev30 ev33 ev35 ev37
                exact E _ _ _ _ _ _ _ _ _ dX3_readWhole_123 (bn01 hq38).1 (pr1 ((fX3_readWhole.eq_1 _ _ _ _).trans ((if_pos c4).trans ((if_neg c6).trans ((if_neg c23).trans ((if_neg c25).trans ((if_neg c31).trans ((if_neg c34).trans rfl)))))))) (pr2 ((fX3_readWhole.eq_1 _ _ _ _).trans ((if_pos c4).trans ((if_neg c6).trans ((if_neg c23).trans ((if_neg c25).trans ((if_neg c31).trans ((if_neg c34).trans rfl)))))))) hH hS (Nat.zero_le _) (Nat.zero_le _)
              · skip
                refine lv_iconst (v := 0) hx hb dX3_readWhole_105 (by decide) ?_
                replace ey1 := Eq.symm ey1
                replace ev3 := Eq.symm ev3
                replace ev5 := Eq.symm ev5
                replace ev22 := Eq.symm ev22
                replace ev24 := Eq.symm ev24
                replace ev30 := Eq.symm ev30
                replace ev33 := Eq.symm ev33
                subst ey1 ev3 ev5 ev22 ev24 ev30 ev33
                exact E _ _ _ _ _ _ _ _ _ dX3_readWhole_106 rfl (pr1 ((fX3_readWhole.eq_1 _ _ _ _).trans ((if_pos c4).trans ((if_neg c6).trans ((if_neg c23).trans ((if_neg c25).trans ((if_neg c31).trans ((if_pos c34).trans rfl)))))))) (pr2 ((fX3_readWhole.eq_1 _ _ _ _).trans ((if_pos c4).trans ((if_neg c6).trans ((if_neg c23).trans ((if_neg c25).trans ((if_neg c31).trans ((if_pos c34).trans rfl)))))))) hH hS (Nat.zero_le _) (Nat.zero_le _)
        · skip
          refine lv_iconst (v := 0) hx hb dX3_readWhole_70 (by decide) ?_
          replace ey1 := Eq.symm ey1
          replace ev3 := Eq.symm ev3
          replace ev5 := Eq.symm ev5
          replace ev22 := Eq.symm ev22
          subst ey1 ev3 ev5 ev22
          exact E _ _ _ _ _ _ _ _ _ dX3_readWhole_71 rfl (pr1 ((fX3_readWhole.eq_1 _ _ _ _).trans ((if_pos c4).trans ((if_neg c6).trans ((if_pos c23).trans rfl))))) (pr2 ((fX3_readWhole.eq_1 _ _ _ _).trans ((if_pos c4).trans ((if_neg c6).trans ((if_pos c23).trans rfl))))) hH hS (Nat.zero_le _) (Nat.zero_le _)
    · skip
      refine lv_iconst (v := 0) hx hb dX3_readWhole_34 (by decide) ?_
      replace ey1 := Eq.symm ey1
      replace ev3 := Eq.symm ev3
      subst ey1 ev3
      exact E _ _ _ _ _ _ _ _ _ dX3_readWhole_35 rfl (pr1 ((fX3_readWhole.eq_1 _ _ _ _).trans ((if_neg c4).trans rfl))) (pr2 ((fX3_readWhole.eq_1 _ _ _ _).trans ((if_neg c4).trans rfl))) hH hS (Nat.zero_le _) (Nat.zero_le _)
  have ho := ho.1
  refine lv_icmp_ge (tgt := 23) hx hb dX3_readWhole_6 (by decide) (fun c2 => ?_) (fun c2 => ?_)
  · skip
    refine lv_iconst (v := (-1)) hx hb dX3_readWhole_23 (by decide) ?_
    exact K2 _ _ (Eq.symm ((if_pos c2).trans rfl)) (lv_sub hl [0, 1, 2] rfl)
  · have ho := ho c2
    refine va_ldcS hx hb hown X.2.2.2.2.2.1.2.2.2.2.1.1 dX3_readWhole_9 ?_
    refine lv_aload_n hx hb dX3_readWhole_11 rfl (lv_at hl 1 rfl) ?_
    refine lv_aload_n hx hb dX3_readWhole_12 rfl (lv_at hl 0 rfl) ?_
    refine g_Order_18 X hH hk_r dX3_readWhole_13 ?_
    have hq3 := ho.1
    have ho := ho.2
    refine cald_27 X hH hk_o1 hq3 dX3_readWhole_16 ?_
    have hq4 := ho
    refine k_J0_indexOf_0f7a4 X hS hq4 t_ml_Order_30 hl.1 (Nat.le_of_ble_eq_true rfl) ⟨Nat.le_of_ble_eq_true rfl, Nat.le_of_ble_eq_true rfl⟩ ⟨Nat.zero_le _, Nat.zero_le _⟩ dX3_readWhole_17 ?_
    refine lv_goto (tgt := 24) hx hb dX3_readWhole_20 (by decide) ?_
    exact K2 _ _ (Eq.symm ((if_neg c2).trans rfl)) (lv_sub hl [0, 1, 2] rfl)
theorem k_X3_readWhole {p : Program} {l : Launch} {e : Env} {R : Room} {s : State} {m : MethodId} {args : Array Value} {below : List Frame} {meth : Method} {c : Code} {H : Heap} {locs : List Loc} {cells slots : Nat} {Q : State → Prop} {cc : ByteArray} {pc nL : Nat} {ls : Array Slot} {rest : List Value} {G : gG} {own : String} {da : Nat → Nat} {v : vSt} {x : gX} (X : CX G p s m args c cc nL own) (hS : va_S (gA G) s.heap H locs) (hH : Hp G da v x H) {r : Nat} (hk_r : kd r = 3) {o1 : Nat} (hk_o1 : kd o1 = 27) {p1 : Int32} (ho : oX3_readWhole r o1 p1 v) {idx : Nat} (hml : Cond.methodLink own idx yX3_readWhole ∈ TT) (hls : ls.size = nL) (hsum : (rest.map fun v => v.category).sum ≤ 8) (hR : rmX3_readWhole.frames + 1 ≤ R.frames ∧ 8 + (4 + 11) + rmX3_readWhole.locals ≤ R.locals) (hcs : cells ≤ R.cells ∧ slots ≤ R.slots) (hdg : decode cc pc = .ok (.invokevirtual idx, 3)) (kk : ∀ (d : Nat → Nat) (H1 : Heap) (locs1 : List Loc) (v1 : vSt), v1 = (fX3_readWhole r o1 p1 v).2 → Hp G d v1 x H1 → va_S (gA G) s.heap H1 locs1 → W p l e R s m args below meth c H1 locs1 cells slots Q (F0 m (pc + 3) ls (.int (fX3_readWhole r o1 p1 v).1 :: rest))) : W p l e R s m args below meth c H locs cells slots Q (F0 m pc ls (.int p1 :: .ref (ga G o1) :: .ref (ga G r) :: rest)) := c_mi X.2.2.2.2.2.2 (runV (k := 2) X.1 X.2.1 X.2.2.1 X.2.2.2.1 X.2.2.2.2.1 (mX3_readWhole l G da v x r hk_r o1 hk_o1 p1 ho) pW_bl hml t_im_X3_readWhole t_sel_X3_readWhole t_ini_Order t_code_X3_readWhole ⟨rfl, by decide, by decide, by decide +kernel⟩ rfl rfl hR hcs (recvW X hH (by rw [hk_r]; decide) (by rw [hk_r]; decide) (ce_3 hk_r) rfl) (preW X hS hH) rfl hls rfl hsum hdg) hS kk
def fX3_readFrom (r : Nat) (o1 : Nat) (p1 : Int32) (p2 : Int32) (v : vSt) : vSt := let v1 : vSt := u2 v r 1 0; let v2 : vSt := u2 v1 r 2 0; let v3 : vSt := u2 v2 r 3 p2; let v4 : vSt := u2 v3 r 4 (-1); let v6 : vSt := (fX3_readWhole r o1 p1 v4).2; if (((fX3_readWhole r o1 p1 v4).1) : Int32) = 0 then (let v8 : vSt := u2 v6 r 4 ((v6 r 3) - p2); v8) else v6
def oX3_readFrom (r : Nat) (o1 : Nat) (p1 : Int32) (p2 : Int32) (v : vSt) : Prop := ∀ v1 : vSt, v1 = (u2 v r 1 0) → (∀ v2 : vSt, v2 = (u2 v1 r 2 0) → (∀ v3 : vSt, v3 = (u2 v2 r 3 p2) → (∀ v4 : vSt, v4 = (u2 v3 r 4 (-1)) → (oX3_readWhole r o1 p1 v4))))
abbrev rmX3_readFrom : Room := { frames := 5, cells := 0, slots := 0, locals := 114 }
theorem dX3_readFrom_0 : decode cX3_readFrom 0 = .ok (.aload_n 0, 1) := by decide +kernel
theorem dX3_readFrom_1 : decode cX3_readFrom 1 = .ok (.iconst 0, 1) := by decide +kernel
theorem dX3_readFrom_2 : decode cX3_readFrom 2 = .ok (.putfield 9, 3) := by decide +kernel
theorem dX3_readFrom_5 : decode cX3_readFrom 5 = .ok (.aload_n 0, 1) := by decide +kernel
theorem dX3_readFrom_6 : decode cX3_readFrom 6 = .ok (.iconst 0, 1) := by decide +kernel
theorem dX3_readFrom_7 : decode cX3_readFrom 7 = .ok (.putfield 15, 3) := by decide +kernel
theorem dX3_readFrom_10 : decode cX3_readFrom 10 = .ok (.aload_n 0, 1) := by decide +kernel
theorem dX3_readFrom_11 : decode cX3_readFrom 11 = .ok (.iload_n 3, 1) := by decide +kernel
theorem dX3_readFrom_12 : decode cX3_readFrom 12 = .ok (.putfield 18, 3) := by decide +kernel
theorem dX3_readFrom_15 : decode cX3_readFrom 15 = .ok (.aload_n 0, 1) := by decide +kernel
theorem dX3_readFrom_16 : decode cX3_readFrom 16 = .ok (.iconst (-1), 1) := by decide +kernel
theorem dX3_readFrom_17 : decode cX3_readFrom 17 = .ok (.putfield 21, 3) := by decide +kernel
theorem dX3_readFrom_20 : decode cX3_readFrom 20 = .ok (.aload_n 0, 1) := by decide +kernel
theorem dX3_readFrom_21 : decode cX3_readFrom 21 = .ok (.aload_n 1, 1) := by decide +kernel
theorem dX3_readFrom_22 : decode cX3_readFrom 22 = .ok (.iload_n 2, 1) := by decide +kernel
theorem dX3_readFrom_23 : decode cX3_readFrom 23 = .ok (.invokevirtual 24, 3) := by decide +kernel
theorem dX3_readFrom_26 : decode cX3_readFrom 26 = .ok (.ifCond .ne 13, 3) := by decide +kernel
theorem dX3_readFrom_29 : decode cX3_readFrom 29 = .ok (.aload_n 0, 1) := by decide +kernel
theorem dX3_readFrom_30 : decode cX3_readFrom 30 = .ok (.aload_n 0, 1) := by decide +kernel
theorem dX3_readFrom_31 : decode cX3_readFrom 31 = .ok (.getfield 18, 3) := by decide +kernel
theorem dX3_readFrom_34 : decode cX3_readFrom 34 = .ok (.iload_n 3, 1) := by decide +kernel
theorem dX3_readFrom_35 : decode cX3_readFrom 35 = .ok (.isub, 1) := by decide +kernel
theorem dX3_readFrom_36 : decode cX3_readFrom 36 = .ok (.putfield 21, 3) := by decide +kernel
theorem dX3_readFrom_39 : decode cX3_readFrom 39 = .ok (.return_, 1) := by decide +kernel
set_option maxHeartbeats 8000000 in
set_option maxRecDepth 100000 in
theorem mX3_readFrom (l : Launch) (G : gG) (da : Nat → Nat) (v : vSt) (x : gX) (r : Nat) (hk_r : kd r = 3) (o1 : Nat) (hk_o1 : kd o1 = 27) (p1 : Int32) (p2 : Int32) (ho : oX3_readFrom r o1 p1 p2 v) : MV l yX3_readFrom cX3_readFrom 4 none rmX3_readFrom [.ref (ga G r), .ref (ga G o1), .int p1, .int p2] G da v x 0 0 (fX3_readFrom r o1 p1 p2 v) x := by
  refine gofMV (own := RX3) (by decide) rfl (Nat.le_of_ble_eq_true rfl) (fun p e s m args below meth c ls Q X hH hl E => ?_)
  have hx := X.1
  have hb := X.2.1
  have hown := X.2.2.2.1
  have hts := X.2.2.2.2.1
  have hS : va_S (gA G) s.heap s.heap [] := va_S.rf
  unfold oX3_readFrom at ho
  have hl : lv_has ls 4 [(0, .ref (ga G r)), (1, .ref (ga G o1)), (2, .int p1), (3, .int p2)] := hl
  refine lv_aload_n hx hb dX3_readFrom_0 rfl (lv_at hl 0 rfl) ?_
  refine lv_iconst (v := 0) hx hb dX3_readFrom_1 (by decide) ?_
  refine p_Order_9 X hH hS hk_r dX3_readFrom_2 (fun H locs v1 ev1 hH hS => ?_)
  have ho := ho v1 ev1
  refine lv_aload_n hx hb dX3_readFrom_5 rfl (lv_at hl 0 rfl) ?_
  refine lv_iconst (v := 0) hx hb dX3_readFrom_6 (by decide) ?_
  refine p_Order_15 X hH hS hk_r dX3_readFrom_7 (fun H locs v2 ev2 hH hS => ?_)
  have ho := ho v2 ev2
  refine lv_aload_n hx hb dX3_readFrom_10 rfl (lv_at hl 0 rfl) ?_
  refine lv_iload_n hx hb dX3_readFrom_11 rfl (lv_at hl 3 rfl) ?_
  refine p_Order_18 X hH hS hk_r dX3_readFrom_12 (fun H locs v3 ev3 hH hS => ?_)
  have ho := ho v3 ev3
  refine lv_aload_n hx hb dX3_readFrom_15 rfl (lv_at hl 0 rfl) ?_
  refine lv_iconst (v := (-1)) hx hb dX3_readFrom_16 (by decide) ?_
  refine p_Order_21 X hH hS hk_r dX3_readFrom_17 (fun H locs v4 ev4 hH hS => ?_)
  have ho := ho v4 ev4
  refine lv_aload_n hx hb dX3_readFrom_20 rfl (lv_at hl 0 rfl) ?_
  refine lv_aload_n hx hb dX3_readFrom_21 rfl (lv_at hl 1 rfl) ?_
  refine lv_iload_n hx hb dX3_readFrom_22 rfl (lv_at hl 2 rfl) ?_
  have hq5 := ho
  refine k_X3_readWhole X hS hH hk_r hk_o1 hq5 t_ml_Order_24 hl.1 (Nat.le_of_ble_eq_true rfl) ⟨Nat.le_of_ble_eq_true rfl, Nat.le_of_ble_eq_true rfl⟩ ⟨Nat.zero_le _, Nat.zero_le _⟩ dX3_readFrom_23 (fun da H locs v6 ev6 hH hS => ?_)
  refine lv_if_ne (tgt := 39) hx hb dX3_readFrom_26 (by decide) (fun c7 => ?_) (fun c7 => ?_)
  · skip
    replace ev1 := Eq.symm ev1
    replace ev2 := Eq.symm ev2
    replace ev3 := Eq.symm ev3
    replace ev4 := Eq.symm ev4
    replace ev6 := Eq.symm ev6
    subst ev1 ev2 ev3 ev4 ev6
    exact E _ _ _ _ _ _ _ _ dX3_readFrom_39 (Eq.symm ((fX3_readFrom.eq_1 _ _ _ _ _).trans ((if_neg c7).trans rfl))) hH hS (Nat.zero_le _) (Nat.zero_le _)
  · skip
    refine lv_aload_n hx hb dX3_readFrom_29 rfl (lv_at hl 0 rfl) ?_
    refine lv_aload_n hx hb dX3_readFrom_30 rfl (lv_at hl 0 rfl) ?_
    refine g_Order_18 X hH hk_r dX3_readFrom_31 ?_
    refine lv_iload_n hx hb dX3_readFrom_34 rfl (lv_at hl 3 rfl) ?_
    refine lv_isub hx hb dX3_readFrom_35 ?_
    refine p_Order_21 X hH hS hk_r dX3_readFrom_36 (fun H locs v8 ev8 hH hS => ?_)
    replace ev1 := Eq.symm ev1
    replace ev2 := Eq.symm ev2
    replace ev3 := Eq.symm ev3
    replace ev4 := Eq.symm ev4
    replace ev6 := Eq.symm ev6
    replace ev8 := Eq.symm ev8
    subst ev1 ev2 ev3 ev4 ev6 ev8
    exact E _ _ _ _ _ _ _ _ dX3_readFrom_39 (Eq.symm ((fX3_readFrom.eq_1 _ _ _ _ _).trans ((if_pos c7).trans rfl))) hH hS (Nat.zero_le _) (Nat.zero_le _)
theorem k_X3_readFrom {p : Program} {l : Launch} {e : Env} {R : Room} {s : State} {m : MethodId} {args : Array Value} {below : List Frame} {meth : Method} {c : Code} {H : Heap} {locs : List Loc} {cells slots : Nat} {Q : State → Prop} {cc : ByteArray} {pc nL : Nat} {ls : Array Slot} {rest : List Value} {G : gG} {own : String} {da : Nat → Nat} {v : vSt} {x : gX} (X : CX G p s m args c cc nL own) (hS : va_S (gA G) s.heap H locs) (hH : Hp G da v x H) {r : Nat} (hk_r : kd r = 3) {o1 : Nat} (hk_o1 : kd o1 = 27) {p1 : Int32} {p2 : Int32} (ho : oX3_readFrom r o1 p1 p2 v) {idx : Nat} (hml : Cond.methodLink own idx yX3_readFrom ∈ TT) (hls : ls.size = nL) (hsum : (rest.map fun v => v.category).sum ≤ 8) (hR : rmX3_readFrom.frames + 1 ≤ R.frames ∧ 8 + (4 + 11) + rmX3_readFrom.locals ≤ R.locals) (hcs : cells ≤ R.cells ∧ slots ≤ R.slots) (hdg : decode cc pc = .ok (.invokevirtual idx, 3)) (kk : ∀ (d : Nat → Nat) (H1 : Heap) (locs1 : List Loc) (v1 : vSt), v1 = fX3_readFrom r o1 p1 p2 v → Hp G d v1 x H1 → va_S (gA G) s.heap H1 locs1 → W p l e R s m args below meth c H1 locs1 cells slots Q (F0 m (pc + 3) ls rest)) : W p l e R s m args below meth c H locs cells slots Q (F0 m pc ls (.int p2 :: .int p1 :: .ref (ga G o1) :: .ref (ga G r) :: rest)) := c_mv X.2.2.2.2.2.2 (runV (k := 3) X.1 X.2.1 X.2.2.1 X.2.2.2.1 X.2.2.2.2.1 (mX3_readFrom l G da v x r hk_r o1 hk_o1 p1 p2 ho) pW_bl hml t_im_X3_readFrom t_sel_X3_readFrom t_ini_Order t_code_X3_readFrom ⟨rfl, by decide, by decide, by decide +kernel⟩ rfl rfl hR hcs (recvW X hH (by rw [hk_r]; decide) (by rw [hk_r]; decide) (ce_3 hk_r) rfl) (preW X hS hH) rfl hls rfl hsum hdg) hS kk
def fX9_setFault (r : Nat) (p1 : Int32) (p2 : Int32) (v : vSt) : vSt := let v1 : vSt := u2 v r 4 p1; let v2 : vSt := u2 v1 r 5 p2; v2
abbrev rmX9_setFault : Room := { frames := 0, cells := 0, slots := 0, locals := 0 }
theorem dX9_setFault_0 : decode cX9_setFault 0 = .ok (.aload_n 0, 1) := by decide +kernel
theorem dX9_setFault_1 : decode cX9_setFault 1 = .ok (.iload_n 1, 1) := by decide +kernel
theorem dX9_setFault_2 : decode cX9_setFault 2 = .ok (.putfield 42, 3) := by decide +kernel
theorem dX9_setFault_5 : decode cX9_setFault 5 = .ok (.aload_n 0, 1) := by decide +kernel
theorem dX9_setFault_6 : decode cX9_setFault 6 = .ok (.iload_n 2, 1) := by decide +kernel
theorem dX9_setFault_7 : decode cX9_setFault 7 = .ok (.putfield 45, 3) := by decide +kernel
theorem dX9_setFault_10 : decode cX9_setFault 10 = .ok (.return_, 1) := by decide +kernel
set_option maxHeartbeats 8000000 in
set_option maxRecDepth 100000 in
theorem mX9_setFault (l : Launch) (G : gG) (da : Nat → Nat) (v : vSt) (x : gX) (r : Nat) (hk_r : kd r = 9) (p1 : Int32) (p2 : Int32) : MV l yX9_setFault cX9_setFault 3 none rmX9_setFault [.ref (ga G r), .int p1, .int p2] G da v x 0 0 (fX9_setFault r p1 p2 v) x := by
  refine gofMV (own := RX9) (by decide) rfl (Nat.le_of_ble_eq_true rfl) (fun p e s m args below meth c ls Q X hH hl E => ?_)
  have hx := X.1
  have hb := X.2.1
  have hown := X.2.2.2.1
  have hts := X.2.2.2.2.1
  have hS : va_S (gA G) s.heap s.heap [] := va_S.rf
  have ho : True := trivial
  have hl : lv_has ls 3 [(0, .ref (ga G r)), (1, .int p1), (2, .int p2)] := hl
  refine lv_aload_n hx hb dX9_setFault_0 rfl (lv_at hl 0 rfl) ?_
  refine lv_iload_n hx hb dX9_setFault_1 rfl (lv_at hl 1 rfl) ?_
  refine p_Trial_42 X hH hS hk_r dX9_setFault_2 (fun H locs v1 ev1 hH hS => ?_)
  refine lv_aload_n hx hb dX9_setFault_5 rfl (lv_at hl 0 rfl) ?_
  refine lv_iload_n hx hb dX9_setFault_6 rfl (lv_at hl 2 rfl) ?_
  refine p_Trial_45 X hH hS hk_r dX9_setFault_7 (fun H locs v2 ev2 hH hS => ?_)
  replace ev1 := Eq.symm ev1
  replace ev2 := Eq.symm ev2
  subst ev1 ev2
  exact E _ _ _ _ _ _ _ _ dX9_setFault_10 (Eq.symm rfl) hH hS (Nat.zero_le _) (Nat.zero_le _)
theorem k_X9_setFault {p : Program} {l : Launch} {e : Env} {R : Room} {s : State} {m : MethodId} {args : Array Value} {below : List Frame} {meth : Method} {c : Code} {H : Heap} {locs : List Loc} {cells slots : Nat} {Q : State → Prop} {cc : ByteArray} {pc nL : Nat} {ls : Array Slot} {rest : List Value} {G : gG} {own : String} {da : Nat → Nat} {v : vSt} {x : gX} (X : CX G p s m args c cc nL own) (hS : va_S (gA G) s.heap H locs) (hH : Hp G da v x H) {r : Nat} (hk_r : kd r = 9) {p1 : Int32} {p2 : Int32} {idx : Nat} (hml : Cond.methodLink own idx yX9_setFault ∈ TT) (hls : ls.size = nL) (hsum : (rest.map fun v => v.category).sum ≤ 8) (hR : rmX9_setFault.frames + 1 ≤ R.frames ∧ 8 + (3 + 11) + rmX9_setFault.locals ≤ R.locals) (hcs : cells ≤ R.cells ∧ slots ≤ R.slots) (hdg : decode cc pc = .ok (.invokevirtual idx, 3)) (kk : ∀ (d : Nat → Nat) (H1 : Heap) (locs1 : List Loc) (v1 : vSt), v1 = fX9_setFault r p1 p2 v → Hp G d v1 x H1 → va_S (gA G) s.heap H1 locs1 → W p l e R s m args below meth c H1 locs1 cells slots Q (F0 m (pc + 3) ls rest)) : W p l e R s m args below meth c H locs cells slots Q (F0 m pc ls (.int p2 :: .int p1 :: .ref (ga G r) :: rest)) := c_mv X.2.2.2.2.2.2 (runV (k := 2) X.1 X.2.1 X.2.2.1 X.2.2.2.1 X.2.2.2.2.1 (mX9_setFault l G da v x r hk_r p1 p2) pW_bl hml t_im_X9_setFault t_sel_X9_setFault t_ini_Trial t_code_X9_setFault ⟨rfl, by decide, by decide, by decide +kernel⟩ rfl rfl hR hcs (recvW X hH (by rw [hk_r]; decide) (by rw [hk_r]; decide) (ce_9 hk_r) rfl) (preW X hS hH) rfl hls rfl hsum hdg) hS kk
def lX9_run_31 (r : Nat) (o2 : Nat) (y1 : Int32) : Nat → Int32 → vSt → vSt
  | 0, i10, v11 => v11
  | n + 1, i10, v11 => if (60 : Int32) ≤ i10 then v11 else (if (y1 : Int32) ≤ (v11 r 3) then v11 else (if ((v11 r 4) : Int32) = 0 then (let v21 : vSt := fX3_readFrom 452 o2 y1 (v11 r 3) v11; let v22 : vSt := (if ((v21 452 4) : Int32) = (-1) then (if ((fX7_refusalOf (rN (v21 r 0)) 452 v21) : Int32) = 0 then (let v29 : vSt := fX7_perform (rN (v21 r 0)) 452 v21; let v30 : vSt := u2 v29 r 2 ((v29 r 2) + 1); let v31 : vSt := u2 v30 r 3 (v30 452 3); v31) else (let v32 : vSt := fX9_setFault r 2 (fX7_refusalOf (rN (v21 r 0)) 452 v21) v21; v32)) else (let v33 : vSt := fX9_setFault r 1 (v21 452 4) v21; v33) : vSt); lX9_run_31 r o2 y1 n (i10 + 1) v22) else v11))
def fX9_run (r : Nat) (o1 : Nat) (o2 : Nat) (p1 : Int32) (v : vSt) : vSt := let y1 : Int32 := (if 60 < p1 then 60 else p1 : Int32); let v5 : vSt := fX7_copyFrom (rN (v r 0)) o1 v; let v6 : vSt := u2 v5 r 2 0; let v7 : vSt := u2 v6 r 3 0; let v8 : vSt := u2 v7 r 4 0; let v9 : vSt := u2 v8 r 5 0; let v13 : vSt := (lX9_run_31 r o2 y1 (61) 0 v9); v13

def kkX9_run (r : Nat) (o1 : Nat) (o2 : Nat) (p1 : Int32) (v : vSt) : Nat := pot (fX9_run r o1 o2 p1 v) - pot v
def olX9_run_31 (v : vSt) (r : Nat) (o1 : Nat) (o2 : Nat) (p1 : Int32) (y1 : Int32) (v9 : vSt) : Nat → Int32 → vSt → Prop
  | 0, _, _ => False
  | n + 1, i10, v11 => (((60 : Int32) ≤ i10) → (((0 + kkX7_copyFrom (rN (v r 0)) o1 v) + (pot v11 - pot v9)) ≤ ((0 + kkX7_copyFrom (rN (v r 0)) o1 v) + (pot v11 - pot v9)))) ∧ (¬ ((60 : Int32) ≤ i10) → ((((y1 : Int32) ≤ (v11 r 3)) → (((0 + kkX7_copyFrom (rN (v r 0)) o1 v) + (pot v11 - pot v9)) ≤ ((0 + kkX7_copyFrom (rN (v r 0)) o1 v) + (pot v11 - pot v9)))) ∧ (¬ ((y1 : Int32) ≤ (v11 r 3)) → (((((v11 r 4) : Int32) = 0) → ((oX3_readFrom 452 o2 y1 (v11 r 3) v11) ∧ ((((0 + kkX7_copyFrom (rN (v r 0)) o1 v) + (pot v11 - pot v9)) ≤ kkX9_run r o1 o2 p1 v) ∧ (∀ v21 : vSt, v21 = (fX3_readFrom 452 o2 y1 (v11 r 3) v11) → ((((((v21 452 4) : Int32) = (-1)) → ((kd (rN (v21 r 0)) = 7) ∧ ((0 ≤ (v21 ((rN (v21 r 0)) + 1) 2).toInt ∧ (v21 ((rN (v21 r 0)) + 1) 2).toInt ≤ 6 ∧ 0 ≤ (v21 ((rN (v21 r 0)) + 1) 3).toInt ∧ (v21 ((rN (v21 r 0)) + 1) 3).toInt ≤ 10) ∧ (((((fX7_refusalOf (rN (v21 r 0)) 452 v21) : Int32) = 0) → ((oX7_perform (rN (v21 r 0)) 452 v21) ∧ ((((0 + kkX7_copyFrom (rN (v r 0)) o1 v) + (pot v11 - pot v9)) + kkX7_perform (rN (v21 r 0)) 452 v21 ≤ kkX9_run r o1 o2 p1 v) ∧ (∀ v29 : vSt, v29 = (fX7_perform (rN (v21 r 0)) 452 v21) → (∀ v30 : vSt, v30 = (u2 v29 r 2 ((v29 r 2) + 1)) → (∀ v31 : vSt, v31 = (u2 v30 r 3 (v30 452 3)) → ((((0 + kkX7_copyFrom (rN (v r 0)) o1 v) + (pot v11 - pot v9)) + kkX7_perform (rN (v21 r 0)) 452 v21) ≤ ((0 + kkX7_copyFrom (rN (v r 0)) o1 v) + (pot v31 - pot v9))))))))) ∧ (¬ (((fX7_refusalOf (rN (v21 r 0)) 452 v21) : Int32) = 0) → (∀ v33 : vSt, v33 = (fX9_setFault r 2 (fX7_refusalOf (rN (v21 r 0)) 452 v21) v21) → (((0 + kkX7_copyFrom (rN (v r 0)) o1 v) + (pot v11 - pot v9)) ≤ ((0 + kkX7_copyFrom (rN (v r 0)) o1 v) + (pot v33 - pot v9))))))))) ∧ (¬ (((v21 452 4) : Int32) = (-1)) → (∀ v35 : vSt, v35 = (fX9_setFault r 1 (v21 452 4) v21) → (((0 + kkX7_copyFrom (rN (v r 0)) o1 v) + (pot v11 - pot v9)) ≤ ((0 + kkX7_copyFrom (rN (v r 0)) o1 v) + (pot v35 - pot v9)))))) ∧ (∀ (v22 : vSt), v22 = ((if ((v21 452 4) : Int32) = (-1) then (if ((fX7_refusalOf (rN (v21 r 0)) 452 v21) : Int32) = 0 then (let v29 : vSt := fX7_perform (rN (v21 r 0)) 452 v21; let v30 : vSt := u2 v29 r 2 ((v29 r 2) + 1); let v31 : vSt := u2 v30 r 3 (v30 452 3); v31) else (let v32 : vSt := fX9_setFault r 2 (fX7_refusalOf (rN (v21 r 0)) 452 v21) v21; v32)) else (let v33 : vSt := fX9_setFault r 1 (v21 452 4) v21; v33) : vSt) : vSt) → ((((0 + kkX7_copyFrom (rN (v r 0)) o1 v) + (pot v22 - pot v9)) ≤ ((0 + kkX7_copyFrom (rN (v r 0)) o1 v) + (pot v22 - pot v9))) ∧ (olX9_run_31 v r o1 o2 p1 y1 v9 n (i10 + 1) v22)))))))) ∧ (¬ (((v11 r 4) : Int32) = 0) → (((0 + kkX7_copyFrom (rN (v r 0)) o1 v) + (pot v11 - pot v9)) ≤ ((0 + kkX7_copyFrom (rN (v r 0)) o1 v) + (pot v11 - pot v9))))))))
def oX9_run (r : Nat) (o1 : Nat) (o2 : Nat) (p1 : Int32) (v : vSt) : Prop := ∀ y1 : Int32, y1 = (if 60 < p1 then 60 else p1 : Int32) → ((kd (rN (v r 0)) = 7) ∧ ((oX7_copyFrom (rN (v r 0)) o1 v) ∧ ((0 + kkX7_copyFrom (rN (v r 0)) o1 v ≤ kkX9_run r o1 o2 p1 v) ∧ (∀ v5 : vSt, v5 = (fX7_copyFrom (rN (v r 0)) o1 v) → (∀ v6 : vSt, v6 = (u2 v5 r 2 0) → (∀ v7 : vSt, v7 = (u2 v6 r 3 0) → (∀ v8 : vSt, v8 = (u2 v7 r 4 0) → (∀ v9 : vSt, v9 = (u2 v8 r 5 0) → (((0 + kkX7_copyFrom (rN (v r 0)) o1 v) ≤ ((0 + kkX7_copyFrom (rN (v r 0)) o1 v) + (pot v9 - pot v9))) ∧ (olX9_run_31 v r o1 o2 p1 y1 v9 (61) 0 v9 ∧ (∀ (v13 : vSt), v13 = ((lX9_run_31 r o2 y1 (61) 0 v9) : vSt) → (((0 + kkX7_copyFrom (rN (v r 0)) o1 v) + (pot v13 - pot v9)) ≤ kkX9_run r o1 o2 p1 v))))))))))))
abbrev rmX9_run (r : Nat) (o1 : Nat) (o2 : Nat) (p1 : Int32) (v : vSt) : Room := { frames := 7, cells := kkX9_run r o1 o2 p1 v, slots := kkX9_run r o1 o2 p1 v, locals := 205 }
theorem dX9_run_0 : decode cX9_run 0 = .ok (.iload_n 3, 1) := by decide +kernel
theorem dX9_run_1 : decode cX9_run 1 = .ok (.aload_n 2, 1) := by decide +kernel
theorem dX9_run_2 : decode cX9_run 2 = .ok (.arraylength, 1) := by decide +kernel
theorem dX9_run_3 : decode cX9_run 3 = .ok (.invokestatic 25, 3) := by decide +kernel
theorem dX9_run_6 : decode cX9_run 6 = .ok (.istore 4, 2) := by decide +kernel
theorem dX9_run_8 : decode cX9_run 8 = .ok (.aload_n 0, 1) := by decide +kernel
theorem dX9_run_9 : decode cX9_run 9 = .ok (.getfield 12, 3) := by decide +kernel
theorem dX9_run_12 : decode cX9_run 12 = .ok (.aload_n 1, 1) := by decide +kernel
theorem dX9_run_13 : decode cX9_run 13 = .ok (.invokevirtual 31, 3) := by decide +kernel
theorem dX9_run_16 : decode cX9_run 16 = .ok (.aload_n 0, 1) := by decide +kernel
theorem dX9_run_17 : decode cX9_run 17 = .ok (.iconst 0, 1) := by decide +kernel
theorem dX9_run_18 : decode cX9_run 18 = .ok (.putfield 35, 3) := by decide +kernel
theorem dX9_run_21 : decode cX9_run 21 = .ok (.aload_n 0, 1) := by decide +kernel
theorem dX9_run_22 : decode cX9_run 22 = .ok (.iconst 0, 1) := by decide +kernel
theorem dX9_run_23 : decode cX9_run 23 = .ok (.putfield 39, 3) := by decide +kernel
theorem dX9_run_26 : decode cX9_run 26 = .ok (.aload_n 0, 1) := by decide +kernel
theorem dX9_run_27 : decode cX9_run 27 = .ok (.iconst 0, 1) := by decide +kernel
theorem dX9_run_28 : decode cX9_run 28 = .ok (.putfield 42, 3) := by decide +kernel
theorem dX9_run_31 : decode cX9_run 31 = .ok (.aload_n 0, 1) := by decide +kernel
theorem dX9_run_32 : decode cX9_run 32 = .ok (.iconst 0, 1) := by decide +kernel
theorem dX9_run_33 : decode cX9_run 33 = .ok (.putfield 45, 3) := by decide +kernel
theorem dX9_run_36 : decode cX9_run 36 = .ok (.iconst 0, 1) := by decide +kernel
theorem dX9_run_37 : decode cX9_run 37 = .ok (.istore 5, 2) := by decide +kernel
theorem dX9_run_39 : decode cX9_run 39 = .ok (.iload 5, 2) := by decide +kernel
theorem dX9_run_41 : decode cX9_run 41 = .ok (.bipush 60, 2) := by decide +kernel
theorem dX9_run_43 : decode cX9_run 43 = .ok (.if_icmp .ge 125, 3) := by decide +kernel
theorem dX9_run_46 : decode cX9_run 46 = .ok (.aload_n 0, 1) := by decide +kernel
theorem dX9_run_47 : decode cX9_run 47 = .ok (.getfield 39, 3) := by decide +kernel
theorem dX9_run_50 : decode cX9_run 50 = .ok (.iload 4, 2) := by decide +kernel
theorem dX9_run_52 : decode cX9_run 52 = .ok (.if_icmp .ge 116, 3) := by decide +kernel
theorem dX9_run_55 : decode cX9_run 55 = .ok (.aload_n 0, 1) := by decide +kernel
theorem dX9_run_56 : decode cX9_run 56 = .ok (.getfield 42, 3) := by decide +kernel
theorem dX9_run_59 : decode cX9_run 59 = .ok (.ifCond .ne 109, 3) := by decide +kernel
theorem dX9_run_62 : decode cX9_run 62 = .ok (.aload_n 0, 1) := by decide +kernel
theorem dX9_run_63 : decode cX9_run 63 = .ok (.getfield 21, 3) := by decide +kernel
theorem dX9_run_66 : decode cX9_run 66 = .ok (.aload_n 2, 1) := by decide +kernel
theorem dX9_run_67 : decode cX9_run 67 = .ok (.iload 4, 2) := by decide +kernel
theorem dX9_run_69 : decode cX9_run 69 = .ok (.aload_n 0, 1) := by decide +kernel
theorem dX9_run_70 : decode cX9_run 70 = .ok (.getfield 39, 3) := by decide +kernel
theorem dX9_run_73 : decode cX9_run 73 = .ok (.invokevirtual 48, 3) := by decide +kernel
theorem dX9_run_76 : decode cX9_run 76 = .ok (.aload_n 0, 1) := by decide +kernel
theorem dX9_run_77 : decode cX9_run 77 = .ok (.getfield 21, 3) := by decide +kernel
theorem dX9_run_80 : decode cX9_run 80 = .ok (.getfield 52, 3) := by decide +kernel
theorem dX9_run_83 : decode cX9_run 83 = .ok (.iconst (-1), 1) := by decide +kernel
theorem dX9_run_84 : decode cX9_run 84 = .ok (.if_icmp .eq 18, 3) := by decide +kernel
theorem dX9_run_87 : decode cX9_run 87 = .ok (.aload_n 0, 1) := by decide +kernel
theorem dX9_run_88 : decode cX9_run 88 = .ok (.iconst 1, 1) := by decide +kernel
theorem dX9_run_89 : decode cX9_run 89 = .ok (.aload_n 0, 1) := by decide +kernel
theorem dX9_run_90 : decode cX9_run 90 = .ok (.getfield 21, 3) := by decide +kernel
theorem dX9_run_93 : decode cX9_run 93 = .ok (.getfield 52, 3) := by decide +kernel
theorem dX9_run_96 : decode cX9_run 96 = .ok (.invokevirtual 55, 3) := by decide +kernel
theorem dX9_run_99 : decode cX9_run 99 = .ok (.goto 63, 3) := by decide +kernel
theorem dX9_run_102 : decode cX9_run 102 = .ok (.aload_n 0, 1) := by decide +kernel
theorem dX9_run_103 : decode cX9_run 103 = .ok (.getfield 12, 3) := by decide +kernel
theorem dX9_run_106 : decode cX9_run 106 = .ok (.aload_n 0, 1) := by decide +kernel
theorem dX9_run_107 : decode cX9_run 107 = .ok (.getfield 21, 3) := by decide +kernel
theorem dX9_run_110 : decode cX9_run 110 = .ok (.invokevirtual 59, 3) := by decide +kernel
theorem dX9_run_113 : decode cX9_run 113 = .ok (.istore 6, 2) := by decide +kernel
theorem dX9_run_115 : decode cX9_run 115 = .ok (.iload 6, 2) := by decide +kernel
theorem dX9_run_117 : decode cX9_run 117 = .ok (.ifCond .eq 13, 3) := by decide +kernel
theorem dX9_run_120 : decode cX9_run 120 = .ok (.aload_n 0, 1) := by decide +kernel
theorem dX9_run_121 : decode cX9_run 121 = .ok (.iconst 2, 1) := by decide +kernel
theorem dX9_run_122 : decode cX9_run 122 = .ok (.iload 6, 2) := by decide +kernel
theorem dX9_run_124 : decode cX9_run 124 = .ok (.invokevirtual 55, 3) := by decide +kernel
theorem dX9_run_127 : decode cX9_run 127 = .ok (.goto 35, 3) := by decide +kernel
theorem dX9_run_130 : decode cX9_run 130 = .ok (.aload_n 0, 1) := by decide +kernel
theorem dX9_run_131 : decode cX9_run 131 = .ok (.getfield 12, 3) := by decide +kernel
theorem dX9_run_134 : decode cX9_run 134 = .ok (.aload_n 0, 1) := by decide +kernel
theorem dX9_run_135 : decode cX9_run 135 = .ok (.getfield 21, 3) := by decide +kernel
theorem dX9_run_138 : decode cX9_run 138 = .ok (.invokevirtual 63, 3) := by decide +kernel
theorem dX9_run_141 : decode cX9_run 141 = .ok (.aload_n 0, 1) := by decide +kernel
theorem dX9_run_142 : decode cX9_run 142 = .ok (.dup, 1) := by decide +kernel
theorem dX9_run_143 : decode cX9_run 143 = .ok (.getfield 35, 3) := by decide +kernel
theorem dX9_run_146 : decode cX9_run 146 = .ok (.iconst 1, 1) := by decide +kernel
theorem dX9_run_147 : decode cX9_run 147 = .ok (.iadd, 1) := by decide +kernel
theorem dX9_run_148 : decode cX9_run 148 = .ok (.putfield 35, 3) := by decide +kernel
theorem dX9_run_151 : decode cX9_run 151 = .ok (.aload_n 0, 1) := by decide +kernel
theorem dX9_run_152 : decode cX9_run 152 = .ok (.aload_n 0, 1) := by decide +kernel
theorem dX9_run_153 : decode cX9_run 153 = .ok (.getfield 21, 3) := by decide +kernel
theorem dX9_run_156 : decode cX9_run 156 = .ok (.getfield 67, 3) := by decide +kernel
theorem dX9_run_159 : decode cX9_run 159 = .ok (.putfield 39, 3) := by decide +kernel
theorem dX9_run_162 : decode cX9_run 162 = .ok (.iinc 5 1, 3) := by decide +kernel
theorem dX9_run_165 : decode cX9_run 165 = .ok (.goto (-126), 3) := by decide +kernel
theorem dX9_run_168 : decode cX9_run 168 = .ok (.return_, 1) := by decide +kernel
set_option maxHeartbeats 8000000 in
set_option maxRecDepth 100000 in
theorem mX9_run (l : Launch) (G : gG) (da : Nat → Nat) (v : vSt) (x : gX) (r : Nat) (hk_r : kd r = 9) (o1 : Nat) (hk_o1 : kd o1 = 7) (o2 : Nat) (hk_o2 : kd o2 = 27) (p1 : Int32) (ho : oX9_run r o1 o2 p1 v) : MV l yX9_run cX9_run 7 none (rmX9_run r o1 o2 p1 v) [.ref (ga G r), .ref (ga G o1), .ref (ga G o2), .int p1] G da v x (kkX9_run r o1 o2 p1 v) (kkX9_run r o1 o2 p1 v) (fX9_run r o1 o2 p1 v) x := by
  refine gofMV (own := RX9) (by decide) rfl (Nat.le_of_ble_eq_true rfl) (fun p e s m args below meth c ls Q X hH hl E => ?_)
  have hx := X.1
  have hb := X.2.1
  have hown := X.2.2.2.1
  have hts := X.2.2.2.2.1
  have hS : va_S (gA G) s.heap s.heap [] := va_S.rf
  unfold oX9_run at ho
  have hl : lv_has ls 7 [(0, .ref (ga G r)), (1, .ref (ga G o1)), (2, .ref (ga G o2)), (3, .int p1)] := hl
  refine lv_iload_n hx hb dX9_run_0 rfl (lv_at hl 3 rfl) ?_
  refine lv_aload_n hx hb dX9_run_1 rfl (lv_at hl 2 rfl) ?_
  refine len_27 X hH hk_o2 dX9_run_2 ?_
  refine k_mmin X t_ml_Trial_25 hl.1 ⟨Nat.le_of_ble_eq_true rfl, Nat.le_of_ble_eq_true rfl⟩ ⟨Nat.zero_le _, Nat.zero_le _⟩ dX9_run_3 ?_
  obtain ⟨y1, ey1⟩ : ∃ z : Int32, z = (if 60 < p1 then 60 else p1 : Int32) := ⟨_, rfl⟩
  rw [← ey1]
  have ho := ho y1 ey1
  refine lv_istore (lv' := [(4, .int y1), (0, .ref (ga G r)), (1, .ref (ga G o1)), (2, .ref (ga G o2)), (3, .int p1)]) hx hb dX9_run_6 hl (by decide) rfl (fun ls hl => ?_)
  refine lv_aload_n hx hb dX9_run_8 rfl (lv_at hl 1 rfl) ?_
  refine g_Trial_12 X hH hk_r dX9_run_9 ?_
  have hq2 := ho.1
  have ho := ho.2
  refine lv_aload_n hx hb dX9_run_12 rfl (lv_at hl 2 rfl) ?_
  have hq3 := ho.1
  have ho := ho.2
  have hq4 := ho.1
  have ho := ho.2
  refine k_X7_copyFrom X hS hH hq2 hk_o1 hq3 t_ml_Trial_31 hl.1 (Nat.le_of_ble_eq_true rfl) ⟨Nat.le_of_ble_eq_true rfl, Nat.le_of_ble_eq_true rfl⟩ ⟨hq4, hq4⟩ dX9_run_13 (fun da H locs v5 ev5 hH hS => ?_)
  have ho := ho v5 ev5
  refine lv_aload_n hx hb dX9_run_16 rfl (lv_at hl 1 rfl) ?_
  refine lv_iconst (v := 0) hx hb dX9_run_17 (by decide) ?_
  refine p_Trial_35 X hH hS hk_r dX9_run_18 (fun H locs v6 ev6 hH hS => ?_)
  have ho := ho v6 ev6
  refine lv_aload_n hx hb dX9_run_21 rfl (lv_at hl 1 rfl) ?_
  refine lv_iconst (v := 0) hx hb dX9_run_22 (by decide) ?_
  refine p_Trial_39 X hH hS hk_r dX9_run_23 (fun H locs v7 ev7 hH hS => ?_)
  have ho := ho v7 ev7
  refine lv_aload_n hx hb dX9_run_26 rfl (lv_at hl 1 rfl) ?_
  refine lv_iconst (v := 0) hx hb dX9_run_27 (by decide) ?_
  refine p_Trial_42 X hH hS hk_r dX9_run_28 (fun H locs v8 ev8 hH hS => ?_)
  have ho := ho v8 ev8
  refine lv_aload_n hx hb dX9_run_31 rfl (lv_at hl 1 rfl) ?_
  refine lv_iconst (v := 0) hx hb dX9_run_32 (by decide) ?_
  refine p_Trial_45 X hH hS hk_r dX9_run_33 (fun H locs v9 ev9 hH hS => ?_)
  have ho := ho v9 ev9
  refine lv_iconst (v := 0) hx hb dX9_run_36 (by decide) ?_
  refine lv_istore (lv' := [(5, .int 0), (4, .int y1), (0, .ref (ga G r)), (1, .ref (ga G o1)), (2, .ref (ga G o2)), (3, .int p1)]) hx hb dX9_run_37 hl (by decide) rfl (fun ls hl => ?_)
  have hq12 := ho.1
  have ho := ho.2
  refine W.widen (k := ((0 + kkX7_copyFrom (rN (v r 0)) o1 v) + (pot v9 - pot v9))) (n := ((0 + kkX7_copyFrom (rN (v r 0)) o1 v) + (pot v9 - pot v9))) hq12 hq12 ?_
  have L14 : ∀ (n : Nat) (i10 : Int32) (v11 : vSt) (da : Nat → Nat) (H : Heap) (locs : List Loc) (ls : Array Slot), olX9_run_31 v r o1 o2 p1 y1 v9 n i10 v11 → Hp G da v11 x H → va_S (gA G) s.heap H locs → lv_has ls 7 [(5, .int i10), (4, .int y1), (0, .ref (ga G r)), (2, .ref (ga G o2))] → (∀ (v13 : vSt) (da : Nat → Nat) (H : Heap) (locs : List Loc) (ls : Array Slot), v13 = (lX9_run_31 r o2 y1 n i10 v11 : vSt) → Hp G da v13 x H → va_S (gA G) s.heap H locs → lv_has ls 7 [] → W p l e (rmX9_run r o1 o2 p1 v) s m args below meth c H locs ((0 + kkX7_copyFrom (rN (v r 0)) o1 v) + (pot v13 - pot v9)) ((0 + kkX7_copyFrom (rN (v r 0)) o1 v) + (pot v13 - pot v9)) Q (F0 m 168 ls [])) → W p l e (rmX9_run r o1 o2 p1 v) s m args below meth c H locs ((0 + kkX7_copyFrom (rN (v r 0)) o1 v) + (pot v11 - pot v9)) ((0 + kkX7_copyFrom (rN (v r 0)) o1 v) + (pot v11 - pot v9)) Q (F0 m 39 ls []) := by
    clear ho
    intro n
    induction n with
    | zero =>
      intro i10 v11 da H locs ls ho
      exact ho.elim
    | succ n ih =>
      intro i10 v11 da H locs ls ho hH hS hl K15
      refine lv_iload hx hb dX9_run_39 (lv_at hl 0 rfl) ?_
      refine lv_bipush (v := 60) hx hb dX9_run_41 (by decide) ?_
      refine lv_icmp_ge (tgt := 168) hx hb dX9_run_43 (by decide) (fun c13 => ?_) (fun c13 => ?_)
      · have ho := ho.1 c13
        have hq14 := ho
        refine W.widen (k := ((0 + kkX7_copyFrom (rN (v r 0)) o1 v) + (pot v11 - pot v9))) (n := ((0 + kkX7_copyFrom (rN (v r 0)) o1 v) + (pot v11 - pot v9))) hq14 hq14 ?_
        exact K15 _ _ _ _ _ (Eq.symm (((lX9_run_31.eq_2 _ _ _ _ _ _)).trans ((if_pos c13).trans rfl))) hH hS (lv_sub hl [] rfl)
      · have ho := ho.2 c13
        refine lv_aload_n hx hb dX9_run_46 rfl (lv_at hl 2 rfl) ?_
        refine g_Trial_39 X hH hk_r dX9_run_47 ?_
        refine lv_iload hx hb dX9_run_50 (lv_at hl 1 rfl) ?_
        refine lv_icmp_ge (tgt := 168) hx hb dX9_run_52 (by decide) (fun c15 => ?_) (fun c15 => ?_)
        · have ho := ho.1 c15
          have hq16 := ho
          refine W.widen (k := ((0 + kkX7_copyFrom (rN (v r 0)) o1 v) + (pot v11 - pot v9))) (n := ((0 + kkX7_copyFrom (rN (v r 0)) o1 v) + (pot v11 - pot v9))) hq16 hq16 ?_
          exact K15 _ _ _ _ _ (Eq.symm (((lX9_run_31.eq_2 _ _ _ _ _ _)).trans ((if_neg c13).trans ((if_pos c15).trans rfl)))) hH hS (lv_sub hl [] rfl)
        · have ho := ho.2 c15
          refine lv_aload_n hx hb dX9_run_55 rfl (lv_at hl 2 rfl) ?_
          refine g_Trial_42 X hH hk_r dX9_run_56 ?_
          refine lv_if_ne (tgt := 168) hx hb dX9_run_59 (by decide) (fun c17 => ?_) (fun c17 => ?_)
          · have ho := ho.2 c17
            have hq18 := ho
            refine W.widen (k := ((0 + kkX7_copyFrom (rN (v r 0)) o1 v) + (pot v11 - pot v9))) (n := ((0 + kkX7_copyFrom (rN (v r 0)) o1 v) + (pot v11 - pot v9))) hq18 hq18 ?_
            exact K15 _ _ _ _ _ (Eq.symm (((lX9_run_31.eq_2 _ _ _ _ _ _)).trans ((if_neg c13).trans ((if_neg c15).trans ((if_neg c17).trans rfl))))) hH hS (lv_sub hl [] rfl)
          · have ho := ho.1 c17
            refine lv_aload_n hx hb dX9_run_62 rfl (lv_at hl 2 rfl) ?_
            refine g_Trial_21 X hH hk_r dX9_run_63 ?_
            refine lv_aload_n hx hb dX9_run_66 rfl (lv_at hl 3 rfl) ?_
            refine lv_iload hx hb dX9_run_67 (lv_at hl 1 rfl) ?_
            refine lv_aload_n hx hb dX9_run_69 rfl (lv_at hl 2 rfl) ?_
            refine g_Trial_39 X hH hk_r dX9_run_70 ?_
            have hq19 := ho.1
            have ho := ho.2
            have hq20 := ho.1
            have ho := ho.2
            refine k_X3_readFrom X hS hH kd_452 hk_o2 hq19 t_ml_Trial_48 hl.1 (Nat.le_of_ble_eq_true rfl) ⟨Nat.le_of_ble_eq_true rfl, Nat.le_of_ble_eq_true rfl⟩ ⟨hq20, hq20⟩ dX9_run_73 (fun da H locs v21 ev21 hH hS => ?_)
            have ho := ho v21 ev21
            refine lv_aload_n hx hb dX9_run_76 rfl (lv_at hl 2 rfl) ?_
            refine g_Trial_21 X hH hk_r dX9_run_77 ?_
            refine g_Trial_52 X hH kd_452 dX9_run_80 ?_
            refine lv_iconst (v := (-1)) hx hb dX9_run_83 (by decide) ?_
            have K23 : ∀ (v22 : vSt) (da : Nat → Nat) (H : Heap) (locs : List Loc) (ls : Array Slot), v22 = (if ((v21 452 4) : Int32) = (-1) then (if ((fX7_refusalOf (rN (v21 r 0)) 452 v21) : Int32) = 0 then (let v29 : vSt := fX7_perform (rN (v21 r 0)) 452 v21; let v30 : vSt := u2 v29 r 2 ((v29 r 2) + 1); let v31 : vSt := u2 v30 r 3 (v30 452 3); v31) else (let v32 : vSt := fX9_setFault r 2 (fX7_refusalOf (rN (v21 r 0)) 452 v21) v21; v32)) else (let v33 : vSt := fX9_setFault r 1 (v21 452 4) v21; v33) : vSt) → Hp G da v22 x H → va_S (gA G) s.heap H locs → lv_has ls 7 [(5, .int i10), (4, .int y1), (0, .ref (ga G r)), (2, .ref (ga G o2))] → W p l e (rmX9_run r o1 o2 p1 v) s m args below meth c H locs ((0 + kkX7_copyFrom (rN (v r 0)) o1 v) + (pot v22 - pot v9)) ((0 + kkX7_copyFrom (rN (v r 0)) o1 v) + (pot v22 - pot v9)) Q (F0 m 162 ls []) := by
              intro v22 da H locs ls ev22 hH hS hl
              have ho := ho.2 v22 ev22
              refine lv_iinc (v := i10 + 1) (lv' := [(5, .int (i10 + 1)), (4, .int y1), (0, .ref (ga G r)), (2, .ref (ga G o2))]) hx hb dX9_run_162 hl (k := 0) rfl rfl (by decide) rfl (fun ls hl => ?_)
              refine lv_goto (tgt := 39) hx hb dX9_run_165 (by decide) ?_
              have hq24 := ho.1
              have ho := ho.2
              refine W.widen (k := ((0 + kkX7_copyFrom (rN (v r 0)) o1 v) + (pot v22 - pot v9))) (n := ((0 + kkX7_copyFrom (rN (v r 0)) o1 v) + (pot v22 - pot v9))) hq24 hq24 ?_
              replace ev21 := Eq.symm ev21
              replace ev22 := Eq.symm ev22
              subst ev21 ev22
              exact ih _ _ _ _ _ _ ho hH hS (lv_sub hl [0, 1, 2, 3] rfl) (fun v13 da H locs ls q0 hH hS hl => K15 v13 da H locs ls (q0.trans (congrArg (fun z : vSt => z) (Eq.symm (((lX9_run_31.eq_2 _ _ _ _ _ _)).trans ((if_neg c13).trans ((if_neg c15).trans ((if_pos c17).trans rfl))))))) hH hS hl)
            have ho := ho.1
            refine lv_icmp_eq (tgt := 102) hx hb dX9_run_84 (by decide) (fun c23 => ?_) (fun c23 => ?_)
            · have ho := ho.1 c23
              refine lv_aload_n hx hb dX9_run_102 rfl (lv_at hl 2 rfl) ?_
              refine g_Trial_12 X hH hk_r dX9_run_103 ?_
              have hq24 := ho.1
              have ho := ho.2
              refine lv_aload_n hx hb dX9_run_106 rfl (lv_at hl 2 rfl) ?_
              refine g_Trial_21 X hH hk_r dX9_run_107 ?_
              have hq25 := ho.1
              have ho := ho.2
              refine k_X7_refusalOf X hS hH hq24 kd_452 hq25 t_ml_Trial_59 hl.1 (Nat.le_of_ble_eq_true rfl) ⟨Nat.le_of_ble_eq_true rfl, Nat.le_of_ble_eq_true rfl⟩ ⟨hq20, hq20⟩ dX9_run_110 ?_
              refine lv_istore (lv' := [(6, .int (fX7_refusalOf (rN (v21 r 0)) 452 v21)), (5, .int i10), (4, .int y1), (0, .ref (ga G r)), (2, .ref (ga G o2))]) hx hb dX9_run_113 hl (by decide) rfl (fun ls hl => ?_)
              refine lv_iload hx hb dX9_run_115 (lv_at hl 0 rfl) ?_
              refine lv_if_eq (tgt := 130) hx hb dX9_run_117 (by decide) (fun c26 => ?_) (fun c26 => ?_)
              · have ho := ho.1 c26
                refine lv_aload_n hx hb dX9_run_130 rfl (lv_at hl 3 rfl) ?_
                refine g_Trial_12 X hH hk_r dX9_run_131 ?_
                refine lv_aload_n hx hb dX9_run_134 rfl (lv_at hl 3 rfl) ?_
                refine g_Trial_21 X hH hk_r dX9_run_135 ?_
                have hq27 := ho.1
                have ho := ho.2
                have hq28 := ho.1
                have ho := ho.2
                refine k_X7_perform X hS hH hq24 kd_452 hq27 t_ml_Trial_63 hl.1 (Nat.le_of_ble_eq_true rfl) ⟨Nat.le_of_ble_eq_true rfl, Nat.le_of_ble_eq_true rfl⟩ ⟨hq28, hq28⟩ dX9_run_138 (fun da H locs v29 ev29 hH hS => ?_)
                have ho := ho v29 ev29
                refine lv_aload_n hx hb dX9_run_141 rfl (lv_at hl 3 rfl) ?_
                refine lv_dup hx hb dX9_run_142 rfl ?_
                refine g_Trial_35 X hH hk_r dX9_run_143 ?_
                refine lv_iconst (v := 1) hx hb dX9_run_146 (by decide) ?_
                refine lv_iadd hx hb dX9_run_147 ?_
                refine p_Trial_35 X hH hS hk_r dX9_run_148 (fun H locs v30 ev30 hH hS => ?_)
                have ho := ho v30 ev30
                refine lv_aload_n hx hb dX9_run_151 rfl (lv_at hl 3 rfl) ?_
                refine lv_aload_n hx hb dX9_run_152 rfl (lv_at hl 3 rfl) ?_
                refine g_Trial_21 X hH hk_r dX9_run_153 ?_
                refine g_Trial_67 X hH kd_452 dX9_run_156 ?_
                refine p_Trial_39 X hH hS hk_r dX9_run_159 (fun H locs v31 ev31 hH hS => ?_)
                have ho := ho v31 ev31
                have hq32 := ho
                refine W.widen (k := ((0 + kkX7_copyFrom (rN (v r 0)) o1 v) + (pot v31 - pot v9))) (n := ((0 + kkX7_copyFrom (rN (v r 0)) o1 v) + (pot v31 - pot v9))) hq32 hq32 ?_
                replace ev29 := Eq.symm ev29
                replace ev30 := Eq.symm ev30
                replace ev31 := Eq.symm ev31
                subst ev29 ev30 ev31
                exact K23 _ _ _ _ _ (Eq.symm ((if_pos c23).trans ((if_pos c26).trans rfl))) hH hS (lv_sub hl [1, 2, 3, 4] rfl)
              · have ho := ho.2 c26
                refine lv_aload_n hx hb dX9_run_120 rfl (lv_at hl 3 rfl) ?_
                refine lv_iconst (v := 2) hx hb dX9_run_121 (by decide) ?_
                refine lv_iload hx hb dX9_run_122 (lv_at hl 0 rfl) ?_
                refine k_X9_setFault X hS hH hk_r t_ml_Trial_55 hl.1 (Nat.le_of_ble_eq_true rfl) ⟨Nat.le_of_ble_eq_true rfl, Nat.le_of_ble_eq_true rfl⟩ ⟨hq20, hq20⟩ dX9_run_124 (fun da H locs v33 ev33 hH hS => ?_)
                have ho := ho v33 ev33
                refine lv_goto (tgt := 162) hx hb dX9_run_127 (by decide) ?_
                have hq34 := ho
                refine W.widen (k := ((0 + kkX7_copyFrom (rN (v r 0)) o1 v) + (pot v33 - pot v9))) (n := ((0 + kkX7_copyFrom (rN (v r 0)) o1 v) + (pot v33 - pot v9))) hq34 hq34 ?_
                replace ev33 := Eq.symm ev33
                subst ev33
                exact K23 _ _ _ _ _ (Eq.symm ((if_pos c23).trans ((if_neg c26).trans rfl))) hH hS (lv_sub hl [1, 2, 3, 4] rfl)
            · have ho := ho.2 c23
              refine lv_aload_n hx hb dX9_run_87 rfl (lv_at hl 2 rfl) ?_
              refine lv_iconst (v := 1) hx hb dX9_run_88 (by decide) ?_
              refine lv_aload_n hx hb dX9_run_89 rfl (lv_at hl 2 rfl) ?_
              refine g_Trial_21 X hH hk_r dX9_run_90 ?_
              refine g_Trial_52 X hH kd_452 dX9_run_93 ?_
              refine k_X9_setFault X hS hH hk_r t_ml_Trial_55 hl.1 (Nat.le_of_ble_eq_true rfl) ⟨Nat.le_of_ble_eq_true rfl, Nat.le_of_ble_eq_true rfl⟩ ⟨hq20, hq20⟩ dX9_run_96 (fun da H locs v35 ev35 hH hS => ?_)
              have ho := ho v35 ev35
              refine lv_goto (tgt := 162) hx hb dX9_run_99 (by decide) ?_
              have hq36 := ho
              refine W.widen (k := ((0 + kkX7_copyFrom (rN (v r 0)) o1 v) + (pot v35 - pot v9))) (n := ((0 + kkX7_copyFrom (rN (v r 0)) o1 v) + (pot v35 - pot v9))) hq36 hq36 ?_
              replace ev35 := Eq.symm ev35
              subst ev35
              exact K23 _ _ _ _ _ (Eq.symm ((if_neg c23).trans rfl)) hH hS (lv_sub hl [0, 1, 2, 3] rfl)
  have hol := ho.1
  refine L14 (61) 0 v9 _ _ _ _ hol hH hS (lv_sub hl [0, 1, 2, 4] rfl) (fun v13 da H locs ls ev13 hH hS hl => ?_)
  have ho := ho.2 v13 ev13
  have hq37 := ho
  replace ey1 := Eq.symm ey1
  replace ev5 := Eq.symm ev5
  replace ev6 := Eq.symm ev6
  replace ev7 := Eq.symm ev7
  replace ev8 := Eq.symm ev8
  replace ev9 := Eq.symm ev9
  replace ev13 := Eq.symm ev13
  subst ey1 ev5 ev6 ev7 ev8 ev9 ev13
  exact E _ _ _ _ _ _ _ _ dX9_run_168 (Eq.symm rfl) hH hS hq37 hq37
theorem k_X9_run {p : Program} {l : Launch} {e : Env} {R : Room} {s : State} {m : MethodId} {args : Array Value} {below : List Frame} {meth : Method} {c : Code} {H : Heap} {locs : List Loc} {cells slots : Nat} {Q : State → Prop} {cc : ByteArray} {pc nL : Nat} {ls : Array Slot} {rest : List Value} {G : gG} {own : String} {da : Nat → Nat} {v : vSt} {x : gX} (X : CX G p s m args c cc nL own) (hS : va_S (gA G) s.heap H locs) (hH : Hp G da v x H) {r : Nat} (hk_r : kd r = 9) {o1 : Nat} (hk_o1 : kd o1 = 7) {o2 : Nat} (hk_o2 : kd o2 = 27) {p1 : Int32} (ho : oX9_run r o1 o2 p1 v) {idx : Nat} (hml : Cond.methodLink own idx yX9_run ∈ TT) (hls : ls.size = nL) (hsum : (rest.map fun v => v.category).sum ≤ 8) (hR : (rmX9_run r o1 o2 p1 v).frames + 1 ≤ R.frames ∧ 8 + (7 + 11) + (rmX9_run r o1 o2 p1 v).locals ≤ R.locals) (hcs : cells + (kkX9_run r o1 o2 p1 v) ≤ R.cells ∧ slots + (kkX9_run r o1 o2 p1 v) ≤ R.slots) (hdg : decode cc pc = .ok (.invokevirtual idx, 3)) (kk : ∀ (d : Nat → Nat) (H1 : Heap) (locs1 : List Loc) (v1 : vSt), v1 = fX9_run r o1 o2 p1 v → Hp G d v1 x H1 → va_S (gA G) s.heap H1 locs1 → W p l e R s m args below meth c H1 locs1 (cells + (kkX9_run r o1 o2 p1 v)) (slots + (kkX9_run r o1 o2 p1 v)) Q (F0 m (pc + 3) ls rest)) : W p l e R s m args below meth c H locs cells slots Q (F0 m pc ls (.int p1 :: .ref (ga G o2) :: .ref (ga G o1) :: .ref (ga G r) :: rest)) := c_mv X.2.2.2.2.2.2 (runV (k := 3) X.1 X.2.1 X.2.2.1 X.2.2.2.1 X.2.2.2.2.1 (mX9_run l G da v x r hk_r o1 hk_o1 o2 hk_o2 p1 ho) pW_bl hml t_im_X9_run t_sel_X9_run t_ini_Trial t_code_X9_run ⟨rfl, by decide, by decide, by decide +kernel⟩ rfl rfl hR hcs (recvW X hH (by rw [hk_r]; decide) (by rw [hk_r]; decide) (ce_9 hk_r) rfl) (preW X hS hH) rfl hls rfl hsum hdg) hS kk
