/-! 17.model -/
def lX11_inOrder_26 (v : vSt) (r : Nat) (p1 : Int32) (i1 : Int32) : Nat → Int32 → Int32 → Int32 → Int32 × Int32
  | 0, i5, i6, i7 => (i6, i7)
  | n + 1, i5, i6, i7 => if ((fX11_of r p1 8 v) : Int32) ≤ i5 then ((i6, i7)) else (let y11 : Int32 := (if ((fX11_onChart r p1 i1 v) : Int32) ≤ (fX11_onChart r p1 i5 v) then 0 else 1 : Int32); let y13 : Int32 := (if ((fX11_onChart r p1 i1 v) : Int32) < (fX11_onChart r p1 i5 v) then 0 else 1 : Int32); lX11_inOrder_26 v r p1 i1 n (i5 + 1) (i6 + y13) (i7 + y11))
def olX11_inOrder_26 (v : vSt) (r : Nat) (p1 : Int32) (i1 : Int32) : Nat → Int32 → Int32 → Int32 → Prop
  | 0, _, _, _ => False
  | n + 1, i5, i6, i7 => ¬ (((fX11_of r p1 8 v) : Int32) ≤ i5) → ((oX11_onChart r p1 i5 v) ∧ ((oX11_onChart r p1 i1 v) ∧ ((∀ (y11 : Int32), y11 = ((if ((fX11_onChart r p1 i1 v) : Int32) ≤ (fX11_onChart r p1 i5 v) then 0 else 1 : Int32) : Int32) → ((∀ (y13 : Int32), y13 = ((if ((fX11_onChart r p1 i1 v) : Int32) < (fX11_onChart r p1 i5 v) then 0 else 1 : Int32) : Int32) → (olX11_inOrder_26 v r p1 i1 n (i5 + 1) (i6 + y13) (i7 + y11))))))))
def lX11_inOrder_5 (v : vSt) (r : Nat) (p1 : Int32) (p2 : Int32) : Nat → Int32 → Int32 → Int32
  | 0, i1, i2 => i2
  | n + 1, i1, i2 => if ((fX11_of r p1 8 v) : Int32) ≤ i1 then i2 else (let qy8 : Int32 × Int32 := (lX11_inOrder_26 v r p1 i1 ((Int32.toInt ((fX11_of r p1 8 v)) - Int32.toInt 0).toNat + 1) 0 0 0); let y8 := qy8.1; let y9 := qy8.2; let y15 : Int32 := (if (p2 : Int32) < y9 then i2 else (if (y8 : Int32) ≤ p2 then i2 else (fX11_onChart r p1 i1 v)) : Int32); lX11_inOrder_5 v r p1 p2 n (i1 + 1) y15)
def olX11_inOrder_5 (v : vSt) (r : Nat) (p1 : Int32) (p2 : Int32) : Nat → Int32 → Int32 → Prop
  | 0, _, _ => False
  | n + 1, i1, i2 => (oX11_of r p1 8 v) ∧ (¬ (((fX11_of r p1 8 v) : Int32) ≤ i1) → (olX11_inOrder_26 v r p1 i1 ((Int32.toInt ((fX11_of r p1 8 v)) - Int32.toInt 0).toNat + 1) 0 0 0 ∧ (∀ (y8 : Int32) (y9 : Int32), y8 = ((lX11_inOrder_26 v r p1 i1 ((Int32.toInt ((fX11_of r p1 8 v)) - Int32.toInt 0).toNat + 1) 0 0 0) : Int32 × Int32).1 → y9 = ((lX11_inOrder_26 v r p1 i1 ((Int32.toInt ((fX11_of r p1 8 v)) - Int32.toInt 0).toNat + 1) 0 0 0) : Int32 × Int32).2 → ((¬ ((p2 : Int32) < y9) → (¬ ((y8 : Int32) ≤ p2) → (oX11_onChart r p1 i1 v))) ∧ (∀ (y15 : Int32), y15 = ((if (p2 : Int32) < y9 then i2 else (if (y8 : Int32) ≤ p2 then i2 else (fX11_onChart r p1 i1 v)) : Int32) : Int32) → (olX11_inOrder_5 v r p1 p2 n (i1 + 1) y15))))))
def fX11_inOrder (r : Nat) (p1 : Int32) (p2 : Int32) (v : vSt) : Int32 := let y3 : Int32 := (lX11_inOrder_5 v r p1 p2 ((Int32.toInt ((fX11_of r p1 8 v)) - Int32.toInt 0).toNat + 1) 0 0); y3
def oX11_inOrder (r : Nat) (p1 : Int32) (p2 : Int32) (v : vSt) : Prop := olX11_inOrder_5 v r p1 p2 ((Int32.toInt ((fX11_of r p1 8 v)) - Int32.toInt 0).toNat + 1) 0 0
abbrev rmX11_inOrder : Room := { frames := 2, cells := 0, slots := 0, locals := 44 }
theorem dX11_inOrder_0 : decode cX11_inOrder 0 = .ok (.iconst 0, 1) := by decide +kernel
theorem dX11_inOrder_1 : decode cX11_inOrder 1 = .ok (.istore_n 3, 1) := by decide +kernel
theorem dX11_inOrder_2 : decode cX11_inOrder 2 = .ok (.iconst 0, 1) := by decide +kernel
theorem dX11_inOrder_3 : decode cX11_inOrder 3 = .ok (.istore 4, 2) := by decide +kernel
theorem dX11_inOrder_5 : decode cX11_inOrder 5 = .ok (.iload 4, 2) := by decide +kernel
theorem dX11_inOrder_7 : decode cX11_inOrder 7 = .ok (.aload_n 0, 1) := by decide +kernel
theorem dX11_inOrder_8 : decode cX11_inOrder 8 = .ok (.iload_n 1, 1) := by decide +kernel
theorem dX11_inOrder_9 : decode cX11_inOrder 9 = .ok (.bipush 8, 2) := by decide +kernel
theorem dX11_inOrder_11 : decode cX11_inOrder 11 = .ok (.invokevirtual 90, 3) := by decide +kernel
theorem dX11_inOrder_14 : decode cX11_inOrder 14 = .ok (.if_icmp .ge 114, 3) := by decide +kernel
theorem dX11_inOrder_17 : decode cX11_inOrder 17 = .ok (.iconst 0, 1) := by decide +kernel
theorem dX11_inOrder_18 : decode cX11_inOrder 18 = .ok (.istore 5, 2) := by decide +kernel
theorem dX11_inOrder_20 : decode cX11_inOrder 20 = .ok (.iconst 0, 1) := by decide +kernel
theorem dX11_inOrder_21 : decode cX11_inOrder 21 = .ok (.istore 6, 2) := by decide +kernel
theorem dX11_inOrder_23 : decode cX11_inOrder 23 = .ok (.iconst 0, 1) := by decide +kernel
theorem dX11_inOrder_24 : decode cX11_inOrder 24 = .ok (.istore 7, 2) := by decide +kernel
theorem dX11_inOrder_26 : decode cX11_inOrder 26 = .ok (.iload 7, 2) := by decide +kernel
theorem dX11_inOrder_28 : decode cX11_inOrder 28 = .ok (.aload_n 0, 1) := by decide +kernel
theorem dX11_inOrder_29 : decode cX11_inOrder 29 = .ok (.iload_n 1, 1) := by decide +kernel
theorem dX11_inOrder_30 : decode cX11_inOrder 30 = .ok (.bipush 8, 2) := by decide +kernel
theorem dX11_inOrder_32 : decode cX11_inOrder 32 = .ok (.invokevirtual 90, 3) := by decide +kernel
theorem dX11_inOrder_35 : decode cX11_inOrder 35 = .ok (.if_icmp .ge 63, 3) := by decide +kernel
theorem dX11_inOrder_38 : decode cX11_inOrder 38 = .ok (.iload 5, 2) := by decide +kernel
theorem dX11_inOrder_40 : decode cX11_inOrder 40 = .ok (.aload_n 0, 1) := by decide +kernel
theorem dX11_inOrder_41 : decode cX11_inOrder 41 = .ok (.iload_n 1, 1) := by decide +kernel
theorem dX11_inOrder_42 : decode cX11_inOrder 42 = .ok (.iload 7, 2) := by decide +kernel
theorem dX11_inOrder_44 : decode cX11_inOrder 44 = .ok (.invokevirtual 123, 3) := by decide +kernel
theorem dX11_inOrder_47 : decode cX11_inOrder 47 = .ok (.aload_n 0, 1) := by decide +kernel
theorem dX11_inOrder_48 : decode cX11_inOrder 48 = .ok (.iload_n 1, 1) := by decide +kernel
theorem dX11_inOrder_49 : decode cX11_inOrder 49 = .ok (.iload 4, 2) := by decide +kernel
theorem dX11_inOrder_51 : decode cX11_inOrder 51 = .ok (.invokevirtual 123, 3) := by decide +kernel
theorem dX11_inOrder_54 : decode cX11_inOrder 54 = .ok (.if_icmp .ge 7, 3) := by decide +kernel
theorem dX11_inOrder_57 : decode cX11_inOrder 57 = .ok (.iconst 1, 1) := by decide +kernel
theorem dX11_inOrder_58 : decode cX11_inOrder 58 = .ok (.goto 4, 3) := by decide +kernel
theorem dX11_inOrder_61 : decode cX11_inOrder 61 = .ok (.iconst 0, 1) := by decide +kernel
theorem dX11_inOrder_62 : decode cX11_inOrder 62 = .ok (.iadd, 1) := by decide +kernel
theorem dX11_inOrder_63 : decode cX11_inOrder 63 = .ok (.istore 5, 2) := by decide +kernel
theorem dX11_inOrder_65 : decode cX11_inOrder 65 = .ok (.iload 6, 2) := by decide +kernel
theorem dX11_inOrder_67 : decode cX11_inOrder 67 = .ok (.aload_n 0, 1) := by decide +kernel
theorem dX11_inOrder_68 : decode cX11_inOrder 68 = .ok (.iload_n 1, 1) := by decide +kernel
theorem dX11_inOrder_69 : decode cX11_inOrder 69 = .ok (.iload 7, 2) := by decide +kernel
theorem dX11_inOrder_71 : decode cX11_inOrder 71 = .ok (.invokevirtual 123, 3) := by decide +kernel
theorem dX11_inOrder_74 : decode cX11_inOrder 74 = .ok (.aload_n 0, 1) := by decide +kernel
theorem dX11_inOrder_75 : decode cX11_inOrder 75 = .ok (.iload_n 1, 1) := by decide +kernel
theorem dX11_inOrder_76 : decode cX11_inOrder 76 = .ok (.iload 4, 2) := by decide +kernel
theorem dX11_inOrder_78 : decode cX11_inOrder 78 = .ok (.invokevirtual 123, 3) := by decide +kernel
theorem dX11_inOrder_81 : decode cX11_inOrder 81 = .ok (.if_icmp .gt 7, 3) := by decide +kernel
theorem dX11_inOrder_84 : decode cX11_inOrder 84 = .ok (.iconst 1, 1) := by decide +kernel
theorem dX11_inOrder_85 : decode cX11_inOrder 85 = .ok (.goto 4, 3) := by decide +kernel
theorem dX11_inOrder_88 : decode cX11_inOrder 88 = .ok (.iconst 0, 1) := by decide +kernel
theorem dX11_inOrder_89 : decode cX11_inOrder 89 = .ok (.iadd, 1) := by decide +kernel
theorem dX11_inOrder_90 : decode cX11_inOrder 90 = .ok (.istore 6, 2) := by decide +kernel
theorem dX11_inOrder_92 : decode cX11_inOrder 92 = .ok (.iinc 7 1, 3) := by decide +kernel
theorem dX11_inOrder_95 : decode cX11_inOrder 95 = .ok (.goto (-69), 3) := by decide +kernel
theorem dX11_inOrder_98 : decode cX11_inOrder 98 = .ok (.iload 5, 2) := by decide +kernel
theorem dX11_inOrder_100 : decode cX11_inOrder 100 = .ok (.iload_n 2, 1) := by decide +kernel
theorem dX11_inOrder_101 : decode cX11_inOrder 101 = .ok (.if_icmp .gt 19, 3) := by decide +kernel
theorem dX11_inOrder_104 : decode cX11_inOrder 104 = .ok (.iload_n 2, 1) := by decide +kernel
theorem dX11_inOrder_105 : decode cX11_inOrder 105 = .ok (.iload 6, 2) := by decide +kernel
theorem dX11_inOrder_107 : decode cX11_inOrder 107 = .ok (.if_icmp .ge 13, 3) := by decide +kernel
theorem dX11_inOrder_110 : decode cX11_inOrder 110 = .ok (.aload_n 0, 1) := by decide +kernel
theorem dX11_inOrder_111 : decode cX11_inOrder 111 = .ok (.iload_n 1, 1) := by decide +kernel
theorem dX11_inOrder_112 : decode cX11_inOrder 112 = .ok (.iload 4, 2) := by decide +kernel
theorem dX11_inOrder_114 : decode cX11_inOrder 114 = .ok (.invokevirtual 123, 3) := by decide +kernel
theorem dX11_inOrder_117 : decode cX11_inOrder 117 = .ok (.goto 4, 3) := by decide +kernel
theorem dX11_inOrder_120 : decode cX11_inOrder 120 = .ok (.iload_n 3, 1) := by decide +kernel
theorem dX11_inOrder_121 : decode cX11_inOrder 121 = .ok (.istore_n 3, 1) := by decide +kernel
theorem dX11_inOrder_122 : decode cX11_inOrder 122 = .ok (.iinc 4 1, 3) := by decide +kernel
theorem dX11_inOrder_125 : decode cX11_inOrder 125 = .ok (.goto (-120), 3) := by decide +kernel
theorem dX11_inOrder_128 : decode cX11_inOrder 128 = .ok (.iload_n 3, 1) := by decide +kernel
theorem dX11_inOrder_129 : decode cX11_inOrder 129 = .ok (.ireturn, 1) := by decide +kernel
set_option maxHeartbeats 8000000 in
set_option maxRecDepth 100000 in
theorem mX11_inOrder (l : Launch) (G : gG) (da : Nat → Nat) (v : vSt) (x : gX) (r : Nat) (hk_r : kd r = 11) (p1 : Int32) (p2 : Int32) (ho : oX11_inOrder r p1 p2 v) : QI l yX11_inOrder cX11_inOrder 8 (some .int) rmX11_inOrder [.ref (ga G r), .int p1, .int p2] (pW G da v x) (fX11_inOrder r p1 p2 v) := by
  refine gofQ (own := RX11) (by decide) rfl (Nat.le_of_ble_eq_true rfl) (fun p e s m args below meth c ls Q X hH hl E => ?_)
  have hx := X.1
  have hb := X.2.1
  have hown := X.2.2.2.1
  have hts := X.2.2.2.2.1
  have hS : va_S (gA G) s.heap s.heap [] := va_S.rf
  unfold oX11_inOrder at ho
  have hl : lv_has ls 8 [(0, .ref (ga G r)), (1, .int p1), (2, .int p2)] := hl
  refine lv_iconst (v := 0) hx hb dX11_inOrder_0 (by decide) ?_
  refine lv_istore_n (lv' := [(3, .int 0), (0, .ref (ga G r)), (1, .int p1), (2, .int p2)]) hx hb dX11_inOrder_1 rfl hl (by decide) rfl (fun ls hl => ?_)
  refine lv_iconst (v := 0) hx hb dX11_inOrder_2 (by decide) ?_
  refine lv_istore (lv' := [(4, .int 0), (3, .int 0), (0, .ref (ga G r)), (1, .int p1), (2, .int p2)]) hx hb dX11_inOrder_3 hl (by decide) rfl (fun ls hl => ?_)
  have L4 : ∀ (n : Nat) (i1 : Int32) (i2 : Int32) (ls : Array Slot), olX11_inOrder_5 v r p1 p2 n i1 i2 → lv_has ls 8 [(4, .int i1), (3, .int i2), (0, .ref (ga G r)), (1, .int p1), (2, .int p2)] → (∀ (y3 : Int32) (ls : Array Slot), y3 = (lX11_inOrder_5 v r p1 p2 n i1 i2 : Int32) → lv_has ls 8 [(3, .int y3)] → W p l e rmX11_inOrder s m args below meth c s.heap [] 0 0 Q (F0 m 128 ls [])) → W p l e rmX11_inOrder s m args below meth c s.heap [] 0 0 Q (F0 m 5 ls []) := by
    clear ho
    intro n
    induction n with
    | zero =>
      intro i1 i2 ls ho
      exact ho.elim
    | succ n ih =>
      intro i1 i2 ls ho hl K5
      refine lv_iload hx hb dX11_inOrder_5 (lv_at hl 0 rfl) ?_
      refine lv_aload_n hx hb dX11_inOrder_7 rfl (lv_at hl 2 rfl) ?_
      refine lv_iload_n hx hb dX11_inOrder_8 rfl (lv_at hl 3 rfl) ?_
      refine lv_bipush (v := 8) hx hb dX11_inOrder_9 (by decide) ?_
      have hq3 := ho.1
      have ho := ho.2
      refine k_X11_of X hS hH hk_r hq3 t_ml_VernierDrawersModel_90 hl.1 (Nat.le_of_ble_eq_true rfl) ⟨Nat.le_of_ble_eq_true rfl, Nat.le_of_ble_eq_true rfl⟩ ⟨Nat.zero_le _, Nat.zero_le _⟩ dX11_inOrder_11 ?_
      refine lv_icmp_ge (tgt := 128) hx hb dX11_inOrder_14 (by decide) (fun c4 => ?_) (fun c4 => ?_)
      · skip
        exact K5 _ _ (Eq.symm (((lX11_inOrder_5.eq_2 _ _ _ _ _ _ _)).trans ((if_pos c4).trans rfl))) (lv_sub hl [1] rfl)
      · have ho := ho c4
        refine lv_iconst (v := 0) hx hb dX11_inOrder_17 (by decide) ?_
        refine lv_istore (lv' := [(5, .int 0), (4, .int i1), (3, .int i2), (0, .ref (ga G r)), (1, .int p1), (2, .int p2)]) hx hb dX11_inOrder_18 hl (by decide) rfl (fun ls hl => ?_)
        refine lv_iconst (v := 0) hx hb dX11_inOrder_20 (by decide) ?_
        refine lv_istore (lv' := [(6, .int 0), (5, .int 0), (4, .int i1), (3, .int i2), (0, .ref (ga G r)), (1, .int p1), (2, .int p2)]) hx hb dX11_inOrder_21 hl (by decide) rfl (fun ls hl => ?_)
        refine lv_iconst (v := 0) hx hb dX11_inOrder_23 (by decide) ?_
        refine lv_istore (lv' := [(7, .int 0), (6, .int 0), (5, .int 0), (4, .int i1), (3, .int i2), (0, .ref (ga G r)), (1, .int p1), (2, .int p2)]) hx hb dX11_inOrder_24 hl (by decide) rfl (fun ls hl => ?_)
        have L10 : ∀ (n : Nat) (i5 : Int32) (i6 : Int32) (i7 : Int32) (ls : Array Slot), olX11_inOrder_26 v r p1 i1 n i5 i6 i7 → lv_has ls 8 [(7, .int i5), (6, .int i6), (5, .int i7), (4, .int i1), (3, .int i2), (0, .ref (ga G r)), (1, .int p1), (2, .int p2)] → (∀ (y8 : Int32) (y9 : Int32) (ls : Array Slot), y8 = (lX11_inOrder_26 v r p1 i1 n i5 i6 i7 : Int32 × Int32).1 → y9 = (lX11_inOrder_26 v r p1 i1 n i5 i6 i7 : Int32 × Int32).2 → lv_has ls 8 [(6, .int y8), (5, .int y9), (4, .int i1), (3, .int i2), (0, .ref (ga G r)), (1, .int p1), (2, .int p2)] → W p l e rmX11_inOrder s m args below meth c s.heap [] 0 0 Q (F0 m 98 ls [])) → W p l e rmX11_inOrder s m args below meth c s.heap [] 0 0 Q (F0 m 26 ls []) := by
          clear ho
          intro n
          induction n with
          | zero =>
            intro i5 i6 i7 ls ho
            exact ho.elim
          | succ n ih =>
            intro i5 i6 i7 ls ho hl K11
            refine lv_iload hx hb dX11_inOrder_26 (lv_at hl 0 rfl) ?_
            refine lv_aload_n hx hb dX11_inOrder_28 rfl (lv_at hl 5 rfl) ?_
            refine lv_iload_n hx hb dX11_inOrder_29 rfl (lv_at hl 6 rfl) ?_
            refine lv_bipush (v := 8) hx hb dX11_inOrder_30 (by decide) ?_
            refine k_X11_of X hS hH hk_r hq3 t_ml_VernierDrawersModel_90 hl.1 (Nat.le_of_ble_eq_true rfl) ⟨Nat.le_of_ble_eq_true rfl, Nat.le_of_ble_eq_true rfl⟩ ⟨Nat.zero_le _, Nat.zero_le _⟩ dX11_inOrder_32 ?_
            refine lv_icmp_ge (tgt := 98) hx hb dX11_inOrder_35 (by decide) (fun c8 => ?_) (fun c8 => ?_)
            · skip
              exact K11 _ _ _ (pr1 (((lX11_inOrder_26.eq_2 _ _ _ _ _ _ _ _)).trans ((if_pos c8).trans rfl))) (pr2 (((lX11_inOrder_26.eq_2 _ _ _ _ _ _ _ _)).trans ((if_pos c8).trans rfl))) (lv_sub hl [1, 2, 3, 4, 5, 6, 7] rfl)
            · have ho := ho c8
              refine lv_iload hx hb dX11_inOrder_38 (lv_at hl 2 rfl) ?_
              refine lv_aload_n hx hb dX11_inOrder_40 rfl (lv_at hl 5 rfl) ?_
              refine lv_iload_n hx hb dX11_inOrder_41 rfl (lv_at hl 6 rfl) ?_
              refine lv_iload hx hb dX11_inOrder_42 (lv_at hl 0 rfl) ?_
              have hq9 := ho.1
              have ho := ho.2
              refine k_X11_onChart X hS hH hk_r hq9 t_ml_VernierDrawersModel_123 hl.1 (Nat.le_of_ble_eq_true rfl) ⟨Nat.le_of_ble_eq_true rfl, Nat.le_of_ble_eq_true rfl⟩ ⟨Nat.zero_le _, Nat.zero_le _⟩ dX11_inOrder_44 ?_
              refine lv_aload_n hx hb dX11_inOrder_47 rfl (lv_at hl 5 rfl) ?_
              refine lv_iload_n hx hb dX11_inOrder_48 rfl (lv_at hl 6 rfl) ?_
              refine lv_iload hx hb dX11_inOrder_49 (lv_at hl 3 rfl) ?_
              have hq10 := ho.1
              have ho := ho.2
              refine k_X11_onChart X hS hH hk_r hq10 t_ml_VernierDrawersModel_123 hl.1 (Nat.le_of_ble_eq_true rfl) ⟨Nat.le_of_ble_eq_true rfl, Nat.le_of_ble_eq_true rfl⟩ ⟨Nat.zero_le _, Nat.zero_le _⟩ dX11_inOrder_51 ?_
              have K12 : ∀ (y11 : Int32) (ls : Array Slot), y11 = (if ((fX11_onChart r p1 i1 v) : Int32) ≤ (fX11_onChart r p1 i5 v) then 0 else 1 : Int32) → lv_has ls 8 [(7, .int i5), (6, .int i6), (4, .int i1), (3, .int i2), (0, .ref (ga G r)), (1, .int p1), (2, .int p2)] → W p l e rmX11_inOrder s m args below meth c s.heap [] 0 0 Q (F0 m 62 ls [.int y11, .int i7]) := by
                intro y11 ls ey11 hl
                have ho := ho y11 ey11
                refine lv_iadd hx hb dX11_inOrder_62 ?_
                refine lv_istore (lv' := [(5, .int (i7 + y11)), (7, .int i5), (6, .int i6), (4, .int i1), (3, .int i2), (0, .ref (ga G r)), (1, .int p1), (2, .int p2)]) hx hb dX11_inOrder_63 hl (by decide) rfl (fun ls hl => ?_)
                refine lv_iload hx hb dX11_inOrder_65 (lv_at hl 2 rfl) ?_
                refine lv_aload_n hx hb dX11_inOrder_67 rfl (lv_at hl 5 rfl) ?_
                refine lv_iload_n hx hb dX11_inOrder_68 rfl (lv_at hl 6 rfl) ?_
                refine lv_iload hx hb dX11_inOrder_69 (lv_at hl 1 rfl) ?_
                refine k_X11_onChart X hS hH hk_r hq9 t_ml_VernierDrawersModel_123 hl.1 (Nat.le_of_ble_eq_true rfl) ⟨Nat.le_of_ble_eq_true rfl, Nat.le_of_ble_eq_true rfl⟩ ⟨Nat.zero_le _, Nat.zero_le _⟩ dX11_inOrder_71 ?_
                refine lv_aload_n hx hb dX11_inOrder_74 rfl (lv_at hl 5 rfl) ?_
                refine lv_iload_n hx hb dX11_inOrder_75 rfl (lv_at hl 6 rfl) ?_
                refine lv_iload hx hb dX11_inOrder_76 (lv_at hl 3 rfl) ?_
                refine k_X11_onChart X hS hH hk_r hq10 t_ml_VernierDrawersModel_123 hl.1 (Nat.le_of_ble_eq_true rfl) ⟨Nat.le_of_ble_eq_true rfl, Nat.le_of_ble_eq_true rfl⟩ ⟨Nat.zero_le _, Nat.zero_le _⟩ dX11_inOrder_78 ?_
                have K14 : ∀ (y13 : Int32) (ls : Array Slot), y13 = (if ((fX11_onChart r p1 i1 v) : Int32) < (fX11_onChart r p1 i5 v) then 0 else 1 : Int32) → lv_has ls 8 [(5, .int (i7 + y11)), (7, .int i5), (4, .int i1), (3, .int i2), (0, .ref (ga G r)), (1, .int p1), (2, .int p2)] → W p l e rmX11_inOrder s m args below meth c s.heap [] 0 0 Q (F0 m 89 ls [.int y13, .int i6]) := by
                  intro y13 ls ey13 hl
                  have ho := ho y13 ey13
                  refine lv_iadd hx hb dX11_inOrder_89 ?_
                  refine lv_istore (lv' := [(6, .int (i6 + y13)), (5, .int (i7 + y11)), (7, .int i5), (4, .int i1), (3, .int i2), (0, .ref (ga G r)), (1, .int p1), (2, .int p2)]) hx hb dX11_inOrder_90 hl (by decide) rfl (fun ls hl => ?_)
                  refine lv_iinc (v := i5 + 1) (lv' := [(7, .int (i5 + 1)), (6, .int (i6 + y13)), (5, .int (i7 + y11)), (4, .int i1), (3, .int i2), (0, .ref (ga G r)), (1, .int p1), (2, .int p2)]) hx hb dX11_inOrder_92 hl (k := 2) rfl rfl (by decide) rfl (fun ls hl => ?_)
                  refine lv_goto (tgt := 26) hx hb dX11_inOrder_95 (by decide) ?_
                  replace ey11 := Eq.symm ey11
                  replace ey13 := Eq.symm ey13
                  subst ey11 ey13
                  exact ih _ _ _ _ ho (lv_sub hl [0, 1, 2, 3, 4, 5, 6, 7] rfl) (fun y8 y9 ls q0 q1 hl => K11 y8 y9 ls (q0.trans (congrArg (fun z : Int32 × Int32 => z.1) (Eq.symm (((lX11_inOrder_26.eq_2 _ _ _ _ _ _ _ _)).trans ((if_neg c8).trans rfl))))) (q1.trans (congrArg (fun z : Int32 × Int32 => z.2) (Eq.symm (((lX11_inOrder_26.eq_2 _ _ _ _ _ _ _ _)).trans ((if_neg c8).trans rfl))))) hl)
                refine lv_icmp_gt (tgt := 88) hx hb dX11_inOrder_81 (by decide) (fun c14 => ?_) (fun c14 => ?_)
                · skip
                  refine lv_iconst (v := 0) hx hb dX11_inOrder_88 (by decide) ?_
                  exact K14 _ _ (Eq.symm ((if_pos c14).trans rfl)) (lv_sub hl [0, 1, 3, 4, 5, 6, 7] rfl)
                · skip
                  refine lv_iconst (v := 1) hx hb dX11_inOrder_84 (by decide) ?_
                  refine lv_goto (tgt := 89) hx hb dX11_inOrder_85 (by decide) ?_
                  exact K14 _ _ (Eq.symm ((if_neg c14).trans rfl)) (lv_sub hl [0, 1, 3, 4, 5, 6, 7] rfl)
              refine lv_icmp_ge (tgt := 61) hx hb dX11_inOrder_54 (by decide) (fun c12 => ?_) (fun c12 => ?_)
              · skip
                refine lv_iconst (v := 0) hx hb dX11_inOrder_61 (by decide) ?_
                exact K12 _ _ (Eq.symm ((if_pos c12).trans rfl)) (lv_sub hl [0, 1, 3, 4, 5, 6, 7] rfl)
              · skip
                refine lv_iconst (v := 1) hx hb dX11_inOrder_57 (by decide) ?_
                refine lv_goto (tgt := 62) hx hb dX11_inOrder_58 (by decide) ?_
                exact K12 _ _ (Eq.symm ((if_neg c12).trans rfl)) (lv_sub hl [0, 1, 3, 4, 5, 6, 7] rfl)
        have hol := ho.1
        refine L10 ((Int32.toInt ((fX11_of r p1 8 v)) - Int32.toInt 0).toNat + 1) 0 0 0 _ hol (lv_sub hl [0, 1, 2, 3, 4, 5, 6, 7] rfl) (fun y8 y9 ls ey8 ey9 hl => ?_)
        have ho := ho.2 y8 y9 ey8 ey9
        refine lv_iload hx hb dX11_inOrder_98 (lv_at hl 1 rfl) ?_
        refine lv_iload_n hx hb dX11_inOrder_100 rfl (lv_at hl 6 rfl) ?_
        have K16 : ∀ (y15 : Int32) (ls : Array Slot), y15 = (if (p2 : Int32) < y9 then i2 else (if (y8 : Int32) ≤ p2 then i2 else (fX11_onChart r p1 i1 v)) : Int32) → lv_has ls 8 [(4, .int i1), (0, .ref (ga G r)), (1, .int p1), (2, .int p2)] → W p l e rmX11_inOrder s m args below meth c s.heap [] 0 0 Q (F0 m 121 ls [.int y15]) := by
          intro y15 ls ey15 hl
          have ho := ho.2 y15 ey15
          refine lv_istore_n (lv' := [(3, .int y15), (4, .int i1), (0, .ref (ga G r)), (1, .int p1), (2, .int p2)]) hx hb dX11_inOrder_121 rfl hl (by decide) rfl (fun ls hl => ?_)
          refine lv_iinc (v := i1 + 1) (lv' := [(4, .int (i1 + 1)), (3, .int y15), (0, .ref (ga G r)), (1, .int p1), (2, .int p2)]) hx hb dX11_inOrder_122 hl (k := 1) rfl rfl (by decide) rfl (fun ls hl => ?_)
          refine lv_goto (tgt := 5) hx hb dX11_inOrder_125 (by decide) ?_
          replace ey8 := Eq.symm ey8
          replace ey9 := Eq.symm ey9
          replace ey15 := Eq.symm ey15
          subst ey8 ey9 ey15
          exact ih _ _ _ ho (lv_sub hl [0, 1, 2, 3, 4] rfl) (fun y3 ls q0 hl => K5 y3 ls (q0.trans (congrArg (fun z : Int32 => z) (Eq.symm (((lX11_inOrder_5.eq_2 _ _ _ _ _ _ _)).trans ((if_neg c4).trans rfl))))) hl)
        have ho := ho.1
        refine lv_icmp_gt (tgt := 120) hx hb dX11_inOrder_101 (by decide) (fun c16 => ?_) (fun c16 => ?_)
        · skip
          refine lv_iload_n hx hb dX11_inOrder_120 rfl (lv_at hl 3 rfl) ?_
          exact K16 _ _ (Eq.symm ((if_pos c16).trans rfl)) (lv_sub hl [2, 4, 5, 6] rfl)
        · have ho := ho c16
          refine lv_iload_n hx hb dX11_inOrder_104 rfl (lv_at hl 6 rfl) ?_
          refine lv_iload hx hb dX11_inOrder_105 (lv_at hl 0 rfl) ?_
          refine lv_icmp_ge (tgt := 120) hx hb dX11_inOrder_107 (by decide) (fun c17 => ?_) (fun c17 => ?_)
          · skip
            refine lv_iload_n hx hb dX11_inOrder_120 rfl (lv_at hl 3 rfl) ?_
            exact K16 _ _ (Eq.symm ((if_neg c16).trans ((if_pos c17).trans rfl))) (lv_sub hl [2, 4, 5, 6] rfl)
          · have ho := ho c17
            refine lv_aload_n hx hb dX11_inOrder_110 rfl (lv_at hl 4 rfl) ?_
            refine lv_iload_n hx hb dX11_inOrder_111 rfl (lv_at hl 5 rfl) ?_
            refine lv_iload hx hb dX11_inOrder_112 (lv_at hl 2 rfl) ?_
            have hq18 := ho
            refine k_X11_onChart X hS hH hk_r hq18 t_ml_VernierDrawersModel_123 hl.1 (Nat.le_of_ble_eq_true rfl) ⟨Nat.le_of_ble_eq_true rfl, Nat.le_of_ble_eq_true rfl⟩ ⟨Nat.zero_le _, Nat.zero_le _⟩ dX11_inOrder_114 ?_
            refine lv_goto (tgt := 121) hx hb dX11_inOrder_117 (by decide) ?_
            exact K16 _ _ (Eq.symm ((if_neg c16).trans ((if_neg c17).trans rfl))) (lv_sub hl [2, 4, 5, 6] rfl)
  have hol := ho
  refine L4 ((Int32.toInt ((fX11_of r p1 8 v)) - Int32.toInt 0).toNat + 1) 0 0 _ hol (lv_sub hl [0, 1, 2, 3, 4] rfl) (fun y3 ls ey3 hl => ?_)
  refine lv_iload_n hx hb dX11_inOrder_128 rfl (lv_at hl 0 rfl) ?_
  replace ey3 := Eq.symm ey3
  subst ey3
  exact E _ _ _ dX11_inOrder_129 rfl (Eq.symm rfl)
theorem k_X11_inOrder {p : Program} {l : Launch} {e : Env} {R : Room} {s : State} {m : MethodId} {args : Array Value} {below : List Frame} {meth : Method} {c : Code} {H : Heap} {locs : List Loc} {cells slots : Nat} {Q : State → Prop} {cc : ByteArray} {pc nL : Nat} {ls : Array Slot} {rest : List Value} {G : gG} {own : String} {da : Nat → Nat} {v : vSt} {x : gX} (X : CX G p s m args c cc nL own) (hS : va_S (gA G) s.heap H locs) (hH : Hp G da v x H) {r : Nat} (hk_r : kd r = 11) {p1 : Int32} {p2 : Int32} (ho : oX11_inOrder r p1 p2 v) {idx : Nat} (hml : Cond.methodLink own idx yX11_inOrder ∈ TT) (hls : ls.size = nL) (hsum : (rest.map fun v => v.category).sum ≤ 8) (hR : rmX11_inOrder.frames + 1 ≤ R.frames ∧ 8 + (8 + 11) + rmX11_inOrder.locals ≤ R.locals) (hcs : cells ≤ R.cells ∧ slots ≤ R.slots) (hdg : decode cc pc = .ok (.invokevirtual idx, 3)) (kk : W p l e R s m args below meth c H locs cells slots Q (F0 m (pc + 3) ls (.int (fX11_inOrder r p1 p2 v) :: rest))) : W p l e R s m args below meth c H locs cells slots Q (F0 m pc ls (.int p2 :: .int p1 :: .ref (ga G r) :: rest)) := c_qi (runV (k := 2) X.1 X.2.1 X.2.2.1 X.2.2.2.1 X.2.2.2.2.1 (mX11_inOrder l G da v x r hk_r p1 p2 ho) pW_bl hml t_im_X11_inOrder t_sel_X11_inOrder t_ini_VernierDrawersModel t_code_X11_inOrder ⟨rfl, by decide, by decide, by decide +kernel⟩ rfl rfl hR hcs (recvW X hH (by rw [hk_r]; decide) (by rw [hk_r]; decide) (ce_11 hk_r) rfl) (preW X hS hH) rfl hls rfl hsum hdg) (fun _ h => h ▸ kk)
def fX11_middle (r : Nat) (p1 : Int32) (v : vSt) : Int32 := fX11_inOrder r p1 ((fX11_of r p1 8 v) / 2) v
def oX11_middle (r : Nat) (p1 : Int32) (v : vSt) : Prop := (oX11_of r p1 8 v) ∧ (oX11_inOrder r p1 ((fX11_of r p1 8 v) / 2) v)
abbrev rmX11_middle : Room := { frames := 3, cells := 0, slots := 0, locals := 71 }
theorem dX11_middle_0 : decode cX11_middle 0 = .ok (.aload_n 0, 1) := by decide +kernel
theorem dX11_middle_1 : decode cX11_middle 1 = .ok (.iload_n 1, 1) := by decide +kernel
theorem dX11_middle_2 : decode cX11_middle 2 = .ok (.aload_n 0, 1) := by decide +kernel
theorem dX11_middle_3 : decode cX11_middle 3 = .ok (.iload_n 1, 1) := by decide +kernel
theorem dX11_middle_4 : decode cX11_middle 4 = .ok (.bipush 8, 2) := by decide +kernel
theorem dX11_middle_6 : decode cX11_middle 6 = .ok (.invokevirtual 90, 3) := by decide +kernel
theorem dX11_middle_9 : decode cX11_middle 9 = .ok (.iconst 2, 1) := by decide +kernel
theorem dX11_middle_10 : decode cX11_middle 10 = .ok (.idiv, 1) := by decide +kernel
theorem dX11_middle_11 : decode cX11_middle 11 = .ok (.invokevirtual 126, 3) := by decide +kernel
theorem dX11_middle_14 : decode cX11_middle 14 = .ok (.ireturn, 1) := by decide +kernel
set_option maxHeartbeats 8000000 in
set_option maxRecDepth 100000 in
theorem mX11_middle (l : Launch) (G : gG) (da : Nat → Nat) (v : vSt) (x : gX) (r : Nat) (hk_r : kd r = 11) (p1 : Int32) (ho : oX11_middle r p1 v) : QI l yX11_middle cX11_middle 2 (some .int) rmX11_middle [.ref (ga G r), .int p1] (pW G da v x) (fX11_middle r p1 v) := by
  refine gofQ (own := RX11) (by decide) rfl (Nat.le_of_ble_eq_true rfl) (fun p e s m args below meth c ls Q X hH hl E => ?_)
  have hx := X.1
  have hb := X.2.1
  have hown := X.2.2.2.1
  have hts := X.2.2.2.2.1
  have hS : va_S (gA G) s.heap s.heap [] := va_S.rf
  unfold oX11_middle at ho
  have hl : lv_has ls 2 [(0, .ref (ga G r)), (1, .int p1)] := hl
  refine lv_aload_n hx hb dX11_middle_0 rfl (lv_at hl 0 rfl) ?_
  refine lv_iload_n hx hb dX11_middle_1 rfl (lv_at hl 1 rfl) ?_
  refine lv_aload_n hx hb dX11_middle_2 rfl (lv_at hl 0 rfl) ?_
  refine lv_iload_n hx hb dX11_middle_3 rfl (lv_at hl 1 rfl) ?_
  refine lv_bipush (v := 8) hx hb dX11_middle_4 (by decide) ?_
  have hq1 := ho.1
  have ho := ho.2
  refine k_X11_of X hS hH hk_r hq1 t_ml_VernierDrawersModel_90 hl.1 (Nat.le_of_ble_eq_true rfl) ⟨Nat.le_of_ble_eq_true rfl, Nat.le_of_ble_eq_true rfl⟩ ⟨Nat.zero_le _, Nat.zero_le _⟩ dX11_middle_6 ?_
  refine lv_iconst (v := 2) hx hb dX11_middle_9 (by decide) ?_
  refine lv_idiv hx hb dX11_middle_10 (by decide) ?_
  have hq2 := ho
  refine k_X11_inOrder X hS hH hk_r hq2 t_ml_VernierDrawersModel_126 hl.1 (Nat.le_of_ble_eq_true rfl) ⟨Nat.le_of_ble_eq_true rfl, Nat.le_of_ble_eq_true rfl⟩ ⟨Nat.zero_le _, Nat.zero_le _⟩ dX11_middle_11 ?_
  exact E _ _ _ dX11_middle_14 rfl (Eq.symm rfl)
theorem k_X11_middle {p : Program} {l : Launch} {e : Env} {R : Room} {s : State} {m : MethodId} {args : Array Value} {below : List Frame} {meth : Method} {c : Code} {H : Heap} {locs : List Loc} {cells slots : Nat} {Q : State → Prop} {cc : ByteArray} {pc nL : Nat} {ls : Array Slot} {rest : List Value} {G : gG} {own : String} {da : Nat → Nat} {v : vSt} {x : gX} (X : CX G p s m args c cc nL own) (hS : va_S (gA G) s.heap H locs) (hH : Hp G da v x H) {r : Nat} (hk_r : kd r = 11) {p1 : Int32} (ho : oX11_middle r p1 v) {idx : Nat} (hml : Cond.methodLink own idx yX11_middle ∈ TT) (hls : ls.size = nL) (hsum : (rest.map fun v => v.category).sum ≤ 8) (hR : rmX11_middle.frames + 1 ≤ R.frames ∧ 8 + (2 + 11) + rmX11_middle.locals ≤ R.locals) (hcs : cells ≤ R.cells ∧ slots ≤ R.slots) (hdg : decode cc pc = .ok (.invokevirtual idx, 3)) (kk : W p l e R s m args below meth c H locs cells slots Q (F0 m (pc + 3) ls (.int (fX11_middle r p1 v) :: rest))) : W p l e R s m args below meth c H locs cells slots Q (F0 m pc ls (.int p1 :: .ref (ga G r) :: rest)) := c_qi (runV (k := 1) X.1 X.2.1 X.2.2.1 X.2.2.2.1 X.2.2.2.2.1 (mX11_middle l G da v x r hk_r p1 ho) pW_bl hml t_im_X11_middle t_sel_X11_middle t_ini_VernierDrawersModel t_code_X11_middle ⟨rfl, by decide, by decide, by decide +kernel⟩ rfl rfl hR hcs (recvW X hH (by rw [hk_r]; decide) (by rw [hk_r]; decide) (ce_11 hk_r) rfl) (preW X hS hH) rfl hls rfl hsum hdg) (fun _ h => h ▸ kk)
def fX11_goMeasure (r : Nat) (p1 : Int32) (p2 : Int32) (p3 : Int32) (v : vSt) : Int32 × vSt := if ((fX11_isTool r p1 v) : Int32) = 0 then (((-100001), v)) else (if ((fX11_isMaterial p2) : Int32) = 0 then (((-100001), v)) else (if ((fX11_isLength p3) : Int32) = 0 then (((-100001), v)) else (if (0 : Int32) ≤ (fX11_reading r p1 p2 p3 v) then (let v8 : vSt := fX11_uses r p1 p2 v; ((fX11_reading r p1 p2 p3 v) - (fX11_tool r p1 3 v8), v8)) else (((-100002), v)))))
def oX11_goMeasure (r : Nat) (p1 : Int32) (p2 : Int32) (p3 : Int32) (v : vSt) : Prop := (oX11_isTool r p1 v) ∧ (¬ (((fX11_isTool r p1 v) : Int32) = 0) → (¬ (((fX11_isMaterial p2) : Int32) = 0) → (¬ (((fX11_isLength p3) : Int32) = 0) → ((oX11_reading r p1 p2 p3 v) ∧ (((0 : Int32) ≤ (fX11_reading r p1 p2 p3 v)) → ((oX11_uses r p1 p2 v) ∧ (∀ v8 : vSt, v8 = (fX11_uses r p1 p2 v) → (oX11_tool r p1 3 v8))))))))
abbrev rmX11_goMeasure : Room := { frames := 3, cells := 0, slots := 0, locals := 70 }
theorem dX11_goMeasure_0 : decode cX11_goMeasure 0 = .ok (.aload_n 0, 1) := by decide +kernel
theorem dX11_goMeasure_1 : decode cX11_goMeasure 1 = .ok (.iload_n 1, 1) := by decide +kernel
theorem dX11_goMeasure_2 : decode cX11_goMeasure 2 = .ok (.invokevirtual 129, 3) := by decide +kernel
theorem dX11_goMeasure_5 : decode cX11_goMeasure 5 = .ok (.ifCond .eq 17, 3) := by decide +kernel
theorem dX11_goMeasure_8 : decode cX11_goMeasure 8 = .ok (.iload_n 2, 1) := by decide +kernel
theorem dX11_goMeasure_9 : decode cX11_goMeasure 9 = .ok (.invokestatic 132, 3) := by decide +kernel
theorem dX11_goMeasure_12 : decode cX11_goMeasure 12 = .ok (.ifCond .eq 10, 3) := by decide +kernel
theorem dX11_goMeasure_15 : decode cX11_goMeasure 15 = .ok (.iload_n 3, 1) := by decide +kernel
theorem dX11_goMeasure_16 : decode cX11_goMeasure 16 = .ok (.invokestatic 135, 3) := by decide +kernel
theorem dX11_goMeasure_19 : decode cX11_goMeasure 19 = .ok (.ifCond .ne 6, 3) := by decide +kernel
theorem dX11_goMeasure_22 : decode cX11_goMeasure 22 = .ok (.ldc 40, 2) := by decide +kernel
theorem dX11_goMeasure_24 : decode cX11_goMeasure 24 = .ok (.ireturn, 1) := by decide +kernel
theorem dX11_goMeasure_25 : decode cX11_goMeasure 25 = .ok (.aload_n 0, 1) := by decide +kernel
theorem dX11_goMeasure_26 : decode cX11_goMeasure 26 = .ok (.iload_n 1, 1) := by decide +kernel
theorem dX11_goMeasure_27 : decode cX11_goMeasure 27 = .ok (.iload_n 2, 1) := by decide +kernel
theorem dX11_goMeasure_28 : decode cX11_goMeasure 28 = .ok (.iload_n 3, 1) := by decide +kernel
theorem dX11_goMeasure_29 : decode cX11_goMeasure 29 = .ok (.invokevirtual 99, 3) := by decide +kernel
theorem dX11_goMeasure_32 : decode cX11_goMeasure 32 = .ok (.istore 4, 2) := by decide +kernel
theorem dX11_goMeasure_34 : decode cX11_goMeasure 34 = .ok (.iload 4, 2) := by decide +kernel
theorem dX11_goMeasure_36 : decode cX11_goMeasure 36 = .ok (.ifCond .ge 6, 3) := by decide +kernel
theorem dX11_goMeasure_39 : decode cX11_goMeasure 39 = .ok (.ldc 41, 2) := by decide +kernel
theorem dX11_goMeasure_41 : decode cX11_goMeasure 41 = .ok (.ireturn, 1) := by decide +kernel
theorem dX11_goMeasure_42 : decode cX11_goMeasure 42 = .ok (.aload_n 0, 1) := by decide +kernel
theorem dX11_goMeasure_43 : decode cX11_goMeasure 43 = .ok (.iload_n 1, 1) := by decide +kernel
theorem dX11_goMeasure_44 : decode cX11_goMeasure 44 = .ok (.iload_n 2, 1) := by decide +kernel
theorem dX11_goMeasure_45 : decode cX11_goMeasure 45 = .ok (.invokevirtual 138, 3) := by decide +kernel
theorem dX11_goMeasure_48 : decode cX11_goMeasure 48 = .ok (.iload 4, 2) := by decide +kernel
theorem dX11_goMeasure_50 : decode cX11_goMeasure 50 = .ok (.aload_n 0, 1) := by decide +kernel
theorem dX11_goMeasure_51 : decode cX11_goMeasure 51 = .ok (.iload_n 1, 1) := by decide +kernel
theorem dX11_goMeasure_52 : decode cX11_goMeasure 52 = .ok (.iconst 3, 1) := by decide +kernel
theorem dX11_goMeasure_53 : decode cX11_goMeasure 53 = .ok (.invokevirtual 54, 3) := by decide +kernel
theorem dX11_goMeasure_56 : decode cX11_goMeasure 56 = .ok (.isub, 1) := by decide +kernel
theorem dX11_goMeasure_57 : decode cX11_goMeasure 57 = .ok (.ireturn, 1) := by decide +kernel
set_option maxHeartbeats 8000000 in
set_option maxRecDepth 100000 in
theorem mX11_goMeasure (l : Launch) (G : gG) (da : Nat → Nat) (v : vSt) (x : gX) (r : Nat) (hk_r : kd r = 11) (p1 : Int32) (p2 : Int32) (p3 : Int32) (ho : oX11_goMeasure r p1 p2 p3 v) : MI l yX11_goMeasure cX11_goMeasure 5 (some .int) rmX11_goMeasure [.ref (ga G r), .int p1, .int p2, .int p3] G da v x 0 0 (fX11_goMeasure r p1 p2 p3 v).1 (fX11_goMeasure r p1 p2 p3 v).2 x := by
  refine gofMI (own := RX11) (by decide) rfl (Nat.le_of_ble_eq_true rfl) (fun p e s m args below meth c ls Q X hH hl E => ?_)
  have hx := X.1
  have hb := X.2.1
  have hown := X.2.2.2.1
  have hts := X.2.2.2.2.1
  have hS : va_S (gA G) s.heap s.heap [] := va_S.rf
  unfold oX11_goMeasure at ho
  have hl : lv_has ls 5 [(0, .ref (ga G r)), (1, .int p1), (2, .int p2), (3, .int p3)] := hl
  refine lv_aload_n hx hb dX11_goMeasure_0 rfl (lv_at hl 0 rfl) ?_
  refine lv_iload_n hx hb dX11_goMeasure_1 rfl (lv_at hl 1 rfl) ?_
  have hq1 := ho.1
  have ho := ho.2
  refine k_X11_isTool X hS hH hk_r hq1 t_ml_VernierDrawersModel_129 hl.1 (Nat.le_of_ble_eq_true rfl) ⟨Nat.le_of_ble_eq_true rfl, Nat.le_of_ble_eq_true rfl⟩ ⟨Nat.zero_le _, Nat.zero_le _⟩ dX11_goMeasure_2 ?_
  refine lv_if_eq (tgt := 22) hx hb dX11_goMeasure_5 (by decide) (fun c2 => ?_) (fun c2 => ?_)
  · skip
    refine lv_ldc (v := (-100001)) hx hb hown (hts _ t_con_VernierDrawersModel_40) dX11_goMeasure_22 ?_
    exact E _ _ _ _ _ _ _ _ _ dX11_goMeasure_24 rfl (pr1 ((fX11_goMeasure.eq_1 _ _ _ _ _).trans ((if_pos c2).trans rfl))) (pr2 ((fX11_goMeasure.eq_1 _ _ _ _ _).trans ((if_pos c2).trans rfl))) hH hS (Nat.zero_le _) (Nat.zero_le _)
  · have ho := ho c2
    refine lv_iload_n hx hb dX11_goMeasure_8 rfl (lv_at hl 2 rfl) ?_
    refine k_X11_isMaterial X hS  t_ml_VernierDrawersModel_132 hl.1 (Nat.le_of_ble_eq_true rfl) ⟨Nat.le_of_ble_eq_true rfl, Nat.le_of_ble_eq_true rfl⟩ ⟨Nat.zero_le _, Nat.zero_le _⟩ dX11_goMeasure_9 ?_
    refine lv_if_eq (tgt := 22) hx hb dX11_goMeasure_12 (by decide) (fun c3 => ?_) (fun c3 => ?_)
    · skip
      refine lv_ldc (v := (-100001)) hx hb hown (hts _ t_con_VernierDrawersModel_40) dX11_goMeasure_22 ?_
      exact E _ _ _ _ _ _ _ _ _ dX11_goMeasure_24 rfl (pr1 ((fX11_goMeasure.eq_1 _ _ _ _ _).trans ((if_neg c2).trans ((if_pos c3).trans rfl)))) (pr2 ((fX11_goMeasure.eq_1 _ _ _ _ _).trans ((if_neg c2).trans ((if_pos c3).trans rfl)))) hH hS (Nat.zero_le _) (Nat.zero_le _)
    · have ho := ho c3
      refine lv_iload_n hx hb dX11_goMeasure_15 rfl (lv_at hl 3 rfl) ?_
      refine k_X11_isLength X hS  t_ml_VernierDrawersModel_135 hl.1 (Nat.le_of_ble_eq_true rfl) ⟨Nat.le_of_ble_eq_true rfl, Nat.le_of_ble_eq_true rfl⟩ ⟨Nat.zero_le _, Nat.zero_le _⟩ dX11_goMeasure_16 ?_
      refine lv_if_ne (tgt := 25) hx hb dX11_goMeasure_19 (by decide) (fun c4 => ?_) (fun c4 => ?_)
      · have ho := ho c4
        refine lv_aload_n hx hb dX11_goMeasure_25 rfl (lv_at hl 0 rfl) ?_
        refine lv_iload_n hx hb dX11_goMeasure_26 rfl (lv_at hl 1 rfl) ?_
        refine lv_iload_n hx hb dX11_goMeasure_27 rfl (lv_at hl 2 rfl) ?_
        refine lv_iload_n hx hb dX11_goMeasure_28 rfl (lv_at hl 3 rfl) ?_
        have hq5 := ho.1
        have ho := ho.2
        refine k_X11_reading X hS hH hk_r hq5 t_ml_VernierDrawersModel_99 hl.1 (Nat.le_of_ble_eq_true rfl) ⟨Nat.le_of_ble_eq_true rfl, Nat.le_of_ble_eq_true rfl⟩ ⟨Nat.zero_le _, Nat.zero_le _⟩ dX11_goMeasure_29 ?_
        refine lv_istore (lv' := [(4, .int (fX11_reading r p1 p2 p3 v)), (0, .ref (ga G r)), (1, .int p1), (2, .int p2), (3, .int p3)]) hx hb dX11_goMeasure_32 hl (by decide) rfl (fun ls hl => ?_)
        refine lv_iload hx hb dX11_goMeasure_34 (lv_at hl 0 rfl) ?_
        refine lv_if_ge (tgt := 42) hx hb dX11_goMeasure_36 (by decide) (fun c6 => ?_) (fun c6 => ?_)
        · have ho := ho c6
          refine lv_aload_n hx hb dX11_goMeasure_42 rfl (lv_at hl 1 rfl) ?_
          refine lv_iload_n hx hb dX11_goMeasure_43 rfl (lv_at hl 2 rfl) ?_
          refine lv_iload_n hx hb dX11_goMeasure_44 rfl (lv_at hl 3 rfl) ?_
          have hq7 := ho.1
          have ho := ho.2
          refine k_X11_uses X hS hH hk_r hq7 t_ml_VernierDrawersModel_138 hl.1 (Nat.le_of_ble_eq_true rfl) ⟨Nat.le_of_ble_eq_true rfl, Nat.le_of_ble_eq_true rfl⟩ ⟨Nat.zero_le _, Nat.zero_le _⟩ dX11_goMeasure_45 (fun da H locs v8 ev8 hH hS => ?_)
          have ho := ho v8 ev8
          refine lv_iload hx hb dX11_goMeasure_48 (lv_at hl 0 rfl) ?_
          refine lv_aload_n hx hb dX11_goMeasure_50 rfl (lv_at hl 1 rfl) ?_
          refine lv_iload_n hx hb dX11_goMeasure_51 rfl (lv_at hl 2 rfl) ?_
          refine lv_iconst (v := 3) hx hb dX11_goMeasure_52 (by decide) ?_
          have hq9 := ho
          refine k_X11_tool X hS hH hk_r hq9 t_ml_VernierDrawersModel_54 hl.1 (Nat.le_of_ble_eq_true rfl) ⟨Nat.le_of_ble_eq_true rfl, Nat.le_of_ble_eq_true rfl⟩ ⟨Nat.zero_le _, Nat.zero_le _⟩ dX11_goMeasure_53 ?_
          refine lv_isub hx hb dX11_goMeasure_56 ?_
          replace ev8 := Eq.symm ev8
          subst ev8
          exact E _ _ _ _ _ _ _ _ _ dX11_goMeasure_57 rfl (pr1 ((fX11_goMeasure.eq_1 _ _ _ _ _).trans ((if_neg c2).trans ((if_neg c3).trans ((if_neg c4).trans ((if_pos c6).trans rfl)))))) (pr2 ((fX11_goMeasure.eq_1 _ _ _ _ _).trans ((if_neg c2).trans ((if_neg c3).trans ((if_neg c4).trans ((if_pos c6).trans rfl)))))) hH hS (Nat.zero_le _) (Nat.zero_le _)
        · skip
          refine lv_ldc (v := (-100002)) hx hb hown (hts _ t_con_VernierDrawersModel_41) dX11_goMeasure_39 ?_
          exact E _ _ _ _ _ _ _ _ _ dX11_goMeasure_41 rfl (pr1 ((fX11_goMeasure.eq_1 _ _ _ _ _).trans ((if_neg c2).trans ((if_neg c3).trans ((if_neg c4).trans ((if_neg c6).trans rfl)))))) (pr2 ((fX11_goMeasure.eq_1 _ _ _ _ _).trans ((if_neg c2).trans ((if_neg c3).trans ((if_neg c4).trans ((if_neg c6).trans rfl)))))) hH hS (Nat.zero_le _) (Nat.zero_le _)
      · skip
        refine lv_ldc (v := (-100001)) hx hb hown (hts _ t_con_VernierDrawersModel_40) dX11_goMeasure_22 ?_
        exact E _ _ _ _ _ _ _ _ _ dX11_goMeasure_24 rfl (pr1 ((fX11_goMeasure.eq_1 _ _ _ _ _).trans ((if_neg c2).trans ((if_neg c3).trans ((if_pos c4).trans rfl))))) (pr2 ((fX11_goMeasure.eq_1 _ _ _ _ _).trans ((if_neg c2).trans ((if_neg c3).trans ((if_pos c4).trans rfl))))) hH hS (Nat.zero_le _) (Nat.zero_le _)
theorem k_X11_goMeasure {p : Program} {l : Launch} {e : Env} {R : Room} {s : State} {m : MethodId} {args : Array Value} {below : List Frame} {meth : Method} {c : Code} {H : Heap} {locs : List Loc} {cells slots : Nat} {Q : State → Prop} {cc : ByteArray} {pc nL : Nat} {ls : Array Slot} {rest : List Value} {G : gG} {own : String} {da : Nat → Nat} {v : vSt} {x : gX} (X : CX G p s m args c cc nL own) (hS : va_S (gA G) s.heap H locs) (hH : Hp G da v x H) {r : Nat} (hk_r : kd r = 11) {p1 : Int32} {p2 : Int32} {p3 : Int32} (ho : oX11_goMeasure r p1 p2 p3 v) {idx : Nat} (hml : Cond.methodLink own idx yX11_goMeasure ∈ TT) (hls : ls.size = nL) (hsum : (rest.map fun v => v.category).sum ≤ 8) (hR : rmX11_goMeasure.frames + 1 ≤ R.frames ∧ 8 + (5 + 11) + rmX11_goMeasure.locals ≤ R.locals) (hcs : cells ≤ R.cells ∧ slots ≤ R.slots) (hdg : decode cc pc = .ok (.invokevirtual idx, 3)) (kk : ∀ (d : Nat → Nat) (H1 : Heap) (locs1 : List Loc) (v1 : vSt), v1 = (fX11_goMeasure r p1 p2 p3 v).2 → Hp G d v1 x H1 → va_S (gA G) s.heap H1 locs1 → W p l e R s m args below meth c H1 locs1 cells slots Q (F0 m (pc + 3) ls (.int (fX11_goMeasure r p1 p2 p3 v).1 :: rest))) : W p l e R s m args below meth c H locs cells slots Q (F0 m pc ls (.int p3 :: .int p2 :: .int p1 :: .ref (ga G r) :: rest)) := c_mi X.2.2.2.2.2.2 (runV (k := 3) X.1 X.2.1 X.2.2.1 X.2.2.2.1 X.2.2.2.2.1 (mX11_goMeasure l G da v x r hk_r p1 p2 p3 ho) pW_bl hml t_im_X11_goMeasure t_sel_X11_goMeasure t_ini_VernierDrawersModel t_code_X11_goMeasure ⟨rfl, by decide, by decide, by decide +kernel⟩ rfl rfl hR hcs (recvW X hH (by rw [hk_r]; decide) (by rw [hk_r]; decide) (ce_11 hk_r) rfl) (preW X hS hH) rfl hls rfl hsum hdg) hS kk
