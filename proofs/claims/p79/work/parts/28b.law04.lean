/-! the law's methods: texts -/
def fL_number (o1 : Nat) (p1 : Int32) (v : vSt) : vSt := let v1 : vSt := (if (p1 : Int32) < 10000 then v else (let v5 : vSt := (fX10_type o1 ((48 : Int32) + (p1 / (10000 : Int32))) v).2.2; let v6 : vSt := gM v5 (fX11_type 461 ((48 : Int32) + (p1 / (10000 : Int32))) v5).2; v6) : vSt); let v3 : vSt := (if (p1 : Int32) < 1000 then v1 else (let v7 : vSt := (fX10_type o1 ((48 : Int32) + ((p1 / (1000 : Int32)) - (p1 / (1000 : Int32)) / (10 : Int32) * (10 : Int32))) v1).2.2; let v8 : vSt := gM v7 (fX11_type 461 ((48 : Int32) + ((p1 / (1000 : Int32)) - (p1 / (1000 : Int32)) / (10 : Int32) * (10 : Int32))) v7).2; v8) : vSt); let v5 : vSt := (if (p1 : Int32) < 100 then v3 else (let v9 : vSt := (fX10_type o1 ((48 : Int32) + ((p1 / (100 : Int32)) - (p1 / (100 : Int32)) / (10 : Int32) * (10 : Int32))) v3).2.2; let v10 : vSt := gM v9 (fX11_type 461 ((48 : Int32) + ((p1 / (100 : Int32)) - (p1 / (100 : Int32)) / (10 : Int32) * (10 : Int32))) v9).2; v10) : vSt); let v7 : vSt := (if (p1 : Int32) < 10 then v5 else (let v11 : vSt := (fX10_type o1 ((48 : Int32) + ((p1 / (10 : Int32)) - (p1 / (10 : Int32)) / (10 : Int32) * (10 : Int32))) v5).2.2; let v12 : vSt := gM v11 (fX11_type 461 ((48 : Int32) + ((p1 / (10 : Int32)) - (p1 / (10 : Int32)) / (10 : Int32) * (10 : Int32))) v11).2; v12) : vSt); let v11 : vSt := (fX10_type o1 ((48 : Int32) + (p1 - p1 / (10 : Int32) * (10 : Int32))) v7).2.2; let v12 : vSt := gM v11 (fX11_type 461 ((48 : Int32) + (p1 - p1 / (10 : Int32) * (10 : Int32))) v11).2; v12
def oL_number (o1 : Nat) (p1 : Int32) (v : vSt) : Prop := (¬ ((p1 : Int32) < 10000) → ((oX10_type o1 ((48 : Int32) + (p1 / (10000 : Int32))) v) ∧ (((fX10_type o1 ((48 : Int32) + (p1 / (10000 : Int32))) v).1 = 0) ∧ (∀ v5 : vSt, v5 = ((fX10_type o1 ((48 : Int32) + (p1 / (10000 : Int32))) v).2.2) → (∀ v6 : vSt, v6 = (gM v5 (fX11_type 461 ((48 : Int32) + (p1 / (10000 : Int32))) v5).2) → ((¬ ((((fX10_type o1 ((48 : Int32) + (p1 / (10000 : Int32))) v).2.1) : Int32) ≤ 0)))))))) ∧ (∀ (v1 : vSt), v1 = ((if (p1 : Int32) < 10000 then v else (let v5 : vSt := (fX10_type o1 ((48 : Int32) + (p1 / (10000 : Int32))) v).2.2; let v6 : vSt := gM v5 (fX11_type 461 ((48 : Int32) + (p1 / (10000 : Int32))) v5).2; v6) : vSt) : vSt) → ((¬ ((p1 : Int32) < 1000) → ((oX10_type o1 ((48 : Int32) + ((p1 / (1000 : Int32)) - (p1 / (1000 : Int32)) / (10 : Int32) * (10 : Int32))) v1) ∧ (((fX10_type o1 ((48 : Int32) + ((p1 / (1000 : Int32)) - (p1 / (1000 : Int32)) / (10 : Int32) * (10 : Int32))) v1).1 = 0) ∧ (∀ v7 : vSt, v7 = ((fX10_type o1 ((48 : Int32) + ((p1 / (1000 : Int32)) - (p1 / (1000 : Int32)) / (10 : Int32) * (10 : Int32))) v1).2.2) → (∀ v8 : vSt, v8 = (gM v7 (fX11_type 461 ((48 : Int32) + ((p1 / (1000 : Int32)) - (p1 / (1000 : Int32)) / (10 : Int32) * (10 : Int32))) v7).2) → ((¬ ((((fX10_type o1 ((48 : Int32) + ((p1 / (1000 : Int32)) - (p1 / (1000 : Int32)) / (10 : Int32) * (10 : Int32))) v1).2.1) : Int32) ≤ 0)))))))) ∧ (∀ (v3 : vSt), v3 = ((if (p1 : Int32) < 1000 then v1 else (let v7 : vSt := (fX10_type o1 ((48 : Int32) + ((p1 / (1000 : Int32)) - (p1 / (1000 : Int32)) / (10 : Int32) * (10 : Int32))) v1).2.2; let v8 : vSt := gM v7 (fX11_type 461 ((48 : Int32) + ((p1 / (1000 : Int32)) - (p1 / (1000 : Int32)) / (10 : Int32) * (10 : Int32))) v7).2; v8) : vSt) : vSt) → ((¬ ((p1 : Int32) < 100) → ((oX10_type o1 ((48 : Int32) + ((p1 / (100 : Int32)) - (p1 / (100 : Int32)) / (10 : Int32) * (10 : Int32))) v3) ∧ (((fX10_type o1 ((48 : Int32) + ((p1 / (100 : Int32)) - (p1 / (100 : Int32)) / (10 : Int32) * (10 : Int32))) v3).1 = 0) ∧ (∀ v9 : vSt, v9 = ((fX10_type o1 ((48 : Int32) + ((p1 / (100 : Int32)) - (p1 / (100 : Int32)) / (10 : Int32) * (10 : Int32))) v3).2.2) → (∀ v10 : vSt, v10 = (gM v9 (fX11_type 461 ((48 : Int32) + ((p1 / (100 : Int32)) - (p1 / (100 : Int32)) / (10 : Int32) * (10 : Int32))) v9).2) → ((¬ ((((fX10_type o1 ((48 : Int32) + ((p1 / (100 : Int32)) - (p1 / (100 : Int32)) / (10 : Int32) * (10 : Int32))) v3).2.1) : Int32) ≤ 0)))))))) ∧ (∀ (v5 : vSt), v5 = ((if (p1 : Int32) < 100 then v3 else (let v9 : vSt := (fX10_type o1 ((48 : Int32) + ((p1 / (100 : Int32)) - (p1 / (100 : Int32)) / (10 : Int32) * (10 : Int32))) v3).2.2; let v10 : vSt := gM v9 (fX11_type 461 ((48 : Int32) + ((p1 / (100 : Int32)) - (p1 / (100 : Int32)) / (10 : Int32) * (10 : Int32))) v9).2; v10) : vSt) : vSt) → ((¬ ((p1 : Int32) < 10) → ((oX10_type o1 ((48 : Int32) + ((p1 / (10 : Int32)) - (p1 / (10 : Int32)) / (10 : Int32) * (10 : Int32))) v5) ∧ (((fX10_type o1 ((48 : Int32) + ((p1 / (10 : Int32)) - (p1 / (10 : Int32)) / (10 : Int32) * (10 : Int32))) v5).1 = 0) ∧ (∀ v11 : vSt, v11 = ((fX10_type o1 ((48 : Int32) + ((p1 / (10 : Int32)) - (p1 / (10 : Int32)) / (10 : Int32) * (10 : Int32))) v5).2.2) → (∀ v12 : vSt, v12 = (gM v11 (fX11_type 461 ((48 : Int32) + ((p1 / (10 : Int32)) - (p1 / (10 : Int32)) / (10 : Int32) * (10 : Int32))) v11).2) → ((¬ ((((fX10_type o1 ((48 : Int32) + ((p1 / (10 : Int32)) - (p1 / (10 : Int32)) / (10 : Int32) * (10 : Int32))) v5).2.1) : Int32) ≤ 0)))))))) ∧ (∀ (v7 : vSt), v7 = ((if (p1 : Int32) < 10 then v5 else (let v11 : vSt := (fX10_type o1 ((48 : Int32) + ((p1 / (10 : Int32)) - (p1 / (10 : Int32)) / (10 : Int32) * (10 : Int32))) v5).2.2; let v12 : vSt := gM v11 (fX11_type 461 ((48 : Int32) + ((p1 / (10 : Int32)) - (p1 / (10 : Int32)) / (10 : Int32) * (10 : Int32))) v11).2; v12) : vSt) : vSt) → ((oX10_type o1 ((48 : Int32) + (p1 - p1 / (10 : Int32) * (10 : Int32))) v7) ∧ (((fX10_type o1 ((48 : Int32) + (p1 - p1 / (10 : Int32) * (10 : Int32))) v7).1 = 0) ∧ (∀ v11 : vSt, v11 = ((fX10_type o1 ((48 : Int32) + (p1 - p1 / (10 : Int32) * (10 : Int32))) v7).2.2) → (∀ v12 : vSt, v12 = (gM v11 (fX11_type 461 ((48 : Int32) + (p1 - p1 / (10 : Int32) * (10 : Int32))) v11).2) → ((¬ ((((fX10_type o1 ((48 : Int32) + (p1 - p1 / (10 : Int32) * (10 : Int32))) v7).2.1) : Int32) ≤ 0))))))))))))))
abbrev rmL_number : Room := { frames := 2, cells := 0, slots := 0, locals := 43 }
theorem dL_number_0 : decode cL_number 0 = .ok (.iload_n 1, 1) := by decide +kernel
theorem dL_number_1 : decode cL_number 1 = .ok (.sipush 10000, 3) := by decide +kernel
theorem dL_number_4 : decode cL_number 4 = .ok (.if_icmp .lt 18, 3) := by decide +kernel
theorem dL_number_7 : decode cL_number 7 = .ok (.aload_n 0, 1) := by decide +kernel
theorem dL_number_8 : decode cL_number 8 = .ok (.bipush 48, 2) := by decide +kernel
theorem dL_number_10 : decode cL_number 10 = .ok (.iload_n 1, 1) := by decide +kernel
theorem dL_number_11 : decode cL_number 11 = .ok (.sipush 10000, 3) := by decide +kernel
theorem dL_number_14 : decode cL_number 14 = .ok (.idiv, 1) := by decide +kernel
theorem dL_number_15 : decode cL_number 15 = .ok (.iadd, 1) := by decide +kernel
theorem dL_number_16 : decode cL_number 16 = .ok (.invokevirtual 107, 3) := by decide +kernel
theorem dL_number_19 : decode cL_number 19 = .ok (.ifCond .le 92, 3) := by decide +kernel
theorem dL_number_22 : decode cL_number 22 = .ok (.iload_n 1, 1) := by decide +kernel
theorem dL_number_23 : decode cL_number 23 = .ok (.sipush 1000, 3) := by decide +kernel
theorem dL_number_26 : decode cL_number 26 = .ok (.if_icmp .lt 21, 3) := by decide +kernel
theorem dL_number_29 : decode cL_number 29 = .ok (.aload_n 0, 1) := by decide +kernel
theorem dL_number_30 : decode cL_number 30 = .ok (.bipush 48, 2) := by decide +kernel
theorem dL_number_32 : decode cL_number 32 = .ok (.iload_n 1, 1) := by decide +kernel
theorem dL_number_33 : decode cL_number 33 = .ok (.sipush 1000, 3) := by decide +kernel
theorem dL_number_36 : decode cL_number 36 = .ok (.idiv, 1) := by decide +kernel
theorem dL_number_37 : decode cL_number 37 = .ok (.bipush 10, 2) := by decide +kernel
theorem dL_number_39 : decode cL_number 39 = .ok (.irem, 1) := by decide +kernel
theorem dL_number_40 : decode cL_number 40 = .ok (.iadd, 1) := by decide +kernel
theorem dL_number_41 : decode cL_number 41 = .ok (.invokevirtual 107, 3) := by decide +kernel
theorem dL_number_44 : decode cL_number 44 = .ok (.ifCond .le 67, 3) := by decide +kernel
theorem dL_number_47 : decode cL_number 47 = .ok (.iload_n 1, 1) := by decide +kernel
theorem dL_number_48 : decode cL_number 48 = .ok (.bipush 100, 2) := by decide +kernel
theorem dL_number_50 : decode cL_number 50 = .ok (.if_icmp .lt 20, 3) := by decide +kernel
theorem dL_number_53 : decode cL_number 53 = .ok (.aload_n 0, 1) := by decide +kernel
theorem dL_number_54 : decode cL_number 54 = .ok (.bipush 48, 2) := by decide +kernel
theorem dL_number_56 : decode cL_number 56 = .ok (.iload_n 1, 1) := by decide +kernel
theorem dL_number_57 : decode cL_number 57 = .ok (.bipush 100, 2) := by decide +kernel
theorem dL_number_59 : decode cL_number 59 = .ok (.idiv, 1) := by decide +kernel
theorem dL_number_60 : decode cL_number 60 = .ok (.bipush 10, 2) := by decide +kernel
theorem dL_number_62 : decode cL_number 62 = .ok (.irem, 1) := by decide +kernel
theorem dL_number_63 : decode cL_number 63 = .ok (.iadd, 1) := by decide +kernel
theorem dL_number_64 : decode cL_number 64 = .ok (.invokevirtual 107, 3) := by decide +kernel
theorem dL_number_67 : decode cL_number 67 = .ok (.ifCond .le 44, 3) := by decide +kernel
theorem dL_number_70 : decode cL_number 70 = .ok (.iload_n 1, 1) := by decide +kernel
theorem dL_number_71 : decode cL_number 71 = .ok (.bipush 10, 2) := by decide +kernel
theorem dL_number_73 : decode cL_number 73 = .ok (.if_icmp .lt 20, 3) := by decide +kernel
theorem dL_number_76 : decode cL_number 76 = .ok (.aload_n 0, 1) := by decide +kernel
theorem dL_number_77 : decode cL_number 77 = .ok (.bipush 48, 2) := by decide +kernel
theorem dL_number_79 : decode cL_number 79 = .ok (.iload_n 1, 1) := by decide +kernel
theorem dL_number_80 : decode cL_number 80 = .ok (.bipush 10, 2) := by decide +kernel
theorem dL_number_82 : decode cL_number 82 = .ok (.idiv, 1) := by decide +kernel
theorem dL_number_83 : decode cL_number 83 = .ok (.bipush 10, 2) := by decide +kernel
theorem dL_number_85 : decode cL_number 85 = .ok (.irem, 1) := by decide +kernel
theorem dL_number_86 : decode cL_number 86 = .ok (.iadd, 1) := by decide +kernel
theorem dL_number_87 : decode cL_number 87 = .ok (.invokevirtual 107, 3) := by decide +kernel
theorem dL_number_90 : decode cL_number 90 = .ok (.ifCond .le 21, 3) := by decide +kernel
theorem dL_number_93 : decode cL_number 93 = .ok (.aload_n 0, 1) := by decide +kernel
theorem dL_number_94 : decode cL_number 94 = .ok (.bipush 48, 2) := by decide +kernel
theorem dL_number_96 : decode cL_number 96 = .ok (.iload_n 1, 1) := by decide +kernel
theorem dL_number_97 : decode cL_number 97 = .ok (.bipush 10, 2) := by decide +kernel
theorem dL_number_99 : decode cL_number 99 = .ok (.irem, 1) := by decide +kernel
theorem dL_number_100 : decode cL_number 100 = .ok (.iadd, 1) := by decide +kernel
theorem dL_number_101 : decode cL_number 101 = .ok (.invokevirtual 107, 3) := by decide +kernel
theorem dL_number_104 : decode cL_number 104 = .ok (.ifCond .le 7, 3) := by decide +kernel
theorem dL_number_107 : decode cL_number 107 = .ok (.iconst 1, 1) := by decide +kernel
theorem dL_number_108 : decode cL_number 108 = .ok (.goto 4, 3) := by decide +kernel
theorem dL_number_112 : decode cL_number 112 = .ok (.ireturn, 1) := by decide +kernel
set_option maxHeartbeats 8000000 in
set_option maxRecDepth 100000 in
theorem mL_number (l : Launch) (hst : l.stackTraces = false) (G : gG) (da : Nat → Nat) (v : vSt) (x : gX) (o1 : Nat) (hk_o1 : kd o1 = 10) (p1 : Int32) (ho : oL_number o1 p1 v) : NI l yL_number cL_number 2 .boolean rmL_number [.ref (ga G o1), .int p1] G da v x 0 0 1 (fL_number o1 p1 v) := by
  refine gofNI (by decide) rfl (Nat.le_of_ble_eq_true rfl) (fun p e s m args below meth c ls Q X hN hH hl E => ?_)
  have hx := X.1
  have hb := X.2.1
  have hown := X.2.2.2.1
  have hts := X.2.2.2.2.1
  have hS : va_S (gA G) s.heap s.heap [] := va_S.rf
  unfold oL_number at ho
  have hl : lv_has ls 2 [(0, .ref (ga G o1)), (1, .int p1)] := hl
  refine lv_iload_n hx hb dL_number_0 rfl (lv_at hl 1 rfl) ?_
  refine lv_sipush (v := 10000) hx hb dL_number_1 (by decide) ?_
  have K2 : ∀ (v1 : vSt) (da : Nat → Nat) (H : Heap) (locs : List Loc) (ls : Array Slot), v1 = (if (p1 : Int32) < 10000 then v else (let v5 : vSt := (fX10_type o1 ((48 : Int32) + (p1 / (10000 : Int32))) v).2.2; let v6 : vSt := gM v5 (fX11_type 461 ((48 : Int32) + (p1 / (10000 : Int32))) v5).2; v6) : vSt) → Hp G da v1 x H → va_S (gA G) s.heap H locs → lv_has ls 2 [(0, .ref (ga G o1)), (1, .int p1)] → W p l e rmL_number s m args below meth c H locs 0 0 Q (F0 m 22 ls []) := by
    intro v1 da H locs ls ev1 hH hS hl
    have ho := ho.2 v1 ev1
    refine lv_iload_n hx hb dL_number_22 rfl (lv_at hl 1 rfl) ?_
    refine lv_sipush (v := 1000) hx hb dL_number_23 (by decide) ?_
    have K4 : ∀ (v3 : vSt) (da : Nat → Nat) (H : Heap) (locs : List Loc) (ls : Array Slot), v3 = (if (p1 : Int32) < 1000 then v1 else (let v7 : vSt := (fX10_type o1 ((48 : Int32) + ((p1 / (1000 : Int32)) - (p1 / (1000 : Int32)) / (10 : Int32) * (10 : Int32))) v1).2.2; let v8 : vSt := gM v7 (fX11_type 461 ((48 : Int32) + ((p1 / (1000 : Int32)) - (p1 / (1000 : Int32)) / (10 : Int32) * (10 : Int32))) v7).2; v8) : vSt) → Hp G da v3 x H → va_S (gA G) s.heap H locs → lv_has ls 2 [(0, .ref (ga G o1)), (1, .int p1)] → W p l e rmL_number s m args below meth c H locs 0 0 Q (F0 m 47 ls []) := by
      intro v3 da H locs ls ev3 hH hS hl
      have ho := ho.2 v3 ev3
      refine lv_iload_n hx hb dL_number_47 rfl (lv_at hl 1 rfl) ?_
      refine lv_bipush (v := 100) hx hb dL_number_48 (by decide) ?_
      have K6 : ∀ (v5 : vSt) (da : Nat → Nat) (H : Heap) (locs : List Loc) (ls : Array Slot), v5 = (if (p1 : Int32) < 100 then v3 else (let v9 : vSt := (fX10_type o1 ((48 : Int32) + ((p1 / (100 : Int32)) - (p1 / (100 : Int32)) / (10 : Int32) * (10 : Int32))) v3).2.2; let v10 : vSt := gM v9 (fX11_type 461 ((48 : Int32) + ((p1 / (100 : Int32)) - (p1 / (100 : Int32)) / (10 : Int32) * (10 : Int32))) v9).2; v10) : vSt) → Hp G da v5 x H → va_S (gA G) s.heap H locs → lv_has ls 2 [(0, .ref (ga G o1)), (1, .int p1)] → W p l e rmL_number s m args below meth c H locs 0 0 Q (F0 m 70 ls []) := by
        intro v5 da H locs ls ev5 hH hS hl
        have ho := ho.2 v5 ev5
        refine lv_iload_n hx hb dL_number_70 rfl (lv_at hl 1 rfl) ?_
        refine lv_bipush (v := 10) hx hb dL_number_71 (by decide) ?_
        have K8 : ∀ (v7 : vSt) (da : Nat → Nat) (H : Heap) (locs : List Loc) (ls : Array Slot), v7 = (if (p1 : Int32) < 10 then v5 else (let v11 : vSt := (fX10_type o1 ((48 : Int32) + ((p1 / (10 : Int32)) - (p1 / (10 : Int32)) / (10 : Int32) * (10 : Int32))) v5).2.2; let v12 : vSt := gM v11 (fX11_type 461 ((48 : Int32) + ((p1 / (10 : Int32)) - (p1 / (10 : Int32)) / (10 : Int32) * (10 : Int32))) v11).2; v12) : vSt) → Hp G da v7 x H → va_S (gA G) s.heap H locs → lv_has ls 2 [(0, .ref (ga G o1)), (1, .int p1)] → W p l e rmL_number s m args below meth c H locs 0 0 Q (F0 m 93 ls []) := by
          intro v7 da H locs ls ev7 hH hS hl
          have ho := ho.2 v7 ev7
          refine lv_aload_n hx hb dL_number_93 rfl (lv_at hl 0 rfl) ?_
          refine lv_bipush (v := 48) hx hb dL_number_94 (by decide) ?_
          refine lv_iload_n hx hb dL_number_96 rfl (lv_at hl 1 rfl) ?_
          refine lv_bipush (v := 10) hx hb dL_number_97 (by decide) ?_
          refine lv_irem hx hb dL_number_99 (by decide) ?_
          refine lv_iadd hx hb dL_number_100 ?_
          have hq9 := ho.1
          have ho := ho.2
          have hq10 := ho.1
          have ho := ho.2
          refine kZ_X10_type X hS hH hk_o1 hq9 hq10 t_ml_VernierDrawersLaw_107 hl.1 (Nat.le_of_ble_eq_true rfl) ⟨Nat.le_of_ble_eq_true rfl, Nat.le_of_ble_eq_true rfl⟩ ⟨Nat.zero_le _, Nat.zero_le _⟩ dL_number_101 (fun da H locs v11 ev11 hH hS => ?_)
          have ho := ho v11 ev11
          obtain ⟨v12, ev12⟩ : ∃ z : vSt, z = gM v11 (fX11_type 461 ((48 : Int32) + (p1 - p1 / (10 : Int32) * (10 : Int32))) v11).2 := ⟨_, rfl⟩
          replace hH := hH.gM ev12
          have ho := ho v12 ev12
          refine lv_if_le (tgt := 111) hx hb dL_number_104 (by decide) (fun c13 => ?_) (fun c13 => ?_)
          · exact absurd c13 ho
          refine lv_iconst (v := 1) hx hb dL_number_107 (by decide) ?_
          refine lv_goto (tgt := 112) hx hb dL_number_108 (by decide) ?_
          have hHz := hH
          have hSz := hS
          have hFz : fL_number o1 p1 v = v12 := by
            refine (fL_number.eq_1 _ _ _).trans ?_
            dsimp only
            try rw [← ev1]
            try rw [← ev3]
            try rw [← ev5]
            try rw [← ev7]
            try rw [← ev11]
            try rw [← ev12]
          exact E _ _ _ _ _ _ _ _ _ dL_number_112 rfl rfl (Eq.symm hFz) hHz hSz (Nat.zero_le _) (Nat.zero_le _)
        have ho := ho.1
        refine lv_icmp_lt (tgt := 93) hx hb dL_number_73 (by decide) (fun c8 => ?_) (fun c8 => ?_)
        · skip
          have hlz := hl
          have hHz := hH
          have hSz := hS
          exact K8 _ _ _ _ _ (Eq.symm ((if_pos c8).trans rfl)) hHz hSz (lv_sub hlz [0, 1] rfl)
        · have ho := ho c8
          refine lv_aload_n hx hb dL_number_76 rfl (lv_at hl 0 rfl) ?_
          refine lv_bipush (v := 48) hx hb dL_number_77 (by decide) ?_
          refine lv_iload_n hx hb dL_number_79 rfl (lv_at hl 1 rfl) ?_
          refine lv_bipush (v := 10) hx hb dL_number_80 (by decide) ?_
          refine lv_idiv hx hb dL_number_82 (by decide) ?_
          refine lv_bipush (v := 10) hx hb dL_number_83 (by decide) ?_
          refine lv_irem hx hb dL_number_85 (by decide) ?_
          refine lv_iadd hx hb dL_number_86 ?_
          have hq9 := ho.1
          have ho := ho.2
          have hq10 := ho.1
          have ho := ho.2
          refine kZ_X10_type X hS hH hk_o1 hq9 hq10 t_ml_VernierDrawersLaw_107 hl.1 (Nat.le_of_ble_eq_true rfl) ⟨Nat.le_of_ble_eq_true rfl, Nat.le_of_ble_eq_true rfl⟩ ⟨Nat.zero_le _, Nat.zero_le _⟩ dL_number_87 (fun da H locs v11 ev11 hH hS => ?_)
          have ho := ho v11 ev11
          obtain ⟨v12, ev12⟩ : ∃ z : vSt, z = gM v11 (fX11_type 461 ((48 : Int32) + ((p1 / (10 : Int32)) - (p1 / (10 : Int32)) / (10 : Int32) * (10 : Int32))) v11).2 := ⟨_, rfl⟩
          replace hH := hH.gM ev12
          have ho := ho v12 ev12
          refine lv_if_le (tgt := 111) hx hb dL_number_90 (by decide) (fun c13 => ?_) (fun c13 => ?_)
          · exact absurd c13 ho
          have hlz := hl
          have hHz := hH
          have hSz := hS
          replace ev11 := Eq.symm ev11
          replace ev12 := Eq.symm ev12
          subst ev11 ev12
          exact K8 _ _ _ _ _ (Eq.symm ((if_neg c8).trans rfl)) hHz hSz (lv_sub hlz [0, 1] rfl)
      have ho := ho.1
      refine lv_icmp_lt (tgt := 70) hx hb dL_number_50 (by decide) (fun c6 => ?_) (fun c6 => ?_)
      · skip
        have hlz := hl
        have hHz := hH
        have hSz := hS
        exact K6 _ _ _ _ _ (Eq.symm ((if_pos c6).trans rfl)) hHz hSz (lv_sub hlz [0, 1] rfl)
      · have ho := ho c6
        refine lv_aload_n hx hb dL_number_53 rfl (lv_at hl 0 rfl) ?_
        refine lv_bipush (v := 48) hx hb dL_number_54 (by decide) ?_
        refine lv_iload_n hx hb dL_number_56 rfl (lv_at hl 1 rfl) ?_
        refine lv_bipush (v := 100) hx hb dL_number_57 (by decide) ?_
        refine lv_idiv hx hb dL_number_59 (by decide) ?_
        refine lv_bipush (v := 10) hx hb dL_number_60 (by decide) ?_
        refine lv_irem hx hb dL_number_62 (by decide) ?_
        refine lv_iadd hx hb dL_number_63 ?_
        have hq7 := ho.1
        have ho := ho.2
        have hq8 := ho.1
        have ho := ho.2
        refine kZ_X10_type X hS hH hk_o1 hq7 hq8 t_ml_VernierDrawersLaw_107 hl.1 (Nat.le_of_ble_eq_true rfl) ⟨Nat.le_of_ble_eq_true rfl, Nat.le_of_ble_eq_true rfl⟩ ⟨Nat.zero_le _, Nat.zero_le _⟩ dL_number_64 (fun da H locs v9 ev9 hH hS => ?_)
        have ho := ho v9 ev9
        obtain ⟨v10, ev10⟩ : ∃ z : vSt, z = gM v9 (fX11_type 461 ((48 : Int32) + ((p1 / (100 : Int32)) - (p1 / (100 : Int32)) / (10 : Int32) * (10 : Int32))) v9).2 := ⟨_, rfl⟩
        replace hH := hH.gM ev10
        have ho := ho v10 ev10
        refine lv_if_le (tgt := 111) hx hb dL_number_67 (by decide) (fun c11 => ?_) (fun c11 => ?_)
        · exact absurd c11 ho
        have hlz := hl
        have hHz := hH
        have hSz := hS
        replace ev9 := Eq.symm ev9
        replace ev10 := Eq.symm ev10
        subst ev9 ev10
        exact K6 _ _ _ _ _ (Eq.symm ((if_neg c6).trans rfl)) hHz hSz (lv_sub hlz [0, 1] rfl)
    have ho := ho.1
    refine lv_icmp_lt (tgt := 47) hx hb dL_number_26 (by decide) (fun c4 => ?_) (fun c4 => ?_)
    · skip
      have hlz := hl
      have hHz := hH
      have hSz := hS
      exact K4 _ _ _ _ _ (Eq.symm ((if_pos c4).trans rfl)) hHz hSz (lv_sub hlz [0, 1] rfl)
    · have ho := ho c4
      refine lv_aload_n hx hb dL_number_29 rfl (lv_at hl 0 rfl) ?_
      refine lv_bipush (v := 48) hx hb dL_number_30 (by decide) ?_
      refine lv_iload_n hx hb dL_number_32 rfl (lv_at hl 1 rfl) ?_
      refine lv_sipush (v := 1000) hx hb dL_number_33 (by decide) ?_
      refine lv_idiv hx hb dL_number_36 (by decide) ?_
      refine lv_bipush (v := 10) hx hb dL_number_37 (by decide) ?_
      refine lv_irem hx hb dL_number_39 (by decide) ?_
      refine lv_iadd hx hb dL_number_40 ?_
      have hq5 := ho.1
      have ho := ho.2
      have hq6 := ho.1
      have ho := ho.2
      refine kZ_X10_type X hS hH hk_o1 hq5 hq6 t_ml_VernierDrawersLaw_107 hl.1 (Nat.le_of_ble_eq_true rfl) ⟨Nat.le_of_ble_eq_true rfl, Nat.le_of_ble_eq_true rfl⟩ ⟨Nat.zero_le _, Nat.zero_le _⟩ dL_number_41 (fun da H locs v7 ev7 hH hS => ?_)
      have ho := ho v7 ev7
      obtain ⟨v8, ev8⟩ : ∃ z : vSt, z = gM v7 (fX11_type 461 ((48 : Int32) + ((p1 / (1000 : Int32)) - (p1 / (1000 : Int32)) / (10 : Int32) * (10 : Int32))) v7).2 := ⟨_, rfl⟩
      replace hH := hH.gM ev8
      have ho := ho v8 ev8
      refine lv_if_le (tgt := 111) hx hb dL_number_44 (by decide) (fun c9 => ?_) (fun c9 => ?_)
      · exact absurd c9 ho
      have hlz := hl
      have hHz := hH
      have hSz := hS
      replace ev7 := Eq.symm ev7
      replace ev8 := Eq.symm ev8
      subst ev7 ev8
      exact K4 _ _ _ _ _ (Eq.symm ((if_neg c4).trans rfl)) hHz hSz (lv_sub hlz [0, 1] rfl)
  have ho := ho.1
  refine lv_icmp_lt (tgt := 22) hx hb dL_number_4 (by decide) (fun c2 => ?_) (fun c2 => ?_)
  · skip
    have hlz := hl
    have hHz := hH
    have hSz := hS
    exact K2 _ _ _ _ _ (Eq.symm ((if_pos c2).trans rfl)) hHz hSz (lv_sub hlz [0, 1] rfl)
  · have ho := ho c2
    refine lv_aload_n hx hb dL_number_7 rfl (lv_at hl 0 rfl) ?_
    refine lv_bipush (v := 48) hx hb dL_number_8 (by decide) ?_
    refine lv_iload_n hx hb dL_number_10 rfl (lv_at hl 1 rfl) ?_
    refine lv_sipush (v := 10000) hx hb dL_number_11 (by decide) ?_
    refine lv_idiv hx hb dL_number_14 (by decide) ?_
    refine lv_iadd hx hb dL_number_15 ?_
    have hq3 := ho.1
    have ho := ho.2
    have hq4 := ho.1
    have ho := ho.2
    refine kZ_X10_type X hS hH hk_o1 hq3 hq4 t_ml_VernierDrawersLaw_107 hl.1 (Nat.le_of_ble_eq_true rfl) ⟨Nat.le_of_ble_eq_true rfl, Nat.le_of_ble_eq_true rfl⟩ ⟨Nat.zero_le _, Nat.zero_le _⟩ dL_number_16 (fun da H locs v5 ev5 hH hS => ?_)
    have ho := ho v5 ev5
    obtain ⟨v6, ev6⟩ : ∃ z : vSt, z = gM v5 (fX11_type 461 ((48 : Int32) + (p1 / (10000 : Int32))) v5).2 := ⟨_, rfl⟩
    replace hH := hH.gM ev6
    have ho := ho v6 ev6
    refine lv_if_le (tgt := 111) hx hb dL_number_19 (by decide) (fun c7 => ?_) (fun c7 => ?_)
    · exact absurd c7 ho
    have hlz := hl
    have hHz := hH
    have hSz := hS
    replace ev5 := Eq.symm ev5
    replace ev6 := Eq.symm ev6
    subst ev5 ev6
    exact K2 _ _ _ _ _ (Eq.symm ((if_neg c2).trans rfl)) hHz hSz (lv_sub hlz [0, 1] rfl)
theorem k_L_number {p : Program} {l : Launch} {e : Env} {R : Room} {s : State} {m : MethodId} {args : Array Value} {below : List Frame} {meth : Method} {c : Code} {H : Heap} {locs : List Loc} {cells slots : Nat} {Q : State → Prop} {cc : ByteArray} {pc nL : Nat} {ls : Array Slot} {rest : List Value} {G : gG} {own : String} {da : Nat → Nat} {v : vSt} {x : gX} (hst : l.stackTraces = false) (X : CX G p s m args c cc nL own) (hS : va_S (gA G) s.heap H locs) (hN : NC s) (hH : Hp G da v x H) {o1 : Nat} (hk_o1 : kd o1 = 10) {p1 : Int32} (ho : oL_number o1 p1 v) {idx : Nat} (hml : Cond.methodLink own idx yL_number ∈ TT) (hls : ls.size = nL) (hsum : (rest.map fun v => v.category).sum ≤ 8) (hR : rmL_number.frames + 1 ≤ R.frames ∧ 8 + (2 + 11) + rmL_number.locals ≤ R.locals) (hcs : cells ≤ R.cells ∧ slots ≤ R.slots) (hdg : decode cc pc = .ok (.invokestatic idx, 3)) (kk : ∀ (d : Nat → Nat) (H1 : Heap) (locs1 : List Loc) (v1 : vSt), v1 = fL_number o1 p1 v → Hp G d v1 x H1 → va_S (gA G) s.heap H1 locs1 → W p l e R s m args below meth c H1 locs1 cells slots Q (F0 m (pc + 3) ls (.int 1 :: rest))) : W p l e R s m args below meth c H locs cells slots Q (F0 m pc ls (.int p1 :: .ref (ga G o1) :: rest)) := c_mi X.2.2.2.2.2.2 (runS (k := 2) X.1 X.2.1 X.2.2.1 X.2.2.2.1 X.2.2.2.2.1 (mL_number l hst G da v x o1 hk_o1 p1 ho) pN_bl hml t_st_L_number t_ini_VernierDrawersLaw t_code_L_number ⟨by decide, by decide, by decide +kernel⟩ rfl rfl hR hcs (preN X hN hS hH) rfl hls rfl hsum hdg) hS kk
def lL_reads_23 (o1 : Nat) (p1 : Int32) : Nat → Int32 → vSt → vSt
  | 0, i5, v6 => v6
  | n + 1, i5, v6 => if ((fL_low p1 7) : Int32) ≤ i5 then v6 else (let y11 : Int32 := (if ((fL_low (p1 >>> ((22 : Int32) &&& 31)) 9) : Int32) = 0 then 1 else 0 : Int32); let y13 : Int32 := (if (3 : Int32) ≤ (fL_low (p1 >>> (((1 : Int32) + ((2 : Int32) * i5)) &&& 31)) 20) then (if (5 : Int32) ≤ (fL_low (p1 >>> (((1 : Int32) + ((2 : Int32) * i5)) &&& 31)) 20) then (if (11 : Int32) ≤ (fL_low (p1 >>> (((1 : Int32) + ((2 : Int32) * i5)) &&& 31)) 20) then (if (17 : Int32) ≤ (fL_low (p1 >>> (((1 : Int32) + ((2 : Int32) * i5)) &&& 31)) 20) then (if (18 : Int32) ≤ (fL_low (p1 >>> (((1 : Int32) + ((2 : Int32) * i5)) &&& 31)) 20) then (if (19 : Int32) ≤ (fL_low (p1 >>> (((1 : Int32) + ((2 : Int32) * i5)) &&& 31)) 20) then 6 else 5) else 4) else 3) else 2) else 1) else 0 : Int32); let y15 : Int32 := (if (y13 : Int32) = 2 then (fX10_types o1 v6) else (fX10_tools o1 v6) : Int32); let y17 : Int32 := (if (y13 : Int32) = 4 then ((1 : Int32) + (fL_low ((p1 >>> (((1 : Int32) + ((2 : Int32) * i5)) &&& 31)) >>> ((2 : Int32) &&& 31)) 30)) else (let y19 : Int32 := (if (y11 : Int32) = 0 then (if (y15 : Int32) = 0 then 7 else y15) else 7 : Int32); fL_low ((p1 >>> (((1 : Int32) + ((2 : Int32) * i5)) &&& 31)) >>> ((2 : Int32) &&& 31)) y19) : Int32); let y19 : Int32 := (if (y13 : Int32) = 0 then (fL_low ((p1 >>> (((1 : Int32) + ((2 : Int32) * i5)) &&& 31)) >>> ((4 : Int32) &&& 31)) 2600) else (if (y13 : Int32) = 1 then (if ((fX10_blocks o1 v6) : Int32) = 0 then 100 else ((fX10_blockLength o1 (fL_low ((p1 >>> (((1 : Int32) + ((2 : Int32) * i5)) &&& 31)) >>> ((4 : Int32) &&& 31)) (fX10_blocks o1 v6)) v6).2)) else (let y22 : Int32 := (if (y11 : Int32) = 0 then 70 else 250 : Int32); fL_low ((p1 >>> (((1 : Int32) + ((2 : Int32) * i5)) &&& 31)) >>> ((4 : Int32) &&& 31)) y22)) : Int32); let y21 : Int32 := (if (y13 : Int32) = 0 then 109 else (if (y13 : Int32) = 1 then 99 else (if (y13 : Int32) = 2 then 112 else (if (y13 : Int32) = 3 then 106 else (if (y13 : Int32) = 4 then 102 else (if (y13 : Int32) = 5 then 117 else 100))))) : Int32); let v25 : vSt := (fX10_type o1 y21 v6).2.2; let v26 : vSt := gM v25 (fX11_type 461 y21 v25).2; let v28 : vSt := (if (4 : Int32) < y13 then v26 else (let v31 : vSt := fL_number o1 y17 v26; v31) : vSt); let v30 : vSt := (if (2 : Int32) < y13 then v28 else (let y33 : Int32 := (if ((fL_low (p1 >>> ((23 : Int32) &&& 31)) 11) : Int32) = 0 then 46 else 44 : Int32); let v37 : vSt := (fX10_type o1 y33 v28).2.2; let v38 : vSt := gM v37 (fX11_type 461 y33 v37).2; let v41 : vSt := fL_number o1 y19 v38; v41) : vSt); let y32 : Int32 := (if (i5 : Int32) = ((fL_low p1 7) - (1 : Int32)) then (if ((fL_low (p1 >>> ((26 : Int32) &&& 31)) 7) : Int32) = 0 then 46 else 59) else 59 : Int32); let v36 : vSt := (fX10_type o1 y32 v30).2.2; let v37 : vSt := gM v36 (fX11_type 461 y32 v36).2; lL_reads_23 o1 p1 n (i5 + 1) v37)
def fL_reads (o1 : Nat) (p1 : Int32) (v : vSt) : vSt := let v2 : vSt := (fX10_clearText o1 v).2; let v3 : vSt := gM v2 (fX11_clearText 461 v2).2; let v7 : vSt := (lL_reads_23 o1 p1 (8) 0 v3); let v50 : vSt := (fL_faultPosition o1 v7).2; let v55 : vSt := (fL_faultReason o1 v50).2; let v60 : vSt := (fL_faultCause o1 v55).2; let v65 : vSt := (fL_play o1 v60).2; let v67 : vSt := (fX10_clearText o1 v65).2; let v68 : vSt := gM v67 (fX11_clearText 461 v67).2; let y70 : Int32 := (if (((fL_faultPosition o1 v7).1) : Int32) = (-100104) then 1 else 0 : Int32); let y72 : Int32 := (if (((fL_faultReason o1 v50).1) : Int32) = (-100104) then 1 else 0 : Int32); let y75 : Int32 := (if (((fL_faultPosition o1 v7).1) : Int32) = (-100104) then 1 else 0 : Int32); let y77 : Int32 := (if (((fL_faultCause o1 v55).1) : Int32) = (-100104) then 1 else 0 : Int32); let y80 : Int32 := (if (((fL_play o1 v60).1) : Int32) = (-100103) then 1 else 0 : Int32); let y82 : Int32 := (if (((fL_faultPosition o1 v7).1) : Int32) < 0 then 0 else 1 : Int32); if (((fL_faultPosition o1 v7).1) : Int32) < 0 then (let y88 : Int32 := (if (4 : Int32) ≤ (fX10_states o1 v7) then 4 else ((fX10_states o1 v7) + (1 : Int32)) : Int32); v68) else v68
def kkL_reads (o1 : Nat) (p1 : Int32) (v : vSt) : Nat := pot (fL_reads o1 p1 v) - pot v + 144
def olL_reads_23 (o1 : Nat) (p1 : Int32) : Nat → Int32 → vSt → Prop
  | 0, _, _ => False
  | n + 1, i5, v6 => ¬ (((fL_low p1 7) : Int32) ≤ i5) → ((oL_low (p1 >>> (((1 : Int32) + ((2 : Int32) * i5)) &&& 31)) 20) ∧ ((oL_low (p1 >>> ((22 : Int32) &&& 31)) 9) ∧ ((∀ (y11 : Int32), y11 = ((if ((fL_low (p1 >>> ((22 : Int32) &&& 31)) 9) : Int32) = 0 then 1 else 0 : Int32) : Int32) → ((∀ (y13 : Int32), y13 = ((if (3 : Int32) ≤ (fL_low (p1 >>> (((1 : Int32) + ((2 : Int32) * i5)) &&& 31)) 20) then (if (5 : Int32) ≤ (fL_low (p1 >>> (((1 : Int32) + ((2 : Int32) * i5)) &&& 31)) 20) then (if (11 : Int32) ≤ (fL_low (p1 >>> (((1 : Int32) + ((2 : Int32) * i5)) &&& 31)) 20) then (if (17 : Int32) ≤ (fL_low (p1 >>> (((1 : Int32) + ((2 : Int32) * i5)) &&& 31)) 20) then (if (18 : Int32) ≤ (fL_low (p1 >>> (((1 : Int32) + ((2 : Int32) * i5)) &&& 31)) 20) then (if (19 : Int32) ≤ (fL_low (p1 >>> (((1 : Int32) + ((2 : Int32) * i5)) &&& 31)) 20) then 6 else 5) else 4) else 3) else 2) else 1) else 0 : Int32) : Int32) → (((((y13 : Int32) = 2) → (oX10_types o1 v6)) ∧ (¬ ((y13 : Int32) = 2) → (oX10_tools o1 v6))) ∧ (∀ (y15 : Int32), y15 = ((if (y13 : Int32) = 2 then (fX10_types o1 v6) else (fX10_tools o1 v6) : Int32) : Int32) → (((((y13 : Int32) = 4) → (oL_low ((p1 >>> (((1 : Int32) + ((2 : Int32) * i5)) &&& 31)) >>> ((2 : Int32) &&& 31)) 30)) ∧ (¬ ((y13 : Int32) = 4) → ((∀ (y19 : Int32), y19 = ((if (y11 : Int32) = 0 then (if (y15 : Int32) = 0 then 7 else y15) else 7 : Int32) : Int32) → (oL_low ((p1 >>> (((1 : Int32) + ((2 : Int32) * i5)) &&& 31)) >>> ((2 : Int32) &&& 31)) y19))))) ∧ (∀ (y17 : Int32), y17 = ((if (y13 : Int32) = 4 then ((1 : Int32) + (fL_low ((p1 >>> (((1 : Int32) + ((2 : Int32) * i5)) &&& 31)) >>> ((2 : Int32) &&& 31)) 30)) else (let y19 : Int32 := (if (y11 : Int32) = 0 then (if (y15 : Int32) = 0 then 7 else y15) else 7 : Int32); fL_low ((p1 >>> (((1 : Int32) + ((2 : Int32) * i5)) &&& 31)) >>> ((2 : Int32) &&& 31)) y19) : Int32) : Int32) → (((((y13 : Int32) = 0) → (oL_low ((p1 >>> (((1 : Int32) + ((2 : Int32) * i5)) &&& 31)) >>> ((4 : Int32) &&& 31)) 2600)) ∧ (¬ ((y13 : Int32) = 0) → ((((y13 : Int32) = 1) → ((oX10_blocks o1 v6) ∧ (¬ (((fX10_blocks o1 v6) : Int32) = 0) → ((oL_low ((p1 >>> (((1 : Int32) + ((2 : Int32) * i5)) &&& 31)) >>> ((4 : Int32) &&& 31)) (fX10_blocks o1 v6)) ∧ ((oX10_blockLength o1 (fL_low ((p1 >>> (((1 : Int32) + ((2 : Int32) * i5)) &&& 31)) >>> ((4 : Int32) &&& 31)) (fX10_blocks o1 v6)) v6) ∧ ((fX10_blockLength o1 (fL_low ((p1 >>> (((1 : Int32) + ((2 : Int32) * i5)) &&& 31)) >>> ((4 : Int32) &&& 31)) (fX10_blocks o1 v6)) v6).1 = 0)))))) ∧ (¬ ((y13 : Int32) = 1) → ((∀ (y22 : Int32), y22 = ((if (y11 : Int32) = 0 then 70 else 250 : Int32) : Int32) → (oL_low ((p1 >>> (((1 : Int32) + ((2 : Int32) * i5)) &&& 31)) >>> ((4 : Int32) &&& 31)) y22))))))) ∧ (∀ (y19 : Int32), y19 = ((if (y13 : Int32) = 0 then (fL_low ((p1 >>> (((1 : Int32) + ((2 : Int32) * i5)) &&& 31)) >>> ((4 : Int32) &&& 31)) 2600) else (if (y13 : Int32) = 1 then (if ((fX10_blocks o1 v6) : Int32) = 0 then 100 else ((fX10_blockLength o1 (fL_low ((p1 >>> (((1 : Int32) + ((2 : Int32) * i5)) &&& 31)) >>> ((4 : Int32) &&& 31)) (fX10_blocks o1 v6)) v6).2)) else (let y22 : Int32 := (if (y11 : Int32) = 0 then 70 else 250 : Int32); fL_low ((p1 >>> (((1 : Int32) + ((2 : Int32) * i5)) &&& 31)) >>> ((4 : Int32) &&& 31)) y22)) : Int32) : Int32) → ((∀ (y21 : Int32), y21 = ((if (y13 : Int32) = 0 then 109 else (if (y13 : Int32) = 1 then 99 else (if (y13 : Int32) = 2 then 112 else (if (y13 : Int32) = 3 then 106 else (if (y13 : Int32) = 4 then 102 else (if (y13 : Int32) = 5 then 117 else 100))))) : Int32) : Int32) → ((oX10_type o1 y21 v6) ∧ (((fX10_type o1 y21 v6).1 = 0) ∧ (∀ v25 : vSt, v25 = ((fX10_type o1 y21 v6).2.2) → (∀ v26 : vSt, v26 = (gM v25 (fX11_type 461 y21 v25).2) → ((¬ ((((fX10_type o1 y21 v6).2.1) : Int32) ≤ 0)) ∧ ((¬ ((4 : Int32) < y13) → (oL_number o1 y17 v26)) ∧ (∀ (v28 : vSt), v28 = ((if (4 : Int32) < y13 then v26 else (let v31 : vSt := fL_number o1 y17 v26; v31) : vSt) : vSt) → ((¬ ((2 : Int32) < y13) → ((oL_low (p1 >>> ((23 : Int32) &&& 31)) 11) ∧ ((∀ (y33 : Int32), y33 = ((if ((fL_low (p1 >>> ((23 : Int32) &&& 31)) 11) : Int32) = 0 then 46 else 44 : Int32) : Int32) → ((oX10_type o1 y33 v28) ∧ (((fX10_type o1 y33 v28).1 = 0) ∧ (∀ v37 : vSt, v37 = ((fX10_type o1 y33 v28).2.2) → (∀ v38 : vSt, v38 = (gM v37 (fX11_type 461 y33 v37).2) → ((¬ ((((fX10_type o1 y33 v28).2.1) : Int32) ≤ 0)) ∧ (oL_number o1 y19 v38)))))))))) ∧ (∀ (v30 : vSt), v30 = ((if (2 : Int32) < y13 then v28 else (let y33 : Int32 := (if ((fL_low (p1 >>> ((23 : Int32) &&& 31)) 11) : Int32) = 0 then 46 else 44 : Int32); let v37 : vSt := (fX10_type o1 y33 v28).2.2; let v38 : vSt := gM v37 (fX11_type 461 y33 v37).2; let v41 : vSt := fL_number o1 y19 v38; v41) : vSt) : vSt) → ((((i5 : Int32) = ((fL_low p1 7) - (1 : Int32))) → (oL_low (p1 >>> ((26 : Int32) &&& 31)) 7)) ∧ (∀ (y32 : Int32), y32 = ((if (i5 : Int32) = ((fL_low p1 7) - (1 : Int32)) then (if ((fL_low (p1 >>> ((26 : Int32) &&& 31)) 7) : Int32) = 0 then 46 else 59) else 59 : Int32) : Int32) → ((oX10_type o1 y32 v30) ∧ (((fX10_type o1 y32 v30).1 = 0) ∧ (∀ v36 : vSt, v36 = ((fX10_type o1 y32 v30).2.2) → (∀ v37 : vSt, v37 = (gM v36 (fX11_type 461 y32 v36).2) → ((¬ ((((fX10_type o1 y32 v30).2.1) : Int32) ≤ 0)) ∧ (olL_reads_23 o1 p1 n (i5 + 1) v37)))))))))))))))))))))))))))))))
def oL_reads (o1 : Nat) (p1 : Int32) (v : vSt) : Prop := (oL_low p1 7) ∧ (∀ v2 : vSt, v2 = ((fX10_clearText o1 v).2) → (∀ v3 : vSt, v3 = (gM v2 (fX11_clearText 461 v2).2) → ((¬ ((((fX10_clearText o1 v).1) : Int32) < 0)) ∧ (olL_reads_23 o1 p1 (8) 0 v3 ∧ (∀ (v7 : vSt), v7 = ((lL_reads_23 o1 p1 (8) 0 v3) : vSt) → ((oL_faultPosition o1 v7) ∧ ((pot v ≤ pot v7 ∧ pot v7 ≤ pot ((fL_faultPosition o1 v7).2) ∧ pot ((fL_faultPosition o1 v7).2) ≤ pot (fL_reads o1 p1 v)) ∧ (∀ v50 : vSt, v50 = ((fL_faultPosition o1 v7).2) → ((oL_faultReason o1 v50) ∧ ((pot v ≤ pot v50 ∧ pot v50 ≤ pot ((fL_faultReason o1 v50).2) ∧ pot ((fL_faultReason o1 v50).2) ≤ pot (fL_reads o1 p1 v)) ∧ (∀ v55 : vSt, v55 = ((fL_faultReason o1 v50).2) → ((oL_faultCause o1 v55) ∧ ((pot v ≤ pot v55 ∧ pot v55 ≤ pot ((fL_faultCause o1 v55).2) ∧ pot ((fL_faultCause o1 v55).2) ≤ pot (fL_reads o1 p1 v)) ∧ (∀ v60 : vSt, v60 = ((fL_faultCause o1 v55).2) → ((oL_play o1 v60) ∧ ((pot v ≤ pot v60 ∧ pot v60 ≤ pot ((fL_play o1 v60).2) ∧ pot ((fL_play o1 v60).2) ≤ pot (fL_reads o1 p1 v)) ∧ (∀ v65 : vSt, v65 = ((fL_play o1 v60).2) → (∀ v67 : vSt, v67 = ((fX10_clearText o1 v65).2) → (∀ v68 : vSt, v68 = (gM v67 (fX11_clearText 461 v67).2) → ((∀ (y70 : Int32), y70 = ((if (((fL_faultPosition o1 v7).1) : Int32) = (-100104) then 1 else 0 : Int32) : Int32) → ((∀ (y72 : Int32), y72 = ((if (((fL_faultReason o1 v50).1) : Int32) = (-100104) then 1 else 0 : Int32) : Int32) → (((y70 : Int32) = y72) ∧ ((∀ (y75 : Int32), y75 = ((if (((fL_faultPosition o1 v7).1) : Int32) = (-100104) then 1 else 0 : Int32) : Int32) → ((∀ (y77 : Int32), y77 = ((if (((fL_faultCause o1 v55).1) : Int32) = (-100104) then 1 else 0 : Int32) : Int32) → (((y75 : Int32) = y77) ∧ ((∀ (y80 : Int32), y80 = ((if (((fL_play o1 v60).1) : Int32) = (-100103) then 1 else 0 : Int32) : Int32) → ((∀ (y82 : Int32), y82 = ((if (((fL_faultPosition o1 v7).1) : Int32) < 0 then 0 else 1 : Int32) : Int32) → (((y80 : Int32) = y82) ∧ ((((((fL_faultPosition o1 v7).1) : Int32) < 0) → (((((fL_play o1 v60).1) : Int32) = (fL_low p1 7)) ∧ ((∀ (y88 : Int32), y88 = ((if (4 : Int32) ≤ (fX10_states o1 v7) then 4 else ((fX10_states o1 v7) + (1 : Int32)) : Int32) : Int32) → ((((fX10_states o1 v68) : Int32) = y88)))))) ∧ (¬ ((((fL_faultPosition o1 v7).1) : Int32) < 0) → ((¬ ((((fX10_clearText o1 v65).1) : Int32) ≤ ((fL_faultPosition o1 v7).1))) ∧ (((((((fL_faultReason o1 v50).1) : Int32) = 1) → ((¬ ((((fL_faultCause o1 v55).1) : Int32) < 0)) ∧ ((¬ ((((fX10_clearText o1 v65).1) : Int32) < (((fL_faultPosition o1 v7).1) + ((fL_faultCause o1 v55).1))))))) ∧ (¬ ((((fL_faultReason o1 v50).1) : Int32) = 1) → (((((fL_faultReason o1 v50).1) : Int32) = 2) ∧ (¬ ((((fL_faultCause o1 v55).1) : Int32) = 1) → (((((fL_faultCause o1 v55).1) : Int32) = 2)))))) ∧ ((((fX10_states o1 v68) : Int32) = (fX10_states o1 v7)))))))))))))))))))))))))))))))))))))))))
abbrev rmL_reads (o1 : Nat) (p1 : Int32) (v : vSt) : Room := { frames := 10, cells := kkL_reads o1 p1 v, slots := kkL_reads o1 p1 v, locals := 273 }
theorem dL_reads_0 : decode cL_reads 0 = .ok (.iload_n 1, 1) := by decide +kernel
theorem dL_reads_1 : decode cL_reads 1 = .ok (.bipush 7, 2) := by decide +kernel
theorem dL_reads_3 : decode cL_reads 3 = .ok (.invokestatic 250, 3) := by decide +kernel
theorem dL_reads_6 : decode cL_reads 6 = .ok (.istore_n 2, 1) := by decide +kernel
theorem dL_reads_7 : decode cL_reads 7 = .ok (.aload_n 0, 1) := by decide +kernel
theorem dL_reads_8 : decode cL_reads 8 = .ok (.invokevirtual 327, 3) := by decide +kernel
theorem dL_reads_11 : decode cL_reads 11 = .ok (.ifCond .lt 7, 3) := by decide +kernel
theorem dL_reads_14 : decode cL_reads 14 = .ok (.iconst 1, 1) := by decide +kernel
theorem dL_reads_15 : decode cL_reads 15 = .ok (.goto 4, 3) := by decide +kernel
theorem dL_reads_19 : decode cL_reads 19 = .ok (.istore_n 3, 1) := by decide +kernel
theorem dL_reads_20 : decode cL_reads 20 = .ok (.iconst 0, 1) := by decide +kernel
theorem dL_reads_21 : decode cL_reads 21 = .ok (.istore 4, 2) := by decide +kernel
theorem dL_reads_23 : decode cL_reads 23 = .ok (.iload 4, 2) := by decide +kernel
theorem dL_reads_25 : decode cL_reads 25 = .ok (.iload_n 2, 1) := by decide +kernel
theorem dL_reads_26 : decode cL_reads 26 = .ok (.if_icmp .ge 430, 3) := by decide +kernel
theorem dL_reads_29 : decode cL_reads 29 = .ok (.iload_n 3, 1) := by decide +kernel
theorem dL_reads_30 : decode cL_reads 30 = .ok (.ifCond .eq 426, 3) := by decide +kernel
theorem dL_reads_33 : decode cL_reads 33 = .ok (.iload_n 1, 1) := by decide +kernel
theorem dL_reads_34 : decode cL_reads 34 = .ok (.iconst 1, 1) := by decide +kernel
theorem dL_reads_35 : decode cL_reads 35 = .ok (.iconst 2, 1) := by decide +kernel
theorem dL_reads_36 : decode cL_reads 36 = .ok (.iload 4, 2) := by decide +kernel
theorem dL_reads_38 : decode cL_reads 38 = .ok (.imul, 1) := by decide +kernel
theorem dL_reads_39 : decode cL_reads 39 = .ok (.iadd, 1) := by decide +kernel
theorem dL_reads_40 : decode cL_reads 40 = .ok (.ishr, 1) := by decide +kernel
theorem dL_reads_41 : decode cL_reads 41 = .ok (.istore 5, 2) := by decide +kernel
theorem dL_reads_43 : decode cL_reads 43 = .ok (.iload 5, 2) := by decide +kernel
theorem dL_reads_45 : decode cL_reads 45 = .ok (.bipush 20, 2) := by decide +kernel
theorem dL_reads_47 : decode cL_reads 47 = .ok (.invokestatic 250, 3) := by decide +kernel
theorem dL_reads_50 : decode cL_reads 50 = .ok (.istore 6, 2) := by decide +kernel
theorem dL_reads_52 : decode cL_reads 52 = .ok (.iload_n 1, 1) := by decide +kernel
theorem dL_reads_53 : decode cL_reads 53 = .ok (.bipush 22, 2) := by decide +kernel
theorem dL_reads_55 : decode cL_reads 55 = .ok (.ishr, 1) := by decide +kernel
theorem dL_reads_56 : decode cL_reads 56 = .ok (.bipush 9, 2) := by decide +kernel
theorem dL_reads_58 : decode cL_reads 58 = .ok (.invokestatic 250, 3) := by decide +kernel
theorem dL_reads_61 : decode cL_reads 61 = .ok (.ifCond .ne 7, 3) := by decide +kernel
theorem dL_reads_64 : decode cL_reads 64 = .ok (.iconst 1, 1) := by decide +kernel
theorem dL_reads_65 : decode cL_reads 65 = .ok (.goto 4, 3) := by decide +kernel
theorem dL_reads_68 : decode cL_reads 68 = .ok (.iconst 0, 1) := by decide +kernel
theorem dL_reads_69 : decode cL_reads 69 = .ok (.istore 7, 2) := by decide +kernel
theorem dL_reads_71 : decode cL_reads 71 = .ok (.iload 6, 2) := by decide +kernel
theorem dL_reads_73 : decode cL_reads 73 = .ok (.iconst 3, 1) := by decide +kernel
theorem dL_reads_74 : decode cL_reads 74 = .ok (.if_icmp .ge 7, 3) := by decide +kernel
theorem dL_reads_77 : decode cL_reads 77 = .ok (.iconst 0, 1) := by decide +kernel
theorem dL_reads_78 : decode cL_reads 78 = .ok (.goto 59, 3) := by decide +kernel
theorem dL_reads_81 : decode cL_reads 81 = .ok (.iload 6, 2) := by decide +kernel
theorem dL_reads_83 : decode cL_reads 83 = .ok (.iconst 5, 1) := by decide +kernel
theorem dL_reads_84 : decode cL_reads 84 = .ok (.if_icmp .ge 7, 3) := by decide +kernel
theorem dL_reads_87 : decode cL_reads 87 = .ok (.iconst 1, 1) := by decide +kernel
theorem dL_reads_88 : decode cL_reads 88 = .ok (.goto 49, 3) := by decide +kernel
theorem dL_reads_91 : decode cL_reads 91 = .ok (.iload 6, 2) := by decide +kernel
theorem dL_reads_93 : decode cL_reads 93 = .ok (.bipush 11, 2) := by decide +kernel
theorem dL_reads_95 : decode cL_reads 95 = .ok (.if_icmp .ge 7, 3) := by decide +kernel
theorem dL_reads_98 : decode cL_reads 98 = .ok (.iconst 2, 1) := by decide +kernel
theorem dL_reads_99 : decode cL_reads 99 = .ok (.goto 38, 3) := by decide +kernel
theorem dL_reads_102 : decode cL_reads 102 = .ok (.iload 6, 2) := by decide +kernel
theorem dL_reads_104 : decode cL_reads 104 = .ok (.bipush 17, 2) := by decide +kernel
theorem dL_reads_106 : decode cL_reads 106 = .ok (.if_icmp .ge 7, 3) := by decide +kernel
theorem dL_reads_109 : decode cL_reads 109 = .ok (.iconst 3, 1) := by decide +kernel
theorem dL_reads_110 : decode cL_reads 110 = .ok (.goto 27, 3) := by decide +kernel
theorem dL_reads_113 : decode cL_reads 113 = .ok (.iload 6, 2) := by decide +kernel
theorem dL_reads_115 : decode cL_reads 115 = .ok (.bipush 18, 2) := by decide +kernel
theorem dL_reads_117 : decode cL_reads 117 = .ok (.if_icmp .ge 7, 3) := by decide +kernel
theorem dL_reads_120 : decode cL_reads 120 = .ok (.iconst 4, 1) := by decide +kernel
theorem dL_reads_121 : decode cL_reads 121 = .ok (.goto 16, 3) := by decide +kernel
theorem dL_reads_124 : decode cL_reads 124 = .ok (.iload 6, 2) := by decide +kernel
theorem dL_reads_126 : decode cL_reads 126 = .ok (.bipush 19, 2) := by decide +kernel
theorem dL_reads_128 : decode cL_reads 128 = .ok (.if_icmp .ge 7, 3) := by decide +kernel
theorem dL_reads_131 : decode cL_reads 131 = .ok (.iconst 5, 1) := by decide +kernel
theorem dL_reads_132 : decode cL_reads 132 = .ok (.goto 5, 3) := by decide +kernel
theorem dL_reads_135 : decode cL_reads 135 = .ok (.bipush 6, 2) := by decide +kernel
theorem dL_reads_137 : decode cL_reads 137 = .ok (.istore 8, 2) := by decide +kernel
theorem dL_reads_139 : decode cL_reads 139 = .ok (.iload 8, 2) := by decide +kernel
theorem dL_reads_141 : decode cL_reads 141 = .ok (.iconst 2, 1) := by decide +kernel
theorem dL_reads_142 : decode cL_reads 142 = .ok (.if_icmp .ne 10, 3) := by decide +kernel
theorem dL_reads_145 : decode cL_reads 145 = .ok (.aload_n 0, 1) := by decide +kernel
theorem dL_reads_146 : decode cL_reads 146 = .ok (.invokevirtual 236, 3) := by decide +kernel
theorem dL_reads_149 : decode cL_reads 149 = .ok (.goto 7, 3) := by decide +kernel
theorem dL_reads_152 : decode cL_reads 152 = .ok (.aload_n 0, 1) := by decide +kernel
theorem dL_reads_153 : decode cL_reads 153 = .ok (.invokevirtual 230, 3) := by decide +kernel
theorem dL_reads_156 : decode cL_reads 156 = .ok (.istore 9, 2) := by decide +kernel
theorem dL_reads_158 : decode cL_reads 158 = .ok (.iload 8, 2) := by decide +kernel
theorem dL_reads_160 : decode cL_reads 160 = .ok (.iconst 4, 1) := by decide +kernel
theorem dL_reads_161 : decode cL_reads 161 = .ok (.if_icmp .ne 17, 3) := by decide +kernel
theorem dL_reads_164 : decode cL_reads 164 = .ok (.iconst 1, 1) := by decide +kernel
theorem dL_reads_165 : decode cL_reads 165 = .ok (.iload 5, 2) := by decide +kernel
theorem dL_reads_167 : decode cL_reads 167 = .ok (.iconst 2, 1) := by decide +kernel
theorem dL_reads_168 : decode cL_reads 168 = .ok (.ishr, 1) := by decide +kernel
theorem dL_reads_169 : decode cL_reads 169 = .ok (.bipush 30, 2) := by decide +kernel
theorem dL_reads_171 : decode cL_reads 171 = .ok (.invokestatic 250, 3) := by decide +kernel
theorem dL_reads_174 : decode cL_reads 174 = .ok (.iadd, 1) := by decide +kernel
theorem dL_reads_175 : decode cL_reads 175 = .ok (.goto 27, 3) := by decide +kernel
theorem dL_reads_178 : decode cL_reads 178 = .ok (.iload 5, 2) := by decide +kernel
theorem dL_reads_180 : decode cL_reads 180 = .ok (.iconst 2, 1) := by decide +kernel
theorem dL_reads_181 : decode cL_reads 181 = .ok (.ishr, 1) := by decide +kernel
theorem dL_reads_182 : decode cL_reads 182 = .ok (.iload 7, 2) := by decide +kernel
theorem dL_reads_184 : decode cL_reads 184 = .ok (.ifCond .ne 8, 3) := by decide +kernel
theorem dL_reads_187 : decode cL_reads 187 = .ok (.iload 9, 2) := by decide +kernel
theorem dL_reads_189 : decode cL_reads 189 = .ok (.ifCond .ne 8, 3) := by decide +kernel
theorem dL_reads_192 : decode cL_reads 192 = .ok (.bipush 7, 2) := by decide +kernel
theorem dL_reads_194 : decode cL_reads 194 = .ok (.goto 5, 3) := by decide +kernel
theorem dL_reads_197 : decode cL_reads 197 = .ok (.iload 9, 2) := by decide +kernel
theorem dL_reads_199 : decode cL_reads 199 = .ok (.invokestatic 250, 3) := by decide +kernel
theorem dL_reads_202 : decode cL_reads 202 = .ok (.istore 10, 2) := by decide +kernel
theorem dL_reads_204 : decode cL_reads 204 = .ok (.iload 8, 2) := by decide +kernel
theorem dL_reads_206 : decode cL_reads 206 = .ok (.ifCond .ne 16, 3) := by decide +kernel
theorem dL_reads_209 : decode cL_reads 209 = .ok (.iload 5, 2) := by decide +kernel
theorem dL_reads_211 : decode cL_reads 211 = .ok (.iconst 4, 1) := by decide +kernel
theorem dL_reads_212 : decode cL_reads 212 = .ok (.ishr, 1) := by decide +kernel
theorem dL_reads_213 : decode cL_reads 213 = .ok (.sipush 2600, 3) := by decide +kernel
theorem dL_reads_216 : decode cL_reads 216 = .ok (.invokestatic 250, 3) := by decide +kernel
theorem dL_reads_219 : decode cL_reads 219 = .ok (.goto 59, 3) := by decide +kernel
theorem dL_reads_222 : decode cL_reads 222 = .ok (.iload 8, 2) := by decide +kernel
theorem dL_reads_224 : decode cL_reads 224 = .ok (.iconst 1, 1) := by decide +kernel
theorem dL_reads_225 : decode cL_reads 225 = .ok (.if_icmp .ne 33, 3) := by decide +kernel
theorem dL_reads_228 : decode cL_reads 228 = .ok (.aload_n 0, 1) := by decide +kernel
theorem dL_reads_229 : decode cL_reads 229 = .ok (.invokevirtual 233, 3) := by decide +kernel
theorem dL_reads_232 : decode cL_reads 232 = .ok (.ifCond .ne 8, 3) := by decide +kernel
theorem dL_reads_235 : decode cL_reads 235 = .ok (.bipush 100, 2) := by decide +kernel
theorem dL_reads_237 : decode cL_reads 237 = .ok (.goto 41, 3) := by decide +kernel
theorem dL_reads_240 : decode cL_reads 240 = .ok (.aload_n 0, 1) := by decide +kernel
theorem dL_reads_241 : decode cL_reads 241 = .ok (.iload 5, 2) := by decide +kernel
theorem dL_reads_243 : decode cL_reads 243 = .ok (.iconst 4, 1) := by decide +kernel
theorem dL_reads_244 : decode cL_reads 244 = .ok (.ishr, 1) := by decide +kernel
theorem dL_reads_245 : decode cL_reads 245 = .ok (.aload_n 0, 1) := by decide +kernel
theorem dL_reads_246 : decode cL_reads 246 = .ok (.invokevirtual 233, 3) := by decide +kernel
theorem dL_reads_249 : decode cL_reads 249 = .ok (.invokestatic 250, 3) := by decide +kernel
theorem dL_reads_252 : decode cL_reads 252 = .ok (.invokevirtual 155, 3) := by decide +kernel
theorem dL_reads_255 : decode cL_reads 255 = .ok (.goto 23, 3) := by decide +kernel
theorem dL_reads_258 : decode cL_reads 258 = .ok (.iload 5, 2) := by decide +kernel
theorem dL_reads_260 : decode cL_reads 260 = .ok (.iconst 4, 1) := by decide +kernel
theorem dL_reads_261 : decode cL_reads 261 = .ok (.ishr, 1) := by decide +kernel
theorem dL_reads_262 : decode cL_reads 262 = .ok (.iload 7, 2) := by decide +kernel
theorem dL_reads_264 : decode cL_reads 264 = .ok (.ifCond .eq 9, 3) := by decide +kernel
theorem dL_reads_267 : decode cL_reads 267 = .ok (.sipush 250, 3) := by decide +kernel
theorem dL_reads_270 : decode cL_reads 270 = .ok (.goto 5, 3) := by decide +kernel
theorem dL_reads_273 : decode cL_reads 273 = .ok (.bipush 70, 2) := by decide +kernel
theorem dL_reads_275 : decode cL_reads 275 = .ok (.invokestatic 250, 3) := by decide +kernel
theorem dL_reads_278 : decode cL_reads 278 = .ok (.istore 11, 2) := by decide +kernel
theorem dL_reads_280 : decode cL_reads 280 = .ok (.aload_n 0, 1) := by decide +kernel
theorem dL_reads_281 : decode cL_reads 281 = .ok (.iload 8, 2) := by decide +kernel
theorem dL_reads_283 : decode cL_reads 283 = .ok (.ifCond .ne 8, 3) := by decide +kernel
theorem dL_reads_286 : decode cL_reads 286 = .ok (.bipush 109, 2) := by decide +kernel
theorem dL_reads_288 : decode cL_reads 288 = .ok (.goto 60, 3) := by decide +kernel
theorem dL_reads_291 : decode cL_reads 291 = .ok (.iload 8, 2) := by decide +kernel
theorem dL_reads_293 : decode cL_reads 293 = .ok (.iconst 1, 1) := by decide +kernel
theorem dL_reads_294 : decode cL_reads 294 = .ok (.if_icmp .ne 8, 3) := by decide +kernel
theorem dL_reads_297 : decode cL_reads 297 = .ok (.bipush 99, 2) := by decide +kernel
theorem dL_reads_299 : decode cL_reads 299 = .ok (.goto 49, 3) := by decide +kernel
theorem dL_reads_302 : decode cL_reads 302 = .ok (.iload 8, 2) := by decide +kernel
theorem dL_reads_304 : decode cL_reads 304 = .ok (.iconst 2, 1) := by decide +kernel
theorem dL_reads_305 : decode cL_reads 305 = .ok (.if_icmp .ne 8, 3) := by decide +kernel
theorem dL_reads_308 : decode cL_reads 308 = .ok (.bipush 112, 2) := by decide +kernel
theorem dL_reads_310 : decode cL_reads 310 = .ok (.goto 38, 3) := by decide +kernel
theorem dL_reads_313 : decode cL_reads 313 = .ok (.iload 8, 2) := by decide +kernel
theorem dL_reads_315 : decode cL_reads 315 = .ok (.iconst 3, 1) := by decide +kernel
theorem dL_reads_316 : decode cL_reads 316 = .ok (.if_icmp .ne 8, 3) := by decide +kernel
theorem dL_reads_319 : decode cL_reads 319 = .ok (.bipush 106, 2) := by decide +kernel
theorem dL_reads_321 : decode cL_reads 321 = .ok (.goto 27, 3) := by decide +kernel
theorem dL_reads_324 : decode cL_reads 324 = .ok (.iload 8, 2) := by decide +kernel
theorem dL_reads_326 : decode cL_reads 326 = .ok (.iconst 4, 1) := by decide +kernel
theorem dL_reads_327 : decode cL_reads 327 = .ok (.if_icmp .ne 8, 3) := by decide +kernel
theorem dL_reads_330 : decode cL_reads 330 = .ok (.bipush 102, 2) := by decide +kernel
theorem dL_reads_332 : decode cL_reads 332 = .ok (.goto 16, 3) := by decide +kernel
theorem dL_reads_335 : decode cL_reads 335 = .ok (.iload 8, 2) := by decide +kernel
theorem dL_reads_337 : decode cL_reads 337 = .ok (.iconst 5, 1) := by decide +kernel
theorem dL_reads_338 : decode cL_reads 338 = .ok (.if_icmp .ne 8, 3) := by decide +kernel
theorem dL_reads_341 : decode cL_reads 341 = .ok (.bipush 117, 2) := by decide +kernel
theorem dL_reads_343 : decode cL_reads 343 = .ok (.goto 5, 3) := by decide +kernel
theorem dL_reads_346 : decode cL_reads 346 = .ok (.bipush 100, 2) := by decide +kernel
theorem dL_reads_348 : decode cL_reads 348 = .ok (.invokevirtual 107, 3) := by decide +kernel
theorem dL_reads_351 : decode cL_reads 351 = .ok (.ifCond .le 97, 3) := by decide +kernel
theorem dL_reads_354 : decode cL_reads 354 = .ok (.iload 8, 2) := by decide +kernel
theorem dL_reads_356 : decode cL_reads 356 = .ok (.iconst 4, 1) := by decide +kernel
theorem dL_reads_357 : decode cL_reads 357 = .ok (.if_icmp .gt 12, 3) := by decide +kernel
theorem dL_reads_360 : decode cL_reads 360 = .ok (.aload_n 0, 1) := by decide +kernel
theorem dL_reads_361 : decode cL_reads 361 = .ok (.iload 10, 2) := by decide +kernel
theorem dL_reads_363 : decode cL_reads 363 = .ok (.invokestatic 330, 3) := by decide +kernel
theorem dL_reads_366 : decode cL_reads 366 = .ok (.ifCond .eq 82, 3) := by decide +kernel
theorem dL_reads_369 : decode cL_reads 369 = .ok (.iload 8, 2) := by decide +kernel
theorem dL_reads_371 : decode cL_reads 371 = .ok (.iconst 2, 1) := by decide +kernel
theorem dL_reads_372 : decode cL_reads 372 = .ok (.if_icmp .gt 38, 3) := by decide +kernel
theorem dL_reads_375 : decode cL_reads 375 = .ok (.aload_n 0, 1) := by decide +kernel
theorem dL_reads_376 : decode cL_reads 376 = .ok (.iload_n 1, 1) := by decide +kernel
theorem dL_reads_377 : decode cL_reads 377 = .ok (.bipush 23, 2) := by decide +kernel
theorem dL_reads_379 : decode cL_reads 379 = .ok (.ishr, 1) := by decide +kernel
theorem dL_reads_380 : decode cL_reads 380 = .ok (.bipush 11, 2) := by decide +kernel
theorem dL_reads_382 : decode cL_reads 382 = .ok (.invokestatic 250, 3) := by decide +kernel
theorem dL_reads_385 : decode cL_reads 385 = .ok (.ifCond .ne 8, 3) := by decide +kernel
theorem dL_reads_388 : decode cL_reads 388 = .ok (.bipush 46, 2) := by decide +kernel
theorem dL_reads_390 : decode cL_reads 390 = .ok (.goto 5, 3) := by decide +kernel
theorem dL_reads_393 : decode cL_reads 393 = .ok (.bipush 44, 2) := by decide +kernel
theorem dL_reads_395 : decode cL_reads 395 = .ok (.invokevirtual 107, 3) := by decide +kernel
theorem dL_reads_398 : decode cL_reads 398 = .ok (.ifCond .le 50, 3) := by decide +kernel
theorem dL_reads_401 : decode cL_reads 401 = .ok (.aload_n 0, 1) := by decide +kernel
theorem dL_reads_402 : decode cL_reads 402 = .ok (.iload 11, 2) := by decide +kernel
theorem dL_reads_404 : decode cL_reads 404 = .ok (.invokestatic 330, 3) := by decide +kernel
theorem dL_reads_407 : decode cL_reads 407 = .ok (.ifCond .eq 41, 3) := by decide +kernel
theorem dL_reads_410 : decode cL_reads 410 = .ok (.aload_n 0, 1) := by decide +kernel
theorem dL_reads_411 : decode cL_reads 411 = .ok (.iload 4, 2) := by decide +kernel
theorem dL_reads_413 : decode cL_reads 413 = .ok (.iload_n 2, 1) := by decide +kernel
theorem dL_reads_414 : decode cL_reads 414 = .ok (.iconst 1, 1) := by decide +kernel
theorem dL_reads_415 : decode cL_reads 415 = .ok (.isub, 1) := by decide +kernel
theorem dL_reads_416 : decode cL_reads 416 = .ok (.if_icmp .ne 20, 3) := by decide +kernel
theorem dL_reads_419 : decode cL_reads 419 = .ok (.iload_n 1, 1) := by decide +kernel
theorem dL_reads_420 : decode cL_reads 420 = .ok (.bipush 26, 2) := by decide +kernel
theorem dL_reads_422 : decode cL_reads 422 = .ok (.ishr, 1) := by decide +kernel
theorem dL_reads_423 : decode cL_reads 423 = .ok (.bipush 7, 2) := by decide +kernel
theorem dL_reads_425 : decode cL_reads 425 = .ok (.invokestatic 250, 3) := by decide +kernel
theorem dL_reads_428 : decode cL_reads 428 = .ok (.ifCond .ne 8, 3) := by decide +kernel
theorem dL_reads_431 : decode cL_reads 431 = .ok (.bipush 46, 2) := by decide +kernel
theorem dL_reads_433 : decode cL_reads 433 = .ok (.goto 5, 3) := by decide +kernel
theorem dL_reads_436 : decode cL_reads 436 = .ok (.bipush 59, 2) := by decide +kernel
theorem dL_reads_438 : decode cL_reads 438 = .ok (.invokevirtual 107, 3) := by decide +kernel
theorem dL_reads_441 : decode cL_reads 441 = .ok (.ifCond .le 7, 3) := by decide +kernel
theorem dL_reads_444 : decode cL_reads 444 = .ok (.iconst 1, 1) := by decide +kernel
theorem dL_reads_445 : decode cL_reads 445 = .ok (.goto 4, 3) := by decide +kernel
theorem dL_reads_449 : decode cL_reads 449 = .ok (.istore_n 3, 1) := by decide +kernel
theorem dL_reads_450 : decode cL_reads 450 = .ok (.iinc 4 1, 3) := by decide +kernel
theorem dL_reads_453 : decode cL_reads 453 = .ok (.goto (-430), 3) := by decide +kernel
theorem dL_reads_456 : decode cL_reads 456 = .ok (.aload_n 0, 1) := by decide +kernel
theorem dL_reads_457 : decode cL_reads 457 = .ok (.invokevirtual 288, 3) := by decide +kernel
theorem dL_reads_460 : decode cL_reads 460 = .ok (.istore 4, 2) := by decide +kernel
theorem dL_reads_462 : decode cL_reads 462 = .ok (.aload_n 0, 1) := by decide +kernel
theorem dL_reads_463 : decode cL_reads 463 = .ok (.invokestatic 333, 3) := by decide +kernel
theorem dL_reads_466 : decode cL_reads 466 = .ok (.istore 5, 2) := by decide +kernel
theorem dL_reads_468 : decode cL_reads 468 = .ok (.aload_n 0, 1) := by decide +kernel
theorem dL_reads_469 : decode cL_reads 469 = .ok (.invokestatic 335, 3) := by decide +kernel
theorem dL_reads_472 : decode cL_reads 472 = .ok (.istore 6, 2) := by decide +kernel
theorem dL_reads_474 : decode cL_reads 474 = .ok (.aload_n 0, 1) := by decide +kernel
theorem dL_reads_475 : decode cL_reads 475 = .ok (.invokestatic 337, 3) := by decide +kernel
theorem dL_reads_478 : decode cL_reads 478 = .ok (.istore 7, 2) := by decide +kernel
theorem dL_reads_480 : decode cL_reads 480 = .ok (.aload_n 0, 1) := by decide +kernel
theorem dL_reads_481 : decode cL_reads 481 = .ok (.invokestatic 339, 3) := by decide +kernel
theorem dL_reads_484 : decode cL_reads 484 = .ok (.istore 8, 2) := by decide +kernel
theorem dL_reads_486 : decode cL_reads 486 = .ok (.aload_n 0, 1) := by decide +kernel
theorem dL_reads_487 : decode cL_reads 487 = .ok (.invokevirtual 327, 3) := by decide +kernel
theorem dL_reads_490 : decode cL_reads 490 = .ok (.istore 9, 2) := by decide +kernel
theorem dL_reads_492 : decode cL_reads 492 = .ok (.iload_n 3, 1) := by decide +kernel
theorem dL_reads_493 : decode cL_reads 493 = .ok (.ifCond .eq 86, 3) := by decide +kernel
theorem dL_reads_496 : decode cL_reads 496 = .ok (.iload 5, 2) := by decide +kernel
theorem dL_reads_498 : decode cL_reads 498 = .ok (.ldc 73, 2) := by decide +kernel
theorem dL_reads_500 : decode cL_reads 500 = .ok (.if_icmp .ne 7, 3) := by decide +kernel
theorem dL_reads_503 : decode cL_reads 503 = .ok (.iconst 1, 1) := by decide +kernel
theorem dL_reads_504 : decode cL_reads 504 = .ok (.goto 4, 3) := by decide +kernel
theorem dL_reads_507 : decode cL_reads 507 = .ok (.iconst 0, 1) := by decide +kernel
theorem dL_reads_508 : decode cL_reads 508 = .ok (.iload 6, 2) := by decide +kernel
theorem dL_reads_510 : decode cL_reads 510 = .ok (.ldc 73, 2) := by decide +kernel
theorem dL_reads_512 : decode cL_reads 512 = .ok (.if_icmp .ne 7, 3) := by decide +kernel
theorem dL_reads_515 : decode cL_reads 515 = .ok (.iconst 1, 1) := by decide +kernel
theorem dL_reads_516 : decode cL_reads 516 = .ok (.goto 4, 3) := by decide +kernel
theorem dL_reads_519 : decode cL_reads 519 = .ok (.iconst 0, 1) := by decide +kernel
theorem dL_reads_520 : decode cL_reads 520 = .ok (.if_icmp .ne 59, 3) := by decide +kernel
theorem dL_reads_523 : decode cL_reads 523 = .ok (.iload 5, 2) := by decide +kernel
theorem dL_reads_525 : decode cL_reads 525 = .ok (.ldc 73, 2) := by decide +kernel
theorem dL_reads_527 : decode cL_reads 527 = .ok (.if_icmp .ne 7, 3) := by decide +kernel
theorem dL_reads_530 : decode cL_reads 530 = .ok (.iconst 1, 1) := by decide +kernel
theorem dL_reads_531 : decode cL_reads 531 = .ok (.goto 4, 3) := by decide +kernel
theorem dL_reads_534 : decode cL_reads 534 = .ok (.iconst 0, 1) := by decide +kernel
theorem dL_reads_535 : decode cL_reads 535 = .ok (.iload 7, 2) := by decide +kernel
theorem dL_reads_537 : decode cL_reads 537 = .ok (.ldc 73, 2) := by decide +kernel
theorem dL_reads_539 : decode cL_reads 539 = .ok (.if_icmp .ne 7, 3) := by decide +kernel
theorem dL_reads_542 : decode cL_reads 542 = .ok (.iconst 1, 1) := by decide +kernel
theorem dL_reads_543 : decode cL_reads 543 = .ok (.goto 4, 3) := by decide +kernel
theorem dL_reads_546 : decode cL_reads 546 = .ok (.iconst 0, 1) := by decide +kernel
theorem dL_reads_547 : decode cL_reads 547 = .ok (.if_icmp .ne 32, 3) := by decide +kernel
theorem dL_reads_550 : decode cL_reads 550 = .ok (.iload 8, 2) := by decide +kernel
theorem dL_reads_552 : decode cL_reads 552 = .ok (.ldc 20, 2) := by decide +kernel
theorem dL_reads_554 : decode cL_reads 554 = .ok (.if_icmp .ne 7, 3) := by decide +kernel
theorem dL_reads_557 : decode cL_reads 557 = .ok (.iconst 1, 1) := by decide +kernel
theorem dL_reads_558 : decode cL_reads 558 = .ok (.goto 4, 3) := by decide +kernel
theorem dL_reads_561 : decode cL_reads 561 = .ok (.iconst 0, 1) := by decide +kernel
theorem dL_reads_562 : decode cL_reads 562 = .ok (.iload 5, 2) := by decide +kernel
theorem dL_reads_564 : decode cL_reads 564 = .ok (.ifCond .lt 7, 3) := by decide +kernel
theorem dL_reads_567 : decode cL_reads 567 = .ok (.iconst 1, 1) := by decide +kernel
theorem dL_reads_568 : decode cL_reads 568 = .ok (.goto 4, 3) := by decide +kernel
theorem dL_reads_571 : decode cL_reads 571 = .ok (.iconst 0, 1) := by decide +kernel
theorem dL_reads_572 : decode cL_reads 572 = .ok (.if_icmp .ne 7, 3) := by decide +kernel
theorem dL_reads_575 : decode cL_reads 575 = .ok (.iconst 1, 1) := by decide +kernel
theorem dL_reads_576 : decode cL_reads 576 = .ok (.goto 4, 3) := by decide +kernel
theorem dL_reads_580 : decode cL_reads 580 = .ok (.istore 10, 2) := by decide +kernel
theorem dL_reads_582 : decode cL_reads 582 = .ok (.iload 10, 2) := by decide +kernel
theorem dL_reads_584 : decode cL_reads 584 = .ok (.ifCond .eq 100, 3) := by decide +kernel
theorem dL_reads_587 : decode cL_reads 587 = .ok (.iload 5, 2) := by decide +kernel
theorem dL_reads_589 : decode cL_reads 589 = .ok (.ifCond .lt 64, 3) := by decide +kernel
theorem dL_reads_592 : decode cL_reads 592 = .ok (.iload 5, 2) := by decide +kernel
theorem dL_reads_594 : decode cL_reads 594 = .ok (.iload 9, 2) := by decide +kernel
theorem dL_reads_596 : decode cL_reads 596 = .ok (.if_icmp .ge 88, 3) := by decide +kernel
theorem dL_reads_599 : decode cL_reads 599 = .ok (.iload 6, 2) := by decide +kernel
theorem dL_reads_601 : decode cL_reads 601 = .ok (.iconst 1, 1) := by decide +kernel
theorem dL_reads_602 : decode cL_reads 602 = .ok (.if_icmp .ne 21, 3) := by decide +kernel
theorem dL_reads_605 : decode cL_reads 605 = .ok (.iload 7, 2) := by decide +kernel
theorem dL_reads_607 : decode cL_reads 607 = .ok (.ifCond .lt 77, 3) := by decide +kernel
theorem dL_reads_610 : decode cL_reads 610 = .ok (.iload 5, 2) := by decide +kernel
theorem dL_reads_612 : decode cL_reads 612 = .ok (.iload 7, 2) := by decide +kernel
theorem dL_reads_614 : decode cL_reads 614 = .ok (.iadd, 1) := by decide +kernel
theorem dL_reads_615 : decode cL_reads 615 = .ok (.iload 9, 2) := by decide +kernel
theorem dL_reads_617 : decode cL_reads 617 = .ok (.if_icmp .gt 67, 3) := by decide +kernel
theorem dL_reads_620 : decode cL_reads 620 = .ok (.goto 21, 3) := by decide +kernel
theorem dL_reads_623 : decode cL_reads 623 = .ok (.iload 6, 2) := by decide +kernel
theorem dL_reads_625 : decode cL_reads 625 = .ok (.iconst 2, 1) := by decide +kernel
theorem dL_reads_626 : decode cL_reads 626 = .ok (.if_icmp .ne 58, 3) := by decide +kernel
theorem dL_reads_629 : decode cL_reads 629 = .ok (.iload 7, 2) := by decide +kernel
theorem dL_reads_631 : decode cL_reads 631 = .ok (.iconst 1, 1) := by decide +kernel
theorem dL_reads_632 : decode cL_reads 632 = .ok (.if_icmp .eq 9, 3) := by decide +kernel
theorem dL_reads_635 : decode cL_reads 635 = .ok (.iload 7, 2) := by decide +kernel
theorem dL_reads_637 : decode cL_reads 637 = .ok (.iconst 2, 1) := by decide +kernel
theorem dL_reads_638 : decode cL_reads 638 = .ok (.if_icmp .ne 46, 3) := by decide +kernel
theorem dL_reads_641 : decode cL_reads 641 = .ok (.aload_n 0, 1) := by decide +kernel
theorem dL_reads_642 : decode cL_reads 642 = .ok (.invokevirtual 288, 3) := by decide +kernel
theorem dL_reads_645 : decode cL_reads 645 = .ok (.iload 4, 2) := by decide +kernel
theorem dL_reads_647 : decode cL_reads 647 = .ok (.if_icmp .ne 37, 3) := by decide +kernel
theorem dL_reads_650 : decode cL_reads 650 = .ok (.goto 30, 3) := by decide +kernel
theorem dL_reads_653 : decode cL_reads 653 = .ok (.iload 8, 2) := by decide +kernel
theorem dL_reads_655 : decode cL_reads 655 = .ok (.iload_n 2, 1) := by decide +kernel
theorem dL_reads_656 : decode cL_reads 656 = .ok (.if_icmp .ne 28, 3) := by decide +kernel
theorem dL_reads_659 : decode cL_reads 659 = .ok (.aload_n 0, 1) := by decide +kernel
theorem dL_reads_660 : decode cL_reads 660 = .ok (.invokevirtual 288, 3) := by decide +kernel
theorem dL_reads_663 : decode cL_reads 663 = .ok (.iload 4, 2) := by decide +kernel
theorem dL_reads_665 : decode cL_reads 665 = .ok (.iconst 4, 1) := by decide +kernel
theorem dL_reads_666 : decode cL_reads 666 = .ok (.if_icmp .ge 10, 3) := by decide +kernel
theorem dL_reads_669 : decode cL_reads 669 = .ok (.iload 4, 2) := by decide +kernel
theorem dL_reads_671 : decode cL_reads 671 = .ok (.iconst 1, 1) := by decide +kernel
theorem dL_reads_672 : decode cL_reads 672 = .ok (.iadd, 1) := by decide +kernel
theorem dL_reads_673 : decode cL_reads 673 = .ok (.goto 4, 3) := by decide +kernel
theorem dL_reads_676 : decode cL_reads 676 = .ok (.iconst 4, 1) := by decide +kernel
theorem dL_reads_677 : decode cL_reads 677 = .ok (.if_icmp .ne 7, 3) := by decide +kernel
theorem dL_reads_680 : decode cL_reads 680 = .ok (.iconst 1, 1) := by decide +kernel
theorem dL_reads_681 : decode cL_reads 681 = .ok (.goto 4, 3) := by decide +kernel
theorem dL_reads_685 : decode cL_reads 685 = .ok (.ireturn, 1) := by decide +kernel
set_option maxHeartbeats 8000000 in
set_option maxRecDepth 100000 in
theorem mL_reads (l : Launch) (hst : l.stackTraces = false) (G : gG) (da : Nat → Nat) (v : vSt) (x : gX) (o1 : Nat) (hk_o1 : kd o1 = 10) (p1 : Int32) (ho : oL_reads o1 p1 v) : NI l yL_reads cL_reads 12 .boolean (rmL_reads o1 p1 v) [.ref (ga G o1), .int p1] G da v x (kkL_reads o1 p1 v) (kkL_reads o1 p1 v) 1 (fL_reads o1 p1 v) := by
  refine gofNI (by decide) rfl (Nat.le_of_ble_eq_true rfl) (fun p e s m args below meth c ls Q X hN hH hl E => ?_)
  have hx := X.1
  have hb := X.2.1
  have hown := X.2.2.2.1
  have hts := X.2.2.2.2.1
  have hS : va_S (gA G) s.heap s.heap [] := va_S.rf
  have hkk : kkL_reads o1 p1 v = pot (fL_reads o1 p1 v) - pot v + 144 := rfl
  unfold oL_reads at ho
  have hl : lv_has ls 12 [(0, .ref (ga G o1)), (1, .int p1)] := hl
  refine lv_iload_n hx hb dL_reads_0 rfl (lv_at hl 1 rfl) ?_
  refine lv_bipush (v := 7) hx hb dL_reads_1 (by decide) ?_
  have hq1 := ho.1
  have ho := ho.2
  refine k_L_low X hS hq1 t_ml_VernierDrawersLaw_250 hl.1 (Nat.le_of_ble_eq_true rfl) ⟨Nat.le_of_ble_eq_true rfl, Nat.le_of_ble_eq_true rfl⟩ ⟨Nat.zero_le _, Nat.zero_le _⟩ dL_reads_3 ?_
  refine lv_istore_n (lv' := [(2, .int (fL_low p1 7)), (0, .ref (ga G o1)), (1, .int p1)]) hx hb dL_reads_6 rfl hl (by decide) rfl (fun ls hl => ?_)
  refine lv_aload_n hx hb dL_reads_7 rfl (lv_at hl 1 rfl) ?_
  refine k_X10_clearText X hS hH hk_o1 t_ml_VernierDrawersLaw_327 hl.1 (Nat.le_of_ble_eq_true rfl) ⟨Nat.le_of_ble_eq_true rfl, Nat.le_of_ble_eq_true rfl⟩ ⟨Nat.zero_le _, Nat.zero_le _⟩ dL_reads_8 (fun da H locs v2 ev2 hH hS => ?_)
  have ho := ho v2 ev2
  obtain ⟨v3, ev3⟩ : ∃ z : vSt, z = gM v2 (fX11_clearText 461 v2).2 := ⟨_, rfl⟩
  replace hH := hH.gM ev3
  have ho := ho v3 ev3
  refine lv_if_lt (tgt := 18) hx hb dL_reads_11 (by decide) (fun c4 => ?_) (fun c4 => ?_)
  · exact absurd c4 ho.1
  have ho := ho.2
  refine lv_iconst (v := 1) hx hb dL_reads_14 (by decide) ?_
  refine lv_goto (tgt := 19) hx hb dL_reads_15 (by decide) ?_
  refine lv_istore_n (lv' := [(3, .int 1), (2, .int (fL_low p1 7)), (0, .ref (ga G o1)), (1, .int p1)]) hx hb dL_reads_19 rfl hl (by decide) rfl (fun ls hl => ?_)
  refine lv_iconst (v := 0) hx hb dL_reads_20 (by decide) ?_
  refine lv_istore (lv' := [(4, .int 0), (3, .int 1), (2, .int (fL_low p1 7)), (0, .ref (ga G o1)), (1, .int p1)]) hx hb dL_reads_21 hl (by decide) rfl (fun ls hl => ?_)
  have L8 : ∀ (n : Nat) (i5 : Int32) (v6 : vSt) (da : Nat → Nat) (H : Heap) (locs : List Loc) (ls : Array Slot), olL_reads_23 o1 p1 n i5 v6 → Hp G da v6 x H → va_S (gA G) s.heap H locs → lv_has ls 12 [(4, .int i5), (3, .int 1), (2, .int (fL_low p1 7)), (0, .ref (ga G o1)), (1, .int p1)] → (∀ (v7 : vSt) (da : Nat → Nat) (H : Heap) (locs : List Loc) (ls : Array Slot), v7 = (lL_reads_23 o1 p1 n i5 v6 : vSt) → Hp G da v7 x H → va_S (gA G) s.heap H locs → lv_has ls 12 [(3, .int 1), (2, .int (fL_low p1 7)), (0, .ref (ga G o1))] → W p l e (rmL_reads o1 p1 v) s m args below meth c H locs 0 0 Q (F0 m 456 ls [])) → W p l e (rmL_reads o1 p1 v) s m args below meth c H locs 0 0 Q (F0 m 23 ls []) := by
    clear ho
    intro n
    induction n with
    | zero =>
      intro i5 v6 da H locs ls ho
      exact ho.elim
    | succ n ih =>
      intro i5 v6 da H locs ls ho hH hS hl K9
      refine lv_iload hx hb dL_reads_23 (lv_at hl 0 rfl) ?_
      refine lv_iload_n hx hb dL_reads_25 rfl (lv_at hl 2 rfl) ?_
      refine lv_icmp_ge (tgt := 456) hx hb dL_reads_26 (by decide) (fun c11 => ?_) (fun c11 => ?_)
      · skip
        have hoz := ho
        have hlz := hl
        have hHz := hH
        have hSz := hS
        exact K9 _ _ _ _ _ (Eq.symm (((lL_reads_23.eq_2 _ _ _ _ _)).trans ((if_pos c11).trans rfl)))  hHz hSz (lv_sub hlz [1, 2, 3] rfl)
      · have ho := ho c11
        refine lv_iload_n hx hb dL_reads_29 rfl (lv_at hl 1 rfl) ?_
        refine lv_if_eq (tgt := 456) hx hb dL_reads_30 (by decide) (fun c12 => absurd c12 (by decide)) (fun c12 => ?_)
        refine lv_iload_n hx hb dL_reads_33 rfl (lv_at hl 4 rfl) ?_
        refine lv_iconst (v := 1) hx hb dL_reads_34 (by decide) ?_
        refine lv_iconst (v := 2) hx hb dL_reads_35 (by decide) ?_
        refine lv_iload hx hb dL_reads_36 (lv_at hl 0 rfl) ?_
        refine lv_imul hx hb dL_reads_38 ?_
        refine lv_iadd hx hb dL_reads_39 ?_
        refine lv_ishr hx hb dL_reads_40 ?_
        refine lv_istore (lv' := [(5, .int (p1 >>> (((1 : Int32) + ((2 : Int32) * i5)) &&& 31))), (4, .int i5), (3, .int 1), (2, .int (fL_low p1 7)), (0, .ref (ga G o1)), (1, .int p1)]) hx hb dL_reads_41 hl (by decide) rfl (fun ls hl => ?_)
        refine lv_iload hx hb dL_reads_43 (lv_at hl 0 rfl) ?_
        refine lv_bipush (v := 20) hx hb dL_reads_45 (by decide) ?_
        have hq13 := ho.1
        have ho := ho.2
        refine k_L_low X hS hq13 t_ml_VernierDrawersLaw_250 hl.1 (Nat.le_of_ble_eq_true rfl) ⟨Nat.le_of_ble_eq_true rfl, Nat.le_of_ble_eq_true rfl⟩ ⟨Nat.zero_le _, Nat.zero_le _⟩ dL_reads_47 ?_
        refine lv_istore (lv' := [(6, .int (fL_low (p1 >>> (((1 : Int32) + ((2 : Int32) * i5)) &&& 31)) 20)), (5, .int (p1 >>> (((1 : Int32) + ((2 : Int32) * i5)) &&& 31))), (4, .int i5), (3, .int 1), (2, .int (fL_low p1 7)), (0, .ref (ga G o1)), (1, .int p1)]) hx hb dL_reads_50 hl (by decide) rfl (fun ls hl => ?_)
        refine lv_iload_n hx hb dL_reads_52 rfl (lv_at hl 6 rfl) ?_
        refine lv_bipush (v := 22) hx hb dL_reads_53 (by decide) ?_
        refine lv_ishr hx hb dL_reads_55 ?_
        refine lv_bipush (v := 9) hx hb dL_reads_56 (by decide) ?_
        have hq14 := ho.1
        have ho := ho.2
        refine k_L_low X hS hq14 t_ml_VernierDrawersLaw_250 hl.1 (Nat.le_of_ble_eq_true rfl) ⟨Nat.le_of_ble_eq_true rfl, Nat.le_of_ble_eq_true rfl⟩ ⟨Nat.zero_le _, Nat.zero_le _⟩ dL_reads_58 ?_
        have K16 : ∀ (y15 : Int32) (ls : Array Slot), y15 = (if ((fL_low (p1 >>> ((22 : Int32) &&& 31)) 9) : Int32) = 0 then 1 else 0 : Int32) → lv_has ls 12 [(6, .int (fL_low (p1 >>> (((1 : Int32) + ((2 : Int32) * i5)) &&& 31)) 20)), (5, .int (p1 >>> (((1 : Int32) + ((2 : Int32) * i5)) &&& 31))), (4, .int i5), (2, .int (fL_low p1 7)), (0, .ref (ga G o1)), (1, .int p1)] → W p l e (rmL_reads o1 p1 v) s m args below meth c H locs 0 0 Q (F0 m 69 ls [.int y15]) := by
          intro y15 ls ey15 hl
          have ho := ho y15 ey15
          refine lv_istore (lv' := [(7, .int y15), (6, .int (fL_low (p1 >>> (((1 : Int32) + ((2 : Int32) * i5)) &&& 31)) 20)), (5, .int (p1 >>> (((1 : Int32) + ((2 : Int32) * i5)) &&& 31))), (4, .int i5), (2, .int (fL_low p1 7)), (0, .ref (ga G o1)), (1, .int p1)]) hx hb dL_reads_69 hl (by decide) rfl (fun ls hl => ?_)
          refine lv_iload hx hb dL_reads_71 (lv_at hl 1 rfl) ?_
          refine lv_iconst (v := 3) hx hb dL_reads_73 (by decide) ?_
          have K18 : ∀ (y17 : Int32) (ls : Array Slot), y17 = (if (3 : Int32) ≤ (fL_low (p1 >>> (((1 : Int32) + ((2 : Int32) * i5)) &&& 31)) 20) then (if (5 : Int32) ≤ (fL_low (p1 >>> (((1 : Int32) + ((2 : Int32) * i5)) &&& 31)) 20) then (if (11 : Int32) ≤ (fL_low (p1 >>> (((1 : Int32) + ((2 : Int32) * i5)) &&& 31)) 20) then (if (17 : Int32) ≤ (fL_low (p1 >>> (((1 : Int32) + ((2 : Int32) * i5)) &&& 31)) 20) then (if (18 : Int32) ≤ (fL_low (p1 >>> (((1 : Int32) + ((2 : Int32) * i5)) &&& 31)) 20) then (if (19 : Int32) ≤ (fL_low (p1 >>> (((1 : Int32) + ((2 : Int32) * i5)) &&& 31)) 20) then 6 else 5) else 4) else 3) else 2) else 1) else 0 : Int32) → lv_has ls 12 [(7, .int y15), (5, .int (p1 >>> (((1 : Int32) + ((2 : Int32) * i5)) &&& 31))), (4, .int i5), (2, .int (fL_low p1 7)), (0, .ref (ga G o1)), (1, .int p1)] → W p l e (rmL_reads o1 p1 v) s m args below meth c H locs 0 0 Q (F0 m 137 ls [.int y17]) := by
            intro y17 ls ey17 hl
            have ho := ho y17 ey17
            refine lv_istore (lv' := [(8, .int y17), (7, .int y15), (5, .int (p1 >>> (((1 : Int32) + ((2 : Int32) * i5)) &&& 31))), (4, .int i5), (2, .int (fL_low p1 7)), (0, .ref (ga G o1)), (1, .int p1)]) hx hb dL_reads_137 hl (by decide) rfl (fun ls hl => ?_)
            refine lv_iload hx hb dL_reads_139 (lv_at hl 0 rfl) ?_
            refine lv_iconst (v := 2) hx hb dL_reads_141 (by decide) ?_
            have K20 : ∀ (y19 : Int32) (ls : Array Slot), y19 = (if (y17 : Int32) = 2 then (fX10_types o1 v6) else (fX10_tools o1 v6) : Int32) → lv_has ls 12 [(8, .int y17), (7, .int y15), (5, .int (p1 >>> (((1 : Int32) + ((2 : Int32) * i5)) &&& 31))), (4, .int i5), (2, .int (fL_low p1 7)), (0, .ref (ga G o1)), (1, .int p1)] → W p l e (rmL_reads o1 p1 v) s m args below meth c H locs 0 0 Q (F0 m 156 ls [.int y19]) := by
              intro y19 ls ey19 hl
              have ho := ho.2 y19 ey19
              refine lv_istore (lv' := [(9, .int y19), (8, .int y17), (7, .int y15), (5, .int (p1 >>> (((1 : Int32) + ((2 : Int32) * i5)) &&& 31))), (4, .int i5), (2, .int (fL_low p1 7)), (0, .ref (ga G o1)), (1, .int p1)]) hx hb dL_reads_156 hl (by decide) rfl (fun ls hl => ?_)
              refine lv_iload hx hb dL_reads_158 (lv_at hl 1 rfl) ?_
              refine lv_iconst (v := 4) hx hb dL_reads_160 (by decide) ?_
              have K22 : ∀ (y21 : Int32) (ls : Array Slot), y21 = (if (y17 : Int32) = 4 then ((1 : Int32) + (fL_low ((p1 >>> (((1 : Int32) + ((2 : Int32) * i5)) &&& 31)) >>> ((2 : Int32) &&& 31)) 30)) else (let y23 : Int32 := (if (y15 : Int32) = 0 then (if (y19 : Int32) = 0 then 7 else y19) else 7 : Int32); fL_low ((p1 >>> (((1 : Int32) + ((2 : Int32) * i5)) &&& 31)) >>> ((2 : Int32) &&& 31)) y23) : Int32) → lv_has ls 12 [(8, .int y17), (7, .int y15), (5, .int (p1 >>> (((1 : Int32) + ((2 : Int32) * i5)) &&& 31))), (4, .int i5), (2, .int (fL_low p1 7)), (0, .ref (ga G o1)), (1, .int p1)] → W p l e (rmL_reads o1 p1 v) s m args below meth c H locs 0 0 Q (F0 m 202 ls [.int y21]) := by
                intro y21 ls ey21 hl
                have ho := ho.2 y21 ey21
                refine lv_istore (lv' := [(10, .int y21), (8, .int y17), (7, .int y15), (5, .int (p1 >>> (((1 : Int32) + ((2 : Int32) * i5)) &&& 31))), (4, .int i5), (2, .int (fL_low p1 7)), (0, .ref (ga G o1)), (1, .int p1)]) hx hb dL_reads_202 hl (by decide) rfl (fun ls hl => ?_)
                refine lv_iload hx hb dL_reads_204 (lv_at hl 1 rfl) ?_
                have K24 : ∀ (y23 : Int32) (ls : Array Slot), y23 = (if (y17 : Int32) = 0 then (fL_low ((p1 >>> (((1 : Int32) + ((2 : Int32) * i5)) &&& 31)) >>> ((4 : Int32) &&& 31)) 2600) else (if (y17 : Int32) = 1 then (if ((fX10_blocks o1 v6) : Int32) = 0 then 100 else ((fX10_blockLength o1 (fL_low ((p1 >>> (((1 : Int32) + ((2 : Int32) * i5)) &&& 31)) >>> ((4 : Int32) &&& 31)) (fX10_blocks o1 v6)) v6).2)) else (let y26 : Int32 := (if (y15 : Int32) = 0 then 70 else 250 : Int32); fL_low ((p1 >>> (((1 : Int32) + ((2 : Int32) * i5)) &&& 31)) >>> ((4 : Int32) &&& 31)) y26)) : Int32) → lv_has ls 12 [(10, .int y21), (8, .int y17), (4, .int i5), (2, .int (fL_low p1 7)), (0, .ref (ga G o1)), (1, .int p1)] → W p l e (rmL_reads o1 p1 v) s m args below meth c H locs 0 0 Q (F0 m 278 ls [.int y23]) := by
                  intro y23 ls ey23 hl
                  have ho := ho.2 y23 ey23
                  refine lv_istore (lv' := [(11, .int y23), (10, .int y21), (8, .int y17), (4, .int i5), (2, .int (fL_low p1 7)), (0, .ref (ga G o1)), (1, .int p1)]) hx hb dL_reads_278 hl (by decide) rfl (fun ls hl => ?_)
                  refine lv_aload_n hx hb dL_reads_280 rfl (lv_at hl 5 rfl) ?_
                  refine lv_iload hx hb dL_reads_281 (lv_at hl 2 rfl) ?_
                  have K26 : ∀ (y25 : Int32) (ls : Array Slot), y25 = (if (y17 : Int32) = 0 then 109 else (if (y17 : Int32) = 1 then 99 else (if (y17 : Int32) = 2 then 112 else (if (y17 : Int32) = 3 then 106 else (if (y17 : Int32) = 4 then 102 else (if (y17 : Int32) = 5 then 117 else 100))))) : Int32) → lv_has ls 12 [(11, .int y23), (10, .int y21), (8, .int y17), (4, .int i5), (2, .int (fL_low p1 7)), (0, .ref (ga G o1)), (1, .int p1)] → W p l e (rmL_reads o1 p1 v) s m args below meth c H locs 0 0 Q (F0 m 348 ls [.int y25, .ref (ga G o1)]) := by
                    intro y25 ls ey25 hl
                    have ho := ho y25 ey25
                    have hq27 := ho.1
                    have ho := ho.2
                    have hq28 := ho.1
                    have ho := ho.2
                    refine kZ_X10_type X hS hH hk_o1 hq27 hq28 t_ml_VernierDrawersLaw_107 hl.1 (Nat.le_of_ble_eq_true rfl) ⟨Nat.le_of_ble_eq_true rfl, Nat.le_of_ble_eq_true rfl⟩ ⟨Nat.zero_le _, Nat.zero_le _⟩ dL_reads_348 (fun da H locs v29 ev29 hH hS => ?_)
                    have ho := ho v29 ev29
                    obtain ⟨v30, ev30⟩ : ∃ z : vSt, z = gM v29 (fX11_type 461 y25 v29).2 := ⟨_, rfl⟩
                    replace hH := hH.gM ev30
                    have ho := ho v30 ev30
                    refine lv_if_le (tgt := 448) hx hb dL_reads_351 (by decide) (fun c31 => ?_) (fun c31 => ?_)
                    · exact absurd c31 ho.1
                    have ho := ho.2
                    refine lv_iload hx hb dL_reads_354 (lv_at hl 2 rfl) ?_
                    refine lv_iconst (v := 4) hx hb dL_reads_356 (by decide) ?_
                    have K33 : ∀ (v32 : vSt) (da : Nat → Nat) (H : Heap) (locs : List Loc) (ls : Array Slot), v32 = (if (4 : Int32) < y17 then v30 else (let v35 : vSt := fL_number o1 y21 v30; v35) : vSt) → Hp G da v32 x H → va_S (gA G) s.heap H locs → lv_has ls 12 [(11, .int y23), (8, .int y17), (4, .int i5), (2, .int (fL_low p1 7)), (0, .ref (ga G o1)), (1, .int p1)] → W p l e (rmL_reads o1 p1 v) s m args below meth c H locs 0 0 Q (F0 m 369 ls []) := by
                      intro v32 da H locs ls ev32 hH hS hl
                      have ho := ho.2 v32 ev32
                      refine lv_iload hx hb dL_reads_369 (lv_at hl 1 rfl) ?_
                      refine lv_iconst (v := 2) hx hb dL_reads_371 (by decide) ?_
                      have K35 : ∀ (v34 : vSt) (da : Nat → Nat) (H : Heap) (locs : List Loc) (ls : Array Slot), v34 = (if (2 : Int32) < y17 then v32 else (let y37 : Int32 := (if ((fL_low (p1 >>> ((23 : Int32) &&& 31)) 11) : Int32) = 0 then 46 else 44 : Int32); let v41 : vSt := (fX10_type o1 y37 v32).2.2; let v42 : vSt := gM v41 (fX11_type 461 y37 v41).2; let v45 : vSt := fL_number o1 y23 v42; v45) : vSt) → Hp G da v34 x H → va_S (gA G) s.heap H locs → lv_has ls 12 [(4, .int i5), (2, .int (fL_low p1 7)), (0, .ref (ga G o1)), (1, .int p1)] → W p l e (rmL_reads o1 p1 v) s m args below meth c H locs 0 0 Q (F0 m 410 ls []) := by
                        intro v34 da H locs ls ev34 hH hS hl
                        have ho := ho.2 v34 ev34
                        refine lv_aload_n hx hb dL_reads_410 rfl (lv_at hl 2 rfl) ?_
                        refine lv_iload hx hb dL_reads_411 (lv_at hl 0 rfl) ?_
                        refine lv_iload_n hx hb dL_reads_413 rfl (lv_at hl 1 rfl) ?_
                        refine lv_iconst (v := 1) hx hb dL_reads_414 (by decide) ?_
                        refine lv_isub hx hb dL_reads_415 ?_
                        have K37 : ∀ (y36 : Int32) (ls : Array Slot), y36 = (if (i5 : Int32) = ((fL_low p1 7) - (1 : Int32)) then (if ((fL_low (p1 >>> ((26 : Int32) &&& 31)) 7) : Int32) = 0 then 46 else 59) else 59 : Int32) → lv_has ls 12 [(4, .int i5), (2, .int (fL_low p1 7)), (0, .ref (ga G o1)), (1, .int p1)] → W p l e (rmL_reads o1 p1 v) s m args below meth c H locs 0 0 Q (F0 m 438 ls [.int y36, .ref (ga G o1)]) := by
                          intro y36 ls ey36 hl
                          have ho := ho.2 y36 ey36
                          have hq38 := ho.1
                          have ho := ho.2
                          have hq39 := ho.1
                          have ho := ho.2
                          refine kZ_X10_type X hS hH hk_o1 hq38 hq39 t_ml_VernierDrawersLaw_107 hl.1 (Nat.le_of_ble_eq_true rfl) ⟨Nat.le_of_ble_eq_true rfl, Nat.le_of_ble_eq_true rfl⟩ ⟨Nat.zero_le _, Nat.zero_le _⟩ dL_reads_438 (fun da H locs v40 ev40 hH hS => ?_)
                          have ho := ho v40 ev40
                          obtain ⟨v41, ev41⟩ : ∃ z : vSt, z = gM v40 (fX11_type 461 y36 v40).2 := ⟨_, rfl⟩
                          replace hH := hH.gM ev41
                          have ho := ho v41 ev41
                          refine lv_if_le (tgt := 448) hx hb dL_reads_441 (by decide) (fun c42 => ?_) (fun c42 => ?_)
                          · exact absurd c42 ho.1
                          have ho := ho.2
                          refine lv_iconst (v := 1) hx hb dL_reads_444 (by decide) ?_
                          refine lv_goto (tgt := 449) hx hb dL_reads_445 (by decide) ?_
                          refine lv_istore_n (lv' := [(3, .int 1), (4, .int i5), (2, .int (fL_low p1 7)), (0, .ref (ga G o1)), (1, .int p1)]) hx hb dL_reads_449 rfl hl (by decide) rfl (fun ls hl => ?_)
                          refine lv_iinc (v := i5 + 1) (lv' := [(4, .int (i5 + 1)), (3, .int 1), (2, .int (fL_low p1 7)), (0, .ref (ga G o1)), (1, .int p1)]) hx hb dL_reads_450 hl (k := 1) rfl rfl (by decide) rfl (fun ls hl => ?_)
                          refine lv_goto (tgt := 23) hx hb dL_reads_453 (by decide) ?_
                          have hoz := ho
                          have hlz := hl
                          have hHz := hH
                          have hSz := hS
                          replace ey15 := Eq.symm ey15
                          replace ey17 := Eq.symm ey17
                          replace ey19 := Eq.symm ey19
                          replace ey21 := Eq.symm ey21
                          replace ey23 := Eq.symm ey23
                          replace ey25 := Eq.symm ey25
                          replace ev29 := Eq.symm ev29
                          replace ev30 := Eq.symm ev30
                          replace ev32 := Eq.symm ev32
                          replace ev34 := Eq.symm ev34
                          replace ey36 := Eq.symm ey36
                          replace ev40 := Eq.symm ev40
                          replace ev41 := Eq.symm ev41
                          subst ey15 ey17 ey19 ey21 ey23 ey25 ev29 ev30 ev32 ev34 ey36 ev40 ev41
                          exact ih _ _ _ _ _ _ hoz hHz hSz (lv_sub hlz [0, 1, 2, 3, 4] rfl) (fun v7 da H locs ls q0 hH hS hl => K9 v7 da H locs ls (q0.trans (congrArg (fun z : vSt => z) (Eq.symm (((lL_reads_23.eq_2 _ _ _ _ _)).trans ((if_neg c11).trans rfl))))) hH hS hl)
                        have ho := ho.1
                        refine lv_icmp_ne (tgt := 436) hx hb dL_reads_416 (by decide) (fun c37 => ?_) (fun c37 => ?_)
                        · skip
                          refine lv_bipush (v := 59) hx hb dL_reads_436 (by decide) ?_
                          have hlz := hl
                          exact K37 _ _ (Eq.symm ((if_neg c37).trans rfl)) (lv_sub hlz [0, 1, 2, 3] rfl)
                        · have ho := ho c37
                          refine lv_iload_n hx hb dL_reads_419 rfl (lv_at hl 3 rfl) ?_
                          refine lv_bipush (v := 26) hx hb dL_reads_420 (by decide) ?_
                          refine lv_ishr hx hb dL_reads_422 ?_
                          refine lv_bipush (v := 7) hx hb dL_reads_423 (by decide) ?_
                          have hq38 := ho
                          refine k_L_low X hS hq38 t_ml_VernierDrawersLaw_250 hl.1 (Nat.le_of_ble_eq_true rfl) ⟨Nat.le_of_ble_eq_true rfl, Nat.le_of_ble_eq_true rfl⟩ ⟨Nat.zero_le _, Nat.zero_le _⟩ dL_reads_425 ?_
                          refine lv_if_ne (tgt := 436) hx hb dL_reads_428 (by decide) (fun c39 => ?_) (fun c39 => ?_)
                          · skip
                            refine lv_bipush (v := 59) hx hb dL_reads_436 (by decide) ?_
                            have hlz := hl
                            exact K37 _ _ (Eq.symm ((if_pos c37).trans ((if_neg c39).trans rfl))) (lv_sub hlz [0, 1, 2, 3] rfl)
                          · skip
                            refine lv_bipush (v := 46) hx hb dL_reads_431 (by decide) ?_
                            refine lv_goto (tgt := 438) hx hb dL_reads_433 (by decide) ?_
                            have hlz := hl
                            exact K37 _ _ (Eq.symm ((if_pos c37).trans ((if_pos c39).trans rfl))) (lv_sub hlz [0, 1, 2, 3] rfl)
                      have ho := ho.1
                      refine lv_icmp_gt (tgt := 410) hx hb dL_reads_372 (by decide) (fun c35 => ?_) (fun c35 => ?_)
                      · skip
                        have hlz := hl
                        have hHz := hH
                        have hSz := hS
                        exact K35 _ _ _ _ _ (Eq.symm ((if_pos c35).trans rfl)) hHz hSz (lv_sub hlz [2, 3, 4, 5] rfl)
                      · have ho := ho c35
                        refine lv_aload_n hx hb dL_reads_375 rfl (lv_at hl 4 rfl) ?_
                        refine lv_iload_n hx hb dL_reads_376 rfl (lv_at hl 5 rfl) ?_
                        refine lv_bipush (v := 23) hx hb dL_reads_377 (by decide) ?_
                        refine lv_ishr hx hb dL_reads_379 ?_
                        refine lv_bipush (v := 11) hx hb dL_reads_380 (by decide) ?_
                        have hq36 := ho.1
                        have ho := ho.2
                        refine k_L_low X hS hq36 t_ml_VernierDrawersLaw_250 hl.1 (Nat.le_of_ble_eq_true rfl) ⟨Nat.le_of_ble_eq_true rfl, Nat.le_of_ble_eq_true rfl⟩ ⟨Nat.zero_le _, Nat.zero_le _⟩ dL_reads_382 ?_
                        have K38 : ∀ (y37 : Int32) (ls : Array Slot), y37 = (if ((fL_low (p1 >>> ((23 : Int32) &&& 31)) 11) : Int32) = 0 then 46 else 44 : Int32) → lv_has ls 12 [(11, .int y23), (4, .int i5), (2, .int (fL_low p1 7)), (0, .ref (ga G o1)), (1, .int p1)] → W p l e (rmL_reads o1 p1 v) s m args below meth c H locs 0 0 Q (F0 m 395 ls [.int y37, .ref (ga G o1)]) := by
                          intro y37 ls ey37 hl
                          have ho := ho y37 ey37
                          have hq39 := ho.1
                          have ho := ho.2
                          have hq40 := ho.1
                          have ho := ho.2
                          refine kZ_X10_type X hS hH hk_o1 hq39 hq40 t_ml_VernierDrawersLaw_107 hl.1 (Nat.le_of_ble_eq_true rfl) ⟨Nat.le_of_ble_eq_true rfl, Nat.le_of_ble_eq_true rfl⟩ ⟨Nat.zero_le _, Nat.zero_le _⟩ dL_reads_395 (fun da H locs v41 ev41 hH hS => ?_)
                          have ho := ho v41 ev41
                          obtain ⟨v42, ev42⟩ : ∃ z : vSt, z = gM v41 (fX11_type 461 y37 v41).2 := ⟨_, rfl⟩
                          replace hH := hH.gM ev42
                          have ho := ho v42 ev42
                          refine lv_if_le (tgt := 448) hx hb dL_reads_398 (by decide) (fun c43 => ?_) (fun c43 => ?_)
                          · exact absurd c43 ho.1
                          have ho := ho.2
                          refine lv_aload_n hx hb dL_reads_401 rfl (lv_at hl 3 rfl) ?_
                          refine lv_iload hx hb dL_reads_402 (lv_at hl 0 rfl) ?_
                          have hq44 := ho
                          refine k_L_number hst X hS hN hH hk_o1 hq44 t_ml_VernierDrawersLaw_330 hl.1 (Nat.le_of_ble_eq_true rfl) ⟨Nat.le_of_ble_eq_true rfl, Nat.le_of_ble_eq_true rfl⟩ ⟨Nat.zero_le _, Nat.zero_le _⟩ dL_reads_404 (fun da H locs v45 ev45 hH hS => ?_)
                          refine lv_if_eq (tgt := 448) hx hb dL_reads_407 (by decide) (fun c46 => absurd c46 (by decide)) (fun c46 => ?_)
                          have hlz := hl
                          have hHz := hH
                          have hSz := hS
                          replace ey37 := Eq.symm ey37
                          replace ev41 := Eq.symm ev41
                          replace ev42 := Eq.symm ev42
                          replace ev45 := Eq.symm ev45
                          subst ey37 ev41 ev42 ev45
                          exact K35 _ _ _ _ _ (Eq.symm ((if_neg c35).trans rfl)) hHz hSz (lv_sub hlz [1, 2, 3, 4] rfl)
                        refine lv_if_ne (tgt := 393) hx hb dL_reads_385 (by decide) (fun c38 => ?_) (fun c38 => ?_)
                        · skip
                          refine lv_bipush (v := 44) hx hb dL_reads_393 (by decide) ?_
                          have hlz := hl
                          exact K38 _ _ (Eq.symm ((if_neg c38).trans rfl)) (lv_sub hlz [0, 2, 3, 4, 5] rfl)
                        · skip
                          refine lv_bipush (v := 46) hx hb dL_reads_388 (by decide) ?_
                          refine lv_goto (tgt := 395) hx hb dL_reads_390 (by decide) ?_
                          have hlz := hl
                          exact K38 _ _ (Eq.symm ((if_pos c38).trans rfl)) (lv_sub hlz [0, 2, 3, 4, 5] rfl)
                    have ho := ho.1
                    refine lv_icmp_gt (tgt := 369) hx hb dL_reads_357 (by decide) (fun c33 => ?_) (fun c33 => ?_)
                    · skip
                      have hlz := hl
                      have hHz := hH
                      have hSz := hS
                      exact K33 _ _ _ _ _ (Eq.symm ((if_pos c33).trans rfl)) hHz hSz (lv_sub hlz [0, 2, 3, 4, 5, 6] rfl)
                    · have ho := ho c33
                      refine lv_aload_n hx hb dL_reads_360 rfl (lv_at hl 5 rfl) ?_
                      refine lv_iload hx hb dL_reads_361 (lv_at hl 1 rfl) ?_
                      have hq34 := ho
                      refine k_L_number hst X hS hN hH hk_o1 hq34 t_ml_VernierDrawersLaw_330 hl.1 (Nat.le_of_ble_eq_true rfl) ⟨Nat.le_of_ble_eq_true rfl, Nat.le_of_ble_eq_true rfl⟩ ⟨Nat.zero_le _, Nat.zero_le _⟩ dL_reads_363 (fun da H locs v35 ev35 hH hS => ?_)
                      refine lv_if_eq (tgt := 448) hx hb dL_reads_366 (by decide) (fun c36 => absurd c36 (by decide)) (fun c36 => ?_)
                      have hlz := hl
                      have hHz := hH
                      have hSz := hS
                      replace ev35 := Eq.symm ev35
                      subst ev35
                      exact K33 _ _ _ _ _ (Eq.symm ((if_neg c33).trans rfl)) hHz hSz (lv_sub hlz [0, 2, 3, 4, 5, 6] rfl)
                  refine lv_if_ne (tgt := 291) hx hb dL_reads_283 (by decide) (fun c26 => ?_) (fun c26 => ?_)
                  · skip
                    refine lv_iload hx hb dL_reads_291 (lv_at hl 2 rfl) ?_
                    refine lv_iconst (v := 1) hx hb dL_reads_293 (by decide) ?_
                    refine lv_icmp_ne (tgt := 302) hx hb dL_reads_294 (by decide) (fun c27 => ?_) (fun c27 => ?_)
                    · skip
                      refine lv_iload hx hb dL_reads_302 (lv_at hl 2 rfl) ?_
                      refine lv_iconst (v := 2) hx hb dL_reads_304 (by decide) ?_
                      refine lv_icmp_ne (tgt := 313) hx hb dL_reads_305 (by decide) (fun c28 => ?_) (fun c28 => ?_)
                      · skip
                        refine lv_iload hx hb dL_reads_313 (lv_at hl 2 rfl) ?_
                        refine lv_iconst (v := 3) hx hb dL_reads_315 (by decide) ?_
                        refine lv_icmp_ne (tgt := 324) hx hb dL_reads_316 (by decide) (fun c29 => ?_) (fun c29 => ?_)
                        · skip
                          refine lv_iload hx hb dL_reads_324 (lv_at hl 2 rfl) ?_
                          refine lv_iconst (v := 4) hx hb dL_reads_326 (by decide) ?_
                          refine lv_icmp_ne (tgt := 335) hx hb dL_reads_327 (by decide) (fun c30 => ?_) (fun c30 => ?_)
                          · skip
                            refine lv_iload hx hb dL_reads_335 (lv_at hl 2 rfl) ?_
                            refine lv_iconst (v := 5) hx hb dL_reads_337 (by decide) ?_
                            refine lv_icmp_ne (tgt := 346) hx hb dL_reads_338 (by decide) (fun c31 => ?_) (fun c31 => ?_)
                            · skip
                              refine lv_bipush (v := 100) hx hb dL_reads_346 (by decide) ?_
                              have hlz := hl
                              exact K26 _ _ (Eq.symm ((if_neg c26).trans ((if_neg c27).trans ((if_neg c28).trans ((if_neg c29).trans ((if_neg c30).trans ((if_neg c31).trans rfl))))))) (lv_sub hlz [0, 1, 2, 3, 4, 5, 6] rfl)
                            · skip
                              refine lv_bipush (v := 117) hx hb dL_reads_341 (by decide) ?_
                              refine lv_goto (tgt := 348) hx hb dL_reads_343 (by decide) ?_
                              have hlz := hl
                              exact K26 _ _ (Eq.symm ((if_neg c26).trans ((if_neg c27).trans ((if_neg c28).trans ((if_neg c29).trans ((if_neg c30).trans ((if_pos c31).trans rfl))))))) (lv_sub hlz [0, 1, 2, 3, 4, 5, 6] rfl)
                          · skip
                            refine lv_bipush (v := 102) hx hb dL_reads_330 (by decide) ?_
                            refine lv_goto (tgt := 348) hx hb dL_reads_332 (by decide) ?_
                            have hlz := hl
                            exact K26 _ _ (Eq.symm ((if_neg c26).trans ((if_neg c27).trans ((if_neg c28).trans ((if_neg c29).trans ((if_pos c30).trans rfl)))))) (lv_sub hlz [0, 1, 2, 3, 4, 5, 6] rfl)
                        · skip
                          refine lv_bipush (v := 106) hx hb dL_reads_319 (by decide) ?_
                          refine lv_goto (tgt := 348) hx hb dL_reads_321 (by decide) ?_
                          have hlz := hl
                          exact K26 _ _ (Eq.symm ((if_neg c26).trans ((if_neg c27).trans ((if_neg c28).trans ((if_pos c29).trans rfl))))) (lv_sub hlz [0, 1, 2, 3, 4, 5, 6] rfl)
                      · skip
                        refine lv_bipush (v := 112) hx hb dL_reads_308 (by decide) ?_
                        refine lv_goto (tgt := 348) hx hb dL_reads_310 (by decide) ?_
                        have hlz := hl
                        exact K26 _ _ (Eq.symm ((if_neg c26).trans ((if_neg c27).trans ((if_pos c28).trans rfl)))) (lv_sub hlz [0, 1, 2, 3, 4, 5, 6] rfl)
                    · skip
                      refine lv_bipush (v := 99) hx hb dL_reads_297 (by decide) ?_
                      refine lv_goto (tgt := 348) hx hb dL_reads_299 (by decide) ?_
                      have hlz := hl
                      exact K26 _ _ (Eq.symm ((if_neg c26).trans ((if_pos c27).trans rfl))) (lv_sub hlz [0, 1, 2, 3, 4, 5, 6] rfl)
                  · skip
                    refine lv_bipush (v := 109) hx hb dL_reads_286 (by decide) ?_
                    refine lv_goto (tgt := 348) hx hb dL_reads_288 (by decide) ?_
                    have hlz := hl
                    exact K26 _ _ (Eq.symm ((if_pos c26).trans rfl)) (lv_sub hlz [0, 1, 2, 3, 4, 5, 6] rfl)
                have ho := ho.1
                refine lv_if_ne (tgt := 222) hx hb dL_reads_206 (by decide) (fun c24 => ?_) (fun c24 => ?_)
                · have ho := ho.2 c24
                  refine lv_iload hx hb dL_reads_222 (lv_at hl 1 rfl) ?_
                  refine lv_iconst (v := 1) hx hb dL_reads_224 (by decide) ?_
                  refine lv_icmp_ne (tgt := 258) hx hb dL_reads_225 (by decide) (fun c25 => ?_) (fun c25 => ?_)
                  · have ho := ho.2 c25
                    refine lv_iload hx hb dL_reads_258 (lv_at hl 3 rfl) ?_
                    refine lv_iconst (v := 4) hx hb dL_reads_260 (by decide) ?_
                    refine lv_ishr hx hb dL_reads_261 ?_
                    refine lv_iload hx hb dL_reads_262 (lv_at hl 2 rfl) ?_
                    have K27 : ∀ (y26 : Int32) (ls : Array Slot), y26 = (if (y15 : Int32) = 0 then 70 else 250 : Int32) → lv_has ls 12 [(10, .int y21), (8, .int y17), (4, .int i5), (2, .int (fL_low p1 7)), (0, .ref (ga G o1)), (1, .int p1)] → W p l e (rmL_reads o1 p1 v) s m args below meth c H locs 0 0 Q (F0 m 275 ls [.int y26, .int ((p1 >>> (((1 : Int32) + ((2 : Int32) * i5)) &&& 31)) >>> ((4 : Int32) &&& 31))]) := by
                      intro y26 ls ey26 hl
                      have ho := ho y26 ey26
                      have hq28 := ho
                      refine k_L_low X hS hq28 t_ml_VernierDrawersLaw_250 hl.1 (Nat.le_of_ble_eq_true rfl) ⟨Nat.le_of_ble_eq_true rfl, Nat.le_of_ble_eq_true rfl⟩ ⟨Nat.zero_le _, Nat.zero_le _⟩ dL_reads_275 ?_
                      have hlz := hl
                      replace ey26 := Eq.symm ey26
                      subst ey26
                      exact K24 _ _ (Eq.symm ((if_neg c24).trans ((if_neg c25).trans rfl))) (lv_sub hlz [0, 1, 2, 3, 4, 5] rfl)
                    refine lv_if_eq (tgt := 273) hx hb dL_reads_264 (by decide) (fun c27 => ?_) (fun c27 => ?_)
                    · skip
                      refine lv_bipush (v := 70) hx hb dL_reads_273 (by decide) ?_
                      have hlz := hl
                      exact K27 _ _ (Eq.symm ((if_pos c27).trans rfl)) (lv_sub hlz [0, 1, 4, 5, 6, 7] rfl)
                    · skip
                      refine lv_sipush (v := 250) hx hb dL_reads_267 (by decide) ?_
                      refine lv_goto (tgt := 275) hx hb dL_reads_270 (by decide) ?_
                      have hlz := hl
                      exact K27 _ _ (Eq.symm ((if_neg c27).trans rfl)) (lv_sub hlz [0, 1, 4, 5, 6, 7] rfl)
                  · have ho := ho.1 c25
                    refine lv_aload_n hx hb dL_reads_228 rfl (lv_at hl 6 rfl) ?_
                    have hq29 := ho.1
                    have ho := ho.2
                    refine k_X10_blocks X hS hH hk_o1 hq29 t_ml_VernierDrawersLaw_233 hl.1 (Nat.le_of_ble_eq_true rfl) ⟨Nat.le_of_ble_eq_true rfl, Nat.le_of_ble_eq_true rfl⟩ ⟨Nat.zero_le _, Nat.zero_le _⟩ dL_reads_229 ?_
                    refine lv_if_ne (tgt := 240) hx hb dL_reads_232 (by decide) (fun c30 => ?_) (fun c30 => ?_)
                    · have ho := ho c30
                      refine lv_aload_n hx hb dL_reads_240 rfl (lv_at hl 6 rfl) ?_
                      refine lv_iload hx hb dL_reads_241 (lv_at hl 3 rfl) ?_
                      refine lv_iconst (v := 4) hx hb dL_reads_243 (by decide) ?_
                      refine lv_ishr hx hb dL_reads_244 ?_
                      refine lv_aload_n hx hb dL_reads_245 rfl (lv_at hl 6 rfl) ?_
                      refine k_X10_blocks X hS hH hk_o1 hq29 t_ml_VernierDrawersLaw_233 hl.1 (Nat.le_of_ble_eq_true rfl) ⟨Nat.le_of_ble_eq_true rfl, Nat.le_of_ble_eq_true rfl⟩ ⟨Nat.zero_le _, Nat.zero_le _⟩ dL_reads_246 ?_
                      have hq31 := ho.1
                      have ho := ho.2
                      refine k_L_low X hS hq31 t_ml_VernierDrawersLaw_250 hl.1 (Nat.le_of_ble_eq_true rfl) ⟨Nat.le_of_ble_eq_true rfl, Nat.le_of_ble_eq_true rfl⟩ ⟨Nat.zero_le _, Nat.zero_le _⟩ dL_reads_249 ?_
                      have hq32 := ho.1
                      have ho := ho.2
                      have hq33 := ho
                      refine kZ_X10_blockLength X hS hH hk_o1 hq32 hq33 t_ml_VernierDrawersLaw_155 hl.1 (Nat.le_of_ble_eq_true rfl) ⟨Nat.le_of_ble_eq_true rfl, Nat.le_of_ble_eq_true rfl⟩ ⟨Nat.zero_le _, Nat.zero_le _⟩ dL_reads_252 ?_
                      refine lv_goto (tgt := 278) hx hb dL_reads_255 (by decide) ?_
                      have hlz := hl
                      exact K24 _ _ (Eq.symm ((if_neg c24).trans ((if_pos c25).trans ((if_neg c30).trans rfl)))) (lv_sub hlz [0, 1, 4, 5, 6, 7] rfl)
                    · skip
                      refine lv_bipush (v := 100) hx hb dL_reads_235 (by decide) ?_
                      refine lv_goto (tgt := 278) hx hb dL_reads_237 (by decide) ?_
                      have hlz := hl
                      exact K24 _ _ (Eq.symm ((if_neg c24).trans ((if_pos c25).trans ((if_pos c30).trans rfl)))) (lv_sub hlz [0, 1, 4, 5, 6, 7] rfl)
                · have ho := ho.1 c24
                  refine lv_iload hx hb dL_reads_209 (lv_at hl 3 rfl) ?_
                  refine lv_iconst (v := 4) hx hb dL_reads_211 (by decide) ?_
                  refine lv_ishr hx hb dL_reads_212 ?_
                  refine lv_sipush (v := 2600) hx hb dL_reads_213 (by decide) ?_
                  have hq34 := ho
                  refine k_L_low X hS hq34 t_ml_VernierDrawersLaw_250 hl.1 (Nat.le_of_ble_eq_true rfl) ⟨Nat.le_of_ble_eq_true rfl, Nat.le_of_ble_eq_true rfl⟩ ⟨Nat.zero_le _, Nat.zero_le _⟩ dL_reads_216 ?_
                  refine lv_goto (tgt := 278) hx hb dL_reads_219 (by decide) ?_
                  have hlz := hl
                  exact K24 _ _ (Eq.symm ((if_pos c24).trans rfl)) (lv_sub hlz [0, 1, 4, 5, 6, 7] rfl)
              have ho := ho.1
              refine lv_icmp_ne (tgt := 178) hx hb dL_reads_161 (by decide) (fun c22 => ?_) (fun c22 => ?_)
              · have ho := ho.2 c22
                refine lv_iload hx hb dL_reads_178 (lv_at hl 3 rfl) ?_
                refine lv_iconst (v := 2) hx hb dL_reads_180 (by decide) ?_
                refine lv_ishr hx hb dL_reads_181 ?_
                refine lv_iload hx hb dL_reads_182 (lv_at hl 2 rfl) ?_
                have K24 : ∀ (y23 : Int32) (ls : Array Slot), y23 = (if (y15 : Int32) = 0 then (if (y19 : Int32) = 0 then 7 else y19) else 7 : Int32) → lv_has ls 12 [(8, .int y17), (7, .int y15), (5, .int (p1 >>> (((1 : Int32) + ((2 : Int32) * i5)) &&& 31))), (4, .int i5), (2, .int (fL_low p1 7)), (0, .ref (ga G o1)), (1, .int p1)] → W p l e (rmL_reads o1 p1 v) s m args below meth c H locs 0 0 Q (F0 m 199 ls [.int y23, .int ((p1 >>> (((1 : Int32) + ((2 : Int32) * i5)) &&& 31)) >>> ((2 : Int32) &&& 31))]) := by
                  intro y23 ls ey23 hl
                  have ho := ho y23 ey23
                  have hq25 := ho
                  refine k_L_low X hS hq25 t_ml_VernierDrawersLaw_250 hl.1 (Nat.le_of_ble_eq_true rfl) ⟨Nat.le_of_ble_eq_true rfl, Nat.le_of_ble_eq_true rfl⟩ ⟨Nat.zero_le _, Nat.zero_le _⟩ dL_reads_199 ?_
                  have hlz := hl
                  replace ey23 := Eq.symm ey23
                  subst ey23
                  exact K22 _ _ (Eq.symm ((if_neg c22).trans rfl)) (lv_sub hlz [0, 1, 2, 3, 4, 5, 6] rfl)
                refine lv_if_ne (tgt := 192) hx hb dL_reads_184 (by decide) (fun c24 => ?_) (fun c24 => ?_)
                · skip
                  refine lv_bipush (v := 7) hx hb dL_reads_192 (by decide) ?_
                  refine lv_goto (tgt := 199) hx hb dL_reads_194 (by decide) ?_
                  have hlz := hl
                  exact K24 _ _ (Eq.symm ((if_neg c24).trans rfl)) (lv_sub hlz [1, 2, 3, 4, 5, 6, 7] rfl)
                · skip
                  refine lv_iload hx hb dL_reads_187 (lv_at hl 0 rfl) ?_
                  refine lv_if_ne (tgt := 197) hx hb dL_reads_189 (by decide) (fun c25 => ?_) (fun c25 => ?_)
                  · skip
                    refine lv_iload hx hb dL_reads_197 (lv_at hl 0 rfl) ?_
                    have hlz := hl
                    exact K24 _ _ (Eq.symm ((if_pos c24).trans ((if_neg c25).trans rfl))) (lv_sub hlz [1, 2, 3, 4, 5, 6, 7] rfl)
                  · skip
                    refine lv_bipush (v := 7) hx hb dL_reads_192 (by decide) ?_
                    refine lv_goto (tgt := 199) hx hb dL_reads_194 (by decide) ?_
                    have hlz := hl
                    exact K24 _ _ (Eq.symm ((if_pos c24).trans ((if_pos c25).trans rfl))) (lv_sub hlz [1, 2, 3, 4, 5, 6, 7] rfl)
              · have ho := ho.1 c22
                refine lv_iconst (v := 1) hx hb dL_reads_164 (by decide) ?_
                refine lv_iload hx hb dL_reads_165 (lv_at hl 3 rfl) ?_
                refine lv_iconst (v := 2) hx hb dL_reads_167 (by decide) ?_
                refine lv_ishr hx hb dL_reads_168 ?_
                refine lv_bipush (v := 30) hx hb dL_reads_169 (by decide) ?_
                have hq26 := ho
                refine k_L_low X hS hq26 t_ml_VernierDrawersLaw_250 hl.1 (Nat.le_of_ble_eq_true rfl) ⟨Nat.le_of_ble_eq_true rfl, Nat.le_of_ble_eq_true rfl⟩ ⟨Nat.zero_le _, Nat.zero_le _⟩ dL_reads_171 ?_
                refine lv_iadd hx hb dL_reads_174 ?_
                refine lv_goto (tgt := 202) hx hb dL_reads_175 (by decide) ?_
                have hlz := hl
                exact K22 _ _ (Eq.symm ((if_pos c22).trans rfl)) (lv_sub hlz [1, 2, 3, 4, 5, 6, 7] rfl)
            have ho := ho.1
            refine lv_icmp_ne (tgt := 152) hx hb dL_reads_142 (by decide) (fun c20 => ?_) (fun c20 => ?_)
            · have ho := ho.2 c20
              refine lv_aload_n hx hb dL_reads_152 rfl (lv_at hl 5 rfl) ?_
              have hq21 := ho
              refine k_X10_tools X hS hH hk_o1 hq21 t_ml_VernierDrawersLaw_230 hl.1 (Nat.le_of_ble_eq_true rfl) ⟨Nat.le_of_ble_eq_true rfl, Nat.le_of_ble_eq_true rfl⟩ ⟨Nat.zero_le _, Nat.zero_le _⟩ dL_reads_153 ?_
              have hlz := hl
              exact K20 _ _ (Eq.symm ((if_neg c20).trans rfl)) (lv_sub hlz [0, 1, 2, 3, 4, 5, 6] rfl)
            · have ho := ho.1 c20
              refine lv_aload_n hx hb dL_reads_145 rfl (lv_at hl 5 rfl) ?_
              have hq22 := ho
              refine k_X10_types X hS hH hk_o1 hq22 t_ml_VernierDrawersLaw_236 hl.1 (Nat.le_of_ble_eq_true rfl) ⟨Nat.le_of_ble_eq_true rfl, Nat.le_of_ble_eq_true rfl⟩ ⟨Nat.zero_le _, Nat.zero_le _⟩ dL_reads_146 ?_
              refine lv_goto (tgt := 156) hx hb dL_reads_149 (by decide) ?_
              have hlz := hl
              exact K20 _ _ (Eq.symm ((if_pos c20).trans rfl)) (lv_sub hlz [0, 1, 2, 3, 4, 5, 6] rfl)
          refine lv_icmp_ge (tgt := 81) hx hb dL_reads_74 (by decide) (fun c18 => ?_) (fun c18 => ?_)
          · skip
            refine lv_iload hx hb dL_reads_81 (lv_at hl 1 rfl) ?_
            refine lv_iconst (v := 5) hx hb dL_reads_83 (by decide) ?_
            refine lv_icmp_ge (tgt := 91) hx hb dL_reads_84 (by decide) (fun c19 => ?_) (fun c19 => ?_)
            · skip
              refine lv_iload hx hb dL_reads_91 (lv_at hl 1 rfl) ?_
              refine lv_bipush (v := 11) hx hb dL_reads_93 (by decide) ?_
              refine lv_icmp_ge (tgt := 102) hx hb dL_reads_95 (by decide) (fun c20 => ?_) (fun c20 => ?_)
              · skip
                refine lv_iload hx hb dL_reads_102 (lv_at hl 1 rfl) ?_
                refine lv_bipush (v := 17) hx hb dL_reads_104 (by decide) ?_
                refine lv_icmp_ge (tgt := 113) hx hb dL_reads_106 (by decide) (fun c21 => ?_) (fun c21 => ?_)
                · skip
                  refine lv_iload hx hb dL_reads_113 (lv_at hl 1 rfl) ?_
                  refine lv_bipush (v := 18) hx hb dL_reads_115 (by decide) ?_
                  refine lv_icmp_ge (tgt := 124) hx hb dL_reads_117 (by decide) (fun c22 => ?_) (fun c22 => ?_)
                  · skip
                    refine lv_iload hx hb dL_reads_124 (lv_at hl 1 rfl) ?_
                    refine lv_bipush (v := 19) hx hb dL_reads_126 (by decide) ?_
                    refine lv_icmp_ge (tgt := 135) hx hb dL_reads_128 (by decide) (fun c23 => ?_) (fun c23 => ?_)
                    · skip
                      refine lv_bipush (v := 6) hx hb dL_reads_135 (by decide) ?_
                      have hlz := hl
                      exact K18 _ _ (Eq.symm ((if_pos c18).trans ((if_pos c19).trans ((if_pos c20).trans ((if_pos c21).trans ((if_pos c22).trans ((if_pos c23).trans rfl))))))) (lv_sub hlz [0, 2, 3, 4, 5, 6] rfl)
                    · skip
                      refine lv_iconst (v := 5) hx hb dL_reads_131 (by decide) ?_
                      refine lv_goto (tgt := 137) hx hb dL_reads_132 (by decide) ?_
                      have hlz := hl
                      exact K18 _ _ (Eq.symm ((if_pos c18).trans ((if_pos c19).trans ((if_pos c20).trans ((if_pos c21).trans ((if_pos c22).trans ((if_neg c23).trans rfl))))))) (lv_sub hlz [0, 2, 3, 4, 5, 6] rfl)
                  · skip
                    refine lv_iconst (v := 4) hx hb dL_reads_120 (by decide) ?_
                    refine lv_goto (tgt := 137) hx hb dL_reads_121 (by decide) ?_
                    have hlz := hl
                    exact K18 _ _ (Eq.symm ((if_pos c18).trans ((if_pos c19).trans ((if_pos c20).trans ((if_pos c21).trans ((if_neg c22).trans rfl)))))) (lv_sub hlz [0, 2, 3, 4, 5, 6] rfl)
                · skip
                  refine lv_iconst (v := 3) hx hb dL_reads_109 (by decide) ?_
                  refine lv_goto (tgt := 137) hx hb dL_reads_110 (by decide) ?_
                  have hlz := hl
                  exact K18 _ _ (Eq.symm ((if_pos c18).trans ((if_pos c19).trans ((if_pos c20).trans ((if_neg c21).trans rfl))))) (lv_sub hlz [0, 2, 3, 4, 5, 6] rfl)
              · skip
                refine lv_iconst (v := 2) hx hb dL_reads_98 (by decide) ?_
                refine lv_goto (tgt := 137) hx hb dL_reads_99 (by decide) ?_
                have hlz := hl
                exact K18 _ _ (Eq.symm ((if_pos c18).trans ((if_pos c19).trans ((if_neg c20).trans rfl)))) (lv_sub hlz [0, 2, 3, 4, 5, 6] rfl)
            · skip
              refine lv_iconst (v := 1) hx hb dL_reads_87 (by decide) ?_
              refine lv_goto (tgt := 137) hx hb dL_reads_88 (by decide) ?_
              have hlz := hl
              exact K18 _ _ (Eq.symm ((if_pos c18).trans ((if_neg c19).trans rfl))) (lv_sub hlz [0, 2, 3, 4, 5, 6] rfl)
          · skip
            refine lv_iconst (v := 0) hx hb dL_reads_77 (by decide) ?_
            refine lv_goto (tgt := 137) hx hb dL_reads_78 (by decide) ?_
            have hlz := hl
            exact K18 _ _ (Eq.symm ((if_neg c18).trans rfl)) (lv_sub hlz [0, 2, 3, 4, 5, 6] rfl)
        refine lv_if_ne (tgt := 68) hx hb dL_reads_61 (by decide) (fun c16 => ?_) (fun c16 => ?_)
        · skip
          refine lv_iconst (v := 0) hx hb dL_reads_68 (by decide) ?_
          have hlz := hl
          exact K16 _ _ (Eq.symm ((if_neg c16).trans rfl)) (lv_sub hlz [0, 1, 2, 4, 5, 6] rfl)
        · skip
          refine lv_iconst (v := 1) hx hb dL_reads_64 (by decide) ?_
          refine lv_goto (tgt := 69) hx hb dL_reads_65 (by decide) ?_
          have hlz := hl
          exact K16 _ _ (Eq.symm ((if_pos c16).trans rfl)) (lv_sub hlz [0, 1, 2, 4, 5, 6] rfl)
  have hol := ho.1
  refine L8 (8) 0 v3 _ _ _ _ hol hH hS (lv_sub hl [0, 1, 2, 3, 4] rfl) (fun v7 da H locs ls ev7 hH hS hl => ?_)
  have ho := ho.2 v7 ev7
  refine lv_aload_n hx hb dL_reads_456 rfl (lv_at hl 2 rfl) ?_
  refine k_X10_states X hS hH hk_o1 t_ml_VernierDrawersLaw_288 hl.1 (Nat.le_of_ble_eq_true rfl) ⟨Nat.le_of_ble_eq_true rfl, Nat.le_of_ble_eq_true rfl⟩ ⟨Nat.zero_le _, Nat.zero_le _⟩ dL_reads_457 ?_
  refine lv_istore (lv' := [(4, .int (fX10_states o1 v7)), (3, .int 1), (2, .int (fL_low p1 7)), (0, .ref (ga G o1))]) hx hb dL_reads_460 hl (by decide) rfl (fun ls hl => ?_)
  refine lv_aload_n hx hb dL_reads_462 rfl (lv_at hl 3 rfl) ?_
  have hq47 := ho.1
  have ho := ho.2
  have hk48 : kkL_faultPosition o1 v7 = pot ((fL_faultPosition o1 v7).2) - pot v7 + 36 := rfl
  have hq49 := ho.1
  have ho := ho.2
  refine k_L_faultPosition hst X hS hN hH hk_o1 hq47 t_ml_VernierDrawersLaw_333 hl.1 (Nat.le_of_ble_eq_true rfl) ⟨Nat.le_of_ble_eq_true rfl, Nat.le_of_ble_eq_true rfl⟩ ⟨(show 0 + kkL_faultPosition o1 v7 ≤ kkL_reads o1 p1 v by omega), (show 0 + kkL_faultPosition o1 v7 ≤ kkL_reads o1 p1 v by omega)⟩ dL_reads_463 (fun da H locs v50 ev50 hH hS => ?_)
  have ho := ho v50 ev50
  have hp51 : pot v50 = pot ((fL_faultPosition o1 v7).2) := by rw [ev50]
  refine W.widen (k := ((pot v50 - pot v) + 36)) (n := ((pot v50 - pot v) + 36)) (by omega) (by omega) ?_
  refine lv_istore (lv' := [(5, .int ((fL_faultPosition o1 v7).1)), (4, .int (fX10_states o1 v7)), (3, .int 1), (2, .int (fL_low p1 7)), (0, .ref (ga G o1))]) hx hb dL_reads_466 hl (by decide) rfl (fun ls hl => ?_)
  refine lv_aload_n hx hb dL_reads_468 rfl (lv_at hl 4 rfl) ?_
  have hq52 := ho.1
  have ho := ho.2
  have hk53 : kkL_faultReason o1 v50 = pot ((fL_faultReason o1 v50).2) - pot v50 + 36 := rfl
  have hq54 := ho.1
  have ho := ho.2
  refine k_L_faultReason hst X hS hN hH hk_o1 hq52 t_ml_VernierDrawersLaw_335 hl.1 (Nat.le_of_ble_eq_true rfl) ⟨Nat.le_of_ble_eq_true rfl, Nat.le_of_ble_eq_true rfl⟩ ⟨(show ((pot v50 - pot v) + 36) + kkL_faultReason o1 v50 ≤ kkL_reads o1 p1 v by omega), (show ((pot v50 - pot v) + 36) + kkL_faultReason o1 v50 ≤ kkL_reads o1 p1 v by omega)⟩ dL_reads_469 (fun da H locs v55 ev55 hH hS => ?_)
  have ho := ho v55 ev55
  have hp56 : pot v55 = pot ((fL_faultReason o1 v50).2) := by rw [ev55]
  refine W.widen (k := ((pot v55 - pot v) + 72)) (n := ((pot v55 - pot v) + 72)) (by omega) (by omega) ?_
  refine lv_istore (lv' := [(6, .int ((fL_faultReason o1 v50).1)), (5, .int ((fL_faultPosition o1 v7).1)), (4, .int (fX10_states o1 v7)), (3, .int 1), (2, .int (fL_low p1 7)), (0, .ref (ga G o1))]) hx hb dL_reads_472 hl (by decide) rfl (fun ls hl => ?_)
  refine lv_aload_n hx hb dL_reads_474 rfl (lv_at hl 5 rfl) ?_
  have hq57 := ho.1
  have ho := ho.2
  have hk58 : kkL_faultCause o1 v55 = pot ((fL_faultCause o1 v55).2) - pot v55 + 36 := rfl
  have hq59 := ho.1
  have ho := ho.2
  refine k_L_faultCause hst X hS hN hH hk_o1 hq57 t_ml_VernierDrawersLaw_337 hl.1 (Nat.le_of_ble_eq_true rfl) ⟨Nat.le_of_ble_eq_true rfl, Nat.le_of_ble_eq_true rfl⟩ ⟨(show ((pot v55 - pot v) + 72) + kkL_faultCause o1 v55 ≤ kkL_reads o1 p1 v by omega), (show ((pot v55 - pot v) + 72) + kkL_faultCause o1 v55 ≤ kkL_reads o1 p1 v by omega)⟩ dL_reads_475 (fun da H locs v60 ev60 hH hS => ?_)
  have ho := ho v60 ev60
  have hp61 : pot v60 = pot ((fL_faultCause o1 v55).2) := by rw [ev60]
  refine W.widen (k := ((pot v60 - pot v) + 108)) (n := ((pot v60 - pot v) + 108)) (by omega) (by omega) ?_
  refine lv_istore (lv' := [(7, .int ((fL_faultCause o1 v55).1)), (6, .int ((fL_faultReason o1 v50).1)), (5, .int ((fL_faultPosition o1 v7).1)), (4, .int (fX10_states o1 v7)), (3, .int 1), (2, .int (fL_low p1 7)), (0, .ref (ga G o1))]) hx hb dL_reads_478 hl (by decide) rfl (fun ls hl => ?_)
  refine lv_aload_n hx hb dL_reads_480 rfl (lv_at hl 6 rfl) ?_
  have hq62 := ho.1
  have ho := ho.2
  have hk63 : kkL_play o1 v60 = pot ((fL_play o1 v60).2) - pot v60 + 36 := rfl
  have hq64 := ho.1
  have ho := ho.2
  refine k_L_play hst X hS hN hH hk_o1 hq62 t_ml_VernierDrawersLaw_339 hl.1 (Nat.le_of_ble_eq_true rfl) ⟨Nat.le_of_ble_eq_true rfl, Nat.le_of_ble_eq_true rfl⟩ ⟨(show ((pot v60 - pot v) + 108) + kkL_play o1 v60 ≤ kkL_reads o1 p1 v by omega), (show ((pot v60 - pot v) + 108) + kkL_play o1 v60 ≤ kkL_reads o1 p1 v by omega)⟩ dL_reads_481 (fun da H locs v65 ev65 hH hS => ?_)
  have ho := ho v65 ev65
  have hp66 : pot v65 = pot ((fL_play o1 v60).2) := by rw [ev65]
  refine W.widen (k := ((pot v65 - pot v) + 144)) (n := ((pot v65 - pot v) + 144)) (by omega) (by omega) ?_
  refine lv_istore (lv' := [(8, .int ((fL_play o1 v60).1)), (7, .int ((fL_faultCause o1 v55).1)), (6, .int ((fL_faultReason o1 v50).1)), (5, .int ((fL_faultPosition o1 v7).1)), (4, .int (fX10_states o1 v7)), (3, .int 1), (2, .int (fL_low p1 7)), (0, .ref (ga G o1))]) hx hb dL_reads_484 hl (by decide) rfl (fun ls hl => ?_)
  refine lv_aload_n hx hb dL_reads_486 rfl (lv_at hl 7 rfl) ?_
  refine k_X10_clearText X hS hH hk_o1 t_ml_VernierDrawersLaw_327 hl.1 (Nat.le_of_ble_eq_true rfl) ⟨Nat.le_of_ble_eq_true rfl, Nat.le_of_ble_eq_true rfl⟩ ⟨(show ((pot v65 - pot v) + 144) ≤ kkL_reads o1 p1 v by omega), (show ((pot v65 - pot v) + 144) ≤ kkL_reads o1 p1 v by omega)⟩ dL_reads_487 (fun da H locs v67 ev67 hH hS => ?_)
  have ho := ho v67 ev67
  obtain ⟨v68, ev68⟩ : ∃ z : vSt, z = gM v67 (fX11_clearText 461 v67).2 := ⟨_, rfl⟩
  replace hH := hH.gM ev68
  have ho := ho v68 ev68
  refine lv_istore (lv' := [(9, .int ((fX10_clearText o1 v65).1)), (8, .int ((fL_play o1 v60).1)), (7, .int ((fL_faultCause o1 v55).1)), (6, .int ((fL_faultReason o1 v50).1)), (5, .int ((fL_faultPosition o1 v7).1)), (4, .int (fX10_states o1 v7)), (3, .int 1), (2, .int (fL_low p1 7)), (0, .ref (ga G o1))]) hx hb dL_reads_490 hl (by decide) rfl (fun ls hl => ?_)
  refine lv_iload_n hx hb dL_reads_492 rfl (lv_at hl 6 rfl) ?_
  refine lv_if_eq (tgt := 579) hx hb dL_reads_493 (by decide) (fun c69 => absurd c69 (by decide)) (fun c69 => ?_)
  refine lv_iload hx hb dL_reads_496 (lv_at hl 4 rfl) ?_
  refine lv_ldc (v := (-100104)) hx hb hown (hts _ t_con_VernierDrawersLaw_73) dL_reads_498 ?_
  have K71 : ∀ (y70 : Int32) (ls : Array Slot), y70 = (if (((fL_faultPosition o1 v7).1) : Int32) = (-100104) then 1 else 0 : Int32) → lv_has ls 12 [(9, .int ((fX10_clearText o1 v65).1)), (8, .int ((fL_play o1 v60).1)), (7, .int ((fL_faultCause o1 v55).1)), (6, .int ((fL_faultReason o1 v50).1)), (5, .int ((fL_faultPosition o1 v7).1)), (4, .int (fX10_states o1 v7)), (2, .int (fL_low p1 7)), (0, .ref (ga G o1))] → W p l e (rmL_reads o1 p1 v) s m args below meth c H locs ((pot v65 - pot v) + 144) ((pot v65 - pot v) + 144) Q (F0 m 508 ls [.int y70]) := by
    intro y70 ls ey70 hl
    have ho := ho y70 ey70
    refine lv_iload hx hb dL_reads_508 (lv_at hl 3 rfl) ?_
    refine lv_ldc (v := (-100104)) hx hb hown (hts _ t_con_VernierDrawersLaw_73) dL_reads_510 ?_
    have K73 : ∀ (y72 : Int32) (ls : Array Slot), y72 = (if (((fL_faultReason o1 v50).1) : Int32) = (-100104) then 1 else 0 : Int32) → lv_has ls 12 [(9, .int ((fX10_clearText o1 v65).1)), (8, .int ((fL_play o1 v60).1)), (7, .int ((fL_faultCause o1 v55).1)), (6, .int ((fL_faultReason o1 v50).1)), (5, .int ((fL_faultPosition o1 v7).1)), (4, .int (fX10_states o1 v7)), (2, .int (fL_low p1 7)), (0, .ref (ga G o1))] → W p l e (rmL_reads o1 p1 v) s m args below meth c H locs ((pot v65 - pot v) + 144) ((pot v65 - pot v) + 144) Q (F0 m 520 ls [.int y72, .int y70]) := by
      intro y72 ls ey72 hl
      have ho := ho y72 ey72
      refine lv_icmp_ne (tgt := 579) hx hb dL_reads_520 (by decide) (fun c74 => ?_) (fun c74 => ?_)
      · exact absurd ho.1 c74
      have ho := ho.2
      refine lv_iload hx hb dL_reads_523 (lv_at hl 4 rfl) ?_
      refine lv_ldc (v := (-100104)) hx hb hown (hts _ t_con_VernierDrawersLaw_73) dL_reads_525 ?_
      have K76 : ∀ (y75 : Int32) (ls : Array Slot), y75 = (if (((fL_faultPosition o1 v7).1) : Int32) = (-100104) then 1 else 0 : Int32) → lv_has ls 12 [(9, .int ((fX10_clearText o1 v65).1)), (8, .int ((fL_play o1 v60).1)), (7, .int ((fL_faultCause o1 v55).1)), (6, .int ((fL_faultReason o1 v50).1)), (5, .int ((fL_faultPosition o1 v7).1)), (4, .int (fX10_states o1 v7)), (2, .int (fL_low p1 7)), (0, .ref (ga G o1))] → W p l e (rmL_reads o1 p1 v) s m args below meth c H locs ((pot v65 - pot v) + 144) ((pot v65 - pot v) + 144) Q (F0 m 535 ls [.int y75]) := by
        intro y75 ls ey75 hl
        have ho := ho y75 ey75
        refine lv_iload hx hb dL_reads_535 (lv_at hl 2 rfl) ?_
        refine lv_ldc (v := (-100104)) hx hb hown (hts _ t_con_VernierDrawersLaw_73) dL_reads_537 ?_
        have K78 : ∀ (y77 : Int32) (ls : Array Slot), y77 = (if (((fL_faultCause o1 v55).1) : Int32) = (-100104) then 1 else 0 : Int32) → lv_has ls 12 [(9, .int ((fX10_clearText o1 v65).1)), (8, .int ((fL_play o1 v60).1)), (7, .int ((fL_faultCause o1 v55).1)), (6, .int ((fL_faultReason o1 v50).1)), (5, .int ((fL_faultPosition o1 v7).1)), (4, .int (fX10_states o1 v7)), (2, .int (fL_low p1 7)), (0, .ref (ga G o1))] → W p l e (rmL_reads o1 p1 v) s m args below meth c H locs ((pot v65 - pot v) + 144) ((pot v65 - pot v) + 144) Q (F0 m 547 ls [.int y77, .int y75]) := by
          intro y77 ls ey77 hl
          have ho := ho y77 ey77
          refine lv_icmp_ne (tgt := 579) hx hb dL_reads_547 (by decide) (fun c79 => ?_) (fun c79 => ?_)
          · exact absurd ho.1 c79
          have ho := ho.2
          refine lv_iload hx hb dL_reads_550 (lv_at hl 1 rfl) ?_
          refine lv_ldc (v := (-100103)) hx hb hown (hts _ t_con_VernierDrawersLaw_20) dL_reads_552 ?_
          have K81 : ∀ (y80 : Int32) (ls : Array Slot), y80 = (if (((fL_play o1 v60).1) : Int32) = (-100103) then 1 else 0 : Int32) → lv_has ls 12 [(9, .int ((fX10_clearText o1 v65).1)), (8, .int ((fL_play o1 v60).1)), (7, .int ((fL_faultCause o1 v55).1)), (6, .int ((fL_faultReason o1 v50).1)), (5, .int ((fL_faultPosition o1 v7).1)), (4, .int (fX10_states o1 v7)), (2, .int (fL_low p1 7)), (0, .ref (ga G o1))] → W p l e (rmL_reads o1 p1 v) s m args below meth c H locs ((pot v65 - pot v) + 144) ((pot v65 - pot v) + 144) Q (F0 m 562 ls [.int y80]) := by
            intro y80 ls ey80 hl
            have ho := ho y80 ey80
            refine lv_iload hx hb dL_reads_562 (lv_at hl 4 rfl) ?_
            have K83 : ∀ (y82 : Int32) (ls : Array Slot), y82 = (if (((fL_faultPosition o1 v7).1) : Int32) < 0 then 0 else 1 : Int32) → lv_has ls 12 [(9, .int ((fX10_clearText o1 v65).1)), (8, .int ((fL_play o1 v60).1)), (7, .int ((fL_faultCause o1 v55).1)), (6, .int ((fL_faultReason o1 v50).1)), (5, .int ((fL_faultPosition o1 v7).1)), (4, .int (fX10_states o1 v7)), (2, .int (fL_low p1 7)), (0, .ref (ga G o1))] → W p l e (rmL_reads o1 p1 v) s m args below meth c H locs ((pot v65 - pot v) + 144) ((pot v65 - pot v) + 144) Q (F0 m 572 ls [.int y82, .int y80]) := by
              intro y82 ls ey82 hl
              have ho := ho y82 ey82
              refine lv_icmp_ne (tgt := 579) hx hb dL_reads_572 (by decide) (fun c84 => ?_) (fun c84 => ?_)
              · exact absurd ho.1 c84
              have ho := ho.2
              refine lv_iconst (v := 1) hx hb dL_reads_575 (by decide) ?_
              refine lv_goto (tgt := 580) hx hb dL_reads_576 (by decide) ?_
              refine lv_istore (lv' := [(10, .int 1), (9, .int ((fX10_clearText o1 v65).1)), (8, .int ((fL_play o1 v60).1)), (7, .int ((fL_faultCause o1 v55).1)), (6, .int ((fL_faultReason o1 v50).1)), (5, .int ((fL_faultPosition o1 v7).1)), (4, .int (fX10_states o1 v7)), (2, .int (fL_low p1 7)), (0, .ref (ga G o1))]) hx hb dL_reads_580 hl (by decide) rfl (fun ls hl => ?_)
              refine lv_iload hx hb dL_reads_582 (lv_at hl 0 rfl) ?_
              refine lv_if_eq (tgt := 684) hx hb dL_reads_584 (by decide) (fun c85 => absurd c85 (by decide)) (fun c85 => ?_)
              refine lv_iload hx hb dL_reads_587 (lv_at hl 5 rfl) ?_
              refine lv_if_lt (tgt := 653) hx hb dL_reads_589 (by decide) (fun c86 => ?_) (fun c86 => ?_)
              · have ho := ho.1 c86
                refine lv_iload hx hb dL_reads_653 (lv_at hl 2 rfl) ?_
                refine lv_iload_n hx hb dL_reads_655 rfl (lv_at hl 7 rfl) ?_
                refine lv_icmp_ne (tgt := 684) hx hb dL_reads_656 (by decide) (fun c87 => ?_) (fun c87 => ?_)
                · exact absurd ho.1 c87
                have ho := ho.2
                refine lv_aload_n hx hb dL_reads_659 rfl (lv_at hl 8 rfl) ?_
                refine k_X10_states X hS hH hk_o1 t_ml_VernierDrawersLaw_288 hl.1 (Nat.le_of_ble_eq_true rfl) ⟨Nat.le_of_ble_eq_true rfl, Nat.le_of_ble_eq_true rfl⟩ ⟨(show ((pot v65 - pot v) + 144) ≤ kkL_reads o1 p1 v by omega), (show ((pot v65 - pot v) + 144) ≤ kkL_reads o1 p1 v by omega)⟩ dL_reads_660 ?_
                refine lv_iload hx hb dL_reads_663 (lv_at hl 6 rfl) ?_
                refine lv_iconst (v := 4) hx hb dL_reads_665 (by decide) ?_
                have K89 : ∀ (y88 : Int32) (ls : Array Slot), y88 = (if (4 : Int32) ≤ (fX10_states o1 v7) then 4 else ((fX10_states o1 v7) + (1 : Int32)) : Int32) → lv_has ls 12 [] → W p l e (rmL_reads o1 p1 v) s m args below meth c H locs ((pot v65 - pot v) + 144) ((pot v65 - pot v) + 144) Q (F0 m 677 ls [.int y88, .int (fX10_states o1 v68)]) := by
                  intro y88 ls ey88 hl
                  have ho := ho y88 ey88
                  refine lv_icmp_ne (tgt := 684) hx hb dL_reads_677 (by decide) (fun c90 => ?_) (fun c90 => ?_)
                  · exact absurd ho c90
                  refine lv_iconst (v := 1) hx hb dL_reads_680 (by decide) ?_
                  refine lv_goto (tgt := 685) hx hb dL_reads_681 (by decide) ?_
                  have hHz := hH
                  have hSz := hS
                  have hFz : fL_reads o1 p1 v = v68 := by
                    refine (fL_reads.eq_1 _ _ _).trans ?_
                    dsimp only
                    try rw [← ev2]
                    try rw [← ev3]
                    try rw [← ev7]
                    try rw [← ev50]
                    try rw [← ev55]
                    try rw [← ev60]
                    try rw [← ev65]
                    try rw [← ev67]
                    try rw [← ev68]
                    try rw [← ey70]
                    try rw [← ey72]
                    try rw [← ey75]
                    try rw [← ey77]
                    try rw [← ey80]
                    try rw [← ey82]
                    try rw [← ey88]
                    all_goals rw [if_pos c86]
                  exact E _ _ _ _ _ _ _ _ _ dL_reads_685 rfl rfl (Eq.symm hFz) hHz hSz (show ((pot v65 - pot v) + 144) ≤ kkL_reads o1 p1 v by omega) (show ((pot v65 - pot v) + 144) ≤ kkL_reads o1 p1 v by omega)
                refine lv_icmp_ge (tgt := 676) hx hb dL_reads_666 (by decide) (fun c89 => ?_) (fun c89 => ?_)
                · skip
                  refine lv_iconst (v := 4) hx hb dL_reads_676 (by decide) ?_
                  have hlz := hl
                  exact K89 _ _ (Eq.symm ((if_pos c89).trans rfl)) (lv_sub hlz [] rfl)
                · skip
                  refine lv_iload hx hb dL_reads_669 (lv_at hl 6 rfl) ?_
                  refine lv_iconst (v := 1) hx hb dL_reads_671 (by decide) ?_
                  refine lv_iadd hx hb dL_reads_672 ?_
                  refine lv_goto (tgt := 677) hx hb dL_reads_673 (by decide) ?_
                  have hlz := hl
                  exact K89 _ _ (Eq.symm ((if_neg c89).trans rfl)) (lv_sub hlz [] rfl)
              · have ho := ho.2 c86
                refine lv_iload hx hb dL_reads_592 (lv_at hl 5 rfl) ?_
                refine lv_iload hx hb dL_reads_594 (lv_at hl 1 rfl) ?_
                refine lv_icmp_ge (tgt := 684) hx hb dL_reads_596 (by decide) (fun c91 => ?_) (fun c91 => ?_)
                · exact absurd c91 ho.1
                have ho := ho.2
                refine lv_iload hx hb dL_reads_599 (lv_at hl 4 rfl) ?_
                refine lv_iconst (v := 1) hx hb dL_reads_601 (by decide) ?_
                have K92 : ∀  (ls : Array Slot), lv_has ls 12 [(4, .int (fX10_states o1 v7)), (0, .ref (ga G o1))] → W p l e (rmL_reads o1 p1 v) s m args below meth c H locs ((pot v65 - pot v) + 144) ((pot v65 - pot v) + 144) Q (F0 m 641 ls []) := by
                  intro  ls  hl
                  have ho := ho.2
                  refine lv_aload_n hx hb dL_reads_641 rfl (lv_at hl 1 rfl) ?_
                  refine k_X10_states X hS hH hk_o1 t_ml_VernierDrawersLaw_288 hl.1 (Nat.le_of_ble_eq_true rfl) ⟨Nat.le_of_ble_eq_true rfl, Nat.le_of_ble_eq_true rfl⟩ ⟨(show ((pot v65 - pot v) + 144) ≤ kkL_reads o1 p1 v by omega), (show ((pot v65 - pot v) + 144) ≤ kkL_reads o1 p1 v by omega)⟩ dL_reads_642 ?_
                  refine lv_iload hx hb dL_reads_645 (lv_at hl 0 rfl) ?_
                  refine lv_icmp_ne (tgt := 684) hx hb dL_reads_647 (by decide) (fun c93 => ?_) (fun c93 => ?_)
                  · exact absurd ho c93
                  refine lv_goto (tgt := 680) hx hb dL_reads_650 (by decide) ?_
                  refine lv_iconst (v := 1) hx hb dL_reads_680 (by decide) ?_
                  refine lv_goto (tgt := 685) hx hb dL_reads_681 (by decide) ?_
                  have hHz := hH
                  have hSz := hS
                  have hFz : fL_reads o1 p1 v = v68 := by
                    refine (fL_reads.eq_1 _ _ _).trans ?_
                    dsimp only
                    try rw [← ev2]
                    try rw [← ev3]
                    try rw [← ev7]
                    try rw [← ev50]
                    try rw [← ev55]
                    try rw [← ev60]
                    try rw [← ev65]
                    try rw [← ev67]
                    try rw [← ev68]
                    try rw [← ey70]
                    try rw [← ey72]
                    try rw [← ey75]
                    try rw [← ey77]
                    try rw [← ey80]
                    try rw [← ey82]
                    all_goals rw [if_neg c86]
                  exact E _ _ _ _ _ _ _ _ _ dL_reads_685 rfl rfl (Eq.symm hFz) hHz hSz (show ((pot v65 - pot v) + 144) ≤ kkL_reads o1 p1 v by omega) (show ((pot v65 - pot v) + 144) ≤ kkL_reads o1 p1 v by omega)
                have ho := ho.1
                refine lv_icmp_ne (tgt := 623) hx hb dL_reads_602 (by decide) (fun c92 => ?_) (fun c92 => ?_)
                · have ho := ho.2 c92
                  refine lv_iload hx hb dL_reads_623 (lv_at hl 4 rfl) ?_
                  refine lv_iconst (v := 2) hx hb dL_reads_625 (by decide) ?_
                  refine lv_icmp_ne (tgt := 684) hx hb dL_reads_626 (by decide) (fun c93 => ?_) (fun c93 => ?_)
                  · exact absurd ho.1 c93
                  have ho := ho.2
                  refine lv_iload hx hb dL_reads_629 (lv_at hl 3 rfl) ?_
                  refine lv_iconst (v := 1) hx hb dL_reads_631 (by decide) ?_
                  refine lv_icmp_eq (tgt := 641) hx hb dL_reads_632 (by decide) (fun c94 => ?_) (fun c94 => ?_)
                  · skip
                    have hlz := hl
                    exact K92  _  (lv_sub hlz [6, 8] rfl)
                  · have ho := ho c94
                    refine lv_iload hx hb dL_reads_635 (lv_at hl 3 rfl) ?_
                    refine lv_iconst (v := 2) hx hb dL_reads_637 (by decide) ?_
                    refine lv_icmp_ne (tgt := 684) hx hb dL_reads_638 (by decide) (fun c95 => ?_) (fun c95 => ?_)
                    · exact absurd ho c95
                    have hlz := hl
                    exact K92  _  (lv_sub hlz [6, 8] rfl)
                · have ho := ho.1 c92
                  refine lv_iload hx hb dL_reads_605 (lv_at hl 3 rfl) ?_
                  refine lv_if_lt (tgt := 684) hx hb dL_reads_607 (by decide) (fun c96 => ?_) (fun c96 => ?_)
                  · exact absurd c96 ho.1
                  have ho := ho.2
                  refine lv_iload hx hb dL_reads_610 (lv_at hl 5 rfl) ?_
                  refine lv_iload hx hb dL_reads_612 (lv_at hl 3 rfl) ?_
                  refine lv_iadd hx hb dL_reads_614 ?_
                  refine lv_iload hx hb dL_reads_615 (lv_at hl 1 rfl) ?_
                  refine lv_icmp_gt (tgt := 684) hx hb dL_reads_617 (by decide) (fun c97 => ?_) (fun c97 => ?_)
                  · exact absurd c97 ho
                  refine lv_goto (tgt := 641) hx hb dL_reads_620 (by decide) ?_
                  have hlz := hl
                  exact K92  _  (lv_sub hlz [6, 8] rfl)
            refine lv_if_lt (tgt := 571) hx hb dL_reads_564 (by decide) (fun c83 => ?_) (fun c83 => ?_)
            · skip
              refine lv_iconst (v := 0) hx hb dL_reads_571 (by decide) ?_
              have hlz := hl
              exact K83 _ _ (Eq.symm ((if_pos c83).trans rfl)) (lv_sub hlz [0, 1, 2, 3, 4, 5, 6, 7] rfl)
            · skip
              refine lv_iconst (v := 1) hx hb dL_reads_567 (by decide) ?_
              refine lv_goto (tgt := 572) hx hb dL_reads_568 (by decide) ?_
              have hlz := hl
              exact K83 _ _ (Eq.symm ((if_neg c83).trans rfl)) (lv_sub hlz [0, 1, 2, 3, 4, 5, 6, 7] rfl)
          refine lv_icmp_ne (tgt := 561) hx hb dL_reads_554 (by decide) (fun c81 => ?_) (fun c81 => ?_)
          · skip
            refine lv_iconst (v := 0) hx hb dL_reads_561 (by decide) ?_
            have hlz := hl
            exact K81 _ _ (Eq.symm ((if_neg c81).trans rfl)) (lv_sub hlz [0, 1, 2, 3, 4, 5, 6, 7] rfl)
          · skip
            refine lv_iconst (v := 1) hx hb dL_reads_557 (by decide) ?_
            refine lv_goto (tgt := 562) hx hb dL_reads_558 (by decide) ?_
            have hlz := hl
            exact K81 _ _ (Eq.symm ((if_pos c81).trans rfl)) (lv_sub hlz [0, 1, 2, 3, 4, 5, 6, 7] rfl)
        refine lv_icmp_ne (tgt := 546) hx hb dL_reads_539 (by decide) (fun c78 => ?_) (fun c78 => ?_)
        · skip
          refine lv_iconst (v := 0) hx hb dL_reads_546 (by decide) ?_
          have hlz := hl
          exact K78 _ _ (Eq.symm ((if_neg c78).trans rfl)) (lv_sub hlz [0, 1, 2, 3, 4, 5, 6, 7] rfl)
        · skip
          refine lv_iconst (v := 1) hx hb dL_reads_542 (by decide) ?_
          refine lv_goto (tgt := 547) hx hb dL_reads_543 (by decide) ?_
          have hlz := hl
          exact K78 _ _ (Eq.symm ((if_pos c78).trans rfl)) (lv_sub hlz [0, 1, 2, 3, 4, 5, 6, 7] rfl)
      refine lv_icmp_ne (tgt := 534) hx hb dL_reads_527 (by decide) (fun c76 => ?_) (fun c76 => ?_)
      · skip
        refine lv_iconst (v := 0) hx hb dL_reads_534 (by decide) ?_
        have hlz := hl
        exact K76 _ _ (Eq.symm ((if_neg c76).trans rfl)) (lv_sub hlz [0, 1, 2, 3, 4, 5, 6, 7] rfl)
      · skip
        refine lv_iconst (v := 1) hx hb dL_reads_530 (by decide) ?_
        refine lv_goto (tgt := 535) hx hb dL_reads_531 (by decide) ?_
        have hlz := hl
        exact K76 _ _ (Eq.symm ((if_pos c76).trans rfl)) (lv_sub hlz [0, 1, 2, 3, 4, 5, 6, 7] rfl)
    refine lv_icmp_ne (tgt := 519) hx hb dL_reads_512 (by decide) (fun c73 => ?_) (fun c73 => ?_)
    · skip
      refine lv_iconst (v := 0) hx hb dL_reads_519 (by decide) ?_
      have hlz := hl
      exact K73 _ _ (Eq.symm ((if_neg c73).trans rfl)) (lv_sub hlz [0, 1, 2, 3, 4, 5, 6, 7] rfl)
    · skip
      refine lv_iconst (v := 1) hx hb dL_reads_515 (by decide) ?_
      refine lv_goto (tgt := 520) hx hb dL_reads_516 (by decide) ?_
      have hlz := hl
      exact K73 _ _ (Eq.symm ((if_pos c73).trans rfl)) (lv_sub hlz [0, 1, 2, 3, 4, 5, 6, 7] rfl)
  refine lv_icmp_ne (tgt := 507) hx hb dL_reads_500 (by decide) (fun c71 => ?_) (fun c71 => ?_)
  · skip
    refine lv_iconst (v := 0) hx hb dL_reads_507 (by decide) ?_
    have hlz := hl
    exact K71 _ _ (Eq.symm ((if_neg c71).trans rfl)) (lv_sub hlz [0, 1, 2, 3, 4, 5, 7, 8] rfl)
  · skip
    refine lv_iconst (v := 1) hx hb dL_reads_503 (by decide) ?_
    refine lv_goto (tgt := 508) hx hb dL_reads_504 (by decide) ?_
    have hlz := hl
    exact K71 _ _ (Eq.symm ((if_pos c71).trans rfl)) (lv_sub hlz [0, 1, 2, 3, 4, 5, 7, 8] rfl)
theorem k_L_reads {p : Program} {l : Launch} {e : Env} {R : Room} {s : State} {m : MethodId} {args : Array Value} {below : List Frame} {meth : Method} {c : Code} {H : Heap} {locs : List Loc} {cells slots : Nat} {Q : State → Prop} {cc : ByteArray} {pc nL : Nat} {ls : Array Slot} {rest : List Value} {G : gG} {own : String} {da : Nat → Nat} {v : vSt} {x : gX} (hst : l.stackTraces = false) (X : CX G p s m args c cc nL own) (hS : va_S (gA G) s.heap H locs) (hN : NC s) (hH : Hp G da v x H) {o1 : Nat} (hk_o1 : kd o1 = 10) {p1 : Int32} (ho : oL_reads o1 p1 v) {idx : Nat} (hml : Cond.methodLink own idx yL_reads ∈ TT) (hls : ls.size = nL) (hsum : (rest.map fun v => v.category).sum ≤ 8) (hR : (rmL_reads o1 p1 v).frames + 1 ≤ R.frames ∧ 8 + (12 + 11) + (rmL_reads o1 p1 v).locals ≤ R.locals) (hcs : cells + (kkL_reads o1 p1 v) ≤ R.cells ∧ slots + (kkL_reads o1 p1 v) ≤ R.slots) (hdg : decode cc pc = .ok (.invokestatic idx, 3)) (kk : ∀ (d : Nat → Nat) (H1 : Heap) (locs1 : List Loc) (v1 : vSt), v1 = fL_reads o1 p1 v → Hp G d v1 x H1 → va_S (gA G) s.heap H1 locs1 → W p l e R s m args below meth c H1 locs1 (cells + (kkL_reads o1 p1 v)) (slots + (kkL_reads o1 p1 v)) Q (F0 m (pc + 3) ls (.int 1 :: rest))) : W p l e R s m args below meth c H locs cells slots Q (F0 m pc ls (.int p1 :: .ref (ga G o1) :: rest)) := c_mi X.2.2.2.2.2.2 (runS (k := 2) X.1 X.2.1 X.2.2.1 X.2.2.2.1 X.2.2.2.2.1 (mL_reads l hst G da v x o1 hk_o1 p1 ho) pN_bl hml t_st_L_reads t_ini_VernierDrawersLaw t_code_L_reads ⟨by decide, by decide, by decide +kernel⟩ rfl rfl hR hcs (preN X hN hS hH) rfl hls rfl hsum hdg) hS kk
