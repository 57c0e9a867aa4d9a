/-! 17.model -/
def fX11_doesOrder (r : Nat) (v : vSt) : Int32 × vSt := if ((v r 13) : Int32) = 99 then (let v3 : vSt := (fX11_goCalibrate r (v r 14) (v r 15) v).2; ((fX11_goCalibrate r (v r 14) (v r 15) v).1, v3)) else (if ((v r 13) : Int32) = 100 then (let v6 : vSt := (fX11_goDay r v).2; ((fX11_goDay r v).1, v6)) else (if ((v r 13) : Int32) = 101 then (let v9 : vSt := (fX11_goDay r v).2; ((fX11_goDay r v).1, v9)) else (if ((v r 13) : Int32) = 102 then (let v12 : vSt := (fX11_goFile r (v r 14) v).2; ((fX11_goFile r (v r 14) v).1, v12)) else (if ((v r 13) : Int32) = 103 then (let v15 : vSt := (fX11_goDay r v).2; ((fX11_goDay r v).1, v15)) else (if ((v r 13) : Int32) = 104 then (let v18 : vSt := (fX11_goDay r v).2; ((fX11_goDay r v).1, v18)) else (if ((v r 13) : Int32) = 105 then (let v21 : vSt := (fX11_goDay r v).2; ((fX11_goDay r v).1, v21)) else (if ((v r 13) : Int32) = 106 then (let v24 : vSt := (fX11_goJudge r (v r 14) v).2; ((fX11_goJudge r (v r 14) v).1, v24)) else (if ((v r 13) : Int32) = 107 then (let v27 : vSt := (fX11_goDay r v).2; ((fX11_goDay r v).1, v27)) else (if ((v r 13) : Int32) = 108 then (let v30 : vSt := (fX11_goDay r v).2; ((fX11_goDay r v).1, v30)) else (if ((v r 13) : Int32) = 109 then (let v33 : vSt := (fX11_goMeasure r (v r 14) 0 (v r 15) v).2; ((fX11_goMeasure r (v r 14) 0 (v r 15) v).1, v33)) else (if ((v r 13) : Int32) = 110 then (let v36 : vSt := (fX11_goDay r v).2; ((fX11_goDay r v).1, v36)) else (if ((v r 13) : Int32) = 111 then (let v39 : vSt := (fX11_goDay r v).2; ((fX11_goDay r v).1, v39)) else (if ((v r 13) : Int32) = 112 then (let v42 : vSt := (fX11_goBring r (v r 14) (v r 15) v).2; ((fX11_goBring r (v r 14) (v r 15) v).1, v42)) else (if ((v r 13) : Int32) = 113 then (let v45 : vSt := (fX11_goDay r v).2; ((fX11_goDay r v).1, v45)) else (if ((v r 13) : Int32) = 114 then (let v48 : vSt := (fX11_goDay r v).2; ((fX11_goDay r v).1, v48)) else (if ((v r 13) : Int32) = 115 then (let v51 : vSt := (fX11_goDay r v).2; ((fX11_goDay r v).1, v51)) else (if ((v r 13) : Int32) = 116 then (let v54 : vSt := (fX11_goDay r v).2; ((fX11_goDay r v).1, v54)) else (if ((v r 13) : Int32) = 117 then (let v57 : vSt := (fX11_goPass r v).2; ((fX11_goPass r v).1, v57)) else (let v59 : vSt := (fX11_goDay r v).2; ((fX11_goDay r v).1, v59))))))))))))))))))))
def oX11_doesOrder (r : Nat) (v : vSt) : Prop := ((((v r 13) : Int32) = 99) → (oX11_goCalibrate r (v r 14) (v r 15) v)) ∧ (¬ (((v r 13) : Int32) = 99) → (((((v r 13) : Int32) = 100) → (oX11_goDay r v)) ∧ (¬ (((v r 13) : Int32) = 100) → (((((v r 13) : Int32) = 101) → (oX11_goDay r v)) ∧ (¬ (((v r 13) : Int32) = 101) → (((((v r 13) : Int32) = 102) → (oX11_goFile r (v r 14) v)) ∧ (¬ (((v r 13) : Int32) = 102) → (((((v r 13) : Int32) = 103) → (oX11_goDay r v)) ∧ (¬ (((v r 13) : Int32) = 103) → (((((v r 13) : Int32) = 104) → (oX11_goDay r v)) ∧ (¬ (((v r 13) : Int32) = 104) → (((((v r 13) : Int32) = 105) → (oX11_goDay r v)) ∧ (¬ (((v r 13) : Int32) = 105) → (((((v r 13) : Int32) = 106) → (oX11_goJudge r (v r 14) v)) ∧ (¬ (((v r 13) : Int32) = 106) → (((((v r 13) : Int32) = 107) → (oX11_goDay r v)) ∧ (¬ (((v r 13) : Int32) = 107) → (((((v r 13) : Int32) = 108) → (oX11_goDay r v)) ∧ (¬ (((v r 13) : Int32) = 108) → (((((v r 13) : Int32) = 109) → (oX11_goMeasure r (v r 14) 0 (v r 15) v)) ∧ (¬ (((v r 13) : Int32) = 109) → (((((v r 13) : Int32) = 110) → (oX11_goDay r v)) ∧ (¬ (((v r 13) : Int32) = 110) → (((((v r 13) : Int32) = 111) → (oX11_goDay r v)) ∧ (¬ (((v r 13) : Int32) = 111) → (((((v r 13) : Int32) = 112) → (oX11_goBring r (v r 14) (v r 15) v)) ∧ (¬ (((v r 13) : Int32) = 112) → (((((v r 13) : Int32) = 113) → (oX11_goDay r v)) ∧ (¬ (((v r 13) : Int32) = 113) → (((((v r 13) : Int32) = 114) → (oX11_goDay r v)) ∧ (¬ (((v r 13) : Int32) = 114) → (((((v r 13) : Int32) = 115) → (oX11_goDay r v)) ∧ (¬ (((v r 13) : Int32) = 115) → (((((v r 13) : Int32) = 116) → (oX11_goDay r v)) ∧ (¬ (((v r 13) : Int32) = 116) → (((((v r 13) : Int32) = 117) → (oX11_goPass r v)) ∧ (¬ (((v r 13) : Int32) = 117) → (oX11_goDay r v))))))))))))))))))))))))))))))))))))))
abbrev rmX11_doesOrder : Room := { frames := 7, cells := 0, slots := 0, locals := 161 }
theorem dX11_doesOrder_0 : decode cX11_doesOrder 0 = .ok (.aload_n 0, 1) := by decide +kernel
theorem dX11_doesOrder_1 : decode cX11_doesOrder 1 = .ok (.getfield 268, 3) := by decide +kernel
theorem dX11_doesOrder_4 : decode cX11_doesOrder 4 = .ok (.tableswitch 155 99 117 #[106, 155, 155, 141, 155, 155, 155, 132, 155, 155, 92, 155, 155, 119, 155, 155, 155, 155, 150], 92) := by decide +kernel
theorem dX11_doesOrder_96 : decode cX11_doesOrder 96 = .ok (.aload_n 0, 1) := by decide +kernel
theorem dX11_doesOrder_97 : decode cX11_doesOrder 97 = .ok (.aload_n 0, 1) := by decide +kernel
theorem dX11_doesOrder_98 : decode cX11_doesOrder 98 = .ok (.getfield 278, 3) := by decide +kernel
theorem dX11_doesOrder_101 : decode cX11_doesOrder 101 = .ok (.iconst 0, 1) := by decide +kernel
theorem dX11_doesOrder_102 : decode cX11_doesOrder 102 = .ok (.aload_n 0, 1) := by decide +kernel
theorem dX11_doesOrder_103 : decode cX11_doesOrder 103 = .ok (.getfield 281, 3) := by decide +kernel
theorem dX11_doesOrder_106 : decode cX11_doesOrder 106 = .ok (.invokevirtual 186, 3) := by decide +kernel
theorem dX11_doesOrder_109 : decode cX11_doesOrder 109 = .ok (.ireturn, 1) := by decide +kernel
theorem dX11_doesOrder_110 : decode cX11_doesOrder 110 = .ok (.aload_n 0, 1) := by decide +kernel
theorem dX11_doesOrder_111 : decode cX11_doesOrder 111 = .ok (.aload_n 0, 1) := by decide +kernel
theorem dX11_doesOrder_112 : decode cX11_doesOrder 112 = .ok (.getfield 278, 3) := by decide +kernel
theorem dX11_doesOrder_115 : decode cX11_doesOrder 115 = .ok (.aload_n 0, 1) := by decide +kernel
theorem dX11_doesOrder_116 : decode cX11_doesOrder 116 = .ok (.getfield 281, 3) := by decide +kernel
theorem dX11_doesOrder_119 : decode cX11_doesOrder 119 = .ok (.invokevirtual 189, 3) := by decide +kernel
theorem dX11_doesOrder_122 : decode cX11_doesOrder 122 = .ok (.ireturn, 1) := by decide +kernel
theorem dX11_doesOrder_123 : decode cX11_doesOrder 123 = .ok (.aload_n 0, 1) := by decide +kernel
theorem dX11_doesOrder_124 : decode cX11_doesOrder 124 = .ok (.aload_n 0, 1) := by decide +kernel
theorem dX11_doesOrder_125 : decode cX11_doesOrder 125 = .ok (.getfield 278, 3) := by decide +kernel
theorem dX11_doesOrder_128 : decode cX11_doesOrder 128 = .ok (.aload_n 0, 1) := by decide +kernel
theorem dX11_doesOrder_129 : decode cX11_doesOrder 129 = .ok (.getfield 281, 3) := by decide +kernel
theorem dX11_doesOrder_132 : decode cX11_doesOrder 132 = .ok (.invokevirtual 195, 3) := by decide +kernel
theorem dX11_doesOrder_135 : decode cX11_doesOrder 135 = .ok (.ireturn, 1) := by decide +kernel
theorem dX11_doesOrder_136 : decode cX11_doesOrder 136 = .ok (.aload_n 0, 1) := by decide +kernel
theorem dX11_doesOrder_137 : decode cX11_doesOrder 137 = .ok (.aload_n 0, 1) := by decide +kernel
theorem dX11_doesOrder_138 : decode cX11_doesOrder 138 = .ok (.getfield 278, 3) := by decide +kernel
theorem dX11_doesOrder_141 : decode cX11_doesOrder 141 = .ok (.invokevirtual 198, 3) := by decide +kernel
theorem dX11_doesOrder_144 : decode cX11_doesOrder 144 = .ok (.ireturn, 1) := by decide +kernel
theorem dX11_doesOrder_145 : decode cX11_doesOrder 145 = .ok (.aload_n 0, 1) := by decide +kernel
theorem dX11_doesOrder_146 : decode cX11_doesOrder 146 = .ok (.aload_n 0, 1) := by decide +kernel
theorem dX11_doesOrder_147 : decode cX11_doesOrder 147 = .ok (.getfield 278, 3) := by decide +kernel
theorem dX11_doesOrder_150 : decode cX11_doesOrder 150 = .ok (.invokevirtual 201, 3) := by decide +kernel
theorem dX11_doesOrder_153 : decode cX11_doesOrder 153 = .ok (.ireturn, 1) := by decide +kernel
theorem dX11_doesOrder_154 : decode cX11_doesOrder 154 = .ok (.aload_n 0, 1) := by decide +kernel
theorem dX11_doesOrder_155 : decode cX11_doesOrder 155 = .ok (.invokevirtual 204, 3) := by decide +kernel
theorem dX11_doesOrder_158 : decode cX11_doesOrder 158 = .ok (.ireturn, 1) := by decide +kernel
theorem dX11_doesOrder_159 : decode cX11_doesOrder 159 = .ok (.aload_n 0, 1) := by decide +kernel
theorem dX11_doesOrder_160 : decode cX11_doesOrder 160 = .ok (.invokevirtual 192, 3) := by decide +kernel
theorem dX11_doesOrder_163 : decode cX11_doesOrder 163 = .ok (.ireturn, 1) := by decide +kernel
set_option maxHeartbeats 8000000 in
set_option maxRecDepth 100000 in
theorem mX11_doesOrder (l : Launch) (G : gG) (da : Nat → Nat) (v : vSt) (x : gX) (r : Nat) (hk_r : kd r = 11) (ho : oX11_doesOrder r v) : MI l yX11_doesOrder cX11_doesOrder 1 (some .int) rmX11_doesOrder [.ref (ga G r)] G da v x 0 0 (fX11_doesOrder r v).1 (fX11_doesOrder r v).2 x := by
  refine gofMI (own := RX11) (by decide) rfl (Nat.le_of_ble_eq_true rfl) (fun p e s m args below meth c ls Q X hH hl E => ?_)
  have hx := X.1
  have hb := X.2.1
  have hown := X.2.2.2.1
  have hts := X.2.2.2.2.1
  have hS : va_S (gA G) s.heap s.heap [] := va_S.rf
  unfold oX11_doesOrder at ho
  have hl : lv_has ls 1 [(0, .ref (ga G r))] := hl
  refine lv_aload_n hx hb dX11_doesOrder_0 rfl (lv_at hl 0 rfl) ?_
  refine g_VernierDrawersModel_268 X hH hk_r dX11_doesOrder_1 ?_
  refine (Decidable.em (((v r 13) : Int32) = 99)).elim (fun c1 => ?_) (fun c1 => ?_)
  · have ho := ho.1 c1
    refine lv_tableIn (tgt := 110) hx hb dX11_doesOrder_4 (by rw [c1]; decide) (by rw [c1]; decide) (by rw [c1]; rfl) (by decide) ?_
    refine lv_aload_n hx hb dX11_doesOrder_110 rfl (lv_at hl 0 rfl) ?_
    refine lv_aload_n hx hb dX11_doesOrder_111 rfl (lv_at hl 0 rfl) ?_
    refine g_VernierDrawersModel_278 X hH hk_r dX11_doesOrder_112 ?_
    refine lv_aload_n hx hb dX11_doesOrder_115 rfl (lv_at hl 0 rfl) ?_
    refine g_VernierDrawersModel_281 X hH hk_r dX11_doesOrder_116 ?_
    have hq2 := ho
    refine k_X11_goCalibrate X hS hH hk_r hq2 t_ml_VernierDrawersModel_189 hl.1 (Nat.le_of_ble_eq_true rfl) ⟨Nat.le_of_ble_eq_true rfl, Nat.le_of_ble_eq_true rfl⟩ ⟨Nat.zero_le _, Nat.zero_le _⟩ dX11_doesOrder_119 (fun da H locs v3 ev3 hH hS => ?_)
    replace ev3 := Eq.symm ev3
    subst ev3
    exact E _ _ _ _ _ _ _ _ _ dX11_doesOrder_122 rfl (pr1 ((fX11_doesOrder.eq_1 _ _).trans ((if_pos c1).trans rfl))) (pr2 ((fX11_doesOrder.eq_1 _ _).trans ((if_pos c1).trans rfl))) hH hS (Nat.zero_le _) (Nat.zero_le _)
  · have ho := ho.2 c1
    refine (Decidable.em (((v r 13) : Int32) = 100)).elim (fun c4 => ?_) (fun c4 => ?_)
    · have ho := ho.1 c4
      refine lv_tableIn (tgt := 159) hx hb dX11_doesOrder_4 (by rw [c4]; decide) (by rw [c4]; decide) (by rw [c4]; rfl) (by decide) ?_
      refine lv_aload_n hx hb dX11_doesOrder_159 rfl (lv_at hl 0 rfl) ?_
      have hq5 := ho
      refine k_X11_goDay X hS hH hk_r hq5 t_ml_VernierDrawersModel_192 hl.1 (Nat.le_of_ble_eq_true rfl) ⟨Nat.le_of_ble_eq_true rfl, Nat.le_of_ble_eq_true rfl⟩ ⟨Nat.zero_le _, Nat.zero_le _⟩ dX11_doesOrder_160 (fun da H locs v6 ev6 hH hS => ?_)
      replace ev6 := Eq.symm ev6
      subst ev6
      exact E _ _ _ _ _ _ _ _ _ dX11_doesOrder_163 rfl (pr1 ((fX11_doesOrder.eq_1 _ _).trans ((if_neg c1).trans ((if_pos c4).trans rfl)))) (pr2 ((fX11_doesOrder.eq_1 _ _).trans ((if_neg c1).trans ((if_pos c4).trans rfl)))) hH hS (Nat.zero_le _) (Nat.zero_le _)
    · have ho := ho.2 c4
      refine (Decidable.em (((v r 13) : Int32) = 101)).elim (fun c7 => ?_) (fun c7 => ?_)
      · have ho := ho.1 c7
        refine lv_tableIn (tgt := 159) hx hb dX11_doesOrder_4 (by rw [c7]; decide) (by rw [c7]; decide) (by rw [c7]; rfl) (by decide) ?_
        refine lv_aload_n hx hb dX11_doesOrder_159 rfl (lv_at hl 0 rfl) ?_
        have hq8 := ho
        refine k_X11_goDay X hS hH hk_r hq8 t_ml_VernierDrawersModel_192 hl.1 (Nat.le_of_ble_eq_true rfl) ⟨Nat.le_of_ble_eq_true rfl, Nat.le_of_ble_eq_true rfl⟩ ⟨Nat.zero_le _, Nat.zero_le _⟩ dX11_doesOrder_160 (fun da H locs v9 ev9 hH hS => ?_)
        replace ev9 := Eq.symm ev9
        subst ev9
        exact E _ _ _ _ _ _ _ _ _ dX11_doesOrder_163 rfl (pr1 ((fX11_doesOrder.eq_1 _ _).trans ((if_neg c1).trans ((if_neg c4).trans ((if_pos c7).trans rfl))))) (pr2 ((fX11_doesOrder.eq_1 _ _).trans ((if_neg c1).trans ((if_neg c4).trans ((if_pos c7).trans rfl))))) hH hS (Nat.zero_le _) (Nat.zero_le _)
      · have ho := ho.2 c7
        refine (Decidable.em (((v r 13) : Int32) = 102)).elim (fun c10 => ?_) (fun c10 => ?_)
        · have ho := ho.1 c10
          refine lv_tableIn (tgt := 145) hx hb dX11_doesOrder_4 (by rw [c10]; decide) (by rw [c10]; decide) (by rw [c10]; rfl) (by decide) ?_
          refine lv_aload_n hx hb dX11_doesOrder_145 rfl (lv_at hl 0 rfl) ?_
          refine lv_aload_n hx hb dX11_doesOrder_146 rfl (lv_at hl 0 rfl) ?_
          refine g_VernierDrawersModel_278 X hH hk_r dX11_doesOrder_147 ?_
          have hq11 := ho
          refine k_X11_goFile X hS hH hk_r hq11 t_ml_VernierDrawersModel_201 hl.1 (Nat.le_of_ble_eq_true rfl) ⟨Nat.le_of_ble_eq_true rfl, Nat.le_of_ble_eq_true rfl⟩ ⟨Nat.zero_le _, Nat.zero_le _⟩ dX11_doesOrder_150 (fun da H locs v12 ev12 hH hS => ?_)
          replace ev12 := Eq.symm ev12
          subst ev12
          exact E _ _ _ _ _ _ _ _ _ dX11_doesOrder_153 rfl (pr1 ((fX11_doesOrder.eq_1 _ _).trans ((if_neg c1).trans ((if_neg c4).trans ((if_neg c7).trans ((if_pos c10).trans rfl)))))) (pr2 ((fX11_doesOrder.eq_1 _ _).trans ((if_neg c1).trans ((if_neg c4).trans ((if_neg c7).trans ((if_pos c10).trans rfl)))))) hH hS (Nat.zero_le _) (Nat.zero_le _)
        · have ho := ho.2 c10
          refine (Decidable.em (((v r 13) : Int32) = 103)).elim (fun c13 => ?_) (fun c13 => ?_)
          · have ho := ho.1 c13
            refine lv_tableIn (tgt := 159) hx hb dX11_doesOrder_4 (by rw [c13]; decide) (by rw [c13]; decide) (by rw [c13]; rfl) (by decide) ?_
            refine lv_aload_n hx hb dX11_doesOrder_159 rfl (lv_at hl 0 rfl) ?_
            have hq14 := ho
            refine k_X11_goDay X hS hH hk_r hq14 t_ml_VernierDrawersModel_192 hl.1 (Nat.le_of_ble_eq_true rfl) ⟨Nat.le_of_ble_eq_true rfl, Nat.le_of_ble_eq_true rfl⟩ ⟨Nat.zero_le _, Nat.zero_le _⟩ dX11_doesOrder_160 (fun da H locs v15 ev15 hH hS => ?_)
            replace ev15 := Eq.symm ev15
            subst ev15
            exact E _ _ _ _ _ _ _ _ _ dX11_doesOrder_163 rfl (pr1 ((fX11_doesOrder.eq_1 _ _).trans ((if_neg c1).trans ((if_neg c4).trans ((if_neg c7).trans ((if_neg c10).trans ((if_pos c13).trans rfl))))))) (pr2 ((fX11_doesOrder.eq_1 _ _).trans ((if_neg c1).trans ((if_neg c4).trans ((if_neg c7).trans ((if_neg c10).trans ((if_pos c13).trans rfl))))))) hH hS (Nat.zero_le _) (Nat.zero_le _)
          · have ho := ho.2 c13
            refine (Decidable.em (((v r 13) : Int32) = 104)).elim (fun c16 => ?_) (fun c16 => ?_)
            · have ho := ho.1 c16
              refine lv_tableIn (tgt := 159) hx hb dX11_doesOrder_4 (by rw [c16]; decide) (by rw [c16]; decide) (by rw [c16]; rfl) (by decide) ?_
              refine lv_aload_n hx hb dX11_doesOrder_159 rfl (lv_at hl 0 rfl) ?_
              have hq17 := ho
              refine k_X11_goDay X hS hH hk_r hq17 t_ml_VernierDrawersModel_192 hl.1 (Nat.le_of_ble_eq_true rfl) ⟨Nat.le_of_ble_eq_true rfl, Nat.le_of_ble_eq_true rfl⟩ ⟨Nat.zero_le _, Nat.zero_le _⟩ dX11_doesOrder_160 (fun da H locs v18 ev18 hH hS => ?_)
              replace ev18 := Eq.symm ev18
              subst ev18
              exact E _ _ _ _ _ _ _ _ _ dX11_doesOrder_163 rfl (pr1 ((fX11_doesOrder.eq_1 _ _).trans ((if_neg c1).trans ((if_neg c4).trans ((if_neg c7).trans ((if_neg c10).trans ((if_neg c13).trans ((if_pos c16).trans rfl)))))))) (pr2 ((fX11_doesOrder.eq_1 _ _).trans ((if_neg c1).trans ((if_neg c4).trans ((if_neg c7).trans ((if_neg c10).trans ((if_neg c13).trans ((if_pos c16).trans rfl)))))))) hH hS (Nat.zero_le _) (Nat.zero_le _)
            · have ho := ho.2 c16
              refine (Decidable.em (((v r 13) : Int32) = 105)).elim (fun c19 => ?_) (fun c19 => ?_)
              · have ho := ho.1 c19
                refine lv_tableIn (tgt := 159) hx hb dX11_doesOrder_4 (by rw [c19]; decide) (by rw [c19]; decide) (by rw [c19]; rfl) (by decide) ?_
                refine lv_aload_n hx hb dX11_doesOrder_159 rfl (lv_at hl 0 rfl) ?_
                have hq20 := ho
                refine k_X11_goDay X hS hH hk_r hq20 t_ml_VernierDrawersModel_192 hl.1 (Nat.le_of_ble_eq_true rfl) ⟨Nat.le_of_ble_eq_true rfl, Nat.le_of_ble_eq_true rfl⟩ ⟨Nat.zero_le _, Nat.zero_le _⟩ dX11_doesOrder_160 (fun da H locs v21 ev21 hH hS => ?_)
                replace ev21 := Eq.symm ev21
                subst ev21
                exact E _ _ _ _ _ _ _ _ _ dX11_doesOrder_163 rfl (pr1 ((fX11_doesOrder.eq_1 _ _).trans ((if_neg c1).trans ((if_neg c4).trans ((if_neg c7).trans ((if_neg c10).trans ((if_neg c13).trans ((if_neg c16).trans ((if_pos c19).trans rfl))))))))) (pr2 ((fX11_doesOrder.eq_1 _ _).trans ((if_neg c1).trans ((if_neg c4).trans ((if_neg c7).trans ((if_neg c10).trans ((if_neg c13).trans ((if_neg c16).trans ((if_pos c19).trans rfl))))))))) hH hS (Nat.zero_le _) (Nat.zero_le _)
              · have ho := ho.2 c19
                refine (Decidable.em (((v r 13) : Int32) = 106)).elim (fun c22 => ?_) (fun c22 => ?_)
                · have ho := ho.1 c22
                  refine lv_tableIn (tgt := 136) hx hb dX11_doesOrder_4 (by rw [c22]; decide) (by rw [c22]; decide) (by rw [c22]; rfl) (by decide) ?_
                  refine lv_aload_n hx hb dX11_doesOrder_136 rfl (lv_at hl 0 rfl) ?_
                  refine lv_aload_n hx hb dX11_doesOrder_137 rfl (lv_at hl 0 rfl) ?_
                  refine g_VernierDrawersModel_278 X hH hk_r dX11_doesOrder_138 ?_
                  have hq23 := ho
                  refine k_X11_goJudge X hS hH hk_r hq23 t_ml_VernierDrawersModel_198 hl.1 (Nat.le_of_ble_eq_true rfl) ⟨Nat.le_of_ble_eq_true rfl, Nat.le_of_ble_eq_true rfl⟩ ⟨Nat.zero_le _, Nat.zero_le _⟩ dX11_doesOrder_141 (fun da H locs v24 ev24 hH hS => ?_)
                  replace ev24 := Eq.symm ev24
                  subst ev24
                  exact E _ _ _ _ _ _ _ _ _ dX11_doesOrder_144 rfl (pr1 ((fX11_doesOrder.eq_1 _ _).trans ((if_neg c1).trans ((if_neg c4).trans ((if_neg c7).trans ((if_neg c10).trans ((if_neg c13).trans ((if_neg c16).trans ((if_neg c19).trans ((if_pos c22).trans rfl)))))))))) (pr2 ((fX11_doesOrder.eq_1 _ _).trans ((if_neg c1).trans ((if_neg c4).trans ((if_neg c7).trans ((if_neg c10).trans ((if_neg c13).trans ((if_neg c16).trans ((if_neg c19).trans ((if_pos c22).trans rfl)))))))))) hH hS (Nat.zero_le _) (Nat.zero_le _)
                · have ho := ho.2 c22
                  refine (Decidable.em (((v r 13) : Int32) = 107)).elim (fun c25 => ?_) (fun c25 => ?_)
                  · have ho := ho.1 c25
                    refine lv_tableIn (tgt := 159) hx hb dX11_doesOrder_4 (by rw [c25]; decide) (by rw [c25]; decide) (by rw [c25]; rfl) (by decide) ?_
                    refine lv_aload_n hx hb dX11_doesOrder_159 rfl (lv_at hl 0 rfl) ?_
                    have hq26 := ho
                    refine k_X11_goDay X hS hH hk_r hq26 t_ml_VernierDrawersModel_192 hl.1 (Nat.le_of_ble_eq_true rfl) ⟨Nat.le_of_ble_eq_true rfl, Nat.le_of_ble_eq_true rfl⟩ ⟨Nat.zero_le _, Nat.zero_le _⟩ dX11_doesOrder_160 (fun da H locs v27 ev27 hH hS => ?_)
                    replace ev27 := Eq.symm ev27
                    subst ev27
                    exact E _ _ _ _ _ _ _ _ _ dX11_doesOrder_163 rfl (pr1 ((fX11_doesOrder.eq_1 _ _).trans ((if_neg c1).trans ((if_neg c4).trans ((if_neg c7).trans ((if_neg c10).trans ((if_neg c13).trans ((if_neg c16).trans ((if_neg c19).trans ((if_neg c22).trans ((if_pos c25).trans rfl))))))))))) (pr2 ((fX11_doesOrder.eq_1 _ _).trans ((if_neg c1).trans ((if_neg c4).trans ((if_neg c7).trans ((if_neg c10).trans ((if_neg c13).trans ((if_neg c16).trans ((if_neg c19).trans ((if_neg c22).trans ((if_pos c25).trans rfl))))))))))) hH hS (Nat.zero_le _) (Nat.zero_le _)
                  · have ho := ho.2 c25
                    refine (Decidable.em (((v r 13) : Int32) = 108)).elim (fun c28 => ?_) (fun c28 => ?_)
                    · have ho := ho.1 c28
                      refine lv_tableIn (tgt := 159) hx hb dX11_doesOrder_4 (by rw [c28]; decide) (by rw [c28]; decide) (by rw [c28]; rfl) (by decide) ?_
                      refine lv_aload_n hx hb dX11_doesOrder_159 rfl (lv_at hl 0 rfl) ?_
                      have hq29 := ho
                      refine k_X11_goDay X hS hH hk_r hq29 t_ml_VernierDrawersModel_192 hl.1 (Nat.le_of_ble_eq_true rfl) ⟨Nat.le_of_ble_eq_true rfl, Nat.le_of_ble_eq_true rfl⟩ ⟨Nat.zero_le _, Nat.zero_le _⟩ dX11_doesOrder_160 (fun da H locs v30 ev30 hH hS => ?_)
                      replace ev30 := Eq.symm ev30
                      subst ev30
                      exact E _ _ _ _ _ _ _ _ _ dX11_doesOrder_163 rfl (pr1 ((fX11_doesOrder.eq_1 _ _).trans ((if_neg c1).trans ((if_neg c4).trans ((if_neg c7).trans ((if_neg c10).trans ((if_neg c13).trans ((if_neg c16).trans ((if_neg c19).trans ((if_neg c22).trans ((if_neg c25).trans ((if_pos c28).trans rfl)))))))))))) (pr2 ((fX11_doesOrder.eq_1 _ _).trans ((if_neg c1).trans ((if_neg c4).trans ((if_neg c7).trans ((if_neg c10).trans ((if_neg c13).trans ((if_neg c16).trans ((if_neg c19).trans ((if_neg c22).trans ((if_neg c25).trans ((if_pos c28).trans rfl)))))))))))) hH hS (Nat.zero_le _) (Nat.zero_le _)
                    · have ho := ho.2 c28
                      refine (Decidable.em (((v r 13) : Int32) = 109)).elim (fun c31 => ?_) (fun c31 => ?_)
                      · have ho := ho.1 c31
                        refine lv_tableIn (tgt := 96) hx hb dX11_doesOrder_4 (by rw [c31]; decide) (by rw [c31]; decide) (by rw [c31]; rfl) (by decide) ?_
                        refine lv_aload_n hx hb dX11_doesOrder_96 rfl (lv_at hl 0 rfl) ?_
                        refine lv_aload_n hx hb dX11_doesOrder_97 rfl (lv_at hl 0 rfl) ?_
                        refine g_VernierDrawersModel_278 X hH hk_r dX11_doesOrder_98 ?_
                        refine lv_iconst (v := 0) hx hb dX11_doesOrder_101 (by decide) ?_
                        refine lv_aload_n hx hb dX11_doesOrder_102 rfl (lv_at hl 0 rfl) ?_
                        refine g_VernierDrawersModel_281 X hH hk_r dX11_doesOrder_103 ?_
                        have hq32 := ho
                        refine k_X11_goMeasure X hS hH hk_r hq32 t_ml_VernierDrawersModel_186 hl.1 (Nat.le_of_ble_eq_true rfl) ⟨Nat.le_of_ble_eq_true rfl, Nat.le_of_ble_eq_true rfl⟩ ⟨Nat.zero_le _, Nat.zero_le _⟩ dX11_doesOrder_106 (fun da H locs v33 ev33 hH hS => ?_)
                        replace ev33 := Eq.symm ev33
                        subst ev33
                        exact E _ _ _ _ _ _ _ _ _ dX11_doesOrder_109 rfl (pr1 ((fX11_doesOrder.eq_1 _ _).trans ((if_neg c1).trans ((if_neg c4).trans ((if_neg c7).trans ((if_neg c10).trans ((if_neg c13).trans ((if_neg c16).trans ((if_neg c19).trans ((if_neg c22).trans ((if_neg c25).trans ((if_neg c28).trans ((if_pos c31).trans rfl))))))))))))) (pr2 ((fX11_doesOrder.eq_1 _ _).trans ((if_neg c1).trans ((if_neg c4).trans ((if_neg c7).trans ((if_neg c10).trans ((if_neg c13).trans ((if_neg c16).trans ((if_neg c19).trans ((if_neg c22).trans ((if_neg c25).trans ((if_neg c28).trans ((if_pos c31).trans rfl))))))))))))) hH hS (Nat.zero_le _) (Nat.zero_le _)
                      · have ho := ho.2 c31
                        refine (Decidable.em (((v r 13) : Int32) = 110)).elim (fun c34 => ?_) (fun c34 => ?_)
                        · have ho := ho.1 c34
                          refine lv_tableIn (tgt := 159) hx hb dX11_doesOrder_4 (by rw [c34]; decide) (by rw [c34]; decide) (by rw [c34]; rfl) (by decide) ?_
                          refine lv_aload_n hx hb dX11_doesOrder_159 rfl (lv_at hl 0 rfl) ?_
                          have hq35 := ho
                          refine k_X11_goDay X hS hH hk_r hq35 t_ml_VernierDrawersModel_192 hl.1 (Nat.le_of_ble_eq_true rfl) ⟨Nat.le_of_ble_eq_true rfl, Nat.le_of_ble_eq_true rfl⟩ ⟨Nat.zero_le _, Nat.zero_le _⟩ dX11_doesOrder_160 (fun da H locs v36 ev36 hH hS => ?_)
                          replace ev36 := Eq.symm ev36
                          subst ev36
                          exact E _ _ _ _ _ _ _ _ _ dX11_doesOrder_163 rfl (pr1 ((fX11_doesOrder.eq_1 _ _).trans ((if_neg c1).trans ((if_neg c4).trans ((if_neg c7).trans ((if_neg c10).trans ((if_neg c13).trans ((if_neg c16).trans ((if_neg c19).trans ((if_neg c22).trans ((if_neg c25).trans ((if_neg c28).trans ((if_neg c31).trans ((if_pos c34).trans rfl)))))))))))))) (pr2 ((fX11_doesOrder.eq_1 _ _).trans ((if_neg c1).trans ((if_neg c4).trans ((if_neg c7).trans ((if_neg c10).trans ((if_neg c13).trans ((if_neg c16).trans ((if_neg c19).trans ((if_neg c22).trans ((if_neg c25).trans ((if_neg c28).trans ((if_neg c31).trans ((if_pos c34).trans rfl)))))))))))))) hH hS (Nat.zero_le _) (Nat.zero_le _)
                        · have ho := ho.2 c34
                          refine (Decidable.em (((v r 13) : Int32) = 111)).elim (fun c37 => ?_) (fun c37 => ?_)
                          · have ho := ho.1 c37
                            refine lv_tableIn (tgt := 159) hx hb dX11_doesOrder_4 (by rw [c37]; decide) (by rw [c37]; decide) (by rw [c37]; rfl) (by decide) ?_
                            refine lv_aload_n hx hb dX11_doesOrder_159 rfl (lv_at hl 0 rfl) ?_
                            have hq38 := ho
                            refine k_X11_goDay X hS hH hk_r hq38 t_ml_VernierDrawersModel_192 hl.1 (Nat.le_of_ble_eq_true rfl) ⟨Nat.le_of_ble_eq_true rfl, Nat.le_of_ble_eq_true rfl⟩ ⟨Nat.zero_le _, Nat.zero_le _⟩ dX11_doesOrder_160 (fun da H locs v39 ev39 hH hS => ?_)
                            replace ev39 := Eq.symm ev39
                            subst ev39
                            exact E _ _ _ _ _ _ _ _ _ dX11_doesOrder_163 rfl (pr1 ((fX11_doesOrder.eq_1 _ _).trans ((if_neg c1).trans ((if_neg c4).trans ((if_neg c7).trans ((if_neg c10).trans ((if_neg c13).trans ((if_neg c16).trans ((if_neg c19).trans ((if_neg c22).trans ((if_neg c25).trans ((if_neg c28).trans ((if_neg c31).trans ((if_neg c34).trans ((if_pos c37).trans rfl))))))))))))))) (pr2 ((fX11_doesOrder.eq_1 _ _).trans ((if_neg c1).trans ((if_neg c4).trans ((if_neg c7).trans ((if_neg c10).trans ((if_neg c13).trans ((if_neg c16).trans ((if_neg c19).trans ((if_neg c22).trans ((if_neg c25).trans ((if_neg c28).trans ((if_neg c31).trans ((if_neg c34).trans ((if_pos c37).trans rfl))))))))))))))) hH hS (Nat.zero_le _) (Nat.zero_le _)
                          · have ho := ho.2 c37
                            refine (Decidable.em (((v r 13) : Int32) = 112)).elim (fun c40 => ?_) (fun c40 => ?_)
                            · have ho := ho.1 c40
                              refine lv_tableIn (tgt := 123) hx hb dX11_doesOrder_4 (by rw [c40]; decide) (by rw [c40]; decide) (by rw [c40]; rfl) (by decide) ?_
                              refine lv_aload_n hx hb dX11_doesOrder_123 rfl (lv_at hl 0 rfl) ?_
                              refine lv_aload_n hx hb dX11_doesOrder_124 rfl (lv_at hl 0 rfl) ?_
                              refine g_VernierDrawersModel_278 X hH hk_r dX11_doesOrder_125 ?_
                              refine lv_aload_n hx hb dX11_doesOrder_128 rfl (lv_at hl 0 rfl) ?_
                              refine g_VernierDrawersModel_281 X hH hk_r dX11_doesOrder_129 ?_
                              have hq41 := ho
                              refine k_X11_goBring X hS hH hk_r hq41 t_ml_VernierDrawersModel_195 hl.1 (Nat.le_of_ble_eq_true rfl) ⟨Nat.le_of_ble_eq_true rfl, Nat.le_of_ble_eq_true rfl⟩ ⟨Nat.zero_le _, Nat.zero_le _⟩ dX11_doesOrder_132 (fun da H locs v42 ev42 hH hS => ?_)
                              replace ev42 := Eq.symm ev42
                              subst ev42
                              exact E _ _ _ _ _ _ _ _ _ dX11_doesOrder_135 rfl (pr1 ((fX11_doesOrder.eq_1 _ _).trans ((if_neg c1).trans ((if_neg c4).trans ((if_neg c7).trans ((if_neg c10).trans ((if_neg c13).trans ((if_neg c16).trans ((if_neg c19).trans ((if_neg c22).trans ((if_neg c25).trans ((if_neg c28).trans ((if_neg c31).trans ((if_neg c34).trans ((if_neg c37).trans ((if_pos c40).trans rfl)))))))))))))))) (pr2 ((fX11_doesOrder.eq_1 _ _).trans ((if_neg c1).trans ((if_neg c4).trans ((if_neg c7).trans ((if_neg c10).trans ((if_neg c13).trans ((if_neg c16).trans ((if_neg c19).trans ((if_neg c22).trans ((if_neg c25).trans ((if_neg c28).trans ((if_neg c31).trans ((if_neg c34).trans ((if_neg c37).trans ((if_pos c40).trans rfl)))))))))))))))) hH hS (Nat.zero_le _) (Nat.zero_le _)
                            · have ho := ho.2 c40
                              refine (Decidable.em (((v r 13) : Int32) = 113)).elim (fun c43 => ?_) (fun c43 => ?_)
                              · have ho := ho.1 c43
                                refine lv_tableIn (tgt := 159) hx hb dX11_doesOrder_4 (by rw [c43]; decide) (by rw [c43]; decide) (by rw [c43]; rfl) (by decide) ?_
                                refine lv_aload_n hx hb dX11_doesOrder_159 rfl (lv_at hl 0 rfl) ?_
                                have hq44 := ho
                                refine k_X11_goDay X hS hH hk_r hq44 t_ml_VernierDrawersModel_192 hl.1 (Nat.le_of_ble_eq_true rfl) ⟨Nat.le_of_ble_eq_true rfl, Nat.le_of_ble_eq_true rfl⟩ ⟨Nat.zero_le _, Nat.zero_le _⟩ dX11_doesOrder_160 (fun da H locs v45 ev45 hH hS => ?_)
                                replace ev45 := Eq.symm ev45
                                subst ev45
                                exact E _ _ _ _ _ _ _ _ _ dX11_doesOrder_163 rfl (pr1 ((fX11_doesOrder.eq_1 _ _).trans ((if_neg c1).trans ((if_neg c4).trans ((if_neg c7).trans ((if_neg c10).trans ((if_neg c13).trans ((if_neg c16).trans ((if_neg c19).trans ((if_neg c22).trans ((if_neg c25).trans ((if_neg c28).trans ((if_neg c31).trans ((if_neg c34).trans ((if_neg c37).trans ((if_neg c40).trans ((if_pos c43).trans rfl))))))))))))))))) (pr2 ((fX11_doesOrder.eq_1 _ _).trans ((if_neg c1).trans ((if_neg c4).trans ((if_neg c7).trans ((if_neg c10).trans ((if_neg c13).trans ((if_neg c16).trans ((if_neg c19).trans ((if_neg c22).trans ((if_neg c25).trans ((if_neg c28).trans ((if_neg c31).trans ((if_neg c34).trans ((if_neg c37).trans ((if_neg c40).trans ((if_pos c43).trans rfl))))))))))))))))) hH hS (Nat.zero_le _) (Nat.zero_le _)
                              · have ho := ho.2 c43
                                refine (Decidable.em (((v r 13) : Int32) = 114)).elim (fun c46 => ?_) (fun c46 => ?_)
                                · have ho := ho.1 c46
                                  refine lv_tableIn (tgt := 159) hx hb dX11_doesOrder_4 (by rw [c46]; decide) (by rw [c46]; decide) (by rw [c46]; rfl) (by decide) ?_
                                  refine lv_aload_n hx hb dX11_doesOrder_159 rfl (lv_at hl 0 rfl) ?_
                                  have hq47 := ho
                                  refine k_X11_goDay X hS hH hk_r hq47 t_ml_VernierDrawersModel_192 hl.1 (Nat.le_of_ble_eq_true rfl) ⟨Nat.le_of_ble_eq_true rfl, Nat.le_of_ble_eq_true rfl⟩ ⟨Nat.zero_le _, Nat.zero_le _⟩ dX11_doesOrder_160 (fun da H locs v48 ev48 hH hS => ?_)
                                  replace ev48 := Eq.symm ev48
                                  subst ev48
                                  exact E _ _ _ _ _ _ _ _ _ dX11_doesOrder_163 rfl (pr1 ((fX11_doesOrder.eq_1 _ _).trans ((if_neg c1).trans ((if_neg c4).trans ((if_neg c7).trans ((if_neg c10).trans ((if_neg c13).trans ((if_neg c16).trans ((if_neg c19).trans ((if_neg c22).trans ((if_neg c25).trans ((if_neg c28).trans ((if_neg c31).trans ((if_neg c34).trans ((if_neg c37).trans ((if_neg c40).trans ((if_neg c43).trans ((if_pos c46).trans rfl)))))))))))))))))) (pr2 ((fX11_doesOrder.eq_1 _ _).trans ((if_neg c1).trans ((if_neg c4).trans ((if_neg c7).trans ((if_neg c10).trans ((if_neg c13).trans ((if_neg c16).trans ((if_neg c19).trans ((if_neg c22).trans ((if_neg c25).trans ((if_neg c28).trans ((if_neg c31).trans ((if_neg c34).trans ((if_neg c37).trans ((if_neg c40).trans ((if_neg c43).trans ((if_pos c46).trans rfl)))))))))))))))))) hH hS (Nat.zero_le _) (Nat.zero_le _)
                                · have ho := ho.2 c46
                                  refine (Decidable.em (((v r 13) : Int32) = 115)).elim (fun c49 => ?_) (fun c49 => ?_)
                                  · have ho := ho.1 c49
                                    refine lv_tableIn (tgt := 159) hx hb dX11_doesOrder_4 (by rw [c49]; decide) (by rw [c49]; decide) (by rw [c49]; rfl) (by decide) ?_
                                    refine lv_aload_n hx hb dX11_doesOrder_159 rfl (lv_at hl 0 rfl) ?_
                                    have hq50 := ho
                                    refine k_X11_goDay X hS hH hk_r hq50 t_ml_VernierDrawersModel_192 hl.1 (Nat.le_of_ble_eq_true rfl) ⟨Nat.le_of_ble_eq_true rfl, Nat.le_of_ble_eq_true rfl⟩ ⟨Nat.zero_le _, Nat.zero_le _⟩ dX11_doesOrder_160 (fun da H locs v51 ev51 hH hS => ?_)
                                    replace ev51 := Eq.symm ev51
                                    subst ev51
                                    exact E _ _ _ _ _ _ _ _ _ dX11_doesOrder_163 rfl (pr1 ((fX11_doesOrder.eq_1 _ _).trans ((if_neg c1).trans ((if_neg c4).trans ((if_neg c7).trans ((if_neg c10).trans ((if_neg c13).trans ((if_neg c16).trans ((if_neg c19).trans ((if_neg c22).trans ((if_neg c25).trans ((if_neg c28).trans ((if_neg c31).trans ((if_neg c34).trans ((if_neg c37).trans ((if_neg c40).trans ((if_neg c43).trans ((if_neg c46).trans ((if_pos c49).trans rfl))))))))))))))))))) (pr2 ((fX11_doesOrder.eq_1 _ _).trans ((if_neg c1).trans ((if_neg c4).trans ((if_neg c7).trans ((if_neg c10).trans ((if_neg c13).trans ((if_neg c16).trans ((if_neg c19).trans ((if_neg c22).trans ((if_neg c25).trans ((if_neg c28).trans ((if_neg c31).trans ((if_neg c34).trans ((if_neg c37).trans ((if_neg c40).trans ((if_neg c43).trans ((if_neg c46).trans ((if_pos c49).trans rfl))))))))))))))))))) hH hS (Nat.zero_le _) (Nat.zero_le _)
                                  · have ho := ho.2 c49
                                    refine (Decidable.em (((v r 13) : Int32) = 116)).elim (fun c52 => ?_) (fun c52 => ?_)
                                    · have ho := ho.1 c52
                                      refine lv_tableIn (tgt := 159) hx hb dX11_doesOrder_4 (by rw [c52]; decide) (by rw [c52]; decide) (by rw [c52]; rfl) (by decide) ?_
                                      refine lv_aload_n hx hb dX11_doesOrder_159 rfl (lv_at hl 0 rfl) ?_
                                      have hq53 := ho
                                      refine k_X11_goDay X hS hH hk_r hq53 t_ml_VernierDrawersModel_192 hl.1 (Nat.le_of_ble_eq_true rfl) ⟨Nat.le_of_ble_eq_true rfl, Nat.le_of_ble_eq_true rfl⟩ ⟨Nat.zero_le _, Nat.zero_le _⟩ dX11_doesOrder_160 (fun da H locs v54 ev54 hH hS => ?_)
                                      replace ev54 := Eq.symm ev54
                                      subst ev54
                                      exact E _ _ _ _ _ _ _ _ _ dX11_doesOrder_163 rfl (pr1 ((fX11_doesOrder.eq_1 _ _).trans ((if_neg c1).trans ((if_neg c4).trans ((if_neg c7).trans ((if_neg c10).trans ((if_neg c13).trans ((if_neg c16).trans ((if_neg c19).trans ((if_neg c22).trans ((if_neg c25).trans ((if_neg c28).trans ((if_neg c31).trans ((if_neg c34).trans ((if_neg c37).trans ((if_neg c40).trans ((if_neg c43).trans ((if_neg c46).trans ((if_neg c49).trans ((if_pos c52).trans rfl)))))))))))))))))))) (pr2 ((fX11_doesOrder.eq_1 _ _).trans ((if_neg c1).trans ((if_neg c4).trans ((if_neg c7).trans ((if_neg c10).trans ((if_neg c13).trans ((if_neg c16).trans ((if_neg c19).trans ((if_neg c22).trans ((if_neg c25).trans ((if_neg c28).trans ((if_neg c31).trans ((if_neg c34).trans ((if_neg c37).trans ((if_neg c40).trans ((if_neg c43).trans ((if_neg c46).trans ((if_neg c49).trans ((if_pos c52).trans rfl)))))))))))))))))))) hH hS (Nat.zero_le _) (Nat.zero_le _)
                                    · have ho := ho.2 c52
                                      refine (Decidable.em (((v r 13) : Int32) = 117)).elim (fun c55 => ?_) (fun c55 => ?_)
                                      · have ho := ho.1 c55
                                        refine lv_tableIn (tgt := 154) hx hb dX11_doesOrder_4 (by rw [c55]; decide) (by rw [c55]; decide) (by rw [c55]; rfl) (by decide) ?_
                                        refine lv_aload_n hx hb dX11_doesOrder_154 rfl (lv_at hl 0 rfl) ?_
                                        have hq56 := ho
                                        refine k_X11_goPass X hS hH hk_r hq56 t_ml_VernierDrawersModel_204 hl.1 (Nat.le_of_ble_eq_true rfl) ⟨Nat.le_of_ble_eq_true rfl, Nat.le_of_ble_eq_true rfl⟩ ⟨Nat.zero_le _, Nat.zero_le _⟩ dX11_doesOrder_155 (fun da H locs v57 ev57 hH hS => ?_)
                                        replace ev57 := Eq.symm ev57
                                        subst ev57
                                        exact E _ _ _ _ _ _ _ _ _ dX11_doesOrder_158 rfl (pr1 ((fX11_doesOrder.eq_1 _ _).trans ((if_neg c1).trans ((if_neg c4).trans ((if_neg c7).trans ((if_neg c10).trans ((if_neg c13).trans ((if_neg c16).trans ((if_neg c19).trans ((if_neg c22).trans ((if_neg c25).trans ((if_neg c28).trans ((if_neg c31).trans ((if_neg c34).trans ((if_neg c37).trans ((if_neg c40).trans ((if_neg c43).trans ((if_neg c46).trans ((if_neg c49).trans ((if_neg c52).trans ((if_pos c55).trans rfl))))))))))))))))))))) (pr2 ((fX11_doesOrder.eq_1 _ _).trans ((if_neg c1).trans ((if_neg c4).trans ((if_neg c7).trans ((if_neg c10).trans ((if_neg c13).trans ((if_neg c16).trans ((if_neg c19).trans ((if_neg c22).trans ((if_neg c25).trans ((if_neg c28).trans ((if_neg c31).trans ((if_neg c34).trans ((if_neg c37).trans ((if_neg c40).trans ((if_neg c43).trans ((if_neg c46).trans ((if_neg c49).trans ((if_neg c52).trans ((if_pos c55).trans rfl))))))))))))))))))))) hH hS (Nat.zero_le _) (Nat.zero_le _)
                                      · have ho := ho.2 c55
                                        refine lv_tableOut (tgt := 159) hx hb dX11_doesOrder_4 (by have := i_rng (v r 13); have := i_ne c1; have := i_ne c4; have := i_ne c7; have := i_ne c10; have := i_ne c13; have := i_ne c16; have := i_ne c19; have := i_ne c22; have := i_ne c25; have := i_ne c28; have := i_ne c31; have := i_ne c34; have := i_ne c37; have := i_ne c40; have := i_ne c43; have := i_ne c46; have := i_ne c49; have := i_ne c52; have := i_ne c55; have : (99 : Int32).toInt = 99 := rfl; have : (100 : Int32).toInt = 100 := rfl; have : (101 : Int32).toInt = 101 := rfl; have : (102 : Int32).toInt = 102 := rfl; have : (103 : Int32).toInt = 103 := rfl; have : (104 : Int32).toInt = 104 := rfl; have : (105 : Int32).toInt = 105 := rfl; have : (106 : Int32).toInt = 106 := rfl; have : (107 : Int32).toInt = 107 := rfl; have : (108 : Int32).toInt = 108 := rfl; have : (109 : Int32).toInt = 109 := rfl; have : (110 : Int32).toInt = 110 := rfl; have : (111 : Int32).toInt = 111 := rfl; have : (112 : Int32).toInt = 112 := rfl; have : (113 : Int32).toInt = 113 := rfl; have : (114 : Int32).toInt = 114 := rfl; have : (115 : Int32).toInt = 115 := rfl; have : (116 : Int32).toInt = 116 := rfl; have : (117 : Int32).toInt = 117 := rfl; omega) (by decide) ?_
                                        refine lv_aload_n hx hb dX11_doesOrder_159 rfl (lv_at hl 0 rfl) ?_
                                        have hq58 := ho
                                        refine k_X11_goDay X hS hH hk_r hq58 t_ml_VernierDrawersModel_192 hl.1 (Nat.le_of_ble_eq_true rfl) ⟨Nat.le_of_ble_eq_true rfl, Nat.le_of_ble_eq_true rfl⟩ ⟨Nat.zero_le _, Nat.zero_le _⟩ dX11_doesOrder_160 (fun da H locs v59 ev59 hH hS => ?_)
                                        replace ev59 := Eq.symm ev59
                                        subst ev59
                                        exact E _ _ _ _ _ _ _ _ _ dX11_doesOrder_163 rfl (pr1 ((fX11_doesOrder.eq_1 _ _).trans ((if_neg c1).trans ((if_neg c4).trans ((if_neg c7).trans ((if_neg c10).trans ((if_neg c13).trans ((if_neg c16).trans ((if_neg c19).trans ((if_neg c22).trans ((if_neg c25).trans ((if_neg c28).trans ((if_neg c31).trans ((if_neg c34).trans ((if_neg c37).trans ((if_neg c40).trans ((if_neg c43).trans ((if_neg c46).trans ((if_neg c49).trans ((if_neg c52).trans ((if_neg c55).trans rfl))))))))))))))))))))) (pr2 ((fX11_doesOrder.eq_1 _ _).trans ((if_neg c1).trans ((if_neg c4).trans ((if_neg c7).trans ((if_neg c10).trans ((if_neg c13).trans ((if_neg c16).trans ((if_neg c19).trans ((if_neg c22).trans ((if_neg c25).trans ((if_neg c28).trans ((if_neg c31).trans ((if_neg c34).trans ((if_neg c37).trans ((if_neg c40).trans ((if_neg c43).trans ((if_neg c46).trans ((if_neg c49).trans ((if_neg c52).trans ((if_neg c55).trans rfl))))))))))))))))))))) hH hS (Nat.zero_le _) (Nat.zero_le _)
theorem k_X11_doesOrder {p : Program} {l : Launch} {e : Env} {R : Room} {s : State} {m : MethodId} {args : Array Value} {below : List Frame} {meth : Method} {c : Code} {H : Heap} {locs : List Loc} {cells slots : Nat} {Q : State → Prop} {cc : ByteArray} {pc nL : Nat} {ls : Array Slot} {rest : List Value} {G : gG} {own : String} {da : Nat → Nat} {v : vSt} {x : gX} (X : CX G p s m args c cc nL own) (hS : va_S (gA G) s.heap H locs) (hH : Hp G da v x H) {r : Nat} (hk_r : kd r = 11) (ho : oX11_doesOrder r v) {idx : Nat} (hml : Cond.methodLink own idx yX11_doesOrder ∈ TT) (hls : ls.size = nL) (hsum : (rest.map fun v => v.category).sum ≤ 8) (hR : rmX11_doesOrder.frames + 1 ≤ R.frames ∧ 8 + (1 + 11) + rmX11_doesOrder.locals ≤ R.locals) (hcs : cells ≤ R.cells ∧ slots ≤ R.slots) (hdg : decode cc pc = .ok (.invokevirtual idx, 3)) (kk : ∀ (d : Nat → Nat) (H1 : Heap) (locs1 : List Loc) (v1 : vSt), v1 = (fX11_doesOrder r v).2 → Hp G d v1 x H1 → va_S (gA G) s.heap H1 locs1 → W p l e R s m args below meth c H1 locs1 cells slots Q (F0 m (pc + 3) ls (.int (fX11_doesOrder r v).1 :: rest))) : W p l e R s m args below meth c H locs cells slots Q (F0 m pc ls (.ref (ga G r) :: rest)) := c_mi X.2.2.2.2.2.2 (runV (k := 0) X.1 X.2.1 X.2.2.1 X.2.2.2.1 X.2.2.2.2.1 (mX11_doesOrder l G da v x r hk_r ho) pW_bl hml t_im_X11_doesOrder t_sel_X11_doesOrder t_ini_VernierDrawersModel t_code_X11_doesOrder ⟨rfl, by decide, by decide, by decide +kernel⟩ rfl rfl hR hcs (recvW X hH (by rw [hk_r]; decide) (by rw [hk_r]; decide) (ce_11 hk_r) rfl) (preW X hS hH) rfl hls rfl hsum hdg) hS kk
def lX11_doesAll_12 (r : Nat) : Nat → Int32 → vSt → Int32 × vSt
  | 0, i3, v4 => (i3, v4)
  | n + 1, i3, v4 => if ((v4 r 16) : Int32) = 0 then (if ((v4 r 7) : Int32) ≤ (v4 r 10) then ((i3, v4)) else (let v8 : vSt := fX11_takesOrder r v4; let qy9 : Int32 × vSt := (if ((v8 r 12) : Int32) = 0 then ((0, v8)) else (let v13 : vSt := (fX11_doesOrder r v8).2; ((fX11_doesOrder r v8).1, v13)) : Int32 × vSt); let y9 := qy9.1; let v10 := qy9.2; let qy12 : Int32 × vSt := (if ((v10 r 12) : Int32) = 0 then (let y15 : Int32 := (if ((v10 r 12) : Int32) = 0 then 1 else 2 : Int32); let v17 : vSt := u2 v10 r 16 y15; let y18 : Int32 := (if ((v17 r 12) : Int32) = 0 then ((v17 r 10) - (v17 r 11)) else (if (y9 : Int32) = (-100001) then 1 else 2) : Int32); let v20 : vSt := u2 v17 r 17 y18; (i3, v20)) else (if ((-100001) : Int32) < y9 then ((i3 + 1, v10)) else (let y22 : Int32 := (if ((v10 r 12) : Int32) = 0 then 1 else 2 : Int32); let v24 : vSt := u2 v10 r 16 y22; let y25 : Int32 := (if ((v24 r 12) : Int32) = 0 then ((v24 r 10) - (v24 r 11)) else (if (y9 : Int32) = (-100001) then 1 else 2) : Int32); let v27 : vSt := u2 v24 r 17 y25; (i3, v27))) : Int32 × vSt); let y12 := qy12.1; let v13 := qy12.2; lX11_doesAll_12 r n y12 v13)) else ((i3, v4))
def olX11_doesAll_12 (r : Nat) : Nat → Int32 → vSt → Prop
  | 0, _, _ => False
  | n + 1, i3, v4 => (((v4 r 16) : Int32) = 0) → (¬ (((v4 r 7) : Int32) ≤ (v4 r 10)) → ((oX11_takesOrder r v4) ∧ (∀ v8 : vSt, v8 = (fX11_takesOrder r v4) → ((¬ (((v8 r 12) : Int32) = 0) → (oX11_doesOrder r v8)) ∧ (∀ (y9 : Int32) (v10 : vSt), y9 = ((if ((v8 r 12) : Int32) = 0 then ((0, v8)) else (let v13 : vSt := (fX11_doesOrder r v8).2; ((fX11_doesOrder r v8).1, v13)) : Int32 × vSt) : Int32 × vSt).1 → v10 = ((if ((v8 r 12) : Int32) = 0 then ((0, v8)) else (let v13 : vSt := (fX11_doesOrder r v8).2; ((fX11_doesOrder r v8).1, v13)) : Int32 × vSt) : Int32 × vSt).2 → ((∀ (y12 : Int32) (v13 : vSt), y12 = ((if ((v10 r 12) : Int32) = 0 then (let y15 : Int32 := (if ((v10 r 12) : Int32) = 0 then 1 else 2 : Int32); let v17 : vSt := u2 v10 r 16 y15; let y18 : Int32 := (if ((v17 r 12) : Int32) = 0 then ((v17 r 10) - (v17 r 11)) else (if (y9 : Int32) = (-100001) then 1 else 2) : Int32); let v20 : vSt := u2 v17 r 17 y18; (i3, v20)) else (if ((-100001) : Int32) < y9 then ((i3 + 1, v10)) else (let y22 : Int32 := (if ((v10 r 12) : Int32) = 0 then 1 else 2 : Int32); let v24 : vSt := u2 v10 r 16 y22; let y25 : Int32 := (if ((v24 r 12) : Int32) = 0 then ((v24 r 10) - (v24 r 11)) else (if (y9 : Int32) = (-100001) then 1 else 2) : Int32); let v27 : vSt := u2 v24 r 17 y25; (i3, v27))) : Int32 × vSt) : Int32 × vSt).1 → v13 = ((if ((v10 r 12) : Int32) = 0 then (let y15 : Int32 := (if ((v10 r 12) : Int32) = 0 then 1 else 2 : Int32); let v17 : vSt := u2 v10 r 16 y15; let y18 : Int32 := (if ((v17 r 12) : Int32) = 0 then ((v17 r 10) - (v17 r 11)) else (if (y9 : Int32) = (-100001) then 1 else 2) : Int32); let v20 : vSt := u2 v17 r 17 y18; (i3, v20)) else (if ((-100001) : Int32) < y9 then ((i3 + 1, v10)) else (let y22 : Int32 := (if ((v10 r 12) : Int32) = 0 then 1 else 2 : Int32); let v24 : vSt := u2 v10 r 16 y22; let y25 : Int32 := (if ((v24 r 12) : Int32) = 0 then ((v24 r 10) - (v24 r 11)) else (if (y9 : Int32) = (-100001) then 1 else 2) : Int32); let v27 : vSt := u2 v24 r 17 y25; (i3, v27))) : Int32 × vSt) : Int32 × vSt).2 → (olX11_doesAll_12 r n y12 v13))))))))
def fX11_doesAll (r : Nat) (v : vSt) : Int32 × vSt := let v1 : vSt := u2 v r 16 0; let v2 : vSt := u2 v1 r 10 0; let qy5 : Int32 × vSt := (lX11_doesAll_12 r (61) 0 v2); let y5 := qy5.1; let v6 := qy5.2; (y5, v6)
def oX11_doesAll (r : Nat) (v : vSt) : Prop := ∀ v1 : vSt, v1 = (u2 v r 16 0) → (∀ v2 : vSt, v2 = (u2 v1 r 10 0) → (olX11_doesAll_12 r (61) 0 v2))
abbrev rmX11_doesAll : Room := { frames := 8, cells := 0, slots := 0, locals := 181 }
theorem dX11_doesAll_0 : decode cX11_doesAll 0 = .ok (.iconst 0, 1) := by decide +kernel
theorem dX11_doesAll_1 : decode cX11_doesAll 1 = .ok (.istore_n 1, 1) := by decide +kernel
theorem dX11_doesAll_2 : decode cX11_doesAll 2 = .ok (.aload_n 0, 1) := by decide +kernel
theorem dX11_doesAll_3 : decode cX11_doesAll 3 = .ok (.iconst 0, 1) := by decide +kernel
theorem dX11_doesAll_4 : decode cX11_doesAll 4 = .ok (.putfield 284, 3) := by decide +kernel
theorem dX11_doesAll_7 : decode cX11_doesAll 7 = .ok (.aload_n 0, 1) := by decide +kernel
theorem dX11_doesAll_8 : decode cX11_doesAll 8 = .ok (.iconst 0, 1) := by decide +kernel
theorem dX11_doesAll_9 : decode cX11_doesAll 9 = .ok (.putfield 256, 3) := by decide +kernel
theorem dX11_doesAll_12 : decode cX11_doesAll 12 = .ok (.aload_n 0, 1) := by decide +kernel
theorem dX11_doesAll_13 : decode cX11_doesAll 13 = .ok (.getfield 284, 3) := by decide +kernel
theorem dX11_doesAll_16 : decode cX11_doesAll 16 = .ok (.ifCond .ne 106, 3) := by decide +kernel
theorem dX11_doesAll_19 : decode cX11_doesAll 19 = .ok (.aload_n 0, 1) := by decide +kernel
theorem dX11_doesAll_20 : decode cX11_doesAll 20 = .ok (.getfield 256, 3) := by decide +kernel
theorem dX11_doesAll_23 : decode cX11_doesAll 23 = .ok (.aload_n 0, 1) := by decide +kernel
theorem dX11_doesAll_24 : decode cX11_doesAll 24 = .ok (.getfield 253, 3) := by decide +kernel
theorem dX11_doesAll_27 : decode cX11_doesAll 27 = .ok (.if_icmp .ge 95, 3) := by decide +kernel
theorem dX11_doesAll_30 : decode cX11_doesAll 30 = .ok (.aload_n 0, 1) := by decide +kernel
theorem dX11_doesAll_31 : decode cX11_doesAll 31 = .ok (.invokevirtual 287, 3) := by decide +kernel
theorem dX11_doesAll_34 : decode cX11_doesAll 34 = .ok (.aload_n 0, 1) := by decide +kernel
theorem dX11_doesAll_35 : decode cX11_doesAll 35 = .ok (.getfield 259, 3) := by decide +kernel
theorem dX11_doesAll_38 : decode cX11_doesAll 38 = .ok (.ifCond .eq 10, 3) := by decide +kernel
theorem dX11_doesAll_41 : decode cX11_doesAll 41 = .ok (.aload_n 0, 1) := by decide +kernel
theorem dX11_doesAll_42 : decode cX11_doesAll 42 = .ok (.invokevirtual 290, 3) := by decide +kernel
theorem dX11_doesAll_45 : decode cX11_doesAll 45 = .ok (.goto 4, 3) := by decide +kernel
theorem dX11_doesAll_48 : decode cX11_doesAll 48 = .ok (.iconst 0, 1) := by decide +kernel
theorem dX11_doesAll_49 : decode cX11_doesAll 49 = .ok (.istore_n 2, 1) := by decide +kernel
theorem dX11_doesAll_50 : decode cX11_doesAll 50 = .ok (.aload_n 0, 1) := by decide +kernel
theorem dX11_doesAll_51 : decode cX11_doesAll 51 = .ok (.getfield 259, 3) := by decide +kernel
theorem dX11_doesAll_54 : decode cX11_doesAll 54 = .ok (.ifCond .eq 9, 3) := by decide +kernel
theorem dX11_doesAll_57 : decode cX11_doesAll 57 = .ok (.iload_n 2, 1) := by decide +kernel
theorem dX11_doesAll_58 : decode cX11_doesAll 58 = .ok (.ldc 40, 2) := by decide +kernel
theorem dX11_doesAll_60 : decode cX11_doesAll 60 = .ok (.if_icmp .gt 56, 3) := by decide +kernel
theorem dX11_doesAll_63 : decode cX11_doesAll 63 = .ok (.aload_n 0, 1) := by decide +kernel
theorem dX11_doesAll_64 : decode cX11_doesAll 64 = .ok (.aload_n 0, 1) := by decide +kernel
theorem dX11_doesAll_65 : decode cX11_doesAll 65 = .ok (.getfield 259, 3) := by decide +kernel
theorem dX11_doesAll_68 : decode cX11_doesAll 68 = .ok (.ifCond .eq 7, 3) := by decide +kernel
theorem dX11_doesAll_71 : decode cX11_doesAll 71 = .ok (.iconst 2, 1) := by decide +kernel
theorem dX11_doesAll_72 : decode cX11_doesAll 72 = .ok (.goto 4, 3) := by decide +kernel
theorem dX11_doesAll_75 : decode cX11_doesAll 75 = .ok (.iconst 1, 1) := by decide +kernel
theorem dX11_doesAll_76 : decode cX11_doesAll 76 = .ok (.putfield 284, 3) := by decide +kernel
theorem dX11_doesAll_79 : decode cX11_doesAll 79 = .ok (.aload_n 0, 1) := by decide +kernel
theorem dX11_doesAll_80 : decode cX11_doesAll 80 = .ok (.aload_n 0, 1) := by decide +kernel
theorem dX11_doesAll_81 : decode cX11_doesAll 81 = .ok (.getfield 259, 3) := by decide +kernel
theorem dX11_doesAll_84 : decode cX11_doesAll 84 = .ok (.ifCond .ne 15, 3) := by decide +kernel
theorem dX11_doesAll_87 : decode cX11_doesAll 87 = .ok (.aload_n 0, 1) := by decide +kernel
theorem dX11_doesAll_88 : decode cX11_doesAll 88 = .ok (.getfield 256, 3) := by decide +kernel
theorem dX11_doesAll_91 : decode cX11_doesAll 91 = .ok (.aload_n 0, 1) := by decide +kernel
theorem dX11_doesAll_92 : decode cX11_doesAll 92 = .ok (.getfield 265, 3) := by decide +kernel
theorem dX11_doesAll_95 : decode cX11_doesAll 95 = .ok (.isub, 1) := by decide +kernel
theorem dX11_doesAll_96 : decode cX11_doesAll 96 = .ok (.goto 14, 3) := by decide +kernel
theorem dX11_doesAll_99 : decode cX11_doesAll 99 = .ok (.iload_n 2, 1) := by decide +kernel
theorem dX11_doesAll_100 : decode cX11_doesAll 100 = .ok (.ldc 40, 2) := by decide +kernel
theorem dX11_doesAll_102 : decode cX11_doesAll 102 = .ok (.if_icmp .ne 7, 3) := by decide +kernel
theorem dX11_doesAll_105 : decode cX11_doesAll 105 = .ok (.iconst 1, 1) := by decide +kernel
theorem dX11_doesAll_106 : decode cX11_doesAll 106 = .ok (.goto 4, 3) := by decide +kernel
theorem dX11_doesAll_109 : decode cX11_doesAll 109 = .ok (.iconst 2, 1) := by decide +kernel
theorem dX11_doesAll_110 : decode cX11_doesAll 110 = .ok (.putfield 293, 3) := by decide +kernel
theorem dX11_doesAll_113 : decode cX11_doesAll 113 = .ok (.goto 6, 3) := by decide +kernel
theorem dX11_doesAll_116 : decode cX11_doesAll 116 = .ok (.iinc 1 1, 3) := by decide +kernel
theorem dX11_doesAll_119 : decode cX11_doesAll 119 = .ok (.goto (-107), 3) := by decide +kernel
theorem dX11_doesAll_122 : decode cX11_doesAll 122 = .ok (.iload_n 1, 1) := by decide +kernel
theorem dX11_doesAll_123 : decode cX11_doesAll 123 = .ok (.ireturn, 1) := by decide +kernel
set_option maxHeartbeats 8000000 in
set_option maxRecDepth 100000 in
theorem mX11_doesAll (l : Launch) (G : gG) (da : Nat → Nat) (v : vSt) (x : gX) (r : Nat) (hk_r : kd r = 11) (ho : oX11_doesAll r v) : MI l yX11_doesAll cX11_doesAll 3 (some .int) rmX11_doesAll [.ref (ga G r)] G da v x 0 0 (fX11_doesAll r v).1 (fX11_doesAll r v).2 x := by
  refine gofMI (own := RX11) (by decide) rfl (Nat.le_of_ble_eq_true rfl) (fun p e s m args below meth c ls Q X hH hl E => ?_)
  have hx := X.1
  have hb := X.2.1
  have hown := X.2.2.2.1
  have hts := X.2.2.2.2.1
  have hS : va_S (gA G) s.heap s.heap [] := va_S.rf
  unfold oX11_doesAll at ho
  have hl : lv_has ls 3 [(0, .ref (ga G r))] := hl
  refine lv_iconst (v := 0) hx hb dX11_doesAll_0 (by decide) ?_
  refine lv_istore_n (lv' := [(1, .int 0), (0, .ref (ga G r))]) hx hb dX11_doesAll_1 rfl hl (by decide) rfl (fun ls hl => ?_)
  refine lv_aload_n hx hb dX11_doesAll_2 rfl (lv_at hl 1 rfl) ?_
  refine lv_iconst (v := 0) hx hb dX11_doesAll_3 (by decide) ?_
  refine p_VernierDrawersModel_284 X hH hS hk_r dX11_doesAll_4 (fun H locs v1 ev1 hH hS => ?_)
  have ho := ho v1 ev1
  refine lv_aload_n hx hb dX11_doesAll_7 rfl (lv_at hl 1 rfl) ?_
  refine lv_iconst (v := 0) hx hb dX11_doesAll_8 (by decide) ?_
  refine p_VernierDrawersModel_256 X hH hS hk_r dX11_doesAll_9 (fun H locs v2 ev2 hH hS => ?_)
  have ho := ho v2 ev2
  have L7 : ∀ (n : Nat) (i3 : Int32) (v4 : vSt) (da : Nat → Nat) (H : Heap) (locs : List Loc) (ls : Array Slot), olX11_doesAll_12 r n i3 v4 → Hp G da v4 x H → va_S (gA G) s.heap H locs → lv_has ls 3 [(1, .int i3), (0, .ref (ga G r))] → (∀ (y5 : Int32) (v6 : vSt) (da : Nat → Nat) (H : Heap) (locs : List Loc) (ls : Array Slot), y5 = (lX11_doesAll_12 r n i3 v4 : Int32 × vSt).1 → v6 = (lX11_doesAll_12 r n i3 v4 : Int32 × vSt).2 → Hp G da v6 x H → va_S (gA G) s.heap H locs → lv_has ls 3 [(1, .int y5)] → W p l e rmX11_doesAll s m args below meth c H locs 0 0 Q (F0 m 122 ls [])) → W p l e rmX11_doesAll s m args below meth c H locs 0 0 Q (F0 m 12 ls []) := by
    clear ho
    intro n
    induction n with
    | zero =>
      intro i3 v4 da H locs ls ho
      exact ho.elim
    | succ n ih =>
      intro i3 v4 da H locs ls ho hH hS hl K8
      refine lv_aload_n hx hb dX11_doesAll_12 rfl (lv_at hl 1 rfl) ?_
      refine g_VernierDrawersModel_284 X hH hk_r dX11_doesAll_13 ?_
      refine lv_if_ne (tgt := 122) hx hb dX11_doesAll_16 (by decide) (fun c5 => ?_) (fun c5 => ?_)
      · skip
        exact K8 _ _ _ _ _ _ (pr1 (((lX11_doesAll_12.eq_2 _ _ _ _)).trans ((if_neg c5).trans rfl))) (pr2 (((lX11_doesAll_12.eq_2 _ _ _ _)).trans ((if_neg c5).trans rfl))) hH hS (lv_sub hl [0] rfl)
      · have ho := ho c5
        refine lv_aload_n hx hb dX11_doesAll_19 rfl (lv_at hl 1 rfl) ?_
        refine g_VernierDrawersModel_256 X hH hk_r dX11_doesAll_20 ?_
        refine lv_aload_n hx hb dX11_doesAll_23 rfl (lv_at hl 1 rfl) ?_
        refine g_VernierDrawersModel_253 X hH hk_r dX11_doesAll_24 ?_
        refine lv_icmp_ge (tgt := 122) hx hb dX11_doesAll_27 (by decide) (fun c6 => ?_) (fun c6 => ?_)
        · skip
          exact K8 _ _ _ _ _ _ (pr1 (((lX11_doesAll_12.eq_2 _ _ _ _)).trans ((if_pos c5).trans ((if_pos c6).trans rfl)))) (pr2 (((lX11_doesAll_12.eq_2 _ _ _ _)).trans ((if_pos c5).trans ((if_pos c6).trans rfl)))) hH hS (lv_sub hl [0] rfl)
        · have ho := ho c6
          refine lv_aload_n hx hb dX11_doesAll_30 rfl (lv_at hl 1 rfl) ?_
          have hq7 := ho.1
          have ho := ho.2
          refine k_X11_takesOrder X hS hH hk_r hq7 t_ml_VernierDrawersModel_287 hl.1 (Nat.le_of_ble_eq_true rfl) ⟨Nat.le_of_ble_eq_true rfl, Nat.le_of_ble_eq_true rfl⟩ ⟨Nat.zero_le _, Nat.zero_le _⟩ dX11_doesAll_31 (fun da H locs v8 ev8 hH hS => ?_)
          have ho := ho v8 ev8
          refine lv_aload_n hx hb dX11_doesAll_34 rfl (lv_at hl 1 rfl) ?_
          refine g_VernierDrawersModel_259 X hH hk_r dX11_doesAll_35 ?_
          have K11 : ∀ (y9 : Int32) (v10 : vSt) (da : Nat → Nat) (H : Heap) (locs : List Loc) (ls : Array Slot), y9 = (if ((v8 r 12) : Int32) = 0 then ((0, v8)) else (let v13 : vSt := (fX11_doesOrder r v8).2; ((fX11_doesOrder r v8).1, v13)) : Int32 × vSt).1 → v10 = (if ((v8 r 12) : Int32) = 0 then ((0, v8)) else (let v13 : vSt := (fX11_doesOrder r v8).2; ((fX11_doesOrder r v8).1, v13)) : Int32 × vSt).2 → Hp G da v10 x H → va_S (gA G) s.heap H locs → lv_has ls 3 [(1, .int i3), (0, .ref (ga G r))] → W p l e rmX11_doesAll s m args below meth c H locs 0 0 Q (F0 m 49 ls [.int y9]) := by
            intro y9 v10 da H locs ls ey9 ev10 hH hS hl
            have ho := ho.2 y9 v10 ey9 ev10
            refine lv_istore_n (lv' := [(2, .int y9), (1, .int i3), (0, .ref (ga G r))]) hx hb dX11_doesAll_49 rfl hl (by decide) rfl (fun ls hl => ?_)
            refine lv_aload_n hx hb dX11_doesAll_50 rfl (lv_at hl 2 rfl) ?_
            refine g_VernierDrawersModel_259 X hH hk_r dX11_doesAll_51 ?_
            have K14 : ∀ (y12 : Int32) (v13 : vSt) (da : Nat → Nat) (H : Heap) (locs : List Loc) (ls : Array Slot), y12 = (if ((v10 r 12) : Int32) = 0 then (let y15 : Int32 := (if ((v10 r 12) : Int32) = 0 then 1 else 2 : Int32); let v17 : vSt := u2 v10 r 16 y15; let y18 : Int32 := (if ((v17 r 12) : Int32) = 0 then ((v17 r 10) - (v17 r 11)) else (if (y9 : Int32) = (-100001) then 1 else 2) : Int32); let v20 : vSt := u2 v17 r 17 y18; (i3, v20)) else (if ((-100001) : Int32) < y9 then ((i3 + 1, v10)) else (let y22 : Int32 := (if ((v10 r 12) : Int32) = 0 then 1 else 2 : Int32); let v24 : vSt := u2 v10 r 16 y22; let y25 : Int32 := (if ((v24 r 12) : Int32) = 0 then ((v24 r 10) - (v24 r 11)) else (if (y9 : Int32) = (-100001) then 1 else 2) : Int32); let v27 : vSt := u2 v24 r 17 y25; (i3, v27))) : Int32 × vSt).1 → v13 = (if ((v10 r 12) : Int32) = 0 then (let y15 : Int32 := (if ((v10 r 12) : Int32) = 0 then 1 else 2 : Int32); let v17 : vSt := u2 v10 r 16 y15; let y18 : Int32 := (if ((v17 r 12) : Int32) = 0 then ((v17 r 10) - (v17 r 11)) else (if (y9 : Int32) = (-100001) then 1 else 2) : Int32); let v20 : vSt := u2 v17 r 17 y18; (i3, v20)) else (if ((-100001) : Int32) < y9 then ((i3 + 1, v10)) else (let y22 : Int32 := (if ((v10 r 12) : Int32) = 0 then 1 else 2 : Int32); let v24 : vSt := u2 v10 r 16 y22; let y25 : Int32 := (if ((v24 r 12) : Int32) = 0 then ((v24 r 10) - (v24 r 11)) else (if (y9 : Int32) = (-100001) then 1 else 2) : Int32); let v27 : vSt := u2 v24 r 17 y25; (i3, v27))) : Int32 × vSt).2 → Hp G da v13 x H → va_S (gA G) s.heap H locs → lv_has ls 3 [(1, .int y12), (0, .ref (ga G r))] → W p l e rmX11_doesAll s m args below meth c H locs 0 0 Q (F0 m 119 ls []) := by
              intro y12 v13 da H locs ls ey12 ev13 hH hS hl
              have ho := ho y12 v13 ey12 ev13
              refine lv_goto (tgt := 12) hx hb dX11_doesAll_119 (by decide) ?_
              replace ev8 := Eq.symm ev8
              replace ey9 := Eq.symm ey9
              replace ev10 := Eq.symm ev10
              replace ey12 := Eq.symm ey12
              replace ev13 := Eq.symm ev13
              subst ev8 ey9 ev10 ey12 ev13
              exact ih _ _ _ _ _ _ ho hH hS (lv_sub hl [0, 1] rfl) (fun y5 v6 da H locs ls q0 q1 hH hS hl => K8 y5 v6 da H locs ls (q0.trans (congrArg (fun z : Int32 × vSt => z.1) (Eq.symm (((lX11_doesAll_12.eq_2 _ _ _ _)).trans ((if_pos c5).trans ((if_neg c6).trans rfl)))))) (q1.trans (congrArg (fun z : Int32 × vSt => z.2) (Eq.symm (((lX11_doesAll_12.eq_2 _ _ _ _)).trans ((if_pos c5).trans ((if_neg c6).trans rfl)))))) hH hS hl)
            refine lv_if_eq (tgt := 63) hx hb dX11_doesAll_54 (by decide) (fun c14 => ?_) (fun c14 => ?_)
            · skip
              refine lv_aload_n hx hb dX11_doesAll_63 rfl (lv_at hl 2 rfl) ?_
              refine lv_aload_n hx hb dX11_doesAll_64 rfl (lv_at hl 2 rfl) ?_
              refine g_VernierDrawersModel_259 X hH hk_r dX11_doesAll_65 ?_
              have K16 : ∀ (y15 : Int32) (ls : Array Slot), y15 = (if ((v10 r 12) : Int32) = 0 then 1 else 2 : Int32) → lv_has ls 3 [(2, .int y9), (1, .int i3), (0, .ref (ga G r))] → W p l e rmX11_doesAll s m args below meth c H locs 0 0 Q (F0 m 76 ls [.int y15, .ref (ga G r)]) := by
                intro y15 ls ey15 hl
                refine p_VernierDrawersModel_284 X hH hS hk_r dX11_doesAll_76 (fun H locs v17 ev17 hH hS => ?_)
                refine lv_aload_n hx hb dX11_doesAll_79 rfl (lv_at hl 2 rfl) ?_
                refine lv_aload_n hx hb dX11_doesAll_80 rfl (lv_at hl 2 rfl) ?_
                refine g_VernierDrawersModel_259 X hH hk_r dX11_doesAll_81 ?_
                have K19 : ∀ (y18 : Int32) (ls : Array Slot), y18 = (if ((v17 r 12) : Int32) = 0 then ((v17 r 10) - (v17 r 11)) else (if (y9 : Int32) = (-100001) then 1 else 2) : Int32) → lv_has ls 3 [(1, .int i3), (0, .ref (ga G r))] → W p l e rmX11_doesAll s m args below meth c H locs 0 0 Q (F0 m 110 ls [.int y18, .ref (ga G r)]) := by
                  intro y18 ls ey18 hl
                  refine p_VernierDrawersModel_293 X hH hS hk_r dX11_doesAll_110 (fun H locs v20 ev20 hH hS => ?_)
                  refine lv_goto (tgt := 119) hx hb dX11_doesAll_113 (by decide) ?_
                  replace ey15 := Eq.symm ey15
                  replace ev17 := Eq.symm ev17
                  replace ey18 := Eq.symm ey18
                  replace ev20 := Eq.symm ev20
                  subst ey15 ev17 ey18 ev20
                  exact K14 _ _ _ _ _ _ (pr1 ((if_pos c14).trans rfl)) (pr2 ((if_pos c14).trans rfl)) hH hS (lv_sub hl [0, 1] rfl)
                refine lv_if_ne (tgt := 99) hx hb dX11_doesAll_84 (by decide) (fun c19 => ?_) (fun c19 => ?_)
                · skip
                  refine lv_iload_n hx hb dX11_doesAll_99 rfl (lv_at hl 0 rfl) ?_
                  refine lv_ldc (v := (-100001)) hx hb hown (hts _ t_con_VernierDrawersModel_40) dX11_doesAll_100 ?_
                  refine lv_icmp_ne (tgt := 109) hx hb dX11_doesAll_102 (by decide) (fun c20 => ?_) (fun c20 => ?_)
                  · skip
                    refine lv_iconst (v := 2) hx hb dX11_doesAll_109 (by decide) ?_
                    exact K19 _ _ (Eq.symm ((if_neg c19).trans ((if_neg c20).trans rfl))) (lv_sub hl [1, 2] rfl)
                  · skip
                    refine lv_iconst (v := 1) hx hb dX11_doesAll_105 (by decide) ?_
                    refine lv_goto (tgt := 110) hx hb dX11_doesAll_106 (by decide) ?_
                    exact K19 _ _ (Eq.symm ((if_neg c19).trans ((if_pos c20).trans rfl))) (lv_sub hl [1, 2] rfl)
                · skip
                  refine lv_aload_n hx hb dX11_doesAll_87 rfl (lv_at hl 2 rfl) ?_
                  refine g_VernierDrawersModel_256 X hH hk_r dX11_doesAll_88 ?_
                  refine lv_aload_n hx hb dX11_doesAll_91 rfl (lv_at hl 2 rfl) ?_
                  refine g_VernierDrawersModel_265 X hH hk_r dX11_doesAll_92 ?_
                  refine lv_isub hx hb dX11_doesAll_95 ?_
                  refine lv_goto (tgt := 110) hx hb dX11_doesAll_96 (by decide) ?_
                  exact K19 _ _ (Eq.symm ((if_pos c19).trans rfl)) (lv_sub hl [1, 2] rfl)
              refine lv_if_eq (tgt := 75) hx hb dX11_doesAll_68 (by decide) (fun c16 => ?_) (fun c16 => ?_)
              · skip
                refine lv_iconst (v := 1) hx hb dX11_doesAll_75 (by decide) ?_
                exact K16 _ _ (Eq.symm ((if_pos c16).trans rfl)) (lv_sub hl [0, 1, 2] rfl)
              · skip
                refine lv_iconst (v := 2) hx hb dX11_doesAll_71 (by decide) ?_
                refine lv_goto (tgt := 76) hx hb dX11_doesAll_72 (by decide) ?_
                exact K16 _ _ (Eq.symm ((if_neg c16).trans rfl)) (lv_sub hl [0, 1, 2] rfl)
            · skip
              refine lv_iload_n hx hb dX11_doesAll_57 rfl (lv_at hl 0 rfl) ?_
              refine lv_ldc (v := (-100001)) hx hb hown (hts _ t_con_VernierDrawersModel_40) dX11_doesAll_58 ?_
              refine lv_icmp_gt (tgt := 116) hx hb dX11_doesAll_60 (by decide) (fun c21 => ?_) (fun c21 => ?_)
              · skip
                refine lv_iinc (v := i3 + 1) (lv' := [(1, .int (i3 + 1)), (2, .int y9), (0, .ref (ga G r))]) hx hb dX11_doesAll_116 hl (k := 1) rfl rfl (by decide) rfl (fun ls hl => ?_)
                exact K14 _ _ _ _ _ _ (pr1 ((if_neg c14).trans ((if_pos c21).trans rfl))) (pr2 ((if_neg c14).trans ((if_pos c21).trans rfl))) hH hS (lv_sub hl [0, 2] rfl)
              · skip
                refine lv_aload_n hx hb dX11_doesAll_63 rfl (lv_at hl 2 rfl) ?_
                refine lv_aload_n hx hb dX11_doesAll_64 rfl (lv_at hl 2 rfl) ?_
                refine g_VernierDrawersModel_259 X hH hk_r dX11_doesAll_65 ?_
                have K23 : ∀ (y22 : Int32) (ls : Array Slot), y22 = (if ((v10 r 12) : Int32) = 0 then 1 else 2 : Int32) → lv_has ls 3 [(2, .int y9), (1, .int i3), (0, .ref (ga G r))] → W p l e rmX11_doesAll s m args below meth c H locs 0 0 Q (F0 m 76 ls [.int y22, .ref (ga G r)]) := by
                  intro y22 ls ey22 hl
                  refine p_VernierDrawersModel_284 X hH hS hk_r dX11_doesAll_76 (fun H locs v24 ev24 hH hS => ?_)
                  refine lv_aload_n hx hb dX11_doesAll_79 rfl (lv_at hl 2 rfl) ?_
                  refine lv_aload_n hx hb dX11_doesAll_80 rfl (lv_at hl 2 rfl) ?_
                  refine g_VernierDrawersModel_259 X hH hk_r dX11_doesAll_81 ?_
                  have K26 : ∀ (y25 : Int32) (ls : Array Slot), y25 = (if ((v24 r 12) : Int32) = 0 then ((v24 r 10) - (v24 r 11)) else (if (y9 : Int32) = (-100001) then 1 else 2) : Int32) → lv_has ls 3 [(1, .int i3), (0, .ref (ga G r))] → W p l e rmX11_doesAll s m args below meth c H locs 0 0 Q (F0 m 110 ls [.int y25, .ref (ga G r)]) := by
                    intro y25 ls ey25 hl
                    refine p_VernierDrawersModel_293 X hH hS hk_r dX11_doesAll_110 (fun H locs v27 ev27 hH hS => ?_)
                    refine lv_goto (tgt := 119) hx hb dX11_doesAll_113 (by decide) ?_
                    replace ey22 := Eq.symm ey22
                    replace ev24 := Eq.symm ev24
                    replace ey25 := Eq.symm ey25
                    replace ev27 := Eq.symm ev27
                    subst ey22 ev24 ey25 ev27
                    exact K14 _ _ _ _ _ _ (pr1 ((if_neg c14).trans ((if_neg c21).trans rfl))) (pr2 ((if_neg c14).trans ((if_neg c21).trans rfl))) hH hS (lv_sub hl [0, 1] rfl)
                  refine lv_if_ne (tgt := 99) hx hb dX11_doesAll_84 (by decide) (fun c26 => ?_) (fun c26 => ?_)
                  · skip
                    refine lv_iload_n hx hb dX11_doesAll_99 rfl (lv_at hl 0 rfl) ?_
                    refine lv_ldc (v := (-100001)) hx hb hown (hts _ t_con_VernierDrawersModel_40) dX11_doesAll_100 ?_
                    refine lv_icmp_ne (tgt := 109) hx hb dX11_doesAll_102 (by decide) (fun c27 => ?_) (fun c27 => ?_)
                    · skip
                      refine lv_iconst (v := 2) hx hb dX11_doesAll_109 (by decide) ?_
                      exact K26 _ _ (Eq.symm ((if_neg c26).trans ((if_neg c27).trans rfl))) (lv_sub hl [1, 2] rfl)
                    · skip
                      refine lv_iconst (v := 1) hx hb dX11_doesAll_105 (by decide) ?_
                      refine lv_goto (tgt := 110) hx hb dX11_doesAll_106 (by decide) ?_
                      exact K26 _ _ (Eq.symm ((if_neg c26).trans ((if_pos c27).trans rfl))) (lv_sub hl [1, 2] rfl)
                  · skip
                    refine lv_aload_n hx hb dX11_doesAll_87 rfl (lv_at hl 2 rfl) ?_
                    refine g_VernierDrawersModel_256 X hH hk_r dX11_doesAll_88 ?_
                    refine lv_aload_n hx hb dX11_doesAll_91 rfl (lv_at hl 2 rfl) ?_
                    refine g_VernierDrawersModel_265 X hH hk_r dX11_doesAll_92 ?_
                    refine lv_isub hx hb dX11_doesAll_95 ?_
                    refine lv_goto (tgt := 110) hx hb dX11_doesAll_96 (by decide) ?_
                    exact K26 _ _ (Eq.symm ((if_pos c26).trans rfl)) (lv_sub hl [1, 2] rfl)
                refine lv_if_eq (tgt := 75) hx hb dX11_doesAll_68 (by decide) (fun c23 => ?_) (fun c23 => ?_)
                · skip
                  refine lv_iconst (v := 1) hx hb dX11_doesAll_75 (by decide) ?_
                  exact K23 _ _ (Eq.symm ((if_pos c23).trans rfl)) (lv_sub hl [0, 1, 2] rfl)
                · skip
                  refine lv_iconst (v := 2) hx hb dX11_doesAll_71 (by decide) ?_
                  refine lv_goto (tgt := 76) hx hb dX11_doesAll_72 (by decide) ?_
                  exact K23 _ _ (Eq.symm ((if_neg c23).trans rfl)) (lv_sub hl [0, 1, 2] rfl)
          have ho := ho.1
          refine lv_if_eq (tgt := 48) hx hb dX11_doesAll_38 (by decide) (fun c11 => ?_) (fun c11 => ?_)
          · skip
            refine lv_iconst (v := 0) hx hb dX11_doesAll_48 (by decide) ?_
            exact K11 _ _ _ _ _ _ (pr1 ((if_pos c11).trans rfl)) (pr2 ((if_pos c11).trans rfl)) hH hS (lv_sub hl [0, 1] rfl)
          · have ho := ho c11
            refine lv_aload_n hx hb dX11_doesAll_41 rfl (lv_at hl 1 rfl) ?_
            have hq12 := ho
            refine k_X11_doesOrder X hS hH hk_r hq12 t_ml_VernierDrawersModel_290 hl.1 (Nat.le_of_ble_eq_true rfl) ⟨Nat.le_of_ble_eq_true rfl, Nat.le_of_ble_eq_true rfl⟩ ⟨Nat.zero_le _, Nat.zero_le _⟩ dX11_doesAll_42 (fun da H locs v13 ev13 hH hS => ?_)
            refine lv_goto (tgt := 49) hx hb dX11_doesAll_45 (by decide) ?_
            replace ev13 := Eq.symm ev13
            subst ev13
            exact K11 _ _ _ _ _ _ (pr1 ((if_neg c11).trans rfl)) (pr2 ((if_neg c11).trans rfl)) hH hS (lv_sub hl [0, 1] rfl)
  have hol := ho
  refine L7 (61) 0 v2 _ _ _ _ hol hH hS (lv_sub hl [0, 1] rfl) (fun y5 v6 da H locs ls ey5 ev6 hH hS hl => ?_)
  refine lv_iload_n hx hb dX11_doesAll_122 rfl (lv_at hl 0 rfl) ?_
  replace ev1 := Eq.symm ev1
  replace ev2 := Eq.symm ev2
  replace ey5 := Eq.symm ey5
  replace ev6 := Eq.symm ev6
  subst ev1 ev2 ey5 ev6
  exact E _ _ _ _ _ _ _ _ _ dX11_doesAll_123 rfl (pr1 rfl) (pr2 rfl) hH hS (Nat.zero_le _) (Nat.zero_le _)
theorem k_X11_doesAll {p : Program} {l : Launch} {e : Env} {R : Room} {s : State} {m : MethodId} {args : Array Value} {below : List Frame} {meth : Method} {c : Code} {H : Heap} {locs : List Loc} {cells slots : Nat} {Q : State → Prop} {cc : ByteArray} {pc nL : Nat} {ls : Array Slot} {rest : List Value} {G : gG} {own : String} {da : Nat → Nat} {v : vSt} {x : gX} (X : CX G p s m args c cc nL own) (hS : va_S (gA G) s.heap H locs) (hH : Hp G da v x H) {r : Nat} (hk_r : kd r = 11) (ho : oX11_doesAll r v) {idx : Nat} (hml : Cond.methodLink own idx yX11_doesAll ∈ TT) (hls : ls.size = nL) (hsum : (rest.map fun v => v.category).sum ≤ 8) (hR : rmX11_doesAll.frames + 1 ≤ R.frames ∧ 8 + (3 + 11) + rmX11_doesAll.locals ≤ R.locals) (hcs : cells ≤ R.cells ∧ slots ≤ R.slots) (hdg : decode cc pc = .ok (.invokevirtual idx, 3)) (kk : ∀ (d : Nat → Nat) (H1 : Heap) (locs1 : List Loc) (v1 : vSt), v1 = (fX11_doesAll r v).2 → Hp G d v1 x H1 → va_S (gA G) s.heap H1 locs1 → W p l e R s m args below meth c H1 locs1 cells slots Q (F0 m (pc + 3) ls (.int (fX11_doesAll r v).1 :: rest))) : W p l e R s m args below meth c H locs cells slots Q (F0 m pc ls (.ref (ga G r) :: rest)) := c_mi X.2.2.2.2.2.2 (runV (k := 0) X.1 X.2.1 X.2.2.1 X.2.2.2.1 X.2.2.2.2.1 (mX11_doesAll l G da v x r hk_r ho) pW_bl hml t_im_X11_doesAll t_sel_X11_doesAll t_ini_VernierDrawersModel t_code_X11_doesAll ⟨rfl, by decide, by decide, by decide +kernel⟩ rfl rfl hR hcs (recvW X hH (by rw [hk_r]; decide) (by rw [hk_r]; decide) (ce_11 hk_r) rfl) (preW X hS hH) rfl hls rfl hsum hdg) hS kk
