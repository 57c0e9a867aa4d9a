/-! the law's methods: stacks -/
def lL_stack_36 (v : vSt) (o1 : Nat) (i2 : Int32) : Nat → Int32 → Int32 → Int32 → Int32 × Int32
  | 0, i8, i9, i10 => (i9, i10)
  | n + 1, i8, i9, i10 => if ((fX10_blocks o1 v) : Int32) ≤ i8 then ((i9, i10)) else (let y12 : Int32 := (if (((i2 >>> (i8 &&& 31)) &&& (1 : Int32)) : Int32) = 1 then ((fX10_blockLength o1 i8 v).2) else 0 : Int32); lL_stack_36 v o1 i2 n (i8 + 1) (i9 + y12) (i10 + ((i2 >>> (i8 &&& 31)) &&& (1 : Int32))))
def olL_stack_36 (v : vSt) (o1 : Nat) (i2 : Int32) : Nat → Int32 → Int32 → Int32 → Prop
  | 0, _, _, _ => False
  | n + 1, i8, i9, i10 => ¬ (((fX10_blocks o1 v) : Int32) ≤ i8) → ((((((i2 >>> (i8 &&& 31)) &&& (1 : Int32)) : Int32) = 1) → ((oX10_blockLength o1 i8 v) ∧ ((fX10_blockLength o1 i8 v).1 = 0))) ∧ (∀ (y12 : Int32), y12 = ((if (((i2 >>> (i8 &&& 31)) &&& (1 : Int32)) : Int32) = 1 then ((fX10_blockLength o1 i8 v).2) else 0 : Int32) : Int32) → (olL_stack_36 v o1 i2 n (i8 + 1) (i9 + y12) (i10 + ((i2 >>> (i8 &&& 31)) &&& (1 : Int32))))))
def lL_stack_16 (v : vSt) (o1 : Nat) (p1 : Int32) : Nat → Int32 → Int32 → Int32 → Int32 × Int32
  | 0, i2, i3, i4 => (i3, i4)
  | n + 1, i2, i3, i4 => if (((1 : Int32) <<< ((fX10_blocks o1 v) &&& 31)) : Int32) ≤ i2 then ((i3, i4)) else (let qy10 : Int32 × Int32 := (lL_stack_36 v o1 i2 (11) 0 0 0); let y10 := qy10.1; let y11 := qy10.2; let y20 : Int32 := (if (y10 : Int32) = p1 then (if (i4 : Int32) ≤ y11 then i3 else i2) else i3 : Int32); let y22 : Int32 := (if (y10 : Int32) = p1 then (if (i4 : Int32) ≤ y11 then i4 else y11) else i4 : Int32); lL_stack_16 v o1 p1 n (i2 + 1) y20 y22)
def olL_stack_16 (v : vSt) (o1 : Nat) (p1 : Int32) : Nat → Int32 → Int32 → Int32 → Prop
  | 0, _, _, _ => False
  | n + 1, i2, i3, i4 => (oX10_blocks o1 v) ∧ (¬ ((((1 : Int32) <<< ((fX10_blocks o1 v) &&& 31)) : Int32) ≤ i2) → (olL_stack_36 v o1 i2 (11) 0 0 0 ∧ (∀ (y10 : Int32) (y11 : Int32), y10 = ((lL_stack_36 v o1 i2 (11) 0 0 0) : Int32 × Int32).1 → y11 = ((lL_stack_36 v o1 i2 (11) 0 0 0) : Int32 × Int32).2 → ((∀ (y20 : Int32), y20 = ((if (y10 : Int32) = p1 then (if (i4 : Int32) ≤ y11 then i3 else i2) else i3 : Int32) : Int32) → ((∀ (y22 : Int32), y22 = ((if (y10 : Int32) = p1 then (if (i4 : Int32) ≤ y11 then i4 else y11) else i4 : Int32) : Int32) → (olL_stack_16 v o1 p1 n (i2 + 1) y20 y22))))))))
def lL_stack_145 (v : vSt) (o1 : Nat) (y5 : Int32) : Nat → Int32 → Int32 → Int32
  | 0, i30, i31 => i31
  | n + 1, i30, i31 => if ((fX10_blocks o1 v) : Int32) ≤ i30 then i31 else (if (y5 : Int32) = (-100104) then i31 else (let y35 : Int32 := (if (((y5 >>> (i30 &&& 31)) &&& (1 : Int32)) : Int32) = 1 then (((fX10_blockLength o1 i30 v).2) + ((fX10_blockError o1 i30 v).2)) else 0 : Int32); lL_stack_145 v o1 y5 n (i30 + 1) (i31 + y35)))
def olL_stack_145 (v : vSt) (o1 : Nat) (y5 : Int32) : Nat → Int32 → Int32 → Prop
  | 0, _, _ => False
  | n + 1, i30, i31 => (oX10_blocks o1 v) ∧ (¬ (((fX10_blocks o1 v) : Int32) ≤ i30) → (¬ ((y5 : Int32) = (-100104)) → ((((((y5 >>> (i30 &&& 31)) &&& (1 : Int32)) : Int32) = 1) → ((oX10_blockLength o1 i30 v) ∧ (((fX10_blockLength o1 i30 v).1 = 0) ∧ ((oX10_blockError o1 i30 v) ∧ ((fX10_blockError o1 i30 v).1 = 0))))) ∧ (∀ (y35 : Int32), y35 = ((if (((y5 >>> (i30 &&& 31)) &&& (1 : Int32)) : Int32) = 1 then (((fX10_blockLength o1 i30 v).2) + ((fX10_blockError o1 i30 v).2)) else 0 : Int32) : Int32) → (olL_stack_145 v o1 y5 n (i30 + 1) (i31 + y35))))))
def oL_stack (o1 : Nat) (p1 : Int32) (v : vSt) : Prop := (oL_stackFor o1 p1 v) ∧ (olL_stack_16 v o1 p1 (1025) 1 (-100104) 6 ∧ (∀ (y5 : Int32) (y6 : Int32), y5 = ((lL_stack_16 v o1 p1 (1025) 1 (-100104) 6) : Int32 × Int32).1 → y6 = ((lL_stack_16 v o1 p1 (1025) 1 (-100104) 6) : Int32 × Int32).2 → (olL_stack_145 v o1 y5 (11) 0 ((y6 - (1 : Int32)) / (2 : Int32)) ∧ (∀ (y32 : Int32), y32 = ((lL_stack_145 v o1 y5 (11) 0 ((y6 - (1 : Int32)) / (2 : Int32))) : Int32) → ((((fL_stackFor o1 p1 v) : Int32) = y5) ∧ ((oL_fewestByTrying o1 p1 v) ∧ ((∀ (y47 : Int32), y47 = ((if (y5 : Int32) = (-100104) then ((-100104)) else y6 : Int32) : Int32) → ((((fL_fewestByTrying o1 p1 v) : Int32) = y47) ∧ ((oL_trueLength o1 p1 v) ∧ ((∀ (y51 : Int32), y51 = ((if (y5 : Int32) = (-100104) then ((-100104)) else y32 : Int32) : Int32) → ((((fL_trueLength o1 p1 v) : Int32) = y51))))))))))))))
abbrev rmL_stack : Room := { frames := 10, cells := 36, slots := 36, locals := 175 }
theorem dL_stack_0 : decode cL_stack 0 = .ok (.aload_n 0, 1) := by decide +kernel
theorem dL_stack_1 : decode cL_stack 1 = .ok (.iload_n 1, 1) := by decide +kernel
theorem dL_stack_2 : decode cL_stack 2 = .ok (.invokestatic 279, 3) := by decide +kernel
theorem dL_stack_5 : decode cL_stack 5 = .ok (.istore_n 2, 1) := by decide +kernel
theorem dL_stack_6 : decode cL_stack 6 = .ok (.bipush 6, 2) := by decide +kernel
theorem dL_stack_8 : decode cL_stack 8 = .ok (.istore_n 3, 1) := by decide +kernel
theorem dL_stack_9 : decode cL_stack 9 = .ok (.ldc 73, 2) := by decide +kernel
theorem dL_stack_11 : decode cL_stack 11 = .ok (.istore 4, 2) := by decide +kernel
theorem dL_stack_13 : decode cL_stack 13 = .ok (.iconst 1, 1) := by decide +kernel
theorem dL_stack_14 : decode cL_stack 14 = .ok (.istore 5, 2) := by decide +kernel
theorem dL_stack_16 : decode cL_stack 16 = .ok (.iload 5, 2) := by decide +kernel
theorem dL_stack_18 : decode cL_stack 18 = .ok (.iconst 1, 1) := by decide +kernel
theorem dL_stack_19 : decode cL_stack 19 = .ok (.aload_n 0, 1) := by decide +kernel
theorem dL_stack_20 : decode cL_stack 20 = .ok (.invokevirtual 233, 3) := by decide +kernel
theorem dL_stack_23 : decode cL_stack 23 = .ok (.ishl, 1) := by decide +kernel
theorem dL_stack_24 : decode cL_stack 24 = .ok (.if_icmp .ge 111, 3) := by decide +kernel
theorem dL_stack_27 : decode cL_stack 27 = .ok (.iconst 0, 1) := by decide +kernel
theorem dL_stack_28 : decode cL_stack 28 = .ok (.istore 6, 2) := by decide +kernel
theorem dL_stack_30 : decode cL_stack 30 = .ok (.iconst 0, 1) := by decide +kernel
theorem dL_stack_31 : decode cL_stack 31 = .ok (.istore 7, 2) := by decide +kernel
theorem dL_stack_33 : decode cL_stack 33 = .ok (.iconst 0, 1) := by decide +kernel
theorem dL_stack_34 : decode cL_stack 34 = .ok (.istore 8, 2) := by decide +kernel
theorem dL_stack_36 : decode cL_stack 36 = .ok (.iload 8, 2) := by decide +kernel
theorem dL_stack_38 : decode cL_stack 38 = .ok (.aload_n 0, 1) := by decide +kernel
theorem dL_stack_39 : decode cL_stack 39 = .ok (.invokevirtual 233, 3) := by decide +kernel
theorem dL_stack_42 : decode cL_stack 42 = .ok (.if_icmp .ge 47, 3) := by decide +kernel
theorem dL_stack_45 : decode cL_stack 45 = .ok (.iload 6, 2) := by decide +kernel
theorem dL_stack_47 : decode cL_stack 47 = .ok (.iload 5, 2) := by decide +kernel
theorem dL_stack_49 : decode cL_stack 49 = .ok (.iload 8, 2) := by decide +kernel
theorem dL_stack_51 : decode cL_stack 51 = .ok (.ishr, 1) := by decide +kernel
theorem dL_stack_52 : decode cL_stack 52 = .ok (.iconst 1, 1) := by decide +kernel
theorem dL_stack_53 : decode cL_stack 53 = .ok (.iand, 1) := by decide +kernel
theorem dL_stack_54 : decode cL_stack 54 = .ok (.iadd, 1) := by decide +kernel
theorem dL_stack_55 : decode cL_stack 55 = .ok (.istore 6, 2) := by decide +kernel
theorem dL_stack_57 : decode cL_stack 57 = .ok (.iload 7, 2) := by decide +kernel
theorem dL_stack_59 : decode cL_stack 59 = .ok (.iload 5, 2) := by decide +kernel
theorem dL_stack_61 : decode cL_stack 61 = .ok (.iload 8, 2) := by decide +kernel
theorem dL_stack_63 : decode cL_stack 63 = .ok (.ishr, 1) := by decide +kernel
theorem dL_stack_64 : decode cL_stack 64 = .ok (.iconst 1, 1) := by decide +kernel
theorem dL_stack_65 : decode cL_stack 65 = .ok (.iand, 1) := by decide +kernel
theorem dL_stack_66 : decode cL_stack 66 = .ok (.iconst 1, 1) := by decide +kernel
theorem dL_stack_67 : decode cL_stack 67 = .ok (.if_icmp .ne 12, 3) := by decide +kernel
theorem dL_stack_70 : decode cL_stack 70 = .ok (.aload_n 0, 1) := by decide +kernel
theorem dL_stack_71 : decode cL_stack 71 = .ok (.iload 8, 2) := by decide +kernel
theorem dL_stack_73 : decode cL_stack 73 = .ok (.invokevirtual 155, 3) := by decide +kernel
theorem dL_stack_76 : decode cL_stack 76 = .ok (.goto 4, 3) := by decide +kernel
theorem dL_stack_79 : decode cL_stack 79 = .ok (.iconst 0, 1) := by decide +kernel
theorem dL_stack_80 : decode cL_stack 80 = .ok (.iadd, 1) := by decide +kernel
theorem dL_stack_81 : decode cL_stack 81 = .ok (.istore 7, 2) := by decide +kernel
theorem dL_stack_83 : decode cL_stack 83 = .ok (.iinc 8 1, 3) := by decide +kernel
theorem dL_stack_86 : decode cL_stack 86 = .ok (.goto (-50), 3) := by decide +kernel
theorem dL_stack_89 : decode cL_stack 89 = .ok (.iload 7, 2) := by decide +kernel
theorem dL_stack_91 : decode cL_stack 91 = .ok (.iload_n 1, 1) := by decide +kernel
theorem dL_stack_92 : decode cL_stack 92 = .ok (.if_icmp .ne 14, 3) := by decide +kernel
theorem dL_stack_95 : decode cL_stack 95 = .ok (.iload 6, 2) := by decide +kernel
theorem dL_stack_97 : decode cL_stack 97 = .ok (.iload_n 3, 1) := by decide +kernel
theorem dL_stack_98 : decode cL_stack 98 = .ok (.if_icmp .ge 8, 3) := by decide +kernel
theorem dL_stack_101 : decode cL_stack 101 = .ok (.iload 5, 2) := by decide +kernel
theorem dL_stack_103 : decode cL_stack 103 = .ok (.goto 5, 3) := by decide +kernel
theorem dL_stack_106 : decode cL_stack 106 = .ok (.iload 4, 2) := by decide +kernel
theorem dL_stack_108 : decode cL_stack 108 = .ok (.istore 4, 2) := by decide +kernel
theorem dL_stack_110 : decode cL_stack 110 = .ok (.iload 7, 2) := by decide +kernel
theorem dL_stack_112 : decode cL_stack 112 = .ok (.iload_n 1, 1) := by decide +kernel
theorem dL_stack_113 : decode cL_stack 113 = .ok (.if_icmp .ne 14, 3) := by decide +kernel
theorem dL_stack_116 : decode cL_stack 116 = .ok (.iload 6, 2) := by decide +kernel
theorem dL_stack_118 : decode cL_stack 118 = .ok (.iload_n 3, 1) := by decide +kernel
theorem dL_stack_119 : decode cL_stack 119 = .ok (.if_icmp .ge 8, 3) := by decide +kernel
theorem dL_stack_122 : decode cL_stack 122 = .ok (.iload 6, 2) := by decide +kernel
theorem dL_stack_124 : decode cL_stack 124 = .ok (.goto 4, 3) := by decide +kernel
theorem dL_stack_127 : decode cL_stack 127 = .ok (.iload_n 3, 1) := by decide +kernel
theorem dL_stack_128 : decode cL_stack 128 = .ok (.istore_n 3, 1) := by decide +kernel
theorem dL_stack_129 : decode cL_stack 129 = .ok (.iinc 5 1, 3) := by decide +kernel
theorem dL_stack_132 : decode cL_stack 132 = .ok (.goto (-116), 3) := by decide +kernel
theorem dL_stack_135 : decode cL_stack 135 = .ok (.iload_n 3, 1) := by decide +kernel
theorem dL_stack_136 : decode cL_stack 136 = .ok (.iconst 1, 1) := by decide +kernel
theorem dL_stack_137 : decode cL_stack 137 = .ok (.isub, 1) := by decide +kernel
theorem dL_stack_138 : decode cL_stack 138 = .ok (.iconst 2, 1) := by decide +kernel
theorem dL_stack_139 : decode cL_stack 139 = .ok (.idiv, 1) := by decide +kernel
theorem dL_stack_140 : decode cL_stack 140 = .ok (.istore 5, 2) := by decide +kernel
theorem dL_stack_142 : decode cL_stack 142 = .ok (.iconst 0, 1) := by decide +kernel
theorem dL_stack_143 : decode cL_stack 143 = .ok (.istore 6, 2) := by decide +kernel
theorem dL_stack_145 : decode cL_stack 145 = .ok (.iload 6, 2) := by decide +kernel
theorem dL_stack_147 : decode cL_stack 147 = .ok (.aload_n 0, 1) := by decide +kernel
theorem dL_stack_148 : decode cL_stack 148 = .ok (.invokevirtual 233, 3) := by decide +kernel
theorem dL_stack_151 : decode cL_stack 151 = .ok (.if_icmp .ge 49, 3) := by decide +kernel
theorem dL_stack_154 : decode cL_stack 154 = .ok (.iload 4, 2) := by decide +kernel
theorem dL_stack_156 : decode cL_stack 156 = .ok (.ldc 73, 2) := by decide +kernel
theorem dL_stack_158 : decode cL_stack 158 = .ok (.if_icmp .eq 42, 3) := by decide +kernel
theorem dL_stack_161 : decode cL_stack 161 = .ok (.iload 5, 2) := by decide +kernel
theorem dL_stack_163 : decode cL_stack 163 = .ok (.iload 4, 2) := by decide +kernel
theorem dL_stack_165 : decode cL_stack 165 = .ok (.iload 6, 2) := by decide +kernel
theorem dL_stack_167 : decode cL_stack 167 = .ok (.ishr, 1) := by decide +kernel
theorem dL_stack_168 : decode cL_stack 168 = .ok (.iconst 1, 1) := by decide +kernel
theorem dL_stack_169 : decode cL_stack 169 = .ok (.iand, 1) := by decide +kernel
theorem dL_stack_170 : decode cL_stack 170 = .ok (.iconst 1, 1) := by decide +kernel
theorem dL_stack_171 : decode cL_stack 171 = .ok (.if_icmp .ne 19, 3) := by decide +kernel
theorem dL_stack_174 : decode cL_stack 174 = .ok (.aload_n 0, 1) := by decide +kernel
theorem dL_stack_175 : decode cL_stack 175 = .ok (.iload 6, 2) := by decide +kernel
theorem dL_stack_177 : decode cL_stack 177 = .ok (.invokevirtual 155, 3) := by decide +kernel
theorem dL_stack_180 : decode cL_stack 180 = .ok (.aload_n 0, 1) := by decide +kernel
theorem dL_stack_181 : decode cL_stack 181 = .ok (.iload 6, 2) := by decide +kernel
theorem dL_stack_183 : decode cL_stack 183 = .ok (.invokevirtual 158, 3) := by decide +kernel
theorem dL_stack_186 : decode cL_stack 186 = .ok (.iadd, 1) := by decide +kernel
theorem dL_stack_187 : decode cL_stack 187 = .ok (.goto 4, 3) := by decide +kernel
theorem dL_stack_190 : decode cL_stack 190 = .ok (.iconst 0, 1) := by decide +kernel
theorem dL_stack_191 : decode cL_stack 191 = .ok (.iadd, 1) := by decide +kernel
theorem dL_stack_192 : decode cL_stack 192 = .ok (.istore 5, 2) := by decide +kernel
theorem dL_stack_194 : decode cL_stack 194 = .ok (.iinc 6 1, 3) := by decide +kernel
theorem dL_stack_197 : decode cL_stack 197 = .ok (.goto (-52), 3) := by decide +kernel
theorem dL_stack_200 : decode cL_stack 200 = .ok (.iload_n 2, 1) := by decide +kernel
theorem dL_stack_201 : decode cL_stack 201 = .ok (.iload 4, 2) := by decide +kernel
theorem dL_stack_203 : decode cL_stack 203 = .ok (.if_icmp .ne 50, 3) := by decide +kernel
theorem dL_stack_206 : decode cL_stack 206 = .ok (.aload_n 0, 1) := by decide +kernel
theorem dL_stack_207 : decode cL_stack 207 = .ok (.iload_n 1, 1) := by decide +kernel
theorem dL_stack_208 : decode cL_stack 208 = .ok (.invokestatic 281, 3) := by decide +kernel
theorem dL_stack_211 : decode cL_stack 211 = .ok (.iload 4, 2) := by decide +kernel
theorem dL_stack_213 : decode cL_stack 213 = .ok (.ldc 73, 2) := by decide +kernel
theorem dL_stack_215 : decode cL_stack 215 = .ok (.if_icmp .ne 8, 3) := by decide +kernel
theorem dL_stack_218 : decode cL_stack 218 = .ok (.ldc 73, 2) := by decide +kernel
theorem dL_stack_220 : decode cL_stack 220 = .ok (.goto 4, 3) := by decide +kernel
theorem dL_stack_223 : decode cL_stack 223 = .ok (.iload_n 3, 1) := by decide +kernel
theorem dL_stack_224 : decode cL_stack 224 = .ok (.if_icmp .ne 29, 3) := by decide +kernel
theorem dL_stack_227 : decode cL_stack 227 = .ok (.aload_n 0, 1) := by decide +kernel
theorem dL_stack_228 : decode cL_stack 228 = .ok (.iload_n 1, 1) := by decide +kernel
theorem dL_stack_229 : decode cL_stack 229 = .ok (.invokestatic 283, 3) := by decide +kernel
theorem dL_stack_232 : decode cL_stack 232 = .ok (.iload 4, 2) := by decide +kernel
theorem dL_stack_234 : decode cL_stack 234 = .ok (.ldc 73, 2) := by decide +kernel
theorem dL_stack_236 : decode cL_stack 236 = .ok (.if_icmp .ne 8, 3) := by decide +kernel
theorem dL_stack_239 : decode cL_stack 239 = .ok (.ldc 73, 2) := by decide +kernel
theorem dL_stack_241 : decode cL_stack 241 = .ok (.goto 5, 3) := by decide +kernel
theorem dL_stack_244 : decode cL_stack 244 = .ok (.iload 5, 2) := by decide +kernel
theorem dL_stack_246 : decode cL_stack 246 = .ok (.if_icmp .ne 7, 3) := by decide +kernel
theorem dL_stack_249 : decode cL_stack 249 = .ok (.iconst 1, 1) := by decide +kernel
theorem dL_stack_250 : decode cL_stack 250 = .ok (.goto 4, 3) := by decide +kernel
theorem dL_stack_254 : decode cL_stack 254 = .ok (.ireturn, 1) := by decide +kernel
set_option maxHeartbeats 8000000 in
set_option maxRecDepth 100000 in
theorem mL_stack (l : Launch) (hst : l.stackTraces = false) (G : gG) (da : Nat → Nat) (v : vSt) (x : gX) (o1 : Nat) (hk_o1 : kd o1 = 10) (p1 : Int32) (ho : oL_stack o1 p1 v) : NI l yL_stack cL_stack 9 .boolean rmL_stack [.ref (ga G o1), .int p1] G da v x 36 36 1 v := by
  refine gofNI (by decide) rfl (Nat.le_of_ble_eq_true rfl) (fun p e s m args below meth c ls Q X hN hH hl E => ?_)
  have hx := X.1
  have hb := X.2.1
  have hown := X.2.2.2.1
  have hts := X.2.2.2.2.1
  have hS : va_S (gA G) s.heap s.heap [] := va_S.rf
  unfold oL_stack at ho
  have hl : lv_has ls 9 [(0, .ref (ga G o1)), (1, .int p1)] := hl
  refine lv_aload_n hx hb dL_stack_0 rfl (lv_at hl 0 rfl) ?_
  refine lv_iload_n hx hb dL_stack_1 rfl (lv_at hl 1 rfl) ?_
  have hq1 := ho.1
  have ho := ho.2
  refine k_L_stackFor hst X hS hN hH hk_o1 hq1 t_ml_VernierDrawersLaw_279 hl.1 (Nat.le_of_ble_eq_true rfl) ⟨Nat.le_of_ble_eq_true rfl, Nat.le_of_ble_eq_true rfl⟩ ⟨(Nat.le_of_ble_eq_true rfl), (Nat.le_of_ble_eq_true rfl)⟩ dL_stack_2 (fun da H locs hH hS => ?_)
  refine W.widen (k := 12) (n := 12) (Nat.le_refl _) (Nat.le_refl _) ?_
  refine lv_istore_n (lv' := [(2, .int (fL_stackFor o1 p1 v)), (0, .ref (ga G o1)), (1, .int p1)]) hx hb dL_stack_5 rfl hl (by decide) rfl (fun ls hl => ?_)
  refine lv_bipush (v := 6) hx hb dL_stack_6 (by decide) ?_
  refine lv_istore_n (lv' := [(3, .int 6), (2, .int (fL_stackFor o1 p1 v)), (0, .ref (ga G o1)), (1, .int p1)]) hx hb dL_stack_8 rfl hl (by decide) rfl (fun ls hl => ?_)
  refine lv_ldc (v := (-100104)) hx hb hown (hts _ t_con_VernierDrawersLaw_73) dL_stack_9 ?_
  refine lv_istore (lv' := [(4, .int (-100104)), (3, .int 6), (2, .int (fL_stackFor o1 p1 v)), (0, .ref (ga G o1)), (1, .int p1)]) hx hb dL_stack_11 hl (by decide) rfl (fun ls hl => ?_)
  refine lv_iconst (v := 1) hx hb dL_stack_13 (by decide) ?_
  refine lv_istore (lv' := [(5, .int 1), (4, .int (-100104)), (3, .int 6), (2, .int (fL_stackFor o1 p1 v)), (0, .ref (ga G o1)), (1, .int p1)]) hx hb dL_stack_14 hl (by decide) rfl (fun ls hl => ?_)
  have L7 : ∀ (n : Nat) (i2 : Int32) (i3 : Int32) (i4 : Int32) (ls : Array Slot), olL_stack_16 v o1 p1 n i2 i3 i4 → lv_has ls 9 [(5, .int i2), (4, .int i3), (3, .int i4), (2, .int (fL_stackFor o1 p1 v)), (0, .ref (ga G o1)), (1, .int p1)] → (∀ (y5 : Int32) (y6 : Int32) (ls : Array Slot), y5 = (lL_stack_16 v o1 p1 n i2 i3 i4 : Int32 × Int32).1 → y6 = (lL_stack_16 v o1 p1 n i2 i3 i4 : Int32 × Int32).2 → lv_has ls 9 [(4, .int y5), (3, .int y6), (2, .int (fL_stackFor o1 p1 v)), (0, .ref (ga G o1)), (1, .int p1)] → W p l e rmL_stack s m args below meth c H locs 12 12 Q (F0 m 135 ls [])) → W p l e rmL_stack s m args below meth c H locs 12 12 Q (F0 m 16 ls []) := by
    clear ho
    intro n
    induction n with
    | zero =>
      intro i2 i3 i4 ls ho
      exact ho.elim
    | succ n ih =>
      intro i2 i3 i4 ls ho hl K8
      refine lv_iload hx hb dL_stack_16 (lv_at hl 0 rfl) ?_
      refine lv_iconst (v := 1) hx hb dL_stack_18 (by decide) ?_
      refine lv_aload_n hx hb dL_stack_19 rfl (lv_at hl 4 rfl) ?_
      have hq10 := ho.1
      have ho := ho.2
      refine k_X10_blocks X hS hH hk_o1 hq10 t_ml_VernierDrawersLaw_233 hl.1 (Nat.le_of_ble_eq_true rfl) ⟨Nat.le_of_ble_eq_true rfl, Nat.le_of_ble_eq_true rfl⟩ ⟨(Nat.le_of_ble_eq_true rfl), (Nat.le_of_ble_eq_true rfl)⟩ dL_stack_20 ?_
      refine lv_ishl hx hb dL_stack_23 ?_
      refine lv_icmp_ge (tgt := 135) hx hb dL_stack_24 (by decide) (fun c11 => ?_) (fun c11 => ?_)
      · skip
        have hoz := ho
        have hlz := hl
        exact K8 _ _ _ (pr1 (((lL_stack_16.eq_2 _ _ _ _ _ _ _)).trans ((if_pos c11).trans rfl))) (pr2 (((lL_stack_16.eq_2 _ _ _ _ _ _ _)).trans ((if_pos c11).trans rfl))) (lv_sub hlz [1, 2, 3, 4, 5] rfl)
      · have ho := ho c11
        refine lv_iconst (v := 0) hx hb dL_stack_27 (by decide) ?_
        refine lv_istore (lv' := [(6, .int 0), (5, .int i2), (4, .int i3), (3, .int i4), (2, .int (fL_stackFor o1 p1 v)), (0, .ref (ga G o1)), (1, .int p1)]) hx hb dL_stack_28 hl (by decide) rfl (fun ls hl => ?_)
        refine lv_iconst (v := 0) hx hb dL_stack_30 (by decide) ?_
        refine lv_istore (lv' := [(7, .int 0), (6, .int 0), (5, .int i2), (4, .int i3), (3, .int i4), (2, .int (fL_stackFor o1 p1 v)), (0, .ref (ga G o1)), (1, .int p1)]) hx hb dL_stack_31 hl (by decide) rfl (fun ls hl => ?_)
        refine lv_iconst (v := 0) hx hb dL_stack_33 (by decide) ?_
        refine lv_istore (lv' := [(8, .int 0), (7, .int 0), (6, .int 0), (5, .int i2), (4, .int i3), (3, .int i4), (2, .int (fL_stackFor o1 p1 v)), (0, .ref (ga G o1)), (1, .int p1)]) hx hb dL_stack_34 hl (by decide) rfl (fun ls hl => ?_)
        have L17 : ∀ (n : Nat) (i12 : Int32) (i13 : Int32) (i14 : Int32) (ls : Array Slot), olL_stack_36 v o1 i2 n i12 i13 i14 → lv_has ls 9 [(8, .int i12), (7, .int i13), (6, .int i14), (5, .int i2), (4, .int i3), (3, .int i4), (2, .int (fL_stackFor o1 p1 v)), (0, .ref (ga G o1)), (1, .int p1)] → (∀ (y15 : Int32) (y16 : Int32) (ls : Array Slot), y15 = (lL_stack_36 v o1 i2 n i12 i13 i14 : Int32 × Int32).1 → y16 = (lL_stack_36 v o1 i2 n i12 i13 i14 : Int32 × Int32).2 → lv_has ls 9 [(7, .int y15), (6, .int y16), (5, .int i2), (4, .int i3), (3, .int i4), (2, .int (fL_stackFor o1 p1 v)), (0, .ref (ga G o1)), (1, .int p1)] → W p l e rmL_stack s m args below meth c H locs 12 12 Q (F0 m 89 ls [])) → W p l e rmL_stack s m args below meth c H locs 12 12 Q (F0 m 36 ls []) := by
          clear ho
          intro n
          induction n with
          | zero =>
            intro i12 i13 i14 ls ho
            exact ho.elim
          | succ n ih =>
            intro i12 i13 i14 ls ho hl K18
            refine lv_iload hx hb dL_stack_36 (lv_at hl 0 rfl) ?_
            refine lv_aload_n hx hb dL_stack_38 rfl (lv_at hl 7 rfl) ?_
            refine k_X10_blocks X hS hH hk_o1 hq10 t_ml_VernierDrawersLaw_233 hl.1 (Nat.le_of_ble_eq_true rfl) ⟨Nat.le_of_ble_eq_true rfl, Nat.le_of_ble_eq_true rfl⟩ ⟨(Nat.le_of_ble_eq_true rfl), (Nat.le_of_ble_eq_true rfl)⟩ dL_stack_39 ?_
            refine lv_icmp_ge (tgt := 89) hx hb dL_stack_42 (by decide) (fun c20 => ?_) (fun c20 => ?_)
            · skip
              have hoz := ho
              have hlz := hl
              exact K18 _ _ _ (pr1 (((lL_stack_36.eq_2 _ _ _ _ _ _ _)).trans ((if_pos c20).trans rfl))) (pr2 (((lL_stack_36.eq_2 _ _ _ _ _ _ _)).trans ((if_pos c20).trans rfl))) (lv_sub hlz [1, 2, 3, 4, 5, 6, 7, 8] rfl)
            · have ho := ho c20
              refine lv_iload hx hb dL_stack_45 (lv_at hl 2 rfl) ?_
              refine lv_iload hx hb dL_stack_47 (lv_at hl 3 rfl) ?_
              refine lv_iload hx hb dL_stack_49 (lv_at hl 0 rfl) ?_
              refine lv_ishr hx hb dL_stack_51 ?_
              refine lv_iconst (v := 1) hx hb dL_stack_52 (by decide) ?_
              refine lv_iand hx hb dL_stack_53 ?_
              refine lv_iadd hx hb dL_stack_54 ?_
              refine lv_istore (lv' := [(6, .int (i14 + ((i2 >>> (i12 &&& 31)) &&& (1 : Int32)))), (8, .int i12), (7, .int i13), (5, .int i2), (4, .int i3), (3, .int i4), (2, .int (fL_stackFor o1 p1 v)), (0, .ref (ga G o1)), (1, .int p1)]) hx hb dL_stack_55 hl (by decide) rfl (fun ls hl => ?_)
              refine lv_iload hx hb dL_stack_57 (lv_at hl 2 rfl) ?_
              refine lv_iload hx hb dL_stack_59 (lv_at hl 3 rfl) ?_
              refine lv_iload hx hb dL_stack_61 (lv_at hl 1 rfl) ?_
              refine lv_ishr hx hb dL_stack_63 ?_
              refine lv_iconst (v := 1) hx hb dL_stack_64 (by decide) ?_
              refine lv_iand hx hb dL_stack_65 ?_
              refine lv_iconst (v := 1) hx hb dL_stack_66 (by decide) ?_
              have K22 : ∀ (y21 : Int32) (ls : Array Slot), y21 = (if (((i2 >>> (i12 &&& 31)) &&& (1 : Int32)) : Int32) = 1 then ((fX10_blockLength o1 i12 v).2) else 0 : Int32) → lv_has ls 9 [(6, .int (i14 + ((i2 >>> (i12 &&& 31)) &&& (1 : Int32)))), (8, .int i12), (5, .int i2), (4, .int i3), (3, .int i4), (2, .int (fL_stackFor o1 p1 v)), (0, .ref (ga G o1)), (1, .int p1)] → W p l e rmL_stack s m args below meth c H locs 12 12 Q (F0 m 80 ls [.int y21, .int i13]) := by
                intro y21 ls ey21 hl
                have ho := ho.2 y21 ey21
                refine lv_iadd hx hb dL_stack_80 ?_
                refine lv_istore (lv' := [(7, .int (i13 + y21)), (6, .int (i14 + ((i2 >>> (i12 &&& 31)) &&& (1 : Int32)))), (8, .int i12), (5, .int i2), (4, .int i3), (3, .int i4), (2, .int (fL_stackFor o1 p1 v)), (0, .ref (ga G o1)), (1, .int p1)]) hx hb dL_stack_81 hl (by decide) rfl (fun ls hl => ?_)
                refine lv_iinc (v := i12 + 1) (lv' := [(8, .int (i12 + 1)), (7, .int (i13 + y21)), (6, .int (i14 + ((i2 >>> (i12 &&& 31)) &&& (1 : Int32)))), (5, .int i2), (4, .int i3), (3, .int i4), (2, .int (fL_stackFor o1 p1 v)), (0, .ref (ga G o1)), (1, .int p1)]) hx hb dL_stack_83 hl (k := 2) rfl rfl (by decide) rfl (fun ls hl => ?_)
                refine lv_goto (tgt := 36) hx hb dL_stack_86 (by decide) ?_
                have hoz := ho
                have hlz := hl
                replace ey21 := Eq.symm ey21
                subst ey21
                exact ih _ _ _ _ hoz (lv_sub hlz [0, 1, 2, 3, 4, 5, 6, 7, 8] rfl) (fun y15 y16 ls q0 q1 hl => K18 y15 y16 ls (q0.trans (congrArg (fun z : Int32 × Int32 => z.1) (Eq.symm (((lL_stack_36.eq_2 _ _ _ _ _ _ _)).trans ((if_neg c20).trans rfl))))) (q1.trans (congrArg (fun z : Int32 × Int32 => z.2) (Eq.symm (((lL_stack_36.eq_2 _ _ _ _ _ _ _)).trans ((if_neg c20).trans rfl))))) hl)
              have ho := ho.1
              refine lv_icmp_ne (tgt := 79) hx hb dL_stack_67 (by decide) (fun c22 => ?_) (fun c22 => ?_)
              · skip
                refine lv_iconst (v := 0) hx hb dL_stack_79 (by decide) ?_
                have hlz := hl
                exact K22 _ _ (Eq.symm ((if_neg c22).trans rfl)) (lv_sub hlz [0, 1, 3, 4, 5, 6, 7, 8] rfl)
              · have ho := ho c22
                refine lv_aload_n hx hb dL_stack_70 rfl (lv_at hl 7 rfl) ?_
                refine lv_iload hx hb dL_stack_71 (lv_at hl 1 rfl) ?_
                have hq23 := ho.1
                have ho := ho.2
                have hq24 := ho
                refine kZ_X10_blockLength X hS hH hk_o1 hq23 hq24 t_ml_VernierDrawersLaw_155 hl.1 (Nat.le_of_ble_eq_true rfl) ⟨Nat.le_of_ble_eq_true rfl, Nat.le_of_ble_eq_true rfl⟩ ⟨(Nat.le_of_ble_eq_true rfl), (Nat.le_of_ble_eq_true rfl)⟩ dL_stack_73 ?_
                refine lv_goto (tgt := 80) hx hb dL_stack_76 (by decide) ?_
                have hlz := hl
                exact K22 _ _ (Eq.symm ((if_pos c22).trans rfl)) (lv_sub hlz [0, 1, 3, 4, 5, 6, 7, 8] rfl)
        have hol := ho.1
        refine L17 (11) 0 0 0 _ hol (lv_sub hl [0, 1, 2, 3, 4, 5, 6, 7, 8] rfl) (fun y15 y16 ls ey15 ey16 hl => ?_)
        have ho := ho.2 y15 y16 ey15 ey16
        refine lv_iload hx hb dL_stack_89 (lv_at hl 0 rfl) ?_
        refine lv_iload_n hx hb dL_stack_91 rfl (lv_at hl 7 rfl) ?_
        have K26 : ∀ (y25 : Int32) (ls : Array Slot), y25 = (if (y15 : Int32) = p1 then (if (i4 : Int32) ≤ y16 then i3 else i2) else i3 : Int32) → lv_has ls 9 [(7, .int y15), (6, .int y16), (5, .int i2), (3, .int i4), (2, .int (fL_stackFor o1 p1 v)), (0, .ref (ga G o1)), (1, .int p1)] → W p l e rmL_stack s m args below meth c H locs 12 12 Q (F0 m 108 ls [.int y25]) := by
          intro y25 ls ey25 hl
          have ho := ho y25 ey25
          refine lv_istore (lv' := [(4, .int y25), (7, .int y15), (6, .int y16), (5, .int i2), (3, .int i4), (2, .int (fL_stackFor o1 p1 v)), (0, .ref (ga G o1)), (1, .int p1)]) hx hb dL_stack_108 hl (by decide) rfl (fun ls hl => ?_)
          refine lv_iload hx hb dL_stack_110 (lv_at hl 1 rfl) ?_
          refine lv_iload_n hx hb dL_stack_112 rfl (lv_at hl 7 rfl) ?_
          have K28 : ∀ (y27 : Int32) (ls : Array Slot), y27 = (if (y15 : Int32) = p1 then (if (i4 : Int32) ≤ y16 then i4 else y16) else i4 : Int32) → lv_has ls 9 [(4, .int y25), (5, .int i2), (2, .int (fL_stackFor o1 p1 v)), (0, .ref (ga G o1)), (1, .int p1)] → W p l e rmL_stack s m args below meth c H locs 12 12 Q (F0 m 128 ls [.int y27]) := by
            intro y27 ls ey27 hl
            have ho := ho y27 ey27
            refine lv_istore_n (lv' := [(3, .int y27), (4, .int y25), (5, .int i2), (2, .int (fL_stackFor o1 p1 v)), (0, .ref (ga G o1)), (1, .int p1)]) hx hb dL_stack_128 rfl hl (by decide) rfl (fun ls hl => ?_)
            refine lv_iinc (v := i2 + 1) (lv' := [(5, .int (i2 + 1)), (3, .int y27), (4, .int y25), (2, .int (fL_stackFor o1 p1 v)), (0, .ref (ga G o1)), (1, .int p1)]) hx hb dL_stack_129 hl (k := 2) rfl rfl (by decide) rfl (fun ls hl => ?_)
            refine lv_goto (tgt := 16) hx hb dL_stack_132 (by decide) ?_
            have hoz := ho
            have hlz := hl
            replace ey15 := Eq.symm ey15
            replace ey16 := Eq.symm ey16
            replace ey25 := Eq.symm ey25
            replace ey27 := Eq.symm ey27
            subst ey15 ey16 ey25 ey27
            exact ih _ _ _ _ hoz (lv_sub hlz [0, 2, 1, 3, 4, 5] rfl) (fun y5 y6 ls q0 q1 hl => K8 y5 y6 ls (q0.trans (congrArg (fun z : Int32 × Int32 => z.1) (Eq.symm (((lL_stack_16.eq_2 _ _ _ _ _ _ _)).trans ((if_neg c11).trans rfl))))) (q1.trans (congrArg (fun z : Int32 × Int32 => z.2) (Eq.symm (((lL_stack_16.eq_2 _ _ _ _ _ _ _)).trans ((if_neg c11).trans rfl))))) hl)
          refine lv_icmp_ne (tgt := 127) hx hb dL_stack_113 (by decide) (fun c28 => ?_) (fun c28 => ?_)
          · skip
            refine lv_iload_n hx hb dL_stack_127 rfl (lv_at hl 4 rfl) ?_
            have hlz := hl
            exact K28 _ _ (Eq.symm ((if_neg c28).trans rfl)) (lv_sub hlz [0, 3, 5, 6, 7] rfl)
          · skip
            refine lv_iload hx hb dL_stack_116 (lv_at hl 2 rfl) ?_
            refine lv_iload_n hx hb dL_stack_118 rfl (lv_at hl 4 rfl) ?_
            refine lv_icmp_ge (tgt := 127) hx hb dL_stack_119 (by decide) (fun c29 => ?_) (fun c29 => ?_)
            · skip
              refine lv_iload_n hx hb dL_stack_127 rfl (lv_at hl 4 rfl) ?_
              have hlz := hl
              exact K28 _ _ (Eq.symm ((if_pos c28).trans ((if_pos c29).trans rfl))) (lv_sub hlz [0, 3, 5, 6, 7] rfl)
            · skip
              refine lv_iload hx hb dL_stack_122 (lv_at hl 2 rfl) ?_
              refine lv_goto (tgt := 128) hx hb dL_stack_124 (by decide) ?_
              have hlz := hl
              exact K28 _ _ (Eq.symm ((if_pos c28).trans ((if_neg c29).trans rfl))) (lv_sub hlz [0, 3, 5, 6, 7] rfl)
        refine lv_icmp_ne (tgt := 106) hx hb dL_stack_92 (by decide) (fun c26 => ?_) (fun c26 => ?_)
        · skip
          refine lv_iload hx hb dL_stack_106 (lv_at hl 3 rfl) ?_
          have hlz := hl
          exact K26 _ _ (Eq.symm ((if_neg c26).trans rfl)) (lv_sub hlz [0, 1, 2, 4, 5, 6, 7] rfl)
        · skip
          refine lv_iload hx hb dL_stack_95 (lv_at hl 1 rfl) ?_
          refine lv_iload_n hx hb dL_stack_97 rfl (lv_at hl 4 rfl) ?_
          refine lv_icmp_ge (tgt := 106) hx hb dL_stack_98 (by decide) (fun c27 => ?_) (fun c27 => ?_)
          · skip
            refine lv_iload hx hb dL_stack_106 (lv_at hl 3 rfl) ?_
            have hlz := hl
            exact K26 _ _ (Eq.symm ((if_pos c26).trans ((if_pos c27).trans rfl))) (lv_sub hlz [0, 1, 2, 4, 5, 6, 7] rfl)
          · skip
            refine lv_iload hx hb dL_stack_101 (lv_at hl 2 rfl) ?_
            refine lv_goto (tgt := 108) hx hb dL_stack_103 (by decide) ?_
            have hlz := hl
            exact K26 _ _ (Eq.symm ((if_pos c26).trans ((if_neg c27).trans rfl))) (lv_sub hlz [0, 1, 2, 4, 5, 6, 7] rfl)
  have hol := ho.1
  refine L7 (1025) 1 (-100104) 6 _ hol (lv_sub hl [0, 1, 2, 3, 4, 5] rfl) (fun y5 y6 ls ey5 ey6 hl => ?_)
  have ho := ho.2 y5 y6 ey5 ey6
  refine lv_iload_n hx hb dL_stack_135 rfl (lv_at hl 1 rfl) ?_
  refine lv_iconst (v := 1) hx hb dL_stack_136 (by decide) ?_
  refine lv_isub hx hb dL_stack_137 ?_
  refine lv_iconst (v := 2) hx hb dL_stack_138 (by decide) ?_
  refine lv_idiv hx hb dL_stack_139 (by decide) ?_
  refine lv_istore (lv' := [(5, .int ((y6 - (1 : Int32)) / (2 : Int32))), (4, .int y5), (3, .int y6), (2, .int (fL_stackFor o1 p1 v)), (0, .ref (ga G o1)), (1, .int p1)]) hx hb dL_stack_140 hl (by decide) rfl (fun ls hl => ?_)
  refine lv_iconst (v := 0) hx hb dL_stack_142 (by decide) ?_
  refine lv_istore (lv' := [(6, .int 0), (5, .int ((y6 - (1 : Int32)) / (2 : Int32))), (4, .int y5), (3, .int y6), (2, .int (fL_stackFor o1 p1 v)), (0, .ref (ga G o1)), (1, .int p1)]) hx hb dL_stack_143 hl (by decide) rfl (fun ls hl => ?_)
  have L33 : ∀ (n : Nat) (i30 : Int32) (i31 : Int32) (ls : Array Slot), olL_stack_145 v o1 y5 n i30 i31 → lv_has ls 9 [(6, .int i30), (5, .int i31), (4, .int y5), (3, .int y6), (2, .int (fL_stackFor o1 p1 v)), (0, .ref (ga G o1)), (1, .int p1)] → (∀ (y32 : Int32) (ls : Array Slot), y32 = (lL_stack_145 v o1 y5 n i30 i31 : Int32) → lv_has ls 9 [(5, .int y32), (4, .int y5), (3, .int y6), (2, .int (fL_stackFor o1 p1 v)), (0, .ref (ga G o1)), (1, .int p1)] → W p l e rmL_stack s m args below meth c H locs 12 12 Q (F0 m 200 ls [])) → W p l e rmL_stack s m args below meth c H locs 12 12 Q (F0 m 145 ls []) := by
    clear ho
    intro n
    induction n with
    | zero =>
      intro i30 i31 ls ho
      exact ho.elim
    | succ n ih =>
      intro i30 i31 ls ho hl K34
      refine lv_iload hx hb dL_stack_145 (lv_at hl 0 rfl) ?_
      refine lv_aload_n hx hb dL_stack_147 rfl (lv_at hl 5 rfl) ?_
      have hq36 := ho.1
      have ho := ho.2
      refine k_X10_blocks X hS hH hk_o1 hq36 t_ml_VernierDrawersLaw_233 hl.1 (Nat.le_of_ble_eq_true rfl) ⟨Nat.le_of_ble_eq_true rfl, Nat.le_of_ble_eq_true rfl⟩ ⟨(Nat.le_of_ble_eq_true rfl), (Nat.le_of_ble_eq_true rfl)⟩ dL_stack_148 ?_
      refine lv_icmp_ge (tgt := 200) hx hb dL_stack_151 (by decide) (fun c37 => ?_) (fun c37 => ?_)
      · skip
        have hoz := ho
        have hlz := hl
        exact K34 _ _ (Eq.symm (((lL_stack_145.eq_2 _ _ _ _ _ _)).trans ((if_pos c37).trans rfl))) (lv_sub hlz [1, 2, 3, 4, 5, 6] rfl)
      · have ho := ho c37
        refine lv_iload hx hb dL_stack_154 (lv_at hl 2 rfl) ?_
        refine lv_ldc (v := (-100104)) hx hb hown (hts _ t_con_VernierDrawersLaw_73) dL_stack_156 ?_
        refine lv_icmp_eq (tgt := 200) hx hb dL_stack_158 (by decide) (fun c38 => ?_) (fun c38 => ?_)
        · skip
          have hoz := ho
          have hlz := hl
          exact K34 _ _ (Eq.symm (((lL_stack_145.eq_2 _ _ _ _ _ _)).trans ((if_neg c37).trans ((if_pos c38).trans rfl)))) (lv_sub hlz [1, 2, 3, 4, 5, 6] rfl)
        · have ho := ho c38
          refine lv_iload hx hb dL_stack_161 (lv_at hl 1 rfl) ?_
          refine lv_iload hx hb dL_stack_163 (lv_at hl 2 rfl) ?_
          refine lv_iload hx hb dL_stack_165 (lv_at hl 0 rfl) ?_
          refine lv_ishr hx hb dL_stack_167 ?_
          refine lv_iconst (v := 1) hx hb dL_stack_168 (by decide) ?_
          refine lv_iand hx hb dL_stack_169 ?_
          refine lv_iconst (v := 1) hx hb dL_stack_170 (by decide) ?_
          have K40 : ∀ (y39 : Int32) (ls : Array Slot), y39 = (if (((y5 >>> (i30 &&& 31)) &&& (1 : Int32)) : Int32) = 1 then (((fX10_blockLength o1 i30 v).2) + ((fX10_blockError o1 i30 v).2)) else 0 : Int32) → lv_has ls 9 [(6, .int i30), (4, .int y5), (3, .int y6), (2, .int (fL_stackFor o1 p1 v)), (0, .ref (ga G o1)), (1, .int p1)] → W p l e rmL_stack s m args below meth c H locs 12 12 Q (F0 m 191 ls [.int y39, .int i31]) := by
            intro y39 ls ey39 hl
            have ho := ho.2 y39 ey39
            refine lv_iadd hx hb dL_stack_191 ?_
            refine lv_istore (lv' := [(5, .int (i31 + y39)), (6, .int i30), (4, .int y5), (3, .int y6), (2, .int (fL_stackFor o1 p1 v)), (0, .ref (ga G o1)), (1, .int p1)]) hx hb dL_stack_192 hl (by decide) rfl (fun ls hl => ?_)
            refine lv_iinc (v := i30 + 1) (lv' := [(6, .int (i30 + 1)), (5, .int (i31 + y39)), (4, .int y5), (3, .int y6), (2, .int (fL_stackFor o1 p1 v)), (0, .ref (ga G o1)), (1, .int p1)]) hx hb dL_stack_194 hl (k := 1) rfl rfl (by decide) rfl (fun ls hl => ?_)
            refine lv_goto (tgt := 145) hx hb dL_stack_197 (by decide) ?_
            have hoz := ho
            have hlz := hl
            replace ey39 := Eq.symm ey39
            subst ey39
            exact ih _ _ _ hoz (lv_sub hlz [0, 1, 2, 3, 4, 5, 6] rfl) (fun y32 ls q0 hl => K34 y32 ls (q0.trans (congrArg (fun z : Int32 => z) (Eq.symm (((lL_stack_145.eq_2 _ _ _ _ _ _)).trans ((if_neg c37).trans ((if_neg c38).trans rfl)))))) hl)
          have ho := ho.1
          refine lv_icmp_ne (tgt := 190) hx hb dL_stack_171 (by decide) (fun c40 => ?_) (fun c40 => ?_)
          · skip
            refine lv_iconst (v := 0) hx hb dL_stack_190 (by decide) ?_
            have hlz := hl
            exact K40 _ _ (Eq.symm ((if_neg c40).trans rfl)) (lv_sub hlz [0, 2, 3, 4, 5, 6] rfl)
          · have ho := ho c40
            refine lv_aload_n hx hb dL_stack_174 rfl (lv_at hl 5 rfl) ?_
            refine lv_iload hx hb dL_stack_175 (lv_at hl 0 rfl) ?_
            have hq41 := ho.1
            have ho := ho.2
            have hq42 := ho.1
            have ho := ho.2
            refine kZ_X10_blockLength X hS hH hk_o1 hq41 hq42 t_ml_VernierDrawersLaw_155 hl.1 (Nat.le_of_ble_eq_true rfl) ⟨Nat.le_of_ble_eq_true rfl, Nat.le_of_ble_eq_true rfl⟩ ⟨(Nat.le_of_ble_eq_true rfl), (Nat.le_of_ble_eq_true rfl)⟩ dL_stack_177 ?_
            refine lv_aload_n hx hb dL_stack_180 rfl (lv_at hl 5 rfl) ?_
            refine lv_iload hx hb dL_stack_181 (lv_at hl 0 rfl) ?_
            have hq43 := ho.1
            have ho := ho.2
            have hq44 := ho
            refine kZ_X10_blockError X hS hH hk_o1 hq43 hq44 t_ml_VernierDrawersLaw_158 hl.1 (Nat.le_of_ble_eq_true rfl) ⟨Nat.le_of_ble_eq_true rfl, Nat.le_of_ble_eq_true rfl⟩ ⟨(Nat.le_of_ble_eq_true rfl), (Nat.le_of_ble_eq_true rfl)⟩ dL_stack_183 ?_
            refine lv_iadd hx hb dL_stack_186 ?_
            refine lv_goto (tgt := 191) hx hb dL_stack_187 (by decide) ?_
            have hlz := hl
            exact K40 _ _ (Eq.symm ((if_pos c40).trans rfl)) (lv_sub hlz [0, 2, 3, 4, 5, 6] rfl)
  have hol := ho.1
  refine L33 (11) 0 ((y6 - (1 : Int32)) / (2 : Int32)) _ hol (lv_sub hl [0, 1, 2, 3, 4, 5, 6] rfl) (fun y32 ls ey32 hl => ?_)
  have ho := ho.2 y32 ey32
  refine lv_iload_n hx hb dL_stack_200 rfl (lv_at hl 3 rfl) ?_
  refine lv_iload hx hb dL_stack_201 (lv_at hl 1 rfl) ?_
  refine lv_icmp_ne (tgt := 253) hx hb dL_stack_203 (by decide) (fun c45 => ?_) (fun c45 => ?_)
  · exact absurd ho.1 c45
  have ho := ho.2
  refine lv_aload_n hx hb dL_stack_206 rfl (lv_at hl 4 rfl) ?_
  refine lv_iload_n hx hb dL_stack_207 rfl (lv_at hl 5 rfl) ?_
  have hq46 := ho.1
  have ho := ho.2
  refine k_L_fewestByTrying hst X hS hN hH hk_o1 hq46 t_ml_VernierDrawersLaw_281 hl.1 (Nat.le_of_ble_eq_true rfl) ⟨Nat.le_of_ble_eq_true rfl, Nat.le_of_ble_eq_true rfl⟩ ⟨(Nat.le_of_ble_eq_true rfl), (Nat.le_of_ble_eq_true rfl)⟩ dL_stack_208 (fun da H locs hH hS => ?_)
  refine W.widen (k := 24) (n := 24) (Nat.le_refl _) (Nat.le_refl _) ?_
  refine lv_iload hx hb dL_stack_211 (lv_at hl 1 rfl) ?_
  refine lv_ldc (v := (-100104)) hx hb hown (hts _ t_con_VernierDrawersLaw_73) dL_stack_213 ?_
  have K48 : ∀ (y47 : Int32) (ls : Array Slot), y47 = (if (y5 : Int32) = (-100104) then ((-100104)) else y6 : Int32) → lv_has ls 9 [(5, .int y32), (4, .int y5), (0, .ref (ga G o1)), (1, .int p1)] → W p l e rmL_stack s m args below meth c H locs 24 24 Q (F0 m 224 ls [.int y47, .int (fL_fewestByTrying o1 p1 v)]) := by
    intro y47 ls ey47 hl
    have ho := ho y47 ey47
    refine lv_icmp_ne (tgt := 253) hx hb dL_stack_224 (by decide) (fun c49 => ?_) (fun c49 => ?_)
    · exact absurd ho.1 c49
    have ho := ho.2
    refine lv_aload_n hx hb dL_stack_227 rfl (lv_at hl 2 rfl) ?_
    refine lv_iload_n hx hb dL_stack_228 rfl (lv_at hl 3 rfl) ?_
    have hq50 := ho.1
    have ho := ho.2
    refine k_L_trueLength hst X hS hN hH hk_o1 hq50 t_ml_VernierDrawersLaw_283 hl.1 (Nat.le_of_ble_eq_true rfl) ⟨Nat.le_of_ble_eq_true rfl, Nat.le_of_ble_eq_true rfl⟩ ⟨(Nat.le_of_ble_eq_true rfl), (Nat.le_of_ble_eq_true rfl)⟩ dL_stack_229 (fun da H locs hH hS => ?_)
    refine W.widen (k := 36) (n := 36) (Nat.le_refl _) (Nat.le_refl _) ?_
    refine lv_iload hx hb dL_stack_232 (lv_at hl 1 rfl) ?_
    refine lv_ldc (v := (-100104)) hx hb hown (hts _ t_con_VernierDrawersLaw_73) dL_stack_234 ?_
    have K52 : ∀ (y51 : Int32) (ls : Array Slot), y51 = (if (y5 : Int32) = (-100104) then ((-100104)) else y32 : Int32) → lv_has ls 9 [] → W p l e rmL_stack s m args below meth c H locs 36 36 Q (F0 m 246 ls [.int y51, .int (fL_trueLength o1 p1 v)]) := by
      intro y51 ls ey51 hl
      have ho := ho y51 ey51
      refine lv_icmp_ne (tgt := 253) hx hb dL_stack_246 (by decide) (fun c53 => ?_) (fun c53 => ?_)
      · exact absurd ho c53
      refine lv_iconst (v := 1) hx hb dL_stack_249 (by decide) ?_
      refine lv_goto (tgt := 254) hx hb dL_stack_250 (by decide) ?_
      exact E _ _ _ _ _ _ _ _ _ dL_stack_254 rfl rfl rfl hH hS (Nat.le_of_ble_eq_true rfl) (Nat.le_of_ble_eq_true rfl)
    refine lv_icmp_ne (tgt := 244) hx hb dL_stack_236 (by decide) (fun c52 => ?_) (fun c52 => ?_)
    · skip
      refine lv_iload hx hb dL_stack_244 (lv_at hl 0 rfl) ?_
      have hlz := hl
      exact K52 _ _ (Eq.symm ((if_neg c52).trans rfl)) (lv_sub hlz [] rfl)
    · skip
      refine lv_ldc (v := (-100104)) hx hb hown (hts _ t_con_VernierDrawersLaw_73) dL_stack_239 ?_
      refine lv_goto (tgt := 246) hx hb dL_stack_241 (by decide) ?_
      have hlz := hl
      exact K52 _ _ (Eq.symm ((if_pos c52).trans rfl)) (lv_sub hlz [] rfl)
  refine lv_icmp_ne (tgt := 223) hx hb dL_stack_215 (by decide) (fun c48 => ?_) (fun c48 => ?_)
  · skip
    refine lv_iload_n hx hb dL_stack_223 rfl (lv_at hl 2 rfl) ?_
    have hlz := hl
    exact K48 _ _ (Eq.symm ((if_neg c48).trans rfl)) (lv_sub hlz [0, 1, 4, 5] rfl)
  · skip
    refine lv_ldc (v := (-100104)) hx hb hown (hts _ t_con_VernierDrawersLaw_73) dL_stack_218 ?_
    refine lv_goto (tgt := 224) hx hb dL_stack_220 (by decide) ?_
    have hlz := hl
    exact K48 _ _ (Eq.symm ((if_pos c48).trans rfl)) (lv_sub hlz [0, 1, 4, 5] rfl)
theorem k_L_stack {p : Program} {l : Launch} {e : Env} {R : Room} {s : State} {m : MethodId} {args : Array Value} {below : List Frame} {meth : Method} {c : Code} {H : Heap} {locs : List Loc} {cells slots : Nat} {Q : State → Prop} {cc : ByteArray} {pc nL : Nat} {ls : Array Slot} {rest : List Value} {G : gG} {own : String} {da : Nat → Nat} {v : vSt} {x : gX} (hst : l.stackTraces = false) (X : CX G p s m args c cc nL own) (hS : va_S (gA G) s.heap H locs) (hN : NC s) (hH : Hp G da v x H) {o1 : Nat} (hk_o1 : kd o1 = 10) {p1 : Int32} (ho : oL_stack o1 p1 v) {idx : Nat} (hml : Cond.methodLink own idx yL_stack ∈ TT) (hls : ls.size = nL) (hsum : (rest.map fun v => v.category).sum ≤ 8) (hR : rmL_stack.frames + 1 ≤ R.frames ∧ 8 + (9 + 11) + rmL_stack.locals ≤ R.locals) (hcs : cells + 36 ≤ R.cells ∧ slots + 36 ≤ R.slots) (hdg : decode cc pc = .ok (.invokestatic idx, 3)) (kk : ∀ (d : Nat → Nat) (H1 : Heap) (locs1 : List Loc), Hp G d v x H1 → va_S (gA G) s.heap H1 locs1 → W p l e R s m args below meth c H1 locs1 (cells + 36) (slots + 36) Q (F0 m (pc + 3) ls (.int 1 :: rest))) : W p l e R s m args below meth c H locs cells slots Q (F0 m pc ls (.int p1 :: .ref (ga G o1) :: rest)) := c_mi X.2.2.2.2.2.2 (runS (k := 2) X.1 X.2.1 X.2.2.1 X.2.2.2.1 X.2.2.2.2.1 (mL_stack l hst G da v x o1 hk_o1 p1 ho) pN_bl hml t_st_L_stack t_ini_VernierDrawersLaw t_code_L_stack ⟨by decide, by decide, by decide +kernel⟩ rfl rfl hR hcs (preN X hN hS hH) rfl hls rfl hsum hdg) hS (fun d9 H9 L9 v9 e9 hH9 => kk d9 H9 L9 (by subst e9; exact hH9))
