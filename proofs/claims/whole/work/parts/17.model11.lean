/-! 17.model -/
def fX11_goJudge (r : Nat) (p1 : Int32) (v : vSt) : Int32 × vSt := if ((fX11_isTool r p1 v) : Int32) = 0 then (((-100001), v)) else (if ((fX11_reasonNot r p1 v) : Int32) ≤ 0 then (let v10 : vSt := fX11_leavesBench r v; let v13 : vSt := fX11_uses r p1 (fX11_of r (fX11_firstType r v) 3 v10) v10; if ((fX11_judgement r p1 v) : Int32) = 3 then (let v36 : vSt := fX11_toBench r ((v 462 (183 : Int32).toNatClampNeg) + 1) v13; let v38 : vSt := u2 v36 462 (215 : Int32).toNatClampNeg ((v36 462 (215 : Int32).toNatClampNeg) + 1); (fX11_judgement r p1 v, v38)) else (let v15 : vSt := (if ((fX11_judgement r p1 v) : Int32) = 1 then (let v19 : vSt := u2 v13 462 (217 + (v13 462 (207 : Int32).toNatClampNeg) : Int32).toNatClampNeg (fX11_piece (fX11_firstType r v) (fX11_deviationOf (v 462 (183 : Int32).toNatClampNeg)) 0); let v20 : vSt := u2 v19 462 (207 : Int32).toNatClampNeg ((v19 462 (207 : Int32).toNatClampNeg) + 1); v20) else v13 : vSt); let y18 : Int32 := (if ((fX11_judgement r p1 v) : Int32) = 0 then 1 else 0 : Int32); let v20 : vSt := u2 v15 462 (212 : Int32).toNatClampNeg ((v15 462 (212 : Int32).toNatClampNeg) + y18); let y22 : Int32 := (if ((fX11_judgement r p1 v) : Int32) = 2 then 1 else 0 : Int32); let v24 : vSt := u2 v20 462 (213 : Int32).toNatClampNeg ((v20 462 (213 : Int32).toNatClampNeg) + y22); let v26 : vSt := u2 v24 462 (216 : Int32).toNatClampNeg ((v24 462 (216 : Int32).toNatClampNeg) + 1); let y27 : Int32 := (if ((fX11_judgement r p1 v) : Int32) ≤ 0 then 0 else 1 : Int32); let v30 : vSt := fX11_notes r (fX11_firstType r v) y27 v26; let v32 : vSt := fX11_charts r (fX11_firstType r v) (fX11_measured r p1 v) v30; let v34 : vSt := fX11_lays r (fX11_firstType r v) 7 0 v32; (fX11_judgement r p1 v, v34))) else (((-100002), v)))
def oX11_goJudge (r : Nat) (p1 : Int32) (v : vSt) : Prop := (oX11_isTool r p1 v) ∧ (¬ (((fX11_isTool r p1 v) : Int32) = 0) → ((oX11_reasonNot r p1 v) ∧ ((((fX11_reasonNot r p1 v) : Int32) ≤ 0) → ((oX11_firstType r v) ∧ ((oX11_measured r p1 v) ∧ ((oX11_judgement r p1 v) ∧ ((vp_in (183) (mlen 462)) ∧ ((oX11_leavesBench r v) ∧ (∀ v10 : vSt, v10 = (fX11_leavesBench r v) → ((oX11_of r (fX11_firstType r v) 3 v10) ∧ ((oX11_uses r p1 (fX11_of r (fX11_firstType r v) 3 v10) v10) ∧ (∀ v13 : vSt, v13 = (fX11_uses r p1 (fX11_of r (fX11_firstType r v) 3 v10) v10) → (((((fX11_judgement r p1 v) : Int32) = 3) → ((oX11_toBench r ((v 462 (183 : Int32).toNatClampNeg) + 1) v13) ∧ (∀ v36 : vSt, v36 = (fX11_toBench r ((v 462 (183 : Int32).toNatClampNeg) + 1) v13) → (vp_in (215) (mlen 462))))) ∧ (¬ (((fX11_judgement r p1 v) : Int32) = 3) → (((((fX11_judgement r p1 v) : Int32) = 1) → ((vp_in (207) (mlen 462)) ∧ (vp_in (217 + (v13 462 (207 : Int32).toNatClampNeg)) (mlen 462)))) ∧ (∀ (v15 : vSt), v15 = ((if ((fX11_judgement r p1 v) : Int32) = 1 then (let v19 : vSt := u2 v13 462 (217 + (v13 462 (207 : Int32).toNatClampNeg) : Int32).toNatClampNeg (fX11_piece (fX11_firstType r v) (fX11_deviationOf (v 462 (183 : Int32).toNatClampNeg)) 0); let v20 : vSt := u2 v19 462 (207 : Int32).toNatClampNeg ((v19 462 (207 : Int32).toNatClampNeg) + 1); v20) else v13 : vSt) : vSt) → ((vp_in (212) (mlen 462)) ∧ ((∀ (y18 : Int32), y18 = ((if ((fX11_judgement r p1 v) : Int32) = 0 then 1 else 0 : Int32) : Int32) → (∀ v20 : vSt, v20 = (u2 v15 462 (212 : Int32).toNatClampNeg ((v15 462 (212 : Int32).toNatClampNeg) + y18)) → ((vp_in (213) (mlen 462)) ∧ ((∀ (y22 : Int32), y22 = ((if ((fX11_judgement r p1 v) : Int32) = 2 then 1 else 0 : Int32) : Int32) → (∀ v24 : vSt, v24 = (u2 v20 462 (213 : Int32).toNatClampNeg ((v20 462 (213 : Int32).toNatClampNeg) + y22)) → ((vp_in (216) (mlen 462)) ∧ (∀ v26 : vSt, v26 = (u2 v24 462 (216 : Int32).toNatClampNeg ((v24 462 (216 : Int32).toNatClampNeg) + 1)) → ((∀ (y27 : Int32), y27 = ((if ((fX11_judgement r p1 v) : Int32) ≤ 0 then 0 else 1 : Int32) : Int32) → ((oX11_notes r (fX11_firstType r v) y27 v26) ∧ (∀ v30 : vSt, v30 = (fX11_notes r (fX11_firstType r v) y27 v26) → ((oX11_charts r (fX11_firstType r v) (fX11_measured r p1 v) v30) ∧ (∀ v32 : vSt, v32 = (fX11_charts r (fX11_firstType r v) (fX11_measured r p1 v) v30) → (oX11_lays r (fX11_firstType r v) 7 0 v32)))))))))))))))))))))))))))))))))
abbrev rmX11_goJudge : Room := { frames := 6, cells := 0, slots := 0, locals := 136 }
theorem dX11_goJudge_0 : decode cX11_goJudge 0 = .ok (.aload_n 0, 1) := by decide +kernel
theorem dX11_goJudge_1 : decode cX11_goJudge 1 = .ok (.iload_n 1, 1) := by decide +kernel
theorem dX11_goJudge_2 : decode cX11_goJudge 2 = .ok (.invokevirtual 129, 3) := by decide +kernel
theorem dX11_goJudge_5 : decode cX11_goJudge 5 = .ok (.ifCond .ne 6, 3) := by decide +kernel
theorem dX11_goJudge_8 : decode cX11_goJudge 8 = .ok (.ldc 40, 2) := by decide +kernel
theorem dX11_goJudge_10 : decode cX11_goJudge 10 = .ok (.ireturn, 1) := by decide +kernel
theorem dX11_goJudge_11 : decode cX11_goJudge 11 = .ok (.aload_n 0, 1) := by decide +kernel
theorem dX11_goJudge_12 : decode cX11_goJudge 12 = .ok (.iload_n 1, 1) := by decide +kernel
theorem dX11_goJudge_13 : decode cX11_goJudge 13 = .ok (.invokevirtual 161, 3) := by decide +kernel
theorem dX11_goJudge_16 : decode cX11_goJudge 16 = .ok (.ifCond .le 6, 3) := by decide +kernel
theorem dX11_goJudge_19 : decode cX11_goJudge 19 = .ok (.ldc 41, 2) := by decide +kernel
theorem dX11_goJudge_21 : decode cX11_goJudge 21 = .ok (.ireturn, 1) := by decide +kernel
theorem dX11_goJudge_22 : decode cX11_goJudge 22 = .ok (.aload_n 0, 1) := by decide +kernel
theorem dX11_goJudge_23 : decode cX11_goJudge 23 = .ok (.invokevirtual 86, 3) := by decide +kernel
theorem dX11_goJudge_26 : decode cX11_goJudge 26 = .ok (.istore_n 2, 1) := by decide +kernel
theorem dX11_goJudge_27 : decode cX11_goJudge 27 = .ok (.aload_n 0, 1) := by decide +kernel
theorem dX11_goJudge_28 : decode cX11_goJudge 28 = .ok (.iload_n 1, 1) := by decide +kernel
theorem dX11_goJudge_29 : decode cX11_goJudge 29 = .ok (.invokevirtual 110, 3) := by decide +kernel
theorem dX11_goJudge_32 : decode cX11_goJudge 32 = .ok (.istore_n 3, 1) := by decide +kernel
theorem dX11_goJudge_33 : decode cX11_goJudge 33 = .ok (.aload_n 0, 1) := by decide +kernel
theorem dX11_goJudge_34 : decode cX11_goJudge 34 = .ok (.iload_n 1, 1) := by decide +kernel
theorem dX11_goJudge_35 : decode cX11_goJudge 35 = .ok (.invokevirtual 164, 3) := by decide +kernel
theorem dX11_goJudge_38 : decode cX11_goJudge 38 = .ok (.istore 4, 2) := by decide +kernel
theorem dX11_goJudge_40 : decode cX11_goJudge 40 = .ok (.aload_n 0, 1) := by decide +kernel
theorem dX11_goJudge_41 : decode cX11_goJudge 41 = .ok (.getfield 7, 3) := by decide +kernel
theorem dX11_goJudge_44 : decode cX11_goJudge 44 = .ok (.sipush 183, 3) := by decide +kernel
theorem dX11_goJudge_47 : decode cX11_goJudge 47 = .ok (.iaload, 1) := by decide +kernel
theorem dX11_goJudge_48 : decode cX11_goJudge 48 = .ok (.istore 5, 2) := by decide +kernel
theorem dX11_goJudge_50 : decode cX11_goJudge 50 = .ok (.aload_n 0, 1) := by decide +kernel
theorem dX11_goJudge_51 : decode cX11_goJudge 51 = .ok (.invokevirtual 167, 3) := by decide +kernel
theorem dX11_goJudge_54 : decode cX11_goJudge 54 = .ok (.aload_n 0, 1) := by decide +kernel
theorem dX11_goJudge_55 : decode cX11_goJudge 55 = .ok (.iload_n 1, 1) := by decide +kernel
theorem dX11_goJudge_56 : decode cX11_goJudge 56 = .ok (.aload_n 0, 1) := by decide +kernel
theorem dX11_goJudge_57 : decode cX11_goJudge 57 = .ok (.iload_n 2, 1) := by decide +kernel
theorem dX11_goJudge_58 : decode cX11_goJudge 58 = .ok (.iconst 3, 1) := by decide +kernel
theorem dX11_goJudge_59 : decode cX11_goJudge 59 = .ok (.invokevirtual 90, 3) := by decide +kernel
theorem dX11_goJudge_62 : decode cX11_goJudge 62 = .ok (.invokevirtual 138, 3) := by decide +kernel
theorem dX11_goJudge_65 : decode cX11_goJudge 65 = .ok (.iload 4, 2) := by decide +kernel
theorem dX11_goJudge_67 : decode cX11_goJudge 67 = .ok (.iconst 3, 1) := by decide +kernel
theorem dX11_goJudge_68 : decode cX11_goJudge 68 = .ok (.if_icmp .ne 26, 3) := by decide +kernel
theorem dX11_goJudge_71 : decode cX11_goJudge 71 = .ok (.aload_n 0, 1) := by decide +kernel
theorem dX11_goJudge_72 : decode cX11_goJudge 72 = .ok (.iload 5, 2) := by decide +kernel
theorem dX11_goJudge_74 : decode cX11_goJudge 74 = .ok (.iconst 1, 1) := by decide +kernel
theorem dX11_goJudge_75 : decode cX11_goJudge 75 = .ok (.iadd, 1) := by decide +kernel
theorem dX11_goJudge_76 : decode cX11_goJudge 76 = .ok (.invokevirtual 158, 3) := by decide +kernel
theorem dX11_goJudge_79 : decode cX11_goJudge 79 = .ok (.aload_n 0, 1) := by decide +kernel
theorem dX11_goJudge_80 : decode cX11_goJudge 80 = .ok (.getfield 7, 3) := by decide +kernel
theorem dX11_goJudge_83 : decode cX11_goJudge 83 = .ok (.sipush 215, 3) := by decide +kernel
theorem dX11_goJudge_86 : decode cX11_goJudge 86 = .ok (.dup2, 1) := by decide +kernel
theorem dX11_goJudge_87 : decode cX11_goJudge 87 = .ok (.iaload, 1) := by decide +kernel
theorem dX11_goJudge_88 : decode cX11_goJudge 88 = .ok (.iconst 1, 1) := by decide +kernel
theorem dX11_goJudge_89 : decode cX11_goJudge 89 = .ok (.iadd, 1) := by decide +kernel
theorem dX11_goJudge_90 : decode cX11_goJudge 90 = .ok (.iastore, 1) := by decide +kernel
theorem dX11_goJudge_91 : decode cX11_goJudge 91 = .ok (.iload 4, 2) := by decide +kernel
theorem dX11_goJudge_93 : decode cX11_goJudge 93 = .ok (.ireturn, 1) := by decide +kernel
theorem dX11_goJudge_94 : decode cX11_goJudge 94 = .ok (.iload 4, 2) := by decide +kernel
theorem dX11_goJudge_96 : decode cX11_goJudge 96 = .ok (.iconst 1, 1) := by decide +kernel
theorem dX11_goJudge_97 : decode cX11_goJudge 97 = .ok (.if_icmp .ne 42, 3) := by decide +kernel
theorem dX11_goJudge_100 : decode cX11_goJudge 100 = .ok (.aload_n 0, 1) := by decide +kernel
theorem dX11_goJudge_101 : decode cX11_goJudge 101 = .ok (.getfield 7, 3) := by decide +kernel
theorem dX11_goJudge_104 : decode cX11_goJudge 104 = .ok (.sipush 217, 3) := by decide +kernel
theorem dX11_goJudge_107 : decode cX11_goJudge 107 = .ok (.aload_n 0, 1) := by decide +kernel
theorem dX11_goJudge_108 : decode cX11_goJudge 108 = .ok (.getfield 7, 3) := by decide +kernel
theorem dX11_goJudge_111 : decode cX11_goJudge 111 = .ok (.sipush 207, 3) := by decide +kernel
theorem dX11_goJudge_114 : decode cX11_goJudge 114 = .ok (.iaload, 1) := by decide +kernel
theorem dX11_goJudge_115 : decode cX11_goJudge 115 = .ok (.iadd, 1) := by decide +kernel
theorem dX11_goJudge_116 : decode cX11_goJudge 116 = .ok (.iload_n 2, 1) := by decide +kernel
theorem dX11_goJudge_117 : decode cX11_goJudge 117 = .ok (.iload 5, 2) := by decide +kernel
theorem dX11_goJudge_119 : decode cX11_goJudge 119 = .ok (.invokestatic 93, 3) := by decide +kernel
theorem dX11_goJudge_122 : decode cX11_goJudge 122 = .ok (.iconst 0, 1) := by decide +kernel
theorem dX11_goJudge_123 : decode cX11_goJudge 123 = .ok (.invokestatic 155, 3) := by decide +kernel
theorem dX11_goJudge_126 : decode cX11_goJudge 126 = .ok (.iastore, 1) := by decide +kernel
theorem dX11_goJudge_127 : decode cX11_goJudge 127 = .ok (.aload_n 0, 1) := by decide +kernel
theorem dX11_goJudge_128 : decode cX11_goJudge 128 = .ok (.getfield 7, 3) := by decide +kernel
theorem dX11_goJudge_131 : decode cX11_goJudge 131 = .ok (.sipush 207, 3) := by decide +kernel
theorem dX11_goJudge_134 : decode cX11_goJudge 134 = .ok (.dup2, 1) := by decide +kernel
theorem dX11_goJudge_135 : decode cX11_goJudge 135 = .ok (.iaload, 1) := by decide +kernel
theorem dX11_goJudge_136 : decode cX11_goJudge 136 = .ok (.iconst 1, 1) := by decide +kernel
theorem dX11_goJudge_137 : decode cX11_goJudge 137 = .ok (.iadd, 1) := by decide +kernel
theorem dX11_goJudge_138 : decode cX11_goJudge 138 = .ok (.iastore, 1) := by decide +kernel
theorem dX11_goJudge_139 : decode cX11_goJudge 139 = .ok (.aload_n 0, 1) := by decide +kernel
theorem dX11_goJudge_140 : decode cX11_goJudge 140 = .ok (.getfield 7, 3) := by decide +kernel
theorem dX11_goJudge_143 : decode cX11_goJudge 143 = .ok (.sipush 212, 3) := by decide +kernel
theorem dX11_goJudge_146 : decode cX11_goJudge 146 = .ok (.dup2, 1) := by decide +kernel
theorem dX11_goJudge_147 : decode cX11_goJudge 147 = .ok (.iaload, 1) := by decide +kernel
theorem dX11_goJudge_148 : decode cX11_goJudge 148 = .ok (.iload 4, 2) := by decide +kernel
theorem dX11_goJudge_150 : decode cX11_goJudge 150 = .ok (.ifCond .ne 7, 3) := by decide +kernel
theorem dX11_goJudge_153 : decode cX11_goJudge 153 = .ok (.iconst 1, 1) := by decide +kernel
theorem dX11_goJudge_154 : decode cX11_goJudge 154 = .ok (.goto 4, 3) := by decide +kernel
theorem dX11_goJudge_157 : decode cX11_goJudge 157 = .ok (.iconst 0, 1) := by decide +kernel
theorem dX11_goJudge_158 : decode cX11_goJudge 158 = .ok (.iadd, 1) := by decide +kernel
theorem dX11_goJudge_159 : decode cX11_goJudge 159 = .ok (.iastore, 1) := by decide +kernel
theorem dX11_goJudge_160 : decode cX11_goJudge 160 = .ok (.aload_n 0, 1) := by decide +kernel
theorem dX11_goJudge_161 : decode cX11_goJudge 161 = .ok (.getfield 7, 3) := by decide +kernel
theorem dX11_goJudge_164 : decode cX11_goJudge 164 = .ok (.sipush 213, 3) := by decide +kernel
theorem dX11_goJudge_167 : decode cX11_goJudge 167 = .ok (.dup2, 1) := by decide +kernel
theorem dX11_goJudge_168 : decode cX11_goJudge 168 = .ok (.iaload, 1) := by decide +kernel
theorem dX11_goJudge_169 : decode cX11_goJudge 169 = .ok (.iload 4, 2) := by decide +kernel
theorem dX11_goJudge_171 : decode cX11_goJudge 171 = .ok (.iconst 2, 1) := by decide +kernel
theorem dX11_goJudge_172 : decode cX11_goJudge 172 = .ok (.if_icmp .ne 7, 3) := by decide +kernel
theorem dX11_goJudge_175 : decode cX11_goJudge 175 = .ok (.iconst 1, 1) := by decide +kernel
theorem dX11_goJudge_176 : decode cX11_goJudge 176 = .ok (.goto 4, 3) := by decide +kernel
theorem dX11_goJudge_179 : decode cX11_goJudge 179 = .ok (.iconst 0, 1) := by decide +kernel
theorem dX11_goJudge_180 : decode cX11_goJudge 180 = .ok (.iadd, 1) := by decide +kernel
theorem dX11_goJudge_181 : decode cX11_goJudge 181 = .ok (.iastore, 1) := by decide +kernel
theorem dX11_goJudge_182 : decode cX11_goJudge 182 = .ok (.aload_n 0, 1) := by decide +kernel
theorem dX11_goJudge_183 : decode cX11_goJudge 183 = .ok (.getfield 7, 3) := by decide +kernel
theorem dX11_goJudge_186 : decode cX11_goJudge 186 = .ok (.sipush 216, 3) := by decide +kernel
theorem dX11_goJudge_189 : decode cX11_goJudge 189 = .ok (.dup2, 1) := by decide +kernel
theorem dX11_goJudge_190 : decode cX11_goJudge 190 = .ok (.iaload, 1) := by decide +kernel
theorem dX11_goJudge_191 : decode cX11_goJudge 191 = .ok (.iconst 1, 1) := by decide +kernel
theorem dX11_goJudge_192 : decode cX11_goJudge 192 = .ok (.iadd, 1) := by decide +kernel
theorem dX11_goJudge_193 : decode cX11_goJudge 193 = .ok (.iastore, 1) := by decide +kernel
theorem dX11_goJudge_194 : decode cX11_goJudge 194 = .ok (.aload_n 0, 1) := by decide +kernel
theorem dX11_goJudge_195 : decode cX11_goJudge 195 = .ok (.iload_n 2, 1) := by decide +kernel
theorem dX11_goJudge_196 : decode cX11_goJudge 196 = .ok (.iload 4, 2) := by decide +kernel
theorem dX11_goJudge_198 : decode cX11_goJudge 198 = .ok (.ifCond .le 7, 3) := by decide +kernel
theorem dX11_goJudge_201 : decode cX11_goJudge 201 = .ok (.iconst 1, 1) := by decide +kernel
theorem dX11_goJudge_202 : decode cX11_goJudge 202 = .ok (.goto 4, 3) := by decide +kernel
theorem dX11_goJudge_205 : decode cX11_goJudge 205 = .ok (.iconst 0, 1) := by decide +kernel
theorem dX11_goJudge_206 : decode cX11_goJudge 206 = .ok (.invokevirtual 170, 3) := by decide +kernel
theorem dX11_goJudge_209 : decode cX11_goJudge 209 = .ok (.aload_n 0, 1) := by decide +kernel
theorem dX11_goJudge_210 : decode cX11_goJudge 210 = .ok (.iload_n 2, 1) := by decide +kernel
theorem dX11_goJudge_211 : decode cX11_goJudge 211 = .ok (.iload_n 3, 1) := by decide +kernel
theorem dX11_goJudge_212 : decode cX11_goJudge 212 = .ok (.invokevirtual 174, 3) := by decide +kernel
theorem dX11_goJudge_215 : decode cX11_goJudge 215 = .ok (.aload_n 0, 1) := by decide +kernel
theorem dX11_goJudge_216 : decode cX11_goJudge 216 = .ok (.iload_n 2, 1) := by decide +kernel
theorem dX11_goJudge_217 : decode cX11_goJudge 217 = .ok (.bipush 7, 2) := by decide +kernel
theorem dX11_goJudge_219 : decode cX11_goJudge 219 = .ok (.iconst 0, 1) := by decide +kernel
theorem dX11_goJudge_220 : decode cX11_goJudge 220 = .ok (.invokevirtual 116, 3) := by decide +kernel
theorem dX11_goJudge_223 : decode cX11_goJudge 223 = .ok (.iload 4, 2) := by decide +kernel
theorem dX11_goJudge_225 : decode cX11_goJudge 225 = .ok (.ireturn, 1) := by decide +kernel
set_option maxHeartbeats 8000000 in
set_option maxRecDepth 100000 in
theorem mX11_goJudge (l : Launch) (G : gG) (da : Nat → Nat) (v : vSt) (x : gX) (r : Nat) (hk_r : kd r = 11) (p1 : Int32) (ho : oX11_goJudge r p1 v) : MI l yX11_goJudge cX11_goJudge 6 (some .int) rmX11_goJudge [.ref (ga G r), .int p1] G da v x 0 0 (fX11_goJudge r p1 v).1 (fX11_goJudge r p1 v).2 x := by
  refine gofMI (own := RX11) (by decide) rfl (Nat.le_of_ble_eq_true rfl) (fun p e s m args below meth c ls Q X hH hl E => ?_)
  have hx := X.1
  have hb := X.2.1
  have hown := X.2.2.2.1
  have hts := X.2.2.2.2.1
  have hS : va_S (gA G) s.heap s.heap [] := va_S.rf
  unfold oX11_goJudge at ho
  have hl : lv_has ls 6 [(0, .ref (ga G r)), (1, .int p1)] := hl
  refine lv_aload_n hx hb dX11_goJudge_0 rfl (lv_at hl 0 rfl) ?_
  refine lv_iload_n hx hb dX11_goJudge_1 rfl (lv_at hl 1 rfl) ?_
  have hq1 := ho.1
  have ho := ho.2
  refine k_X11_isTool X hS hH hk_r hq1 t_ml_VernierDrawersModel_129 hl.1 (Nat.le_of_ble_eq_true rfl) ⟨Nat.le_of_ble_eq_true rfl, Nat.le_of_ble_eq_true rfl⟩ ⟨Nat.zero_le _, Nat.zero_le _⟩ dX11_goJudge_2 ?_
  refine lv_if_ne (tgt := 11) hx hb dX11_goJudge_5 (by decide) (fun c2 => ?_) (fun c2 => ?_)
  · have ho := ho c2
    refine lv_aload_n hx hb dX11_goJudge_11 rfl (lv_at hl 0 rfl) ?_
    refine lv_iload_n hx hb dX11_goJudge_12 rfl (lv_at hl 1 rfl) ?_
    have hq3 := ho.1
    have ho := ho.2
    refine k_X11_reasonNot X hS hH hk_r hq3 t_ml_VernierDrawersModel_161 hl.1 (Nat.le_of_ble_eq_true rfl) ⟨Nat.le_of_ble_eq_true rfl, Nat.le_of_ble_eq_true rfl⟩ ⟨Nat.zero_le _, Nat.zero_le _⟩ dX11_goJudge_13 ?_
    refine lv_if_le (tgt := 22) hx hb dX11_goJudge_16 (by decide) (fun c4 => ?_) (fun c4 => ?_)
    · have ho := ho c4
      refine lv_aload_n hx hb dX11_goJudge_22 rfl (lv_at hl 0 rfl) ?_
      have hq5 := ho.1
      have ho := ho.2
      refine k_X11_firstType X hS hH hk_r hq5 t_ml_VernierDrawersModel_86 hl.1 (Nat.le_of_ble_eq_true rfl) ⟨Nat.le_of_ble_eq_true rfl, Nat.le_of_ble_eq_true rfl⟩ ⟨Nat.zero_le _, Nat.zero_le _⟩ dX11_goJudge_23 ?_
      refine lv_istore_n (lv' := [(2, .int (fX11_firstType r v)), (0, .ref (ga G r)), (1, .int p1)]) hx hb dX11_goJudge_26 rfl hl (by decide) rfl (fun ls hl => ?_)
      refine lv_aload_n hx hb dX11_goJudge_27 rfl (lv_at hl 1 rfl) ?_
      refine lv_iload_n hx hb dX11_goJudge_28 rfl (lv_at hl 2 rfl) ?_
      have hq6 := ho.1
      have ho := ho.2
      refine k_X11_measured X hS hH hk_r hq6 t_ml_VernierDrawersModel_110 hl.1 (Nat.le_of_ble_eq_true rfl) ⟨Nat.le_of_ble_eq_true rfl, Nat.le_of_ble_eq_true rfl⟩ ⟨Nat.zero_le _, Nat.zero_le _⟩ dX11_goJudge_29 ?_
      refine lv_istore_n (lv' := [(3, .int (fX11_measured r p1 v)), (2, .int (fX11_firstType r v)), (0, .ref (ga G r)), (1, .int p1)]) hx hb dX11_goJudge_32 rfl hl (by decide) rfl (fun ls hl => ?_)
      refine lv_aload_n hx hb dX11_goJudge_33 rfl (lv_at hl 2 rfl) ?_
      refine lv_iload_n hx hb dX11_goJudge_34 rfl (lv_at hl 3 rfl) ?_
      have hq7 := ho.1
      have ho := ho.2
      refine k_X11_judgement X hS hH hk_r hq7 t_ml_VernierDrawersModel_164 hl.1 (Nat.le_of_ble_eq_true rfl) ⟨Nat.le_of_ble_eq_true rfl, Nat.le_of_ble_eq_true rfl⟩ ⟨Nat.zero_le _, Nat.zero_le _⟩ dX11_goJudge_35 ?_
      refine lv_istore (lv' := [(4, .int (fX11_judgement r p1 v)), (3, .int (fX11_measured r p1 v)), (2, .int (fX11_firstType r v)), (0, .ref (ga G r)), (1, .int p1)]) hx hb dX11_goJudge_38 hl (by decide) rfl (fun ls hl => ?_)
      refine lv_aload_n hx hb dX11_goJudge_40 rfl (lv_at hl 3 rfl) ?_
      refine g_VernierDrawersModel_7 X hH hk_r dX11_goJudge_41 ?_
      refine lv_sipush (v := 183) hx hb dX11_goJudge_44 (by decide) ?_
      have hq8 := ho.1
      have ho := ho.2
      refine ald_M X hH (Or.inl kd_462) hq8 dX11_goJudge_47 ?_
      refine lv_istore (lv' := [(5, .int (v 462 (183 : Int32).toNatClampNeg)), (4, .int (fX11_judgement r p1 v)), (3, .int (fX11_measured r p1 v)), (2, .int (fX11_firstType r v)), (0, .ref (ga G r)), (1, .int p1)]) hx hb dX11_goJudge_48 hl (by decide) rfl (fun ls hl => ?_)
      refine lv_aload_n hx hb dX11_goJudge_50 rfl (lv_at hl 4 rfl) ?_
      have hq9 := ho.1
      have ho := ho.2
      refine k_X11_leavesBench X hS hH hk_r hq9 t_ml_VernierDrawersModel_167 hl.1 (Nat.le_of_ble_eq_true rfl) ⟨Nat.le_of_ble_eq_true rfl, Nat.le_of_ble_eq_true rfl⟩ ⟨Nat.zero_le _, Nat.zero_le _⟩ dX11_goJudge_51 (fun da H locs v10 ev10 hH hS => ?_)
      have ho := ho v10 ev10
      refine lv_aload_n hx hb dX11_goJudge_54 rfl (lv_at hl 4 rfl) ?_
      refine lv_iload_n hx hb dX11_goJudge_55 rfl (lv_at hl 5 rfl) ?_
      refine lv_aload_n hx hb dX11_goJudge_56 rfl (lv_at hl 4 rfl) ?_
      refine lv_iload_n hx hb dX11_goJudge_57 rfl (lv_at hl 3 rfl) ?_
      refine lv_iconst (v := 3) hx hb dX11_goJudge_58 (by decide) ?_
      have hq11 := ho.1
      have ho := ho.2
      refine k_X11_of X hS hH hk_r hq11 t_ml_VernierDrawersModel_90 hl.1 (Nat.le_of_ble_eq_true rfl) ⟨Nat.le_of_ble_eq_true rfl, Nat.le_of_ble_eq_true rfl⟩ ⟨Nat.zero_le _, Nat.zero_le _⟩ dX11_goJudge_59 ?_
      have hq12 := ho.1
      have ho := ho.2
      refine k_X11_uses X hS hH hk_r hq12 t_ml_VernierDrawersModel_138 hl.1 (Nat.le_of_ble_eq_true rfl) ⟨Nat.le_of_ble_eq_true rfl, Nat.le_of_ble_eq_true rfl⟩ ⟨Nat.zero_le _, Nat.zero_le _⟩ dX11_goJudge_62 (fun da H locs v13 ev13 hH hS => ?_)
      have ho := ho v13 ev13
      refine lv_iload hx hb dX11_goJudge_65 (lv_at hl 1 rfl) ?_
      refine lv_iconst (v := 3) hx hb dX11_goJudge_67 (by decide) ?_
      refine lv_icmp_ne (tgt := 94) hx hb dX11_goJudge_68 (by decide) (fun c14 => ?_) (fun c14 => ?_)
      · have ho := ho.2 c14
        refine lv_iload hx hb dX11_goJudge_94 (lv_at hl 1 rfl) ?_
        refine lv_iconst (v := 1) hx hb dX11_goJudge_96 (by decide) ?_
        have K16 : ∀ (v15 : vSt) (da : Nat → Nat) (H : Heap) (locs : List Loc) (ls : Array Slot), v15 = (if ((fX11_judgement r p1 v) : Int32) = 1 then (let v19 : vSt := u2 v13 462 (217 + (v13 462 (207 : Int32).toNatClampNeg) : Int32).toNatClampNeg (fX11_piece (fX11_firstType r v) (fX11_deviationOf (v 462 (183 : Int32).toNatClampNeg)) 0); let v20 : vSt := u2 v19 462 (207 : Int32).toNatClampNeg ((v19 462 (207 : Int32).toNatClampNeg) + 1); v20) else v13 : vSt) → Hp G da v15 x H → va_S (gA G) s.heap H locs → lv_has ls 6 [(4, .int (fX11_judgement r p1 v)), (3, .int (fX11_measured r p1 v)), (2, .int (fX11_firstType r v)), (0, .ref (ga G r))] → W p l e rmX11_goJudge s m args below meth c H locs 0 0 Q (F0 m 139 ls []) := by
          intro v15 da H locs ls ev15 hH hS hl
          have ho := ho.2 v15 ev15
          refine lv_aload_n hx hb dX11_goJudge_139 rfl (lv_at hl 3 rfl) ?_
          refine g_VernierDrawersModel_7 X hH hk_r dX11_goJudge_140 ?_
          refine lv_sipush (v := 212) hx hb dX11_goJudge_143 (by decide) ?_
          refine lv_dup2_11 hx hb dX11_goJudge_146 rfl rfl ?_
          have hq17 := ho.1
          have ho := ho.2
          refine ald_M X hH (Or.inl kd_462) hq17 dX11_goJudge_147 ?_
          refine lv_iload hx hb dX11_goJudge_148 (lv_at hl 0 rfl) ?_
          have K19 : ∀ (y18 : Int32) (ls : Array Slot), y18 = (if ((fX11_judgement r p1 v) : Int32) = 0 then 1 else 0 : Int32) → lv_has ls 6 [(4, .int (fX11_judgement r p1 v)), (3, .int (fX11_measured r p1 v)), (2, .int (fX11_firstType r v)), (0, .ref (ga G r))] → W p l e rmX11_goJudge s m args below meth c H locs 0 0 Q (F0 m 158 ls [.int y18, .int (v15 462 (212 : Int32).toNatClampNeg), .int 212, .ref (ga G 462)]) := by
            intro y18 ls ey18 hl
            have ho := ho y18 ey18
            refine lv_iadd hx hb dX11_goJudge_158 ?_
            refine ast_M X hH hS (Or.inl kd_462) hq17 dX11_goJudge_159 (fun H locs v20 ev20 hH hS => ?_)
            have ho := ho v20 ev20
            refine lv_aload_n hx hb dX11_goJudge_160 rfl (lv_at hl 3 rfl) ?_
            refine g_VernierDrawersModel_7 X hH hk_r dX11_goJudge_161 ?_
            refine lv_sipush (v := 213) hx hb dX11_goJudge_164 (by decide) ?_
            refine lv_dup2_11 hx hb dX11_goJudge_167 rfl rfl ?_
            have hq21 := ho.1
            have ho := ho.2
            refine ald_M X hH (Or.inl kd_462) hq21 dX11_goJudge_168 ?_
            refine lv_iload hx hb dX11_goJudge_169 (lv_at hl 0 rfl) ?_
            refine lv_iconst (v := 2) hx hb dX11_goJudge_171 (by decide) ?_
            have K23 : ∀ (y22 : Int32) (ls : Array Slot), y22 = (if ((fX11_judgement r p1 v) : Int32) = 2 then 1 else 0 : Int32) → lv_has ls 6 [(4, .int (fX11_judgement r p1 v)), (3, .int (fX11_measured r p1 v)), (2, .int (fX11_firstType r v)), (0, .ref (ga G r))] → W p l e rmX11_goJudge s m args below meth c H locs 0 0 Q (F0 m 180 ls [.int y22, .int (v20 462 (213 : Int32).toNatClampNeg), .int 213, .ref (ga G 462)]) := by
              intro y22 ls ey22 hl
              have ho := ho y22 ey22
              refine lv_iadd hx hb dX11_goJudge_180 ?_
              refine ast_M X hH hS (Or.inl kd_462) hq21 dX11_goJudge_181 (fun H locs v24 ev24 hH hS => ?_)
              have ho := ho v24 ev24
              refine lv_aload_n hx hb dX11_goJudge_182 rfl (lv_at hl 3 rfl) ?_
              refine g_VernierDrawersModel_7 X hH hk_r dX11_goJudge_183 ?_
              refine lv_sipush (v := 216) hx hb dX11_goJudge_186 (by decide) ?_
              refine lv_dup2_11 hx hb dX11_goJudge_189 rfl rfl ?_
              have hq25 := ho.1
              have ho := ho.2
              refine ald_M X hH (Or.inl kd_462) hq25 dX11_goJudge_190 ?_
              refine lv_iconst (v := 1) hx hb dX11_goJudge_191 (by decide) ?_
              refine lv_iadd hx hb dX11_goJudge_192 ?_
              refine ast_M X hH hS (Or.inl kd_462) hq25 dX11_goJudge_193 (fun H locs v26 ev26 hH hS => ?_)
              have ho := ho v26 ev26
              refine lv_aload_n hx hb dX11_goJudge_194 rfl (lv_at hl 3 rfl) ?_
              refine lv_iload_n hx hb dX11_goJudge_195 rfl (lv_at hl 2 rfl) ?_
              refine lv_iload hx hb dX11_goJudge_196 (lv_at hl 0 rfl) ?_
              have K28 : ∀ (y27 : Int32) (ls : Array Slot), y27 = (if ((fX11_judgement r p1 v) : Int32) ≤ 0 then 0 else 1 : Int32) → lv_has ls 6 [(4, .int (fX11_judgement r p1 v)), (3, .int (fX11_measured r p1 v)), (2, .int (fX11_firstType r v)), (0, .ref (ga G r))] → W p l e rmX11_goJudge s m args below meth c H locs 0 0 Q (F0 m 206 ls [.int y27, .int (fX11_firstType r v), .ref (ga G r)]) := by
                intro y27 ls ey27 hl
                have ho := ho y27 ey27
                have hq29 := ho.1
                have ho := ho.2
                refine k_X11_notes X hS hH hk_r hq29 t_ml_VernierDrawersModel_170 hl.1 (Nat.le_of_ble_eq_true rfl) ⟨Nat.le_of_ble_eq_true rfl, Nat.le_of_ble_eq_true rfl⟩ ⟨Nat.zero_le _, Nat.zero_le _⟩ dX11_goJudge_206 (fun da H locs v30 ev30 hH hS => ?_)
                have ho := ho v30 ev30
                refine lv_aload_n hx hb dX11_goJudge_209 rfl (lv_at hl 3 rfl) ?_
                refine lv_iload_n hx hb dX11_goJudge_210 rfl (lv_at hl 2 rfl) ?_
                refine lv_iload_n hx hb dX11_goJudge_211 rfl (lv_at hl 1 rfl) ?_
                have hq31 := ho.1
                have ho := ho.2
                refine k_X11_charts X hS hH hk_r hq31 t_ml_VernierDrawersModel_174 hl.1 (Nat.le_of_ble_eq_true rfl) ⟨Nat.le_of_ble_eq_true rfl, Nat.le_of_ble_eq_true rfl⟩ ⟨Nat.zero_le _, Nat.zero_le _⟩ dX11_goJudge_212 (fun da H locs v32 ev32 hH hS => ?_)
                have ho := ho v32 ev32
                refine lv_aload_n hx hb dX11_goJudge_215 rfl (lv_at hl 3 rfl) ?_
                refine lv_iload_n hx hb dX11_goJudge_216 rfl (lv_at hl 2 rfl) ?_
                refine lv_bipush (v := 7) hx hb dX11_goJudge_217 (by decide) ?_
                refine lv_iconst (v := 0) hx hb dX11_goJudge_219 (by decide) ?_
                have hq33 := ho
                refine k_X11_lays X hS hH hk_r hq33 t_ml_VernierDrawersModel_116 hl.1 (Nat.le_of_ble_eq_true rfl) ⟨Nat.le_of_ble_eq_true rfl, Nat.le_of_ble_eq_true rfl⟩ ⟨Nat.zero_le _, Nat.zero_le _⟩ dX11_goJudge_220 (fun da H locs v34 ev34 hH hS => ?_)
                refine lv_iload hx hb dX11_goJudge_223 (lv_at hl 0 rfl) ?_
                replace ev10 := Eq.symm ev10
                replace ev13 := Eq.symm ev13
                replace ev15 := Eq.symm ev15
                replace ey18 := Eq.symm ey18
                replace ev20 := Eq.symm ev20
                replace ey22 := Eq.symm ey22
                replace ev24 := Eq.symm ev24
                replace ev26 := Eq.symm ev26
                replace ey27 := Eq.symm ey27
                replace ev30 := Eq.symm ev30
                replace ev32 := Eq.symm ev32
                replace ev34 := Eq.symm ev34
                subst ev10 ev13 ev15 ey18 ev20 ey22 ev24 ev26 ey27 ev30 ev32 ev34
                exact E _ _ _ _ _ _ _ _ _ dX11_goJudge_225 rfl (pr1 ((fX11_goJudge.eq_1 _ _ _).trans ((if_neg c2).trans ((if_pos c4).trans ((if_neg c14).trans rfl))))) (pr2 ((fX11_goJudge.eq_1 _ _ _).trans ((if_neg c2).trans ((if_pos c4).trans ((if_neg c14).trans rfl))))) hH hS (Nat.zero_le _) (Nat.zero_le _)
              refine lv_if_le (tgt := 205) hx hb dX11_goJudge_198 (by decide) (fun c28 => ?_) (fun c28 => ?_)
              · skip
                refine lv_iconst (v := 0) hx hb dX11_goJudge_205 (by decide) ?_
                exact K28 _ _ (Eq.symm ((if_pos c28).trans rfl)) (lv_sub hl [0, 1, 2, 3] rfl)
              · skip
                refine lv_iconst (v := 1) hx hb dX11_goJudge_201 (by decide) ?_
                refine lv_goto (tgt := 206) hx hb dX11_goJudge_202 (by decide) ?_
                exact K28 _ _ (Eq.symm ((if_neg c28).trans rfl)) (lv_sub hl [0, 1, 2, 3] rfl)
            refine lv_icmp_ne (tgt := 179) hx hb dX11_goJudge_172 (by decide) (fun c23 => ?_) (fun c23 => ?_)
            · skip
              refine lv_iconst (v := 0) hx hb dX11_goJudge_179 (by decide) ?_
              exact K23 _ _ (Eq.symm ((if_neg c23).trans rfl)) (lv_sub hl [0, 1, 2, 3] rfl)
            · skip
              refine lv_iconst (v := 1) hx hb dX11_goJudge_175 (by decide) ?_
              refine lv_goto (tgt := 180) hx hb dX11_goJudge_176 (by decide) ?_
              exact K23 _ _ (Eq.symm ((if_pos c23).trans rfl)) (lv_sub hl [0, 1, 2, 3] rfl)
          refine lv_if_ne (tgt := 157) hx hb dX11_goJudge_150 (by decide) (fun c19 => ?_) (fun c19 => ?_)
          · skip
            refine lv_iconst (v := 0) hx hb dX11_goJudge_157 (by decide) ?_
            exact K19 _ _ (Eq.symm ((if_neg c19).trans rfl)) (lv_sub hl [0, 1, 2, 3] rfl)
          · skip
            refine lv_iconst (v := 1) hx hb dX11_goJudge_153 (by decide) ?_
            refine lv_goto (tgt := 158) hx hb dX11_goJudge_154 (by decide) ?_
            exact K19 _ _ (Eq.symm ((if_pos c19).trans rfl)) (lv_sub hl [0, 1, 2, 3] rfl)
        have ho := ho.1
        refine lv_icmp_ne (tgt := 139) hx hb dX11_goJudge_97 (by decide) (fun c16 => ?_) (fun c16 => ?_)
        · skip
          exact K16 _ _ _ _ _ (Eq.symm ((if_neg c16).trans rfl)) hH hS (lv_sub hl [1, 2, 3, 4] rfl)
        · have ho := ho c16
          refine lv_aload_n hx hb dX11_goJudge_100 rfl (lv_at hl 4 rfl) ?_
          refine g_VernierDrawersModel_7 X hH hk_r dX11_goJudge_101 ?_
          refine lv_sipush (v := 217) hx hb dX11_goJudge_104 (by decide) ?_
          refine lv_aload_n hx hb dX11_goJudge_107 rfl (lv_at hl 4 rfl) ?_
          refine g_VernierDrawersModel_7 X hH hk_r dX11_goJudge_108 ?_
          refine lv_sipush (v := 207) hx hb dX11_goJudge_111 (by decide) ?_
          have hq17 := ho.1
          have ho := ho.2
          refine ald_M X hH (Or.inl kd_462) hq17 dX11_goJudge_114 ?_
          refine lv_iadd hx hb dX11_goJudge_115 ?_
          refine lv_iload_n hx hb dX11_goJudge_116 rfl (lv_at hl 3 rfl) ?_
          refine lv_iload hx hb dX11_goJudge_117 (lv_at hl 0 rfl) ?_
          refine k_X11_deviationOf X hS  t_ml_VernierDrawersModel_93 hl.1 (Nat.le_of_ble_eq_true rfl) ⟨Nat.le_of_ble_eq_true rfl, Nat.le_of_ble_eq_true rfl⟩ ⟨Nat.zero_le _, Nat.zero_le _⟩ dX11_goJudge_119 ?_
          refine lv_iconst (v := 0) hx hb dX11_goJudge_122 (by decide) ?_
          refine k_X11_piece X hS  t_ml_VernierDrawersModel_155 hl.1 (Nat.le_of_ble_eq_true rfl) ⟨Nat.le_of_ble_eq_true rfl, Nat.le_of_ble_eq_true rfl⟩ ⟨Nat.zero_le _, Nat.zero_le _⟩ dX11_goJudge_123 ?_
          have hq18 := ho
          refine ast_M X hH hS (Or.inl kd_462) hq18 dX11_goJudge_126 (fun H locs v19 ev19 hH hS => ?_)
          refine lv_aload_n hx hb dX11_goJudge_127 rfl (lv_at hl 4 rfl) ?_
          refine g_VernierDrawersModel_7 X hH hk_r dX11_goJudge_128 ?_
          refine lv_sipush (v := 207) hx hb dX11_goJudge_131 (by decide) ?_
          refine lv_dup2_11 hx hb dX11_goJudge_134 rfl rfl ?_
          refine ald_M X hH (Or.inl kd_462) hq17 dX11_goJudge_135 ?_
          refine lv_iconst (v := 1) hx hb dX11_goJudge_136 (by decide) ?_
          refine lv_iadd hx hb dX11_goJudge_137 ?_
          refine ast_M X hH hS (Or.inl kd_462) hq17 dX11_goJudge_138 (fun H locs v20 ev20 hH hS => ?_)
          replace ev19 := Eq.symm ev19
          replace ev20 := Eq.symm ev20
          subst ev19 ev20
          exact K16 _ _ _ _ _ (Eq.symm ((if_pos c16).trans rfl)) hH hS (lv_sub hl [1, 2, 3, 4] rfl)
      · have ho := ho.1 c14
        refine lv_aload_n hx hb dX11_goJudge_71 rfl (lv_at hl 4 rfl) ?_
        refine lv_iload hx hb dX11_goJudge_72 (lv_at hl 0 rfl) ?_
        refine lv_iconst (v := 1) hx hb dX11_goJudge_74 (by decide) ?_
        refine lv_iadd hx hb dX11_goJudge_75 ?_
        have hq35 := ho.1
        have ho := ho.2
        refine k_X11_toBench X hS hH hk_r hq35 t_ml_VernierDrawersModel_158 hl.1 (Nat.le_of_ble_eq_true rfl) ⟨Nat.le_of_ble_eq_true rfl, Nat.le_of_ble_eq_true rfl⟩ ⟨Nat.zero_le _, Nat.zero_le _⟩ dX11_goJudge_76 (fun da H locs v36 ev36 hH hS => ?_)
        have ho := ho v36 ev36
        refine lv_aload_n hx hb dX11_goJudge_79 rfl (lv_at hl 4 rfl) ?_
        refine g_VernierDrawersModel_7 X hH hk_r dX11_goJudge_80 ?_
        refine lv_sipush (v := 215) hx hb dX11_goJudge_83 (by decide) ?_
        refine lv_dup2_11 hx hb dX11_goJudge_86 rfl rfl ?_
        have hq37 := ho
        refine ald_M X hH (Or.inl kd_462) hq37 dX11_goJudge_87 ?_
        refine lv_iconst (v := 1) hx hb dX11_goJudge_88 (by decide) ?_
        refine lv_iadd hx hb dX11_goJudge_89 ?_
        refine ast_M X hH hS (Or.inl kd_462) hq37 dX11_goJudge_90 (fun H locs v38 ev38 hH hS => ?_)
        refine lv_iload hx hb dX11_goJudge_91 (lv_at hl 1 rfl) ?_
        replace ev10 := Eq.symm ev10
        replace ev13 := Eq.symm ev13
        replace ev36 := Eq.symm ev36
        replace ev38 := Eq.symm ev38
        subst ev10 ev13 ev36 ev38
        exact E _ _ _ _ _ _ _ _ _ dX11_goJudge_93 rfl (pr1 ((fX11_goJudge.eq_1 _ _ _).trans ((if_neg c2).trans ((if_pos c4).trans ((if_pos c14).trans rfl))))) (pr2 ((fX11_goJudge.eq_1 _ _ _).trans ((if_neg c2).trans ((if_pos c4).trans ((if_pos c14).trans rfl))))) hH hS (Nat.zero_le _) (Nat.zero_le _)
    · skip
      refine lv_ldc (v := (-100002)) hx hb hown (hts _ t_con_VernierDrawersModel_41) dX11_goJudge_19 ?_
      exact E _ _ _ _ _ _ _ _ _ dX11_goJudge_21 rfl (pr1 ((fX11_goJudge.eq_1 _ _ _).trans ((if_neg c2).trans ((if_neg c4).trans rfl)))) (pr2 ((fX11_goJudge.eq_1 _ _ _).trans ((if_neg c2).trans ((if_neg c4).trans rfl)))) hH hS (Nat.zero_le _) (Nat.zero_le _)
  · skip
    refine lv_ldc (v := (-100001)) hx hb hown (hts _ t_con_VernierDrawersModel_40) dX11_goJudge_8 ?_
    exact E _ _ _ _ _ _ _ _ _ dX11_goJudge_10 rfl (pr1 ((fX11_goJudge.eq_1 _ _ _).trans ((if_pos c2).trans rfl))) (pr2 ((fX11_goJudge.eq_1 _ _ _).trans ((if_pos c2).trans rfl))) hH hS (Nat.zero_le _) (Nat.zero_le _)
theorem k_X11_goJudge {p : Program} {l : Launch} {e : Env} {R : Room} {s : State} {m : MethodId} {args : Array Value} {below : List Frame} {meth : Method} {c : Code} {H : Heap} {locs : List Loc} {cells slots : Nat} {Q : State → Prop} {cc : ByteArray} {pc nL : Nat} {ls : Array Slot} {rest : List Value} {G : gG} {own : String} {da : Nat → Nat} {v : vSt} {x : gX} (X : CX G p s m args c cc nL own) (hS : va_S (gA G) s.heap H locs) (hH : Hp G da v x H) {r : Nat} (hk_r : kd r = 11) {p1 : Int32} (ho : oX11_goJudge r p1 v) {idx : Nat} (hml : Cond.methodLink own idx yX11_goJudge ∈ TT) (hls : ls.size = nL) (hsum : (rest.map fun v => v.category).sum ≤ 8) (hR : rmX11_goJudge.frames + 1 ≤ R.frames ∧ 8 + (6 + 11) + rmX11_goJudge.locals ≤ R.locals) (hcs : cells ≤ R.cells ∧ slots ≤ R.slots) (hdg : decode cc pc = .ok (.invokevirtual idx, 3)) (kk : ∀ (d : Nat → Nat) (H1 : Heap) (locs1 : List Loc) (v1 : vSt), v1 = (fX11_goJudge r p1 v).2 → Hp G d v1 x H1 → va_S (gA G) s.heap H1 locs1 → W p l e R s m args below meth c H1 locs1 cells slots Q (F0 m (pc + 3) ls (.int (fX11_goJudge r p1 v).1 :: rest))) : W p l e R s m args below meth c H locs cells slots Q (F0 m pc ls (.int p1 :: .ref (ga G r) :: rest)) := c_mi X.2.2.2.2.2.2 (runV (k := 1) X.1 X.2.1 X.2.2.1 X.2.2.2.1 X.2.2.2.2.1 (mX11_goJudge l G da v x r hk_r p1 ho) pW_bl hml t_im_X11_goJudge t_sel_X11_goJudge t_ini_VernierDrawersModel t_code_X11_goJudge ⟨rfl, by decide, by decide, by decide +kernel⟩ rfl rfl hR hcs (recvW X hH (by rw [hk_r]; decide) (by rw [hk_r]; decide) (ce_11 hk_r) rfl) (preW X hS hH) rfl hls rfl hsum hdg) hS kk
