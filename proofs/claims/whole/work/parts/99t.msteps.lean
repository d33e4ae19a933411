/-! ===== the reference: codes, rows in steps ===== -/
theorem dX12_stepsAt_0 : decode cX12_stepsAt 0 = .ok (.aload_n 0, 1) := by decide +kernel
theorem dX12_stepsAt_1 : decode cX12_stepsAt 1 = .ok (.getfield 432, 3) := by decide +kernel
theorem dX12_stepsAt_4 : decode cX12_stepsAt 4 = .ok (.istore_n 2, 1) := by decide +kernel
theorem dX12_stepsAt_5 : decode cX12_stepsAt 5 = .ok (.iload_n 2, 1) := by decide +kernel
theorem dX12_stepsAt_6 : decode cX12_stepsAt 6 = .ok (.aload_n 0, 1) := by decide +kernel
theorem dX12_stepsAt_7 : decode cX12_stepsAt 7 = .ok (.getfield 324, 3) := by decide +kernel
theorem dX12_stepsAt_10 : decode cX12_stepsAt 10 = .ok (.if_icmp .ge 23, 3) := by decide +kernel
theorem dX12_stepsAt_13 : decode cX12_stepsAt 13 = .ok (.aload_n 0, 1) := by decide +kernel
theorem dX12_stepsAt_14 : decode cX12_stepsAt 14 = .ok (.getfield 75, 3) := by decide +kernel
theorem dX12_stepsAt_17 : decode cX12_stepsAt 17 = .ok (.bipush 32, 2) := by decide +kernel
theorem dX12_stepsAt_19 : decode cX12_stepsAt 19 = .ok (.iload_n 2, 1) := by decide +kernel
theorem dX12_stepsAt_20 : decode cX12_stepsAt 20 = .ok (.imul, 1) := by decide +kernel
theorem dX12_stepsAt_21 : decode cX12_stepsAt 21 = .ok (.iload_n 1, 1) := by decide +kernel
theorem dX12_stepsAt_22 : decode cX12_stepsAt 22 = .ok (.iadd, 1) := by decide +kernel
theorem dX12_stepsAt_23 : decode cX12_stepsAt 23 = .ok (.iaload, 1) := by decide +kernel
theorem dX12_stepsAt_24 : decode cX12_stepsAt 24 = .ok (.ifCond .ne 9, 3) := by decide +kernel
theorem dX12_stepsAt_27 : decode cX12_stepsAt 27 = .ok (.iinc 2 1, 3) := by decide +kernel
theorem dX12_stepsAt_30 : decode cX12_stepsAt 30 = .ok (.goto (-25), 3) := by decide +kernel
theorem dX12_stepsAt_33 : decode cX12_stepsAt 33 = .ok (.iload_n 2, 1) := by decide +kernel
theorem dX12_stepsAt_34 : decode cX12_stepsAt 34 = .ok (.aload_n 0, 1) := by decide +kernel
theorem dX12_stepsAt_35 : decode cX12_stepsAt 35 = .ok (.getfield 324, 3) := by decide +kernel
theorem dX12_stepsAt_38 : decode cX12_stepsAt 38 = .ok (.if_icmp .ne 4, 3) := by decide +kernel
theorem dX12_stepsAt_41 : decode cX12_stepsAt 41 = .ok (.return_, 1) := by decide +kernel
theorem dX12_stepsAt_42 : decode cX12_stepsAt 42 = .ok (.iconst 0, 1) := by decide +kernel
theorem dX12_stepsAt_43 : decode cX12_stepsAt 43 = .ok (.istore_n 3, 1) := by decide +kernel
theorem dX12_stepsAt_44 : decode cX12_stepsAt 44 = .ok (.iload_n 3, 1) := by decide +kernel
theorem dX12_stepsAt_45 : decode cX12_stepsAt 45 = .ok (.aload_n 0, 1) := by decide +kernel
theorem dX12_stepsAt_46 : decode cX12_stepsAt 46 = .ok (.getfield 423, 3) := by decide +kernel
theorem dX12_stepsAt_49 : decode cX12_stepsAt 49 = .ok (.if_icmp .ge 63, 3) := by decide +kernel
theorem dX12_stepsAt_52 : decode cX12_stepsAt 52 = .ok (.aload_n 0, 1) := by decide +kernel
theorem dX12_stepsAt_53 : decode cX12_stepsAt 53 = .ok (.getfield 75, 3) := by decide +kernel
theorem dX12_stepsAt_56 : decode cX12_stepsAt 56 = .ok (.bipush 32, 2) := by decide +kernel
theorem dX12_stepsAt_58 : decode cX12_stepsAt 58 = .ok (.iload_n 2, 1) := by decide +kernel
theorem dX12_stepsAt_59 : decode cX12_stepsAt 59 = .ok (.imul, 1) := by decide +kernel
theorem dX12_stepsAt_60 : decode cX12_stepsAt 60 = .ok (.iload_n 3, 1) := by decide +kernel
theorem dX12_stepsAt_61 : decode cX12_stepsAt 61 = .ok (.iadd, 1) := by decide +kernel
theorem dX12_stepsAt_62 : decode cX12_stepsAt 62 = .ok (.iaload, 1) := by decide +kernel
theorem dX12_stepsAt_63 : decode cX12_stepsAt 63 = .ok (.istore 4, 2) := by decide +kernel
theorem dX12_stepsAt_65 : decode cX12_stepsAt 65 = .ok (.aload_n 0, 1) := by decide +kernel
theorem dX12_stepsAt_66 : decode cX12_stepsAt 66 = .ok (.getfield 75, 3) := by decide +kernel
theorem dX12_stepsAt_69 : decode cX12_stepsAt 69 = .ok (.bipush 32, 2) := by decide +kernel
theorem dX12_stepsAt_71 : decode cX12_stepsAt 71 = .ok (.iload_n 2, 1) := by decide +kernel
theorem dX12_stepsAt_72 : decode cX12_stepsAt 72 = .ok (.imul, 1) := by decide +kernel
theorem dX12_stepsAt_73 : decode cX12_stepsAt 73 = .ok (.iload_n 3, 1) := by decide +kernel
theorem dX12_stepsAt_74 : decode cX12_stepsAt 74 = .ok (.iadd, 1) := by decide +kernel
theorem dX12_stepsAt_75 : decode cX12_stepsAt 75 = .ok (.aload_n 0, 1) := by decide +kernel
theorem dX12_stepsAt_76 : decode cX12_stepsAt 76 = .ok (.getfield 75, 3) := by decide +kernel
theorem dX12_stepsAt_79 : decode cX12_stepsAt 79 = .ok (.bipush 32, 2) := by decide +kernel
theorem dX12_stepsAt_81 : decode cX12_stepsAt 81 = .ok (.aload_n 0, 1) := by decide +kernel
theorem dX12_stepsAt_82 : decode cX12_stepsAt 82 = .ok (.getfield 432, 3) := by decide +kernel
theorem dX12_stepsAt_85 : decode cX12_stepsAt 85 = .ok (.imul, 1) := by decide +kernel
theorem dX12_stepsAt_86 : decode cX12_stepsAt 86 = .ok (.iload_n 3, 1) := by decide +kernel
theorem dX12_stepsAt_87 : decode cX12_stepsAt 87 = .ok (.iadd, 1) := by decide +kernel
theorem dX12_stepsAt_88 : decode cX12_stepsAt 88 = .ok (.iaload, 1) := by decide +kernel
theorem dX12_stepsAt_89 : decode cX12_stepsAt 89 = .ok (.iastore, 1) := by decide +kernel
theorem dX12_stepsAt_90 : decode cX12_stepsAt 90 = .ok (.aload_n 0, 1) := by decide +kernel
theorem dX12_stepsAt_91 : decode cX12_stepsAt 91 = .ok (.getfield 75, 3) := by decide +kernel
theorem dX12_stepsAt_94 : decode cX12_stepsAt 94 = .ok (.bipush 32, 2) := by decide +kernel
theorem dX12_stepsAt_96 : decode cX12_stepsAt 96 = .ok (.aload_n 0, 1) := by decide +kernel
theorem dX12_stepsAt_97 : decode cX12_stepsAt 97 = .ok (.getfield 432, 3) := by decide +kernel
theorem dX12_stepsAt_100 : decode cX12_stepsAt 100 = .ok (.imul, 1) := by decide +kernel
theorem dX12_stepsAt_101 : decode cX12_stepsAt 101 = .ok (.iload_n 3, 1) := by decide +kernel
theorem dX12_stepsAt_102 : decode cX12_stepsAt 102 = .ok (.iadd, 1) := by decide +kernel
theorem dX12_stepsAt_103 : decode cX12_stepsAt 103 = .ok (.iload 4, 2) := by decide +kernel
theorem dX12_stepsAt_105 : decode cX12_stepsAt 105 = .ok (.iastore, 1) := by decide +kernel
theorem dX12_stepsAt_106 : decode cX12_stepsAt 106 = .ok (.iinc 3 1, 3) := by decide +kernel
theorem dX12_stepsAt_109 : decode cX12_stepsAt 109 = .ok (.goto (-65), 3) := by decide +kernel
theorem dX12_stepsAt_112 : decode cX12_stepsAt 112 = .ok (.aload_n 0, 1) := by decide +kernel
theorem dX12_stepsAt_113 : decode cX12_stepsAt 113 = .ok (.aload_n 0, 1) := by decide +kernel
theorem dX12_stepsAt_114 : decode cX12_stepsAt 114 = .ok (.getfield 75, 3) := by decide +kernel
theorem dX12_stepsAt_117 : decode cX12_stepsAt 117 = .ok (.bipush 32, 2) := by decide +kernel
theorem dX12_stepsAt_119 : decode cX12_stepsAt 119 = .ok (.aload_n 0, 1) := by decide +kernel
theorem dX12_stepsAt_120 : decode cX12_stepsAt 120 = .ok (.getfield 432, 3) := by decide +kernel
theorem dX12_stepsAt_123 : decode cX12_stepsAt 123 = .ok (.imul, 1) := by decide +kernel
theorem dX12_stepsAt_124 : decode cX12_stepsAt 124 = .ok (.iload_n 1, 1) := by decide +kernel
theorem dX12_stepsAt_125 : decode cX12_stepsAt 125 = .ok (.iadd, 1) := by decide +kernel
theorem dX12_stepsAt_126 : decode cX12_stepsAt 126 = .ok (.iaload, 1) := by decide +kernel
theorem dX12_stepsAt_127 : decode cX12_stepsAt 127 = .ok (.invokevirtual 202, 3) := by decide +kernel
theorem dX12_stepsAt_130 : decode cX12_stepsAt 130 = .ok (.istore_n 3, 1) := by decide +kernel
theorem dX12_stepsAt_131 : decode cX12_stepsAt 131 = .ok (.aload_n 0, 1) := by decide +kernel
theorem dX12_stepsAt_132 : decode cX12_stepsAt 132 = .ok (.getfield 432, 3) := by decide +kernel
theorem dX12_stepsAt_135 : decode cX12_stepsAt 135 = .ok (.iconst 1, 1) := by decide +kernel
theorem dX12_stepsAt_136 : decode cX12_stepsAt 136 = .ok (.iadd, 1) := by decide +kernel
theorem dX12_stepsAt_137 : decode cX12_stepsAt 137 = .ok (.istore 4, 2) := by decide +kernel
theorem dX12_stepsAt_139 : decode cX12_stepsAt 139 = .ok (.iload 4, 2) := by decide +kernel
theorem dX12_stepsAt_141 : decode cX12_stepsAt 141 = .ok (.aload_n 0, 1) := by decide +kernel
theorem dX12_stepsAt_142 : decode cX12_stepsAt 142 = .ok (.getfield 324, 3) := by decide +kernel
theorem dX12_stepsAt_145 : decode cX12_stepsAt 145 = .ok (.if_icmp .ge 96, 3) := by decide +kernel
theorem dX12_stepsAt_148 : decode cX12_stepsAt 148 = .ok (.aload_n 0, 1) := by decide +kernel
theorem dX12_stepsAt_149 : decode cX12_stepsAt 149 = .ok (.aload_n 0, 1) := by decide +kernel
theorem dX12_stepsAt_150 : decode cX12_stepsAt 150 = .ok (.getfield 75, 3) := by decide +kernel
theorem dX12_stepsAt_153 : decode cX12_stepsAt 153 = .ok (.bipush 32, 2) := by decide +kernel
theorem dX12_stepsAt_155 : decode cX12_stepsAt 155 = .ok (.iload 4, 2) := by decide +kernel
theorem dX12_stepsAt_157 : decode cX12_stepsAt 157 = .ok (.imul, 1) := by decide +kernel
theorem dX12_stepsAt_158 : decode cX12_stepsAt 158 = .ok (.iload_n 1, 1) := by decide +kernel
theorem dX12_stepsAt_159 : decode cX12_stepsAt 159 = .ok (.iadd, 1) := by decide +kernel
theorem dX12_stepsAt_160 : decode cX12_stepsAt 160 = .ok (.iaload, 1) := by decide +kernel
theorem dX12_stepsAt_161 : decode cX12_stepsAt 161 = .ok (.iload_n 3, 1) := by decide +kernel
theorem dX12_stepsAt_162 : decode cX12_stepsAt 162 = .ok (.imul, 1) := by decide +kernel
theorem dX12_stepsAt_163 : decode cX12_stepsAt 163 = .ok (.invokevirtual 182, 3) := by decide +kernel
theorem dX12_stepsAt_166 : decode cX12_stepsAt 166 = .ok (.istore 5, 2) := by decide +kernel
theorem dX12_stepsAt_168 : decode cX12_stepsAt 168 = .ok (.iconst 0, 1) := by decide +kernel
theorem dX12_stepsAt_169 : decode cX12_stepsAt 169 = .ok (.istore 6, 2) := by decide +kernel
theorem dX12_stepsAt_171 : decode cX12_stepsAt 171 = .ok (.iload 6, 2) := by decide +kernel
theorem dX12_stepsAt_173 : decode cX12_stepsAt 173 = .ok (.aload_n 0, 1) := by decide +kernel
theorem dX12_stepsAt_174 : decode cX12_stepsAt 174 = .ok (.getfield 423, 3) := by decide +kernel
theorem dX12_stepsAt_177 : decode cX12_stepsAt 177 = .ok (.if_icmp .ge 58, 3) := by decide +kernel
theorem dX12_stepsAt_180 : decode cX12_stepsAt 180 = .ok (.aload_n 0, 1) := by decide +kernel
theorem dX12_stepsAt_181 : decode cX12_stepsAt 181 = .ok (.getfield 75, 3) := by decide +kernel
theorem dX12_stepsAt_184 : decode cX12_stepsAt 184 = .ok (.bipush 32, 2) := by decide +kernel
theorem dX12_stepsAt_186 : decode cX12_stepsAt 186 = .ok (.iload 4, 2) := by decide +kernel
theorem dX12_stepsAt_188 : decode cX12_stepsAt 188 = .ok (.imul, 1) := by decide +kernel
theorem dX12_stepsAt_189 : decode cX12_stepsAt 189 = .ok (.iload 6, 2) := by decide +kernel
theorem dX12_stepsAt_191 : decode cX12_stepsAt 191 = .ok (.iadd, 1) := by decide +kernel
theorem dX12_stepsAt_192 : decode cX12_stepsAt 192 = .ok (.aload_n 0, 1) := by decide +kernel
theorem dX12_stepsAt_193 : decode cX12_stepsAt 193 = .ok (.aload_n 0, 1) := by decide +kernel
theorem dX12_stepsAt_194 : decode cX12_stepsAt 194 = .ok (.getfield 75, 3) := by decide +kernel
theorem dX12_stepsAt_197 : decode cX12_stepsAt 197 = .ok (.bipush 32, 2) := by decide +kernel
theorem dX12_stepsAt_199 : decode cX12_stepsAt 199 = .ok (.iload 4, 2) := by decide +kernel
theorem dX12_stepsAt_201 : decode cX12_stepsAt 201 = .ok (.imul, 1) := by decide +kernel
theorem dX12_stepsAt_202 : decode cX12_stepsAt 202 = .ok (.iload 6, 2) := by decide +kernel
theorem dX12_stepsAt_204 : decode cX12_stepsAt 204 = .ok (.iadd, 1) := by decide +kernel
theorem dX12_stepsAt_205 : decode cX12_stepsAt 205 = .ok (.iaload, 1) := by decide +kernel
theorem dX12_stepsAt_206 : decode cX12_stepsAt 206 = .ok (.iload 5, 2) := by decide +kernel
theorem dX12_stepsAt_208 : decode cX12_stepsAt 208 = .ok (.aload_n 0, 1) := by decide +kernel
theorem dX12_stepsAt_209 : decode cX12_stepsAt 209 = .ok (.getfield 75, 3) := by decide +kernel
theorem dX12_stepsAt_212 : decode cX12_stepsAt 212 = .ok (.bipush 32, 2) := by decide +kernel
theorem dX12_stepsAt_214 : decode cX12_stepsAt 214 = .ok (.aload_n 0, 1) := by decide +kernel
theorem dX12_stepsAt_215 : decode cX12_stepsAt 215 = .ok (.getfield 432, 3) := by decide +kernel
theorem dX12_stepsAt_218 : decode cX12_stepsAt 218 = .ok (.imul, 1) := by decide +kernel
theorem dX12_stepsAt_219 : decode cX12_stepsAt 219 = .ok (.iload 6, 2) := by decide +kernel
theorem dX12_stepsAt_221 : decode cX12_stepsAt 221 = .ok (.iadd, 1) := by decide +kernel
theorem dX12_stepsAt_222 : decode cX12_stepsAt 222 = .ok (.iaload, 1) := by decide +kernel
theorem dX12_stepsAt_223 : decode cX12_stepsAt 223 = .ok (.imul, 1) := by decide +kernel
theorem dX12_stepsAt_224 : decode cX12_stepsAt 224 = .ok (.isub, 1) := by decide +kernel
theorem dX12_stepsAt_225 : decode cX12_stepsAt 225 = .ok (.invokevirtual 182, 3) := by decide +kernel
theorem dX12_stepsAt_228 : decode cX12_stepsAt 228 = .ok (.iastore, 1) := by decide +kernel
theorem dX12_stepsAt_229 : decode cX12_stepsAt 229 = .ok (.iinc 6 1, 3) := by decide +kernel
theorem dX12_stepsAt_232 : decode cX12_stepsAt 232 = .ok (.goto (-61), 3) := by decide +kernel
theorem dX12_stepsAt_235 : decode cX12_stepsAt 235 = .ok (.iinc 4 1, 3) := by decide +kernel
theorem dX12_stepsAt_238 : decode cX12_stepsAt 238 = .ok (.goto (-99), 3) := by decide +kernel
theorem dX12_stepsAt_241 : decode cX12_stepsAt 241 = .ok (.aload_n 0, 1) := by decide +kernel
theorem dX12_stepsAt_242 : decode cX12_stepsAt 242 = .ok (.dup, 1) := by decide +kernel
theorem dX12_stepsAt_243 : decode cX12_stepsAt 243 = .ok (.getfield 432, 3) := by decide +kernel
theorem dX12_stepsAt_246 : decode cX12_stepsAt 246 = .ok (.iconst 1, 1) := by decide +kernel
theorem dX12_stepsAt_247 : decode cX12_stepsAt 247 = .ok (.iadd, 1) := by decide +kernel
theorem dX12_stepsAt_248 : decode cX12_stepsAt 248 = .ok (.putfield 432, 3) := by decide +kernel
theorem dX12_stepsAt_251 : decode cX12_stepsAt 251 = .ok (.return_, 1) := by decide +kernel
set_option maxRecDepth 20000 in
theorem b_X12_stepsAt_0 {k n : Nat} {x : Wx} {Z : Zt} {Q : Option Value → Wx → Zt → Prop} {a0 : Nat} {v1 : Int} (o_a0 : Is12 x a0)
    (h : V mX12_stepsAt k n 5 [some (r_ a0), some (i_ v1), some (i_ (Z a0 40)), none, none, none, none] [] x Z Q) :
    V mX12_stepsAt k n 0 [some (r_ a0), some (i_ v1), none, none, none, none, none] [] x Z Q :=
  V_aload_n dX12_stepsAt_0 rfl (G_12_40 o_a0.1 lf_12_432 dX12_stepsAt_1 (V_istore_n (lv' := [some (r_ a0), some (i_ v1), some (i_ (Z a0 40)), none, none, none, none]) dX12_stepsAt_4 (Nat.le_of_ble_eq_true rfl) rfl (V_msk [true, true, true, false, false, false, false] rfl h)))
set_option maxRecDepth 20000 in
theorem b_X12_stepsAt_5 {k n : Nat} {x : Wx} {Z : Zt} {Q : Option Value → Wx → Zt → Prop} {a0 : Nat} {v1 : Int} {v2 : Int} (o_a0 : Is12 x a0)
    (h : Rg v2 ∧ Rg (Z a0 28) ∧ (((Z a0 28 ≤ v2) → (V mX12_stepsAt k n 33 [some (r_ a0), some (i_ v1), some (i_ v2), none, none, none, none] [] x Z Q)) ∧ ((v2 < Z a0 28) → (0 ≤ (32 * v2) + v1 ∧ (32 * v2) + v1 < 3072 ∧ (Rg (Z (a0 + 22) ((32 * v2) + v1).toNat) ∧ (((Z (a0 + 22) ((32 * v2) + v1).toNat ≠ 0) → (V mX12_stepsAt k n 33 [some (r_ a0), some (i_ v1), some (i_ v2), none, none, none, none] [] x Z Q)) ∧ ((Z (a0 + 22) ((32 * v2) + v1).toNat = 0) → (V mX12_stepsAt k n 5 [some (r_ a0), some (i_ v1), some (i_ (v2 + 1)), none, none, none, none] [] x Z Q)))))))) :
    V mX12_stepsAt k n 5 [some (r_ a0), some (i_ v1), some (i_ v2), none, none, none, none] [] x Z Q :=
  V_iload_n dX12_stepsAt_5 rfl (V_aload_n dX12_stepsAt_6 rfl (G_12_28 o_a0.1 lf_12_324 dX12_stepsAt_7 (V_icmp_ge (tgt := 33) dX12_stepsAt_10 rfl h.1 h.2.1 (fun c1 => V_msk [true, true, true, false, false, false, false] rfl (h.2.2.1 c1)) (fun c1 => V_aload_n dX12_stepsAt_13 rfl (G_12_38 o_a0.1 o_a0.qR38 lf_12_75 dX12_stepsAt_14 (V_bipush dX12_stepsAt_17 rfl (V_iload_n dX12_stepsAt_19 rfl (V_imul dX12_stepsAt_20 (V_iload_n dX12_stepsAt_21 rfl (V_iadd dX12_stepsAt_22 (V_iald (t := 100) o_a0.qK38 (by decide) rfl (h.2.2.2 c1).1 (h.2.2.2 c1).2.1 (Nat.le_of_ble_eq_true rfl) dX12_stepsAt_23 (V_if_ne (tgt := 33) dX12_stepsAt_24 rfl (h.2.2.2 c1).2.2.1 (fun c2 => V_msk [true, true, true, false, false, false, false] rfl ((h.2.2.2 c1).2.2.2.1 c2)) (fun c2 => V_iinc (lv' := [some (r_ a0), some (i_ v1), some (i_ (v2 + 1)), none, none, none, none]) dX12_stepsAt_27 rfl (Nat.le_of_ble_eq_true rfl) rfl (V_goto (tgt := 5) dX12_stepsAt_30 rfl (V_msk [true, true, true, false, false, false, false] rfl ((h.2.2.2 c1).2.2.2.2 c2))))))))))))))))
set_option maxRecDepth 20000 in
theorem b_X12_stepsAt_33 {k n : Nat} {x : Wx} {Z : Zt} {Q : Option Value → Wx → Zt → Prop} {a0 : Nat} {v1 : Int} {v2 : Int} (o_a0 : Is12 x a0)
    (h : Rg v2 ∧ Rg (Z a0 28) ∧ (((v2 ≠ Z a0 28) → (V mX12_stepsAt k n 44 [some (r_ a0), some (i_ v1), some (i_ v2), some (i_ 0), none, none, none] [] x Z Q)) ∧ ((v2 = Z a0 28) → (Q none x Z)))) :
    V mX12_stepsAt k n 33 [some (r_ a0), some (i_ v1), some (i_ v2), none, none, none, none] [] x Z Q :=
  V_iload_n dX12_stepsAt_33 rfl (V_aload_n dX12_stepsAt_34 rfl (G_12_28 o_a0.1 lf_12_324 dX12_stepsAt_35 (V_icmp_ne (tgt := 42) dX12_stepsAt_38 rfl h.1 h.2.1 (fun c1 => V_iconst dX12_stepsAt_42 (V_istore_n (lv' := [some (r_ a0), some (i_ v1), some (i_ v2), some (i_ 0), none, none, none]) dX12_stepsAt_43 (Nat.le_of_ble_eq_true rfl) rfl (V_msk [true, true, true, true, false, false, false] rfl (h.2.2.1 c1)))) (fun c1 => V_ret dX12_stepsAt_41 rfl (h.2.2.2 c1)))))
set_option maxRecDepth 20000 in
theorem b_X12_stepsAt_44 {k n : Nat} {x : Wx} {Z : Zt} {Q : Option Value → Wx → Zt → Prop} {a0 : Nat} {v1 : Int} {v2 : Int} {v3 : Int} (o_a0 : Is12 x a0)
    (h : Rg v3 ∧ Rg (Z a0 39) ∧ (((Z a0 39 ≤ v3) → (0 ≤ (32 * (Z a0 40)) + v1 ∧ (32 * (Z a0 40)) + v1 < 3072 ∧ (∃ g1 : Int, ((IsP g1 ∧ Z a0 11 = g1) ∧ (0 < (Z (a0 + 22) ((32 * (Z a0 40)) + v1).toNat) ∧ (Z (a0 + 22) ((32 * (Z a0 40)) + v1).toNat) < g1) ∧ (V mX12_stepsAt k n 139 [some (r_ a0), some (i_ v1), none, some (i_ (inv g1 (Z (a0 + 22) ((32 * (Z a0 40)) + v1).toNat))), some (i_ ((Z a0 40) + 1)), none, none] [] x Z Q))))) ∧ ((v3 < Z a0 39) → (0 ≤ (32 * v2) + v3 ∧ (32 * v2) + v3 < 3072 ∧ (0 ≤ (32 * (Z a0 40)) + v3 ∧ (32 * (Z a0 40)) + v3 < 3072 ∧ (∀ Z1 : Zt, Z1 = up Z (a0 + 22) ((32 * v2) + v3).toNat (Z (a0 + 22) ((32 * (Z a0 40)) + v3).toNat) → (0 ≤ (32 * (Z1 a0 40)) + v3 ∧ (32 * (Z1 a0 40)) + v3 < 3072 ∧ (∀ Z2 : Zt, Z2 = up Z1 (a0 + 22) ((32 * (Z1 a0 40)) + v3).toNat (Z (a0 + 22) ((32 * v2) + v3).toNat) → (V mX12_stepsAt k n 44 [some (r_ a0), some (i_ v1), some (i_ v2), some (i_ (v3 + 1)), none, none, none] [] x Z2 Q))))))))) :
    V mX12_stepsAt k n 44 [some (r_ a0), some (i_ v1), some (i_ v2), some (i_ v3), none, none, none] [] x Z Q :=
  V_iload_n dX12_stepsAt_44 rfl (V_aload_n dX12_stepsAt_45 rfl (G_12_39 o_a0.1 lf_12_423 dX12_stepsAt_46 (V_icmp_ge (tgt := 112) dX12_stepsAt_49 rfl h.1 h.2.1 (fun c1 => V_aload_n dX12_stepsAt_112 rfl (V_aload_n dX12_stepsAt_113 rfl (G_12_38 o_a0.1 o_a0.qR38 lf_12_75 dX12_stepsAt_114 (V_bipush dX12_stepsAt_117 rfl (V_aload_n dX12_stepsAt_119 rfl (G_12_40 o_a0.1 lf_12_432 dX12_stepsAt_120 (V_imul dX12_stepsAt_123 (V_iload_n dX12_stepsAt_124 rfl (V_iadd dX12_stepsAt_125 (V_iald (t := 100) o_a0.qK38 (by decide) rfl (h.2.2.1 c1).1 (h.2.2.1 c1).2.1 (Nat.le_of_ble_eq_true rfl) dX12_stepsAt_126 (Exists.elim (h.2.2.1 c1).2.2 (fun g1 w1 => V_callV (k' := 0) (n' := 0) (t := 12) (q := (RX12, TX12, 46)) [i_ (Z (a0 + 22) ((32 * (Z a0 40)) + v1).toNat)] [] okX12_inverse o_a0.1 rfl rfl lm_12_202 liX12_inverse lqX12_inverse (Nat.le_of_ble_eq_true rfl) (Nat.le_of_ble_eq_true rfl) (Nat.le_of_ble_eq_true rfl) (cat_of rfl) (Nat.le_of_ble_eq_true rfl) (Nat.zero_le _) (Nat.zero_le _) rfl dX12_stepsAt_127 (sp_X12_inverse o_a0 w1.1 w1.2.1 (V_istore_n (lv' := [some (r_ a0), some (i_ v1), some (i_ v2), some (i_ (inv g1 (Z (a0 + 22) ((32 * (Z a0 40)) + v1).toNat))), none, none, none]) dX12_stepsAt_130 (Nat.le_of_ble_eq_true rfl) rfl (V_aload_n dX12_stepsAt_131 rfl (G_12_40 o_a0.1 lf_12_432 dX12_stepsAt_132 (V_iconst dX12_stepsAt_135 (V_iadd dX12_stepsAt_136 (V_istore (lv' := [some (r_ a0), some (i_ v1), some (i_ v2), some (i_ (inv g1 (Z (a0 + 22) ((32 * (Z a0 40)) + v1).toNat))), some (i_ ((Z a0 40) + 1)), none, none]) dX12_stepsAt_137 (Nat.le_of_ble_eq_true rfl) rfl (V_msk [true, true, false, true, true, false, false] rfl w1.2.2)))))))))))))))))))) (fun c1 => V_aload_n dX12_stepsAt_52 rfl (G_12_38 o_a0.1 o_a0.qR38 lf_12_75 dX12_stepsAt_53 (V_bipush dX12_stepsAt_56 rfl (V_iload_n dX12_stepsAt_58 rfl (V_imul dX12_stepsAt_59 (V_iload_n dX12_stepsAt_60 rfl (V_iadd dX12_stepsAt_61 (V_iald (t := 100) o_a0.qK38 (by decide) rfl (h.2.2.2 c1).1 (h.2.2.2 c1).2.1 (Nat.le_of_ble_eq_true rfl) dX12_stepsAt_62 (V_istore (lv' := [some (r_ a0), some (i_ v1), some (i_ v2), some (i_ v3), some (i_ (Z (a0 + 22) ((32 * v2) + v3).toNat)), none, none]) dX12_stepsAt_63 (Nat.le_of_ble_eq_true rfl) rfl (V_aload_n dX12_stepsAt_65 rfl (G_12_38 o_a0.1 o_a0.qR38 lf_12_75 dX12_stepsAt_66 (V_bipush dX12_stepsAt_69 rfl (V_iload_n dX12_stepsAt_71 rfl (V_imul dX12_stepsAt_72 (V_iload_n dX12_stepsAt_73 rfl (V_iadd dX12_stepsAt_74 (V_aload_n dX12_stepsAt_75 rfl (G_12_38 o_a0.1 o_a0.qR38 lf_12_75 dX12_stepsAt_76 (V_bipush dX12_stepsAt_79 rfl (V_aload_n dX12_stepsAt_81 rfl (G_12_40 o_a0.1 lf_12_432 dX12_stepsAt_82 (V_imul dX12_stepsAt_85 (V_iload_n dX12_stepsAt_86 rfl (V_iadd dX12_stepsAt_87 (V_iald (t := 100) o_a0.qK38 (by decide) rfl (h.2.2.2 c1).2.2.1 (h.2.2.2 c1).2.2.2.1 (Nat.le_of_ble_eq_true rfl) dX12_stepsAt_88 (V_iast (t := 100) o_a0.qK38 (by decide) (by decide) rfl (h.2.2.2 c1).1 (h.2.2.2 c1).2.1 (Nat.le_of_ble_eq_true rfl) dX12_stepsAt_89 (V_nmZ (fun Z1 eZ1 => V_aload_n dX12_stepsAt_90 rfl (G_12_38 o_a0.1 o_a0.qR38 lf_12_75 dX12_stepsAt_91 (V_bipush dX12_stepsAt_94 rfl (V_aload_n dX12_stepsAt_96 rfl (G_12_40 o_a0.1 lf_12_432 dX12_stepsAt_97 (V_imul dX12_stepsAt_100 (V_iload_n dX12_stepsAt_101 rfl (V_iadd dX12_stepsAt_102 (V_iload dX12_stepsAt_103 rfl (V_iast (t := 100) o_a0.qK38 (by decide) (by decide) rfl ((h.2.2.2 c1).2.2.2.2 Z1 eZ1).1 ((h.2.2.2 c1).2.2.2.2 Z1 eZ1).2.1 (Nat.le_of_ble_eq_true rfl) dX12_stepsAt_105 (V_nmZ (fun Z2 eZ2 => V_iinc (lv' := [some (r_ a0), some (i_ v1), some (i_ v2), some (i_ (v3 + 1)), some (i_ (Z (a0 + 22) ((32 * v2) + v3).toNat)), none, none]) dX12_stepsAt_106 rfl (Nat.le_of_ble_eq_true rfl) rfl (V_goto (tgt := 44) dX12_stepsAt_109 rfl (V_msk [true, true, true, true, false, false, false] rfl (((h.2.2.2 c1).2.2.2.2 Z1 eZ1).2.2 Z2 eZ2)))))))))))))))))))))))))))))))))))))))))))))
set_option maxRecDepth 20000 in
theorem b_X12_stepsAt_139 {k n : Nat} {x : Wx} {Z : Zt} {Q : Option Value → Wx → Zt → Prop} {a0 : Nat} {v1 : Int} {v3 : Int} {v4 : Int} (o_a0 : Is12 x a0)
    (h : Rg v4 ∧ Rg (Z a0 28) ∧ (((Z a0 28 ≤ v4) → (∀ Z1 : Zt, Z1 = up Z a0 40 ((Z a0 40) + 1) → (Q none x Z1))) ∧ ((v4 < Z a0 28) → (0 ≤ (32 * v4) + v1 ∧ (32 * v4) + v1 < 3072 ∧ (Rg ((Z (a0 + 22) ((32 * v4) + v1).toNat) * v3) ∧ 0 < Z a0 11 ∧ Z a0 11 ≤ 13 ∧ (V mX12_stepsAt k n 171 [some (r_ a0), some (i_ v1), none, some (i_ v3), some (i_ v4), some (i_ (((Z (a0 + 22) ((32 * v4) + v1).toNat) * v3) % Z a0 11)), some (i_ 0)] [] x Z Q)))))) :
    V mX12_stepsAt k n 139 [some (r_ a0), some (i_ v1), none, some (i_ v3), some (i_ v4), none, none] [] x Z Q :=
  V_iload dX12_stepsAt_139 rfl (V_aload_n dX12_stepsAt_141 rfl (G_12_28 o_a0.1 lf_12_324 dX12_stepsAt_142 (V_icmp_ge (tgt := 241) dX12_stepsAt_145 rfl h.1 h.2.1 (fun c1 => V_aload_n dX12_stepsAt_241 rfl (V_dup dX12_stepsAt_242 rfl (G_12_40 o_a0.1 lf_12_432 dX12_stepsAt_243 (V_iconst dX12_stepsAt_246 (V_iadd dX12_stepsAt_247 (P_12_40 o_a0.1 lf_12_432 dX12_stepsAt_248 (V_nmZ (fun Z1 eZ1 => V_ret dX12_stepsAt_251 rfl ((h.2.2.1 c1) Z1 eZ1))))))))) (fun c1 => V_aload_n dX12_stepsAt_148 rfl (V_aload_n dX12_stepsAt_149 rfl (G_12_38 o_a0.1 o_a0.qR38 lf_12_75 dX12_stepsAt_150 (V_bipush dX12_stepsAt_153 rfl (V_iload dX12_stepsAt_155 rfl (V_imul dX12_stepsAt_157 (V_iload_n dX12_stepsAt_158 rfl (V_iadd dX12_stepsAt_159 (V_iald (t := 100) o_a0.qK38 (by decide) rfl (h.2.2.2 c1).1 (h.2.2.2 c1).2.1 (Nat.le_of_ble_eq_true rfl) dX12_stepsAt_160 (V_iload_n dX12_stepsAt_161 rfl (V_imul dX12_stepsAt_162 (V_callV (k' := 0) (n' := 0) (t := 12) (q := (RX12, TX12, 46)) [i_ ((Z (a0 + 22) ((32 * v4) + v1).toNat) * v3)] [] okX12_mod o_a0.1 rfl rfl lm_12_182 liX12_mod lqX12_mod (Nat.le_of_ble_eq_true rfl) (Nat.le_of_ble_eq_true rfl) (Nat.le_of_ble_eq_true rfl) (cat_of rfl) (Nat.le_of_ble_eq_true rfl) (Nat.zero_le _) (Nat.zero_le _) rfl dX12_stepsAt_163 (sp_X12_mod o_a0 (h.2.2.2 c1).2.2.1 (h.2.2.2 c1).2.2.2.1 (h.2.2.2 c1).2.2.2.2.1 (V_istore (lv' := [some (r_ a0), some (i_ v1), none, some (i_ v3), some (i_ v4), some (i_ (((Z (a0 + 22) ((32 * v4) + v1).toNat) * v3) % Z a0 11)), none]) dX12_stepsAt_166 (Nat.le_of_ble_eq_true rfl) rfl (V_iconst dX12_stepsAt_168 (V_istore (lv' := [some (r_ a0), some (i_ v1), none, some (i_ v3), some (i_ v4), some (i_ (((Z (a0 + 22) ((32 * v4) + v1).toNat) * v3) % Z a0 11)), some (i_ 0)]) dX12_stepsAt_169 (Nat.le_of_ble_eq_true rfl) rfl (V_msk [true, true, false, true, true, true, true] rfl (h.2.2.2 c1).2.2.2.2.2))))))))))))))))))))
set_option maxRecDepth 20000 in
theorem b_X12_stepsAt_171 {k n : Nat} {x : Wx} {Z : Zt} {Q : Option Value → Wx → Zt → Prop} {a0 : Nat} {v1 : Int} {v3 : Int} {v4 : Int} {v5 : Int} {v6 : Int} (o_a0 : Is12 x a0)
    (h : Rg v6 ∧ Rg (Z a0 39) ∧ (((Z a0 39 ≤ v6) → (V mX12_stepsAt k n 139 [some (r_ a0), some (i_ v1), none, some (i_ v3), some (i_ (v4 + 1)), none, none] [] x Z Q)) ∧ ((v6 < Z a0 39) → (0 ≤ (32 * v4) + v6 ∧ (32 * v4) + v6 < 3072 ∧ (0 ≤ (32 * (Z a0 40)) + v6 ∧ (32 * (Z a0 40)) + v6 < 3072 ∧ (Rg ((Z (a0 + 22) ((32 * v4) + v6).toNat) - (v5 * (Z (a0 + 22) ((32 * (Z a0 40)) + v6).toNat))) ∧ 0 < Z a0 11 ∧ Z a0 11 ≤ 13 ∧ (∀ Z1 : Zt, Z1 = up Z (a0 + 22) ((32 * v4) + v6).toNat (((Z (a0 + 22) ((32 * v4) + v6).toNat) - (v5 * (Z (a0 + 22) ((32 * (Z a0 40)) + v6).toNat))) % Z a0 11) → (V mX12_stepsAt k n 171 [some (r_ a0), some (i_ v1), none, some (i_ v3), some (i_ v4), some (i_ v5), some (i_ (v6 + 1))] [] x Z1 Q)))))))) :
    V mX12_stepsAt k n 171 [some (r_ a0), some (i_ v1), none, some (i_ v3), some (i_ v4), some (i_ v5), some (i_ v6)] [] x Z Q :=
  V_iload dX12_stepsAt_171 rfl (V_aload_n dX12_stepsAt_173 rfl (G_12_39 o_a0.1 lf_12_423 dX12_stepsAt_174 (V_icmp_ge (tgt := 235) dX12_stepsAt_177 rfl h.1 h.2.1 (fun c1 => V_iinc (lv' := [some (r_ a0), some (i_ v1), none, some (i_ v3), some (i_ (v4 + 1)), some (i_ v5), some (i_ v6)]) dX12_stepsAt_235 rfl (Nat.le_of_ble_eq_true rfl) rfl (V_goto (tgt := 139) dX12_stepsAt_238 rfl (V_msk [true, true, false, true, true, false, false] rfl (h.2.2.1 c1)))) (fun c1 => V_aload_n dX12_stepsAt_180 rfl (G_12_38 o_a0.1 o_a0.qR38 lf_12_75 dX12_stepsAt_181 (V_bipush dX12_stepsAt_184 rfl (V_iload dX12_stepsAt_186 rfl (V_imul dX12_stepsAt_188 (V_iload dX12_stepsAt_189 rfl (V_iadd dX12_stepsAt_191 (V_aload_n dX12_stepsAt_192 rfl (V_aload_n dX12_stepsAt_193 rfl (G_12_38 o_a0.1 o_a0.qR38 lf_12_75 dX12_stepsAt_194 (V_bipush dX12_stepsAt_197 rfl (V_iload dX12_stepsAt_199 rfl (V_imul dX12_stepsAt_201 (V_iload dX12_stepsAt_202 rfl (V_iadd dX12_stepsAt_204 (V_iald (t := 100) o_a0.qK38 (by decide) rfl (h.2.2.2 c1).1 (h.2.2.2 c1).2.1 (Nat.le_of_ble_eq_true rfl) dX12_stepsAt_205 (V_iload dX12_stepsAt_206 rfl (V_aload_n dX12_stepsAt_208 rfl (G_12_38 o_a0.1 o_a0.qR38 lf_12_75 dX12_stepsAt_209 (V_bipush dX12_stepsAt_212 rfl (V_aload_n dX12_stepsAt_214 rfl (G_12_40 o_a0.1 lf_12_432 dX12_stepsAt_215 (V_imul dX12_stepsAt_218 (V_iload dX12_stepsAt_219 rfl (V_iadd dX12_stepsAt_221 (V_iald (t := 100) o_a0.qK38 (by decide) rfl (h.2.2.2 c1).2.2.1 (h.2.2.2 c1).2.2.2.1 (Nat.le_of_ble_eq_true rfl) dX12_stepsAt_222 (V_imul dX12_stepsAt_223 (V_isub dX12_stepsAt_224 (V_callV (k' := 0) (n' := 0) (t := 12) (q := (RX12, TX12, 46)) [i_ ((Z (a0 + 22) ((32 * v4) + v6).toNat) - (v5 * (Z (a0 + 22) ((32 * (Z a0 40)) + v6).toNat)))] [i_ ((32 * v4) + v6), r_ (a0 + 22)] okX12_mod o_a0.1 rfl rfl lm_12_182 liX12_mod lqX12_mod (Nat.le_of_ble_eq_true rfl) (Nat.le_of_ble_eq_true rfl) (Nat.le_of_ble_eq_true rfl) (cat_of rfl) (Nat.le_of_ble_eq_true rfl) (Nat.zero_le _) (Nat.zero_le _) rfl dX12_stepsAt_225 (sp_X12_mod o_a0 (h.2.2.2 c1).2.2.2.2.1 (h.2.2.2 c1).2.2.2.2.2.1 (h.2.2.2 c1).2.2.2.2.2.2.1 (V_iast (t := 100) o_a0.qK38 (by decide) (by decide) rfl (h.2.2.2 c1).1 (h.2.2.2 c1).2.1 (Nat.le_of_ble_eq_true rfl) dX12_stepsAt_228 (V_nmZ (fun Z1 eZ1 => V_iinc (lv' := [some (r_ a0), some (i_ v1), none, some (i_ v3), some (i_ v4), some (i_ v5), some (i_ (v6 + 1))]) dX12_stepsAt_229 rfl (Nat.le_of_ble_eq_true rfl) rfl (V_goto (tgt := 171) dX12_stepsAt_232 rfl (V_msk [true, true, false, true, true, true, true] rfl ((h.2.2.2 c1).2.2.2.2.2.2.2 Z1 eZ1)))))))))))))))))))))))))))))))))))))))
/-- rows in steps: the rows, how many of them are done -/
abbrev StW := (Nat → Nat → Int) × Nat
def stE (p : Int) (j d R : Nat) (M : Nat → Nat → Int) : Nat → Nat → Int := fun q i => if q ≤ d ∨ R ≤ q then M q i else (M q i - M q j * inv p (M d j) % p * M d i) % p
def stS (p : Int) (R j : Nat) (w : StW) : StW := match fstL w.1 j (R - w.2) w.2 with
  | none => w
  | some r => (stE p j w.2 R (swM w.1 r w.2), w.2 + 1)
def STp (Z : Zt) (b R L : Nat) (M : Nat → Nat → Int) : Prop := ∀ q : Nat, q < R → ∀ i : Nat, i < L → Z (b + 22) (32 * q + i) = M q i
def InM (p : Int) (R L : Nat) (M : Nat → Nat → Int) : Prop := ∀ q : Nat, q < R → ∀ i : Nat, i < L → 0 ≤ M q i ∧ M q i < p
def StF (b : Nat) (Z Z' : Zt) : Prop := (∀ c, c ≠ b → c ≠ b + 22 → Z' c = Z c) ∧ ∀ i : Nat, i ≠ 40 → Z' b i = Z b i
theorem StF.rf {b : Nat} {Z : Zt} : StF b Z Z := ⟨fun _ _ _ => rfl, fun _ _ => rfl⟩
theorem StF.tr {b : Nat} {Z Z1 Z2 : Zt} (h : StF b Z Z1) (g : StF b Z1 Z2) : StF b Z Z2 := ⟨fun c h1 h2 => (g.1 c h1 h2).trans (h.1 c h1 h2), fun i h1 => (g.2 i h1).trans (h.2 i h1)⟩
theorem StF.put {b i : Nat} {v : Int} {Z Z1 : Zt} (e : Z1 = up Z (b + 22) i v) : StF b Z Z1 := ⟨fun d _ hd => by rw [e, up_row _ _ _ _ _ hd], fun j _ => by rw [e, up_row _ _ _ _ _ (by omega)]⟩
theorem swM_in {p : Int} {R L r d : Nat} {M : Nat → Nat → Int} (h : InM p R L M) (hr : r < R) (hd : d < R) : InM p R L (swM M r d) := fun q hq i hi => by
  unfold swM
  split
  · exact h r hr i hi
  · split
    · exact h d hd i hi
    · exact h q hq i hi
theorem stS_ok {p : Int} (hp : 0 < p) {R L j : Nat} {w : StW} (h : InM p R L w.1) (hd : w.2 ≤ R) : InM p R L (stS p R j w).1 ∧ (stS p R j w).2 ≤ R ∧ (stS p R j w).2 ≤ w.2 + 1 := by
  unfold stS
  cases hf : fstL w.1 j (R - w.2) w.2 with
  | none => exact ⟨h, hd, Nat.le_succ _⟩
  | some r =>
    obtain ⟨r1, r2, _⟩ := fstL_some hf
    refine ⟨fun q hq i hi => ?_, by show w.2 + 1 ≤ R; omega, Nat.le_refl _⟩
    show 0 ≤ stE p j w.2 R (swM w.1 r w.2) q i ∧ stE p j w.2 R (swM w.1 r w.2) q i < p
    unfold stE
    split
    · exact swM_in h (by omega) (by omega) q hq i hi
    · exact emr _ hp
theorem sp_X12_stepsAt {k n : Nat} {x : Wx} {Z : Zt} {Q : Option Value → Wx → Zt → Prop} {b : Nat} {j : Int} (o : Is12 x b) {p : Int} {R L : Nat} {w : StW} (hp : IsP p ∧ Z b 11 = p) (hR : (Z b 28 = (R : Int) ∧ R ≤ 96) ∧ (Z b 39 = (L : Int) ∧ L ≤ 32) ∧ (Z b 40 = (w.2 : Int) ∧ w.2 ≤ R)) (hj : 0 ≤ j ∧ j < L) (hM : STp Z b R L w.1 ∧ InM p R L w.1) (h : ∀ Z' : Zt, (STp Z' b R L (stS p R j.toNat w).1 ∧ Z' b 40 = ((stS p R j.toNat w).2 : Int) ∧ StF b Z Z') → Q none x Z') : V mX12_stepsAt k n 0 [some (r_ b), some (i_ j), none, none, none, none, none] [] x Z Q := by
  obtain ⟨hp, b11⟩ := hp
  obtain ⟨⟨b28, hR⟩, ⟨b39, hL⟩, b40, hd⟩ := hR
  obtain ⟨hM, hI⟩ := hM
  have hpr := hp.rg
  obtain ⟨j, rfl⟩ : ∃ j' : Nat, j = (j' : Int) := ⟨j.toNat, by omega⟩
  rw [Int.toNat_natCast] at h
  obtain ⟨M, d⟩ := w
  have hd : d ≤ R := hd
  have b40 : Z b 40 = (d : Int) := b40
  have hM : STp Z b R L M := hM
  have hI : InM p R L M := hI
  have bb : ∀ Z1 : Zt, StF b Z Z1 → Z1 b 11 = p ∧ Z1 b 28 = (R : Int) ∧ Z1 b 39 = (L : Int) := fun Z1 sf => ⟨by rw [sf.2 _ (by decide)]; exact b11, by rw [sf.2 _ (by decide)]; exact b28, by rw [sf.2 _ (by decide)]; exact b39⟩
  have ml : ∀ u v : Int, (0 ≤ u ∧ u < p) → (0 ≤ v ∧ v < p) → 0 ≤ u * v ∧ u * v ≤ 169 := fun u v hu hv => ⟨Int.mul_nonneg hu.1 hv.1, Int.le_trans (Int.mul_le_mul (show u ≤ 13 by omega) (show v ≤ 13 by omega) hv.1 (by decide)) (by decide)⟩
  -- found
  have found : ∀ r : Nat, fstL M j (R - d) d = some r → V mX12_stepsAt k n 33 [some (r_ b), some (i_ (j : Int)), some (i_ (r : Int)), none, none, none, none] [] x Z Q := fun r hr => by
    obtain ⟨r1, r2, r3⟩ := fstL_some hr
    have eS : stS p R j (M, d) = (stE p j d R (swM M r d), d + 1) := by
      unfold stS
      show (match fstL M j (R - d) d with | none => (M, d) | some r => (stE p j d R (swM M r d), d + 1)) = _
      rw [hr]
    rw [eS] at h
    have h : ∀ Z' : Zt, (STp Z' b R L (stE p j d R (swM M r d)) ∧ Z' b 40 = ((d + 1 : Nat) : Int) ∧ StF b Z Z') → Q none x Z' := h
    have hS : InM p R L (swM M r d) := swM_in hI (by omega) (by omega)
    obtain ⟨S, hSe⟩ : ∃ S : Nat → Nat → Int, swM M r d = S := ⟨_, rfl⟩
    have dj : 0 < S d j ∧ S d j < p := by
      have h1 := hS d (by omega) j (by omega)
      have h2 : swM M r d d j = M r j := by unfold swM; rw [if_pos rfl]
      rw [← hSe]
      rw [h2] at h1 ⊢
      omega
    rw [hSe] at h hS
    obtain ⟨by_, hby⟩ : ∃ v : Int, inv p (S d j) = v := ⟨_, rfl⟩
    have byr := inv_lt hp (S d j)
    rw [hby] at byr
    have eE : ∀ q i : Nat, stE p j d R S q i = if q ≤ d ∨ R ≤ q then S q i else (S q i - S q j * by_ % p * S d i) % p := fun q i => by unfold stE; rw [hby]
    -- one row
    have row : ∀ (q : Nat), d < q → q < R → (∀ Z1 : Zt, StF b Z Z1 → Z1 b 40 = (d : Int) → (∀ t : Nat, t < R → ∀ i : Nat, i < L → Z1 (b + 22) (32 * t + i) = if t < q + 1 then stE p j d R S t i else S t i) → V mX12_stepsAt k n 139 [some (r_ b), some (i_ (j : Int)), none, some (i_ by_), some (i_ ((q : Int) + 1)), none, none] [] x Z1 Q) → ∀ (m c : Nat) (Z1 : Zt), c + m = L → StF b Z Z1 → Z1 b 40 = (d : Int) → (∀ t : Nat, t < R → ∀ i : Nat, i < L → Z1 (b + 22) (32 * t + i) = if t < q ∨ (t = q ∧ i < c) then stE p j d R S t i else S t i) → V mX12_stepsAt k n 171 [some (r_ b), some (i_ (j : Int)), none, some (i_ by_), some (i_ (q : Int)), some (i_ (S q j * by_ % p)), some (i_ (c : Int))] [] x Z1 Q := by
      intro q hq1 hq2 nx m
      induction m with
      | zero =>
        intro c Z1 hc sf e40 hz
        obtain ⟨z11, z28, z39⟩ := bb Z1 sf
        refine b_X12_stepsAt_171 o ?_
        rw [z39]
        refine ⟨⟨by omega, by omega⟩, ⟨by omega, by omega⟩, fun _ => nx Z1 sf e40 (fun t ht i hi => ?_), fun cc => by omega⟩
        rw [hz t ht i hi]
        by_cases ct : t < q + 1
        · rw [if_pos ct, if_pos (by omega)]
        · rw [if_neg ct, if_neg (by omega)]
      | succ m ih =>
        intro c Z1 hc sf e40 hz
        obtain ⟨z11, z28, z39⟩ := bb Z1 sf
        have v1 := hz q hq2 c (by omega)
        rw [if_neg (by omega)] at v1
        have v2 := hz d (by omega) c (by omega)
        rw [if_pos (by omega), eE, if_pos (by omega)] at v2
        have i1 : (32 * (q : Int) + (c : Int)).toNat = 32 * q + c := by omega
        have i2 : (32 * (d : Int) + (c : Int)).toNat = 32 * d + c := by omega
        have s1 := hS q hq2 c (by omega)
        have s2 := hS d (by omega) c (by omega)
        have s3 := emr (S q j * by_) (show 0 < p by omega)
        have s4 := ml _ _ s3 s2
        refine b_X12_stepsAt_171 o ?_
        rw [z39, e40, z11, i1, i2, v1, v2]
        refine ⟨⟨by omega, by omega⟩, ⟨by omega, by omega⟩, fun cc => by omega, fun _ => ⟨by omega, by omega, by omega, by omega, ⟨by omega, by omega⟩, by omega, by omega, fun Z2 e2 => ?_⟩⟩
        refine ih (c + 1) Z2 (by omega) (sf.tr (StF.put e2)) (by rw [e2, up_row _ _ _ _ _ (by omega)]; exact e40) (fun t ht i hi => ?_)
        rw [e2, up_at]
        by_cases ci : t = q ∧ i = c
        · rw [if_pos (by omega), if_pos (by omega), eE, if_neg (by omega), ci.1, ci.2]
        · rw [if_neg (by omega), hz t ht i hi]
          by_cases c2 : t < q ∨ (t = q ∧ i < c)
          · rw [if_pos c2, if_pos (by omega)]
          · rw [if_neg c2, if_neg (by omega)]
    -- all rows
    have rows : ∀ (m q : Nat) (Z1 : Zt), q + m = R → d < q → StF b Z Z1 → Z1 b 40 = (d : Int) → (∀ t : Nat, t < R → ∀ i : Nat, i < L → Z1 (b + 22) (32 * t + i) = if t < q then stE p j d R S t i else S t i) → V mX12_stepsAt k n 139 [some (r_ b), some (i_ (j : Int)), none, some (i_ by_), some (i_ (q : Int)), none, none] [] x Z1 Q := by
      intro m
      induction m with
      | zero =>
        intro q Z1 hq hdq sf e40 hz
        obtain ⟨z11, z28, z39⟩ := bb Z1 sf
        refine b_X12_stepsAt_139 o ?_
        rw [z28, e40]
        refine ⟨⟨by omega, by omega⟩, ⟨by omega, by omega⟩, fun _ Z2 e2 => h Z2 ⟨fun t ht i hi => ?_, by rw [e2, up_self]; omega, sf.tr ⟨fun c hc _ => by rw [e2, up_row _ _ _ _ _ hc], fun i hi => by rw [e2, up_at, if_neg hi]⟩⟩, fun cc => by omega⟩
        rw [e2, up_row _ _ _ _ _ (by omega), hz t ht i hi, if_pos (by omega)]
      | succ m ih =>
        intro q Z1 hq hdq sf e40 hz
        obtain ⟨z11, z28, z39⟩ := bb Z1 sf
        have v1 := hz q (by omega) j (by omega)
        rw [if_neg (by omega)] at v1
        have i1 : (32 * (q : Int) + (j : Int)).toNat = 32 * q + j := by omega
        have s1 := ml _ _ (hS q (by omega) j (by omega)) byr
        refine b_X12_stepsAt_139 o ?_
        rw [z28, z11, i1, v1]
        refine ⟨⟨by omega, by omega⟩, ⟨by omega, by omega⟩, fun cc => by omega, fun _ => ⟨by omega, by omega, ⟨by omega, by omega⟩, by omega, by omega, ?_⟩⟩
        refine row q hdq (by omega) (fun Z2 sf2 e402 hz2 => ih (q + 1) Z2 (by omega) (by omega) sf2 e402 hz2) L 0 Z1 (by omega) sf e40 (fun t ht i hi => ?_)
        rw [hz t ht i hi]
        by_cases ct : t < q
        · rw [if_pos ct, if_pos (Or.inl ct)]
        · rw [if_neg ct, if_neg (by omega)]
    -- the rows change places
    have sw : ∀ (m c : Nat) (Z1 : Zt), c + m = L → StF b Z Z1 → Z1 b 40 = (d : Int) → (∀ t : Nat, t < R → ∀ i : Nat, i < L → Z1 (b + 22) (32 * t + i) = if i < c then S t i else M t i) → V mX12_stepsAt k n 44 [some (r_ b), some (i_ (j : Int)), some (i_ (r : Int)), some (i_ (c : Int)), none, none, none] [] x Z1 Q := by
      intro m
      induction m with
      | zero =>
        intro c Z1 hc sf e40 hz
        obtain ⟨z11, z28, z39⟩ := bb Z1 sf
        have v1 := hz d (by omega) j (by omega)
        rw [if_pos (by omega)] at v1
        have i1 : (32 * (d : Int) + (j : Int)).toNat = 32 * d + j := by omega
        refine b_X12_stepsAt_44 o ?_
        rw [z39, e40, i1, v1]
        refine ⟨⟨by omega, by omega⟩, ⟨by omega, by omega⟩, fun _ => ⟨by omega, by omega, p, ⟨hp, z11⟩, dj, ?_⟩, fun cc => by omega⟩
        rw [hby]
        refine rows (R - d - 1) (d + 1) Z1 (by omega) (by omega) sf e40 (fun t ht i hi => ?_)
        rw [hz t ht i hi, if_pos (by omega)]
        by_cases ct : t < d + 1
        · rw [if_pos ct, eE, if_pos (by omega)]
        · rw [if_neg ct]
      | succ m ih =>
        intro c Z1 hc sf e40 hz
        obtain ⟨z11, z28, z39⟩ := bb Z1 sf
        have v1 := hz r (by omega) c (by omega)
        rw [if_neg (by omega)] at v1
        have v2 := hz d (by omega) c (by omega)
        rw [if_neg (by omega)] at v2
        have i1 : (32 * (r : Int) + (c : Int)).toNat = 32 * r + c := by omega
        have i2 : (32 * (d : Int) + (c : Int)).toNat = 32 * d + c := by omega
        refine b_X12_stepsAt_44 o ?_
        rw [z39, e40, i1, i2, v1, v2]
        refine ⟨⟨by omega, by omega⟩, ⟨by omega, by omega⟩, fun cc => by omega, fun _ => ⟨by omega, by omega, by omega, by omega, fun Z2 e2 => ?_⟩⟩
        have e402 : Z2 b 40 = (d : Int) := by rw [e2, up_row _ _ _ _ _ (by omega)]; exact e40
        rw [e402, i2]
        refine ⟨by omega, by omega, fun Z3 e3 => ih (c + 1) Z3 (by omega) (sf.tr ((StF.put e2).tr (StF.put e3))) (by rw [e3, up_row _ _ _ _ _ (by omega)]; exact e402) (fun t ht i hi => ?_)⟩
        rw [e3, up_at, e2, up_at]
        have hSt : S t i = if t = d then M r i else if t = r then M d i else M t i := by
          rw [← hSe]; unfold swM
          split
          · rfl
          · split <;> rfl
        by_cases ci : i = c
        · subst ci
          rw [if_pos (show i < i + 1 by omega), hSt]
          by_cases ctd : t = d
          · rw [if_pos (by omega), if_pos ctd]
          · rw [if_neg (by omega), if_neg ctd]
            by_cases ctr : t = r
            · rw [if_pos (by omega), if_pos ctr]
            · rw [if_neg (by omega), if_neg ctr, hz t ht i hi, if_neg (by omega)]
        · rw [if_neg (by omega), if_neg (by omega), hz t ht i hi]
          by_cases c2 : i < c
          · rw [if_pos c2, if_pos (by omega)]
          · rw [if_neg c2, if_neg (by omega)]
    refine b_X12_stepsAt_33 o ?_
    rw [b28]
    exact ⟨⟨by omega, by omega⟩, ⟨by omega, by omega⟩, fun _ => sw L 0 Z (by omega) StF.rf b40 (fun t ht i hi => by rw [if_neg (by omega)]; exact hM t ht i hi), fun cc => by omega⟩
  -- none
  have none_ : fstL M j (R - d) d = none → V mX12_stepsAt k n 33 [some (r_ b), some (i_ (j : Int)), some (i_ (R : Int)), none, none, none, none] [] x Z Q := fun hn => by
    have eS : stS p R j (M, d) = (M, d) := by
      unfold stS
      show (match fstL M j (R - d) d with | none => (M, d) | some r => (stE p j d R (swM M r d), d + 1)) = _
      rw [hn]
    rw [eS] at h
    refine b_X12_stepsAt_33 o ?_
    rw [b28]
    exact ⟨⟨by omega, by omega⟩, ⟨by omega, by omega⟩, fun cc => absurd rfl cc, fun _ => h Z ⟨hM, b40, StF.rf⟩⟩
  have srch : ∀ (m q : Nat), q + m = R → d ≤ q → fstL M j m q = fstL M j (R - d) d → V mX12_stepsAt k n 5 [some (r_ b), some (i_ (j : Int)), some (i_ (q : Int)), none, none, none, none] [] x Z Q := by
    intro m
    induction m with
    | zero =>
      intro q hq _ he
      have he : none = fstL M j (R - d) d := he
      have : V mX12_stepsAt k n 33 [some (r_ b), some (i_ (j : Int)), some (i_ (q : Int)), none, none, none, none] [] x Z Q := by rw [show q = R from by omega]; exact none_ he.symm
      refine b_X12_stepsAt_5 o ?_
      rw [b28]
      exact ⟨⟨by omega, by omega⟩, ⟨by omega, by omega⟩, fun _ => this, fun cc => by omega⟩
    | succ m ih =>
      intro q hq hdq he
      have v1 := hM q (by omega) j (by omega)
      have s1 := hI q (by omega) j (by omega)
      have i1 : (32 * (q : Int) + (j : Int)).toNat = 32 * q + j := by omega
      have he : (if M q j = 0 then fstL M j m (q + 1) else some q) = fstL M j (R - d) d := he
      refine b_X12_stepsAt_5 o ?_
      rw [b28, i1, v1]
      refine ⟨⟨by omega, by omega⟩, ⟨by omega, by omega⟩, fun cc => by omega, fun _ => ⟨by omega, by omega, ⟨by omega, by omega⟩, fun c1 => ?_, fun c1 => ?_⟩⟩
      · rw [if_neg c1] at he
        exact found q he.symm
      · rw [if_pos c1] at he
        exact ih (q + 1) (by omega) (by omega) he
  refine b_X12_stepsAt_0 o ?_
  rw [b40]
  exact srch (R - d) d (by omega) (Nat.le_refl _) rfl
