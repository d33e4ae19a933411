/-! ===== the reference: counted ===== -/
theorem dX12_counts_0 : decode cX12_counts 0 = .ok (.lconst 1, 1) := by decide +kernel
theorem dX12_counts_1 : decode cX12_counts 1 = .ok (.lstore_n 1, 1) := by decide +kernel
theorem dX12_counts_2 : decode cX12_counts 2 = .ok (.aload_n 0, 1) := by decide +kernel
theorem dX12_counts_3 : decode cX12_counts 3 = .ok (.invokevirtual 240, 3) := by decide +kernel
theorem dX12_counts_6 : decode cX12_counts 6 = .ok (.istore_n 3, 1) := by decide +kernel
theorem dX12_counts_7 : decode cX12_counts 7 = .ok (.aload_n 0, 1) := by decide +kernel
theorem dX12_counts_8 : decode cX12_counts 8 = .ok (.iconst 2, 1) := by decide +kernel
theorem dX12_counts_9 : decode cX12_counts 9 = .ok (.invokevirtual 246, 3) := by decide +kernel
theorem dX12_counts_12 : decode cX12_counts 12 = .ok (.istore 4, 2) := by decide +kernel
theorem dX12_counts_14 : decode cX12_counts 14 = .ok (.iconst 1, 1) := by decide +kernel
theorem dX12_counts_15 : decode cX12_counts 15 = .ok (.istore 5, 2) := by decide +kernel
theorem dX12_counts_17 : decode cX12_counts 17 = .ok (.iload 5, 2) := by decide +kernel
theorem dX12_counts_19 : decode cX12_counts 19 = .ok (.bipush 12, 2) := by decide +kernel
theorem dX12_counts_21 : decode cX12_counts 21 = .ok (.if_icmp .gt 267, 3) := by decide +kernel
theorem dX12_counts_24 : decode cX12_counts 24 = .ok (.lload_n 1, 1) := by decide +kernel
theorem dX12_counts_25 : decode cX12_counts 25 = .ok (.aload_n 0, 1) := by decide +kernel
theorem dX12_counts_26 : decode cX12_counts 26 = .ok (.getfield 179, 3) := by decide +kernel
theorem dX12_counts_29 : decode cX12_counts 29 = .ok (.i2l, 1) := by decide +kernel
theorem dX12_counts_30 : decode cX12_counts 30 = .ok (.lmul, 1) := by decide +kernel
theorem dX12_counts_31 : decode cX12_counts 31 = .ok (.lstore_n 1, 1) := by decide +kernel
theorem dX12_counts_32 : decode cX12_counts 32 = .ok (.iload_n 3, 1) := by decide +kernel
theorem dX12_counts_33 : decode cX12_counts 33 = .ok (.i2l, 1) := by decide +kernel
theorem dX12_counts_34 : decode cX12_counts 34 = .ok (.lneg, 1) := by decide +kernel
theorem dX12_counts_35 : decode cX12_counts 35 = .ok (.iload 5, 2) := by decide +kernel
theorem dX12_counts_37 : decode cX12_counts 37 = .ok (.iconst 1, 1) := by decide +kernel
theorem dX12_counts_38 : decode cX12_counts 38 = .ok (.if_icmp .le 15, 3) := by decide +kernel
theorem dX12_counts_41 : decode cX12_counts 41 = .ok (.aload_n 0, 1) := by decide +kernel
theorem dX12_counts_42 : decode cX12_counts 42 = .ok (.getfield 29, 3) := by decide +kernel
theorem dX12_counts_45 : decode cX12_counts 45 = .ok (.iload 5, 2) := by decide +kernel
theorem dX12_counts_47 : decode cX12_counts 47 = .ok (.iconst 1, 1) := by decide +kernel
theorem dX12_counts_48 : decode cX12_counts 48 = .ok (.isub, 1) := by decide +kernel
theorem dX12_counts_49 : decode cX12_counts 49 = .ok (.laload, 1) := by decide +kernel
theorem dX12_counts_50 : decode cX12_counts 50 = .ok (.goto 4, 3) := by decide +kernel
theorem dX12_counts_53 : decode cX12_counts 53 = .ok (.lconst 1, 1) := by decide +kernel
theorem dX12_counts_54 : decode cX12_counts 54 = .ok (.lmul, 1) := by decide +kernel
theorem dX12_counts_55 : decode cX12_counts 55 = .ok (.lstore 6, 2) := by decide +kernel
theorem dX12_counts_57 : decode cX12_counts 57 = .ok (.iload 5, 2) := by decide +kernel
theorem dX12_counts_59 : decode cX12_counts 59 = .ok (.iconst 1, 1) := by decide +kernel
theorem dX12_counts_60 : decode cX12_counts 60 = .ok (.if_icmp .le 33, 3) := by decide +kernel
theorem dX12_counts_63 : decode cX12_counts 63 = .ok (.lload 6, 2) := by decide +kernel
theorem dX12_counts_65 : decode cX12_counts 65 = .ok (.iload 4, 2) := by decide +kernel
theorem dX12_counts_67 : decode cX12_counts 67 = .ok (.i2l, 1) := by decide +kernel
theorem dX12_counts_68 : decode cX12_counts 68 = .ok (.iload 5, 2) := by decide +kernel
theorem dX12_counts_70 : decode cX12_counts 70 = .ok (.iconst 2, 1) := by decide +kernel
theorem dX12_counts_71 : decode cX12_counts 71 = .ok (.if_icmp .le 15, 3) := by decide +kernel
theorem dX12_counts_74 : decode cX12_counts 74 = .ok (.aload_n 0, 1) := by decide +kernel
theorem dX12_counts_75 : decode cX12_counts 75 = .ok (.getfield 29, 3) := by decide +kernel
theorem dX12_counts_78 : decode cX12_counts 78 = .ok (.iload 5, 2) := by decide +kernel
theorem dX12_counts_80 : decode cX12_counts 80 = .ok (.iconst 2, 1) := by decide +kernel
theorem dX12_counts_81 : decode cX12_counts 81 = .ok (.isub, 1) := by decide +kernel
theorem dX12_counts_82 : decode cX12_counts 82 = .ok (.laload, 1) := by decide +kernel
theorem dX12_counts_83 : decode cX12_counts 83 = .ok (.goto 6, 3) := by decide +kernel
theorem dX12_counts_86 : decode cX12_counts 86 = .ok (.ldc2_w 257, 3) := by decide +kernel
theorem dX12_counts_89 : decode cX12_counts 89 = .ok (.lmul, 1) := by decide +kernel
theorem dX12_counts_90 : decode cX12_counts 90 = .ok (.lsub, 1) := by decide +kernel
theorem dX12_counts_91 : decode cX12_counts 91 = .ok (.lstore 6, 2) := by decide +kernel
theorem dX12_counts_93 : decode cX12_counts 93 = .ok (.aload_n 0, 1) := by decide +kernel
theorem dX12_counts_94 : decode cX12_counts 94 = .ok (.getfield 221, 3) := by decide +kernel
theorem dX12_counts_97 : decode cX12_counts 97 = .ok (.iconst 2, 1) := by decide +kernel
theorem dX12_counts_98 : decode cX12_counts 98 = .ok (.if_icmp .ne 44, 3) := by decide +kernel
theorem dX12_counts_101 : decode cX12_counts 101 = .ok (.iload 5, 2) := by decide +kernel
theorem dX12_counts_103 : decode cX12_counts 103 = .ok (.iconst 2, 1) := by decide +kernel
theorem dX12_counts_104 : decode cX12_counts 104 = .ok (.if_icmp .le 38, 3) := by decide +kernel
theorem dX12_counts_107 : decode cX12_counts 107 = .ok (.lload 6, 2) := by decide +kernel
theorem dX12_counts_109 : decode cX12_counts 109 = .ok (.aload_n 0, 1) := by decide +kernel
theorem dX12_counts_110 : decode cX12_counts 110 = .ok (.getfield 179, 3) := by decide +kernel
theorem dX12_counts_113 : decode cX12_counts 113 = .ok (.i2l, 1) := by decide +kernel
theorem dX12_counts_114 : decode cX12_counts 114 = .ok (.iload_n 3, 1) := by decide +kernel
theorem dX12_counts_115 : decode cX12_counts 115 = .ok (.i2l, 1) := by decide +kernel
theorem dX12_counts_116 : decode cX12_counts 116 = .ok (.lmul, 1) := by decide +kernel
theorem dX12_counts_117 : decode cX12_counts 117 = .ok (.iload 5, 2) := by decide +kernel
theorem dX12_counts_119 : decode cX12_counts 119 = .ok (.iconst 3, 1) := by decide +kernel
theorem dX12_counts_120 : decode cX12_counts 120 = .ok (.if_icmp .le 15, 3) := by decide +kernel
theorem dX12_counts_123 : decode cX12_counts 123 = .ok (.aload_n 0, 1) := by decide +kernel
theorem dX12_counts_124 : decode cX12_counts 124 = .ok (.getfield 29, 3) := by decide +kernel
theorem dX12_counts_127 : decode cX12_counts 127 = .ok (.iload 5, 2) := by decide +kernel
theorem dX12_counts_129 : decode cX12_counts 129 = .ok (.iconst 3, 1) := by decide +kernel
theorem dX12_counts_130 : decode cX12_counts 130 = .ok (.isub, 1) := by decide +kernel
theorem dX12_counts_131 : decode cX12_counts 131 = .ok (.laload, 1) := by decide +kernel
theorem dX12_counts_132 : decode cX12_counts 132 = .ok (.goto 6, 3) := by decide +kernel
theorem dX12_counts_135 : decode cX12_counts 135 = .ok (.ldc2_w 259, 3) := by decide +kernel
theorem dX12_counts_138 : decode cX12_counts 138 = .ok (.lmul, 1) := by decide +kernel
theorem dX12_counts_139 : decode cX12_counts 139 = .ok (.lsub, 1) := by decide +kernel
theorem dX12_counts_140 : decode cX12_counts 140 = .ok (.lstore 6, 2) := by decide +kernel
theorem dX12_counts_142 : decode cX12_counts 142 = .ok (.aload_n 0, 1) := by decide +kernel
theorem dX12_counts_143 : decode cX12_counts 143 = .ok (.getfield 221, 3) := by decide +kernel
theorem dX12_counts_146 : decode cX12_counts 146 = .ok (.iconst 2, 1) := by decide +kernel
theorem dX12_counts_147 : decode cX12_counts 147 = .ok (.if_icmp .ne 47, 3) := by decide +kernel
theorem dX12_counts_150 : decode cX12_counts 150 = .ok (.iload 5, 2) := by decide +kernel
theorem dX12_counts_152 : decode cX12_counts 152 = .ok (.iconst 3, 1) := by decide +kernel
theorem dX12_counts_153 : decode cX12_counts 153 = .ok (.if_icmp .le 41, 3) := by decide +kernel
theorem dX12_counts_156 : decode cX12_counts 156 = .ok (.lload 6, 2) := by decide +kernel
theorem dX12_counts_158 : decode cX12_counts 158 = .ok (.aload_n 0, 1) := by decide +kernel
theorem dX12_counts_159 : decode cX12_counts 159 = .ok (.getfield 179, 3) := by decide +kernel
theorem dX12_counts_162 : decode cX12_counts 162 = .ok (.i2l, 1) := by decide +kernel
theorem dX12_counts_163 : decode cX12_counts 163 = .ok (.aload_n 0, 1) := by decide +kernel
theorem dX12_counts_164 : decode cX12_counts 164 = .ok (.getfield 179, 3) := by decide +kernel
theorem dX12_counts_167 : decode cX12_counts 167 = .ok (.i2l, 1) := by decide +kernel
theorem dX12_counts_168 : decode cX12_counts 168 = .ok (.lmul, 1) := by decide +kernel
theorem dX12_counts_169 : decode cX12_counts 169 = .ok (.iload 5, 2) := by decide +kernel
theorem dX12_counts_171 : decode cX12_counts 171 = .ok (.iconst 4, 1) := by decide +kernel
theorem dX12_counts_172 : decode cX12_counts 172 = .ok (.if_icmp .le 15, 3) := by decide +kernel
theorem dX12_counts_175 : decode cX12_counts 175 = .ok (.aload_n 0, 1) := by decide +kernel
theorem dX12_counts_176 : decode cX12_counts 176 = .ok (.getfield 29, 3) := by decide +kernel
theorem dX12_counts_179 : decode cX12_counts 179 = .ok (.iload 5, 2) := by decide +kernel
theorem dX12_counts_181 : decode cX12_counts 181 = .ok (.iconst 4, 1) := by decide +kernel
theorem dX12_counts_182 : decode cX12_counts 182 = .ok (.isub, 1) := by decide +kernel
theorem dX12_counts_183 : decode cX12_counts 183 = .ok (.laload, 1) := by decide +kernel
theorem dX12_counts_184 : decode cX12_counts 184 = .ok (.goto 6, 3) := by decide +kernel
theorem dX12_counts_187 : decode cX12_counts 187 = .ok (.ldc2_w 261, 3) := by decide +kernel
theorem dX12_counts_190 : decode cX12_counts 190 = .ok (.lmul, 1) := by decide +kernel
theorem dX12_counts_191 : decode cX12_counts 191 = .ok (.lsub, 1) := by decide +kernel
theorem dX12_counts_192 : decode cX12_counts 192 = .ok (.lstore 6, 2) := by decide +kernel
theorem dX12_counts_194 : decode cX12_counts 194 = .ok (.aload_n 0, 1) := by decide +kernel
theorem dX12_counts_195 : decode cX12_counts 195 = .ok (.getfield 29, 3) := by decide +kernel
theorem dX12_counts_198 : decode cX12_counts 198 = .ok (.iload 5, 2) := by decide +kernel
theorem dX12_counts_200 : decode cX12_counts 200 = .ok (.lload 6, 2) := by decide +kernel
theorem dX12_counts_202 : decode cX12_counts 202 = .ok (.lastore, 1) := by decide +kernel
theorem dX12_counts_203 : decode cX12_counts 203 = .ok (.aload_n 0, 1) := by decide +kernel
theorem dX12_counts_204 : decode cX12_counts 204 = .ok (.getfield 33, 3) := by decide +kernel
theorem dX12_counts_207 : decode cX12_counts 207 = .ok (.iload 5, 2) := by decide +kernel
theorem dX12_counts_209 : decode cX12_counts 209 = .ok (.lload_n 1, 1) := by decide +kernel
theorem dX12_counts_210 : decode cX12_counts 210 = .ok (.lconst 1, 1) := by decide +kernel
theorem dX12_counts_211 : decode cX12_counts 211 = .ok (.ladd, 1) := by decide +kernel
theorem dX12_counts_212 : decode cX12_counts 212 = .ok (.lload 6, 2) := by decide +kernel
theorem dX12_counts_214 : decode cX12_counts 214 = .ok (.lsub, 1) := by decide +kernel
theorem dX12_counts_215 : decode cX12_counts 215 = .ok (.lastore, 1) := by decide +kernel
theorem dX12_counts_216 : decode cX12_counts 216 = .ok (.aload_n 0, 1) := by decide +kernel
theorem dX12_counts_217 : decode cX12_counts 217 = .ok (.getfield 33, 3) := by decide +kernel
theorem dX12_counts_220 : decode cX12_counts 220 = .ok (.iload 5, 2) := by decide +kernel
theorem dX12_counts_222 : decode cX12_counts 222 = .ok (.laload, 1) := by decide +kernel
theorem dX12_counts_223 : decode cX12_counts 223 = .ok (.lstore 8, 2) := by decide +kernel
theorem dX12_counts_225 : decode cX12_counts 225 = .ok (.iconst 1, 1) := by decide +kernel
theorem dX12_counts_226 : decode cX12_counts 226 = .ok (.istore 10, 2) := by decide +kernel
theorem dX12_counts_228 : decode cX12_counts 228 = .ok (.iload 10, 2) := by decide +kernel
theorem dX12_counts_230 : decode cX12_counts 230 = .ok (.iload 5, 2) := by decide +kernel
theorem dX12_counts_232 : decode cX12_counts 232 = .ok (.if_icmp .ge 37, 3) := by decide +kernel
theorem dX12_counts_235 : decode cX12_counts 235 = .ok (.lload 8, 2) := by decide +kernel
theorem dX12_counts_237 : decode cX12_counts 237 = .ok (.iload 5, 2) := by decide +kernel
theorem dX12_counts_239 : decode cX12_counts 239 = .ok (.iload 10, 2) := by decide +kernel
theorem dX12_counts_241 : decode cX12_counts 241 = .ok (.irem, 1) := by decide +kernel
theorem dX12_counts_242 : decode cX12_counts 242 = .ok (.ifCond .ne 17, 3) := by decide +kernel
theorem dX12_counts_245 : decode cX12_counts 245 = .ok (.iload 10, 2) := by decide +kernel
theorem dX12_counts_247 : decode cX12_counts 247 = .ok (.i2l, 1) := by decide +kernel
theorem dX12_counts_248 : decode cX12_counts 248 = .ok (.aload_n 0, 1) := by decide +kernel
theorem dX12_counts_249 : decode cX12_counts 249 = .ok (.getfield 36, 3) := by decide +kernel
theorem dX12_counts_252 : decode cX12_counts 252 = .ok (.iload 10, 2) := by decide +kernel
theorem dX12_counts_254 : decode cX12_counts 254 = .ok (.laload, 1) := by decide +kernel
theorem dX12_counts_255 : decode cX12_counts 255 = .ok (.lmul, 1) := by decide +kernel
theorem dX12_counts_256 : decode cX12_counts 256 = .ok (.goto 4, 3) := by decide +kernel
theorem dX12_counts_259 : decode cX12_counts 259 = .ok (.lconst 0, 1) := by decide +kernel
theorem dX12_counts_260 : decode cX12_counts 260 = .ok (.lsub, 1) := by decide +kernel
theorem dX12_counts_261 : decode cX12_counts 261 = .ok (.lstore 8, 2) := by decide +kernel
theorem dX12_counts_263 : decode cX12_counts 263 = .ok (.iinc 10 1, 3) := by decide +kernel
theorem dX12_counts_266 : decode cX12_counts 266 = .ok (.goto (-38), 3) := by decide +kernel
theorem dX12_counts_269 : decode cX12_counts 269 = .ok (.aload_n 0, 1) := by decide +kernel
theorem dX12_counts_270 : decode cX12_counts 270 = .ok (.getfield 36, 3) := by decide +kernel
theorem dX12_counts_273 : decode cX12_counts 273 = .ok (.iload 5, 2) := by decide +kernel
theorem dX12_counts_275 : decode cX12_counts 275 = .ok (.lload 8, 2) := by decide +kernel
theorem dX12_counts_277 : decode cX12_counts 277 = .ok (.iload 5, 2) := by decide +kernel
theorem dX12_counts_279 : decode cX12_counts 279 = .ok (.i2l, 1) := by decide +kernel
theorem dX12_counts_280 : decode cX12_counts 280 = .ok (.ldiv, 1) := by decide +kernel
theorem dX12_counts_281 : decode cX12_counts 281 = .ok (.lastore, 1) := by decide +kernel
theorem dX12_counts_282 : decode cX12_counts 282 = .ok (.iinc 5 1, 3) := by decide +kernel
theorem dX12_counts_285 : decode cX12_counts 285 = .ok (.goto (-268), 3) := by decide +kernel
theorem dX12_counts_288 : decode cX12_counts 288 = .ok (.return_, 1) := by decide +kernel
set_option maxRecDepth 20000 in
theorem b_X12_counts_0 {k n : Nat} {x : Wx} {Z : Zt} {Q : Option Value → Wx → Zt → Prop} {a0 : Nat} (o_a0 : Is12 x a0)
    (h : ∃ g1 : Int, (∃ g2 : Nat → Int, (MF Z a0 g1 g2 ∧ (0 ≤ (2 : Int) ∧ (2 : Int) ≤ 2 * gen g2) ∧ (V mX12_counts k n 17 [some (r_ a0), some (l_ 1), none, some (i_ (Z a0 15 - Z a0 11 - 1)), some (i_ (shF g1 g2 (2 : Int).toNat)), some (i_ 1), none, none, none, none, none] [] x Z Q)))) :
    V mX12_counts k n 0 [some (r_ a0), none, none, none, none, none, none, none, none, none, none] [] x Z Q :=
  V_lconst (z := 1) dX12_counts_0 rfl (V_lstore_n (lv' := [some (r_ a0), some (l_ 1), none, none, none, none, none, none, none, none, none]) dX12_counts_1 (Nat.le_of_ble_eq_true rfl) rfl (V_aload_n dX12_counts_2 rfl (V_callV (k' := 0) (n' := 0) (t := 12) (q := (RX12, TX12, 46)) [] [] okX12_shareA o_a0.1 rfl rfl lm_12_240 liX12_shareA lqX12_shareA (Nat.le_of_ble_eq_true rfl) (Nat.le_of_ble_eq_true rfl) (Nat.le_of_ble_eq_true rfl) (cat_of rfl) (Nat.le_of_ble_eq_true rfl) (Nat.zero_le _) (Nat.zero_le _) rfl dX12_counts_3 (sp_X12_shareA o_a0  (V_istore_n (lv' := [some (r_ a0), some (l_ 1), none, some (i_ (Z a0 15 - Z a0 11 - 1)), none, none, none, none, none, none, none]) dX12_counts_6 (Nat.le_of_ble_eq_true rfl) rfl (V_aload_n dX12_counts_7 rfl (V_iconst dX12_counts_8 (Exists.elim h (fun g1 w1 => Exists.elim w1 (fun g2 w2 => V_callV (k' := 0) (n' := 0) (t := 12) (q := (RX12, TX12, 46)) [i_ 2] [] okX12_shareOf o_a0.1 rfl rfl lm_12_246 liX12_shareOf lqX12_shareOf (Nat.le_of_ble_eq_true rfl) (Nat.le_of_ble_eq_true rfl) (Nat.le_of_ble_eq_true rfl) (cat_of rfl) (Nat.le_of_ble_eq_true rfl) (Nat.zero_le _) (Nat.zero_le _) rfl dX12_counts_9 (sp_X12_shareOf o_a0 w2.1 w2.2.1 (V_istore (lv' := [some (r_ a0), some (l_ 1), none, some (i_ (Z a0 15 - Z a0 11 - 1)), some (i_ (shF g1 g2 (2 : Int).toNat)), none, none, none, none, none, none]) dX12_counts_12 (Nat.le_of_ble_eq_true rfl) rfl (V_iconst dX12_counts_14 (V_istore (lv' := [some (r_ a0), some (l_ 1), none, some (i_ (Z a0 15 - Z a0 11 - 1)), some (i_ (shF g1 g2 (2 : Int).toNat)), some (i_ 1), none, none, none, none, none]) dX12_counts_15 (Nat.le_of_ble_eq_true rfl) rfl (V_msk [true, true, false, true, true, true, false, false, false, false, false] rfl w2.2.2)))))))))))))))
set_option maxRecDepth 20000 in
theorem b_X12_counts_17 {k n : Nat} {x : Wx} {Z : Zt} {Q : Option Value → Wx → Zt → Prop} {a0 : Nat} {v1 : Int} {v3 : Int} {v4 : Int} {v5 : Int} (o_a0 : Is12 x a0)
    (h : Rg v5 ∧ (((12 < v5) → (Q none x Z)) ∧ ((v5 ≤ 12) → (Rg (Z a0 11) ∧ (Rg v3 ∧ (((v5 ≤ 1) → (V mX12_counts k n 54 [some (r_ a0), some (l_ (v1 * (Z a0 11))), none, some (i_ v3), some (i_ v4), some (i_ v5), none, none, none, none, none] [l_ 1, l_ (-v3)] x Z Q)) ∧ ((1 < v5) → (0 ≤ v5 - 1 ∧ v5 - 1 < 13 ∧ (V mX12_counts k n 54 [some (r_ a0), some (l_ (v1 * (Z a0 11))), none, some (i_ v3), some (i_ v4), some (i_ v5), none, none, none, none, none] [l_ (Z (a0 + 7) (v5 - 1).toNat), l_ (-v3)] x Z Q))))))))) :
    V mX12_counts k n 17 [some (r_ a0), some (l_ v1), none, some (i_ v3), some (i_ v4), some (i_ v5), none, none, none, none, none] [] x Z Q :=
  V_iload dX12_counts_17 rfl (V_bipush dX12_counts_19 rfl (V_icmp_gt (tgt := 288) dX12_counts_21 rfl h.1 (rg_c rfl) (fun c1 => V_ret dX12_counts_288 rfl (h.2.1 c1)) (fun c1 => V_lload_n dX12_counts_24 rfl (V_aload_n dX12_counts_25 rfl (G_12_11 o_a0.1 lf_12_179 dX12_counts_26 (V_i2l dX12_counts_29 (h.2.2 c1).1 (V_lmul dX12_counts_30 (V_lstore_n (lv' := [some (r_ a0), some (l_ (v1 * (Z a0 11))), none, some (i_ v3), some (i_ v4), some (i_ v5), none, none, none, none, none]) dX12_counts_31 (Nat.le_of_ble_eq_true rfl) rfl (V_iload_n dX12_counts_32 rfl (V_i2l dX12_counts_33 (h.2.2 c1).2.1 (V_lneg dX12_counts_34 (V_iload dX12_counts_35 rfl (V_iconst dX12_counts_37 (V_icmp_le (tgt := 53) dX12_counts_38 rfl h.1 (rg_c rfl) (fun c2 => V_lconst (z := 1) dX12_counts_53 rfl (V_msk [true, true, false, true, true, true, false, false, false, false, false] rfl ((h.2.2 c1).2.2.1 c2))) (fun c2 => V_aload_n dX12_counts_41 rfl (G_12_16 o_a0.1 o_a0.qR16 lf_12_29 dX12_counts_42 (V_iload dX12_counts_45 rfl (V_iconst dX12_counts_47 (V_isub dX12_counts_48 (V_lald (t := 103) o_a0.qK16 (by decide) rfl ((h.2.2 c1).2.2.2 c2).1 ((h.2.2 c1).2.2.2 c2).2.1 (Nat.le_of_ble_eq_true rfl) dX12_counts_49 (V_goto (tgt := 54) dX12_counts_50 rfl (V_msk [true, true, false, true, true, true, false, false, false, false, false] rfl ((h.2.2 c1).2.2.2 c2).2.2))))))))))))))))))))))
set_option maxRecDepth 20000 in
theorem b_X12_counts_54 {k n : Nat} {x : Wx} {Z : Zt} {Q : Option Value → Wx → Zt → Prop} {a0 : Nat} {v1 : Int} {v3 : Int} {v4 : Int} {v5 : Int} {t0 : Int} {t1 : Int} (o_a0 : Is12 x a0)
    (h : Rg v5 ∧ (((v5 ≤ 1) → (V mX12_counts k n 93 [some (r_ a0), some (l_ v1), none, some (i_ v3), some (i_ v4), some (i_ v5), some (l_ (t0 * t1)), none, none, none, none] [] x Z Q)) ∧ ((1 < v5) → (Rg v4 ∧ (((v5 ≤ 2) → (V mX12_counts k n 89 [some (r_ a0), some (l_ v1), none, some (i_ v3), some (i_ v4), some (i_ v5), none, none, none, none, none] [l_ 2, l_ v4, l_ (t0 * t1)] x Z Q)) ∧ ((2 < v5) → (0 ≤ v5 - 2 ∧ v5 - 2 < 13 ∧ (V mX12_counts k n 89 [some (r_ a0), some (l_ v1), none, some (i_ v3), some (i_ v4), some (i_ v5), none, none, none, none, none] [l_ (Z (a0 + 7) (v5 - 2).toNat), l_ v4, l_ (t0 * t1)] x Z Q)))))))) :
    V mX12_counts k n 54 [some (r_ a0), some (l_ v1), none, some (i_ v3), some (i_ v4), some (i_ v5), none, none, none, none, none] [l_ t1, l_ t0] x Z Q :=
  V_lmul dX12_counts_54 (V_lstore (lv' := [some (r_ a0), some (l_ v1), none, some (i_ v3), some (i_ v4), some (i_ v5), some (l_ (t0 * t1)), none, none, none, none]) dX12_counts_55 (Nat.le_of_ble_eq_true rfl) rfl (V_iload dX12_counts_57 rfl (V_iconst dX12_counts_59 (V_icmp_le (tgt := 93) dX12_counts_60 rfl h.1 (rg_c rfl) (fun c1 => V_msk [true, true, false, true, true, true, true, false, false, false, false] rfl (h.2.1 c1)) (fun c1 => V_lload dX12_counts_63 rfl (V_iload dX12_counts_65 rfl (V_i2l dX12_counts_67 (h.2.2 c1).1 (V_iload dX12_counts_68 rfl (V_iconst dX12_counts_70 (V_icmp_le (tgt := 86) dX12_counts_71 rfl h.1 (rg_c rfl) (fun c2 => V_ldc2 (z := 2) dX12_counts_86 lkl_12_257 (V_msk [true, true, false, true, true, true, false, false, false, false, false] rfl ((h.2.2 c1).2.1 c2))) (fun c2 => V_aload_n dX12_counts_74 rfl (G_12_16 o_a0.1 o_a0.qR16 lf_12_29 dX12_counts_75 (V_iload dX12_counts_78 rfl (V_iconst dX12_counts_80 (V_isub dX12_counts_81 (V_lald (t := 103) o_a0.qK16 (by decide) rfl ((h.2.2 c1).2.2 c2).1 ((h.2.2 c1).2.2 c2).2.1 (Nat.le_of_ble_eq_true rfl) dX12_counts_82 (V_goto (tgt := 89) dX12_counts_83 rfl (V_msk [true, true, false, true, true, true, false, false, false, false, false] rfl ((h.2.2 c1).2.2 c2).2.2))))))))))))))))))
set_option maxRecDepth 20000 in
theorem b_X12_counts_89 {k n : Nat} {x : Wx} {Z : Zt} {Q : Option Value → Wx → Zt → Prop} {a0 : Nat} {v1 : Int} {v3 : Int} {v4 : Int} {v5 : Int} {t0 : Int} {t1 : Int} {t2 : Int} 
    (h : V mX12_counts k n 93 [some (r_ a0), some (l_ v1), none, some (i_ v3), some (i_ v4), some (i_ v5), some (l_ (t0 - (t1 * t2))), none, none, none, none] [] x Z Q) :
    V mX12_counts k n 89 [some (r_ a0), some (l_ v1), none, some (i_ v3), some (i_ v4), some (i_ v5), none, none, none, none, none] [l_ t2, l_ t1, l_ t0] x Z Q :=
  V_lmul dX12_counts_89 (V_lsub dX12_counts_90 (V_lstore (lv' := [some (r_ a0), some (l_ v1), none, some (i_ v3), some (i_ v4), some (i_ v5), some (l_ (t0 - (t1 * t2))), none, none, none, none]) dX12_counts_91 (Nat.le_of_ble_eq_true rfl) rfl (V_msk [true, true, false, true, true, true, true, false, false, false, false] rfl h)))
set_option maxRecDepth 20000 in
theorem b_X12_counts_93 {k n : Nat} {x : Wx} {Z : Zt} {Q : Option Value → Wx → Zt → Prop} {a0 : Nat} {v1 : Int} {v3 : Int} {v4 : Int} {v5 : Int} {v6 : Int} (o_a0 : Is12 x a0)
    (h : Rg (Z a0 12) ∧ (((Z a0 12 ≠ 2) → (V mX12_counts k n 142 [some (r_ a0), some (l_ v1), none, some (i_ v3), some (i_ v4), some (i_ v5), some (l_ v6), none, none, none, none] [] x Z Q)) ∧ ((Z a0 12 = 2) → (Rg v5 ∧ (((v5 ≤ 2) → (V mX12_counts k n 142 [some (r_ a0), some (l_ v1), none, some (i_ v3), some (i_ v4), some (i_ v5), some (l_ v6), none, none, none, none] [] x Z Q)) ∧ ((2 < v5) → (Rg (Z a0 11) ∧ (Rg v3 ∧ (((v5 ≤ 3) → (V mX12_counts k n 138 [some (r_ a0), some (l_ v1), none, some (i_ v3), some (i_ v4), some (i_ v5), none, none, none, none, none] [l_ 3, l_ ((Z a0 11) * v3), l_ v6] x Z Q)) ∧ ((3 < v5) → (0 ≤ v5 - 3 ∧ v5 - 3 < 13 ∧ (V mX12_counts k n 138 [some (r_ a0), some (l_ v1), none, some (i_ v3), some (i_ v4), some (i_ v5), none, none, none, none, none] [l_ (Z (a0 + 7) (v5 - 3).toNat), l_ ((Z a0 11) * v3), l_ v6] x Z Q)))))))))))) :
    V mX12_counts k n 93 [some (r_ a0), some (l_ v1), none, some (i_ v3), some (i_ v4), some (i_ v5), some (l_ v6), none, none, none, none] [] x Z Q :=
  V_aload_n dX12_counts_93 rfl (G_12_12 o_a0.1 lf_12_221 dX12_counts_94 (V_iconst dX12_counts_97 (V_icmp_ne (tgt := 142) dX12_counts_98 rfl h.1 (rg_c rfl) (fun c1 => V_msk [true, true, false, true, true, true, true, false, false, false, false] rfl (h.2.1 c1)) (fun c1 => V_iload dX12_counts_101 rfl (V_iconst dX12_counts_103 (V_icmp_le (tgt := 142) dX12_counts_104 rfl (h.2.2 c1).1 (rg_c rfl) (fun c2 => V_msk [true, true, false, true, true, true, true, false, false, false, false] rfl ((h.2.2 c1).2.1 c2)) (fun c2 => V_lload dX12_counts_107 rfl (V_aload_n dX12_counts_109 rfl (G_12_11 o_a0.1 lf_12_179 dX12_counts_110 (V_i2l dX12_counts_113 ((h.2.2 c1).2.2 c2).1 (V_iload_n dX12_counts_114 rfl (V_i2l dX12_counts_115 ((h.2.2 c1).2.2 c2).2.1 (V_lmul dX12_counts_116 (V_iload dX12_counts_117 rfl (V_iconst dX12_counts_119 (V_icmp_le (tgt := 135) dX12_counts_120 rfl (h.2.2 c1).1 (rg_c rfl) (fun c3 => V_ldc2 (z := 3) dX12_counts_135 lkl_12_259 (V_msk [true, true, false, true, true, true, false, false, false, false, false] rfl (((h.2.2 c1).2.2 c2).2.2.1 c3))) (fun c3 => V_aload_n dX12_counts_123 rfl (G_12_16 o_a0.1 o_a0.qR16 lf_12_29 dX12_counts_124 (V_iload dX12_counts_127 rfl (V_iconst dX12_counts_129 (V_isub dX12_counts_130 (V_lald (t := 103) o_a0.qK16 (by decide) rfl (((h.2.2 c1).2.2 c2).2.2.2 c3).1 (((h.2.2 c1).2.2 c2).2.2.2 c3).2.1 (Nat.le_of_ble_eq_true rfl) dX12_counts_131 (V_goto (tgt := 138) dX12_counts_132 rfl (V_msk [true, true, false, true, true, true, false, false, false, false, false] rfl (((h.2.2 c1).2.2 c2).2.2.2 c3).2.2))))))))))))))))))))))))
set_option maxRecDepth 20000 in
theorem b_X12_counts_138 {k n : Nat} {x : Wx} {Z : Zt} {Q : Option Value → Wx → Zt → Prop} {a0 : Nat} {v1 : Int} {v3 : Int} {v4 : Int} {v5 : Int} {t0 : Int} {t1 : Int} {t2 : Int} 
    (h : V mX12_counts k n 142 [some (r_ a0), some (l_ v1), none, some (i_ v3), some (i_ v4), some (i_ v5), some (l_ (t0 - (t1 * t2))), none, none, none, none] [] x Z Q) :
    V mX12_counts k n 138 [some (r_ a0), some (l_ v1), none, some (i_ v3), some (i_ v4), some (i_ v5), none, none, none, none, none] [l_ t2, l_ t1, l_ t0] x Z Q :=
  V_lmul dX12_counts_138 (V_lsub dX12_counts_139 (V_lstore (lv' := [some (r_ a0), some (l_ v1), none, some (i_ v3), some (i_ v4), some (i_ v5), some (l_ (t0 - (t1 * t2))), none, none, none, none]) dX12_counts_140 (Nat.le_of_ble_eq_true rfl) rfl (V_msk [true, true, false, true, true, true, true, false, false, false, false] rfl h)))
set_option maxRecDepth 20000 in
theorem b_X12_counts_142 {k n : Nat} {x : Wx} {Z : Zt} {Q : Option Value → Wx → Zt → Prop} {a0 : Nat} {v1 : Int} {v3 : Int} {v4 : Int} {v5 : Int} {v6 : Int} (o_a0 : Is12 x a0)
    (h : Rg (Z a0 12) ∧ (((Z a0 12 ≠ 2) → (V mX12_counts k n 194 [some (r_ a0), some (l_ v1), none, some (i_ v3), some (i_ v4), some (i_ v5), some (l_ v6), none, none, none, none] [] x Z Q)) ∧ ((Z a0 12 = 2) → (Rg v5 ∧ (((v5 ≤ 3) → (V mX12_counts k n 194 [some (r_ a0), some (l_ v1), none, some (i_ v3), some (i_ v4), some (i_ v5), some (l_ v6), none, none, none, none] [] x Z Q)) ∧ ((3 < v5) → (Rg (Z a0 11) ∧ (((v5 ≤ 4) → (V mX12_counts k n 190 [some (r_ a0), some (l_ v1), none, some (i_ v3), some (i_ v4), some (i_ v5), none, none, none, none, none] [l_ 4, l_ ((Z a0 11) * (Z a0 11)), l_ v6] x Z Q)) ∧ ((4 < v5) → (0 ≤ v5 - 4 ∧ v5 - 4 < 13 ∧ (V mX12_counts k n 190 [some (r_ a0), some (l_ v1), none, some (i_ v3), some (i_ v4), some (i_ v5), none, none, none, none, none] [l_ (Z (a0 + 7) (v5 - 4).toNat), l_ ((Z a0 11) * (Z a0 11)), l_ v6] x Z Q))))))))))) :
    V mX12_counts k n 142 [some (r_ a0), some (l_ v1), none, some (i_ v3), some (i_ v4), some (i_ v5), some (l_ v6), none, none, none, none] [] x Z Q :=
  V_aload_n dX12_counts_142 rfl (G_12_12 o_a0.1 lf_12_221 dX12_counts_143 (V_iconst dX12_counts_146 (V_icmp_ne (tgt := 194) dX12_counts_147 rfl h.1 (rg_c rfl) (fun c1 => V_msk [true, true, false, true, true, true, true, false, false, false, false] rfl (h.2.1 c1)) (fun c1 => V_iload dX12_counts_150 rfl (V_iconst dX12_counts_152 (V_icmp_le (tgt := 194) dX12_counts_153 rfl (h.2.2 c1).1 (rg_c rfl) (fun c2 => V_msk [true, true, false, true, true, true, true, false, false, false, false] rfl ((h.2.2 c1).2.1 c2)) (fun c2 => V_lload dX12_counts_156 rfl (V_aload_n dX12_counts_158 rfl (G_12_11 o_a0.1 lf_12_179 dX12_counts_159 (V_i2l dX12_counts_162 ((h.2.2 c1).2.2 c2).1 (V_aload_n dX12_counts_163 rfl (G_12_11 o_a0.1 lf_12_179 dX12_counts_164 (V_i2l dX12_counts_167 ((h.2.2 c1).2.2 c2).1 (V_lmul dX12_counts_168 (V_iload dX12_counts_169 rfl (V_iconst dX12_counts_171 (V_icmp_le (tgt := 187) dX12_counts_172 rfl (h.2.2 c1).1 (rg_c rfl) (fun c3 => V_ldc2 (z := 4) dX12_counts_187 lkl_12_261 (V_msk [true, true, false, true, true, true, false, false, false, false, false] rfl (((h.2.2 c1).2.2 c2).2.1 c3))) (fun c3 => V_aload_n dX12_counts_175 rfl (G_12_16 o_a0.1 o_a0.qR16 lf_12_29 dX12_counts_176 (V_iload dX12_counts_179 rfl (V_iconst dX12_counts_181 (V_isub dX12_counts_182 (V_lald (t := 103) o_a0.qK16 (by decide) rfl (((h.2.2 c1).2.2 c2).2.2 c3).1 (((h.2.2 c1).2.2 c2).2.2 c3).2.1 (Nat.le_of_ble_eq_true rfl) dX12_counts_183 (V_goto (tgt := 190) dX12_counts_184 rfl (V_msk [true, true, false, true, true, true, false, false, false, false, false] rfl (((h.2.2 c1).2.2 c2).2.2 c3).2.2)))))))))))))))))))))))))
set_option maxRecDepth 20000 in
theorem b_X12_counts_190 {k n : Nat} {x : Wx} {Z : Zt} {Q : Option Value → Wx → Zt → Prop} {a0 : Nat} {v1 : Int} {v3 : Int} {v4 : Int} {v5 : Int} {t0 : Int} {t1 : Int} {t2 : Int} 
    (h : V mX12_counts k n 194 [some (r_ a0), some (l_ v1), none, some (i_ v3), some (i_ v4), some (i_ v5), some (l_ (t0 - (t1 * t2))), none, none, none, none] [] x Z Q) :
    V mX12_counts k n 190 [some (r_ a0), some (l_ v1), none, some (i_ v3), some (i_ v4), some (i_ v5), none, none, none, none, none] [l_ t2, l_ t1, l_ t0] x Z Q :=
  V_lmul dX12_counts_190 (V_lsub dX12_counts_191 (V_lstore (lv' := [some (r_ a0), some (l_ v1), none, some (i_ v3), some (i_ v4), some (i_ v5), some (l_ (t0 - (t1 * t2))), none, none, none, none]) dX12_counts_192 (Nat.le_of_ble_eq_true rfl) rfl (V_msk [true, true, false, true, true, true, true, false, false, false, false] rfl h)))
set_option maxRecDepth 20000 in
theorem b_X12_counts_194 {k n : Nat} {x : Wx} {Z : Zt} {Q : Option Value → Wx → Zt → Prop} {a0 : Nat} {v1 : Int} {v3 : Int} {v4 : Int} {v5 : Int} {v6 : Int} (o_a0 : Is12 x a0)
    (h : 0 ≤ v5 ∧ v5 < 13 ∧ (∀ Z1 : Zt, Z1 = up Z (a0 + 7) v5.toNat v6 → (∀ Z2 : Zt, Z2 = up Z1 (a0 + 8) v5.toNat ((v1 + 1) - v6) → (V mX12_counts k n 228 [some (r_ a0), some (l_ v1), none, some (i_ v3), some (i_ v4), some (i_ v5), none, none, some (l_ (Z2 (a0 + 8) v5.toNat)), none, some (i_ 1)] [] x Z2 Q)))) :
    V mX12_counts k n 194 [some (r_ a0), some (l_ v1), none, some (i_ v3), some (i_ v4), some (i_ v5), some (l_ v6), none, none, none, none] [] x Z Q :=
  V_aload_n dX12_counts_194 rfl (G_12_16 o_a0.1 o_a0.qR16 lf_12_29 dX12_counts_195 (V_iload dX12_counts_198 rfl (V_lload dX12_counts_200 rfl (V_last (t := 103) o_a0.qK16 (by decide) (by decide) rfl h.1 h.2.1 (Nat.le_of_ble_eq_true rfl) dX12_counts_202 (V_nmZ (fun Z1 eZ1 => V_aload_n dX12_counts_203 rfl (G_12_17 o_a0.1 o_a0.qR17 lf_12_33 dX12_counts_204 (V_iload dX12_counts_207 rfl (V_lload_n dX12_counts_209 rfl (V_lconst (z := 1) dX12_counts_210 rfl (V_ladd dX12_counts_211 (V_lload dX12_counts_212 rfl (V_lsub dX12_counts_214 (V_last (t := 103) o_a0.qK17 (by decide) (by decide) rfl h.1 h.2.1 (Nat.le_of_ble_eq_true rfl) dX12_counts_215 (V_nmZ (fun Z2 eZ2 => V_aload_n dX12_counts_216 rfl (G_12_17 o_a0.1 o_a0.qR17 lf_12_33 dX12_counts_217 (V_iload dX12_counts_220 rfl (V_lald (t := 103) o_a0.qK17 (by decide) rfl h.1 h.2.1 (Nat.le_of_ble_eq_true rfl) dX12_counts_222 (V_lstore (lv' := [some (r_ a0), some (l_ v1), none, some (i_ v3), some (i_ v4), some (i_ v5), some (l_ v6), none, some (l_ (Z2 (a0 + 8) v5.toNat)), none, none]) dX12_counts_223 (Nat.le_of_ble_eq_true rfl) rfl (V_iconst dX12_counts_225 (V_istore (lv' := [some (r_ a0), some (l_ v1), none, some (i_ v3), some (i_ v4), some (i_ v5), some (l_ v6), none, some (l_ (Z2 (a0 + 8) v5.toNat)), none, some (i_ 1)]) dX12_counts_226 (Nat.le_of_ble_eq_true rfl) rfl (V_msk [true, true, false, true, true, true, false, false, true, false, true] rfl ((h.2.2 Z1 eZ1) Z2 eZ2))))))))))))))))))))))))
set_option maxRecDepth 20000 in
theorem b_X12_counts_228 {k n : Nat} {x : Wx} {Z : Zt} {Q : Option Value → Wx → Zt → Prop} {a0 : Nat} {v1 : Int} {v3 : Int} {v4 : Int} {v5 : Int} {v8 : Int} {v10 : Int} (o_a0 : Is12 x a0)
    (h : Rg v10 ∧ Rg v5 ∧ (((v5 ≤ v10) → (Rl v8 ∧ Rl v5 ∧ 0 < v5 ∧ (0 ≤ v5 ∧ v5 < 13 ∧ (∀ Z1 : Zt, Z1 = up Z (a0 + 9) v5.toNat (Int.tdiv v8 v5) → (V mX12_counts k n 17 [some (r_ a0), some (l_ v1), none, some (i_ v3), some (i_ v4), some (i_ (v5 + 1)), none, none, none, none, none] [] x Z1 Q))))) ∧ ((v10 < v5) → (0 < v10 ∧ (Rg (Int.tmod v5 v10) ∧ (((Int.tmod v5 v10 ≠ 0) → (V mX12_counts k n 260 [some (r_ a0), some (l_ v1), none, some (i_ v3), some (i_ v4), some (i_ v5), none, none, none, none, some (i_ v10)] [l_ 0, l_ v8] x Z Q)) ∧ ((Int.tmod v5 v10 = 0) → (0 ≤ v10 ∧ v10 < 13 ∧ (V mX12_counts k n 260 [some (r_ a0), some (l_ v1), none, some (i_ v3), some (i_ v4), some (i_ v5), none, none, none, none, some (i_ v10)] [l_ (v10 * (Z (a0 + 9) v10.toNat)), l_ v8] x Z Q))))))))) :
    V mX12_counts k n 228 [some (r_ a0), some (l_ v1), none, some (i_ v3), some (i_ v4), some (i_ v5), none, none, some (l_ v8), none, some (i_ v10)] [] x Z Q :=
  V_iload dX12_counts_228 rfl (V_iload dX12_counts_230 rfl (V_icmp_ge (tgt := 269) dX12_counts_232 rfl h.1 h.2.1 (fun c1 => V_aload_n dX12_counts_269 rfl (G_12_18 o_a0.1 o_a0.qR18 lf_12_36 dX12_counts_270 (V_iload dX12_counts_273 rfl (V_lload dX12_counts_275 rfl (V_iload dX12_counts_277 rfl (V_i2l dX12_counts_279 h.2.1 (V_ldiv dX12_counts_280 (h.2.2.1 c1).1 (h.2.2.1 c1).2.1 (h.2.2.1 c1).2.2.1 (V_last (t := 103) o_a0.qK18 (by decide) (by decide) rfl (h.2.2.1 c1).2.2.2.1 (h.2.2.1 c1).2.2.2.2.1 (Nat.le_of_ble_eq_true rfl) dX12_counts_281 (V_nmZ (fun Z1 eZ1 => V_iinc (lv' := [some (r_ a0), some (l_ v1), none, some (i_ v3), some (i_ v4), some (i_ (v5 + 1)), none, none, some (l_ v8), none, some (i_ v10)]) dX12_counts_282 rfl (Nat.le_of_ble_eq_true rfl) rfl (V_goto (tgt := 17) dX12_counts_285 rfl (V_msk [true, true, false, true, true, true, false, false, false, false, false] rfl ((h.2.2.1 c1).2.2.2.2.2 Z1 eZ1))))))))))))) (fun c1 => V_lload dX12_counts_235 rfl (V_iload dX12_counts_237 rfl (V_iload dX12_counts_239 rfl (V_irem dX12_counts_241 h.2.1 h.1 (h.2.2.2 c1).1 (V_if_ne (tgt := 259) dX12_counts_242 rfl (h.2.2.2 c1).2.1 (fun c2 => V_lconst (z := 0) dX12_counts_259 rfl (V_msk [true, true, false, true, true, true, false, false, false, false, true] rfl ((h.2.2.2 c1).2.2.1 c2))) (fun c2 => V_iload dX12_counts_245 rfl (V_i2l dX12_counts_247 h.1 (V_aload_n dX12_counts_248 rfl (G_12_18 o_a0.1 o_a0.qR18 lf_12_36 dX12_counts_249 (V_iload dX12_counts_252 rfl (V_lald (t := 103) o_a0.qK18 (by decide) rfl ((h.2.2.2 c1).2.2.2 c2).1 ((h.2.2.2 c1).2.2.2 c2).2.1 (Nat.le_of_ble_eq_true rfl) dX12_counts_254 (V_lmul dX12_counts_255 (V_goto (tgt := 260) dX12_counts_256 rfl (V_msk [true, true, false, true, true, true, false, false, false, false, true] rfl ((h.2.2.2 c1).2.2.2 c2).2.2))))))))))))))))
set_option maxRecDepth 20000 in
theorem b_X12_counts_260 {k n : Nat} {x : Wx} {Z : Zt} {Q : Option Value → Wx → Zt → Prop} {a0 : Nat} {v1 : Int} {v3 : Int} {v4 : Int} {v5 : Int} {v10 : Int} {t0 : Int} {t1 : Int} 
    (h : V mX12_counts k n 228 [some (r_ a0), some (l_ v1), none, some (i_ v3), some (i_ v4), some (i_ v5), none, none, some (l_ (t0 - t1)), none, some (i_ (v10 + 1))] [] x Z Q) :
    V mX12_counts k n 260 [some (r_ a0), some (l_ v1), none, some (i_ v3), some (i_ v4), some (i_ v5), none, none, none, none, some (i_ v10)] [l_ t1, l_ t0] x Z Q :=
  V_lsub dX12_counts_260 (V_lstore (lv' := [some (r_ a0), some (l_ v1), none, some (i_ v3), some (i_ v4), some (i_ v5), none, none, some (l_ (t0 - t1)), none, some (i_ v10)]) dX12_counts_261 (Nat.le_of_ble_eq_true rfl) rfl (V_iinc (lv' := [some (r_ a0), some (l_ v1), none, some (i_ v3), some (i_ v4), some (i_ v5), none, none, some (l_ (t0 - t1)), none, some (i_ (v10 + 1))]) dX12_counts_263 rfl (Nat.le_of_ble_eq_true rfl) rfl (V_goto (tgt := 228) dX12_counts_266 rfl (V_msk [true, true, false, true, true, true, false, false, true, false, true] rfl h))))
theorem cs_go {s : Nat → Int} {g : Int} {P : Nat → Int} {n m i : Nat} {v : Int} (h : i < n ∧ (i : Int) ≤ 2 * g) : cSum s g P n (m + 1) i v = cSum s g P n m (i + 1) (v + s i * P (n - i)) := by
  show (if i < n ∧ (i : Int) ≤ 2 * g then _ else _) = _
  rw [if_pos h]
theorem cs_no {s : Nat → Int} {g : Int} {P : Nat → Int} {n m i : Nat} {v : Int} (h : ¬ (i < n ∧ (i : Int) ≤ 2 * g)) : cSum s g P n m i v = v := by
  cases m with
  | zero => rfl
  | succ m => show (if i < n ∧ (i : Int) ≤ 2 * g then _ else _) = _; rw [if_neg h]
/-- the reference's next sum of powers -/
def pwA (s P : Nat → Int) (n : Nat) : Int := -(s 1) * (if 1 < n then P (n - 1) else 1)
def pwB (s P : Nat → Int) (n : Nat) : Int := if 1 < n then pwA s P n - s 2 * (if 2 < n then P (n - 2) else 2) else pwA s P n
def pwC (s P : Nat → Int) (g : Int) (n : Nat) : Int := if g = 2 ∧ 2 < n then pwB s P n - s 3 * (if 3 < n then P (n - 3) else 3) else pwB s P n
def pwD (s P : Nat → Int) (g : Int) (n : Nat) : Int := if g = 2 ∧ 3 < n then pwC s P g n - s 4 * (if 4 < n then P (n - 4) else 4) else pwC s P g n
theorem pwD_eq {s P : Nat → Int} {g : Int} (hg : g = 1 ∨ g = 2) {n : Nat} (hn : 1 ≤ n) : pwD s P g n = -(ctS s g P n) := by
  unfold pwD pwC pwB pwA ctS
  rw [Int.neg_mul]
  by_cases n1 : n = 1
  · subst n1
    rw [if_neg (by omega), if_neg (by omega), if_neg (by omega), if_neg (by omega), if_pos (by omega), cs_no (by omega)]
    show -(s 1 * 1) = -(1 * s 1); omega
  · by_cases n2 : n = 2
    · subst n2
      rw [if_neg (by omega), if_neg (by omega), if_pos (by omega), if_pos (by omega), if_neg (by omega), if_pos (by omega), cs_go (by omega), cs_no (by omega)]
      show -(s 1 * P 1) - s 2 * 2 = -(2 * s 2 + s 1 * P 1); omega
    · have c1 : 1 < n := by omega
      have c2 : 2 < n := by omega
      obtain ⟨m, rfl⟩ : ∃ m : Nat, n = m + 3 := ⟨n - 3, by omega⟩
      rcases hg with rfl | rfl
      · rw [if_neg (by omega), if_neg (by omega), if_pos (by omega), if_pos (by omega), if_pos (by omega), if_neg (by omega), cs_go (by omega), cs_go (by omega), cs_no (by omega)]
        show -(s 1 * P (m + 3 - 1)) - s 2 * P (m + 3 - 2) = -(0 + s 1 * P (m + 3 - 1) + s 2 * P (m + 3 - 2)); omega
      · by_cases m0 : m = 0
        · subst m0
          rw [if_neg (by omega), if_pos (by omega), if_pos (by omega), if_pos (by omega), if_pos (by omega), if_neg (by omega), if_pos (by omega), cs_go (by omega), cs_go (by omega), cs_no (by omega)]
          show -(s 1 * P 2) - s 2 * P 1 - s 3 * 3 = -(3 * s 3 + s 1 * P 2 + s 2 * P 1); omega
        · by_cases m1 : m = 1
          · subst m1
            rw [if_pos (by omega), if_pos (by omega), if_pos (by omega), if_pos (by omega), if_pos (by omega), if_pos (by omega), if_neg (by omega), if_pos (by omega), cs_go (by omega), cs_go (by omega), cs_go (by omega), cs_no (by omega)]
            show -(s 1 * P 3) - s 2 * P 2 - s 3 * P 1 - s 4 * 4 = -(4 * s 4 + s 1 * P 3 + s 2 * P 2 + s 3 * P 1); omega
          · obtain ⟨r, rfl⟩ : ∃ r : Nat, m = r + 2 := ⟨m - 2, by omega⟩
            rw [if_pos (by omega), if_pos (by omega), if_pos (by omega), if_pos (by omega), if_pos (by omega), if_pos (by omega), if_pos (by omega), if_neg (by omega), cs_go (by omega), cs_go (by omega), cs_go (by omega), cs_go (by omega), cs_no (by omega)]
            show -(s 1 * P (r + 5 - 1)) - s 2 * P (r + 5 - 2) - s 3 * P (r + 5 - 3) - s 4 * P (r + 5 - 4) = -(0 + s 1 * P (r + 5 - 1) + s 2 * P (r + 5 - 2) + s 3 * P (r + 5 - 3) + s 4 * P (r + 5 - 4)); omega
theorem sp_X12_counts {k n : Nat} {x : Wx} {Z : Zt} {Q : Option Value → Wx → Zt → Prop} {b : Nat} (o : Is12 x b) {p : Int} {F : Nat → Int} (hF : MF Z b p F) (h : ∀ Z' : Zt, ((∀ j : Nat, 1 ≤ j → j ≤ 12 → Z' (b + 8) j = ctV p (shF p F) (gen F) j ∧ Z' (b + 9) j = plT (ctV p (shF p F) (gen F)) 12 j) ∧ Oth Z Z' (fun c => c = b + 7 ∨ c = b + 8 ∨ c = b + 9)) → Q none x Z') : V mX12_counts k n 0 [some (r_ b), none, none, none, none, none, none, none, none, none, none] [] x Z Q := by
  have hCF := hF.2.1
  have hp := hCF.1
  have hr := hp.rg
  have hg := gen_rg F
  have hg2 : gen F = 1 ∨ gen F = 2 := by omega
  have hl := pall_len hp F
  have m1 := hF.1.1.1
  have m2 := hF.1.1.2
  have m3 := hF.1.2.1
  have hs := shF_170 hp F
  have hsb := (shF_bd hp F).1
  have s1 : shF p F 1 = ((pall p F).length : Int) - p - 1 := rfl
  have s34 : gen F = 2 → shF p F 3 = p * (((pall p F).length : Int) - p - 1) ∧ shF p F 4 = p * p := fun e => by
    have e3 : shF p F 3 = if gen F = 1 then 0 else p * (((pall p F).length : Int) - p - 1) := by unfold shF shr; simp
    have e4 : shF p F 4 = if gen F = 1 then 0 else p * p := by unfold shF shr; simp
    rw [e3, e4, if_neg (by omega), if_neg (by omega)]; exact ⟨rfl, rfl⟩
  have hC : ∀ j : Nat, 1 ≤ j → j ≤ 12 → (ctV p (shF p F) (gen F) j).natAbs ≤ 3 * 28 ^ j := fun j j1 j2 => ctV_bd hp hsb hg.2 j1 j2
  generalize hS : shF p F = s at *
  generalize hGG : gen F = g at *
  have kb : ∀ Z1 : Zt, Oth Z Z1 (fun c => c = b + 7 ∨ c = b + 8 ∨ c = b + 9) → Z1 b = Z b := fun Z1 h1 => h1 b (by show ¬ (b = b + 7 ∨ b = b + 8 ∨ b = b + 9); omega)
  -- the places of one number
  have lp2 : ∀ (r d m : Nat) (big v : Int) (Z1 : Zt), 1 ≤ d → d + r = m + 1 → m + 1 ≤ 12 → (∀ Z2 : Zt, Z2 = up Z1 (b + 9) (m + 1) (Int.tdiv (plS (Z1 (b + 9)) (m + 1) r d v) ((m + 1 : Nat) : Int)) → V mX12_counts k n 17 [some (r_ b), some (l_ big), none, some (i_ (s 1)), some (i_ (s 2)), some (i_ ((m + 2 : Nat) : Int)), none, none, none, none, none] [] x Z2 Q) → Rl (plS (Z1 (b + 9)) (m + 1) r d v) → V mX12_counts k n 228 [some (r_ b), some (l_ big), none, some (i_ (s 1)), some (i_ (s 2)), some (i_ ((m + 1 : Nat) : Int)), none, none, some (l_ v), none, some (i_ (d : Int))] [] x Z1 Q := by
    intro r
    induction r with
    | zero =>
      intro d m big v Z1 h1 h2 h3 nx hR
      refine b_X12_counts_228 o ⟨⟨by omega, by omega⟩, ⟨by omega, by omega⟩, fun _ => ⟨hR, ⟨by omega, by omega⟩, by omega, by omega, by omega, fun Z2 e2 => ?_⟩, fun c => by omega⟩
      rw [Int.toNat_natCast] at e2
      exact nx Z2 e2
    | succ r ih =>
      intro d m big v Z1 h1 h2 h3 nx hR
      have htm : 0 ≤ Int.tmod ((m + 1 : Nat) : Int) (d : Int) ∧ Int.tmod ((m + 1 : Nat) : Int) (d : Int) < d := ⟨Int.tmod_nonneg _ (by omega), Int.tmod_lt_of_pos _ (by omega)⟩
      have es : plS (Z1 (b + 9)) (m + 1) (r + 1) d v = plS (Z1 (b + 9)) (m + 1) r (d + 1) (if Int.tmod ((m + 1 : Nat) : Int) (d : Int) = 0 then v - (d : Int) * Z1 (b + 9) d else v) := rfl
      rw [es] at nx hR
      refine b_X12_counts_228 o ⟨⟨by omega, by omega⟩, ⟨by omega, by omega⟩, fun c => by omega, fun _ => ⟨by omega, ⟨by omega, by omega⟩, fun c => b_X12_counts_260 ?_, fun c => ⟨by omega, by omega, b_X12_counts_260 ?_⟩⟩⟩
      · rw [if_neg c] at nx hR
        rw [Int.sub_zero]
        exact ih (d + 1) m big v Z1 (by omega) (by omega) h3 nx hR
      · rw [if_pos c] at nx hR
        rw [Int.toNat_natCast]
        exact ih (d + 1) m big _ Z1 (by omega) (by omega) h3 nx hR
  have lp : ∀ (r m : Nat) (Z1 : Zt), m + r = 12 → Oth Z Z1 (fun c => c = b + 7 ∨ c = b + 8 ∨ c = b + 9) → (∀ j : Nat, 1 ≤ j → j ≤ m → Z1 (b + 7) j = psT s g m j ∧ Z1 (b + 8) j = ctV p s g j ∧ Z1 (b + 9) j = plT (ctV p s g) m j) → V mX12_counts k n 17 [some (r_ b), some (l_ (p ^ m)), none, some (i_ (s 1)), some (i_ (s 2)), some (i_ ((m + 1 : Nat) : Int)), none, none, none, none, none] [] x Z1 Q := by
    intro r
    induction r with
    | zero =>
      intro m Z1 hm hO hj
      have e12 : m = 12 := by omega
      subst e12
      exact b_X12_counts_17 o ⟨⟨by omega, by omega⟩, fun _ => h Z1 ⟨fun j j1 j2 => ⟨(hj j j1 j2).2.1, (hj j j1 j2).2.2⟩, hO⟩, fun c => by omega⟩
    | succ r ih =>
      intro m Z1 hm hO hj
      have eb := kb Z1 hO
      have q1 : Z1 b 11 = p := by rw [eb]; exact m1
      have q2 : Z1 b 12 = g := by rw [eb]; exact m2
      have hs1 := hs.2 1 (by decide) (by decide)
      have hs2 := hs.2 2 (by decide) (by decide)
      -- behind the sum of powers
      have k194 : ∀ v : Int, v = -(ctS s g (psT s g m) (m + 1)) → V mX12_counts k n 194 [some (r_ b), some (l_ (p ^ (m + 1))), none, some (i_ (s 1)), some (i_ (s 2)), some (i_ ((m + 1 : Nat) : Int)), some (l_ v), none, none, none, none] [] x Z1 Q := fun v ev => by
        refine b_X12_counts_194 o ⟨by omega, by omega, fun Z2 e2 Z3 e3 => ?_⟩
        rw [Int.toNat_natCast] at e2 e3 ⊢
        have a9 : Z3 (b + 9) = Z1 (b + 9) := by rw [e3, up_row _ _ _ _ _ (by omega), e2, up_row _ _ _ _ _ (by omega)]
        have a8 : Z3 (b + 8) (m + 1) = ctV p s g (m + 1) := by
          rw [e3, up_self, ev]; unfold ctV; rw [Nat.add_sub_cancel, Int.sub_neg]
        have hO3 : Oth Z1 Z3 (fun c => c = b + 7 ∨ c = b + 8 ∨ c = b + 9) := fun c hc => by
          have hc : ¬ (c = b + 7 ∨ c = b + 8 ∨ c = b + 9) := hc
          rw [e3, up_row _ _ _ _ _ (by omega), e2, up_row _ _ _ _ _ (by omega)]
        rw [a8]
        have ep : plS (Z3 (b + 9)) (m + 1) m 1 (ctV p s g (m + 1)) = plS (plT (ctV p s g) m) (m + 1) m 1 (ctV p s g (m + 1)) := by
          rw [a9]; exact plS_ext m 1 _ (fun j j1 j2 => (hj j j1 (by omega)).2.2)
        have hbd : (plS (plT (ctV p s g) m) (m + 1) m 1 (ctV p s g (m + 1))).natAbs ≤ 4 * 28 ^ (m + 1) := by
          have h3 := plS_bd (n := m + 1) m 1 (ctV p s g (m + 1)) (P := plT (ctV p s g) m) (fun i hi1 hi2 => plT_bd hC m (by omega) i hi1 (by omega))
          have h4 := hC (m + 1) (by omega) (by omega)
          have h5 := (qS_ok (m + 1) (by omega) (by omega)).1
          rw [Nat.add_sub_cancel] at h5
          omega
        have h6 := (qS_ok (m + 1) (by omega) (by omega)).2
        refine lp2 m 1 m (p ^ (m + 1)) _ Z3 (by decide) (by omega) (by omega) (fun Z4 e4 => ?_) (by rw [ep]; exact ⟨by omega, by omega⟩)
        rw [ep] at e4
        have hO4 : Oth Z3 Z4 (fun c => c = b + 7 ∨ c = b + 8 ∨ c = b + 9) := fun c hc => by
          have hc : ¬ (c = b + 7 ∨ c = b + 8 ∨ c = b + 9) := hc
          rw [e4, up_row _ _ _ _ _ (by omega)]
        refine ih (m + 1) Z4 (by omega) ((hO.tr hO3).tr hO4) (fun j j1 j2 => ⟨?_, ?_, ?_⟩)
        · rw [e4, up_row _ _ _ _ _ (by omega), e3, up_row _ _ _ _ _ (by omega), e2, up_at]
          show _ = upf (psT s g m) (m + 1) _ j
          unfold upf
          by_cases c : j = m + 1
          · rw [if_pos c, if_pos c, ev]
          · rw [if_neg c, if_neg c]; exact (hj j j1 (by omega)).1
        · rw [e4, up_row _ _ _ _ _ (by omega)]
          by_cases c : j = m + 1
          · rw [c]; exact a8
          · rw [e3, up_at, if_neg c, e2, up_row _ _ _ _ _ (by omega)]; exact (hj j j1 (by omega)).2.1
        · rw [e4, up_at]
          show _ = upf (plT (ctV p s g) m) (m + 1) _ j
          unfold upf
          by_cases c : j = m + 1
          · rw [if_pos c, if_pos c]
          · rw [if_neg c, if_neg c, a9]; exact (hj j j1 (by omega)).2.2
      have P7 : ∀ i : Nat, 1 ≤ i → i ≤ m → Z1 (b + 7) (((m + 1 : Nat) : Int) - (i : Int)).toNat = psT s g m (m + 1 - i) := fun i i1 i2 => by
        rw [show (((m + 1 : Nat) : Int) - (i : Int)).toNat = m + 1 - i from by omega]; exact (hj _ (by omega) (by omega)).1
      -- the four summands, from the last on
      have k142 : ∀ v : Int, v = pwC s (psT s g m) g (m + 1) → V mX12_counts k n 142 [some (r_ b), some (l_ (p ^ (m + 1))), none, some (i_ (s 1)), some (i_ (s 2)), some (i_ ((m + 1 : Nat) : Int)), some (l_ v), none, none, none, none] [] x Z1 Q := fun v ev => by
        have eD := pwD_eq (s := s) (P := psT s g m) hg2 (n := m + 1) (by omega)
        unfold pwD at eD
        rw [← ev] at eD
        refine b_X12_counts_142 o ⟨by rw [q2]; exact ⟨by omega, by omega⟩, fun c => k194 v ?_, fun c => ⟨⟨by omega, by omega⟩, fun c1 => k194 v ?_, fun c1 => ⟨by rw [q1]; exact ⟨by omega, by omega⟩, fun c2 => b_X12_counts_190 (k194 _ ?_), fun c2 => ⟨by omega, by omega, b_X12_counts_190 (k194 _ ?_)⟩⟩⟩⟩
        · rw [q2] at c; rw [if_neg (fun q => c q.1)] at eD; exact eD
        · rw [if_neg (fun q => by omega)] at eD; exact eD
        · rw [q2] at c
          rw [if_pos ⟨c, by omega⟩, if_neg (by omega), (s34 c).2] at eD
          rw [q1]; exact eD
        · rw [q2] at c
          rw [if_pos ⟨c, by omega⟩, if_pos (by omega), (s34 c).2] at eD
          rw [q1, show (((m + 1 : Nat) : Int) - 4).toNat = (((m + 1 : Nat) : Int) - ((4 : Nat) : Int)).toNat from rfl, P7 4 (by decide) (by omega)]; exact eD
      have k93 : ∀ v : Int, v = pwB s (psT s g m) (m + 1) → V mX12_counts k n 93 [some (r_ b), some (l_ (p ^ (m + 1))), none, some (i_ (s 1)), some (i_ (s 2)), some (i_ ((m + 1 : Nat) : Int)), some (l_ v), none, none, none, none] [] x Z1 Q := fun v ev => by
        refine b_X12_counts_93 o ⟨by rw [q2]; exact ⟨by omega, by omega⟩, fun c => k142 v ?_, fun c => ⟨⟨by omega, by omega⟩, fun c1 => k142 v ?_, fun c1 => ⟨by rw [q1]; exact ⟨by omega, by omega⟩, ⟨by omega, by omega⟩, fun c2 => b_X12_counts_138 (k142 _ ?_), fun c2 => ⟨by omega, by omega, b_X12_counts_138 (k142 _ ?_)⟩⟩⟩⟩
        · rw [q2] at c; unfold pwC; rw [if_neg (fun q => c q.1)]; exact ev
        · unfold pwC; rw [if_neg (fun q => by omega)]; exact ev
        · rw [q2] at c
          unfold pwC
          rw [if_pos ⟨c, by omega⟩, if_neg (by omega), (s34 c).1, q1, ev, s1]
        · rw [q2] at c
          unfold pwC
          rw [if_pos ⟨c, by omega⟩, if_pos (by omega), (s34 c).1, q1, ev, s1, show (((m + 1 : Nat) : Int) - 3).toNat = (((m + 1 : Nat) : Int) - ((3 : Nat) : Int)).toNat from rfl, P7 3 (by decide) (by omega)]
      have k54 : ∀ t1 : Int, t1 = (if 1 < m + 1 then psT s g m (m + 1 - 1) else 1) → V mX12_counts k n 54 [some (r_ b), some (l_ (p ^ (m + 1))), none, some (i_ (s 1)), some (i_ (s 2)), some (i_ ((m + 1 : Nat) : Int)), none, none, none, none, none] [l_ t1, l_ (-(s 1))] x Z1 Q := fun t1 et => by
        refine b_X12_counts_54 o ⟨⟨by omega, by omega⟩, fun c => k93 _ ?_, fun c => ⟨⟨by omega, by omega⟩, fun c2 => b_X12_counts_89 (k93 _ ?_), fun c2 => ⟨by omega, by omega, b_X12_counts_89 (k93 _ ?_)⟩⟩⟩
        · unfold pwB pwA; rw [if_neg (by omega), et]
        · unfold pwB pwA; rw [if_pos (by omega), if_neg (show ¬ 2 < m + 1 by omega), et]
        · unfold pwB pwA; rw [if_pos (by omega), if_pos (show 2 < m + 1 by omega), et, show (((m + 1 : Nat) : Int) - 2).toNat = (((m + 1 : Nat) : Int) - ((2 : Nat) : Int)).toNat from rfl, P7 2 (by decide) (by omega)]
      have epw : p ^ m * Z1 b 11 = p ^ (m + 1) := by rw [q1, Int.pow_succ]
      refine b_X12_counts_17 o ⟨⟨by omega, by omega⟩, fun c => by omega, fun _ => ⟨by rw [q1]; exact ⟨by omega, by omega⟩, ⟨by omega, by omega⟩, fun c => ?_, fun c => ⟨by omega, by omega, ?_⟩⟩⟩
      · rw [epw]; exact k54 1 (by rw [if_neg (by omega)])
      · rw [epw]; exact k54 _ (by rw [if_pos (by omega), show (((m + 1 : Nat) : Int) - 1).toNat = (((m + 1 : Nat) : Int) - ((1 : Nat) : Int)).toNat from rfl, P7 1 (by decide) (by omega)])
  have e1 : Z b 15 - Z b 11 - 1 = s 1 := by rw [m1, m3, s1]
  refine b_X12_counts_0 o ⟨p, F, hF, by rw [hGG]; omega, ?_⟩
  rw [e1, show shF p F (2 : Int).toNat = s 2 from by rw [hS]; rfl]
  have fin := lp 12 0 Z (by decide) Oth.rf (fun j j1 j2 => by omega)
  rw [Int.pow_zero] at fin
  exact fin
theorem dX12_counted_0 : decode cX12_counted 0 = .ok (.iload_n 2, 1) := by decide +kernel
theorem dX12_counted_1 : decode cX12_counted 1 = .ok (.iconst 1, 1) := by decide +kernel
theorem dX12_counted_2 : decode cX12_counted 2 = .ok (.bipush 12, 2) := by decide +kernel
theorem dX12_counted_4 : decode cX12_counted 4 = .ok (.invokestatic 129, 3) := by decide +kernel
theorem dX12_counted_7 : decode cX12_counted 7 = .ok (.ifCond .eq 11, 3) := by decide +kernel
theorem dX12_counted_10 : decode cX12_counted 10 = .ok (.aload_n 0, 1) := by decide +kernel
theorem dX12_counted_11 : decode cX12_counted 11 = .ok (.iload_n 1, 1) := by decide +kernel
theorem dX12_counted_12 : decode cX12_counted 12 = .ok (.invokevirtual 249, 3) := by decide +kernel
theorem dX12_counted_15 : decode cX12_counted 15 = .ok (.ifCond .ne 7, 3) := by decide +kernel
theorem dX12_counted_18 : decode cX12_counted 18 = .ok (.ldc2_w 263, 3) := by decide +kernel
theorem dX12_counted_21 : decode cX12_counted 21 = .ok (.lreturn, 1) := by decide +kernel
theorem dX12_counted_22 : decode cX12_counted 22 = .ok (.aload_n 0, 1) := by decide +kernel
theorem dX12_counted_23 : decode cX12_counted 23 = .ok (.invokevirtual 265, 3) := by decide +kernel
theorem dX12_counted_26 : decode cX12_counted 26 = .ok (.iload_n 3, 1) := by decide +kernel
theorem dX12_counted_27 : decode cX12_counted 27 = .ok (.ifCond .eq 12, 3) := by decide +kernel
theorem dX12_counted_30 : decode cX12_counted 30 = .ok (.aload_n 0, 1) := by decide +kernel
theorem dX12_counted_31 : decode cX12_counted 31 = .ok (.getfield 36, 3) := by decide +kernel
theorem dX12_counted_34 : decode cX12_counted 34 = .ok (.iload_n 2, 1) := by decide +kernel
theorem dX12_counted_35 : decode cX12_counted 35 = .ok (.laload, 1) := by decide +kernel
theorem dX12_counted_36 : decode cX12_counted 36 = .ok (.goto 9, 3) := by decide +kernel
theorem dX12_counted_39 : decode cX12_counted 39 = .ok (.aload_n 0, 1) := by decide +kernel
theorem dX12_counted_40 : decode cX12_counted 40 = .ok (.getfield 33, 3) := by decide +kernel
theorem dX12_counted_43 : decode cX12_counted 43 = .ok (.iload_n 2, 1) := by decide +kernel
theorem dX12_counted_44 : decode cX12_counted 44 = .ok (.laload, 1) := by decide +kernel
theorem dX12_counted_45 : decode cX12_counted 45 = .ok (.lreturn, 1) := by decide +kernel
set_option maxRecDepth 20000 in
theorem b_X12_counted_0 {k n : Nat} {x : Wx} {Z : Zt} {Q : Option Value → Wx → Zt → Prop} {a0 : Nat} {v1 : Int} {v2 : Int} {v3 : Int} (o_a0 : Is12 x a0)
    (h : (Rg v2 ∧ Rg (1 : Int) ∧ Rg (12 : Int)) ∧ (∀ (r1 : Int), (((r1 = 1 ∧ (1 : Int) ≤ v2 ∧ v2 ≤ (12 : Int)) ∨ (r1 = 0 ∧ (v2 < (1 : Int) ∨ (12 : Int) < v2)))) → (Rg r1 ∧ (((r1 = 0) → (V mX12_counted k n 18 [none, none, none, none] [] x Z Q)) ∧ ((r1 ≠ 0) → (∃ g1 : Nat → Nat → Int, (∃ g2 : Td, (MT (Z (a0 + 1)) g2 ∧ TdV g2 ∧ MS Z a0 g1 ∧ Rg v1 ∧ (∀ (Z'1 : Zt) (P'1 : Nat → Nat → Int) (r2 : Int), (TkC a0 g2 v1 Z Z'1 g1 P'1 r2) → (Rg r2 ∧ (((r2 ≠ 0) → (∃ g3 : Int, (∃ g4 : Nat → Int, (MF Z'1 a0 g3 g4 ∧ (∀ (Z'2 : Zt), ((∀ j : Nat, 1 ≤ j → j ≤ 12 → Z'2 (a0 + 8) j = ctV g3 (shF g3 g4) (gen g4) j ∧ Z'2 (a0 + 9) j = plT (ctV g3 (shF g3 g4) (gen g4)) 12 j) ∧ Oth Z'1 Z'2 (fun c => c = a0 + 7 ∨ c = a0 + 8 ∨ c = a0 + 9)) → (Rg v3 ∧ (((v3 = 0) → (0 ≤ v2 ∧ v2 < 13 ∧ (Q (some (l_ (Z'2 (a0 + 8) v2.toNat))) x Z'2))) ∧ ((v3 ≠ 0) → (0 ≤ v2 ∧ v2 < 13 ∧ (Q (some (l_ (Z'2 (a0 + 9) v2.toNat))) x Z'2)))))))))) ∧ ((r2 = 0) → (V mX12_counted k n 18 [none, none, none, none] [] x Z'1 Q))))))))))))) :
    V mX12_counted k n 0 [some (r_ a0), some (i_ v1), some (i_ v2), some (i_ v3)] [] x Z Q :=
  V_iload_n dX12_counted_0 rfl (V_iconst dX12_counted_1 (V_bipush dX12_counted_2 rfl (V_callS (k' := 0) (n' := 0) [i_ v2, i_ 1, i_ 12] [] okX12_isIn lm_12_129 lsX12_isIn (Nat.le_of_ble_eq_true rfl) (Nat.le_of_ble_eq_true rfl) (Nat.le_of_ble_eq_true rfl) (cat_of rfl) (Nat.le_of_ble_eq_true rfl) (Nat.zero_le _) (Nat.zero_le _) rfl dX12_counted_4 (sp_X12_isIn  h.1 (fun r1 p1 => V_if_eq (tgt := 18) dX12_counted_7 rfl (h.2 r1 p1).1 (fun c1 => V_msk [false, false, false, false] rfl ((h.2 r1 p1).2.1 c1)) (fun c1 => V_aload_n dX12_counted_10 rfl (V_iload_n dX12_counted_11 rfl (Exists.elim ((h.2 r1 p1).2.2 c1) (fun g1 w1 => Exists.elim w1 (fun g2 w2 => V_callV (k' := 0) (n' := 0) (t := 12) (q := (RX12, TX12, 46)) [i_ v1] [] okX12_takesCurve o_a0.1 rfl rfl lm_12_249 liX12_takesCurve lqX12_takesCurve (Nat.le_of_ble_eq_true rfl) (Nat.le_of_ble_eq_true rfl) (Nat.le_of_ble_eq_true rfl) (cat_of rfl) (Nat.le_of_ble_eq_true rfl) (Nat.zero_le _) (Nat.zero_le _) rfl dX12_counted_12 (w_X12_takesCurve o_a0 w2.1 w2.2.1 w2.2.2.1 w2.2.2.2.1 (fun Z'1 P'1 r2 p2 => V_if_ne (tgt := 22) dX12_counted_15 rfl (w2.2.2.2.2 Z'1 P'1 r2 p2).1 (fun c2 => V_aload_n dX12_counted_22 rfl (Exists.elim ((w2.2.2.2.2 Z'1 P'1 r2 p2).2.1 c2) (fun g3 w3 => Exists.elim w3 (fun g4 w4 => V_callV (k' := 0) (n' := 0) (t := 12) (q := (RX12, TX12, 46)) [] [] okX12_counts o_a0.1 rfl rfl lm_12_265 liX12_counts lqX12_counts (Nat.le_of_ble_eq_true rfl) (Nat.le_of_ble_eq_true rfl) (Nat.le_of_ble_eq_true rfl) (cat_of rfl) (Nat.le_of_ble_eq_true rfl) (Nat.zero_le _) (Nat.zero_le _) rfl dX12_counted_23 (sp_X12_counts o_a0 w4.1 (fun Z'2 p3 => V_iload_n dX12_counted_26 rfl (V_if_eq (tgt := 39) dX12_counted_27 rfl (w4.2 Z'2 p3).1 (fun c3 => V_aload_n dX12_counted_39 rfl (G_12_17 o_a0.1 o_a0.qR17 lf_12_33 dX12_counted_40 (V_iload_n dX12_counted_43 rfl (V_lald (t := 103) o_a0.qK17 (by decide) rfl ((w4.2 Z'2 p3).2.1 c3).1 ((w4.2 Z'2 p3).2.1 c3).2.1 (Nat.le_of_ble_eq_true rfl) dX12_counted_44 (V_lret dX12_counted_45 rfl ((w4.2 Z'2 p3).2.1 c3).2.2))))) (fun c3 => V_aload_n dX12_counted_30 rfl (G_12_18 o_a0.1 o_a0.qR18 lf_12_36 dX12_counted_31 (V_iload_n dX12_counted_34 rfl (V_lald (t := 103) o_a0.qK18 (by decide) rfl ((w4.2 Z'2 p3).2.2 c3).1 ((w4.2 Z'2 p3).2.2 c3).2.1 (Nat.le_of_ble_eq_true rfl) dX12_counted_35 (V_goto (tgt := 45) dX12_counted_36 rfl (V_lret dX12_counted_45 rfl ((w4.2 Z'2 p3).2.2 c3).2.2))))))))))))) (fun c2 => V_msk [false, false, false, false] rfl ((w2.2.2.2.2 Z'1 P'1 r2 p2).2.2 c2))))))))))))))
set_option maxRecDepth 20000 in
theorem b_X12_counted_18 {k n : Nat} {x : Wx} {Z : Zt} {Q : Option Value → Wx → Zt → Prop}  
    (h : Q (some (l_ (-1))) x Z) :
    V mX12_counted k n 18 [none, none, none, none] [] x Z Q :=
  V_ldc2 (z := (-1)) dX12_counted_18 lkl_12_263 (V_lret dX12_counted_21 rfl h)
theorem sp_X12_counted {k n : Nat} {x : Wx} {Z : Zt} {Q : Option Value → Wx → Zt → Prop} {b : Nat} {c m y : Int} {S : Ab} (hI : MI x Z b S) (hV : AbV S) (hc : Rg c) (hm : Rg m) (hy : Rg y) (h : ∀ Z' : Zt, Mq b Z Z' → Q (some (l_ (aCounted S.nw c m y))) x Z') : V mX12_counted k n 0 [some (r_ b), some (i_ c), some (i_ m), some (i_ y)] [] x Z Q := by
  unfold aCounted at h
  refine b_X12_counted_0 hI.1 ⟨⟨hm, ⟨by decide, by decide⟩, ⟨by decide, by decide⟩⟩, fun r1 h1 => ⟨⟨by omega, by omega⟩, fun c0 => b_X12_counted_18 ?_, fun c0 => ⟨_, S.nw, hI.2.1, hV.1, MS.any, hc, fun Z1 P1 r2 h2 => ⟨h2.rg.1, fun d => ?_, fun d => b_X12_counted_18 ?_⟩⟩⟩⟩
  · rw [if_neg (by omega)] at h; exact h Z Mq.rf
  · obtain ⟨g1, g2, g3⟩ := h2.yes hV.1 d
    refine ⟨_, _, g2, fun Z2 h3 => ⟨hy, fun e => ⟨by omega, by omega, ?_⟩, fun e => ⟨by omega, by omega, ?_⟩⟩⟩
    · rw [if_pos ⟨g1, by omega⟩, if_pos e] at h
      rw [(h3.1 m.toNat (by omega) (by omega)).1]
      exact h Z2 (g3.tr (Mq.oth h3.2 (fun d hd => by have hd : d = b + 7 ∨ d = b + 8 ∨ d = b + 9 := hd; omega)))
    · rw [if_pos ⟨g1, by omega⟩, if_neg e] at h
      rw [(h3.1 m.toNat (by omega) (by omega)).2]
      exact h Z2 (g3.tr (Mq.oth h3.2 (fun d hd => by have hd : d = b + 7 ∨ d = b + 8 ∨ d = b + 9 := hd; omega)))
  · have g := h2.no d
    rw [if_neg (fun q => g.1 q.1)] at h; exact h Z1 g.2
