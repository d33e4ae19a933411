theorem dX12_mended_0 : decode cX12_mended 0 = .ok (.iload_n 3, 1) := by decide +kernel
theorem dX12_mended_1 : decode cX12_mended 1 = .ok (.ifCond .lt 33, 3) := by decide +kernel
theorem dX12_mended_4 : decode cX12_mended 4 = .ok (.iload 4, 2) := by decide +kernel
theorem dX12_mended_6 : decode cX12_mended 6 = .ok (.iconst 0, 1) := by decide +kernel
theorem dX12_mended_7 : decode cX12_mended 7 = .ok (.bipush 9, 2) := by decide +kernel
theorem dX12_mended_9 : decode cX12_mended 9 = .ok (.invokestatic 129, 3) := by decide +kernel
theorem dX12_mended_12 : decode cX12_mended 12 = .ok (.ifCond .eq 22, 3) := by decide +kernel
theorem dX12_mended_15 : decode cX12_mended 15 = .ok (.iload 6, 2) := by decide +kernel
theorem dX12_mended_17 : decode cX12_mended 17 = .ok (.iconst 0, 1) := by decide +kernel
theorem dX12_mended_18 : decode cX12_mended 18 = .ok (.iconst 2, 1) := by decide +kernel
theorem dX12_mended_19 : decode cX12_mended 19 = .ok (.invokestatic 129, 3) := by decide +kernel
theorem dX12_mended_22 : decode cX12_mended 22 = .ok (.ifCond .eq 12, 3) := by decide +kernel
theorem dX12_mended_25 : decode cX12_mended 25 = .ok (.aload_n 0, 1) := by decide +kernel
theorem dX12_mended_26 : decode cX12_mended 26 = .ok (.iload_n 1, 1) := by decide +kernel
theorem dX12_mended_27 : decode cX12_mended 27 = .ok (.iload_n 2, 1) := by decide +kernel
theorem dX12_mended_28 : decode cX12_mended 28 = .ok (.invokevirtual 345, 3) := by decide +kernel
theorem dX12_mended_31 : decode cX12_mended 31 = .ok (.ifCond .ne 5, 3) := by decide +kernel
theorem dX12_mended_34 : decode cX12_mended 34 = .ok (.iconst (-1), 1) := by decide +kernel
theorem dX12_mended_35 : decode cX12_mended 35 = .ok (.ireturn, 1) := by decide +kernel
theorem dX12_mended_36 : decode cX12_mended 36 = .ok (.aload_n 0, 1) := by decide +kernel
theorem dX12_mended_37 : decode cX12_mended 37 = .ok (.invokevirtual 441, 3) := by decide +kernel
theorem dX12_mended_40 : decode cX12_mended 40 = .ok (.aload_n 0, 1) := by decide +kernel
theorem dX12_mended_41 : decode cX12_mended 41 = .ok (.getfield 423, 3) := by decide +kernel
theorem dX12_mended_44 : decode cX12_mended 44 = .ok (.ifCond .eq 13, 3) := by decide +kernel
theorem dX12_mended_47 : decode cX12_mended 47 = .ok (.aload_n 0, 1) := by decide +kernel
theorem dX12_mended_48 : decode cX12_mended 48 = .ok (.getfield 438, 3) := by decide +kernel
theorem dX12_mended_51 : decode cX12_mended 51 = .ok (.sipush 2500, 3) := by decide +kernel
theorem dX12_mended_54 : decode cX12_mended 54 = .ok (.if_icmp .le 5, 3) := by decide +kernel
theorem dX12_mended_57 : decode cX12_mended 57 = .ok (.iconst (-1), 1) := by decide +kernel
theorem dX12_mended_58 : decode cX12_mended 58 = .ok (.ireturn, 1) := by decide +kernel
theorem dX12_mended_59 : decode cX12_mended 59 = .ok (.aload_n 0, 1) := by decide +kernel
theorem dX12_mended_60 : decode cX12_mended 60 = .ok (.aload_n 0, 1) := by decide +kernel
theorem dX12_mended_61 : decode cX12_mended 61 = .ok (.getfield 72, 3) := by decide +kernel
theorem dX12_mended_64 : decode cX12_mended 64 = .ok (.aload_n 0, 1) := by decide +kernel
theorem dX12_mended_65 : decode cX12_mended 65 = .ok (.getfield 324, 3) := by decide +kernel
theorem dX12_mended_68 : decode cX12_mended 68 = .ok (.iload_n 3, 1) := by decide +kernel
theorem dX12_mended_69 : decode cX12_mended 69 = .ok (.aload_n 0, 1) := by decide +kernel
theorem dX12_mended_70 : decode cX12_mended 70 = .ok (.getfield 84, 3) := by decide +kernel
theorem dX12_mended_73 : decode cX12_mended 73 = .ok (.invokevirtual 444, 3) := by decide +kernel
theorem dX12_mended_76 : decode cX12_mended 76 = .ok (.aload_n 0, 1) := by decide +kernel
theorem dX12_mended_77 : decode cX12_mended 77 = .ok (.aload_n 0, 1) := by decide +kernel
theorem dX12_mended_78 : decode cX12_mended 78 = .ok (.getfield 72, 3) := by decide +kernel
theorem dX12_mended_81 : decode cX12_mended 81 = .ok (.aload_n 0, 1) := by decide +kernel
theorem dX12_mended_82 : decode cX12_mended 82 = .ok (.getfield 324, 3) := by decide +kernel
theorem dX12_mended_85 : decode cX12_mended 85 = .ok (.iload_n 3, 1) := by decide +kernel
theorem dX12_mended_86 : decode cX12_mended 86 = .ok (.aload_n 0, 1) := by decide +kernel
theorem dX12_mended_87 : decode cX12_mended 87 = .ok (.getfield 78, 3) := by decide +kernel
theorem dX12_mended_90 : decode cX12_mended 90 = .ok (.invokevirtual 444, 3) := by decide +kernel
theorem dX12_mended_93 : decode cX12_mended 93 = .ok (.aload_n 0, 1) := by decide +kernel
theorem dX12_mended_94 : decode cX12_mended 94 = .ok (.iload 5, 2) := by decide +kernel
theorem dX12_mended_96 : decode cX12_mended 96 = .ok (.putfield 451, 3) := by decide +kernel
theorem dX12_mended_99 : decode cX12_mended 99 = .ok (.iconst 0, 1) := by decide +kernel
theorem dX12_mended_100 : decode cX12_mended 100 = .ok (.istore 7, 2) := by decide +kernel
theorem dX12_mended_102 : decode cX12_mended 102 = .ok (.iload 7, 2) := by decide +kernel
theorem dX12_mended_104 : decode cX12_mended 104 = .ok (.iload 4, 2) := by decide +kernel
theorem dX12_mended_106 : decode cX12_mended 106 = .ok (.if_icmp .ge 50, 3) := by decide +kernel
theorem dX12_mended_109 : decode cX12_mended 109 = .ok (.aload_n 0, 1) := by decide +kernel
theorem dX12_mended_110 : decode cX12_mended 110 = .ok (.aload_n 0, 1) := by decide +kernel
theorem dX12_mended_111 : decode cX12_mended 111 = .ok (.getfield 423, 3) := by decide +kernel
theorem dX12_mended_114 : decode cX12_mended 114 = .ok (.invokevirtual 455, 3) := by decide +kernel
theorem dX12_mended_117 : decode cX12_mended 117 = .ok (.istore 8, 2) := by decide +kernel
theorem dX12_mended_119 : decode cX12_mended 119 = .ok (.aload_n 0, 1) := by decide +kernel
theorem dX12_mended_120 : decode cX12_mended 120 = .ok (.getfield 78, 3) := by decide +kernel
theorem dX12_mended_123 : decode cX12_mended 123 = .ok (.iload 8, 2) := by decide +kernel
theorem dX12_mended_125 : decode cX12_mended 125 = .ok (.aload_n 0, 1) := by decide +kernel
theorem dX12_mended_126 : decode cX12_mended 126 = .ok (.aload_n 0, 1) := by decide +kernel
theorem dX12_mended_127 : decode cX12_mended 127 = .ok (.getfield 78, 3) := by decide +kernel
theorem dX12_mended_130 : decode cX12_mended 130 = .ok (.iload 8, 2) := by decide +kernel
theorem dX12_mended_132 : decode cX12_mended 132 = .ok (.iaload, 1) := by decide +kernel
theorem dX12_mended_133 : decode cX12_mended 133 = .ok (.aload_n 0, 1) := by decide +kernel
theorem dX12_mended_134 : decode cX12_mended 134 = .ok (.aload_n 0, 1) := by decide +kernel
theorem dX12_mended_135 : decode cX12_mended 135 = .ok (.getfield 179, 3) := by decide +kernel
theorem dX12_mended_138 : decode cX12_mended 138 = .ok (.iconst 1, 1) := by decide +kernel
theorem dX12_mended_139 : decode cX12_mended 139 = .ok (.isub, 1) := by decide +kernel
theorem dX12_mended_140 : decode cX12_mended 140 = .ok (.invokevirtual 455, 3) := by decide +kernel
theorem dX12_mended_143 : decode cX12_mended 143 = .ok (.iadd, 1) := by decide +kernel
theorem dX12_mended_144 : decode cX12_mended 144 = .ok (.iconst 1, 1) := by decide +kernel
theorem dX12_mended_145 : decode cX12_mended 145 = .ok (.iadd, 1) := by decide +kernel
theorem dX12_mended_146 : decode cX12_mended 146 = .ok (.invokevirtual 182, 3) := by decide +kernel
theorem dX12_mended_149 : decode cX12_mended 149 = .ok (.iastore, 1) := by decide +kernel
theorem dX12_mended_150 : decode cX12_mended 150 = .ok (.iinc 7 1, 3) := by decide +kernel
theorem dX12_mended_153 : decode cX12_mended 153 = .ok (.goto (-51), 3) := by decide +kernel
theorem dX12_mended_156 : decode cX12_mended 156 = .ok (.bipush 99, 2) := by decide +kernel
theorem dX12_mended_158 : decode cX12_mended 158 = .ok (.istore 7, 2) := by decide +kernel
theorem dX12_mended_160 : decode cX12_mended 160 = .ok (.iconst 0, 1) := by decide +kernel
theorem dX12_mended_161 : decode cX12_mended 161 = .ok (.istore 8, 2) := by decide +kernel
theorem dX12_mended_163 : decode cX12_mended 163 = .ok (.iconst 0, 1) := by decide +kernel
theorem dX12_mended_164 : decode cX12_mended 164 = .ok (.istore 9, 2) := by decide +kernel
theorem dX12_mended_166 : decode cX12_mended 166 = .ok (.iconst 0, 1) := by decide +kernel
theorem dX12_mended_167 : decode cX12_mended 167 = .ok (.istore 10, 2) := by decide +kernel
theorem dX12_mended_169 : decode cX12_mended 169 = .ok (.iload 10, 2) := by decide +kernel
theorem dX12_mended_171 : decode cX12_mended 171 = .ok (.aload_n 0, 1) := by decide +kernel
theorem dX12_mended_172 : decode cX12_mended 172 = .ok (.getfield 438, 3) := by decide +kernel
theorem dX12_mended_175 : decode cX12_mended 175 = .ok (.if_icmp .ge 90, 3) := by decide +kernel
theorem dX12_mended_178 : decode cX12_mended 178 = .ok (.aload_n 0, 1) := by decide +kernel
theorem dX12_mended_179 : decode cX12_mended 179 = .ok (.aload_n 0, 1) := by decide +kernel
theorem dX12_mended_180 : decode cX12_mended 180 = .ok (.getfield 75, 3) := by decide +kernel
theorem dX12_mended_183 : decode cX12_mended 183 = .ok (.aload_n 0, 1) := by decide +kernel
theorem dX12_mended_184 : decode cX12_mended 184 = .ok (.getfield 432, 3) := by decide +kernel
theorem dX12_mended_187 : decode cX12_mended 187 = .ok (.iload 10, 2) := by decide +kernel
theorem dX12_mended_189 : decode cX12_mended 189 = .ok (.aload_n 0, 1) := by decide +kernel
theorem dX12_mended_190 : decode cX12_mended 190 = .ok (.getfield 81, 3) := by decide +kernel
theorem dX12_mended_193 : decode cX12_mended 193 = .ok (.invokevirtual 444, 3) := by decide +kernel
theorem dX12_mended_196 : decode cX12_mended 196 = .ok (.aload_n 0, 1) := by decide +kernel
theorem dX12_mended_197 : decode cX12_mended 197 = .ok (.invokevirtual 448, 3) := by decide +kernel
theorem dX12_mended_200 : decode cX12_mended 200 = .ok (.istore 11, 2) := by decide +kernel
theorem dX12_mended_202 : decode cX12_mended 202 = .ok (.iload 11, 2) := by decide +kernel
theorem dX12_mended_204 : decode cX12_mended 204 = .ok (.iload 7, 2) := by decide +kernel
theorem dX12_mended_206 : decode cX12_mended 206 = .ok (.if_icmp .le 6, 3) := by decide +kernel
theorem dX12_mended_209 : decode cX12_mended 209 = .ok (.goto 50, 3) := by decide +kernel
theorem dX12_mended_212 : decode cX12_mended 212 = .ok (.iload 11, 2) := by decide +kernel
theorem dX12_mended_214 : decode cX12_mended 214 = .ok (.iload 7, 2) := by decide +kernel
theorem dX12_mended_216 : decode cX12_mended 216 = .ok (.if_icmp .ge 7, 3) := by decide +kernel
theorem dX12_mended_219 : decode cX12_mended 219 = .ok (.iconst 1, 1) := by decide +kernel
theorem dX12_mended_220 : decode cX12_mended 220 = .ok (.goto 7, 3) := by decide +kernel
theorem dX12_mended_223 : decode cX12_mended 223 = .ok (.iload 8, 2) := by decide +kernel
theorem dX12_mended_225 : decode cX12_mended 225 = .ok (.iconst 1, 1) := by decide +kernel
theorem dX12_mended_226 : decode cX12_mended 226 = .ok (.iadd, 1) := by decide +kernel
theorem dX12_mended_227 : decode cX12_mended 227 = .ok (.istore 8, 2) := by decide +kernel
theorem dX12_mended_229 : decode cX12_mended 229 = .ok (.iload 11, 2) := by decide +kernel
theorem dX12_mended_231 : decode cX12_mended 231 = .ok (.iload 7, 2) := by decide +kernel
theorem dX12_mended_233 : decode cX12_mended 233 = .ok (.if_icmp .ne 8, 3) := by decide +kernel
theorem dX12_mended_236 : decode cX12_mended 236 = .ok (.iload 9, 2) := by decide +kernel
theorem dX12_mended_238 : decode cX12_mended 238 = .ok (.ifCond .ne 10, 3) := by decide +kernel
theorem dX12_mended_241 : decode cX12_mended 241 = .ok (.aload_n 0, 1) := by decide +kernel
theorem dX12_mended_242 : decode cX12_mended 242 = .ok (.invokevirtual 458, 3) := by decide +kernel
theorem dX12_mended_245 : decode cX12_mended 245 = .ok (.ifCond .eq 7, 3) := by decide +kernel
theorem dX12_mended_248 : decode cX12_mended 248 = .ok (.iconst 1, 1) := by decide +kernel
theorem dX12_mended_249 : decode cX12_mended 249 = .ok (.goto 4, 3) := by decide +kernel
theorem dX12_mended_252 : decode cX12_mended 252 = .ok (.iconst 0, 1) := by decide +kernel
theorem dX12_mended_253 : decode cX12_mended 253 = .ok (.istore 9, 2) := by decide +kernel
theorem dX12_mended_255 : decode cX12_mended 255 = .ok (.iload 11, 2) := by decide +kernel
theorem dX12_mended_257 : decode cX12_mended 257 = .ok (.istore 7, 2) := by decide +kernel
theorem dX12_mended_259 : decode cX12_mended 259 = .ok (.iinc 10 1, 3) := by decide +kernel
theorem dX12_mended_262 : decode cX12_mended 262 = .ok (.goto (-93), 3) := by decide +kernel
theorem dX12_mended_265 : decode cX12_mended 265 = .ok (.iload 6, 2) := by decide +kernel
theorem dX12_mended_267 : decode cX12_mended 267 = .ok (.ifCond .ne 8, 3) := by decide +kernel
theorem dX12_mended_270 : decode cX12_mended 270 = .ok (.iload 7, 2) := by decide +kernel
theorem dX12_mended_272 : decode cX12_mended 272 = .ok (.goto 24, 3) := by decide +kernel
theorem dX12_mended_275 : decode cX12_mended 275 = .ok (.iload 6, 2) := by decide +kernel
theorem dX12_mended_277 : decode cX12_mended 277 = .ok (.iconst 1, 1) := by decide +kernel
theorem dX12_mended_278 : decode cX12_mended 278 = .ok (.if_icmp .ne 8, 3) := by decide +kernel
theorem dX12_mended_281 : decode cX12_mended 281 = .ok (.iload 8, 2) := by decide +kernel
theorem dX12_mended_283 : decode cX12_mended 283 = .ok (.goto 13, 3) := by decide +kernel
theorem dX12_mended_286 : decode cX12_mended 286 = .ok (.iload 9, 2) := by decide +kernel
theorem dX12_mended_288 : decode cX12_mended 288 = .ok (.ifCond .eq 7, 3) := by decide +kernel
theorem dX12_mended_291 : decode cX12_mended 291 = .ok (.iconst 1, 1) := by decide +kernel
theorem dX12_mended_292 : decode cX12_mended 292 = .ok (.goto 4, 3) := by decide +kernel
theorem dX12_mended_295 : decode cX12_mended 295 = .ok (.iconst 0, 1) := by decide +kernel
theorem dX12_mended_296 : decode cX12_mended 296 = .ok (.ireturn, 1) := by decide +kernel
set_option maxRecDepth 20000 in
theorem b_X12_mended_0 {k n : Nat} {x : Wx} {Z : Zt} {Q : Option Value → Wx → Zt → Prop} {a0 : Nat} {v1 : Int} {v2 : Int} {v3 : Int} {v4 : Int} {v5 : Int} {v6 : Int} (o_a0 : Is12 x a0)
    (h : Rg v3 ∧ (((v3 < 0) → (V mX12_mended k n 34 [none, none, none, none, none, none, none, none, none, none, none, none] [] x Z Q)) ∧ ((0 ≤ v3) → ((Rg v4 ∧ Rg (0 : Int) ∧ Rg (9 : Int)) ∧ (∀ (r1 : Int), (((r1 = 1 ∧ (0 : Int) ≤ v4 ∧ v4 ≤ (9 : Int)) ∨ (r1 = 0 ∧ (v4 < (0 : Int) ∨ (9 : Int) < v4)))) → (Rg r1 ∧ (((r1 = 0) → (V mX12_mended k n 34 [none, none, none, none, none, none, none, none, none, none, none, none] [] x Z Q)) ∧ ((r1 ≠ 0) → ((Rg v6 ∧ Rg (0 : Int) ∧ Rg (2 : Int)) ∧ (∀ (r2 : Int), (((r2 = 1 ∧ (0 : Int) ≤ v6 ∧ v6 ≤ (2 : Int)) ∨ (r2 = 0 ∧ (v6 < (0 : Int) ∨ (2 : Int) < v6)))) → (Rg r2 ∧ (((r2 = 0) → (V mX12_mended k n 34 [none, none, none, none, none, none, none, none, none, none, none, none] [] x Z Q)) ∧ ((r2 ≠ 0) → (∃ g1 : Td, (MT (Z (a0 + 1)) g1 ∧ TdV g1 ∧ Rg v1 ∧ Rg v2 ∧ (∀ (Z'1 : Zt) (r3 : Int), (AsK a0 g1 v1 v2 Z Z'1 r3) → (Rg r3 ∧ (((r3 ≠ 0) → (∃ g2 : Int, (∃ g3 : Int, (∃ g4 : Nat → Int, (∃ g5 : Nat → Int, (∃ g6 : Nat → Int, (MF Z'1 a0 g2 g4 ∧ MSq Z'1 a0 g3 g5 g6 ∧ RmK g2 g4 g3 g5 g6 ∧ (∀ (Z'2 : Zt), (CdM Z'2 a0 g2 g4 g3 g5 g6 ∧ MF Z'2 a0 g2 g4 ∧ CoF a0 Z'1 Z'2) → (Rg (Z'2 a0 39) ∧ (((Z'2 a0 39 = 0) → (V mX12_mended k n 57 [none, none, none, none, none, none, none, none, none, none, none, none] [] x Z'2 Q)) ∧ ((Z'2 a0 39 ≠ 0) → (Rg (Z'2 a0 41) ∧ (((Z'2 a0 41 ≤ 2500) → (∃ g7 : Int, (∃ g8 : Nat → Nat → Int, (∃ g9 : Nat, (∃ g10 : Nat, ((IsP g7 ∧ Z'2 a0 11 = g7) ∧ (Z'2 a0 39 = (g10 : Int) ∧ g10 ≤ 32) ∧ ((Z'2 a0 28) = (g9 : Int) ∧ g9 ≤ 96) ∧ (Rg v3 ∧ 0 ≤ v3) ∧ (∀ q : Nat, q < g9 → ∀ i : Nat, i < g10 → Z'2 (a0 + 21) (32 * q + i) = g8 q i ∧ 0 ≤ g8 q i ∧ g8 q i < g7) ∧ ((a0 + 25) ≠ a0 ∧ (a0 + 25) ≠ (a0 + 21)) ∧ (∀ (Z'3 : Zt), ((∀ i : Nat, i < 32 → Z'3 (a0 + 25) i = wdW g7 g8 g9 g10 v3.toNat i) ∧ Oth Z'2 Z'3 (fun c => c = (a0 + 25))) → (∃ g11 : Int, (∃ g12 : Nat → Nat → Int, (∃ g13 : Nat, (∃ g14 : Nat, ((IsP g11 ∧ Z'3 a0 11 = g11) ∧ (Z'3 a0 39 = (g14 : Int) ∧ g14 ≤ 32) ∧ ((Z'3 a0 28) = (g13 : Int) ∧ g13 ≤ 96) ∧ (Rg v3 ∧ 0 ≤ v3) ∧ (∀ q : Nat, q < g13 → ∀ i : Nat, i < g14 → Z'3 (a0 + 21) (32 * q + i) = g12 q i ∧ 0 ≤ g12 q i ∧ g12 q i < g11) ∧ ((a0 + 23) ≠ a0 ∧ (a0 + 23) ≠ (a0 + 21)) ∧ (∀ (Z'4 : Zt), ((∀ i : Nat, i < 32 → Z'4 (a0 + 23) i = wdW g11 g12 g13 g14 v3.toNat i) ∧ Oth Z'3 Z'4 (fun c => c = (a0 + 23))) → (∀ Z1 : Zt, Z1 = up Z'4 a0 44 v5 → (V mX12_mended k n 102 [some (r_ a0), none, none, none, some (i_ v4), none, some (i_ v6), some (i_ 0), none, none, none, none] [] x Z1 Q))))))))))))))) ∧ ((2500 < Z'2 a0 41) → (V mX12_mended k n 57 [none, none, none, none, none, none, none, none, none, none, none, none] [] x Z'2 Q))))))))))))))) ∧ ((r3 = 0) → (V mX12_mended k n 34 [none, none, none, none, none, none, none, none, none, none, none, none] [] x Z'1 Q)))))))))))))))))))) :
    V mX12_mended k n 0 [some (r_ a0), some (i_ v1), some (i_ v2), some (i_ v3), some (i_ v4), some (i_ v5), some (i_ v6), none, none, none, none, none] [] x Z Q :=
  V_iload_n dX12_mended_0 rfl (V_if_lt (tgt := 34) dX12_mended_1 rfl h.1 (fun c1 => V_msk [false, false, false, false, false, false, false, false, false, false, false, false] rfl (h.2.1 c1)) (fun c1 => V_iload dX12_mended_4 rfl (V_iconst dX12_mended_6 (V_bipush dX12_mended_7 rfl (V_callS (k' := 0) (n' := 0) [i_ v4, i_ 0, i_ 9] [] okX12_isIn lm_12_129 lsX12_isIn (Nat.le_of_ble_eq_true rfl) (Nat.le_of_ble_eq_true rfl) (Nat.le_of_ble_eq_true rfl) (cat_of rfl) (Nat.le_of_ble_eq_true rfl) (Nat.zero_le _) (Nat.zero_le _) rfl dX12_mended_9 (sp_X12_isIn  (h.2.2 c1).1 (fun r1 p1 => V_if_eq (tgt := 34) dX12_mended_12 rfl ((h.2.2 c1).2 r1 p1).1 (fun c2 => V_msk [false, false, false, false, false, false, false, false, false, false, false, false] rfl (((h.2.2 c1).2 r1 p1).2.1 c2)) (fun c2 => V_iload dX12_mended_15 rfl (V_iconst dX12_mended_17 (V_iconst dX12_mended_18 (V_callS (k' := 0) (n' := 0) [i_ v6, i_ 0, i_ 2] [] okX12_isIn lm_12_129 lsX12_isIn (Nat.le_of_ble_eq_true rfl) (Nat.le_of_ble_eq_true rfl) (Nat.le_of_ble_eq_true rfl) (cat_of rfl) (Nat.le_of_ble_eq_true rfl) (Nat.zero_le _) (Nat.zero_le _) rfl dX12_mended_19 (sp_X12_isIn  (((h.2.2 c1).2 r1 p1).2.2 c2).1 (fun r2 p2 => V_if_eq (tgt := 34) dX12_mended_22 rfl ((((h.2.2 c1).2 r1 p1).2.2 c2).2 r2 p2).1 (fun c3 => V_msk [false, false, false, false, false, false, false, false, false, false, false, false] rfl (((((h.2.2 c1).2 r1 p1).2.2 c2).2 r2 p2).2.1 c3)) (fun c3 => V_aload_n dX12_mended_25 rfl (V_iload_n dX12_mended_26 rfl (V_iload_n dX12_mended_27 rfl (Exists.elim (((((h.2.2 c1).2 r1 p1).2.2 c2).2 r2 p2).2.2 c3) (fun g1 w1 => V_callV (k' := 0) (n' := 0) (t := 12) (q := (RX12, TX12, 46)) [i_ v1, i_ v2] [] okX12_isAsked o_a0.1 rfl rfl lm_12_345 liX12_isAsked lqX12_isAsked (Nat.le_of_ble_eq_true rfl) (Nat.le_of_ble_eq_true rfl) (Nat.le_of_ble_eq_true rfl) (cat_of rfl) (Nat.le_of_ble_eq_true rfl) (Nat.zero_le _) (Nat.zero_le _) rfl dX12_mended_28 (sp_X12_isAsked o_a0 w1.1 w1.2.1 w1.2.2.1 w1.2.2.2.1 (fun Z'1 r3 p3 => V_if_ne (tgt := 36) dX12_mended_31 rfl (w1.2.2.2.2 Z'1 r3 p3).1 (fun c4 => V_aload_n dX12_mended_36 rfl (Exists.elim ((w1.2.2.2.2 Z'1 r3 p3).2.1 c4) (fun g2 w2 => Exists.elim w2 (fun g3 w3 => Exists.elim w3 (fun g4 w4 => Exists.elim w4 (fun g5 w5 => Exists.elim w5 (fun g6 w6 => V_callV (k' := 0) (n' := 0) (t := 12) (q := (RX12, TX12, 46)) [] [] okX12_codes o_a0.1 rfl rfl lm_12_441 liX12_codes lqX12_codes (Nat.le_of_ble_eq_true rfl) (Nat.le_of_ble_eq_true rfl) (Nat.le_of_ble_eq_true rfl) (cat_of rfl) (Nat.le_of_ble_eq_true rfl) (Nat.zero_le _) (Nat.zero_le _) rfl dX12_mended_37 (sp_X12_codes o_a0 w6.1 w6.2.1 w6.2.2.1 (fun Z'2 p4 => V_aload_n dX12_mended_40 rfl (G_12_39 o_a0.1 lf_12_423 dX12_mended_41 (V_if_eq (tgt := 57) dX12_mended_44 rfl (w6.2.2.2 Z'2 p4).1 (fun c5 => V_msk [false, false, false, false, false, false, false, false, false, false, false, false] rfl ((w6.2.2.2 Z'2 p4).2.1 c5)) (fun c5 => V_aload_n dX12_mended_47 rfl (G_12_41 o_a0.1 lf_12_438 dX12_mended_48 (V_sipush dX12_mended_51 rfl (V_icmp_le (tgt := 59) dX12_mended_54 rfl ((w6.2.2.2 Z'2 p4).2.2 c5).1 (rg_c rfl) (fun c6 => V_aload_n dX12_mended_59 rfl (V_aload_n dX12_mended_60 rfl (G_12_37 o_a0.1 o_a0.qR37 lf_12_72 dX12_mended_61 (V_aload_n dX12_mended_64 rfl (G_12_28 o_a0.1 lf_12_324 dX12_mended_65 (V_iload_n dX12_mended_68 rfl (V_aload_n dX12_mended_69 rfl (G_12_45 o_a0.1 o_a0.qR45 lf_12_84 dX12_mended_70 (Exists.elim (((w6.2.2.2 Z'2 p4).2.2 c5).2.1 c6) (fun g7 w7 => Exists.elim w7 (fun g8 w8 => Exists.elim w8 (fun g9 w9 => Exists.elim w9 (fun g10 w10 => V_callV (k' := 0) (n' := 0) (t := 12) (q := (RX12, TX12, 46)) [r_ (a0 + 21), i_ (Z'2 a0 28), i_ v3, r_ (a0 + 25)] [] okX12_codesOf o_a0.1 rfl rfl lm_12_444 liX12_codesOf lqX12_codesOf (Nat.le_of_ble_eq_true rfl) (Nat.le_of_ble_eq_true rfl) (Nat.le_of_ble_eq_true rfl) (cat_of rfl) (Nat.le_of_ble_eq_true rfl) (Nat.zero_le _) (Nat.zero_le _) rfl dX12_mended_73 (sp_X12_codesOf o_a0 o_a0.qK37 o_a0.qK45 w10.1 w10.2.1 w10.2.2.1 w10.2.2.2.1 w10.2.2.2.2.1 w10.2.2.2.2.2.1 (fun Z'3 p5 => V_aload_n dX12_mended_76 rfl (V_aload_n dX12_mended_77 rfl (G_12_37 o_a0.1 o_a0.qR37 lf_12_72 dX12_mended_78 (V_aload_n dX12_mended_81 rfl (G_12_28 o_a0.1 lf_12_324 dX12_mended_82 (V_iload_n dX12_mended_85 rfl (V_aload_n dX12_mended_86 rfl (G_12_42 o_a0.1 o_a0.qR42 lf_12_78 dX12_mended_87 (Exists.elim (w10.2.2.2.2.2.2 Z'3 p5) (fun g11 w11 => Exists.elim w11 (fun g12 w12 => Exists.elim w12 (fun g13 w13 => Exists.elim w13 (fun g14 w14 => V_callV (k' := 0) (n' := 0) (t := 12) (q := (RX12, TX12, 46)) [r_ (a0 + 21), i_ (Z'3 a0 28), i_ v3, r_ (a0 + 23)] [] okX12_codesOf o_a0.1 rfl rfl lm_12_444 liX12_codesOf lqX12_codesOf (Nat.le_of_ble_eq_true rfl) (Nat.le_of_ble_eq_true rfl) (Nat.le_of_ble_eq_true rfl) (cat_of rfl) (Nat.le_of_ble_eq_true rfl) (Nat.zero_le _) (Nat.zero_le _) rfl dX12_mended_90 (sp_X12_codesOf o_a0 o_a0.qK37 o_a0.qK42 w14.1 w14.2.1 w14.2.2.1 w14.2.2.2.1 w14.2.2.2.2.1 w14.2.2.2.2.2.1 (fun Z'4 p6 => V_aload_n dX12_mended_93 rfl (V_iload dX12_mended_94 rfl (P_12_44 o_a0.1 lf_12_451 dX12_mended_96 (V_nmZ (fun Z1 eZ1 => V_iconst dX12_mended_99 (V_istore (lv' := [some (r_ a0), some (i_ v1), some (i_ v2), some (i_ v3), some (i_ v4), some (i_ v5), some (i_ v6), some (i_ 0), none, none, none, none]) dX12_mended_100 (Nat.le_of_ble_eq_true rfl) rfl (V_msk [true, false, false, false, true, false, true, true, false, false, false, false] rfl ((w14.2.2.2.2.2.2 Z'4 p6) Z1 eZ1)))))))))))))))))))))))))))))))))))) (fun c6 => V_msk [false, false, false, false, false, false, false, false, false, false, false, false] rfl (((w6.2.2.2 Z'2 p4).2.2 c5).2.2 c6))))))))))))))))) (fun c4 => V_msk [false, false, false, false, false, false, false, false, false, false, false, false] rfl ((w1.2.2.2.2 Z'1 r3 p3).2.2 c4))))))))))))))))))))))
set_option maxRecDepth 20000 in
theorem b_X12_mended_34 {k n : Nat} {x : Wx} {Z : Zt} {Q : Option Value → Wx → Zt → Prop}  
    (h : Q (some (i_ (-1))) x Z) :
    V mX12_mended k n 34 [none, none, none, none, none, none, none, none, none, none, none, none] [] x Z Q :=
  V_iconst dX12_mended_34 (V_iret (ty := .int) dX12_mended_35 rfl rfl h)
set_option maxRecDepth 20000 in
theorem b_X12_mended_57 {k n : Nat} {x : Wx} {Z : Zt} {Q : Option Value → Wx → Zt → Prop}  
    (h : Q (some (i_ (-1))) x Z) :
    V mX12_mended k n 57 [none, none, none, none, none, none, none, none, none, none, none, none] [] x Z Q :=
  V_iconst dX12_mended_57 (V_iret (ty := .int) dX12_mended_58 rfl rfl h)
set_option maxRecDepth 20000 in
theorem b_X12_mended_102 {k n : Nat} {x : Wx} {Z : Zt} {Q : Option Value → Wx → Zt → Prop} {a0 : Nat} {v4 : Int} {v6 : Int} {v7 : Int} (o_a0 : Is12 x a0)
    (h : Rg v7 ∧ Rg v4 ∧ (((v4 ≤ v7) → (V mX12_mended k n 169 [some (r_ a0), none, none, none, none, none, some (i_ v6), some (i_ 99), some (i_ 0), some (i_ 0), some (i_ 0), none] [] x Z Q)) ∧ ((v7 < v4) → ((0 < (Z a0 39) ∧ (Z a0 39) ≤ 100) ∧ (∀ (Z'1 : Zt), (Z'1 = up Z a0 44 (drw (Z a0 44))) → (0 ≤ (drM (Z a0 44) (Z a0 39)) ∧ (drM (Z a0 44) (Z a0 39)) < 32 ∧ ((0 < ((Z'1 a0 11) - 1) ∧ ((Z'1 a0 11) - 1) ≤ 100) ∧ (∀ (Z'2 : Zt), (Z'2 = up Z'1 a0 44 (drw (Z'1 a0 44))) → (Rg (((Z'1 (a0 + 23) (drM (Z a0 44) (Z a0 39)).toNat) + (drM (Z'1 a0 44) ((Z'1 a0 11) - 1))) + 1) ∧ 0 < Z'2 a0 11 ∧ Z'2 a0 11 ≤ 13 ∧ (∀ Z1 : Zt, Z1 = up Z'2 (a0 + 23) (drM (Z a0 44) (Z a0 39)).toNat ((((Z'1 (a0 + 23) (drM (Z a0 44) (Z a0 39)).toNat) + (drM (Z'1 a0 44) ((Z'1 a0 11) - 1))) + 1) % Z'2 a0 11) → (V mX12_mended k n 102 [some (r_ a0), none, none, none, some (i_ v4), none, some (i_ v6), some (i_ (v7 + 1)), none, none, none, none] [] x Z1 Q))))))))))) :
    V mX12_mended k n 102 [some (r_ a0), none, none, none, some (i_ v4), none, some (i_ v6), some (i_ v7), none, none, none, none] [] x Z Q :=
  V_iload dX12_mended_102 rfl (V_iload dX12_mended_104 rfl (V_icmp_ge (tgt := 156) dX12_mended_106 rfl h.1 h.2.1 (fun c1 => V_bipush dX12_mended_156 rfl (V_istore (lv' := [some (r_ a0), none, none, none, some (i_ v4), none, some (i_ v6), some (i_ 99), none, none, none, none]) dX12_mended_158 (Nat.le_of_ble_eq_true rfl) rfl (V_iconst dX12_mended_160 (V_istore (lv' := [some (r_ a0), none, none, none, some (i_ v4), none, some (i_ v6), some (i_ 99), some (i_ 0), none, none, none]) dX12_mended_161 (Nat.le_of_ble_eq_true rfl) rfl (V_iconst dX12_mended_163 (V_istore (lv' := [some (r_ a0), none, none, none, some (i_ v4), none, some (i_ v6), some (i_ 99), some (i_ 0), some (i_ 0), none, none]) dX12_mended_164 (Nat.le_of_ble_eq_true rfl) rfl (V_iconst dX12_mended_166 (V_istore (lv' := [some (r_ a0), none, none, none, some (i_ v4), none, some (i_ v6), some (i_ 99), some (i_ 0), some (i_ 0), some (i_ 0), none]) dX12_mended_167 (Nat.le_of_ble_eq_true rfl) rfl (V_msk [true, false, false, false, false, false, true, true, true, true, true, false] rfl (h.2.2.1 c1)))))))))) (fun c1 => V_aload_n dX12_mended_109 rfl (V_aload_n dX12_mended_110 rfl (G_12_39 o_a0.1 lf_12_423 dX12_mended_111 (V_callV (k' := 0) (n' := 0) (t := 12) (q := (RX12, TX12, 46)) [i_ (Z a0 39)] [] okX12_drawn o_a0.1 rfl rfl lm_12_455 liX12_drawn lqX12_drawn (Nat.le_of_ble_eq_true rfl) (Nat.le_of_ble_eq_true rfl) (Nat.le_of_ble_eq_true rfl) (cat_of rfl) (Nat.le_of_ble_eq_true rfl) (Nat.zero_le _) (Nat.zero_le _) rfl dX12_mended_114 (sp_X12_drawn o_a0 (h.2.2.2 c1).1 (fun Z'1 p1 => V_istore (lv' := [some (r_ a0), none, none, none, some (i_ v4), none, some (i_ v6), some (i_ v7), some (i_ (drM (Z a0 44) (Z a0 39))), none, none, none]) dX12_mended_117 (Nat.le_of_ble_eq_true rfl) rfl (V_aload_n dX12_mended_119 rfl (G_12_42 o_a0.1 o_a0.qR42 lf_12_78 dX12_mended_120 (V_iload dX12_mended_123 rfl (V_aload_n dX12_mended_125 rfl (V_aload_n dX12_mended_126 rfl (G_12_42 o_a0.1 o_a0.qR42 lf_12_78 dX12_mended_127 (V_iload dX12_mended_130 rfl (V_iald (t := 100) o_a0.qK42 (by decide) rfl ((h.2.2.2 c1).2 Z'1 p1).1 ((h.2.2.2 c1).2 Z'1 p1).2.1 (Nat.le_of_ble_eq_true rfl) dX12_mended_132 (V_aload_n dX12_mended_133 rfl (V_aload_n dX12_mended_134 rfl (G_12_11 o_a0.1 lf_12_179 dX12_mended_135 (V_iconst dX12_mended_138 (V_isub dX12_mended_139 (V_callV (k' := 0) (n' := 0) (t := 12) (q := (RX12, TX12, 46)) [i_ ((Z'1 a0 11) - 1)] [i_ (Z'1 (a0 + 23) (drM (Z a0 44) (Z a0 39)).toNat), r_ a0, i_ (drM (Z a0 44) (Z a0 39)), r_ (a0 + 23)] okX12_drawn o_a0.1 rfl rfl lm_12_455 liX12_drawn lqX12_drawn (Nat.le_of_ble_eq_true rfl) (Nat.le_of_ble_eq_true rfl) (Nat.le_of_ble_eq_true rfl) (cat_of rfl) (Nat.le_of_ble_eq_true rfl) (Nat.zero_le _) (Nat.zero_le _) rfl dX12_mended_140 (sp_X12_drawn o_a0 ((h.2.2.2 c1).2 Z'1 p1).2.2.1 (fun Z'2 p2 => V_iadd dX12_mended_143 (V_iconst dX12_mended_144 (V_iadd dX12_mended_145 (V_callV (k' := 0) (n' := 0) (t := 12) (q := (RX12, TX12, 46)) [i_ (((Z'1 (a0 + 23) (drM (Z a0 44) (Z a0 39)).toNat) + (drM (Z'1 a0 44) ((Z'1 a0 11) - 1))) + 1)] [i_ (drM (Z a0 44) (Z a0 39)), r_ (a0 + 23)] okX12_mod o_a0.1 rfl rfl lm_12_182 liX12_mod lqX12_mod (Nat.le_of_ble_eq_true rfl) (Nat.le_of_ble_eq_true rfl) (Nat.le_of_ble_eq_true rfl) (cat_of rfl) (Nat.le_of_ble_eq_true rfl) (Nat.zero_le _) (Nat.zero_le _) rfl dX12_mended_146 (sp_X12_mod o_a0 (((h.2.2.2 c1).2 Z'1 p1).2.2.2 Z'2 p2).1 (((h.2.2.2 c1).2 Z'1 p1).2.2.2 Z'2 p2).2.1 (((h.2.2.2 c1).2 Z'1 p1).2.2.2 Z'2 p2).2.2.1 (V_iast (t := 100) o_a0.qK42 (by decide) (by decide) rfl ((h.2.2.2 c1).2 Z'1 p1).1 ((h.2.2.2 c1).2 Z'1 p1).2.1 (Nat.le_of_ble_eq_true rfl) dX12_mended_149 (V_nmZ (fun Z1 eZ1 => V_iinc (lv' := [some (r_ a0), none, none, none, some (i_ v4), none, some (i_ v6), some (i_ (v7 + 1)), some (i_ (drM (Z a0 44) (Z a0 39))), none, none, none]) dX12_mended_150 rfl (Nat.le_of_ble_eq_true rfl) rfl (V_goto (tgt := 102) dX12_mended_153 rfl (V_msk [true, false, false, false, true, false, true, true, false, false, false, false] rfl ((((h.2.2.2 c1).2 Z'1 p1).2.2.2 Z'2 p2).2.2.2 Z1 eZ1))))))))))))))))))))))))))))))))))
set_option maxRecDepth 20000 in
theorem b_X12_mended_169 {k n : Nat} {x : Wx} {Z : Zt} {Q : Option Value → Wx → Zt → Prop} {a0 : Nat} {v6 : Int} {v7 : Int} {v8 : Int} {v9 : Int} {v10 : Int} (o_a0 : Is12 x a0)
    (h : Rg v10 ∧ Rg (Z a0 41) ∧ (((Z a0 41 ≤ v10) → (Rg v6 ∧ (((v6 ≠ 0) → (((v6 ≠ 1) → (Rg v9 ∧ (((v9 = 0) → (Q (some (i_ 0)) x Z)) ∧ ((v9 ≠ 0) → (Q (some (i_ 1)) x Z))))) ∧ ((v6 = 1) → (Q (some (i_ v8)) x Z)))) ∧ ((v6 = 0) → (Q (some (i_ v7)) x Z))))) ∧ ((v10 < Z a0 41) → (∃ g1 : Int, (∃ g2 : Nat → Nat → Int, (∃ g3 : Nat, (∃ g4 : Nat, ((IsP g1 ∧ Z a0 11 = g1) ∧ (Z a0 39 = (g4 : Int) ∧ g4 ≤ 32) ∧ ((Z a0 40) = (g3 : Int) ∧ g3 ≤ 96) ∧ (Rg v10 ∧ 0 ≤ v10) ∧ (∀ q : Nat, q < g3 → ∀ i : Nat, i < g4 → Z (a0 + 22) (32 * q + i) = g2 q i ∧ 0 ≤ g2 q i ∧ g2 q i < g1) ∧ ((a0 + 24) ≠ a0 ∧ (a0 + 24) ≠ (a0 + 22)) ∧ (∀ (Z'1 : Zt), ((∀ i : Nat, i < 32 → Z'1 (a0 + 24) i = wdW g1 g2 g3 g4 v10.toNat i) ∧ Oth Z Z'1 (fun c => c = (a0 + 24))) → (∃ g5 : Nat, ((Z'1 a0 39 = (g5 : Int) ∧ g5 ≤ 32) ∧ (∀ i : Nat, i < g5 → Rg (Z'1 (a0 + 23) i) ∧ Rg (Z'1 (a0 + 24) i)) ∧ (Rg (unl (Z'1 (a0 + 23)) (Z'1 (a0 + 24)) g5) ∧ Rg v7 ∧ ((((unl (Z'1 (a0 + 23)) (Z'1 (a0 + 24)) g5) ≤ v7) → (((v7 ≤ (unl (Z'1 (a0 + 23)) (Z'1 (a0 + 24)) g5)) → (V mX12_mended k n 227 [some (r_ a0), none, none, none, none, none, some (i_ v6), some (i_ v7), none, some (i_ v9), some (i_ v10), some (i_ (unl (Z'1 (a0 + 23)) (Z'1 (a0 + 24)) g5))] [i_ (v8 + 1)] x Z'1 Q)) ∧ (((unl (Z'1 (a0 + 23)) (Z'1 (a0 + 24)) g5) < v7) → (V mX12_mended k n 227 [some (r_ a0), none, none, none, none, none, some (i_ v6), some (i_ v7), none, some (i_ v9), some (i_ v10), some (i_ (unl (Z'1 (a0 + 23)) (Z'1 (a0 + 24)) g5))] [i_ 1] x Z'1 Q)))) ∧ ((v7 < (unl (Z'1 (a0 + 23)) (Z'1 (a0 + 24)) g5)) → (V mX12_mended k n 259 [some (r_ a0), none, none, none, none, none, some (i_ v6), some (i_ v7), some (i_ v8), some (i_ v9), some (i_ v10), none] [] x Z'1 Q))))))))))))))) :
    V mX12_mended k n 169 [some (r_ a0), none, none, none, none, none, some (i_ v6), some (i_ v7), some (i_ v8), some (i_ v9), some (i_ v10), none] [] x Z Q :=
  V_iload dX12_mended_169 rfl (V_aload_n dX12_mended_171 rfl (G_12_41 o_a0.1 lf_12_438 dX12_mended_172 (V_icmp_ge (tgt := 265) dX12_mended_175 rfl h.1 h.2.1 (fun c1 => V_iload dX12_mended_265 rfl (V_if_ne (tgt := 275) dX12_mended_267 rfl (h.2.2.1 c1).1 (fun c2 => V_iload dX12_mended_275 rfl (V_iconst dX12_mended_277 (V_icmp_ne (tgt := 286) dX12_mended_278 rfl (h.2.2.1 c1).1 (rg_c rfl) (fun c3 => V_iload dX12_mended_286 rfl (V_if_eq (tgt := 295) dX12_mended_288 rfl (((h.2.2.1 c1).2.1 c2).1 c3).1 (fun c4 => V_iconst dX12_mended_295 (V_iret (ty := .int) dX12_mended_296 rfl rfl ((((h.2.2.1 c1).2.1 c2).1 c3).2.1 c4))) (fun c4 => V_iconst dX12_mended_291 (V_goto (tgt := 296) dX12_mended_292 rfl (V_iret (ty := .int) dX12_mended_296 rfl rfl ((((h.2.2.1 c1).2.1 c2).1 c3).2.2 c4)))))) (fun c3 => V_iload dX12_mended_281 rfl (V_goto (tgt := 296) dX12_mended_283 rfl (V_iret (ty := .int) dX12_mended_296 rfl rfl (((h.2.2.1 c1).2.1 c2).2 c3))))))) (fun c2 => V_iload dX12_mended_270 rfl (V_goto (tgt := 296) dX12_mended_272 rfl (V_iret (ty := .int) dX12_mended_296 rfl rfl ((h.2.2.1 c1).2.2 c2)))))) (fun c1 => V_aload_n dX12_mended_178 rfl (V_aload_n dX12_mended_179 rfl (G_12_38 o_a0.1 o_a0.qR38 lf_12_75 dX12_mended_180 (V_aload_n dX12_mended_183 rfl (G_12_40 o_a0.1 lf_12_432 dX12_mended_184 (V_iload dX12_mended_187 rfl (V_aload_n dX12_mended_189 rfl (G_12_43 o_a0.1 o_a0.qR43 lf_12_81 dX12_mended_190 (Exists.elim (h.2.2.2 c1) (fun g1 w1 => Exists.elim w1 (fun g2 w2 => Exists.elim w2 (fun g3 w3 => Exists.elim w3 (fun g4 w4 => V_callV (k' := 0) (n' := 0) (t := 12) (q := (RX12, TX12, 46)) [r_ (a0 + 22), i_ (Z a0 40), i_ v10, r_ (a0 + 24)] [] okX12_codesOf o_a0.1 rfl rfl lm_12_444 liX12_codesOf lqX12_codesOf (Nat.le_of_ble_eq_true rfl) (Nat.le_of_ble_eq_true rfl) (Nat.le_of_ble_eq_true rfl) (cat_of rfl) (Nat.le_of_ble_eq_true rfl) (Nat.zero_le _) (Nat.zero_le _) rfl dX12_mended_193 (sp_X12_codesOf o_a0 o_a0.qK38 o_a0.qK43 w4.1 w4.2.1 w4.2.2.1 w4.2.2.2.1 w4.2.2.2.2.1 w4.2.2.2.2.2.1 (fun Z'1 p1 => V_aload_n dX12_mended_196 rfl (Exists.elim (w4.2.2.2.2.2.2 Z'1 p1) (fun g5 w5 => V_callV (k' := 0) (n' := 0) (t := 12) (q := (RX12, TX12, 46)) [] [] okX12_unlike o_a0.1 rfl rfl lm_12_448 liX12_unlike lqX12_unlike (Nat.le_of_ble_eq_true rfl) (Nat.le_of_ble_eq_true rfl) (Nat.le_of_ble_eq_true rfl) (cat_of rfl) (Nat.le_of_ble_eq_true rfl) (Nat.zero_le _) (Nat.zero_le _) rfl dX12_mended_197 (sp_X12_unlike o_a0 w5.1 w5.2.1 (V_istore (lv' := [some (r_ a0), none, none, none, none, none, some (i_ v6), some (i_ v7), some (i_ v8), some (i_ v9), some (i_ v10), some (i_ (unl (Z'1 (a0 + 23)) (Z'1 (a0 + 24)) g5))]) dX12_mended_200 (Nat.le_of_ble_eq_true rfl) rfl (V_iload dX12_mended_202 rfl (V_iload dX12_mended_204 rfl (V_icmp_le (tgt := 212) dX12_mended_206 rfl w5.2.2.1 w5.2.2.2.1 (fun c5 => V_iload dX12_mended_212 rfl (V_iload dX12_mended_214 rfl (V_icmp_ge (tgt := 223) dX12_mended_216 rfl w5.2.2.1 w5.2.2.2.1 (fun c6 => V_iload dX12_mended_223 rfl (V_iconst dX12_mended_225 (V_iadd dX12_mended_226 (V_msk [true, false, false, false, false, false, true, true, false, true, true, true] rfl ((w5.2.2.2.2.1 c5).1 c6))))) (fun c6 => V_iconst dX12_mended_219 (V_goto (tgt := 227) dX12_mended_220 rfl (V_msk [true, false, false, false, false, false, true, true, false, true, true, true] rfl ((w5.2.2.2.2.1 c5).2 c6))))))) (fun c5 => V_goto (tgt := 259) dX12_mended_209 rfl (V_msk [true, false, false, false, false, false, true, true, true, true, true, false] rfl (w5.2.2.2.2.2 c5))))))))))))))))))))))))))))
set_option maxRecDepth 20000 in
theorem b_X12_mended_227 {k n : Nat} {x : Wx} {Z : Zt} {Q : Option Value → Wx → Zt → Prop} {a0 : Nat} {v6 : Int} {v7 : Int} {v9 : Int} {v10 : Int} {v11 : Int} {t0 : Int} 
    (h : Rg v11 ∧ Rg v7 ∧ (((v11 ≠ v7) → (V mX12_mended k n 241 [some (r_ a0), none, none, none, none, none, some (i_ v6), none, some (i_ t0), none, some (i_ v10), some (i_ v11)] [] x Z Q)) ∧ ((v11 = v7) → (Rg v9 ∧ (((v9 ≠ 0) → (V mX12_mended k n 248 [some (r_ a0), none, none, none, none, none, some (i_ v6), none, some (i_ t0), none, some (i_ v10), some (i_ v11)] [] x Z Q)) ∧ ((v9 = 0) → (V mX12_mended k n 241 [some (r_ a0), none, none, none, none, none, some (i_ v6), none, some (i_ t0), none, some (i_ v10), some (i_ v11)] [] x Z Q))))))) :
    V mX12_mended k n 227 [some (r_ a0), none, none, none, none, none, some (i_ v6), some (i_ v7), none, some (i_ v9), some (i_ v10), some (i_ v11)] [i_ t0] x Z Q :=
  V_istore (lv' := [some (r_ a0), none, none, none, none, none, some (i_ v6), some (i_ v7), some (i_ t0), some (i_ v9), some (i_ v10), some (i_ v11)]) dX12_mended_227 (Nat.le_of_ble_eq_true rfl) rfl (V_iload dX12_mended_229 rfl (V_iload dX12_mended_231 rfl (V_icmp_ne (tgt := 241) dX12_mended_233 rfl h.1 h.2.1 (fun c1 => V_msk [true, false, false, false, false, false, true, false, true, false, true, true] rfl (h.2.2.1 c1)) (fun c1 => V_iload dX12_mended_236 rfl (V_if_ne (tgt := 248) dX12_mended_238 rfl (h.2.2.2 c1).1 (fun c2 => V_msk [true, false, false, false, false, false, true, false, true, false, true, true] rfl ((h.2.2.2 c1).2.1 c2)) (fun c2 => V_msk [true, false, false, false, false, false, true, false, true, false, true, true] rfl ((h.2.2.2 c1).2.2 c2)))))))
set_option maxRecDepth 20000 in
theorem b_X12_mended_241 {k n : Nat} {x : Wx} {Z : Zt} {Q : Option Value → Wx → Zt → Prop} {a0 : Nat} {v6 : Int} {v8 : Int} {v10 : Int} {v11 : Int} (o_a0 : Is12 x a0)
    (h : ∃ g1 : Nat, ((Z a0 39 = (g1 : Int) ∧ g1 ≤ 32) ∧ (∀ i : Nat, i < g1 → Rg (Z (a0 + 24) i) ∧ Rg (Z (a0 + 25) i)) ∧ (∀ (r1 : Int), (((r1 = 1 ∧ ∀ i : Nat, i < g1 → Z (a0 + 24) i = Z (a0 + 25) i) ∨ (r1 = 0 ∧ ¬ ∀ i : Nat, i < g1 → Z (a0 + 24) i = Z (a0 + 25) i))) → (Rg r1 ∧ (((r1 = 0) → (V mX12_mended k n 253 [some (r_ a0), none, none, none, none, none, some (i_ v6), none, some (i_ v8), none, some (i_ v10), some (i_ v11)] [i_ 0] x Z Q)) ∧ ((r1 ≠ 0) → (V mX12_mended k n 248 [some (r_ a0), none, none, none, none, none, some (i_ v6), none, some (i_ v8), none, some (i_ v10), some (i_ v11)] [] x Z Q))))))) :
    V mX12_mended k n 241 [some (r_ a0), none, none, none, none, none, some (i_ v6), none, some (i_ v8), none, some (i_ v10), some (i_ v11)] [] x Z Q :=
  V_aload_n dX12_mended_241 rfl (Exists.elim h (fun g1 w1 => V_callV (k' := 0) (n' := 0) (t := 12) (q := (RX12, TX12, 46)) [] [] okX12_isOwn o_a0.1 rfl rfl lm_12_458 liX12_isOwn lqX12_isOwn (Nat.le_of_ble_eq_true rfl) (Nat.le_of_ble_eq_true rfl) (Nat.le_of_ble_eq_true rfl) (cat_of rfl) (Nat.le_of_ble_eq_true rfl) (Nat.zero_le _) (Nat.zero_le _) rfl dX12_mended_242 (sp_X12_isOwn o_a0 w1.1 w1.2.1 (fun r1 p1 => V_if_eq (tgt := 252) dX12_mended_245 rfl (w1.2.2 r1 p1).1 (fun c1 => V_iconst dX12_mended_252 (V_msk [true, false, false, false, false, false, true, false, true, false, true, true] rfl ((w1.2.2 r1 p1).2.1 c1))) (fun c1 => V_msk [true, false, false, false, false, false, true, false, true, false, true, true] rfl ((w1.2.2 r1 p1).2.2 c1))))))
set_option maxRecDepth 20000 in
theorem b_X12_mended_248 {k n : Nat} {x : Wx} {Z : Zt} {Q : Option Value → Wx → Zt → Prop} {a0 : Nat} {v6 : Int} {v8 : Int} {v10 : Int} {v11 : Int} 
    (h : V mX12_mended k n 253 [some (r_ a0), none, none, none, none, none, some (i_ v6), none, some (i_ v8), none, some (i_ v10), some (i_ v11)] [i_ 1] x Z Q) :
    V mX12_mended k n 248 [some (r_ a0), none, none, none, none, none, some (i_ v6), none, some (i_ v8), none, some (i_ v10), some (i_ v11)] [] x Z Q :=
  V_iconst dX12_mended_248 (V_goto (tgt := 253) dX12_mended_249 rfl (V_msk [true, false, false, false, false, false, true, false, true, false, true, true] rfl h))
set_option maxRecDepth 20000 in
theorem b_X12_mended_253 {k n : Nat} {x : Wx} {Z : Zt} {Q : Option Value → Wx → Zt → Prop} {a0 : Nat} {v6 : Int} {v8 : Int} {v10 : Int} {v11 : Int} {t0 : Int} 
    (h : V mX12_mended k n 259 [some (r_ a0), none, none, none, none, none, some (i_ v6), some (i_ v11), some (i_ v8), some (i_ t0), some (i_ v10), none] [] x Z Q) :
    V mX12_mended k n 253 [some (r_ a0), none, none, none, none, none, some (i_ v6), none, some (i_ v8), none, some (i_ v10), some (i_ v11)] [i_ t0] x Z Q :=
  V_istore (lv' := [some (r_ a0), none, none, none, none, none, some (i_ v6), none, some (i_ v8), some (i_ t0), some (i_ v10), some (i_ v11)]) dX12_mended_253 (Nat.le_of_ble_eq_true rfl) rfl (V_iload dX12_mended_255 rfl (V_istore (lv' := [some (r_ a0), none, none, none, none, none, some (i_ v6), some (i_ v11), some (i_ v8), some (i_ t0), some (i_ v10), some (i_ v11)]) dX12_mended_257 (Nat.le_of_ble_eq_true rfl) rfl (V_msk [true, false, false, false, false, false, true, true, true, true, true, false] rfl h)))
set_option maxRecDepth 20000 in
theorem b_X12_mended_259 {k n : Nat} {x : Wx} {Z : Zt} {Q : Option Value → Wx → Zt → Prop} {a0 : Nat} {v6 : Int} {v7 : Int} {v8 : Int} {v9 : Int} {v10 : Int} 
    (h : V mX12_mended k n 169 [some (r_ a0), none, none, none, none, none, some (i_ v6), some (i_ v7), some (i_ v8), some (i_ v9), some (i_ (v10 + 1)), none] [] x Z Q) :
    V mX12_mended k n 259 [some (r_ a0), none, none, none, none, none, some (i_ v6), some (i_ v7), some (i_ v8), some (i_ v9), some (i_ v10), none] [] x Z Q :=
  V_iinc (lv' := [some (r_ a0), none, none, none, none, none, some (i_ v6), some (i_ v7), some (i_ v8), some (i_ v9), some (i_ (v10 + 1)), none]) dX12_mended_259 rfl (Nat.le_of_ble_eq_true rfl) rfl (V_goto (tgt := 169) dX12_mended_262 rfl (V_msk [true, false, false, false, false, false, true, true, true, true, true, false] rfl h))
/-- the fewest unlike places, how many words have them, is the own word among these: of the first words -/
noncomputable def mdM (p : Int) (F r D own : Nat → Int) : Nat → Int × Int × Int
  | 0 => (99, 0, 0)
  | w + 1 => if (mdM p F r D own w).1 < unl D (mWrd p F r w) (mLen p F r) then mdM p F r D own w else (unl D (mWrd p F r w) (mLen p F r), (if unl D (mWrd p F r w) (mLen p F r) < (mdM p F r D own w).1 then 1 else (mdM p F r D own w).2.1 + 1), @ite _ ((unl D (mWrd p F r w) (mLen p F r) = (mdM p F r D own w).1 ∧ (mdM p F r D own w).2.2 = 1) ∨ ∀ i : Nat, i < mLen p F r → mWrd p F r w i = own i) (Classical.propDecidable _) 1 0)
theorem mdM_rg (p : Int) (F r D own : Nat → Int) (h26 : mLen p F r ≤ 26) : ∀ w : Nat, (0 ≤ (mdM p F r D own w).1 ∧ (mdM p F r D own w).1 ≤ 99) ∧ (0 ≤ (mdM p F r D own w).2.1 ∧ (mdM p F r D own w).2.1 ≤ w) ∧ ((mdM p F r D own w).2.2 = 0 ∨ (mdM p F r D own w).2.2 = 1)
  | 0 => ⟨⟨by show (0 : Int) ≤ 99; decide, by show (99 : Int) ≤ 99; decide⟩, ⟨Int.le_refl 0, Int.le_refl 0⟩, Or.inl rfl⟩
  | w + 1 => by
    have ih := mdM_rg p F r D own h26 w
    have hu := unl_rg D (mWrd p F r w) (mLen p F r)
    unfold mdM
    split
    · exact ⟨ih.1, by have := ih.2.1; omega, ih.2.2⟩
    · refine ⟨by show 0 ≤ unl D (mWrd p F r w) (mLen p F r) ∧ unl D (mWrd p F r w) (mLen p F r) ≤ 99; omega, ?_, ?_⟩
      · show 0 ≤ (if unl D (mWrd p F r w) (mLen p F r) < (mdM p F r D own w).1 then 1 else (mdM p F r D own w).2.1 + 1) ∧ (if unl D (mWrd p F r w) (mLen p F r) < (mdM p F r D own w).1 then (1 : Int) else (mdM p F r D own w).2.1 + 1) ≤ ((w + 1 : Nat) : Int)
        have := ih.2.1
        split <;> omega
      · show (@ite Int _ (Classical.propDecidable _) 1 0) = 0 ∨ (@ite Int _ (Classical.propDecidable _) 1 0) = 1
        split
        · exact Or.inr rfl
        · exact Or.inl rfl
noncomputable def mMdV (p : Int) (F r : Nat → Int) (m e sd w : Int) : Int := if mLen p F r = 0 ∨ 2500 < mWds p F r then -1 else if w = 0 then (mdM p F r (dst p (mLen p F r) e.toNat sd (mSnt p F r m)) (mSnt p F r m) (mWds p F r).toNat).1 else if w = 1 then (mdM p F r (dst p (mLen p F r) e.toNat sd (mSnt p F r m)) (mSnt p F r m) (mWds p F r).toNat).2.1 else (mdM p F r (dst p (mLen p F r) e.toNat sd (mSnt p F r m)) (mSnt p F r m) (mWds p F r).toNat).2.2
noncomputable def mAMended (T : Td) (c s m e sd w : Int) : Int := if fitB T c s = true ∧ 0 ≤ m ∧ (0 ≤ e ∧ e ≤ 9) ∧ 0 ≤ w ∧ w ≤ 2 then mMdV (T.p c.toNat) (T.F c.toNat) (T.rw (2 + s.toNat)) m e sd w else -1
theorem sp_X12_mended {k n : Nat} {x : Wx} {Z : Zt} {Q : Option Value → Wx → Zt → Prop} {b : Nat} {c s m e sd w : Int} {S : Ab} (hI : MI x Z b S) (hV : AbV S) (hc : Rg c) (hs : Rg s) (hm : Rg m) (he : Rg e) (hw : Rg w) (h : RAm b x Z Q (mAMended S.nw c s m e sd w)) : V mX12_mended k n 0 [some (r_ b), some (i_ c), some (i_ s), some (i_ m), some (i_ e), some (i_ sd), some (i_ w), none, none, none, none, none] [] x Z Q := by
  obtain ⟨o, hT, _⟩ := id hI
  unfold mAMended at h
  have no : ∀ Z' : Zt, Mq b Z Z' → ¬ (fitB S.nw c s = true ∧ 0 ≤ m ∧ (0 ≤ e ∧ e ≤ 9) ∧ 0 ≤ w ∧ w ≤ 2) → V mX12_mended k n 34 [none, none, none, none, none, none, none, none, none, none, none, none] [] x Z' Q := fun Z' h1 h2 => b_X12_mended_34 (by rw [if_neg h2] at h; exact h Z' h1)
  refine b_X12_mended_0 o ⟨hm, fun c1 => no Z Mq.rf (by omega), fun c1 => ⟨⟨he, rg_z, ⟨by decide, by decide⟩⟩, fun r1 h1 => ⟨⟨by omega, by omega⟩, fun c2 => no Z Mq.rf (by omega), fun c2 => ⟨⟨hw, rg_z, ⟨by decide, by decide⟩⟩, fun r2 h2 => ⟨⟨by omega, by omega⟩, fun c3 => no Z Mq.rf (by omega), fun c3 => ⟨S.nw, hT, hV.1, hc, hs, fun Z1 r3 hk => ⟨by rw [hk.1]; exact bI_rg _, fun c4 => ?_, fun c4 => no Z1 hk.2.1 (fun ee => ?_)⟩⟩⟩⟩⟩⟩⟩
  · have hf := bI_1 (hk.1 ▸ c4)
    obtain ⟨hF, hS⟩ := hk.2.2 hf
    have hSR := fit_sum hV.1 hf
    rw [if_pos ⟨hf, by omega, by omega, by omega⟩] at h
    obtain ⟨r, hr⟩ : ∃ r : Nat → Int, S.nw.rw (2 + s.toNat) = r := ⟨_, rfl⟩
    obtain ⟨p, hp'⟩ : ∃ p : Int, S.nw.p c.toNat = p := ⟨_, rfl⟩
    obtain ⟨F, hF'⟩ : ∃ F : Nat → Int, S.nw.F c.toNat = F := ⟨_, rfl⟩
    rw [hr, hp', hF'] at h
    rw [hr] at hS hSR
    rw [hp', hF'] at hF
    have hp := hF.2.1.1
    have hpr := hp.rg
    have hK : RmK p F (r 1) (rO r 1) (rT r) := RmK_sum hp hSR (Or.inl rfl) (by have := hSR.2.1; omega)
    refine ⟨p, r 1, F, rO r 1, rT r, hF, hS, hK, fun Z2 hz2 => ?_⟩
    have hN := hz2.1.n hz2.2.1 hSR
    obtain ⟨⟨n1, n2, n3, n4, n5⟩, n6, n7, n8, n9, n10⟩ := id hN
    have q2 : Mq b Z Z2 := hk.2.1.tr hz2.2.2.mq
    have hwd : 1 ≤ mWds p F r ∧ mWds p F r ≤ 32500 := wdN_rg (p := p) (by omega) (mStp p F r).2
    unfold mMdV at h
    rw [n5, n3]
    refine ⟨⟨by omega, by omega⟩, fun c5 => b_X12_mended_57 ?_, fun c5 => ⟨⟨by omega, by omega⟩, fun c6 => ?_, fun c6 => b_X12_mended_57 ?_⟩⟩
    · rw [if_pos (by omega)] at h; exact h Z2 q2
    · rw [if_neg (by omega)] at h
      obtain ⟨N, hN'⟩ : ∃ N : Nat, mWds p F r = (N : Int) := ⟨(mWds p F r).toNat, by omega⟩
      rw [hN', Int.toNat_natCast] at h
      obtain ⟨en, hen⟩ : ∃ en : Nat, e = (en : Int) := ⟨e.toNat, by omega⟩
      subst hen
      rw [Int.toNat_natCast] at h
      refine ⟨p, mVal p F r, mRoo p F r, mLen p F r, ⟨hp, n1⟩, ⟨rfl, by omega⟩, ⟨n2, n9⟩, ⟨hm, c1⟩, n6, ⟨by omega, by omega⟩, fun Z3 hz3 => ?_⟩
      have wf3 := WdF.oth (Or.inr (Or.inr rfl)) hz3.2
      obtain ⟨⟨a1, a2, a3, a4, a5⟩, a6, a7, _⟩ := hN.wf wf3
      refine ⟨p, mVal p F r, mRoo p F r, mLen p F r, ⟨hp, a1⟩, ⟨a3, by omega⟩, ⟨a2, n9⟩, ⟨hm, c1⟩, a6, ⟨by omega, by omega⟩, fun Z4 hz4 Z5 e5 => ?_⟩
      have wf5 : WdF b Z2 Z5 := wf3.tr ((WdF.oth (Or.inl rfl) hz4.2).tr (WdF.b e5))
      have own5 : ∀ i : Nat, i < 32 → Z5 (b + 25) i = mSnt p F r m i := fun i hi => by rw [e5, up_row _ _ _ _ _ (by omega), hz4.2 _ (by omega)]; exact hz3.1 i hi
      have sn5 : ∀ i : Nat, i < 32 → Z5 (b + 23) i = mSnt p F r m i := fun i hi => by rw [e5, up_row _ _ _ _ _ (by omega)]; exact hz4.1 i hi
      have e445 : Z5 b 44 = sd := by rw [e5, up_self]
      have sR : ∀ i : Nat, 0 ≤ mSnt p F r m i ∧ mSnt p F r m i < p := fun i => wdW_rg (by omega) _ _ _ _ _
      clear hz3 hz4
      generalize hD : dst p (mLen p F r) en sd (mSnt p F r m) = D at h
      -- the words
      have lw : ∀ (q j : Nat) (Z6 : Zt), j + q = N → WdF b Z2 Z6 → (∀ i : Nat, i < 32 → Z6 (b + 25) i = mSnt p F r m i) → (∀ i : Nat, i < 32 → Z6 (b + 23) i = D i) → (∀ i : Nat, i < 32 → 0 ≤ D i ∧ D i < p) → V mX12_mended k n 169 [some (r_ b), none, none, none, none, none, some (i_ w), some (i_ (mdM p F r D (mSnt p F r m) j).1), some (i_ (mdM p F r D (mSnt p F r m) j).2.1), some (i_ (mdM p F r D (mSnt p F r m) j).2.2), some (i_ (j : Int)), none] [] x Z6 Q := by
        intro q
        induction q with
        | zero =>
          intro j Z6 hj wf o6 d6 hDr
          obtain ⟨⟨m1, m2, m3, m4, m5⟩, _⟩ := hN.wf wf
          have ej : j = N := by omega
          subst ej
          have hrg := mdM_rg p F r D (mSnt p F r m) n8 j
          have q6 := q2.tr wf.mq
          refine b_X12_mended_169 o ?_
          rw [m5, hN']
          refine ⟨⟨by omega, by omega⟩, ⟨by omega, by omega⟩, fun _ => ⟨hw, fun d1 => ⟨fun d2 => ⟨⟨by omega, by omega⟩, fun d3 => ?_, fun d3 => ?_⟩, fun d2 => ?_⟩, fun d1 => ?_⟩, fun cc => by omega⟩
          · rw [if_neg d1, if_neg d2, d3] at h; exact h Z6 q6
          · rw [if_neg d1, if_neg d2, show (mdM p F r D (mSnt p F r m) j).2.2 = 1 by omega] at h; exact h Z6 q6
          · rw [if_neg d1, if_pos d2] at h; exact h Z6 q6
          · rw [if_pos d1] at h; exact h Z6 q6
        | succ q ih =>
          intro j Z6 hj wf o6 d6 hDr
          obtain ⟨⟨m1, m2, m3, m4, m5⟩, m6, m7, _⟩ := hN.wf wf
          have hrg := mdM_rg p F r D (mSnt p F r m) n8 j
          refine b_X12_mended_169 o ?_
          rw [m5, hN']
          refine ⟨⟨by omega, by omega⟩, ⟨by omega, by omega⟩, fun cc => by omega, fun _ => ⟨p, (mStp p F r).1, (mStp p F r).2, mLen p F r, ⟨hp, m1⟩, ⟨m3, by omega⟩, ⟨m4, by omega⟩, ⟨⟨by omega, by omega⟩, by omega⟩, m7, ⟨by omega, by omega⟩, fun Z7 hz7 => ?_⟩⟩
          rw [Int.toNat_natCast] at hz7
          have wf7 := wf.tr (WdF.oth (Or.inr (Or.inl rfl)) hz7.2)
          have o7 : ∀ i : Nat, i < 32 → Z7 (b + 25) i = mSnt p F r m i := fun i hi => by rw [hz7.2 _ (by omega)]; exact o6 i hi
          have d7 : ∀ i : Nat, i < 32 → Z7 (b + 23) i = D i := fun i hi => by rw [hz7.2 _ (by omega)]; exact d6 i hi
          have w7 : ∀ i : Nat, i < 32 → Z7 (b + 24) i = mWrd p F r j i := hz7.1
          have rW : ∀ i : Nat, 0 ≤ mWrd p F r j i ∧ mWrd p F r j i < p := fun i => wdW_rg (by omega) _ _ _ _ _
          have nx := ih (j + 1) Z7 (by omega) wf7 o7 d7 hDr
          have e39 : Z7 b 39 = (mLen p F r : Int) := (hN.wf wf7).1.2.2.1
          have eU : unl (Z7 (b + 23)) (Z7 (b + 24)) (mLen p F r) = unl D (mWrd p F r j) (mLen p F r) := unl_ext (fun i hi => ⟨d7 i (by omega), w7 i (by omega)⟩)
          have hu := unl_rg D (mWrd p F r j) (mLen p F r)
          have eM : mdM p F r D (mSnt p F r m) (j + 1) = if (mdM p F r D (mSnt p F r m) j).1 < unl D (mWrd p F r j) (mLen p F r) then mdM p F r D (mSnt p F r m) j else (unl D (mWrd p F r j) (mLen p F r), (if unl D (mWrd p F r j) (mLen p F r) < (mdM p F r D (mSnt p F r m) j).1 then 1 else (mdM p F r D (mSnt p F r m) j).2.1 + 1), @ite _ ((unl D (mWrd p F r j) (mLen p F r) = (mdM p F r D (mSnt p F r m) j).1 ∧ (mdM p F r D (mSnt p F r m) j).2.2 = 1) ∨ ∀ i : Nat, i < mLen p F r → mWrd p F r j i = mSnt p F r m i) (Classical.propDecidable _) 1 0) := rfl
          refine ⟨mLen p F r, ⟨e39, by omega⟩, fun i hi => ?_, ?_⟩
          · rw [d7 i (by omega), w7 i (by omega)]
            have h1 := hDr i (by omega)
            have h2 := rW i
            exact ⟨⟨by omega, by omega⟩, ⟨by omega, by omega⟩⟩
          rw [eU]
          generalize unl D (mWrd p F r j) (mLen p F r) = U at eM hu ⊢
          generalize hmd : mdM p F r D (mSnt p F r m) j = md at eM hrg ⊢
          obtain ⟨ls, mn, is⟩ := md
          have hrg : (0 ≤ ls ∧ ls ≤ 99) ∧ (0 ≤ mn ∧ mn ≤ j) ∧ (is = 0 ∨ is = 1) := hrg
          show Rg U ∧ Rg ls ∧ _
          by_cases cU : ls < U
          · rw [if_pos (show (ls, mn, is).1 < U from cU)] at eM
            rw [eM] at nx
            exact ⟨⟨by omega, by omega⟩, ⟨by omega, by omega⟩, fun cc => absurd cc (by show ¬ (U ≤ ls); omega), fun _ => b_X12_mended_259 nx⟩
          · rw [if_neg (show ¬ (ls, mn, is).1 < U from cU)] at eM
            have eM : mdM p F r D (mSnt p F r m) (j + 1) = (U, (if U < ls then 1 else mn + 1), @ite _ ((U = ls ∧ is = 1) ∨ ∀ i : Nat, i < mLen p F r → mWrd p F r j i = mSnt p F r m i) (Classical.propDecidable _) 1 0) := eM
            rw [eM] at nx
            have fin : ∀ (mn2 : Int), mn2 = (if U < ls then 1 else mn + 1) → V mX12_mended k n 227 [some (r_ b), none, none, none, none, none, some (i_ w), some (i_ ls), none, some (i_ is), some (i_ (j : Int)), some (i_ U)] [i_ mn2] x Z7 Q := fun mn2 hmn2 => by
              have end_ : ∀ is2 : Int, is2 = @ite _ ((U = ls ∧ is = 1) ∨ ∀ i : Nat, i < mLen p F r → mWrd p F r j i = mSnt p F r m i) (Classical.propDecidable _) 1 0 → V mX12_mended k n 253 [some (r_ b), none, none, none, none, none, some (i_ w), none, some (i_ mn2), none, some (i_ (j : Int)), some (i_ U)] [i_ is2] x Z7 Q := fun is2 h2 => by
                rw [h2, hmn2]
                exact b_X12_mended_253 (b_X12_mended_259 nx)
              have look : ¬ (U = ls ∧ is = 1) → V mX12_mended k n 241 [some (r_ b), none, none, none, none, none, some (i_ w), none, some (i_ mn2), none, some (i_ (j : Int)), some (i_ U)] [] x Z7 Q := fun hn => by
                refine b_X12_mended_241 o ⟨mLen p F r, ⟨e39, by omega⟩, fun i hi => ?_, fun r5 h5 => ?_⟩
                · rw [w7 i (by omega), o7 i (by omega)]
                  have h1 := sR i
                  have h2 := rW i
                  exact ⟨⟨by omega, by omega⟩, ⟨by omega, by omega⟩⟩
                · have iff_ : (∀ i : Nat, i < mLen p F r → Z7 (b + 24) i = Z7 (b + 25) i) ↔ ∀ i : Nat, i < mLen p F r → mWrd p F r j i = mSnt p F r m i := by
                    constructor
                    · intro hh i hi
                      have := hh i hi
                      rw [w7 i (by omega), o7 i (by omega)] at this
                      exact this
                    · intro hh i hi
                      rw [w7 i (by omega), o7 i (by omega)]
                      exact hh i hi
                  rcases h5 with ⟨e5, e6⟩ | ⟨e5, e6⟩
                  · exact ⟨⟨by omega, by omega⟩, fun cc => by omega, fun _ => b_X12_mended_248 (end_ 1 (by rw [if_pos (Or.inr (iff_.mp e6))]))⟩
                  · exact ⟨⟨by omega, by omega⟩, fun _ => end_ 0 (by rw [if_neg (fun hh => hh.elim hn (fun h6 => e6 (iff_.mpr h6)))]), fun cc => by omega⟩
              exact b_X12_mended_227 ⟨⟨by omega, by omega⟩, ⟨by omega, by omega⟩, fun d1 => look (fun hh => d1 hh.1), fun d1 => ⟨⟨by omega, by omega⟩, fun d2 => b_X12_mended_248 (end_ 1 (by rw [if_pos (Or.inl ⟨d1, by omega⟩)])), fun d2 => look (fun hh => by omega)⟩⟩
            refine ⟨⟨by omega, by omega⟩, ⟨by omega, by omega⟩, fun _ => ⟨fun d1 => fin _ ?_, fun d1 => fin _ ?_⟩, fun cc => absurd cc (by show ¬ (ls < U); exact cU)⟩
            · have d1 : ls ≤ U := d1
              rw [if_neg (by omega)]
            · have d1 : U < ls := d1
              rw [if_pos d1]
      -- the errors
      have le : ∀ (q j : Nat) (y : Int) (E : Nat → Int) (Z6 : Zt), j + q = en → WdF b Z2 Z6 → Z6 b 44 = y → (∀ i : Nat, i < 32 → Z6 (b + 25) i = mSnt p F r m i) → (∀ i : Nat, i < 32 → Z6 (b + 23) i = E i) → (∀ i : Nat, i < 32 → 0 ≤ E i ∧ E i < p) → dst p (mLen p F r) q y E = D → V mX12_mended k n 102 [some (r_ b), none, none, none, some (i_ (en : Int)), none, some (i_ w), some (i_ (j : Int)), none, none, none, none] [] x Z6 Q := by
        intro q
        induction q with
        | zero =>
          intro j y E Z6 hj wf e44 o6 s6 hE hd
          have hd : E = D := hd
          subst hd
          exact b_X12_mended_102 o ⟨⟨by omega, by omega⟩, ⟨by omega, by omega⟩, fun _ => lw N 0 Z6 (by omega) wf o6 s6 hE, fun cc => by omega⟩
        | succ q ih =>
          intro j y E Z6 hj wf e44 o6 s6 hE hd
          obtain ⟨⟨m1, m2, m3, m4, m5⟩, _⟩ := hN.wf wf
          have e44' := e44
          refine b_X12_mended_102 o ?_
          rw [m3, e44]
          have dr : ∀ (u t : Int), 0 < t → 0 ≤ drM u t ∧ drM u t < t ∧ drM u t = Int.tmod (drw u % 4294967296 / 2 ^ 16) t := fun u t ht => by
            have r0 : 0 ≤ drw u % 4294967296 / 2 ^ 16 := Int.ediv_nonneg (emr (drw u) (by decide)).1 (by decide)
            have := emr (drw u % 4294967296 / 2 ^ 16) ht
            exact ⟨this.1, this.2, (Int.tmod_eq_emod_of_nonneg r0).symm⟩
          have dr1 := dr y (mLen p F r : Int) (by omega)
          refine ⟨⟨by omega, by omega⟩, ⟨by omega, by omega⟩, fun cc => by omega, fun _ => ⟨by omega, fun Z7 e7 => ⟨by omega, by omega, ?_⟩⟩⟩
          have wf7 : WdF b Z6 Z7 := WdF.b e7
          have a11 : Z7 b 11 = p := by rw [e7, up_at, if_neg (by decide)]; exact m1
          have a44 : Z7 b 44 = drw y := by rw [e7, up_self]
          rw [a11, a44]
          have dr2 := dr (drw y) (p - 1) (by omega)
          refine ⟨by omega, fun Z8 e8 => ?_⟩
          have wf8 : WdF b Z7 Z8 := WdF.b e8
          have b11 : Z8 b 11 = p := by rw [e8, up_at, if_neg (by decide)]; exact a11
          have b44 : Z8 b 44 = drw (drw y) := by rw [e8, up_self]
          obtain ⟨at_, hat⟩ : ∃ at_ : Nat, drM y (mLen p F r : Int) = (at_ : Int) := ⟨(drM y (mLen p F r : Int)).toNat, by omega⟩
          rw [hat, Int.toNat_natCast, b11]
          have s7 : Z7 (b + 23) at_ = E at_ := by rw [e7, up_row _ _ _ _ _ (by omega)]; exact s6 at_ (by omega)
          have hEa := hE at_ (by omega)
          rw [s7]
          refine ⟨⟨by omega, by omega⟩, by omega, by omega, fun Z9 e9 => ?_⟩
          have wf9 : WdF b Z8 Z9 := WdF.put (Or.inl rfl) e9
          have eD : dst p (mLen p F r) (q + 1) y E = dst p (mLen p F r) q (drw (drw y)) (upf E at_ ((E at_ + drM (drw y) (p - 1) + 1) % p)) := by
            show dst p (mLen p F r) q (drw (drw y)) (upf E (Int.tmod (drw y % 4294967296 / 2 ^ 16) (mLen p F r)).toNat ((E (Int.tmod (drw y % 4294967296 / 2 ^ 16) (mLen p F r)).toNat + (Int.tmod (drw (drw y) % 4294967296 / 2 ^ 16) (p - 1) + 1)) % p)) = _
            rw [← dr1.2.2, ← dr2.2.2, hat, Int.toNat_natCast, Int.add_assoc]
          rw [eD] at hd
          refine ih (j + 1) (drw (drw y)) _ Z9 (by omega) (wf.tr (wf7.tr (wf8.tr wf9))) (by rw [e9, up_row _ _ _ _ _ (by omega)]; exact b44) (fun i hi => ?_) (fun i hi => ?_) (fun i hi => ?_) hd
          · rw [e9, up_row _ _ _ _ _ (by omega), e8, up_row _ _ _ _ _ (by omega), e7, up_row _ _ _ _ _ (by omega)]; exact o6 i hi
          · rw [e9, up_at, e8, up_row _ _ _ _ _ (by omega), e7, up_row _ _ _ _ _ (by omega)]
            unfold upf
            by_cases ci : i = at_
            · rw [if_pos ci, if_pos ci]
            · rw [if_neg ci, if_neg ci]; exact s6 i hi
          · unfold upf
            split
            · exact emr _ (by omega)
            · exact hE i hi
      exact le en 0 sd (mSnt p F r m) Z5 (by omega) wf5 e445 own5 sn5 (fun i _ => sR i) hD
    · rw [if_pos (by omega)] at h; exact h Z2 q2
  · have e0 := bI_0 (hk.1 ▸ c4)
    rw [e0] at ee
    exact absurd ee.1 (by decide)
