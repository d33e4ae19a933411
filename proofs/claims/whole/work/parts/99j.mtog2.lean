theorem dX12_together_0 : decode cX12_together 0 = .ok (.aload_n 0, 1) := by decide +kernel
theorem dX12_together_1 : decode cX12_together 1 = .ok (.iload_n 1, 1) := by decide +kernel
theorem dX12_together_2 : decode cX12_together 2 = .ok (.iconst 1, 1) := by decide +kernel
theorem dX12_together_3 : decode cX12_together 3 = .ok (.iconst 2, 1) := by decide +kernel
theorem dX12_together_4 : decode cX12_together 4 = .ok (.invokevirtual 363, 3) := by decide +kernel
theorem dX12_together_7 : decode cX12_together 7 = .ok (.aload_n 0, 1) := by decide +kernel
theorem dX12_together_8 : decode cX12_together 8 = .ok (.iload_n 2, 1) := by decide +kernel
theorem dX12_together_9 : decode cX12_together 9 = .ok (.iconst 3, 1) := by decide +kernel
theorem dX12_together_10 : decode cX12_together 10 = .ok (.iconst 4, 1) := by decide +kernel
theorem dX12_together_11 : decode cX12_together 11 = .ok (.invokevirtual 363, 3) := by decide +kernel
theorem dX12_together_14 : decode cX12_together 14 = .ok (.aload_n 0, 1) := by decide +kernel
theorem dX12_together_15 : decode cX12_together 15 = .ok (.iconst 1, 1) := by decide +kernel
theorem dX12_together_16 : decode cX12_together 16 = .ok (.iconst 3, 1) := by decide +kernel
theorem dX12_together_17 : decode cX12_together 17 = .ok (.invokevirtual 218, 3) := by decide +kernel
theorem dX12_together_20 : decode cX12_together 20 = .ok (.aload_n 0, 1) := by decide +kernel
theorem dX12_together_21 : decode cX12_together 21 = .ok (.bipush 7, 2) := by decide +kernel
theorem dX12_together_23 : decode cX12_together 23 = .ok (.bipush 20, 2) := by decide +kernel
theorem dX12_together_25 : decode cX12_together 25 = .ok (.invokevirtual 199, 3) := by decide +kernel
theorem dX12_together_28 : decode cX12_together 28 = .ok (.aload_n 0, 1) := by decide +kernel
theorem dX12_together_29 : decode cX12_together 29 = .ok (.bipush 8, 2) := by decide +kernel
theorem dX12_together_31 : decode cX12_together 31 = .ok (.bipush 18, 2) := by decide +kernel
theorem dX12_together_33 : decode cX12_together 33 = .ok (.invokevirtual 199, 3) := by decide +kernel
theorem dX12_together_36 : decode cX12_together 36 = .ok (.aload_n 0, 1) := by decide +kernel
theorem dX12_together_37 : decode cX12_together 37 = .ok (.bipush 9, 2) := by decide +kernel
theorem dX12_together_39 : decode cX12_together 39 = .ok (.bipush 19, 2) := by decide +kernel
theorem dX12_together_41 : decode cX12_together 41 = .ok (.invokevirtual 199, 3) := by decide +kernel
theorem dX12_together_44 : decode cX12_together 44 = .ok (.aload_n 0, 1) := by decide +kernel
theorem dX12_together_45 : decode cX12_together 45 = .ok (.iconst 2, 1) := by decide +kernel
theorem dX12_together_46 : decode cX12_together 46 = .ok (.bipush 6, 2) := by decide +kernel
theorem dX12_together_48 : decode cX12_together 48 = .ok (.invokevirtual 199, 3) := by decide +kernel
theorem dX12_together_51 : decode cX12_together 51 = .ok (.aload_n 0, 1) := by decide +kernel
theorem dX12_together_52 : decode cX12_together 52 = .ok (.bipush 6, 2) := by decide +kernel
theorem dX12_together_54 : decode cX12_together 54 = .ok (.iconst 4, 1) := by decide +kernel
theorem dX12_together_55 : decode cX12_together 55 = .ok (.iconst 1, 1) := by decide +kernel
theorem dX12_together_56 : decode cX12_together 56 = .ok (.iconst 0, 1) := by decide +kernel
theorem dX12_together_57 : decode cX12_together 57 = .ok (.invokevirtual 195, 3) := by decide +kernel
theorem dX12_together_60 : decode cX12_together 60 = .ok (.aload_n 0, 1) := by decide +kernel
theorem dX12_together_61 : decode cX12_together 61 = .ok (.bipush 6, 2) := by decide +kernel
theorem dX12_together_63 : decode cX12_together 63 = .ok (.invokevirtual 192, 3) := by decide +kernel
theorem dX12_together_66 : decode cX12_together 66 = .ok (.ifCond .ge 35, 3) := by decide +kernel
theorem dX12_together_69 : decode cX12_together 69 = .ok (.aload_n 0, 1) := by decide +kernel
theorem dX12_together_70 : decode cX12_together 70 = .ok (.bipush 8, 2) := by decide +kernel
theorem dX12_together_72 : decode cX12_together 72 = .ok (.invokevirtual 188, 3) := by decide +kernel
theorem dX12_together_75 : decode cX12_together 75 = .ok (.aload_n 0, 1) := by decide +kernel
theorem dX12_together_76 : decode cX12_together 76 = .ok (.bipush 9, 2) := by decide +kernel
theorem dX12_together_78 : decode cX12_together 78 = .ok (.invokevirtual 188, 3) := by decide +kernel
theorem dX12_together_81 : decode cX12_together 81 = .ok (.aload_n 0, 1) := by decide +kernel
theorem dX12_together_82 : decode cX12_together 82 = .ok (.getfield 20, 3) := by decide +kernel
theorem dX12_together_85 : decode cX12_together 85 = .ok (.sipush 192, 3) := by decide +kernel
theorem dX12_together_88 : decode cX12_together 88 = .ok (.iconst 1, 1) := by decide +kernel
theorem dX12_together_89 : decode cX12_together 89 = .ok (.iastore, 1) := by decide +kernel
theorem dX12_together_90 : decode cX12_together 90 = .ok (.aload_n 0, 1) := by decide +kernel
theorem dX12_together_91 : decode cX12_together 91 = .ok (.bipush 20, 2) := by decide +kernel
theorem dX12_together_93 : decode cX12_together 93 = .ok (.bipush 7, 2) := by decide +kernel
theorem dX12_together_95 : decode cX12_together 95 = .ok (.invokevirtual 199, 3) := by decide +kernel
theorem dX12_together_98 : decode cX12_together 98 = .ok (.goto 11, 3) := by decide +kernel
theorem dX12_together_101 : decode cX12_together 101 = .ok (.aload_n 0, 1) := by decide +kernel
theorem dX12_together_102 : decode cX12_together 102 = .ok (.bipush 20, 2) := by decide +kernel
theorem dX12_together_104 : decode cX12_together 104 = .ok (.bipush 6, 2) := by decide +kernel
theorem dX12_together_106 : decode cX12_together 106 = .ok (.invokevirtual 218, 3) := by decide +kernel
theorem dX12_together_109 : decode cX12_together 109 = .ok (.aload_n 0, 1) := by decide +kernel
theorem dX12_together_110 : decode cX12_together 110 = .ok (.bipush 6, 2) := by decide +kernel
theorem dX12_together_112 : decode cX12_together 112 = .ok (.invokevirtual 188, 3) := by decide +kernel
theorem dX12_together_115 : decode cX12_together 115 = .ok (.aload_n 0, 1) := by decide +kernel
theorem dX12_together_116 : decode cX12_together 116 = .ok (.bipush 18, 2) := by decide +kernel
theorem dX12_together_118 : decode cX12_together 118 = .ok (.bipush 8, 2) := by decide +kernel
theorem dX12_together_120 : decode cX12_together 120 = .ok (.iconst 1, 1) := by decide +kernel
theorem dX12_together_121 : decode cX12_together 121 = .ok (.iconst 4, 1) := by decide +kernel
theorem dX12_together_122 : decode cX12_together 122 = .ok (.invokevirtual 366, 3) := by decide +kernel
theorem dX12_together_125 : decode cX12_together 125 = .ok (.aload_n 0, 1) := by decide +kernel
theorem dX12_together_126 : decode cX12_together 126 = .ok (.bipush 19, 2) := by decide +kernel
theorem dX12_together_128 : decode cX12_together 128 = .ok (.bipush 8, 2) := by decide +kernel
theorem dX12_together_130 : decode cX12_together 130 = .ok (.iconst 3, 1) := by decide +kernel
theorem dX12_together_131 : decode cX12_together 131 = .ok (.iconst 2, 1) := by decide +kernel
theorem dX12_together_132 : decode cX12_together 132 = .ok (.invokevirtual 366, 3) := by decide +kernel
theorem dX12_together_135 : decode cX12_together 135 = .ok (.aload_n 0, 1) := by decide +kernel
theorem dX12_together_136 : decode cX12_together 136 = .ok (.iconst 2, 1) := by decide +kernel
theorem dX12_together_137 : decode cX12_together 137 = .ok (.iconst 4, 1) := by decide +kernel
theorem dX12_together_138 : decode cX12_together 138 = .ok (.bipush 22, 2) := by decide +kernel
theorem dX12_together_140 : decode cX12_together 140 = .ok (.invokevirtual 215, 3) := by decide +kernel
theorem dX12_together_143 : decode cX12_together 143 = .ok (.aload_n 0, 1) := by decide +kernel
theorem dX12_together_144 : decode cX12_together 144 = .ok (.bipush 22, 2) := by decide +kernel
theorem dX12_together_146 : decode cX12_together 146 = .ok (.iconst 0, 1) := by decide +kernel
theorem dX12_together_147 : decode cX12_together 147 = .ok (.iconst 1, 1) := by decide +kernel
theorem dX12_together_148 : decode cX12_together 148 = .ok (.iconst 0, 1) := by decide +kernel
theorem dX12_together_149 : decode cX12_together 149 = .ok (.invokevirtual 195, 3) := by decide +kernel
theorem dX12_together_152 : decode cX12_together 152 = .ok (.aload_n 0, 1) := by decide +kernel
theorem dX12_together_153 : decode cX12_together 153 = .ok (.bipush 9, 2) := by decide +kernel
theorem dX12_together_155 : decode cX12_together 155 = .ok (.bipush 22, 2) := by decide +kernel
theorem dX12_together_157 : decode cX12_together 157 = .ok (.bipush 23, 2) := by decide +kernel
theorem dX12_together_159 : decode cX12_together 159 = .ok (.invokevirtual 215, 3) := by decide +kernel
theorem dX12_together_162 : decode cX12_together 162 = .ok (.aload_n 0, 1) := by decide +kernel
theorem dX12_together_163 : decode cX12_together 163 = .ok (.bipush 6, 2) := by decide +kernel
theorem dX12_together_165 : decode cX12_together 165 = .ok (.bipush 23, 2) := by decide +kernel
theorem dX12_together_167 : decode cX12_together 167 = .ok (.iconst 1, 1) := by decide +kernel
theorem dX12_together_168 : decode cX12_together 168 = .ok (.iconst 0, 1) := by decide +kernel
theorem dX12_together_169 : decode cX12_together 169 = .ok (.invokevirtual 195, 3) := by decide +kernel
theorem dX12_together_172 : decode cX12_together 172 = .ok (.aload_n 0, 1) := by decide +kernel
theorem dX12_together_173 : decode cX12_together 173 = .ok (.bipush 6, 2) := by decide +kernel
theorem dX12_together_175 : decode cX12_together 175 = .ok (.bipush 7, 2) := by decide +kernel
theorem dX12_together_177 : decode cX12_together 177 = .ok (.bipush 16, 2) := by decide +kernel
theorem dX12_together_179 : decode cX12_together 179 = .ok (.bipush 17, 2) := by decide +kernel
theorem dX12_together_181 : decode cX12_together 181 = .ok (.invokevirtual 205, 3) := by decide +kernel
theorem dX12_together_184 : decode cX12_together 184 = .ok (.aload_n 0, 1) := by decide +kernel
theorem dX12_together_185 : decode cX12_together 185 = .ok (.bipush 16, 2) := by decide +kernel
theorem dX12_together_187 : decode cX12_together 187 = .ok (.bipush 6, 2) := by decide +kernel
theorem dX12_together_189 : decode cX12_together 189 = .ok (.invokevirtual 199, 3) := by decide +kernel
theorem dX12_together_192 : decode cX12_together 192 = .ok (.aload_n 0, 1) := by decide +kernel
theorem dX12_together_193 : decode cX12_together 193 = .ok (.iconst 1, 1) := by decide +kernel
theorem dX12_together_194 : decode cX12_together 194 = .ok (.iconst 3, 1) := by decide +kernel
theorem dX12_together_195 : decode cX12_together 195 = .ok (.iconst 5, 1) := by decide +kernel
theorem dX12_together_196 : decode cX12_together 196 = .ok (.invokevirtual 215, 3) := by decide +kernel
theorem dX12_together_199 : decode cX12_together 199 = .ok (.aload_n 0, 1) := by decide +kernel
theorem dX12_together_200 : decode cX12_together 200 = .ok (.bipush 7, 2) := by decide +kernel
theorem dX12_together_202 : decode cX12_together 202 = .ok (.bipush 7, 2) := by decide +kernel
theorem dX12_together_204 : decode cX12_together 204 = .ok (.bipush 22, 2) := by decide +kernel
theorem dX12_together_206 : decode cX12_together 206 = .ok (.invokevirtual 215, 3) := by decide +kernel
theorem dX12_together_209 : decode cX12_together 209 = .ok (.aload_n 0, 1) := by decide +kernel
theorem dX12_together_210 : decode cX12_together 210 = .ok (.iconst 5, 1) := by decide +kernel
theorem dX12_together_211 : decode cX12_together 211 = .ok (.bipush 22, 2) := by decide +kernel
theorem dX12_together_213 : decode cX12_together 213 = .ok (.bipush 16, 2) := by decide +kernel
theorem dX12_together_215 : decode cX12_together 215 = .ok (.bipush 17, 2) := by decide +kernel
theorem dX12_together_217 : decode cX12_together 217 = .ok (.invokevirtual 205, 3) := by decide +kernel
theorem dX12_together_220 : decode cX12_together 220 = .ok (.aload_n 0, 1) := by decide +kernel
theorem dX12_together_221 : decode cX12_together 221 = .ok (.bipush 16, 2) := by decide +kernel
theorem dX12_together_223 : decode cX12_together 223 = .ok (.iconst 5, 1) := by decide +kernel
theorem dX12_together_224 : decode cX12_together 224 = .ok (.invokevirtual 199, 3) := by decide +kernel
theorem dX12_together_227 : decode cX12_together 227 = .ok (.aload_n 0, 1) := by decide +kernel
theorem dX12_together_228 : decode cX12_together 228 = .ok (.bipush 6, 2) := by decide +kernel
theorem dX12_together_230 : decode cX12_together 230 = .ok (.iconst 5, 1) := by decide +kernel
theorem dX12_together_231 : decode cX12_together 231 = .ok (.bipush 16, 2) := by decide +kernel
theorem dX12_together_233 : decode cX12_together 233 = .ok (.bipush 17, 2) := by decide +kernel
theorem dX12_together_235 : decode cX12_together 235 = .ok (.invokevirtual 205, 3) := by decide +kernel
theorem dX12_together_238 : decode cX12_together 238 = .ok (.aload_n 0, 1) := by decide +kernel
theorem dX12_together_239 : decode cX12_together 239 = .ok (.bipush 17, 2) := by decide +kernel
theorem dX12_together_241 : decode cX12_together 241 = .ok (.bipush 6, 2) := by decide +kernel
theorem dX12_together_243 : decode cX12_together 243 = .ok (.invokevirtual 199, 3) := by decide +kernel
theorem dX12_together_246 : decode cX12_together 246 = .ok (.aload_n 0, 1) := by decide +kernel
theorem dX12_together_247 : decode cX12_together 247 = .ok (.invokevirtual 369, 3) := by decide +kernel
theorem dX12_together_250 : decode cX12_together 250 = .ok (.aload_n 0, 1) := by decide +kernel
theorem dX12_together_251 : decode cX12_together 251 = .ok (.iconst 5, 1) := by decide +kernel
theorem dX12_together_252 : decode cX12_together 252 = .ok (.bipush 6, 2) := by decide +kernel
theorem dX12_together_254 : decode cX12_together 254 = .ok (.iload_n 3, 1) := by decide +kernel
theorem dX12_together_255 : decode cX12_together 255 = .ok (.invokevirtual 372, 3) := by decide +kernel
theorem dX12_together_258 : decode cX12_together 258 = .ok (.return_, 1) := by decide +kernel
set_option maxRecDepth 20000 in
theorem b_X12_together_0 {k n : Nat} {x : Wx} {Z : Zt} {Q : Option Value → Wx → Zt → Prop} {a0 : Nat} {v1 : Int} {v2 : Int} {v3 : Int} (o_a0 : Is12 x a0)
    (h : ∃ g1 : Nat → Nat → Int, (∃ g2 : Int, (∃ g3 : Int, (∃ g4 : UV, (MS Z a0 g1 ∧ (IsP g2 ∧ g3 ≤ 2) ∧ RP g2 g3 g4 ∧ (0 ≤ v1 ∧ v1 ≤ 2995) ∧ KC Z a0 v1.toNat g4 ∧ ((0 ≤ (1 : Int) ∧ (1 : Int) < 27) ∧ (0 ≤ (2 : Int) ∧ (2 : Int) < 27) ∧ (1 : Int) ≠ (2 : Int)) ∧ (∀ (Z'1 : Zt), (MS Z'1 a0 (updP (updP g1 (1 : Int).toNat g4.1) (2 : Int).toNat g4.2) ∧ Oth Z Z'1 (O4 a0)) → (∃ g5 : Nat → Nat → Int, (∃ g6 : Int, (∃ g7 : Int, (∃ g8 : UV, (MS Z'1 a0 g5 ∧ (IsP g6 ∧ g7 ≤ 2) ∧ RP g6 g7 g8 ∧ (0 ≤ v2 ∧ v2 ≤ 2995) ∧ KC Z'1 a0 v2.toNat g8 ∧ ((0 ≤ (3 : Int) ∧ (3 : Int) < 27) ∧ (0 ≤ (4 : Int) ∧ (4 : Int) < 27) ∧ (3 : Int) ≠ (4 : Int)) ∧ (∀ (Z'2 : Zt), (MS Z'2 a0 (updP (updP g5 (3 : Int).toNat g8.1) (4 : Int).toNat g8.2) ∧ Oth Z'1 Z'2 (O4 a0)) → (∃ g9 : Nat → Nat → Int, (∃ g10 : Int, ((IsP g10 ∧ Z'2 a0 11 = g10) ∧ MS Z'2 a0 g9 ∧ ((0 ≤ (1 : Int) ∧ (1 : Int) < 27) ∧ (0 ≤ (3 : Int) ∧ (3 : Int) < 27) ∧ (3 : Int) ≠ 10) ∧ (InP g10 (g9 (1 : Int).toNat) ∧ Fin (g9 (1 : Int).toNat)) ∧ (InP g10 (g9 (3 : Int).toNat) ∧ Fin (g9 (3 : Int).toNat)) ∧ (0 ≤ pd (g9 (1 : Int).toNat) ∧ pd (g9 (1 : Int).toNat) ≤ 9 ∧ pd (g9 (3 : Int).toNat) ≤ 9) ∧ (∀ (Z'3 : Zt) (P'1 : Nat → Nat → Int), (MS Z'3 a0 P'1 ∧ Oth Z'2 Z'3 (O4 a0) ∧ P'1 7 = eG g10 (g9 (1 : Int).toNat) (g9 (3 : Int).toNat) ∧ P'1 8 = eS g10 (g9 (1 : Int).toNat) (g9 (3 : Int).toNat) ∧ P'1 9 = eT g10 (g9 (1 : Int).toNat) (g9 (3 : Int).toNat) ∧ (∀ q : Nat, (q < 7 ∨ 17 < q) → q ≠ 21 → P'1 q = g9 q)) → (∃ g11 : Nat → Nat → Int, (MS Z'3 a0 g11 ∧ (0 ≤ (20 : Int) ∧ (20 : Int) < 27) ∧ (0 ≤ (7 : Int) ∧ (7 : Int) < 27) ∧ (∀ (Z'4 : Zt), (MS Z'4 a0 (updP g11 (20 : Int).toNat (g11 (7 : Int).toNat)) ∧ Oth Z'3 Z'4 (O4 a0)) → (∃ g12 : Nat → Nat → Int, (MS Z'4 a0 g12 ∧ (0 ≤ (18 : Int) ∧ (18 : Int) < 27) ∧ (0 ≤ (8 : Int) ∧ (8 : Int) < 27) ∧ (∀ (Z'5 : Zt), (MS Z'5 a0 (updP g12 (18 : Int).toNat (g12 (8 : Int).toNat)) ∧ Oth Z'4 Z'5 (O4 a0)) → (∃ g13 : Nat → Nat → Int, (MS Z'5 a0 g13 ∧ (0 ≤ (19 : Int) ∧ (19 : Int) < 27) ∧ (0 ≤ (9 : Int) ∧ (9 : Int) < 27) ∧ (∀ (Z'6 : Zt), (MS Z'6 a0 (updP g13 (19 : Int).toNat (g13 (9 : Int).toNat)) ∧ Oth Z'5 Z'6 (O4 a0)) → (∃ g14 : Nat → Nat → Int, (MS Z'6 a0 g14 ∧ (0 ≤ (6 : Int) ∧ (6 : Int) < 27) ∧ (0 ≤ (2 : Int) ∧ (2 : Int) < 27) ∧ (∀ (Z'7 : Zt), (MS Z'7 a0 (updP g14 (6 : Int).toNat (g14 (2 : Int).toNat)) ∧ Oth Z'6 Z'7 (O4 a0)) → (∃ g15 : Nat → Nat → Int, (∃ g16 : Int, ((IsP g16 ∧ Z'7 a0 11 = g16) ∧ MS Z'7 a0 g15 ∧ ((0 ≤ (6 : Int) ∧ (6 : Int) < 27) ∧ (0 ≤ (4 : Int) ∧ (4 : Int) < 27) ∧ (6 : Int) ≠ (4 : Int)) ∧ ((-100 ≤ (1 : Int) ∧ (1 : Int) ≤ 100) ∧ 0 ≤ (0 : Int) ∧ (0 : Int) ≤ 24) ∧ InP g16 (g15 (6 : Int).toNat) ∧ InP g16 (g15 (4 : Int).toNat) ∧ (∀ (Z'8 : Zt), (MS Z'8 a0 (updP g15 (6 : Int).toNat (pads g16 (g15 (6 : Int).toNat) (g15 (4 : Int).toNat) (1 : Int) (0 : Int).toNat)) ∧ Oth Z'7 Z'8 (O4 a0)) → (∃ g17 : Nat → Nat → Int, (MS Z'8 a0 g17 ∧ (0 ≤ (6 : Int) ∧ (6 : Int) < 27) ∧ (∀ i : Nat, i < 24 → Rg (g17 (6 : Int).toNat i)) ∧ (Rg (pd (g17 (6 : Int).toNat)) ∧ (((0 ≤ pd (g17 (6 : Int).toNat)) → (∃ g18 : Nat → Nat → Int, (∃ g19 : Int, ((IsP g19 ∧ Z'8 a0 11 = g19) ∧ MS Z'8 a0 g18 ∧ ((0 ≤ (20 : Int) ∧ (20 : Int) < 27) ∧ (0 ≤ (6 : Int) ∧ (6 : Int) < 27) ∧ (6 : Int) ≠ 10) ∧ (InP g19 (g18 (20 : Int).toNat) ∧ Fin (g18 (20 : Int).toNat)) ∧ (InP g19 (g18 (6 : Int).toNat) ∧ Fin (g18 (6 : Int).toNat)) ∧ (0 ≤ pd (g18 (20 : Int).toNat) ∧ pd (g18 (20 : Int).toNat) ≤ 9 ∧ pd (g18 (6 : Int).toNat) ≤ 9) ∧ (∀ (Z'9 : Zt) (P'2 : Nat → Nat → Int), (MS Z'9 a0 P'2 ∧ Oth Z'8 Z'9 (O4 a0) ∧ P'2 7 = eG g19 (g18 (20 : Int).toNat) (g18 (6 : Int).toNat) ∧ P'2 8 = eS g19 (g18 (20 : Int).toNat) (g18 (6 : Int).toNat) ∧ P'2 9 = eT g19 (g18 (20 : Int).toNat) (g18 (6 : Int).toNat) ∧ (∀ q : Nat, (q < 7 ∨ 17 < q) → q ≠ 21 → P'2 q = g18 q)) → (V mX12_together k n 109 [some (r_ a0), none, none, some (i_ v3)] [] x Z'9 Q)))))) ∧ ((pd (g17 (6 : Int).toNat) < 0) → (∃ g20 : Nat → Nat → Int, (MS Z'8 a0 g20 ∧ (0 ≤ (8 : Int) ∧ (8 : Int) < 27) ∧ (∀ (Z'10 : Zt), (MS Z'10 a0 (updP g20 (8 : Int).toNat pzero) ∧ Oth Z'8 Z'10 (O4 a0)) → (∃ g21 : Nat → Nat → Int, (MS Z'10 a0 g21 ∧ (0 ≤ (9 : Int) ∧ (9 : Int) < 27) ∧ (∀ (Z'11 : Zt), (MS Z'11 a0 (updP g21 (9 : Int).toNat pzero) ∧ Oth Z'10 Z'11 (O4 a0)) → (∀ Z1 : Zt, Z1 = up Z'11 (a0 + 4) 192 1 → (∃ g22 : Nat → Nat → Int, (MS Z1 a0 g22 ∧ (0 ≤ (7 : Int) ∧ (7 : Int) < 27) ∧ (0 ≤ (20 : Int) ∧ (20 : Int) < 27) ∧ (∀ (Z'12 : Zt), (MS Z'12 a0 (updP g22 (7 : Int).toNat (g22 (20 : Int).toNat)) ∧ Oth Z1 Z'12 (O4 a0)) → (V mX12_together k n 109 [some (r_ a0), none, none, some (i_ v3)] [] x Z'12 Q)))))))))))))))))))))))))))))))))))))))))))))))) :
    V mX12_together k n 0 [some (r_ a0), some (i_ v1), some (i_ v2), some (i_ v3)] [] x Z Q :=
  V_aload_n dX12_together_0 rfl (V_iload_n dX12_together_1 rfl (V_iconst dX12_together_2 (V_iconst dX12_together_3 (Exists.elim h (fun g1 w1 => Exists.elim w1 (fun g2 w2 => Exists.elim w2 (fun g3 w3 => Exists.elim w3 (fun g4 w4 => V_callV (k' := 0) (n' := 0) (t := 12) (q := (RX12, TX12, 46)) [i_ v1, i_ 1, i_ 2] [] okX12_loads o_a0.1 rfl rfl lm_12_363 liX12_loads lqX12_loads (Nat.le_of_ble_eq_true rfl) (Nat.le_of_ble_eq_true rfl) (Nat.le_of_ble_eq_true rfl) (cat_of rfl) (Nat.le_of_ble_eq_true rfl) (Nat.zero_le _) (Nat.zero_le _) rfl dX12_together_4 (sp_X12_loads o_a0 w4.1 w4.2.1 w4.2.2.1 w4.2.2.2.1 w4.2.2.2.2.1 w4.2.2.2.2.2.1 (fun Z'1 p1 => V_aload_n dX12_together_7 rfl (V_iload_n dX12_together_8 rfl (V_iconst dX12_together_9 (V_iconst dX12_together_10 (Exists.elim (w4.2.2.2.2.2.2 Z'1 p1) (fun g5 w5 => Exists.elim w5 (fun g6 w6 => Exists.elim w6 (fun g7 w7 => Exists.elim w7 (fun g8 w8 => V_callV (k' := 0) (n' := 0) (t := 12) (q := (RX12, TX12, 46)) [i_ v2, i_ 3, i_ 4] [] okX12_loads o_a0.1 rfl rfl lm_12_363 liX12_loads lqX12_loads (Nat.le_of_ble_eq_true rfl) (Nat.le_of_ble_eq_true rfl) (Nat.le_of_ble_eq_true rfl) (cat_of rfl) (Nat.le_of_ble_eq_true rfl) (Nat.zero_le _) (Nat.zero_le _) rfl dX12_together_11 (sp_X12_loads o_a0 w8.1 w8.2.1 w8.2.2.1 w8.2.2.2.1 w8.2.2.2.2.1 w8.2.2.2.2.2.1 (fun Z'2 p2 => V_aload_n dX12_together_14 rfl (V_iconst dX12_together_15 (V_iconst dX12_together_16 (Exists.elim (w8.2.2.2.2.2.2 Z'2 p2) (fun g9 w9 => Exists.elim w9 (fun g10 w10 => V_callV (k' := 0) (n' := 0) (t := 12) (q := (RX12, TX12, 46)) [i_ 1, i_ 3] [] okX12_common o_a0.1 rfl rfl lm_12_218 liX12_common lqX12_common (Nat.le_of_ble_eq_true rfl) (Nat.le_of_ble_eq_true rfl) (Nat.le_of_ble_eq_true rfl) (cat_of rfl) (Nat.le_of_ble_eq_true rfl) (Nat.zero_le _) (Nat.zero_le _) rfl dX12_together_17 (sp_X12_common o_a0 w10.1 w10.2.1 w10.2.2.1 w10.2.2.2.1 w10.2.2.2.2.1 w10.2.2.2.2.2.1 (fun Z'3 P'1 p3 => V_aload_n dX12_together_20 rfl (V_bipush dX12_together_21 rfl (V_bipush dX12_together_23 rfl (Exists.elim (w10.2.2.2.2.2.2 Z'3 P'1 p3) (fun g11 w11 => V_callV (k' := 0) (n' := 0) (t := 12) (q := (RX12, TX12, 46)) [i_ 7, i_ 20] [] okX12_copy o_a0.1 rfl rfl lm_12_199 liX12_copy lqX12_copy (Nat.le_of_ble_eq_true rfl) (Nat.le_of_ble_eq_true rfl) (Nat.le_of_ble_eq_true rfl) (cat_of rfl) (Nat.le_of_ble_eq_true rfl) (Nat.zero_le _) (Nat.zero_le _) rfl dX12_together_25 (sp_X12_copy o_a0 w11.1 w11.2.1 w11.2.2.1 (fun Z'4 p4 => V_aload_n dX12_together_28 rfl (V_bipush dX12_together_29 rfl (V_bipush dX12_together_31 rfl (Exists.elim (w11.2.2.2 Z'4 p4) (fun g12 w12 => V_callV (k' := 0) (n' := 0) (t := 12) (q := (RX12, TX12, 46)) [i_ 8, i_ 18] [] okX12_copy o_a0.1 rfl rfl lm_12_199 liX12_copy lqX12_copy (Nat.le_of_ble_eq_true rfl) (Nat.le_of_ble_eq_true rfl) (Nat.le_of_ble_eq_true rfl) (cat_of rfl) (Nat.le_of_ble_eq_true rfl) (Nat.zero_le _) (Nat.zero_le _) rfl dX12_together_33 (sp_X12_copy o_a0 w12.1 w12.2.1 w12.2.2.1 (fun Z'5 p5 => V_aload_n dX12_together_36 rfl (V_bipush dX12_together_37 rfl (V_bipush dX12_together_39 rfl (Exists.elim (w12.2.2.2 Z'5 p5) (fun g13 w13 => V_callV (k' := 0) (n' := 0) (t := 12) (q := (RX12, TX12, 46)) [i_ 9, i_ 19] [] okX12_copy o_a0.1 rfl rfl lm_12_199 liX12_copy lqX12_copy (Nat.le_of_ble_eq_true rfl) (Nat.le_of_ble_eq_true rfl) (Nat.le_of_ble_eq_true rfl) (cat_of rfl) (Nat.le_of_ble_eq_true rfl) (Nat.zero_le _) (Nat.zero_le _) rfl dX12_together_41 (sp_X12_copy o_a0 w13.1 w13.2.1 w13.2.2.1 (fun Z'6 p6 => V_aload_n dX12_together_44 rfl (V_iconst dX12_together_45 (V_bipush dX12_together_46 rfl (Exists.elim (w13.2.2.2 Z'6 p6) (fun g14 w14 => V_callV (k' := 0) (n' := 0) (t := 12) (q := (RX12, TX12, 46)) [i_ 2, i_ 6] [] okX12_copy o_a0.1 rfl rfl lm_12_199 liX12_copy lqX12_copy (Nat.le_of_ble_eq_true rfl) (Nat.le_of_ble_eq_true rfl) (Nat.le_of_ble_eq_true rfl) (cat_of rfl) (Nat.le_of_ble_eq_true rfl) (Nat.zero_le _) (Nat.zero_le _) rfl dX12_together_48 (sp_X12_copy o_a0 w14.1 w14.2.1 w14.2.2.1 (fun Z'7 p7 => V_aload_n dX12_together_51 rfl (V_bipush dX12_together_52 rfl (V_iconst dX12_together_54 (V_iconst dX12_together_55 (V_iconst dX12_together_56 (Exists.elim (w14.2.2.2 Z'7 p7) (fun g15 w15 => Exists.elim w15 (fun g16 w16 => V_callV (k' := 0) (n' := 0) (t := 12) (q := (RX12, TX12, 46)) [i_ 6, i_ 4, i_ 1, i_ 0] [] okX12_adds o_a0.1 rfl rfl lm_12_195 liX12_adds lqX12_adds (Nat.le_of_ble_eq_true rfl) (Nat.le_of_ble_eq_true rfl) (Nat.le_of_ble_eq_true rfl) (cat_of rfl) (Nat.le_of_ble_eq_true rfl) (Nat.zero_le _) (Nat.zero_le _) rfl dX12_together_57 (sp_X12_adds o_a0 w16.1 w16.2.1 w16.2.2.1 w16.2.2.2.1 w16.2.2.2.2.1 w16.2.2.2.2.2.1 (fun Z'8 p8 => V_aload_n dX12_together_60 rfl (V_bipush dX12_together_61 rfl (Exists.elim (w16.2.2.2.2.2.2 Z'8 p8) (fun g17 w17 => V_callV (k' := 0) (n' := 0) (t := 12) (q := (RX12, TX12, 46)) [i_ 6] [] okX12_deg o_a0.1 rfl rfl lm_12_192 liX12_deg lqX12_deg (Nat.le_of_ble_eq_true rfl) (Nat.le_of_ble_eq_true rfl) (Nat.le_of_ble_eq_true rfl) (cat_of rfl) (Nat.le_of_ble_eq_true rfl) (Nat.zero_le _) (Nat.zero_le _) rfl dX12_together_63 (sp_X12_deg o_a0 w17.1 w17.2.1 w17.2.2.1 (V_if_ge (tgt := 101) dX12_together_66 rfl w17.2.2.2.1 (fun c1 => V_aload_n dX12_together_101 rfl (V_bipush dX12_together_102 rfl (V_bipush dX12_together_104 rfl (Exists.elim (w17.2.2.2.2.1 c1) (fun g18 w18 => Exists.elim w18 (fun g19 w19 => V_callV (k' := 0) (n' := 0) (t := 12) (q := (RX12, TX12, 46)) [i_ 20, i_ 6] [] okX12_common o_a0.1 rfl rfl lm_12_218 liX12_common lqX12_common (Nat.le_of_ble_eq_true rfl) (Nat.le_of_ble_eq_true rfl) (Nat.le_of_ble_eq_true rfl) (cat_of rfl) (Nat.le_of_ble_eq_true rfl) (Nat.zero_le _) (Nat.zero_le _) rfl dX12_together_106 (sp_X12_common o_a0 w19.1 w19.2.1 w19.2.2.1 w19.2.2.2.1 w19.2.2.2.2.1 w19.2.2.2.2.2.1 (fun Z'9 P'2 p9 => V_msk [true, false, false, true] rfl (w19.2.2.2.2.2.2 Z'9 P'2 p9))))))))) (fun c1 => V_aload_n dX12_together_69 rfl (V_bipush dX12_together_70 rfl (Exists.elim (w17.2.2.2.2.2 c1) (fun g20 w20 => V_callV (k' := 0) (n' := 0) (t := 12) (q := (RX12, TX12, 46)) [i_ 8] [] okX12_zero o_a0.1 rfl rfl lm_12_188 liX12_zero lqX12_zero (Nat.le_of_ble_eq_true rfl) (Nat.le_of_ble_eq_true rfl) (Nat.le_of_ble_eq_true rfl) (cat_of rfl) (Nat.le_of_ble_eq_true rfl) (Nat.zero_le _) (Nat.zero_le _) rfl dX12_together_72 (sp_X12_zero o_a0 w20.1 w20.2.1 (fun Z'10 p10 => V_aload_n dX12_together_75 rfl (V_bipush dX12_together_76 rfl (Exists.elim (w20.2.2 Z'10 p10) (fun g21 w21 => V_callV (k' := 0) (n' := 0) (t := 12) (q := (RX12, TX12, 46)) [i_ 9] [] okX12_zero o_a0.1 rfl rfl lm_12_188 liX12_zero lqX12_zero (Nat.le_of_ble_eq_true rfl) (Nat.le_of_ble_eq_true rfl) (Nat.le_of_ble_eq_true rfl) (cat_of rfl) (Nat.le_of_ble_eq_true rfl) (Nat.zero_le _) (Nat.zero_le _) rfl dX12_together_78 (sp_X12_zero o_a0 w21.1 w21.2.1 (fun Z'11 p11 => V_aload_n dX12_together_81 rfl (G_12_10 o_a0.1 o_a0.qR10 lf_12_20 dX12_together_82 (V_sipush dX12_together_85 rfl (V_iconst dX12_together_88 (V_iast (t := 100) o_a0.qK10 (by decide) (by decide) rfl (by decide) (by decide) (Nat.le_of_ble_eq_true rfl) dX12_together_89 (V_nmZ (fun Z1 eZ1 => V_aload_n dX12_together_90 rfl (V_bipush dX12_together_91 rfl (V_bipush dX12_together_93 rfl (Exists.elim ((w21.2.2 Z'11 p11) Z1 eZ1) (fun g22 w22 => V_callV (k' := 0) (n' := 0) (t := 12) (q := (RX12, TX12, 46)) [i_ 20, i_ 7] [] okX12_copy o_a0.1 rfl rfl lm_12_199 liX12_copy lqX12_copy (Nat.le_of_ble_eq_true rfl) (Nat.le_of_ble_eq_true rfl) (Nat.le_of_ble_eq_true rfl) (cat_of rfl) (Nat.le_of_ble_eq_true rfl) (Nat.zero_le _) (Nat.zero_le _) rfl dX12_together_95 (sp_X12_copy o_a0 w22.1 w22.2.1 w22.2.2.1 (fun Z'12 p12 => V_goto (tgt := 109) dX12_together_98 rfl (V_msk [true, false, false, true] rfl (w22.2.2.2 Z'12 p12))))))))))))))))))))))))))))))))))))))))))))))))))))))))))))))))))))))))))))))))))))))))))
set_option maxRecDepth 20000 in
theorem b_X12_together_109 {k n : Nat} {x : Wx} {Z : Zt} {Q : Option Value → Wx → Zt → Prop} {a0 : Nat} {v3 : Int} (o_a0 : Is12 x a0)
    (h : ∃ g1 : Nat → Nat → Int, (MS Z a0 g1 ∧ (0 ≤ (6 : Int) ∧ (6 : Int) < 27) ∧ (∀ (Z'1 : Zt), (MS Z'1 a0 (updP g1 (6 : Int).toNat pzero) ∧ Oth Z Z'1 (O4 a0)) → (∃ g2 : Nat → Nat → Int, (∃ g3 : Int, ((IsP g3 ∧ Z'1 a0 11 = g3) ∧ MS Z'1 a0 g2 ∧ (((0 ≤ (18 : Int) ∧ (18 : Int) < 21) ∧ (0 ≤ (8 : Int) ∧ (8 : Int) < 21)) ∧ ((0 ≤ (1 : Int) ∧ (1 : Int) < 21) ∧ (0 ≤ (4 : Int) ∧ (4 : Int) < 21))) ∧ ((InP g3 (g2 (18 : Int).toNat) ∧ InP g3 (g2 (8 : Int).toNat)) ∧ (InP g3 (g2 (1 : Int).toNat) ∧ InP g3 (g2 (4 : Int).toNat)) ∧ InP g3 (g2 6)) ∧ (Fin (g2 (18 : Int).toNat) ∧ Fin (pmul g3 (g2 (18 : Int).toNat) (g2 (8 : Int).toNat)) ∧ Fin (pmul g3 (pmul g3 (g2 (18 : Int).toNat) (g2 (8 : Int).toNat)) (g2 (1 : Int).toNat))) ∧ (∀ (Z'2 : Zt) (P'1 : Nat → Nat → Int), (MS Z'2 a0 P'1 ∧ Oth Z'1 Z'2 (O4 a0) ∧ P'1 6 = padd g3 (g2 6) (pmul g3 (pmul g3 (pmul g3 (g2 (18 : Int).toNat) (g2 (8 : Int).toNat)) (g2 (1 : Int).toNat)) (g2 (4 : Int).toNat)) 1 ∧ (∀ q : Nat, q ≠ 6 → q ≠ 22 → q ≠ 23 → P'1 q = g2 q)) → (∃ g4 : Nat → Nat → Int, (∃ g5 : Int, ((IsP g5 ∧ Z'2 a0 11 = g5) ∧ MS Z'2 a0 g4 ∧ (((0 ≤ (19 : Int) ∧ (19 : Int) < 21) ∧ (0 ≤ (8 : Int) ∧ (8 : Int) < 21)) ∧ ((0 ≤ (3 : Int) ∧ (3 : Int) < 21) ∧ (0 ≤ (2 : Int) ∧ (2 : Int) < 21))) ∧ ((InP g5 (g4 (19 : Int).toNat) ∧ InP g5 (g4 (8 : Int).toNat)) ∧ (InP g5 (g4 (3 : Int).toNat) ∧ InP g5 (g4 (2 : Int).toNat)) ∧ InP g5 (g4 6)) ∧ (Fin (g4 (19 : Int).toNat) ∧ Fin (pmul g5 (g4 (19 : Int).toNat) (g4 (8 : Int).toNat)) ∧ Fin (pmul g5 (pmul g5 (g4 (19 : Int).toNat) (g4 (8 : Int).toNat)) (g4 (3 : Int).toNat))) ∧ (∀ (Z'3 : Zt) (P'2 : Nat → Nat → Int), (MS Z'3 a0 P'2 ∧ Oth Z'2 Z'3 (O4 a0) ∧ P'2 6 = padd g5 (g4 6) (pmul g5 (pmul g5 (pmul g5 (g4 (19 : Int).toNat) (g4 (8 : Int).toNat)) (g4 (3 : Int).toNat)) (g4 (2 : Int).toNat)) 1 ∧ (∀ q : Nat, q ≠ 6 → q ≠ 22 → q ≠ 23 → P'2 q = g4 q)) → (∃ g6 : Nat → Nat → Int, (∃ g7 : Int, ((IsP g7 ∧ Z'3 a0 11 = g7) ∧ MS Z'3 a0 g6 ∧ ((0 ≤ (2 : Int) ∧ (2 : Int) < 27) ∧ (0 ≤ (4 : Int) ∧ (4 : Int) < 27) ∧ (0 ≤ (22 : Int) ∧ (22 : Int) < 27) ∧ (22 : Int) ≠ (2 : Int) ∧ (22 : Int) ≠ (4 : Int)) ∧ (InP g7 (g6 (2 : Int).toNat) ∧ Fin (g6 (2 : Int).toNat)) ∧ InP g7 (g6 (4 : Int).toNat) ∧ (∀ (Z'4 : Zt), (MS Z'4 a0 (updP g6 (22 : Int).toNat (pmul g7 (g6 (2 : Int).toNat) (g6 (4 : Int).toNat))) ∧ Oth Z'3 Z'4 (O4 a0)) → (∃ g8 : Nat → Nat → Int, (∃ g9 : Int, ((IsP g9 ∧ Z'4 a0 11 = g9) ∧ MS Z'4 a0 g8 ∧ ((0 ≤ (22 : Int) ∧ (22 : Int) < 27) ∧ (0 ≤ (0 : Int) ∧ (0 : Int) < 27) ∧ (22 : Int) ≠ (0 : Int)) ∧ ((-100 ≤ (1 : Int) ∧ (1 : Int) ≤ 100) ∧ 0 ≤ (0 : Int) ∧ (0 : Int) ≤ 24) ∧ InP g9 (g8 (22 : Int).toNat) ∧ InP g9 (g8 (0 : Int).toNat) ∧ (∀ (Z'5 : Zt), (MS Z'5 a0 (updP g8 (22 : Int).toNat (pads g9 (g8 (22 : Int).toNat) (g8 (0 : Int).toNat) (1 : Int) (0 : Int).toNat)) ∧ Oth Z'4 Z'5 (O4 a0)) → (∃ g10 : Nat → Nat → Int, (∃ g11 : Int, ((IsP g11 ∧ Z'5 a0 11 = g11) ∧ MS Z'5 a0 g10 ∧ ((0 ≤ (9 : Int) ∧ (9 : Int) < 27) ∧ (0 ≤ (22 : Int) ∧ (22 : Int) < 27) ∧ (0 ≤ (23 : Int) ∧ (23 : Int) < 27) ∧ (23 : Int) ≠ (9 : Int) ∧ (23 : Int) ≠ (22 : Int)) ∧ (InP g11 (g10 (9 : Int).toNat) ∧ Fin (g10 (9 : Int).toNat)) ∧ InP g11 (g10 (22 : Int).toNat) ∧ (∀ (Z'6 : Zt), (MS Z'6 a0 (updP g10 (23 : Int).toNat (pmul g11 (g10 (9 : Int).toNat) (g10 (22 : Int).toNat))) ∧ Oth Z'5 Z'6 (O4 a0)) → (∃ g12 : Nat → Nat → Int, (∃ g13 : Int, ((IsP g13 ∧ Z'6 a0 11 = g13) ∧ MS Z'6 a0 g12 ∧ ((0 ≤ (6 : Int) ∧ (6 : Int) < 27) ∧ (0 ≤ (23 : Int) ∧ (23 : Int) < 27) ∧ (6 : Int) ≠ (23 : Int)) ∧ ((-100 ≤ (1 : Int) ∧ (1 : Int) ≤ 100) ∧ 0 ≤ (0 : Int) ∧ (0 : Int) ≤ 24) ∧ InP g13 (g12 (6 : Int).toNat) ∧ InP g13 (g12 (23 : Int).toNat) ∧ (∀ (Z'7 : Zt), (MS Z'7 a0 (updP g12 (6 : Int).toNat (pads g13 (g12 (6 : Int).toNat) (g12 (23 : Int).toNat) (1 : Int) (0 : Int).toNat)) ∧ Oth Z'6 Z'7 (O4 a0)) → (∃ g14 : Nat → Nat → Int, (∃ g15 : Int, ((IsP g15 ∧ Z'7 a0 11 = g15) ∧ MS Z'7 a0 g14 ∧ (((0 ≤ (6 : Int) ∧ (6 : Int) < 27) ∧ (0 ≤ (7 : Int) ∧ (7 : Int) < 27) ∧ (0 ≤ (16 : Int) ∧ (16 : Int) < 27) ∧ (0 ≤ (17 : Int) ∧ (17 : Int) < 27)) ∧ (16 : Int) ≠ (6 : Int) ∧ (16 : Int) ≠ (7 : Int) ∧ (17 : Int) ≠ (6 : Int) ∧ (17 : Int) ≠ (7 : Int) ∧ (16 : Int) ≠ (17 : Int)) ∧ (InP g15 (g14 (6 : Int).toNat) ∧ Fin (g14 (6 : Int).toNat)) ∧ (InP g15 (g14 (7 : Int).toNat) ∧ 0 ≤ pd (g14 (7 : Int).toNat)) ∧ (∀ (Z'8 : Zt), (MS Z'8 a0 (updP (updP g14 (16 : Int).toNat (dvQ g15 (g14 (6 : Int).toNat) (g14 (7 : Int).toNat))) (17 : Int).toNat (dvR g15 (g14 (6 : Int).toNat) (g14 (7 : Int).toNat))) ∧ Oth Z'7 Z'8 (O4 a0)) → (∃ g16 : Nat → Nat → Int, (MS Z'8 a0 g16 ∧ (0 ≤ (6 : Int) ∧ (6 : Int) < 27) ∧ (0 ≤ (16 : Int) ∧ (16 : Int) < 27) ∧ (∀ (Z'9 : Zt), (MS Z'9 a0 (updP g16 (6 : Int).toNat (g16 (16 : Int).toNat)) ∧ Oth Z'8 Z'9 (O4 a0)) → (∃ g17 : Nat → Nat → Int, (∃ g18 : Int, ((IsP g18 ∧ Z'9 a0 11 = g18) ∧ MS Z'9 a0 g17 ∧ ((0 ≤ (1 : Int) ∧ (1 : Int) < 27) ∧ (0 ≤ (3 : Int) ∧ (3 : Int) < 27) ∧ (0 ≤ (5 : Int) ∧ (5 : Int) < 27) ∧ (5 : Int) ≠ (1 : Int) ∧ (5 : Int) ≠ (3 : Int)) ∧ (InP g18 (g17 (1 : Int).toNat) ∧ Fin (g17 (1 : Int).toNat)) ∧ InP g18 (g17 (3 : Int).toNat) ∧ (∀ (Z'10 : Zt), (MS Z'10 a0 (updP g17 (5 : Int).toNat (pmul g18 (g17 (1 : Int).toNat) (g17 (3 : Int).toNat))) ∧ Oth Z'9 Z'10 (O4 a0)) → (∃ g19 : Nat → Nat → Int, (∃ g20 : Int, ((IsP g20 ∧ Z'10 a0 11 = g20) ∧ MS Z'10 a0 g19 ∧ ((0 ≤ (7 : Int) ∧ (7 : Int) < 27) ∧ (0 ≤ (7 : Int) ∧ (7 : Int) < 27) ∧ (0 ≤ (22 : Int) ∧ (22 : Int) < 27) ∧ (22 : Int) ≠ (7 : Int) ∧ (22 : Int) ≠ (7 : Int)) ∧ (InP g20 (g19 (7 : Int).toNat) ∧ Fin (g19 (7 : Int).toNat)) ∧ InP g20 (g19 (7 : Int).toNat) ∧ (∀ (Z'11 : Zt), (MS Z'11 a0 (updP g19 (22 : Int).toNat (pmul g20 (g19 (7 : Int).toNat) (g19 (7 : Int).toNat))) ∧ Oth Z'10 Z'11 (O4 a0)) → (∃ g21 : Nat → Nat → Int, (∃ g22 : Int, ((IsP g22 ∧ Z'11 a0 11 = g22) ∧ MS Z'11 a0 g21 ∧ (((0 ≤ (5 : Int) ∧ (5 : Int) < 27) ∧ (0 ≤ (22 : Int) ∧ (22 : Int) < 27) ∧ (0 ≤ (16 : Int) ∧ (16 : Int) < 27) ∧ (0 ≤ (17 : Int) ∧ (17 : Int) < 27)) ∧ (16 : Int) ≠ (5 : Int) ∧ (16 : Int) ≠ (22 : Int) ∧ (17 : Int) ≠ (5 : Int) ∧ (17 : Int) ≠ (22 : Int) ∧ (16 : Int) ≠ (17 : Int)) ∧ (InP g22 (g21 (5 : Int).toNat) ∧ Fin (g21 (5 : Int).toNat)) ∧ (InP g22 (g21 (22 : Int).toNat) ∧ 0 ≤ pd (g21 (22 : Int).toNat)) ∧ (∀ (Z'12 : Zt), (MS Z'12 a0 (updP (updP g21 (16 : Int).toNat (dvQ g22 (g21 (5 : Int).toNat) (g21 (22 : Int).toNat))) (17 : Int).toNat (dvR g22 (g21 (5 : Int).toNat) (g21 (22 : Int).toNat))) ∧ Oth Z'11 Z'12 (O4 a0)) → (∃ g23 : Nat → Nat → Int, (MS Z'12 a0 g23 ∧ (0 ≤ (5 : Int) ∧ (5 : Int) < 27) ∧ (0 ≤ (16 : Int) ∧ (16 : Int) < 27) ∧ (∀ (Z'13 : Zt), (MS Z'13 a0 (updP g23 (5 : Int).toNat (g23 (16 : Int).toNat)) ∧ Oth Z'12 Z'13 (O4 a0)) → (∃ g24 : Nat → Nat → Int, (∃ g25 : Int, ((IsP g25 ∧ Z'13 a0 11 = g25) ∧ MS Z'13 a0 g24 ∧ (((0 ≤ (6 : Int) ∧ (6 : Int) < 27) ∧ (0 ≤ (5 : Int) ∧ (5 : Int) < 27) ∧ (0 ≤ (16 : Int) ∧ (16 : Int) < 27) ∧ (0 ≤ (17 : Int) ∧ (17 : Int) < 27)) ∧ (16 : Int) ≠ (6 : Int) ∧ (16 : Int) ≠ (5 : Int) ∧ (17 : Int) ≠ (6 : Int) ∧ (17 : Int) ≠ (5 : Int) ∧ (16 : Int) ≠ (17 : Int)) ∧ (InP g25 (g24 (6 : Int).toNat) ∧ Fin (g24 (6 : Int).toNat)) ∧ (InP g25 (g24 (5 : Int).toNat) ∧ 0 ≤ pd (g24 (5 : Int).toNat)) ∧ (∀ (Z'14 : Zt), (MS Z'14 a0 (updP (updP g24 (16 : Int).toNat (dvQ g25 (g24 (6 : Int).toNat) (g24 (5 : Int).toNat))) (17 : Int).toNat (dvR g25 (g24 (6 : Int).toNat) (g24 (5 : Int).toNat))) ∧ Oth Z'13 Z'14 (O4 a0)) → (∃ g26 : Nat → Nat → Int, (MS Z'14 a0 g26 ∧ (0 ≤ (6 : Int) ∧ (6 : Int) < 27) ∧ (0 ≤ (17 : Int) ∧ (17 : Int) < 27) ∧ (∀ (Z'15 : Zt), (MS Z'15 a0 (updP g26 (6 : Int).toNat (g26 (17 : Int).toNat)) ∧ Oth Z'14 Z'15 (O4 a0)) → (∃ g27 : Nat → Nat → Int, (∃ g28 : Int, (∃ g29 : Int, (∃ g30 : Nat → Int, ((CF g28 g29 g30 ∧ Z'15 a0 11 = g28) ∧ Z'15 a0 12 = g29 ∧ MS Z'15 a0 g27 ∧ g27 0 = g30 ∧ RQ g28 g29 (g27 5, g27 6) ∧ (∀ (Z'16 : Zt) (P'3 : Nat → Nat → Int), (MS Z'16 a0 P'3 ∧ Oth Z'15 Z'16 (O4 a0) ∧ (P'3 5, P'3 6) = mnc g28 (rdn g28 g30 g29 4 (g27 5, g27 6)) ∧ (∀ q : Nat, q ≠ 5 → q ≠ 6 → q ≠ 16 → q ≠ 17 → q ≠ 22 → q ≠ 23 → P'3 q = g27 q)) → (∃ g31 : Nat → Nat → Int, (∃ g32 : Int, (∃ g33 : Int, (MS Z'16 a0 g31 ∧ (IsP g32 ∧ g33 ≤ 2) ∧ ((0 ≤ (5 : Int) ∧ (5 : Int) < 27) ∧ (0 ≤ (6 : Int) ∧ (6 : Int) < 27)) ∧ RP g32 g33 (g31 (5 : Int).toNat, g31 (6 : Int).toNat) ∧ (0 ≤ v3 ∧ v3 ≤ 2995) ∧ (∀ (Z'17 : Zt), (KC Z'17 a0 v3.toNat (g31 (5 : Int).toNat, g31 (6 : Int).toNat) ∧ KF a0 v3.toNat Z'16 Z'17) → (Q none x Z'17)))))))))))))))))))))))))))))))))))))))))))))))))))))))))))))))))))) :
    V mX12_together k n 109 [some (r_ a0), none, none, some (i_ v3)] [] x Z Q :=
  V_aload_n dX12_together_109 rfl (V_bipush dX12_together_110 rfl (Exists.elim h (fun g1 w1 => V_callV (k' := 0) (n' := 0) (t := 12) (q := (RX12, TX12, 46)) [i_ 6] [] okX12_zero o_a0.1 rfl rfl lm_12_188 liX12_zero lqX12_zero (Nat.le_of_ble_eq_true rfl) (Nat.le_of_ble_eq_true rfl) (Nat.le_of_ble_eq_true rfl) (cat_of rfl) (Nat.le_of_ble_eq_true rfl) (Nat.zero_le _) (Nat.zero_le _) rfl dX12_together_112 (sp_X12_zero o_a0 w1.1 w1.2.1 (fun Z'1 p1 => V_aload_n dX12_together_115 rfl (V_bipush dX12_together_116 rfl (V_bipush dX12_together_118 rfl (V_iconst dX12_together_120 (V_iconst dX12_together_121 (Exists.elim (w1.2.2 Z'1 p1) (fun g2 w2 => Exists.elim w2 (fun g3 w3 => V_callV (k' := 0) (n' := 0) (t := 12) (q := (RX12, TX12, 46)) [i_ 18, i_ 8, i_ 1, i_ 4] [] okX12_adds3 o_a0.1 rfl rfl lm_12_366 liX12_adds3 lqX12_adds3 (Nat.le_of_ble_eq_true rfl) (Nat.le_of_ble_eq_true rfl) (Nat.le_of_ble_eq_true rfl) (cat_of rfl) (Nat.le_of_ble_eq_true rfl) (Nat.zero_le _) (Nat.zero_le _) rfl dX12_together_122 (sp_X12_adds3 o_a0 w3.1 w3.2.1 w3.2.2.1 w3.2.2.2.1 w3.2.2.2.2.1 (fun Z'2 P'1 p2 => V_aload_n dX12_together_125 rfl (V_bipush dX12_together_126 rfl (V_bipush dX12_together_128 rfl (V_iconst dX12_together_130 (V_iconst dX12_together_131 (Exists.elim (w3.2.2.2.2.2 Z'2 P'1 p2) (fun g4 w4 => Exists.elim w4 (fun g5 w5 => V_callV (k' := 0) (n' := 0) (t := 12) (q := (RX12, TX12, 46)) [i_ 19, i_ 8, i_ 3, i_ 2] [] okX12_adds3 o_a0.1 rfl rfl lm_12_366 liX12_adds3 lqX12_adds3 (Nat.le_of_ble_eq_true rfl) (Nat.le_of_ble_eq_true rfl) (Nat.le_of_ble_eq_true rfl) (cat_of rfl) (Nat.le_of_ble_eq_true rfl) (Nat.zero_le _) (Nat.zero_le _) rfl dX12_together_132 (sp_X12_adds3 o_a0 w5.1 w5.2.1 w5.2.2.1 w5.2.2.2.1 w5.2.2.2.2.1 (fun Z'3 P'2 p3 => V_aload_n dX12_together_135 rfl (V_iconst dX12_together_136 (V_iconst dX12_together_137 (V_bipush dX12_together_138 rfl (Exists.elim (w5.2.2.2.2.2 Z'3 P'2 p3) (fun g6 w6 => Exists.elim w6 (fun g7 w7 => V_callV (k' := 0) (n' := 0) (t := 12) (q := (RX12, TX12, 46)) [i_ 2, i_ 4, i_ 22] [] okX12_product o_a0.1 rfl rfl lm_12_215 liX12_product lqX12_product (Nat.le_of_ble_eq_true rfl) (Nat.le_of_ble_eq_true rfl) (Nat.le_of_ble_eq_true rfl) (cat_of rfl) (Nat.le_of_ble_eq_true rfl) (Nat.zero_le _) (Nat.zero_le _) rfl dX12_together_140 (sp_X12_product o_a0 w7.1 w7.2.1 w7.2.2.1 w7.2.2.2.1 w7.2.2.2.2.1 (fun Z'4 p4 => V_aload_n dX12_together_143 rfl (V_bipush dX12_together_144 rfl (V_iconst dX12_together_146 (V_iconst dX12_together_147 (V_iconst dX12_together_148 (Exists.elim (w7.2.2.2.2.2 Z'4 p4) (fun g8 w8 => Exists.elim w8 (fun g9 w9 => V_callV (k' := 0) (n' := 0) (t := 12) (q := (RX12, TX12, 46)) [i_ 22, i_ 0, i_ 1, i_ 0] [] okX12_adds o_a0.1 rfl rfl lm_12_195 liX12_adds lqX12_adds (Nat.le_of_ble_eq_true rfl) (Nat.le_of_ble_eq_true rfl) (Nat.le_of_ble_eq_true rfl) (cat_of rfl) (Nat.le_of_ble_eq_true rfl) (Nat.zero_le _) (Nat.zero_le _) rfl dX12_together_149 (sp_X12_adds o_a0 w9.1 w9.2.1 w9.2.2.1 w9.2.2.2.1 w9.2.2.2.2.1 w9.2.2.2.2.2.1 (fun Z'5 p5 => V_aload_n dX12_together_152 rfl (V_bipush dX12_together_153 rfl (V_bipush dX12_together_155 rfl (V_bipush dX12_together_157 rfl (Exists.elim (w9.2.2.2.2.2.2 Z'5 p5) (fun g10 w10 => Exists.elim w10 (fun g11 w11 => V_callV (k' := 0) (n' := 0) (t := 12) (q := (RX12, TX12, 46)) [i_ 9, i_ 22, i_ 23] [] okX12_product o_a0.1 rfl rfl lm_12_215 liX12_product lqX12_product (Nat.le_of_ble_eq_true rfl) (Nat.le_of_ble_eq_true rfl) (Nat.le_of_ble_eq_true rfl) (cat_of rfl) (Nat.le_of_ble_eq_true rfl) (Nat.zero_le _) (Nat.zero_le _) rfl dX12_together_159 (sp_X12_product o_a0 w11.1 w11.2.1 w11.2.2.1 w11.2.2.2.1 w11.2.2.2.2.1 (fun Z'6 p6 => V_aload_n dX12_together_162 rfl (V_bipush dX12_together_163 rfl (V_bipush dX12_together_165 rfl (V_iconst dX12_together_167 (V_iconst dX12_together_168 (Exists.elim (w11.2.2.2.2.2 Z'6 p6) (fun g12 w12 => Exists.elim w12 (fun g13 w13 => V_callV (k' := 0) (n' := 0) (t := 12) (q := (RX12, TX12, 46)) [i_ 6, i_ 23, i_ 1, i_ 0] [] okX12_adds o_a0.1 rfl rfl lm_12_195 liX12_adds lqX12_adds (Nat.le_of_ble_eq_true rfl) (Nat.le_of_ble_eq_true rfl) (Nat.le_of_ble_eq_true rfl) (cat_of rfl) (Nat.le_of_ble_eq_true rfl) (Nat.zero_le _) (Nat.zero_le _) rfl dX12_together_169 (sp_X12_adds o_a0 w13.1 w13.2.1 w13.2.2.1 w13.2.2.2.1 w13.2.2.2.2.1 w13.2.2.2.2.2.1 (fun Z'7 p7 => V_aload_n dX12_together_172 rfl (V_bipush dX12_together_173 rfl (V_bipush dX12_together_175 rfl (V_bipush dX12_together_177 rfl (V_bipush dX12_together_179 rfl (Exists.elim (w13.2.2.2.2.2.2 Z'7 p7) (fun g14 w14 => Exists.elim w14 (fun g15 w15 => V_callV (k' := 0) (n' := 0) (t := 12) (q := (RX12, TX12, 46)) [i_ 6, i_ 7, i_ 16, i_ 17] [] okX12_divides o_a0.1 rfl rfl lm_12_205 liX12_divides lqX12_divides (Nat.le_of_ble_eq_true rfl) (Nat.le_of_ble_eq_true rfl) (Nat.le_of_ble_eq_true rfl) (cat_of rfl) (Nat.le_of_ble_eq_true rfl) (Nat.zero_le _) (Nat.zero_le _) rfl dX12_together_181 (sp_X12_divides o_a0 w15.1 w15.2.1 w15.2.2.1 w15.2.2.2.1 w15.2.2.2.2.1 (fun Z'8 p8 => V_aload_n dX12_together_184 rfl (V_bipush dX12_together_185 rfl (V_bipush dX12_together_187 rfl (Exists.elim (w15.2.2.2.2.2 Z'8 p8) (fun g16 w16 => V_callV (k' := 0) (n' := 0) (t := 12) (q := (RX12, TX12, 46)) [i_ 16, i_ 6] [] okX12_copy o_a0.1 rfl rfl lm_12_199 liX12_copy lqX12_copy (Nat.le_of_ble_eq_true rfl) (Nat.le_of_ble_eq_true rfl) (Nat.le_of_ble_eq_true rfl) (cat_of rfl) (Nat.le_of_ble_eq_true rfl) (Nat.zero_le _) (Nat.zero_le _) rfl dX12_together_189 (sp_X12_copy o_a0 w16.1 w16.2.1 w16.2.2.1 (fun Z'9 p9 => V_aload_n dX12_together_192 rfl (V_iconst dX12_together_193 (V_iconst dX12_together_194 (V_iconst dX12_together_195 (Exists.elim (w16.2.2.2 Z'9 p9) (fun g17 w17 => Exists.elim w17 (fun g18 w18 => V_callV (k' := 0) (n' := 0) (t := 12) (q := (RX12, TX12, 46)) [i_ 1, i_ 3, i_ 5] [] okX12_product o_a0.1 rfl rfl lm_12_215 liX12_product lqX12_product (Nat.le_of_ble_eq_true rfl) (Nat.le_of_ble_eq_true rfl) (Nat.le_of_ble_eq_true rfl) (cat_of rfl) (Nat.le_of_ble_eq_true rfl) (Nat.zero_le _) (Nat.zero_le _) rfl dX12_together_196 (sp_X12_product o_a0 w18.1 w18.2.1 w18.2.2.1 w18.2.2.2.1 w18.2.2.2.2.1 (fun Z'10 p10 => V_aload_n dX12_together_199 rfl (V_bipush dX12_together_200 rfl (V_bipush dX12_together_202 rfl (V_bipush dX12_together_204 rfl (Exists.elim (w18.2.2.2.2.2 Z'10 p10) (fun g19 w19 => Exists.elim w19 (fun g20 w20 => V_callV (k' := 0) (n' := 0) (t := 12) (q := (RX12, TX12, 46)) [i_ 7, i_ 7, i_ 22] [] okX12_product o_a0.1 rfl rfl lm_12_215 liX12_product lqX12_product (Nat.le_of_ble_eq_true rfl) (Nat.le_of_ble_eq_true rfl) (Nat.le_of_ble_eq_true rfl) (cat_of rfl) (Nat.le_of_ble_eq_true rfl) (Nat.zero_le _) (Nat.zero_le _) rfl dX12_together_206 (sp_X12_product o_a0 w20.1 w20.2.1 w20.2.2.1 w20.2.2.2.1 w20.2.2.2.2.1 (fun Z'11 p11 => V_aload_n dX12_together_209 rfl (V_iconst dX12_together_210 (V_bipush dX12_together_211 rfl (V_bipush dX12_together_213 rfl (V_bipush dX12_together_215 rfl (Exists.elim (w20.2.2.2.2.2 Z'11 p11) (fun g21 w21 => Exists.elim w21 (fun g22 w22 => V_callV (k' := 0) (n' := 0) (t := 12) (q := (RX12, TX12, 46)) [i_ 5, i_ 22, i_ 16, i_ 17] [] okX12_divides o_a0.1 rfl rfl lm_12_205 liX12_divides lqX12_divides (Nat.le_of_ble_eq_true rfl) (Nat.le_of_ble_eq_true rfl) (Nat.le_of_ble_eq_true rfl) (cat_of rfl) (Nat.le_of_ble_eq_true rfl) (Nat.zero_le _) (Nat.zero_le _) rfl dX12_together_217 (sp_X12_divides o_a0 w22.1 w22.2.1 w22.2.2.1 w22.2.2.2.1 w22.2.2.2.2.1 (fun Z'12 p12 => V_aload_n dX12_together_220 rfl (V_bipush dX12_together_221 rfl (V_iconst dX12_together_223 (Exists.elim (w22.2.2.2.2.2 Z'12 p12) (fun g23 w23 => V_callV (k' := 0) (n' := 0) (t := 12) (q := (RX12, TX12, 46)) [i_ 16, i_ 5] [] okX12_copy o_a0.1 rfl rfl lm_12_199 liX12_copy lqX12_copy (Nat.le_of_ble_eq_true rfl) (Nat.le_of_ble_eq_true rfl) (Nat.le_of_ble_eq_true rfl) (cat_of rfl) (Nat.le_of_ble_eq_true rfl) (Nat.zero_le _) (Nat.zero_le _) rfl dX12_together_224 (sp_X12_copy o_a0 w23.1 w23.2.1 w23.2.2.1 (fun Z'13 p13 => V_aload_n dX12_together_227 rfl (V_bipush dX12_together_228 rfl (V_iconst dX12_together_230 (V_bipush dX12_together_231 rfl (V_bipush dX12_together_233 rfl (Exists.elim (w23.2.2.2 Z'13 p13) (fun g24 w24 => Exists.elim w24 (fun g25 w25 => V_callV (k' := 0) (n' := 0) (t := 12) (q := (RX12, TX12, 46)) [i_ 6, i_ 5, i_ 16, i_ 17] [] okX12_divides o_a0.1 rfl rfl lm_12_205 liX12_divides lqX12_divides (Nat.le_of_ble_eq_true rfl) (Nat.le_of_ble_eq_true rfl) (Nat.le_of_ble_eq_true rfl) (cat_of rfl) (Nat.le_of_ble_eq_true rfl) (Nat.zero_le _) (Nat.zero_le _) rfl dX12_together_235 (sp_X12_divides o_a0 w25.1 w25.2.1 w25.2.2.1 w25.2.2.2.1 w25.2.2.2.2.1 (fun Z'14 p14 => V_aload_n dX12_together_238 rfl (V_bipush dX12_together_239 rfl (V_bipush dX12_together_241 rfl (Exists.elim (w25.2.2.2.2.2 Z'14 p14) (fun g26 w26 => V_callV (k' := 0) (n' := 0) (t := 12) (q := (RX12, TX12, 46)) [i_ 17, i_ 6] [] okX12_copy o_a0.1 rfl rfl lm_12_199 liX12_copy lqX12_copy (Nat.le_of_ble_eq_true rfl) (Nat.le_of_ble_eq_true rfl) (Nat.le_of_ble_eq_true rfl) (cat_of rfl) (Nat.le_of_ble_eq_true rfl) (Nat.zero_le _) (Nat.zero_le _) rfl dX12_together_243 (sp_X12_copy o_a0 w26.1 w26.2.1 w26.2.2.1 (fun Z'15 p15 => V_aload_n dX12_together_246 rfl (Exists.elim (w26.2.2.2 Z'15 p15) (fun g27 w27 => Exists.elim w27 (fun g28 w28 => Exists.elim w28 (fun g29 w29 => Exists.elim w29 (fun g30 w30 => V_callV (k' := 0) (n' := 0) (t := 12) (q := (RX12, TX12, 46)) [] [] okX12_reduces o_a0.1 rfl rfl lm_12_369 liX12_reduces lqX12_reduces (Nat.le_of_ble_eq_true rfl) (Nat.le_of_ble_eq_true rfl) (Nat.le_of_ble_eq_true rfl) (cat_of rfl) (Nat.le_of_ble_eq_true rfl) (Nat.zero_le _) (Nat.zero_le _) rfl dX12_together_247 (sp_X12_reduces o_a0 w30.1 w30.2.1 w30.2.2.1 w30.2.2.2.1 w30.2.2.2.2.1 (fun Z'16 P'3 p16 => V_aload_n dX12_together_250 rfl (V_iconst dX12_together_251 (V_bipush dX12_together_252 rfl (V_iload_n dX12_together_254 rfl (Exists.elim (w30.2.2.2.2.2 Z'16 P'3 p16) (fun g31 w31 => Exists.elim w31 (fun g32 w32 => Exists.elim w32 (fun g33 w33 => V_callV (k' := 0) (n' := 0) (t := 12) (q := (RX12, TX12, 46)) [i_ 5, i_ 6, i_ v3] [] okX12_stores o_a0.1 rfl rfl lm_12_372 liX12_stores lqX12_stores (Nat.le_of_ble_eq_true rfl) (Nat.le_of_ble_eq_true rfl) (Nat.le_of_ble_eq_true rfl) (cat_of rfl) (Nat.le_of_ble_eq_true rfl) (Nat.zero_le _) (Nat.zero_le _) rfl dX12_together_255 (sp_X12_stores o_a0 w33.1 w33.2.1 w33.2.2.1 w33.2.2.2.1 w33.2.2.2.2.1 (fun Z'17 p17 => V_ret dX12_together_258 rfl (w33.2.2.2.2.2 Z'17 p17)))))))))))))))))))))))))))))))))))))))))))))))))))))))))))))))))))))))))))))))))))))))))))))))))))))))))))))))))))))))))))))))))))))))
/-- what the sums of products are not longer than -/
theorem cM_fin {p g : Int} {F : Nat → Int} {a b : UV} (hC : CF p g F) (ha : RP p g a) (hb : RP p g b) : (Fin (pmul p (eS p a.1 b.1) (cS p a b)) ∧ Fin (pmul p (pmul p (eS p a.1 b.1) (cS p a b)) a.1) ∧ Fin (cM1 p a b)) ∧ (Fin (pmul p (eT p a.1 b.1) (cS p a b)) ∧ Fin (pmul p (pmul p (eT p a.1 b.1) (cS p a b)) b.1) ∧ Fin (cM2 p a b)) ∧ Fin (pmul p a.2 b.2) ∧ Fin (pmul p (cN p F a b) (cT p a b)) ∧ Fin (cV p F a b) := by
  have hg := hC.2.2.2.2
  obtain ⟨_, _, _, _, ⟨_, fS, dS⟩, ⟨_, fT, dT⟩⟩ := cG1_ok hC ha hb
  obtain ⟨_, _, _, _, ⟨_, fS2, dS2⟩, ⟨_, fT2, dT2⟩⟩ := cG_ok hC ha hb
  obtain ⟨fN, dN, dv⟩ := cN_ok hC ha hb
  obtain ⟨⟨_, fa⟩, ⟨_, fa2⟩, _, a1, a2, _⟩ := ha
  obtain ⟨⟨_, fb⟩, ⟨_, fb2⟩, _, b1, b2, _⟩ := hb
  have m1 := pmul_fin (p := p) fS fS2 (by omega)
  have d1 := pd_pmul (p := p) fS fS2
  have m2 := pmul_fin (p := p) m1 fa (by omega)
  have d2 := pd_pmul (p := p) m1 fa
  have m3 : Fin (cM1 p a b) := pmul_fin (p := p) m2 fb2 (by omega)
  have n1 := pmul_fin (p := p) fT fS2 (by omega)
  have e1 := pd_pmul (p := p) fT fS2
  have n2 := pmul_fin (p := p) n1 fb (by omega)
  have e2 := pd_pmul (p := p) n1 fb
  have n3 : Fin (cM2 p a b) := pmul_fin (p := p) n2 fa2 (by omega)
  have v := pmul_fin (p := p) fa2 fb2 (by omega)
  have t := pmul_fin (p := p) fN fT2 (by omega)
  exact ⟨⟨m1, m2, m3⟩, ⟨n1, n2, n3⟩, v, t, padd_fin (padd_fin t m3) n3⟩
theorem rg_cv {R : Type} [Lean.Grind.CommRing R] (m1 m2 t n : R) : m1 + m2 + t * n = n * t + m1 + m2 := by grind
theorem cV_eq {p g : Int} {F : Nat → Int} {a b : UV} (hC : CF p g F) : padd p (padd p (cM1 p a b) (cM2 p a b) 1) (pmul p (cT p a b) (cN p F a b)) 1 = cV p F a b := by
  have hpr := hC.1.rg
  have hp1 : 1 < p := by omega
  rw [pmul_comm p (cT p a b)]
  unfold cV
  have i1 : InP p (cM1 p a b) := pmul_in (by omega)
  have i2 : InP p (cM2 p a b) := pmul_in (by omega)
  have i3 : InP p (pmul p (cN p F a b) (cT p a b)) := pmul_in (by omega)
  generalize pmul p (cN p F a b) (cT p a b) = T at i3
  generalize cM1 p a b = A at i1
  generalize cM2 p a b = B at i2
  funext i
  show ((A i + 1 * B i) % p + 1 * T i) % p = ((T i + 1 * A i) % p + 1 * B i) % p
  rw [Int.emod_add_emod, Int.emod_add_emod]; congr 1; omega
theorem pd_neg_z {p : Int} {f : Nat → Int} (hf : Fin f) (h : pd f < 0) : f = pzero := funext fun i => pd_hi hf i (by omega)
def TgF (b c : Nat) (Z Z' : Zt) : Prop := (∀ d, d ≠ b + 4 → d ≠ b + 20 → Z' d = Z d) ∧ ∀ i : Nat, (i < c ∨ c + 5 ≤ i) → Z' (b + 20) i = Z (b + 20) i
theorem sp_X12_together {k n : Nat} {x : Wx} {Z : Zt} {Q : Option Value → Wx → Zt → Prop} {b : Nat} {c d e : Int} (o : Is12 x b) {p : Int} {F : Nat → Int} {A B : UV} (hF : MF Z b p F) (hA : RP p (gen F) A ∧ RP p (gen F) B) (hc : ((0 ≤ c ∧ c ≤ 2995) ∧ (0 ≤ d ∧ d ≤ 2995)) ∧ (0 ≤ e ∧ e ≤ 2995)) (hK : KC Z b c.toNat A ∧ KC Z b d.toNat B) (h : ∀ Z' : Zt, (KC Z' b e.toNat (cplus p F (gen F) A B) ∧ MF Z' b p F ∧ TgF b e.toNat Z Z') → Q none x Z') : V mX12_together k n 0 [some (r_ b), some (i_ c), some (i_ d), some (i_ e)] [] x Z Q := by
  obtain ⟨hMC, hCF, P0, mP0, p00⟩ := id hF
  have hp := hCF.1
  have hpr := hp.rg
  have hgr := gen_rg F
  obtain ⟨hA, hB⟩ := hA
  have b11 := hMC.1.1
  have b12 := hMC.1.2
  have eb : ∀ Z1 : Zt, Oth Z Z1 (O4 b) → Z1 b 11 = p := fun Z1 ho => by rw [ho b (by show ¬ (b = b + 4); omega)]; exact b11
  have e20 : ∀ Z1 : Zt, Oth Z Z1 (O4 b) → Z1 (b + 20) = Z (b + 20) := fun Z1 ho => ho _ (by show ¬ (b + 20 = b + 4); omega)
  have rgI : ∀ f : Nat → Int, InP p f → ∀ i : Nat, i < 24 → Rg (f i) := fun f h i _ => by have := h i; exact ⟨by omega, by omega⟩
  obtain ⟨⟨g1i, g1f⟩, g10, g1a, g1b, ⟨sI, sF, sD⟩, ⟨tI, tF, tD⟩⟩ := cG1_ok hCF hA hB
  obtain ⟨⟨wI, wF⟩, wD⟩ := cW_ok hCF hA hB
  obtain ⟨⟨gI, gF⟩, g0, gA, gB, ⟨s2I, s2F, s2D⟩, ⟨t2I, t2F, t2D⟩⟩ := cG_ok hCF hA hB
  obtain ⟨⟨m1, m2, m3⟩, ⟨n1, n2, n3⟩, vF, ntF, cvF⟩ := cM_fin hCF hA hB
  obtain ⟨⟨uI, uF⟩, u0, u4, uu9, ue⟩ := cU3_ok hCF hA hB
  obtain ⟨⟨v3I, v3F⟩, v3D⟩ := cV3_ok hCF hA hB
  obtain ⟨⟨aI, aF⟩, ⟨a2I, a2F⟩, a0, a1, a2, a3⟩ := id hA
  obtain ⟨⟨bI_, bF⟩, ⟨b2I, b2F⟩, b0, b1, b2, b3⟩ := id hB
  have cvI : InP p (cV p F A B) := padd_in (by omega)
  have cM1I : InP p (cM1 p A B) := pmul_in (by omega)
  have cM2I : InP p (cM2 p A B) := pmul_in (by omega)
  have t0 : (0 : Int).toNat = 0 := rfl
  have t1 : (1 : Int).toNat = 1 := rfl
  have t2 : (2 : Int).toNat = 2 := rfl
  have t3 : (3 : Int).toNat = 3 := rfl
  have t4 : (4 : Int).toNat = 4 := rfl
  have t5 : (5 : Int).toNat = 5 := rfl
  have t6 : (6 : Int).toNat = 6 := rfl
  have t7 : (7 : Int).toNat = 7 := rfl
  have t8 : (8 : Int).toNat = 8 := rfl
  have t9 : (9 : Int).toNat = 9 := rfl
  have t16 : (16 : Int).toNat = 16 := rfl
  have t17 : (17 : Int).toNat = 17 := rfl
  have t18 : (18 : Int).toNat = 18 := rfl
  have t19 : (19 : Int).toNat = 19 := rfl
  have t20 : (20 : Int).toNat = 20 := rfl
  have t22 : (22 : Int).toNat = 22 := rfl
  have t23 : (23 : Int).toNat = 23 := rfl
  -- the second half
  have half : ∀ (Z1 : Zt) (P : Nat → Nat → Int), MS Z1 b P → Oth Z Z1 (O4 b) → (P 0 = F ∧ P 1 = A.1 ∧ P 2 = A.2 ∧ P 3 = B.1 ∧ P 4 = B.2) → (P 18 = eS p A.1 B.1 ∧ P 19 = eT p A.1 B.1 ∧ P 7 = cG p A B ∧ P 8 = cS p A B ∧ P 9 = cT p A B) → V mX12_together k n 109 [some (r_ b), none, none, some (i_ e)] [] x Z1 Q := by
    intro Z1 P mP oP hP1 hP2
    obtain ⟨q0, q1, q2, q3, q4⟩ := hP1
    obtain ⟨q18, q19, q7, q8, q9⟩ := hP2
    refine b_X12_together_109 o ?_
    rw [t0, t1, t2, t3, t4, t5, t6, t7, t8, t9, t16, t17, t18, t19, t22, t23]
    refine ⟨P, mP, by decide, fun Z2 hz2 => ?_⟩
    have o2 := oP.tr hz2.2
    have z6 : InP p (updP P 6 pzero 6) := by rw [updP_s]; intro i; show (0 : Int) ≤ 0 ∧ 0 < p; omega
    refine ⟨updP P 6 pzero, p, ⟨hp, eb Z2 o2⟩, hz2.1, by decide, ?_, ?_, fun Z3 P3 hz3 => ?_⟩
    · rw [updP_n _ _ (show (18 : Nat) ≠ 6 by decide), updP_n _ _ (show (8 : Nat) ≠ 6 by decide), updP_n _ _ (show (1 : Nat) ≠ 6 by decide), updP_n _ _ (show (4 : Nat) ≠ 6 by decide), q18, q8, q1, q4]
      exact ⟨⟨sI, s2I⟩, ⟨aI, b2I⟩, z6⟩
    · rw [updP_n _ _ (show (18 : Nat) ≠ 6 by decide), updP_n _ _ (show (8 : Nat) ≠ 6 by decide), updP_n _ _ (show (1 : Nat) ≠ 6 by decide), q18, q8, q1]
      exact ⟨sF, m1, m2⟩
    obtain ⟨mP3, oP3, e6, k3⟩ := hz3
    rw [updP_s, updP_n _ _ (show (18 : Nat) ≠ 6 by decide), updP_n _ _ (show (8 : Nat) ≠ 6 by decide), updP_n _ _ (show (1 : Nat) ≠ 6 by decide), updP_n _ _ (show (4 : Nat) ≠ 6 by decide), q18, q8, q1, q4] at e6
    have e6 : P3 6 = cM1 p A B := by
      rw [e6]; funext i
      show (0 + 1 * cM1 p A B i) % p = cM1 p A B i
      rw [Int.zero_add, Int.one_mul]; exact in_md cM1I i
    have k3' : ∀ q : Nat, q ≠ 6 → q ≠ 22 → q ≠ 23 → P3 q = P q := fun q x1 x2 x3 => by rw [k3 q x1 x2 x3, updP_n _ _ x1]
    have o3 := o2.tr oP3
    refine ⟨P3, p, ⟨hp, eb Z3 o3⟩, mP3, by decide, ?_, ?_, fun Z4 P4 hz4 => ?_⟩
    · rw [k3' 19 (by decide) (by decide) (by decide), k3' 8 (by decide) (by decide) (by decide), k3' 3 (by decide) (by decide) (by decide), k3' 2 (by decide) (by decide) (by decide), q19, q8, q3, q2, e6]
      exact ⟨⟨tI, s2I⟩, ⟨bI_, a2I⟩, cM1I⟩
    · rw [k3' 19 (by decide) (by decide) (by decide), k3' 8 (by decide) (by decide) (by decide), k3' 3 (by decide) (by decide) (by decide), q19, q8, q3]
      exact ⟨tF, n1, n2⟩
    obtain ⟨mP4, oP4, e64, k4⟩ := hz4
    rw [e6, k3' 19 (by decide) (by decide) (by decide), k3' 8 (by decide) (by decide) (by decide), k3' 3 (by decide) (by decide) (by decide), k3' 2 (by decide) (by decide) (by decide), q19, q8, q3, q2] at e64
    have e64 : P4 6 = padd p (cM1 p A B) (cM2 p A B) 1 := e64
    have k4' : ∀ q : Nat, q ≠ 6 → q ≠ 22 → q ≠ 23 → P4 q = P q := fun q x1 x2 x3 => by rw [k4 q x1 x2 x3, k3' q x1 x2 x3]
    have o4 := o3.tr oP4
    have w0 := k4' 0 (by decide) (by decide) (by decide)
    have w1 := k4' 1 (by decide) (by decide) (by decide)
    have w2 := k4' 2 (by decide) (by decide) (by decide)
    have w3 := k4' 3 (by decide) (by decide) (by decide)
    have w4 := k4' 4 (by decide) (by decide) (by decide)
    have w7 := k4' 7 (by decide) (by decide) (by decide)
    have w9 := k4' 9 (by decide) (by decide) (by decide)
    rw [q0] at w0; rw [q1] at w1; rw [q2] at w2; rw [q3] at w3; rw [q4] at w4; rw [q7] at w7; rw [q9] at w9
    clear k4' k3' k4 k3 q18 q19 q8
    refine ⟨P4, p, ⟨hp, eb Z4 o4⟩, mP4, by decide, by rw [w2]; exact ⟨a2I, a2F⟩, by rw [w4]; exact b2I, fun Z5 hz5 => ?_⟩
    rw [w2, w4] at hz5
    have o5 := o4.tr hz5.2
    refine ⟨_, p, ⟨hp, eb Z5 o5⟩, hz5.1, by decide, by decide, ?_, ?_, fun Z6 hz6 => ?_⟩
    · rw [updP_s]; exact pmul_in (by omega)
    · rw [updP_n _ _ (show (0 : Nat) ≠ 22 by decide), w0]; exact hCF.2.1
    rw [updP_s, updP_n _ _ (show (0 : Nat) ≠ 22 by decide), w0, updP_2] at hz6
    have m6 : MS Z6 b (updP P4 22 (cN p F A B)) := hz6.1.eq (fun q i hq hi => by
      by_cases cq : q = 22
      · subst cq; rw [updP_s, updP_s]; exact pads0 i hi
      · rw [updP_n _ _ cq, updP_n _ _ cq])
    have o6 := o5.tr hz6.2
    refine ⟨_, p, ⟨hp, eb Z6 o6⟩, m6, by decide, ?_, ?_, fun Z7 hz7 => ?_⟩
    · rw [updP_n _ _ (show (9 : Nat) ≠ 22 by decide), w9]; exact ⟨t2I, t2F⟩
    · rw [updP_s]; exact padd_in (by omega)
    rw [updP_n _ _ (show (9 : Nat) ≠ 22 by decide), w9, updP_s] at hz7
    have o7 := o6.tr hz7.2
    refine ⟨_, p, ⟨hp, eb Z7 o7⟩, hz7.1, by decide, by decide, ?_, ?_, fun Z8 hz8 => ?_⟩
    · rw [updP_n _ _ (show (6 : Nat) ≠ 23 by decide), updP_n _ _ (show (6 : Nat) ≠ 22 by decide), e64]; exact padd_in (by omega)
    · rw [updP_s]; exact pmul_in (by omega)
    rw [updP_n _ _ (show (6 : Nat) ≠ 23 by decide), updP_n _ _ (show (6 : Nat) ≠ 22 by decide), e64, updP_s] at hz8
    have m8 : MS Z8 b (updP (updP (updP P4 22 (cN p F A B)) 23 (pmul p (cT p A B) (cN p F A B))) 6 (cV p F A B)) := hz8.1.eq (fun q i hq hi => by
      by_cases cq : q = 6
      · subst cq; rw [updP_s, updP_s, ← cV_eq hCF]; exact pads0 i hi
      · rw [updP_n _ _ cq, updP_n _ _ cq])
    have o8 := o7.tr hz8.2
    obtain ⟨P8, hP8⟩ : ∃ P8 : Nat → Nat → Int, updP (updP (updP P4 22 (cN p F A B)) 23 (pmul p (cT p A B) (cN p F A B))) 6 (cV p F A B) = P8 := ⟨_, rfl⟩
    have x6 : P8 6 = cV p F A B := by rw [← hP8, updP_s]
    have x0 : ∀ q : Nat, q ≠ 6 → q ≠ 22 → q ≠ 23 → P8 q = P4 q := fun q y1 y2 y3 => by rw [← hP8, updP_n _ _ y1, updP_n _ _ y3, updP_n _ _ y2]
    rw [hP8] at m8
    have x7 : P8 7 = cG p A B := by rw [x0 7 (by decide) (by decide) (by decide)]; exact w7
    have x1 : P8 1 = A.1 := by rw [x0 1 (by decide) (by decide) (by decide)]; exact w1
    have x3 : P8 3 = B.1 := by rw [x0 3 (by decide) (by decide) (by decide)]; exact w3
    have x00 : P8 0 = F := by rw [x0 0 (by decide) (by decide) (by decide)]; exact w0
    clear hP8 hz8 hz7 m6 hz6 hz5 x0
    refine ⟨P8, p, ⟨hp, eb Z8 o8⟩, m8, by decide, by rw [x6]; exact ⟨cvI, cvF⟩, by rw [x7]; exact ⟨gI, g0⟩, fun Z9 hz9 => ?_⟩
    rw [x6, x7] at hz9
    have o9 := o8.tr hz9.2
    refine ⟨_, hz9.1, by decide, by decide, fun Z10 hz10 => ?_⟩
    rw [updP_n _ _ (show (16 : Nat) ≠ 17 by decide), updP_s] at hz10
    have o10 := o9.tr hz10.2
    obtain ⟨P10, hP10⟩ : ∃ P10 : Nat → Nat → Int, updP (updP (updP P8 16 (dvQ p (cV p F A B) (cG p A B))) 17 (dvR p (cV p F A B) (cG p A B))) 6 (dvQ p (cV p F A B) (cG p A B)) = P10 := ⟨_, rfl⟩
    have y6 : P10 6 = dvQ p (cV p F A B) (cG p A B) := by rw [← hP10, updP_s]
    have y0 : ∀ q : Nat, q ≠ 6 → q ≠ 16 → q ≠ 17 → P10 q = P8 q := fun q z1 z2 z3 => by rw [← hP10, updP_n _ _ z1, updP_n _ _ z3, updP_n _ _ z2]
    rw [hP10] at hz10
    have y1 : P10 1 = A.1 := by rw [y0 1 (by decide) (by decide) (by decide)]; exact x1
    have y3 : P10 3 = B.1 := by rw [y0 3 (by decide) (by decide) (by decide)]; exact x3
    have y7 : P10 7 = cG p A B := by rw [y0 7 (by decide) (by decide) (by decide)]; exact x7
    have y00 : P10 0 = F := by rw [y0 0 (by decide) (by decide) (by decide)]; exact x00
    refine ⟨P10, p, ⟨hp, eb Z10 o10⟩, hz10.1, by decide, by rw [y1]; exact ⟨aI, aF⟩, by rw [y3]; exact bI_, fun Z11 hz11 => ?_⟩
    rw [y1, y3] at hz11
    have o11 := o10.tr hz11.2
    have ff5 : Fin (pmul p A.1 B.1) := pmul_fin aF bF (by omega)
    refine ⟨_, p, ⟨hp, eb Z11 o11⟩, hz11.1, by decide, ?_, ?_, fun Z12 hz12 => ?_⟩
    · rw [updP_n _ _ (show (7 : Nat) ≠ 5 by decide), y7]; exact ⟨gI, gF⟩
    · rw [updP_n _ _ (show (7 : Nat) ≠ 5 by decide), y7]; exact gI
    rw [updP_n _ _ (show (7 : Nat) ≠ 5 by decide), y7] at hz12
    have o12 := o11.tr hz12.2
    have hgg := pd_pmul_eq hp gF gF gI gI g0 g0 (by omega)
    refine ⟨_, p, ⟨hp, eb Z12 o12⟩, hz12.1, by decide, ?_, ?_, fun Z13 hz13 => ?_⟩
    · rw [updP_n _ _ (show (5 : Nat) ≠ 22 by decide), updP_s]; exact ⟨pmul_in (by omega), ff5⟩
    · rw [updP_s]; exact ⟨pmul_in (by omega), by omega⟩
    have eU : dvQ p (pmul p A.1 B.1) (pmul p (cG p A B) (cG p A B)) = cU3 p A B := (dvQ_2 hp (pmul_in (by omega)) ff5 gI gF g0 (by omega)).symm
    rw [updP_n _ _ (show (5 : Nat) ≠ 22 by decide), updP_s, updP_s, eU] at hz13
    have o13 := o12.tr hz13.2
    refine ⟨_, hz13.1, by decide, by decide, fun Z14 hz14 => ?_⟩
    rw [updP_n _ _ (show (16 : Nat) ≠ 17 by decide), updP_s] at hz14
    have o14 := o13.tr hz14.2
    obtain ⟨P14, hP14⟩ : ∃ P14 : Nat → Nat → Int, updP (updP (updP (updP (updP P10 5 (pmul p A.1 B.1)) 22 (pmul p (cG p A B) (cG p A B))) 16 (cU3 p A B)) 17 (dvR p (pmul p A.1 B.1) (pmul p (cG p A B) (cG p A B)))) 5 (cU3 p A B) = P14 := ⟨_, rfl⟩
    have v5 : P14 5 = cU3 p A B := by rw [← hP14, updP_s]
    have v0 : ∀ q : Nat, q ≠ 5 → q ≠ 16 → q ≠ 17 → q ≠ 22 → P14 q = P10 q := fun q z1 z2 z3 z4 => by rw [← hP14, updP_n _ _ z1, updP_n _ _ z3, updP_n _ _ z2, updP_n _ _ z4, updP_n _ _ z1]
    rw [hP14] at hz14
    have v6 : P14 6 = dvQ p (cV p F A B) (cG p A B) := by rw [v0 6 (by decide) (by decide) (by decide) (by decide)]; exact y6
    have v00 : P14 0 = F := by rw [v0 0 (by decide) (by decide) (by decide) (by decide)]; exact y00
    refine ⟨P14, p, ⟨hp, eb Z14 o14⟩, hz14.1, by decide, by rw [v6]; exact ⟨dvQ_in (by omega), dvq_fin g0⟩, by rw [v5]; exact ⟨uI, u0⟩, fun Z15 hz15 => ?_⟩
    rw [v5, v6] at hz15
    have o15 := o14.tr hz15.2
    refine ⟨_, hz15.1, by decide, by decide, fun Z16 hz16 => ?_⟩
    rw [updP_s] at hz16
    have o16 := o15.tr hz16.2
    obtain ⟨P16, hP16⟩ : ∃ P16 : Nat → Nat → Int, updP (updP (updP P14 16 (dvQ p (dvQ p (cV p F A B) (cG p A B)) (cU3 p A B))) 17 (dvR p (dvQ p (cV p F A B) (cG p A B)) (cU3 p A B))) 6 (dvR p (dvQ p (cV p F A B) (cG p A B)) (cU3 p A B)) = P16 := ⟨_, rfl⟩
    have r5 : P16 5 = cU3 p A B := by rw [← hP16, updP_n _ _ (by decide), updP_n _ _ (by decide), updP_n _ _ (by decide)]; exact v5
    have r6 : P16 6 = cV3 p F A B := by rw [← hP16, updP_s]; rfl
    have r0 : P16 0 = F := by rw [← hP16, updP_n _ _ (by decide), updP_n _ _ (by decide), updP_n _ _ (by decide)]; exact v00
    rw [hP16] at hz16
    have eRQ : (P16 5, P16 6) = ccomp p F A B := by rw [r5, r6]; rfl
    refine ⟨P16, p, gen F, F, ⟨hCF, eb Z16 o16⟩, by rw [o16 b (by show ¬ (b = b + 4); omega)]; exact b12, hz16.1, r0, by rw [eRQ]; exact ccomp_rq hCF hA hB, fun Z17 P17 hz17 => ?_⟩
    obtain ⟨mP17, oP17, e17, k17⟩ := hz17
    rw [eRQ] at e17
    have e17 : (P17 5, P17 6) = cplus p F (gen F) A B := e17
    have hRP : RP p (gen F) (P17 5, P17 6) := by rw [e17]; exact cplus_ok hCF hA hB
    have o17 := o16.tr oP17
    refine ⟨P17, p, gen F, mP17, ⟨hp, by omega⟩, by decide, hRP, hc.2, fun Z18 hz18 => ?_⟩
    rw [e17] at hz18
    refine h Z18 ⟨hz18.1, ⟨?_, hCF, P17, mP17.kept (hz18.2.1 _ (by omega)), by rw [k17 0 (by decide) (by decide) (by decide) (by decide) (by decide) (by decide)]; exact r0⟩, fun q h1 h2 => ?_, fun i hi => ?_⟩
    · have hb18 : Z18 b = Z b := by rw [hz18.2.1 b (by omega), o17 b (by show ¬ (b = b + 4); omega)]
      exact hMC.kept ⟨by rw [hb18], by rw [hb18], by rw [hb18]⟩ (by rw [hz18.2.1 _ (by omega), o17 _ (by show ¬ (b + 5 = b + 4); omega)]) (by rw [hz18.2.1 _ (by omega), o17 _ (by show ¬ (b + 6 = b + 4); omega)])
    · rw [hz18.2.1 q h2, o17 q h1]
    · rw [hz18.2.2 i hi, e20 Z17 o17]
  -- the first half
  refine b_X12_together_0 o ?_
  rw [t0, t1, t2, t3, t4, t6, t7, t8, t9, t18, t19, t20]
  refine ⟨P0, p, gen F, A, mP0, ⟨hp, by omega⟩, hA, hc.1.1, hK.1, by decide, fun Z1 hz1 => ⟨_, p, gen F, B, hz1.1, ⟨hp, by omega⟩, hB, hc.1.2, hK.2.ro (e20 Z1 hz1.2), by decide, fun Z2 hz2 => ?_⟩⟩
  have o2 := hz1.2.tr hz2.2
  obtain ⟨P2, hP2⟩ : ∃ P2 : Nat → Nat → Int, updP (updP (updP (updP P0 1 A.1) 2 A.2) 3 B.1) 4 B.2 = P2 := ⟨_, rfl⟩
  rw [hP2] at hz2
  have a1' : P2 1 = A.1 := by rw [← hP2, updP_n _ _ (by decide), updP_n _ _ (by decide), updP_n _ _ (by decide), updP_s]
  have a2' : P2 2 = A.2 := by rw [← hP2, updP_n _ _ (by decide), updP_n _ _ (by decide), updP_s]
  have a3' : P2 3 = B.1 := by rw [← hP2, updP_n _ _ (by decide), updP_s]
  have a4' : P2 4 = B.2 := by rw [← hP2, updP_s]
  have a0' : P2 0 = F := by rw [← hP2, updP_n _ _ (by decide), updP_n _ _ (by decide), updP_n _ _ (by decide), updP_n _ _ (by decide)]; exact p00
  refine ⟨P2, p, ⟨hp, eb Z2 o2⟩, hz2.1, by decide, by rw [a1']; exact ⟨aI, aF⟩, by rw [a3']; exact ⟨bI_, bF⟩, by rw [a1', a3']; omega, fun Z3 P3 hz3 => ?_⟩
  obtain ⟨mP3, oP3, c7, c8, c9, k3⟩ := hz3
  rw [a1', a3'] at c7 c8 c9
  have o3 := o2.tr oP3
  refine ⟨P3, mP3, by decide, by decide, fun Z4 hz4 => ⟨_, hz4.1, by decide, by decide, fun Z5 hz5 => ⟨_, hz5.1, by decide, by decide, fun Z6 hz6 => ⟨_, hz6.1, by decide, by decide, fun Z7 hz7 => ?_⟩⟩⟩⟩
  rw [c7] at hz7
  rw [updP_n _ _ (show (8 : Nat) ≠ 20 by decide), c8, updP_n _ _ (show (9 : Nat) ≠ 18 by decide), updP_n _ _ (show (9 : Nat) ≠ 20 by decide), c9, updP_n _ _ (show (2 : Nat) ≠ 19 by decide), updP_n _ _ (show (2 : Nat) ≠ 18 by decide), updP_n _ _ (show (2 : Nat) ≠ 20 by decide), k3 2 (by omega) (by decide), a2'] at hz7
  have o7 := o3.tr (hz4.2.tr (hz5.2.tr (hz6.2.tr hz7.2)))
  obtain ⟨P7, hP7⟩ : ∃ P7 : Nat → Nat → Int, updP (updP (updP (updP P3 20 (eG p A.1 B.1)) 18 (eS p A.1 B.1)) 19 (eT p A.1 B.1)) 6 A.2 = P7 := ⟨_, rfl⟩
  rw [hP7] at hz7
  have f6 : P7 6 = A.2 := by rw [← hP7, updP_s]
  have f18 : P7 18 = eS p A.1 B.1 := by rw [← hP7, updP_n _ _ (by decide), updP_n _ _ (by decide), updP_s]
  have f19 : P7 19 = eT p A.1 B.1 := by rw [← hP7, updP_n _ _ (by decide), updP_s]
  have f20 : P7 20 = cG1 p A B := by rw [← hP7, updP_n _ _ (by decide), updP_n _ _ (by decide), updP_n _ _ (by decide), updP_s]; rfl
  have fq : ∀ q : Nat, q < 6 → P7 q = P2 q := fun q hq => by rw [← hP7, updP_n _ _ (by omega), updP_n _ _ (by omega), updP_n _ _ (by omega), updP_n _ _ (by omega), k3 q (by omega) (by omega)]
  refine ⟨P7, p, ⟨hp, eb Z7 o7⟩, hz7.1, by decide, by decide, by rw [f6]; exact a2I, by rw [fq 4 (by decide), a4']; exact b2I, fun Z8 hz8 => ?_⟩
  rw [f6, fq 4 (by decide), a4'] at hz8
  have o8 := o7.tr hz8.2
  have m8 : MS Z8 b (updP P7 6 (cW p A B)) := hz8.1.eq (fun q i hq hi => by
    by_cases cq : q = 6
    · subst cq; rw [updP_s, updP_s]; exact pads0 i hi
    · rw [updP_n _ _ cq, updP_n _ _ cq])
  have gw := pd_ge (cW p A B)
  have base : ∀ P9 : Nat → Nat → Int, (∀ q : Nat, q < 6 → P9 q = P2 q) → (P9 0 = F ∧ P9 1 = A.1 ∧ P9 2 = A.2 ∧ P9 3 = B.1 ∧ P9 4 = B.2) := fun P9 hk => ⟨by rw [hk 0 (by decide)]; exact a0', by rw [hk 1 (by decide)]; exact a1', by rw [hk 2 (by decide)]; exact a2', by rw [hk 3 (by decide)]; exact a3', by rw [hk 4 (by decide)]; exact a4'⟩
  refine ⟨_, m8, by decide, by rw [updP_s]; exact rgI _ wI, ?_⟩
  rw [updP_s]
  refine ⟨⟨by omega, by omega⟩, fun cc => ⟨_, p, ⟨hp, eb Z8 o8⟩, m8, by decide, ?_, ?_, ?_, fun Z9 P9 hz9 => ?_⟩, fun cc => ?_⟩
  · rw [updP_n _ _ (show (20 : Nat) ≠ 6 by decide), f20]; exact ⟨g1i, g1f⟩
  · rw [updP_s]; exact ⟨wI, wF⟩
  · rw [updP_n _ _ (show (20 : Nat) ≠ 6 by decide), f20, updP_s]; omega
  · obtain ⟨mP9, oP9, d7, d8, d9, k9⟩ := hz9
    rw [updP_n _ _ (show (20 : Nat) ≠ 6 by decide), f20, updP_s] at d7 d8 d9
    refine half Z9 P9 mP9 (o8.tr oP9) (base P9 (fun q hq => by rw [k9 q (by omega) (by omega), updP_n _ _ (by omega)]; exact fq q hq)) ⟨?_, ?_, d7, d8, d9⟩
    · rw [k9 18 (by omega) (by decide), updP_n _ _ (by decide)]; exact f18
    · rw [k9 19 (by omega) (by decide), updP_n _ _ (by decide)]; exact f19
  · have cz : cW p A B = pzero := pd_neg_z (p := p) wF cc
    have gl := (eG_ok hp aI aF bI_ bF a0 (by omega) (by omega)).1.2.2.2.2.2
    obtain ⟨z7, z8, z9⟩ := eG_z hp g1i gl
    have y7 : cG p A B = cG1 p A B := by unfold cG; rw [cz]; exact z7
    have y8 : cS p A B = pone := by unfold cS; rw [cz]; exact z8
    have y9 : cT p A B = pzero := by unfold cT; rw [cz]; exact z9
    refine ⟨_, m8, by decide, fun Z10 hz10 => ⟨_, hz10.1, by decide, fun Z11 hz11 Z12 e12 => ?_⟩⟩
    have g12 := hz11.1.put (u := 8) (i := 0) (by decide) (by decide) (show Z12 = up Z11 (b + 4) (24 * 8 + 0 : Int).toNat 1 from e12)
    refine ⟨_, g12.1, by decide, by decide, fun Z13 hz13 => ?_⟩
    have P13q : ∀ q : Nat, q ≠ 7 → q ≠ 8 → q ≠ 9 → updP (putP (updP (updP (updP P7 6 (cW p A B)) 8 pzero) 9 pzero) (8 : Int).toNat (0 : Int).toNat 1) 7 (putP (updP (updP (updP P7 6 (cW p A B)) 8 pzero) 9 pzero) (8 : Int).toNat (0 : Int).toNat 1 20) q = updP P7 6 (cW p A B) q := fun q x1 x2 x3 => by
      rw [updP_n _ _ x1]
      unfold putP
      rw [t8, updP_n _ _ x2, updP_n _ _ x3, updP_n _ _ x2]
    refine half Z13 _ hz13.1 (o8.tr (hz10.2.tr (hz11.2.tr (g12.2.tr hz13.2)))) (base _ (fun q hq => by rw [P13q q (by omega) (by omega) (by omega), updP_n _ _ (by omega)]; exact fq q hq)) ⟨?_, ?_, ?_, ?_, ?_⟩
    · rw [P13q 18 (by decide) (by decide) (by decide), updP_n _ _ (by decide)]; exact f18
    · rw [P13q 19 (by decide) (by decide) (by decide), updP_n _ _ (by decide)]; exact f19
    · rw [updP_s]
      unfold putP
      rw [t8, updP_n _ _ (show (20 : Nat) ≠ 8 by decide), updP_n _ _ (show (20 : Nat) ≠ 9 by decide), updP_n _ _ (show (20 : Nat) ≠ 8 by decide), updP_n _ _ (show (20 : Nat) ≠ 6 by decide), f20, y7]
    · rw [updP_n _ _ (show (8 : Nat) ≠ 7 by decide)]
      unfold putP
      rw [t8, t0, updP_s, y8]
      funext j
      rw [updP_n _ _ (show (8 : Nat) ≠ 9 by decide), updP_s]
      show (if j = 0 then (1 : Int) else 0) = pone j
      rfl
    · rw [updP_n _ _ (show (9 : Nat) ≠ 7 by decide)]
      unfold putP
      rw [t8, updP_n _ _ (show (9 : Nat) ≠ 8 by decide), updP_s, y9]
