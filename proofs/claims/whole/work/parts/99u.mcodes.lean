/-! ===== the reference: codes ===== -/
theorem dX12_codes_0 : decode cX12_codes 0 = .ok (.aload_n 0, 1) := by decide +kernel
theorem dX12_codes_1 : decode cX12_codes 1 = .ok (.invokevirtual 351, 3) := by decide +kernel
theorem dX12_codes_4 : decode cX12_codes 4 = .ok (.pop, 1) := by decide +kernel
theorem dX12_codes_5 : decode cX12_codes 5 = .ok (.aload_n 0, 1) := by decide +kernel
theorem dX12_codes_6 : decode cX12_codes 6 = .ok (.iconst 0, 1) := by decide +kernel
theorem dX12_codes_7 : decode cX12_codes 7 = .ok (.putfield 423, 3) := by decide +kernel
theorem dX12_codes_10 : decode cX12_codes 10 = .ok (.iconst 0, 1) := by decide +kernel
theorem dX12_codes_11 : decode cX12_codes 11 = .ok (.istore_n 1, 1) := by decide +kernel
theorem dX12_codes_12 : decode cX12_codes 12 = .ok (.iload_n 1, 1) := by decide +kernel
theorem dX12_codes_13 : decode cX12_codes 13 = .ok (.aload_n 0, 1) := by decide +kernel
theorem dX12_codes_14 : decode cX12_codes 14 = .ok (.getfield 227, 3) := by decide +kernel
theorem dX12_codes_17 : decode cX12_codes 17 = .ok (.iconst 1, 1) := by decide +kernel
theorem dX12_codes_18 : decode cX12_codes 18 = .ok (.isub, 1) := by decide +kernel
theorem dX12_codes_19 : decode cX12_codes 19 = .ok (.if_icmp .ge 176, 3) := by decide +kernel
theorem dX12_codes_22 : decode cX12_codes 22 = .ok (.aload_n 0, 1) := by decide +kernel
theorem dX12_codes_23 : decode cX12_codes 23 = .ok (.getfield 42, 3) := by decide +kernel
theorem dX12_codes_26 : decode cX12_codes 26 = .ok (.aload_n 0, 1) := by decide +kernel
theorem dX12_codes_27 : decode cX12_codes 27 = .ok (.getfield 23, 3) := by decide +kernel
theorem dX12_codes_30 : decode cX12_codes 30 = .ok (.iload_n 1, 1) := by decide +kernel
theorem dX12_codes_31 : decode cX12_codes 31 = .ok (.iaload, 1) := by decide +kernel
theorem dX12_codes_32 : decode cX12_codes 32 = .ok (.baload, 1) := by decide +kernel
theorem dX12_codes_33 : decode cX12_codes 33 = .ok (.ifCond .eq 6, 3) := by decide +kernel
theorem dX12_codes_36 : decode cX12_codes 36 = .ok (.goto 153, 3) := by decide +kernel
theorem dX12_codes_39 : decode cX12_codes 39 = .ok (.aload_n 0, 1) := by decide +kernel
theorem dX12_codes_40 : decode cX12_codes 40 = .ok (.aload_n 0, 1) := by decide +kernel
theorem dX12_codes_41 : decode cX12_codes 41 = .ok (.aload_n 0, 1) := by decide +kernel
theorem dX12_codes_42 : decode cX12_codes 42 = .ok (.getfield 23, 3) := by decide +kernel
theorem dX12_codes_45 : decode cX12_codes 45 = .ok (.iload_n 1, 1) := by decide +kernel
theorem dX12_codes_46 : decode cX12_codes 46 = .ok (.iaload, 1) := by decide +kernel
theorem dX12_codes_47 : decode cX12_codes 47 = .ok (.invokevirtual 426, 3) := by decide +kernel
theorem dX12_codes_50 : decode cX12_codes 50 = .ok (.invokevirtual 202, 3) := by decide +kernel
theorem dX12_codes_53 : decode cX12_codes 53 = .ok (.istore_n 2, 1) := by decide +kernel
theorem dX12_codes_54 : decode cX12_codes 54 = .ok (.iconst 0, 1) := by decide +kernel
theorem dX12_codes_55 : decode cX12_codes 55 = .ok (.istore_n 3, 1) := by decide +kernel
theorem dX12_codes_56 : decode cX12_codes 56 = .ok (.iload_n 3, 1) := by decide +kernel
theorem dX12_codes_57 : decode cX12_codes 57 = .ok (.aload_n 0, 1) := by decide +kernel
theorem dX12_codes_58 : decode cX12_codes 58 = .ok (.getfield 324, 3) := by decide +kernel
theorem dX12_codes_61 : decode cX12_codes 61 = .ok (.if_icmp .ge 118, 3) := by decide +kernel
theorem dX12_codes_64 : decode cX12_codes 64 = .ok (.iconst 0, 1) := by decide +kernel
theorem dX12_codes_65 : decode cX12_codes 65 = .ok (.istore 4, 2) := by decide +kernel
theorem dX12_codes_67 : decode cX12_codes 67 = .ok (.iconst 0, 1) := by decide +kernel
theorem dX12_codes_68 : decode cX12_codes 68 = .ok (.istore 5, 2) := by decide +kernel
theorem dX12_codes_70 : decode cX12_codes 70 = .ok (.iload 5, 2) := by decide +kernel
theorem dX12_codes_72 : decode cX12_codes 72 = .ok (.aload_n 0, 1) := by decide +kernel
theorem dX12_codes_73 : decode cX12_codes 73 = .ok (.getfield 306, 3) := by decide +kernel
theorem dX12_codes_76 : decode cX12_codes 76 = .ok (.if_icmp .gt 53, 3) := by decide +kernel
theorem dX12_codes_79 : decode cX12_codes 79 = .ok (.aload_n 0, 1) := by decide +kernel
theorem dX12_codes_80 : decode cX12_codes 80 = .ok (.iload 5, 2) := by decide +kernel
theorem dX12_codes_82 : decode cX12_codes 82 = .ok (.invokevirtual 327, 3) := by decide +kernel
theorem dX12_codes_85 : decode cX12_codes 85 = .ok (.ifCond .eq 38, 3) := by decide +kernel
theorem dX12_codes_88 : decode cX12_codes 88 = .ok (.aload_n 0, 1) := by decide +kernel
theorem dX12_codes_89 : decode cX12_codes 89 = .ok (.iload 4, 2) := by decide +kernel
theorem dX12_codes_91 : decode cX12_codes 91 = .ok (.aload_n 0, 1) := by decide +kernel
theorem dX12_codes_92 : decode cX12_codes 92 = .ok (.iload_n 3, 1) := by decide +kernel
theorem dX12_codes_93 : decode cX12_codes 93 = .ok (.iload 5, 2) := by decide +kernel
theorem dX12_codes_95 : decode cX12_codes 95 = .ok (.invokevirtual 354, 3) := by decide +kernel
theorem dX12_codes_98 : decode cX12_codes 98 = .ok (.aload_n 0, 1) := by decide +kernel
theorem dX12_codes_99 : decode cX12_codes 99 = .ok (.iload 5, 2) := by decide +kernel
theorem dX12_codes_101 : decode cX12_codes 101 = .ok (.aload_n 0, 1) := by decide +kernel
theorem dX12_codes_102 : decode cX12_codes 102 = .ok (.getfield 23, 3) := by decide +kernel
theorem dX12_codes_105 : decode cX12_codes 105 = .ok (.iload_n 1, 1) := by decide +kernel
theorem dX12_codes_106 : decode cX12_codes 106 = .ok (.iaload, 1) := by decide +kernel
theorem dX12_codes_107 : decode cX12_codes 107 = .ok (.aload_n 0, 1) := by decide +kernel
theorem dX12_codes_108 : decode cX12_codes 108 = .ok (.getfield 26, 3) := by decide +kernel
theorem dX12_codes_111 : decode cX12_codes 111 = .ok (.iload_n 1, 1) := by decide +kernel
theorem dX12_codes_112 : decode cX12_codes 112 = .ok (.iaload, 1) := by decide +kernel
theorem dX12_codes_113 : decode cX12_codes 113 = .ok (.invokevirtual 429, 3) := by decide +kernel
theorem dX12_codes_116 : decode cX12_codes 116 = .ok (.imul, 1) := by decide +kernel
theorem dX12_codes_117 : decode cX12_codes 117 = .ok (.iadd, 1) := by decide +kernel
theorem dX12_codes_118 : decode cX12_codes 118 = .ok (.invokevirtual 182, 3) := by decide +kernel
theorem dX12_codes_121 : decode cX12_codes 121 = .ok (.istore 4, 2) := by decide +kernel
theorem dX12_codes_123 : decode cX12_codes 123 = .ok (.iinc 5 1, 3) := by decide +kernel
theorem dX12_codes_126 : decode cX12_codes 126 = .ok (.goto (-56), 3) := by decide +kernel
theorem dX12_codes_129 : decode cX12_codes 129 = .ok (.aload_n 0, 1) := by decide +kernel
theorem dX12_codes_130 : decode cX12_codes 130 = .ok (.getfield 72, 3) := by decide +kernel
theorem dX12_codes_133 : decode cX12_codes 133 = .ok (.bipush 32, 2) := by decide +kernel
theorem dX12_codes_135 : decode cX12_codes 135 = .ok (.iload_n 3, 1) := by decide +kernel
theorem dX12_codes_136 : decode cX12_codes 136 = .ok (.imul, 1) := by decide +kernel
theorem dX12_codes_137 : decode cX12_codes 137 = .ok (.aload_n 0, 1) := by decide +kernel
theorem dX12_codes_138 : decode cX12_codes 138 = .ok (.getfield 423, 3) := by decide +kernel
theorem dX12_codes_141 : decode cX12_codes 141 = .ok (.iadd, 1) := by decide +kernel
theorem dX12_codes_142 : decode cX12_codes 142 = .ok (.aload_n 0, 1) := by decide +kernel
theorem dX12_codes_143 : decode cX12_codes 143 = .ok (.iload 4, 2) := by decide +kernel
theorem dX12_codes_145 : decode cX12_codes 145 = .ok (.iload_n 2, 1) := by decide +kernel
theorem dX12_codes_146 : decode cX12_codes 146 = .ok (.imul, 1) := by decide +kernel
theorem dX12_codes_147 : decode cX12_codes 147 = .ok (.invokevirtual 182, 3) := by decide +kernel
theorem dX12_codes_150 : decode cX12_codes 150 = .ok (.iastore, 1) := by decide +kernel
theorem dX12_codes_151 : decode cX12_codes 151 = .ok (.aload_n 0, 1) := by decide +kernel
theorem dX12_codes_152 : decode cX12_codes 152 = .ok (.getfield 75, 3) := by decide +kernel
theorem dX12_codes_155 : decode cX12_codes 155 = .ok (.bipush 32, 2) := by decide +kernel
theorem dX12_codes_157 : decode cX12_codes 157 = .ok (.iload_n 3, 1) := by decide +kernel
theorem dX12_codes_158 : decode cX12_codes 158 = .ok (.imul, 1) := by decide +kernel
theorem dX12_codes_159 : decode cX12_codes 159 = .ok (.aload_n 0, 1) := by decide +kernel
theorem dX12_codes_160 : decode cX12_codes 160 = .ok (.getfield 423, 3) := by decide +kernel
theorem dX12_codes_163 : decode cX12_codes 163 = .ok (.iadd, 1) := by decide +kernel
theorem dX12_codes_164 : decode cX12_codes 164 = .ok (.aload_n 0, 1) := by decide +kernel
theorem dX12_codes_165 : decode cX12_codes 165 = .ok (.iload 4, 2) := by decide +kernel
theorem dX12_codes_167 : decode cX12_codes 167 = .ok (.iload_n 2, 1) := by decide +kernel
theorem dX12_codes_168 : decode cX12_codes 168 = .ok (.imul, 1) := by decide +kernel
theorem dX12_codes_169 : decode cX12_codes 169 = .ok (.invokevirtual 182, 3) := by decide +kernel
theorem dX12_codes_172 : decode cX12_codes 172 = .ok (.iastore, 1) := by decide +kernel
theorem dX12_codes_173 : decode cX12_codes 173 = .ok (.iinc 3 1, 3) := by decide +kernel
theorem dX12_codes_176 : decode cX12_codes 176 = .ok (.goto (-120), 3) := by decide +kernel
theorem dX12_codes_179 : decode cX12_codes 179 = .ok (.aload_n 0, 1) := by decide +kernel
theorem dX12_codes_180 : decode cX12_codes 180 = .ok (.dup, 1) := by decide +kernel
theorem dX12_codes_181 : decode cX12_codes 181 = .ok (.getfield 423, 3) := by decide +kernel
theorem dX12_codes_184 : decode cX12_codes 184 = .ok (.iconst 1, 1) := by decide +kernel
theorem dX12_codes_185 : decode cX12_codes 185 = .ok (.iadd, 1) := by decide +kernel
theorem dX12_codes_186 : decode cX12_codes 186 = .ok (.putfield 423, 3) := by decide +kernel
theorem dX12_codes_189 : decode cX12_codes 189 = .ok (.iinc 1 1, 3) := by decide +kernel
theorem dX12_codes_192 : decode cX12_codes 192 = .ok (.goto (-180), 3) := by decide +kernel
theorem dX12_codes_195 : decode cX12_codes 195 = .ok (.aload_n 0, 1) := by decide +kernel
theorem dX12_codes_196 : decode cX12_codes 196 = .ok (.iconst 0, 1) := by decide +kernel
theorem dX12_codes_197 : decode cX12_codes 197 = .ok (.putfield 432, 3) := by decide +kernel
theorem dX12_codes_200 : decode cX12_codes 200 = .ok (.iconst 0, 1) := by decide +kernel
theorem dX12_codes_201 : decode cX12_codes 201 = .ok (.istore_n 1, 1) := by decide +kernel
theorem dX12_codes_202 : decode cX12_codes 202 = .ok (.iload_n 1, 1) := by decide +kernel
theorem dX12_codes_203 : decode cX12_codes 203 = .ok (.aload_n 0, 1) := by decide +kernel
theorem dX12_codes_204 : decode cX12_codes 204 = .ok (.getfield 423, 3) := by decide +kernel
theorem dX12_codes_207 : decode cX12_codes 207 = .ok (.if_icmp .ge 14, 3) := by decide +kernel
theorem dX12_codes_210 : decode cX12_codes 210 = .ok (.aload_n 0, 1) := by decide +kernel
theorem dX12_codes_211 : decode cX12_codes 211 = .ok (.iload_n 1, 1) := by decide +kernel
theorem dX12_codes_212 : decode cX12_codes 212 = .ok (.invokevirtual 435, 3) := by decide +kernel
theorem dX12_codes_215 : decode cX12_codes 215 = .ok (.iinc 1 1, 3) := by decide +kernel
theorem dX12_codes_218 : decode cX12_codes 218 = .ok (.goto (-16), 3) := by decide +kernel
theorem dX12_codes_221 : decode cX12_codes 221 = .ok (.aload_n 0, 1) := by decide +kernel
theorem dX12_codes_222 : decode cX12_codes 222 = .ok (.iconst 1, 1) := by decide +kernel
theorem dX12_codes_223 : decode cX12_codes 223 = .ok (.putfield 438, 3) := by decide +kernel
theorem dX12_codes_226 : decode cX12_codes 226 = .ok (.iconst 0, 1) := by decide +kernel
theorem dX12_codes_227 : decode cX12_codes 227 = .ok (.istore_n 1, 1) := by decide +kernel
theorem dX12_codes_228 : decode cX12_codes 228 = .ok (.iload_n 1, 1) := by decide +kernel
theorem dX12_codes_229 : decode cX12_codes 229 = .ok (.aload_n 0, 1) := by decide +kernel
theorem dX12_codes_230 : decode cX12_codes 230 = .ok (.getfield 432, 3) := by decide +kernel
theorem dX12_codes_233 : decode cX12_codes 233 = .ok (.if_icmp .ge 32, 3) := by decide +kernel
theorem dX12_codes_236 : decode cX12_codes 236 = .ok (.aload_n 0, 1) := by decide +kernel
theorem dX12_codes_237 : decode cX12_codes 237 = .ok (.getfield 438, 3) := by decide +kernel
theorem dX12_codes_240 : decode cX12_codes 240 = .ok (.sipush 2500, 3) := by decide +kernel
theorem dX12_codes_243 : decode cX12_codes 243 = .ok (.if_icmp .gt 22, 3) := by decide +kernel
theorem dX12_codes_246 : decode cX12_codes 246 = .ok (.aload_n 0, 1) := by decide +kernel
theorem dX12_codes_247 : decode cX12_codes 247 = .ok (.dup, 1) := by decide +kernel
theorem dX12_codes_248 : decode cX12_codes 248 = .ok (.getfield 438, 3) := by decide +kernel
theorem dX12_codes_251 : decode cX12_codes 251 = .ok (.aload_n 0, 1) := by decide +kernel
theorem dX12_codes_252 : decode cX12_codes 252 = .ok (.getfield 179, 3) := by decide +kernel
theorem dX12_codes_255 : decode cX12_codes 255 = .ok (.imul, 1) := by decide +kernel
theorem dX12_codes_256 : decode cX12_codes 256 = .ok (.putfield 438, 3) := by decide +kernel
theorem dX12_codes_259 : decode cX12_codes 259 = .ok (.iinc 1 1, 3) := by decide +kernel
theorem dX12_codes_262 : decode cX12_codes 262 = .ok (.goto (-34), 3) := by decide +kernel
theorem dX12_codes_265 : decode cX12_codes 265 = .ok (.return_, 1) := by decide +kernel
set_option maxRecDepth 20000 in
theorem b_X12_codes_0 {k n : Nat} {x : Wx} {Z : Zt} {Q : Option Value → Wx → Zt → Prop} {a0 : Nat} (o_a0 : Is12 x a0)
    (h : ∃ g1 : Int, (∃ g2 : Int, (∃ g3 : Nat → Int, (∃ g4 : Nat → Int, (∃ g5 : Nat → Int, (MF Z a0 g1 g3 ∧ MSq Z a0 g2 g4 g5 ∧ RmK g1 g3 g2 g4 g5 ∧ (∀ (Z'1 : Zt), (RMs Z'1 a0 g1 g3 g2 g4 g5 ∧ RmF a0 Z Z'1) → (∀ Z1 : Zt, Z1 = up Z'1 a0 39 0 → (V mX12_codes k n 12 [some (r_ a0), some (i_ 0), none, none, none, none] [] x Z1 Q))))))))) :
    V mX12_codes k n 0 [some (r_ a0), none, none, none, none, none] [] x Z Q :=
  V_aload_n dX12_codes_0 rfl (Exists.elim h (fun g1 w1 => Exists.elim w1 (fun g2 w2 => Exists.elim w2 (fun g3 w3 => Exists.elim w3 (fun g4 w4 => Exists.elim w4 (fun g5 w5 => V_callV (k' := 0) (n' := 0) (t := 12) (q := (RX12, TX12, 46)) [] [] okX12_rooms o_a0.1 rfl rfl lm_12_351 liX12_rooms lqX12_rooms (Nat.le_of_ble_eq_true rfl) (Nat.le_of_ble_eq_true rfl) (Nat.le_of_ble_eq_true rfl) (cat_of rfl) (Nat.le_of_ble_eq_true rfl) (Nat.zero_le _) (Nat.zero_le _) rfl dX12_codes_1 (sp_X12_rooms o_a0 w5.1 w5.2.1 w5.2.2.1 (fun Z'1 p1 => V_pop dX12_codes_4 rfl (V_aload_n dX12_codes_5 rfl (V_iconst dX12_codes_6 (P_12_39 o_a0.1 lf_12_423 dX12_codes_7 (V_nmZ (fun Z1 eZ1 => V_iconst dX12_codes_10 (V_istore_n (lv' := [some (r_ a0), some (i_ 0), none, none, none, none]) dX12_codes_11 (Nat.le_of_ble_eq_true rfl) rfl (V_msk [true, true, false, false, false, false] rfl ((w5.2.2.2 Z'1 p1) Z1 eZ1))))))))))))))))
set_option maxRecDepth 20000 in
theorem b_X12_codes_12 {k n : Nat} {x : Wx} {Z : Zt} {Q : Option Value → Wx → Zt → Prop} {a0 : Nat} {v1 : Int} (o_a0 : Is12 x a0)
    (h : Rg v1 ∧ Rg ((Z a0 15) - 1) ∧ ((((Z a0 15) - 1 ≤ v1) → (∀ Z1 : Zt, Z1 = up Z a0 40 0 → (V mX12_codes k n 202 [some (r_ a0), some (i_ 0), none, none, none, none] [] x Z1 Q))) ∧ ((v1 < (Z a0 15) - 1) → (0 ≤ v1 ∧ v1 < 32 ∧ (0 ≤ Z (a0 + 5) v1.toNat ∧ Z (a0 + 5) v1.toNat < 13 ∧ (Rg (Z (a0 + 11) (Z (a0 + 5) v1.toNat).toNat) ∧ (((Z (a0 + 11) (Z (a0 + 5) v1.toNat).toNat = 0) → (∃ g1 : Int, (∃ g2 : Un, ((IsP g1 ∧ Z a0 11 = g1) ∧ MU Z a0 g2 ∧ ((∀ i : Nat, 0 ≤ g2.2 i ∧ g2.2 i < g1) ∧ g2.1 ≤ 90) ∧ (0 ≤ (Z (a0 + 5) v1.toNat) ∧ (Z (a0 + 5) v1.toNat) < g1) ∧ (∃ g3 : Int, ((IsP g3 ∧ Z a0 11 = g3) ∧ (0 < (evU g1 g2 (Z (a0 + 5) v1.toNat)) ∧ (evU g1 g2 (Z (a0 + 5) v1.toNat)) < g3) ∧ (V mX12_codes k n 56 [some (r_ a0), some (i_ v1), some (i_ (inv g3 (evU g1 g2 (Z (a0 + 5) v1.toNat)))), some (i_ 0), none, none] [] x Z Q))))))) ∧ ((Z (a0 + 11) (Z (a0 + 5) v1.toNat).toNat ≠ 0) → (V mX12_codes k n 189 [some (r_ a0), some (i_ v1), none, none, none, none] [] x Z Q))))))))) :
    V mX12_codes k n 12 [some (r_ a0), some (i_ v1), none, none, none, none] [] x Z Q :=
  V_iload_n dX12_codes_12 rfl (V_aload_n dX12_codes_13 rfl (G_12_15 o_a0.1 lf_12_227 dX12_codes_14 (V_iconst dX12_codes_17 (V_isub dX12_codes_18 (V_icmp_ge (tgt := 195) dX12_codes_19 rfl h.1 h.2.1 (fun c1 => V_aload_n dX12_codes_195 rfl (V_iconst dX12_codes_196 (P_12_40 o_a0.1 lf_12_432 dX12_codes_197 (V_nmZ (fun Z1 eZ1 => V_iconst dX12_codes_200 (V_istore_n (lv' := [some (r_ a0), some (i_ 0), none, none, none, none]) dX12_codes_201 (Nat.le_of_ble_eq_true rfl) rfl (V_msk [true, true, false, false, false, false] rfl ((h.2.2.1 c1) Z1 eZ1)))))))) (fun c1 => V_aload_n dX12_codes_22 rfl (G_12_20 o_a0.1 o_a0.qR20 lf_12_42 dX12_codes_23 (V_aload_n dX12_codes_26 rfl (G_12_13 o_a0.1 o_a0.qR13 lf_12_23 dX12_codes_27 (V_iload_n dX12_codes_30 rfl (V_iald (t := 100) o_a0.qK13 (by decide) rfl (h.2.2.2 c1).1 (h.2.2.2 c1).2.1 (Nat.le_of_ble_eq_true rfl) dX12_codes_31 (V_zald (t := 102) o_a0.qK20 (by decide) rfl (h.2.2.2 c1).2.2.1 (h.2.2.2 c1).2.2.2.1 (Nat.le_of_ble_eq_true rfl) dX12_codes_32 (V_if_eq (tgt := 39) dX12_codes_33 rfl (h.2.2.2 c1).2.2.2.2.1 (fun c2 => V_aload_n dX12_codes_39 rfl (V_aload_n dX12_codes_40 rfl (V_aload_n dX12_codes_41 rfl (G_12_13 o_a0.1 o_a0.qR13 lf_12_23 dX12_codes_42 (V_iload_n dX12_codes_45 rfl (V_iald (t := 100) o_a0.qK13 (by decide) rfl (h.2.2.2 c1).1 (h.2.2.2 c1).2.1 (Nat.le_of_ble_eq_true rfl) dX12_codes_46 (Exists.elim ((h.2.2.2 c1).2.2.2.2.2.1 c2) (fun g1 w1 => Exists.elim w1 (fun g2 w2 => V_callV (k' := 0) (n' := 0) (t := 12) (q := (RX12, TX12, 46)) [i_ (Z (a0 + 5) v1.toNat)] [r_ a0] okX12_underAt o_a0.1 rfl rfl lm_12_426 liX12_underAt lqX12_underAt (Nat.le_of_ble_eq_true rfl) (Nat.le_of_ble_eq_true rfl) (Nat.le_of_ble_eq_true rfl) (cat_of rfl) (Nat.le_of_ble_eq_true rfl) (Nat.zero_le _) (Nat.zero_le _) rfl dX12_codes_47 (sp_X12_underAt o_a0 w2.1 w2.2.1 w2.2.2.1 w2.2.2.2.1 (Exists.elim w2.2.2.2.2 (fun g3 w3 => V_callV (k' := 0) (n' := 0) (t := 12) (q := (RX12, TX12, 46)) [i_ (evU g1 g2 (Z (a0 + 5) v1.toNat))] [] okX12_inverse o_a0.1 rfl rfl lm_12_202 liX12_inverse lqX12_inverse (Nat.le_of_ble_eq_true rfl) (Nat.le_of_ble_eq_true rfl) (Nat.le_of_ble_eq_true rfl) (cat_of rfl) (Nat.le_of_ble_eq_true rfl) (Nat.zero_le _) (Nat.zero_le _) rfl dX12_codes_50 (sp_X12_inverse o_a0 w3.1 w3.2.1 (V_istore_n (lv' := [some (r_ a0), some (i_ v1), some (i_ (inv g3 (evU g1 g2 (Z (a0 + 5) v1.toNat)))), none, none, none]) dX12_codes_53 (Nat.le_of_ble_eq_true rfl) rfl (V_iconst dX12_codes_54 (V_istore_n (lv' := [some (r_ a0), some (i_ v1), some (i_ (inv g3 (evU g1 g2 (Z (a0 + 5) v1.toNat)))), some (i_ 0), none, none]) dX12_codes_55 (Nat.le_of_ble_eq_true rfl) rfl (V_msk [true, true, true, true, false, false] rfl w3.2.2))))))))))))))))) (fun c2 => V_goto (tgt := 189) dX12_codes_36 rfl (V_msk [true, true, false, false, false, false] rfl ((h.2.2.2 c1).2.2.2.2.2.2 c2))))))))))))))))
set_option maxRecDepth 20000 in
theorem b_X12_codes_56 {k n : Nat} {x : Wx} {Z : Zt} {Q : Option Value → Wx → Zt → Prop} {a0 : Nat} {v1 : Int} {v2 : Int} {v3 : Int} (o_a0 : Is12 x a0)
    (h : Rg v3 ∧ Rg (Z a0 28) ∧ (((Z a0 28 ≤ v3) → (∀ Z1 : Zt, Z1 = up Z a0 39 ((Z a0 39) + 1) → (V mX12_codes k n 189 [some (r_ a0), some (i_ v1), none, none, none, none] [] x Z1 Q))) ∧ ((v3 < Z a0 28) → (V mX12_codes k n 70 [some (r_ a0), some (i_ v1), some (i_ v2), some (i_ v3), some (i_ 0), some (i_ 0)] [] x Z Q)))) :
    V mX12_codes k n 56 [some (r_ a0), some (i_ v1), some (i_ v2), some (i_ v3), none, none] [] x Z Q :=
  V_iload_n dX12_codes_56 rfl (V_aload_n dX12_codes_57 rfl (G_12_28 o_a0.1 lf_12_324 dX12_codes_58 (V_icmp_ge (tgt := 179) dX12_codes_61 rfl h.1 h.2.1 (fun c1 => V_aload_n dX12_codes_179 rfl (V_dup dX12_codes_180 rfl (G_12_39 o_a0.1 lf_12_423 dX12_codes_181 (V_iconst dX12_codes_184 (V_iadd dX12_codes_185 (P_12_39 o_a0.1 lf_12_423 dX12_codes_186 (V_nmZ (fun Z1 eZ1 => V_msk [true, true, false, false, false, false] rfl ((h.2.2.1 c1) Z1 eZ1))))))))) (fun c1 => V_iconst dX12_codes_64 (V_istore (lv' := [some (r_ a0), some (i_ v1), some (i_ v2), some (i_ v3), some (i_ 0), none]) dX12_codes_65 (Nat.le_of_ble_eq_true rfl) rfl (V_iconst dX12_codes_67 (V_istore (lv' := [some (r_ a0), some (i_ v1), some (i_ v2), some (i_ v3), some (i_ 0), some (i_ 0)]) dX12_codes_68 (Nat.le_of_ble_eq_true rfl) rfl (V_msk [true, true, true, true, true, true] rfl (h.2.2.2 c1)))))))))
set_option maxRecDepth 20000 in
theorem b_X12_codes_70 {k n : Nat} {x : Wx} {Z : Zt} {Q : Option Value → Wx → Zt → Prop} {a0 : Nat} {v1 : Int} {v2 : Int} {v3 : Int} {v4 : Int} {v5 : Int} (o_a0 : Is12 x a0)
    (h : Rg v5 ∧ Rg (Z a0 24) ∧ (((Z a0 24 < v5) → (Rg (v4 * v2) ∧ 0 < Z a0 11 ∧ Z a0 11 ≤ 13 ∧ (0 ≤ (32 * v3) + (Z a0 39) ∧ (32 * v3) + (Z a0 39) < 3072 ∧ (∀ Z1 : Zt, Z1 = up Z (a0 + 21) ((32 * v3) + (Z a0 39)).toNat ((v4 * v2) % Z a0 11) → (0 < Z1 a0 11 ∧ Z1 a0 11 ≤ 13 ∧ (0 ≤ (32 * v3) + (Z1 a0 39) ∧ (32 * v3) + (Z1 a0 39) < 3072 ∧ (∀ Z2 : Zt, Z2 = up Z1 (a0 + 22) ((32 * v3) + (Z1 a0 39)).toNat ((v4 * v2) % Z1 a0 11) → (V mX12_codes k n 56 [some (r_ a0), some (i_ v1), some (i_ v2), some (i_ (v3 + 1)), none, none] [] x Z2 Q)))))))) ∧ ((v5 ≤ Z a0 24) → (∃ g1 : Nat, ((Z a0 12 = (g1 : Int) ∧ g1 ≤ 2) ∧ (0 ≤ v5 ∧ v5 ≤ 100) ∧ (∀ (r1 : Int), (((r1 = 0 ∧ (v5.toNat % 2 = 1 ∧ v5.toNat < 2 * g1 + 1)) ∨ (r1 = 1 ∧ ¬ (v5.toNat % 2 = 1 ∧ v5.toNat < 2 * g1 + 1)))) → (Rg r1 ∧ (((r1 = 0) → (V mX12_codes k n 123 [some (r_ a0), some (i_ v1), some (i_ v2), some (i_ v3), some (i_ v4), some (i_ v5)] [] x Z Q)) ∧ ((r1 ≠ 0) → (∃ g2 : Int, (∃ g3 : Int, (∃ g4 : Nat → Int, (∃ g5 : Nat → Int, (∃ g6 : Nat → Int, (MF Z a0 g2 g4 ∧ RmK g2 g4 g3 g5 g6 ∧ RMs Z a0 g2 g4 g3 g5 g6 ∧ (0 ≤ v3 ∧ v3 < (mRm g2 g4 g3 g5 g6 : Int)) ∧ (0 ≤ v5 ∧ v5 ≤ mMo g2 g4 g3 g5 g6) ∧ (0 ≤ v1 ∧ v1 < 32 ∧ (∃ g7 : Int, (∃ g8 : Nat, (((IsP g7 ∧ Z a0 11 = g7) ∧ (Z a0 12 = (g8 : Int) ∧ g8 ≤ 2)) ∧ ((0 ≤ v5 ∧ v5 ≤ 100) ∧ ¬ (v5.toNat % 2 = 1 ∧ v5.toNat < 2 * g8 + 1)) ∧ ((0 ≤ (Z (a0 + 5) v1.toNat) ∧ (Z (a0 + 5) v1.toNat) < g7) ∧ (0 ≤ (Z (a0 + 6) v1.toNat) ∧ (Z (a0 + 6) v1.toNat) < g7)) ∧ (Rg (v4 + ((mBa g2 (mSl g2 g4 g3 g5 g6) v3 v5) * (powA g7 g8 v5.toNat (Z (a0 + 5) v1.toNat) (Z (a0 + 6) v1.toNat)))) ∧ 0 < Z a0 11 ∧ Z a0 11 ≤ 13 ∧ (∀ i1 : Int, i1 = (v4 + ((mBa g2 (mSl g2 g4 g3 g5 g6) v3 v5) * (powA g7 g8 v5.toNat (Z (a0 + 5) v1.toNat) (Z (a0 + 6) v1.toNat)))) % Z a0 11 → (V mX12_codes k n 123 [some (r_ a0), some (i_ v1), some (i_ v2), some (i_ v3), some (i_ i1), some (i_ v5)] [] x Z Q)))))))))))))))))))))) :
    V mX12_codes k n 70 [some (r_ a0), some (i_ v1), some (i_ v2), some (i_ v3), some (i_ v4), some (i_ v5)] [] x Z Q :=
  V_iload dX12_codes_70 rfl (V_aload_n dX12_codes_72 rfl (G_12_24 o_a0.1 lf_12_306 dX12_codes_73 (V_icmp_gt (tgt := 129) dX12_codes_76 rfl h.1 h.2.1 (fun c1 => V_aload_n dX12_codes_129 rfl (G_12_37 o_a0.1 o_a0.qR37 lf_12_72 dX12_codes_130 (V_bipush dX12_codes_133 rfl (V_iload_n dX12_codes_135 rfl (V_imul dX12_codes_136 (V_aload_n dX12_codes_137 rfl (G_12_39 o_a0.1 lf_12_423 dX12_codes_138 (V_iadd dX12_codes_141 (V_aload_n dX12_codes_142 rfl (V_iload dX12_codes_143 rfl (V_iload_n dX12_codes_145 rfl (V_imul dX12_codes_146 (V_callV (k' := 0) (n' := 0) (t := 12) (q := (RX12, TX12, 46)) [i_ (v4 * v2)] [i_ ((32 * v3) + (Z a0 39)), r_ (a0 + 21)] okX12_mod o_a0.1 rfl rfl lm_12_182 liX12_mod lqX12_mod (Nat.le_of_ble_eq_true rfl) (Nat.le_of_ble_eq_true rfl) (Nat.le_of_ble_eq_true rfl) (cat_of rfl) (Nat.le_of_ble_eq_true rfl) (Nat.zero_le _) (Nat.zero_le _) rfl dX12_codes_147 (sp_X12_mod o_a0 (h.2.2.1 c1).1 (h.2.2.1 c1).2.1 (h.2.2.1 c1).2.2.1 (V_iast (t := 100) o_a0.qK37 (by decide) (by decide) rfl (h.2.2.1 c1).2.2.2.1 (h.2.2.1 c1).2.2.2.2.1 (Nat.le_of_ble_eq_true rfl) dX12_codes_150 (V_nmZ (fun Z1 eZ1 => V_aload_n dX12_codes_151 rfl (G_12_38 o_a0.1 o_a0.qR38 lf_12_75 dX12_codes_152 (V_bipush dX12_codes_155 rfl (V_iload_n dX12_codes_157 rfl (V_imul dX12_codes_158 (V_aload_n dX12_codes_159 rfl (G_12_39 o_a0.1 lf_12_423 dX12_codes_160 (V_iadd dX12_codes_163 (V_aload_n dX12_codes_164 rfl (V_iload dX12_codes_165 rfl (V_iload_n dX12_codes_167 rfl (V_imul dX12_codes_168 (V_callV (k' := 0) (n' := 0) (t := 12) (q := (RX12, TX12, 46)) [i_ (v4 * v2)] [i_ ((32 * v3) + (Z1 a0 39)), r_ (a0 + 22)] okX12_mod o_a0.1 rfl rfl lm_12_182 liX12_mod lqX12_mod (Nat.le_of_ble_eq_true rfl) (Nat.le_of_ble_eq_true rfl) (Nat.le_of_ble_eq_true rfl) (cat_of rfl) (Nat.le_of_ble_eq_true rfl) (Nat.zero_le _) (Nat.zero_le _) rfl dX12_codes_169 (sp_X12_mod o_a0 (h.2.2.1 c1).1 ((h.2.2.1 c1).2.2.2.2.2 Z1 eZ1).1 ((h.2.2.1 c1).2.2.2.2.2 Z1 eZ1).2.1 (V_iast (t := 100) o_a0.qK38 (by decide) (by decide) rfl ((h.2.2.1 c1).2.2.2.2.2 Z1 eZ1).2.2.1 ((h.2.2.1 c1).2.2.2.2.2 Z1 eZ1).2.2.2.1 (Nat.le_of_ble_eq_true rfl) dX12_codes_172 (V_nmZ (fun Z2 eZ2 => V_iinc (lv' := [some (r_ a0), some (i_ v1), some (i_ v2), some (i_ (v3 + 1)), some (i_ v4), some (i_ v5)]) dX12_codes_173 rfl (Nat.le_of_ble_eq_true rfl) rfl (V_goto (tgt := 56) dX12_codes_176 rfl (V_msk [true, true, true, true, false, false] rfl (((h.2.2.1 c1).2.2.2.2.2 Z1 eZ1).2.2.2.2 Z2 eZ2)))))))))))))))))))))))))))))))))))) (fun c1 => V_aload_n dX12_codes_79 rfl (V_iload dX12_codes_80 rfl (Exists.elim (h.2.2.2 c1) (fun g1 w1 => V_callV (k' := 0) (n' := 0) (t := 12) (q := (RX12, TX12, 46)) [i_ v5] [] okX12_isColumn o_a0.1 rfl rfl lm_12_327 liX12_isColumn lqX12_isColumn (Nat.le_of_ble_eq_true rfl) (Nat.le_of_ble_eq_true rfl) (Nat.le_of_ble_eq_true rfl) (cat_of rfl) (Nat.le_of_ble_eq_true rfl) (Nat.zero_le _) (Nat.zero_le _) rfl dX12_codes_82 (sp_X12_isColumn o_a0 w1.1 w1.2.1 (fun r1 p1 => V_if_eq (tgt := 123) dX12_codes_85 rfl (w1.2.2 r1 p1).1 (fun c2 => V_msk [true, true, true, true, true, true] rfl ((w1.2.2 r1 p1).2.1 c2)) (fun c2 => V_aload_n dX12_codes_88 rfl (V_iload dX12_codes_89 rfl (V_aload_n dX12_codes_91 rfl (V_iload_n dX12_codes_92 rfl (V_iload dX12_codes_93 rfl (Exists.elim ((w1.2.2 r1 p1).2.2 c2) (fun g2 w2 => Exists.elim w2 (fun g3 w3 => Exists.elim w3 (fun g4 w4 => Exists.elim w4 (fun g5 w5 => Exists.elim w5 (fun g6 w6 => V_callV (k' := 0) (n' := 0) (t := 12) (q := (RX12, TX12, 46)) [i_ v3, i_ v5] [i_ v4, r_ a0] okX12_baseAt o_a0.1 rfl rfl lm_12_354 liX12_baseAt lqX12_baseAt (Nat.le_of_ble_eq_true rfl) (Nat.le_of_ble_eq_true rfl) (Nat.le_of_ble_eq_true rfl) (cat_of rfl) (Nat.le_of_ble_eq_true rfl) (Nat.zero_le _) (Nat.zero_le _) rfl dX12_codes_95 (sp_X12_baseAt o_a0 w6.1 w6.2.1 w6.2.2.1 w6.2.2.2.1 w6.2.2.2.2.1 (V_aload_n dX12_codes_98 rfl (V_iload dX12_codes_99 rfl (V_aload_n dX12_codes_101 rfl (G_12_13 o_a0.1 o_a0.qR13 lf_12_23 dX12_codes_102 (V_iload_n dX12_codes_105 rfl (V_iald (t := 100) o_a0.qK13 (by decide) rfl w6.2.2.2.2.2.1 w6.2.2.2.2.2.2.1 (Nat.le_of_ble_eq_true rfl) dX12_codes_106 (V_aload_n dX12_codes_107 rfl (G_12_14 o_a0.1 o_a0.qR14 lf_12_26 dX12_codes_108 (V_iload_n dX12_codes_111 rfl (V_iald (t := 100) o_a0.qK14 (by decide) rfl w6.2.2.2.2.2.1 w6.2.2.2.2.2.2.1 (Nat.le_of_ble_eq_true rfl) dX12_codes_112 (Exists.elim w6.2.2.2.2.2.2.2 (fun g7 w7 => Exists.elim w7 (fun g8 w8 => V_callV (k' := 0) (n' := 0) (t := 12) (q := (RX12, TX12, 46)) [i_ v5, i_ (Z (a0 + 5) v1.toNat), i_ (Z (a0 + 6) v1.toNat)] [i_ (mBa g2 (mSl g2 g4 g3 g5 g6) v3 v5), i_ v4, r_ a0] okX12_powerAt o_a0.1 rfl rfl lm_12_429 liX12_powerAt lqX12_powerAt (Nat.le_of_ble_eq_true rfl) (Nat.le_of_ble_eq_true rfl) (Nat.le_of_ble_eq_true rfl) (cat_of rfl) (Nat.le_of_ble_eq_true rfl) (Nat.zero_le _) (Nat.zero_le _) rfl dX12_codes_113 (sp_X12_powerAt o_a0 w8.1 w8.2.1 w8.2.2.1 (V_imul dX12_codes_116 (V_iadd dX12_codes_117 (V_callV (k' := 0) (n' := 0) (t := 12) (q := (RX12, TX12, 46)) [i_ (v4 + ((mBa g2 (mSl g2 g4 g3 g5 g6) v3 v5) * (powA g7 g8 v5.toNat (Z (a0 + 5) v1.toNat) (Z (a0 + 6) v1.toNat))))] [] okX12_mod o_a0.1 rfl rfl lm_12_182 liX12_mod lqX12_mod (Nat.le_of_ble_eq_true rfl) (Nat.le_of_ble_eq_true rfl) (Nat.le_of_ble_eq_true rfl) (cat_of rfl) (Nat.le_of_ble_eq_true rfl) (Nat.zero_le _) (Nat.zero_le _) rfl dX12_codes_118 (sp_X12_mod o_a0 w8.2.2.2.1 w8.2.2.2.2.1 w8.2.2.2.2.2.1 (V_nmi (fun i1 ei1 => V_istore (lv' := [some (r_ a0), some (i_ v1), some (i_ v2), some (i_ v3), some (i_ i1), some (i_ v5)]) dX12_codes_121 (Nat.le_of_ble_eq_true rfl) rfl (V_msk [true, true, true, true, true, true] rfl (w8.2.2.2.2.2.2 i1 ei1)))))))))))))))))))))))))))))))))))))))))))
set_option maxRecDepth 20000 in
theorem b_X12_codes_123 {k n : Nat} {x : Wx} {Z : Zt} {Q : Option Value → Wx → Zt → Prop} {a0 : Nat} {v1 : Int} {v2 : Int} {v3 : Int} {v4 : Int} {v5 : Int} 
    (h : V mX12_codes k n 70 [some (r_ a0), some (i_ v1), some (i_ v2), some (i_ v3), some (i_ v4), some (i_ (v5 + 1))] [] x Z Q) :
    V mX12_codes k n 123 [some (r_ a0), some (i_ v1), some (i_ v2), some (i_ v3), some (i_ v4), some (i_ v5)] [] x Z Q :=
  V_iinc (lv' := [some (r_ a0), some (i_ v1), some (i_ v2), some (i_ v3), some (i_ v4), some (i_ (v5 + 1))]) dX12_codes_123 rfl (Nat.le_of_ble_eq_true rfl) rfl (V_goto (tgt := 70) dX12_codes_126 rfl (V_msk [true, true, true, true, true, true] rfl h))
set_option maxRecDepth 20000 in
theorem b_X12_codes_189 {k n : Nat} {x : Wx} {Z : Zt} {Q : Option Value → Wx → Zt → Prop} {a0 : Nat} {v1 : Int} 
    (h : V mX12_codes k n 12 [some (r_ a0), some (i_ (v1 + 1)), none, none, none, none] [] x Z Q) :
    V mX12_codes k n 189 [some (r_ a0), some (i_ v1), none, none, none, none] [] x Z Q :=
  V_iinc (lv' := [some (r_ a0), some (i_ (v1 + 1)), none, none, none, none]) dX12_codes_189 rfl (Nat.le_of_ble_eq_true rfl) rfl (V_goto (tgt := 12) dX12_codes_192 rfl (V_msk [true, true, false, false, false, false] rfl h))
set_option maxRecDepth 20000 in
theorem b_X12_codes_202 {k n : Nat} {x : Wx} {Z : Zt} {Q : Option Value → Wx → Zt → Prop} {a0 : Nat} {v1 : Int} (o_a0 : Is12 x a0)
    (h : Rg v1 ∧ Rg (Z a0 39) ∧ (((Z a0 39 ≤ v1) → (∀ Z1 : Zt, Z1 = up Z a0 41 1 → (V mX12_codes k n 228 [some (r_ a0), some (i_ 0), none, none, none, none] [] x Z1 Q))) ∧ ((v1 < Z a0 39) → (∃ g1 : Int, (∃ g2 : Nat, (∃ g3 : Nat, (∃ g4 : StW, ((IsP g1 ∧ Z a0 11 = g1) ∧ ((Z a0 28 = (g2 : Int) ∧ g2 ≤ 96) ∧ (Z a0 39 = (g3 : Int) ∧ g3 ≤ 32) ∧ (Z a0 40 = (g4.2 : Int) ∧ g4.2 ≤ g2)) ∧ (0 ≤ v1 ∧ v1 < g3) ∧ (STp Z a0 g2 g3 g4.1 ∧ InM g1 g2 g3 g4.1) ∧ (∀ (Z'1 : Zt), (STp Z'1 a0 g2 g3 (stS g1 g2 v1.toNat g4).1 ∧ Z'1 a0 40 = ((stS g1 g2 v1.toNat g4).2 : Int) ∧ StF a0 Z Z'1) → (V mX12_codes k n 202 [some (r_ a0), some (i_ (v1 + 1)), none, none, none, none] [] x Z'1 Q)))))))))) :
    V mX12_codes k n 202 [some (r_ a0), some (i_ v1), none, none, none, none] [] x Z Q :=
  V_iload_n dX12_codes_202 rfl (V_aload_n dX12_codes_203 rfl (G_12_39 o_a0.1 lf_12_423 dX12_codes_204 (V_icmp_ge (tgt := 221) dX12_codes_207 rfl h.1 h.2.1 (fun c1 => V_aload_n dX12_codes_221 rfl (V_iconst dX12_codes_222 (P_12_41 o_a0.1 lf_12_438 dX12_codes_223 (V_nmZ (fun Z1 eZ1 => V_iconst dX12_codes_226 (V_istore_n (lv' := [some (r_ a0), some (i_ 0), none, none, none, none]) dX12_codes_227 (Nat.le_of_ble_eq_true rfl) rfl (V_msk [true, true, false, false, false, false] rfl ((h.2.2.1 c1) Z1 eZ1)))))))) (fun c1 => V_aload_n dX12_codes_210 rfl (V_iload_n dX12_codes_211 rfl (Exists.elim (h.2.2.2 c1) (fun g1 w1 => Exists.elim w1 (fun g2 w2 => Exists.elim w2 (fun g3 w3 => Exists.elim w3 (fun g4 w4 => V_callV (k' := 0) (n' := 0) (t := 12) (q := (RX12, TX12, 46)) [i_ v1] [] okX12_stepsAt o_a0.1 rfl rfl lm_12_435 liX12_stepsAt lqX12_stepsAt (Nat.le_of_ble_eq_true rfl) (Nat.le_of_ble_eq_true rfl) (Nat.le_of_ble_eq_true rfl) (cat_of rfl) (Nat.le_of_ble_eq_true rfl) (Nat.zero_le _) (Nat.zero_le _) rfl dX12_codes_212 (sp_X12_stepsAt o_a0 w4.1 w4.2.1 w4.2.2.1 w4.2.2.2.1 (fun Z'1 p1 => V_iinc (lv' := [some (r_ a0), some (i_ (v1 + 1)), none, none, none, none]) dX12_codes_215 rfl (Nat.le_of_ble_eq_true rfl) rfl (V_goto (tgt := 202) dX12_codes_218 rfl (V_msk [true, true, false, false, false, false] rfl (w4.2.2.2.2 Z'1 p1)))))))))))))))
set_option maxRecDepth 20000 in
theorem b_X12_codes_228 {k n : Nat} {x : Wx} {Z : Zt} {Q : Option Value → Wx → Zt → Prop} {a0 : Nat} {v1 : Int} (o_a0 : Is12 x a0)
    (h : Rg v1 ∧ Rg (Z a0 40) ∧ (((Z a0 40 ≤ v1) → (Q none x Z)) ∧ ((v1 < Z a0 40) → (Rg (Z a0 41) ∧ (((2500 < Z a0 41) → (Q none x Z)) ∧ ((Z a0 41 ≤ 2500) → (∀ Z1 : Zt, Z1 = up Z a0 41 ((Z a0 41) * (Z a0 11)) → (V mX12_codes k n 228 [some (r_ a0), some (i_ (v1 + 1)), none, none, none, none] [] x Z1 Q)))))))) :
    V mX12_codes k n 228 [some (r_ a0), some (i_ v1), none, none, none, none] [] x Z Q :=
  V_iload_n dX12_codes_228 rfl (V_aload_n dX12_codes_229 rfl (G_12_40 o_a0.1 lf_12_432 dX12_codes_230 (V_icmp_ge (tgt := 265) dX12_codes_233 rfl h.1 h.2.1 (fun c1 => V_ret dX12_codes_265 rfl (h.2.2.1 c1)) (fun c1 => V_aload_n dX12_codes_236 rfl (G_12_41 o_a0.1 lf_12_438 dX12_codes_237 (V_sipush dX12_codes_240 rfl (V_icmp_gt (tgt := 265) dX12_codes_243 rfl (h.2.2.2 c1).1 (rg_c rfl) (fun c2 => V_ret dX12_codes_265 rfl ((h.2.2.2 c1).2.1 c2)) (fun c2 => V_aload_n dX12_codes_246 rfl (V_dup dX12_codes_247 rfl (G_12_41 o_a0.1 lf_12_438 dX12_codes_248 (V_aload_n dX12_codes_251 rfl (G_12_11 o_a0.1 lf_12_179 dX12_codes_252 (V_imul dX12_codes_255 (P_12_41 o_a0.1 lf_12_438 dX12_codes_256 (V_nmZ (fun Z1 eZ1 => V_iinc (lv' := [some (r_ a0), some (i_ (v1 + 1)), none, none, none, none]) dX12_codes_259 rfl (Nat.le_of_ble_eq_true rfl) rfl (V_goto (tgt := 228) dX12_codes_262 rfl (V_msk [true, true, false, false, false, false] rfl (((h.2.2.2 c1).2.2 c2) Z1 eZ1)))))))))))))))))))
/-- what a row of the base has at a POINT, before it goes by UNDER -/
def vaN (p : Int) (g : Nat) (w : Sv) (a : Nat) (X Y : Int) : Nat → Int
  | 0 => 0
  | j + 1 => if j % 2 = 1 ∧ j < 2 * g + 1 then vaN p g w a X Y j else (vaN p g w a X Y j + mBa p w a j * powA p g j X Y) % p
/-- the value of a row of the base at the q-th POINT -/
def vpt (p : Int) (F : Nat → Int) (fr : Int) (O D : Nat → Int) (a q : Nat) : Int := vaN p (gen F).toNat (mSl p F fr O D) a ((pall p F).getD q (0, 0)).1 ((pall p F).getD q (0, 0)).2 (mMo p F fr O D + 1).toNat * inv p (evU p (mUn p F O D) ((pall p F).getD q (0, 0)).1) % p
def mPl (p : Int) (F D : Nat → Int) : Nat × (Nat → Nat) := plc (pall p F) D ((pall p F).length - 1)
def mCv (p : Int) (F : Nat → Int) (fr : Int) (O D : Nat → Int) (a t : Nat) : Int := vpt p F fr O D a ((mPl p F D).2 t)
def stN (p : Int) (R : Nat) (M : Nat → Nat → Int) : Nat → StW
  | 0 => (M, 0)
  | j + 1 => stS p R j (stN p R M j)
def mSt (p : Int) (F : Nat → Int) (fr : Int) (O D : Nat → Int) : StW := stN p (mRm p F fr O D) (mCv p F fr O D) (mPl p F D).1
def wdN (p : Int) : Nat → Int
  | 0 => 1
  | i + 1 => if wdN p i ≤ 2500 then wdN p i * p else wdN p i
theorem wdN_rg {p : Int} (hp : 1 ≤ p ∧ p ≤ 13) : ∀ i : Nat, 1 ≤ wdN p i ∧ wdN p i ≤ 32500
  | 0 => ⟨by show (1 : Int) ≤ 1; decide, by show (1 : Int) ≤ 32500; decide⟩
  | i + 1 => by
    have ih := wdN_rg hp i
    unfold wdN
    split
    · rename_i h
      have h1 : wdN p i * 1 ≤ wdN p i * p := Int.mul_le_mul_of_nonneg_left hp.1 (by omega)
      have h2 : wdN p i * p ≤ 2500 * 13 := Int.mul_le_mul h hp.2 (by omega) (by decide)
      omega
    · exact ih
theorem wdN_stop {p : Int} {i : Nat} (h : 2500 < wdN p i) : ∀ m : Nat, wdN p (i + m) = wdN p i
  | 0 => rfl
  | m + 1 => by
    have e := wdN_stop h m
    show (if wdN p (i + m) ≤ 2500 then wdN p (i + m) * p else wdN p (i + m)) = _
    rw [e, if_neg (by omega)]
theorem mBa_rg {p : Int} (hp : 1 < p) (w : Sv) (a j : Int) : 0 ≤ mBa p w a j ∧ mBa p w a j < p := by
  unfold mBa
  split
  · omega
  · split
    · exact emr _ (by omega)
    · omega
theorem powA_rg {p : Int} (hp : 1 < p) (g j : Nat) {X Y : Int} (hY : 0 ≤ Y ∧ Y < p) : 0 ≤ powA p g j X Y ∧ powA p g j X Y < p := by
  unfold powA
  split
  · exact pwV_rg (by omega) (by omega) _
  · exact pwV_rg (by omega) hY _
theorem vaN_rg {p : Int} (hp : 1 < p) (g : Nat) (w : Sv) (a : Nat) (X Y : Int) : ∀ j : Nat, 0 ≤ vaN p g w a X Y j ∧ vaN p g w a X Y j < p
  | 0 => ⟨Int.le_refl 0, by show (0 : Int) < p; omega⟩
  | j + 1 => by
    unfold vaN
    split
    · exact vaN_rg hp g w a X Y j
    · exact emr _ (by omega)
theorem stN_ok {p : Int} (hp : 0 < p) {R L : Nat} {M : Nat → Nat → Int} (h : InM p R L M) : ∀ j : Nat, InM p R L (stN p R M j).1 ∧ (stN p R M j).2 ≤ R ∧ (stN p R M j).2 ≤ j
  | 0 => ⟨h, Nat.zero_le _, Nat.zero_le _⟩
  | j + 1 => by
    have ih := stN_ok hp h j
    have := stS_ok hp (j := j) ih.1 ih.2.1
    exact ⟨this.1, this.2.1, by show (stS p R j (stN p R M j)).2 ≤ j + 1; omega⟩
/-- codes are made -/
def CdM (Z : Zt) (b : Nat) (p : Int) (F : Nat → Int) (fr : Int) (O D : Nat → Int) : Prop := (Z b 28 = (mRm p F fr O D : Int) ∧ Z b 39 = ((mPl p F D).1 : Int) ∧ Z b 40 = ((mSt p F fr O D).2 : Int) ∧ Z b 41 = wdN p (mSt p F fr O D).2) ∧ (∀ q : Nat, q < mRm p F fr O D → ∀ t : Nat, t < (mPl p F D).1 → Z (b + 21) (32 * q + t) = mCv p F fr O D q t) ∧ STp Z b (mRm p F fr O D) (mPl p F D).1 (mSt p F fr O D).1
def CoF (b : Nat) (Z Z' : Zt) : Prop := (∀ c, c ≠ b → (c < b + 12 ∨ b + 22 < c) → Z' c = Z c) ∧ ∀ i : Nat, i ≠ 23 → i ≠ 24 → i ≠ 26 → i ≠ 28 → i ≠ 39 → i ≠ 40 → i ≠ 41 → Z' b i = Z b i
theorem CoF.mq {b : Nat} {Z Z1 : Zt} (h : CoF b Z Z1) : Mq b Z Z1 := ⟨h.1 _ (by omega) (by omega), h.1 _ (by omega) (by omega), fun c hc => h.1 c (by omega) (by omega)⟩
/-- what comes behind rooms -/
def VF (b : Nat) (Z Z' : Zt) : Prop := (∀ c, c ≠ b → c ≠ b + 21 → c ≠ b + 22 → Z' c = Z c) ∧ ∀ i : Nat, i ≠ 39 → i ≠ 40 → i ≠ 41 → Z' b i = Z b i
theorem VF.rf {b : Nat} {Z : Zt} : VF b Z Z := ⟨fun _ _ _ _ => rfl, fun _ _ _ _ => rfl⟩
theorem VF.tr {b : Nat} {Z Z1 Z2 : Zt} (h : VF b Z Z1) (g : VF b Z1 Z2) : VF b Z Z2 := ⟨fun c h1 h2 h3 => (g.1 c h1 h2 h3).trans (h.1 c h1 h2 h3), fun i h1 h2 h3 => (g.2 i h1 h2 h3).trans (h.2 i h1 h2 h3)⟩
theorem VF.b {b j : Nat} {v : Int} {Z Z1 : Zt} (hj : j = 39 ∨ j = 40 ∨ j = 41) (e : Z1 = up Z b j v) : VF b Z Z1 := ⟨fun d hd _ _ => by rw [e, up_row _ _ _ _ _ hd], fun i h1 h2 h3 => by rw [e, up_at, if_neg (by omega)]⟩
theorem VF.r {b d j : Nat} {v : Int} {Z Z1 : Zt} (hd : d = b + 21 ∨ d = b + 22) (e : Z1 = up Z d j v) : VF b Z Z1 := ⟨fun c _ h2 h3 => by rw [e, up_row _ _ _ _ _ (by omega)], fun i _ _ _ => by rw [e, up_row _ _ _ _ _ (by omega)]⟩
theorem StF.vf {b : Nat} {Z Z1 : Zt} (h : StF b Z Z1) : VF b Z Z1 := ⟨fun c h1 _ h3 => h.1 c h1 h3, fun i _ h2 _ => h.2 i h2⟩
theorem VF.co {b : Nat} {Z Z1 Z2 : Zt} (h : RmF b Z Z1) (g : VF b Z1 Z2) : CoF b Z Z2 := ⟨fun c h1 h2 => (g.1 c h1 (by omega) (by omega)).trans (h.1 c h1 (by omega)), fun i h1 h2 h3 h4 h5 h6 h7 => (g.2 i h5 h6 h7).trans (h.2 i h1 h2 h3 h4)⟩
theorem RMs.vf {b : Nat} {Z Z1 : Zt} {p : Int} {F : Nat → Int} {fr : Int} {O D : Nat → Int} (h : RMs Z b p F fr O D) (g : VF b Z Z1) : RMs Z1 b p F fr O D := by
  obtain ⟨h1, h2, h3, h4⟩ := h
  refine ⟨⟨by rw [g.2 _ (by decide) (by decide) (by decide)]; exact h1.1, fun i hi => by rw [g.1 _ (by omega) (by omega) (by omega)]; exact h1.2 i hi⟩, by rw [g.2 _ (by decide) (by decide) (by decide)]; exact h2, by rw [g.2 _ (by decide) (by decide) (by decide)]; exact h3, fun hm => ?_⟩
  obtain ⟨⟨N, n1, n2⟩, k2, k3, k4⟩ := h4 hm
  exact ⟨⟨N, n1.kept (g.1 _ (by omega) (by omega) (by omega)), n2⟩, by rw [g.2 _ (by decide) (by decide) (by decide)]; exact k2, fun j hj => by rw [g.1 _ (by omega) (by omega) (by omega)]; exact k3 j hj, fun i hi => by rw [g.1 _ (by omega) (by omega) (by omega)]; exact k4 i hi⟩
theorem MF.vf {b : Nat} {Z Z1 : Zt} {p : Int} {F : Nat → Int} (h : MF Z b p F) (g : VF b Z Z1) : MF Z1 b p F := by
  obtain ⟨h1, h2, P, h3, h4⟩ := h
  exact ⟨h1.kept ⟨g.2 _ (by decide) (by decide) (by decide), g.2 _ (by decide) (by decide) (by decide), g.2 _ (by decide) (by decide) (by decide)⟩ (g.1 _ (by omega) (by omega) (by omega)) (g.1 _ (by omega) (by omega) (by omega)), h2, P, h3.kept (g.1 _ (by omega) (by omega) (by omega)), h4⟩
theorem sp_X12_codes {k n : Nat} {x : Wx} {Z : Zt} {Q : Option Value → Wx → Zt → Prop} {b : Nat} (o : Is12 x b) {p fr : Int} {F O D : Nat → Int} (hF : MF Z b p F) (hS : MSq Z b fr O D) (hk : RmK p F fr O D) (h : ∀ Z' : Zt, (CdM Z' b p F fr O D ∧ MF Z' b p F ∧ CoF b Z Z') → Q none x Z') : V mX12_codes k n 0 [some (r_ b), none, none, none, none, none] [] x Z Q := by
  have hC := hF.2.1
  have hp := hC.1
  have hpr := hp.rg
  have hgn := hC.2.2.2.2
  have hl := pall_len hp F
  have hrm := mRm_le hp hk
  obtain ⟨g, hg⟩ : ∃ g : Nat, gen F = (g : Int) := ⟨(gen F).toNat, by omega⟩
  have ml : ∀ u v : Int, (0 ≤ u ∧ u < p) → (0 ≤ v ∧ v < p) → 0 ≤ u * v ∧ u * v ≤ 169 := fun u v hu hv => ⟨Int.mul_nonneg hu.1 hv.1, Int.le_trans (Int.mul_le_mul (show u ≤ 13 by omega) (show v ≤ 13 by omega) hv.1 (by decide)) (by decide)⟩
  have hmo : mMo p F fr O D ≤ 95 := by have h3 := hk.2.2.1; have h4 := hk.2.2.2.1; unfold mMo; omega
  refine b_X12_codes_0 o ⟨p, fr, F, O, D, hF, hS, hk, fun Z1 hz1 Z2 e2 => ?_⟩
  have v2 : VF b Z1 Z2 := VF.b (Or.inl rfl) e2
  have F1 : MF Z1 b p F := hF.rm hz1.2
  have S1 : MSq Z1 b fr O D := ⟨by rw [hz1.2.2 _ (by decide) (by decide) (by decide) (by decide)]; exact hS.1, fun j hj => by rw [hz1.2.1 _ (by omega) (by omega)]; exact hS.2.1 j hj, fun j hj => by rw [hz1.2.1 _ (by omega) (by omega)]; exact hS.2.2 j hj⟩
  have R1 := hz1.1
  -- what stands in every later world
  have bb : ∀ Z3 : Zt, VF b Z1 Z3 → Z3 b 11 = p ∧ Z3 b 12 = (g : Int) ∧ Z3 b 15 = (pall p F).length ∧ Z3 b 24 = mMo p F fr O D ∧ Z3 b 28 = (mRm p F fr O D : Int) := fun Z3 vf => by
    have f3 := F1.vf vf
    exact ⟨f3.1.1.1, by rw [← hg]; exact f3.1.1.2, f3.1.2.1, (R1.vf vf).2.1, (R1.vf vf).2.2.1⟩
  have pt : ∀ (Z3 : Zt) (q : Nat), VF b Z1 Z3 → q + 1 < (pall p F).length → Z3 (b + 5) q = ((pall p F).getD q (0, 0)).1 ∧ Z3 (b + 6) q = ((pall p F).getD q (0, 0)).2 := fun Z3 q vf hq => (F1.vf vf).1.2.2 q (by omega)
  -- the words are counted
  have lw : ∀ (m i : Nat) (Z3 : Zt), i + m = (mSt p F fr O D).2 → (mSt p F fr O D).2 ≤ 100 → VF b Z1 Z3 → Z3 b 39 = ((mPl p F D).1 : Int) → Z3 b 40 = ((mSt p F fr O D).2 : Int) → Z3 b 41 = wdN p i → (∀ q : Nat, q < mRm p F fr O D → ∀ t : Nat, t < (mPl p F D).1 → Z3 (b + 21) (32 * q + t) = mCv p F fr O D q t) → STp Z3 b (mRm p F fr O D) (mPl p F D).1 (mSt p F fr O D).1 → V mX12_codes k n 228 [some (r_ b), some (i_ (i : Int)), none, none, none, none] [] x Z3 Q := by
    intro m
    induction m with
    | zero =>
      intro i Z3 hi h100 vf e39 e40 e41 hz hst
      obtain ⟨z11, _, _, _, z28⟩ := bb Z3 vf
      refine b_X12_codes_228 o ?_
      rw [e40]
      refine ⟨⟨by omega, by omega⟩, ⟨by omega, by omega⟩, fun _ => h Z3 ⟨⟨⟨z28, e39, e40, ?_⟩, hz, hst⟩, F1.vf vf, VF.co hz1.2 vf⟩, fun cc => by omega⟩
      rw [e41, show i = (mSt p F fr O D).2 from by omega]
    | succ m ih =>
      intro i Z3 hi h100 vf e39 e40 e41 hz hst
      obtain ⟨z11, _, _, _, z28⟩ := bb Z3 vf
      have hw := wdN_rg (p := p) (by omega) i
      refine b_X12_codes_228 o ?_
      rw [e40, e41]
      refine ⟨⟨by omega, by omega⟩, ⟨by omega, by omega⟩, fun cc => by omega, fun _ => ⟨⟨by omega, by omega⟩, fun c1 => h Z3 ⟨⟨⟨z28, e39, e40, ?_⟩, hz, hst⟩, F1.vf vf, VF.co hz1.2 vf⟩, fun c1 Z4 e4 => ?_⟩⟩
      · rw [e41, ← hi]; exact (wdN_stop c1 _).symm
      · rw [z11] at e4
        have vf4 : VF b Z3 Z4 := VF.b (Or.inr (Or.inr rfl)) e4
        refine ih (i + 1) Z4 (by omega) h100 (vf.tr vf4) (by rw [e4, up_at, if_neg (by decide)]; exact e39) (by rw [e4, up_at, if_neg (by decide)]; exact e40) ?_ (fun q hq t ht => by rw [e4, up_row _ _ _ _ _ (by omega)]; exact hz q hq t ht) (fun q hq t ht => by rw [e4, up_row _ _ _ _ _ (by omega)]; exact hst q hq t ht)
        rw [e4, up_self]
        show _ = (if wdN p i ≤ 2500 then wdN p i * p else wdN p i)
        rw [if_pos c1]
  have plr := plc_rg (pall p F) D ((pall p F).length - 1)
  have cvI : InM p (mRm p F fr O D) (mPl p F D).1 (mCv p F fr O D) := fun q _ t _ => emr _ (by omega)
  have hSt := stN_ok (p := p) (by omega) cvI
  have hplen : (mPl p F D).1 ≤ 26 := by have := plr.1; unfold mPl; omega
  -- the rows are brought in steps
  have ls : ∀ (m j : Nat) (Z3 : Zt), j + m = (mPl p F D).1 → VF b Z1 Z3 → Z3 b 39 = ((mPl p F D).1 : Int) → Z3 b 40 = ((stN p (mRm p F fr O D) (mCv p F fr O D) j).2 : Int) → (∀ q : Nat, q < mRm p F fr O D → ∀ t : Nat, t < (mPl p F D).1 → Z3 (b + 21) (32 * q + t) = mCv p F fr O D q t) → STp Z3 b (mRm p F fr O D) (mPl p F D).1 (stN p (mRm p F fr O D) (mCv p F fr O D) j).1 → V mX12_codes k n 202 [some (r_ b), some (i_ (j : Int)), none, none, none, none] [] x Z3 Q := by
    intro m
    induction m with
    | zero =>
      intro j Z3 hj vf e39 e40 hz hst
      have ej : j = (mPl p F D).1 := by omega
      refine b_X12_codes_202 o ?_
      rw [e39]
      refine ⟨⟨by omega, by omega⟩, ⟨by omega, by omega⟩, fun _ Z4 e4 => ?_, fun cc => by omega⟩
      rw [ej] at e40 hst
      have vf4 : VF b Z3 Z4 := VF.b (Or.inr (Or.inr rfl)) e4
      refine lw (mSt p F fr O D).2 0 Z4 (by omega) ?_ (vf.tr vf4) (by rw [e4, up_at, if_neg (by decide)]; exact e39) (by rw [e4, up_at, if_neg (by decide)]; exact e40) (by rw [e4, up_self]; rfl) (fun q hq t ht => by rw [e4, up_row _ _ _ _ _ (by omega)]; exact hz q hq t ht) (fun q hq t ht => by rw [e4, up_row _ _ _ _ _ (by omega)]; exact hst q hq t ht)
      have := (hSt (mPl p F D).1).2.2
      unfold mSt
      omega
    | succ m ih =>
      intro j Z3 hj vf e39 e40 hz hst
      obtain ⟨z11, _, _, _, z28⟩ := bb Z3 vf
      have hI := hSt j
      refine b_X12_codes_202 o ?_
      have e39' := e39
      rw [e39]
      refine ⟨⟨by omega, by omega⟩, ⟨by omega, by omega⟩, fun cc => by omega, fun _ => ⟨p, mRm p F fr O D, (mPl p F D).1, stN p (mRm p F fr O D) (mCv p F fr O D) j, ⟨hp, z11⟩, ⟨⟨z28, hrm⟩, ⟨rfl, by omega⟩, e40, hI.2.1⟩, by omega, ⟨hst, hI.1⟩, fun Z4 hz4 => ?_⟩⟩
      rw [Int.toNat_natCast] at hz4
      obtain ⟨s1, s2, s3⟩ := hz4
      exact ih (j + 1) Z4 (by omega) (vf.tr s3.vf) (by rw [s3.2 _ (by decide)]; exact e39') s2 (fun q hq t ht => by rw [s3.1 _ (by omega) (by omega)]; exact hz q hq t ht) s1
  -- the value of one row at one POINT
  have lv : ∀ (Z3 : Zt) (q a c : Nat), VF b Z1 Z3 → q + 1 < (pall p F).length → a < mRm p F fr O D → (∀ Z4 : Zt, VF b Z1 Z4 → Z4 b 39 = Z3 b 39 → (∀ t : Nat, Z4 (b + 21) t = if t = 32 * a + c then vpt p F fr O D a q else Z3 (b + 21) t) → (∀ t : Nat, Z4 (b + 22) t = if t = 32 * a + c then vpt p F fr O D a q else Z3 (b + 22) t) → V mX12_codes k n 56 [some (r_ b), some (i_ (q : Int)), some (i_ (inv p (evU p (mUn p F O D) ((pall p F).getD q (0, 0)).1))), some (i_ ((a : Int) + 1)), none, none] [] x Z4 Q) → Z3 b 39 = (c : Int) → c ≤ 26 → ∀ (m j : Nat), (j + m : Int) = mMo p F fr O D + 1 → V mX12_codes k n 70 [some (r_ b), some (i_ (q : Int)), some (i_ (inv p (evU p (mUn p F O D) ((pall p F).getD q (0, 0)).1))), some (i_ (a : Int)), some (i_ (vaN p g (mSl p F fr O D) a ((pall p F).getD q (0, 0)).1 ((pall p F).getD q (0, 0)).2 j)), some (i_ (j : Int))] [] x Z3 Q := by
    intro Z3 q a c vf hq ha nx e39 hc26 m
    obtain ⟨z11, z12, z15, z24, z28⟩ := bb Z3 vf
    obtain ⟨p5, p6⟩ := pt Z3 q vf hq
    have hget := pall_get (p := p) (F := F) (k := q) (by omega) hq
    have ivr := inv_lt hp (evU p (mUn p F O D) ((pall p F).getD q (0, 0)).1)
    induction m with
    | zero =>
      intro j hj
      have r1 := vaN_rg (p := p) (by omega) g (mSl p F fr O D) a ((pall p F).getD q (0, 0)).1 ((pall p F).getD q (0, 0)).2 j
      have r2 := ml _ _ r1 ivr
      have i1 : (32 * (a : Int) + (c : Int)).toNat = 32 * a + c := by omega
      refine b_X12_codes_70 o ?_
      rw [z24, z11, e39, i1]
      have eV : vaN p g (mSl p F fr O D) a ((pall p F).getD q (0, 0)).1 ((pall p F).getD q (0, 0)).2 j * inv p (evU p (mUn p F O D) ((pall p F).getD q (0, 0)).1) % p = vpt p F fr O D a q := by
        unfold vpt
        rw [hg, show (mMo p F fr O D + 1).toNat = j from by omega]
        rfl
      rw [eV]
      refine ⟨⟨by omega, by omega⟩, ⟨by omega, by omega⟩, fun _ => ⟨⟨by omega, by omega⟩, by omega, by omega, by omega, by omega, fun Z4 e4 => ?_⟩, fun cc => by omega⟩
      have f4 : Z4 b = Z3 b := by rw [e4, up_row _ _ _ _ _ (by omega)]
      rw [f4, z11, e39, i1, eV]
      refine ⟨by omega, by omega, by omega, by omega, fun Z5 e5 => nx Z5 (vf.tr ((VF.r (Or.inl rfl) e4).tr (VF.r (Or.inr rfl) e5))) (by rw [e5, up_row _ _ _ _ _ (by omega), f4]) (fun t => ?_) (fun t => ?_)⟩
      · rw [e5, up_row _ _ _ _ _ (by omega), e4, up_at]
      · rw [e5, up_at, e4, up_row _ _ _ _ _ (by omega)]
    | succ m ih =>
      intro j hj
      have r1 := vaN_rg (p := p) (by omega) g (mSl p F fr O D) a ((pall p F).getD q (0, 0)).1 ((pall p F).getD q (0, 0)).2 j
      have nxt := ih (j + 1) (by omega)
      have eN : vaN p g (mSl p F fr O D) a ((pall p F).getD q (0, 0)).1 ((pall p F).getD q (0, 0)).2 (j + 1) = if j % 2 = 1 ∧ j < 2 * g + 1 then vaN p g (mSl p F fr O D) a ((pall p F).getD q (0, 0)).1 ((pall p F).getD q (0, 0)).2 j else (vaN p g (mSl p F fr O D) a ((pall p F).getD q (0, 0)).1 ((pall p F).getD q (0, 0)).2 j + mBa p (mSl p F fr O D) a j * powA p g j ((pall p F).getD q (0, 0)).1 ((pall p F).getD q (0, 0)).2) % p := rfl
      rw [eN] at nxt
      have bR := mBa_rg (p := p) (by omega) (mSl p F fr O D) a j
      have pR := powA_rg (p := p) (by omega) g j (X := ((pall p F).getD q (0, 0)).1) hget.2.1
      have mR := ml _ _ bR pR
      refine b_X12_codes_70 o ?_
      rw [z24, z11, z12, Int.toNat_natCast, Int.toNat_natCast, p5, p6]
      refine ⟨⟨by omega, by omega⟩, ⟨by omega, by omega⟩, fun cc => by omega, fun _ => ⟨g, ⟨rfl, by omega⟩, by omega, fun r3 h3 => ?_⟩⟩
      rcases h3 with ⟨e3, c3⟩ | ⟨e3, c3⟩
      · rw [if_pos c3] at nxt
        exact ⟨⟨by omega, by omega⟩, fun _ => b_X12_codes_123 nxt, fun cc => by omega⟩
      · rw [if_neg c3] at nxt
        refine ⟨⟨by omega, by omega⟩, fun cc => by omega, fun _ => ⟨p, fr, F, O, D, F1.vf vf, hk, R1.vf vf, by omega, by omega, by omega, by omega, p, g, ⟨⟨hp, rfl⟩, rfl, by omega⟩, ⟨by omega, c3⟩, ⟨hget.1, hget.2.1⟩, ⟨by omega, by omega⟩, by omega, by omega, fun i1 hi1 => ?_⟩⟩
        rw [hi1]
        exact b_X12_codes_123 nxt
  -- all rows at one POINT
  have lr : ∀ (q c : Nat), q + 1 < (pall p F).length → c ≤ 26 → ∀ (W1 W2 : Nat → Int), (∀ Z4 : Zt, VF b Z1 Z4 → Z4 b 39 = (c : Int) + 1 → (∀ a : Nat, a < mRm p F fr O D → ∀ t : Nat, t < 32 → Z4 (b + 21) (32 * a + t) = if t = c then vpt p F fr O D a q else W1 (32 * a + t)) → (∀ a : Nat, a < mRm p F fr O D → ∀ t : Nat, t < 32 → Z4 (b + 22) (32 * a + t) = if t = c then vpt p F fr O D a q else W2 (32 * a + t)) → V mX12_codes k n 12 [some (r_ b), some (i_ ((q : Int) + 1)), none, none, none, none] [] x Z4 Q) → ∀ (m a : Nat) (Z3 : Zt), a + m = mRm p F fr O D → VF b Z1 Z3 → Z3 b 39 = (c : Int) → (∀ s : Nat, s < mRm p F fr O D → ∀ t : Nat, t < 32 → Z3 (b + 21) (32 * s + t) = if t = c ∧ s < a then vpt p F fr O D s q else W1 (32 * s + t)) → (∀ s : Nat, s < mRm p F fr O D → ∀ t : Nat, t < 32 → Z3 (b + 22) (32 * s + t) = if t = c ∧ s < a then vpt p F fr O D s q else W2 (32 * s + t)) → V mX12_codes k n 56 [some (r_ b), some (i_ (q : Int)), some (i_ (inv p (evU p (mUn p F O D) ((pall p F).getD q (0, 0)).1))), some (i_ (a : Int)), none, none] [] x Z3 Q := by
    intro q c hq hc26 W1 W2 nx m
    induction m with
    | zero =>
      intro a Z3 ha vf e39 w1 w2
      obtain ⟨z11, z12, z15, z24, z28⟩ := bb Z3 vf
      refine b_X12_codes_56 o ?_
      rw [z28, e39]
      refine ⟨⟨by omega, by omega⟩, ⟨by omega, by omega⟩, fun _ Z4 e4 => b_X12_codes_189 (nx Z4 (vf.tr (VF.b (Or.inl rfl) e4)) (by rw [e4, up_self]) (fun s hs t ht => ?_) (fun s hs t ht => ?_)), fun cc => by omega⟩
      · rw [e4, up_row _ _ _ _ _ (by omega), w1 s hs t ht]
        by_cases ct : t = c
        · rw [if_pos ⟨ct, by omega⟩, if_pos ct]
        · rw [if_neg (fun e => ct e.1), if_neg ct]
      · rw [e4, up_row _ _ _ _ _ (by omega), w2 s hs t ht]
        by_cases ct : t = c
        · rw [if_pos ⟨ct, by omega⟩, if_pos ct]
        · rw [if_neg (fun e => ct e.1), if_neg ct]
    | succ m ih =>
      intro a Z3 ha vf e39 w1 w2
      obtain ⟨z11, z12, z15, z24, z28⟩ := bb Z3 vf
      have hm0 : 0 ≤ mMo p F fr O D := by
        by_cases cm : mMo p F fr O D < 0
        · have : mRm p F fr O D = 0 := by unfold mRm; rw [if_pos cm]
          omega
        · omega
      refine b_X12_codes_56 o ?_
      rw [z28]
      refine ⟨⟨by omega, by omega⟩, ⟨by omega, by omega⟩, fun cc => by omega, fun _ => ?_⟩
      refine lv Z3 q a c vf hq (by omega) (fun Z4 vf4 e394 y1 y2 => ih (a + 1) Z4 (by omega) vf4 (by rw [e394]; exact e39) (fun s hs t ht => ?_) (fun s hs t ht => ?_)) e39 hc26 (mMo p F fr O D + 1).toNat 0 (by omega)
      · rw [y1]
        by_cases c1 : s = a ∧ t = c
        · rw [if_pos (by omega), if_pos ⟨c1.2, by omega⟩, c1.1]
        · rw [if_neg (by omega), w1 s hs t ht]
          by_cases c2 : t = c ∧ s < a
          · rw [if_pos c2, if_pos ⟨c2.1, by omega⟩]
          · rw [if_neg c2, if_neg (by omega)]
      · rw [y2]
        by_cases c1 : s = a ∧ t = c
        · rw [if_pos (by omega), if_pos ⟨c1.2, by omega⟩, c1.1]
        · rw [if_neg (by omega), w2 s hs t ht]
          by_cases c2 : t = c ∧ s < a
          · rw [if_pos c2, if_pos ⟨c2.1, by omega⟩]
          · rw [if_neg c2, if_neg (by omega)]
  -- all POINTS
  have lq : ∀ (m q : Nat) (Z3 : Zt), q + m + 1 = (pall p F).length → VF b Z1 Z3 → Z3 b 39 = ((plc (pall p F) D q).1 : Int) → (∀ s : Nat, s < mRm p F fr O D → ∀ t : Nat, t < (plc (pall p F) D q).1 → Z3 (b + 21) (32 * s + t) = vpt p F fr O D s ((plc (pall p F) D q).2 t)) → (∀ s : Nat, s < mRm p F fr O D → ∀ t : Nat, t < (plc (pall p F) D q).1 → Z3 (b + 22) (32 * s + t) = vpt p F fr O D s ((plc (pall p F) D q).2 t)) → V mX12_codes k n 12 [some (r_ b), some (i_ (q : Int)), none, none, none, none] [] x Z3 Q := by
    intro m
    induction m with
    | zero =>
      intro q Z3 hq vf e39 w1 w2
      obtain ⟨z11, z12, z15, z24, z28⟩ := bb Z3 vf
      have eq : q = (pall p F).length - 1 := by omega
      rw [eq] at e39 w1 w2
      refine b_X12_codes_12 o ?_
      rw [z15]
      refine ⟨⟨by omega, by omega⟩, ⟨by omega, by omega⟩, fun _ Z4 e4 => ?_, fun cc => by omega⟩
      exact ls (mPl p F D).1 0 Z4 (by omega) (vf.tr (VF.b (Or.inr (Or.inl rfl)) e4)) (by rw [e4, up_at, if_neg (by decide)]; exact e39) (by rw [e4, up_self]; rfl) (fun s hs t ht => by rw [e4, up_row _ _ _ _ _ (by omega)]; exact w1 s hs t ht) (fun s hs t ht => by rw [e4, up_row _ _ _ _ _ (by omega)]; exact w2 s hs t ht)
    | succ m ih =>
      intro q Z3 hq vf e39 w1 w2
      obtain ⟨z11, z12, z15, z24, z28⟩ := bb Z3 vf
      obtain ⟨p5, p6⟩ := pt Z3 q vf (by omega)
      have hget := pall_get (p := p) (F := F) (k := q) (by omega) (by omega)
      have plq := plc_rg (pall p F) D q
      obtain ⟨Xn, hXn⟩ : ∃ Xn : Nat, ((pall p F).getD q (0, 0)).1 = (Xn : Int) := ⟨((pall p F).getD q (0, 0)).1.toNat, by omega⟩
      have d11 : Z3 (b + 11) Xn = D Xn := by rw [vf.1 _ (by omega) (by omega) (by omega)]; exact S1.2.2 Xn (by omega)
      have hD01 := hk.2.1 Xn (by omega)
      have eP : plc (pall p F) D (q + 1) = if D Xn = 0 then ((plc (pall p F) D q).1 + 1, upn (plc (pall p F) D q).2 (plc (pall p F) D q).1 q) else plc (pall p F) D q := by
        show (if D ((pall p F).getD q (0, 0)).1.toNat = 0 then _ else _) = _
        rw [hXn, Int.toNat_natCast]
      have eX : Z3 (b + 5) q = (Xn : Int) := by rw [p5]; exact hXn
      refine b_X12_codes_12 o ?_
      rw [z15, Int.toNat_natCast, eX, Int.toNat_natCast, d11]
      refine ⟨⟨by omega, by omega⟩, ⟨by omega, by omega⟩, fun cc => by omega, fun _ => ⟨by omega, by omega, by omega, by omega, ⟨by omega, by omega⟩, fun c1 => ?_, fun c1 => ?_⟩⟩
      · rw [if_pos c1] at eP
        have hun := und_I (p := p) (by omega) (by omega) (mDt p F O D)
        have hnz : evU p (mUn p F O D) Xn ≠ 0 := und_nz hp (by omega) (by unfold mDt; rw [if_pos c1]; exact Int.le_refl 0)
        have her := evU_rg (p := p) (by omega) (mUn p F O D) Xn
        refine ⟨p, mUn p F O D, ⟨hp, z11⟩, (R1.vf vf).1, ⟨hun.1, by have := hk.2.2.1; omega⟩, by omega, p, ⟨hp, z11⟩, by omega, ?_⟩
        have := lr q (plc (pall p F) D q).1 (by omega) (by omega) (Z3 (b + 21)) (Z3 (b + 22)) (fun Z4 vf4 e394 y1 y2 => ih (q + 1) Z4 (by omega) vf4 (by rw [e394, eP]; rfl) (fun s hs t ht => ?_) (fun s hs t ht => ?_)) (mRm p F fr O D) 0 Z3 (by omega) vf e39 (fun s hs t ht => by rw [if_neg (by omega)]) (fun s hs t ht => by rw [if_neg (by omega)])
        · rw [hXn] at this; exact this
        · rw [eP] at ht ⊢
          have ht : t < (plc (pall p F) D q).1 + 1 := ht
          rw [y1 s hs t (by omega)]
          show _ = vpt p F fr O D s (upn (plc (pall p F) D q).2 (plc (pall p F) D q).1 q t)
          unfold upn
          by_cases ct : t = (plc (pall p F) D q).1
          · rw [if_pos ct, if_pos ct]
          · rw [if_neg ct, if_neg ct]; exact w1 s hs t (by omega)
        · rw [eP] at ht ⊢
          have ht : t < (plc (pall p F) D q).1 + 1 := ht
          rw [y2 s hs t (by omega)]
          show _ = vpt p F fr O D s (upn (plc (pall p F) D q).2 (plc (pall p F) D q).1 q t)
          unfold upn
          by_cases ct : t = (plc (pall p F) D q).1
          · rw [if_pos ct, if_pos ct]
          · rw [if_neg ct, if_neg ct]; exact w2 s hs t (by omega)
      · rw [if_neg c1] at eP
        exact b_X12_codes_189 (ih (q + 1) Z3 (by omega) vf (by rw [eP]; exact e39) (fun s hs t ht => by rw [eP] at ht ⊢; exact w1 s hs t ht) (fun s hs t ht => by rw [eP] at ht ⊢; exact w2 s hs t ht))
  exact lq ((pall p F).length - 1) 0 Z2 (by omega) v2 (by rw [e2, up_self]; rfl) (fun s hs t ht => absurd ht (Nat.not_lt_zero t)) (fun s hs t ht => absurd ht (Nat.not_lt_zero t))
