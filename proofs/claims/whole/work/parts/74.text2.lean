theorem dX11_text_0 : decode cX11_text 0 = .ok (.aload_n 0, 1) := by decide +kernel
theorem dX11_text_1 : decode cX11_text 1 = .ok (.getfield 10, 3) := by decide +kernel
theorem dX11_text_4 : decode cX11_text 4 = .ok (.getfield 109, 3) := by decide +kernel
theorem dX11_text_7 : decode cX11_text 7 = .ok (.istore_n 3, 1) := by decide +kernel
theorem dX11_text_8 : decode cX11_text 8 = .ok (.aload_n 0, 1) := by decide +kernel
theorem dX11_text_9 : decode cX11_text 9 = .ok (.getfield 10, 3) := by decide +kernel
theorem dX11_text_12 : decode cX11_text 12 = .ok (.iconst 0, 1) := by decide +kernel
theorem dX11_text_13 : decode cX11_text 13 = .ok (.putfield 109, 3) := by decide +kernel
theorem dX11_text_16 : decode cX11_text 16 = .ok (.aload_n 0, 1) := by decide +kernel
theorem dX11_text_17 : decode cX11_text 17 = .ok (.getfield 10, 3) := by decide +kernel
theorem dX11_text_20 : decode cX11_text 20 = .ok (.iconst 0, 1) := by decide +kernel
theorem dX11_text_21 : decode cX11_text 21 = .ok (.putfield 116, 3) := by decide +kernel
theorem dX11_text_24 : decode cX11_text 24 = .ok (.aload_n 0, 1) := by decide +kernel
theorem dX11_text_25 : decode cX11_text 25 = .ok (.getfield 10, 3) := by decide +kernel
theorem dX11_text_28 : decode cX11_text 28 = .ok (.iconst (-1), 1) := by decide +kernel
theorem dX11_text_29 : decode cX11_text 29 = .ok (.putfield 119, 3) := by decide +kernel
theorem dX11_text_32 : decode cX11_text 32 = .ok (.iload_n 1, 1) := by decide +kernel
theorem dX11_text_33 : decode cX11_text 33 = .ok (.ifCond .lt 8, 3) := by decide +kernel
theorem dX11_text_36 : decode cX11_text 36 = .ok (.iload_n 1, 1) := by decide +kernel
theorem dX11_text_37 : decode cX11_text 37 = .ok (.iconst 3, 1) := by decide +kernel
theorem dX11_text_38 : decode cX11_text 38 = .ok (.if_icmp .lt 6, 3) := by decide +kernel
theorem dX11_text_41 : decode cX11_text 41 = .ok (.bipush (-2), 2) := by decide +kernel
theorem dX11_text_43 : decode cX11_text 43 = .ok (.ireturn, 1) := by decide +kernel
theorem dX11_text_44 : decode cX11_text 44 = .ok (.iload_n 2, 1) := by decide +kernel
theorem dX11_text_45 : decode cX11_text 45 = .ok (.iconst (-1), 1) := by decide +kernel
theorem dX11_text_46 : decode cX11_text 46 = .ok (.if_icmp .ne 7, 3) := by decide +kernel
theorem dX11_text_49 : decode cX11_text 49 = .ok (.iconst 1, 1) := by decide +kernel
theorem dX11_text_50 : decode cX11_text 50 = .ok (.goto 4, 3) := by decide +kernel
theorem dX11_text_53 : decode cX11_text 53 = .ok (.iconst 0, 1) := by decide +kernel
theorem dX11_text_54 : decode cX11_text 54 = .ok (.istore 4, 2) := by decide +kernel
theorem dX11_text_56 : decode cX11_text 56 = .ok (.iload 4, 2) := by decide +kernel
theorem dX11_text_58 : decode cX11_text 58 = .ok (.ifCond .eq 23, 3) := by decide +kernel
theorem dX11_text_61 : decode cX11_text 61 = .ok (.aload_n 0, 1) := by decide +kernel
theorem dX11_text_62 : decode cX11_text 62 = .ok (.getfield 10, 3) := by decide +kernel
theorem dX11_text_65 : decode cX11_text 65 = .ok (.getfield 122, 3) := by decide +kernel
theorem dX11_text_68 : decode cX11_text 68 = .ok (.iload_n 1, 1) := by decide +kernel
theorem dX11_text_69 : decode cX11_text 69 = .ok (.iaload, 1) := by decide +kernel
theorem dX11_text_70 : decode cX11_text 70 = .ok (.getstatic 126, 3) := by decide +kernel
theorem dX11_text_73 : decode cX11_text 73 = .ok (.iload_n 1, 1) := by decide +kernel
theorem dX11_text_74 : decode cX11_text 74 = .ok (.iaload, 1) := by decide +kernel
theorem dX11_text_75 : decode cX11_text 75 = .ok (.if_icmp .lt 21, 3) := by decide +kernel
theorem dX11_text_78 : decode cX11_text 78 = .ok (.goto 15, 3) := by decide +kernel
theorem dX11_text_81 : decode cX11_text 81 = .ok (.aload_n 0, 1) := by decide +kernel
theorem dX11_text_82 : decode cX11_text 82 = .ok (.getfield 10, 3) := by decide +kernel
theorem dX11_text_85 : decode cX11_text 85 = .ok (.iload_n 1, 1) := by decide +kernel
theorem dX11_text_86 : decode cX11_text 86 = .ok (.iload_n 2, 1) := by decide +kernel
theorem dX11_text_87 : decode cX11_text 87 = .ok (.invokevirtual 129, 3) := by decide +kernel
theorem dX11_text_90 : decode cX11_text 90 = .ok (.ifnonnull 6, 3) := by decide +kernel
theorem dX11_text_93 : decode cX11_text 93 = .ok (.bipush (-2), 2) := by decide +kernel
theorem dX11_text_95 : decode cX11_text 95 = .ok (.ireturn, 1) := by decide +kernel
theorem dX11_text_96 : decode cX11_text 96 = .ok (.aload_n 0, 1) := by decide +kernel
theorem dX11_text_97 : decode cX11_text 97 = .ok (.getfield 29, 3) := by decide +kernel
theorem dX11_text_100 : decode cX11_text 100 = .ok (.iload_n 1, 1) := by decide +kernel
theorem dX11_text_101 : decode cX11_text 101 = .ok (.iload_n 3, 1) := by decide +kernel
theorem dX11_text_102 : decode cX11_text 102 = .ok (.invokevirtual 133, 3) := by decide +kernel
theorem dX11_text_105 : decode cX11_text 105 = .ok (.aload_n 0, 1) := by decide +kernel
theorem dX11_text_106 : decode cX11_text 106 = .ok (.getfield 10, 3) := by decide +kernel
theorem dX11_text_109 : decode cX11_text 109 = .ok (.aload_n 0, 1) := by decide +kernel
theorem dX11_text_110 : decode cX11_text 110 = .ok (.getfield 29, 3) := by decide +kernel
theorem dX11_text_113 : decode cX11_text 113 = .ok (.getfield 137, 3) := by decide +kernel
theorem dX11_text_116 : decode cX11_text 116 = .ok (.putfield 116, 3) := by decide +kernel
theorem dX11_text_119 : decode cX11_text 119 = .ok (.aload_n 0, 1) := by decide +kernel
theorem dX11_text_120 : decode cX11_text 120 = .ok (.getfield 10, 3) := by decide +kernel
theorem dX11_text_123 : decode cX11_text 123 = .ok (.aload_n 0, 1) := by decide +kernel
theorem dX11_text_124 : decode cX11_text 124 = .ok (.getfield 29, 3) := by decide +kernel
theorem dX11_text_127 : decode cX11_text 127 = .ok (.getfield 138, 3) := by decide +kernel
theorem dX11_text_130 : decode cX11_text 130 = .ok (.putfield 119, 3) := by decide +kernel
theorem dX11_text_133 : decode cX11_text 133 = .ok (.aload_n 0, 1) := by decide +kernel
theorem dX11_text_134 : decode cX11_text 134 = .ok (.getfield 10, 3) := by decide +kernel
theorem dX11_text_137 : decode cX11_text 137 = .ok (.getfield 116, 3) := by decide +kernel
theorem dX11_text_140 : decode cX11_text 140 = .ok (.ifCond .ne 37, 3) := by decide +kernel
theorem dX11_text_143 : decode cX11_text 143 = .ok (.iload_n 1, 1) := by decide +kernel
theorem dX11_text_144 : decode cX11_text 144 = .ok (.ifCond .ne 33, 3) := by decide +kernel
theorem dX11_text_147 : decode cX11_text 147 = .ok (.aload_n 0, 1) := by decide +kernel
theorem dX11_text_148 : decode cX11_text 148 = .ok (.aload_n 0, 1) := by decide +kernel
theorem dX11_text_149 : decode cX11_text 149 = .ok (.getfield 29, 3) := by decide +kernel
theorem dX11_text_152 : decode cX11_text 152 = .ok (.getfield 139, 3) := by decide +kernel
theorem dX11_text_155 : decode cX11_text 155 = .ok (.invokevirtual 141, 3) := by decide +kernel
theorem dX11_text_158 : decode cX11_text 158 = .ok (.ifCond .ne 19, 3) := by decide +kernel
theorem dX11_text_161 : decode cX11_text 161 = .ok (.aload_n 0, 1) := by decide +kernel
theorem dX11_text_162 : decode cX11_text 162 = .ok (.getfield 10, 3) := by decide +kernel
theorem dX11_text_165 : decode cX11_text 165 = .ok (.iconst 4, 1) := by decide +kernel
theorem dX11_text_166 : decode cX11_text 166 = .ok (.putfield 116, 3) := by decide +kernel
theorem dX11_text_169 : decode cX11_text 169 = .ok (.aload_n 0, 1) := by decide +kernel
theorem dX11_text_170 : decode cX11_text 170 = .ok (.getfield 10, 3) := by decide +kernel
theorem dX11_text_173 : decode cX11_text 173 = .ok (.iload_n 3, 1) := by decide +kernel
theorem dX11_text_174 : decode cX11_text 174 = .ok (.putfield 119, 3) := by decide +kernel
theorem dX11_text_177 : decode cX11_text 177 = .ok (.aload_n 0, 1) := by decide +kernel
theorem dX11_text_178 : decode cX11_text 178 = .ok (.getfield 10, 3) := by decide +kernel
theorem dX11_text_181 : decode cX11_text 181 = .ok (.getfield 116, 3) := by decide +kernel
theorem dX11_text_184 : decode cX11_text 184 = .ok (.ifCond .eq 5, 3) := by decide +kernel
theorem dX11_text_187 : decode cX11_text 187 = .ok (.iconst (-1), 1) := by decide +kernel
theorem dX11_text_188 : decode cX11_text 188 = .ok (.ireturn, 1) := by decide +kernel
theorem dX11_text_189 : decode cX11_text 189 = .ok (.iload 4, 2) := by decide +kernel
theorem dX11_text_191 : decode cX11_text 191 = .ok (.ifCond .eq 15, 3) := by decide +kernel
theorem dX11_text_194 : decode cX11_text 194 = .ok (.aload_n 0, 1) := by decide +kernel
theorem dX11_text_195 : decode cX11_text 195 = .ok (.getfield 10, 3) := by decide +kernel
theorem dX11_text_198 : decode cX11_text 198 = .ok (.getfield 122, 3) := by decide +kernel
theorem dX11_text_201 : decode cX11_text 201 = .ok (.iload_n 1, 1) := by decide +kernel
theorem dX11_text_202 : decode cX11_text 202 = .ok (.iaload, 1) := by decide +kernel
theorem dX11_text_203 : decode cX11_text 203 = .ok (.goto 4, 3) := by decide +kernel
theorem dX11_text_206 : decode cX11_text 206 = .ok (.iload_n 2, 1) := by decide +kernel
theorem dX11_text_207 : decode cX11_text 207 = .ok (.istore 5, 2) := by decide +kernel
theorem dX11_text_209 : decode cX11_text 209 = .ok (.aload_n 0, 1) := by decide +kernel
theorem dX11_text_210 : decode cX11_text 210 = .ok (.getfield 10, 3) := by decide +kernel
theorem dX11_text_213 : decode cX11_text 213 = .ok (.iload_n 1, 1) := by decide +kernel
theorem dX11_text_214 : decode cX11_text 214 = .ok (.iload 5, 2) := by decide +kernel
theorem dX11_text_216 : decode cX11_text 216 = .ok (.aload_n 0, 1) := by decide +kernel
theorem dX11_text_217 : decode cX11_text 217 = .ok (.getfield 29, 3) := by decide +kernel
theorem dX11_text_220 : decode cX11_text 220 = .ok (.getfield 139, 3) := by decide +kernel
theorem dX11_text_223 : decode cX11_text 223 = .ok (.invokevirtual 145, 3) := by decide +kernel
theorem dX11_text_226 : decode cX11_text 226 = .ok (.aload_n 0, 1) := by decide +kernel
theorem dX11_text_227 : decode cX11_text 227 = .ok (.invokevirtual 149, 3) := by decide +kernel
theorem dX11_text_230 : decode cX11_text 230 = .ok (.iload 5, 2) := by decide +kernel
theorem dX11_text_232 : decode cX11_text 232 = .ok (.ireturn, 1) := by decide +kernel
set_option maxRecDepth 20000 in
theorem b_X11_text_0 {k n : Nat} {x : Wx} {Z : Zt} {Q : Option Value → Wx → Zt → Prop} {a0 : Nat} {v1 : Int} {v2 : Int} (o_a0 : Is11 x a0)
    (h : ∀ Z1 : Zt, Z1 = up Z (a0 + 1) 1 0 → (∀ Z2 : Zt, Z2 = up Z1 (a0 + 1) 2 0 → (∀ Z3 : Zt, Z3 = up Z2 (a0 + 1) 3 (-1) → (Rg v1 ∧ (((v1 < 0) → (V mX11_text k n 41 [none, none, none, none, none, none] [] x Z3 Q)) ∧ ((0 ≤ v1) → (((v1 < 3) → (Rg v2 ∧ (((v2 ≠ (-1)) → (V mX11_text k n 54 [some (r_ a0), some (i_ v1), some (i_ v2), some (i_ (Z (a0 + 1) 1)), none, none] [i_ 0] x Z3 Q)) ∧ ((v2 = (-1)) → (V mX11_text k n 54 [some (r_ a0), some (i_ v1), some (i_ v2), some (i_ (Z (a0 + 1) 1)), none, none] [i_ 1] x Z3 Q))))) ∧ ((3 ≤ v1) → (V mX11_text k n 41 [none, none, none, none, none, none] [] x Z3 Q))))))))) :
    V mX11_text k n 0 [some (r_ a0), some (i_ v1), some (i_ v2), none, none, none] [] x Z Q :=
  V_aload_n dX11_text_0 rfl (G_11_0 o_a0.1 o_a0.qR0 lf_11_10 dX11_text_1 (G_10_1 o_a0.qK0.1 lf_11_109 dX11_text_4 (V_istore_n (lv' := [some (r_ a0), some (i_ v1), some (i_ v2), some (i_ (Z (a0 + 1) 1)), none, none]) dX11_text_7 (Nat.le_of_ble_eq_true rfl) rfl (V_aload_n dX11_text_8 rfl (G_11_0 o_a0.1 o_a0.qR0 lf_11_10 dX11_text_9 (V_iconst dX11_text_12 (P_10_1 o_a0.qK0.1 lf_11_109 dX11_text_13 (V_nmZ (fun Z1 eZ1 => V_aload_n dX11_text_16 rfl (G_11_0 o_a0.1 o_a0.qR0 lf_11_10 dX11_text_17 (V_iconst dX11_text_20 (P_10_2 o_a0.qK0.1 lf_11_116 dX11_text_21 (V_nmZ (fun Z2 eZ2 => V_aload_n dX11_text_24 rfl (G_11_0 o_a0.1 o_a0.qR0 lf_11_10 dX11_text_25 (V_iconst dX11_text_28 (P_10_3 o_a0.qK0.1 lf_11_119 dX11_text_29 (V_nmZ (fun Z3 eZ3 => V_iload_n dX11_text_32 rfl (V_if_lt (tgt := 41) dX11_text_33 rfl (((h Z1 eZ1) Z2 eZ2) Z3 eZ3).1 (fun c1 => V_msk [false, false, false, false, false, false] rfl ((((h Z1 eZ1) Z2 eZ2) Z3 eZ3).2.1 c1)) (fun c1 => V_iload_n dX11_text_36 rfl (V_iconst dX11_text_37 (V_icmp_lt (tgt := 44) dX11_text_38 rfl (((h Z1 eZ1) Z2 eZ2) Z3 eZ3).1 (rg_c rfl) (fun c2 => V_iload_n dX11_text_44 rfl (V_iconst dX11_text_45 (V_icmp_ne (tgt := 53) dX11_text_46 rfl (((((h Z1 eZ1) Z2 eZ2) Z3 eZ3).2.2 c1).1 c2).1 (rg_c rfl) (fun c3 => V_iconst dX11_text_53 (V_msk [true, true, true, true, false, false] rfl ((((((h Z1 eZ1) Z2 eZ2) Z3 eZ3).2.2 c1).1 c2).2.1 c3))) (fun c3 => V_iconst dX11_text_49 (V_goto (tgt := 54) dX11_text_50 rfl (V_msk [true, true, true, true, false, false] rfl ((((((h Z1 eZ1) Z2 eZ2) Z3 eZ3).2.2 c1).1 c2).2.2 c3))))))) (fun c2 => V_msk [false, false, false, false, false, false] rfl (((((h Z1 eZ1) Z2 eZ2) Z3 eZ3).2.2 c1).2 c2)))))))))))))))))))))))))
set_option maxRecDepth 20000 in
theorem b_X11_text_41 {k n : Nat} {x : Wx} {Z : Zt} {Q : Option Value → Wx → Zt → Prop}  
    (h : Q (some (i_ (-2))) x Z) :
    V mX11_text k n 41 [none, none, none, none, none, none] [] x Z Q :=
  V_bipush dX11_text_41 rfl (V_iret (ty := .int) dX11_text_43 rfl rfl h)
set_option maxRecDepth 20000 in
theorem b_X11_text_54 {k n : Nat} {x : Wx} {Z : Zt} {Q : Option Value → Wx → Zt → Prop} {a0 : Nat} {v1 : Int} {v2 : Int} {v3 : Int} {t0 : Int} (o_a0 : Is11 x a0) (s_x_2_2_2_0 : x.1 (x.2.2.2 0) = some (200, 3))
    (h : Rg t0 ∧ (((t0 = 0) → (KS x ∧ KW x Z ∧ (0 ≤ v1 ∧ v1 < 3) ∧ Rg v2 ∧ (0 ≤ Z ((a0 + 1) + 2) (Int.toNat v1) ∧ Z ((a0 + 1) + 2) (Int.toNat v1) ≤ mstr v1) ∧ (((rowQ (a0 + 1) v1 v2 (Z ((a0 + 1) + 2) (Int.toNat v1)) = none → (V mX11_text k n 93 [none, none, none, none, none, none] [] x Z Q)) ∧ (∀ b1, rowQ (a0 + 1) v1 v2 (Z ((a0 + 1) + 2) (Int.toNat v1)) = some b1 → (x.1 b1 = some (100, 26) ∧ (V mX11_text k n 96 [some (r_ a0), some (i_ v1), some (i_ v2), some (i_ v3), some (i_ t0), none] [] x Z Q))))))) ∧ ((t0 ≠ 0) → (0 ≤ v1 ∧ v1 < 3 ∧ (Rg (Z (a0 + 3) v1.toNat) ∧ Rg (Z (x.2.2.2 0) v1.toNat) ∧ (((Z (a0 + 3) v1.toNat < Z (x.2.2.2 0) v1.toNat) → (V mX11_text k n 96 [some (r_ a0), some (i_ v1), some (i_ v2), some (i_ v3), some (i_ t0), none] [] x Z Q)) ∧ ((Z (x.2.2.2 0) v1.toNat ≤ Z (a0 + 3) v1.toNat) → (V mX11_text k n 93 [none, none, none, none, none, none] [] x Z Q)))))))) :
    V mX11_text k n 54 [some (r_ a0), some (i_ v1), some (i_ v2), some (i_ v3), none, none] [i_ t0] x Z Q :=
  V_istore (lv' := [some (r_ a0), some (i_ v1), some (i_ v2), some (i_ v3), some (i_ t0), none]) dX11_text_54 (Nat.le_of_ble_eq_true rfl) rfl (V_iload dX11_text_56 rfl (V_if_eq (tgt := 81) dX11_text_58 rfl h.1 (fun c1 => V_aload_n dX11_text_81 rfl (G_11_0 o_a0.1 o_a0.qR0 lf_11_10 dX11_text_82 (V_iload_n dX11_text_85 rfl (V_iload_n dX11_text_86 rfl (V_callV (k' := 0) (n' := 0) (t := 10) (q := (RX10, TX10, 6)) [i_ v1, i_ v2] [] okX10_row o_a0.qK0.1 rfl rfl lm_11_129 liX10_row lqX10_row (Nat.le_of_ble_eq_true rfl) (Nat.le_of_ble_eq_true rfl) (Nat.le_of_ble_eq_true rfl) (cat_of rfl) (Nat.le_of_ble_eq_true rfl) (Nat.zero_le _) (Nat.zero_le _) rfl dX11_text_87 (sp_X10_row2 o_a0.qK0 (h.2.1 c1).1 (h.2.1 c1).2.1 (h.2.1 c1).2.2.1 (h.2.1 c1).2.2.2.1 (h.2.1 c1).2.2.2.2.1 (V_q (fun c2 => V_ifnonnull_n dX11_text_90 (V_msk [false, false, false, false, false, false] rfl ((h.2.1 c1).2.2.2.2.2.1 c2))) (fun b1 c3 => have s1 := ((h.2.1 c1).2.2.2.2.2.2 b1 c3).1; V_ifnonnull_r (tgt := 96) dX11_text_90 rfl (V_msk [true, true, true, true, true, false] rfl ((h.2.1 c1).2.2.2.2.2.2 b1 c3).2))))))))) (fun c1 => V_aload_n dX11_text_61 rfl (G_11_0 o_a0.1 o_a0.qR0 lf_11_10 dX11_text_62 (G_10_4 o_a0.qK0.1 o_a0.qK0.2.2.2.1 lf_11_122 dX11_text_65 (V_iload_n dX11_text_68 rfl (V_iald (t := 100) o_a0.qK0.2.2.2.2.1 (by decide) rfl (h.2.2 c1).1 (h.2.2 c1).2.1 (Nat.le_of_ble_eq_true rfl) dX11_text_69 (V_gets (j := (0, "MOST_OF_SORT")) (by decide) lf_11_126 dX11_text_70 (V_iload_n dX11_text_73 rfl (V_iald (t := 200) s_x_2_2_2_0 (by decide) rfl (h.2.2 c1).1 (h.2.2 c1).2.1 (Nat.le_of_ble_eq_true rfl) dX11_text_74 (V_icmp_lt (tgt := 96) dX11_text_75 rfl (h.2.2 c1).2.2.1 (h.2.2 c1).2.2.2.1 (fun c4 => V_msk [true, true, true, true, true, false] rfl ((h.2.2 c1).2.2.2.2.1 c4)) (fun c4 => V_goto (tgt := 93) dX11_text_78 rfl (V_msk [false, false, false, false, false, false] rfl ((h.2.2 c1).2.2.2.2.2 c4))))))))))))))
set_option maxRecDepth 20000 in
theorem b_X11_text_93 {k n : Nat} {x : Wx} {Z : Zt} {Q : Option Value → Wx → Zt → Prop}  
    (h : Q (some (i_ (-2))) x Z) :
    V mX11_text k n 93 [none, none, none, none, none, none] [] x Z Q :=
  V_bipush dX11_text_93 rfl (V_iret (ty := .int) dX11_text_95 rfl rfl h)
set_option maxRecDepth 20000 in
theorem b_X11_text_96 {k n : Nat} {x : Wx} {Z : Zt} {Q : Option Value → Wx → Zt → Prop} {a0 : Nat} {v1 : Int} {v2 : Int} {v3 : Int} {v4 : Int} (r_a0_14_3 : x.2.1 (a0 + 14) 3 = some (a0 + 2)) (o_a0 : Is11 x a0) (s_a0_2 : x.1 (a0 + 2) = some (101, 600))
    (h : KS x ∧ KW x Z ∧ KT x ∧ KU x Z ∧ BR (Z (a0 + 2)) ∧ Rg v1 ∧ (0 ≤ v3 ∧ v3 ≤ 600) ∧ (∀ Z1 : Zt, Z1 = setS Z (a0 + 14) (rdS (Z (a0 + 2)) v1 v3 (Z (a0 + 14), Z ((a0 + 14) + 1))) → (∀ Z2 : Zt, Z2 = up Z1 (a0 + 1) 2 (Z1 (a0 + 14) 1) → (∀ Z3 : Zt, Z3 = up Z2 (a0 + 1) 3 (Z2 (a0 + 14) 2) → (Rg (Z3 (a0 + 1) 2) ∧ (((Z3 (a0 + 1) 2 ≠ 0) → (V mX11_text k n 177 [some (r_ a0), some (i_ v1), some (i_ v2), none, some (i_ v4), none] [] x Z3 Q)) ∧ ((Z3 (a0 + 1) 2 = 0) → (((v1 ≠ 0) → (V mX11_text k n 177 [some (r_ a0), some (i_ v1), some (i_ v2), none, some (i_ v4), none] [] x Z3 Q)) ∧ ((v1 = 0) → ((a0 + 15) < a0 + 16 ∧ RV 0 (Z3 (a0 + 15)) ∧ (∀ i : Nat, i < 26 → Rg (Z3 (a0 + 15) i)) ∧ (∀ (Z'1 : Zt), (Oth Z3 Z'1 (fun q => a0 + 16 ≤ q ∧ q < a0 + 40)) → (Rg (bI (sndB (Z3 (a0 + 15)))) ∧ (((bI (sndB (Z3 (a0 + 15))) ≠ 0) → (V mX11_text k n 177 [some (r_ a0), some (i_ v1), some (i_ v2), none, some (i_ v4), none] [] x Z'1 Q)) ∧ ((bI (sndB (Z3 (a0 + 15))) = 0) → (∀ Z4 : Zt, Z4 = up Z'1 (a0 + 1) 2 4 → (∀ Z5 : Zt, Z5 = up Z4 (a0 + 1) 3 v3 → (V mX11_text k n 177 [some (r_ a0), some (i_ v1), some (i_ v2), none, some (i_ v4), none] [] x Z5 Q))))))))))))))))) :
    V mX11_text k n 96 [some (r_ a0), some (i_ v1), some (i_ v2), some (i_ v3), some (i_ v4), none] [] x Z Q :=
  V_aload_n dX11_text_96 rfl (G_11_2 o_a0.1 o_a0.qR2 lf_11_29 dX11_text_97 (V_iload_n dX11_text_100 rfl (V_iload_n dX11_text_101 rfl (V_callV (k' := 0) (n' := 0) (t := 8) (q := (RX8, TX8, 8)) [i_ v1, i_ v3] [] okX8_read o_a0.qK2.1 rfl rfl lm_11_133 liX8_read lqX8_read (Nat.le_of_ble_eq_true rfl) (Nat.le_of_ble_eq_true rfl) (Nat.le_of_ble_eq_true rfl) (cat_of rfl) (Nat.le_of_ble_eq_true rfl) (Nat.zero_le _) (Nat.zero_le _) rfl dX11_text_102 (sp_X8_read o_a0.qK2 r_a0_14_3 s_a0_2 h.1 h.2.1 h.2.2.1 h.2.2.2.1 h.2.2.2.2.1 h.2.2.2.2.2.1 h.2.2.2.2.2.2.1 (V_nmZ (fun Z1 eZ1 => V_aload_n dX11_text_105 rfl (G_11_0 o_a0.1 o_a0.qR0 lf_11_10 dX11_text_106 (V_aload_n dX11_text_109 rfl (G_11_2 o_a0.1 o_a0.qR2 lf_11_29 dX11_text_110 (G_8_1 o_a0.qK2.1 lf_11_137 dX11_text_113 (P_10_2 o_a0.qK0.1 lf_11_116 dX11_text_116 (V_nmZ (fun Z2 eZ2 => V_aload_n dX11_text_119 rfl (G_11_0 o_a0.1 o_a0.qR0 lf_11_10 dX11_text_120 (V_aload_n dX11_text_123 rfl (G_11_2 o_a0.1 o_a0.qR2 lf_11_29 dX11_text_124 (G_8_2 o_a0.qK2.1 lf_11_138 dX11_text_127 (P_10_3 o_a0.qK0.1 lf_11_119 dX11_text_130 (V_nmZ (fun Z3 eZ3 => V_aload_n dX11_text_133 rfl (G_11_0 o_a0.1 o_a0.qR0 lf_11_10 dX11_text_134 (G_10_2 o_a0.qK0.1 lf_11_116 dX11_text_137 (V_if_ne (tgt := 177) dX11_text_140 rfl (((h.2.2.2.2.2.2.2 Z1 eZ1) Z2 eZ2) Z3 eZ3).1 (fun c1 => V_msk [true, true, true, false, true, false] rfl ((((h.2.2.2.2.2.2.2 Z1 eZ1) Z2 eZ2) Z3 eZ3).2.1 c1)) (fun c1 => V_iload_n dX11_text_143 rfl (V_if_ne (tgt := 177) dX11_text_144 rfl h.2.2.2.2.2.1 (fun c2 => V_msk [true, true, true, false, true, false] rfl (((((h.2.2.2.2.2.2.2 Z1 eZ1) Z2 eZ2) Z3 eZ3).2.2 c1).1 c2)) (fun c2 => V_aload_n dX11_text_147 rfl (V_aload_n dX11_text_148 rfl (G_11_2 o_a0.1 o_a0.qR2 lf_11_29 dX11_text_149 (G_8_0 o_a0.qK2.1 o_a0.qK2.2.1 lf_11_139 dX11_text_152 (V_callV (k' := 0) (n' := 0) (t := 11) (q := (RX11, TX11, 17)) [r_ (a0 + 15)] [] okX11_isSound o_a0.1 rfl rfl lm_11_141 liX11_isSound lqX11_isSound (Nat.le_of_ble_eq_true rfl) (Nat.le_of_ble_eq_true rfl) (Nat.le_of_ble_eq_true rfl) (cat_of rfl) (Nat.le_of_ble_eq_true rfl) (Nat.zero_le _) (Nat.zero_le _) rfl dX11_text_155 (sp_X11_isSound o_a0 o_a0.qK2.2.2 (((((h.2.2.2.2.2.2.2 Z1 eZ1) Z2 eZ2) Z3 eZ3).2.2 c1).2 c2).1 (((((h.2.2.2.2.2.2.2 Z1 eZ1) Z2 eZ2) Z3 eZ3).2.2 c1).2 c2).2.1 (((((h.2.2.2.2.2.2.2 Z1 eZ1) Z2 eZ2) Z3 eZ3).2.2 c1).2 c2).2.2.1 (fun Z'1 p1 => V_if_ne (tgt := 177) dX11_text_158 rfl ((((((h.2.2.2.2.2.2.2 Z1 eZ1) Z2 eZ2) Z3 eZ3).2.2 c1).2 c2).2.2.2 Z'1 p1).1 (fun c3 => V_msk [true, true, true, false, true, false] rfl (((((((h.2.2.2.2.2.2.2 Z1 eZ1) Z2 eZ2) Z3 eZ3).2.2 c1).2 c2).2.2.2 Z'1 p1).2.1 c3)) (fun c3 => V_aload_n dX11_text_161 rfl (G_11_0 o_a0.1 o_a0.qR0 lf_11_10 dX11_text_162 (V_iconst dX11_text_165 (P_10_2 o_a0.qK0.1 lf_11_116 dX11_text_166 (V_nmZ (fun Z4 eZ4 => V_aload_n dX11_text_169 rfl (G_11_0 o_a0.1 o_a0.qR0 lf_11_10 dX11_text_170 (V_iload_n dX11_text_173 rfl (P_10_3 o_a0.qK0.1 lf_11_119 dX11_text_174 (V_nmZ (fun Z5 eZ5 => V_msk [true, true, true, false, true, false] rfl (((((((((h.2.2.2.2.2.2.2 Z1 eZ1) Z2 eZ2) Z3 eZ3).2.2 c1).2 c2).2.2.2 Z'1 p1).2.2 c3) Z4 eZ4) Z5 eZ5)))))))))))))))))))))))))))))))))))))))))))))
set_option maxRecDepth 20000 in
theorem b_X11_text_177 {k n : Nat} {x : Wx} {Z : Zt} {Q : Option Value → Wx → Zt → Prop} {a0 : Nat} {v1 : Int} {v2 : Int} {v4 : Int} (o_a0 : Is11 x a0)
    (h : Rg (Z (a0 + 1) 2) ∧ (((Z (a0 + 1) 2 = 0) → (Rg v4 ∧ (((v4 = 0) → (V mX11_text k n 207 [some (r_ a0), some (i_ v1), none, none, none, none] [i_ v2] x Z Q)) ∧ ((v4 ≠ 0) → (0 ≤ v1 ∧ v1 < 3 ∧ (V mX11_text k n 207 [some (r_ a0), some (i_ v1), none, none, none, none] [i_ (Z (a0 + 3) v1.toNat)] x Z Q)))))) ∧ ((Z (a0 + 1) 2 ≠ 0) → (Q (some (i_ (-1))) x Z)))) :
    V mX11_text k n 177 [some (r_ a0), some (i_ v1), some (i_ v2), none, some (i_ v4), none] [] x Z Q :=
  V_aload_n dX11_text_177 rfl (G_11_0 o_a0.1 o_a0.qR0 lf_11_10 dX11_text_178 (G_10_2 o_a0.qK0.1 lf_11_116 dX11_text_181 (V_if_eq (tgt := 189) dX11_text_184 rfl h.1 (fun c1 => V_iload dX11_text_189 rfl (V_if_eq (tgt := 206) dX11_text_191 rfl (h.2.1 c1).1 (fun c2 => V_iload_n dX11_text_206 rfl (V_msk [true, true, false, false, false, false] rfl ((h.2.1 c1).2.1 c2))) (fun c2 => V_aload_n dX11_text_194 rfl (G_11_0 o_a0.1 o_a0.qR0 lf_11_10 dX11_text_195 (G_10_4 o_a0.qK0.1 o_a0.qK0.2.2.2.1 lf_11_122 dX11_text_198 (V_iload_n dX11_text_201 rfl (V_iald (t := 100) o_a0.qK0.2.2.2.2.1 (by decide) rfl ((h.2.1 c1).2.2 c2).1 ((h.2.1 c1).2.2 c2).2.1 (Nat.le_of_ble_eq_true rfl) dX11_text_202 (V_goto (tgt := 207) dX11_text_203 rfl (V_msk [true, true, false, false, false, false] rfl ((h.2.1 c1).2.2 c2).2.2))))))))) (fun c1 => V_iconst dX11_text_187 (V_iret (ty := .int) dX11_text_188 rfl rfl (h.2.2 c1))))))
set_option maxRecDepth 20000 in
theorem b_X11_text_207 {k n : Nat} {x : Wx} {Z : Zt} {Q : Option Value → Wx → Zt → Prop} {a0 : Nat} {v1 : Int} {t0 : Int} (o_a0 : Is11 x a0)
    (h : KS x ∧ (x.1 (a0 + 15) = some (100, 26)) ∧ KW x Z ∧ (0 ≤ v1 ∧ v1 < 3) ∧ (0 ≤ t0 ∧ t0 < mstr v1) ∧ (0 ≤ Z ((a0 + 1) + 2) (Int.toNat v1) ∧ Z ((a0 + 1) + 2) (Int.toNat v1) ≤ mstr v1) ∧ (∀ Z1 : Zt, Z1 = tlZ Z (a0 + 1) (a0 + 15) v1 t0 → (∀ Z2 : Zt, Z2 = fgt Z1 a0 → (Q (some (i_ t0)) x Z2)))) :
    V mX11_text k n 207 [some (r_ a0), some (i_ v1), none, none, none, none] [i_ t0] x Z Q :=
  V_istore (lv' := [some (r_ a0), some (i_ v1), none, none, none, some (i_ t0)]) dX11_text_207 (Nat.le_of_ble_eq_true rfl) rfl (V_aload_n dX11_text_209 rfl (G_11_0 o_a0.1 o_a0.qR0 lf_11_10 dX11_text_210 (V_iload_n dX11_text_213 rfl (V_iload dX11_text_214 rfl (V_aload_n dX11_text_216 rfl (G_11_2 o_a0.1 o_a0.qR2 lf_11_29 dX11_text_217 (G_8_0 o_a0.qK2.1 o_a0.qK2.2.1 lf_11_139 dX11_text_220 (V_callV (k' := 0) (n' := 0) (t := 10) (q := (RX10, TX10, 6)) [i_ v1, i_ t0, r_ (a0 + 15)] [] okX10_tell o_a0.qK0.1 rfl rfl lm_11_145 liX10_tell lqX10_tell (Nat.le_of_ble_eq_true rfl) (Nat.le_of_ble_eq_true rfl) (Nat.le_of_ble_eq_true rfl) (cat_of rfl) (Nat.le_of_ble_eq_true rfl) (Nat.zero_le _) (Nat.zero_le _) rfl dX11_text_223 (sp_X10_tell o_a0.qK0 h.1 h.2.1 h.2.2.1 h.2.2.2.1 h.2.2.2.2.1 h.2.2.2.2.2.1 (V_nmZ (fun Z1 eZ1 => V_aload_n dX11_text_226 rfl (V_callV (k' := 0) (n' := 0) (t := 11) (q := (RX11, TX11, 17)) [] [] okX11_forget o_a0.1 rfl rfl lm_11_149 liX11_forget lqX11_forget (Nat.le_of_ble_eq_true rfl) (Nat.le_of_ble_eq_true rfl) (Nat.le_of_ble_eq_true rfl) (cat_of rfl) (Nat.le_of_ble_eq_true rfl) (Nat.zero_le _) (Nat.zero_le _) rfl dX11_text_227 (sp_X11_forget o_a0  (V_nmZ (fun Z2 eZ2 => V_iload dX11_text_230 rfl (V_iret (ty := .int) dX11_text_232 rfl rfl ((h.2.2.2.2.2.2 Z1 eZ1) Z2 eZ2)))))))))))))))))
theorem sndB_crv {r : Nat → Int} (h : RV 0 r) (hs : sndB r = true) : CrvR r := by
  unfold RV at h
  rw [if_pos rfl] at h
  obtain ⟨hp, hd, hc, hz, h8⟩ := h
  have hs' := of_decide_eq_true hs
  refine ⟨hp, hd, fun i hi => ⟨(hc (2 + i) (by omega) (by omega)).1, hs'.2.1 i (by omega)⟩, hs'.1, fun i hi h2 => ?_, hs'.2.2⟩
  by_cases c : 8 ≤ i
  · exact h8 i c hi
  · have := hz (by omega)
    have hc6 : i = 6 ∨ i = 7 := by omega
    rcases hc6 with rfl | rfl
    · exact this.1
    · exact this.2
theorem crvF_ext {r r' : Nat → Int} (h : ∀ i : Nat, i < 26 → r i = r' i) (h1 : r 1 ≤ 9) : crvF r = crvF r' := by
  unfold crvF
  rw [← h 0 (by decide), ← h 1 (by decide)]
  exact ptak_ext h (by omega)
theorem CrvR.ext {r r' : Nat → Int} (h : CrvR r) (he : ∀ i : Nat, i < 26 → r i = r' i) : CrvR r' := by
  obtain ⟨hp, hd, hc, hl, hz, hg⟩ := h
  have hf := crvF_ext he (by omega)
  refine ⟨by rw [← he 0 (by decide)]; exact hp, by rw [← he 1 (by decide)]; exact hd, fun i hi => ?_, ?_, fun i hi h2 => ?_, ?_⟩
  · rw [← he 1 (by decide)] at hi
    rw [← he (2 + i) (by omega), ← he 0 (by decide)]; exact hc i hi
  · rw [← he 1 (by decide), ← he _ (by omega)]; exact hl
  · rw [← he 1 (by decide)] at h2
    rw [← he i hi]; exact hz i hi h2
  · rw [← he 0 (by decide), ← hf]; exact hg
theorem SumR.ext {r r' : Nat → Int} (h : SumR r) (he : ∀ i : Nat, i < 26 → r i = r' i) : SumR r' := by
  refine ⟨by rw [← he 0 (by decide)]; exact h.1, by rw [← he 1 (by decide)]; exact h.2.1, fun i hi => ?_⟩
  have := h.2.2 i hi
  unfold eX eY eO at this ⊢
  rw [← he _ (by omega), ← he _ (by omega), ← he _ (by omega)]; exact this
theorem SumR.rg {r : Nat → Int} (h : SumR r) : ∀ i : Nat, i < 26 → Rg (r i) := fun i hi => by
  by_cases c0 : i = 0
  · rw [c0]; have := h.1; exact ⟨by omega, by omega⟩
  · by_cases c1 : i = 1
    · rw [c1]; have := h.2.1; exact ⟨by omega, by omega⟩
    · have := h.2.2 ((i - 2) / 3) (by omega)
      unfold eX eY eO at this
      have hm : (i - 2) % 3 = 0 ∨ (i - 2) % 3 = 1 ∨ (i - 2) % 3 = 2 := by omega
      rcases hm with e | e | e
      · rw [show i = 2 + 3 * ((i - 2) / 3) by omega]; exact ⟨by omega, by omega⟩
      · rw [show i = 2 + 3 * ((i - 2) / 3) + 1 by omega]; exact ⟨by omega, by omega⟩
      · rw [show i = 2 + 3 * ((i - 2) / 3) + 2 by omega]; exact ⟨by omega, by omega⟩
def txOk (T : Td) (t e : Int) : Prop := (0 ≤ t ∧ t < 3) ∧ ((e = -1 ∧ T.ct t.toNat < mstr t) ∨ (e ≠ -1 ∧ 0 ≤ e ∧ e < T.ct t.toNat))
theorem txOk_d (T : Td) (t e : Int) : txOk T t e ∨ ¬ txOk T t e := Classical.em _
def txQ (T : Td) (t : Int) (f r : Nat → Int) : Rq := rdS T.tp t T.ln (f, r)
def txF (T : Td) (t : Int) (f r : Nat → Int) : Int × Int := if (txQ T t f r).1 1 = 0 ∧ t = 0 ∧ sndB (txQ T t f r).2 = false then (4, T.ln) else ((txQ T t f r).1 1, (txQ T t f r).1 2)
def txN (T : Td) (t e : Int) : Int := if e = -1 then T.ct t.toNat else e
/-- told: row R as number m of the sort t -/
def tlT (T : Td) (t m pl : Int) (R : Nat → Int) : Td := (T.tp, 0, 0, pl, fun s => if s = t.toNat ∧ m = T.ct t.toNat then m + 1 else T.ct s, fun rr i => if rr = (fstr t + m).toNat ∧ i < 26 then R i else T.rw rr i)
def TxR (T : Td) (t e : Int) (f r : Nat → Int) (ans : Int) (T' : Td) : Prop := (¬ txOk T t e ∧ ans = -2 ∧ T' = (T.tp, 0, 0, -1, T.ct, T.rw)) ∨ (txOk T t e ∧ (txF T t f r).1 ≠ 0 ∧ ans = -1 ∧ T' = (T.tp, 0, (txF T t f r).1, (txF T t f r).2, T.ct, T.rw)) ∨ (txOk T t e ∧ (txF T t f r).1 = 0 ∧ ans = txN T t e ∧ T' = tlT T t (txN T t e) (txF T t f r).2 (txQ T t f r).2)
theorem OI.tls {x : Wx} {Z Z' : Zt} {a : Nat} {S : Ab} (h : OI x Z a S) {T : Td} (hT : T.ct = S.nw.ct ∧ T.rw = S.nw.rw) (hV : TdV T) (hc : TdC Z' (a + 1) T) (h0 : ∀ b, ¬ (a + 1 ≤ b ∧ b < a + 40) → Z' b = Z b) (h13 : Z' (a + 13) = Z (a + 13)) : OI x Z' a (T, S.im) ∧ Fx a x x Z Z' := by
  have hs := h.scr (Z' := fun b => if a + 1 ≤ b ∧ b < a + 14 then Z b else Z' b) (fun b hb _ _ => by
    by_cases c : a + 1 ≤ b ∧ b < a + 14
    · rw [if_pos c]
    · rw [if_neg c]; exact h0 b (fun e => hb (by unfold Scr; omega))) (fun i _ => by rw [if_neg (by omega), h0 _ (by omega)]) (fun i _ _ => by rw [if_neg (by omega), h0 _ (by omega)])
  have ht := hs.1.tld (Z' := Z') hT hV hc (fun b hb => by
    by_cases c : b = a + 13
    · rw [if_pos (by omega), c]; exact h13
    · rw [if_neg (by omega)])
  exact ⟨ht.1, hs.2.tr ht.2⟩
theorem tl_V {T : Td} (hV : TdV T) {t m pl : Int} (ht : 0 ≤ t ∧ t < 3) (hm : 0 ≤ m ∧ m < mstr t ∧ m ≤ T.ct t.toNat) (hpl : -1 ≤ pl ∧ pl ≤ 600) {R : Nat → Int} (hR : if t = 0 then CrvR R else if t = 1 then SumR R else FunR R) : TdV (tlT T t m pl R) := by
  obtain ⟨⟨v1, v2, v3⟩, v4, v5, v6, v7, v8, v9, v10, v11, v12⟩ := hV
  have hc : t = 0 ∨ t = 1 ∨ t = 2 := by omega
  have hrw : ∀ rr i : Nat, (tlT T t m pl R).rw rr i = if rr = (fstr t + m).toNat ∧ i < 26 then R i else T.rw rr i := fun _ _ => rfl
  have hnew : ∀ i : Nat, i < 26 → R i = (tlT T t m pl R).rw (fstr t + m).toNat i := fun i hi => by rw [hrw, if_pos ⟨rfl, hi⟩]
  have hold : ∀ rr : Nat, rr ≠ (fstr t + m).toNat → (tlT T t m pl R).rw rr = T.rw rr := fun rr hr => funext fun i => by rw [hrw, if_neg (fun e => hr e.1)]
  have hct : ∀ s : Nat, (tlT T t m pl R).ct s = if s = t.toNat ∧ m = T.ct t.toNat then m + 1 else T.ct s := fun _ => rfl
  refine ⟨⟨v1, v2, fun rr i h1 h2 => ?_⟩, ⟨by show (0 : Int) ≤ 0; decide, by show (0 : Int) ≤ 600; decide⟩, ⟨by show (0 : Int) ≤ 0; decide, by show (0 : Int) ≤ 4; decide⟩, hpl, ?_⟩
  · rw [hrw, if_neg (by omega)]; exact v3 rr i h1 h2
  · rw [hct 0, hct 1, hct 2]
    rcases hc with e | e | e
    · subst e
      rw [if_pos rfl] at hR
      have hf : (fstr 0 + m).toNat = m.toNat := by show (0 + m).toNat = m.toNat; omega
      have hms : mstr 0 = 2 := rfl
      rw [hf] at hnew hold
      have t0 : (0 : Int).toNat = 0 := rfl
      rw [t0] at hm ⊢
      rw [if_neg (show ¬ (1 = 0 ∧ m = T.ct 0) from fun e => absurd e.1 (by decide)), if_neg (show ¬ (2 = 0 ∧ m = T.ct 0) from fun e => absurd e.1 (by decide))]
      refine ⟨?_, v8, v9, fun k hk => ?_, fun k hk => ?_, fun k hk => ?_⟩
      · split <;> omega
      · by_cases ck : k = m.toNat
        · rw [ck]; exact hR.ext hnew
        · rw [hold k ck]
          refine v10 k ?_
          split at hk <;> omega
      · rw [hold (2 + k) (by omega)]; exact v11 k hk
      · rw [hold (5 + k) (by omega)]; exact v12 k hk
    · subst e
      rw [if_neg (by decide), if_pos rfl] at hR
      have hf : (fstr 1 + m).toNat = 2 + m.toNat := by show (2 + m).toNat = 2 + m.toNat; omega
      have hms : mstr 1 = 3 := rfl
      rw [hf] at hnew hold
      have t0 : (1 : Int).toNat = 1 := rfl
      rw [t0] at hm ⊢
      rw [if_neg (show ¬ (0 = 1 ∧ m = T.ct 1) from fun e => absurd e.1 (by decide)), if_neg (show ¬ (2 = 1 ∧ m = T.ct 1) from fun e => absurd e.1 (by decide))]
      refine ⟨v7, ?_, v9, fun k hk => ?_, fun k hk => ?_, fun k hk => ?_⟩
      · split <;> omega
      · rw [hold k (by omega)]; exact v10 k hk
      · by_cases ck : k = m.toNat
        · rw [ck]; exact ⟨hR.ext hnew, (hR.ext hnew).rg⟩
        · rw [hold (2 + k) (by omega)]
          refine v11 k ?_
          split at hk <;> omega
      · rw [hold (5 + k) (by omega)]; exact v12 k hk
    · subst e
      rw [if_neg (by decide), if_neg (by decide)] at hR
      have hf : (fstr 2 + m).toNat = 5 + m.toNat := by show (5 + m).toNat = 5 + m.toNat; omega
      have hms : mstr 2 = 3 := rfl
      rw [hf] at hnew hold
      have t0 : (2 : Int).toNat = 2 := rfl
      rw [t0] at hm ⊢
      rw [if_neg (show ¬ (0 = 2 ∧ m = T.ct 2) from fun e => absurd e.1 (by decide)), if_neg (show ¬ (1 = 2 ∧ m = T.ct 2) from fun e => absurd e.1 (by decide))]
      refine ⟨v7, v8, ?_, fun k hk => ?_, fun k hk => ?_, fun k hk => ?_⟩
      · split <;> omega
      · rw [hold k (by omega)]; exact v10 k hk
      · rw [hold (2 + k) (by omega)]; exact v11 k hk
      · by_cases ck : k = m.toNat
        · rw [ck]; intro i hi; rw [← hnew i hi]; exact hR i hi
        · rw [hold (5 + k) (by omega)]
          refine v12 k ?_
          split at hk <;> omega
