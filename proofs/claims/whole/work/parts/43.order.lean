theorem dX5_orderAt_0 : decode cX5_orderAt 0 = .ok (.aload_n 1, 1) := by decide +kernel
theorem dX5_orderAt_1 : decode cX5_orderAt 1 = .ok (.iload_n 2, 1) := by decide +kernel
theorem dX5_orderAt_2 : decode cX5_orderAt 2 = .ok (.invokevirtual 55, 3) := by decide +kernel
theorem dX5_orderAt_5 : decode cX5_orderAt 5 = .ok (.ifCond .eq 69, 3) := by decide +kernel
theorem dX5_orderAt_8 : decode cX5_orderAt 8 = .ok (.aload_n 0, 1) := by decide +kernel
theorem dX5_orderAt_9 : decode cX5_orderAt 9 = .ok (.getfield 18, 3) := by decide +kernel
theorem dX5_orderAt_12 : decode cX5_orderAt 12 = .ok (.getfield 59, 3) := by decide +kernel
theorem dX5_orderAt_15 : decode cX5_orderAt 15 = .ok (.ifCond .ge 7, 3) := by decide +kernel
theorem dX5_orderAt_18 : decode cX5_orderAt 18 = .ok (.iconst 0, 1) := by decide +kernel
theorem dX5_orderAt_19 : decode cX5_orderAt 19 = .ok (.goto 12, 3) := by decide +kernel
theorem dX5_orderAt_22 : decode cX5_orderAt 22 = .ok (.iconst 2, 1) := by decide +kernel
theorem dX5_orderAt_23 : decode cX5_orderAt 23 = .ok (.aload_n 0, 1) := by decide +kernel
theorem dX5_orderAt_24 : decode cX5_orderAt 24 = .ok (.getfield 18, 3) := by decide +kernel
theorem dX5_orderAt_27 : decode cX5_orderAt 27 = .ok (.getfield 59, 3) := by decide +kernel
theorem dX5_orderAt_30 : decode cX5_orderAt 30 = .ok (.imul, 1) := by decide +kernel
theorem dX5_orderAt_31 : decode cX5_orderAt 31 = .ok (.istore_n 3, 1) := by decide +kernel
theorem dX5_orderAt_32 : decode cX5_orderAt 32 = .ok (.aload_n 0, 1) := by decide +kernel
theorem dX5_orderAt_33 : decode cX5_orderAt 33 = .ok (.getfield 21, 3) := by decide +kernel
theorem dX5_orderAt_36 : decode cX5_orderAt 36 = .ok (.getfield 59, 3) := by decide +kernel
theorem dX5_orderAt_39 : decode cX5_orderAt 39 = .ok (.ifCond .ge 7, 3) := by decide +kernel
theorem dX5_orderAt_42 : decode cX5_orderAt 42 = .ok (.iconst 0, 1) := by decide +kernel
theorem dX5_orderAt_43 : decode cX5_orderAt 43 = .ok (.goto 21, 3) := by decide +kernel
theorem dX5_orderAt_46 : decode cX5_orderAt 46 = .ok (.iconst 2, 1) := by decide +kernel
theorem dX5_orderAt_47 : decode cX5_orderAt 47 = .ok (.aload_n 0, 1) := by decide +kernel
theorem dX5_orderAt_48 : decode cX5_orderAt 48 = .ok (.getfield 21, 3) := by decide +kernel
theorem dX5_orderAt_51 : decode cX5_orderAt 51 = .ok (.getfield 59, 3) := by decide +kernel
theorem dX5_orderAt_54 : decode cX5_orderAt 54 = .ok (.imul, 1) := by decide +kernel
theorem dX5_orderAt_55 : decode cX5_orderAt 55 = .ok (.iconst 2, 1) := by decide +kernel
theorem dX5_orderAt_56 : decode cX5_orderAt 56 = .ok (.aload_n 1, 1) := by decide +kernel
theorem dX5_orderAt_57 : decode cX5_orderAt 57 = .ok (.getfield 63, 3) := by decide +kernel
theorem dX5_orderAt_60 : decode cX5_orderAt 60 = .ok (.imul, 1) := by decide +kernel
theorem dX5_orderAt_61 : decode cX5_orderAt 61 = .ok (.iadd, 1) := by decide +kernel
theorem dX5_orderAt_62 : decode cX5_orderAt 62 = .ok (.iconst 1, 1) := by decide +kernel
theorem dX5_orderAt_63 : decode cX5_orderAt 63 = .ok (.iadd, 1) := by decide +kernel
theorem dX5_orderAt_64 : decode cX5_orderAt 64 = .ok (.istore 4, 2) := by decide +kernel
theorem dX5_orderAt_66 : decode cX5_orderAt 66 = .ok (.iload_n 3, 1) := by decide +kernel
theorem dX5_orderAt_67 : decode cX5_orderAt 67 = .ok (.iload 4, 2) := by decide +kernel
theorem dX5_orderAt_69 : decode cX5_orderAt 69 = .ok (.invokestatic 66, 3) := by decide +kernel
theorem dX5_orderAt_72 : decode cX5_orderAt 72 = .ok (.ineg, 1) := by decide +kernel
theorem dX5_orderAt_73 : decode cX5_orderAt 73 = .ok (.ireturn, 1) := by decide +kernel
theorem dX5_orderAt_74 : decode cX5_orderAt 74 = .ok (.aload_n 0, 1) := by decide +kernel
theorem dX5_orderAt_75 : decode cX5_orderAt 75 = .ok (.getfield 30, 3) := by decide +kernel
theorem dX5_orderAt_78 : decode cX5_orderAt 78 = .ok (.iconst 0, 1) := by decide +kernel
theorem dX5_orderAt_79 : decode cX5_orderAt 79 = .ok (.invokestatic 72, 3) := by decide +kernel
theorem dX5_orderAt_82 : decode cX5_orderAt 82 = .ok (.aload_n 1, 1) := by decide +kernel
theorem dX5_orderAt_83 : decode cX5_orderAt 83 = .ok (.iload_n 2, 1) := by decide +kernel
theorem dX5_orderAt_84 : decode cX5_orderAt 84 = .ok (.bipush 10, 2) := by decide +kernel
theorem dX5_orderAt_86 : decode cX5_orderAt 86 = .ok (.invokevirtual 78, 3) := by decide +kernel
theorem dX5_orderAt_89 : decode cX5_orderAt 89 = .ok (.iconst 0, 1) := by decide +kernel
theorem dX5_orderAt_90 : decode cX5_orderAt 90 = .ok (.istore_n 3, 1) := by decide +kernel
theorem dX5_orderAt_91 : decode cX5_orderAt 91 = .ok (.iload_n 3, 1) := by decide +kernel
theorem dX5_orderAt_92 : decode cX5_orderAt 92 = .ok (.iconst 4, 1) := by decide +kernel
theorem dX5_orderAt_93 : decode cX5_orderAt 93 = .ok (.if_icmp .gt 72, 3) := by decide +kernel
theorem dX5_orderAt_96 : decode cX5_orderAt 96 = .ok (.iconst 0, 1) := by decide +kernel
theorem dX5_orderAt_97 : decode cX5_orderAt 97 = .ok (.istore 4, 2) := by decide +kernel
theorem dX5_orderAt_99 : decode cX5_orderAt 99 = .ok (.iload 4, 2) := by decide +kernel
theorem dX5_orderAt_101 : decode cX5_orderAt 101 = .ok (.bipush 10, 2) := by decide +kernel
theorem dX5_orderAt_103 : decode cX5_orderAt 103 = .ok (.if_icmp .ge 52, 3) := by decide +kernel
theorem dX5_orderAt_106 : decode cX5_orderAt 106 = .ok (.aload_n 0, 1) := by decide +kernel
theorem dX5_orderAt_107 : decode cX5_orderAt 107 = .ok (.getfield 30, 3) := by decide +kernel
theorem dX5_orderAt_110 : decode cX5_orderAt 110 = .ok (.iload 4, 2) := by decide +kernel
theorem dX5_orderAt_112 : decode cX5_orderAt 112 = .ok (.dup2, 1) := by decide +kernel
theorem dX5_orderAt_113 : decode cX5_orderAt 113 = .ok (.iaload, 1) := by decide +kernel
theorem dX5_orderAt_114 : decode cX5_orderAt 114 = .ok (.aload_n 0, 1) := by decide +kernel
theorem dX5_orderAt_115 : decode cX5_orderAt 115 = .ok (.getfield 18, 3) := by decide +kernel
theorem dX5_orderAt_118 : decode cX5_orderAt 118 = .ok (.iload_n 3, 1) := by decide +kernel
theorem dX5_orderAt_119 : decode cX5_orderAt 119 = .ok (.invokevirtual 82, 3) := by decide +kernel
theorem dX5_orderAt_122 : decode cX5_orderAt 122 = .ok (.aload_n 1, 1) := by decide +kernel
theorem dX5_orderAt_123 : decode cX5_orderAt 123 = .ok (.getfield 86, 3) := by decide +kernel
theorem dX5_orderAt_126 : decode cX5_orderAt 126 = .ok (.iload 4, 2) := by decide +kernel
theorem dX5_orderAt_128 : decode cX5_orderAt 128 = .ok (.iaload, 1) := by decide +kernel
theorem dX5_orderAt_129 : decode cX5_orderAt 129 = .ok (.imul, 1) := by decide +kernel
theorem dX5_orderAt_130 : decode cX5_orderAt 130 = .ok (.aload_n 0, 1) := by decide +kernel
theorem dX5_orderAt_131 : decode cX5_orderAt 131 = .ok (.getfield 21, 3) := by decide +kernel
theorem dX5_orderAt_134 : decode cX5_orderAt 134 = .ok (.iload_n 3, 1) := by decide +kernel
theorem dX5_orderAt_135 : decode cX5_orderAt 135 = .ok (.invokevirtual 82, 3) := by decide +kernel
theorem dX5_orderAt_138 : decode cX5_orderAt 138 = .ok (.aload_n 1, 1) := by decide +kernel
theorem dX5_orderAt_139 : decode cX5_orderAt 139 = .ok (.getfield 89, 3) := by decide +kernel
theorem dX5_orderAt_142 : decode cX5_orderAt 142 = .ok (.iload 4, 2) := by decide +kernel
theorem dX5_orderAt_144 : decode cX5_orderAt 144 = .ok (.iaload, 1) := by decide +kernel
theorem dX5_orderAt_145 : decode cX5_orderAt 145 = .ok (.imul, 1) := by decide +kernel
theorem dX5_orderAt_146 : decode cX5_orderAt 146 = .ok (.iadd, 1) := by decide +kernel
theorem dX5_orderAt_147 : decode cX5_orderAt 147 = .ok (.iadd, 1) := by decide +kernel
theorem dX5_orderAt_148 : decode cX5_orderAt 148 = .ok (.iastore, 1) := by decide +kernel
theorem dX5_orderAt_149 : decode cX5_orderAt 149 = .ok (.iinc 4 1, 3) := by decide +kernel
theorem dX5_orderAt_152 : decode cX5_orderAt 152 = .ok (.goto (-53), 3) := by decide +kernel
theorem dX5_orderAt_155 : decode cX5_orderAt 155 = .ok (.aload_n 1, 1) := by decide +kernel
theorem dX5_orderAt_156 : decode cX5_orderAt 156 = .ok (.invokevirtual 92, 3) := by decide +kernel
theorem dX5_orderAt_159 : decode cX5_orderAt 159 = .ok (.iinc 3 1, 3) := by decide +kernel
theorem dX5_orderAt_162 : decode cX5_orderAt 162 = .ok (.goto (-71), 3) := by decide +kernel
theorem dX5_orderAt_165 : decode cX5_orderAt 165 = .ok (.iconst 0, 1) := by decide +kernel
theorem dX5_orderAt_166 : decode cX5_orderAt 166 = .ok (.istore_n 3, 1) := by decide +kernel
theorem dX5_orderAt_167 : decode cX5_orderAt 167 = .ok (.iload_n 3, 1) := by decide +kernel
theorem dX5_orderAt_168 : decode cX5_orderAt 168 = .ok (.bipush 10, 2) := by decide +kernel
theorem dX5_orderAt_170 : decode cX5_orderAt 170 = .ok (.if_icmp .ge 25, 3) := by decide +kernel
theorem dX5_orderAt_173 : decode cX5_orderAt 173 = .ok (.aload_n 1, 1) := by decide +kernel
theorem dX5_orderAt_174 : decode cX5_orderAt 174 = .ok (.getfield 34, 3) := by decide +kernel
theorem dX5_orderAt_177 : decode cX5_orderAt 177 = .ok (.aload_n 0, 1) := by decide +kernel
theorem dX5_orderAt_178 : decode cX5_orderAt 178 = .ok (.getfield 30, 3) := by decide +kernel
theorem dX5_orderAt_181 : decode cX5_orderAt 181 = .ok (.iload_n 3, 1) := by decide +kernel
theorem dX5_orderAt_182 : decode cX5_orderAt 182 = .ok (.iaload, 1) := by decide +kernel
theorem dX5_orderAt_183 : decode cX5_orderAt 183 = .ok (.invokevirtual 95, 3) := by decide +kernel
theorem dX5_orderAt_186 : decode cX5_orderAt 186 = .ok (.ifCond .ne 9, 3) := by decide +kernel
theorem dX5_orderAt_189 : decode cX5_orderAt 189 = .ok (.iinc 3 1, 3) := by decide +kernel
theorem dX5_orderAt_192 : decode cX5_orderAt 192 = .ok (.goto (-25), 3) := by decide +kernel
theorem dX5_orderAt_195 : decode cX5_orderAt 195 = .ok (.iload_n 3, 1) := by decide +kernel
theorem dX5_orderAt_196 : decode cX5_orderAt 196 = .ok (.ireturn, 1) := by decide +kernel
set_option maxRecDepth 20000 in
theorem b_X5_orderAt_0 {k n : Nat} {x : Wx} {Z : Zt} {Q : Option Value → Wx → Zt → Prop} {a0 : Nat} {a1 : Nat} {v2 : Int} (o_a1 : Is2 x a1) (o_a0 : Is5 x a0)
    (h : Rg v2 ∧ Rg ((Z a1 3) - 1) ∧ (Rg (bI (decide (v2 = Z a1 3 - 1))) ∧ (((bI (decide (v2 = Z a1 3 - 1)) = 0) → (∀ Z1 : Zt, Z1 = fillZ Z (a0 + 11) 10 (0 : Int) → (∃ g1 : Int, (∃ g2 : Nat → Int, (IsP g1 ∧ CvA Z1 a1 g1 g2 ∧ (0 ≤ v2 ∧ v2 + 1 < (pall g1 g2).length) ∧ Rg (10 : Int) ∧ (∀ (Z'1 : Zt), (BgA Z'1 a1 g1 g2 ((pall g1 g2).getD (Int.toNat v2) (0, 0)).1 ((pall g1 g2).getD (Int.toNat v2) (0, 0)).2 (max 0 (min (10 : Int) 40)) (fxd (pall g1 g2) v2) ∧ Oth Z1 Z'1 (fun b => b = a1 ∨ b = a1 + 13 ∨ b = a1 + 14 ∨ b = a1 + 15) ∧ (∀ i : Nat, i < 14 → Z'1 a1 i = Z1 a1 i)) → (V mX5_orderAt k n 91 [some (r_ a0), some (r_ a1), none, some (i_ 0), none] [] x Z'1 Q))))))) ∧ ((bI (decide (v2 = Z a1 3 - 1)) ≠ 0) → (Rg (Z (a0 + 3) 0) ∧ (((0 ≤ Z (a0 + 3) 0) → (V mX5_orderAt k n 31 [some (r_ a0), some (r_ a1), none, none, none] [i_ (2 * (Z (a0 + 3) 0))] x Z Q)) ∧ ((Z (a0 + 3) 0 < 0) → (V mX5_orderAt k n 31 [some (r_ a0), some (r_ a1), none, none, none] [i_ 0] x Z Q)))))))) :
    V mX5_orderAt k n 0 [some (r_ a0), some (r_ a1), some (i_ v2), none, none] [] x Z Q :=
  V_aload_n dX5_orderAt_0 rfl (V_iload_n dX5_orderAt_1 rfl (V_callV (k' := 0) (n' := 0) (t := 2) (q := (RX2, TX2, 17)) [i_ v2] [] okX2_isFar o_a1.1 rfl rfl lm_5_55 liX2_isFar lqX2_isFar (Nat.le_of_ble_eq_true rfl) (Nat.le_of_ble_eq_true rfl) (Nat.le_of_ble_eq_true rfl) (cat_of rfl) (Nat.le_of_ble_eq_true rfl) (Nat.zero_le _) (Nat.zero_le _) rfl dX5_orderAt_2 (sp_X2_isFar o_a1 h.1 h.2.1 (V_if_eq (tgt := 74) dX5_orderAt_5 rfl h.2.2.1 (fun c1 => V_aload_n dX5_orderAt_74 rfl (G_5_5 o_a0.1 o_a0.2.2.2.2.2.2.2.2.2.2.2.1 lf_5_30 dX5_orderAt_75 (V_iconst dX5_orderAt_78 (V_callS (k' := 0) (n' := 0) [r_ (a0 + 11), i_ 0] [] okJ7_fill_53178 lm_5_72 lsJ7_fill_53178 (Nat.le_of_ble_eq_true rfl) (Nat.le_of_ble_eq_true rfl) (Nat.le_of_ble_eq_true rfl) (cat_of rfl) (Nat.le_of_ble_eq_true rfl) (Nat.zero_le _) (Nat.zero_le _) rfl dX5_orderAt_79 (sp_J7_fill_53178 o_a0.2.2.2.2.2.2.2.2.2.2.2.2 (Nat.le_of_ble_eq_true rfl)  (V_nmZ (fun Z1 eZ1 => V_aload_n dX5_orderAt_82 rfl (V_iload_n dX5_orderAt_83 rfl (V_bipush dX5_orderAt_84 rfl (Exists.elim ((h.2.2.2.1 c1) Z1 eZ1) (fun g1 w1 => Exists.elim w1 (fun g2 w2 => V_callV (k' := 0) (n' := 0) (t := 2) (q := (RX2, TX2, 17)) [i_ v2, i_ 10] [] okX2_beginAt o_a1.1 rfl rfl lm_5_78 liX2_beginAt lqX2_beginAt (Nat.le_of_ble_eq_true rfl) (Nat.le_of_ble_eq_true rfl) (Nat.le_of_ble_eq_true rfl) (cat_of rfl) (Nat.le_of_ble_eq_true rfl) (Nat.zero_le _) (Nat.zero_le _) rfl dX5_orderAt_86 (sp_X2_beginAt o_a1 w2.1 w2.2.1 w2.2.2.1 w2.2.2.2.1 (fun Z'1 p1 => V_iconst dX5_orderAt_89 (V_istore_n (lv' := [some (r_ a0), some (r_ a1), some (i_ v2), some (i_ 0), none]) dX5_orderAt_90 (Nat.le_of_ble_eq_true rfl) rfl (V_msk [true, true, false, true, false] rfl (w2.2.2.2.2 Z'1 p1))))))))))))))))) (fun c1 => V_aload_n dX5_orderAt_8 rfl (G_5_1 o_a0.1 o_a0.2.2.2.1 lf_5_18 dX5_orderAt_9 (G_7_0 o_a0.2.2.2.2.1.1 lf_5_59 dX5_orderAt_12 (V_if_ge (tgt := 22) dX5_orderAt_15 rfl (h.2.2.2.2 c1).1 (fun c2 => V_iconst dX5_orderAt_22 (V_aload_n dX5_orderAt_23 rfl (G_5_1 o_a0.1 o_a0.2.2.2.1 lf_5_18 dX5_orderAt_24 (G_7_0 o_a0.2.2.2.2.1.1 lf_5_59 dX5_orderAt_27 (V_imul dX5_orderAt_30 (V_msk [true, true, false, false, false] rfl ((h.2.2.2.2 c1).2.1 c2))))))) (fun c2 => V_iconst dX5_orderAt_18 (V_goto (tgt := 31) dX5_orderAt_19 rfl (V_msk [true, true, false, false, false] rfl ((h.2.2.2.2 c1).2.2 c2))))))))))))
set_option maxRecDepth 20000 in
theorem b_X5_orderAt_31 {k n : Nat} {x : Wx} {Z : Zt} {Q : Option Value → Wx → Zt → Prop} {a0 : Nat} {a1 : Nat} {t0 : Int} (o_a0 : Is5 x a0) (o_a1 : Is2 x a1)
    (h : Rg (Z (a0 + 5) 0) ∧ (((0 ≤ Z (a0 + 5) 0) → (V mX5_orderAt k n 64 [none, none, none, some (i_ t0), none] [i_ (((2 * (Z (a0 + 5) 0)) + (2 * (Z a1 2))) + 1)] x Z Q)) ∧ ((Z (a0 + 5) 0 < 0) → (V mX5_orderAt k n 64 [none, none, none, some (i_ t0), none] [i_ 0] x Z Q)))) :
    V mX5_orderAt k n 31 [some (r_ a0), some (r_ a1), none, none, none] [i_ t0] x Z Q :=
  V_istore_n (lv' := [some (r_ a0), some (r_ a1), none, some (i_ t0), none]) dX5_orderAt_31 (Nat.le_of_ble_eq_true rfl) rfl (V_aload_n dX5_orderAt_32 rfl (G_5_2 o_a0.1 o_a0.2.2.2.2.2.1 lf_5_21 dX5_orderAt_33 (G_7_0 o_a0.2.2.2.2.2.2.1.1 lf_5_59 dX5_orderAt_36 (V_if_ge (tgt := 46) dX5_orderAt_39 rfl h.1 (fun c1 => V_iconst dX5_orderAt_46 (V_aload_n dX5_orderAt_47 rfl (G_5_2 o_a0.1 o_a0.2.2.2.2.2.1 lf_5_21 dX5_orderAt_48 (G_7_0 o_a0.2.2.2.2.2.2.1.1 lf_5_59 dX5_orderAt_51 (V_imul dX5_orderAt_54 (V_iconst dX5_orderAt_55 (V_aload_n dX5_orderAt_56 rfl (G_2_2 o_a1.1 lf_5_63 dX5_orderAt_57 (V_imul dX5_orderAt_60 (V_iadd dX5_orderAt_61 (V_iconst dX5_orderAt_62 (V_iadd dX5_orderAt_63 (V_msk [false, false, false, true, false] rfl (h.2.1 c1)))))))))))))) (fun c1 => V_iconst dX5_orderAt_42 (V_goto (tgt := 64) dX5_orderAt_43 rfl (V_msk [false, false, false, true, false] rfl (h.2.2 c1))))))))
set_option maxRecDepth 20000 in
theorem b_X5_orderAt_64 {k n : Nat} {x : Wx} {Z : Zt} {Q : Option Value → Wx → Zt → Prop} {v3 : Int} {t0 : Int} 
    (h : Rg v3 ∧ Rg t0 ∧ (Q (some (i_ (-(max v3 t0)))) x Z)) :
    V mX5_orderAt k n 64 [none, none, none, some (i_ v3), none] [i_ t0] x Z Q :=
  V_istore (lv' := [none, none, none, some (i_ v3), some (i_ t0)]) dX5_orderAt_64 (Nat.le_of_ble_eq_true rfl) rfl (V_iload_n dX5_orderAt_66 rfl (V_iload dX5_orderAt_67 rfl (V_mmax lm_5_66 (Nat.le_of_ble_eq_true rfl) (Nat.le_of_ble_eq_true rfl) h.1 h.2.1 dX5_orderAt_69 (V_ineg dX5_orderAt_72 (V_iret (ty := .int) dX5_orderAt_73 rfl rfl h.2.2)))))
set_option maxRecDepth 20000 in
theorem b_X5_orderAt_91 {k n : Nat} {x : Wx} {Z : Zt} {Q : Option Value → Wx → Zt → Prop} {a0 : Nat} {a1 : Nat} {v3 : Int} 
    (h : Rg v3 ∧ (((4 < v3) → (V mX5_orderAt k n 167 [some (r_ a0), some (r_ a1), none, some (i_ 0), none] [] x Z Q)) ∧ ((v3 ≤ 4) → (V mX5_orderAt k n 99 [some (r_ a0), some (r_ a1), none, some (i_ v3), some (i_ 0)] [] x Z Q)))) :
    V mX5_orderAt k n 91 [some (r_ a0), some (r_ a1), none, some (i_ v3), none] [] x Z Q :=
  V_iload_n dX5_orderAt_91 rfl (V_iconst dX5_orderAt_92 (V_icmp_gt (tgt := 165) dX5_orderAt_93 rfl h.1 (rg_c rfl) (fun c1 => V_iconst dX5_orderAt_165 (V_istore_n (lv' := [some (r_ a0), some (r_ a1), none, some (i_ 0), none]) dX5_orderAt_166 (Nat.le_of_ble_eq_true rfl) rfl (V_msk [true, true, false, true, false] rfl (h.2.1 c1)))) (fun c1 => V_iconst dX5_orderAt_96 (V_istore (lv' := [some (r_ a0), some (r_ a1), none, some (i_ v3), some (i_ 0)]) dX5_orderAt_97 (Nat.le_of_ble_eq_true rfl) rfl (V_msk [true, true, false, true, true] rfl (h.2.2 c1))))))
set_option maxRecDepth 20000 in
theorem b_X5_orderAt_99 {k n : Nat} {x : Wx} {Z : Zt} {Q : Option Value → Wx → Zt → Prop} {a0 : Nat} {a1 : Nat} {v3 : Int} {v4 : Int} (o_a1 : Is2 x a1) (o_a0 : Is5 x a0)
    (h : Rg v4 ∧ (((10 ≤ v4) → (∃ g1 : Int, (IsP g1 ∧ Z (a1 + 1) 0 = g1 ∧ (0 ≤ Z a1 14 ∧ Z a1 14 ≤ 40) ∧ (1 ≤ Z a1 15 ∧ Z a1 15 ≤ 2) ∧ (0 ≤ Z a1 16 ∧ Z a1 16 < g1) ∧ (∀ i : Nat, i < 40 → 0 ≤ Z (a1 + 14) i ∧ Z (a1 + 14) i < g1) ∧ (∀ i : Nat, i < 40 → 0 ≤ Z (a1 + 15) i ∧ Z (a1 + 15) i < g1) ∧ (∀ (Z'1 : Zt), ((∀ i : Nat, i < 40 → Z'1 (a1 + 14) i = (if (i : Int) < Z a1 14 then npw g1 (Z a1 16) (Z a1 15).toNat (Z (a1 + 14)) i else Z (a1 + 14) i) ∧ Z'1 (a1 + 15) i = (if (i : Int) < Z a1 14 then npw g1 (Z a1 16) (Z a1 15).toNat (Z (a1 + 15)) i else Z (a1 + 15) i)) ∧ Oth Z Z'1 (fun b => b = a1 + 14 ∨ b = a1 + 15)) → (V mX5_orderAt k n 91 [some (r_ a0), some (r_ a1), none, some (i_ (v3 + 1)), none] [] x Z'1 Q))))) ∧ ((v4 < 10) → (0 ≤ v4 ∧ (0 ≤ v3 ∧ v3 < 10 ∧ (v4 < 40 ∧ (∀ Z1 : Zt, Z1 = up Z (a0 + 11) v4.toNat ((Z (a0 + 11) v4.toNat) + (((Z ((a0 + 3) + 1) (Int.toNat v3)) * (Z (a1 + 14) v4.toNat)) + ((Z ((a0 + 5) + 1) (Int.toNat v3)) * (Z (a1 + 15) v4.toNat)))) → (V mX5_orderAt k n 99 [some (r_ a0), some (r_ a1), none, some (i_ v3), some (i_ (v4 + 1))] [] x Z1 Q)))))))) :
    V mX5_orderAt k n 99 [some (r_ a0), some (r_ a1), none, some (i_ v3), some (i_ v4)] [] x Z Q :=
  V_iload dX5_orderAt_99 rfl (V_bipush dX5_orderAt_101 rfl (V_icmp_ge (tgt := 155) dX5_orderAt_103 rfl h.1 (rg_c rfl) (fun c1 => V_aload_n dX5_orderAt_155 rfl (Exists.elim (h.2.1 c1) (fun g1 w1 => V_callV (k' := 0) (n' := 0) (t := 2) (q := (RX2, TX2, 17)) [] [] okX2_nextPower o_a1.1 rfl rfl lm_5_92 liX2_nextPower lqX2_nextPower (Nat.le_of_ble_eq_true rfl) (Nat.le_of_ble_eq_true rfl) (Nat.le_of_ble_eq_true rfl) (cat_of rfl) (Nat.le_of_ble_eq_true rfl) (Nat.zero_le _) (Nat.zero_le _) rfl dX5_orderAt_156 (sp_X2_nextPower o_a1 w1.1 w1.2.1 w1.2.2.1 w1.2.2.2.1 w1.2.2.2.2.1 w1.2.2.2.2.2.1 w1.2.2.2.2.2.2.1 (fun Z'1 p1 => V_iinc (lv' := [some (r_ a0), some (r_ a1), none, some (i_ (v3 + 1)), some (i_ v4)]) dX5_orderAt_159 rfl (Nat.le_of_ble_eq_true rfl) rfl (V_goto (tgt := 91) dX5_orderAt_162 rfl (V_msk [true, true, false, true, false] rfl (w1.2.2.2.2.2.2.2 Z'1 p1)))))))) (fun c1 => V_aload_n dX5_orderAt_106 rfl (G_5_5 o_a0.1 o_a0.2.2.2.2.2.2.2.2.2.2.2.1 lf_5_30 dX5_orderAt_107 (V_iload dX5_orderAt_110 rfl (V_dup2 dX5_orderAt_112 rfl rfl (V_iald (t := 100) o_a0.2.2.2.2.2.2.2.2.2.2.2.2 (by decide) rfl (h.2.2 c1).1 c1 (Nat.le_of_ble_eq_true rfl) dX5_orderAt_113 (V_aload_n dX5_orderAt_114 rfl (G_5_1 o_a0.1 o_a0.2.2.2.1 lf_5_18 dX5_orderAt_115 (V_iload_n dX5_orderAt_118 rfl (V_callV (k' := 0) (n' := 0) (t := 7) (q := (RX7, TX7, 2)) [i_ v3] [i_ (Z (a0 + 11) v4.toNat), i_ v4, r_ (a0 + 11)] okX7_at o_a0.2.2.2.2.1.1 rfl rfl lm_5_82 liX7_at lqX7_at (Nat.le_of_ble_eq_true rfl) (Nat.le_of_ble_eq_true rfl) (Nat.le_of_ble_eq_true rfl) (cat_of rfl) (Nat.le_of_ble_eq_true rfl) (Nat.zero_le _) (Nat.zero_le _) rfl dX5_orderAt_119 (sp_X7_at o_a0.2.2.2.2.1 (h.2.2 c1).2.1 (h.2.2 c1).2.2.1 (V_aload_n dX5_orderAt_122 rfl (G_2_12 o_a1.1 o_a1.2.2.2.2.2.2.2.2.2.2.2.2.2.2.2.2.2.2.2.2.2.1 lf_5_86 dX5_orderAt_123 (V_iload dX5_orderAt_126 rfl (V_iald (t := 100) o_a1.2.2.2.2.2.2.2.2.2.2.2.2.2.2.2.2.2.2.2.2.2.2.1 (by decide) rfl (h.2.2 c1).1 (h.2.2 c1).2.2.2.1 (Nat.le_of_ble_eq_true rfl) dX5_orderAt_128 (V_imul dX5_orderAt_129 (V_aload_n dX5_orderAt_130 rfl (G_5_2 o_a0.1 o_a0.2.2.2.2.2.1 lf_5_21 dX5_orderAt_131 (V_iload_n dX5_orderAt_134 rfl (V_callV (k' := 0) (n' := 0) (t := 7) (q := (RX7, TX7, 2)) [i_ v3] [i_ ((Z ((a0 + 3) + 1) (Int.toNat v3)) * (Z (a1 + 14) v4.toNat)), i_ (Z (a0 + 11) v4.toNat), i_ v4, r_ (a0 + 11)] okX7_at o_a0.2.2.2.2.2.2.1.1 rfl rfl lm_5_82 liX7_at lqX7_at (Nat.le_of_ble_eq_true rfl) (Nat.le_of_ble_eq_true rfl) (Nat.le_of_ble_eq_true rfl) (cat_of rfl) (Nat.le_of_ble_eq_true rfl) (Nat.zero_le _) (Nat.zero_le _) rfl dX5_orderAt_135 (sp_X7_at o_a0.2.2.2.2.2.2.1 (h.2.2 c1).2.1 (h.2.2 c1).2.2.1 (V_aload_n dX5_orderAt_138 rfl (G_2_13 o_a1.1 o_a1.2.2.2.2.2.2.2.2.2.2.2.2.2.2.2.2.2.2.2.2.2.2.2.1 lf_5_89 dX5_orderAt_139 (V_iload dX5_orderAt_142 rfl (V_iald (t := 100) o_a1.2.2.2.2.2.2.2.2.2.2.2.2.2.2.2.2.2.2.2.2.2.2.2.2 (by decide) rfl (h.2.2 c1).1 (h.2.2 c1).2.2.2.1 (Nat.le_of_ble_eq_true rfl) dX5_orderAt_144 (V_imul dX5_orderAt_145 (V_iadd dX5_orderAt_146 (V_iadd dX5_orderAt_147 (V_iast (t := 100) o_a0.2.2.2.2.2.2.2.2.2.2.2.2 (by decide) (by decide) rfl (h.2.2 c1).1 c1 (Nat.le_of_ble_eq_true rfl) dX5_orderAt_148 (V_nmZ (fun Z1 eZ1 => V_iinc (lv' := [some (r_ a0), some (r_ a1), none, some (i_ v3), some (i_ (v4 + 1))]) dX5_orderAt_149 rfl (Nat.le_of_ble_eq_true rfl) rfl (V_goto (tgt := 99) dX5_orderAt_152 rfl (V_msk [true, true, false, true, true] rfl ((h.2.2 c1).2.2.2.2 Z1 eZ1)))))))))))))))))))))))))))))))))))
set_option maxRecDepth 20000 in
theorem b_X5_orderAt_167 {k n : Nat} {x : Wx} {Z : Zt} {Q : Option Value → Wx → Zt → Prop} {a0 : Nat} {a1 : Nat} {v3 : Int} (o_a1 : Is2 x a1) (o_a0 : Is5 x a0)
    (h : Rg v3 ∧ (((10 ≤ v3) → (V mX5_orderAt k n 195 [none, none, none, some (i_ v3), none] [] x Z Q)) ∧ ((v3 < 10) → (0 ≤ v3 ∧ (Rg (Z (a0 + 11) v3.toNat) ∧ 2 ≤ Z (a1 + 1) 0 ∧ Z (a1 + 1) 0 ≤ 13 ∧ (Rg ((Z (a0 + 11) v3.toNat) % Z (a1 + 1) 0) ∧ ((((Z (a0 + 11) v3.toNat) % Z (a1 + 1) 0 ≠ 0) → (V mX5_orderAt k n 195 [none, none, none, some (i_ v3), none] [] x Z Q)) ∧ (((Z (a0 + 11) v3.toNat) % Z (a1 + 1) 0 = 0) → (V mX5_orderAt k n 167 [some (r_ a0), some (r_ a1), none, some (i_ (v3 + 1)), none] [] x Z Q))))))))) :
    V mX5_orderAt k n 167 [some (r_ a0), some (r_ a1), none, some (i_ v3), none] [] x Z Q :=
  V_iload_n dX5_orderAt_167 rfl (V_bipush dX5_orderAt_168 rfl (V_icmp_ge (tgt := 195) dX5_orderAt_170 rfl h.1 (rg_c rfl) (fun c1 => V_msk [false, false, false, true, false] rfl (h.2.1 c1)) (fun c1 => V_aload_n dX5_orderAt_173 rfl (G_2_0 o_a1.1 o_a1.2.1 lf_5_34 dX5_orderAt_174 (V_aload_n dX5_orderAt_177 rfl (G_5_5 o_a0.1 o_a0.2.2.2.2.2.2.2.2.2.2.2.1 lf_5_30 dX5_orderAt_178 (V_iload_n dX5_orderAt_181 rfl (V_iald (t := 100) o_a0.2.2.2.2.2.2.2.2.2.2.2.2 (by decide) rfl (h.2.2 c1).1 c1 (Nat.le_of_ble_eq_true rfl) dX5_orderAt_182 (V_callV (k' := 0) (n' := 0) (t := 4) (q := (RX4, TX4, 4)) [i_ (Z (a0 + 11) v3.toNat)] [] okX4_rem o_a1.2.2.1.1 rfl rfl lm_5_95 liX4_rem lqX4_rem (Nat.le_of_ble_eq_true rfl) (Nat.le_of_ble_eq_true rfl) (Nat.le_of_ble_eq_true rfl) (cat_of rfl) (Nat.le_of_ble_eq_true rfl) (Nat.zero_le _) (Nat.zero_le _) rfl dX5_orderAt_183 (sp_X4_rem o_a1.2.2.1 (h.2.2 c1).2.1 (h.2.2 c1).2.2.1 (h.2.2 c1).2.2.2.1 (V_if_ne (tgt := 195) dX5_orderAt_186 rfl (h.2.2 c1).2.2.2.2.1 (fun c2 => V_msk [false, false, false, true, false] rfl ((h.2.2 c1).2.2.2.2.2.1 c2)) (fun c2 => V_iinc (lv' := [some (r_ a0), some (r_ a1), none, some (i_ (v3 + 1)), none]) dX5_orderAt_189 rfl (Nat.le_of_ble_eq_true rfl) rfl (V_goto (tgt := 167) dX5_orderAt_192 rfl (V_msk [true, true, false, true, false] rfl ((h.2.2 c1).2.2.2.2.2.2 c2)))))))))))))))
set_option maxRecDepth 20000 in
theorem b_X5_orderAt_195 {k n : Nat} {x : Wx} {Z : Zt} {Q : Option Value → Wx → Zt → Prop} {v3 : Int} 
    (h : Q (some (i_ v3)) x Z) :
    V mX5_orderAt k n 195 [none, none, none, some (i_ v3), none] [] x Z Q :=
  V_iload_n dX5_orderAt_195 rfl (V_iret (ty := .int) dX5_orderAt_196 rfl rfl h)
/-! ===== Measured: ORDER at a point ===== -/
def nxp (p X : Int) (sh : Nat) (t : Int) (f : Nat → Int) : Nat → Int := fun j => if (j : Int) < t then npw p X sh f j else f j
def pwI (p X : Int) (sh : Nat) (t : Int) (f : Nat → Int) : Nat → Nat → Int
  | 0 => f
  | i + 1 => nxp p X sh t (pwI p X sh t f i)
theorem pwI_rg {p X : Int} (hp : 0 < p) {sh : Nat} {t : Int} {f : Nat → Int} (hf : ∀ j : Nat, 0 ≤ f j ∧ f j < p) : ∀ i j : Nat, 0 ≤ pwI p X sh t f i j ∧ pwI p X sh t f i j < p
  | 0, j => hf j
  | i + 1, j => by
    show 0 ≤ nxp p X sh t (pwI p X sh t f i) j ∧ nxp p X sh t (pwI p X sh t f i) j < p
    unfold nxp npw
    split
    · exact emr _ hp
    · exact pwI_rg hp hf i j
theorem npw_ext {p X : Int} {sh : Nat} {f g : Nat → Int} {j : Nat} (h : ∀ i : Nat, i ≤ j → f i = g i) : npw p X sh f j = npw p X sh g j := by
  unfold npw
  rw [h j (Nat.le_refl j)]
  by_cases c : sh ≤ j
  · rw [if_pos c, if_pos c, h (j - sh) (by omega)]
  · rw [if_neg c, if_neg c]
def bgn (A B : Nat → Int) (P Y : Nat → Nat → Int) : Nat → Nat → Int
  | 0, _ => 0
  | i + 1, j => bgn A B P Y i j + (A i * P i j + B i * Y i j)
def ordL (p : Int) (g : Nat → Int) : Nat → Nat → Int
  | 0, j => (j : Int)
  | m + 1, j => if g j % p = 0 then ordL p g m (j + 1) else (j : Int)
def pln : Nat → Int := fun i => if i = 0 then 1 else 0
/-- ORDER at a POINT that is not FAR, of 10 terms -/
def ordN (p : Int) (F A B : Nat → Int) (X y : Int) (fx : Bool) : Int := ordL p (bgn A B (pwI p X (if fx = true then 2 else 1) 10 pln) (pwI p X (if fx = true then 2 else 1) 10 (bgY p F X y 10 fx)) 5) 10 0
def ordFar (F A B : Nat → Int) : Int := -(max (if pd A < 0 then 0 else 2 * pd A) (if pd B < 0 then 0 else 2 * pd B + 2 * gen F + 1))
def ordA (p : Int) (F A B : Nat → Int) (v : Int) : Int := if v + 1 = (pall p F).length then ordFar F A B else ordN p F A B ((pall p F).getD v.toNat (0, 0)).1 ((pall p F).getD v.toNat (0, 0)).2 (fxd (pall p F) v)
theorem bgn_rg {p : Int} (hp : 0 < p ∧ p ≤ 13) {A B : Nat → Int} {P Y : Nat → Nat → Int} (hA : ∀ i : Nat, 0 ≤ A i ∧ A i < p) (hB : ∀ i : Nat, 0 ≤ B i ∧ B i < p) (hP : ∀ i j : Nat, 0 ≤ P i j ∧ P i j < p) (hY : ∀ i j : Nat, 0 ≤ Y i j ∧ Y i j < p) : ∀ i j : Nat, 0 ≤ bgn A B P Y i j ∧ bgn A B P Y i j ≤ 338 * i
  | 0, _ => ⟨by show (0 : Int) ≤ 0; decide, by show (0 : Int) ≤ 338 * ((0 : Nat) : Int); decide⟩
  | i + 1, j => by
    unfold bgn
    have h1 := bgn_rg hp hA hB hP hY i j
    have h2 := mul13 (a := A i) (b := P i j) ⟨(hA i).1, by have := (hA i).2; omega⟩ ⟨(hP i j).1, by have := (hP i j).2; omega⟩
    have h3 := mul13 (a := B i) (b := Y i j) ⟨(hB i).1, by have := (hB i).2; omega⟩ ⟨(hY i j).1, by have := (hY i j).2; omega⟩
    omega
theorem bgY_rg {p : Int} (hp : IsP p) {F : Nat → Int} {X y t : Int} {fx : Bool} (hy : 0 ≤ y ∧ y < p) (i : Nat) : 0 ≤ bgY p F X y t fx i ∧ bgY p F X y t fx i < p := by
  have hpr := hp.rg
  unfold bgY
  split
  · split
    · exact ⟨by decide, by omega⟩
    · exact ⟨by decide, by omega⟩
  · split
    · exact hy
    · split
      · exact rtT_rg (by omega) hy 40 i
      · exact ⟨by decide, by omega⟩
theorem CvA.kept {Z Z' : Zt} {a : Nat} {p : Int} {F : Nat → Int} (h : CvA Z a p F) (h1 : ∀ b, a < b → b ≤ a + 10 → Z' b = Z b) (h2 : ∀ i : Nat, i < 14 → Z' a i = Z a i) : CvA Z' a p F := by
  obtain ⟨c1, c2, c3, c4, c5, c6, c7⟩ := h
  unfold CvA FA PA PtA
  rw [h1 (a + 1) (by omega) (by omega), h1 (a + 1 + 1) (by omega) (by omega), h1 (a + 1 + 2) (by omega) (by omega), h1 (a + 4) (by omega) (by omega), h1 (a + 4 + 1) (by omega) (by omega), h1 (a + 6) (by omega) (by omega), h1 (a + 7) (by omega) (by omega), h1 (a + 8) (by omega) (by omega), h1 (a + 9) (by omega) (by omega), h1 (a + 10) (by omega) (by omega), h2 3 (by decide), h2 2 (by decide)]
  exact ⟨c1, c2, c3, c4, c5, c6, c7⟩
theorem sp_X5_orderAt {k n : Nat} {x : Wx} {Z : Zt} {Q : Option Value → Wx → Zt → Prop} {m c : Nat} {v : Int} (o : Is5 x m) (oc : Is2 x c) {p : Int} {F A B : Nat → Int} (hp : IsP p) (hC : CvA Z c p F) (hA : PA Z (m + 3) p A) (hB : PA Z (m + 5) p B) (hv : 0 ≤ v ∧ v < (pall p F).length) (hcm : c + 16 ≤ m ∨ m + 12 ≤ c) (h : ∀ Z' : Zt, (Oth Z Z' (fun b => b = c ∨ b = c + 13 ∨ b = c + 14 ∨ b = c + 15 ∨ b = m + 11) ∧ (∀ i : Nat, i < 14 → Z' c i = Z c i)) → Q (some (i_ (ordA p F A B v))) x Z') : V mX5_orderAt k n 0 [some (r_ m), some (r_ c), some (i_ v), none, none] [] x Z Q := by
  have hpr := hp.rg
  have hl := pall_len hp F
  have h3 := hC.2.2.1.1
  have hgn := hC.2.2.2.1
  have hgr := gen_rg F
  have dA := hA.deg
  have dB := hB.deg
  have rA := hA.dgr
  have rB := hB.dgr
  unfold ordA at h
  refine b_X5_orderAt_0 oc o ⟨⟨by omega, by omega⟩, ⟨by omega, by omega⟩, bI_rg _, fun cc Z1 e1 => ?_, fun cc => ⟨⟨by omega, by omega⟩, fun c1 => b_X5_orderAt_31 o oc ?_, fun c1 => b_X5_orderAt_31 o oc ?_⟩⟩
  · have hnf := bI_0 cc
    rw [decide_eq_false_iff_not] at hnf
    rw [if_neg (by omega)] at h
    have o1 : ∀ b, b ≠ m + 11 → Z1 b = Z b := fun b hb => by rw [e1]; exact fill_row _ _ _ _ _ hb
    have hC1 : CvA Z1 c p F := hC.kept (fun b h1 h2 => o1 b (by omega)) (fun i _ => by rw [o1 c (by omega)])
    refine ⟨p, F, hp, hC1, ⟨hv.1, by omega⟩, ⟨by decide, by decide⟩, fun Z2 hz2 => ?_⟩
    have hpt := pall_get (p := p) (F := F) (by omega) (k := v.toNat) (by omega)
    generalize (pall p F).getD v.toNat (0, 0) = e at h hpt hz2
    generalize fxd (pall p F) v = fx at h hz2
    rw [show max (0 : Int) (min 10 40) = 10 by decide] at hz2
    unfold ordN at h
    have hsh : (if fx = true then (2 : Int) else 1) = ((if fx = true then 2 else 1 : Nat) : Int) := by cases fx <;> rfl
    have hshr : 1 ≤ (if fx = true then 2 else 1 : Nat) ∧ (if fx = true then 2 else 1 : Nat) ≤ 2 := by cases fx <;> decide
    obtain ⟨⟨b14, b15, b16, bP, bY⟩, hO2, hc2⟩ := hz2
    rw [hsh] at b15
    generalize (if fx = true then 2 else 1 : Nat) = sh at h hshr b15
    have hYr : ∀ j : Nat, 0 ≤ bgY p F e.1 e.2 10 fx j ∧ bgY p F e.1 e.2 10 fx j < p := fun j => bgY_rg hp hpt.2.1 j
    generalize bgY p F e.1 e.2 10 fx = y0 at h bY hYr
    have hPr : ∀ j : Nat, 0 ≤ pln j ∧ pln j < p := fun j => by unfold pln; split <;> omega
    have gP := pwI_rg (X := e.1) (sh := sh) (t := 10) (p := p) (by omega) hPr
    have gY := pwI_rg (X := e.1) (sh := sh) (t := 10) (p := p) (by omega) hYr
    have gB := bgn_rg (p := p) ⟨by omega, by omega⟩ hA.2.2.1 hB.2.2.1 gP gY
    generalize hPd : pwI p e.1 sh 10 pln = P at h gP gB
    generalize hYd : pwI p e.1 sh 10 y0 = Y at h gY gB
    have lp3 : ∀ (s j : Nat) (w : Int) (Z3 : Zt), w = j → j + s = 10 → Oth Z Z3 (fun b => b = c ∨ b = c + 13 ∨ b = c + 14 ∨ b = c + 15 ∨ b = m + 11) → (∀ i : Nat, i < 14 → Z3 c i = Z c i) → (∀ j : Nat, j < 10 → Z3 (m + 11) j = bgn A B P Y 5 j) → ordL p (bgn A B P Y 5) s j = ordL p (bgn A B P Y 5) 10 0 → V mX5_orderAt k n 167 [some (r_ m), some (r_ c), none, some (i_ w), none] [] x Z3 Q := by
      intro s
      induction s with
      | zero =>
        intro j w Z3 hw hj ho hc hz he
        refine b_X5_orderAt_167 oc o ⟨⟨by omega, by omega⟩, fun _ => b_X5_orderAt_195 ?_, fun c2 => by omega⟩
        have := h Z3 ⟨ho, hc⟩
        rw [← he] at this
        rw [hw]; exact this
      | succ s ih =>
        intro j w Z3 hw hj ho hc hz he
        have eP : Z3 (c + 1) 0 = p := by rw [ho (c + 1) (by omega)]; exact hC.1.1
        have hb := gB 5 j
        have hm := emr (bgn A B P Y 5 j) (p := p) (by omega)
        have he' : (if bgn A B P Y 5 j % p = 0 then ordL p (bgn A B P Y 5) s (j + 1) else (j : Int)) = ordL p (bgn A B P Y 5) 10 0 := he
        refine b_X5_orderAt_167 oc o ?_
        rw [eP, show w.toNat = j by omega, hz j (by omega)]
        refine ⟨⟨by omega, by omega⟩, fun c2 => by omega, fun _ => ⟨by omega, ⟨by omega, by omega⟩, by omega, by omega, ⟨by omega, by omega⟩, fun c3 => b_X5_orderAt_195 ?_, fun c3 => ih (j + 1) (w + 1) Z3 (by omega) (by omega) ho hc hz ?_⟩⟩
        · rw [if_neg c3] at he'
          have := h Z3 ⟨ho, hc⟩
          rw [← he'] at this
          rw [hw]; exact this
        · rw [if_pos c3] at he'; exact he'
    have lp1 : ∀ (r i : Nat) (w : Int) (Z3 : Zt), w = i → i + r = 5 → Oth Z Z3 (fun b => b = c ∨ b = c + 13 ∨ b = c + 14 ∨ b = c + 15 ∨ b = m + 11) → (∀ i : Nat, i < 14 → Z3 c i = Z c i) → (Z3 c 14 = 10 ∧ Z3 c 15 = sh ∧ Z3 c 16 = e.1) → (∀ j : Nat, j < 40 → Z3 (c + 14) j = P i j ∧ Z3 (c + 15) j = Y i j) → (∀ j : Nat, j < 10 → Z3 (m + 11) j = bgn A B P Y i j) → V mX5_orderAt k n 91 [some (r_ m), some (r_ c), none, some (i_ w), none] [] x Z3 Q := by
      intro r
      induction r with
      | zero =>
        intro i w Z3 hw hi ho hc h14 hPY hz
        refine b_X5_orderAt_91 ⟨⟨by omega, by omega⟩, fun _ => lp3 10 0 0 Z3 rfl rfl ho hc (fun j hj => ?_) rfl, fun c2 => by omega⟩
        rw [hz j hj, show i = 5 by omega]
      | succ r ih =>
        intro i w Z3 hw hi ho hc h14 hPY hz
        refine b_X5_orderAt_91 ⟨⟨by omega, by omega⟩, fun c2 => by omega, fun _ => ?_⟩
        have lp2 : ∀ (s j : Nat) (u : Int) (Z4 : Zt), u = j → j + s = 10 → (∀ b, b ≠ m + 11 → Z4 b = Z3 b) → (∀ q : Nat, q < 10 → Z4 (m + 11) q = if q < j then bgn A B P Y (i + 1) q else bgn A B P Y i q) → V mX5_orderAt k n 99 [some (r_ m), some (r_ c), none, some (i_ w), some (i_ u)] [] x Z4 Q := by
          intro s
          induction s with
          | zero =>
            intro j u Z4 hu hj ho4 hz4
            have ec : Z4 c = Z3 c := ho4 c (by omega)
            have e14 : Z4 (c + 14) = Z3 (c + 14) := ho4 _ (by omega)
            have e15 : Z4 (c + 15) = Z3 (c + 15) := ho4 _ (by omega)
            have eP : Z4 (c + 1) 0 = p := by rw [ho4 (c + 1) (by omega), ho (c + 1) (by omega)]; exact hC.1.1
            refine b_X5_orderAt_99 oc o ?_
            rw [ec, e14, e15, h14.1, h14.2.1, h14.2.2]
            refine ⟨⟨by omega, by omega⟩, fun _ => ⟨p, hp, eP, by decide, by omega, hpt.1, fun j hj => ?_, fun j hj => ?_, fun Z5 hz5 => ?_⟩, fun c2 => by omega⟩
            · rw [(hPY j hj).1]; exact gP i j
            · rw [(hPY j hj).2]; exact gY i j
            · refine ih (i + 1) (w + 1) Z5 (by omega) (by omega) (fun b hb => ?_) (fun q hq => ?_) ?_ (fun j hj => ?_) (fun q hq => ?_)
              · rw [hz5.2 b (by omega), ho4 b (by omega)]; exact ho b hb
              · rw [hz5.2 c (by omega), ec]; exact hc q hq
              · rw [hz5.2 c (by omega), ec]; exact h14
              · have := hz5.1 j hj
                rw [this.1, this.2, Int.toNat_natCast, ← hPd, ← hYd]
                show _ = nxp p e.1 sh 10 (pwI p e.1 sh 10 pln i) j ∧ _ = nxp p e.1 sh 10 (pwI p e.1 sh 10 y0 i) j
                unfold nxp
                rw [hPd, hYd, npw_ext (f := Z3 (c + 14)) (g := P i) (fun q hq => (hPY q (by omega)).1), npw_ext (f := Z3 (c + 15)) (g := Y i) (fun q hq => (hPY q (by omega)).2), (hPY j hj).1, (hPY j hj).2]
                exact ⟨rfl, rfl⟩
              · rw [hz5.2 (m + 11) (by omega), hz4 q hq, if_pos (by omega)]
          | succ s ih2 =>
            intro j u Z4 hu hj ho4 hz4
            have eA : Z4 (m + 3 + 1) (Int.toNat w) = A i := by rw [ho4 _ (by omega), ho _ (by omega), show w.toNat = i by omega]; exact hA.1 i (by omega)
            have eB : Z4 (m + 5 + 1) (Int.toNat w) = B i := by rw [ho4 _ (by omega), ho _ (by omega), show w.toNat = i by omega]; exact hB.1 i (by omega)
            refine b_X5_orderAt_99 oc o ?_
            rw [eA, eB, show u.toNat = j by omega, ho4 (c + 14) (by omega), ho4 (c + 15) (by omega), (hPY j (by omega)).1, (hPY j (by omega)).2, hz4 j (by omega), if_neg (by omega)]
            refine ⟨⟨by omega, by omega⟩, fun c2 => by omega, fun _ => ⟨by omega, by omega, by omega, by omega, fun Z5 e5 => ih2 (j + 1) (u + 1) Z5 (by omega) (by omega) (fun b hb => ?_) (fun q hq => ?_)⟩⟩
            · rw [e5, up_row _ _ _ _ _ hb]; exact ho4 b hb
            · rw [e5, up_at]
              by_cases c2 : q = j
              · rw [if_pos c2, if_pos (by omega), c2]; rfl
              · rw [if_neg c2, hz4 q hq]
                by_cases c4 : q < j
                · rw [if_pos c4, if_pos (by omega)]
                · rw [if_neg c4, if_neg (by omega)]
        exact lp2 10 0 0 Z3 rfl rfl (fun _ _ => rfl) (fun q hq => by rw [if_neg (by omega)]; exact hz q hq)
    refine lp1 5 0 0 Z2 rfl rfl (fun b hb => ?_) (fun i hi => ?_) ⟨b14, b15, b16⟩ (fun j hj => ?_) (fun j hj => ?_)
    · rw [hO2 b (by omega), o1 b (by omega)]
    · rw [hc2 i hi, o1 c (by omega)]
    · rw [← hPd, ← hYd]; exact ⟨bP j hj, bY j hj⟩
    · rw [hO2 (m + 11) (by omega), e1, fill_at _ _ _ _ hj]; rfl
  · have hf := bI_1 cc
    rw [decide_eq_true_eq] at hf
    rw [if_pos (by omega)] at h
    unfold ordFar at h
    rw [if_neg (by omega)] at h
    refine ⟨⟨by omega, by omega⟩, fun c2 => b_X5_orderAt_64 ⟨⟨by omega, by omega⟩, ⟨by omega, by omega⟩, ?_⟩, fun c2 => b_X5_orderAt_64 ⟨⟨by omega, by omega⟩, ⟨by decide, by decide⟩, ?_⟩⟩
    · rw [if_neg (by omega)] at h
      rw [dA, dB, hgn]; exact h Z ⟨Oth.rf, fun _ _ => rfl⟩
    · rw [if_pos (by omega)] at h
      rw [dA]; exact h Z ⟨Oth.rf, fun _ _ => rfl⟩
  · have hf := bI_1 cc
    rw [decide_eq_true_eq] at hf
    rw [if_pos (by omega)] at h
    unfold ordFar at h
    rw [if_pos (by omega)] at h
    refine ⟨⟨by omega, by omega⟩, fun c2 => b_X5_orderAt_64 ⟨⟨by decide, by decide⟩, ⟨by omega, by omega⟩, ?_⟩, fun c2 => b_X5_orderAt_64 ⟨⟨by decide, by decide⟩, ⟨by decide, by decide⟩, ?_⟩⟩
    · rw [if_neg (by omega)] at h
      rw [dB, hgn]; exact h Z ⟨Oth.rf, fun _ _ => rfl⟩
    · rw [if_pos (by omega)] at h
      exact h Z ⟨Oth.rf, fun _ _ => rfl⟩
