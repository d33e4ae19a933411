theorem dX1_load_0 : decode cX1_load 0 = .ok (.aload_n 0, 1) := by decide +kernel
theorem dX1_load_1 : decode cX1_load 1 = .ok (.iconst 0, 1) := by decide +kernel
theorem dX1_load_2 : decode cX1_load 2 = .ok (.putfield 44, 3) := by decide +kernel
theorem dX1_load_5 : decode cX1_load 5 = .ok (.aload_n 0, 1) := by decide +kernel
theorem dX1_load_6 : decode cX1_load 6 = .ok (.aload_n 2, 1) := by decide +kernel
theorem dX1_load_7 : decode cX1_load 7 = .ok (.getfield 48, 3) := by decide +kernel
theorem dX1_load_10 : decode cX1_load 10 = .ok (.bipush 50, 2) := by decide +kernel
theorem dX1_load_12 : decode cX1_load 12 = .ok (.invokestatic 54, 3) := by decide +kernel
theorem dX1_load_15 : decode cX1_load 15 = .ok (.putfield 60, 3) := by decide +kernel
theorem dX1_load_18 : decode cX1_load 18 = .ok (.aload_n 0, 1) := by decide +kernel
theorem dX1_load_19 : decode cX1_load 19 = .ok (.iconst 0, 1) := by decide +kernel
theorem dX1_load_20 : decode cX1_load 20 = .ok (.putfield 61, 3) := by decide +kernel
theorem dX1_load_23 : decode cX1_load 23 = .ok (.iconst 0, 1) := by decide +kernel
theorem dX1_load_24 : decode cX1_load 24 = .ok (.istore_n 3, 1) := by decide +kernel
theorem dX1_load_25 : decode cX1_load 25 = .ok (.iload_n 3, 1) := by decide +kernel
theorem dX1_load_26 : decode cX1_load 26 = .ok (.aload_n 1, 1) := by decide +kernel
theorem dX1_load_27 : decode cX1_load 27 = .ok (.getfield 64, 3) := by decide +kernel
theorem dX1_load_30 : decode cX1_load 30 = .ok (.iconst 1, 1) := by decide +kernel
theorem dX1_load_31 : decode cX1_load 31 = .ok (.isub, 1) := by decide +kernel
theorem dX1_load_32 : decode cX1_load 32 = .ok (.if_icmp .ge 52, 3) := by decide +kernel
theorem dX1_load_35 : decode cX1_load 35 = .ok (.aload_n 0, 1) := by decide +kernel
theorem dX1_load_36 : decode cX1_load 36 = .ok (.getfield 61, 3) := by decide +kernel
theorem dX1_load_39 : decode cX1_load 39 = .ok (.bipush 26, 2) := by decide +kernel
theorem dX1_load_41 : decode cX1_load 41 = .ok (.if_icmp .ge 43, 3) := by decide +kernel
theorem dX1_load_44 : decode cX1_load 44 = .ok (.aload_n 2, 1) := by decide +kernel
theorem dX1_load_45 : decode cX1_load 45 = .ok (.getfield 69, 3) := by decide +kernel
theorem dX1_load_48 : decode cX1_load 48 = .ok (.aload_n 1, 1) := by decide +kernel
theorem dX1_load_49 : decode cX1_load 49 = .ok (.getfield 73, 3) := by decide +kernel
theorem dX1_load_52 : decode cX1_load 52 = .ok (.iload_n 3, 1) := by decide +kernel
theorem dX1_load_53 : decode cX1_load 53 = .ok (.iaload, 1) := by decide +kernel
theorem dX1_load_54 : decode cX1_load 54 = .ok (.baload, 1) := by decide +kernel
theorem dX1_load_55 : decode cX1_load 55 = .ok (.ifCond .ne 23, 3) := by decide +kernel
theorem dX1_load_58 : decode cX1_load 58 = .ok (.aload_n 0, 1) := by decide +kernel
theorem dX1_load_59 : decode cX1_load 59 = .ok (.getfield 18, 3) := by decide +kernel
theorem dX1_load_62 : decode cX1_load 62 = .ok (.aload_n 0, 1) := by decide +kernel
theorem dX1_load_63 : decode cX1_load 63 = .ok (.getfield 61, 3) := by decide +kernel
theorem dX1_load_66 : decode cX1_load 66 = .ok (.iload_n 3, 1) := by decide +kernel
theorem dX1_load_67 : decode cX1_load 67 = .ok (.iastore, 1) := by decide +kernel
theorem dX1_load_68 : decode cX1_load 68 = .ok (.aload_n 0, 1) := by decide +kernel
theorem dX1_load_69 : decode cX1_load 69 = .ok (.dup, 1) := by decide +kernel
theorem dX1_load_70 : decode cX1_load 70 = .ok (.getfield 61, 3) := by decide +kernel
theorem dX1_load_73 : decode cX1_load 73 = .ok (.iconst 1, 1) := by decide +kernel
theorem dX1_load_74 : decode cX1_load 74 = .ok (.iadd, 1) := by decide +kernel
theorem dX1_load_75 : decode cX1_load 75 = .ok (.putfield 61, 3) := by decide +kernel
theorem dX1_load_78 : decode cX1_load 78 = .ok (.iinc 3 1, 3) := by decide +kernel
theorem dX1_load_81 : decode cX1_load 81 = .ok (.goto (-56), 3) := by decide +kernel
theorem dX1_load_84 : decode cX1_load 84 = .ok (.iconst 0, 1) := by decide +kernel
theorem dX1_load_85 : decode cX1_load 85 = .ok (.istore_n 3, 1) := by decide +kernel
theorem dX1_load_86 : decode cX1_load 86 = .ok (.iload_n 3, 1) := by decide +kernel
theorem dX1_load_87 : decode cX1_load 87 = .ok (.aload_n 0, 1) := by decide +kernel
theorem dX1_load_88 : decode cX1_load 88 = .ok (.getfield 61, 3) := by decide +kernel
theorem dX1_load_91 : decode cX1_load 91 = .ok (.if_icmp .ge 16, 3) := by decide +kernel
theorem dX1_load_94 : decode cX1_load 94 = .ok (.aload_n 0, 1) := by decide +kernel
theorem dX1_load_95 : decode cX1_load 95 = .ok (.aload_n 1, 1) := by decide +kernel
theorem dX1_load_96 : decode cX1_load 96 = .ok (.aload_n 2, 1) := by decide +kernel
theorem dX1_load_97 : decode cX1_load 97 = .ok (.iload_n 3, 1) := by decide +kernel
theorem dX1_load_98 : decode cX1_load 98 = .ok (.invokevirtual 76, 3) := by decide +kernel
theorem dX1_load_101 : decode cX1_load 101 = .ok (.iinc 3 1, 3) := by decide +kernel
theorem dX1_load_104 : decode cX1_load 104 = .ok (.goto (-18), 3) := by decide +kernel
theorem dX1_load_107 : decode cX1_load 107 = .ok (.iconst 0, 1) := by decide +kernel
theorem dX1_load_108 : decode cX1_load 108 = .ok (.istore_n 3, 1) := by decide +kernel
theorem dX1_load_109 : decode cX1_load 109 = .ok (.iload_n 3, 1) := by decide +kernel
theorem dX1_load_110 : decode cX1_load 110 = .ok (.aload_n 0, 1) := by decide +kernel
theorem dX1_load_111 : decode cX1_load 111 = .ok (.getfield 60, 3) := by decide +kernel
theorem dX1_load_114 : decode cX1_load 114 = .ok (.if_icmp .ge 19, 3) := by decide +kernel
theorem dX1_load_117 : decode cX1_load 117 = .ok (.aload_n 0, 1) := by decide +kernel
theorem dX1_load_118 : decode cX1_load 118 = .ok (.aload_n 1, 1) := by decide +kernel
theorem dX1_load_119 : decode cX1_load 119 = .ok (.getfield 80, 3) := by decide +kernel
theorem dX1_load_122 : decode cX1_load 122 = .ok (.aload_n 2, 1) := by decide +kernel
theorem dX1_load_123 : decode cX1_load 123 = .ok (.iload_n 3, 1) := by decide +kernel
theorem dX1_load_124 : decode cX1_load 124 = .ok (.invokevirtual 84, 3) := by decide +kernel
theorem dX1_load_127 : decode cX1_load 127 = .ok (.iinc 3 1, 3) := by decide +kernel
theorem dX1_load_130 : decode cX1_load 130 = .ok (.goto (-21), 3) := by decide +kernel
theorem dX1_load_133 : decode cX1_load 133 = .ok (.aload_n 0, 1) := by decide +kernel
theorem dX1_load_134 : decode cX1_load 134 = .ok (.aload_n 1, 1) := by decide +kernel
theorem dX1_load_135 : decode cX1_load 135 = .ok (.getfield 80, 3) := by decide +kernel
theorem dX1_load_138 : decode cX1_load 138 = .ok (.invokevirtual 88, 3) := by decide +kernel
theorem dX1_load_141 : decode cX1_load 141 = .ok (.aload_n 0, 1) := by decide +kernel
theorem dX1_load_142 : decode cX1_load 142 = .ok (.iconst 1, 1) := by decide +kernel
theorem dX1_load_143 : decode cX1_load 143 = .ok (.putfield 92, 3) := by decide +kernel
theorem dX1_load_146 : decode cX1_load 146 = .ok (.iconst 0, 1) := by decide +kernel
theorem dX1_load_147 : decode cX1_load 147 = .ok (.istore_n 3, 1) := by decide +kernel
theorem dX1_load_148 : decode cX1_load 148 = .ok (.iload_n 3, 1) := by decide +kernel
theorem dX1_load_149 : decode cX1_load 149 = .ok (.aload_n 0, 1) := by decide +kernel
theorem dX1_load_150 : decode cX1_load 150 = .ok (.getfield 95, 3) := by decide +kernel
theorem dX1_load_153 : decode cX1_load 153 = .ok (.if_icmp .ge 55, 3) := by decide +kernel
theorem dX1_load_156 : decode cX1_load 156 = .ok (.aload_n 0, 1) := by decide +kernel
theorem dX1_load_157 : decode cX1_load 157 = .ok (.getfield 92, 3) := by decide +kernel
theorem dX1_load_160 : decode cX1_load 160 = .ok (.iconst (-1), 1) := by decide +kernel
theorem dX1_load_161 : decode cX1_load 161 = .ok (.if_icmp .eq 47, 3) := by decide +kernel
theorem dX1_load_164 : decode cX1_load 164 = .ok (.aload_n 0, 1) := by decide +kernel
theorem dX1_load_165 : decode cX1_load 165 = .ok (.dup, 1) := by decide +kernel
theorem dX1_load_166 : decode cX1_load 166 = .ok (.getfield 92, 3) := by decide +kernel
theorem dX1_load_169 : decode cX1_load 169 = .ok (.aload_n 1, 1) := by decide +kernel
theorem dX1_load_170 : decode cX1_load 170 = .ok (.getfield 80, 3) := by decide +kernel
theorem dX1_load_173 : decode cX1_load 173 = .ok (.getfield 98, 3) := by decide +kernel
theorem dX1_load_176 : decode cX1_load 176 = .ok (.imul, 1) := by decide +kernel
theorem dX1_load_177 : decode cX1_load 177 = .ok (.putfield 92, 3) := by decide +kernel
theorem dX1_load_180 : decode cX1_load 180 = .ok (.aload_n 0, 1) := by decide +kernel
theorem dX1_load_181 : decode cX1_load 181 = .ok (.aload_n 0, 1) := by decide +kernel
theorem dX1_load_182 : decode cX1_load 182 = .ok (.getfield 92, 3) := by decide +kernel
theorem dX1_load_185 : decode cX1_load 185 = .ok (.sipush 2500, 3) := by decide +kernel
theorem dX1_load_188 : decode cX1_load 188 = .ok (.if_icmp .le 7, 3) := by decide +kernel
theorem dX1_load_191 : decode cX1_load 191 = .ok (.iconst (-1), 1) := by decide +kernel
theorem dX1_load_192 : decode cX1_load 192 = .ok (.goto 7, 3) := by decide +kernel
theorem dX1_load_195 : decode cX1_load 195 = .ok (.aload_n 0, 1) := by decide +kernel
theorem dX1_load_196 : decode cX1_load 196 = .ok (.getfield 92, 3) := by decide +kernel
theorem dX1_load_199 : decode cX1_load 199 = .ok (.putfield 92, 3) := by decide +kernel
theorem dX1_load_202 : decode cX1_load 202 = .ok (.iinc 3 1, 3) := by decide +kernel
theorem dX1_load_205 : decode cX1_load 205 = .ok (.goto (-57), 3) := by decide +kernel
theorem dX1_load_208 : decode cX1_load 208 = .ok (.return_, 1) := by decide +kernel
set_option maxRecDepth 20000 in
theorem b_X1_load_0 {k n : Nat} {x : Wx} {Z : Zt} {Q : Option Value → Wx → Zt → Prop} {a0 : Nat} {a1 : Nat} {a2 : Nat} (o_a0 : Is1 x a0) (o_a2 : Is9 x a2)
    (h : ∀ Z1 : Zt, Z1 = up Z a0 7 0 → (Rg (Z1 a2 1) ∧ (∀ Z2 : Zt, Z2 = up Z1 a0 8 (min (Z1 a2 1) 50) → (∀ Z3 : Zt, Z3 = up Z2 a0 0 0 → (V mX1_load k n 25 [some (r_ a0), some (r_ a1), some (r_ a2), some (i_ 0)] [] x Z3 Q))))) :
    V mX1_load k n 0 [some (r_ a0), some (r_ a1), some (r_ a2), none] [] x Z Q :=
  V_aload_n dX1_load_0 rfl (V_iconst dX1_load_1 (P_1_7 o_a0.1 lf_1_44 (Or.inl rfl) dX1_load_2 (V_nmZ (fun Z1 eZ1 => V_aload_n dX1_load_5 rfl (V_aload_n dX1_load_6 rfl (G_9_1 o_a2.1 lf_1_48 dX1_load_7 (V_bipush dX1_load_10 rfl (V_mmin lm_1_54 (Nat.le_of_ble_eq_true rfl) (Nat.le_of_ble_eq_true rfl) (h Z1 eZ1).1 (rg_c rfl) dX1_load_12 (P_1_8 o_a0.1 lf_1_60 dX1_load_15 (V_nmZ (fun Z2 eZ2 => V_aload_n dX1_load_18 rfl (V_iconst dX1_load_19 (P_1_0 o_a0.1 lf_1_61 dX1_load_20 (V_nmZ (fun Z3 eZ3 => V_iconst dX1_load_23 (V_istore_n (lv' := [some (r_ a0), some (r_ a1), some (r_ a2), some (i_ 0)]) dX1_load_24 (Nat.le_of_ble_eq_true rfl) rfl (V_msk [true, true, true, true] rfl (((h Z1 eZ1).2 Z2 eZ2) Z3 eZ3))))))))))))))))))
set_option maxRecDepth 20000 in
theorem b_X1_load_25 {k n : Nat} {x : Wx} {Z : Zt} {Q : Option Value → Wx → Zt → Prop} {a0 : Nat} {a1 : Nat} {a2 : Nat} {v3 : Int} (o_a1 : Is2 x a1) (o_a0 : Is1 x a0) (o_a2 : Is9 x a2)
    (h : Rg v3 ∧ Rg ((Z a1 3) - 1) ∧ ((((Z a1 3) - 1 ≤ v3) → (V mX1_load k n 84 [some (r_ a0), some (r_ a1), some (r_ a2), none] [] x Z Q)) ∧ ((v3 < (Z a1 3) - 1) → (Rg (Z a0 0) ∧ (((26 ≤ Z a0 0) → (V mX1_load k n 84 [some (r_ a0), some (r_ a1), some (r_ a2), none] [] x Z Q)) ∧ ((Z a0 0 < 26) → (0 ≤ v3 ∧ v3 < 27 ∧ (0 ≤ Z (a1 + 6) v3.toNat ∧ Z (a1 + 6) v3.toNat < 13 ∧ (Rg (Z (a2 + 2) (Z (a1 + 6) v3.toNat).toNat) ∧ (((Z (a2 + 2) (Z (a1 + 6) v3.toNat).toNat ≠ 0) → (V mX1_load k n 78 [some (r_ a0), some (r_ a1), some (r_ a2), some (i_ v3)] [] x Z Q)) ∧ ((Z (a2 + 2) (Z (a1 + 6) v3.toNat).toNat = 0) → (0 ≤ Z a0 0 ∧ (∀ Z1 : Zt, Z1 = up Z (a0 + 3) (Z a0 0).toNat v3 → (∀ Z2 : Zt, Z2 = up Z1 a0 0 ((Z1 a0 0) + 1) → (V mX1_load k n 78 [some (r_ a0), some (r_ a1), some (r_ a2), some (i_ v3)] [] x Z2 Q))))))))))))))) :
    V mX1_load k n 25 [some (r_ a0), some (r_ a1), some (r_ a2), some (i_ v3)] [] x Z Q :=
  V_iload_n dX1_load_25 rfl (V_aload_n dX1_load_26 rfl (G_2_3 o_a1.1 lf_1_64 dX1_load_27 (V_iconst dX1_load_30 (V_isub dX1_load_31 (V_icmp_ge (tgt := 84) dX1_load_32 rfl h.1 h.2.1 (fun c1 => V_msk [true, true, true, false] rfl (h.2.2.1 c1)) (fun c1 => V_aload_n dX1_load_35 rfl (G_1_0 o_a0.1 lf_1_61 dX1_load_36 (V_bipush dX1_load_39 rfl (V_icmp_ge (tgt := 84) dX1_load_41 rfl (h.2.2.2 c1).1 (rg_c rfl) (fun c2 => V_msk [true, true, true, false] rfl ((h.2.2.2 c1).2.1 c2)) (fun c2 => V_aload_n dX1_load_44 rfl (G_9_5 o_a2.1 o_a2.2.2.2.1 lf_1_69 dX1_load_45 (V_aload_n dX1_load_48 rfl (G_2_4 o_a1.1 o_a1.2.2.2.2.2.1 lf_1_73 dX1_load_49 (V_iload_n dX1_load_52 rfl (V_iald (t := 100) o_a1.2.2.2.2.2.2.1 (by decide) rfl ((h.2.2.2 c1).2.2 c2).1 ((h.2.2.2 c1).2.2 c2).2.1 (Nat.le_of_ble_eq_true rfl) dX1_load_53 (V_zald (t := 102) o_a2.2.2.2.2.1 (by decide) rfl ((h.2.2.2 c1).2.2 c2).2.2.1 ((h.2.2.2 c1).2.2 c2).2.2.2.1 (Nat.le_of_ble_eq_true rfl) dX1_load_54 (V_if_ne (tgt := 78) dX1_load_55 rfl ((h.2.2.2 c1).2.2 c2).2.2.2.2.1 (fun c3 => V_msk [true, true, true, true] rfl (((h.2.2.2 c1).2.2 c2).2.2.2.2.2.1 c3)) (fun c3 => V_aload_n dX1_load_58 rfl (G_1_9 o_a0.1 o_a0.2.2.2.2.2.1 lf_1_18 dX1_load_59 (V_aload_n dX1_load_62 rfl (G_1_0 o_a0.1 lf_1_61 dX1_load_63 (V_iload_n dX1_load_66 rfl (V_iast (t := 100) o_a0.2.2.2.2.2.2.1 (by decide) (by decide) rfl (((h.2.2.2 c1).2.2 c2).2.2.2.2.2.2 c3).1 c2 (Nat.le_of_ble_eq_true rfl) dX1_load_67 (V_nmZ (fun Z1 eZ1 => V_aload_n dX1_load_68 rfl (V_dup dX1_load_69 rfl (G_1_0 o_a0.1 lf_1_61 dX1_load_70 (V_iconst dX1_load_73 (V_iadd dX1_load_74 (P_1_0 o_a0.1 lf_1_61 dX1_load_75 (V_nmZ (fun Z2 eZ2 => V_msk [true, true, true, true] rfl (((((h.2.2.2 c1).2.2 c2).2.2.2.2.2.2 c3).2 Z1 eZ1) Z2 eZ2)))))))))))))))))))))))))))))))))
set_option maxRecDepth 20000 in
theorem b_X1_load_78 {k n : Nat} {x : Wx} {Z : Zt} {Q : Option Value → Wx → Zt → Prop} {a0 : Nat} {a1 : Nat} {a2 : Nat} {v3 : Int} 
    (h : V mX1_load k n 25 [some (r_ a0), some (r_ a1), some (r_ a2), some (i_ (v3 + 1))] [] x Z Q) :
    V mX1_load k n 78 [some (r_ a0), some (r_ a1), some (r_ a2), some (i_ v3)] [] x Z Q :=
  V_iinc (lv' := [some (r_ a0), some (r_ a1), some (r_ a2), some (i_ (v3 + 1))]) dX1_load_78 rfl (Nat.le_of_ble_eq_true rfl) rfl (V_goto (tgt := 25) dX1_load_81 rfl (V_msk [true, true, true, true] rfl h))
set_option maxRecDepth 20000 in
theorem b_X1_load_84 {k n : Nat} {x : Wx} {Z : Zt} {Q : Option Value → Wx → Zt → Prop} {a0 : Nat} {a1 : Nat} {a2 : Nat} 
    (h : V mX1_load k n 86 [some (r_ a0), some (r_ a1), some (r_ a2), some (i_ 0)] [] x Z Q) :
    V mX1_load k n 84 [some (r_ a0), some (r_ a1), some (r_ a2), none] [] x Z Q :=
  V_iconst dX1_load_84 (V_istore_n (lv' := [some (r_ a0), some (r_ a1), some (r_ a2), some (i_ 0)]) dX1_load_85 (Nat.le_of_ble_eq_true rfl) rfl (V_msk [true, true, true, true] rfl h))
set_option maxRecDepth 20000 in
theorem b_X1_load_86 {k n : Nat} {x : Wx} {Z : Zt} {Q : Option Value → Wx → Zt → Prop} {a0 : Nat} {a1 : Nat} {a2 : Nat} {v3 : Int} (o_a0 : Is1 x a0) (o_a1 : Is2 x a1) (o_a2 : Is9 x a2)
    (h : Rg v3 ∧ Rg (Z a0 0) ∧ (((Z a0 0 ≤ v3) → (V mX1_load k n 109 [some (r_ a0), some (r_ a1), some (r_ a2), some (i_ 0)] [] x Z Q)) ∧ ((v3 < Z a0 0) → (∃ g1 : Int, (∃ g2 : Nat → Int, (∃ g3 : Un, (∃ g4 : Nat, (IsP g1 ∧ CvA Z a1 g1 g2 ∧ (Z a2 3 = (g3.1 : Int) ∧ g3.1 ≤ 40) ∧ (∀ i : Nat, i < 41 → Z (a2 + 1) i = g3.2 i ∧ 0 ≤ g3.2 i ∧ g3.2 i < g1) ∧ (-100 ≤ Z a2 2 ∧ Z a2 2 < 90) ∧ (0 ≤ v3 ∧ v3 < 26) ∧ (Z (a0 + 3) (Int.toNat v3) = (g4 : Int) ∧ g4 + 1 < (pall g1 g2).length) ∧ (a1 + 16 ≤ a0 ∨ a0 + 113 ≤ a1) ∧ (a2 + 48 ≤ a0 ∨ a0 + 113 ≤ a2) ∧ (∀ (Z'1 : Zt), ((∀ j : Nat, j < 90 → Z'1 (a0 + 56 + Int.toNat v3) j = pwrW g1 g2 (Z a2 2) g3 ((pall g1 g2).getD g4 (0, 0)).1 ((pall g1 g2).getD g4 (0, 0)).2 j) ∧ Oth Z Z'1 (fun b => b = a0 + 56 + Int.toNat v3)) → (V mX1_load k n 86 [some (r_ a0), some (r_ a1), some (r_ a2), some (i_ (v3 + 1))] [] x Z'1 Q)))))))))) :
    V mX1_load k n 86 [some (r_ a0), some (r_ a1), some (r_ a2), some (i_ v3)] [] x Z Q :=
  V_iload_n dX1_load_86 rfl (V_aload_n dX1_load_87 rfl (G_1_0 o_a0.1 lf_1_61 dX1_load_88 (V_icmp_ge (tgt := 107) dX1_load_91 rfl h.1 h.2.1 (fun c1 => V_iconst dX1_load_107 (V_istore_n (lv' := [some (r_ a0), some (r_ a1), some (r_ a2), some (i_ 0)]) dX1_load_108 (Nat.le_of_ble_eq_true rfl) rfl (V_msk [true, true, true, true] rfl (h.2.2.1 c1)))) (fun c1 => V_aload_n dX1_load_94 rfl (V_aload_n dX1_load_95 rfl (V_aload_n dX1_load_96 rfl (V_iload_n dX1_load_97 rfl (Exists.elim (h.2.2.2 c1) (fun g1 w1 => Exists.elim w1 (fun g2 w2 => Exists.elim w2 (fun g3 w3 => Exists.elim w3 (fun g4 w4 => V_callV (k' := 0) (n' := 0) (t := 1) (q := (RX1, TX1, 17)) [r_ a1, r_ a2, i_ v3] [] okX1_takePowers o_a0.1 rfl rfl lm_1_76 liX1_takePowers lqX1_takePowers (Nat.le_of_ble_eq_true rfl) (Nat.le_of_ble_eq_true rfl) (Nat.le_of_ble_eq_true rfl) (cat_of rfl) (Nat.le_of_ble_eq_true rfl) (Nat.zero_le _) (Nat.zero_le _) rfl dX1_load_98 (sp_X1_takePowers o_a0 o_a1 o_a2 w4.1 w4.2.1 w4.2.2.1 w4.2.2.2.1 w4.2.2.2.2.1 w4.2.2.2.2.2.1 w4.2.2.2.2.2.2.1 w4.2.2.2.2.2.2.2.1 w4.2.2.2.2.2.2.2.2.1 (fun Z'1 p1 => V_iinc (lv' := [some (r_ a0), some (r_ a1), some (r_ a2), some (i_ (v3 + 1))]) dX1_load_101 rfl (Nat.le_of_ble_eq_true rfl) rfl (V_goto (tgt := 86) dX1_load_104 rfl (V_msk [true, true, true, true] rfl (w4.2.2.2.2.2.2.2.2.2 Z'1 p1)))))))))))))))))
set_option maxRecDepth 20000 in
theorem b_X1_load_109 {k n : Nat} {x : Wx} {Z : Zt} {Q : Option Value → Wx → Zt → Prop} {a0 : Nat} {a1 : Nat} {a2 : Nat} {v3 : Int} (o_a0 : Is1 x a0) (o_a1 : Is2 x a1) (o_a2 : Is9 x a2)
    (h : Rg v3 ∧ Rg (Z a0 8) ∧ (((Z a0 8 ≤ v3) → (∃ g1 : Int, (∃ g2 : Nat, (∃ g3 : Nat, (∃ g4 : Nat → Nat → Int, (IsP g1 ∧ FA Z (a1 + 1) g1 ∧ (Z a0 0 = (g2 : Int) ∧ g2 ≤ 26) ∧ (Z a0 8 = (g3 : Int) ∧ g3 ≤ 50) ∧ (∀ q : Nat, q < g3 → ∀ i : Nat, i < g2 → Z (a0 + 5 + q) i = g4 q i ∧ 0 ≤ g4 q i ∧ g4 q i < g1) ∧ ((a1 + 1) + 3 ≤ a0 ∨ a0 + 113 ≤ (a1 + 1)) ∧ (∀ (Z'1 : Zt), ((∀ j : Nat, j < (bsN g1 g2 g4 g3).2.2 → ∀ i : Nat, i < g2 → Z'1 (a0 + 83 + j) i = (bsN g1 g2 g4 g3).1 j i) ∧ Z'1 a0 = (fun i => if i = 1 then ((bsN g1 g2 g4 g3).2.2 : Int) else Z a0 i) ∧ Oth Z Z'1 (fun b => b = a0 ∨ (a0 + 83 ≤ b ∧ b < a0 + 110))) → (∀ Z1 : Zt, Z1 = up Z'1 a0 2 1 → (V mX1_load k n 148 [some (r_ a0), some (r_ a1), none, some (i_ 0)] [] x Z1 Q))))))))) ∧ ((v3 < Z a0 8) → (∃ g5 : Int, (∃ g6 : Nat → Nat, (∃ g7 : Nat, (∃ g8 : Nat → Nat → Int, (IsP g5 ∧ Z (a1 + 1) 0 = g5 ∧ LnA x a2 g6 ∧ (Z a0 0 = (g7 : Int) ∧ g7 ≤ 26) ∧ (0 ≤ v3 ∧ v3 < 50) ∧ (0 ≤ Z a2 1 ∧ Z a2 1 ≤ 90) ∧ (-100 ≤ Z a2 2 ∧ Z a2 2 < 90) ∧ (∀ i : Nat, (i : Int) < Z a2 1 → 0 ≤ Z (a2 + 47) i ∧ Z (a2 + 47) i < 90) ∧ (∀ i : Nat, (i : Int) ≤ Z a2 2 → -2 ≤ Z (a2 + 46) i ∧ Z (a2 + 46) i < 40 ∧ (0 ≤ Z (a2 + 46) i → ∀ j : Nat, j < 90 → 0 ≤ Z (a2 + 6 + g6 (Z (a2 + 46) i).toNat) j ∧ Z (a2 + 6 + g6 (Z (a2 + 46) i).toNat) j < g5)) ∧ (∀ t : Nat, t < g7 → ∀ j : Nat, j < 90 → Z (a0 + 56 + t) j = g8 t j ∧ 0 ≤ g8 t j ∧ g8 t j < g5) ∧ ((a1 + 1) + 3 ≤ a0 ∨ a0 + 113 ≤ (a1 + 1)) ∧ (a2 + 48 ≤ a0 ∨ a0 + 113 ≤ a2) ∧ (∀ (Z'2 : Zt), ((∀ t : Nat, t < g7 → Z'2 (a0 + 5 + Int.toNat v3) t = valW g5 (fun j => cof g5 (fun i j => Z (a2 + 6 + g6 i) j) (Z a2 1) (Z a2 2) (Z (a2 + 46)) (Z (a2 + 47)) v3 j) (g8 t) (Z a2 2 + 1).toNat) ∧ (∀ t : Nat, g7 ≤ t → t < 26 → Z'2 (a0 + 5 + Int.toNat v3) t = 0) ∧ Oth Z Z'2 (fun b => b = a0 + 5 + Int.toNat v3)) → (V mX1_load k n 109 [some (r_ a0), some (r_ a1), some (r_ a2), some (i_ (v3 + 1))] [] x Z'2 Q)))))))))) :
    V mX1_load k n 109 [some (r_ a0), some (r_ a1), some (r_ a2), some (i_ v3)] [] x Z Q :=
  V_iload_n dX1_load_109 rfl (V_aload_n dX1_load_110 rfl (G_1_8 o_a0.1 lf_1_60 dX1_load_111 (V_icmp_ge (tgt := 133) dX1_load_114 rfl h.1 h.2.1 (fun c1 => V_aload_n dX1_load_133 rfl (V_aload_n dX1_load_134 rfl (G_2_0 o_a1.1 o_a1.2.1 lf_1_80 dX1_load_135 (Exists.elim (h.2.2.1 c1) (fun g1 w1 => Exists.elim w1 (fun g2 w2 => Exists.elim w2 (fun g3 w3 => Exists.elim w3 (fun g4 w4 => V_callV (k' := 0) (n' := 0) (t := 1) (q := (RX1, TX1, 17)) [r_ (a1 + 1)] [] okX1_findBasis o_a0.1 rfl rfl lm_1_88 liX1_findBasis lqX1_findBasis (Nat.le_of_ble_eq_true rfl) (Nat.le_of_ble_eq_true rfl) (Nat.le_of_ble_eq_true rfl) (cat_of rfl) (Nat.le_of_ble_eq_true rfl) (Nat.zero_le _) (Nat.zero_le _) rfl dX1_load_138 (sp_X1_findBasis o_a0 o_a1.2.2.1 w4.1 w4.2.1 w4.2.2.1 w4.2.2.2.1 w4.2.2.2.2.1 w4.2.2.2.2.2.1 (fun Z'1 p1 => V_aload_n dX1_load_141 rfl (V_iconst dX1_load_142 (P_1_2 o_a0.1 lf_1_92 dX1_load_143 (V_nmZ (fun Z1 eZ1 => V_iconst dX1_load_146 (V_istore_n (lv' := [some (r_ a0), some (r_ a1), some (r_ a2), some (i_ 0)]) dX1_load_147 (Nat.le_of_ble_eq_true rfl) rfl (V_msk [true, true, false, true] rfl ((w4.2.2.2.2.2.2 Z'1 p1) Z1 eZ1))))))))))))))))) (fun c1 => V_aload_n dX1_load_117 rfl (V_aload_n dX1_load_118 rfl (G_2_0 o_a1.1 o_a1.2.1 lf_1_80 dX1_load_119 (V_aload_n dX1_load_122 rfl (V_iload_n dX1_load_123 rfl (Exists.elim (h.2.2.2 c1) (fun g5 w5 => Exists.elim w5 (fun g6 w6 => Exists.elim w6 (fun g7 w7 => Exists.elim w7 (fun g8 w8 => V_callV (k' := 0) (n' := 0) (t := 1) (q := (RX1, TX1, 17)) [r_ (a1 + 1), r_ a2, i_ v3] [] okX1_takeValues o_a0.1 rfl rfl lm_1_84 liX1_takeValues lqX1_takeValues (Nat.le_of_ble_eq_true rfl) (Nat.le_of_ble_eq_true rfl) (Nat.le_of_ble_eq_true rfl) (cat_of rfl) (Nat.le_of_ble_eq_true rfl) (Nat.zero_le _) (Nat.zero_le _) rfl dX1_load_124 (sp_X1_takeValues o_a0 o_a1.2.2.1 o_a2 w8.1 w8.2.1 w8.2.2.1 w8.2.2.2.1 w8.2.2.2.2.1 w8.2.2.2.2.2.1 w8.2.2.2.2.2.2.1 w8.2.2.2.2.2.2.2.1 w8.2.2.2.2.2.2.2.2.1 w8.2.2.2.2.2.2.2.2.2.1 w8.2.2.2.2.2.2.2.2.2.2.1 w8.2.2.2.2.2.2.2.2.2.2.2.1 (fun Z'2 p2 => V_iinc (lv' := [some (r_ a0), some (r_ a1), some (r_ a2), some (i_ (v3 + 1))]) dX1_load_127 rfl (Nat.le_of_ble_eq_true rfl) rfl (V_goto (tgt := 109) dX1_load_130 rfl (V_msk [true, true, true, true] rfl (w8.2.2.2.2.2.2.2.2.2.2.2.2 Z'2 p2))))))))))))))))))
set_option maxRecDepth 20000 in
theorem b_X1_load_148 {k n : Nat} {x : Wx} {Z : Zt} {Q : Option Value → Wx → Zt → Prop} {a0 : Nat} {a1 : Nat} {v3 : Int} (o_a0 : Is1 x a0) (o_a1 : Is2 x a1)
    (h : Rg v3 ∧ Rg (Z a0 1) ∧ (((Z a0 1 ≤ v3) → (Q none x Z)) ∧ ((v3 < Z a0 1) → (Rg (Z a0 2) ∧ (((Z a0 2 = (-1)) → (Q none x Z)) ∧ ((Z a0 2 ≠ (-1)) → (∀ Z1 : Zt, Z1 = up Z a0 2 ((Z a0 2) * (Z (a1 + 1) 0)) → (Rg (Z1 a0 2) ∧ (((Z1 a0 2 ≤ 2500) → (V mX1_load k n 199 [some (r_ a0), some (r_ a1), none, some (i_ v3)] [i_ (Z1 a0 2), r_ a0] x Z1 Q)) ∧ ((2500 < Z1 a0 2) → (V mX1_load k n 199 [some (r_ a0), some (r_ a1), none, some (i_ v3)] [i_ (-1), r_ a0] x Z1 Q))))))))))) :
    V mX1_load k n 148 [some (r_ a0), some (r_ a1), none, some (i_ v3)] [] x Z Q :=
  V_iload_n dX1_load_148 rfl (V_aload_n dX1_load_149 rfl (G_1_1 o_a0.1 lf_1_95 dX1_load_150 (V_icmp_ge (tgt := 208) dX1_load_153 rfl h.1 h.2.1 (fun c1 => V_ret dX1_load_208 rfl (h.2.2.1 c1)) (fun c1 => V_aload_n dX1_load_156 rfl (G_1_2 o_a0.1 lf_1_92 dX1_load_157 (V_iconst dX1_load_160 (V_icmp_eq (tgt := 208) dX1_load_161 rfl (h.2.2.2 c1).1 (rg_c rfl) (fun c2 => V_ret dX1_load_208 rfl ((h.2.2.2 c1).2.1 c2)) (fun c2 => V_aload_n dX1_load_164 rfl (V_dup dX1_load_165 rfl (G_1_2 o_a0.1 lf_1_92 dX1_load_166 (V_aload_n dX1_load_169 rfl (G_2_0 o_a1.1 o_a1.2.1 lf_1_80 dX1_load_170 (G_4_0 o_a1.2.2.1.1 lf_1_98 dX1_load_173 (V_imul dX1_load_176 (P_1_2 o_a0.1 lf_1_92 dX1_load_177 (V_nmZ (fun Z1 eZ1 => V_aload_n dX1_load_180 rfl (V_aload_n dX1_load_181 rfl (G_1_2 o_a0.1 lf_1_92 dX1_load_182 (V_sipush dX1_load_185 rfl (V_icmp_le (tgt := 195) dX1_load_188 rfl (((h.2.2.2 c1).2.2 c2) Z1 eZ1).1 (rg_c rfl) (fun c3 => V_aload_n dX1_load_195 rfl (G_1_2 o_a0.1 lf_1_92 dX1_load_196 (V_msk [true, true, false, true] rfl ((((h.2.2.2 c1).2.2 c2) Z1 eZ1).2.1 c3)))) (fun c3 => V_iconst dX1_load_191 (V_goto (tgt := 199) dX1_load_192 rfl (V_msk [true, true, false, true] rfl ((((h.2.2.2 c1).2.2 c2) Z1 eZ1).2.2 c3)))))))))))))))))))))))))
set_option maxRecDepth 20000 in
theorem b_X1_load_199 {k n : Nat} {x : Wx} {Z : Zt} {Q : Option Value → Wx → Zt → Prop} {a0 : Nat} {a1 : Nat} {v3 : Int} {b0_ : Nat} {t1 : Int} (o_b0 : Is1 x b0_)
    (h : ∀ Z1 : Zt, Z1 = up Z b0_ 2 t1 → (V mX1_load k n 148 [some (r_ a0), some (r_ a1), none, some (i_ (v3 + 1))] [] x Z1 Q)) :
    V mX1_load k n 199 [some (r_ a0), some (r_ a1), none, some (i_ v3)] [i_ t1, r_ b0_] x Z Q :=
  P_1_2 o_b0.1 lf_1_92 dX1_load_199 (V_nmZ (fun Z1 eZ1 => V_iinc (lv' := [some (r_ a0), some (r_ a1), none, some (i_ (v3 + 1))]) dX1_load_202 rfl (Nat.le_of_ble_eq_true rfl) rfl (V_goto (tgt := 148) dX1_load_205 rfl (V_msk [true, true, false, true] rfl (h Z1 eZ1)))))
/-! ===== Code: loaded ===== -/
/-- how many places there are, and their POINTS -/
def plc (L : List (Int × Int)) (N : Nat → Int) : Nat → Nat × (Nat → Nat)
  | 0 => (0, fun _ => 0)
  | k + 1 => if N (L.getD k (0, 0)).1.toNat = 0 then ((plc L N k).1 + 1, upn (plc L N k).2 (plc L N k).1 k) else plc L N k
theorem plc_rg (L : List (Int × Int)) (N : Nat → Int) : ∀ k : Nat, (plc L N k).1 ≤ k ∧ ∀ t : Nat, t < (plc L N k).1 → (plc L N k).2 t < k
  | 0 => ⟨Nat.le_refl _, fun t ht => absurd ht (Nat.not_lt_zero t)⟩
  | k + 1 => by
    have ih := plc_rg L N k
    unfold plc
    split
    · refine ⟨by show (plc L N k).1 + 1 ≤ k + 1; omega, fun t ht => ?_⟩
      have ht' : t < (plc L N k).1 + 1 := ht
      show upn (plc L N k).2 (plc L N k).1 k t < k + 1
      unfold upn
      split
      · omega
      · have := ih.2 t (by omega); omega
    · exact ⟨by omega, fun t ht => by have := ih.2 t ht; omega⟩
theorem plc_ext {L : List (Int × Int)} {N N' : Nat → Int} : ∀ {k : Nat}, (∀ i : Nat, i < k → N (L.getD i (0, 0)).1.toNat = N' (L.getD i (0, 0)).1.toNat) → plc L N k = plc L N' k
  | 0, _ => rfl
  | k + 1, h => by
    unfold plc
    rw [plc_ext (k := k) (fun i hi => h i (by omega)), h k (by omega)]
def cdT (p : Int) (F r : Nat → Int) : Nat × (Nat → Nat) := plc (pall p F) (nmd (pall p F) r (r 0).toNat) ((pall p F).length - 1)
/-- the values of the powers at a place -/
def cdP (p : Int) (F r : Nat → Int) (t : Nat) : Nat → Int := pwrW p F (rmP p F r) (rmU p F r) ((pall p F).getD ((cdT p F r).2 t) (0, 0)).1 ((pall p F).getD ((cdT p F r).2 t) (0, 0)).2
/-- BASE -/
def cofR (p : Int) (F r : Nat → Int) (k c : Int) : Int := cof p (rmS p F r).1 ((rmS p F r).2.2.2.2 : Nat) (rmP p F r) (rmS p F r).2.2.1 (rmS p F r).2.2.2.1 k c
def cdV (p : Int) (F r : Nat → Int) (k t : Nat) : Int := valW p (fun j => cofR p F r k j) (cdP p F r t) (rmP p F r + 1).toNat
def cdD (p : Int) (F r : Nat → Int) : Nat := min (rmS p F r).2.2.2.2 50
def cdB (p : Int) (F r : Nat → Int) : Bs := bsN p (cdT p F r).1 (cdV p F r) (cdD p F r)
def szF (p : Int) : Nat → Int
  | 0 => 1
  | i + 1 => if szF p i = -1 then -1 else if 2500 < szF p i * p then -1 else szF p i * p
theorem szF_rg {p : Int} (hp : 0 ≤ p ∧ p ≤ 13) : ∀ i : Nat, -1 ≤ szF p i ∧ szF p i ≤ 2500
  | 0 => ⟨by show (-1 : Int) ≤ 1; decide, by show (1 : Int) ≤ 2500; decide⟩
  | i + 1 => by
    have ih := szF_rg hp i
    unfold szF
    split
    · omega
    · split
      · omega
      · rename_i h1 h2
        have : 0 ≤ szF p i * p := Int.mul_nonneg (by omega) hp.1
        omega
theorem szF_stop {p : Int} {i : Nat} (h : szF p i = -1) : ∀ m : Nat, szF p (i + m) = -1
  | 0 => h
  | m + 1 => by
    show (if szF p (i + m) = -1 then -1 else _) = -1
    rw [if_pos (szF_stop h m)]
def CdA (Z : Zt) (a : Nat) (p : Int) (F r : Nat → Int) : Prop := (Z a 0 = ((cdT p F r).1 : Int) ∧ Z a 1 = ((cdB p F r).2.2 : Int) ∧ Z a 2 = szF p (cdB p F r).2.2 ∧ Z a 8 = (cdD p F r : Int)) ∧ (∀ k : Nat, k < cdD p F r → ∀ i : Nat, i < (cdT p F r).1 → Z (a + 5 + k) i = cdV p F r k i) ∧ (∀ j : Nat, j < (cdB p F r).2.2 → ∀ i : Nat, i < (cdT p F r).1 → Z (a + 83 + j) i = (cdB p F r).1 j i)
theorem cdT_rg {p : Int} (hp : IsP p) (F r : Nat → Int) : (cdT p F r).1 ≤ 26 ∧ ∀ t : Nat, t < (cdT p F r).1 → (cdT p F r).2 t + 1 < (pall p F).length := by
  have hl := pall_len hp F
  have := plc_rg (pall p F) (nmd (pall p F) r (r 0).toNat) ((pall p F).length - 1)
  exact ⟨by have := this.1; unfold cdT; omega, fun t ht => by have := this.2 t ht; unfold cdT; omega⟩
theorem cdV_rg {p : Int} (hp : IsP p) (F r : Nat → Int) (k t : Nat) : 0 ≤ cdV p F r k t ∧ cdV p F r k t < p := emr _ (by have := hp.rg; omega)
theorem cdB_I {p : Int} (hp : IsP p) (F r : Nat → Int) : BsI p (cdT p F r).1 (cdB p F r) := BsI.all (by have := hp.rg; omega) _
theorem RmA.cofE {x : Wx} {Z : Zt} {s : Nat} {p : Int} {F r : Nat → Int} {σ : Nat → Nat} (hp : IsP p) (h : RmA x Z s p F r σ) (k c : Int) : cof p (fun i j => Z (s + 6 + σ i) j) (Z s 1) (Z s 2) (Z (s + 46)) (Z (s + 47)) k c = cofR p F r k c := by
  obtain ⟨h1, ⟨h2, h3, h4, h5⟩, h6, h7, h8, h9, h10⟩ := h
  have hI := rmS_I hp (F := F) (r := r)
  have hLr := rmL_rg hp (F := F) (r := r)
  unfold cofR cof
  rw [h3, h4]
  by_cases c1 : k < 0 ∨ ((rmS p F r).2.2.2.2 : Int) ≤ k ∨ c < 0 ∨ rmP p F r < c
  · rw [if_pos c1, if_pos c1]
  · rw [if_neg c1, if_neg c1, h10 k.toNat (by omega), h9 c.toNat (by omega)]
    have hld := hI.2.2.2.2 k.toNat (by omega)
    have hpv := hI.2.2.2.1 c.toNat (by omega)
    have hru := hI.2.1
    by_cases c2 : (rmS p F r).2.2.2.1 k.toNat ≤ c
    · rw [if_pos c2, if_pos c2]
    · rw [if_neg c2, if_neg c2]
      by_cases c3 : (rmS p F r).2.2.1 c.toNat < 0
      · rw [if_pos c3, if_pos c3]
      · rw [if_neg c3, if_neg c3]
        dsimp only
        by_cases c4 : (rmP p F r) < 90
        · rw [h8 _ (by omega) _ (by omega)]
        · exact absurd (show rmP p F r ≤ 89 by unfold rmP; omega) (by omega)
theorem RmA.ok {x : Wx} {Z : Zt} {s : Nat} {p : Int} {F r : Nat → Int} {σ : Nat → Nat} (hp : IsP p) (hr : SumR r) (h : RmA x Z s p F r σ) : (0 ≤ Z s 1 ∧ Z s 1 ≤ 90) ∧ (-100 ≤ Z s 2 ∧ Z s 2 < 90) ∧ (∀ i : Nat, (i : Int) < Z s 1 → 0 ≤ Z (s + 47) i ∧ Z (s + 47) i < 90) ∧ (∀ i : Nat, (i : Int) ≤ Z s 2 → -2 ≤ Z (s + 46) i ∧ Z (s + 46) i < 40 ∧ (0 ≤ Z (s + 46) i → ∀ j : Nat, j < 90 → 0 ≤ Z (s + 6 + σ (Z (s + 46) i).toNat) j ∧ Z (s + 6 + σ (Z (s + 46) i).toNat) j < p)) := by
  obtain ⟨h1, ⟨h2, h3, h4, h5⟩, h6, h7, h8, h9, h10⟩ := h
  have hI := rmS_I hp (F := F) (r := r)
  have hLr := rmL_rg hp (F := F) (r := r)
  have hP := rmP_rg hp (F := F) hr
  have i1 := hI.2.1
  have i2 := hI.2.2.1
  rw [h3, h4]
  refine ⟨by omega, by omega, fun i hi => ?_, fun i hi => ?_⟩
  · rw [h10 i (by omega)]
    have := hI.2.2.2.2 i (by omega)
    omega
  · rw [h9 i hi]
    have := hI.2.2.2.1 i (by omega)
    refine ⟨this.1, by omega, fun h0 j hj => ?_⟩
    rw [h8 _ (by omega) j hj]
    exact hI.1 _ (by omega) j hj
theorem und_I {p : Int} (hp : 0 < p) (h1 : 1 < p) (D : Nat → Int) : UnI p (und p D) := by
  have : ∀ (m X : Nat) (w : Un), UnI p w → UnI p (undA p D m X w) := fun m => by
    induction m with
    | zero => intro X w h; exact h
    | succ m ih => intro X w h; exact ih _ _ (UnI.xs hp _ h)
  refine this _ _ _ ⟨fun i => ?_, fun i hi => ?_⟩
  · show 0 ≤ (if i = 0 then (1 : Int) else 0) ∧ (if i = 0 then (1 : Int) else 0) < p
    split <;> omega
  · show (if i = 0 then (1 : Int) else 0) = 0
    have hi' : 0 < i := hi
    rw [if_neg (by omega)]
theorem sp_X1_load {k n : Nat} {x : Wx} {Z : Zt} {Q : Option Value → Wx → Zt → Prop} {a c s : Nat} (o : Is1 x a) (oc : Is2 x c) (os : Is9 x s) {p : Int} {F r : Nat → Int} {σ : Nat → Nat} (hp : IsP p) (hr : SumR r) (hC : CvA Z c p F) (hR : RmA x Z s p F r σ) (hd1 : c + 16 ≤ a ∨ a + 113 ≤ c) (hd2 : s + 48 ≤ a ∨ a + 113 ≤ s) (h : ∀ Z' : Zt, (CdA Z' a p F r ∧ Z' a 7 = 0 ∧ Oth Z Z' (fun b => a ≤ b ∧ b < a + 113)) → Q none x Z') : V mX1_load k n 0 [some (r_ a), some (r_ c), some (r_ s), none] [] x Z Q := by
  have hpr := hp.rg
  have hl := pall_len hp F
  have hP := rmP_rg hp (F := F) hr
  have h40 := rmU_40 hp (F := F) hr
  have hT := cdT_rg hp F r
  have hok := hR.ok hp hr
  have hcof := fun k c => hR.cofE hp k c
  have hUI : UnI p (rmU p F r) := und_I (by omega) (by omega) _
  have hdd : (cdD p F r : Int) = min ((rmS p F r).2.2.2.2 : Int) 50 := by unfold cdD; omega
  have hd50 : cdD p F r ≤ 50 := by unfold cdD; omega
  obtain ⟨r1, ⟨r2, r3, r4, r5⟩, r6, r7, r8, r9, r10⟩ := id hR
  -- how many words
  have lp4 : ∀ (m i : Nat) (v : Int) (Z1 : Zt), v = i → i + m = (cdB p F r).2.2 → (Z1 a 0 = ((cdT p F r).1 : Int) ∧ Z1 a 1 = ((cdB p F r).2.2 : Int) ∧ Z1 a 2 = szF p i ∧ Z1 a 8 = (cdD p F r : Int) ∧ Z1 a 7 = 0) → (∀ k : Nat, k < cdD p F r → ∀ i : Nat, i < (cdT p F r).1 → Z1 (a + 5 + k) i = cdV p F r k i) → (∀ j : Nat, j < (cdB p F r).2.2 → ∀ i : Nat, i < (cdT p F r).1 → Z1 (a + 83 + j) i = (cdB p F r).1 j i) → Oth Z Z1 (fun b => a ≤ b ∧ b < a + 113) → V mX1_load k n 148 [some (r_ a), some (r_ c), none, some (i_ v)] [] x Z1 Q := by
    have hB1 := (cdB_I hp F r).1
    intro m
    induction m with
    | zero =>
      intro i v Z1 hv hi ha h5 h83 ho
      refine b_X1_load_148 o oc ?_
      rw [ha.2.1]
      rw [show i = (cdB p F r).2.2 by omega] at ha
      exact ⟨⟨by omega, by omega⟩, ⟨by omega, by omega⟩, fun _ => h Z1 ⟨⟨⟨ha.1, ha.2.1, ha.2.2.1, ha.2.2.2.1⟩, h5, h83⟩, ha.2.2.2.2, ho⟩, fun c2 => by omega⟩
    | succ m ih =>
      intro i v Z1 hv hi ha h5 h83 ho
      have hsr := szF_rg (p := p) ⟨by omega, by omega⟩ i
      have hsr1 := szF_rg (p := p) ⟨by omega, by omega⟩ (i + 1)
      have ep : Z1 (c + 1) 0 = p := by rw [ho (c + 1) (by omega)]; exact hC.1.1
      have nxt : ∀ (t : Int) (Z2 : Zt), t = szF p (i + 1) → (∀ b, b ≠ a → Z2 b = Z1 b) → (∀ j : Nat, j ≠ 2 → Z2 a j = Z1 a j) → V mX1_load k n 199 [some (r_ a), some (r_ c), none, some (i_ v)] [i_ t, r_ a] x Z2 Q := fun t Z2 ht h1 h2 => by
        refine b_X1_load_199 o fun Z3 e3 => ih (i + 1) (v + 1) Z3 (by omega) (by omega) ⟨?_, ?_, ?_, ?_, ?_⟩ (fun k hk j hj => ?_) (fun k hk j hj => ?_) (fun b hb => ?_)
        · rw [e3, up_at, if_neg (by decide), h2 0 (by decide)]; exact ha.1
        · rw [e3, up_at, if_neg (by decide), h2 1 (by decide)]; exact ha.2.1
        · rw [e3, up_at, if_pos rfl]; exact ht
        · rw [e3, up_at, if_neg (by decide), h2 8 (by decide)]; exact ha.2.2.2.1
        · rw [e3, up_at, if_neg (by decide), h2 7 (by decide)]; exact ha.2.2.2.2
        · rw [e3, up_row _ _ _ _ _ (by omega), h1 _ (by omega)]; exact h5 k hk j hj
        · rw [e3, up_row _ _ _ _ _ (by omega), h1 _ (by omega)]; exact h83 k hk j hj
        · rw [e3, up_row _ _ _ _ _ (by omega), h1 _ (by omega)]; exact ho b hb
      refine b_X1_load_148 o oc ?_
      rw [ha.2.1, ha.2.2.1, ep]
      refine ⟨⟨by omega, by omega⟩, ⟨by omega, by omega⟩, fun c2 => by omega, fun _ => ⟨⟨by omega, by omega⟩, fun c3 => h Z1 ⟨⟨⟨ha.1, ha.2.1, ?_, ha.2.2.2.1⟩, h5, h83⟩, ha.2.2.2.2, ho⟩, fun c3 Z2 e2 => ?_⟩⟩
      · rw [ha.2.2.1, c3]
        have := szF_stop c3 (m + 1)
        rw [show i + (m + 1) = (cdB p F r).2.2 by omega] at this
        exact this.symm
      · have hs1 : szF p (i + 1) = if 2500 < szF p i * p then -1 else szF p i * p := by
          show (if szF p i = -1 then -1 else _) = _
          rw [if_neg c3]
        have e22 : Z2 a 2 = szF p i * p := by rw [e2, up_at, if_pos rfl]
        have g1 : ∀ b, b ≠ a → Z2 b = Z1 b := fun b hb => by rw [e2, up_row _ _ _ _ _ hb]
        have g2 : ∀ j : Nat, j ≠ 2 → Z2 a j = Z1 a j := fun j hj => by rw [e2, up_at, if_neg hj]
        have hmul : 0 ≤ szF p i * p ∧ szF p i * p ≤ 2500 * 13 := by
          refine ⟨Int.mul_nonneg (by omega) (by omega), ?_⟩
          have := Int.mul_le_mul (a := szF p i) (b := p) (c := 2500) (d := 13) hsr.2 (by omega) (by omega) (by decide)
          exact this
        rw [e22]
        refine ⟨⟨by omega, by omega⟩, fun c4 => nxt _ Z2 ?_ g1 g2, fun c4 => nxt _ Z2 ?_ g1 g2⟩
        · rw [hs1, if_neg (by omega)]
        · rw [hs1, if_pos c4]
  -- the values
  have lp3 : ∀ (m q : Nat) (v : Int) (Z1 : Zt), v = q → q + m = cdD p F r → (Z1 a 0 = ((cdT p F r).1 : Int) ∧ Z1 a 8 = (cdD p F r : Int) ∧ Z1 a 7 = 0) → (∀ t : Nat, t < (cdT p F r).1 → ∀ j : Nat, j < 90 → Z1 (a + 56 + t) j = cdP p F r t j) → (∀ k : Nat, k < q → ∀ i : Nat, i < (cdT p F r).1 → Z1 (a + 5 + k) i = cdV p F r k i) → Oth Z Z1 (fun b => a ≤ b ∧ b < a + 113) → V mX1_load k n 109 [some (r_ a), some (r_ c), some (r_ s), some (i_ v)] [] x Z1 Q := by
    intro m
    induction m with
    | zero =>
      intro q v Z1 hv hq ha hW h5 ho
      have hFA : FA Z1 (c + 1) p := by
        unfold FA
        rw [ho (c + 1) (by omega), ho (c + 1 + 1) (by omega), ho (c + 1 + 2) (by omega)]; exact hC.1
      refine b_X1_load_109 o oc os ?_
      rw [ha.2.1]
      refine ⟨⟨by omega, by omega⟩, ⟨by omega, by omega⟩, fun _ => ⟨p, (cdT p F r).1, cdD p F r, cdV p F r, hp, hFA, ⟨ha.1, hT.1⟩, ⟨rfl, hd50⟩, fun k hk i hi => ⟨h5 k (by omega) i hi, cdV_rg hp F r k i⟩, by omega, fun Z2 hz2 => ?_⟩, fun c2 => by omega⟩
      obtain ⟨q1, q2, q3⟩ := hz2
      intro Z3 e3
      refine lp4 (cdB p F r).2.2 0 0 Z3 rfl (by omega) ⟨?_, ?_, ?_, ?_, ?_⟩ (fun k hk j hj => ?_) (fun k hk j hj => ?_) (fun b hb => ?_)
      · rw [e3, up_at, if_neg (by decide), q2]; exact ha.1
      · rw [e3, up_at, if_neg (by decide), q2]; rfl
      · rw [e3, up_at, if_pos rfl]; rfl
      · rw [e3, up_at, if_neg (by decide), q2]; exact ha.2.1
      · rw [e3, up_at, if_neg (by decide), q2]; exact ha.2.2
      · rw [e3, up_row _ _ _ _ _ (by omega), q3 _ (by omega)]; exact h5 k (by omega) j hj
      · rw [e3, up_row _ _ _ _ _ (by omega)]; exact q1 k hk j hj
      · rw [e3, up_row _ _ _ _ _ (by omega), q3 b (by omega)]; exact ho b hb
    | succ m ih =>
      intro q v Z1 hv hq ha hW h5 ho
      have hs : ∀ b, s ≤ b → b < s + 48 → Z1 b = Z b := fun b h1 h2 => ho b (by omega)
      have er : ∀ i : Nat, i < 40 → Z1 (s + 6 + σ i) = Z (s + 6 + σ i) := fun i hi => by have := (r1.1 i hi).2; exact hs _ (by omega) (by omega)
      have hR1 : RmA x Z1 s p F r σ := by
        have hI := rmS_I hp (F := F) (r := r)
        have hLr := rmL_rg hp (F := F) (r := r)
        refine ⟨r1, ⟨?_, ?_, ?_, ?_⟩, fun i hi => ?_, fun i hi => ?_, fun i hi j hj => ?_, fun j hj => ?_, fun i hi => ?_⟩
        · rw [hs s (by omega) (by omega)]; exact r2
        · rw [hs s (by omega) (by omega)]; exact r3
        · rw [hs s (by omega) (by omega)]; exact r4
        · rw [hs s (by omega) (by omega)]; exact r5
        · rw [hs _ (by omega) (by omega)]; exact r6 i hi
        · rw [hs _ (by omega) (by omega)]; exact r7 i hi
        · rw [er i (by omega)]; exact r8 i hi j hj
        · rw [hs _ (by omega) (by omega)]; exact r9 j hj
        · rw [hs _ (by omega) (by omega)]; exact r10 i hi
      have hok1 := hR1.ok hp hr
      have hcof1 := fun k c => hR1.cofE hp k c
      have r41 : Z1 s 2 = rmP p F r := hR1.2.1.2.2.1
      refine b_X1_load_109 o oc os ?_
      rw [ha.2.1]
      refine ⟨⟨by omega, by omega⟩, ⟨by omega, by omega⟩, fun c2 => by omega, fun _ => ⟨p, σ, (cdT p F r).1, cdP p F r, hp, ?_, r1, ⟨ha.1, hT.1⟩, ⟨by omega, by omega⟩, hok1.1, hok1.2.1, hok1.2.2.1, hok1.2.2.2, fun t ht j hj => ⟨hW t ht j hj, pwrW_rg hp _ _ _ _ _ _⟩, by omega, by omega, fun Z2 hz2 => ?_⟩⟩
      · rw [ho (c + 1) (by omega)]; exact hC.1.1
      · rw [show Int.toNat v = q by omega] at hz2
        obtain ⟨q1, _, q3⟩ := hz2
        refine ih (q + 1) (v + 1) Z2 (by omega) (by omega) ⟨?_, ?_, ?_⟩ (fun t ht j hj => ?_) (fun k hk i hi => ?_) (fun b hb => ?_)
        · rw [q3 a (by omega)]; exact ha.1
        · rw [q3 a (by omega)]; exact ha.2.1
        · rw [q3 a (by omega)]; exact ha.2.2
        · rw [q3 _ (by omega)]; exact hW t ht j hj
        · by_cases c5 : k = q
          · rw [c5, q1 i hi, r41]
            unfold cdV
            congr 1
            funext j
            rw [← r41, hcof1, hv]
          · rw [q3 _ (by omega)]; exact h5 k (by omega) i hi
        · rw [q3 b (by omega)]; exact ho b hb
  -- the powers
  have lp2 : ∀ (m t : Nat) (v : Int) (Z1 : Zt), v = t → t + m = (cdT p F r).1 → (Z1 a 0 = ((cdT p F r).1 : Int) ∧ Z1 a 8 = (cdD p F r : Int) ∧ Z1 a 7 = 0) → (∀ i : Nat, i < (cdT p F r).1 → Z1 (a + 3) i = ((cdT p F r).2 i : Int)) → (∀ i : Nat, i < t → ∀ j : Nat, j < 90 → Z1 (a + 56 + i) j = cdP p F r i j) → Oth Z Z1 (fun b => a ≤ b ∧ b < a + 113) → V mX1_load k n 86 [some (r_ a), some (r_ c), some (r_ s), some (i_ v)] [] x Z1 Q := by
    intro m
    induction m with
    | zero =>
      intro t v Z1 hv ht ha h3 hW ho
      refine b_X1_load_86 o oc os ?_
      rw [ha.1]
      exact ⟨⟨by omega, by omega⟩, ⟨by omega, by omega⟩, fun _ => lp3 (cdD p F r) 0 0 Z1 rfl (by omega) ha (fun i hi => hW i (by omega)) (fun k hk => absurd hk (Nat.not_lt_zero k)) ho, fun c2 => by omega⟩
    | succ m ih =>
      intro t v Z1 hv ht ha h3 hW ho
      have hC1 : CvA Z1 c p F := hC.kept (fun b b1 b2 => ho b (by omega)) (fun i _ => by rw [ho c (by omega)])
      have hTt := hT.2 t (by omega)
      refine b_X1_load_86 o oc os ?_
      rw [ha.1]
      refine ⟨⟨by omega, by omega⟩, ⟨by omega, by omega⟩, fun c2 => by omega, fun _ => ⟨p, F, rmU p F r, (cdT p F r).2 t, hp, hC1, ⟨?_, h40⟩, fun i hi => ⟨?_, hUI.1 i⟩, ?_, ⟨by omega, by omega⟩, ⟨?_, hTt⟩, hd1, hd2, fun Z2 hz2 => ?_⟩⟩
      · rw [ho s (by omega)]; exact r5
      · rw [ho (s + 1) (by omega)]; exact r6 i hi
      · rw [ho s (by omega)]; exact hok.2.1
      · rw [show Int.toNat v = t by omega]; exact h3 t (by omega)
      · rw [show Int.toNat v = t by omega, ho s (by omega), r4] at hz2
        obtain ⟨q1, q3⟩ := hz2
        refine ih (t + 1) (v + 1) Z2 (by omega) (by omega) ⟨?_, ?_, ?_⟩ (fun i hi => ?_) (fun i hi j hj => ?_) (fun b hb => ?_)
        · rw [q3 a (by omega)]; exact ha.1
        · rw [q3 a (by omega)]; exact ha.2.1
        · rw [q3 a (by omega)]; exact ha.2.2
        · rw [q3 _ (by omega)]; exact h3 i hi
        · by_cases c5 : i = t
          · rw [c5, q1 j hj]; rfl
          · rw [q3 _ (by omega)]; exact hW i (by omega) j hj
        · rw [q3 b (by omega)]; exact ho b hb
  -- the places
  have lp1 : ∀ (m i : Nat) (v : Int) (Z1 : Zt), v = i → i + m = (pall p F).length - 1 → (Z1 a 0 = ((plc (pall p F) (nmd (pall p F) r (r 0).toNat) i).1 : Int) ∧ Z1 a 8 = (cdD p F r : Int) ∧ Z1 a 7 = 0) → (∀ t : Nat, t < (plc (pall p F) (nmd (pall p F) r (r 0).toNat) i).1 → Z1 (a + 3) t = ((plc (pall p F) (nmd (pall p F) r (r 0).toNat) i).2 t : Int)) → Oth Z Z1 (fun b => a ≤ b ∧ b < a + 113) → V mX1_load k n 25 [some (r_ a), some (r_ c), some (r_ s), some (i_ v)] [] x Z1 Q := by
    intro m
    induction m with
    | zero =>
      intro i v Z1 hv hi ha h3 ho
      rw [show i = (pall p F).length - 1 by omega] at ha h3
      refine b_X1_load_25 oc o os ?_
      rw [ho c (by omega), hC.2.2.1.1]
      exact ⟨⟨by omega, by omega⟩, ⟨by omega, by omega⟩, fun _ => b_X1_load_84 (lp2 (cdT p F r).1 0 0 Z1 rfl (by omega) ha h3 (fun i hi => absurd hi (Nat.not_lt_zero i)) ho), fun c2 => by omega⟩
    | succ m ih =>
      intro i v Z1 hv hi ha h3 ho
      have hpl := (plc_rg (pall p F) (nmd (pall p F) r (r 0).toNat) i).1
      have hnx : plc (pall p F) (nmd (pall p F) r (r 0).toNat) (i + 1) = if nmd (pall p F) r (r 0).toNat ((pall p F).getD i (0, 0)).1.toNat = 0 then ((plc (pall p F) (nmd (pall p F) r (r 0).toNat) i).1 + 1, upn (plc (pall p F) (nmd (pall p F) r (r 0).toNat) i).2 (plc (pall p F) (nmd (pall p F) r (r 0).toNat) i).1 i) else plc (pall p F) (nmd (pall p F) r (r 0).toNat) i := rfl
      generalize plc (pall p F) (nmd (pall p F) r (r 0).toNat) i = w at ha h3 hpl hnx
      have hgt := pall_get (p := p) (F := F) (by omega) (k := i) (by omega)
      have e6 : Z1 (c + 6) i = ((pall p F).getD i (0, 0)).1 := by rw [ho (c + 6) (by omega)]; exact (hC.2.2.1.2 i (by omega)).1
      have hnr : nmd (pall p F) r (r 0).toNat ((pall p F).getD i (0, 0)).1.toNat = 0 ∨ nmd (pall p F) r (r 0).toNat ((pall p F).getD i (0, 0)).1.toNat = 1 := by
        have : ∀ m q : Nat, nmd (pall p F) r m q = 0 ∨ nmd (pall p F) r m q = 1 := fun m => by
          induction m with
          | zero => intro q; exact Or.inl rfl
          | succ m ih2 =>
            intro q
            by_cases c6 : 0 ≤ enK (pall p F) r m
            · rw [nmd_pos c6]; unfold upf; split
              · exact Or.inr rfl
              · exact ih2 q
            · rw [nmd_neg c6]; exact ih2 q
        exact this _ _
      have e2 : Z1 (s + 2) ((pall p F).getD i (0, 0)).1.toNat = nmd (pall p F) r (r 0).toNat ((pall p F).getD i (0, 0)).1.toNat := by rw [ho (s + 2) (by omega)]; exact r7 _ (by omega)
      refine b_X1_load_25 oc o os ?_
      rw [ho c (by omega), hC.2.2.1.1, ha.1, show v.toNat = i by omega, e6, e2, Int.toNat_natCast]
      refine ⟨⟨by omega, by omega⟩, ⟨by omega, by omega⟩, fun c2 => by omega, fun _ => ⟨⟨by omega, by omega⟩, fun c3 => by omega, fun _ => ⟨by omega, by omega, by omega, by omega, by rcases hnr with e | e <;> rw [e] <;> exact ⟨by decide, by decide⟩, fun c4 => b_X1_load_78 (ih (i + 1) (v + 1) Z1 (by omega) (by omega) ?_ ?_ ho), fun c4 => ⟨by omega, fun Z2 e2' Z3 e3 => b_X1_load_78 (ih (i + 1) (v + 1) Z3 (by omega) (by omega) ⟨?_, ?_, ?_⟩ (fun t ht => ?_) (fun b hb => ?_))⟩⟩⟩⟩
      · rw [hnx, if_neg c4]; exact ha
      · rw [hnx, if_neg c4]; exact h3
      · have e20 : Z2 a 0 = (w.1 : Int) := by rw [e2', up_row _ _ _ _ _ (by omega)]; exact ha.1
        rw [e3, up_at, if_pos rfl, e20, hnx, if_pos c4]; rfl
      · rw [e3, up_at, if_neg (by decide), e2', up_row _ _ _ _ _ (by omega)]; exact ha.2.1
      · rw [e3, up_at, if_neg (by decide), e2', up_row _ _ _ _ _ (by omega)]; exact ha.2.2
      · rw [hnx, if_pos c4] at ht ⊢
        have ht' : t < w.1 + 1 := ht
        rw [e3, up_row _ _ _ _ _ (by omega), e2', up_at]
        show _ = ((upn w.2 w.1 i t : Nat) : Int)
        unfold upn
        by_cases c5 : t = w.1
        · rw [if_pos c5, if_pos c5, hv]
        · rw [if_neg c5, if_neg c5]; exact h3 t (by omega)
      · rw [e3, up_row _ _ _ _ _ (by omega), e2', up_row _ _ _ _ _ (by omega)]; exact ho b hb
  refine b_X1_load_0 o os fun Z1 e1 => ?_
  have e11 : Z1 s 1 = ((rmS p F r).2.2.2.2 : Int) := by rw [e1, up_row _ _ _ _ _ (by omega)]; exact r3
  have hok1 := hok.1
  rw [r3] at hok1
  rw [e11]
  refine ⟨⟨by omega, by omega⟩, fun Z2 e2 Z3 e3 => lp1 ((pall p F).length - 1) 0 0 Z3 rfl (by omega) ⟨?_, ?_, ?_⟩ (fun t ht => absurd ht (Nat.not_lt_zero t)) (fun b hb => ?_)⟩
  · rw [e3, up_at, if_pos rfl]; rfl
  · rw [e3, up_at, if_neg (by decide), e2, up_at, if_pos rfl, hdd]
  · rw [e3, up_at, if_neg (by decide), e2, up_at, if_neg (by decide), e1, up_at, if_pos rfl]
  · rw [e3, up_row _ _ _ _ _ (by omega), e2, up_row _ _ _ _ _ (by omega), e1, up_row _ _ _ _ _ (by omega)]
