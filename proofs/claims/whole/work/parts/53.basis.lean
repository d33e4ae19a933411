theorem dX1_findBasis_0 : decode cX1_findBasis 0 = .ok (.aload_n 0, 1) := by decide +kernel
theorem dX1_findBasis_1 : decode cX1_findBasis 1 = .ok (.iconst 0, 1) := by decide +kernel
theorem dX1_findBasis_2 : decode cX1_findBasis 2 = .ok (.putfield 95, 3) := by decide +kernel
theorem dX1_findBasis_5 : decode cX1_findBasis 5 = .ok (.iconst 0, 1) := by decide +kernel
theorem dX1_findBasis_6 : decode cX1_findBasis 6 = .ok (.istore_n 2, 1) := by decide +kernel
theorem dX1_findBasis_7 : decode cX1_findBasis 7 = .ok (.iload_n 2, 1) := by decide +kernel
theorem dX1_findBasis_8 : decode cX1_findBasis 8 = .ok (.aload_n 0, 1) := by decide +kernel
theorem dX1_findBasis_9 : decode cX1_findBasis 9 = .ok (.getfield 60, 3) := by decide +kernel
theorem dX1_findBasis_12 : decode cX1_findBasis 12 = .ok (.if_icmp .ge 157, 3) := by decide +kernel
theorem dX1_findBasis_15 : decode cX1_findBasis 15 = .ok (.aload_n 0, 1) := by decide +kernel
theorem dX1_findBasis_16 : decode cX1_findBasis 16 = .ok (.getfield 95, 3) := by decide +kernel
theorem dX1_findBasis_19 : decode cX1_findBasis 19 = .ok (.aload_n 0, 1) := by decide +kernel
theorem dX1_findBasis_20 : decode cX1_findBasis 20 = .ok (.getfield 61, 3) := by decide +kernel
theorem dX1_findBasis_23 : decode cX1_findBasis 23 = .ok (.if_icmp .ge 146, 3) := by decide +kernel
theorem dX1_findBasis_26 : decode cX1_findBasis 26 = .ok (.aload_n 0, 1) := by decide +kernel
theorem dX1_findBasis_27 : decode cX1_findBasis 27 = .ok (.getfield 29, 3) := by decide +kernel
theorem dX1_findBasis_30 : decode cX1_findBasis 30 = .ok (.aload_n 0, 1) := by decide +kernel
theorem dX1_findBasis_31 : decode cX1_findBasis 31 = .ok (.getfield 95, 3) := by decide +kernel
theorem dX1_findBasis_34 : decode cX1_findBasis 34 = .ok (.aaload, 1) := by decide +kernel
theorem dX1_findBasis_35 : decode cX1_findBasis 35 = .ok (.astore_n 3, 1) := by decide +kernel
theorem dX1_findBasis_36 : decode cX1_findBasis 36 = .ok (.aload_n 0, 1) := by decide +kernel
theorem dX1_findBasis_37 : decode cX1_findBasis 37 = .ok (.getfield 23, 3) := by decide +kernel
theorem dX1_findBasis_40 : decode cX1_findBasis 40 = .ok (.iload_n 2, 1) := by decide +kernel
theorem dX1_findBasis_41 : decode cX1_findBasis 41 = .ok (.aaload, 1) := by decide +kernel
theorem dX1_findBasis_42 : decode cX1_findBasis 42 = .ok (.iconst 0, 1) := by decide +kernel
theorem dX1_findBasis_43 : decode cX1_findBasis 43 = .ok (.aload_n 3, 1) := by decide +kernel
theorem dX1_findBasis_44 : decode cX1_findBasis 44 = .ok (.iconst 0, 1) := by decide +kernel
theorem dX1_findBasis_45 : decode cX1_findBasis 45 = .ok (.bipush 26, 2) := by decide +kernel
theorem dX1_findBasis_47 : decode cX1_findBasis 47 = .ok (.invokestatic 113, 3) := by decide +kernel
theorem dX1_findBasis_50 : decode cX1_findBasis 50 = .ok (.iconst 0, 1) := by decide +kernel
theorem dX1_findBasis_51 : decode cX1_findBasis 51 = .ok (.istore 4, 2) := by decide +kernel
theorem dX1_findBasis_53 : decode cX1_findBasis 53 = .ok (.iload 4, 2) := by decide +kernel
theorem dX1_findBasis_55 : decode cX1_findBasis 55 = .ok (.aload_n 0, 1) := by decide +kernel
theorem dX1_findBasis_56 : decode cX1_findBasis 56 = .ok (.getfield 95, 3) := by decide +kernel
theorem dX1_findBasis_59 : decode cX1_findBasis 59 = .ok (.if_icmp .ge 32, 3) := by decide +kernel
theorem dX1_findBasis_62 : decode cX1_findBasis 62 = .ok (.aload_n 0, 1) := by decide +kernel
theorem dX1_findBasis_63 : decode cX1_findBasis 63 = .ok (.aload_n 1, 1) := by decide +kernel
theorem dX1_findBasis_64 : decode cX1_findBasis 64 = .ok (.aload_n 3, 1) := by decide +kernel
theorem dX1_findBasis_65 : decode cX1_findBasis 65 = .ok (.aload_n 0, 1) := by decide +kernel
theorem dX1_findBasis_66 : decode cX1_findBasis 66 = .ok (.getfield 29, 3) := by decide +kernel
theorem dX1_findBasis_69 : decode cX1_findBasis 69 = .ok (.iload 4, 2) := by decide +kernel
theorem dX1_findBasis_71 : decode cX1_findBasis 71 = .ok (.aaload, 1) := by decide +kernel
theorem dX1_findBasis_72 : decode cX1_findBasis 72 = .ok (.aload_n 3, 1) := by decide +kernel
theorem dX1_findBasis_73 : decode cX1_findBasis 73 = .ok (.aload_n 0, 1) := by decide +kernel
theorem dX1_findBasis_74 : decode cX1_findBasis 74 = .ok (.getfield 32, 3) := by decide +kernel
theorem dX1_findBasis_77 : decode cX1_findBasis 77 = .ok (.iload 4, 2) := by decide +kernel
theorem dX1_findBasis_79 : decode cX1_findBasis 79 = .ok (.iaload, 1) := by decide +kernel
theorem dX1_findBasis_80 : decode cX1_findBasis 80 = .ok (.iaload, 1) := by decide +kernel
theorem dX1_findBasis_81 : decode cX1_findBasis 81 = .ok (.ineg, 1) := by decide +kernel
theorem dX1_findBasis_82 : decode cX1_findBasis 82 = .ok (.invokevirtual 161, 3) := by decide +kernel
theorem dX1_findBasis_85 : decode cX1_findBasis 85 = .ok (.iinc 4 1, 3) := by decide +kernel
theorem dX1_findBasis_88 : decode cX1_findBasis 88 = .ok (.goto (-35), 3) := by decide +kernel
theorem dX1_findBasis_91 : decode cX1_findBasis 91 = .ok (.iconst 0, 1) := by decide +kernel
theorem dX1_findBasis_92 : decode cX1_findBasis 92 = .ok (.istore 4, 2) := by decide +kernel
theorem dX1_findBasis_94 : decode cX1_findBasis 94 = .ok (.iload 4, 2) := by decide +kernel
theorem dX1_findBasis_96 : decode cX1_findBasis 96 = .ok (.aload_n 0, 1) := by decide +kernel
theorem dX1_findBasis_97 : decode cX1_findBasis 97 = .ok (.getfield 61, 3) := by decide +kernel
theorem dX1_findBasis_100 : decode cX1_findBasis 100 = .ok (.if_icmp .ge 16, 3) := by decide +kernel
theorem dX1_findBasis_103 : decode cX1_findBasis 103 = .ok (.aload_n 3, 1) := by decide +kernel
theorem dX1_findBasis_104 : decode cX1_findBasis 104 = .ok (.iload 4, 2) := by decide +kernel
theorem dX1_findBasis_106 : decode cX1_findBasis 106 = .ok (.iaload, 1) := by decide +kernel
theorem dX1_findBasis_107 : decode cX1_findBasis 107 = .ok (.ifCond .ne 9, 3) := by decide +kernel
theorem dX1_findBasis_110 : decode cX1_findBasis 110 = .ok (.iinc 4 1, 3) := by decide +kernel
theorem dX1_findBasis_113 : decode cX1_findBasis 113 = .ok (.goto (-19), 3) := by decide +kernel
theorem dX1_findBasis_116 : decode cX1_findBasis 116 = .ok (.iload 4, 2) := by decide +kernel
theorem dX1_findBasis_118 : decode cX1_findBasis 118 = .ok (.aload_n 0, 1) := by decide +kernel
theorem dX1_findBasis_119 : decode cX1_findBasis 119 = .ok (.getfield 61, 3) := by decide +kernel
theorem dX1_findBasis_122 : decode cX1_findBasis 122 = .ok (.if_icmp .ge 41, 3) := by decide +kernel
theorem dX1_findBasis_125 : decode cX1_findBasis 125 = .ok (.aload_n 0, 1) := by decide +kernel
theorem dX1_findBasis_126 : decode cX1_findBasis 126 = .ok (.aload_n 1, 1) := by decide +kernel
theorem dX1_findBasis_127 : decode cX1_findBasis 127 = .ok (.aload_n 3, 1) := by decide +kernel
theorem dX1_findBasis_128 : decode cX1_findBasis 128 = .ok (.aload_n 3, 1) := by decide +kernel
theorem dX1_findBasis_129 : decode cX1_findBasis 129 = .ok (.aload_n 1, 1) := by decide +kernel
theorem dX1_findBasis_130 : decode cX1_findBasis 130 = .ok (.aload_n 3, 1) := by decide +kernel
theorem dX1_findBasis_131 : decode cX1_findBasis 131 = .ok (.iload 4, 2) := by decide +kernel
theorem dX1_findBasis_133 : decode cX1_findBasis 133 = .ok (.iaload, 1) := by decide +kernel
theorem dX1_findBasis_134 : decode cX1_findBasis 134 = .ok (.invokevirtual 148, 3) := by decide +kernel
theorem dX1_findBasis_137 : decode cX1_findBasis 137 = .ok (.iconst 1, 1) := by decide +kernel
theorem dX1_findBasis_138 : decode cX1_findBasis 138 = .ok (.isub, 1) := by decide +kernel
theorem dX1_findBasis_139 : decode cX1_findBasis 139 = .ok (.invokevirtual 161, 3) := by decide +kernel
theorem dX1_findBasis_142 : decode cX1_findBasis 142 = .ok (.aload_n 0, 1) := by decide +kernel
theorem dX1_findBasis_143 : decode cX1_findBasis 143 = .ok (.getfield 32, 3) := by decide +kernel
theorem dX1_findBasis_146 : decode cX1_findBasis 146 = .ok (.aload_n 0, 1) := by decide +kernel
theorem dX1_findBasis_147 : decode cX1_findBasis 147 = .ok (.getfield 95, 3) := by decide +kernel
theorem dX1_findBasis_150 : decode cX1_findBasis 150 = .ok (.iload 4, 2) := by decide +kernel
theorem dX1_findBasis_152 : decode cX1_findBasis 152 = .ok (.iastore, 1) := by decide +kernel
theorem dX1_findBasis_153 : decode cX1_findBasis 153 = .ok (.aload_n 0, 1) := by decide +kernel
theorem dX1_findBasis_154 : decode cX1_findBasis 154 = .ok (.dup, 1) := by decide +kernel
theorem dX1_findBasis_155 : decode cX1_findBasis 155 = .ok (.getfield 95, 3) := by decide +kernel
theorem dX1_findBasis_158 : decode cX1_findBasis 158 = .ok (.iconst 1, 1) := by decide +kernel
theorem dX1_findBasis_159 : decode cX1_findBasis 159 = .ok (.iadd, 1) := by decide +kernel
theorem dX1_findBasis_160 : decode cX1_findBasis 160 = .ok (.putfield 95, 3) := by decide +kernel
theorem dX1_findBasis_163 : decode cX1_findBasis 163 = .ok (.iinc 2 1, 3) := by decide +kernel
theorem dX1_findBasis_166 : decode cX1_findBasis 166 = .ok (.goto (-159), 3) := by decide +kernel
theorem dX1_findBasis_169 : decode cX1_findBasis 169 = .ok (.return_, 1) := by decide +kernel
set_option maxRecDepth 20000 in
theorem b_X1_findBasis_0 {k n : Nat} {x : Wx} {Z : Zt} {Q : Option Value → Wx → Zt → Prop} {a0 : Nat} {a1 : Nat} (o_a0 : Is1 x a0)
    (h : ∀ Z1 : Zt, Z1 = up Z a0 1 0 → (V mX1_findBasis k n 7 [some (r_ a0), some (r_ a1), some (i_ 0), none, none] [] x Z1 Q)) :
    V mX1_findBasis k n 0 [some (r_ a0), some (r_ a1), none, none, none] [] x Z Q :=
  V_aload_n dX1_findBasis_0 rfl (V_iconst dX1_findBasis_1 (P_1_1 o_a0.1 lf_1_95 dX1_findBasis_2 (V_nmZ (fun Z1 eZ1 => V_iconst dX1_findBasis_5 (V_istore_n (lv' := [some (r_ a0), some (r_ a1), some (i_ 0), none, none]) dX1_findBasis_6 (Nat.le_of_ble_eq_true rfl) rfl (V_msk [true, true, true, false, false] rfl (h Z1 eZ1)))))))
set_option maxRecDepth 20000 in
theorem b_X1_findBasis_7 {k n : Nat} {x : Wx} {Z : Zt} {Q : Option Value → Wx → Zt → Prop} {a0 : Nat} {a1 : Nat} {v2 : Int} (o_a0 : Is1 x a0)
    (h : Rg v2 ∧ Rg (Z a0 8) ∧ (((Z a0 8 ≤ v2) → (Q none x Z)) ∧ ((v2 < Z a0 8) → (Rg (Z a0 1) ∧ Rg (Z a0 0) ∧ (((Z a0 0 ≤ Z a0 1) → (Q none x Z)) ∧ ((Z a0 1 < Z a0 0) → (0 ≤ Z a0 1 ∧ Z a0 1 < 26 ∧ (0 ≤ v2 ∧ v2 < 50 ∧ (∀ Z1 : Zt, Z1 = cpyZ Z (a0 + 5 + v2.toNat) 0 (a0 + 83 + (Z a0 1).toNat) 0 26 → (V mX1_findBasis k n 53 [some (r_ a0), some (r_ a1), some (i_ v2), some (r_ (a0 + 83 + (Z a0 1).toNat)), some (i_ 0)] [] x Z1 Q)))))))))) :
    V mX1_findBasis k n 7 [some (r_ a0), some (r_ a1), some (i_ v2), none, none] [] x Z Q :=
  V_iload_n dX1_findBasis_7 rfl (V_aload_n dX1_findBasis_8 rfl (G_1_8 o_a0.1 lf_1_60 dX1_findBasis_9 (V_icmp_ge (tgt := 169) dX1_findBasis_12 rfl h.1 h.2.1 (fun c1 => V_ret dX1_findBasis_169 rfl (h.2.2.1 c1)) (fun c1 => V_aload_n dX1_findBasis_15 rfl (G_1_1 o_a0.1 lf_1_95 dX1_findBasis_16 (V_aload_n dX1_findBasis_19 rfl (G_1_0 o_a0.1 lf_1_61 dX1_findBasis_20 (V_icmp_ge (tgt := 169) dX1_findBasis_23 rfl (h.2.2.2 c1).1 (h.2.2.2 c1).2.1 (fun c2 => V_ret dX1_findBasis_169 rfl ((h.2.2.2 c1).2.2.1 c2)) (fun c2 => V_aload_n dX1_findBasis_26 rfl (G_1_12 o_a0.1 o_a0.2.2.2.2.2.2.2.2.2.2.2.2.2.1 lf_1_29 dX1_findBasis_27 (V_aload_n dX1_findBasis_30 rfl (G_1_1 o_a0.1 lf_1_95 dX1_findBasis_31 (V_aaldR (t := 104) o_a0.2.2.2.2.2.2.2.2.2.2.2.2.2.2.1 (by decide) (fun _ _ => rfl) rfl ((h.2.2.2 c1).2.2.2 c2).1 ((h.2.2.2 c1).2.2.2 c2).2.1 (Nat.le_of_ble_eq_true rfl) (o_a0.2.2.2.2.2.2.2.2.2.2.2.2.2.2.2.1 _ ((ix_lt ((h.2.2.2 c1).2.2.2 c2).1 ((h.2.2.2 c1).2.2.2 c2).2.1))).1 dX1_findBasis_34 (V_astore_n (lv' := [some (r_ a0), some (r_ a1), some (i_ v2), some (r_ (a0 + 83 + (Z a0 1).toNat)), none]) dX1_findBasis_35 (Nat.le_of_ble_eq_true rfl) rfl (V_aload_n dX1_findBasis_36 rfl (G_1_10 o_a0.1 o_a0.2.2.2.2.2.2.2.1 lf_1_23 dX1_findBasis_37 (V_iload_n dX1_findBasis_40 rfl (V_aaldR (t := 104) o_a0.2.2.2.2.2.2.2.2.1 (by decide) (fun _ _ => rfl) rfl ((h.2.2.2 c1).2.2.2 c2).2.2.1 ((h.2.2.2 c1).2.2.2 c2).2.2.2.1 (Nat.le_of_ble_eq_true rfl) (o_a0.2.2.2.2.2.2.2.2.2.1 _ ((ix_lt ((h.2.2.2 c1).2.2.2 c2).2.2.1 ((h.2.2.2 c1).2.2.2 c2).2.2.2.1))).1 dX1_findBasis_41 (V_iconst dX1_findBasis_42 (V_aload_n dX1_findBasis_43 rfl (V_iconst dX1_findBasis_44 (V_bipush dX1_findBasis_45 rfl (V_acopy (t := 100) (o_a0.2.2.2.2.2.2.2.2.2.1 _ ((ix_lt ((h.2.2.2 c1).2.2.2 c2).2.2.1 ((h.2.2.2 c1).2.2.2 c2).2.2.2.1))).2 (o_a0.2.2.2.2.2.2.2.2.2.2.2.2.2.2.2.1 _ ((ix_lt ((h.2.2.2 c1).2.2.2 c2).1 ((h.2.2.2 c1).2.2.2 c2).2.1))).2 (by decide) (by decide) rfl (fun _ _ => rfl) (by decide) (by decide) (by decide) (by decide) (by decide) ⟨(Nat.le_of_ble_eq_true rfl), (Nat.le_of_ble_eq_true rfl)⟩ (fun _ _ => rfl) lm_1_113 lcpn lcps lini_J10 (Nat.le_of_ble_eq_true rfl) (Nat.le_of_ble_eq_true rfl) dX1_findBasis_47 (V_nmZ (fun Z1 eZ1 => V_iconst dX1_findBasis_50 (V_istore (lv' := [some (r_ a0), some (r_ a1), some (i_ v2), some (r_ (a0 + 83 + (Z a0 1).toNat)), some (i_ 0)]) dX1_findBasis_51 (Nat.le_of_ble_eq_true rfl) rfl (V_msk [true, true, true, true, true] rfl (((h.2.2.2 c1).2.2.2 c2).2.2.2.2 Z1 eZ1))))))))))))))))))))))))))))
set_option maxRecDepth 20000 in
theorem b_X1_findBasis_53 {k n : Nat} {x : Wx} {Z : Zt} {Q : Option Value → Wx → Zt → Prop} {a0 : Nat} {a1 : Nat} {v2 : Int} {a3 : Nat} {v4 : Int} (o_a0 : Is1 x a0) (o_a1 : Is4 x a1) (s_a3 : x.1 a3 = some (100, 26))
    (h : Rg v4 ∧ Rg (Z a0 1) ∧ (((Z a0 1 ≤ v4) → (V mX1_findBasis k n 94 [some (r_ a0), some (r_ a1), some (i_ v2), some (r_ a3), some (i_ 0)] [] x Z Q)) ∧ ((v4 < Z a0 1) → (0 ≤ v4 ∧ v4 < 26 ∧ (0 ≤ Z (a0 + 109) v4.toNat ∧ Z (a0 + 109) v4.toNat < 26 ∧ (∃ g1 : Int, (∃ g2 : Nat, (IsP g1 ∧ Z a1 0 = g1 ∧ (Z a0 0 = (g2 : Int) ∧ g2 ≤ 26) ∧ (-20 ≤ (-(Z a3 (Z (a0 + 109) v4.toNat).toNat)) ∧ (-(Z a3 (Z (a0 + 109) v4.toNat).toNat)) ≤ 20) ∧ (∀ i : Nat, i < g2 → 0 ≤ Z a3 i ∧ Z a3 i < g1) ∧ (∀ i : Nat, i < g2 → 0 ≤ Z (a0 + 83 + v4.toNat) i ∧ Z (a0 + 83 + v4.toNat) i < g1) ∧ (a3 ≠ a0 ∧ a3 ≠ a1) ∧ (∀ (Z'1 : Zt), ((∀ i : Nat, i < g2 → Z'1 a3 i = (Z a3 i + (-(Z a3 (Z (a0 + 109) v4.toNat).toNat)) * Z (a0 + 83 + v4.toNat) i) % g1) ∧ (∀ i : Nat, g2 ≤ i → Z'1 a3 i = Z a3 i) ∧ Oth Z Z'1 (fun q => q = a3)) → (V mX1_findBasis k n 53 [some (r_ a0), some (r_ a1), some (i_ v2), some (r_ a3), some (i_ (v4 + 1))] [] x Z'1 Q)))))))))) :
    V mX1_findBasis k n 53 [some (r_ a0), some (r_ a1), some (i_ v2), some (r_ a3), some (i_ v4)] [] x Z Q :=
  V_iload dX1_findBasis_53 rfl (V_aload_n dX1_findBasis_55 rfl (G_1_1 o_a0.1 lf_1_95 dX1_findBasis_56 (V_icmp_ge (tgt := 91) dX1_findBasis_59 rfl h.1 h.2.1 (fun c1 => V_iconst dX1_findBasis_91 (V_istore (lv' := [some (r_ a0), some (r_ a1), some (i_ v2), some (r_ a3), some (i_ 0)]) dX1_findBasis_92 (Nat.le_of_ble_eq_true rfl) rfl (V_msk [true, true, true, true, true] rfl (h.2.2.1 c1)))) (fun c1 => V_aload_n dX1_findBasis_62 rfl (V_aload_n dX1_findBasis_63 rfl (V_aload_n dX1_findBasis_64 rfl (V_aload_n dX1_findBasis_65 rfl (G_1_12 o_a0.1 o_a0.2.2.2.2.2.2.2.2.2.2.2.2.2.1 lf_1_29 dX1_findBasis_66 (V_iload dX1_findBasis_69 rfl (V_aaldR (t := 104) o_a0.2.2.2.2.2.2.2.2.2.2.2.2.2.2.1 (by decide) (fun _ _ => rfl) rfl (h.2.2.2 c1).1 (h.2.2.2 c1).2.1 (Nat.le_of_ble_eq_true rfl) (o_a0.2.2.2.2.2.2.2.2.2.2.2.2.2.2.2.1 _ ((ix_lt (h.2.2.2 c1).1 (h.2.2.2 c1).2.1))).1 dX1_findBasis_71 (V_aload_n dX1_findBasis_72 rfl (V_aload_n dX1_findBasis_73 rfl (G_1_13 o_a0.1 o_a0.2.2.2.2.2.2.2.2.2.2.2.2.2.2.2.2.1 lf_1_32 dX1_findBasis_74 (V_iload dX1_findBasis_77 rfl (V_iald (t := 100) o_a0.2.2.2.2.2.2.2.2.2.2.2.2.2.2.2.2.2.1 (by decide) rfl (h.2.2.2 c1).1 (h.2.2.2 c1).2.1 (Nat.le_of_ble_eq_true rfl) dX1_findBasis_79 (V_iald (t := 100) s_a3 (by decide) rfl (h.2.2.2 c1).2.2.1 (h.2.2.2 c1).2.2.2.1 (Nat.le_of_ble_eq_true rfl) dX1_findBasis_80 (V_ineg dX1_findBasis_81 (Exists.elim (h.2.2.2 c1).2.2.2.2 (fun g1 w1 => Exists.elim w1 (fun g2 w2 => V_callV (k' := 0) (n' := 0) (t := 1) (q := (RX1, TX1, 17)) [r_ a1, r_ a3, r_ (a0 + 83 + v4.toNat), i_ (-(Z a3 (Z (a0 + 109) v4.toNat).toNat))] [] okX1_addRow o_a0.1 rfl rfl lm_1_161 liX1_addRow lqX1_addRow (Nat.le_of_ble_eq_true rfl) (Nat.le_of_ble_eq_true rfl) (Nat.le_of_ble_eq_true rfl) (cat_of rfl) (Nat.le_of_ble_eq_true rfl) (Nat.zero_le _) (Nat.zero_le _) rfl dX1_findBasis_82 (sp_X1_addRow o_a0 o_a1 s_a3 (o_a0.2.2.2.2.2.2.2.2.2.2.2.2.2.2.2.1 _ ((ix_lt (h.2.2.2 c1).1 (h.2.2.2 c1).2.1))).2 w2.1 w2.2.1 w2.2.2.1 w2.2.2.2.1 w2.2.2.2.2.1 w2.2.2.2.2.2.1 w2.2.2.2.2.2.2.1 (fun Z'1 p1 => V_iinc (lv' := [some (r_ a0), some (r_ a1), some (i_ v2), some (r_ a3), some (i_ (v4 + 1))]) dX1_findBasis_85 rfl (Nat.le_of_ble_eq_true rfl) rfl (V_goto (tgt := 53) dX1_findBasis_88 rfl (V_msk [true, true, true, true, true] rfl (w2.2.2.2.2.2.2.2 Z'1 p1)))))))))))))))))))))))))
set_option maxRecDepth 20000 in
theorem b_X1_findBasis_94 {k n : Nat} {x : Wx} {Z : Zt} {Q : Option Value → Wx → Zt → Prop} {a0 : Nat} {a1 : Nat} {v2 : Int} {a3 : Nat} {v4 : Int} (o_a0 : Is1 x a0) (s_a3 : x.1 a3 = some (100, 26))
    (h : Rg v4 ∧ Rg (Z a0 0) ∧ (((Z a0 0 ≤ v4) → (V mX1_findBasis k n 116 [some (r_ a0), some (r_ a1), some (i_ v2), some (r_ a3), some (i_ v4)] [] x Z Q)) ∧ ((v4 < Z a0 0) → (0 ≤ v4 ∧ v4 < 26 ∧ (Rg (Z a3 v4.toNat) ∧ (((Z a3 v4.toNat ≠ 0) → (V mX1_findBasis k n 116 [some (r_ a0), some (r_ a1), some (i_ v2), some (r_ a3), some (i_ v4)] [] x Z Q)) ∧ ((Z a3 v4.toNat = 0) → (V mX1_findBasis k n 94 [some (r_ a0), some (r_ a1), some (i_ v2), some (r_ a3), some (i_ (v4 + 1))] [] x Z Q)))))))) :
    V mX1_findBasis k n 94 [some (r_ a0), some (r_ a1), some (i_ v2), some (r_ a3), some (i_ v4)] [] x Z Q :=
  V_iload dX1_findBasis_94 rfl (V_aload_n dX1_findBasis_96 rfl (G_1_0 o_a0.1 lf_1_61 dX1_findBasis_97 (V_icmp_ge (tgt := 116) dX1_findBasis_100 rfl h.1 h.2.1 (fun c1 => V_msk [true, true, true, true, true] rfl (h.2.2.1 c1)) (fun c1 => V_aload_n dX1_findBasis_103 rfl (V_iload dX1_findBasis_104 rfl (V_iald (t := 100) s_a3 (by decide) rfl (h.2.2.2 c1).1 (h.2.2.2 c1).2.1 (Nat.le_of_ble_eq_true rfl) dX1_findBasis_106 (V_if_ne (tgt := 116) dX1_findBasis_107 rfl (h.2.2.2 c1).2.2.1 (fun c2 => V_msk [true, true, true, true, true] rfl ((h.2.2.2 c1).2.2.2.1 c2)) (fun c2 => V_iinc (lv' := [some (r_ a0), some (r_ a1), some (i_ v2), some (r_ a3), some (i_ (v4 + 1))]) dX1_findBasis_110 rfl (Nat.le_of_ble_eq_true rfl) rfl (V_goto (tgt := 94) dX1_findBasis_113 rfl (V_msk [true, true, true, true, true] rfl ((h.2.2.2 c1).2.2.2.2 c2)))))))))))
set_option maxRecDepth 20000 in
theorem b_X1_findBasis_116 {k n : Nat} {x : Wx} {Z : Zt} {Q : Option Value → Wx → Zt → Prop} {a0 : Nat} {a1 : Nat} {v2 : Int} {a3 : Nat} {v4 : Int} (o_a0 : Is1 x a0) (o_a1 : Is4 x a1) (s_a3 : x.1 a3 = some (100, 26))
    (h : Rg v4 ∧ Rg (Z a0 0) ∧ (((Z a0 0 ≤ v4) → (V mX1_findBasis k n 163 [some (r_ a0), some (r_ a1), some (i_ v2), none, none] [] x Z Q)) ∧ ((v4 < Z a0 0) → (0 ≤ v4 ∧ v4 < 26 ∧ (0 ≤ (Z a3 v4.toNat) ∧ (Z a3 v4.toNat) < 13 ∧ (∃ g1 : Int, (∃ g2 : Nat, (IsP g1 ∧ Z a1 0 = g1 ∧ (Z a0 0 = (g2 : Int) ∧ g2 ≤ 26) ∧ (-20 ≤ ((Z (a1 + 1) (Int.toNat (Z a3 v4.toNat))) - 1) ∧ ((Z (a1 + 1) (Int.toNat (Z a3 v4.toNat))) - 1) ≤ 20) ∧ (∀ i : Nat, i < g2 → 0 ≤ Z a3 i ∧ Z a3 i < g1) ∧ (a3 ≠ a0 ∧ a3 ≠ a1) ∧ (∀ (Z'1 : Zt), ((∀ i : Nat, i < g2 → Z'1 a3 i = (Z a3 i + ((Z (a1 + 1) (Int.toNat (Z a3 v4.toNat))) - 1) * Z a3 i) % g1) ∧ (∀ i : Nat, g2 ≤ i → Z'1 a3 i = Z a3 i) ∧ Oth Z Z'1 (fun q => q = a3)) → (0 ≤ Z'1 a0 1 ∧ Z'1 a0 1 < 26 ∧ (∀ Z1 : Zt, Z1 = up Z'1 (a0 + 109) (Z'1 a0 1).toNat v4 → (∀ Z2 : Zt, Z2 = up Z1 a0 1 ((Z1 a0 1) + 1) → (V mX1_findBasis k n 163 [some (r_ a0), some (r_ a1), some (i_ v2), none, none] [] x Z2 Q))))))))))))) :
    V mX1_findBasis k n 116 [some (r_ a0), some (r_ a1), some (i_ v2), some (r_ a3), some (i_ v4)] [] x Z Q :=
  V_iload dX1_findBasis_116 rfl (V_aload_n dX1_findBasis_118 rfl (G_1_0 o_a0.1 lf_1_61 dX1_findBasis_119 (V_icmp_ge (tgt := 163) dX1_findBasis_122 rfl h.1 h.2.1 (fun c1 => V_msk [true, true, true, false, false] rfl (h.2.2.1 c1)) (fun c1 => V_aload_n dX1_findBasis_125 rfl (V_aload_n dX1_findBasis_126 rfl (V_aload_n dX1_findBasis_127 rfl (V_aload_n dX1_findBasis_128 rfl (V_aload_n dX1_findBasis_129 rfl (V_aload_n dX1_findBasis_130 rfl (V_iload dX1_findBasis_131 rfl (V_iald (t := 100) s_a3 (by decide) rfl (h.2.2.2 c1).1 (h.2.2.2 c1).2.1 (Nat.le_of_ble_eq_true rfl) dX1_findBasis_133 (V_callV (k' := 0) (n' := 0) (t := 4) (q := (RX4, TX4, 4)) [i_ (Z a3 v4.toNat)] [r_ a3, r_ a3, r_ a1, r_ a0] okX4_inverse o_a1.1 rfl rfl lm_1_148 liX4_inverse lqX4_inverse (Nat.le_of_ble_eq_true rfl) (Nat.le_of_ble_eq_true rfl) (Nat.le_of_ble_eq_true rfl) (cat_of rfl) (Nat.le_of_ble_eq_true rfl) (Nat.zero_le _) (Nat.zero_le _) rfl dX1_findBasis_134 (sp_X4_inverse o_a1 (h.2.2.2 c1).2.2.1 (h.2.2.2 c1).2.2.2.1 (V_iconst dX1_findBasis_137 (V_isub dX1_findBasis_138 (Exists.elim (h.2.2.2 c1).2.2.2.2 (fun g1 w1 => Exists.elim w1 (fun g2 w2 => V_callV (k' := 0) (n' := 0) (t := 1) (q := (RX1, TX1, 17)) [r_ a1, r_ a3, r_ a3, i_ ((Z (a1 + 1) (Int.toNat (Z a3 v4.toNat))) - 1)] [] okX1_addRow o_a0.1 rfl rfl lm_1_161 liX1_addRow lqX1_addRow (Nat.le_of_ble_eq_true rfl) (Nat.le_of_ble_eq_true rfl) (Nat.le_of_ble_eq_true rfl) (cat_of rfl) (Nat.le_of_ble_eq_true rfl) (Nat.zero_le _) (Nat.zero_le _) rfl dX1_findBasis_139 (sp_X1_addRow o_a0 o_a1 s_a3 s_a3 w2.1 w2.2.1 w2.2.2.1 w2.2.2.2.1 w2.2.2.2.2.1 w2.2.2.2.2.1 w2.2.2.2.2.2.1 (fun Z'1 p1 => V_aload_n dX1_findBasis_142 rfl (G_1_13 o_a0.1 o_a0.2.2.2.2.2.2.2.2.2.2.2.2.2.2.2.2.1 lf_1_32 dX1_findBasis_143 (V_aload_n dX1_findBasis_146 rfl (G_1_1 o_a0.1 lf_1_95 dX1_findBasis_147 (V_iload dX1_findBasis_150 rfl (V_iast (t := 100) o_a0.2.2.2.2.2.2.2.2.2.2.2.2.2.2.2.2.2.1 (by decide) (by decide) rfl (w2.2.2.2.2.2.2 Z'1 p1).1 (w2.2.2.2.2.2.2 Z'1 p1).2.1 (Nat.le_of_ble_eq_true rfl) dX1_findBasis_152 (V_nmZ (fun Z1 eZ1 => V_aload_n dX1_findBasis_153 rfl (V_dup dX1_findBasis_154 rfl (G_1_1 o_a0.1 lf_1_95 dX1_findBasis_155 (V_iconst dX1_findBasis_158 (V_iadd dX1_findBasis_159 (P_1_1 o_a0.1 lf_1_95 dX1_findBasis_160 (V_nmZ (fun Z2 eZ2 => V_msk [true, true, true, false, false] rfl (((w2.2.2.2.2.2.2 Z'1 p1).2.2 Z1 eZ1) Z2 eZ2)))))))))))))))))))))))))))))))))))
set_option maxRecDepth 20000 in
theorem b_X1_findBasis_163 {k n : Nat} {x : Wx} {Z : Zt} {Q : Option Value → Wx → Zt → Prop} {a0 : Nat} {a1 : Nat} {v2 : Int} 
    (h : V mX1_findBasis k n 7 [some (r_ a0), some (r_ a1), some (i_ (v2 + 1)), none, none] [] x Z Q) :
    V mX1_findBasis k n 163 [some (r_ a0), some (r_ a1), some (i_ v2), none, none] [] x Z Q :=
  V_iinc (lv' := [some (r_ a0), some (r_ a1), some (i_ (v2 + 1)), none, none]) dX1_findBasis_163 rfl (Nat.le_of_ble_eq_true rfl) rfl (V_goto (tgt := 7) dX1_findBasis_166 rfl (V_msk [true, true, true, false, false] rfl h))
/-! ===== Code: rows of which none is made of the others ===== -/
def addR (p : Int) (R B : Nat → Int) (v : Int) : Nat → Int := fun i => (R i + v * B i) % p
/-- a row with the leads of j rows taken away -/
def redB (p : Int) (B : Nat → Nat → Int) (ld : Nat → Nat) : Nat → (Nat → Int) → Nat → Int
  | 0, R => R
  | j + 1, R => addR p (redB p B ld j R) (B j) (-(redB p B ld j R (ld j)))
def fsN (R : Nat → Int) : Nat → Nat → Nat
  | 0, i => i
  | m + 1, i => if R i = 0 then fsN R m (i + 1) else i
/-- rows, their leads, how many -/
abbrev Bs := (Nat → Nat → Int) × (Nat → Nat) × Nat
def upr (B : Nat → Nat → Int) (j : Nat) (R : Nat → Int) : Nat → Nat → Int := fun i => if i = j then R else B i
def upn (f : Nat → Nat) (j v : Nat) : Nat → Nat := fun i => if i = j then v else f i
def bsS (p : Int) (len : Nat) (V : Nat → Nat → Int) (k : Nat) (w : Bs) : Bs :=
  if w.2.2 < len then
    (if fsN (redB p w.1 w.2.1 w.2.2 (V k)) len 0 < len then (upr w.1 w.2.2 (addR p (redB p w.1 w.2.1 w.2.2 (V k)) (redB p w.1 w.2.1 w.2.2 (V k)) (inv p (redB p w.1 w.2.1 w.2.2 (V k) (fsN (redB p w.1 w.2.1 w.2.2 (V k)) len 0)) - 1)), upn w.2.1 w.2.2 (fsN (redB p w.1 w.2.1 w.2.2 (V k)) len 0), w.2.2 + 1) else w)
  else w
def bsN (p : Int) (len : Nat) (V : Nat → Nat → Int) : Nat → Bs
  | 0 => (fun _ _ => 0, fun _ => 0, 0)
  | k + 1 => bsS p len V k (bsN p len V k)
theorem bsN_stop {p : Int} {len : Nat} {V : Nat → Nat → Int} {k : Nat} (h : len ≤ (bsN p len V k).2.2) : ∀ m : Nat, bsN p len V (k + m) = bsN p len V k
  | 0 => rfl
  | m + 1 => by
    have ih := bsN_stop h m
    show bsS p len V (k + m) (bsN p len V (k + m)) = _
    rw [ih]
    unfold bsS
    rw [if_neg (by omega)]
theorem redB_rg {p : Int} (hp : 0 < p) {B : Nat → Nat → Int} {ld : Nat → Nat} {R : Nat → Int} {i : Nat} (h : 0 ≤ R i ∧ R i < p) : ∀ j : Nat, 0 ≤ redB p B ld j R i ∧ redB p B ld j R i < p
  | 0 => h
  | _ + 1 => emr _ hp
theorem fsN_rg (R : Nat → Int) : ∀ m i : Nat, i ≤ fsN R m i ∧ fsN R m i ≤ i + m
  | 0, i => ⟨Nat.le_refl _, Nat.le_refl _⟩
  | m + 1, i => by
    have := fsN_rg R m (i + 1)
    unfold fsN
    split <;> omega
theorem fsN_ne {R : Nat → Int} : ∀ {m i : Nat}, fsN R m i < i + m → R (fsN R m i) ≠ 0
  | 0, i, h => by
    have h' : i < i + 0 := h
    omega
  | m + 1, i, h => by
    unfold fsN at h ⊢
    by_cases c : R i = 0
    · rw [if_pos c] at h ⊢
      exact fsN_ne (by omega)
    · rw [if_neg c]; exact c
theorem fsN_ext {R S : Nat → Int} : ∀ {m i : Nat}, (∀ j : Nat, i ≤ j → j < i + m → R j = S j) → fsN R m i = fsN S m i
  | 0, _, _ => rfl
  | m + 1, i, h => by
    unfold fsN
    rw [h i (by omega) (by omega), fsN_ext (m := m) (i := i + 1) (fun j h1 h2 => h j (by omega) (by omega))]
def BsI (p : Int) (len : Nat) (w : Bs) : Prop := w.2.2 ≤ len ∧ (∀ j : Nat, j < w.2.2 → w.2.1 j < len ∧ ∀ i : Nat, i < len → 0 ≤ w.1 j i ∧ w.1 j i < p)
theorem BsI.st {p : Int} (hp : 0 < p) {len : Nat} {V : Nat → Nat → Int} {k : Nat} {w : Bs} (h : BsI p len w) : BsI p len (bsS p len V k w) := by
  unfold bsS
  by_cases c1 : w.2.2 < len
  · rw [if_pos c1]
    generalize fsN (redB p w.1 w.2.1 w.2.2 (V k)) len 0 = l
    generalize redB p w.1 w.2.1 w.2.2 (V k) = R
    by_cases c2 : l < len
    · rw [if_pos c2]
      refine ⟨by show w.2.2 + 1 ≤ len; omega, fun j hj => ?_⟩
      have hj' : j < w.2.2 + 1 := hj
      show upn w.2.1 w.2.2 l j < len ∧ ∀ i : Nat, i < len → 0 ≤ upr w.1 w.2.2 _ j i ∧ upr w.1 w.2.2 _ j i < p
      unfold upn upr
      by_cases c3 : j = w.2.2
      · rw [if_pos c3, if_pos c3]; exact ⟨c2, fun i _ => emr _ hp⟩
      · rw [if_neg c3, if_neg c3]; exact h.2 j (by omega)
    · rw [if_neg c2]; exact h
  · rw [if_neg c1]; exact h
theorem BsI.all {p : Int} (hp : 0 < p) {len : Nat} {V : Nat → Nat → Int} : ∀ k : Nat, BsI p len (bsN p len V k)
  | 0 => ⟨Nat.zero_le _, fun j hj => absurd hj (Nat.not_lt_zero j)⟩
  | k + 1 => BsI.st hp (BsI.all hp k)
theorem sp_X1_findBasis {k n : Nat} {x : Wx} {Z : Zt} {Q : Option Value → Wx → Zt → Prop} {a f : Nat} (o : Is1 x a) (of : Is4 x f) {p : Int} {len dm : Nat} {V0 : Nat → Nat → Int} (hp : IsP p) (hf : FA Z f p) (hl : Z a 0 = (len : Int) ∧ len ≤ 26) (hd : Z a 8 = (dm : Int) ∧ dm ≤ 50) (hV : ∀ q : Nat, q < dm → ∀ i : Nat, i < len → Z (a + 5 + q) i = V0 q i ∧ 0 ≤ V0 q i ∧ V0 q i < p) (hfa : f + 3 ≤ a ∨ a + 113 ≤ f) (h : ∀ Z' : Zt, ((∀ j : Nat, j < (bsN p len V0 dm).2.2 → ∀ i : Nat, i < len → Z' (a + 83 + j) i = (bsN p len V0 dm).1 j i) ∧ Z' a = (fun i => if i = 1 then ((bsN p len V0 dm).2.2 : Int) else Z a i) ∧ Oth Z Z' (fun b => b = a ∨ (a + 83 ≤ b ∧ b < a + 110))) → Q none x Z') : V mX1_findBasis k n 0 [some (r_ a), some (r_ f), none, none, none] [] x Z Q := by
  have hpr := hp.rg
  have hI := BsI.all (p := p) (by omega) (len := len) (V := V0)
  have hbr : ∀ r : Nat, r < 26 → x.1 (a + 83 + r) = some (100, 26) := fun r hr => (o.2.2.2.2.2.2.2.2.2.2.2.2.2.2.2.1 r hr).2
  have lp : ∀ (m q : Nat) (v : Int) (Z1 : Zt), v = q → q + m = dm → (∀ j : Nat, j < (bsN p len V0 q).2.2 → (∀ i : Nat, i < len → Z1 (a + 83 + j) i = (bsN p len V0 q).1 j i) ∧ Z1 (a + 109) j = (bsN p len V0 q).2.1 j) → Z1 a = (fun i => if i = 1 then ((bsN p len V0 q).2.2 : Int) else Z a i) → Oth Z Z1 (fun b => b = a ∨ (a + 83 ≤ b ∧ b < a + 110)) → V mX1_findBasis k n 7 [some (r_ a), some (r_ f), some (i_ v), none, none] [] x Z1 Q := by
    intro m
    induction m with
    | zero =>
      intro q v Z1 hv hq hb ha ho
      have e8 : Z1 a 8 = (dm : Int) := by rw [ha]; exact hd.1
      refine b_X1_findBasis_7 o ?_
      rw [e8]
      rw [show q = dm by omega] at hb ha
      exact ⟨⟨by omega, by omega⟩, ⟨by omega, by omega⟩, fun _ => h Z1 ⟨fun j hj => (hb j hj).1, ha, ho⟩, fun c2 => by omega⟩
    | succ m ih =>
      intro q v Z1 hv hq hb ha ho
      have e8 : Z1 a 8 = (dm : Int) := by rw [ha]; exact hd.1
      have e0 : Z1 a 0 = (len : Int) := by rw [ha]; exact hl.1
      have e1 : Z1 a 1 = ((bsN p len V0 q).2.2 : Int) := by rw [ha]; rfl
      have hIq := hI q
      have hnx : bsN p len V0 (q + 1) = bsS p len V0 q (bsN p len V0 q) := rfl
      have hend : len ≤ (bsN p len V0 q).2.2 → Q none x Z1 := fun hs => by
        have := bsN_stop hs (m + 1)
        rw [show q + (m + 1) = dm by omega] at this
        refine h Z1 ⟨fun j hj => ?_, ?_, ho⟩
        · rw [this] at hj ⊢; exact (hb j hj).1
        · rw [this]; exact ha
      generalize bsN p len V0 q = w at hb ha e1 hIq hnx hend
      have hIq1 := hIq.1
      refine b_X1_findBasis_7 o ?_
      rw [e8, e0, e1, Int.toNat_natCast, show v.toNat = q by omega]
      refine ⟨⟨by omega, by omega⟩, ⟨by omega, by omega⟩, fun c2 => by omega, fun _ => ⟨⟨by omega, by omega⟩, ⟨by omega, by omega⟩, fun c3 => hend (by omega), fun c3 => ⟨by omega, by omega, by omega, by omega, fun Z2 e2 => ?_⟩⟩⟩
      have hwl : w.2.2 < len := by omega
      have hrow := hbr w.2.2 (by omega)
      have hR0 : ∀ i : Nat, i < len → Z2 (a + 83 + w.2.2) i = V0 q i := fun i hi => by
        rw [e2, cpy_at, if_pos (by omega), ho _ (by omega)]; exact (hV q (by omega) i hi).1
      have ho2 : ∀ b, b ≠ a + 83 + w.2.2 → Z2 b = Z1 b := fun b hb => by rw [e2, cpy_row _ _ _ _ _ _ _ hb]
      unfold bsS at hnx
      rw [if_pos hwl] at hnx
      have hVr : ∀ i : Nat, i < len → 0 ≤ V0 q i ∧ V0 q i < p := fun i hi => (hV q (by omega) i hi).2
      -- the leads taken away
      have lp2 : ∀ (m2 j : Nat) (u : Int) (Z3 : Zt), u = j → j + m2 = w.2.2 → (∀ b, b ≠ a + 83 + w.2.2 → Z3 b = Z1 b) → (∀ i : Nat, i < len → Z3 (a + 83 + w.2.2) i = redB p w.1 w.2.1 j (V0 q) i) → V mX1_findBasis k n 53 [some (r_ a), some (r_ f), some (i_ v), some (r_ (a + 83 + w.2.2)), some (i_ u)] [] x Z3 Q := by
        intro m2
        induction m2 with
        | zero =>
          intro j u Z3 hu hj ho3 hz3
          rw [show j = w.2.2 by omega] at hz3
          have hRr : ∀ i : Nat, i < len → 0 ≤ redB p w.1 w.2.1 w.2.2 (V0 q) i ∧ redB p w.1 w.2.1 w.2.2 (V0 q) i < p := fun i hi => redB_rg (by omega) (hVr i hi) _
          generalize hRd : redB p w.1 w.2.1 w.2.2 (V0 q) = R at hz3 hRr hnx
          -- the lead found
          have lp3 : ∀ (m3 i : Nat) (y : Int), y = i → i + m3 = len → fsN R len 0 = fsN R m3 i → V mX1_findBasis k n 94 [some (r_ a), some (r_ f), some (i_ v), some (r_ (a + 83 + w.2.2)), some (i_ y)] [] x Z3 Q := by
            have at116 : ∀ (i : Nat) (y : Int), y = i → i = fsN R len 0 → i ≤ len → V mX1_findBasis k n 116 [some (r_ a), some (r_ f), some (i_ v), some (r_ (a + 83 + w.2.2)), some (i_ y)] [] x Z3 Q := by
              intro i y hy hi hil
              have e30 : Z3 a 0 = (len : Int) := by rw [ho3 a (by omega)]; exact e0
              rw [← hi] at hnx
              refine b_X1_findBasis_116 o of hrow ?_
              rw [e30, show y.toNat = i by omega]
              refine ⟨⟨by omega, by omega⟩, ⟨by omega, by omega⟩, fun c4 => ?_, fun c4 => ?_⟩
              · rw [if_neg (by omega)] at hnx
                refine b_X1_findBasis_163 (ih (q + 1) (v + 1) Z3 (by omega) (by omega) (fun j hj => ?_) ?_ (fun b hb => ?_))
                · rw [hnx] at hj ⊢
                  have := hb j hj
                  rw [ho3 _ (by omega), ho3 _ (by omega)]; exact this
                · rw [hnx, ho3 a (by omega)]; exact ha
                · rw [ho3 b (by omega)]; exact ho b hb
              · have hil' : i < len := by omega
                rw [if_pos hil'] at hnx
                have hRi := hRr i hil'
                have hne : R i ≠ 0 := by
                  have := fsN_ne (R := R) (m := len) (i := 0) (by omega)
                  rw [← hi] at this; exact this
                have hiv : Z3 (f + 1) (Int.toNat (R i)) = inv p (R i) := by
                  rw [ho3 (f + 1) (by omega), ho (f + 1) (by omega), hf.2.2.1 (R i).toNat (by omega), show (((R i).toNat : Nat) : Int) = R i by omega]
                have hir := inv_lt hp (R i)
                rw [hz3 i hil', hiv]
                refine ⟨by omega, by omega, by omega, by omega, p, len, hp, ?_, ⟨rfl, hl.2⟩, ⟨by omega, by omega⟩, fun t ht => ?_, ⟨by omega, by omega⟩, fun Z4 hz4 => ?_⟩
                · rw [ho3 f (by omega), ho f (by omega)]; exact hf.1
                · rw [hz3 t ht]; exact hRr t ht
                · obtain ⟨q1, _, q3⟩ := hz4
                  have e41 : Z4 a 1 = (w.2.2 : Int) := by rw [q3 a (by omega), ho3 a (by omega)]; exact e1
                  rw [e41, Int.toNat_natCast]
                  refine ⟨by omega, by omega, fun Z5 e5 Z6 e6 => ?_⟩
                  have e51 : Z5 a 1 = (w.2.2 : Int) := by rw [e5, up_row _ _ _ _ _ (by omega)]; exact e41
                  refine b_X1_findBasis_163 (ih (q + 1) (v + 1) Z6 (by omega) (by omega) (fun j hj => ?_) ?_ (fun b hb => ?_))
                  · rw [hnx] at hj ⊢
                    have hj' : j < w.2.2 + 1 := hj
                    show (∀ t : Nat, t < len → Z6 (a + 83 + j) t = upr w.1 w.2.2 _ j t) ∧ Z6 (a + 109) j = ((upn w.2.1 w.2.2 i j : Nat) : Int)
                    unfold upr upn
                    by_cases c5 : j = w.2.2
                    · rw [if_pos c5, if_pos c5]
                      refine ⟨fun t ht => ?_, ?_⟩
                      · rw [e6, up_row _ _ _ _ _ (by omega), e5, up_row _ _ _ _ _ (by omega), c5, q1 t ht, hz3 t ht]; rfl
                      · rw [e6, up_row _ _ _ _ _ (by omega), e5, up_at, if_pos c5, hy]
                    · rw [if_neg c5, if_neg c5]
                      have := hb j (by omega)
                      refine ⟨fun t ht => ?_, ?_⟩
                      · rw [e6, up_row _ _ _ _ _ (by omega), e5, up_row _ _ _ _ _ (by omega), q3 _ (by omega), ho3 _ (by omega)]; exact this.1 t ht
                      · rw [e6, up_row _ _ _ _ _ (by omega), e5, up_at, if_neg c5, q3 _ (by omega), ho3 _ (by omega)]; exact this.2
                  · rw [hnx]
                    funext t
                    rw [e6, up_at, e51]
                    by_cases c5 : t = 1
                    · rw [if_pos c5, if_pos c5]; rfl
                    · rw [if_neg c5, if_neg c5, e5, up_row _ _ _ _ _ (by omega), q3 a (by omega), ho3 a (by omega), ha]
                      exact if_neg c5
                  · rw [e6, up_row _ _ _ _ _ (by omega), e5, up_row _ _ _ _ _ (by omega), q3 b (by omega), ho3 b (by omega)]; exact ho b hb
            intro m3
            induction m3 with
            | zero =>
              intro i y hy hi he
              have he' : fsN R len 0 = i := he
              refine b_X1_findBasis_94 o hrow ?_
              have e30 : Z3 a 0 = (len : Int) := by rw [ho3 a (by omega)]; exact e0
              rw [e30]
              exact ⟨⟨by omega, by omega⟩, ⟨by omega, by omega⟩, fun _ => at116 i y hy he'.symm (by omega), fun c4 => by omega⟩
            | succ m3 ih3 =>
              intro i y hy hi he
              have he' : fsN R len 0 = if R i = 0 then fsN R m3 (i + 1) else i := he
              have hRi := hRr i (by omega)
              refine b_X1_findBasis_94 o hrow ?_
              have e30 : Z3 a 0 = (len : Int) := by rw [ho3 a (by omega)]; exact e0
              rw [e30, show y.toNat = i by omega, hz3 i (by omega)]
              refine ⟨⟨by omega, by omega⟩, ⟨by omega, by omega⟩, fun c4 => by omega, fun _ => ⟨by omega, by omega, ⟨by omega, by omega⟩, fun c5 => at116 i y hy ?_ (by omega), fun c5 => ih3 (i + 1) (y + 1) (by omega) (by omega) ?_⟩⟩
              · rw [if_neg c5] at he'; exact he'.symm
              · rw [if_pos c5] at he'; exact he'
          refine b_X1_findBasis_53 o of hrow ?_
          rw [ho3 a (by omega), e1]
          exact ⟨⟨by omega, by omega⟩, ⟨by omega, by omega⟩, fun _ => lp3 len 0 0 rfl (by omega) rfl, fun c4 => by omega⟩
        | succ m2 ih2 =>
          intro j u Z3 hu hj ho3 hz3
          have hbj := hb j (by omega)
          have hIj := hIq.2 j (by omega)
          have eld : Z3 (a + 109) j = (w.2.1 j : Int) := by rw [ho3 _ (by omega)]; exact hbj.2
          have eR : Z3 (a + 83 + w.2.2) (w.2.1 j) = redB p w.1 w.2.1 j (V0 q) (w.2.1 j) := hz3 _ hIj.1
          have hRr := redB_rg (p := p) (by omega) (B := w.1) (ld := w.2.1) (hVr _ hIj.1) j
          refine b_X1_findBasis_53 o of hrow ?_
          have e31 : Z3 a 1 = (w.2.2 : Int) := by rw [ho3 a (by omega)]; exact e1
          rw [e31, show u.toNat = j by omega, eld, Int.toNat_natCast, eR]
          refine ⟨⟨by omega, by omega⟩, ⟨by omega, by omega⟩, fun c4 => by omega, fun _ => ⟨by omega, by omega, by omega, by omega, p, len, hp, ?_, ⟨?_, hl.2⟩, ⟨by omega, by omega⟩, fun t ht => ?_, fun t ht => ?_, ⟨by omega, by omega⟩, fun Z4 hz4 => ih2 (j + 1) (u + 1) Z4 (by omega) (by omega) (fun b hb => ?_) (fun t ht => ?_)⟩⟩
          · rw [ho3 f (by omega), ho f (by omega)]; exact hf.1
          · rw [ho3 a (by omega)]; exact e0
          · rw [hz3 t ht]; exact redB_rg (by omega) (hVr t ht) j
          · rw [ho3 _ (by omega), hbj.1 t ht]; exact hIj.2 t ht
          · rw [hz4.2.2 b hb]; exact ho3 b hb
          · rw [hz4.1 t ht, hz3 t ht, ho3 _ (by omega), hbj.1 t ht]; rfl
      exact lp2 w.2.2 0 0 Z2 rfl (by omega) ho2 hR0
  refine b_X1_findBasis_0 o fun Z1 e1 => lp dm 0 0 Z1 rfl (by omega) (fun j hj => absurd hj (Nat.not_lt_zero j)) (funext fun i => ?_) (fun b hb => ?_)
  · rw [e1, up_at]
    by_cases c : i = 1
    · rw [if_pos c, if_pos c]; rfl
    · rw [if_neg c, if_neg c]
  · rw [e1, up_row _ _ _ _ _ (fun e => hb (Or.inl e))]
