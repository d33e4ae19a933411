theorem dX1_takePowers_0 : decode cX1_takePowers 0 = .ok (.aload_n 1, 1) := by decide +kernel
theorem dX1_takePowers_1 : decode cX1_takePowers 1 = .ok (.getfield 80, 3) := by decide +kernel
theorem dX1_takePowers_4 : decode cX1_takePowers 4 = .ok (.astore 4, 2) := by decide +kernel
theorem dX1_takePowers_6 : decode cX1_takePowers 6 = .ok (.aload_n 1, 1) := by decide +kernel
theorem dX1_takePowers_7 : decode cX1_takePowers 7 = .ok (.getfield 73, 3) := by decide +kernel
theorem dX1_takePowers_10 : decode cX1_takePowers 10 = .ok (.aload_n 0, 1) := by decide +kernel
theorem dX1_takePowers_11 : decode cX1_takePowers 11 = .ok (.getfield 18, 3) := by decide +kernel
theorem dX1_takePowers_14 : decode cX1_takePowers 14 = .ok (.iload_n 3, 1) := by decide +kernel
theorem dX1_takePowers_15 : decode cX1_takePowers 15 = .ok (.iaload, 1) := by decide +kernel
theorem dX1_takePowers_16 : decode cX1_takePowers 16 = .ok (.iaload, 1) := by decide +kernel
theorem dX1_takePowers_17 : decode cX1_takePowers 17 = .ok (.istore 5, 2) := by decide +kernel
theorem dX1_takePowers_19 : decode cX1_takePowers 19 = .ok (.aload_n 1, 1) := by decide +kernel
theorem dX1_takePowers_20 : decode cX1_takePowers 20 = .ok (.getfield 139, 3) := by decide +kernel
theorem dX1_takePowers_23 : decode cX1_takePowers 23 = .ok (.aload_n 0, 1) := by decide +kernel
theorem dX1_takePowers_24 : decode cX1_takePowers 24 = .ok (.getfield 18, 3) := by decide +kernel
theorem dX1_takePowers_27 : decode cX1_takePowers 27 = .ok (.iload_n 3, 1) := by decide +kernel
theorem dX1_takePowers_28 : decode cX1_takePowers 28 = .ok (.iaload, 1) := by decide +kernel
theorem dX1_takePowers_29 : decode cX1_takePowers 29 = .ok (.iaload, 1) := by decide +kernel
theorem dX1_takePowers_30 : decode cX1_takePowers 30 = .ok (.istore 6, 2) := by decide +kernel
theorem dX1_takePowers_32 : decode cX1_takePowers 32 = .ok (.iconst 0, 1) := by decide +kernel
theorem dX1_takePowers_33 : decode cX1_takePowers 33 = .ok (.istore 7, 2) := by decide +kernel
theorem dX1_takePowers_35 : decode cX1_takePowers 35 = .ok (.aload_n 2, 1) := by decide +kernel
theorem dX1_takePowers_36 : decode cX1_takePowers 36 = .ok (.getfield 142, 3) := by decide +kernel
theorem dX1_takePowers_39 : decode cX1_takePowers 39 = .ok (.istore 8, 2) := by decide +kernel
theorem dX1_takePowers_41 : decode cX1_takePowers 41 = .ok (.iload 8, 2) := by decide +kernel
theorem dX1_takePowers_43 : decode cX1_takePowers 43 = .ok (.ifCond .lt 29, 3) := by decide +kernel
theorem dX1_takePowers_46 : decode cX1_takePowers 46 = .ok (.aload 4, 2) := by decide +kernel
theorem dX1_takePowers_48 : decode cX1_takePowers 48 = .ok (.iload 7, 2) := by decide +kernel
theorem dX1_takePowers_50 : decode cX1_takePowers 50 = .ok (.iload 5, 2) := by decide +kernel
theorem dX1_takePowers_52 : decode cX1_takePowers 52 = .ok (.imul, 1) := by decide +kernel
theorem dX1_takePowers_53 : decode cX1_takePowers 53 = .ok (.aload_n 2, 1) := by decide +kernel
theorem dX1_takePowers_54 : decode cX1_takePowers 54 = .ok (.getfield 145, 3) := by decide +kernel
theorem dX1_takePowers_57 : decode cX1_takePowers 57 = .ok (.iload 8, 2) := by decide +kernel
theorem dX1_takePowers_59 : decode cX1_takePowers 59 = .ok (.iaload, 1) := by decide +kernel
theorem dX1_takePowers_60 : decode cX1_takePowers 60 = .ok (.iadd, 1) := by decide +kernel
theorem dX1_takePowers_61 : decode cX1_takePowers 61 = .ok (.invokevirtual 109, 3) := by decide +kernel
theorem dX1_takePowers_64 : decode cX1_takePowers 64 = .ok (.istore 7, 2) := by decide +kernel
theorem dX1_takePowers_66 : decode cX1_takePowers 66 = .ok (.iinc 8 (-1), 3) := by decide +kernel
theorem dX1_takePowers_69 : decode cX1_takePowers 69 = .ok (.goto (-28), 3) := by decide +kernel
theorem dX1_takePowers_72 : decode cX1_takePowers 72 = .ok (.aload 4, 2) := by decide +kernel
theorem dX1_takePowers_74 : decode cX1_takePowers 74 = .ok (.iload 7, 2) := by decide +kernel
theorem dX1_takePowers_76 : decode cX1_takePowers 76 = .ok (.invokevirtual 148, 3) := by decide +kernel
theorem dX1_takePowers_79 : decode cX1_takePowers 79 = .ok (.istore 8, 2) := by decide +kernel
theorem dX1_takePowers_81 : decode cX1_takePowers 81 = .ok (.aload_n 0, 1) := by decide +kernel
theorem dX1_takePowers_82 : decode cX1_takePowers 82 = .ok (.getfield 26, 3) := by decide +kernel
theorem dX1_takePowers_85 : decode cX1_takePowers 85 = .ok (.iload_n 3, 1) := by decide +kernel
theorem dX1_takePowers_86 : decode cX1_takePowers 86 = .ok (.aaload, 1) := by decide +kernel
theorem dX1_takePowers_87 : decode cX1_takePowers 87 = .ok (.astore 9, 2) := by decide +kernel
theorem dX1_takePowers_89 : decode cX1_takePowers 89 = .ok (.aload 9, 2) := by decide +kernel
theorem dX1_takePowers_91 : decode cX1_takePowers 91 = .ok (.iconst 0, 1) := by decide +kernel
theorem dX1_takePowers_92 : decode cX1_takePowers 92 = .ok (.invokestatic 103, 3) := by decide +kernel
theorem dX1_takePowers_95 : decode cX1_takePowers 95 = .ok (.iconst 0, 1) := by decide +kernel
theorem dX1_takePowers_96 : decode cX1_takePowers 96 = .ok (.istore 10, 2) := by decide +kernel
theorem dX1_takePowers_98 : decode cX1_takePowers 98 = .ok (.iconst 2, 1) := by decide +kernel
theorem dX1_takePowers_99 : decode cX1_takePowers 99 = .ok (.iload 10, 2) := by decide +kernel
theorem dX1_takePowers_101 : decode cX1_takePowers 101 = .ok (.imul, 1) := by decide +kernel
theorem dX1_takePowers_102 : decode cX1_takePowers 102 = .ok (.aload_n 2, 1) := by decide +kernel
theorem dX1_takePowers_103 : decode cX1_takePowers 103 = .ok (.getfield 151, 3) := by decide +kernel
theorem dX1_takePowers_106 : decode cX1_takePowers 106 = .ok (.if_icmp .gt 69, 3) := by decide +kernel
theorem dX1_takePowers_109 : decode cX1_takePowers 109 = .ok (.aload 9, 2) := by decide +kernel
theorem dX1_takePowers_111 : decode cX1_takePowers 111 = .ok (.iconst 2, 1) := by decide +kernel
theorem dX1_takePowers_112 : decode cX1_takePowers 112 = .ok (.iload 10, 2) := by decide +kernel
theorem dX1_takePowers_114 : decode cX1_takePowers 114 = .ok (.imul, 1) := by decide +kernel
theorem dX1_takePowers_115 : decode cX1_takePowers 115 = .ok (.iload 8, 2) := by decide +kernel
theorem dX1_takePowers_117 : decode cX1_takePowers 117 = .ok (.iastore, 1) := by decide +kernel
theorem dX1_takePowers_118 : decode cX1_takePowers 118 = .ok (.iconst 2, 1) := by decide +kernel
theorem dX1_takePowers_119 : decode cX1_takePowers 119 = .ok (.iload 10, 2) := by decide +kernel
theorem dX1_takePowers_121 : decode cX1_takePowers 121 = .ok (.imul, 1) := by decide +kernel
theorem dX1_takePowers_122 : decode cX1_takePowers 122 = .ok (.iconst 2, 1) := by decide +kernel
theorem dX1_takePowers_123 : decode cX1_takePowers 123 = .ok (.aload_n 1, 1) := by decide +kernel
theorem dX1_takePowers_124 : decode cX1_takePowers 124 = .ok (.getfield 154, 3) := by decide +kernel
theorem dX1_takePowers_127 : decode cX1_takePowers 127 = .ok (.imul, 1) := by decide +kernel
theorem dX1_takePowers_128 : decode cX1_takePowers 128 = .ok (.iadd, 1) := by decide +kernel
theorem dX1_takePowers_129 : decode cX1_takePowers 129 = .ok (.iconst 1, 1) := by decide +kernel
theorem dX1_takePowers_130 : decode cX1_takePowers 130 = .ok (.iadd, 1) := by decide +kernel
theorem dX1_takePowers_131 : decode cX1_takePowers 131 = .ok (.istore 11, 2) := by decide +kernel
theorem dX1_takePowers_133 : decode cX1_takePowers 133 = .ok (.iload 11, 2) := by decide +kernel
theorem dX1_takePowers_135 : decode cX1_takePowers 135 = .ok (.aload_n 2, 1) := by decide +kernel
theorem dX1_takePowers_136 : decode cX1_takePowers 136 = .ok (.getfield 151, 3) := by decide +kernel
theorem dX1_takePowers_139 : decode cX1_takePowers 139 = .ok (.if_icmp .gt 18, 3) := by decide +kernel
theorem dX1_takePowers_142 : decode cX1_takePowers 142 = .ok (.aload 9, 2) := by decide +kernel
theorem dX1_takePowers_144 : decode cX1_takePowers 144 = .ok (.iload 11, 2) := by decide +kernel
theorem dX1_takePowers_146 : decode cX1_takePowers 146 = .ok (.aload 4, 2) := by decide +kernel
theorem dX1_takePowers_148 : decode cX1_takePowers 148 = .ok (.iload 8, 2) := by decide +kernel
theorem dX1_takePowers_150 : decode cX1_takePowers 150 = .ok (.iload 6, 2) := by decide +kernel
theorem dX1_takePowers_152 : decode cX1_takePowers 152 = .ok (.imul, 1) := by decide +kernel
theorem dX1_takePowers_153 : decode cX1_takePowers 153 = .ok (.invokevirtual 109, 3) := by decide +kernel
theorem dX1_takePowers_156 : decode cX1_takePowers 156 = .ok (.iastore, 1) := by decide +kernel
theorem dX1_takePowers_157 : decode cX1_takePowers 157 = .ok (.aload 4, 2) := by decide +kernel
theorem dX1_takePowers_159 : decode cX1_takePowers 159 = .ok (.iload 8, 2) := by decide +kernel
theorem dX1_takePowers_161 : decode cX1_takePowers 161 = .ok (.iload 5, 2) := by decide +kernel
theorem dX1_takePowers_163 : decode cX1_takePowers 163 = .ok (.imul, 1) := by decide +kernel
theorem dX1_takePowers_164 : decode cX1_takePowers 164 = .ok (.invokevirtual 109, 3) := by decide +kernel
theorem dX1_takePowers_167 : decode cX1_takePowers 167 = .ok (.istore 8, 2) := by decide +kernel
theorem dX1_takePowers_169 : decode cX1_takePowers 169 = .ok (.iinc 10 1, 3) := by decide +kernel
theorem dX1_takePowers_172 : decode cX1_takePowers 172 = .ok (.goto (-74), 3) := by decide +kernel
theorem dX1_takePowers_175 : decode cX1_takePowers 175 = .ok (.return_, 1) := by decide +kernel
set_option maxRecDepth 20000 in
theorem b_X1_takePowers_0 {k n : Nat} {x : Wx} {Z : Zt} {Q : Option Value → Wx → Zt → Prop} {a0 : Nat} {a1 : Nat} {a2 : Nat} {v3 : Int} (o_a1 : Is2 x a1) (o_a0 : Is1 x a0) (o_a2 : Is9 x a2)
    (h : 0 ≤ v3 ∧ v3 < 26 ∧ (0 ≤ Z (a0 + 3) v3.toNat ∧ Z (a0 + 3) v3.toNat < 27 ∧ (V mX1_takePowers k n 41 [some (r_ a0), some (r_ a1), some (r_ a2), some (i_ v3), some (r_ (a1 + 1)), some (i_ (Z (a1 + 6) (Z (a0 + 3) v3.toNat).toNat)), some (i_ (Z (a1 + 7) (Z (a0 + 3) v3.toNat).toNat)), some (i_ 0), some (i_ (Z a2 3)), none, none, none] [] x Z Q))) :
    V mX1_takePowers k n 0 [some (r_ a0), some (r_ a1), some (r_ a2), some (i_ v3), none, none, none, none, none, none, none, none] [] x Z Q :=
  V_aload_n dX1_takePowers_0 rfl (G_2_0 o_a1.1 o_a1.2.1 lf_1_80 dX1_takePowers_1 (V_astore (lv' := [some (r_ a0), some (r_ a1), some (r_ a2), some (i_ v3), some (r_ (a1 + 1)), none, none, none, none, none, none, none]) dX1_takePowers_4 (Nat.le_of_ble_eq_true rfl) rfl (V_aload_n dX1_takePowers_6 rfl (G_2_4 o_a1.1 o_a1.2.2.2.2.2.1 lf_1_73 dX1_takePowers_7 (V_aload_n dX1_takePowers_10 rfl (G_1_9 o_a0.1 o_a0.2.2.2.2.2.1 lf_1_18 dX1_takePowers_11 (V_iload_n dX1_takePowers_14 rfl (V_iald (t := 100) o_a0.2.2.2.2.2.2.1 (by decide) rfl h.1 h.2.1 (Nat.le_of_ble_eq_true rfl) dX1_takePowers_15 (V_iald (t := 100) o_a1.2.2.2.2.2.2.1 (by decide) rfl h.2.2.1 h.2.2.2.1 (Nat.le_of_ble_eq_true rfl) dX1_takePowers_16 (V_istore (lv' := [some (r_ a0), some (r_ a1), some (r_ a2), some (i_ v3), some (r_ (a1 + 1)), some (i_ (Z (a1 + 6) (Z (a0 + 3) v3.toNat).toNat)), none, none, none, none, none, none]) dX1_takePowers_17 (Nat.le_of_ble_eq_true rfl) rfl (V_aload_n dX1_takePowers_19 rfl (G_2_5 o_a1.1 o_a1.2.2.2.2.2.2.2.1 lf_1_139 dX1_takePowers_20 (V_aload_n dX1_takePowers_23 rfl (G_1_9 o_a0.1 o_a0.2.2.2.2.2.1 lf_1_18 dX1_takePowers_24 (V_iload_n dX1_takePowers_27 rfl (V_iald (t := 100) o_a0.2.2.2.2.2.2.1 (by decide) rfl h.1 h.2.1 (Nat.le_of_ble_eq_true rfl) dX1_takePowers_28 (V_iald (t := 100) o_a1.2.2.2.2.2.2.2.2.1 (by decide) rfl h.2.2.1 h.2.2.2.1 (Nat.le_of_ble_eq_true rfl) dX1_takePowers_29 (V_istore (lv' := [some (r_ a0), some (r_ a1), some (r_ a2), some (i_ v3), some (r_ (a1 + 1)), some (i_ (Z (a1 + 6) (Z (a0 + 3) v3.toNat).toNat)), some (i_ (Z (a1 + 7) (Z (a0 + 3) v3.toNat).toNat)), none, none, none, none, none]) dX1_takePowers_30 (Nat.le_of_ble_eq_true rfl) rfl (V_iconst dX1_takePowers_32 (V_istore (lv' := [some (r_ a0), some (r_ a1), some (r_ a2), some (i_ v3), some (r_ (a1 + 1)), some (i_ (Z (a1 + 6) (Z (a0 + 3) v3.toNat).toNat)), some (i_ (Z (a1 + 7) (Z (a0 + 3) v3.toNat).toNat)), some (i_ 0), none, none, none, none]) dX1_takePowers_33 (Nat.le_of_ble_eq_true rfl) rfl (V_aload_n dX1_takePowers_35 rfl (G_9_3 o_a2.1 lf_1_142 dX1_takePowers_36 (V_istore (lv' := [some (r_ a0), some (r_ a1), some (r_ a2), some (i_ v3), some (r_ (a1 + 1)), some (i_ (Z (a1 + 6) (Z (a0 + 3) v3.toNat).toNat)), some (i_ (Z (a1 + 7) (Z (a0 + 3) v3.toNat).toNat)), some (i_ 0), some (i_ (Z a2 3)), none, none, none]) dX1_takePowers_39 (Nat.le_of_ble_eq_true rfl) rfl (V_msk [true, true, true, true, true, true, true, true, true, false, false, false] rfl h.2.2.2.2))))))))))))))))))))))))
set_option maxRecDepth 20000 in
theorem b_X1_takePowers_41 {k n : Nat} {x : Wx} {Z : Zt} {Q : Option Value → Wx → Zt → Prop} {a0 : Nat} {a1 : Nat} {a2 : Nat} {v3 : Int} {a4 : Nat} {v5 : Int} {v6 : Int} {v7 : Int} {v8 : Int} (o_a4 : Is4 x a4) (o_a0 : Is1 x a0) (o_a2 : Is9 x a2)
    (h : Rg v8 ∧ (((v8 < 0) → (0 ≤ v7 ∧ v7 < 13 ∧ (0 ≤ v3 ∧ v3 < 26 ∧ (∀ Z1 : Zt, Z1 = fillZ Z (a0 + 56 + v3.toNat) 90 (0 : Int) → (V mX1_takePowers k n 98 [none, some (r_ a1), some (r_ a2), none, some (r_ a4), some (i_ v5), some (i_ v6), none, some (i_ (Z (a4 + 1) (Int.toNat v7))), some (r_ (a0 + 56 + v3.toNat)), some (i_ 0), none] [] x Z1 Q))))) ∧ ((0 ≤ v8) → (v8 < 41 ∧ (Rg ((v7 * v5) + (Z (a2 + 1) v8.toNat)) ∧ 2 ≤ Z a4 0 ∧ Z a4 0 ≤ 13 ∧ (V mX1_takePowers k n 41 [some (r_ a0), some (r_ a1), some (r_ a2), some (i_ v3), some (r_ a4), some (i_ v5), some (i_ v6), some (i_ (((v7 * v5) + (Z (a2 + 1) v8.toNat)) % Z a4 0)), some (i_ (v8 + (-1))), none, none, none] [] x Z Q)))))) :
    V mX1_takePowers k n 41 [some (r_ a0), some (r_ a1), some (r_ a2), some (i_ v3), some (r_ a4), some (i_ v5), some (i_ v6), some (i_ v7), some (i_ v8), none, none, none] [] x Z Q :=
  V_iload dX1_takePowers_41 rfl (V_if_lt (tgt := 72) dX1_takePowers_43 rfl h.1 (fun c1 => V_aload dX1_takePowers_72 rfl (V_iload dX1_takePowers_74 rfl (V_callV (k' := 0) (n' := 0) (t := 4) (q := (RX4, TX4, 4)) [i_ v7] [] okX4_inverse o_a4.1 rfl rfl lm_1_148 liX4_inverse lqX4_inverse (Nat.le_of_ble_eq_true rfl) (Nat.le_of_ble_eq_true rfl) (Nat.le_of_ble_eq_true rfl) (cat_of rfl) (Nat.le_of_ble_eq_true rfl) (Nat.zero_le _) (Nat.zero_le _) rfl dX1_takePowers_76 (sp_X4_inverse o_a4 (h.2.1 c1).1 (h.2.1 c1).2.1 (V_istore (lv' := [some (r_ a0), some (r_ a1), some (r_ a2), some (i_ v3), some (r_ a4), some (i_ v5), some (i_ v6), some (i_ v7), some (i_ (Z (a4 + 1) (Int.toNat v7))), none, none, none]) dX1_takePowers_79 (Nat.le_of_ble_eq_true rfl) rfl (V_aload_n dX1_takePowers_81 rfl (G_1_11 o_a0.1 o_a0.2.2.2.2.2.2.2.2.2.2.1 lf_1_26 dX1_takePowers_82 (V_iload_n dX1_takePowers_85 rfl (V_aaldR (t := 104) o_a0.2.2.2.2.2.2.2.2.2.2.2.1 (by decide) (fun _ _ => rfl) rfl (h.2.1 c1).2.2.1 (h.2.1 c1).2.2.2.1 (Nat.le_of_ble_eq_true rfl) (o_a0.2.2.2.2.2.2.2.2.2.2.2.2.1 _ ((ix_lt (h.2.1 c1).2.2.1 (h.2.1 c1).2.2.2.1))).1 dX1_takePowers_86 (V_astore (lv' := [some (r_ a0), some (r_ a1), some (r_ a2), some (i_ v3), some (r_ a4), some (i_ v5), some (i_ v6), some (i_ v7), some (i_ (Z (a4 + 1) (Int.toNat v7))), some (r_ (a0 + 56 + v3.toNat)), none, none]) dX1_takePowers_87 (Nat.le_of_ble_eq_true rfl) rfl (V_aload dX1_takePowers_89 rfl (V_iconst dX1_takePowers_91 (V_callS (k' := 0) (n' := 0) [r_ (a0 + 56 + v3.toNat), i_ 0] [] okJ7_fill_53178 lm_1_103 lsJ7_fill_53178 (Nat.le_of_ble_eq_true rfl) (Nat.le_of_ble_eq_true rfl) (Nat.le_of_ble_eq_true rfl) (cat_of rfl) (Nat.le_of_ble_eq_true rfl) (Nat.zero_le _) (Nat.zero_le _) rfl dX1_takePowers_92 (sp_J7_fill_53178 (o_a0.2.2.2.2.2.2.2.2.2.2.2.2.1 _ ((ix_lt (h.2.1 c1).2.2.1 (h.2.1 c1).2.2.2.1))).2 (Nat.le_of_ble_eq_true rfl)  (V_nmZ (fun Z1 eZ1 => V_iconst dX1_takePowers_95 (V_istore (lv' := [some (r_ a0), some (r_ a1), some (r_ a2), some (i_ v3), some (r_ a4), some (i_ v5), some (i_ v6), some (i_ v7), some (i_ (Z (a4 + 1) (Int.toNat v7))), some (r_ (a0 + 56 + v3.toNat)), some (i_ 0), none]) dX1_takePowers_96 (Nat.le_of_ble_eq_true rfl) rfl (V_msk [false, true, true, false, true, true, true, false, true, true, true, false] rfl ((h.2.1 c1).2.2.2.2 Z1 eZ1))))))))))))))))))) (fun c1 => V_aload dX1_takePowers_46 rfl (V_iload dX1_takePowers_48 rfl (V_iload dX1_takePowers_50 rfl (V_imul dX1_takePowers_52 (V_aload_n dX1_takePowers_53 rfl (G_9_4 o_a2.1 o_a2.2.1 lf_1_145 dX1_takePowers_54 (V_iload dX1_takePowers_57 rfl (V_iald (t := 100) o_a2.2.2.1 (by decide) rfl c1 (h.2.2 c1).1 (Nat.le_of_ble_eq_true rfl) dX1_takePowers_59 (V_iadd dX1_takePowers_60 (V_callV (k' := 0) (n' := 0) (t := 4) (q := (RX4, TX4, 4)) [i_ ((v7 * v5) + (Z (a2 + 1) v8.toNat))] [] okX4_rem o_a4.1 rfl rfl lm_1_109 liX4_rem lqX4_rem (Nat.le_of_ble_eq_true rfl) (Nat.le_of_ble_eq_true rfl) (Nat.le_of_ble_eq_true rfl) (cat_of rfl) (Nat.le_of_ble_eq_true rfl) (Nat.zero_le _) (Nat.zero_le _) rfl dX1_takePowers_61 (sp_X4_rem o_a4 (h.2.2 c1).2.1 (h.2.2 c1).2.2.1 (h.2.2 c1).2.2.2.1 (V_istore (lv' := [some (r_ a0), some (r_ a1), some (r_ a2), some (i_ v3), some (r_ a4), some (i_ v5), some (i_ v6), some (i_ (((v7 * v5) + (Z (a2 + 1) v8.toNat)) % Z a4 0)), some (i_ v8), none, none, none]) dX1_takePowers_64 (Nat.le_of_ble_eq_true rfl) rfl (V_iinc (lv' := [some (r_ a0), some (r_ a1), some (r_ a2), some (i_ v3), some (r_ a4), some (i_ v5), some (i_ v6), some (i_ (((v7 * v5) + (Z (a2 + 1) v8.toNat)) % Z a4 0)), some (i_ (v8 + (-1))), none, none, none]) dX1_takePowers_66 rfl (Nat.le_of_ble_eq_true rfl) rfl (V_goto (tgt := 41) dX1_takePowers_69 rfl (V_msk [true, true, true, true, true, true, true, true, true, false, false, false] rfl (h.2.2 c1).2.2.2.2))))))))))))))))
set_option maxRecDepth 20000 in
theorem b_X1_takePowers_98 {k n : Nat} {x : Wx} {Z : Zt} {Q : Option Value → Wx → Zt → Prop} {a1 : Nat} {a2 : Nat} {a4 : Nat} {v5 : Int} {v6 : Int} {v8 : Int} {a9 : Nat} {v10 : Int} (o_a2 : Is9 x a2) (o_a1 : Is2 x a1) (o_a4 : Is4 x a4) (s_a9 : x.1 a9 = some (100, 90))
    (h : Rg (2 * v10) ∧ Rg (Z a2 2) ∧ (((Z a2 2 < 2 * v10) → (Q none x Z)) ∧ ((2 * v10 ≤ Z a2 2) → (0 ≤ 2 * v10 ∧ 2 * v10 < 90 ∧ (∀ Z1 : Zt, Z1 = up Z a9 (2 * v10).toNat v8 → (Rg (((2 * v10) + (2 * (Z1 a1 2))) + 1) ∧ Rg (Z1 a2 2) ∧ (((Z1 a2 2 < ((2 * v10) + (2 * (Z1 a1 2))) + 1) → (V mX1_takePowers k n 157 [none, some (r_ a1), some (r_ a2), none, some (r_ a4), some (i_ v5), some (i_ v6), none, some (i_ v8), some (r_ a9), some (i_ v10), none] [] x Z1 Q)) ∧ ((((2 * v10) + (2 * (Z1 a1 2))) + 1 ≤ Z1 a2 2) → (Rg (v8 * v6) ∧ 2 ≤ Z1 a4 0 ∧ Z1 a4 0 ≤ 13 ∧ (0 ≤ ((2 * v10) + (2 * (Z1 a1 2))) + 1 ∧ ((2 * v10) + (2 * (Z1 a1 2))) + 1 < 90 ∧ (∀ Z2 : Zt, Z2 = up Z1 a9 (((2 * v10) + (2 * (Z1 a1 2))) + 1).toNat ((v8 * v6) % Z1 a4 0) → (V mX1_takePowers k n 157 [none, some (r_ a1), some (r_ a2), none, some (r_ a4), some (i_ v5), some (i_ v6), none, some (i_ v8), some (r_ a9), some (i_ v10), none] [] x Z2 Q)))))))))))) :
    V mX1_takePowers k n 98 [none, some (r_ a1), some (r_ a2), none, some (r_ a4), some (i_ v5), some (i_ v6), none, some (i_ v8), some (r_ a9), some (i_ v10), none] [] x Z Q :=
  V_iconst dX1_takePowers_98 (V_iload dX1_takePowers_99 rfl (V_imul dX1_takePowers_101 (V_aload_n dX1_takePowers_102 rfl (G_9_2 o_a2.1 lf_1_151 dX1_takePowers_103 (V_icmp_gt (tgt := 175) dX1_takePowers_106 rfl h.1 h.2.1 (fun c1 => V_ret dX1_takePowers_175 rfl (h.2.2.1 c1)) (fun c1 => V_aload dX1_takePowers_109 rfl (V_iconst dX1_takePowers_111 (V_iload dX1_takePowers_112 rfl (V_imul dX1_takePowers_114 (V_iload dX1_takePowers_115 rfl (V_iast (t := 100) s_a9 (by decide) (by decide) rfl (h.2.2.2 c1).1 (h.2.2.2 c1).2.1 (Nat.le_of_ble_eq_true rfl) dX1_takePowers_117 (V_nmZ (fun Z1 eZ1 => V_iconst dX1_takePowers_118 (V_iload dX1_takePowers_119 rfl (V_imul dX1_takePowers_121 (V_iconst dX1_takePowers_122 (V_aload_n dX1_takePowers_123 rfl (G_2_2 o_a1.1 lf_1_154 dX1_takePowers_124 (V_imul dX1_takePowers_127 (V_iadd dX1_takePowers_128 (V_iconst dX1_takePowers_129 (V_iadd dX1_takePowers_130 (V_istore (lv' := [none, some (r_ a1), some (r_ a2), none, some (r_ a4), some (i_ v5), some (i_ v6), none, some (i_ v8), some (r_ a9), some (i_ v10), some (i_ (((2 * v10) + (2 * (Z1 a1 2))) + 1))]) dX1_takePowers_131 (Nat.le_of_ble_eq_true rfl) rfl (V_iload dX1_takePowers_133 rfl (V_aload_n dX1_takePowers_135 rfl (G_9_2 o_a2.1 lf_1_151 dX1_takePowers_136 (V_icmp_gt (tgt := 157) dX1_takePowers_139 rfl ((h.2.2.2 c1).2.2 Z1 eZ1).1 ((h.2.2.2 c1).2.2 Z1 eZ1).2.1 (fun c2 => V_msk [false, true, true, false, true, true, true, false, true, true, true, false] rfl (((h.2.2.2 c1).2.2 Z1 eZ1).2.2.1 c2)) (fun c2 => V_aload dX1_takePowers_142 rfl (V_iload dX1_takePowers_144 rfl (V_aload dX1_takePowers_146 rfl (V_iload dX1_takePowers_148 rfl (V_iload dX1_takePowers_150 rfl (V_imul dX1_takePowers_152 (V_callV (k' := 0) (n' := 0) (t := 4) (q := (RX4, TX4, 4)) [i_ (v8 * v6)] [i_ (((2 * v10) + (2 * (Z1 a1 2))) + 1), r_ a9] okX4_rem o_a4.1 rfl rfl lm_1_109 liX4_rem lqX4_rem (Nat.le_of_ble_eq_true rfl) (Nat.le_of_ble_eq_true rfl) (Nat.le_of_ble_eq_true rfl) (cat_of rfl) (Nat.le_of_ble_eq_true rfl) (Nat.zero_le _) (Nat.zero_le _) rfl dX1_takePowers_153 (sp_X4_rem o_a4 (((h.2.2.2 c1).2.2 Z1 eZ1).2.2.2 c2).1 (((h.2.2.2 c1).2.2 Z1 eZ1).2.2.2 c2).2.1 (((h.2.2.2 c1).2.2 Z1 eZ1).2.2.2 c2).2.2.1 (V_iast (t := 100) s_a9 (by decide) (by decide) rfl (((h.2.2.2 c1).2.2 Z1 eZ1).2.2.2 c2).2.2.2.1 (((h.2.2.2 c1).2.2 Z1 eZ1).2.2.2 c2).2.2.2.2.1 (Nat.le_of_ble_eq_true rfl) dX1_takePowers_156 (V_nmZ (fun Z2 eZ2 => V_msk [false, true, true, false, true, true, true, false, true, true, true, false] rfl ((((h.2.2.2 c1).2.2 Z1 eZ1).2.2.2 c2).2.2.2.2.2 Z2 eZ2)))))))))))))))))))))))))))))))))))))))
set_option maxRecDepth 20000 in
theorem b_X1_takePowers_157 {k n : Nat} {x : Wx} {Z : Zt} {Q : Option Value → Wx → Zt → Prop} {a1 : Nat} {a2 : Nat} {a4 : Nat} {v5 : Int} {v6 : Int} {v8 : Int} {a9 : Nat} {v10 : Int} (o_a4 : Is4 x a4)
    (h : Rg (v8 * v5) ∧ 2 ≤ Z a4 0 ∧ Z a4 0 ≤ 13 ∧ (V mX1_takePowers k n 98 [none, some (r_ a1), some (r_ a2), none, some (r_ a4), some (i_ v5), some (i_ v6), none, some (i_ ((v8 * v5) % Z a4 0)), some (r_ a9), some (i_ (v10 + 1)), none] [] x Z Q)) :
    V mX1_takePowers k n 157 [none, some (r_ a1), some (r_ a2), none, some (r_ a4), some (i_ v5), some (i_ v6), none, some (i_ v8), some (r_ a9), some (i_ v10), none] [] x Z Q :=
  V_aload dX1_takePowers_157 rfl (V_iload dX1_takePowers_159 rfl (V_iload dX1_takePowers_161 rfl (V_imul dX1_takePowers_163 (V_callV (k' := 0) (n' := 0) (t := 4) (q := (RX4, TX4, 4)) [i_ (v8 * v5)] [] okX4_rem o_a4.1 rfl rfl lm_1_109 liX4_rem lqX4_rem (Nat.le_of_ble_eq_true rfl) (Nat.le_of_ble_eq_true rfl) (Nat.le_of_ble_eq_true rfl) (cat_of rfl) (Nat.le_of_ble_eq_true rfl) (Nat.zero_le _) (Nat.zero_le _) rfl dX1_takePowers_164 (sp_X4_rem o_a4 h.1 h.2.1 h.2.2.1 (V_istore (lv' := [none, some (r_ a1), some (r_ a2), none, some (r_ a4), some (i_ v5), some (i_ v6), none, some (i_ ((v8 * v5) % Z a4 0)), some (r_ a9), some (i_ v10), none]) dX1_takePowers_167 (Nat.le_of_ble_eq_true rfl) rfl (V_iinc (lv' := [none, some (r_ a1), some (r_ a2), none, some (r_ a4), some (i_ v5), some (i_ v6), none, some (i_ ((v8 * v5) % Z a4 0)), some (r_ a9), some (i_ (v10 + 1)), none]) dX1_takePowers_169 rfl (Nat.le_of_ble_eq_true rfl) rfl (V_goto (tgt := 98) dX1_takePowers_172 rfl (V_msk [false, true, true, false, true, true, true, false, true, true, true, false] rfl h.2.2.2)))))))))
/-! ===== Code: the values of BASE rows ===== -/
theorem inv_lt {p : Int} (hp : IsP p) (a : Int) : 0 ≤ inv p a ∧ inv p a < p := by
  have h2 : ∀ m : Nat, 0 ≤ invL p a m ∧ (invL p a m < (m : Int) ∨ invL p a m = 0) := by
    intro m
    induction m with
    | zero => exact ⟨Int.le_refl 0, Or.inr rfl⟩
    | succ m ih =>
      unfold invL
      split <;> omega
  have h6 := hp.rg
  have h4 := h2 p.toNat
  unfold inv
  split <;> omega
def pwV (p e X : Int) : Nat → Int
  | 0 => e
  | i + 1 => pwV p e X i * X % p
theorem pwV_rg {p e X : Int} (hp : 0 < p) (he : 0 ≤ e ∧ e < p) : ∀ i : Nat, 0 ≤ pwV p e X i ∧ pwV p e X i < p
  | 0 => he
  | _ + 1 => emr _ hp
def evU (p : Int) (U : Un) (X : Int) : Int := hor p U.2 X (U.1 + 1) 0
/-- the values of the powers, by UNDER, at the POINT (X, y) -/
def pwrW (p : Int) (F : Nat → Int) (poles : Int) (U : Un) (X y : Int) (c : Nat) : Int := askW (fun i _ => pwV p (inv p (evU p U X)) X i) (fun i _ => pwV p (inv p (evU p U X)) X i * y % p) (gen F).toNat poles (pwN poles) 0 c
theorem pwrW_rg {p : Int} (hp : IsP p) (F : Nat → Int) (poles : Int) (U : Un) (X y : Int) (c : Nat) : 0 ≤ pwrW p F poles U X y c ∧ pwrW p F poles U X y c < p := by
  have hpr := hp.rg
  refine askW_rg (by omega) (fun i _ => pwV_rg (by omega) (inv_lt hp _) i) (fun i _ => emr _ (by omega)) _ _ _ _ _
theorem sp_X1_takePowers {k n : Nat} {x : Wx} {Z : Zt} {Q : Option Value → Wx → Zt → Prop} {a c s : Nat} {v : Int} (o : Is1 x a) (oc : Is2 x c) (os : Is9 x s) {p : Int} {F : Nat → Int} {U : Un} {t : Nat} (hp : IsP p) (hC : CvA Z c p F) (hU : Z s 3 = (U.1 : Int) ∧ U.1 ≤ 40) (hU2 : ∀ i : Nat, i < 41 → Z (s + 1) i = U.2 i ∧ 0 ≤ U.2 i ∧ U.2 i < p) (hpo : -100 ≤ Z s 2 ∧ Z s 2 < 90) (hv : 0 ≤ v ∧ v < 26) (ht : Z (a + 3) (Int.toNat v) = (t : Int) ∧ t + 1 < (pall p F).length) (hd1 : c + 16 ≤ a ∨ a + 113 ≤ c) (hd2 : s + 48 ≤ a ∨ a + 113 ≤ s) (h : ∀ Z' : Zt, ((∀ j : Nat, j < 90 → Z' (a + 56 + Int.toNat v) j = pwrW p F (Z s 2) U ((pall p F).getD t (0, 0)).1 ((pall p F).getD t (0, 0)).2 j) ∧ Oth Z Z' (fun b => b = a + 56 + Int.toNat v)) → Q none x Z') : V mX1_takePowers k n 0 [some (r_ a), some (r_ c), some (r_ s), some (i_ v), none, none, none, none, none, none, none, none] [] x Z Q := by
  have hpr := hp.rg
  have hl := pall_len hp F
  have hgr := gen_rg F
  have hgn := hC.2.2.2.1
  have hpt := pall_get (p := p) (F := F) (by omega) (k := t) ht.2
  have hpa := hC.2.2.1.2 t (by omega)
  generalize (pall p F).getD t (0, 0) = e at h hpt hpa
  obtain ⟨g, hgd⟩ : ∃ g : Nat, gen F = (g : Int) := ⟨(gen F).toNat, by omega⟩
  obtain ⟨q, hq⟩ : ∃ q : Nat, v = (q : Int) := ⟨v.toNat, by omega⟩
  unfold pwrW at h
  rw [hgd] at h hgn hgr
  rw [show ((g : Int)).toNat = g by omega] at h
  rw [hq, Int.toNat_natCast] at h ht
  rw [hq] at hv ⊢
  obtain ⟨po, hpo'⟩ : ∃ po : Int, Z s 2 = po := ⟨_, rfl⟩
  rw [hpo'] at h hpo
  have hN : pwN po = ((po + 2) / 2).toNat := rfl
  obtain ⟨w, hw⟩ : ∃ w : Int, evU p U e.1 = w := ⟨_, rfl⟩
  have hwr : 0 ≤ w ∧ w < p := by rw [← hw]; exact hor_rg (by omega) _ _ ⟨by omega, by omega⟩
  have hIr := inv_lt hp w
  rw [hw] at h
  generalize hId : inv p w = I at h hIr
  have hVr : ∀ i : Nat, 0 ≤ pwV p I e.1 i ∧ pwV p I e.1 i < p := pwV_rg (by omega) hIr
  generalize hPd : (fun (i _ : Nat) => pwV p I e.1 i) = P at h
  generalize hYd : (fun (i _ : Nat) => pwV p I e.1 i * e.2 % p) = Y at h
  have hPe : ∀ i : Nat, P i 0 = pwV p I e.1 i := fun i => by rw [← hPd]
  have hYe : ∀ i : Nat, Y i 0 = pwV p I e.1 i * e.2 % p := fun i => by rw [← hYd]
  have lp2 : ∀ (m i : Nat) (u : Int) (Z1 : Zt), u = i → i + m = pwN po → Oth Z Z1 (fun b => b = a + 56 + q) → (∀ j : Nat, j < 90 → Z1 (a + 56 + q) j = askW P Y g po i 0 j) → V mX1_takePowers k n 98 [none, some (r_ c), some (r_ s), none, some (r_ (c + 1)), some (i_ e.1), some (i_ e.2), none, some (i_ (pwV p I e.1 i)), some (r_ (a + 56 + q)), some (i_ u), none] [] x Z1 Q := by
    intro m
    induction m with
    | zero =>
      intro i u Z1 hu hi ho hz
      refine b_X1_takePowers_98 os oc oc.2.2.1 (o.2.2.2.2.2.2.2.2.2.2.2.2.1 q (by omega)).2 ?_
      rw [ho s (by omega), hpo']
      refine ⟨⟨by omega, by omega⟩, ⟨by omega, by omega⟩, fun _ => h Z1 ⟨fun j hj => ?_, ho⟩, fun c2 => by omega⟩
      rw [hz j hj, show i = pwN po by omega]
    | succ m ih =>
      intro i u Z1 hu hi ho hz
      have hVi := hVr i
      have hm1 := mul13 (a := pwV p I e.1 i) (b := e.2) ⟨by omega, by omega⟩ ⟨by omega, by omega⟩
      have hm2 := mul13 (a := pwV p I e.1 i) (b := e.1) ⟨by omega, by omega⟩ ⟨by omega, by omega⟩
      have tail : ∀ Z3 : Zt, Oth Z Z3 (fun b => b = a + 56 + q) → (∀ j : Nat, j < 90 → Z3 (a + 56 + q) j = askW P Y g po (i + 1) 0 j) → V mX1_takePowers k n 157 [none, some (r_ c), some (r_ s), none, some (r_ (c + 1)), some (i_ e.1), some (i_ e.2), none, some (i_ (pwV p I e.1 i)), some (r_ (a + 56 + q)), some (i_ u), none] [] x Z3 Q := fun Z3 h3 h4 => by
        refine b_X1_takePowers_157 oc.2.2.1 ?_
        have : Z3 (c + 1) 0 = p := by rw [h3 (c + 1) (by omega)]; exact hC.1.1
        rw [this]
        exact ⟨⟨by omega, by omega⟩, by omega, by omega, ih (i + 1) (u + 1) Z3 (by omega) (by omega) h3 h4⟩
      refine b_X1_takePowers_98 os oc oc.2.2.1 (o.2.2.2.2.2.2.2.2.2.2.2.2.1 q (by omega)).2 ?_
      rw [ho s (by omega), hpo', show (2 * u).toNat = 2 * i by omega]
      refine ⟨⟨by omega, by omega⟩, ⟨by omega, by omega⟩, fun c2 => by omega, fun _ => ⟨by omega, by omega, fun Z2 e2 => ?_⟩⟩
      have e2c : Z2 c 2 = (g : Int) := by rw [e2, up_row _ _ _ _ _ (by omega), ho c (by omega)]; exact hgn
      have e2s : Z2 s 2 = po := by rw [e2, up_row _ _ _ _ _ (by omega), ho s (by omega)]; exact hpo'
      have e2p : Z2 (c + 1) 0 = p := by rw [e2, up_row _ _ _ _ _ (by omega), ho (c + 1) (by omega)]; exact hC.1.1
      rw [e2c, e2s, e2p, show (2 * u + 2 * (g : Int) + 1).toNat = 2 * i + 2 * g + 1 by omega]
      refine ⟨⟨by omega, by omega⟩, ⟨by omega, by omega⟩, fun c4 => tail Z2 (fun b hb => ?_) (fun j hj => ?_), fun c4 => ⟨⟨by omega, by omega⟩, by omega, by omega, by omega, by omega, fun Z3 e3 => tail Z3 (fun b hb => ?_) (fun j hj => ?_)⟩⟩
      · rw [e2, up_row _ _ _ _ _ hb]; exact ho b hb
      · rw [e2, up_at]
        by_cases c6 : j = 2 * i
        · rw [if_pos c6, c6, askW_A, hPe]
        · rw [if_neg c6, hz j hj, askW_N P Y g _ c6 (by omega)]
      · rw [e3, up_row _ _ _ _ _ hb, e2, up_row _ _ _ _ _ hb]; exact ho b hb
      · rw [e3, up_at]
        by_cases c7 : j = 2 * i + 2 * g + 1
        · rw [if_pos c7, c7, askW_B P Y g _ (by omega), hYe]
        · rw [if_neg c7, e2, up_at]
          by_cases c6 : j = 2 * i
          · rw [if_pos c6, c6, askW_A, hPe]
          · rw [if_neg c6, hz j hj, askW_N P Y g _ c6 (Or.inl c7)]
  have lp1 : ∀ (m : Nat) (u acc : Int), u + 1 = m → m ≤ 41 → 0 ≤ acc ∧ acc < p → hor p U.2 e.1 m acc = w → V mX1_takePowers k n 41 [some (r_ a), some (r_ c), some (r_ s), some (i_ (q : Int)), some (r_ (c + 1)), some (i_ e.1), some (i_ e.2), some (i_ acc), some (i_ u), none, none, none] [] x Z Q := by
    intro m
    induction m with
    | zero =>
      intro u acc hu hm hac he
      have he' : acc = w := he
      refine b_X1_takePowers_41 oc.2.2.1 o os ?_
      rw [Int.toNat_natCast]
      refine ⟨⟨by omega, by omega⟩, fun _ => ⟨by omega, by omega, by omega, by omega, fun Z1 e1 => ?_⟩, fun c2 => by omega⟩
      have hiv : Z (c + 1 + 1) (Int.toNat acc) = inv p w := by
        rw [hC.1.2.2.1 acc.toNat (by omega), he', show ((w.toNat : Nat) : Int) = w by omega]
      rw [hiv, hId]
      have := lp2 (pwN po) 0 0 Z1 rfl (by omega) (fun b hb => by rw [e1]; exact fill_row _ _ _ _ _ hb) (fun j hj => by rw [e1, fill_at _ _ _ _ hj, askW_0])
      exact this
    | succ m ih =>
      intro u acc hu hm hac he
      have hUm := hU2 m (by omega)
      have hm1 := mul13 (a := acc) (b := e.1) ⟨by omega, by omega⟩ ⟨by omega, by omega⟩
      refine b_X1_takePowers_41 oc.2.2.1 o os ?_
      rw [show u.toNat = m by omega, hUm.1, hC.1.1]
      refine ⟨⟨by omega, by omega⟩, fun c2 => by omega, fun _ => ⟨by omega, ⟨by omega, by omega⟩, by omega, by omega, ih (u + -1) _ (by omega) (by omega) (emr _ (by omega)) he⟩⟩
  refine b_X1_takePowers_0 oc o os ?_
  rw [Int.toNat_natCast, ht.1, Int.toNat_natCast, hpa.1, hpa.2, hU.1]
  exact ⟨by omega, by omega, by omega, by omega, lp1 (U.1 + 1) (U.1 : Int) 0 (by omega) (by omega) ⟨by omega, by omega⟩ hw⟩
theorem dX1_takeValues_0 : decode cX1_takeValues 0 = .ok (.aload_n 0, 1) := by decide +kernel
theorem dX1_takeValues_1 : decode cX1_takeValues 1 = .ok (.getfield 23, 3) := by decide +kernel
theorem dX1_takeValues_4 : decode cX1_takeValues 4 = .ok (.iload_n 3, 1) := by decide +kernel
theorem dX1_takeValues_5 : decode cX1_takeValues 5 = .ok (.aaload, 1) := by decide +kernel
theorem dX1_takeValues_6 : decode cX1_takeValues 6 = .ok (.astore 4, 2) := by decide +kernel
theorem dX1_takeValues_8 : decode cX1_takeValues 8 = .ok (.aload 4, 2) := by decide +kernel
theorem dX1_takeValues_10 : decode cX1_takeValues 10 = .ok (.iconst 0, 1) := by decide +kernel
theorem dX1_takeValues_11 : decode cX1_takeValues 11 = .ok (.invokestatic 103, 3) := by decide +kernel
theorem dX1_takeValues_14 : decode cX1_takeValues 14 = .ok (.iconst 0, 1) := by decide +kernel
theorem dX1_takeValues_15 : decode cX1_takeValues 15 = .ok (.istore 5, 2) := by decide +kernel
theorem dX1_takeValues_17 : decode cX1_takeValues 17 = .ok (.iload 5, 2) := by decide +kernel
theorem dX1_takeValues_19 : decode cX1_takeValues 19 = .ok (.aload_n 2, 1) := by decide +kernel
theorem dX1_takeValues_20 : decode cX1_takeValues 20 = .ok (.getfield 151, 3) := by decide +kernel
theorem dX1_takeValues_23 : decode cX1_takeValues 23 = .ok (.if_icmp .gt 63, 3) := by decide +kernel
theorem dX1_takeValues_26 : decode cX1_takeValues 26 = .ok (.aload_n 2, 1) := by decide +kernel
theorem dX1_takeValues_27 : decode cX1_takeValues 27 = .ok (.aload_n 1, 1) := by decide +kernel
theorem dX1_takeValues_28 : decode cX1_takeValues 28 = .ok (.iload_n 3, 1) := by decide +kernel
theorem dX1_takeValues_29 : decode cX1_takeValues 29 = .ok (.iload 5, 2) := by decide +kernel
theorem dX1_takeValues_31 : decode cX1_takeValues 31 = .ok (.invokevirtual 157, 3) := by decide +kernel
theorem dX1_takeValues_34 : decode cX1_takeValues 34 = .ok (.istore 6, 2) := by decide +kernel
theorem dX1_takeValues_36 : decode cX1_takeValues 36 = .ok (.iconst 0, 1) := by decide +kernel
theorem dX1_takeValues_37 : decode cX1_takeValues 37 = .ok (.istore 7, 2) := by decide +kernel
theorem dX1_takeValues_39 : decode cX1_takeValues 39 = .ok (.iload 7, 2) := by decide +kernel
theorem dX1_takeValues_41 : decode cX1_takeValues 41 = .ok (.aload_n 0, 1) := by decide +kernel
theorem dX1_takeValues_42 : decode cX1_takeValues 42 = .ok (.getfield 61, 3) := by decide +kernel
theorem dX1_takeValues_45 : decode cX1_takeValues 45 = .ok (.if_icmp .ge 35, 3) := by decide +kernel
theorem dX1_takeValues_48 : decode cX1_takeValues 48 = .ok (.iload 6, 2) := by decide +kernel
theorem dX1_takeValues_50 : decode cX1_takeValues 50 = .ok (.ifCond .eq 30, 3) := by decide +kernel
theorem dX1_takeValues_53 : decode cX1_takeValues 53 = .ok (.aload 4, 2) := by decide +kernel
theorem dX1_takeValues_55 : decode cX1_takeValues 55 = .ok (.iload 7, 2) := by decide +kernel
theorem dX1_takeValues_57 : decode cX1_takeValues 57 = .ok (.dup2, 1) := by decide +kernel
theorem dX1_takeValues_58 : decode cX1_takeValues 58 = .ok (.iaload, 1) := by decide +kernel
theorem dX1_takeValues_59 : decode cX1_takeValues 59 = .ok (.iload 6, 2) := by decide +kernel
theorem dX1_takeValues_61 : decode cX1_takeValues 61 = .ok (.aload_n 0, 1) := by decide +kernel
theorem dX1_takeValues_62 : decode cX1_takeValues 62 = .ok (.getfield 26, 3) := by decide +kernel
theorem dX1_takeValues_65 : decode cX1_takeValues 65 = .ok (.iload 7, 2) := by decide +kernel
theorem dX1_takeValues_67 : decode cX1_takeValues 67 = .ok (.aaload, 1) := by decide +kernel
theorem dX1_takeValues_68 : decode cX1_takeValues 68 = .ok (.iload 5, 2) := by decide +kernel
theorem dX1_takeValues_70 : decode cX1_takeValues 70 = .ok (.iaload, 1) := by decide +kernel
theorem dX1_takeValues_71 : decode cX1_takeValues 71 = .ok (.imul, 1) := by decide +kernel
theorem dX1_takeValues_72 : decode cX1_takeValues 72 = .ok (.iadd, 1) := by decide +kernel
theorem dX1_takeValues_73 : decode cX1_takeValues 73 = .ok (.iastore, 1) := by decide +kernel
theorem dX1_takeValues_74 : decode cX1_takeValues 74 = .ok (.iinc 7 1, 3) := by decide +kernel
theorem dX1_takeValues_77 : decode cX1_takeValues 77 = .ok (.goto (-38), 3) := by decide +kernel
theorem dX1_takeValues_80 : decode cX1_takeValues 80 = .ok (.iinc 5 1, 3) := by decide +kernel
theorem dX1_takeValues_83 : decode cX1_takeValues 83 = .ok (.goto (-66), 3) := by decide +kernel
theorem dX1_takeValues_86 : decode cX1_takeValues 86 = .ok (.iconst 0, 1) := by decide +kernel
theorem dX1_takeValues_87 : decode cX1_takeValues 87 = .ok (.istore 5, 2) := by decide +kernel
theorem dX1_takeValues_89 : decode cX1_takeValues 89 = .ok (.iload 5, 2) := by decide +kernel
theorem dX1_takeValues_91 : decode cX1_takeValues 91 = .ok (.aload_n 0, 1) := by decide +kernel
theorem dX1_takeValues_92 : decode cX1_takeValues 92 = .ok (.getfield 61, 3) := by decide +kernel
theorem dX1_takeValues_95 : decode cX1_takeValues 95 = .ok (.if_icmp .ge 23, 3) := by decide +kernel
theorem dX1_takeValues_98 : decode cX1_takeValues 98 = .ok (.aload 4, 2) := by decide +kernel
theorem dX1_takeValues_100 : decode cX1_takeValues 100 = .ok (.iload 5, 2) := by decide +kernel
theorem dX1_takeValues_102 : decode cX1_takeValues 102 = .ok (.aload_n 1, 1) := by decide +kernel
theorem dX1_takeValues_103 : decode cX1_takeValues 103 = .ok (.aload 4, 2) := by decide +kernel
theorem dX1_takeValues_105 : decode cX1_takeValues 105 = .ok (.iload 5, 2) := by decide +kernel
theorem dX1_takeValues_107 : decode cX1_takeValues 107 = .ok (.iaload, 1) := by decide +kernel
theorem dX1_takeValues_108 : decode cX1_takeValues 108 = .ok (.invokevirtual 109, 3) := by decide +kernel
theorem dX1_takeValues_111 : decode cX1_takeValues 111 = .ok (.iastore, 1) := by decide +kernel
theorem dX1_takeValues_112 : decode cX1_takeValues 112 = .ok (.iinc 5 1, 3) := by decide +kernel
theorem dX1_takeValues_115 : decode cX1_takeValues 115 = .ok (.goto (-26), 3) := by decide +kernel
theorem dX1_takeValues_118 : decode cX1_takeValues 118 = .ok (.return_, 1) := by decide +kernel
set_option maxRecDepth 20000 in
theorem b_X1_takeValues_0 {k n : Nat} {x : Wx} {Z : Zt} {Q : Option Value → Wx → Zt → Prop} {a0 : Nat} {a1 : Nat} {a2 : Nat} {v3 : Int} (o_a0 : Is1 x a0)
    (h : 0 ≤ v3 ∧ v3 < 50 ∧ (∀ Z1 : Zt, Z1 = fillZ Z (a0 + 5 + v3.toNat) 26 (0 : Int) → (V mX1_takeValues k n 17 [some (r_ a0), some (r_ a1), some (r_ a2), some (i_ v3), some (r_ (a0 + 5 + v3.toNat)), some (i_ 0), none, none] [] x Z1 Q))) :
    V mX1_takeValues k n 0 [some (r_ a0), some (r_ a1), some (r_ a2), some (i_ v3), none, none, none, none] [] x Z Q :=
  V_aload_n dX1_takeValues_0 rfl (G_1_10 o_a0.1 o_a0.2.2.2.2.2.2.2.1 lf_1_23 dX1_takeValues_1 (V_iload_n dX1_takeValues_4 rfl (V_aaldR (t := 104) o_a0.2.2.2.2.2.2.2.2.1 (by decide) (fun _ _ => rfl) rfl h.1 h.2.1 (Nat.le_of_ble_eq_true rfl) (o_a0.2.2.2.2.2.2.2.2.2.1 _ ((ix_lt h.1 h.2.1))).1 dX1_takeValues_5 (V_astore (lv' := [some (r_ a0), some (r_ a1), some (r_ a2), some (i_ v3), some (r_ (a0 + 5 + v3.toNat)), none, none, none]) dX1_takeValues_6 (Nat.le_of_ble_eq_true rfl) rfl (V_aload dX1_takeValues_8 rfl (V_iconst dX1_takeValues_10 (V_callS (k' := 0) (n' := 0) [r_ (a0 + 5 + v3.toNat), i_ 0] [] okJ7_fill_53178 lm_1_103 lsJ7_fill_53178 (Nat.le_of_ble_eq_true rfl) (Nat.le_of_ble_eq_true rfl) (Nat.le_of_ble_eq_true rfl) (cat_of rfl) (Nat.le_of_ble_eq_true rfl) (Nat.zero_le _) (Nat.zero_le _) rfl dX1_takeValues_11 (sp_J7_fill_53178 (o_a0.2.2.2.2.2.2.2.2.2.1 _ ((ix_lt h.1 h.2.1))).2 (Nat.le_of_ble_eq_true rfl)  (V_nmZ (fun Z1 eZ1 => V_iconst dX1_takeValues_14 (V_istore (lv' := [some (r_ a0), some (r_ a1), some (r_ a2), some (i_ v3), some (r_ (a0 + 5 + v3.toNat)), some (i_ 0), none, none]) dX1_takeValues_15 (Nat.le_of_ble_eq_true rfl) rfl (V_msk [true, true, true, true, true, true, false, false] rfl (h.2.2 Z1 eZ1)))))))))))))
set_option maxRecDepth 20000 in
theorem b_X1_takeValues_17 {k n : Nat} {x : Wx} {Z : Zt} {Q : Option Value → Wx → Zt → Prop} {a0 : Nat} {a1 : Nat} {a2 : Nat} {v3 : Int} {a4 : Nat} {v5 : Int} (o_a2 : Is9 x a2) (o_a1 : Is4 x a1)
    (h : Rg v5 ∧ Rg (Z a2 2) ∧ (((Z a2 2 < v5) → (V mX1_takeValues k n 89 [some (r_ a0), some (r_ a1), none, none, some (r_ a4), some (i_ 0), none, none] [] x Z Q)) ∧ ((v5 ≤ Z a2 2) → (∃ g1 : Int, (∃ g2 : Nat → Nat, (IsP g1 ∧ Z a1 0 = g1 ∧ LnA x a2 g2 ∧ Rg v3 ∧ Rg v5 ∧ (0 ≤ Z a2 1 ∧ Z a2 1 ≤ 90) ∧ (-100 ≤ Z a2 2 ∧ Z a2 2 < 90) ∧ (∀ i : Nat, (i : Int) < Z a2 1 → 0 ≤ Z (a2 + 47) i ∧ Z (a2 + 47) i < 90) ∧ (∀ i : Nat, (i : Int) ≤ Z a2 2 → -2 ≤ Z (a2 + 46) i ∧ Z (a2 + 46) i < 40 ∧ (0 ≤ Z (a2 + 46) i → ∀ j : Nat, j < 90 → 0 ≤ Z (a2 + 6 + g2 (Z (a2 + 46) i).toNat) j ∧ Z (a2 + 6 + g2 (Z (a2 + 46) i).toNat) j < g1)) ∧ (∀ i1 : Int, i1 = cof g1 (fun i j => Z (a2 + 6 + g2 i) j) (Z a2 1) (Z a2 2) (Z (a2 + 46)) (Z (a2 + 47)) v3 v5 → (V mX1_takeValues k n 39 [some (r_ a0), some (r_ a1), some (r_ a2), some (i_ v3), some (r_ a4), some (i_ v5), some (i_ i1), some (i_ 0)] [] x Z Q)))))))) :
    V mX1_takeValues k n 17 [some (r_ a0), some (r_ a1), some (r_ a2), some (i_ v3), some (r_ a4), some (i_ v5), none, none] [] x Z Q :=
  V_iload dX1_takeValues_17 rfl (V_aload_n dX1_takeValues_19 rfl (G_9_2 o_a2.1 lf_1_151 dX1_takeValues_20 (V_icmp_gt (tgt := 86) dX1_takeValues_23 rfl h.1 h.2.1 (fun c1 => V_iconst dX1_takeValues_86 (V_istore (lv' := [some (r_ a0), some (r_ a1), some (r_ a2), some (i_ v3), some (r_ a4), some (i_ 0), none, none]) dX1_takeValues_87 (Nat.le_of_ble_eq_true rfl) rfl (V_msk [true, true, false, false, true, true, false, false] rfl (h.2.2.1 c1)))) (fun c1 => V_aload_n dX1_takeValues_26 rfl (V_aload_n dX1_takeValues_27 rfl (V_iload_n dX1_takeValues_28 rfl (V_iload dX1_takeValues_29 rfl (Exists.elim (h.2.2.2 c1) (fun g1 w1 => Exists.elim w1 (fun g2 w2 => V_callV (k' := 0) (n' := 0) (t := 9) (q := (RX9, TX9, 12)) [r_ a1, i_ v3, i_ v5] [] okX9_coefficient o_a2.1 rfl rfl lm_1_157 liX9_coefficient lqX9_coefficient (Nat.le_of_ble_eq_true rfl) (Nat.le_of_ble_eq_true rfl) (Nat.le_of_ble_eq_true rfl) (cat_of rfl) (Nat.le_of_ble_eq_true rfl) (Nat.zero_le _) (Nat.zero_le _) rfl dX1_takeValues_31 (sp_X9_coefficient o_a2 o_a1 w2.1 w2.2.1 w2.2.2.1 w2.2.2.2.1 w2.2.2.2.2.1 w2.2.2.2.2.2.1 w2.2.2.2.2.2.2.1 w2.2.2.2.2.2.2.2.1 w2.2.2.2.2.2.2.2.2.1 (V_nmi (fun i1 ei1 => V_istore (lv' := [some (r_ a0), some (r_ a1), some (r_ a2), some (i_ v3), some (r_ a4), some (i_ v5), some (i_ i1), none]) dX1_takeValues_34 (Nat.le_of_ble_eq_true rfl) rfl (V_iconst dX1_takeValues_36 (V_istore (lv' := [some (r_ a0), some (r_ a1), some (r_ a2), some (i_ v3), some (r_ a4), some (i_ v5), some (i_ i1), some (i_ 0)]) dX1_takeValues_37 (Nat.le_of_ble_eq_true rfl) rfl (V_msk [true, true, true, true, true, true, true, true] rfl (w2.2.2.2.2.2.2.2.2.2 i1 ei1)))))))))))))))))
set_option maxRecDepth 20000 in
theorem b_X1_takeValues_39 {k n : Nat} {x : Wx} {Z : Zt} {Q : Option Value → Wx → Zt → Prop} {a0 : Nat} {a1 : Nat} {a2 : Nat} {v3 : Int} {a4 : Nat} {v5 : Int} {v6 : Int} {v7 : Int} (o_a0 : Is1 x a0) (s_a4 : x.1 a4 = some (100, 26))
    (h : Rg v7 ∧ Rg (Z a0 0) ∧ (((Z a0 0 ≤ v7) → (V mX1_takeValues k n 80 [some (r_ a0), some (r_ a1), some (r_ a2), some (i_ v3), some (r_ a4), some (i_ v5), none, none] [] x Z Q)) ∧ ((v7 < Z a0 0) → (Rg v6 ∧ (((v6 = 0) → (V mX1_takeValues k n 80 [some (r_ a0), some (r_ a1), some (r_ a2), some (i_ v3), some (r_ a4), some (i_ v5), none, none] [] x Z Q)) ∧ ((v6 ≠ 0) → (0 ≤ v7 ∧ v7 < 26 ∧ (0 ≤ v5 ∧ v5 < 90 ∧ (∀ Z1 : Zt, Z1 = up Z a4 v7.toNat ((Z a4 v7.toNat) + (v6 * (Z (a0 + 56 + v7.toNat) v5.toNat))) → (V mX1_takeValues k n 39 [some (r_ a0), some (r_ a1), some (r_ a2), some (i_ v3), some (r_ a4), some (i_ v5), some (i_ v6), some (i_ (v7 + 1))] [] x Z1 Q)))))))))) :
    V mX1_takeValues k n 39 [some (r_ a0), some (r_ a1), some (r_ a2), some (i_ v3), some (r_ a4), some (i_ v5), some (i_ v6), some (i_ v7)] [] x Z Q :=
  V_iload dX1_takeValues_39 rfl (V_aload_n dX1_takeValues_41 rfl (G_1_0 o_a0.1 lf_1_61 dX1_takeValues_42 (V_icmp_ge (tgt := 80) dX1_takeValues_45 rfl h.1 h.2.1 (fun c1 => V_msk [true, true, true, true, true, true, false, false] rfl (h.2.2.1 c1)) (fun c1 => V_iload dX1_takeValues_48 rfl (V_if_eq (tgt := 80) dX1_takeValues_50 rfl (h.2.2.2 c1).1 (fun c2 => V_msk [true, true, true, true, true, true, false, false] rfl ((h.2.2.2 c1).2.1 c2)) (fun c2 => V_aload dX1_takeValues_53 rfl (V_iload dX1_takeValues_55 rfl (V_dup2 dX1_takeValues_57 rfl rfl (V_iald (t := 100) s_a4 (by decide) rfl ((h.2.2.2 c1).2.2 c2).1 ((h.2.2.2 c1).2.2 c2).2.1 (Nat.le_of_ble_eq_true rfl) dX1_takeValues_58 (V_iload dX1_takeValues_59 rfl (V_aload_n dX1_takeValues_61 rfl (G_1_11 o_a0.1 o_a0.2.2.2.2.2.2.2.2.2.2.1 lf_1_26 dX1_takeValues_62 (V_iload dX1_takeValues_65 rfl (V_aaldR (t := 104) o_a0.2.2.2.2.2.2.2.2.2.2.2.1 (by decide) (fun _ _ => rfl) rfl ((h.2.2.2 c1).2.2 c2).1 ((h.2.2.2 c1).2.2 c2).2.1 (Nat.le_of_ble_eq_true rfl) (o_a0.2.2.2.2.2.2.2.2.2.2.2.2.1 _ ((ix_lt ((h.2.2.2 c1).2.2 c2).1 ((h.2.2.2 c1).2.2 c2).2.1))).1 dX1_takeValues_67 (V_iload dX1_takeValues_68 rfl (V_iald (t := 100) (o_a0.2.2.2.2.2.2.2.2.2.2.2.2.1 _ ((ix_lt ((h.2.2.2 c1).2.2 c2).1 ((h.2.2.2 c1).2.2 c2).2.1))).2 (by decide) rfl ((h.2.2.2 c1).2.2 c2).2.2.1 ((h.2.2.2 c1).2.2 c2).2.2.2.1 (Nat.le_of_ble_eq_true rfl) dX1_takeValues_70 (V_imul dX1_takeValues_71 (V_iadd dX1_takeValues_72 (V_iast (t := 100) s_a4 (by decide) (by decide) rfl ((h.2.2.2 c1).2.2 c2).1 ((h.2.2.2 c1).2.2 c2).2.1 (Nat.le_of_ble_eq_true rfl) dX1_takeValues_73 (V_nmZ (fun Z1 eZ1 => V_iinc (lv' := [some (r_ a0), some (r_ a1), some (r_ a2), some (i_ v3), some (r_ a4), some (i_ v5), some (i_ v6), some (i_ (v7 + 1))]) dX1_takeValues_74 rfl (Nat.le_of_ble_eq_true rfl) rfl (V_goto (tgt := 39) dX1_takeValues_77 rfl (V_msk [true, true, true, true, true, true, true, true] rfl (((h.2.2.2 c1).2.2 c2).2.2.2.2 Z1 eZ1))))))))))))))))))))))))
set_option maxRecDepth 20000 in
theorem b_X1_takeValues_80 {k n : Nat} {x : Wx} {Z : Zt} {Q : Option Value → Wx → Zt → Prop} {a0 : Nat} {a1 : Nat} {a2 : Nat} {v3 : Int} {a4 : Nat} {v5 : Int} 
    (h : V mX1_takeValues k n 17 [some (r_ a0), some (r_ a1), some (r_ a2), some (i_ v3), some (r_ a4), some (i_ (v5 + 1)), none, none] [] x Z Q) :
    V mX1_takeValues k n 80 [some (r_ a0), some (r_ a1), some (r_ a2), some (i_ v3), some (r_ a4), some (i_ v5), none, none] [] x Z Q :=
  V_iinc (lv' := [some (r_ a0), some (r_ a1), some (r_ a2), some (i_ v3), some (r_ a4), some (i_ (v5 + 1)), none, none]) dX1_takeValues_80 rfl (Nat.le_of_ble_eq_true rfl) rfl (V_goto (tgt := 17) dX1_takeValues_83 rfl (V_msk [true, true, true, true, true, true, false, false] rfl h))
set_option maxRecDepth 20000 in
theorem b_X1_takeValues_89 {k n : Nat} {x : Wx} {Z : Zt} {Q : Option Value → Wx → Zt → Prop} {a0 : Nat} {a1 : Nat} {a4 : Nat} {v5 : Int} (o_a0 : Is1 x a0) (o_a1 : Is4 x a1) (s_a4 : x.1 a4 = some (100, 26))
    (h : Rg v5 ∧ Rg (Z a0 0) ∧ (((Z a0 0 ≤ v5) → (Q none x Z)) ∧ ((v5 < Z a0 0) → (0 ≤ v5 ∧ v5 < 26 ∧ (Rg (Z a4 v5.toNat) ∧ 2 ≤ Z a1 0 ∧ Z a1 0 ≤ 13 ∧ (∀ Z1 : Zt, Z1 = up Z a4 v5.toNat ((Z a4 v5.toNat) % Z a1 0) → (V mX1_takeValues k n 89 [some (r_ a0), some (r_ a1), none, none, some (r_ a4), some (i_ (v5 + 1)), none, none] [] x Z1 Q))))))) :
    V mX1_takeValues k n 89 [some (r_ a0), some (r_ a1), none, none, some (r_ a4), some (i_ v5), none, none] [] x Z Q :=
  V_iload dX1_takeValues_89 rfl (V_aload_n dX1_takeValues_91 rfl (G_1_0 o_a0.1 lf_1_61 dX1_takeValues_92 (V_icmp_ge (tgt := 118) dX1_takeValues_95 rfl h.1 h.2.1 (fun c1 => V_ret dX1_takeValues_118 rfl (h.2.2.1 c1)) (fun c1 => V_aload dX1_takeValues_98 rfl (V_iload dX1_takeValues_100 rfl (V_aload_n dX1_takeValues_102 rfl (V_aload dX1_takeValues_103 rfl (V_iload dX1_takeValues_105 rfl (V_iald (t := 100) s_a4 (by decide) rfl (h.2.2.2 c1).1 (h.2.2.2 c1).2.1 (Nat.le_of_ble_eq_true rfl) dX1_takeValues_107 (V_callV (k' := 0) (n' := 0) (t := 4) (q := (RX4, TX4, 4)) [i_ (Z a4 v5.toNat)] [i_ v5, r_ a4] okX4_rem o_a1.1 rfl rfl lm_1_109 liX4_rem lqX4_rem (Nat.le_of_ble_eq_true rfl) (Nat.le_of_ble_eq_true rfl) (Nat.le_of_ble_eq_true rfl) (cat_of rfl) (Nat.le_of_ble_eq_true rfl) (Nat.zero_le _) (Nat.zero_le _) rfl dX1_takeValues_108 (sp_X4_rem o_a1 (h.2.2.2 c1).2.2.1 (h.2.2.2 c1).2.2.2.1 (h.2.2.2 c1).2.2.2.2.1 (V_iast (t := 100) s_a4 (by decide) (by decide) rfl (h.2.2.2 c1).1 (h.2.2.2 c1).2.1 (Nat.le_of_ble_eq_true rfl) dX1_takeValues_111 (V_nmZ (fun Z1 eZ1 => V_iinc (lv' := [some (r_ a0), some (r_ a1), none, none, some (r_ a4), some (i_ (v5 + 1)), none, none]) dX1_takeValues_112 rfl (Nat.le_of_ble_eq_true rfl) rfl (V_goto (tgt := 89) dX1_takeValues_115 rfl (V_msk [true, true, false, false, true, true, false, false] rfl ((h.2.2.2 c1).2.2.2.2.2 Z1 eZ1)))))))))))))))))
/-- the value of a BASE row at a place -/
def valW (p : Int) (C : Nat → Int) (W : Nat → Int) (nc : Nat) : Int := smT nc (fun j => C j * W j) % p
theorem smT_bd {f : Nat → Int} {M : Int} (h0 : 0 ≤ M) : ∀ {n : Nat}, (∀ i : Nat, i < n → 0 ≤ f i ∧ f i ≤ M) → 0 ≤ smT n f ∧ smT n f ≤ M * n
  | 0, _ => ⟨Int.le_refl 0, by show (0 : Int) ≤ M * ((0 : Nat) : Int); omega⟩
  | n + 1, h => by
    have h1 := smT_bd h0 (n := n) (fun i hi => h i (by omega))
    have h2 := h n (by omega)
    have h3 : M * ((n + 1 : Nat) : Int) = M * (n : Int) + M := by rw [show ((n + 1 : Nat) : Int) = (n : Int) + 1 from rfl, Int.mul_add, Int.mul_one]
    show 0 ≤ smT n f + f n ∧ smT n f + f n ≤ M * ((n + 1 : Nat) : Int)
    rw [h3]; omega
theorem sp_X1_takeValues {k n : Nat} {x : Wx} {Z : Zt} {Q : Option Value → Wx → Zt → Prop} {a f s : Nat} {v : Int} (o : Is1 x a) (of : Is4 x f) (os : Is9 x s) {p : Int} {σ : Nat → Nat} {len : Nat} {W : Nat → Nat → Int} (hp : IsP p) (hf : Z f 0 = p) (hσ : LnA x s σ) (hl : Z a 0 = (len : Int) ∧ len ≤ 26) (hv : 0 ≤ v ∧ v < 50) (hd : 0 ≤ Z s 1 ∧ Z s 1 ≤ 90) (hpo : -100 ≤ Z s 2 ∧ Z s 2 < 90) (hld : ∀ i : Nat, (i : Int) < Z s 1 → 0 ≤ Z (s + 47) i ∧ Z (s + 47) i < 90) (hpv : ∀ i : Nat, (i : Int) ≤ Z s 2 → -2 ≤ Z (s + 46) i ∧ Z (s + 46) i < 40 ∧ (0 ≤ Z (s + 46) i → ∀ j : Nat, j < 90 → 0 ≤ Z (s + 6 + σ (Z (s + 46) i).toNat) j ∧ Z (s + 6 + σ (Z (s + 46) i).toNat) j < p)) (hW : ∀ t : Nat, t < len → ∀ j : Nat, j < 90 → Z (a + 56 + t) j = W t j ∧ 0 ≤ W t j ∧ W t j < p) (hd1 : f + 3 ≤ a ∨ a + 113 ≤ f) (hd2 : s + 48 ≤ a ∨ a + 113 ≤ s) (h : ∀ Z' : Zt, ((∀ t : Nat, t < len → Z' (a + 5 + Int.toNat v) t = valW p (fun j => cof p (fun i j => Z (s + 6 + σ i) j) (Z s 1) (Z s 2) (Z (s + 46)) (Z (s + 47)) v j) (W t) (Z s 2 + 1).toNat) ∧ (∀ t : Nat, len ≤ t → t < 26 → Z' (a + 5 + Int.toNat v) t = 0) ∧ Oth Z Z' (fun b => b = a + 5 + Int.toNat v)) → Q none x Z') : V mX1_takeValues k n 0 [some (r_ a), some (r_ f), some (r_ s), some (i_ v), none, none, none, none] [] x Z Q := by
  have hpr := hp.rg
  obtain ⟨q, hq⟩ : ∃ q : Nat, v = (q : Int) := ⟨v.toNat, by omega⟩
  rw [hq, Int.toNat_natCast] at h
  rw [hq] at hv ⊢
  obtain ⟨po, hpo'⟩ : ∃ po : Int, Z s 2 = po := ⟨_, rfl⟩
  rw [hpo'] at h hpo hpv
  have hCr : ∀ j : Nat, 0 ≤ cof p (fun i j => Z (s + 6 + σ i) j) (Z s 1) po (Z (s + 46)) (Z (s + 47)) q j ∧ cof p (fun i j => Z (s + 6 + σ i) j) (Z s 1) po (Z (s + 46)) (Z (s + 47)) q j < p := fun j => cof_rg (by omega) _ _ _ _ _ _ _
  generalize hCd : (fun j : Nat => cof p (fun i j => Z (s + 6 + σ i) j) (Z s 1) po (Z (s + 46)) (Z (s + 47)) q j) = C at h
  have hCe : ∀ j : Nat, cof p (fun i j => Z (s + 6 + σ i) j) (Z s 1) po (Z (s + 46)) (Z (s + 47)) q j = C j := fun j => by rw [← hCd]
  have hCr' : ∀ j : Nat, 0 ≤ C j ∧ C j < p := fun j => by rw [← hCe]; exact hCr j
  have hrow : x.1 (a + 5 + q) = some (100, 26) := (o.2.2.2.2.2.2.2.2.2.1 q (by omega)).2
  have hT : ∀ t : Nat, t < len → ∀ m : Nat, m ≤ 90 → 0 ≤ smT m (fun j => C j * W t j) ∧ smT m (fun j => C j * W t j) ≤ 169 * 90 := fun t ht m hm => by
    have := smT_bd (f := fun j => C j * W t j) (M := 169) (by decide) (n := m) (fun j hj => by
      have h1 := hCr' j
      have h2 := hW t ht j (by omega)
      exact mul13 (a := C j) (b := W t j) ⟨by omega, by omega⟩ ⟨by omega, by omega⟩)
    omega
  have lp3 : ∀ (m i : Nat) (u : Int) (Z1 : Zt), u = i → i + m = len → Oth Z Z1 (fun b => b = a + 5 + q) → (∀ t : Nat, t < 26 → Z1 (a + 5 + q) t = if t < len then (if t < i then valW p C (W t) (po + 1).toNat else smT (po + 1).toNat (fun j => C j * W t j)) else 0) → V mX1_takeValues k n 89 [some (r_ a), some (r_ f), none, none, some (r_ (a + 5 + q)), some (i_ u), none, none] [] x Z1 Q := by
    intro m
    induction m with
    | zero =>
      intro i u Z1 hu hi ho hz
      refine b_X1_takeValues_89 o of hrow ?_
      rw [ho a (by omega), hl.1]
      refine ⟨⟨by omega, by omega⟩, ⟨by omega, by omega⟩, fun _ => h Z1 ⟨fun t ht => ?_, fun t ht1 ht2 => ?_, ho⟩, fun c2 => by omega⟩
      · rw [hz t (by omega), if_pos ht, if_pos (by omega)]
      · rw [hz t ht2, if_neg (by omega)]
    | succ m ih =>
      intro i u Z1 hu hi ho hz
      have ez : Z1 (a + 5 + q) i = smT (po + 1).toNat (fun j => C j * W i j) := by rw [hz i (by omega), if_pos (by omega), if_neg (by omega)]
      have hTi := hT i (by omega) (po + 1).toNat (by omega)
      refine b_X1_takeValues_89 o of hrow ?_
      rw [ho a (by omega), hl.1, ho f (by omega), hf, show u.toNat = i by omega, ez]
      refine ⟨⟨by omega, by omega⟩, ⟨by omega, by omega⟩, fun c2 => by omega, fun _ => ⟨by omega, by omega, ⟨by omega, by omega⟩, by omega, by omega, fun Z2 e2 => ih (i + 1) (u + 1) Z2 (by omega) (by omega) (fun b hb => ?_) (fun t ht => ?_)⟩⟩
      · rw [e2, up_row _ _ _ _ _ hb]; exact ho b hb
      · rw [e2, up_at]
        by_cases c3 : t = i
        · rw [if_pos c3, if_pos (by omega), if_pos (by omega), c3]; rfl
        · rw [if_neg c3, hz t ht]
          by_cases c4 : t < len
          · rw [if_pos c4, if_pos c4]
            by_cases c5 : t < i
            · rw [if_pos c5, if_pos (by omega)]
            · rw [if_neg c5, if_neg (by omega)]
          · rw [if_neg c4, if_neg c4]
  have lp1 : ∀ (m j : Nat) (u : Int) (Z1 : Zt), u = j → j + m = (po + 1).toNat → Oth Z Z1 (fun b => b = a + 5 + q) → (∀ t : Nat, t < 26 → Z1 (a + 5 + q) t = if t < len then smT j (fun j => C j * W t j) else 0) → V mX1_takeValues k n 17 [some (r_ a), some (r_ f), some (r_ s), some (i_ (q : Int)), some (r_ (a + 5 + q)), some (i_ u), none, none] [] x Z1 Q := by
    intro m
    induction m with
    | zero =>
      intro j u Z1 hu hj ho hz
      refine b_X1_takeValues_17 os of ?_
      rw [ho s (by omega), hpo']
      refine ⟨⟨by omega, by omega⟩, ⟨by omega, by omega⟩, fun _ => lp3 len 0 0 Z1 rfl (by omega) ho (fun t ht => ?_), fun c2 => by omega⟩
      rw [hz t ht, show j = (po + 1).toNat by omega, if_neg (show ¬ t < 0 by omega)]
    | succ m ih =>
      intro j u Z1 hu hj ho hz
      have hj90 : j < 90 := by omega
      have hCj := hCr' j
      have nxt : ∀ Z2 : Zt, Oth Z Z2 (fun b => b = a + 5 + q) → (∀ t : Nat, t < 26 → Z2 (a + 5 + q) t = if t < len then smT (j + 1) (fun j => C j * W t j) else 0) → V mX1_takeValues k n 80 [some (r_ a), some (r_ f), some (r_ s), some (i_ (q : Int)), some (r_ (a + 5 + q)), some (i_ u), none, none] [] x Z2 Q := fun Z2 h2 h3 => b_X1_takeValues_80 (ih (j + 1) (u + 1) Z2 (by omega) (by omega) h2 h3)
      have lp2 : ∀ (m2 i : Nat) (y : Int) (Z2 : Zt), y = i → i + m2 = len → Oth Z Z2 (fun b => b = a + 5 + q) → (∀ t : Nat, t < 26 → Z2 (a + 5 + q) t = if t < len then (if t < i then smT (j + 1) (fun j => C j * W t j) else smT j (fun j => C j * W t j)) else 0) → V mX1_takeValues k n 39 [some (r_ a), some (r_ f), some (r_ s), some (i_ (q : Int)), some (r_ (a + 5 + q)), some (i_ u), some (i_ (C j)), some (i_ y)] [] x Z2 Q := by
        intro m2
        induction m2 with
        | zero =>
          intro i y Z2 hy hi ho2 hz2
          refine b_X1_takeValues_39 o hrow ?_
          rw [ho2 a (by omega), hl.1]
          refine ⟨⟨by omega, by omega⟩, ⟨by omega, by omega⟩, fun _ => nxt Z2 ho2 (fun t ht => ?_), fun c2 => by omega⟩
          rw [hz2 t ht]
          by_cases c4 : t < len
          · rw [if_pos c4, if_pos c4, if_pos (by omega)]
          · rw [if_neg c4, if_neg c4]
        | succ m2 ih2 =>
          intro i y Z2 hy hi ho2 hz2
          have eW : Z2 (a + 56 + i) j = W i j := by rw [ho2 _ (by omega)]; exact (hW i (by omega) j hj90).1
          refine b_X1_takeValues_39 o hrow ?_
          rw [ho2 a (by omega), hl.1, show y.toNat = i by omega, show u.toNat = j by omega, eW]
          refine ⟨⟨by omega, by omega⟩, ⟨by omega, by omega⟩, fun c2 => by omega, fun _ => ⟨⟨by omega, by omega⟩, fun c3 => nxt Z2 ho2 (fun t ht => ?_), fun c3 => ⟨by omega, by omega, by omega, by omega, fun Z3 e3 => ih2 (i + 1) (y + 1) Z3 (by omega) (by omega) (fun b hb => ?_) (fun t ht => ?_)⟩⟩⟩
          · rw [hz2 t ht]
            have hs : ∀ t : Nat, smT (j + 1) (fun j => C j * W t j) = smT j (fun j => C j * W t j) := fun t => by
              show smT j (fun j => C j * W t j) + C j * W t j = _
              rw [c3, Int.zero_mul, Int.add_zero]
            rw [hs t]
            by_cases c4 : t < len
            · rw [if_pos c4, if_pos c4]; split <;> rfl
            · rw [if_neg c4, if_neg c4]
          · rw [e3, up_row _ _ _ _ _ hb]; exact ho2 b hb
          · rw [e3, up_at]
            by_cases c4 : t = i
            · rw [if_pos c4, if_pos (by omega), if_pos (by omega), hz2 i (by omega), if_pos (by omega), if_neg (by omega), c4]; rfl
            · rw [if_neg c4, hz2 t ht]
              by_cases c5 : t < len
              · rw [if_pos c5, if_pos c5]
                by_cases c6 : t < i
                · rw [if_pos c6, if_pos (by omega)]
                · rw [if_neg c6, if_neg (by omega)]
              · rw [if_neg c5, if_neg c5]
      refine b_X1_takeValues_17 os of ?_
      have er : ∀ i j : Nat, i < 40 → Z1 (s + 6 + σ i) j = Z (s + 6 + σ i) j := fun i j hi => by have := (hσ.1 i hi).2; rw [ho _ (by omega)]
      have eall : (fun i j => Z1 (s + 6 + σ i) j) = (fun i j => Z1 (s + 6 + σ i) j) := rfl
      rw [ho s (by omega), hpo', ho f (by omega), hf, ho (s + 46) (by omega), ho (s + 47) (by omega)]
      refine ⟨⟨by omega, by omega⟩, ⟨by omega, by omega⟩, fun c2 => by omega, fun _ => ⟨p, σ, hp, rfl, hσ, ⟨by omega, by omega⟩, ⟨by omega, by omega⟩, hd, hpo, hld, fun i hi => ?_, fun i1 e1 => ?_⟩⟩
      · have := hpv i hi
        refine ⟨this.1, this.2.1, fun h0 j hj => ?_⟩
        rw [er _ j (by omega)]; exact this.2.2 h0 j hj
      · have hce : i1 = C j := by
          rw [e1, ← hCe, hu]
          unfold cof
          by_cases c5 : (q : Int) < 0 ∨ Z s 1 ≤ (q : Int) ∨ (j : Int) < 0 ∨ po < (j : Int)
          · rw [if_pos c5, if_pos c5]
          · rw [if_neg c5, if_neg c5]
            by_cases c6 : Z (s + 47) ((q : Int)).toNat ≤ (j : Int)
            · rw [if_pos c6, if_pos c6]
            · rw [if_neg c6, if_neg c6]
              by_cases c7 : Z (s + 46) ((j : Int)).toNat < 0
              · rw [if_pos c7, if_pos c7]
              · rw [if_neg c7, if_neg c7]
                dsimp only
                rw [er (Z (s + 46) ((j : Int)).toNat).toNat _ (by have := hpv ((j : Int)).toNat (by omega); omega)]
        rw [hce]
        exact lp2 len 0 0 Z1 rfl (by omega) ho (fun t ht => by rw [if_neg (show ¬ t < 0 by omega)]; exact hz t ht)
  refine b_X1_takeValues_0 o ?_
  rw [Int.toNat_natCast]
  refine ⟨by omega, by omega, fun Z1 e1 => lp1 (po + 1).toNat 0 0 Z1 rfl (by omega) (fun b hb => by rw [e1]; exact fill_row _ _ _ _ _ hb) (fun t ht => ?_)⟩
  rw [e1, fill_at _ _ _ _ ht]
  split <;> rfl
