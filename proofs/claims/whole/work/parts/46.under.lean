theorem dX9_findUnder_0 : decode cX9_findUnder 0 = .ok (.aload_n 0, 1) := by decide +kernel
theorem dX9_findUnder_1 : decode cX9_findUnder 1 = .ok (.getfield 9, 3) := by decide +kernel
theorem dX9_findUnder_4 : decode cX9_findUnder 4 = .ok (.iconst 0, 1) := by decide +kernel
theorem dX9_findUnder_5 : decode cX9_findUnder 5 = .ok (.invokestatic 105, 3) := by decide +kernel
theorem dX9_findUnder_8 : decode cX9_findUnder 8 = .ok (.aload_n 0, 1) := by decide +kernel
theorem dX9_findUnder_9 : decode cX9_findUnder 9 = .ok (.getfield 9, 3) := by decide +kernel
theorem dX9_findUnder_12 : decode cX9_findUnder 12 = .ok (.iconst 0, 1) := by decide +kernel
theorem dX9_findUnder_13 : decode cX9_findUnder 13 = .ok (.iconst 1, 1) := by decide +kernel
theorem dX9_findUnder_14 : decode cX9_findUnder 14 = .ok (.iastore, 1) := by decide +kernel
theorem dX9_findUnder_15 : decode cX9_findUnder 15 = .ok (.aload_n 0, 1) := by decide +kernel
theorem dX9_findUnder_16 : decode cX9_findUnder 16 = .ok (.iconst 0, 1) := by decide +kernel
theorem dX9_findUnder_17 : decode cX9_findUnder 17 = .ok (.putfield 64, 3) := by decide +kernel
theorem dX9_findUnder_20 : decode cX9_findUnder 20 = .ok (.iconst 0, 1) := by decide +kernel
theorem dX9_findUnder_21 : decode cX9_findUnder 21 = .ok (.istore_n 2, 1) := by decide +kernel
theorem dX9_findUnder_22 : decode cX9_findUnder 22 = .ok (.iload_n 2, 1) := by decide +kernel
theorem dX9_findUnder_23 : decode cX9_findUnder 23 = .ok (.aload_n 1, 1) := by decide +kernel
theorem dX9_findUnder_24 : decode cX9_findUnder 24 = .ok (.getfield 117, 3) := by decide +kernel
theorem dX9_findUnder_27 : decode cX9_findUnder 27 = .ok (.if_icmp .ge 112, 3) := by decide +kernel
theorem dX9_findUnder_30 : decode cX9_findUnder 30 = .ok (.iconst 0, 1) := by decide +kernel
theorem dX9_findUnder_31 : decode cX9_findUnder 31 = .ok (.istore_n 3, 1) := by decide +kernel
theorem dX9_findUnder_32 : decode cX9_findUnder 32 = .ok (.iload_n 3, 1) := by decide +kernel
theorem dX9_findUnder_33 : decode cX9_findUnder 33 = .ok (.aload_n 0, 1) := by decide +kernel
theorem dX9_findUnder_34 : decode cX9_findUnder 34 = .ok (.getfield 22, 3) := by decide +kernel
theorem dX9_findUnder_37 : decode cX9_findUnder 37 = .ok (.iload_n 2, 1) := by decide +kernel
theorem dX9_findUnder_38 : decode cX9_findUnder 38 = .ok (.iaload, 1) := by decide +kernel
theorem dX9_findUnder_39 : decode cX9_findUnder 39 = .ok (.if_icmp .ge 94, 3) := by decide +kernel
theorem dX9_findUnder_42 : decode cX9_findUnder 42 = .ok (.aload_n 0, 1) := by decide +kernel
theorem dX9_findUnder_43 : decode cX9_findUnder 43 = .ok (.getfield 64, 3) := by decide +kernel
theorem dX9_findUnder_46 : decode cX9_findUnder 46 = .ok (.bipush 40, 2) := by decide +kernel
theorem dX9_findUnder_48 : decode cX9_findUnder 48 = .ok (.if_icmp .ge 85, 3) := by decide +kernel
theorem dX9_findUnder_51 : decode cX9_findUnder 51 = .ok (.aload_n 0, 1) := by decide +kernel
theorem dX9_findUnder_52 : decode cX9_findUnder 52 = .ok (.dup, 1) := by decide +kernel
theorem dX9_findUnder_53 : decode cX9_findUnder 53 = .ok (.getfield 64, 3) := by decide +kernel
theorem dX9_findUnder_56 : decode cX9_findUnder 56 = .ok (.iconst 1, 1) := by decide +kernel
theorem dX9_findUnder_57 : decode cX9_findUnder 57 = .ok (.iadd, 1) := by decide +kernel
theorem dX9_findUnder_58 : decode cX9_findUnder 58 = .ok (.putfield 64, 3) := by decide +kernel
theorem dX9_findUnder_61 : decode cX9_findUnder 61 = .ok (.aload_n 0, 1) := by decide +kernel
theorem dX9_findUnder_62 : decode cX9_findUnder 62 = .ok (.getfield 64, 3) := by decide +kernel
theorem dX9_findUnder_65 : decode cX9_findUnder 65 = .ok (.istore 4, 2) := by decide +kernel
theorem dX9_findUnder_67 : decode cX9_findUnder 67 = .ok (.iload 4, 2) := by decide +kernel
theorem dX9_findUnder_69 : decode cX9_findUnder 69 = .ok (.ifCond .le 39, 3) := by decide +kernel
theorem dX9_findUnder_72 : decode cX9_findUnder 72 = .ok (.aload_n 0, 1) := by decide +kernel
theorem dX9_findUnder_73 : decode cX9_findUnder 73 = .ok (.getfield 9, 3) := by decide +kernel
theorem dX9_findUnder_76 : decode cX9_findUnder 76 = .ok (.iload 4, 2) := by decide +kernel
theorem dX9_findUnder_78 : decode cX9_findUnder 78 = .ok (.aload_n 1, 1) := by decide +kernel
theorem dX9_findUnder_79 : decode cX9_findUnder 79 = .ok (.aload_n 0, 1) := by decide +kernel
theorem dX9_findUnder_80 : decode cX9_findUnder 80 = .ok (.getfield 9, 3) := by decide +kernel
theorem dX9_findUnder_83 : decode cX9_findUnder 83 = .ok (.iload 4, 2) := by decide +kernel
theorem dX9_findUnder_85 : decode cX9_findUnder 85 = .ok (.iconst 1, 1) := by decide +kernel
theorem dX9_findUnder_86 : decode cX9_findUnder 86 = .ok (.isub, 1) := by decide +kernel
theorem dX9_findUnder_87 : decode cX9_findUnder 87 = .ok (.iaload, 1) := by decide +kernel
theorem dX9_findUnder_88 : decode cX9_findUnder 88 = .ok (.iload_n 2, 1) := by decide +kernel
theorem dX9_findUnder_89 : decode cX9_findUnder 89 = .ok (.aload_n 0, 1) := by decide +kernel
theorem dX9_findUnder_90 : decode cX9_findUnder 90 = .ok (.getfield 9, 3) := by decide +kernel
theorem dX9_findUnder_93 : decode cX9_findUnder 93 = .ok (.iload 4, 2) := by decide +kernel
theorem dX9_findUnder_95 : decode cX9_findUnder 95 = .ok (.iaload, 1) := by decide +kernel
theorem dX9_findUnder_96 : decode cX9_findUnder 96 = .ok (.imul, 1) := by decide +kernel
theorem dX9_findUnder_97 : decode cX9_findUnder 97 = .ok (.isub, 1) := by decide +kernel
theorem dX9_findUnder_98 : decode cX9_findUnder 98 = .ok (.invokevirtual 99, 3) := by decide +kernel
theorem dX9_findUnder_101 : decode cX9_findUnder 101 = .ok (.iastore, 1) := by decide +kernel
theorem dX9_findUnder_102 : decode cX9_findUnder 102 = .ok (.iinc 4 (-1), 3) := by decide +kernel
theorem dX9_findUnder_105 : decode cX9_findUnder 105 = .ok (.goto (-38), 3) := by decide +kernel
theorem dX9_findUnder_108 : decode cX9_findUnder 108 = .ok (.aload_n 0, 1) := by decide +kernel
theorem dX9_findUnder_109 : decode cX9_findUnder 109 = .ok (.getfield 9, 3) := by decide +kernel
theorem dX9_findUnder_112 : decode cX9_findUnder 112 = .ok (.iconst 0, 1) := by decide +kernel
theorem dX9_findUnder_113 : decode cX9_findUnder 113 = .ok (.aload_n 1, 1) := by decide +kernel
theorem dX9_findUnder_114 : decode cX9_findUnder 114 = .ok (.iload_n 2, 1) := by decide +kernel
theorem dX9_findUnder_115 : decode cX9_findUnder 115 = .ok (.ineg, 1) := by decide +kernel
theorem dX9_findUnder_116 : decode cX9_findUnder 116 = .ok (.aload_n 0, 1) := by decide +kernel
theorem dX9_findUnder_117 : decode cX9_findUnder 117 = .ok (.getfield 9, 3) := by decide +kernel
theorem dX9_findUnder_120 : decode cX9_findUnder 120 = .ok (.iconst 0, 1) := by decide +kernel
theorem dX9_findUnder_121 : decode cX9_findUnder 121 = .ok (.iaload, 1) := by decide +kernel
theorem dX9_findUnder_122 : decode cX9_findUnder 122 = .ok (.imul, 1) := by decide +kernel
theorem dX9_findUnder_123 : decode cX9_findUnder 123 = .ok (.invokevirtual 99, 3) := by decide +kernel
theorem dX9_findUnder_126 : decode cX9_findUnder 126 = .ok (.iastore, 1) := by decide +kernel
theorem dX9_findUnder_127 : decode cX9_findUnder 127 = .ok (.iinc 3 1, 3) := by decide +kernel
theorem dX9_findUnder_130 : decode cX9_findUnder 130 = .ok (.goto (-98), 3) := by decide +kernel
theorem dX9_findUnder_133 : decode cX9_findUnder 133 = .ok (.iinc 2 1, 3) := by decide +kernel
theorem dX9_findUnder_136 : decode cX9_findUnder 136 = .ok (.goto (-114), 3) := by decide +kernel
theorem dX9_findUnder_139 : decode cX9_findUnder 139 = .ok (.return_, 1) := by decide +kernel
set_option maxRecDepth 20000 in
theorem b_X9_findUnder_0 {k n : Nat} {x : Wx} {Z : Zt} {Q : Option Value → Wx → Zt → Prop} {a0 : Nat} {a1 : Nat} (o_a0 : Is9 x a0)
    (h : ∀ Z1 : Zt, Z1 = fillZ Z (a0 + 1) 41 (0 : Int) → (∀ Z2 : Zt, Z2 = up Z1 (a0 + 1) 0 1 → (∀ Z3 : Zt, Z3 = up Z2 a0 3 0 → (V mX9_findUnder k n 22 [some (r_ a0), some (r_ a1), some (i_ 0), none, none] [] x Z3 Q)))) :
    V mX9_findUnder k n 0 [some (r_ a0), some (r_ a1), none, none, none] [] x Z Q :=
  V_aload_n dX9_findUnder_0 rfl (G_9_4 o_a0.1 o_a0.2.1 lf_9_9 dX9_findUnder_1 (V_iconst dX9_findUnder_4 (V_callS (k' := 0) (n' := 0) [r_ (a0 + 1), i_ 0] [] okJ7_fill_53178 lm_9_105 lsJ7_fill_53178 (Nat.le_of_ble_eq_true rfl) (Nat.le_of_ble_eq_true rfl) (Nat.le_of_ble_eq_true rfl) (cat_of rfl) (Nat.le_of_ble_eq_true rfl) (Nat.zero_le _) (Nat.zero_le _) rfl dX9_findUnder_5 (sp_J7_fill_53178 o_a0.2.2.1 (Nat.le_of_ble_eq_true rfl)  (V_nmZ (fun Z1 eZ1 => V_aload_n dX9_findUnder_8 rfl (G_9_4 o_a0.1 o_a0.2.1 lf_9_9 dX9_findUnder_9 (V_iconst dX9_findUnder_12 (V_iconst dX9_findUnder_13 (V_iast (t := 100) o_a0.2.2.1 (by decide) (by decide) rfl (by decide) (by decide) (Nat.le_of_ble_eq_true rfl) dX9_findUnder_14 (V_nmZ (fun Z2 eZ2 => V_aload_n dX9_findUnder_15 rfl (V_iconst dX9_findUnder_16 (P_9_3 o_a0.1 lf_9_64 dX9_findUnder_17 (V_nmZ (fun Z3 eZ3 => V_iconst dX9_findUnder_20 (V_istore_n (lv' := [some (r_ a0), some (r_ a1), some (i_ 0), none, none]) dX9_findUnder_21 (Nat.le_of_ble_eq_true rfl) rfl (V_msk [true, true, true, false, false] rfl (((h Z1 eZ1) Z2 eZ2) Z3 eZ3)))))))))))))))))))
set_option maxRecDepth 20000 in
theorem b_X9_findUnder_22 {k n : Nat} {x : Wx} {Z : Zt} {Q : Option Value → Wx → Zt → Prop} {a0 : Nat} {a1 : Nat} {v2 : Int} (o_a1 : Is4 x a1)
    (h : Rg v2 ∧ Rg (Z a1 0) ∧ (((Z a1 0 ≤ v2) → (Q none x Z)) ∧ ((v2 < Z a1 0) → (V mX9_findUnder k n 32 [some (r_ a0), some (r_ a1), some (i_ v2), some (i_ 0), none] [] x Z Q)))) :
    V mX9_findUnder k n 22 [some (r_ a0), some (r_ a1), some (i_ v2), none, none] [] x Z Q :=
  V_iload_n dX9_findUnder_22 rfl (V_aload_n dX9_findUnder_23 rfl (G_4_0 o_a1.1 lf_9_117 dX9_findUnder_24 (V_icmp_ge (tgt := 139) dX9_findUnder_27 rfl h.1 h.2.1 (fun c1 => V_ret dX9_findUnder_139 rfl (h.2.2.1 c1)) (fun c1 => V_iconst dX9_findUnder_30 (V_istore_n (lv' := [some (r_ a0), some (r_ a1), some (i_ v2), some (i_ 0), none]) dX9_findUnder_31 (Nat.le_of_ble_eq_true rfl) rfl (V_msk [true, true, true, true, false] rfl (h.2.2.2 c1)))))))
set_option maxRecDepth 20000 in
theorem b_X9_findUnder_32 {k n : Nat} {x : Wx} {Z : Zt} {Q : Option Value → Wx → Zt → Prop} {a0 : Nat} {a1 : Nat} {v2 : Int} {v3 : Int} (o_a0 : Is9 x a0)
    (h : 0 ≤ v2 ∧ v2 < 13 ∧ (Rg v3 ∧ Rg (Z (a0 + 4) v2.toNat) ∧ (((Z (a0 + 4) v2.toNat ≤ v3) → (V mX9_findUnder k n 133 [some (r_ a0), some (r_ a1), some (i_ v2), none, none] [] x Z Q)) ∧ ((v3 < Z (a0 + 4) v2.toNat) → (Rg (Z a0 3) ∧ (((40 ≤ Z a0 3) → (V mX9_findUnder k n 133 [some (r_ a0), some (r_ a1), some (i_ v2), none, none] [] x Z Q)) ∧ ((Z a0 3 < 40) → (∀ Z1 : Zt, Z1 = up Z a0 3 ((Z a0 3) + 1) → (V mX9_findUnder k n 67 [some (r_ a0), some (r_ a1), some (i_ v2), some (i_ v3), some (i_ (Z1 a0 3))] [] x Z1 Q))))))))) :
    V mX9_findUnder k n 32 [some (r_ a0), some (r_ a1), some (i_ v2), some (i_ v3), none] [] x Z Q :=
  V_iload_n dX9_findUnder_32 rfl (V_aload_n dX9_findUnder_33 rfl (G_9_7 o_a0.1 o_a0.2.2.2.2.2.2.2.1 lf_9_22 dX9_findUnder_34 (V_iload_n dX9_findUnder_37 rfl (V_iald (t := 100) o_a0.2.2.2.2.2.2.2.2.1 (by decide) rfl h.1 h.2.1 (Nat.le_of_ble_eq_true rfl) dX9_findUnder_38 (V_icmp_ge (tgt := 133) dX9_findUnder_39 rfl h.2.2.1 h.2.2.2.1 (fun c1 => V_msk [true, true, true, false, false] rfl (h.2.2.2.2.1 c1)) (fun c1 => V_aload_n dX9_findUnder_42 rfl (G_9_3 o_a0.1 lf_9_64 dX9_findUnder_43 (V_bipush dX9_findUnder_46 rfl (V_icmp_ge (tgt := 133) dX9_findUnder_48 rfl (h.2.2.2.2.2 c1).1 (rg_c rfl) (fun c2 => V_msk [true, true, true, false, false] rfl ((h.2.2.2.2.2 c1).2.1 c2)) (fun c2 => V_aload_n dX9_findUnder_51 rfl (V_dup dX9_findUnder_52 rfl (G_9_3 o_a0.1 lf_9_64 dX9_findUnder_53 (V_iconst dX9_findUnder_56 (V_iadd dX9_findUnder_57 (P_9_3 o_a0.1 lf_9_64 dX9_findUnder_58 (V_nmZ (fun Z1 eZ1 => V_aload_n dX9_findUnder_61 rfl (G_9_3 o_a0.1 lf_9_64 dX9_findUnder_62 (V_istore (lv' := [some (r_ a0), some (r_ a1), some (i_ v2), some (i_ v3), some (i_ (Z1 a0 3))]) dX9_findUnder_65 (Nat.le_of_ble_eq_true rfl) rfl (V_msk [true, true, true, true, true] rfl (((h.2.2.2.2.2 c1).2.2 c2) Z1 eZ1)))))))))))))))))))))
set_option maxRecDepth 20000 in
theorem b_X9_findUnder_67 {k n : Nat} {x : Wx} {Z : Zt} {Q : Option Value → Wx → Zt → Prop} {a0 : Nat} {a1 : Nat} {v2 : Int} {v3 : Int} {v4 : Int} (o_a0 : Is9 x a0) (o_a1 : Is4 x a1)
    (h : Rg v4 ∧ (((v4 ≤ 0) → (Rg ((-v2) * (Z (a0 + 1) 0)) ∧ 2 ≤ Z a1 0 ∧ Z a1 0 ≤ 13 ∧ (∀ Z1 : Zt, Z1 = up Z (a0 + 1) 0 (((-v2) * (Z (a0 + 1) 0)) % Z a1 0) → (V mX9_findUnder k n 32 [some (r_ a0), some (r_ a1), some (i_ v2), some (i_ (v3 + 1)), none] [] x Z1 Q)))) ∧ ((0 < v4) → (0 ≤ v4 - 1 ∧ v4 - 1 < 41 ∧ (0 ≤ v4 ∧ v4 < 41 ∧ (Rg ((Z (a0 + 1) (v4 - 1).toNat) - (v2 * (Z (a0 + 1) v4.toNat))) ∧ 2 ≤ Z a1 0 ∧ Z a1 0 ≤ 13 ∧ (∀ Z2 : Zt, Z2 = up Z (a0 + 1) v4.toNat (((Z (a0 + 1) (v4 - 1).toNat) - (v2 * (Z (a0 + 1) v4.toNat))) % Z a1 0) → (V mX9_findUnder k n 67 [some (r_ a0), some (r_ a1), some (i_ v2), some (i_ v3), some (i_ (v4 + (-1)))] [] x Z2 Q)))))))) :
    V mX9_findUnder k n 67 [some (r_ a0), some (r_ a1), some (i_ v2), some (i_ v3), some (i_ v4)] [] x Z Q :=
  V_iload dX9_findUnder_67 rfl (V_if_le (tgt := 108) dX9_findUnder_69 rfl h.1 (fun c1 => V_aload_n dX9_findUnder_108 rfl (G_9_4 o_a0.1 o_a0.2.1 lf_9_9 dX9_findUnder_109 (V_iconst dX9_findUnder_112 (V_aload_n dX9_findUnder_113 rfl (V_iload_n dX9_findUnder_114 rfl (V_ineg dX9_findUnder_115 (V_aload_n dX9_findUnder_116 rfl (G_9_4 o_a0.1 o_a0.2.1 lf_9_9 dX9_findUnder_117 (V_iconst dX9_findUnder_120 (V_iald (t := 100) o_a0.2.2.1 (by decide) rfl (by decide) (by decide) (Nat.le_of_ble_eq_true rfl) dX9_findUnder_121 (V_imul dX9_findUnder_122 (V_callV (k' := 0) (n' := 0) (t := 4) (q := (RX4, TX4, 4)) [i_ ((-v2) * (Z (a0 + 1) 0))] [i_ 0, r_ (a0 + 1)] okX4_rem o_a1.1 rfl rfl lm_9_99 liX4_rem lqX4_rem (Nat.le_of_ble_eq_true rfl) (Nat.le_of_ble_eq_true rfl) (Nat.le_of_ble_eq_true rfl) (cat_of rfl) (Nat.le_of_ble_eq_true rfl) (Nat.zero_le _) (Nat.zero_le _) rfl dX9_findUnder_123 (sp_X4_rem o_a1 (h.2.1 c1).1 (h.2.1 c1).2.1 (h.2.1 c1).2.2.1 (V_iast (t := 100) o_a0.2.2.1 (by decide) (by decide) rfl (by decide) (by decide) (Nat.le_of_ble_eq_true rfl) dX9_findUnder_126 (V_nmZ (fun Z1 eZ1 => V_iinc (lv' := [some (r_ a0), some (r_ a1), some (i_ v2), some (i_ (v3 + 1)), some (i_ v4)]) dX9_findUnder_127 rfl (Nat.le_of_ble_eq_true rfl) rfl (V_goto (tgt := 32) dX9_findUnder_130 rfl (V_msk [true, true, true, true, false] rfl ((h.2.1 c1).2.2.2 Z1 eZ1))))))))))))))))))) (fun c1 => V_aload_n dX9_findUnder_72 rfl (G_9_4 o_a0.1 o_a0.2.1 lf_9_9 dX9_findUnder_73 (V_iload dX9_findUnder_76 rfl (V_aload_n dX9_findUnder_78 rfl (V_aload_n dX9_findUnder_79 rfl (G_9_4 o_a0.1 o_a0.2.1 lf_9_9 dX9_findUnder_80 (V_iload dX9_findUnder_83 rfl (V_iconst dX9_findUnder_85 (V_isub dX9_findUnder_86 (V_iald (t := 100) o_a0.2.2.1 (by decide) rfl (h.2.2 c1).1 (h.2.2 c1).2.1 (Nat.le_of_ble_eq_true rfl) dX9_findUnder_87 (V_iload_n dX9_findUnder_88 rfl (V_aload_n dX9_findUnder_89 rfl (G_9_4 o_a0.1 o_a0.2.1 lf_9_9 dX9_findUnder_90 (V_iload dX9_findUnder_93 rfl (V_iald (t := 100) o_a0.2.2.1 (by decide) rfl (h.2.2 c1).2.2.1 (h.2.2 c1).2.2.2.1 (Nat.le_of_ble_eq_true rfl) dX9_findUnder_95 (V_imul dX9_findUnder_96 (V_isub dX9_findUnder_97 (V_callV (k' := 0) (n' := 0) (t := 4) (q := (RX4, TX4, 4)) [i_ ((Z (a0 + 1) (v4 - 1).toNat) - (v2 * (Z (a0 + 1) v4.toNat)))] [i_ v4, r_ (a0 + 1)] okX4_rem o_a1.1 rfl rfl lm_9_99 liX4_rem lqX4_rem (Nat.le_of_ble_eq_true rfl) (Nat.le_of_ble_eq_true rfl) (Nat.le_of_ble_eq_true rfl) (cat_of rfl) (Nat.le_of_ble_eq_true rfl) (Nat.zero_le _) (Nat.zero_le _) rfl dX9_findUnder_98 (sp_X4_rem o_a1 (h.2.2 c1).2.2.2.2.1 (h.2.2 c1).2.2.2.2.2.1 (h.2.2 c1).2.2.2.2.2.2.1 (V_iast (t := 100) o_a0.2.2.1 (by decide) (by decide) rfl (h.2.2 c1).2.2.1 (h.2.2 c1).2.2.2.1 (Nat.le_of_ble_eq_true rfl) dX9_findUnder_101 (V_nmZ (fun Z2 eZ2 => V_iinc (lv' := [some (r_ a0), some (r_ a1), some (i_ v2), some (i_ v3), some (i_ (v4 + (-1)))]) dX9_findUnder_102 rfl (Nat.le_of_ble_eq_true rfl) rfl (V_goto (tgt := 67) dX9_findUnder_105 rfl (V_msk [true, true, true, true, true] rfl ((h.2.2 c1).2.2.2.2.2.2.2 Z2 eZ2))))))))))))))))))))))))))
set_option maxRecDepth 20000 in
theorem b_X9_findUnder_133 {k n : Nat} {x : Wx} {Z : Zt} {Q : Option Value → Wx → Zt → Prop} {a0 : Nat} {a1 : Nat} {v2 : Int} 
    (h : V mX9_findUnder k n 22 [some (r_ a0), some (r_ a1), some (i_ (v2 + 1)), none, none] [] x Z Q) :
    V mX9_findUnder k n 133 [some (r_ a0), some (r_ a1), some (i_ v2), none, none] [] x Z Q :=
  V_iinc (lv' := [some (r_ a0), some (r_ a1), some (i_ (v2 + 1)), none, none]) dX9_findUnder_133 rfl (Nat.le_of_ble_eq_true rfl) rfl (V_goto (tgt := 22) dX9_findUnder_136 rfl (V_msk [true, true, true, false, false] rfl h))
/-! ===== Room: UNDER ===== -/
abbrev Un : Type := Nat × (Nat → Int)
def unS (p X : Int) (U : Nat → Int) : Nat → Int := fun i => if i = 0 then ((-X) * U 0) % p else (U (i - 1) - X * U i) % p
def undX (p X : Int) : Nat → Un → Un
  | 0, w => w
  | n + 1, w => undX p X n (w.1 + 1, unS p X w.2)
def undA (p : Int) (D : Nat → Int) : Nat → Nat → Un → Un
  | 0, _, w => w
  | m + 1, x, w => undA p D m (x + 1) (undX p x (D x).toNat w)
/-- UNDER's degree and numbers, of the depths D -/
def und (p : Int) (D : Nat → Int) : Un := undA p D p.toNat 0 (0, fun i => if i = 0 then 1 else 0)
theorem undX_1 (p X : Int) : ∀ (n : Nat) (w : Un), (undX p X n w).1 = w.1 + n
  | 0, _ => rfl
  | n + 1, w => by
    unfold undX
    rw [undX_1 p X n]
    show w.1 + 1 + n = w.1 + (n + 1)
    omega
theorem undA_1 (p : Int) (D : Nat → Int) : ∀ (m x : Nat) (w : Un), w.1 ≤ (undA p D m x w).1
  | 0, _, _ => Nat.le_refl _
  | m + 1, x, w => by
    unfold undA
    have h1 := undA_1 p D m (x + 1) (undX p x (D x).toNat w)
    rw [undX_1] at h1
    omega
def UnI (p : Int) (w : Un) : Prop := (∀ i : Nat, 0 ≤ w.2 i ∧ w.2 i < p) ∧ ∀ i : Nat, w.1 < i → w.2 i = 0
theorem UnI.st {p X : Int} (hp : 0 < p) {w : Un} (h : UnI p w) : UnI p (w.1 + 1, unS p X w.2) := by
  refine ⟨fun i => ?_, fun i hi => ?_⟩
  · show 0 ≤ unS p X w.2 i ∧ unS p X w.2 i < p
    unfold unS
    split <;> exact emr _ hp
  · have hi' : w.1 + 1 < i := hi
    show unS p X w.2 i = 0
    unfold unS
    rw [if_neg (by omega), h.2 (i - 1) (by omega), h.2 i (by omega), Int.mul_zero, Int.sub_zero, Int.zero_emod]
theorem UnI.xs {p X : Int} (hp : 0 < p) : ∀ (n : Nat) {w : Un}, UnI p w → UnI p (undX p X n w)
  | 0, _, h => h
  | n + 1, w, h => by
    unfold undX
    exact UnI.xs hp n (UnI.st hp h)
theorem sp_X9_findUnder {k n : Nat} {x : Wx} {Z : Zt} {Q : Option Value → Wx → Zt → Prop} {s f : Nat} (o : Is9 x s) (of : Is4 x f) {p : Int} (hp : IsP p) (hf : Z f 0 = p) (hfs : f < s ∨ s + 48 ≤ f) (hD : ∀ i : Nat, i < 13 → 0 ≤ Z (s + 4) i ∧ Z (s + 4) i ≤ 1001) (h40 : (und p (Z (s + 4))).1 ≤ 40) (h : ∀ Z' : Zt, ((Z' s 3 = (und p (Z (s + 4))).1 ∧ (∀ i : Nat, i ≠ 3 → Z' s i = Z s i) ∧ (∀ i : Nat, i < 41 → Z' (s + 1) i = (und p (Z (s + 4))).2 i)) ∧ Oth Z Z' (fun b => b = s ∨ b = s + 1)) → Q none x Z') : V mX9_findUnder k n 0 [some (r_ s), some (r_ f), none, none, none] [] x Z Q := by
  have hpr := hp.rg
  generalize hR : und p (Z (s + 4)) = R at h h40
  have lp3 : ∀ (t : Nat) (X : Nat) (v3 : Int) (w : Un) (Z1 : Zt), (X : Int) < p → t ≤ w.1 + 1 → w.1 + 1 ≤ 40 → UnI p w → (∀ b, b ≠ s + 1 → Z1 b = Z1 b) → Z1 f 0 = p → (∀ i : Nat, i < 41 → Z1 (s + 1) i = if t < i then unS p X w.2 i else w.2 i) → (∀ Z2 : Zt, (∀ b, b ≠ s + 1 → Z2 b = Z1 b) → (∀ i : Nat, i < 41 → Z2 (s + 1) i = unS p X w.2 i) → V mX9_findUnder k n 32 [some (r_ s), some (r_ f), some (i_ X), some (i_ (v3 + 1)), none] [] x Z2 Q) → V mX9_findUnder k n 67 [some (r_ s), some (r_ f), some (i_ X), some (i_ v3), some (i_ t)] [] x Z1 Q := by
    intro t
    induction t with
    | zero =>
      intro X v3 w Z1 hX ht hw hI _ hfl hz hn
      have e0 : Z1 (s + 1) 0 = w.2 0 := by rw [hz 0 (by decide), if_neg (by omega)]
      have hr := hI.1 0
      have q := mul13 (a := (X : Int)) (b := w.2 0) ⟨by omega, by omega⟩ ⟨hr.1, by omega⟩
      have q2 : (-(X : Int)) * w.2 0 = -((X : Int) * w.2 0) := Int.neg_mul _ _
      refine b_X9_findUnder_67 o of ?_
      rw [e0, hfl]
      refine ⟨⟨by decide, by decide⟩, fun _ => ⟨⟨by omega, by omega⟩, by omega, by omega, fun Z2 e2 => hn Z2 (fun b hb => by rw [e2, up_row _ _ _ _ _ hb]) (fun i hi => ?_)⟩, fun c2 => by omega⟩
      rw [e2, up_at]
      by_cases c : i = 0
      · rw [if_pos c, c]; unfold unS; rw [if_pos rfl]
      · rw [if_neg c, hz i hi, if_pos (by omega)]
    | succ t ih =>
      intro X v3 w Z1 hX ht hw hI _ hfl hz hn
      have e0 : Z1 (s + 1) (((t + 1 : Nat) : Int)).toNat = w.2 (t + 1) := by rw [Int.toNat_natCast, hz (t + 1) (by omega), if_neg (by omega)]
      have e1 : Z1 (s + 1) ((((t + 1 : Nat) : Int)) - 1).toNat = w.2 t := by rw [show ((((t + 1 : Nat) : Int)) - 1).toNat = t by omega, hz t (by omega), if_neg (by omega)]
      have hr := hI.1 (t + 1)
      have hr2 := hI.1 t
      have q := mul13 (a := (X : Int)) (b := w.2 (t + 1)) ⟨by omega, by omega⟩ ⟨hr.1, by omega⟩
      refine b_X9_findUnder_67 o of ?_
      rw [e0, e1, hfl]
      refine ⟨⟨by omega, by omega⟩, fun c2 => by omega, fun _ => ⟨by omega, by omega, by omega, by omega, ⟨by omega, by omega⟩, by omega, by omega, fun Z2 e2 => ?_⟩⟩
      rw [show (((t + 1 : Nat) : Int)) + (-1) = (t : Int) by omega]
      have r2 : ∀ b, b ≠ s + 1 → Z2 b = Z1 b := fun b hb => by rw [e2, up_row _ _ _ _ _ hb]
      refine ih X v3 w Z2 hX (by omega) hw hI (fun _ _ => rfl) ?_ (fun i hi => ?_) (fun Z3 h3 h4 => hn Z3 (fun b hb => (h3 b hb).trans (r2 b hb)) h4)
      · rw [r2 f (by omega)]; exact hfl
      · rw [e2, Int.toNat_natCast, up_at]
        by_cases c2 : i = t + 1
        · rw [if_pos c2, if_pos (by omega), c2]; unfold unS; rw [if_neg (by omega), Nat.add_sub_cancel]
        · rw [if_neg c2, hz i hi]
          by_cases c3 : t + 1 < i
          · rw [if_pos c3, if_pos (by omega)]
          · rw [if_neg c3, if_neg (by omega)]
  have lp2 : ∀ (m : Nat) (X : Nat) (v3 : Int) (w : Un) (Z1 : Zt), (X : Int) < p → 0 ≤ v3 → v3 + m = Z (s + 4) X → w.1 + m ≤ 40 → UnI p w → Oth Z Z1 (fun b => b = s ∨ b = s + 1) → (Z1 s 3 = w.1 ∧ ∀ i : Nat, i ≠ 3 → Z1 s i = Z s i) → (∀ i : Nat, i < 41 → Z1 (s + 1) i = w.2 i) → (∀ Z2 : Zt, Oth Z Z2 (fun b => b = s ∨ b = s + 1) → (Z2 s 3 = (undX p X m w).1 ∧ ∀ i : Nat, i ≠ 3 → Z2 s i = Z s i) → (∀ i : Nat, i < 41 → Z2 (s + 1) i = (undX p X m w).2 i) → V mX9_findUnder k n 133 [some (r_ s), some (r_ f), some (i_ X), none, none] [] x Z2 Q) → V mX9_findUnder k n 32 [some (r_ s), some (r_ f), some (i_ X), some (i_ v3), none] [] x Z1 Q := by
    intro m
    induction m with
    | zero =>
      intro X v3 w Z1 hX h3 hm hw hI ho hs hz hn
      have hDX := hD X (by omega)
      refine b_X9_findUnder_32 o ?_
      rw [Int.toNat_natCast, ho (s + 4) (by omega)]
      exact ⟨by omega, by omega, ⟨by omega, by omega⟩, ⟨by omega, by omega⟩, fun _ => hn Z1 ho hs hz, fun c2 => by omega⟩
    | succ m ih =>
      intro X v3 w Z1 hX h3 hm hw hI ho hs hz hn
      have hDX := hD X (by omega)
      have hs3 := hs.1
      refine b_X9_findUnder_32 o ?_
      rw [Int.toNat_natCast, ho (s + 4) (by omega)]
      refine ⟨by omega, by omega, ⟨by omega, by omega⟩, ⟨by omega, by omega⟩, fun c2 => by omega, fun _ => ⟨⟨by omega, by omega⟩, fun c2 => by omega, fun _ Z2 e2 => ?_⟩⟩
      have e3 : Z2 s 3 = ((w.1 + 1 : Nat) : Int) := by rw [e2, up_at, if_pos rfl, hs3]; rfl
      have r2 : ∀ b, b ≠ s → Z2 b = Z1 b := fun b hb => by rw [e2, up_row _ _ _ _ _ hb]
      rw [e3]
      refine lp3 (w.1 + 1) X v3 w Z2 hX (Nat.le_refl _) (by omega) hI (fun _ _ => rfl) ?_ (fun i hi => ?_) (fun Z3 h4 h5 => ih X (v3 + 1) (w.1 + 1, unS p X w.2) Z3 hX (by omega) (by omega) (by show w.1 + 1 + m ≤ 40; omega) (UnI.st (by omega) hI) (fun b hb => ?_) ⟨?_, fun i hi => ?_⟩ h5 hn)
      · rw [r2 f (by omega), ho f (by omega)]; exact hf
      · rw [r2 (s + 1) (by omega), hz i hi]
        by_cases c : w.1 + 1 < i
        · have q : unS p X w.2 i = 0 := (UnI.st (X := X) (by omega) hI).2 i c
          rw [if_pos c, q]
          exact hI.2 i (by omega)
        · rw [if_neg c]
      · rw [h4 b (by omega), r2 b (by omega)]; exact ho b hb
      · rw [h4 s (by omega), e3]
      · rw [h4 s (by omega), e2, up_at, if_neg hi]; exact hs.2 i hi
  have lp1 : ∀ (m X : Nat) (v2 : Int) (w : Un) (Z1 : Zt), v2 = X → v2 + m = p → UnI p w → undA p (Z (s + 4)) m X w = R → Oth Z Z1 (fun b => b = s ∨ b = s + 1) → (Z1 s 3 = w.1 ∧ ∀ i : Nat, i ≠ 3 → Z1 s i = Z s i) → (∀ i : Nat, i < 41 → Z1 (s + 1) i = w.2 i) → V mX9_findUnder k n 22 [some (r_ s), some (r_ f), some (i_ v2), none, none] [] x Z1 Q := by
    intro m
    induction m with
    | zero =>
      intro X v2 w Z1 hv hm hI he ho hs hz
      have he' : w = R := he
      refine b_X9_findUnder_22 of ?_
      rw [ho f (by omega), hf]
      refine ⟨⟨by omega, by omega⟩, ⟨by omega, by omega⟩, fun _ => h Z1 ⟨⟨?_, hs.2, ?_⟩, ho⟩, fun c2 => by omega⟩
      · rw [← he']; exact hs.1
      · rw [← he']; exact hz
    | succ m ih =>
      intro X v2 w Z1 hv hm hI he ho hs hz
      have hDX := hD X (by omega)
      have hmon := undA_1 p (Z (s + 4)) m (X + 1) (undX p X (Z (s + 4) X).toNat w)
      have he' : undA p (Z (s + 4)) m (X + 1) (undX p X (Z (s + 4) X).toNat w) = R := he
      rw [he', undX_1] at hmon
      refine b_X9_findUnder_22 of ?_
      rw [ho f (by omega), hf]
      refine ⟨⟨by omega, by omega⟩, ⟨by omega, by omega⟩, fun c2 => by omega, fun _ => ?_⟩
      rw [hv]
      exact lp2 (Z (s + 4) X).toNat X 0 w Z1 (by omega) (by decide) (by omega) (by omega) hI ho hs hz (fun Z2 ho2 hs2 hz2 => b_X9_findUnder_133 (ih (X + 1) _ _ Z2 (by omega) (by omega) (UnI.xs (by omega) _ hI) he' ho2 hs2 hz2))
  refine b_X9_findUnder_0 o fun Z1 e1 Z2 e2 Z3 e3 => lp1 p.toNat 0 0 (0, fun i => if i = 0 then 1 else 0) Z3 rfl (by omega) ⟨fun i => ?_, fun i hi => ?_⟩ hR (fun b hb => ?_) ⟨?_, fun i hi => ?_⟩ (fun i hi => ?_)
  · show 0 ≤ (if i = 0 then (1 : Int) else 0) ∧ (if i = 0 then (1 : Int) else 0) < p
    split <;> omega
  · show (if i = 0 then (1 : Int) else 0) = 0
    have hi' : 0 < i := hi
    rw [if_neg (by omega)]
  · rw [e3, up_row _ _ _ _ _ (fun e => hb (Or.inl e)), e2, up_row _ _ _ _ _ (fun e => hb (Or.inr e)), e1]
    exact fill_row _ _ _ _ _ (fun e => hb (Or.inr e))
  · rw [e3, up_at, if_pos rfl]; rfl
  · rw [e3, up_at, if_neg hi, e2, up_row _ _ _ _ _ (by omega), e1, fill_row _ _ _ _ _ (by omega)]
  · rw [e3, up_row _ _ _ _ _ (by omega), e2, up_at]
    show _ = if i = 0 then (1 : Int) else 0
    by_cases c : i = 0
    · rw [if_pos c, if_pos c]
    · rw [if_neg c, if_neg c, e1, fill_at _ _ _ _ hi]
