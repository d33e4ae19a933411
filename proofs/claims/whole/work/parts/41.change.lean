theorem dX2_searchChange_0 : decode cX2_searchChange 0 = .ok (.iconst 0, 1) := by decide +kernel
theorem dX2_searchChange_1 : decode cX2_searchChange 1 = .ok (.istore_n 3, 1) := by decide +kernel
theorem dX2_searchChange_2 : decode cX2_searchChange 2 = .ok (.iconst 1, 1) := by decide +kernel
theorem dX2_searchChange_3 : decode cX2_searchChange 3 = .ok (.istore 4, 2) := by decide +kernel
theorem dX2_searchChange_5 : decode cX2_searchChange 5 = .ok (.iload 4, 2) := by decide +kernel
theorem dX2_searchChange_7 : decode cX2_searchChange 7 = .ok (.aload_n 0, 1) := by decide +kernel
theorem dX2_searchChange_8 : decode cX2_searchChange 8 = .ok (.getfield 12, 3) := by decide +kernel
theorem dX2_searchChange_11 : decode cX2_searchChange 11 = .ok (.getfield 102, 3) := by decide +kernel
theorem dX2_searchChange_14 : decode cX2_searchChange 14 = .ok (.if_icmp .ge 120, 3) := by decide +kernel
theorem dX2_searchChange_17 : decode cX2_searchChange 17 = .ok (.iconst 0, 1) := by decide +kernel
theorem dX2_searchChange_18 : decode cX2_searchChange 18 = .ok (.istore 5, 2) := by decide +kernel
theorem dX2_searchChange_20 : decode cX2_searchChange 20 = .ok (.iload 5, 2) := by decide +kernel
theorem dX2_searchChange_22 : decode cX2_searchChange 22 = .ok (.aload_n 0, 1) := by decide +kernel
theorem dX2_searchChange_23 : decode cX2_searchChange 23 = .ok (.getfield 12, 3) := by decide +kernel
theorem dX2_searchChange_26 : decode cX2_searchChange 26 = .ok (.getfield 102, 3) := by decide +kernel
theorem dX2_searchChange_29 : decode cX2_searchChange 29 = .ok (.if_icmp .ge 99, 3) := by decide +kernel
theorem dX2_searchChange_32 : decode cX2_searchChange 32 = .ok (.aload_n 0, 1) := by decide +kernel
theorem dX2_searchChange_33 : decode cX2_searchChange 33 = .ok (.aload_n 1, 1) := by decide +kernel
theorem dX2_searchChange_34 : decode cX2_searchChange 34 = .ok (.iload 4, 2) := by decide +kernel
theorem dX2_searchChange_36 : decode cX2_searchChange 36 = .ok (.iload 5, 2) := by decide +kernel
theorem dX2_searchChange_38 : decode cX2_searchChange 38 = .ok (.invokevirtual 127, 3) := by decide +kernel
theorem dX2_searchChange_41 : decode cX2_searchChange 41 = .ok (.iconst 1, 1) := by decide +kernel
theorem dX2_searchChange_42 : decode cX2_searchChange 42 = .ok (.istore 6, 2) := by decide +kernel
theorem dX2_searchChange_44 : decode cX2_searchChange 44 = .ok (.iload 6, 2) := by decide +kernel
theorem dX2_searchChange_46 : decode cX2_searchChange 46 = .ok (.aload_n 0, 1) := by decide +kernel
theorem dX2_searchChange_47 : decode cX2_searchChange 47 = .ok (.getfield 12, 3) := by decide +kernel
theorem dX2_searchChange_50 : decode cX2_searchChange 50 = .ok (.getfield 102, 3) := by decide +kernel
theorem dX2_searchChange_53 : decode cX2_searchChange 53 = .ok (.if_icmp .ge 69, 3) := by decide +kernel
theorem dX2_searchChange_56 : decode cX2_searchChange 56 = .ok (.aload_n 0, 1) := by decide +kernel
theorem dX2_searchChange_57 : decode cX2_searchChange 57 = .ok (.aload_n 0, 1) := by decide +kernel
theorem dX2_searchChange_58 : decode cX2_searchChange 58 = .ok (.getfield 12, 3) := by decide +kernel
theorem dX2_searchChange_61 : decode cX2_searchChange 61 = .ok (.iload 6, 2) := by decide +kernel
theorem dX2_searchChange_63 : decode cX2_searchChange 63 = .ok (.iload 6, 2) := by decide +kernel
theorem dX2_searchChange_65 : decode cX2_searchChange 65 = .ok (.imul, 1) := by decide +kernel
theorem dX2_searchChange_66 : decode cX2_searchChange 66 = .ok (.invokevirtual 109, 3) := by decide +kernel
theorem dX2_searchChange_69 : decode cX2_searchChange 69 = .ok (.invokevirtual 131, 3) := by decide +kernel
theorem dX2_searchChange_72 : decode cX2_searchChange 72 = .ok (.ifCond .ne 6, 3) := by decide +kernel
theorem dX2_searchChange_75 : decode cX2_searchChange 75 = .ok (.goto 41, 3) := by decide +kernel
theorem dX2_searchChange_78 : decode cX2_searchChange 78 = .ok (.iinc 3 1, 3) := by decide +kernel
theorem dX2_searchChange_81 : decode cX2_searchChange 81 = .ok (.iload_n 3, 1) := by decide +kernel
theorem dX2_searchChange_82 : decode cX2_searchChange 82 = .ok (.iload_n 2, 1) := by decide +kernel
theorem dX2_searchChange_83 : decode cX2_searchChange 83 = .ok (.if_icmp .le 33, 3) := by decide +kernel
theorem dX2_searchChange_86 : decode cX2_searchChange 86 = .ok (.iload_n 2, 1) := by decide +kernel
theorem dX2_searchChange_87 : decode cX2_searchChange 87 = .ok (.ifCond .lt 29, 3) := by decide +kernel
theorem dX2_searchChange_90 : decode cX2_searchChange 90 = .ok (.aload_n 0, 1) := by decide +kernel
theorem dX2_searchChange_91 : decode cX2_searchChange 91 = .ok (.getfield 45, 3) := by decide +kernel
theorem dX2_searchChange_94 : decode cX2_searchChange 94 = .ok (.iconst 0, 1) := by decide +kernel
theorem dX2_searchChange_95 : decode cX2_searchChange 95 = .ok (.iload 4, 2) := by decide +kernel
theorem dX2_searchChange_97 : decode cX2_searchChange 97 = .ok (.iastore, 1) := by decide +kernel
theorem dX2_searchChange_98 : decode cX2_searchChange 98 = .ok (.aload_n 0, 1) := by decide +kernel
theorem dX2_searchChange_99 : decode cX2_searchChange 99 = .ok (.getfield 45, 3) := by decide +kernel
theorem dX2_searchChange_102 : decode cX2_searchChange 102 = .ok (.iconst 1, 1) := by decide +kernel
theorem dX2_searchChange_103 : decode cX2_searchChange 103 = .ok (.iload 5, 2) := by decide +kernel
theorem dX2_searchChange_105 : decode cX2_searchChange 105 = .ok (.iastore, 1) := by decide +kernel
theorem dX2_searchChange_106 : decode cX2_searchChange 106 = .ok (.aload_n 0, 1) := by decide +kernel
theorem dX2_searchChange_107 : decode cX2_searchChange 107 = .ok (.getfield 45, 3) := by decide +kernel
theorem dX2_searchChange_110 : decode cX2_searchChange 110 = .ok (.iconst 2, 1) := by decide +kernel
theorem dX2_searchChange_111 : decode cX2_searchChange 111 = .ok (.iload 6, 2) := by decide +kernel
theorem dX2_searchChange_113 : decode cX2_searchChange 113 = .ok (.iastore, 1) := by decide +kernel
theorem dX2_searchChange_114 : decode cX2_searchChange 114 = .ok (.iload_n 3, 1) := by decide +kernel
theorem dX2_searchChange_115 : decode cX2_searchChange 115 = .ok (.ireturn, 1) := by decide +kernel
theorem dX2_searchChange_116 : decode cX2_searchChange 116 = .ok (.iinc 6 1, 3) := by decide +kernel
theorem dX2_searchChange_119 : decode cX2_searchChange 119 = .ok (.goto (-75), 3) := by decide +kernel
theorem dX2_searchChange_122 : decode cX2_searchChange 122 = .ok (.iinc 5 1, 3) := by decide +kernel
theorem dX2_searchChange_125 : decode cX2_searchChange 125 = .ok (.goto (-105), 3) := by decide +kernel
theorem dX2_searchChange_128 : decode cX2_searchChange 128 = .ok (.iinc 4 1, 3) := by decide +kernel
theorem dX2_searchChange_131 : decode cX2_searchChange 131 = .ok (.goto (-126), 3) := by decide +kernel
theorem dX2_searchChange_134 : decode cX2_searchChange 134 = .ok (.iload_n 3, 1) := by decide +kernel
theorem dX2_searchChange_135 : decode cX2_searchChange 135 = .ok (.ireturn, 1) := by decide +kernel
set_option maxRecDepth 20000 in
theorem b_X2_searchChange_0 {k n : Nat} {x : Wx} {Z : Zt} {Q : Option Value → Wx → Zt → Prop} {a0 : Nat} {a1 : Nat} {v2 : Int} 
    (h : V mX2_searchChange k n 5 [some (r_ a0), some (r_ a1), some (i_ v2), some (i_ 0), some (i_ 1), none, none] [] x Z Q) :
    V mX2_searchChange k n 0 [some (r_ a0), some (r_ a1), some (i_ v2), none, none, none, none] [] x Z Q :=
  V_iconst dX2_searchChange_0 (V_istore_n (lv' := [some (r_ a0), some (r_ a1), some (i_ v2), some (i_ 0), none, none, none]) dX2_searchChange_1 (Nat.le_of_ble_eq_true rfl) rfl (V_iconst dX2_searchChange_2 (V_istore (lv' := [some (r_ a0), some (r_ a1), some (i_ v2), some (i_ 0), some (i_ 1), none, none]) dX2_searchChange_3 (Nat.le_of_ble_eq_true rfl) rfl (V_msk [true, true, true, true, true, false, false] rfl h))))
set_option maxRecDepth 20000 in
theorem b_X2_searchChange_5 {k n : Nat} {x : Wx} {Z : Zt} {Q : Option Value → Wx → Zt → Prop} {a0 : Nat} {a1 : Nat} {v2 : Int} {v3 : Int} {v4 : Int} (o_a0 : Is2 x a0)
    (h : Rg v4 ∧ Rg (Z (a0 + 1) 0) ∧ (((Z (a0 + 1) 0 ≤ v4) → (Q (some (i_ v3)) x Z)) ∧ ((v4 < Z (a0 + 1) 0) → (V mX2_searchChange k n 20 [some (r_ a0), some (r_ a1), some (i_ v2), some (i_ v3), some (i_ v4), some (i_ 0), none] [] x Z Q)))) :
    V mX2_searchChange k n 5 [some (r_ a0), some (r_ a1), some (i_ v2), some (i_ v3), some (i_ v4), none, none] [] x Z Q :=
  V_iload dX2_searchChange_5 rfl (V_aload_n dX2_searchChange_7 rfl (G_2_0 o_a0.1 o_a0.2.1 lf_2_12 dX2_searchChange_8 (G_4_0 o_a0.2.2.1.1 lf_2_102 dX2_searchChange_11 (V_icmp_ge (tgt := 134) dX2_searchChange_14 rfl h.1 h.2.1 (fun c1 => V_iload_n dX2_searchChange_134 rfl (V_iret (ty := .int) dX2_searchChange_135 rfl rfl (h.2.2.1 c1))) (fun c1 => V_iconst dX2_searchChange_17 (V_istore (lv' := [some (r_ a0), some (r_ a1), some (i_ v2), some (i_ v3), some (i_ v4), some (i_ 0), none]) dX2_searchChange_18 (Nat.le_of_ble_eq_true rfl) rfl (V_msk [true, true, true, true, true, true, false] rfl (h.2.2.2 c1))))))))
set_option maxRecDepth 20000 in
theorem b_X2_searchChange_20 {k n : Nat} {x : Wx} {Z : Zt} {Q : Option Value → Wx → Zt → Prop} {a0 : Nat} {a1 : Nat} {v2 : Int} {v3 : Int} {v4 : Int} {v5 : Int} (o_a0 : Is2 x a0) (o_a1 : Is7 x a1)
    (h : Rg v5 ∧ Rg (Z (a0 + 1) 0) ∧ (((Z (a0 + 1) 0 ≤ v5) → (V mX2_searchChange k n 5 [some (r_ a0), some (r_ a1), some (i_ v2), some (i_ v3), some (i_ (v4 + 1)), none, none] [] x Z Q)) ∧ ((v5 < Z (a0 + 1) 0) → (∃ g1 : Int, (∃ g2 : Nat → Int, (IsP g1 ∧ Z (a0 + 1) 0 = g1 ∧ PA Z a1 g1 g2 ∧ (0 ≤ v4 ∧ v4 < g1) ∧ (0 ≤ v5 ∧ v5 < g1) ∧ (∀ (Z'1 : Zt), ((∀ j : Nat, j < 6 → Z'1 (a0 + 13) j = mvd g1 v4 v5 g2 j) ∧ Oth Z Z'1 (fun b => b = a0 + 13)) → (V mX2_searchChange k n 44 [some (r_ a0), some (r_ a1), some (i_ v2), some (i_ v3), some (i_ v4), some (i_ v5), some (i_ 1)] [] x Z'1 Q)))))))) :
    V mX2_searchChange k n 20 [some (r_ a0), some (r_ a1), some (i_ v2), some (i_ v3), some (i_ v4), some (i_ v5), none] [] x Z Q :=
  V_iload dX2_searchChange_20 rfl (V_aload_n dX2_searchChange_22 rfl (G_2_0 o_a0.1 o_a0.2.1 lf_2_12 dX2_searchChange_23 (G_4_0 o_a0.2.2.1.1 lf_2_102 dX2_searchChange_26 (V_icmp_ge (tgt := 128) dX2_searchChange_29 rfl h.1 h.2.1 (fun c1 => V_iinc (lv' := [some (r_ a0), some (r_ a1), some (i_ v2), some (i_ v3), some (i_ (v4 + 1)), some (i_ v5), none]) dX2_searchChange_128 rfl (Nat.le_of_ble_eq_true rfl) rfl (V_goto (tgt := 5) dX2_searchChange_131 rfl (V_msk [true, true, true, true, true, false, false] rfl (h.2.2.1 c1)))) (fun c1 => V_aload_n dX2_searchChange_32 rfl (V_aload_n dX2_searchChange_33 rfl (V_iload dX2_searchChange_34 rfl (V_iload dX2_searchChange_36 rfl (Exists.elim (h.2.2.2 c1) (fun g1 w1 => Exists.elim w1 (fun g2 w2 => V_callV (k' := 0) (n' := 0) (t := 2) (q := (RX2, TX2, 17)) [r_ a1, i_ v4, i_ v5] [] okX2_move o_a0.1 rfl rfl lm_2_127 liX2_move lqX2_move (Nat.le_of_ble_eq_true rfl) (Nat.le_of_ble_eq_true rfl) (Nat.le_of_ble_eq_true rfl) (cat_of rfl) (Nat.le_of_ble_eq_true rfl) (Nat.zero_le _) (Nat.zero_le _) rfl dX2_searchChange_38 (sp_X2_move o_a0 o_a1 w2.1 w2.2.1 w2.2.2.1 w2.2.2.2.1 w2.2.2.2.2.1 (fun Z'1 p1 => V_iconst dX2_searchChange_41 (V_istore (lv' := [some (r_ a0), some (r_ a1), some (i_ v2), some (i_ v3), some (i_ v4), some (i_ v5), some (i_ 1)]) dX2_searchChange_42 (Nat.le_of_ble_eq_true rfl) rfl (V_msk [true, true, true, true, true, true, true] rfl (w2.2.2.2.2.2 Z'1 p1))))))))))))))))
set_option maxRecDepth 20000 in
theorem b_X2_searchChange_44 {k n : Nat} {x : Wx} {Z : Zt} {Q : Option Value → Wx → Zt → Prop} {a0 : Nat} {a1 : Nat} {v2 : Int} {v3 : Int} {v4 : Int} {v5 : Int} {v6 : Int} (o_a0 : Is2 x a0)
    (h : Rg v6 ∧ Rg (Z (a0 + 1) 0) ∧ (((Z (a0 + 1) 0 ≤ v6) → (V mX2_searchChange k n 20 [some (r_ a0), some (r_ a1), some (i_ v2), some (i_ v3), some (i_ v4), some (i_ (v5 + 1)), none] [] x Z Q)) ∧ ((v6 < Z (a0 + 1) 0) → (Rg (v6 * v6) ∧ 2 ≤ Z (a0 + 1) 0 ∧ Z (a0 + 1) 0 ≤ 13 ∧ (∃ g1 : Int, (∃ g2 : Nat → Int, (IsP g1 ∧ Z (a0 + 1) 0 = g1 ∧ PA Z (a0 + 4) g1 g2 ∧ (0 ≤ ((v6 * v6) % Z (a0 + 1) 0) ∧ ((v6 * v6) % Z (a0 + 1) 0) < g1) ∧ (∀ j : Nat, j < 6 → 0 ≤ Z (a0 + 13) j ∧ Z (a0 + 13) j < g1) ∧ (Rg (bI (isMv g1 ((v6 * v6) % Z (a0 + 1) 0) g2 (Z (a0 + 13)) 6 0)) ∧ (((bI (isMv g1 ((v6 * v6) % Z (a0 + 1) 0) g2 (Z (a0 + 13)) 6 0) ≠ 0) → (Rg (v3 + 1) ∧ Rg v2 ∧ (((v3 + 1 ≤ v2) → (V mX2_searchChange k n 116 [some (r_ a0), some (r_ a1), some (i_ v2), some (i_ (v3 + 1)), some (i_ v4), some (i_ v5), some (i_ v6)] [] x Z Q)) ∧ ((v2 < v3 + 1) → (((v2 < 0) → (V mX2_searchChange k n 116 [some (r_ a0), some (r_ a1), some (i_ v2), some (i_ (v3 + 1)), some (i_ v4), some (i_ v5), some (i_ v6)] [] x Z Q)) ∧ ((0 ≤ v2) → (∀ Z1 : Zt, Z1 = up Z (a0 + 12) 0 v4 → (∀ Z2 : Zt, Z2 = up Z1 (a0 + 12) 1 v5 → (∀ Z3 : Zt, Z3 = up Z2 (a0 + 12) 2 v6 → (Q (some (i_ (v3 + 1))) x Z3)))))))))) ∧ ((bI (isMv g1 ((v6 * v6) % Z (a0 + 1) 0) g2 (Z (a0 + 13)) 6 0) = 0) → (V mX2_searchChange k n 116 [some (r_ a0), some (r_ a1), some (i_ v2), some (i_ v3), some (i_ v4), some (i_ v5), some (i_ v6)] [] x Z Q))))))))))) :
    V mX2_searchChange k n 44 [some (r_ a0), some (r_ a1), some (i_ v2), some (i_ v3), some (i_ v4), some (i_ v5), some (i_ v6)] [] x Z Q :=
  V_iload dX2_searchChange_44 rfl (V_aload_n dX2_searchChange_46 rfl (G_2_0 o_a0.1 o_a0.2.1 lf_2_12 dX2_searchChange_47 (G_4_0 o_a0.2.2.1.1 lf_2_102 dX2_searchChange_50 (V_icmp_ge (tgt := 122) dX2_searchChange_53 rfl h.1 h.2.1 (fun c1 => V_iinc (lv' := [some (r_ a0), some (r_ a1), some (i_ v2), some (i_ v3), some (i_ v4), some (i_ (v5 + 1)), some (i_ v6)]) dX2_searchChange_122 rfl (Nat.le_of_ble_eq_true rfl) rfl (V_goto (tgt := 20) dX2_searchChange_125 rfl (V_msk [true, true, true, true, true, true, false] rfl (h.2.2.1 c1)))) (fun c1 => V_aload_n dX2_searchChange_56 rfl (V_aload_n dX2_searchChange_57 rfl (G_2_0 o_a0.1 o_a0.2.1 lf_2_12 dX2_searchChange_58 (V_iload dX2_searchChange_61 rfl (V_iload dX2_searchChange_63 rfl (V_imul dX2_searchChange_65 (V_callV (k' := 0) (n' := 0) (t := 4) (q := (RX4, TX4, 4)) [i_ (v6 * v6)] [r_ a0] okX4_rem o_a0.2.2.1.1 rfl rfl lm_2_109 liX4_rem lqX4_rem (Nat.le_of_ble_eq_true rfl) (Nat.le_of_ble_eq_true rfl) (Nat.le_of_ble_eq_true rfl) (cat_of rfl) (Nat.le_of_ble_eq_true rfl) (Nat.zero_le _) (Nat.zero_le _) rfl dX2_searchChange_66 (sp_X4_rem o_a0.2.2.1 (h.2.2.2 c1).1 (h.2.2.2 c1).2.1 (h.2.2.2 c1).2.2.1 (Exists.elim (h.2.2.2 c1).2.2.2 (fun g1 w1 => Exists.elim w1 (fun g2 w2 => V_callV (k' := 0) (n' := 0) (t := 2) (q := (RX2, TX2, 17)) [i_ ((v6 * v6) % Z (a0 + 1) 0)] [] okX2_isMovedTo o_a0.1 rfl rfl lm_2_131 liX2_isMovedTo lqX2_isMovedTo (Nat.le_of_ble_eq_true rfl) (Nat.le_of_ble_eq_true rfl) (Nat.le_of_ble_eq_true rfl) (cat_of rfl) (Nat.le_of_ble_eq_true rfl) (Nat.zero_le _) (Nat.zero_le _) rfl dX2_searchChange_69 (sp_X2_isMovedTo o_a0 w2.1 w2.2.1 w2.2.2.1 w2.2.2.2.1 w2.2.2.2.2.1 (V_if_ne (tgt := 78) dX2_searchChange_72 rfl w2.2.2.2.2.2.1 (fun c2 => V_iinc (lv' := [some (r_ a0), some (r_ a1), some (i_ v2), some (i_ (v3 + 1)), some (i_ v4), some (i_ v5), some (i_ v6)]) dX2_searchChange_78 rfl (Nat.le_of_ble_eq_true rfl) rfl (V_iload_n dX2_searchChange_81 rfl (V_iload_n dX2_searchChange_82 rfl (V_icmp_le (tgt := 116) dX2_searchChange_83 rfl (w2.2.2.2.2.2.2.1 c2).1 (w2.2.2.2.2.2.2.1 c2).2.1 (fun c3 => V_msk [true, true, true, true, true, true, true] rfl ((w2.2.2.2.2.2.2.1 c2).2.2.1 c3)) (fun c3 => V_iload_n dX2_searchChange_86 rfl (V_if_lt (tgt := 116) dX2_searchChange_87 rfl (w2.2.2.2.2.2.2.1 c2).2.1 (fun c4 => V_msk [true, true, true, true, true, true, true] rfl (((w2.2.2.2.2.2.2.1 c2).2.2.2 c3).1 c4)) (fun c4 => V_aload_n dX2_searchChange_90 rfl (G_2_10 o_a0.1 o_a0.2.2.2.2.2.2.2.2.2.2.2.2.2.2.2.2.2.1 lf_2_45 dX2_searchChange_91 (V_iconst dX2_searchChange_94 (V_iload dX2_searchChange_95 rfl (V_iast (t := 100) o_a0.2.2.2.2.2.2.2.2.2.2.2.2.2.2.2.2.2.2.1 (by decide) (by decide) rfl (by decide) (by decide) (Nat.le_of_ble_eq_true rfl) dX2_searchChange_97 (V_nmZ (fun Z1 eZ1 => V_aload_n dX2_searchChange_98 rfl (G_2_10 o_a0.1 o_a0.2.2.2.2.2.2.2.2.2.2.2.2.2.2.2.2.2.1 lf_2_45 dX2_searchChange_99 (V_iconst dX2_searchChange_102 (V_iload dX2_searchChange_103 rfl (V_iast (t := 100) o_a0.2.2.2.2.2.2.2.2.2.2.2.2.2.2.2.2.2.2.1 (by decide) (by decide) rfl (by decide) (by decide) (Nat.le_of_ble_eq_true rfl) dX2_searchChange_105 (V_nmZ (fun Z2 eZ2 => V_aload_n dX2_searchChange_106 rfl (G_2_10 o_a0.1 o_a0.2.2.2.2.2.2.2.2.2.2.2.2.2.2.2.2.2.1 lf_2_45 dX2_searchChange_107 (V_iconst dX2_searchChange_110 (V_iload dX2_searchChange_111 rfl (V_iast (t := 100) o_a0.2.2.2.2.2.2.2.2.2.2.2.2.2.2.2.2.2.2.1 (by decide) (by decide) rfl (by decide) (by decide) (Nat.le_of_ble_eq_true rfl) dX2_searchChange_113 (V_nmZ (fun Z3 eZ3 => V_iload_n dX2_searchChange_114 rfl (V_iret (ty := .int) dX2_searchChange_115 rfl rfl ((((((w2.2.2.2.2.2.2.1 c2).2.2.2 c3).2 c4) Z1 eZ1) Z2 eZ2) Z3 eZ3))))))))))))))))))))))))))) (fun c2 => V_goto (tgt := 116) dX2_searchChange_75 rfl (V_msk [true, true, true, true, true, true, true] rfl (w2.2.2.2.2.2.2.2 c2))))))))))))))))))))
set_option maxRecDepth 20000 in
theorem b_X2_searchChange_116 {k n : Nat} {x : Wx} {Z : Zt} {Q : Option Value → Wx → Zt → Prop} {a0 : Nat} {a1 : Nat} {v2 : Int} {v3 : Int} {v4 : Int} {v5 : Int} {v6 : Int} 
    (h : V mX2_searchChange k n 44 [some (r_ a0), some (r_ a1), some (i_ v2), some (i_ v3), some (i_ v4), some (i_ v5), some (i_ (v6 + 1))] [] x Z Q) :
    V mX2_searchChange k n 116 [some (r_ a0), some (r_ a1), some (i_ v2), some (i_ v3), some (i_ v4), some (i_ v5), some (i_ v6)] [] x Z Q :=
  V_iinc (lv' := [some (r_ a0), some (r_ a1), some (i_ v2), some (i_ v3), some (i_ v4), some (i_ v5), some (i_ (v6 + 1))]) dX2_searchChange_116 rfl (Nat.le_of_ble_eq_true rfl) rfl (V_goto (tgt := 44) dX2_searchChange_119 rfl (V_msk [true, true, true, true, true, true, true] rfl h))
/-! ===== Curve: the search of a CHANGE ===== -/
abbrev Sc : Type := Int × Option (Int × Int × Int)
def scC (p k : Int) (F M : Nat → Int) (A B : Int) : Nat → Int → Int → Sc
  | 0, _, f => (f, none)
  | m + 1, c, f => if isMv p (c * c % p) F M 6 0 = true then (if f + 1 ≤ k ∨ k < 0 then scC p k F M A B m (c + 1) (f + 1) else (f + 1, some (A, B, c))) else scC p k F M A B m (c + 1) f
def scB (p k : Int) (F G : Nat → Int) (A : Int) : Nat → Int → Int → Sc
  | 0, _, f => (f, none)
  | m + 1, B, f => if (scC p k F (mvd p A B G) A B (p.toNat - 1) 1 f).2.isNone = true then scB p k F G A m (B + 1) (scC p k F (mvd p A B G) A B (p.toNat - 1) 1 f).1 else scC p k F (mvd p A B G) A B (p.toNat - 1) 1 f
def scA (p k : Int) (F G : Nat → Int) : Nat → Int → Int → Sc
  | 0, _, f => (f, none)
  | m + 1, A, f => if (scB p k F G A p.toNat 0 f).2.isNone = true then scA p k F G m (A + 1) (scB p k F G A p.toNat 0 f).1 else scB p k F G A p.toNat 0 f
/-- how many CHANGES were seen, and the k-th -/
def sch (p k : Int) (F G : Nat → Int) : Sc := scA p k F G (p.toNat - 1) 1 0
theorem isMv_ext {p c : Int} {F M M' : Nat → Int} : ∀ (m i : Nat), (∀ j : Nat, j < i + m → M j = M' j) → isMv p c F M m i = isMv p c F M' m i
  | 0, _, _ => rfl
  | m + 1, i, h => by
    unfold isMv
    rw [h i (by omega), isMv_ext m (i + 1) (fun j hj => h j (by omega))]
theorem scC_rg {p k : Int} {F M : Nat → Int} {A B : Int} : ∀ (m : Nat) (c f : Int), f ≤ (scC p k F M A B m c f).1 ∧ (scC p k F M A B m c f).1 ≤ f + m
  | 0, _, f => ⟨by show f ≤ f; omega, by show f ≤ f + (0 : Nat); omega⟩
  | m + 1, c, f => by
    unfold scC
    have h1 := scC_rg (p := p) (k := k) (F := F) (M := M) (A := A) (B := B) m (c + 1) (f + 1)
    have h2 := scC_rg (p := p) (k := k) (F := F) (M := M) (A := A) (B := B) m (c + 1) f
    split
    · split
      · omega
      · show f ≤ f + 1 ∧ f + 1 ≤ f + (m + 1 : Nat); omega
    · omega
theorem scB_rg {p k : Int} (hp : IsP p) {F G : Nat → Int} {A : Int} : ∀ (m : Nat) (B f : Int), f ≤ (scB p k F G A m B f).1 ∧ (scB p k F G A m B f).1 ≤ f + 12 * m
  | 0, _, f => ⟨by show f ≤ f; omega, by show f ≤ f + 12 * (0 : Nat); omega⟩
  | m + 1, B, f => by
    unfold scB
    have hpr := hp.rg
    have h1 := scC_rg (p := p) (k := k) (F := F) (M := mvd p A B G) (A := A) (B := B) (p.toNat - 1) 1 f
    split
    · have h2 := scB_rg (k := k) hp (F := F) (G := G) (A := A) m (B + 1) (scC p k F (mvd p A B G) A B (p.toNat - 1) 1 f).1
      omega
    · omega
theorem sp_X2_searchChange {kk n : Nat} {x : Wx} {Z : Zt} {Q : Option Value → Wx → Zt → Prop} {a l : Nat} {k : Int} (o : Is2 x a) (ol : Is7 x l) {p : Int} {F G : Nat → Int} (hp : IsP p) (hfl : Z (a + 1) 0 = p) (hF : PA Z (a + 4) p F) (hG : PA Z l p G) (hk : Rg k) (h : ∀ Z' : Zt, ((∀ A B c : Int, (sch p k F G).2 = some (A, B, c) → Z' (a + 12) 0 = A ∧ Z' (a + 12) 1 = B ∧ Z' (a + 12) 2 = c) ∧ ((sch p k F G).2 = none → Z' (a + 12) = Z (a + 12)) ∧ Oth Z Z' (fun b => b = a + 12 ∨ b = a + 13)) → Q (some (i_ (sch p k F G).1)) x Z') : V mX2_searchChange kk n 0 [some (r_ a), some (r_ l), some (i_ k), none, none, none, none] [] x Z Q := by
  have hpr := hp.rg
  have sM : x.1 (a + 13) = some (100, 6) := o.2.2.2.2.2.2.2.2.2.2.2.2.2.2.2.2.2.2.2.2.1
  have nl : l ≠ a + 13 := fun e => by have := ol.1; rw [e, sM] at this; cases this
  have nl1 : l + 1 ≠ a + 13 := fun e => by have := ol.2.2; rw [e, sM] at this; cases this
  generalize hR : sch p k F G = R at h
  have lpC : ∀ (m : Nat) (A B c f : Int) (Z1 : Zt), 1 ≤ c → c + m = p → (0 ≤ f ∧ f ≤ 3000 - m) → Oth Z Z1 (fun b => b = a + 13) → (∀ j : Nat, j < 6 → Z1 (a + 13) j = mvd p A B G j) → ((scC p k F (mvd p A B G) A B m c f).2.isNone = true → V mX2_searchChange kk n 20 [some (r_ a), some (r_ l), some (i_ k), some (i_ (scC p k F (mvd p A B G) A B m c f).1), some (i_ A), some (i_ (B + 1)), none] [] x Z1 Q) → ((scC p k F (mvd p A B G) A B m c f).2.isNone = false → scC p k F (mvd p A B G) A B m c f = R) → V mX2_searchChange kk n 44 [some (r_ a), some (r_ l), some (i_ k), some (i_ f), some (i_ A), some (i_ B), some (i_ c)] [] x Z1 Q := by
    intro m
    induction m with
    | zero =>
      intro A B c f Z1 hc hm hf ho hz hn hs
      have eP : Z1 (a + 1) 0 = p := by rw [ho (a + 1) (by omega)]; exact hfl
      refine b_X2_searchChange_44 o ?_
      rw [eP]
      exact ⟨⟨by omega, by omega⟩, ⟨by omega, by omega⟩, fun _ => hn rfl, fun c2 => by omega⟩
    | succ m ih =>
      intro A B c f Z1 hc hm hf ho hz hn hs
      have eP : Z1 (a + 1) 0 = p := by rw [ho (a + 1) (by omega)]; exact hfl
      have hF1 : PA Z1 (a + 4) p F := hF.kept ho (by omega) (by omega)
      have q := mul13 (a := c) (b := c) ⟨by omega, by omega⟩ ⟨by omega, by omega⟩
      have eM : isMv p (c * c % p) F (Z1 (a + 13)) 6 0 = isMv p (c * c % p) F (mvd p A B G) 6 0 := isMv_ext 6 0 (fun j hj => hz j (by omega))
      unfold scC at hn hs
      refine b_X2_searchChange_44 o ?_
      rw [eP]
      refine ⟨⟨by omega, by omega⟩, ⟨by omega, by omega⟩, fun c2 => by omega, fun _ => ⟨⟨by omega, by omega⟩, by omega, by omega, p, F, hp, rfl, hF1, emr _ (by omega), fun j hj => ?_, ?_⟩⟩
      · rw [hz j hj]; exact mvd_rg (by omega) _ _ _ j
      rw [eM]
      refine ⟨bI_rg _, fun c3 => ⟨⟨by omega, by omega⟩, hk, fun c4 => b_X2_searchChange_116 ?_, fun c4 => ⟨fun c5 => b_X2_searchChange_116 ?_, fun c5 Z2 e2 Z3 e3 Z4 e4 => ?_⟩⟩, fun c3 => b_X2_searchChange_116 ?_⟩
      · rw [if_pos (bI_1 c3), if_pos (Or.inl c4)] at hn hs
        exact ih A B (c + 1) (f + 1) Z1 (by omega) (by omega) ⟨by omega, by omega⟩ ho hz hn hs
      · rw [if_pos (bI_1 c3), if_pos (Or.inr c5)] at hn hs
        exact ih A B (c + 1) (f + 1) Z1 (by omega) (by omega) ⟨by omega, by omega⟩ ho hz hn hs
      · rw [if_pos (bI_1 c3), if_neg (by omega)] at hs
        have hs' := hs rfl
        have := h Z4
        rw [← hs'] at this
        refine this ⟨fun A' B' c' e => ?_, fun e => (by cases e), fun b hb => ?_⟩
        · cases e
          refine ⟨?_, ?_, ?_⟩
          · rw [e4, up_at, if_neg (by decide), e3, up_at, if_neg (by decide), e2, up_at, if_pos rfl]
          · rw [e4, up_at, if_neg (by decide), e3, up_at, if_pos rfl]
          · rw [e4, up_at, if_pos rfl]
        · have hb1 : b ≠ a + 12 := fun e => hb (Or.inl e)
          rw [e4, up_row _ _ _ _ _ hb1, e3, up_row _ _ _ _ _ hb1, e2, up_row _ _ _ _ _ hb1]
          exact ho b (fun e => hb (Or.inr e))
      · rw [if_neg (by rw [bI_0 c3]; decide)] at hn hs
        exact ih A B (c + 1) f Z1 (by omega) (by omega) ⟨by omega, by omega⟩ ho hz hn hs
  have lpB : ∀ (m : Nat) (A B f : Int) (Z1 : Zt), (1 ≤ A ∧ A < p) → 0 ≤ B → B + m = p → (0 ≤ f ∧ f ≤ 2900 - 12 * m) → Oth Z Z1 (fun b => b = a + 13) → ((scB p k F G A m B f).2.isNone = true → ∀ Z2 : Zt, Oth Z Z2 (fun b => b = a + 13) → V mX2_searchChange kk n 5 [some (r_ a), some (r_ l), some (i_ k), some (i_ (scB p k F G A m B f).1), some (i_ (A + 1)), none, none] [] x Z2 Q) → ((scB p k F G A m B f).2.isNone = false → scB p k F G A m B f = R) → V mX2_searchChange kk n 20 [some (r_ a), some (r_ l), some (i_ k), some (i_ f), some (i_ A), some (i_ B), none] [] x Z1 Q := by
    intro m
    induction m with
    | zero =>
      intro A B f Z1 hA hB hm hf ho hn hs
      have eP : Z1 (a + 1) 0 = p := by rw [ho (a + 1) (by omega)]; exact hfl
      refine b_X2_searchChange_20 o ol ?_
      rw [eP]
      exact ⟨⟨by omega, by omega⟩, ⟨by omega, by omega⟩, fun _ => hn rfl Z1 ho, fun c2 => by omega⟩
    | succ m ih =>
      intro A B f Z1 hA hB hm hf ho hn hs
      have eP : Z1 (a + 1) 0 = p := by rw [ho (a + 1) (by omega)]; exact hfl
      have hG1 : PA Z1 l p G := hG.kept ho nl nl1
      have hr := scC_rg (p := p) (k := k) (F := F) (M := mvd p A B G) (A := A) (B := B) (p.toNat - 1) 1 f
      unfold scB at hn hs
      refine b_X2_searchChange_20 o ol ?_
      rw [eP]
      refine ⟨⟨by omega, by omega⟩, ⟨by omega, by omega⟩, fun c2 => by omega, fun _ => ⟨p, G, hp, rfl, hG1, ⟨by omega, by omega⟩, ⟨by omega, by omega⟩, fun Z2 hz2 => ?_⟩⟩
      have o2 : Oth Z Z2 (fun b => b = a + 13) := ho.tr hz2.2
      refine lpC (p.toNat - 1) A B 1 f Z2 (by omega) (by omega) ⟨by omega, by omega⟩ o2 hz2.1 (fun hN => ?_) (fun hN => ?_)
      · rw [if_pos hN] at hn hs
        exact ih A (B + 1) _ Z2 hA (by omega) (by omega) ⟨by omega, by omega⟩ o2 hn hs
      · rw [if_neg (by rw [hN]; decide)] at hs
        exact hs hN
  have lpA : ∀ (m : Nat) (A f : Int) (Z1 : Zt), 1 ≤ A → A + m = p → (0 ≤ f ∧ f ≤ 2700 - 156 * m) → Oth Z Z1 (fun b => b = a + 13) → scA p k F G m A f = R → V mX2_searchChange kk n 5 [some (r_ a), some (r_ l), some (i_ k), some (i_ f), some (i_ A), none, none] [] x Z1 Q := by
    intro m
    induction m with
    | zero =>
      intro A f Z1 hA hm hf ho hs
      have eP : Z1 (a + 1) 0 = p := by rw [ho (a + 1) (by omega)]; exact hfl
      refine b_X2_searchChange_5 o ?_
      rw [eP]
      refine ⟨⟨by omega, by omega⟩, ⟨by omega, by omega⟩, fun _ => ?_, fun c2 => by omega⟩
      have := h Z1
      rw [← hs] at this
      exact this ⟨fun A' B' c' e => (by cases e), fun _ => ho (a + 12) (by omega), ho.wk (fun b hb => Or.inr hb)⟩
    | succ m ih =>
      intro A f Z1 hA hm hf ho hs
      have eP : Z1 (a + 1) 0 = p := by rw [ho (a + 1) (by omega)]; exact hfl
      have hr := scB_rg (k := k) hp (F := F) (G := G) (A := A) p.toNat 0 f
      unfold scA at hs
      refine b_X2_searchChange_5 o ?_
      rw [eP]
      refine ⟨⟨by omega, by omega⟩, ⟨by omega, by omega⟩, fun c2 => by omega, fun _ => lpB p.toNat A 0 f Z1 ⟨hA, by omega⟩ (by decide) (by omega) ⟨by omega, by omega⟩ ho (fun hN Z2 ho2 => ?_) (fun hN => ?_)⟩
      · rw [if_pos hN] at hs
        exact ih (A + 1) _ Z2 (by omega) (by omega) ⟨by omega, by omega⟩ ho2 hs
      · rw [if_neg (by rw [hN]; decide)] at hs
        exact hs
  exact b_X2_searchChange_0 (lpA (p.toNat - 1) 1 0 Z (by decide) (by omega) ⟨by decide, by omega⟩ Oth.rf hR)
