/-! ===== the reference: functions, their norms and orders ===== -/
theorem dX12_takesFunction_0 : decode cX12_takesFunction 0 = .ok (.aload_n 0, 1) := by decide +kernel
theorem dX12_takesFunction_1 : decode cX12_takesFunction 1 = .ok (.bipush 24, 2) := by decide +kernel
theorem dX12_takesFunction_3 : decode cX12_takesFunction 3 = .ok (.invokevirtual 188, 3) := by decide +kernel
theorem dX12_takesFunction_6 : decode cX12_takesFunction 6 = .ok (.aload_n 0, 1) := by decide +kernel
theorem dX12_takesFunction_7 : decode cX12_takesFunction 7 = .ok (.bipush 25, 2) := by decide +kernel
theorem dX12_takesFunction_9 : decode cX12_takesFunction 9 = .ok (.invokevirtual 188, 3) := by decide +kernel
theorem dX12_takesFunction_12 : decode cX12_takesFunction 12 = .ok (.iconst 0, 1) := by decide +kernel
theorem dX12_takesFunction_13 : decode cX12_takesFunction 13 = .ok (.istore_n 2, 1) := by decide +kernel
theorem dX12_takesFunction_14 : decode cX12_takesFunction 14 = .ok (.iload_n 2, 1) := by decide +kernel
theorem dX12_takesFunction_15 : decode cX12_takesFunction 15 = .ok (.iconst 5, 1) := by decide +kernel
theorem dX12_takesFunction_16 : decode cX12_takesFunction 16 = .ok (.if_icmp .ge 35, 3) := by decide +kernel
theorem dX12_takesFunction_19 : decode cX12_takesFunction 19 = .ok (.aload_n 0, 1) := by decide +kernel
theorem dX12_takesFunction_20 : decode cX12_takesFunction 20 = .ok (.getfield 20, 3) := by decide +kernel
theorem dX12_takesFunction_23 : decode cX12_takesFunction 23 = .ok (.sipush 576, 3) := by decide +kernel
theorem dX12_takesFunction_26 : decode cX12_takesFunction 26 = .ok (.iload_n 2, 1) := by decide +kernel
theorem dX12_takesFunction_27 : decode cX12_takesFunction 27 = .ok (.iadd, 1) := by decide +kernel
theorem dX12_takesFunction_28 : decode cX12_takesFunction 28 = .ok (.aload_n 0, 1) := by decide +kernel
theorem dX12_takesFunction_29 : decode cX12_takesFunction 29 = .ok (.aload_n 0, 1) := by decide +kernel
theorem dX12_takesFunction_30 : decode cX12_takesFunction 30 = .ok (.getfield 7, 3) := by decide +kernel
theorem dX12_takesFunction_33 : decode cX12_takesFunction 33 = .ok (.iconst 2, 1) := by decide +kernel
theorem dX12_takesFunction_34 : decode cX12_takesFunction 34 = .ok (.iload_n 1, 1) := by decide +kernel
theorem dX12_takesFunction_35 : decode cX12_takesFunction 35 = .ok (.invokestatic 176, 3) := by decide +kernel
theorem dX12_takesFunction_38 : decode cX12_takesFunction 38 = .ok (.iload_n 2, 1) := by decide +kernel
theorem dX12_takesFunction_39 : decode cX12_takesFunction 39 = .ok (.iadd, 1) := by decide +kernel
theorem dX12_takesFunction_40 : decode cX12_takesFunction 40 = .ok (.iaload, 1) := by decide +kernel
theorem dX12_takesFunction_41 : decode cX12_takesFunction 41 = .ok (.invokevirtual 182, 3) := by decide +kernel
theorem dX12_takesFunction_44 : decode cX12_takesFunction 44 = .ok (.iastore, 1) := by decide +kernel
theorem dX12_takesFunction_45 : decode cX12_takesFunction 45 = .ok (.iinc 2 1, 3) := by decide +kernel
theorem dX12_takesFunction_48 : decode cX12_takesFunction 48 = .ok (.goto (-34), 3) := by decide +kernel
theorem dX12_takesFunction_51 : decode cX12_takesFunction 51 = .ok (.iconst 0, 1) := by decide +kernel
theorem dX12_takesFunction_52 : decode cX12_takesFunction 52 = .ok (.istore_n 2, 1) := by decide +kernel
theorem dX12_takesFunction_53 : decode cX12_takesFunction 53 = .ok (.iload_n 2, 1) := by decide +kernel
theorem dX12_takesFunction_54 : decode cX12_takesFunction 54 = .ok (.iconst 3, 1) := by decide +kernel
theorem dX12_takesFunction_55 : decode cX12_takesFunction 55 = .ok (.if_icmp .ge 37, 3) := by decide +kernel
theorem dX12_takesFunction_58 : decode cX12_takesFunction 58 = .ok (.aload_n 0, 1) := by decide +kernel
theorem dX12_takesFunction_59 : decode cX12_takesFunction 59 = .ok (.getfield 20, 3) := by decide +kernel
theorem dX12_takesFunction_62 : decode cX12_takesFunction 62 = .ok (.sipush 600, 3) := by decide +kernel
theorem dX12_takesFunction_65 : decode cX12_takesFunction 65 = .ok (.iload_n 2, 1) := by decide +kernel
theorem dX12_takesFunction_66 : decode cX12_takesFunction 66 = .ok (.iadd, 1) := by decide +kernel
theorem dX12_takesFunction_67 : decode cX12_takesFunction 67 = .ok (.aload_n 0, 1) := by decide +kernel
theorem dX12_takesFunction_68 : decode cX12_takesFunction 68 = .ok (.aload_n 0, 1) := by decide +kernel
theorem dX12_takesFunction_69 : decode cX12_takesFunction 69 = .ok (.getfield 7, 3) := by decide +kernel
theorem dX12_takesFunction_72 : decode cX12_takesFunction 72 = .ok (.iconst 2, 1) := by decide +kernel
theorem dX12_takesFunction_73 : decode cX12_takesFunction 73 = .ok (.iload_n 1, 1) := by decide +kernel
theorem dX12_takesFunction_74 : decode cX12_takesFunction 74 = .ok (.invokestatic 176, 3) := by decide +kernel
theorem dX12_takesFunction_77 : decode cX12_takesFunction 77 = .ok (.iconst 5, 1) := by decide +kernel
theorem dX12_takesFunction_78 : decode cX12_takesFunction 78 = .ok (.iadd, 1) := by decide +kernel
theorem dX12_takesFunction_79 : decode cX12_takesFunction 79 = .ok (.iload_n 2, 1) := by decide +kernel
theorem dX12_takesFunction_80 : decode cX12_takesFunction 80 = .ok (.iadd, 1) := by decide +kernel
theorem dX12_takesFunction_81 : decode cX12_takesFunction 81 = .ok (.iaload, 1) := by decide +kernel
theorem dX12_takesFunction_82 : decode cX12_takesFunction 82 = .ok (.invokevirtual 182, 3) := by decide +kernel
theorem dX12_takesFunction_85 : decode cX12_takesFunction 85 = .ok (.iastore, 1) := by decide +kernel
theorem dX12_takesFunction_86 : decode cX12_takesFunction 86 = .ok (.iinc 2 1, 3) := by decide +kernel
theorem dX12_takesFunction_89 : decode cX12_takesFunction 89 = .ok (.goto (-36), 3) := by decide +kernel
theorem dX12_takesFunction_92 : decode cX12_takesFunction 92 = .ok (.aload_n 0, 1) := by decide +kernel
theorem dX12_takesFunction_93 : decode cX12_takesFunction 93 = .ok (.bipush 24, 2) := by decide +kernel
theorem dX12_takesFunction_95 : decode cX12_takesFunction 95 = .ok (.invokevirtual 192, 3) := by decide +kernel
theorem dX12_takesFunction_98 : decode cX12_takesFunction 98 = .ok (.ifCond .ge 12, 3) := by decide +kernel
theorem dX12_takesFunction_101 : decode cX12_takesFunction 101 = .ok (.aload_n 0, 1) := by decide +kernel
theorem dX12_takesFunction_102 : decode cX12_takesFunction 102 = .ok (.bipush 25, 2) := by decide +kernel
theorem dX12_takesFunction_104 : decode cX12_takesFunction 104 = .ok (.invokevirtual 192, 3) := by decide +kernel
theorem dX12_takesFunction_107 : decode cX12_takesFunction 107 = .ok (.ifCond .lt 7, 3) := by decide +kernel
theorem dX12_takesFunction_110 : decode cX12_takesFunction 110 = .ok (.iconst 1, 1) := by decide +kernel
theorem dX12_takesFunction_111 : decode cX12_takesFunction 111 = .ok (.goto 4, 3) := by decide +kernel
theorem dX12_takesFunction_114 : decode cX12_takesFunction 114 = .ok (.iconst 0, 1) := by decide +kernel
theorem dX12_takesFunction_115 : decode cX12_takesFunction 115 = .ok (.ireturn, 1) := by decide +kernel
set_option maxRecDepth 20000 in
theorem b_X12_takesFunction_0 {k n : Nat} {x : Wx} {Z : Zt} {Q : Option Value → Wx → Zt → Prop} {a0 : Nat} {v1 : Int} (o_a0 : Is12 x a0)
    (h : ∃ g1 : Nat → Nat → Int, (MS Z a0 g1 ∧ (0 ≤ (24 : Int) ∧ (24 : Int) < 27) ∧ (∀ (Z'1 : Zt), (MS Z'1 a0 (updP g1 (24 : Int).toNat pzero) ∧ Oth Z Z'1 (O4 a0)) → (∃ g2 : Nat → Nat → Int, (MS Z'1 a0 g2 ∧ (0 ≤ (25 : Int) ∧ (25 : Int) < 27) ∧ (∀ (Z'2 : Zt), (MS Z'2 a0 (updP g2 (25 : Int).toNat pzero) ∧ Oth Z'1 Z'2 (O4 a0)) → (V mX12_takesFunction k n 14 [some (r_ a0), some (i_ v1), some (i_ 0)] [] x Z'2 Q))))))) :
    V mX12_takesFunction k n 0 [some (r_ a0), some (i_ v1), none] [] x Z Q :=
  V_aload_n dX12_takesFunction_0 rfl (V_bipush dX12_takesFunction_1 rfl (Exists.elim h (fun g1 w1 => V_callV (k' := 0) (n' := 0) (t := 12) (q := (RX12, TX12, 46)) [i_ 24] [] okX12_zero o_a0.1 rfl rfl lm_12_188 liX12_zero lqX12_zero (Nat.le_of_ble_eq_true rfl) (Nat.le_of_ble_eq_true rfl) (Nat.le_of_ble_eq_true rfl) (cat_of rfl) (Nat.le_of_ble_eq_true rfl) (Nat.zero_le _) (Nat.zero_le _) rfl dX12_takesFunction_3 (sp_X12_zero o_a0 w1.1 w1.2.1 (fun Z'1 p1 => V_aload_n dX12_takesFunction_6 rfl (V_bipush dX12_takesFunction_7 rfl (Exists.elim (w1.2.2 Z'1 p1) (fun g2 w2 => V_callV (k' := 0) (n' := 0) (t := 12) (q := (RX12, TX12, 46)) [i_ 25] [] okX12_zero o_a0.1 rfl rfl lm_12_188 liX12_zero lqX12_zero (Nat.le_of_ble_eq_true rfl) (Nat.le_of_ble_eq_true rfl) (Nat.le_of_ble_eq_true rfl) (cat_of rfl) (Nat.le_of_ble_eq_true rfl) (Nat.zero_le _) (Nat.zero_le _) rfl dX12_takesFunction_9 (sp_X12_zero o_a0 w2.1 w2.2.1 (fun Z'2 p2 => V_iconst dX12_takesFunction_12 (V_istore_n (lv' := [some (r_ a0), some (i_ v1), some (i_ 0)]) dX12_takesFunction_13 (Nat.le_of_ble_eq_true rfl) rfl (V_msk [true, true, true] rfl (w2.2.2 Z'2 p2)))))))))))))
set_option maxRecDepth 20000 in
theorem b_X12_takesFunction_14 {k n : Nat} {x : Wx} {Z : Zt} {Q : Option Value → Wx → Zt → Prop} {a0 : Nat} {v1 : Int} {v2 : Int} (o_a0 : Is12 x a0)
    (h : Rg v2 ∧ (((5 ≤ v2) → (V mX12_takesFunction k n 53 [some (r_ a0), some (i_ v1), some (i_ 0)] [] x Z Q)) ∧ ((v2 < 5) → (Rg (2 : Int) ∧ (0 ≤ (plcO (2 : Int) v1) + v2 ∧ (plcO (2 : Int) v1) + v2 < 2912 ∧ (Rg (Z (a0 + 1) ((plcO (2 : Int) v1) + v2).toNat) ∧ 0 < Z a0 11 ∧ Z a0 11 ≤ 13 ∧ (0 ≤ 576 + v2 ∧ 576 + v2 < 648 ∧ (∀ Z1 : Zt, Z1 = up Z (a0 + 4) (576 + v2).toNat ((Z (a0 + 1) ((plcO (2 : Int) v1) + v2).toNat) % Z a0 11) → (V mX12_takesFunction k n 14 [some (r_ a0), some (i_ v1), some (i_ (v2 + 1))] [] x Z1 Q))))))))) :
    V mX12_takesFunction k n 14 [some (r_ a0), some (i_ v1), some (i_ v2)] [] x Z Q :=
  V_iload_n dX12_takesFunction_14 rfl (V_iconst dX12_takesFunction_15 (V_icmp_ge (tgt := 51) dX12_takesFunction_16 rfl h.1 (rg_c rfl) (fun c1 => V_iconst dX12_takesFunction_51 (V_istore_n (lv' := [some (r_ a0), some (i_ v1), some (i_ 0)]) dX12_takesFunction_52 (Nat.le_of_ble_eq_true rfl) rfl (V_msk [true, true, true] rfl (h.2.1 c1)))) (fun c1 => V_aload_n dX12_takesFunction_19 rfl (G_12_10 o_a0.1 o_a0.qR10 lf_12_20 dX12_takesFunction_20 (V_sipush dX12_takesFunction_23 rfl (V_iload_n dX12_takesFunction_26 rfl (V_iadd dX12_takesFunction_27 (V_aload_n dX12_takesFunction_28 rfl (V_aload_n dX12_takesFunction_29 rfl (G_12_0 o_a0.1 o_a0.qR0 lf_12_7 dX12_takesFunction_30 (V_iconst dX12_takesFunction_33 (V_iload_n dX12_takesFunction_34 rfl (V_callS (k' := 0) (n' := 0) [i_ 2, i_ v1] [r_ (a0 + 1), r_ a0, i_ (576 + v2), r_ (a0 + 4)] okX12_placeOf lm_12_176 lsX12_placeOf (Nat.le_of_ble_eq_true rfl) (Nat.le_of_ble_eq_true rfl) (Nat.le_of_ble_eq_true rfl) (cat_of rfl) (Nat.le_of_ble_eq_true rfl) (Nat.zero_le _) (Nat.zero_le _) rfl dX12_takesFunction_35 (sp_X12_placeOf  (h.2.2 c1).1 (V_iload_n dX12_takesFunction_38 rfl (V_iadd dX12_takesFunction_39 (V_iald (t := 100) o_a0.qK0 (by decide) rfl (h.2.2 c1).2.1 (h.2.2 c1).2.2.1 (Nat.le_of_ble_eq_true rfl) dX12_takesFunction_40 (V_callV (k' := 0) (n' := 0) (t := 12) (q := (RX12, TX12, 46)) [i_ (Z (a0 + 1) ((plcO (2 : Int) v1) + v2).toNat)] [i_ (576 + v2), r_ (a0 + 4)] okX12_mod o_a0.1 rfl rfl lm_12_182 liX12_mod lqX12_mod (Nat.le_of_ble_eq_true rfl) (Nat.le_of_ble_eq_true rfl) (Nat.le_of_ble_eq_true rfl) (cat_of rfl) (Nat.le_of_ble_eq_true rfl) (Nat.zero_le _) (Nat.zero_le _) rfl dX12_takesFunction_41 (sp_X12_mod o_a0 (h.2.2 c1).2.2.2.1 (h.2.2 c1).2.2.2.2.1 (h.2.2 c1).2.2.2.2.2.1 (V_iast (t := 100) o_a0.qK10 (by decide) (by decide) rfl (h.2.2 c1).2.2.2.2.2.2.1 (h.2.2 c1).2.2.2.2.2.2.2.1 (Nat.le_of_ble_eq_true rfl) dX12_takesFunction_44 (V_nmZ (fun Z1 eZ1 => V_iinc (lv' := [some (r_ a0), some (i_ v1), some (i_ (v2 + 1))]) dX12_takesFunction_45 rfl (Nat.le_of_ble_eq_true rfl) rfl (V_goto (tgt := 14) dX12_takesFunction_48 rfl (V_msk [true, true, true] rfl ((h.2.2 c1).2.2.2.2.2.2.2.2 Z1 eZ1)))))))))))))))))))))))))
set_option maxRecDepth 20000 in
theorem b_X12_takesFunction_53 {k n : Nat} {x : Wx} {Z : Zt} {Q : Option Value → Wx → Zt → Prop} {a0 : Nat} {v1 : Int} {v2 : Int} (o_a0 : Is12 x a0)
    (h : Rg v2 ∧ (((3 ≤ v2) → (∃ g1 : Nat → Nat → Int, (MS Z a0 g1 ∧ (0 ≤ (24 : Int) ∧ (24 : Int) < 27) ∧ (∀ i : Nat, i < 24 → Rg (g1 (24 : Int).toNat i)) ∧ (Rg (pd (g1 (24 : Int).toNat)) ∧ (((0 ≤ pd (g1 (24 : Int).toNat)) → (Q (some (i_ 1)) x Z)) ∧ ((pd (g1 (24 : Int).toNat) < 0) → (∃ g2 : Nat → Nat → Int, (MS Z a0 g2 ∧ (0 ≤ (25 : Int) ∧ (25 : Int) < 27) ∧ (∀ i : Nat, i < 24 → Rg (g2 (25 : Int).toNat i)) ∧ (Rg (pd (g2 (25 : Int).toNat)) ∧ (((pd (g2 (25 : Int).toNat) < 0) → (Q (some (i_ 0)) x Z)) ∧ ((0 ≤ pd (g2 (25 : Int).toNat)) → (Q (some (i_ 1)) x Z)))))))))))) ∧ ((v2 < 3) → (Rg (2 : Int) ∧ (0 ≤ ((plcO (2 : Int) v1) + 5) + v2 ∧ ((plcO (2 : Int) v1) + 5) + v2 < 2912 ∧ (Rg (Z (a0 + 1) (((plcO (2 : Int) v1) + 5) + v2).toNat) ∧ 0 < Z a0 11 ∧ Z a0 11 ≤ 13 ∧ (0 ≤ 600 + v2 ∧ 600 + v2 < 648 ∧ (∀ Z1 : Zt, Z1 = up Z (a0 + 4) (600 + v2).toNat ((Z (a0 + 1) (((plcO (2 : Int) v1) + 5) + v2).toNat) % Z a0 11) → (V mX12_takesFunction k n 53 [some (r_ a0), some (i_ v1), some (i_ (v2 + 1))] [] x Z1 Q))))))))) :
    V mX12_takesFunction k n 53 [some (r_ a0), some (i_ v1), some (i_ v2)] [] x Z Q :=
  V_iload_n dX12_takesFunction_53 rfl (V_iconst dX12_takesFunction_54 (V_icmp_ge (tgt := 92) dX12_takesFunction_55 rfl h.1 (rg_c rfl) (fun c1 => V_aload_n dX12_takesFunction_92 rfl (V_bipush dX12_takesFunction_93 rfl (Exists.elim (h.2.1 c1) (fun g1 w1 => V_callV (k' := 0) (n' := 0) (t := 12) (q := (RX12, TX12, 46)) [i_ 24] [] okX12_deg o_a0.1 rfl rfl lm_12_192 liX12_deg lqX12_deg (Nat.le_of_ble_eq_true rfl) (Nat.le_of_ble_eq_true rfl) (Nat.le_of_ble_eq_true rfl) (cat_of rfl) (Nat.le_of_ble_eq_true rfl) (Nat.zero_le _) (Nat.zero_le _) rfl dX12_takesFunction_95 (sp_X12_deg o_a0 w1.1 w1.2.1 w1.2.2.1 (V_if_ge (tgt := 110) dX12_takesFunction_98 rfl w1.2.2.2.1 (fun c2 => V_iconst dX12_takesFunction_110 (V_goto (tgt := 115) dX12_takesFunction_111 rfl (V_iret (ty := .boolean) dX12_takesFunction_115 rfl rfl (w1.2.2.2.2.1 c2)))) (fun c2 => V_aload_n dX12_takesFunction_101 rfl (V_bipush dX12_takesFunction_102 rfl (Exists.elim (w1.2.2.2.2.2 c2) (fun g2 w2 => V_callV (k' := 0) (n' := 0) (t := 12) (q := (RX12, TX12, 46)) [i_ 25] [] okX12_deg o_a0.1 rfl rfl lm_12_192 liX12_deg lqX12_deg (Nat.le_of_ble_eq_true rfl) (Nat.le_of_ble_eq_true rfl) (Nat.le_of_ble_eq_true rfl) (cat_of rfl) (Nat.le_of_ble_eq_true rfl) (Nat.zero_le _) (Nat.zero_le _) rfl dX12_takesFunction_104 (sp_X12_deg o_a0 w2.1 w2.2.1 w2.2.2.1 (V_if_lt (tgt := 114) dX12_takesFunction_107 rfl w2.2.2.2.1 (fun c3 => V_iconst dX12_takesFunction_114 (V_iret (ty := .boolean) dX12_takesFunction_115 rfl rfl (w2.2.2.2.2.1 c3))) (fun c3 => V_iconst dX12_takesFunction_110 (V_goto (tgt := 115) dX12_takesFunction_111 rfl (V_iret (ty := .boolean) dX12_takesFunction_115 rfl rfl (w2.2.2.2.2.2 c3)))))))))))))))) (fun c1 => V_aload_n dX12_takesFunction_58 rfl (G_12_10 o_a0.1 o_a0.qR10 lf_12_20 dX12_takesFunction_59 (V_sipush dX12_takesFunction_62 rfl (V_iload_n dX12_takesFunction_65 rfl (V_iadd dX12_takesFunction_66 (V_aload_n dX12_takesFunction_67 rfl (V_aload_n dX12_takesFunction_68 rfl (G_12_0 o_a0.1 o_a0.qR0 lf_12_7 dX12_takesFunction_69 (V_iconst dX12_takesFunction_72 (V_iload_n dX12_takesFunction_73 rfl (V_callS (k' := 0) (n' := 0) [i_ 2, i_ v1] [r_ (a0 + 1), r_ a0, i_ (600 + v2), r_ (a0 + 4)] okX12_placeOf lm_12_176 lsX12_placeOf (Nat.le_of_ble_eq_true rfl) (Nat.le_of_ble_eq_true rfl) (Nat.le_of_ble_eq_true rfl) (cat_of rfl) (Nat.le_of_ble_eq_true rfl) (Nat.zero_le _) (Nat.zero_le _) rfl dX12_takesFunction_74 (sp_X12_placeOf  (h.2.2 c1).1 (V_iconst dX12_takesFunction_77 (V_iadd dX12_takesFunction_78 (V_iload_n dX12_takesFunction_79 rfl (V_iadd dX12_takesFunction_80 (V_iald (t := 100) o_a0.qK0 (by decide) rfl (h.2.2 c1).2.1 (h.2.2 c1).2.2.1 (Nat.le_of_ble_eq_true rfl) dX12_takesFunction_81 (V_callV (k' := 0) (n' := 0) (t := 12) (q := (RX12, TX12, 46)) [i_ (Z (a0 + 1) (((plcO (2 : Int) v1) + 5) + v2).toNat)] [i_ (600 + v2), r_ (a0 + 4)] okX12_mod o_a0.1 rfl rfl lm_12_182 liX12_mod lqX12_mod (Nat.le_of_ble_eq_true rfl) (Nat.le_of_ble_eq_true rfl) (Nat.le_of_ble_eq_true rfl) (cat_of rfl) (Nat.le_of_ble_eq_true rfl) (Nat.zero_le _) (Nat.zero_le _) rfl dX12_takesFunction_82 (sp_X12_mod o_a0 (h.2.2 c1).2.2.2.1 (h.2.2 c1).2.2.2.2.1 (h.2.2 c1).2.2.2.2.2.1 (V_iast (t := 100) o_a0.qK10 (by decide) (by decide) rfl (h.2.2 c1).2.2.2.2.2.2.1 (h.2.2 c1).2.2.2.2.2.2.2.1 (Nat.le_of_ble_eq_true rfl) dX12_takesFunction_85 (V_nmZ (fun Z1 eZ1 => V_iinc (lv' := [some (r_ a0), some (i_ v1), some (i_ (v2 + 1))]) dX12_takesFunction_86 rfl (Nat.le_of_ble_eq_true rfl) rfl (V_goto (tgt := 53) dX12_takesFunction_89 rfl (V_msk [true, true, true] rfl ((h.2.2 c1).2.2.2.2.2.2.2.2 Z1 eZ1)))))))))))))))))))))))))))
theorem dX12_often_0 : decode cX12_often 0 = .ok (.iconst 0, 1) := by decide +kernel
theorem dX12_often_1 : decode cX12_often 1 = .ok (.istore 4, 2) := by decide +kernel
theorem dX12_often_3 : decode cX12_often 3 = .ok (.iload 4, 2) := by decide +kernel
theorem dX12_often_5 : decode cX12_often 5 = .ok (.iload_n 3, 1) := by decide +kernel
theorem dX12_often_6 : decode cX12_often 6 = .ok (.if_icmp .ge 65, 3) := by decide +kernel
theorem dX12_often_9 : decode cX12_often 9 = .ok (.aload_n 0, 1) := by decide +kernel
theorem dX12_often_10 : decode cX12_often 10 = .ok (.iload_n 1, 1) := by decide +kernel
theorem dX12_often_11 : decode cX12_often 11 = .ok (.iload_n 2, 1) := by decide +kernel
theorem dX12_often_12 : decode cX12_often 12 = .ok (.invokevirtual 230, 3) := by decide +kernel
theorem dX12_often_15 : decode cX12_often 15 = .ok (.ifCond .ne 56, 3) := by decide +kernel
theorem dX12_often_18 : decode cX12_often 18 = .ok (.aload_n 0, 1) := by decide +kernel
theorem dX12_often_19 : decode cX12_often 19 = .ok (.bipush 23, 2) := by decide +kernel
theorem dX12_often_21 : decode cX12_often 21 = .ok (.invokevirtual 188, 3) := by decide +kernel
theorem dX12_often_24 : decode cX12_often 24 = .ok (.aload_n 0, 1) := by decide +kernel
theorem dX12_often_25 : decode cX12_often 25 = .ok (.getfield 20, 3) := by decide +kernel
theorem dX12_often_28 : decode cX12_often 28 = .ok (.sipush 552, 3) := by decide +kernel
theorem dX12_often_31 : decode cX12_often 31 = .ok (.aload_n 0, 1) := by decide +kernel
theorem dX12_often_32 : decode cX12_often 32 = .ok (.iload_n 2, 1) := by decide +kernel
theorem dX12_often_33 : decode cX12_often 33 = .ok (.ineg, 1) := by decide +kernel
theorem dX12_often_34 : decode cX12_often 34 = .ok (.invokevirtual 182, 3) := by decide +kernel
theorem dX12_often_37 : decode cX12_often 37 = .ok (.iastore, 1) := by decide +kernel
theorem dX12_often_38 : decode cX12_often 38 = .ok (.aload_n 0, 1) := by decide +kernel
theorem dX12_often_39 : decode cX12_often 39 = .ok (.getfield 20, 3) := by decide +kernel
theorem dX12_often_42 : decode cX12_often 42 = .ok (.sipush 553, 3) := by decide +kernel
theorem dX12_often_45 : decode cX12_often 45 = .ok (.iconst 1, 1) := by decide +kernel
theorem dX12_often_46 : decode cX12_often 46 = .ok (.iastore, 1) := by decide +kernel
theorem dX12_often_47 : decode cX12_often 47 = .ok (.aload_n 0, 1) := by decide +kernel
theorem dX12_often_48 : decode cX12_often 48 = .ok (.iload_n 1, 1) := by decide +kernel
theorem dX12_often_49 : decode cX12_often 49 = .ok (.bipush 23, 2) := by decide +kernel
theorem dX12_often_51 : decode cX12_often 51 = .ok (.bipush 16, 2) := by decide +kernel
theorem dX12_often_53 : decode cX12_often 53 = .ok (.bipush 17, 2) := by decide +kernel
theorem dX12_often_55 : decode cX12_often 55 = .ok (.invokevirtual 205, 3) := by decide +kernel
theorem dX12_often_58 : decode cX12_often 58 = .ok (.aload_n 0, 1) := by decide +kernel
theorem dX12_often_59 : decode cX12_often 59 = .ok (.bipush 16, 2) := by decide +kernel
theorem dX12_often_61 : decode cX12_often 61 = .ok (.iload_n 1, 1) := by decide +kernel
theorem dX12_often_62 : decode cX12_often 62 = .ok (.invokevirtual 199, 3) := by decide +kernel
theorem dX12_often_65 : decode cX12_often 65 = .ok (.iinc 4 1, 3) := by decide +kernel
theorem dX12_often_68 : decode cX12_often 68 = .ok (.goto (-65), 3) := by decide +kernel
theorem dX12_often_71 : decode cX12_often 71 = .ok (.iload 4, 2) := by decide +kernel
theorem dX12_often_73 : decode cX12_often 73 = .ok (.ireturn, 1) := by decide +kernel
set_option maxRecDepth 20000 in
theorem b_X12_often_0 {k n : Nat} {x : Wx} {Z : Zt} {Q : Option Value → Wx → Zt → Prop} {a0 : Nat} {v1 : Int} {v2 : Int} {v3 : Int} 
    (h : V mX12_often k n 3 [some (r_ a0), some (i_ v1), some (i_ v2), some (i_ v3), some (i_ 0)] [] x Z Q) :
    V mX12_often k n 0 [some (r_ a0), some (i_ v1), some (i_ v2), some (i_ v3), none] [] x Z Q :=
  V_iconst dX12_often_0 (V_istore (lv' := [some (r_ a0), some (i_ v1), some (i_ v2), some (i_ v3), some (i_ 0)]) dX12_often_1 (Nat.le_of_ble_eq_true rfl) rfl (V_msk [true, true, true, true, true] rfl h))
set_option maxRecDepth 20000 in
theorem b_X12_often_3 {k n : Nat} {x : Wx} {Z : Zt} {Q : Option Value → Wx → Zt → Prop} {a0 : Nat} {v1 : Int} {v2 : Int} {v3 : Int} {v4 : Int} (o_a0 : Is12 x a0)
    (h : Rg v4 ∧ Rg v3 ∧ (((v3 ≤ v4) → (V mX12_often k n 71 [none, none, none, none, some (i_ v4)] [] x Z Q)) ∧ ((v4 < v3) → (∃ g1 : Nat → Nat → Int, (∃ g2 : Int, ((IsP g2 ∧ Z a0 11 = g2) ∧ MS Z a0 g1 ∧ (0 ≤ v1 ∧ v1 < 27) ∧ (0 ≤ v2 ∧ v2 ≤ 13) ∧ InP g2 (g1 v1.toNat) ∧ (Rg (ev g2 (g1 v1.toNat) v2) ∧ (((ev g2 (g1 v1.toNat) v2 ≠ 0) → (V mX12_often k n 71 [none, none, none, none, some (i_ v4)] [] x Z Q)) ∧ ((ev g2 (g1 v1.toNat) v2 = 0) → (∃ g3 : Nat → Nat → Int, (MS Z a0 g3 ∧ (0 ≤ (23 : Int) ∧ (23 : Int) < 27) ∧ (∀ (Z'1 : Zt), (MS Z'1 a0 (updP g3 (23 : Int).toNat pzero) ∧ Oth Z Z'1 (O4 a0)) → (Rg (-v2) ∧ 0 < Z'1 a0 11 ∧ Z'1 a0 11 ≤ 13 ∧ (∀ Z1 : Zt, Z1 = up Z'1 (a0 + 4) 552 ((-v2) % Z'1 a0 11) → (∀ Z2 : Zt, Z2 = up Z1 (a0 + 4) 553 1 → (∃ g4 : Nat → Nat → Int, (∃ g5 : Int, ((IsP g5 ∧ Z2 a0 11 = g5) ∧ MS Z2 a0 g4 ∧ (((0 ≤ v1 ∧ v1 < 27) ∧ (0 ≤ (23 : Int) ∧ (23 : Int) < 27) ∧ (0 ≤ (16 : Int) ∧ (16 : Int) < 27) ∧ (0 ≤ (17 : Int) ∧ (17 : Int) < 27)) ∧ (16 : Int) ≠ v1 ∧ (16 : Int) ≠ (23 : Int) ∧ (17 : Int) ≠ v1 ∧ (17 : Int) ≠ (23 : Int) ∧ (16 : Int) ≠ (17 : Int)) ∧ (InP g5 (g4 v1.toNat) ∧ Fin (g4 v1.toNat)) ∧ (InP g5 (g4 (23 : Int).toNat) ∧ 0 ≤ pd (g4 (23 : Int).toNat)) ∧ (∀ (Z'2 : Zt), (MS Z'2 a0 (updP (updP g4 (16 : Int).toNat (dvQ g5 (g4 v1.toNat) (g4 (23 : Int).toNat))) (17 : Int).toNat (dvR g5 (g4 v1.toNat) (g4 (23 : Int).toNat))) ∧ Oth Z2 Z'2 (O4 a0)) → (∃ g6 : Nat → Nat → Int, (MS Z'2 a0 g6 ∧ (0 ≤ v1 ∧ v1 < 27) ∧ (0 ≤ (16 : Int) ∧ (16 : Int) < 27) ∧ (∀ (Z'3 : Zt), (MS Z'3 a0 (updP g6 v1.toNat (g6 (16 : Int).toNat)) ∧ Oth Z'2 Z'3 (O4 a0)) → (V mX12_often k n 3 [some (r_ a0), some (i_ v1), some (i_ v2), some (i_ v3), some (i_ (v4 + 1))] [] x Z'3 Q))))))))))))))))))))))) :
    V mX12_often k n 3 [some (r_ a0), some (i_ v1), some (i_ v2), some (i_ v3), some (i_ v4)] [] x Z Q :=
  V_iload dX12_often_3 rfl (V_iload_n dX12_often_5 rfl (V_icmp_ge (tgt := 71) dX12_often_6 rfl h.1 h.2.1 (fun c1 => V_msk [false, false, false, false, true] rfl (h.2.2.1 c1)) (fun c1 => V_aload_n dX12_often_9 rfl (V_iload_n dX12_often_10 rfl (V_iload_n dX12_often_11 rfl (Exists.elim (h.2.2.2 c1) (fun g1 w1 => Exists.elim w1 (fun g2 w2 => V_callV (k' := 0) (n' := 0) (t := 12) (q := (RX12, TX12, 46)) [i_ v1, i_ v2] [] okX12_value o_a0.1 rfl rfl lm_12_230 liX12_value lqX12_value (Nat.le_of_ble_eq_true rfl) (Nat.le_of_ble_eq_true rfl) (Nat.le_of_ble_eq_true rfl) (cat_of rfl) (Nat.le_of_ble_eq_true rfl) (Nat.zero_le _) (Nat.zero_le _) rfl dX12_often_12 (sp_X12_value o_a0 w2.1 w2.2.1 w2.2.2.1 w2.2.2.2.1 w2.2.2.2.2.1 (V_if_ne (tgt := 71) dX12_often_15 rfl w2.2.2.2.2.2.1 (fun c2 => V_msk [false, false, false, false, true] rfl (w2.2.2.2.2.2.2.1 c2)) (fun c2 => V_aload_n dX12_often_18 rfl (V_bipush dX12_often_19 rfl (Exists.elim (w2.2.2.2.2.2.2.2 c2) (fun g3 w3 => V_callV (k' := 0) (n' := 0) (t := 12) (q := (RX12, TX12, 46)) [i_ 23] [] okX12_zero o_a0.1 rfl rfl lm_12_188 liX12_zero lqX12_zero (Nat.le_of_ble_eq_true rfl) (Nat.le_of_ble_eq_true rfl) (Nat.le_of_ble_eq_true rfl) (cat_of rfl) (Nat.le_of_ble_eq_true rfl) (Nat.zero_le _) (Nat.zero_le _) rfl dX12_often_21 (sp_X12_zero o_a0 w3.1 w3.2.1 (fun Z'1 p1 => V_aload_n dX12_often_24 rfl (G_12_10 o_a0.1 o_a0.qR10 lf_12_20 dX12_often_25 (V_sipush dX12_often_28 rfl (V_aload_n dX12_often_31 rfl (V_iload_n dX12_often_32 rfl (V_ineg dX12_often_33 (V_callV (k' := 0) (n' := 0) (t := 12) (q := (RX12, TX12, 46)) [i_ (-v2)] [i_ 552, r_ (a0 + 4)] okX12_mod o_a0.1 rfl rfl lm_12_182 liX12_mod lqX12_mod (Nat.le_of_ble_eq_true rfl) (Nat.le_of_ble_eq_true rfl) (Nat.le_of_ble_eq_true rfl) (cat_of rfl) (Nat.le_of_ble_eq_true rfl) (Nat.zero_le _) (Nat.zero_le _) rfl dX12_often_34 (sp_X12_mod o_a0 (w3.2.2 Z'1 p1).1 (w3.2.2 Z'1 p1).2.1 (w3.2.2 Z'1 p1).2.2.1 (V_iast (t := 100) o_a0.qK10 (by decide) (by decide) rfl (by decide) (by decide) (Nat.le_of_ble_eq_true rfl) dX12_often_37 (V_nmZ (fun Z1 eZ1 => V_aload_n dX12_often_38 rfl (G_12_10 o_a0.1 o_a0.qR10 lf_12_20 dX12_often_39 (V_sipush dX12_often_42 rfl (V_iconst dX12_often_45 (V_iast (t := 100) o_a0.qK10 (by decide) (by decide) rfl (by decide) (by decide) (Nat.le_of_ble_eq_true rfl) dX12_often_46 (V_nmZ (fun Z2 eZ2 => V_aload_n dX12_often_47 rfl (V_iload_n dX12_often_48 rfl (V_bipush dX12_often_49 rfl (V_bipush dX12_often_51 rfl (V_bipush dX12_often_53 rfl (Exists.elim (((w3.2.2 Z'1 p1).2.2.2 Z1 eZ1) Z2 eZ2) (fun g4 w4 => Exists.elim w4 (fun g5 w5 => V_callV (k' := 0) (n' := 0) (t := 12) (q := (RX12, TX12, 46)) [i_ v1, i_ 23, i_ 16, i_ 17] [] okX12_divides o_a0.1 rfl rfl lm_12_205 liX12_divides lqX12_divides (Nat.le_of_ble_eq_true rfl) (Nat.le_of_ble_eq_true rfl) (Nat.le_of_ble_eq_true rfl) (cat_of rfl) (Nat.le_of_ble_eq_true rfl) (Nat.zero_le _) (Nat.zero_le _) rfl dX12_often_55 (sp_X12_divides o_a0 w5.1 w5.2.1 w5.2.2.1 w5.2.2.2.1 w5.2.2.2.2.1 (fun Z'2 p2 => V_aload_n dX12_often_58 rfl (V_bipush dX12_often_59 rfl (V_iload_n dX12_often_61 rfl (Exists.elim (w5.2.2.2.2.2 Z'2 p2) (fun g6 w6 => V_callV (k' := 0) (n' := 0) (t := 12) (q := (RX12, TX12, 46)) [i_ 16, i_ v1] [] okX12_copy o_a0.1 rfl rfl lm_12_199 liX12_copy lqX12_copy (Nat.le_of_ble_eq_true rfl) (Nat.le_of_ble_eq_true rfl) (Nat.le_of_ble_eq_true rfl) (cat_of rfl) (Nat.le_of_ble_eq_true rfl) (Nat.zero_le _) (Nat.zero_le _) rfl dX12_often_62 (sp_X12_copy o_a0 w6.1 w6.2.1 w6.2.2.1 (fun Z'3 p3 => V_iinc (lv' := [some (r_ a0), some (i_ v1), some (i_ v2), some (i_ v3), some (i_ (v4 + 1))]) dX12_often_65 rfl (Nat.le_of_ble_eq_true rfl) rfl (V_goto (tgt := 3) dX12_often_68 rfl (V_msk [true, true, true, true, true] rfl (w6.2.2.2 Z'3 p3))))))))))))))))))))))))))))))))))))))))))))))))))
set_option maxRecDepth 20000 in
theorem b_X12_often_71 {k n : Nat} {x : Wx} {Z : Zt} {Q : Option Value → Wx → Zt → Prop} {v4 : Int} 
    (h : Q (some (i_ v4)) x Z) :
    V mX12_often k n 71 [none, none, none, none, some (i_ v4)] [] x Z Q :=
  V_iload dX12_often_71 rfl (V_iret (ty := .int) dX12_often_73 rfl rfl h)
theorem dX12_norms_0 : decode cX12_norms 0 = .ok (.aload_n 0, 1) := by decide +kernel
theorem dX12_norms_1 : decode cX12_norms 1 = .ok (.bipush 24, 2) := by decide +kernel
theorem dX12_norms_3 : decode cX12_norms 3 = .ok (.bipush 24, 2) := by decide +kernel
theorem dX12_norms_5 : decode cX12_norms 5 = .ok (.bipush 26, 2) := by decide +kernel
theorem dX12_norms_7 : decode cX12_norms 7 = .ok (.invokevirtual 215, 3) := by decide +kernel
theorem dX12_norms_10 : decode cX12_norms 10 = .ok (.aload_n 0, 1) := by decide +kernel
theorem dX12_norms_11 : decode cX12_norms 11 = .ok (.bipush 25, 2) := by decide +kernel
theorem dX12_norms_13 : decode cX12_norms 13 = .ok (.bipush 25, 2) := by decide +kernel
theorem dX12_norms_15 : decode cX12_norms 15 = .ok (.bipush 21, 2) := by decide +kernel
theorem dX12_norms_17 : decode cX12_norms 17 = .ok (.invokevirtual 215, 3) := by decide +kernel
theorem dX12_norms_20 : decode cX12_norms 20 = .ok (.aload_n 0, 1) := by decide +kernel
theorem dX12_norms_21 : decode cX12_norms 21 = .ok (.iconst 0, 1) := by decide +kernel
theorem dX12_norms_22 : decode cX12_norms 22 = .ok (.bipush 21, 2) := by decide +kernel
theorem dX12_norms_24 : decode cX12_norms 24 = .ok (.bipush 22, 2) := by decide +kernel
theorem dX12_norms_26 : decode cX12_norms 26 = .ok (.invokevirtual 215, 3) := by decide +kernel
theorem dX12_norms_29 : decode cX12_norms 29 = .ok (.aload_n 0, 1) := by decide +kernel
theorem dX12_norms_30 : decode cX12_norms 30 = .ok (.bipush 26, 2) := by decide +kernel
theorem dX12_norms_32 : decode cX12_norms 32 = .ok (.bipush 22, 2) := by decide +kernel
theorem dX12_norms_34 : decode cX12_norms 34 = .ok (.iconst (-1), 1) := by decide +kernel
theorem dX12_norms_35 : decode cX12_norms 35 = .ok (.iconst 0, 1) := by decide +kernel
theorem dX12_norms_36 : decode cX12_norms 36 = .ok (.invokevirtual 195, 3) := by decide +kernel
theorem dX12_norms_39 : decode cX12_norms 39 = .ok (.return_, 1) := by decide +kernel
set_option maxRecDepth 20000 in
theorem b_X12_norms_0 {k n : Nat} {x : Wx} {Z : Zt} {Q : Option Value → Wx → Zt → Prop} {a0 : Nat} (o_a0 : Is12 x a0)
    (h : ∃ g1 : Nat → Nat → Int, (∃ g2 : Int, ((IsP g2 ∧ Z a0 11 = g2) ∧ MS Z a0 g1 ∧ ((0 ≤ (24 : Int) ∧ (24 : Int) < 27) ∧ (0 ≤ (24 : Int) ∧ (24 : Int) < 27) ∧ (0 ≤ (26 : Int) ∧ (26 : Int) < 27) ∧ (26 : Int) ≠ (24 : Int) ∧ (26 : Int) ≠ (24 : Int)) ∧ (InP g2 (g1 (24 : Int).toNat) ∧ Fin (g1 (24 : Int).toNat)) ∧ InP g2 (g1 (24 : Int).toNat) ∧ (∀ (Z'1 : Zt), (MS Z'1 a0 (updP g1 (26 : Int).toNat (pmul g2 (g1 (24 : Int).toNat) (g1 (24 : Int).toNat))) ∧ Oth Z Z'1 (O4 a0)) → (∃ g3 : Nat → Nat → Int, (∃ g4 : Int, ((IsP g4 ∧ Z'1 a0 11 = g4) ∧ MS Z'1 a0 g3 ∧ ((0 ≤ (25 : Int) ∧ (25 : Int) < 27) ∧ (0 ≤ (25 : Int) ∧ (25 : Int) < 27) ∧ (0 ≤ (21 : Int) ∧ (21 : Int) < 27) ∧ (21 : Int) ≠ (25 : Int) ∧ (21 : Int) ≠ (25 : Int)) ∧ (InP g4 (g3 (25 : Int).toNat) ∧ Fin (g3 (25 : Int).toNat)) ∧ InP g4 (g3 (25 : Int).toNat) ∧ (∀ (Z'2 : Zt), (MS Z'2 a0 (updP g3 (21 : Int).toNat (pmul g4 (g3 (25 : Int).toNat) (g3 (25 : Int).toNat))) ∧ Oth Z'1 Z'2 (O4 a0)) → (∃ g5 : Nat → Nat → Int, (∃ g6 : Int, ((IsP g6 ∧ Z'2 a0 11 = g6) ∧ MS Z'2 a0 g5 ∧ ((0 ≤ (0 : Int) ∧ (0 : Int) < 27) ∧ (0 ≤ (21 : Int) ∧ (21 : Int) < 27) ∧ (0 ≤ (22 : Int) ∧ (22 : Int) < 27) ∧ (22 : Int) ≠ (0 : Int) ∧ (22 : Int) ≠ (21 : Int)) ∧ (InP g6 (g5 (0 : Int).toNat) ∧ Fin (g5 (0 : Int).toNat)) ∧ InP g6 (g5 (21 : Int).toNat) ∧ (∀ (Z'3 : Zt), (MS Z'3 a0 (updP g5 (22 : Int).toNat (pmul g6 (g5 (0 : Int).toNat) (g5 (21 : Int).toNat))) ∧ Oth Z'2 Z'3 (O4 a0)) → (∃ g7 : Nat → Nat → Int, (∃ g8 : Int, ((IsP g8 ∧ Z'3 a0 11 = g8) ∧ MS Z'3 a0 g7 ∧ ((0 ≤ (26 : Int) ∧ (26 : Int) < 27) ∧ (0 ≤ (22 : Int) ∧ (22 : Int) < 27) ∧ (26 : Int) ≠ (22 : Int)) ∧ ((-100 ≤ (-1 : Int) ∧ (-1 : Int) ≤ 100) ∧ 0 ≤ (0 : Int) ∧ (0 : Int) ≤ 24) ∧ InP g8 (g7 (26 : Int).toNat) ∧ InP g8 (g7 (22 : Int).toNat) ∧ (∀ (Z'4 : Zt), (MS Z'4 a0 (updP g7 (26 : Int).toNat (pads g8 (g7 (26 : Int).toNat) (g7 (22 : Int).toNat) (-1 : Int) (0 : Int).toNat)) ∧ Oth Z'3 Z'4 (O4 a0)) → (Q none x Z'4))))))))))))))))) :
    V mX12_norms k n 0 [some (r_ a0)] [] x Z Q :=
  V_aload_n dX12_norms_0 rfl (V_bipush dX12_norms_1 rfl (V_bipush dX12_norms_3 rfl (V_bipush dX12_norms_5 rfl (Exists.elim h (fun g1 w1 => Exists.elim w1 (fun g2 w2 => V_callV (k' := 0) (n' := 0) (t := 12) (q := (RX12, TX12, 46)) [i_ 24, i_ 24, i_ 26] [] okX12_product o_a0.1 rfl rfl lm_12_215 liX12_product lqX12_product (Nat.le_of_ble_eq_true rfl) (Nat.le_of_ble_eq_true rfl) (Nat.le_of_ble_eq_true rfl) (cat_of rfl) (Nat.le_of_ble_eq_true rfl) (Nat.zero_le _) (Nat.zero_le _) rfl dX12_norms_7 (sp_X12_product o_a0 w2.1 w2.2.1 w2.2.2.1 w2.2.2.2.1 w2.2.2.2.2.1 (fun Z'1 p1 => V_aload_n dX12_norms_10 rfl (V_bipush dX12_norms_11 rfl (V_bipush dX12_norms_13 rfl (V_bipush dX12_norms_15 rfl (Exists.elim (w2.2.2.2.2.2 Z'1 p1) (fun g3 w3 => Exists.elim w3 (fun g4 w4 => V_callV (k' := 0) (n' := 0) (t := 12) (q := (RX12, TX12, 46)) [i_ 25, i_ 25, i_ 21] [] okX12_product o_a0.1 rfl rfl lm_12_215 liX12_product lqX12_product (Nat.le_of_ble_eq_true rfl) (Nat.le_of_ble_eq_true rfl) (Nat.le_of_ble_eq_true rfl) (cat_of rfl) (Nat.le_of_ble_eq_true rfl) (Nat.zero_le _) (Nat.zero_le _) rfl dX12_norms_17 (sp_X12_product o_a0 w4.1 w4.2.1 w4.2.2.1 w4.2.2.2.1 w4.2.2.2.2.1 (fun Z'2 p2 => V_aload_n dX12_norms_20 rfl (V_iconst dX12_norms_21 (V_bipush dX12_norms_22 rfl (V_bipush dX12_norms_24 rfl (Exists.elim (w4.2.2.2.2.2 Z'2 p2) (fun g5 w5 => Exists.elim w5 (fun g6 w6 => V_callV (k' := 0) (n' := 0) (t := 12) (q := (RX12, TX12, 46)) [i_ 0, i_ 21, i_ 22] [] okX12_product o_a0.1 rfl rfl lm_12_215 liX12_product lqX12_product (Nat.le_of_ble_eq_true rfl) (Nat.le_of_ble_eq_true rfl) (Nat.le_of_ble_eq_true rfl) (cat_of rfl) (Nat.le_of_ble_eq_true rfl) (Nat.zero_le _) (Nat.zero_le _) rfl dX12_norms_26 (sp_X12_product o_a0 w6.1 w6.2.1 w6.2.2.1 w6.2.2.2.1 w6.2.2.2.2.1 (fun Z'3 p3 => V_aload_n dX12_norms_29 rfl (V_bipush dX12_norms_30 rfl (V_bipush dX12_norms_32 rfl (V_iconst dX12_norms_34 (V_iconst dX12_norms_35 (Exists.elim (w6.2.2.2.2.2 Z'3 p3) (fun g7 w7 => Exists.elim w7 (fun g8 w8 => V_callV (k' := 0) (n' := 0) (t := 12) (q := (RX12, TX12, 46)) [i_ 26, i_ 22, i_ (-1), i_ 0] [] okX12_adds o_a0.1 rfl rfl lm_12_195 liX12_adds lqX12_adds (Nat.le_of_ble_eq_true rfl) (Nat.le_of_ble_eq_true rfl) (Nat.le_of_ble_eq_true rfl) (cat_of rfl) (Nat.le_of_ble_eq_true rfl) (Nat.zero_le _) (Nat.zero_le _) rfl dX12_norms_36 (sp_X12_adds o_a0 w8.1 w8.2.1 w8.2.2.1 w8.2.2.2.1 w8.2.2.2.2.1 w8.2.2.2.2.2.1 (fun Z'4 p4 => V_ret dX12_norms_39 rfl (w8.2.2.2.2.2.2 Z'4 p4))))))))))))))))))))))))))))))))))
def lin (p X : Int) : Nat → Int := fun i => if i = 0 then (-X) % p else if i = 1 then 1 else 0
/-- how often X is a zero, at most m times; what is left -/
def ofQ (p X : Int) : Nat → (Nat → Int) → Nat × (Nat → Int)
  | 0, f => (0, f)
  | m + 1, f => if ev p f X = 0 then ((ofQ p X m (dvQ p f (lin p X))).1 + 1, (ofQ p X m (dvQ p f (lin p X))).2) else (0, f)
theorem ofQ_le (p X : Int) : ∀ (m : Nat) (f : Nat → Int), (ofQ p X m f).1 ≤ m
  | 0, _ => Nat.le_refl 0
  | m + 1, f => by
    unfold ofQ
    split
    · have := ofQ_le p X m (dvQ p f (lin p X))
      show (ofQ p X m (dvQ p f (lin p X))).1 + 1 ≤ m + 1
      omega
    · exact Nat.zero_le _
theorem lin_pd {p X : Int} : pd (lin p X) = 1 := pd_eq (m := 1) (by decide) (by show (1 : Int) ≠ 0; decide) (fun i hi => by unfold lin; rw [if_neg (by omega), if_neg (by omega)])
theorem lin_in {p X : Int} (hp : 1 < p) : InP p (lin p X) := fun i => by
  unfold lin
  split
  · exact emr _ (by omega)
  · split <;> omega
theorem dvQ_fin {p : Int} {f g : Nat → Int} (hg : 0 ≤ pd g) : Fin (dvQ p f g) := fun i hi => by
  have h1 := pd_lt f
  have h2 := pd_dvQ (p := p) (f := f) (g := g)
  have h3 : ∀ (d : Nat) (iv : Int) (m : Nat) (f : Nat → Int) (t : Nat), m ≤ t → dvq p g d iv m f t = 0 := by
    intro d iv m
    induction m with
    | zero => intro f t _; rfl
    | succ m ih =>
      intro f t ht
      show (if t = m then _ else dvq p g d iv m _ t) = 0
      rw [if_neg (by omega)]
      exact ih _ t (by omega)
  exact h3 _ _ _ _ _ (by omega)
theorem sp_X12_often {k n : Nat} {x : Wx} {Z : Zt} {Q : Option Value → Wx → Zt → Prop} {b : Nat} {u X w : Int} (o : Is12 x b) {P : Nat → Nat → Int} {p : Int} (hp : IsP p ∧ Z b 11 = p) (hP : MS Z b P) (hu : (0 ≤ u ∧ u < 27) ∧ u ≠ 16 ∧ u ≠ 17 ∧ u ≠ 23) (hX : 0 ≤ X ∧ X < p) (hw : 0 ≤ w ∧ w ≤ 90) (hf : InP p (P u.toNat) ∧ Fin (P u.toNat)) (h : ∀ (Z' : Zt) (P' : Nat → Nat → Int), (MS Z' b P' ∧ Oth Z Z' (O4 b) ∧ P' u.toNat = (ofQ p X w.toNat (P u.toNat)).2 ∧ (∀ q : Nat, q ≠ u.toNat → q ≠ 16 → q ≠ 17 → q ≠ 23 → P' q = P q)) → Q (some (i_ (ofQ p X w.toNat (P u.toNat)).1)) x Z') : V mX12_often k n 0 [some (r_ b), some (i_ u), some (i_ X), some (i_ w), none] [] x Z Q := by
  obtain ⟨hp, hb⟩ := hp
  have hpr := hp.rg
  generalize hR : ofQ p X w.toNat (P u.toNat) = R at h
  have lp : ∀ (m i : Nat) (Z1 : Zt) (P1 : Nat → Nat → Int) (f : Nat → Int), (i : Int) + m = w → MS Z1 b P1 → Oth Z Z1 (O4 b) → P1 u.toNat = f → InP p f → Fin f → (∀ q : Nat, q ≠ u.toNat → q ≠ 16 → q ≠ 17 → q ≠ 23 → P1 q = P q) → ((ofQ p X m f).1 + i, (ofQ p X m f).2) = R → V mX12_often k n 3 [some (r_ b), some (i_ u), some (i_ X), some (i_ w), some (i_ (i : Int))] [] x Z1 Q := by
    intro m
    induction m with
    | zero =>
      intro i Z1 P1 f hi m1 o1 hu1 if1 ff1 hq he
      have he : ((0 : Nat) + i, f) = R := he
      refine b_X12_often_3 o ⟨⟨by omega, by omega⟩, ⟨by omega, by omega⟩, fun _ => b_X12_often_71 ?_, fun c => by omega⟩
      have := h Z1 P1
      rw [← he] at this
      rw [show ((0 : Nat) + i) = i from Nat.zero_add i] at this
      exact this ⟨m1, o1, hu1, hq⟩
    | succ m ih =>
      intro i Z1 P1 f hi m1 o1 hu1 if1 ff1 hq he
      have b1 : Z1 b 11 = p := by rw [o1 b (by show ¬ (b = b + 4); omega)]; exact hb
      have hv := ev_rg (p := p) (by omega) f X
      unfold ofQ at he
      refine b_X12_often_3 o ⟨⟨by omega, by omega⟩, ⟨by omega, by omega⟩, fun c => by omega, fun _ => ⟨P1, p, ⟨hp, b1⟩, m1, hu.1, by omega, by rw [hu1]; exact if1, ?_⟩⟩
      rw [hu1]
      refine ⟨⟨by omega, by omega⟩, fun c => b_X12_often_71 ?_, fun c => ⟨P1, m1, by decide, fun Z2 hz2 => ?_⟩⟩
      · rw [if_neg c] at he
        have := h Z1 P1
        rw [← he] at this
        have := this ⟨m1, o1, hu1, hq⟩
        show Q (some (i_ ((i : Nat) : Int))) x Z1
        rw [show (((0 : Nat) + i : Nat) : Int) = ((i : Nat) : Int) from by omega] at this
        exact this
      · rw [if_pos c] at he
        have b2 : Z2 b 11 = p := by rw [hz2.2 b (by show ¬ (b = b + 4); omega)]; exact b1
        rw [b2]
        refine ⟨⟨by omega, by omega⟩, by omega, by omega, fun Z3 e3 Z4 e4 => ?_⟩
        have g3 := hz2.1.put (u := 23) (i := 0) (by decide) (by decide) (show Z3 = up Z2 (b + 4) (24 * 23 + 0 : Int).toNat _ from e3)
        have g4 := g3.1.put (u := 23) (i := 1) (by decide) (by decide) (show Z4 = up Z3 (b + 4) (24 * 23 + 1 : Int).toNat _ from e4)
        have m4 : MS Z4 b (updP P1 23 (lin p X)) := g4.1.eq (fun q j hq1 hj => by
          by_cases c23 : q = 23
          · subst c23
            show (if j = 1 then (1 : Int) else (if j = 0 then (-X) % p else 0)) = lin p X j
            unfold lin
            by_cases j1 : j = 1
            · rw [if_pos j1, if_neg (by omega), if_pos j1]
            · rw [if_neg j1]
              by_cases j0 : j = 0
              · rw [if_pos j0, if_pos j0]
              · rw [if_neg j0, if_neg j0, if_neg j1]
          · unfold putP
            rw [show (23 : Int).toNat = 23 from rfl, updP_n _ _ c23, updP_n _ _ c23, updP_n _ _ c23, updP_n _ _ c23])
        have o4 : Oth Z Z4 (O4 b) := o1.tr (hz2.2.tr (g3.2.tr g4.2))
        have b4 : Z4 b 11 = p := by rw [o4 b (by show ¬ (b = b + 4); omega)]; exact hb
        have nu : u.toNat ≠ 23 := by omega
        have nu16 : u.toNat ≠ 16 := by omega
        have nu17 : u.toNat ≠ 17 := by omega
        have t23 : (23 : Int).toNat = 23 := rfl
        have t16 : (16 : Int).toNat = 16 := rfl
        have t17 : (17 : Int).toNat = 17 := rfl
        rw [t23, t16, t17]
        refine ⟨updP P1 23 (lin p X), p, ⟨hp, b4⟩, m4, ⟨⟨hu.1, by decide, by decide, by decide⟩, by omega, by decide, by omega, by decide, by decide⟩, ?_, ?_, fun Z5 hz5 => ?_⟩
        · rw [updP_n _ _ nu, hu1]; exact ⟨if1, ff1⟩
        · rw [updP_s]; exact ⟨lin_in (by omega), by rw [lin_pd]; decide⟩
        · rw [updP_n _ _ nu, hu1, updP_s] at hz5
          refine ⟨_, hz5.1, hu.1, by decide, fun Z6 hz6 => ?_⟩
          have e16 : updP (updP (updP P1 23 (lin p X)) 16 (dvQ p f (lin p X))) 17 (dvR p f (lin p X)) 16 = dvQ p f (lin p X) := by rw [updP_n _ _ (by decide), updP_s]
          rw [e16] at hz6
          have := ih (i + 1) Z6 _ (dvQ p f (lin p X)) (by omega) hz6.1 (o4.tr (hz5.2.tr hz6.2)) (updP_s _ _ _) (dvQ_in (by omega)) (dvQ_fin (by rw [lin_pd]; decide)) (fun q q1 q2 q3 q4 => by rw [updP_n _ _ q1, updP_n _ _ q3, updP_n _ _ q2, updP_n _ _ q4]; exact hq q q1 q2 q3 q4) (by rw [← he]; congr 1; omega)
          exact this
  exact b_X12_often_0 (lp w.toNat 0 Z P (P u.toNat) (by omega) hP Oth.rf rfl hf.1 hf.2 (fun _ _ _ _ _ => rfl) (by rw [← hR]; rfl))
/-- the reference's NORM -/
def mNr (p : Int) (F A B : Nat → Int) : Nat → Int := padd p (pmul p A A) (pmul p F (pmul p B B)) (-1)
theorem sp_X12_norms {k n : Nat} {x : Wx} {Z : Zt} {Q : Option Value → Wx → Zt → Prop} {b : Nat} (o : Is12 x b) {P : Nat → Nat → Int} {p : Int} (hp : IsP p ∧ Z b 11 = p) (hP : MS Z b P) (hf : (InP p (P 0) ∧ Fin (P 0)) ∧ (InP p (P 24) ∧ Fin (P 24)) ∧ (InP p (P 25) ∧ Fin (P 25))) (h : ∀ (Z' : Zt) (P' : Nat → Nat → Int), (MS Z' b P' ∧ Oth Z Z' (O4 b) ∧ P' 26 = mNr p (P 0) (P 24) (P 25) ∧ (∀ q : Nat, q ≠ 21 → q ≠ 22 → q ≠ 26 → P' q = P q)) → Q none x Z') : V mX12_norms k n 0 [some (r_ b)] [] x Z Q := by
  obtain ⟨hp, hb⟩ := hp
  have hpr := hp.rg
  obtain ⟨⟨f1, f2⟩, ⟨a1, a2⟩, ⟨b1, b2⟩⟩ := hf
  have t0 : (0 : Int).toNat = 0 := rfl
  have t21 : (21 : Int).toNat = 21 := rfl
  have t22 : (22 : Int).toNat = 22 := rfl
  have t24 : (24 : Int).toNat = 24 := rfl
  have t25 : (25 : Int).toNat = 25 := rfl
  have t26 : (26 : Int).toNat = 26 := rfl
  have eb : ∀ Z1 : Zt, Oth Z Z1 (O4 b) → Z1 b 11 = p := fun Z1 ho => by rw [ho b (by show ¬ (b = b + 4); omega)]; exact hb
  refine b_X12_norms_0 o ?_
  rw [t0, t21, t22, t24, t25, t26]
  refine ⟨P, p, ⟨hp, hb⟩, hP, by decide, ⟨a1, a2⟩, a1, fun Z1 hz1 => ?_⟩
  refine ⟨_, p, ⟨hp, eb Z1 hz1.2⟩, hz1.1, by decide, ?_, ?_, fun Z2 hz2 => ?_⟩
  · rw [updP_n _ _ (by decide)]; exact ⟨b1, b2⟩
  · rw [updP_n _ _ (by decide)]; exact b1
  have o2 := hz1.2.tr hz2.2
  rw [updP_n _ _ (show (25 : Nat) ≠ 26 by decide)] at hz2
  refine ⟨_, p, ⟨hp, eb Z2 o2⟩, hz2.1, by decide, ?_, ?_, fun Z3 hz3 => ?_⟩
  · rw [updP_n _ _ (by decide), updP_n _ _ (by decide)]; exact ⟨f1, f2⟩
  · rw [updP_s]; exact pmul_in (by omega)
  have o3 := o2.tr hz3.2
  rw [updP_n _ _ (show (0 : Nat) ≠ 21 by decide), updP_n _ _ (show (0 : Nat) ≠ 26 by decide), updP_s] at hz3
  refine ⟨_, p, ⟨hp, eb Z3 o3⟩, hz3.1, by decide, by decide, ?_, ?_, fun Z4 hz4 => ?_⟩
  · rw [updP_n _ _ (by decide), updP_n _ _ (by decide), updP_s]; exact pmul_in (by omega)
  · rw [updP_s]; exact pmul_in (by omega)
  rw [updP_n _ _ (show (26 : Nat) ≠ 22 by decide), updP_n _ _ (show (26 : Nat) ≠ 21 by decide), updP_s, updP_s] at hz4
  refine h Z4 (updP (updP (updP (updP P 26 (pmul p (P 24) (P 24))) 21 (pmul p (P 25) (P 25))) 22 (pmul p (P 0) (pmul p (P 25) (P 25)))) 26 (mNr p (P 0) (P 24) (P 25))) ⟨hz4.1.eq (fun q i hq hi => ?_), o3.tr hz4.2, updP_s _ _ _, fun q q1 q2 q3 => by rw [updP_n _ _ q3, updP_n _ _ q2, updP_n _ _ q1, updP_n _ _ q3]⟩
  by_cases c : q = 26
  · subst c
    rw [updP_s, updP_s]; exact pads0 i hi
  · rw [updP_n _ _ c, updP_n _ _ c]
/-- a function is taken -/
def MFn (Z : Zt) (b : Nat) (p : Int) (F A B : Nat → Int) : Prop := ∃ P : Nat → Nat → Int, MS Z b P ∧ P 0 = F ∧ P 24 = A ∧ P 25 = B
theorem sp_X12_takesFunction {k n : Nat} {x : Wx} {Z : Zt} {Q : Option Value → Wx → Zt → Prop} {b : Nat} {v : Int} (o : Is12 x b) {T : Td} {p : Int} {F : Nat → Int} (hT : MT (Z (b + 1)) T) (hV : TdV T) (hF : MF Z b p F) (hv : 0 ≤ v ∧ v < T.ct 2) (h : ∀ (Z' : Zt) (r : Int), (((r = 1 ∧ (0 ≤ pd (fnA p (T.rw (5 + v.toNat))) ∨ 0 ≤ pd (fnB p (T.rw (5 + v.toNat))))) ∨ (r = 0 ∧ ¬ (0 ≤ pd (fnA p (T.rw (5 + v.toNat))) ∨ 0 ≤ pd (fnB p (T.rw (5 + v.toNat)))))) ∧ MF Z' b p F ∧ MFn Z' b p F (fnA p (T.rw (5 + v.toNat))) (fnB p (T.rw (5 + v.toNat))) ∧ Oth Z Z' (O4 b)) → Q (some (i_ r)) x Z') : V mX12_takesFunction k n 0 [some (r_ b), some (i_ v), none] [] x Z Q := by
  obtain ⟨q, hq⟩ : ∃ q : Nat, v = (q : Int) := ⟨v.toNat, by omega⟩
  subst hq
  rw [Int.toNat_natCast] at h
  obtain ⟨R, hR⟩ : ∃ R : Nat → Int, T.rw (5 + q) = R := ⟨_, rfl⟩
  rw [hR] at h
  have hct := hV.2.2.2.2.2.2.1
  have hg := hT.2.2.2.2.2 q hv.2
  have hfr := hV.2.2.2.2.2.2.2.2.2 q hv.2
  rw [hR] at hg hfr
  have hp := hF.2.1.1
  have hpr := hp.rg
  have b11 := hF.1.1.1
  obtain ⟨hMC, hCF, P, mP, p0⟩ := id hF
  have epl : plcO (2 : Int) (q : Int) = 704 + 8 * (q : Int) := rfl
  have hq3 : q < 3 := by omega
  have hA4 : ∀ i : Nat, fnA p R i = if i ≤ 4 then R i % p else 0 := fun i => by unfold fnA ptak; rw [Nat.zero_add]
  have hB2 : ∀ i : Nat, fnB p R i = if i ≤ 2 then R (5 + i) % p else 0 := fun i => rfl
  have iA : InP p (fnA p R) := fun i => by rw [hA4]; split; exact emr _ (by omega); omega
  have iB : InP p (fnB p R) := fun i => by rw [hB2]; split; exact emr _ (by omega); omega
  have fin : ∀ (m i : Nat) (Z1 : Zt), i + m = 3 → MS Z1 b (updP (updP P 24 (fnA p R)) 25 (fun j => if j < i then fnB p R j else 0)) → Oth Z Z1 (O4 b) → V mX12_takesFunction k n 53 [some (r_ b), some (i_ (q : Int)), some (i_ (i : Int))] [] x Z1 Q := by
    intro m
    induction m with
    | zero =>
      intro i Z1 hi m1 o1
      have m2 : MS Z1 b (updP (updP P 24 (fnA p R)) 25 (fnB p R)) := m1.eq (fun u j hu hj => by
        unfold updP
        split
        · show (if j < i then fnB p R j else 0) = _
          by_cases cj : j < i
          · rw [if_pos cj]
          · rw [if_neg cj, hB2, if_neg (by omega)]
        · rfl)
      have r0 : MF Z1 b p F := ⟨hMC.o4 o1, hCF, _, m2, by rw [updP_n _ _ (by decide), updP_n _ _ (by decide)]; exact p0⟩
      have r1 : MFn Z1 b p F (fnA p R) (fnB p R) := ⟨_, m2, by rw [updP_n _ _ (by decide), updP_n _ _ (by decide)]; exact p0, by rw [updP_n _ _ (by decide), updP_s], updP_s _ _ _⟩
      have t24 : (24 : Int).toNat = 24 := rfl
      have t25 : (25 : Int).toNat = 25 := rfl
      have g1 := pd_ge (fnA p R)
      have g2 := pd_lt (fnA p R)
      have g3 := pd_ge (fnB p R)
      have g4 := pd_lt (fnB p R)
      refine b_X12_takesFunction_53 o ⟨⟨by omega, by omega⟩, fun _ => ⟨_, m2, by decide, ?_, ?_⟩, fun c => by omega⟩
      · rw [t24, updP_n _ _ (by decide), updP_s]
        intro i hi; have := iA i; exact ⟨by omega, by omega⟩
      · rw [t24, updP_n _ _ (by decide), updP_s]
        refine ⟨⟨by omega, by omega⟩, fun c => h Z1 1 ⟨Or.inl ⟨rfl, Or.inl c⟩, r0, r1, o1⟩, fun c => ⟨_, m2, by decide, ?_, ?_⟩⟩
        · rw [t25, updP_s]
          intro i hi; have := iB i; exact ⟨by omega, by omega⟩
        · rw [t25, updP_s]
          exact ⟨⟨by omega, by omega⟩, fun c2 => h Z1 0 ⟨Or.inr ⟨rfl, by omega⟩, r0, r1, o1⟩, fun c2 => h Z1 1 ⟨Or.inl ⟨rfl, Or.inr c2⟩, r0, r1, o1⟩⟩
    | succ m ih =>
      intro i Z1 hi m1 o1
      have a1 : Z1 (b + 1) = Z (b + 1) := o1 _ (by show ¬ (b + 1 = b + 4); omega)
      have b1 : Z1 b 11 = p := by rw [o1 b (by show ¬ (b = b + 4); omega)]; exact b11
      have eR : Z1 (b + 1) ((plcO (2 : Int) (q : Int) + 5) + (i : Int)).toNat = R (5 + i) := by
        rw [a1, show ((plcO (2 : Int) (q : Int) + 5) + (i : Int)).toNat = 704 + 8 * q + (5 + i) from by rw [epl]; omega]; exact hg (5 + i) (by omega)
      have hr := hfr (5 + i) (by omega)
      refine b_X12_takesFunction_53 o ?_
      rw [eR, b1]
      refine ⟨⟨by omega, by omega⟩, fun c => by omega, fun _ => ⟨⟨by decide, by decide⟩, by rw [epl]; omega, by rw [epl]; omega, ⟨by omega, by omega⟩, by omega, by omega, by omega, by omega, fun Z2 e2 => ?_⟩⟩
      rw [show (600 : Int) + (i : Int) = 24 * 25 + (i : Int) from by omega] at e2
      have g2 := m1.put (u := 25) (i := (i : Int)) (by decide) (by omega) e2
      refine ih (i + 1) Z2 (by omega) (g2.1.eq (fun u j hu hj => ?_)) (o1.tr g2.2)
      rw [Int.toNat_natCast]
      unfold putP
      have t25 : (25 : Int).toNat = 25 := rfl
      rw [t25, updP_2, updP_s]
      unfold updP
      by_cases cu : u = 25
      · rw [if_pos cu, if_pos cu]
        show (if j = i then R (5 + i) % p else (if j < i then fnB p R j else 0)) = (if j < i + 1 then fnB p R j else 0)
        by_cases cj : j = i
        · rw [if_pos cj, if_pos (by omega), cj, hB2, if_pos (by omega)]
        · rw [if_neg cj]
          by_cases cl : j < i
          · rw [if_pos cl, if_pos (by omega)]
          · rw [if_neg cl, if_neg (by omega)]
      · rw [if_neg cu, if_neg cu]
  have lpA : ∀ (m i : Nat) (Z1 : Zt), i + m = 5 → MS Z1 b (updP (updP P 24 (fun j => if j < i then fnA p R j else 0)) 25 pzero) → Oth Z Z1 (O4 b) → V mX12_takesFunction k n 14 [some (r_ b), some (i_ (q : Int)), some (i_ (i : Int))] [] x Z1 Q := by
    intro m
    induction m with
    | zero =>
      intro i Z1 hi m1 o1
      refine b_X12_takesFunction_14 o ⟨⟨by omega, by omega⟩, fun _ => fin 3 0 Z1 rfl (m1.eq (fun u j hu hj => ?_)) o1, fun c => by omega⟩
      unfold updP
      split
      · rfl
      · split
        · show (if j < i then fnA p R j else 0) = _
          by_cases cj : j < i
          · rw [if_pos cj]
          · rw [if_neg cj, hA4, if_neg (by omega)]
        · rfl
    | succ m ih =>
      intro i Z1 hi m1 o1
      have a1 : Z1 (b + 1) = Z (b + 1) := o1 _ (by show ¬ (b + 1 = b + 4); omega)
      have b1 : Z1 b 11 = p := by rw [o1 b (by show ¬ (b = b + 4); omega)]; exact b11
      have eR : Z1 (b + 1) ((plcO (2 : Int) (q : Int)) + (i : Int)).toNat = R i := by
        rw [a1, show ((plcO (2 : Int) (q : Int)) + (i : Int)).toNat = 704 + 8 * q + i from by rw [epl]; omega]; exact hg i (by omega)
      have hr := hfr i (by omega)
      refine b_X12_takesFunction_14 o ?_
      rw [eR, b1]
      refine ⟨⟨by omega, by omega⟩, fun c => by omega, fun _ => ⟨⟨by decide, by decide⟩, by rw [epl]; omega, by rw [epl]; omega, ⟨by omega, by omega⟩, by omega, by omega, by omega, by omega, fun Z2 e2 => ?_⟩⟩
      rw [show (576 : Int) + (i : Int) = 24 * 24 + (i : Int) from by omega] at e2
      have g2 := m1.put (u := 24) (i := (i : Int)) (by decide) (by omega) e2
      refine ih (i + 1) Z2 (by omega) (g2.1.eq (fun u j hu hj => ?_)) (o1.tr g2.2)
      rw [Int.toNat_natCast]
      unfold putP
      have t24 : (24 : Int).toNat = 24 := rfl
      rw [t24, updP_n _ _ (show (24 : Nat) ≠ 25 by decide), updP_s]
      by_cases cu : u = 24
      · subst cu
        show (if j = i then R i % p else (if j < i then fnA p R j else 0)) = (if j < i + 1 then fnA p R j else 0)
        by_cases cj : j = i
        · rw [if_pos cj, if_pos (by omega), cj, hA4, if_pos (by omega)]
        · rw [if_neg cj]
          by_cases cl : j < i
          · rw [if_pos cl, if_pos (by omega)]
          · rw [if_neg cl, if_neg (by omega)]
      · by_cases c25 : u = 25
        · subst c25; rfl
        · rw [updP_n _ _ cu, updP_n _ _ c25, updP_n _ _ cu, updP_n _ _ c25, updP_n _ _ cu]
  refine b_X12_takesFunction_0 o ⟨P, mP, by decide, fun Z1 hz1 => ⟨_, hz1.1, by decide, fun Z2 hz2 => lpA 5 0 Z2 rfl (hz2.1.eq (fun u j hu hj => ?_)) (hz1.2.tr hz2.2)⟩⟩
  have t24 : (24 : Int).toNat = 24 := rfl
  have t25 : (25 : Int).toNat = 25 := rfl
  rw [t24, t25]
  unfold updP
  split
  · rfl
  · split
    · rfl
    · rfl
theorem dX12_oftenOf_0 : decode cX12_oftenOf 0 = .ok (.aload_n 0, 1) := by decide +kernel
theorem dX12_oftenOf_1 : decode cX12_oftenOf 1 = .ok (.iload_n 1, 1) := by decide +kernel
theorem dX12_oftenOf_2 : decode cX12_oftenOf 2 = .ok (.bipush 22, 2) := by decide +kernel
theorem dX12_oftenOf_4 : decode cX12_oftenOf 4 = .ok (.invokevirtual 199, 3) := by decide +kernel
theorem dX12_oftenOf_7 : decode cX12_oftenOf 7 = .ok (.aload_n 0, 1) := by decide +kernel
theorem dX12_oftenOf_8 : decode cX12_oftenOf 8 = .ok (.iload_n 1, 1) := by decide +kernel
theorem dX12_oftenOf_9 : decode cX12_oftenOf 9 = .ok (.invokevirtual 192, 3) := by decide +kernel
theorem dX12_oftenOf_12 : decode cX12_oftenOf 12 = .ok (.ifCond .ge 8, 3) := by decide +kernel
theorem dX12_oftenOf_15 : decode cX12_oftenOf 15 = .ok (.bipush 90, 2) := by decide +kernel
theorem dX12_oftenOf_17 : decode cX12_oftenOf 17 = .ok (.goto 12, 3) := by decide +kernel
theorem dX12_oftenOf_20 : decode cX12_oftenOf 20 = .ok (.aload_n 0, 1) := by decide +kernel
theorem dX12_oftenOf_21 : decode cX12_oftenOf 21 = .ok (.bipush 22, 2) := by decide +kernel
theorem dX12_oftenOf_23 : decode cX12_oftenOf 23 = .ok (.iload_n 2, 1) := by decide +kernel
theorem dX12_oftenOf_24 : decode cX12_oftenOf 24 = .ok (.bipush 90, 2) := by decide +kernel
theorem dX12_oftenOf_26 : decode cX12_oftenOf 26 = .ok (.invokevirtual 276, 3) := by decide +kernel
theorem dX12_oftenOf_29 : decode cX12_oftenOf 29 = .ok (.ireturn, 1) := by decide +kernel
set_option maxRecDepth 20000 in
theorem b_X12_oftenOf_0 {k n : Nat} {x : Wx} {Z : Zt} {Q : Option Value → Wx → Zt → Prop} {a0 : Nat} {v1 : Int} {v2 : Int} (o_a0 : Is12 x a0)
    (h : ∃ g1 : Nat → Nat → Int, (MS Z a0 g1 ∧ (0 ≤ (22 : Int) ∧ (22 : Int) < 27) ∧ (0 ≤ v1 ∧ v1 < 27) ∧ (∀ (Z'1 : Zt), (MS Z'1 a0 (updP g1 (22 : Int).toNat (g1 v1.toNat)) ∧ Oth Z Z'1 (O4 a0)) → (∃ g2 : Nat → Nat → Int, (MS Z'1 a0 g2 ∧ (0 ≤ v1 ∧ v1 < 27) ∧ (∀ i : Nat, i < 24 → Rg (g2 v1.toNat i)) ∧ (Rg (pd (g2 v1.toNat)) ∧ (((0 ≤ pd (g2 v1.toNat)) → (∃ g3 : Nat → Nat → Int, (∃ g4 : Int, ((IsP g4 ∧ Z'1 a0 11 = g4) ∧ MS Z'1 a0 g3 ∧ (((0 : Int) ≤ (22 : Int) ∧ (22 : Int) < 27) ∧ (22 : Int) ≠ 16 ∧ (22 : Int) ≠ 17 ∧ (22 : Int) ≠ 23) ∧ (0 ≤ v2 ∧ v2 < g4) ∧ ((0 : Int) ≤ (90 : Int) ∧ (90 : Int) ≤ 90) ∧ (InP g4 (g3 (22 : Int).toNat) ∧ Fin (g3 (22 : Int).toNat)) ∧ (∀ (Z'2 : Zt) (P'1 : Nat → Nat → Int), (MS Z'2 a0 P'1 ∧ Oth Z'1 Z'2 (O4 a0) ∧ P'1 (22 : Int).toNat = (ofQ g4 v2 (90 : Int).toNat (g3 (22 : Int).toNat)).2 ∧ (∀ q : Nat, q ≠ (22 : Int).toNat → q ≠ 16 → q ≠ 17 → q ≠ 23 → P'1 q = g3 q)) → (Q (some (i_ ((ofQ g4 v2 (90 : Int).toNat (g3 (22 : Int).toNat)).1 : Int))) x Z'2)))))) ∧ ((pd (g2 v1.toNat) < 0) → (Q (some (i_ 90)) x Z'1))))))))) :
    V mX12_oftenOf k n 0 [some (r_ a0), some (i_ v1), some (i_ v2)] [] x Z Q :=
  V_aload_n dX12_oftenOf_0 rfl (V_iload_n dX12_oftenOf_1 rfl (V_bipush dX12_oftenOf_2 rfl (Exists.elim h (fun g1 w1 => V_callV (k' := 0) (n' := 0) (t := 12) (q := (RX12, TX12, 46)) [i_ v1, i_ 22] [] okX12_copy o_a0.1 rfl rfl lm_12_199 liX12_copy lqX12_copy (Nat.le_of_ble_eq_true rfl) (Nat.le_of_ble_eq_true rfl) (Nat.le_of_ble_eq_true rfl) (cat_of rfl) (Nat.le_of_ble_eq_true rfl) (Nat.zero_le _) (Nat.zero_le _) rfl dX12_oftenOf_4 (sp_X12_copy o_a0 w1.1 w1.2.1 w1.2.2.1 (fun Z'1 p1 => V_aload_n dX12_oftenOf_7 rfl (V_iload_n dX12_oftenOf_8 rfl (Exists.elim (w1.2.2.2 Z'1 p1) (fun g2 w2 => V_callV (k' := 0) (n' := 0) (t := 12) (q := (RX12, TX12, 46)) [i_ v1] [] okX12_deg o_a0.1 rfl rfl lm_12_192 liX12_deg lqX12_deg (Nat.le_of_ble_eq_true rfl) (Nat.le_of_ble_eq_true rfl) (Nat.le_of_ble_eq_true rfl) (cat_of rfl) (Nat.le_of_ble_eq_true rfl) (Nat.zero_le _) (Nat.zero_le _) rfl dX12_oftenOf_9 (sp_X12_deg o_a0 w2.1 w2.2.1 w2.2.2.1 (V_if_ge (tgt := 20) dX12_oftenOf_12 rfl w2.2.2.2.1 (fun c1 => V_aload_n dX12_oftenOf_20 rfl (V_bipush dX12_oftenOf_21 rfl (V_iload_n dX12_oftenOf_23 rfl (V_bipush dX12_oftenOf_24 rfl (Exists.elim (w2.2.2.2.2.1 c1) (fun g3 w3 => Exists.elim w3 (fun g4 w4 => V_callV (k' := 0) (n' := 0) (t := 12) (q := (RX12, TX12, 46)) [i_ 22, i_ v2, i_ 90] [] okX12_often o_a0.1 rfl rfl lm_12_276 liX12_often lqX12_often (Nat.le_of_ble_eq_true rfl) (Nat.le_of_ble_eq_true rfl) (Nat.le_of_ble_eq_true rfl) (cat_of rfl) (Nat.le_of_ble_eq_true rfl) (Nat.zero_le _) (Nat.zero_le _) rfl dX12_oftenOf_26 (sp_X12_often o_a0 w4.1 w4.2.1 w4.2.2.1 w4.2.2.2.1 w4.2.2.2.2.1 w4.2.2.2.2.2.1 (fun Z'2 P'1 p2 => V_iret (ty := .int) dX12_oftenOf_29 rfl rfl (w4.2.2.2.2.2.2 Z'2 P'1 p2)))))))))) (fun c1 => V_bipush dX12_oftenOf_15 rfl (V_goto (tgt := 29) dX12_oftenOf_17 rfl (V_iret (ty := .int) dX12_oftenOf_29 rfl rfl (w2.2.2.2.2.2 c1)))))))))))))))
def mOo (p X : Int) (f : Nat → Int) : Int := if pd f < 0 then 90 else (ofQ p X 90 f).1
theorem mOo_rg (p X : Int) (f : Nat → Int) : 0 ≤ mOo p X f ∧ mOo p X f ≤ 90 := by
  unfold mOo
  split
  · decide
  · have := ofQ_le p X 90 f
    omega
theorem sp_X12_oftenOf {k n : Nat} {x : Wx} {Z : Zt} {Q : Option Value → Wx → Zt → Prop} {b : Nat} {u X : Int} (o : Is12 x b) {P : Nat → Nat → Int} {p : Int} (hp : IsP p ∧ Z b 11 = p) (hP : MS Z b P) (hu : (0 ≤ u ∧ u < 27) ∧ u ≠ 22) (hX : 0 ≤ X ∧ X < p) (hf : InP p (P u.toNat) ∧ Fin (P u.toNat)) (h : ∀ (Z' : Zt) (P' : Nat → Nat → Int), (MS Z' b P' ∧ Oth Z Z' (O4 b) ∧ (∀ q : Nat, q ≠ 22 → q ≠ 16 → q ≠ 17 → q ≠ 23 → P' q = P q)) → Q (some (i_ (mOo p X (P u.toNat)))) x Z') : V mX12_oftenOf k n 0 [some (r_ b), some (i_ u), some (i_ X)] [] x Z Q := by
  obtain ⟨hp, hb⟩ := hp
  have hpr := hp.rg
  have t22 : (22 : Int).toNat = 22 := rfl
  refine b_X12_oftenOf_0 o ⟨P, hP, by decide, hu.1, fun Z1 hz1 => ?_⟩
  rw [t22] at hz1
  have b1 : Z1 b 11 = p := by rw [hz1.2 b (by show ¬ (b = b + 4); omega)]; exact hb
  have nu : u.toNat ≠ 22 := by omega
  have g1 := pd_ge (P u.toNat)
  have g2 := pd_lt (P u.toNat)
  refine ⟨_, hz1.1, hu.1, ?_, ?_⟩
  · rw [updP_n _ _ nu]
    intro i hi; have := hf.1 i; exact ⟨by omega, by omega⟩
  · rw [updP_n _ _ nu]
    unfold mOo at h
    refine ⟨⟨by omega, by omega⟩, fun c => ⟨_, p, ⟨hp, b1⟩, hz1.1, by decide, hX, by decide, ?_, ?_⟩, fun c => ?_⟩
    · rw [t22, updP_s]; exact hf
    · rw [t22, updP_s]
      intro Z2 P2 hz2
      rw [if_neg (by omega)] at h
      exact h Z2 P2 ⟨hz2.1, hz1.2.tr hz2.2.1, fun q q1 q2 q3 q4 => by rw [hz2.2.2.2 q q1 q2 q3 q4, updP_n _ _ q1]⟩
    · rw [if_pos c] at h
      exact h Z1 _ ⟨hz1.1, hz1.2, fun q q1 _ _ _ => updP_n _ _ q1⟩
theorem dX12_orderAt_0 : decode cX12_orderAt 0 = .ok (.aload_n 0, 1) := by decide +kernel
theorem dX12_orderAt_1 : decode cX12_orderAt 1 = .ok (.bipush 24, 2) := by decide +kernel
theorem dX12_orderAt_3 : decode cX12_orderAt 3 = .ok (.invokevirtual 192, 3) := by decide +kernel
theorem dX12_orderAt_6 : decode cX12_orderAt 6 = .ok (.istore_n 2, 1) := by decide +kernel
theorem dX12_orderAt_7 : decode cX12_orderAt 7 = .ok (.aload_n 0, 1) := by decide +kernel
theorem dX12_orderAt_8 : decode cX12_orderAt 8 = .ok (.bipush 25, 2) := by decide +kernel
theorem dX12_orderAt_10 : decode cX12_orderAt 10 = .ok (.invokevirtual 192, 3) := by decide +kernel
theorem dX12_orderAt_13 : decode cX12_orderAt 13 = .ok (.istore_n 3, 1) := by decide +kernel
theorem dX12_orderAt_14 : decode cX12_orderAt 14 = .ok (.iload_n 1, 1) := by decide +kernel
theorem dX12_orderAt_15 : decode cX12_orderAt 15 = .ok (.aload_n 0, 1) := by decide +kernel
theorem dX12_orderAt_16 : decode cX12_orderAt 16 = .ok (.getfield 227, 3) := by decide +kernel
theorem dX12_orderAt_19 : decode cX12_orderAt 19 = .ok (.iconst 1, 1) := by decide +kernel
theorem dX12_orderAt_20 : decode cX12_orderAt 20 = .ok (.isub, 1) := by decide +kernel
theorem dX12_orderAt_21 : decode cX12_orderAt 21 = .ok (.if_icmp .ne 48, 3) := by decide +kernel
theorem dX12_orderAt_24 : decode cX12_orderAt 24 = .ok (.iload_n 3, 1) := by decide +kernel
theorem dX12_orderAt_25 : decode cX12_orderAt 25 = .ok (.ifCond .ge 7, 3) := by decide +kernel
theorem dX12_orderAt_28 : decode cX12_orderAt 28 = .ok (.iconst 0, 1) := by decide +kernel
theorem dX12_orderAt_29 : decode cX12_orderAt 29 = .ok (.goto 15, 3) := by decide +kernel
theorem dX12_orderAt_32 : decode cX12_orderAt 32 = .ok (.iconst 2, 1) := by decide +kernel
theorem dX12_orderAt_33 : decode cX12_orderAt 33 = .ok (.iload_n 3, 1) := by decide +kernel
theorem dX12_orderAt_34 : decode cX12_orderAt 34 = .ok (.imul, 1) := by decide +kernel
theorem dX12_orderAt_35 : decode cX12_orderAt 35 = .ok (.iconst 2, 1) := by decide +kernel
theorem dX12_orderAt_36 : decode cX12_orderAt 36 = .ok (.aload_n 0, 1) := by decide +kernel
theorem dX12_orderAt_37 : decode cX12_orderAt 37 = .ok (.getfield 221, 3) := by decide +kernel
theorem dX12_orderAt_40 : decode cX12_orderAt 40 = .ok (.imul, 1) := by decide +kernel
theorem dX12_orderAt_41 : decode cX12_orderAt 41 = .ok (.iadd, 1) := by decide +kernel
theorem dX12_orderAt_42 : decode cX12_orderAt 42 = .ok (.iconst 1, 1) := by decide +kernel
theorem dX12_orderAt_43 : decode cX12_orderAt 43 = .ok (.iadd, 1) := by decide +kernel
theorem dX12_orderAt_44 : decode cX12_orderAt 44 = .ok (.istore 4, 2) := by decide +kernel
theorem dX12_orderAt_46 : decode cX12_orderAt 46 = .ok (.iload_n 2, 1) := by decide +kernel
theorem dX12_orderAt_47 : decode cX12_orderAt 47 = .ok (.ifCond .lt 11, 3) := by decide +kernel
theorem dX12_orderAt_50 : decode cX12_orderAt 50 = .ok (.iconst 2, 1) := by decide +kernel
theorem dX12_orderAt_51 : decode cX12_orderAt 51 = .ok (.iload_n 2, 1) := by decide +kernel
theorem dX12_orderAt_52 : decode cX12_orderAt 52 = .ok (.imul, 1) := by decide +kernel
theorem dX12_orderAt_53 : decode cX12_orderAt 53 = .ok (.iload 4, 2) := by decide +kernel
theorem dX12_orderAt_55 : decode cX12_orderAt 55 = .ok (.if_icmp .ge 9, 3) := by decide +kernel
theorem dX12_orderAt_58 : decode cX12_orderAt 58 = .ok (.iload 4, 2) := by decide +kernel
theorem dX12_orderAt_60 : decode cX12_orderAt 60 = .ok (.ineg, 1) := by decide +kernel
theorem dX12_orderAt_61 : decode cX12_orderAt 61 = .ok (.goto 7, 3) := by decide +kernel
theorem dX12_orderAt_64 : decode cX12_orderAt 64 = .ok (.bipush (-2), 2) := by decide +kernel
theorem dX12_orderAt_66 : decode cX12_orderAt 66 = .ok (.iload_n 2, 1) := by decide +kernel
theorem dX12_orderAt_67 : decode cX12_orderAt 67 = .ok (.imul, 1) := by decide +kernel
theorem dX12_orderAt_68 : decode cX12_orderAt 68 = .ok (.ireturn, 1) := by decide +kernel
theorem dX12_orderAt_69 : decode cX12_orderAt 69 = .ok (.aload_n 0, 1) := by decide +kernel
theorem dX12_orderAt_70 : decode cX12_orderAt 70 = .ok (.getfield 23, 3) := by decide +kernel
theorem dX12_orderAt_73 : decode cX12_orderAt 73 = .ok (.iload_n 1, 1) := by decide +kernel
theorem dX12_orderAt_74 : decode cX12_orderAt 74 = .ok (.iaload, 1) := by decide +kernel
theorem dX12_orderAt_75 : decode cX12_orderAt 75 = .ok (.istore 4, 2) := by decide +kernel
theorem dX12_orderAt_77 : decode cX12_orderAt 77 = .ok (.aload_n 0, 1) := by decide +kernel
theorem dX12_orderAt_78 : decode cX12_orderAt 78 = .ok (.bipush 24, 2) := by decide +kernel
theorem dX12_orderAt_80 : decode cX12_orderAt 80 = .ok (.iload 4, 2) := by decide +kernel
theorem dX12_orderAt_82 : decode cX12_orderAt 82 = .ok (.invokevirtual 279, 3) := by decide +kernel
theorem dX12_orderAt_85 : decode cX12_orderAt 85 = .ok (.istore 5, 2) := by decide +kernel
theorem dX12_orderAt_87 : decode cX12_orderAt 87 = .ok (.aload_n 0, 1) := by decide +kernel
theorem dX12_orderAt_88 : decode cX12_orderAt 88 = .ok (.bipush 25, 2) := by decide +kernel
theorem dX12_orderAt_90 : decode cX12_orderAt 90 = .ok (.iload 4, 2) := by decide +kernel
theorem dX12_orderAt_92 : decode cX12_orderAt 92 = .ok (.invokevirtual 279, 3) := by decide +kernel
theorem dX12_orderAt_95 : decode cX12_orderAt 95 = .ok (.istore 6, 2) := by decide +kernel
theorem dX12_orderAt_97 : decode cX12_orderAt 97 = .ok (.aload_n 0, 1) := by decide +kernel
theorem dX12_orderAt_98 : decode cX12_orderAt 98 = .ok (.iload_n 1, 1) := by decide +kernel
theorem dX12_orderAt_99 : decode cX12_orderAt 99 = .ok (.invokevirtual 267, 3) := by decide +kernel
theorem dX12_orderAt_102 : decode cX12_orderAt 102 = .ok (.ifCond .eq 30, 3) := by decide +kernel
theorem dX12_orderAt_105 : decode cX12_orderAt 105 = .ok (.iconst 2, 1) := by decide +kernel
theorem dX12_orderAt_106 : decode cX12_orderAt 106 = .ok (.iload 5, 2) := by decide +kernel
theorem dX12_orderAt_108 : decode cX12_orderAt 108 = .ok (.imul, 1) := by decide +kernel
theorem dX12_orderAt_109 : decode cX12_orderAt 109 = .ok (.iconst 2, 1) := by decide +kernel
theorem dX12_orderAt_110 : decode cX12_orderAt 110 = .ok (.iload 6, 2) := by decide +kernel
theorem dX12_orderAt_112 : decode cX12_orderAt 112 = .ok (.imul, 1) := by decide +kernel
theorem dX12_orderAt_113 : decode cX12_orderAt 113 = .ok (.iconst 1, 1) := by decide +kernel
theorem dX12_orderAt_114 : decode cX12_orderAt 114 = .ok (.iadd, 1) := by decide +kernel
theorem dX12_orderAt_115 : decode cX12_orderAt 115 = .ok (.if_icmp .ge 10, 3) := by decide +kernel
theorem dX12_orderAt_118 : decode cX12_orderAt 118 = .ok (.iconst 2, 1) := by decide +kernel
theorem dX12_orderAt_119 : decode cX12_orderAt 119 = .ok (.iload 5, 2) := by decide +kernel
theorem dX12_orderAt_121 : decode cX12_orderAt 121 = .ok (.imul, 1) := by decide +kernel
theorem dX12_orderAt_122 : decode cX12_orderAt 122 = .ok (.goto 9, 3) := by decide +kernel
theorem dX12_orderAt_125 : decode cX12_orderAt 125 = .ok (.iconst 2, 1) := by decide +kernel
theorem dX12_orderAt_126 : decode cX12_orderAt 126 = .ok (.iload 6, 2) := by decide +kernel
theorem dX12_orderAt_128 : decode cX12_orderAt 128 = .ok (.imul, 1) := by decide +kernel
theorem dX12_orderAt_129 : decode cX12_orderAt 129 = .ok (.iconst 1, 1) := by decide +kernel
theorem dX12_orderAt_130 : decode cX12_orderAt 130 = .ok (.iadd, 1) := by decide +kernel
theorem dX12_orderAt_131 : decode cX12_orderAt 131 = .ok (.ireturn, 1) := by decide +kernel
theorem dX12_orderAt_132 : decode cX12_orderAt 132 = .ok (.iload 5, 2) := by decide +kernel
theorem dX12_orderAt_134 : decode cX12_orderAt 134 = .ok (.iload 6, 2) := by decide +kernel
theorem dX12_orderAt_136 : decode cX12_orderAt 136 = .ok (.if_icmp .ge 8, 3) := by decide +kernel
theorem dX12_orderAt_139 : decode cX12_orderAt 139 = .ok (.iload 5, 2) := by decide +kernel
theorem dX12_orderAt_141 : decode cX12_orderAt 141 = .ok (.goto 5, 3) := by decide +kernel
theorem dX12_orderAt_144 : decode cX12_orderAt 144 = .ok (.iload 6, 2) := by decide +kernel
theorem dX12_orderAt_146 : decode cX12_orderAt 146 = .ok (.istore 7, 2) := by decide +kernel
theorem dX12_orderAt_148 : decode cX12_orderAt 148 = .ok (.aload_n 0, 1) := by decide +kernel
theorem dX12_orderAt_149 : decode cX12_orderAt 149 = .ok (.invokevirtual 282, 3) := by decide +kernel
theorem dX12_orderAt_152 : decode cX12_orderAt 152 = .ok (.aload_n 0, 1) := by decide +kernel
theorem dX12_orderAt_153 : decode cX12_orderAt 153 = .ok (.bipush 26, 2) := by decide +kernel
theorem dX12_orderAt_155 : decode cX12_orderAt 155 = .ok (.iload 4, 2) := by decide +kernel
theorem dX12_orderAt_157 : decode cX12_orderAt 157 = .ok (.invokevirtual 279, 3) := by decide +kernel
theorem dX12_orderAt_160 : decode cX12_orderAt 160 = .ok (.istore 8, 2) := by decide +kernel
theorem dX12_orderAt_162 : decode cX12_orderAt 162 = .ok (.aload_n 0, 1) := by decide +kernel
theorem dX12_orderAt_163 : decode cX12_orderAt 163 = .ok (.bipush 24, 2) := by decide +kernel
theorem dX12_orderAt_165 : decode cX12_orderAt 165 = .ok (.iload 4, 2) := by decide +kernel
theorem dX12_orderAt_167 : decode cX12_orderAt 167 = .ok (.iload 7, 2) := by decide +kernel
theorem dX12_orderAt_169 : decode cX12_orderAt 169 = .ok (.invokevirtual 276, 3) := by decide +kernel
theorem dX12_orderAt_172 : decode cX12_orderAt 172 = .ok (.aload_n 0, 1) := by decide +kernel
theorem dX12_orderAt_173 : decode cX12_orderAt 173 = .ok (.bipush 25, 2) := by decide +kernel
theorem dX12_orderAt_175 : decode cX12_orderAt 175 = .ok (.iload 4, 2) := by decide +kernel
theorem dX12_orderAt_177 : decode cX12_orderAt 177 = .ok (.iload 7, 2) := by decide +kernel
theorem dX12_orderAt_179 : decode cX12_orderAt 179 = .ok (.invokevirtual 276, 3) := by decide +kernel
theorem dX12_orderAt_182 : decode cX12_orderAt 182 = .ok (.iadd, 1) := by decide +kernel
theorem dX12_orderAt_183 : decode cX12_orderAt 183 = .ok (.istore 9, 2) := by decide +kernel
theorem dX12_orderAt_185 : decode cX12_orderAt 185 = .ok (.aload_n 0, 1) := by decide +kernel
theorem dX12_orderAt_186 : decode cX12_orderAt 186 = .ok (.aload_n 0, 1) := by decide +kernel
theorem dX12_orderAt_187 : decode cX12_orderAt 187 = .ok (.bipush 24, 2) := by decide +kernel
theorem dX12_orderAt_189 : decode cX12_orderAt 189 = .ok (.iload 4, 2) := by decide +kernel
theorem dX12_orderAt_191 : decode cX12_orderAt 191 = .ok (.invokevirtual 230, 3) := by decide +kernel
theorem dX12_orderAt_194 : decode cX12_orderAt 194 = .ok (.aload_n 0, 1) := by decide +kernel
theorem dX12_orderAt_195 : decode cX12_orderAt 195 = .ok (.bipush 25, 2) := by decide +kernel
theorem dX12_orderAt_197 : decode cX12_orderAt 197 = .ok (.iload 4, 2) := by decide +kernel
theorem dX12_orderAt_199 : decode cX12_orderAt 199 = .ok (.invokevirtual 230, 3) := by decide +kernel
theorem dX12_orderAt_202 : decode cX12_orderAt 202 = .ok (.aload_n 0, 1) := by decide +kernel
theorem dX12_orderAt_203 : decode cX12_orderAt 203 = .ok (.getfield 26, 3) := by decide +kernel
theorem dX12_orderAt_206 : decode cX12_orderAt 206 = .ok (.iload_n 1, 1) := by decide +kernel
theorem dX12_orderAt_207 : decode cX12_orderAt 207 = .ok (.iaload, 1) := by decide +kernel
theorem dX12_orderAt_208 : decode cX12_orderAt 208 = .ok (.imul, 1) := by decide +kernel
theorem dX12_orderAt_209 : decode cX12_orderAt 209 = .ok (.iadd, 1) := by decide +kernel
theorem dX12_orderAt_210 : decode cX12_orderAt 210 = .ok (.invokevirtual 182, 3) := by decide +kernel
theorem dX12_orderAt_213 : decode cX12_orderAt 213 = .ok (.ifCond .ne 7, 3) := by decide +kernel
theorem dX12_orderAt_216 : decode cX12_orderAt 216 = .ok (.iconst 1, 1) := by decide +kernel
theorem dX12_orderAt_217 : decode cX12_orderAt 217 = .ok (.goto 4, 3) := by decide +kernel
theorem dX12_orderAt_220 : decode cX12_orderAt 220 = .ok (.iconst 0, 1) := by decide +kernel
theorem dX12_orderAt_221 : decode cX12_orderAt 221 = .ok (.istore 10, 2) := by decide +kernel
theorem dX12_orderAt_223 : decode cX12_orderAt 223 = .ok (.iload 10, 2) := by decide +kernel
theorem dX12_orderAt_225 : decode cX12_orderAt 225 = .ok (.ifCond .eq 16, 3) := by decide +kernel
theorem dX12_orderAt_228 : decode cX12_orderAt 228 = .ok (.iload 8, 2) := by decide +kernel
theorem dX12_orderAt_230 : decode cX12_orderAt 230 = .ok (.iconst 2, 1) := by decide +kernel
theorem dX12_orderAt_231 : decode cX12_orderAt 231 = .ok (.iload 7, 2) := by decide +kernel
theorem dX12_orderAt_233 : decode cX12_orderAt 233 = .ok (.imul, 1) := by decide +kernel
theorem dX12_orderAt_234 : decode cX12_orderAt 234 = .ok (.isub, 1) := by decide +kernel
theorem dX12_orderAt_235 : decode cX12_orderAt 235 = .ok (.iload 7, 2) := by decide +kernel
theorem dX12_orderAt_237 : decode cX12_orderAt 237 = .ok (.iadd, 1) := by decide +kernel
theorem dX12_orderAt_238 : decode cX12_orderAt 238 = .ok (.goto 5, 3) := by decide +kernel
theorem dX12_orderAt_241 : decode cX12_orderAt 241 = .ok (.iload 7, 2) := by decide +kernel
theorem dX12_orderAt_243 : decode cX12_orderAt 243 = .ok (.ireturn, 1) := by decide +kernel
set_option maxRecDepth 20000 in
theorem b_X12_orderAt_0 {k n : Nat} {x : Wx} {Z : Zt} {Q : Option Value → Wx → Zt → Prop} {a0 : Nat} {v1 : Int} (o_a0 : Is12 x a0)
    (h : ∃ g1 : Nat → Nat → Int, (MS Z a0 g1 ∧ (0 ≤ (24 : Int) ∧ (24 : Int) < 27) ∧ (∀ i : Nat, i < 24 → Rg (g1 (24 : Int).toNat i)) ∧ (∃ g2 : Nat → Nat → Int, (MS Z a0 g2 ∧ (0 ≤ (25 : Int) ∧ (25 : Int) < 27) ∧ (∀ i : Nat, i < 24 → Rg (g2 (25 : Int).toNat i)) ∧ (Rg v1 ∧ Rg ((Z a0 15) - 1) ∧ (((v1 ≠ (Z a0 15) - 1) → (0 ≤ v1 ∧ v1 < 32 ∧ (∃ g3 : Nat → Nat → Int, (∃ g4 : Int, ((IsP g4 ∧ Z a0 11 = g4) ∧ MS Z a0 g3 ∧ (((0 : Int) ≤ (24 : Int) ∧ (24 : Int) < 27) ∧ (24 : Int) ≠ 22) ∧ (0 ≤ (Z (a0 + 5) v1.toNat) ∧ (Z (a0 + 5) v1.toNat) < g4) ∧ (InP g4 (g3 (24 : Int).toNat) ∧ Fin (g3 (24 : Int).toNat)) ∧ (∀ (Z'1 : Zt) (P'1 : Nat → Nat → Int), (MS Z'1 a0 P'1 ∧ Oth Z Z'1 (O4 a0) ∧ (∀ q : Nat, q ≠ 22 → q ≠ 16 → q ≠ 17 → q ≠ 23 → P'1 q = g3 q)) → (∃ g5 : Nat → Nat → Int, (∃ g6 : Int, ((IsP g6 ∧ Z'1 a0 11 = g6) ∧ MS Z'1 a0 g5 ∧ (((0 : Int) ≤ (25 : Int) ∧ (25 : Int) < 27) ∧ (25 : Int) ≠ 22) ∧ (0 ≤ (Z (a0 + 5) v1.toNat) ∧ (Z (a0 + 5) v1.toNat) < g6) ∧ (InP g6 (g5 (25 : Int).toNat) ∧ Fin (g5 (25 : Int).toNat)) ∧ (∀ (Z'2 : Zt) (P'2 : Nat → Nat → Int), (MS Z'2 a0 P'2 ∧ Oth Z'1 Z'2 (O4 a0) ∧ (∀ q : Nat, q ≠ 22 → q ≠ 16 → q ≠ 17 → q ≠ 23 → P'2 q = g5 q)) → (∃ g7 : Int, (∃ g8 : Nat → Int, (IsP g7 ∧ MPt Z'2 a0 (pall g7 g8) ∧ (0 ≤ v1 ∧ v1 < (pall g7 g8).length) ∧ (Rg (bI (fxd (pall g7 g8) v1)) ∧ (((bI (fxd (pall g7 g8) v1) = 0) → (Rg (mOo g4 (Z (a0 + 5) v1.toNat) (g3 (24 : Int).toNat)) ∧ Rg (mOo g6 (Z (a0 + 5) v1.toNat) (g5 (25 : Int).toNat)) ∧ (((mOo g6 (Z (a0 + 5) v1.toNat) (g5 (25 : Int).toNat) ≤ mOo g4 (Z (a0 + 5) v1.toNat) (g3 (24 : Int).toNat)) → (V mX12_orderAt k n 146 [some (r_ a0), some (i_ v1), none, none, some (i_ (Z (a0 + 5) v1.toNat)), none, none, none, none, none, none] [i_ (mOo g6 (Z (a0 + 5) v1.toNat) (g5 (25 : Int).toNat))] x Z'2 Q)) ∧ ((mOo g4 (Z (a0 + 5) v1.toNat) (g3 (24 : Int).toNat) < mOo g6 (Z (a0 + 5) v1.toNat) (g5 (25 : Int).toNat)) → (V mX12_orderAt k n 146 [some (r_ a0), some (i_ v1), none, none, some (i_ (Z (a0 + 5) v1.toNat)), none, none, none, none, none, none] [i_ (mOo g4 (Z (a0 + 5) v1.toNat) (g3 (24 : Int).toNat))] x Z'2 Q))))) ∧ ((bI (fxd (pall g7 g8) v1) ≠ 0) → (Rg (2 * (mOo g4 (Z (a0 + 5) v1.toNat) (g3 (24 : Int).toNat))) ∧ Rg ((2 * (mOo g6 (Z (a0 + 5) v1.toNat) (g5 (25 : Int).toNat))) + 1) ∧ ((((2 * (mOo g6 (Z (a0 + 5) v1.toNat) (g5 (25 : Int).toNat))) + 1 ≤ 2 * (mOo g4 (Z (a0 + 5) v1.toNat) (g3 (24 : Int).toNat))) → (Q (some (i_ ((2 * (mOo g6 (Z (a0 + 5) v1.toNat) (g5 (25 : Int).toNat))) + 1))) x Z'2)) ∧ ((2 * (mOo g4 (Z (a0 + 5) v1.toNat) (g3 (24 : Int).toNat)) < (2 * (mOo g6 (Z (a0 + 5) v1.toNat) (g5 (25 : Int).toNat))) + 1) → (Q (some (i_ (2 * (mOo g4 (Z (a0 + 5) v1.toNat) (g3 (24 : Int).toNat))))) x Z'2)))))))))))))))))))) ∧ ((v1 = (Z a0 15) - 1) → (Rg (pd (g2 (25 : Int).toNat)) ∧ (((0 ≤ pd (g2 (25 : Int).toNat)) → (V mX12_orderAt k n 44 [none, none, some (i_ (pd (g1 (24 : Int).toNat))), none, none, none, none, none, none, none, none] [i_ (((2 * (pd (g2 (25 : Int).toNat))) + (2 * (Z a0 12))) + 1)] x Z Q)) ∧ ((pd (g2 (25 : Int).toNat) < 0) → (V mX12_orderAt k n 44 [none, none, some (i_ (pd (g1 (24 : Int).toNat))), none, none, none, none, none, none, none, none] [i_ 0] x Z Q))))))))))) :
    V mX12_orderAt k n 0 [some (r_ a0), some (i_ v1), none, none, none, none, none, none, none, none, none] [] x Z Q :=
  V_aload_n dX12_orderAt_0 rfl (V_bipush dX12_orderAt_1 rfl (Exists.elim h (fun g1 w1 => V_callV (k' := 0) (n' := 0) (t := 12) (q := (RX12, TX12, 46)) [i_ 24] [] okX12_deg o_a0.1 rfl rfl lm_12_192 liX12_deg lqX12_deg (Nat.le_of_ble_eq_true rfl) (Nat.le_of_ble_eq_true rfl) (Nat.le_of_ble_eq_true rfl) (cat_of rfl) (Nat.le_of_ble_eq_true rfl) (Nat.zero_le _) (Nat.zero_le _) rfl dX12_orderAt_3 (sp_X12_deg o_a0 w1.1 w1.2.1 w1.2.2.1 (V_istore_n (lv' := [some (r_ a0), some (i_ v1), some (i_ (pd (g1 (24 : Int).toNat))), none, none, none, none, none, none, none, none]) dX12_orderAt_6 (Nat.le_of_ble_eq_true rfl) rfl (V_aload_n dX12_orderAt_7 rfl (V_bipush dX12_orderAt_8 rfl (Exists.elim w1.2.2.2 (fun g2 w2 => V_callV (k' := 0) (n' := 0) (t := 12) (q := (RX12, TX12, 46)) [i_ 25] [] okX12_deg o_a0.1 rfl rfl lm_12_192 liX12_deg lqX12_deg (Nat.le_of_ble_eq_true rfl) (Nat.le_of_ble_eq_true rfl) (Nat.le_of_ble_eq_true rfl) (cat_of rfl) (Nat.le_of_ble_eq_true rfl) (Nat.zero_le _) (Nat.zero_le _) rfl dX12_orderAt_10 (sp_X12_deg o_a0 w2.1 w2.2.1 w2.2.2.1 (V_istore_n (lv' := [some (r_ a0), some (i_ v1), some (i_ (pd (g1 (24 : Int).toNat))), some (i_ (pd (g2 (25 : Int).toNat))), none, none, none, none, none, none, none]) dX12_orderAt_13 (Nat.le_of_ble_eq_true rfl) rfl (V_iload_n dX12_orderAt_14 rfl (V_aload_n dX12_orderAt_15 rfl (G_12_15 o_a0.1 lf_12_227 dX12_orderAt_16 (V_iconst dX12_orderAt_19 (V_isub dX12_orderAt_20 (V_icmp_ne (tgt := 69) dX12_orderAt_21 rfl w2.2.2.2.1 w2.2.2.2.2.1 (fun c1 => V_aload_n dX12_orderAt_69 rfl (G_12_13 o_a0.1 o_a0.qR13 lf_12_23 dX12_orderAt_70 (V_iload_n dX12_orderAt_73 rfl (V_iald (t := 100) o_a0.qK13 (by decide) rfl (w2.2.2.2.2.2.1 c1).1 (w2.2.2.2.2.2.1 c1).2.1 (Nat.le_of_ble_eq_true rfl) dX12_orderAt_74 (V_istore (lv' := [some (r_ a0), some (i_ v1), some (i_ (pd (g1 (24 : Int).toNat))), some (i_ (pd (g2 (25 : Int).toNat))), some (i_ (Z (a0 + 5) v1.toNat)), none, none, none, none, none, none]) dX12_orderAt_75 (Nat.le_of_ble_eq_true rfl) rfl (V_aload_n dX12_orderAt_77 rfl (V_bipush dX12_orderAt_78 rfl (V_iload dX12_orderAt_80 rfl (Exists.elim (w2.2.2.2.2.2.1 c1).2.2 (fun g3 w3 => Exists.elim w3 (fun g4 w4 => V_callV (k' := 0) (n' := 0) (t := 12) (q := (RX12, TX12, 46)) [i_ 24, i_ (Z (a0 + 5) v1.toNat)] [] okX12_oftenOf o_a0.1 rfl rfl lm_12_279 liX12_oftenOf lqX12_oftenOf (Nat.le_of_ble_eq_true rfl) (Nat.le_of_ble_eq_true rfl) (Nat.le_of_ble_eq_true rfl) (cat_of rfl) (Nat.le_of_ble_eq_true rfl) (Nat.zero_le _) (Nat.zero_le _) rfl dX12_orderAt_82 (sp_X12_oftenOf o_a0 w4.1 w4.2.1 w4.2.2.1 w4.2.2.2.1 w4.2.2.2.2.1 (fun Z'1 P'1 p1 => V_istore (lv' := [some (r_ a0), some (i_ v1), some (i_ (pd (g1 (24 : Int).toNat))), some (i_ (pd (g2 (25 : Int).toNat))), some (i_ (Z (a0 + 5) v1.toNat)), some (i_ (mOo g4 (Z (a0 + 5) v1.toNat) (g3 (24 : Int).toNat))), none, none, none, none, none]) dX12_orderAt_85 (Nat.le_of_ble_eq_true rfl) rfl (V_aload_n dX12_orderAt_87 rfl (V_bipush dX12_orderAt_88 rfl (V_iload dX12_orderAt_90 rfl (Exists.elim (w4.2.2.2.2.2 Z'1 P'1 p1) (fun g5 w5 => Exists.elim w5 (fun g6 w6 => V_callV (k' := 0) (n' := 0) (t := 12) (q := (RX12, TX12, 46)) [i_ 25, i_ (Z (a0 + 5) v1.toNat)] [] okX12_oftenOf o_a0.1 rfl rfl lm_12_279 liX12_oftenOf lqX12_oftenOf (Nat.le_of_ble_eq_true rfl) (Nat.le_of_ble_eq_true rfl) (Nat.le_of_ble_eq_true rfl) (cat_of rfl) (Nat.le_of_ble_eq_true rfl) (Nat.zero_le _) (Nat.zero_le _) rfl dX12_orderAt_92 (sp_X12_oftenOf o_a0 w6.1 w6.2.1 w6.2.2.1 w6.2.2.2.1 w6.2.2.2.2.1 (fun Z'2 P'2 p2 => V_istore (lv' := [some (r_ a0), some (i_ v1), some (i_ (pd (g1 (24 : Int).toNat))), some (i_ (pd (g2 (25 : Int).toNat))), some (i_ (Z (a0 + 5) v1.toNat)), some (i_ (mOo g4 (Z (a0 + 5) v1.toNat) (g3 (24 : Int).toNat))), some (i_ (mOo g6 (Z (a0 + 5) v1.toNat) (g5 (25 : Int).toNat))), none, none, none, none]) dX12_orderAt_95 (Nat.le_of_ble_eq_true rfl) rfl (V_aload_n dX12_orderAt_97 rfl (V_iload_n dX12_orderAt_98 rfl (Exists.elim (w6.2.2.2.2.2 Z'2 P'2 p2) (fun g7 w7 => Exists.elim w7 (fun g8 w8 => V_callV (k' := 0) (n' := 0) (t := 12) (q := (RX12, TX12, 46)) [i_ v1] [] okX12_isFixed o_a0.1 rfl rfl lm_12_267 liX12_isFixed lqX12_isFixed (Nat.le_of_ble_eq_true rfl) (Nat.le_of_ble_eq_true rfl) (Nat.le_of_ble_eq_true rfl) (cat_of rfl) (Nat.le_of_ble_eq_true rfl) (Nat.zero_le _) (Nat.zero_le _) rfl dX12_orderAt_99 (sp_X12_isFixed o_a0 w8.1 w8.2.1 w8.2.2.1 (V_if_eq (tgt := 132) dX12_orderAt_102 rfl w8.2.2.2.1 (fun c2 => V_iload dX12_orderAt_132 rfl (V_iload dX12_orderAt_134 rfl (V_icmp_ge (tgt := 144) dX12_orderAt_136 rfl (w8.2.2.2.2.1 c2).1 (w8.2.2.2.2.1 c2).2.1 (fun c3 => V_iload dX12_orderAt_144 rfl (V_msk [true, true, false, false, true, false, false, false, false, false, false] rfl ((w8.2.2.2.2.1 c2).2.2.1 c3))) (fun c3 => V_iload dX12_orderAt_139 rfl (V_goto (tgt := 146) dX12_orderAt_141 rfl (V_msk [true, true, false, false, true, false, false, false, false, false, false] rfl ((w8.2.2.2.2.1 c2).2.2.2 c3))))))) (fun c2 => V_iconst dX12_orderAt_105 (V_iload dX12_orderAt_106 rfl (V_imul dX12_orderAt_108 (V_iconst dX12_orderAt_109 (V_iload dX12_orderAt_110 rfl (V_imul dX12_orderAt_112 (V_iconst dX12_orderAt_113 (V_iadd dX12_orderAt_114 (V_icmp_ge (tgt := 125) dX12_orderAt_115 rfl (w8.2.2.2.2.2 c2).1 (w8.2.2.2.2.2 c2).2.1 (fun c4 => V_iconst dX12_orderAt_125 (V_iload dX12_orderAt_126 rfl (V_imul dX12_orderAt_128 (V_iconst dX12_orderAt_129 (V_iadd dX12_orderAt_130 (V_iret (ty := .int) dX12_orderAt_131 rfl rfl ((w8.2.2.2.2.2 c2).2.2.1 c4))))))) (fun c4 => V_iconst dX12_orderAt_118 (V_iload dX12_orderAt_119 rfl (V_imul dX12_orderAt_121 (V_goto (tgt := 131) dX12_orderAt_122 rfl (V_iret (ty := .int) dX12_orderAt_131 rfl rfl ((w8.2.2.2.2.2 c2).2.2.2 c4))))))))))))))))))))))))))))))))))))))))))) (fun c1 => V_iload_n dX12_orderAt_24 rfl (V_if_ge (tgt := 32) dX12_orderAt_25 rfl (w2.2.2.2.2.2.2 c1).1 (fun c5 => V_iconst dX12_orderAt_32 (V_iload_n dX12_orderAt_33 rfl (V_imul dX12_orderAt_34 (V_iconst dX12_orderAt_35 (V_aload_n dX12_orderAt_36 rfl (G_12_12 o_a0.1 lf_12_221 dX12_orderAt_37 (V_imul dX12_orderAt_40 (V_iadd dX12_orderAt_41 (V_iconst dX12_orderAt_42 (V_iadd dX12_orderAt_43 (V_msk [false, false, true, false, false, false, false, false, false, false, false] rfl ((w2.2.2.2.2.2.2 c1).2.1 c5)))))))))))) (fun c5 => V_iconst dX12_orderAt_28 (V_goto (tgt := 44) dX12_orderAt_29 rfl (V_msk [false, false, true, false, false, false, false, false, false, false, false] rfl ((w2.2.2.2.2.2.2 c1).2.2 c5)))))))))))))))))))))))
set_option maxRecDepth 20000 in
theorem b_X12_orderAt_44 {k n : Nat} {x : Wx} {Z : Zt} {Q : Option Value → Wx → Zt → Prop} {v2 : Int} {t0 : Int} 
    (h : Rg v2 ∧ (((v2 < 0) → (V mX12_orderAt k n 58 [none, none, none, none, some (i_ t0), none, none, none, none, none, none] [] x Z Q)) ∧ ((0 ≤ v2) → (Rg (2 * v2) ∧ Rg t0 ∧ (((t0 ≤ 2 * v2) → (Q (some (i_ ((-2) * v2))) x Z)) ∧ ((2 * v2 < t0) → (V mX12_orderAt k n 58 [none, none, none, none, some (i_ t0), none, none, none, none, none, none] [] x Z Q))))))) :
    V mX12_orderAt k n 44 [none, none, some (i_ v2), none, none, none, none, none, none, none, none] [i_ t0] x Z Q :=
  V_istore (lv' := [none, none, some (i_ v2), none, some (i_ t0), none, none, none, none, none, none]) dX12_orderAt_44 (Nat.le_of_ble_eq_true rfl) rfl (V_iload_n dX12_orderAt_46 rfl (V_if_lt (tgt := 58) dX12_orderAt_47 rfl h.1 (fun c1 => V_msk [false, false, false, false, true, false, false, false, false, false, false] rfl (h.2.1 c1)) (fun c1 => V_iconst dX12_orderAt_50 (V_iload_n dX12_orderAt_51 rfl (V_imul dX12_orderAt_52 (V_iload dX12_orderAt_53 rfl (V_icmp_ge (tgt := 64) dX12_orderAt_55 rfl (h.2.2 c1).1 (h.2.2 c1).2.1 (fun c2 => V_bipush dX12_orderAt_64 rfl (V_iload_n dX12_orderAt_66 rfl (V_imul dX12_orderAt_67 (V_iret (ty := .int) dX12_orderAt_68 rfl rfl ((h.2.2 c1).2.2.1 c2))))) (fun c2 => V_msk [false, false, false, false, true, false, false, false, false, false, false] rfl ((h.2.2 c1).2.2.2 c2)))))))))
set_option maxRecDepth 20000 in
theorem b_X12_orderAt_58 {k n : Nat} {x : Wx} {Z : Zt} {Q : Option Value → Wx → Zt → Prop} {v4 : Int} 
    (h : Q (some (i_ (-v4))) x Z) :
    V mX12_orderAt k n 58 [none, none, none, none, some (i_ v4), none, none, none, none, none, none] [] x Z Q :=
  V_iload dX12_orderAt_58 rfl (V_ineg dX12_orderAt_60 (V_goto (tgt := 68) dX12_orderAt_61 rfl (V_iret (ty := .int) dX12_orderAt_68 rfl rfl h)))
set_option maxRecDepth 20000 in
theorem b_X12_orderAt_146 {k n : Nat} {x : Wx} {Z : Zt} {Q : Option Value → Wx → Zt → Prop} {a0 : Nat} {v1 : Int} {v4 : Int} {t0 : Int} (o_a0 : Is12 x a0)
    (h : ∃ g1 : Nat → Nat → Int, (∃ g2 : Int, ((IsP g2 ∧ Z a0 11 = g2) ∧ MS Z a0 g1 ∧ ((InP g2 (g1 0) ∧ Fin (g1 0)) ∧ (InP g2 (g1 24) ∧ Fin (g1 24)) ∧ (InP g2 (g1 25) ∧ Fin (g1 25))) ∧ (∀ (Z'1 : Zt) (P'1 : Nat → Nat → Int), (MS Z'1 a0 P'1 ∧ Oth Z Z'1 (O4 a0) ∧ P'1 26 = mNr g2 (g1 0) (g1 24) (g1 25) ∧ (∀ q : Nat, q ≠ 21 → q ≠ 22 → q ≠ 26 → P'1 q = g1 q)) → (∃ g3 : Nat → Nat → Int, (∃ g4 : Int, ((IsP g4 ∧ Z'1 a0 11 = g4) ∧ MS Z'1 a0 g3 ∧ (((0 : Int) ≤ (26 : Int) ∧ (26 : Int) < 27) ∧ (26 : Int) ≠ 22) ∧ (0 ≤ v4 ∧ v4 < g4) ∧ (InP g4 (g3 (26 : Int).toNat) ∧ Fin (g3 (26 : Int).toNat)) ∧ (∀ (Z'2 : Zt) (P'2 : Nat → Nat → Int), (MS Z'2 a0 P'2 ∧ Oth Z'1 Z'2 (O4 a0) ∧ (∀ q : Nat, q ≠ 22 → q ≠ 16 → q ≠ 17 → q ≠ 23 → P'2 q = g3 q)) → (∃ g5 : Nat → Nat → Int, (∃ g6 : Int, ((IsP g6 ∧ Z'2 a0 11 = g6) ∧ MS Z'2 a0 g5 ∧ (((0 : Int) ≤ (24 : Int) ∧ (24 : Int) < 27) ∧ (24 : Int) ≠ 16 ∧ (24 : Int) ≠ 17 ∧ (24 : Int) ≠ 23) ∧ (0 ≤ v4 ∧ v4 < g6) ∧ ((0 : Int) ≤ t0 ∧ t0 ≤ 90) ∧ (InP g6 (g5 (24 : Int).toNat) ∧ Fin (g5 (24 : Int).toNat)) ∧ (∀ (Z'3 : Zt) (P'3 : Nat → Nat → Int), (MS Z'3 a0 P'3 ∧ Oth Z'2 Z'3 (O4 a0) ∧ P'3 (24 : Int).toNat = (ofQ g6 v4 t0.toNat (g5 (24 : Int).toNat)).2 ∧ (∀ q : Nat, q ≠ (24 : Int).toNat → q ≠ 16 → q ≠ 17 → q ≠ 23 → P'3 q = g5 q)) → (∃ g7 : Nat → Nat → Int, (∃ g8 : Int, ((IsP g8 ∧ Z'3 a0 11 = g8) ∧ MS Z'3 a0 g7 ∧ (((0 : Int) ≤ (25 : Int) ∧ (25 : Int) < 27) ∧ (25 : Int) ≠ 16 ∧ (25 : Int) ≠ 17 ∧ (25 : Int) ≠ 23) ∧ (0 ≤ v4 ∧ v4 < g8) ∧ ((0 : Int) ≤ t0 ∧ t0 ≤ 90) ∧ (InP g8 (g7 (25 : Int).toNat) ∧ Fin (g7 (25 : Int).toNat)) ∧ (∀ (Z'4 : Zt) (P'4 : Nat → Nat → Int), (MS Z'4 a0 P'4 ∧ Oth Z'3 Z'4 (O4 a0) ∧ P'4 (25 : Int).toNat = (ofQ g8 v4 t0.toNat (g7 (25 : Int).toNat)).2 ∧ (∀ q : Nat, q ≠ (25 : Int).toNat → q ≠ 16 → q ≠ 17 → q ≠ 23 → P'4 q = g7 q)) → (∀ i1 : Int, i1 = ((ofQ g6 v4 t0.toNat (g5 (24 : Int).toNat)).1 : Int) + ((ofQ g8 v4 t0.toNat (g7 (25 : Int).toNat)).1 : Int) → (∃ g9 : Nat → Nat → Int, (∃ g10 : Int, ((IsP g10 ∧ Z'4 a0 11 = g10) ∧ MS Z'4 a0 g9 ∧ (0 ≤ (24 : Int) ∧ (24 : Int) < 27) ∧ (0 ≤ v4 ∧ v4 ≤ 13) ∧ InP g10 (g9 (24 : Int).toNat) ∧ (∃ g11 : Nat → Nat → Int, (∃ g12 : Int, ((IsP g12 ∧ Z'4 a0 11 = g12) ∧ MS Z'4 a0 g11 ∧ (0 ≤ (25 : Int) ∧ (25 : Int) < 27) ∧ (0 ≤ v4 ∧ v4 ≤ 13) ∧ InP g12 (g11 (25 : Int).toNat) ∧ (0 ≤ v1 ∧ v1 < 32 ∧ (Rg ((ev g10 (g9 (24 : Int).toNat) v4) + ((ev g12 (g11 (25 : Int).toNat) v4) * (Z'4 (a0 + 6) v1.toNat))) ∧ 0 < Z'4 a0 11 ∧ Z'4 a0 11 ≤ 13 ∧ (Rg (((ev g10 (g9 (24 : Int).toNat) v4) + ((ev g12 (g11 (25 : Int).toNat) v4) * (Z'4 (a0 + 6) v1.toNat))) % Z'4 a0 11) ∧ (((((ev g10 (g9 (24 : Int).toNat) v4) + ((ev g12 (g11 (25 : Int).toNat) v4) * (Z'4 (a0 + 6) v1.toNat))) % Z'4 a0 11 ≠ 0) → (V mX12_orderAt k n 221 [none, none, none, none, none, none, none, some (i_ t0), some (i_ (mOo g4 v4 (g3 (26 : Int).toNat))), none, none] [i_ 0] x Z'4 Q)) ∧ ((((ev g10 (g9 (24 : Int).toNat) v4) + ((ev g12 (g11 (25 : Int).toNat) v4) * (Z'4 (a0 + 6) v1.toNat))) % Z'4 a0 11 = 0) → (V mX12_orderAt k n 221 [none, none, none, none, none, none, none, some (i_ t0), some (i_ (mOo g4 v4 (g3 (26 : Int).toNat))), none, none] [i_ 1] x Z'4 Q))))))))))))))))))))))))))))) :
    V mX12_orderAt k n 146 [some (r_ a0), some (i_ v1), none, none, some (i_ v4), none, none, none, none, none, none] [i_ t0] x Z Q :=
  V_istore (lv' := [some (r_ a0), some (i_ v1), none, none, some (i_ v4), none, none, some (i_ t0), none, none, none]) dX12_orderAt_146 (Nat.le_of_ble_eq_true rfl) rfl (V_aload_n dX12_orderAt_148 rfl (Exists.elim h (fun g1 w1 => Exists.elim w1 (fun g2 w2 => V_callV (k' := 0) (n' := 0) (t := 12) (q := (RX12, TX12, 46)) [] [] okX12_norms o_a0.1 rfl rfl lm_12_282 liX12_norms lqX12_norms (Nat.le_of_ble_eq_true rfl) (Nat.le_of_ble_eq_true rfl) (Nat.le_of_ble_eq_true rfl) (cat_of rfl) (Nat.le_of_ble_eq_true rfl) (Nat.zero_le _) (Nat.zero_le _) rfl dX12_orderAt_149 (sp_X12_norms o_a0 w2.1 w2.2.1 w2.2.2.1 (fun Z'1 P'1 p1 => V_aload_n dX12_orderAt_152 rfl (V_bipush dX12_orderAt_153 rfl (V_iload dX12_orderAt_155 rfl (Exists.elim (w2.2.2.2 Z'1 P'1 p1) (fun g3 w3 => Exists.elim w3 (fun g4 w4 => V_callV (k' := 0) (n' := 0) (t := 12) (q := (RX12, TX12, 46)) [i_ 26, i_ v4] [] okX12_oftenOf o_a0.1 rfl rfl lm_12_279 liX12_oftenOf lqX12_oftenOf (Nat.le_of_ble_eq_true rfl) (Nat.le_of_ble_eq_true rfl) (Nat.le_of_ble_eq_true rfl) (cat_of rfl) (Nat.le_of_ble_eq_true rfl) (Nat.zero_le _) (Nat.zero_le _) rfl dX12_orderAt_157 (sp_X12_oftenOf o_a0 w4.1 w4.2.1 w4.2.2.1 w4.2.2.2.1 w4.2.2.2.2.1 (fun Z'2 P'2 p2 => V_istore (lv' := [some (r_ a0), some (i_ v1), none, none, some (i_ v4), none, none, some (i_ t0), some (i_ (mOo g4 v4 (g3 (26 : Int).toNat))), none, none]) dX12_orderAt_160 (Nat.le_of_ble_eq_true rfl) rfl (V_aload_n dX12_orderAt_162 rfl (V_bipush dX12_orderAt_163 rfl (V_iload dX12_orderAt_165 rfl (V_iload dX12_orderAt_167 rfl (Exists.elim (w4.2.2.2.2.2 Z'2 P'2 p2) (fun g5 w5 => Exists.elim w5 (fun g6 w6 => V_callV (k' := 0) (n' := 0) (t := 12) (q := (RX12, TX12, 46)) [i_ 24, i_ v4, i_ t0] [] okX12_often o_a0.1 rfl rfl lm_12_276 liX12_often lqX12_often (Nat.le_of_ble_eq_true rfl) (Nat.le_of_ble_eq_true rfl) (Nat.le_of_ble_eq_true rfl) (cat_of rfl) (Nat.le_of_ble_eq_true rfl) (Nat.zero_le _) (Nat.zero_le _) rfl dX12_orderAt_169 (sp_X12_often o_a0 w6.1 w6.2.1 w6.2.2.1 w6.2.2.2.1 w6.2.2.2.2.1 w6.2.2.2.2.2.1 (fun Z'3 P'3 p3 => V_aload_n dX12_orderAt_172 rfl (V_bipush dX12_orderAt_173 rfl (V_iload dX12_orderAt_175 rfl (V_iload dX12_orderAt_177 rfl (Exists.elim (w6.2.2.2.2.2.2 Z'3 P'3 p3) (fun g7 w7 => Exists.elim w7 (fun g8 w8 => V_callV (k' := 0) (n' := 0) (t := 12) (q := (RX12, TX12, 46)) [i_ 25, i_ v4, i_ t0] [i_ ((ofQ g6 v4 t0.toNat (g5 (24 : Int).toNat)).1 : Int)] okX12_often o_a0.1 rfl rfl lm_12_276 liX12_often lqX12_often (Nat.le_of_ble_eq_true rfl) (Nat.le_of_ble_eq_true rfl) (Nat.le_of_ble_eq_true rfl) (cat_of rfl) (Nat.le_of_ble_eq_true rfl) (Nat.zero_le _) (Nat.zero_le _) rfl dX12_orderAt_179 (sp_X12_often o_a0 w8.1 w8.2.1 w8.2.2.1 w8.2.2.2.1 w8.2.2.2.2.1 w8.2.2.2.2.2.1 (fun Z'4 P'4 p4 => V_iadd dX12_orderAt_182 (V_nmi (fun i1 ei1 => V_istore (lv' := [some (r_ a0), some (i_ v1), none, none, some (i_ v4), none, none, some (i_ t0), some (i_ (mOo g4 v4 (g3 (26 : Int).toNat))), some (i_ i1), none]) dX12_orderAt_183 (Nat.le_of_ble_eq_true rfl) rfl (V_aload_n dX12_orderAt_185 rfl (V_aload_n dX12_orderAt_186 rfl (V_bipush dX12_orderAt_187 rfl (V_iload dX12_orderAt_189 rfl (Exists.elim ((w8.2.2.2.2.2.2 Z'4 P'4 p4) i1 ei1) (fun g9 w9 => Exists.elim w9 (fun g10 w10 => V_callV (k' := 0) (n' := 0) (t := 12) (q := (RX12, TX12, 46)) [i_ 24, i_ v4] [r_ a0] okX12_value o_a0.1 rfl rfl lm_12_230 liX12_value lqX12_value (Nat.le_of_ble_eq_true rfl) (Nat.le_of_ble_eq_true rfl) (Nat.le_of_ble_eq_true rfl) (cat_of rfl) (Nat.le_of_ble_eq_true rfl) (Nat.zero_le _) (Nat.zero_le _) rfl dX12_orderAt_191 (sp_X12_value o_a0 w10.1 w10.2.1 w10.2.2.1 w10.2.2.2.1 w10.2.2.2.2.1 (V_aload_n dX12_orderAt_194 rfl (V_bipush dX12_orderAt_195 rfl (V_iload dX12_orderAt_197 rfl (Exists.elim w10.2.2.2.2.2 (fun g11 w11 => Exists.elim w11 (fun g12 w12 => V_callV (k' := 0) (n' := 0) (t := 12) (q := (RX12, TX12, 46)) [i_ 25, i_ v4] [i_ (ev g10 (g9 (24 : Int).toNat) v4), r_ a0] okX12_value o_a0.1 rfl rfl lm_12_230 liX12_value lqX12_value (Nat.le_of_ble_eq_true rfl) (Nat.le_of_ble_eq_true rfl) (Nat.le_of_ble_eq_true rfl) (cat_of rfl) (Nat.le_of_ble_eq_true rfl) (Nat.zero_le _) (Nat.zero_le _) rfl dX12_orderAt_199 (sp_X12_value o_a0 w12.1 w12.2.1 w12.2.2.1 w12.2.2.2.1 w12.2.2.2.2.1 (V_aload_n dX12_orderAt_202 rfl (G_12_14 o_a0.1 o_a0.qR14 lf_12_26 dX12_orderAt_203 (V_iload_n dX12_orderAt_206 rfl (V_iald (t := 100) o_a0.qK14 (by decide) rfl w12.2.2.2.2.2.1 w12.2.2.2.2.2.2.1 (Nat.le_of_ble_eq_true rfl) dX12_orderAt_207 (V_imul dX12_orderAt_208 (V_iadd dX12_orderAt_209 (V_callV (k' := 0) (n' := 0) (t := 12) (q := (RX12, TX12, 46)) [i_ ((ev g10 (g9 (24 : Int).toNat) v4) + ((ev g12 (g11 (25 : Int).toNat) v4) * (Z'4 (a0 + 6) v1.toNat)))] [] okX12_mod o_a0.1 rfl rfl lm_12_182 liX12_mod lqX12_mod (Nat.le_of_ble_eq_true rfl) (Nat.le_of_ble_eq_true rfl) (Nat.le_of_ble_eq_true rfl) (cat_of rfl) (Nat.le_of_ble_eq_true rfl) (Nat.zero_le _) (Nat.zero_le _) rfl dX12_orderAt_210 (sp_X12_mod o_a0 w12.2.2.2.2.2.2.2.1 w12.2.2.2.2.2.2.2.2.1 w12.2.2.2.2.2.2.2.2.2.1 (V_if_ne (tgt := 220) dX12_orderAt_213 rfl w12.2.2.2.2.2.2.2.2.2.2.1 (fun c1 => V_iconst dX12_orderAt_220 (V_msk [false, false, false, false, false, false, false, true, true, false, false] rfl (w12.2.2.2.2.2.2.2.2.2.2.2.1 c1))) (fun c1 => V_iconst dX12_orderAt_216 (V_goto (tgt := 221) dX12_orderAt_217 rfl (V_msk [false, false, false, false, false, false, false, true, true, false, false] rfl (w12.2.2.2.2.2.2.2.2.2.2.2.2 c1))))))))))))))))))))))))))))))))))))))))))))))))))))))))))))
set_option maxRecDepth 20000 in
theorem b_X12_orderAt_221 {k n : Nat} {x : Wx} {Z : Zt} {Q : Option Value → Wx → Zt → Prop} {v7 : Int} {v8 : Int} {t0 : Int} 
    (h : Rg t0 ∧ (((t0 = 0) → (Q (some (i_ v7)) x Z)) ∧ ((t0 ≠ 0) → (Q (some (i_ ((v8 - (2 * v7)) + v7))) x Z)))) :
    V mX12_orderAt k n 221 [none, none, none, none, none, none, none, some (i_ v7), some (i_ v8), none, none] [i_ t0] x Z Q :=
  V_istore (lv' := [none, none, none, none, none, none, none, some (i_ v7), some (i_ v8), none, some (i_ t0)]) dX12_orderAt_221 (Nat.le_of_ble_eq_true rfl) rfl (V_iload dX12_orderAt_223 rfl (V_if_eq (tgt := 241) dX12_orderAt_225 rfl h.1 (fun c1 => V_iload dX12_orderAt_241 rfl (V_iret (ty := .int) dX12_orderAt_243 rfl rfl (h.2.1 c1))) (fun c1 => V_iload dX12_orderAt_228 rfl (V_iconst dX12_orderAt_230 (V_iload dX12_orderAt_231 rfl (V_imul dX12_orderAt_233 (V_isub dX12_orderAt_234 (V_iload dX12_orderAt_235 rfl (V_iadd dX12_orderAt_237 (V_goto (tgt := 243) dX12_orderAt_238 rfl (V_iret (ty := .int) dX12_orderAt_243 rfl rfl (h.2.2 c1))))))))))))
