/-! ===== the reference: classes, small steps ===== -/
theorem dX12_noClass_0 : decode cX12_noClass 0 = .ok (.iconst 0, 1) := by decide +kernel
theorem dX12_noClass_1 : decode cX12_noClass 1 = .ok (.istore_n 2, 1) := by decide +kernel
theorem dX12_noClass_2 : decode cX12_noClass 2 = .ok (.iload_n 2, 1) := by decide +kernel
theorem dX12_noClass_3 : decode cX12_noClass 3 = .ok (.iconst 5, 1) := by decide +kernel
theorem dX12_noClass_4 : decode cX12_noClass 4 = .ok (.if_icmp .ge 18, 3) := by decide +kernel
theorem dX12_noClass_7 : decode cX12_noClass 7 = .ok (.aload_n 0, 1) := by decide +kernel
theorem dX12_noClass_8 : decode cX12_noClass 8 = .ok (.getfield 69, 3) := by decide +kernel
theorem dX12_noClass_11 : decode cX12_noClass 11 = .ok (.iload_n 1, 1) := by decide +kernel
theorem dX12_noClass_12 : decode cX12_noClass 12 = .ok (.iload_n 2, 1) := by decide +kernel
theorem dX12_noClass_13 : decode cX12_noClass 13 = .ok (.iadd, 1) := by decide +kernel
theorem dX12_noClass_14 : decode cX12_noClass 14 = .ok (.iconst 0, 1) := by decide +kernel
theorem dX12_noClass_15 : decode cX12_noClass 15 = .ok (.iastore, 1) := by decide +kernel
theorem dX12_noClass_16 : decode cX12_noClass 16 = .ok (.iinc 2 1, 3) := by decide +kernel
theorem dX12_noClass_19 : decode cX12_noClass 19 = .ok (.goto (-17), 3) := by decide +kernel
theorem dX12_noClass_22 : decode cX12_noClass 22 = .ok (.return_, 1) := by decide +kernel
set_option maxRecDepth 20000 in
theorem b_X12_noClass_0 {k n : Nat} {x : Wx} {Z : Zt} {Q : Option Value → Wx → Zt → Prop} {a0 : Nat} {v1 : Int} 
    (h : V mX12_noClass k n 2 [some (r_ a0), some (i_ v1), some (i_ 0)] [] x Z Q) :
    V mX12_noClass k n 0 [some (r_ a0), some (i_ v1), none] [] x Z Q :=
  V_iconst dX12_noClass_0 (V_istore_n (lv' := [some (r_ a0), some (i_ v1), some (i_ 0)]) dX12_noClass_1 (Nat.le_of_ble_eq_true rfl) rfl (V_msk [true, true, true] rfl h))
set_option maxRecDepth 20000 in
theorem b_X12_noClass_2 {k n : Nat} {x : Wx} {Z : Zt} {Q : Option Value → Wx → Zt → Prop} {a0 : Nat} {v1 : Int} {v2 : Int} (o_a0 : Is12 x a0)
    (h : Rg v2 ∧ (((5 ≤ v2) → (Q none x Z)) ∧ ((v2 < 5) → (0 ≤ v1 + v2 ∧ v1 + v2 < 3000 ∧ (∀ Z1 : Zt, Z1 = up Z (a0 + 20) (v1 + v2).toNat 0 → (V mX12_noClass k n 2 [some (r_ a0), some (i_ v1), some (i_ (v2 + 1))] [] x Z1 Q)))))) :
    V mX12_noClass k n 2 [some (r_ a0), some (i_ v1), some (i_ v2)] [] x Z Q :=
  V_iload_n dX12_noClass_2 rfl (V_iconst dX12_noClass_3 (V_icmp_ge (tgt := 22) dX12_noClass_4 rfl h.1 (rg_c rfl) (fun c1 => V_ret dX12_noClass_22 rfl (h.2.1 c1)) (fun c1 => V_aload_n dX12_noClass_7 rfl (G_12_34 o_a0.1 o_a0.qR34 lf_12_69 dX12_noClass_8 (V_iload_n dX12_noClass_11 rfl (V_iload_n dX12_noClass_12 rfl (V_iadd dX12_noClass_13 (V_iconst dX12_noClass_14 (V_iast (t := 100) o_a0.qK34 (by decide) (by decide) rfl (h.2.2 c1).1 (h.2.2 c1).2.1 (Nat.le_of_ble_eq_true rfl) dX12_noClass_15 (V_nmZ (fun Z1 eZ1 => V_iinc (lv' := [some (r_ a0), some (i_ v1), some (i_ (v2 + 1))]) dX12_noClass_16 rfl (Nat.le_of_ble_eq_true rfl) rfl (V_goto (tgt := 2) dX12_noClass_19 rfl (V_msk [true, true, true] rfl ((h.2.2 c1).2.2 Z1 eZ1))))))))))))))
theorem dX12_isNone_0 : decode cX12_isNone 0 = .ok (.aload_n 0, 1) := by decide +kernel
theorem dX12_isNone_1 : decode cX12_isNone 1 = .ok (.getfield 69, 3) := by decide +kernel
theorem dX12_isNone_4 : decode cX12_isNone 4 = .ok (.iload_n 1, 1) := by decide +kernel
theorem dX12_isNone_5 : decode cX12_isNone 5 = .ok (.iaload, 1) := by decide +kernel
theorem dX12_isNone_6 : decode cX12_isNone 6 = .ok (.ifCond .ne 7, 3) := by decide +kernel
theorem dX12_isNone_9 : decode cX12_isNone 9 = .ok (.iconst 1, 1) := by decide +kernel
theorem dX12_isNone_10 : decode cX12_isNone 10 = .ok (.goto 4, 3) := by decide +kernel
theorem dX12_isNone_13 : decode cX12_isNone 13 = .ok (.iconst 0, 1) := by decide +kernel
theorem dX12_isNone_14 : decode cX12_isNone 14 = .ok (.ireturn, 1) := by decide +kernel
set_option maxRecDepth 20000 in
theorem b_X12_isNone_0 {k n : Nat} {x : Wx} {Z : Zt} {Q : Option Value → Wx → Zt → Prop} {a0 : Nat} {v1 : Int} (o_a0 : Is12 x a0)
    (h : 0 ≤ v1 ∧ v1 < 3000 ∧ (Rg (Z (a0 + 20) v1.toNat) ∧ (((Z (a0 + 20) v1.toNat ≠ 0) → (Q (some (i_ 0)) x Z)) ∧ ((Z (a0 + 20) v1.toNat = 0) → (Q (some (i_ 1)) x Z))))) :
    V mX12_isNone k n 0 [some (r_ a0), some (i_ v1)] [] x Z Q :=
  V_aload_n dX12_isNone_0 rfl (G_12_34 o_a0.1 o_a0.qR34 lf_12_69 dX12_isNone_1 (V_iload_n dX12_isNone_4 rfl (V_iald (t := 100) o_a0.qK34 (by decide) rfl h.1 h.2.1 (Nat.le_of_ble_eq_true rfl) dX12_isNone_5 (V_if_ne (tgt := 13) dX12_isNone_6 rfl h.2.2.1 (fun c1 => V_iconst dX12_isNone_13 (V_iret (ty := .boolean) dX12_isNone_14 rfl rfl (h.2.2.2.1 c1))) (fun c1 => V_iconst dX12_isNone_9 (V_goto (tgt := 14) dX12_isNone_10 rfl (V_iret (ty := .boolean) dX12_isNone_14 rfl rfl (h.2.2.2.2 c1))))))))
theorem dX12_copiesClass_0 : decode cX12_copiesClass 0 = .ok (.iconst 0, 1) := by decide +kernel
theorem dX12_copiesClass_1 : decode cX12_copiesClass 1 = .ok (.istore_n 3, 1) := by decide +kernel
theorem dX12_copiesClass_2 : decode cX12_copiesClass 2 = .ok (.iload_n 3, 1) := by decide +kernel
theorem dX12_copiesClass_3 : decode cX12_copiesClass 3 = .ok (.iconst 5, 1) := by decide +kernel
theorem dX12_copiesClass_4 : decode cX12_copiesClass 4 = .ok (.if_icmp .ge 25, 3) := by decide +kernel
theorem dX12_copiesClass_7 : decode cX12_copiesClass 7 = .ok (.aload_n 0, 1) := by decide +kernel
theorem dX12_copiesClass_8 : decode cX12_copiesClass 8 = .ok (.getfield 69, 3) := by decide +kernel
theorem dX12_copiesClass_11 : decode cX12_copiesClass 11 = .ok (.iload_n 2, 1) := by decide +kernel
theorem dX12_copiesClass_12 : decode cX12_copiesClass 12 = .ok (.iload_n 3, 1) := by decide +kernel
theorem dX12_copiesClass_13 : decode cX12_copiesClass 13 = .ok (.iadd, 1) := by decide +kernel
theorem dX12_copiesClass_14 : decode cX12_copiesClass 14 = .ok (.aload_n 0, 1) := by decide +kernel
theorem dX12_copiesClass_15 : decode cX12_copiesClass 15 = .ok (.getfield 69, 3) := by decide +kernel
theorem dX12_copiesClass_18 : decode cX12_copiesClass 18 = .ok (.iload_n 1, 1) := by decide +kernel
theorem dX12_copiesClass_19 : decode cX12_copiesClass 19 = .ok (.iload_n 3, 1) := by decide +kernel
theorem dX12_copiesClass_20 : decode cX12_copiesClass 20 = .ok (.iadd, 1) := by decide +kernel
theorem dX12_copiesClass_21 : decode cX12_copiesClass 21 = .ok (.iaload, 1) := by decide +kernel
theorem dX12_copiesClass_22 : decode cX12_copiesClass 22 = .ok (.iastore, 1) := by decide +kernel
theorem dX12_copiesClass_23 : decode cX12_copiesClass 23 = .ok (.iinc 3 1, 3) := by decide +kernel
theorem dX12_copiesClass_26 : decode cX12_copiesClass 26 = .ok (.goto (-24), 3) := by decide +kernel
theorem dX12_copiesClass_29 : decode cX12_copiesClass 29 = .ok (.return_, 1) := by decide +kernel
set_option maxRecDepth 20000 in
theorem b_X12_copiesClass_0 {k n : Nat} {x : Wx} {Z : Zt} {Q : Option Value → Wx → Zt → Prop} {a0 : Nat} {v1 : Int} {v2 : Int} 
    (h : V mX12_copiesClass k n 2 [some (r_ a0), some (i_ v1), some (i_ v2), some (i_ 0)] [] x Z Q) :
    V mX12_copiesClass k n 0 [some (r_ a0), some (i_ v1), some (i_ v2), none] [] x Z Q :=
  V_iconst dX12_copiesClass_0 (V_istore_n (lv' := [some (r_ a0), some (i_ v1), some (i_ v2), some (i_ 0)]) dX12_copiesClass_1 (Nat.le_of_ble_eq_true rfl) rfl (V_msk [true, true, true, true] rfl h))
set_option maxRecDepth 20000 in
theorem b_X12_copiesClass_2 {k n : Nat} {x : Wx} {Z : Zt} {Q : Option Value → Wx → Zt → Prop} {a0 : Nat} {v1 : Int} {v2 : Int} {v3 : Int} (o_a0 : Is12 x a0)
    (h : Rg v3 ∧ (((5 ≤ v3) → (Q none x Z)) ∧ ((v3 < 5) → (0 ≤ v1 + v3 ∧ v1 + v3 < 3000 ∧ (0 ≤ v2 + v3 ∧ v2 + v3 < 3000 ∧ (∀ Z1 : Zt, Z1 = up Z (a0 + 20) (v2 + v3).toNat (Z (a0 + 20) (v1 + v3).toNat) → (V mX12_copiesClass k n 2 [some (r_ a0), some (i_ v1), some (i_ v2), some (i_ (v3 + 1))] [] x Z1 Q))))))) :
    V mX12_copiesClass k n 2 [some (r_ a0), some (i_ v1), some (i_ v2), some (i_ v3)] [] x Z Q :=
  V_iload_n dX12_copiesClass_2 rfl (V_iconst dX12_copiesClass_3 (V_icmp_ge (tgt := 29) dX12_copiesClass_4 rfl h.1 (rg_c rfl) (fun c1 => V_ret dX12_copiesClass_29 rfl (h.2.1 c1)) (fun c1 => V_aload_n dX12_copiesClass_7 rfl (G_12_34 o_a0.1 o_a0.qR34 lf_12_69 dX12_copiesClass_8 (V_iload_n dX12_copiesClass_11 rfl (V_iload_n dX12_copiesClass_12 rfl (V_iadd dX12_copiesClass_13 (V_aload_n dX12_copiesClass_14 rfl (G_12_34 o_a0.1 o_a0.qR34 lf_12_69 dX12_copiesClass_15 (V_iload_n dX12_copiesClass_18 rfl (V_iload_n dX12_copiesClass_19 rfl (V_iadd dX12_copiesClass_20 (V_iald (t := 100) o_a0.qK34 (by decide) rfl (h.2.2 c1).1 (h.2.2 c1).2.1 (Nat.le_of_ble_eq_true rfl) dX12_copiesClass_21 (V_iast (t := 100) o_a0.qK34 (by decide) (by decide) rfl (h.2.2 c1).2.2.1 (h.2.2 c1).2.2.2.1 (Nat.le_of_ble_eq_true rfl) dX12_copiesClass_22 (V_nmZ (fun Z1 eZ1 => V_iinc (lv' := [some (r_ a0), some (i_ v1), some (i_ v2), some (i_ (v3 + 1))]) dX12_copiesClass_23 rfl (Nat.le_of_ble_eq_true rfl) rfl (V_goto (tgt := 2) dX12_copiesClass_26 rfl (V_msk [true, true, true, true] rfl ((h.2.2 c1).2.2.2.2 Z1 eZ1)))))))))))))))))))
theorem dX12_loads_0 : decode cX12_loads 0 = .ok (.aload_n 0, 1) := by decide +kernel
theorem dX12_loads_1 : decode cX12_loads 1 = .ok (.iload_n 2, 1) := by decide +kernel
theorem dX12_loads_2 : decode cX12_loads 2 = .ok (.invokevirtual 188, 3) := by decide +kernel
theorem dX12_loads_5 : decode cX12_loads 5 = .ok (.aload_n 0, 1) := by decide +kernel
theorem dX12_loads_6 : decode cX12_loads 6 = .ok (.iload_n 3, 1) := by decide +kernel
theorem dX12_loads_7 : decode cX12_loads 7 = .ok (.invokevirtual 188, 3) := by decide +kernel
theorem dX12_loads_10 : decode cX12_loads 10 = .ok (.aload_n 0, 1) := by decide +kernel
theorem dX12_loads_11 : decode cX12_loads 11 = .ok (.getfield 20, 3) := by decide +kernel
theorem dX12_loads_14 : decode cX12_loads 14 = .ok (.bipush 24, 2) := by decide +kernel
theorem dX12_loads_16 : decode cX12_loads 16 = .ok (.iload_n 2, 1) := by decide +kernel
theorem dX12_loads_17 : decode cX12_loads 17 = .ok (.imul, 1) := by decide +kernel
theorem dX12_loads_18 : decode cX12_loads 18 = .ok (.aload_n 0, 1) := by decide +kernel
theorem dX12_loads_19 : decode cX12_loads 19 = .ok (.getfield 69, 3) := by decide +kernel
theorem dX12_loads_22 : decode cX12_loads 22 = .ok (.iload_n 1, 1) := by decide +kernel
theorem dX12_loads_23 : decode cX12_loads 23 = .ok (.iaload, 1) := by decide +kernel
theorem dX12_loads_24 : decode cX12_loads 24 = .ok (.iadd, 1) := by decide +kernel
theorem dX12_loads_25 : decode cX12_loads 25 = .ok (.iconst 1, 1) := by decide +kernel
theorem dX12_loads_26 : decode cX12_loads 26 = .ok (.iastore, 1) := by decide +kernel
theorem dX12_loads_27 : decode cX12_loads 27 = .ok (.iconst 0, 1) := by decide +kernel
theorem dX12_loads_28 : decode cX12_loads 28 = .ok (.istore 4, 2) := by decide +kernel
theorem dX12_loads_30 : decode cX12_loads 30 = .ok (.iload 4, 2) := by decide +kernel
theorem dX12_loads_32 : decode cX12_loads 32 = .ok (.aload_n 0, 1) := by decide +kernel
theorem dX12_loads_33 : decode cX12_loads 33 = .ok (.getfield 69, 3) := by decide +kernel
theorem dX12_loads_36 : decode cX12_loads 36 = .ok (.iload_n 1, 1) := by decide +kernel
theorem dX12_loads_37 : decode cX12_loads 37 = .ok (.iaload, 1) := by decide +kernel
theorem dX12_loads_38 : decode cX12_loads 38 = .ok (.if_icmp .ge 55, 3) := by decide +kernel
theorem dX12_loads_41 : decode cX12_loads 41 = .ok (.aload_n 0, 1) := by decide +kernel
theorem dX12_loads_42 : decode cX12_loads 42 = .ok (.getfield 20, 3) := by decide +kernel
theorem dX12_loads_45 : decode cX12_loads 45 = .ok (.bipush 24, 2) := by decide +kernel
theorem dX12_loads_47 : decode cX12_loads 47 = .ok (.iload_n 2, 1) := by decide +kernel
theorem dX12_loads_48 : decode cX12_loads 48 = .ok (.imul, 1) := by decide +kernel
theorem dX12_loads_49 : decode cX12_loads 49 = .ok (.iload 4, 2) := by decide +kernel
theorem dX12_loads_51 : decode cX12_loads 51 = .ok (.iadd, 1) := by decide +kernel
theorem dX12_loads_52 : decode cX12_loads 52 = .ok (.aload_n 0, 1) := by decide +kernel
theorem dX12_loads_53 : decode cX12_loads 53 = .ok (.getfield 69, 3) := by decide +kernel
theorem dX12_loads_56 : decode cX12_loads 56 = .ok (.iload_n 1, 1) := by decide +kernel
theorem dX12_loads_57 : decode cX12_loads 57 = .ok (.iconst 1, 1) := by decide +kernel
theorem dX12_loads_58 : decode cX12_loads 58 = .ok (.iadd, 1) := by decide +kernel
theorem dX12_loads_59 : decode cX12_loads 59 = .ok (.iload 4, 2) := by decide +kernel
theorem dX12_loads_61 : decode cX12_loads 61 = .ok (.iadd, 1) := by decide +kernel
theorem dX12_loads_62 : decode cX12_loads 62 = .ok (.iaload, 1) := by decide +kernel
theorem dX12_loads_63 : decode cX12_loads 63 = .ok (.iastore, 1) := by decide +kernel
theorem dX12_loads_64 : decode cX12_loads 64 = .ok (.aload_n 0, 1) := by decide +kernel
theorem dX12_loads_65 : decode cX12_loads 65 = .ok (.getfield 20, 3) := by decide +kernel
theorem dX12_loads_68 : decode cX12_loads 68 = .ok (.bipush 24, 2) := by decide +kernel
theorem dX12_loads_70 : decode cX12_loads 70 = .ok (.iload_n 3, 1) := by decide +kernel
theorem dX12_loads_71 : decode cX12_loads 71 = .ok (.imul, 1) := by decide +kernel
theorem dX12_loads_72 : decode cX12_loads 72 = .ok (.iload 4, 2) := by decide +kernel
theorem dX12_loads_74 : decode cX12_loads 74 = .ok (.iadd, 1) := by decide +kernel
theorem dX12_loads_75 : decode cX12_loads 75 = .ok (.aload_n 0, 1) := by decide +kernel
theorem dX12_loads_76 : decode cX12_loads 76 = .ok (.getfield 69, 3) := by decide +kernel
theorem dX12_loads_79 : decode cX12_loads 79 = .ok (.iload_n 1, 1) := by decide +kernel
theorem dX12_loads_80 : decode cX12_loads 80 = .ok (.iconst 3, 1) := by decide +kernel
theorem dX12_loads_81 : decode cX12_loads 81 = .ok (.iadd, 1) := by decide +kernel
theorem dX12_loads_82 : decode cX12_loads 82 = .ok (.iload 4, 2) := by decide +kernel
theorem dX12_loads_84 : decode cX12_loads 84 = .ok (.iadd, 1) := by decide +kernel
theorem dX12_loads_85 : decode cX12_loads 85 = .ok (.iaload, 1) := by decide +kernel
theorem dX12_loads_86 : decode cX12_loads 86 = .ok (.iastore, 1) := by decide +kernel
theorem dX12_loads_87 : decode cX12_loads 87 = .ok (.iinc 4 1, 3) := by decide +kernel
theorem dX12_loads_90 : decode cX12_loads 90 = .ok (.goto (-60), 3) := by decide +kernel
theorem dX12_loads_93 : decode cX12_loads 93 = .ok (.return_, 1) := by decide +kernel
set_option maxRecDepth 20000 in
theorem b_X12_loads_0 {k n : Nat} {x : Wx} {Z : Zt} {Q : Option Value → Wx → Zt → Prop} {a0 : Nat} {v1 : Int} {v2 : Int} {v3 : Int} (o_a0 : Is12 x a0)
    (h : ∃ g1 : Nat → Nat → Int, (MS Z a0 g1 ∧ (0 ≤ v2 ∧ v2 < 27) ∧ (∀ (Z'1 : Zt), (MS Z'1 a0 (updP g1 v2.toNat pzero) ∧ Oth Z Z'1 (O4 a0)) → (∃ g2 : Nat → Nat → Int, (MS Z'1 a0 g2 ∧ (0 ≤ v3 ∧ v3 < 27) ∧ (∀ (Z'2 : Zt), (MS Z'2 a0 (updP g2 v3.toNat pzero) ∧ Oth Z'1 Z'2 (O4 a0)) → (0 ≤ v1 ∧ v1 < 3000 ∧ (0 ≤ (24 * v2) + (Z'2 (a0 + 20) v1.toNat) ∧ (24 * v2) + (Z'2 (a0 + 20) v1.toNat) < 648 ∧ (∀ Z1 : Zt, Z1 = up Z'2 (a0 + 4) ((24 * v2) + (Z'2 (a0 + 20) v1.toNat)).toNat 1 → (V mX12_loads k n 30 [some (r_ a0), some (i_ v1), some (i_ v2), some (i_ v3), some (i_ 0)] [] x Z1 Q)))))))))) :
    V mX12_loads k n 0 [some (r_ a0), some (i_ v1), some (i_ v2), some (i_ v3), none] [] x Z Q :=
  V_aload_n dX12_loads_0 rfl (V_iload_n dX12_loads_1 rfl (Exists.elim h (fun g1 w1 => V_callV (k' := 0) (n' := 0) (t := 12) (q := (RX12, TX12, 46)) [i_ v2] [] okX12_zero o_a0.1 rfl rfl lm_12_188 liX12_zero lqX12_zero (Nat.le_of_ble_eq_true rfl) (Nat.le_of_ble_eq_true rfl) (Nat.le_of_ble_eq_true rfl) (cat_of rfl) (Nat.le_of_ble_eq_true rfl) (Nat.zero_le _) (Nat.zero_le _) rfl dX12_loads_2 (sp_X12_zero o_a0 w1.1 w1.2.1 (fun Z'1 p1 => V_aload_n dX12_loads_5 rfl (V_iload_n dX12_loads_6 rfl (Exists.elim (w1.2.2 Z'1 p1) (fun g2 w2 => V_callV (k' := 0) (n' := 0) (t := 12) (q := (RX12, TX12, 46)) [i_ v3] [] okX12_zero o_a0.1 rfl rfl lm_12_188 liX12_zero lqX12_zero (Nat.le_of_ble_eq_true rfl) (Nat.le_of_ble_eq_true rfl) (Nat.le_of_ble_eq_true rfl) (cat_of rfl) (Nat.le_of_ble_eq_true rfl) (Nat.zero_le _) (Nat.zero_le _) rfl dX12_loads_7 (sp_X12_zero o_a0 w2.1 w2.2.1 (fun Z'2 p2 => V_aload_n dX12_loads_10 rfl (G_12_10 o_a0.1 o_a0.qR10 lf_12_20 dX12_loads_11 (V_bipush dX12_loads_14 rfl (V_iload_n dX12_loads_16 rfl (V_imul dX12_loads_17 (V_aload_n dX12_loads_18 rfl (G_12_34 o_a0.1 o_a0.qR34 lf_12_69 dX12_loads_19 (V_iload_n dX12_loads_22 rfl (V_iald (t := 100) o_a0.qK34 (by decide) rfl (w2.2.2 Z'2 p2).1 (w2.2.2 Z'2 p2).2.1 (Nat.le_of_ble_eq_true rfl) dX12_loads_23 (V_iadd dX12_loads_24 (V_iconst dX12_loads_25 (V_iast (t := 100) o_a0.qK10 (by decide) (by decide) rfl (w2.2.2 Z'2 p2).2.2.1 (w2.2.2 Z'2 p2).2.2.2.1 (Nat.le_of_ble_eq_true rfl) dX12_loads_26 (V_nmZ (fun Z1 eZ1 => V_iconst dX12_loads_27 (V_istore (lv' := [some (r_ a0), some (i_ v1), some (i_ v2), some (i_ v3), some (i_ 0)]) dX12_loads_28 (Nat.le_of_ble_eq_true rfl) rfl (V_msk [true, true, true, true, true] rfl ((w2.2.2 Z'2 p2).2.2.2.2 Z1 eZ1))))))))))))))))))))))))))
set_option maxRecDepth 20000 in
theorem b_X12_loads_30 {k n : Nat} {x : Wx} {Z : Zt} {Q : Option Value → Wx → Zt → Prop} {a0 : Nat} {v1 : Int} {v2 : Int} {v3 : Int} {v4 : Int} (o_a0 : Is12 x a0)
    (h : 0 ≤ v1 ∧ v1 < 3000 ∧ (Rg v4 ∧ Rg (Z (a0 + 20) v1.toNat) ∧ (((Z (a0 + 20) v1.toNat ≤ v4) → (Q none x Z)) ∧ ((v4 < Z (a0 + 20) v1.toNat) → (0 ≤ (v1 + 1) + v4 ∧ (v1 + 1) + v4 < 3000 ∧ (0 ≤ (24 * v2) + v4 ∧ (24 * v2) + v4 < 648 ∧ (∀ Z1 : Zt, Z1 = up Z (a0 + 4) ((24 * v2) + v4).toNat (Z (a0 + 20) ((v1 + 1) + v4).toNat) → (0 ≤ (v1 + 3) + v4 ∧ (v1 + 3) + v4 < 3000 ∧ (0 ≤ (24 * v3) + v4 ∧ (24 * v3) + v4 < 648 ∧ (∀ Z2 : Zt, Z2 = up Z1 (a0 + 4) ((24 * v3) + v4).toNat (Z1 (a0 + 20) ((v1 + 3) + v4).toNat) → (V mX12_loads k n 30 [some (r_ a0), some (i_ v1), some (i_ v2), some (i_ v3), some (i_ (v4 + 1))] [] x Z2 Q))))))))))) :
    V mX12_loads k n 30 [some (r_ a0), some (i_ v1), some (i_ v2), some (i_ v3), some (i_ v4)] [] x Z Q :=
  V_iload dX12_loads_30 rfl (V_aload_n dX12_loads_32 rfl (G_12_34 o_a0.1 o_a0.qR34 lf_12_69 dX12_loads_33 (V_iload_n dX12_loads_36 rfl (V_iald (t := 100) o_a0.qK34 (by decide) rfl h.1 h.2.1 (Nat.le_of_ble_eq_true rfl) dX12_loads_37 (V_icmp_ge (tgt := 93) dX12_loads_38 rfl h.2.2.1 h.2.2.2.1 (fun c1 => V_ret dX12_loads_93 rfl (h.2.2.2.2.1 c1)) (fun c1 => V_aload_n dX12_loads_41 rfl (G_12_10 o_a0.1 o_a0.qR10 lf_12_20 dX12_loads_42 (V_bipush dX12_loads_45 rfl (V_iload_n dX12_loads_47 rfl (V_imul dX12_loads_48 (V_iload dX12_loads_49 rfl (V_iadd dX12_loads_51 (V_aload_n dX12_loads_52 rfl (G_12_34 o_a0.1 o_a0.qR34 lf_12_69 dX12_loads_53 (V_iload_n dX12_loads_56 rfl (V_iconst dX12_loads_57 (V_iadd dX12_loads_58 (V_iload dX12_loads_59 rfl (V_iadd dX12_loads_61 (V_iald (t := 100) o_a0.qK34 (by decide) rfl (h.2.2.2.2.2 c1).1 (h.2.2.2.2.2 c1).2.1 (Nat.le_of_ble_eq_true rfl) dX12_loads_62 (V_iast (t := 100) o_a0.qK10 (by decide) (by decide) rfl (h.2.2.2.2.2 c1).2.2.1 (h.2.2.2.2.2 c1).2.2.2.1 (Nat.le_of_ble_eq_true rfl) dX12_loads_63 (V_nmZ (fun Z1 eZ1 => V_aload_n dX12_loads_64 rfl (G_12_10 o_a0.1 o_a0.qR10 lf_12_20 dX12_loads_65 (V_bipush dX12_loads_68 rfl (V_iload_n dX12_loads_70 rfl (V_imul dX12_loads_71 (V_iload dX12_loads_72 rfl (V_iadd dX12_loads_74 (V_aload_n dX12_loads_75 rfl (G_12_34 o_a0.1 o_a0.qR34 lf_12_69 dX12_loads_76 (V_iload_n dX12_loads_79 rfl (V_iconst dX12_loads_80 (V_iadd dX12_loads_81 (V_iload dX12_loads_82 rfl (V_iadd dX12_loads_84 (V_iald (t := 100) o_a0.qK34 (by decide) rfl ((h.2.2.2.2.2 c1).2.2.2.2 Z1 eZ1).1 ((h.2.2.2.2.2 c1).2.2.2.2 Z1 eZ1).2.1 (Nat.le_of_ble_eq_true rfl) dX12_loads_85 (V_iast (t := 100) o_a0.qK10 (by decide) (by decide) rfl ((h.2.2.2.2.2 c1).2.2.2.2 Z1 eZ1).2.2.1 ((h.2.2.2.2.2 c1).2.2.2.2 Z1 eZ1).2.2.2.1 (Nat.le_of_ble_eq_true rfl) dX12_loads_86 (V_nmZ (fun Z2 eZ2 => V_iinc (lv' := [some (r_ a0), some (i_ v1), some (i_ v2), some (i_ v3), some (i_ (v4 + 1))]) dX12_loads_87 rfl (Nat.le_of_ble_eq_true rfl) rfl (V_goto (tgt := 30) dX12_loads_90 rfl (V_msk [true, true, true, true, true] rfl (((h.2.2.2.2.2 c1).2.2.2.2 Z1 eZ1).2.2.2.2 Z2 eZ2)))))))))))))))))))))))))))))))))))))))))))
theorem dX12_turned_0 : decode cX12_turned 0 = .ok (.iconst 3, 1) := by decide +kernel
theorem dX12_turned_1 : decode cX12_turned 1 = .ok (.istore_n 2, 1) := by decide +kernel
theorem dX12_turned_2 : decode cX12_turned 2 = .ok (.iload_n 2, 1) := by decide +kernel
theorem dX12_turned_3 : decode cX12_turned 3 = .ok (.iconst 5, 1) := by decide +kernel
theorem dX12_turned_4 : decode cX12_turned 4 = .ok (.if_icmp .ge 30, 3) := by decide +kernel
theorem dX12_turned_7 : decode cX12_turned 7 = .ok (.aload_n 0, 1) := by decide +kernel
theorem dX12_turned_8 : decode cX12_turned 8 = .ok (.getfield 69, 3) := by decide +kernel
theorem dX12_turned_11 : decode cX12_turned 11 = .ok (.iload_n 1, 1) := by decide +kernel
theorem dX12_turned_12 : decode cX12_turned 12 = .ok (.iload_n 2, 1) := by decide +kernel
theorem dX12_turned_13 : decode cX12_turned 13 = .ok (.iadd, 1) := by decide +kernel
theorem dX12_turned_14 : decode cX12_turned 14 = .ok (.aload_n 0, 1) := by decide +kernel
theorem dX12_turned_15 : decode cX12_turned 15 = .ok (.aload_n 0, 1) := by decide +kernel
theorem dX12_turned_16 : decode cX12_turned 16 = .ok (.getfield 69, 3) := by decide +kernel
theorem dX12_turned_19 : decode cX12_turned 19 = .ok (.iload_n 1, 1) := by decide +kernel
theorem dX12_turned_20 : decode cX12_turned 20 = .ok (.iload_n 2, 1) := by decide +kernel
theorem dX12_turned_21 : decode cX12_turned 21 = .ok (.iadd, 1) := by decide +kernel
theorem dX12_turned_22 : decode cX12_turned 22 = .ok (.iaload, 1) := by decide +kernel
theorem dX12_turned_23 : decode cX12_turned 23 = .ok (.ineg, 1) := by decide +kernel
theorem dX12_turned_24 : decode cX12_turned 24 = .ok (.invokevirtual 182, 3) := by decide +kernel
theorem dX12_turned_27 : decode cX12_turned 27 = .ok (.iastore, 1) := by decide +kernel
theorem dX12_turned_28 : decode cX12_turned 28 = .ok (.iinc 2 1, 3) := by decide +kernel
theorem dX12_turned_31 : decode cX12_turned 31 = .ok (.goto (-29), 3) := by decide +kernel
theorem dX12_turned_34 : decode cX12_turned 34 = .ok (.return_, 1) := by decide +kernel
set_option maxRecDepth 20000 in
theorem b_X12_turned_0 {k n : Nat} {x : Wx} {Z : Zt} {Q : Option Value → Wx → Zt → Prop} {a0 : Nat} {v1 : Int} 
    (h : V mX12_turned k n 2 [some (r_ a0), some (i_ v1), some (i_ 3)] [] x Z Q) :
    V mX12_turned k n 0 [some (r_ a0), some (i_ v1), none] [] x Z Q :=
  V_iconst dX12_turned_0 (V_istore_n (lv' := [some (r_ a0), some (i_ v1), some (i_ 3)]) dX12_turned_1 (Nat.le_of_ble_eq_true rfl) rfl (V_msk [true, true, true] rfl h))
set_option maxRecDepth 20000 in
theorem b_X12_turned_2 {k n : Nat} {x : Wx} {Z : Zt} {Q : Option Value → Wx → Zt → Prop} {a0 : Nat} {v1 : Int} {v2 : Int} (o_a0 : Is12 x a0)
    (h : Rg v2 ∧ (((5 ≤ v2) → (Q none x Z)) ∧ ((v2 < 5) → (0 ≤ v1 + v2 ∧ v1 + v2 < 3000 ∧ (Rg (-(Z (a0 + 20) (v1 + v2).toNat)) ∧ 0 < Z a0 11 ∧ Z a0 11 ≤ 13 ∧ (∀ Z1 : Zt, Z1 = up Z (a0 + 20) (v1 + v2).toNat ((-(Z (a0 + 20) (v1 + v2).toNat)) % Z a0 11) → (V mX12_turned k n 2 [some (r_ a0), some (i_ v1), some (i_ (v2 + 1))] [] x Z1 Q))))))) :
    V mX12_turned k n 2 [some (r_ a0), some (i_ v1), some (i_ v2)] [] x Z Q :=
  V_iload_n dX12_turned_2 rfl (V_iconst dX12_turned_3 (V_icmp_ge (tgt := 34) dX12_turned_4 rfl h.1 (rg_c rfl) (fun c1 => V_ret dX12_turned_34 rfl (h.2.1 c1)) (fun c1 => V_aload_n dX12_turned_7 rfl (G_12_34 o_a0.1 o_a0.qR34 lf_12_69 dX12_turned_8 (V_iload_n dX12_turned_11 rfl (V_iload_n dX12_turned_12 rfl (V_iadd dX12_turned_13 (V_aload_n dX12_turned_14 rfl (V_aload_n dX12_turned_15 rfl (G_12_34 o_a0.1 o_a0.qR34 lf_12_69 dX12_turned_16 (V_iload_n dX12_turned_19 rfl (V_iload_n dX12_turned_20 rfl (V_iadd dX12_turned_21 (V_iald (t := 100) o_a0.qK34 (by decide) rfl (h.2.2 c1).1 (h.2.2 c1).2.1 (Nat.le_of_ble_eq_true rfl) dX12_turned_22 (V_ineg dX12_turned_23 (V_callV (k' := 0) (n' := 0) (t := 12) (q := (RX12, TX12, 46)) [i_ (-(Z (a0 + 20) (v1 + v2).toNat))] [i_ (v1 + v2), r_ (a0 + 20)] okX12_mod o_a0.1 rfl rfl lm_12_182 liX12_mod lqX12_mod (Nat.le_of_ble_eq_true rfl) (Nat.le_of_ble_eq_true rfl) (Nat.le_of_ble_eq_true rfl) (cat_of rfl) (Nat.le_of_ble_eq_true rfl) (Nat.zero_le _) (Nat.zero_le _) rfl dX12_turned_24 (sp_X12_mod o_a0 (h.2.2 c1).2.2.1 (h.2.2 c1).2.2.2.1 (h.2.2 c1).2.2.2.2.1 (V_iast (t := 100) o_a0.qK34 (by decide) (by decide) rfl (h.2.2 c1).1 (h.2.2 c1).2.1 (Nat.le_of_ble_eq_true rfl) dX12_turned_27 (V_nmZ (fun Z1 eZ1 => V_iinc (lv' := [some (r_ a0), some (i_ v1), some (i_ (v2 + 1))]) dX12_turned_28 rfl (Nat.le_of_ble_eq_true rfl) rfl (V_goto (tgt := 2) dX12_turned_31 rfl (V_msk [true, true, true] rfl ((h.2.2 c1).2.2.2.2.2 Z1 eZ1)))))))))))))))))))))))
theorem dX12_areAlike_0 : decode cX12_areAlike 0 = .ok (.iconst 1, 1) := by decide +kernel
theorem dX12_areAlike_1 : decode cX12_areAlike 1 = .ok (.istore_n 3, 1) := by decide +kernel
theorem dX12_areAlike_2 : decode cX12_areAlike 2 = .ok (.iconst 0, 1) := by decide +kernel
theorem dX12_areAlike_3 : decode cX12_areAlike 3 = .ok (.istore 4, 2) := by decide +kernel
theorem dX12_areAlike_5 : decode cX12_areAlike 5 = .ok (.iload 4, 2) := by decide +kernel
theorem dX12_areAlike_7 : decode cX12_areAlike 7 = .ok (.iconst 5, 1) := by decide +kernel
theorem dX12_areAlike_8 : decode cX12_areAlike 8 = .ok (.if_icmp .ge 40, 3) := by decide +kernel
theorem dX12_areAlike_11 : decode cX12_areAlike 11 = .ok (.iload_n 3, 1) := by decide +kernel
theorem dX12_areAlike_12 : decode cX12_areAlike 12 = .ok (.ifCond .eq 28, 3) := by decide +kernel
theorem dX12_areAlike_15 : decode cX12_areAlike 15 = .ok (.aload_n 0, 1) := by decide +kernel
theorem dX12_areAlike_16 : decode cX12_areAlike 16 = .ok (.getfield 69, 3) := by decide +kernel
theorem dX12_areAlike_19 : decode cX12_areAlike 19 = .ok (.iload_n 1, 1) := by decide +kernel
theorem dX12_areAlike_20 : decode cX12_areAlike 20 = .ok (.iload 4, 2) := by decide +kernel
theorem dX12_areAlike_22 : decode cX12_areAlike 22 = .ok (.iadd, 1) := by decide +kernel
theorem dX12_areAlike_23 : decode cX12_areAlike 23 = .ok (.iaload, 1) := by decide +kernel
theorem dX12_areAlike_24 : decode cX12_areAlike 24 = .ok (.aload_n 0, 1) := by decide +kernel
theorem dX12_areAlike_25 : decode cX12_areAlike 25 = .ok (.getfield 69, 3) := by decide +kernel
theorem dX12_areAlike_28 : decode cX12_areAlike 28 = .ok (.iload_n 2, 1) := by decide +kernel
theorem dX12_areAlike_29 : decode cX12_areAlike 29 = .ok (.iload 4, 2) := by decide +kernel
theorem dX12_areAlike_31 : decode cX12_areAlike 31 = .ok (.iadd, 1) := by decide +kernel
theorem dX12_areAlike_32 : decode cX12_areAlike 32 = .ok (.iaload, 1) := by decide +kernel
theorem dX12_areAlike_33 : decode cX12_areAlike 33 = .ok (.if_icmp .ne 7, 3) := by decide +kernel
theorem dX12_areAlike_36 : decode cX12_areAlike 36 = .ok (.iconst 1, 1) := by decide +kernel
theorem dX12_areAlike_37 : decode cX12_areAlike 37 = .ok (.goto 4, 3) := by decide +kernel
theorem dX12_areAlike_40 : decode cX12_areAlike 40 = .ok (.iconst 0, 1) := by decide +kernel
theorem dX12_areAlike_41 : decode cX12_areAlike 41 = .ok (.istore_n 3, 1) := by decide +kernel
theorem dX12_areAlike_42 : decode cX12_areAlike 42 = .ok (.iinc 4 1, 3) := by decide +kernel
theorem dX12_areAlike_45 : decode cX12_areAlike 45 = .ok (.goto (-40), 3) := by decide +kernel
theorem dX12_areAlike_48 : decode cX12_areAlike 48 = .ok (.iload_n 3, 1) := by decide +kernel
theorem dX12_areAlike_49 : decode cX12_areAlike 49 = .ok (.ireturn, 1) := by decide +kernel
set_option maxRecDepth 20000 in
theorem b_X12_areAlike_0 {k n : Nat} {x : Wx} {Z : Zt} {Q : Option Value → Wx → Zt → Prop} {a0 : Nat} {v1 : Int} {v2 : Int} 
    (h : V mX12_areAlike k n 5 [some (r_ a0), some (i_ v1), some (i_ v2), some (i_ 1), some (i_ 0)] [] x Z Q) :
    V mX12_areAlike k n 0 [some (r_ a0), some (i_ v1), some (i_ v2), none, none] [] x Z Q :=
  V_iconst dX12_areAlike_0 (V_istore_n (lv' := [some (r_ a0), some (i_ v1), some (i_ v2), some (i_ 1), none]) dX12_areAlike_1 (Nat.le_of_ble_eq_true rfl) rfl (V_iconst dX12_areAlike_2 (V_istore (lv' := [some (r_ a0), some (i_ v1), some (i_ v2), some (i_ 1), some (i_ 0)]) dX12_areAlike_3 (Nat.le_of_ble_eq_true rfl) rfl (V_msk [true, true, true, true, true] rfl h))))
set_option maxRecDepth 20000 in
theorem b_X12_areAlike_5 {k n : Nat} {x : Wx} {Z : Zt} {Q : Option Value → Wx → Zt → Prop} {a0 : Nat} {v1 : Int} {v2 : Int} {v3 : Int} {v4 : Int} (o_a0 : Is12 x a0)
    (h : Rg v4 ∧ (((5 ≤ v4) → ((v3 = 0 ∨ v3 = 1) ∧ (Q (some (i_ v3)) x Z))) ∧ ((v4 < 5) → (Rg v3 ∧ (((v3 = 0) → (V mX12_areAlike k n 40 [some (r_ a0), some (i_ v1), some (i_ v2), none, some (i_ v4)] [] x Z Q)) ∧ ((v3 ≠ 0) → (0 ≤ v1 + v4 ∧ v1 + v4 < 3000 ∧ (0 ≤ v2 + v4 ∧ v2 + v4 < 3000 ∧ (Rg (Z (a0 + 20) (v1 + v4).toNat) ∧ Rg (Z (a0 + 20) (v2 + v4).toNat) ∧ (((Z (a0 + 20) (v1 + v4).toNat ≠ Z (a0 + 20) (v2 + v4).toNat) → (V mX12_areAlike k n 40 [some (r_ a0), some (i_ v1), some (i_ v2), none, some (i_ v4)] [] x Z Q)) ∧ ((Z (a0 + 20) (v1 + v4).toNat = Z (a0 + 20) (v2 + v4).toNat) → (V mX12_areAlike k n 41 [some (r_ a0), some (i_ v1), some (i_ v2), none, some (i_ v4)] [i_ 1] x Z Q)))))))))))) :
    V mX12_areAlike k n 5 [some (r_ a0), some (i_ v1), some (i_ v2), some (i_ v3), some (i_ v4)] [] x Z Q :=
  V_iload dX12_areAlike_5 rfl (V_iconst dX12_areAlike_7 (V_icmp_ge (tgt := 48) dX12_areAlike_8 rfl h.1 (rg_c rfl) (fun c1 => V_iload_n dX12_areAlike_48 rfl (V_iret (ty := .boolean) dX12_areAlike_49 rfl (nar_z (h.2.1 c1).1) (h.2.1 c1).2)) (fun c1 => V_iload_n dX12_areAlike_11 rfl (V_if_eq (tgt := 40) dX12_areAlike_12 rfl (h.2.2 c1).1 (fun c2 => V_msk [true, true, true, false, true] rfl ((h.2.2 c1).2.1 c2)) (fun c2 => V_aload_n dX12_areAlike_15 rfl (G_12_34 o_a0.1 o_a0.qR34 lf_12_69 dX12_areAlike_16 (V_iload_n dX12_areAlike_19 rfl (V_iload dX12_areAlike_20 rfl (V_iadd dX12_areAlike_22 (V_iald (t := 100) o_a0.qK34 (by decide) rfl ((h.2.2 c1).2.2 c2).1 ((h.2.2 c1).2.2 c2).2.1 (Nat.le_of_ble_eq_true rfl) dX12_areAlike_23 (V_aload_n dX12_areAlike_24 rfl (G_12_34 o_a0.1 o_a0.qR34 lf_12_69 dX12_areAlike_25 (V_iload_n dX12_areAlike_28 rfl (V_iload dX12_areAlike_29 rfl (V_iadd dX12_areAlike_31 (V_iald (t := 100) o_a0.qK34 (by decide) rfl ((h.2.2 c1).2.2 c2).2.2.1 ((h.2.2 c1).2.2 c2).2.2.2.1 (Nat.le_of_ble_eq_true rfl) dX12_areAlike_32 (V_icmp_ne (tgt := 40) dX12_areAlike_33 rfl ((h.2.2 c1).2.2 c2).2.2.2.2.1 ((h.2.2 c1).2.2 c2).2.2.2.2.2.1 (fun c3 => V_msk [true, true, true, false, true] rfl (((h.2.2 c1).2.2 c2).2.2.2.2.2.2.1 c3)) (fun c3 => V_iconst dX12_areAlike_36 (V_goto (tgt := 41) dX12_areAlike_37 rfl (V_msk [true, true, true, false, true] rfl (((h.2.2 c1).2.2 c2).2.2.2.2.2.2.2 c3)))))))))))))))))))))
set_option maxRecDepth 20000 in
theorem b_X12_areAlike_40 {k n : Nat} {x : Wx} {Z : Zt} {Q : Option Value → Wx → Zt → Prop} {a0 : Nat} {v1 : Int} {v2 : Int} {v4 : Int} 
    (h : V mX12_areAlike k n 41 [some (r_ a0), some (i_ v1), some (i_ v2), none, some (i_ v4)] [i_ 0] x Z Q) :
    V mX12_areAlike k n 40 [some (r_ a0), some (i_ v1), some (i_ v2), none, some (i_ v4)] [] x Z Q :=
  V_iconst dX12_areAlike_40 (V_msk [true, true, true, false, true] rfl h)
set_option maxRecDepth 20000 in
theorem b_X12_areAlike_41 {k n : Nat} {x : Wx} {Z : Zt} {Q : Option Value → Wx → Zt → Prop} {a0 : Nat} {v1 : Int} {v2 : Int} {v4 : Int} {t0 : Int} 
    (h : V mX12_areAlike k n 5 [some (r_ a0), some (i_ v1), some (i_ v2), some (i_ t0), some (i_ (v4 + 1))] [] x Z Q) :
    V mX12_areAlike k n 41 [some (r_ a0), some (i_ v1), some (i_ v2), none, some (i_ v4)] [i_ t0] x Z Q :=
  V_istore_n (lv' := [some (r_ a0), some (i_ v1), some (i_ v2), some (i_ t0), some (i_ v4)]) dX12_areAlike_41 (Nat.le_of_ble_eq_true rfl) rfl (V_iinc (lv' := [some (r_ a0), some (i_ v1), some (i_ v2), some (i_ t0), some (i_ (v4 + 1))]) dX12_areAlike_42 rfl (Nat.le_of_ble_eq_true rfl) rfl (V_goto (tgt := 5) dX12_areAlike_45 rfl (V_msk [true, true, true, true, true] rfl h)))
theorem dX12_toldOf_0 : decode cX12_toldOf 0 = .ok (.iload_n 2, 1) := by decide +kernel
theorem dX12_toldOf_1 : decode cX12_toldOf 1 = .ok (.iconst 0, 1) := by decide +kernel
theorem dX12_toldOf_2 : decode cX12_toldOf 2 = .ok (.iconst 4, 1) := by decide +kernel
theorem dX12_toldOf_3 : decode cX12_toldOf 3 = .ok (.invokestatic 129, 3) := by decide +kernel
theorem dX12_toldOf_6 : decode cX12_toldOf 6 = .ok (.ifCond .ne 5, 3) := by decide +kernel
theorem dX12_toldOf_9 : decode cX12_toldOf 9 = .ok (.iconst (-1), 1) := by decide +kernel
theorem dX12_toldOf_10 : decode cX12_toldOf 10 = .ok (.ireturn, 1) := by decide +kernel
theorem dX12_toldOf_11 : decode cX12_toldOf 11 = .ok (.iload_n 2, 1) := by decide +kernel
theorem dX12_toldOf_12 : decode cX12_toldOf 12 = .ok (.iconst 2, 1) := by decide +kernel
theorem dX12_toldOf_13 : decode cX12_toldOf 13 = .ok (.if_icmp .le 14, 3) := by decide +kernel
theorem dX12_toldOf_16 : decode cX12_toldOf 16 = .ok (.aload_n 0, 1) := by decide +kernel
theorem dX12_toldOf_17 : decode cX12_toldOf 17 = .ok (.getfield 69, 3) := by decide +kernel
theorem dX12_toldOf_20 : decode cX12_toldOf 20 = .ok (.iload_n 1, 1) := by decide +kernel
theorem dX12_toldOf_21 : decode cX12_toldOf 21 = .ok (.iload_n 2, 1) := by decide +kernel
theorem dX12_toldOf_22 : decode cX12_toldOf 22 = .ok (.iadd, 1) := by decide +kernel
theorem dX12_toldOf_23 : decode cX12_toldOf 23 = .ok (.iaload, 1) := by decide +kernel
theorem dX12_toldOf_24 : decode cX12_toldOf 24 = .ok (.goto 41, 3) := by decide +kernel
theorem dX12_toldOf_27 : decode cX12_toldOf 27 = .ok (.iload_n 2, 1) := by decide +kernel
theorem dX12_toldOf_28 : decode cX12_toldOf 28 = .ok (.aload_n 0, 1) := by decide +kernel
theorem dX12_toldOf_29 : decode cX12_toldOf 29 = .ok (.getfield 69, 3) := by decide +kernel
theorem dX12_toldOf_32 : decode cX12_toldOf 32 = .ok (.iload_n 1, 1) := by decide +kernel
theorem dX12_toldOf_33 : decode cX12_toldOf 33 = .ok (.iaload, 1) := by decide +kernel
theorem dX12_toldOf_34 : decode cX12_toldOf 34 = .ok (.if_icmp .ne 7, 3) := by decide +kernel
theorem dX12_toldOf_37 : decode cX12_toldOf 37 = .ok (.iconst 1, 1) := by decide +kernel
theorem dX12_toldOf_38 : decode cX12_toldOf 38 = .ok (.goto 27, 3) := by decide +kernel
theorem dX12_toldOf_41 : decode cX12_toldOf 41 = .ok (.iload_n 2, 1) := by decide +kernel
theorem dX12_toldOf_42 : decode cX12_toldOf 42 = .ok (.aload_n 0, 1) := by decide +kernel
theorem dX12_toldOf_43 : decode cX12_toldOf 43 = .ok (.getfield 69, 3) := by decide +kernel
theorem dX12_toldOf_46 : decode cX12_toldOf 46 = .ok (.iload_n 1, 1) := by decide +kernel
theorem dX12_toldOf_47 : decode cX12_toldOf 47 = .ok (.iaload, 1) := by decide +kernel
theorem dX12_toldOf_48 : decode cX12_toldOf 48 = .ok (.if_icmp .ge 16, 3) := by decide +kernel
theorem dX12_toldOf_51 : decode cX12_toldOf 51 = .ok (.aload_n 0, 1) := by decide +kernel
theorem dX12_toldOf_52 : decode cX12_toldOf 52 = .ok (.getfield 69, 3) := by decide +kernel
theorem dX12_toldOf_55 : decode cX12_toldOf 55 = .ok (.iload_n 1, 1) := by decide +kernel
theorem dX12_toldOf_56 : decode cX12_toldOf 56 = .ok (.iconst 1, 1) := by decide +kernel
theorem dX12_toldOf_57 : decode cX12_toldOf 57 = .ok (.iadd, 1) := by decide +kernel
theorem dX12_toldOf_58 : decode cX12_toldOf 58 = .ok (.iload_n 2, 1) := by decide +kernel
theorem dX12_toldOf_59 : decode cX12_toldOf 59 = .ok (.iadd, 1) := by decide +kernel
theorem dX12_toldOf_60 : decode cX12_toldOf 60 = .ok (.iaload, 1) := by decide +kernel
theorem dX12_toldOf_61 : decode cX12_toldOf 61 = .ok (.goto 4, 3) := by decide +kernel
theorem dX12_toldOf_64 : decode cX12_toldOf 64 = .ok (.iconst 0, 1) := by decide +kernel
theorem dX12_toldOf_65 : decode cX12_toldOf 65 = .ok (.ireturn, 1) := by decide +kernel
set_option maxRecDepth 20000 in
theorem b_X12_toldOf_0 {k n : Nat} {x : Wx} {Z : Zt} {Q : Option Value → Wx → Zt → Prop} {a0 : Nat} {v1 : Int} {v2 : Int} (o_a0 : Is12 x a0)
    (h : (Rg v2 ∧ Rg (0 : Int) ∧ Rg (4 : Int)) ∧ (∀ (r1 : Int), (((r1 = 1 ∧ (0 : Int) ≤ v2 ∧ v2 ≤ (4 : Int)) ∨ (r1 = 0 ∧ (v2 < (0 : Int) ∨ (4 : Int) < v2)))) → (Rg r1 ∧ (((r1 ≠ 0) → (Rg v2 ∧ (((v2 ≤ 2) → (0 ≤ v1 ∧ v1 < 3000 ∧ (Rg (Z (a0 + 20) v1.toNat) ∧ (((v2 ≠ Z (a0 + 20) v1.toNat) → (((Z (a0 + 20) v1.toNat ≤ v2) → (Q (some (i_ 0)) x Z)) ∧ ((v2 < Z (a0 + 20) v1.toNat) → (0 ≤ (v1 + 1) + v2 ∧ (v1 + 1) + v2 < 3000 ∧ (Q (some (i_ (Z (a0 + 20) ((v1 + 1) + v2).toNat))) x Z))))) ∧ ((v2 = Z (a0 + 20) v1.toNat) → (Q (some (i_ 1)) x Z)))))) ∧ ((2 < v2) → (0 ≤ v1 + v2 ∧ v1 + v2 < 3000 ∧ (Q (some (i_ (Z (a0 + 20) (v1 + v2).toNat))) x Z)))))) ∧ ((r1 = 0) → (Q (some (i_ (-1))) x Z)))))) :
    V mX12_toldOf k n 0 [some (r_ a0), some (i_ v1), some (i_ v2)] [] x Z Q :=
  V_iload_n dX12_toldOf_0 rfl (V_iconst dX12_toldOf_1 (V_iconst dX12_toldOf_2 (V_callS (k' := 0) (n' := 0) [i_ v2, i_ 0, i_ 4] [] okX12_isIn lm_12_129 lsX12_isIn (Nat.le_of_ble_eq_true rfl) (Nat.le_of_ble_eq_true rfl) (Nat.le_of_ble_eq_true rfl) (cat_of rfl) (Nat.le_of_ble_eq_true rfl) (Nat.zero_le _) (Nat.zero_le _) rfl dX12_toldOf_3 (sp_X12_isIn  h.1 (fun r1 p1 => V_if_ne (tgt := 11) dX12_toldOf_6 rfl (h.2 r1 p1).1 (fun c1 => V_iload_n dX12_toldOf_11 rfl (V_iconst dX12_toldOf_12 (V_icmp_le (tgt := 27) dX12_toldOf_13 rfl ((h.2 r1 p1).2.1 c1).1 (rg_c rfl) (fun c2 => V_iload_n dX12_toldOf_27 rfl (V_aload_n dX12_toldOf_28 rfl (G_12_34 o_a0.1 o_a0.qR34 lf_12_69 dX12_toldOf_29 (V_iload_n dX12_toldOf_32 rfl (V_iald (t := 100) o_a0.qK34 (by decide) rfl (((h.2 r1 p1).2.1 c1).2.1 c2).1 (((h.2 r1 p1).2.1 c1).2.1 c2).2.1 (Nat.le_of_ble_eq_true rfl) dX12_toldOf_33 (V_icmp_ne (tgt := 41) dX12_toldOf_34 rfl ((h.2 r1 p1).2.1 c1).1 (((h.2 r1 p1).2.1 c1).2.1 c2).2.2.1 (fun c3 => V_iload_n dX12_toldOf_41 rfl (V_aload_n dX12_toldOf_42 rfl (G_12_34 o_a0.1 o_a0.qR34 lf_12_69 dX12_toldOf_43 (V_iload_n dX12_toldOf_46 rfl (V_iald (t := 100) o_a0.qK34 (by decide) rfl (((h.2 r1 p1).2.1 c1).2.1 c2).1 (((h.2 r1 p1).2.1 c1).2.1 c2).2.1 (Nat.le_of_ble_eq_true rfl) dX12_toldOf_47 (V_icmp_ge (tgt := 64) dX12_toldOf_48 rfl ((h.2 r1 p1).2.1 c1).1 (((h.2 r1 p1).2.1 c1).2.1 c2).2.2.1 (fun c4 => V_iconst dX12_toldOf_64 (V_iret (ty := .int) dX12_toldOf_65 rfl rfl (((((h.2 r1 p1).2.1 c1).2.1 c2).2.2.2.1 c3).1 c4))) (fun c4 => V_aload_n dX12_toldOf_51 rfl (G_12_34 o_a0.1 o_a0.qR34 lf_12_69 dX12_toldOf_52 (V_iload_n dX12_toldOf_55 rfl (V_iconst dX12_toldOf_56 (V_iadd dX12_toldOf_57 (V_iload_n dX12_toldOf_58 rfl (V_iadd dX12_toldOf_59 (V_iald (t := 100) o_a0.qK34 (by decide) rfl (((((h.2 r1 p1).2.1 c1).2.1 c2).2.2.2.1 c3).2 c4).1 (((((h.2 r1 p1).2.1 c1).2.1 c2).2.2.2.1 c3).2 c4).2.1 (Nat.le_of_ble_eq_true rfl) dX12_toldOf_60 (V_goto (tgt := 65) dX12_toldOf_61 rfl (V_iret (ty := .int) dX12_toldOf_65 rfl rfl (((((h.2 r1 p1).2.1 c1).2.1 c2).2.2.2.1 c3).2 c4).2.2)))))))))))))))) (fun c3 => V_iconst dX12_toldOf_37 (V_goto (tgt := 65) dX12_toldOf_38 rfl (V_iret (ty := .int) dX12_toldOf_65 rfl rfl ((((h.2 r1 p1).2.1 c1).2.1 c2).2.2.2.2 c3)))))))))) (fun c2 => V_aload_n dX12_toldOf_16 rfl (G_12_34 o_a0.1 o_a0.qR34 lf_12_69 dX12_toldOf_17 (V_iload_n dX12_toldOf_20 rfl (V_iload_n dX12_toldOf_21 rfl (V_iadd dX12_toldOf_22 (V_iald (t := 100) o_a0.qK34 (by decide) rfl (((h.2 r1 p1).2.1 c1).2.2 c2).1 (((h.2 r1 p1).2.1 c1).2.2 c2).2.1 (Nat.le_of_ble_eq_true rfl) dX12_toldOf_23 (V_goto (tgt := 65) dX12_toldOf_24 rfl (V_iret (ty := .int) dX12_toldOf_65 rfl rfl (((h.2 r1 p1).2.1 c1).2.2 c2).2.2))))))))))) (fun c1 => V_iconst dX12_toldOf_9 (V_iret (ty := .int) dX12_toldOf_10 rfl rfl ((h.2 r1 p1).2.2 c1))))))))
/-- a class as it is kept: degree, U's numbers, V's numbers -/
def kcl (A : UV) : Nat → Int := fun i => if i = 0 then pd A.1 else if i = 1 then (if 0 < pd A.1 then A.1 0 else 0) else if i = 2 then (if 1 < pd A.1 then A.1 1 else 0) else if i = 3 then A.2 0 else A.2 1
def KC (Z : Zt) (b c : Nat) (A : UV) : Prop := ∀ i : Nat, i < 5 → Z (b + 20) (c + i) = kcl A i
/-- only the class at c is another -/
def KF (b c : Nat) (Z Z' : Zt) : Prop := (∀ d, d ≠ b + 20 → Z' d = Z d) ∧ ∀ i : Nat, (i < c ∨ c + 5 ≤ i) → Z' (b + 20) i = Z (b + 20) i
theorem KF.rf {b c : Nat} {Z : Zt} : KF b c Z Z := ⟨fun _ _ => rfl, fun _ _ => rfl⟩
theorem KF.tr {b c : Nat} {Z Z1 Z2 : Zt} (h : KF b c Z Z1) (g : KF b c Z1 Z2) : KF b c Z Z2 := ⟨fun d hd => (g.1 d hd).trans (h.1 d hd), fun i hi => (g.2 i hi).trans (h.2 i hi)⟩
theorem KF.put {b c i : Nat} {v : Int} {Z Z1 : Zt} (hi : i < 5) (e : Z1 = up Z (b + 20) (c + i) v) : KF b c Z Z1 := ⟨fun d hd => by rw [e, up_row _ _ _ _ _ hd], fun j hj => by rw [e, up_at, if_neg (by omega)]⟩
theorem KC.kf {b c d : Nat} {Z Z1 : Zt} {A : UV} (h : KC Z b d A) (hf : KF b c Z Z1) (hd : d + 5 ≤ c ∨ c + 5 ≤ d) : KC Z1 b d A := fun i hi => by rw [hf.2 _ (by omega)]; exact h i hi
theorem KC.ro {b c : Nat} {Z Z1 : Zt} {A : UV} (h : KC Z b c A) (e : Z1 (b + 20) = Z (b + 20)) : KC Z1 b c A := fun i hi => by rw [e]; exact h i hi
theorem sp_X12_noClass {k n : Nat} {x : Wx} {Z : Zt} {Q : Option Value → Wx → Zt → Prop} {b : Nat} {c : Int} (o : Is12 x b) (hc : 0 ≤ c ∧ c ≤ 2995) (h : ∀ Z' : Zt, ((∀ i : Nat, i < 5 → Z' (b + 20) (c.toNat + i) = 0) ∧ KF b c.toNat Z Z') → Q none x Z') : V mX12_noClass k n 0 [some (r_ b), some (i_ c), none] [] x Z Q := by
  obtain ⟨c', rfl⟩ : ∃ c' : Nat, c = (c' : Int) := ⟨c.toNat, by omega⟩
  rw [Int.toNat_natCast] at h
  have lp : ∀ (m i : Nat) (Z1 : Zt), i + m = 5 → KF b c' Z Z1 → (∀ j : Nat, j < i → Z1 (b + 20) (c' + j) = 0) → V mX12_noClass k n 2 [some (r_ b), some (i_ (c' : Int)), some (i_ (i : Int))] [] x Z1 Q := by
    intro m
    induction m with
    | zero =>
      intro i Z1 hi hf hz
      exact b_X12_noClass_2 o ⟨⟨by omega, by omega⟩, fun _ => h Z1 ⟨fun j hj => hz j (by omega), hf⟩, fun cc => by omega⟩
    | succ m ih =>
      intro i Z1 hi hf hz
      refine b_X12_noClass_2 o ⟨⟨by omega, by omega⟩, fun cc => by omega, fun _ => ⟨by omega, by omega, fun Z2 e2 => ?_⟩⟩
      rw [show ((c' : Int) + (i : Int)).toNat = c' + i from by omega] at e2
      refine ih (i + 1) Z2 (by omega) (hf.tr (KF.put (by omega) e2)) (fun j hj => ?_)
      rw [e2, up_at]
      by_cases cj : j = i
      · rw [if_pos (by omega)]
      · rw [if_neg (by omega)]; exact hz j (by omega)
  exact b_X12_noClass_0 (lp 5 0 Z rfl KF.rf (fun j hj => absurd hj (Nat.not_lt_zero j)))
theorem kcl_0 {p g : Int} (hp : IsP p) (hg : 1 ≤ g) : ∀ i : Nat, i < 5 → kcl czero i = 0 := by
  have hc := czero_ok (p := p) (g := g) hp hg
  have e : pd (czero : UV).1 = 0 := pd_eq (m := 0) (by decide) (by show (1 : Int) ≠ 0; decide) (fun i hi => by show (if i = 0 then (1 : Int) else 0) = 0; rw [if_neg (by omega)])
  intro i hi
  unfold kcl
  rw [e]
  match i, hi with
  | 0, _ => rfl
  | 1, _ => rfl
  | 2, _ => rfl
  | 3, _ => rfl
  | 4, _ => rfl
theorem sp_X12_isNone {k n : Nat} {x : Wx} {Z : Zt} {Q : Option Value → Wx → Zt → Prop} {b : Nat} {c : Int} (o : Is12 x b) {A : UV} (hc : 0 ≤ c ∧ c ≤ 2995) (hK : KC Z b c.toNat A) (h : Q (some (i_ (if pd A.1 = 0 then 1 else 0))) x Z) : V mX12_isNone k n 0 [some (r_ b), some (i_ c)] [] x Z Q := by
  have e : Z (b + 20) c.toNat = pd A.1 := hK 0 (by decide)
  have g1 := pd_ge A.1
  have g2 := pd_lt A.1
  refine b_X12_isNone_0 o ?_
  rw [e]
  refine ⟨by omega, by omega, ⟨by omega, by omega⟩, fun cc => ?_, fun cc => ?_⟩
  · rw [if_neg cc] at h; exact h
  · rw [if_pos cc] at h; exact h
theorem sp_X12_copiesClass {k n : Nat} {x : Wx} {Z : Zt} {Q : Option Value → Wx → Zt → Prop} {b : Nat} {c d : Int} (o : Is12 x b) {A : UV} (hc : (0 ≤ c ∧ c ≤ 2995) ∧ (0 ≤ d ∧ d ≤ 2995) ∧ (c + 5 ≤ d ∨ d + 5 ≤ c)) (hK : KC Z b c.toNat A) (h : ∀ Z' : Zt, (KC Z' b d.toNat A ∧ KF b d.toNat Z Z') → Q none x Z') : V mX12_copiesClass k n 0 [some (r_ b), some (i_ c), some (i_ d), none] [] x Z Q := by
  obtain ⟨c', rfl⟩ : ∃ c' : Nat, c = (c' : Int) := ⟨c.toNat, by omega⟩
  obtain ⟨d', rfl⟩ : ∃ d' : Nat, d = (d' : Int) := ⟨d.toNat, by omega⟩
  rw [Int.toNat_natCast] at h hK
  have lp : ∀ (m i : Nat) (Z1 : Zt), i + m = 5 → KF b d' Z Z1 → (∀ j : Nat, j < i → Z1 (b + 20) (d' + j) = kcl A j) → V mX12_copiesClass k n 2 [some (r_ b), some (i_ (c' : Int)), some (i_ (d' : Int)), some (i_ (i : Int))] [] x Z1 Q := by
    intro m
    induction m with
    | zero =>
      intro i Z1 hi hf hz
      exact b_X12_copiesClass_2 o ⟨⟨by omega, by omega⟩, fun _ => h Z1 ⟨fun j hj => hz j (by omega), hf⟩, fun cc => by omega⟩
    | succ m ih =>
      intro i Z1 hi hf hz
      refine b_X12_copiesClass_2 o ⟨⟨by omega, by omega⟩, fun cc => by omega, fun _ => ⟨by omega, by omega, by omega, by omega, fun Z2 e2 => ?_⟩⟩
      rw [show ((c' : Int) + (i : Int)).toNat = c' + i from by omega, show ((d' : Int) + (i : Int)).toNat = d' + i from by omega, hf.2 (c' + i) (by omega), hK i (by omega)] at e2
      refine ih (i + 1) Z2 (by omega) (hf.tr (KF.put (by omega) e2)) (fun j hj => ?_)
      rw [e2, up_at]
      by_cases cj : j = i
      · rw [if_pos (by omega), cj]
      · rw [if_neg (by omega)]; exact hz j (by omega)
  exact b_X12_copiesClass_0 (lp 5 0 Z rfl KF.rf (fun j hj => absurd hj (Nat.not_lt_zero j)))
theorem kcl_rg {p g : Int} (hp : IsP p) (hg : g ≤ 2) {A : UV} (hA : RP p g A) (i : Nat) : 0 ≤ kcl A i ∧ kcl A i ≤ 13 := by
  have hpr := hp.rg
  obtain ⟨⟨i1, _⟩, ⟨i2, _⟩, h0, h1, _⟩ := hA
  have a0 := i1 0
  have a1 := i1 1
  have b0 := i2 0
  have b1 := i2 1
  unfold kcl
  repeat' split
  all_goals omega
/-- a class is told by its five numbers -/
theorem kcl_inj {p g : Int} (hp : IsP p) (hg : g ≤ 2) {A B : UV} (hA : RP p g A) (hB : RP p g B) (h : ∀ i : Nat, i < 5 → kcl A i = kcl B i) : A = B := by
  have h0 : pd A.1 = pd B.1 := h 0 (by decide)
  have h1 : (if 0 < pd A.1 then A.1 0 else 0) = (if 0 < pd B.1 then B.1 0 else 0) := h 1 (by decide)
  have h2 : (if 1 < pd A.1 then A.1 1 else 0) = (if 1 < pd B.1 then B.1 1 else 0) := h 2 (by decide)
  have h3 : A.2 0 = B.2 0 := h 3 (by decide)
  have h4 : A.2 1 = B.2 1 := h 4 (by decide)
  obtain ⟨⟨_, fa⟩, ⟨_, fa2⟩, a0, a1, a2, a3⟩ := hA
  obtain ⟨⟨_, fb⟩, ⟨_, fb2⟩, b0, b1, b2, b3⟩ := hB
  have e1 : A.1 = B.1 := funext fun i => by
    by_cases c : pd A.1 < i
    · rw [pd_hi fa i c, pd_hi fb i (by omega)]
    · by_cases c2 : pd A.1 = i
      · have ei : i = (pd A.1).toNat := by omega
        have ei2 : i = (pd B.1).toNat := by omega
        rw [ei, a3, ← ei, ei2, b3]
      · have hc : i = 0 ∨ i = 1 := by omega
        rcases hc with rfl | rfl
        · rw [if_pos (by omega), if_pos (by omega)] at h1; exact h1
        · rw [if_pos (by omega), if_pos (by omega)] at h2; exact h2
  have e2 : A.2 = B.2 := funext fun i => by
    by_cases c : 2 ≤ i
    · rw [pd_hi fa2 i (by omega), pd_hi fb2 i (by omega)]
    · have hc : i = 0 ∨ i = 1 := by omega
      rcases hc with rfl | rfl
      · exact h3
      · exact h4
  exact Prod.ext e1 e2
theorem sp_X12_areAlike {k n : Nat} {x : Wx} {Z : Zt} {Q : Option Value → Wx → Zt → Prop} {b : Nat} {c d : Int} (o : Is12 x b) {p g : Int} {A B : UV} (hp : IsP p ∧ g ≤ 2) (hA : RP p g A ∧ RP p g B) (hc : (0 ≤ c ∧ c ≤ 2995) ∧ (0 ≤ d ∧ d ≤ 2995)) (hK : KC Z b c.toNat A ∧ KC Z b d.toNat B) (h : ∀ r : Int, ((r = 1 ∧ A = B) ∨ (r = 0 ∧ A ≠ B)) → Q (some (i_ r)) x Z) : V mX12_areAlike k n 0 [some (r_ b), some (i_ c), some (i_ d), none, none] [] x Z Q := by
  obtain ⟨c', rfl⟩ : ∃ c' : Nat, c = (c' : Int) := ⟨c.toNat, by omega⟩
  obtain ⟨d', rfl⟩ : ∃ d' : Nat, d = (d' : Int) := ⟨d.toNat, by omega⟩
  rw [Int.toNat_natCast, Int.toNat_natCast] at hK
  have lp : ∀ (m i : Nat) (v : Int), i + m = 5 → (v = 1 ∧ ∀ j : Nat, j < i → kcl A j = kcl B j) ∨ (v = 0 ∧ A ≠ B) → V mX12_areAlike k n 5 [some (r_ b), some (i_ (c' : Int)), some (i_ (d' : Int)), some (i_ v), some (i_ (i : Int))] [] x Z Q := by
    intro m
    induction m with
    | zero =>
      intro i v hi hv
      refine b_X12_areAlike_5 o ⟨⟨by omega, by omega⟩, fun _ => ⟨by omega, h v ?_⟩, fun cc => by omega⟩
      rcases hv with ⟨e, e2⟩ | e
      · exact Or.inl ⟨e, kcl_inj hp.1 hp.2 hA.1 hA.2 (fun j hj => e2 j (by omega))⟩
      · exact Or.inr e
    | succ m ih =>
      intro i v hi hv
      have e1 := hK.1 i (by omega)
      have e2 := hK.2 i (by omega)
      have r1 := kcl_rg hp.1 hp.2 hA.1 i
      have r2 := kcl_rg hp.1 hp.2 hA.2 i
      refine b_X12_areAlike_5 o ?_
      rw [show ((c' : Int) + (i : Int)).toNat = c' + i from by omega, show ((d' : Int) + (i : Int)).toNat = d' + i from by omega, e1, e2]
      refine ⟨⟨by omega, by omega⟩, fun cc => by omega, fun _ => ⟨⟨by omega, by omega⟩, fun c0 => b_X12_areAlike_40 (b_X12_areAlike_41 (ih (i + 1) 0 (by omega) (Or.inr ⟨rfl, ?_⟩))), fun c0 => ⟨by omega, by omega, by omega, by omega, ⟨by omega, by omega⟩, ⟨by omega, by omega⟩, fun c1 => b_X12_areAlike_40 (b_X12_areAlike_41 (ih (i + 1) 0 (by omega) (Or.inr ⟨rfl, fun e => c1 (by rw [e])⟩))), fun c1 => b_X12_areAlike_41 (ih (i + 1) 1 (by omega) (Or.inl ⟨rfl, fun j hj => ?_⟩))⟩⟩⟩
      · rcases hv with e | e
        · omega
        · exact e.2
      · rcases hv with e | e
        · by_cases cj : j = i
          · rw [cj]; exact c1
          · exact e.2 j (by omega)
        · omega
  exact b_X12_areAlike_0 (lp 5 0 1 rfl (Or.inl ⟨rfl, fun j hj => absurd hj (Nat.not_lt_zero j)⟩))
theorem sp_X12_turned {k n : Nat} {x : Wx} {Z : Zt} {Q : Option Value → Wx → Zt → Prop} {b : Nat} {c : Int} (o : Is12 x b) {p g : Int} {A : UV} (hp : (IsP p ∧ Z b 11 = p) ∧ g ≤ 2) (hA : RP p g A) (hc : 0 ≤ c ∧ c ≤ 2995) (hK : KC Z b c.toNat A) (h : ∀ Z' : Zt, (KC Z' b c.toNat (cneg p A) ∧ KF b c.toNat Z Z') → Q none x Z') : V mX12_turned k n 0 [some (r_ b), some (i_ c), none] [] x Z Q := by
  obtain ⟨⟨hp, hb⟩, hg⟩ := hp
  have hpr := hp.rg
  obtain ⟨c', rfl⟩ : ∃ c' : Nat, c = (c' : Int) := ⟨c.toNat, by omega⟩
  rw [Int.toNat_natCast] at hK h
  have kn : ∀ i : Nat, kcl (cneg p A) i = if i < 3 then kcl A i else (-(kcl A i)) % p := fun i => by
    show (if i = 0 then pd A.1 else if i = 1 then (if 0 < pd A.1 then A.1 0 else 0) else if i = 2 then (if 1 < pd A.1 then A.1 1 else 0) else if i = 3 then (A.2 0 * -1) % p else (A.2 1 * -1) % p) = _
    unfold kcl
    by_cases c0 : i = 0
    · rw [if_pos c0, if_pos (by omega), if_pos c0]
    · by_cases c1 : i = 1
      · rw [if_neg c0, if_pos c1, if_pos (show i < 3 by omega), if_neg c0, if_pos c1]
      · by_cases c2 : i = 2
        · rw [if_neg c0, if_neg c1, if_pos c2, if_pos (show i < 3 by omega), if_neg c0, if_neg c1, if_pos c2]
        · rw [if_neg c0, if_neg c1, if_neg c2, if_neg (show ¬ i < 3 by omega), if_neg c0, if_neg c1, if_neg c2]
          split
          · rw [Int.mul_neg, Int.mul_one]
          · rw [Int.mul_neg, Int.mul_one]
  have lp : ∀ (m i : Nat) (Z1 : Zt), i + m = 5 → 3 ≤ i → KF b c' Z Z1 → (∀ j : Nat, j < 5 → Z1 (b + 20) (c' + j) = if j < i then kcl (cneg p A) j else kcl A j) → V mX12_turned k n 2 [some (r_ b), some (i_ (c' : Int)), some (i_ (i : Int))] [] x Z1 Q := by
    intro m
    induction m with
    | zero =>
      intro i Z1 hi h3 hf hz
      exact b_X12_turned_2 o ⟨⟨by omega, by omega⟩, fun _ => h Z1 ⟨fun j hj => by rw [hz j hj, if_pos (by omega)], hf⟩, fun cc => by omega⟩
    | succ m ih =>
      intro i Z1 hi h3 hf hz
      have b1 : Z1 b 11 = p := by rw [hf.1 b (by omega)]; exact hb
      have e := hz i (by omega)
      rw [if_neg (by omega)] at e
      have r := kcl_rg hp hg hA i
      refine b_X12_turned_2 o ?_
      rw [show ((c' : Int) + (i : Int)).toNat = c' + i from by omega, e, b1]
      refine ⟨⟨by omega, by omega⟩, fun cc => by omega, fun _ => ⟨by omega, by omega, ⟨by omega, by omega⟩, by omega, by omega, fun Z2 e2 => ?_⟩⟩
      have := ih (i + 1) Z2 (by omega) (by omega) (hf.tr (KF.put (by omega) e2)) (fun j hj => ?_)
      · exact this
      · rw [e2, up_at]
        by_cases cj : j = i
        · rw [if_pos (by omega), if_pos (by omega), cj, kn, if_neg (by omega)]
        · rw [if_neg (by omega), hz j hj]
          by_cases c2 : j < i
          · rw [if_pos c2, if_pos (by omega)]
          · rw [if_neg c2, if_neg (by omega)]
  have := lp 2 3 Z rfl (Nat.le_refl 3) KF.rf (fun j hj => by
    rw [hK j hj]
    by_cases c3 : j < 3
    · rw [if_pos c3, kn, if_pos c3]
    · rw [if_neg c3])
  exact b_X12_turned_0 this
theorem sp_X12_toldOf {k n : Nat} {x : Wx} {Z : Zt} {Q : Option Value → Wx → Zt → Prop} {b : Nat} {c w : Int} (o : Is12 x b) {p g : Int} {A : UV} (hp : IsP p ∧ g ≤ 2) (hA : RP p g A) (hc : 0 ≤ c ∧ c ≤ 2995) (hw : Rg w) (hK : KC Z b c.toNat A) (h : Q (some (i_ (if 0 ≤ w ∧ w ≤ 4 then ptV A w else -1))) x Z) : V mX12_toldOf k n 0 [some (r_ b), some (i_ c), some (i_ w)] [] x Z Q := by
  obtain ⟨c', rfl⟩ : ∃ c' : Nat, c = (c' : Int) := ⟨c.toNat, by omega⟩
  rw [Int.toNat_natCast] at hK
  obtain ⟨⟨_, fa⟩, ⟨_, fa2⟩, a0, a1, a2, a3⟩ := id hA
  have e0 : Z (b + 20) c' = pd A.1 := hK 0 (by decide)
  refine b_X12_toldOf_0 o ?_
  rw [Int.toNat_natCast, e0]
  refine ⟨⟨hw, rg_z, ⟨by decide, by decide⟩⟩, fun r1 h1 => ⟨⟨by omega, by omega⟩, fun c1 => ?_, fun c1 => ?_⟩⟩
  · rw [if_pos (by omega)] at h
    unfold ptV at h
    refine ⟨hw, fun c2 => ⟨by omega, by omega, ⟨by omega, by omega⟩, fun c3 => ⟨fun c4 => ?_, fun c4 => ⟨by omega, by omega, ?_⟩⟩, fun c3 => ?_⟩, fun c2 => ⟨by omega, by omega, ?_⟩⟩
    · rw [if_pos (by omega), pd_hi fa _ (by omega)] at h; exact h
    · rw [if_pos (by omega)] at h
      have hw2 : w = 0 ∨ w = 1 := by omega
      rcases hw2 with rfl | rfl
      · have e : Z (b + 20) (c' + 1) = (if 0 < pd A.1 then A.1 0 else 0) := hK 1 (by decide)
        rw [if_pos c4] at e
        rw [show ((c' : Int) + 1 + 0).toNat = c' + 1 from by omega, e]; exact h
      · have e : Z (b + 20) (c' + 2) = (if 1 < pd A.1 then A.1 1 else 0) := hK 2 (by decide)
        rw [if_pos c4] at e
        rw [show ((c' : Int) + 1 + 1).toNat = c' + 2 from by omega, e]; exact h
    · rw [if_pos (by omega), c3, a3] at h; exact h
    · rw [if_neg (by omega)] at h
      have hw2 : w = 3 ∨ w = 4 := by omega
      rcases hw2 with rfl | rfl
      · have e : Z (b + 20) (c' + 3) = A.2 0 := hK 3 (by decide)
        rw [show ((c' : Int) + 3).toNat = c' + 3 from by omega, e]; exact h
      · have e : Z (b + 20) (c' + 4) = A.2 1 := hK 4 (by decide)
        rw [show ((c' : Int) + 4).toNat = c' + 4 from by omega, e]; exact h
  · rw [if_neg (by omega)] at h; exact h
