/-! ===== the reference: times, added, same ===== -/
theorem dX12_times_0 : decode cX12_times 0 = .ok (.iload_n 3, 1) := by decide +kernel
theorem dX12_times_1 : decode cX12_times 1 = .ok (.bipush (-99), 2) := by decide +kernel
theorem dX12_times_3 : decode cX12_times 3 = .ok (.bipush 99, 2) := by decide +kernel
theorem dX12_times_5 : decode cX12_times 5 = .ok (.invokestatic 129, 3) := by decide +kernel
theorem dX12_times_8 : decode cX12_times 8 = .ok (.ifCond .eq 12, 3) := by decide +kernel
theorem dX12_times_11 : decode cX12_times 11 = .ok (.aload_n 0, 1) := by decide +kernel
theorem dX12_times_12 : decode cX12_times 12 = .ok (.iload_n 1, 1) := by decide +kernel
theorem dX12_times_13 : decode cX12_times 13 = .ok (.iload_n 2, 1) := by decide +kernel
theorem dX12_times_14 : decode cX12_times 14 = .ok (.invokevirtual 345, 3) := by decide +kernel
theorem dX12_times_17 : decode cX12_times 17 = .ok (.ifCond .ne 5, 3) := by decide +kernel
theorem dX12_times_20 : decode cX12_times 20 = .ok (.iconst (-1), 1) := by decide +kernel
theorem dX12_times_21 : decode cX12_times 21 = .ok (.ireturn, 1) := by decide +kernel
theorem dX12_times_22 : decode cX12_times 22 = .ok (.aload_n 0, 1) := by decide +kernel
theorem dX12_times_23 : decode cX12_times 23 = .ok (.sipush 2900, 3) := by decide +kernel
theorem dX12_times_26 : decode cX12_times 26 = .ok (.invokevirtual 387, 3) := by decide +kernel
theorem dX12_times_29 : decode cX12_times 29 = .ok (.aload_n 0, 1) := by decide +kernel
theorem dX12_times_30 : decode cX12_times 30 = .ok (.sipush 2900, 3) := by decide +kernel
theorem dX12_times_33 : decode cX12_times 33 = .ok (.iload_n 3, 1) := by decide +kernel
theorem dX12_times_34 : decode cX12_times 34 = .ok (.sipush 2910, 3) := by decide +kernel
theorem dX12_times_37 : decode cX12_times 37 = .ok (.invokevirtual 384, 3) := by decide +kernel
theorem dX12_times_40 : decode cX12_times 40 = .ok (.aload_n 0, 1) := by decide +kernel
theorem dX12_times_41 : decode cX12_times 41 = .ok (.sipush 2910, 3) := by decide +kernel
theorem dX12_times_44 : decode cX12_times 44 = .ok (.iload 4, 2) := by decide +kernel
theorem dX12_times_46 : decode cX12_times 46 = .ok (.invokevirtual 390, 3) := by decide +kernel
theorem dX12_times_49 : decode cX12_times 49 = .ok (.ireturn, 1) := by decide +kernel
set_option maxRecDepth 20000 in
theorem b_X12_times_0 {k n : Nat} {x : Wx} {Z : Zt} {Q : Option Value → Wx → Zt → Prop} {a0 : Nat} {v1 : Int} {v2 : Int} {v3 : Int} {v4 : Int} (o_a0 : Is12 x a0)
    (h : (Rg v3 ∧ Rg (-99 : Int) ∧ Rg (99 : Int)) ∧ (∀ (r1 : Int), (((r1 = 1 ∧ (-99 : Int) ≤ v3 ∧ v3 ≤ (99 : Int)) ∨ (r1 = 0 ∧ (v3 < (-99 : Int) ∨ (99 : Int) < v3)))) → (Rg r1 ∧ (((r1 = 0) → (V mX12_times k n 20 [none, none, none, none, none] [] x Z Q)) ∧ ((r1 ≠ 0) → (∃ g1 : Td, (MT (Z (a0 + 1)) g1 ∧ TdV g1 ∧ Rg v1 ∧ Rg v2 ∧ (∀ (Z'1 : Zt) (r2 : Int), (AsK a0 g1 v1 v2 Z Z'1 r2) → (Rg r2 ∧ (((r2 ≠ 0) → (∃ g2 : Int, (∃ g3 : Int, (∃ g4 : Nat → Int, (∃ g5 : Nat → Int, (∃ g6 : Nat → Int, (MF Z'1 a0 g2 g4 ∧ MSq Z'1 a0 g3 g5 g6 ∧ (∀ j : Nat, j < 169 → -2000 ≤ g5 j ∧ g5 j ≤ 2000) ∧ (0 ≤ (2900 : Int) ∧ ((2900 : Int) + 5 ≤ 2915 ∨ 2940 ≤ (2900 : Int)) ∧ (2900 : Int) ≤ 2995) ∧ (∀ (Z'2 : Zt), (KC Z'2 a0 (2900 : Int).toNat (mCl g2 g4 g5) ∧ MF Z'2 a0 g2 g4 ∧ CG a0 (ClP (2900 : Int).toNat) Z'1 Z'2) → (∃ g7 : Int, (∃ g8 : Nat → Int, (∃ g9 : UV, (MF Z'2 a0 g7 g8 ∧ RP g7 (gen g8) g9 ∧ KC Z'2 a0 (2900 : Int).toNat g9 ∧ ((0 ≤ (2900 : Int) ∧ ((2900 : Int) + 5 ≤ 2915 ∨ 2925 ≤ (2900 : Int)) ∧ (2900 : Int) ≤ 2995) ∧ (0 ≤ (2910 : Int) ∧ ((2910 : Int) + 5 ≤ 2915 ∨ 2925 ≤ (2910 : Int)) ∧ (2910 : Int) ≤ 2995)) ∧ (-2000 ≤ v3 ∧ v3 ≤ 2000) ∧ (∀ (Z'3 : Zt), (KC Z'3 a0 (2910 : Int).toNat (tmT g7 g8 g9 v3) ∧ MF Z'3 a0 g7 g8 ∧ CG a0 (TmP (2910 : Int).toNat) Z'2 Z'3) → (∃ g10 : Int, (∃ g11 : Int, (∃ g12 : UV, ((IsP g10 ∧ g11 ≤ 2) ∧ RP g10 g11 g12 ∧ (0 ≤ (2910 : Int) ∧ (2910 : Int) ≤ 2995) ∧ Rg v4 ∧ KC Z'3 a0 (2910 : Int).toNat g12 ∧ (Q (some (i_ (if 0 ≤ v4 ∧ v4 ≤ 4 then ptV g12 v4 else -1))) x Z'3)))))))))))))))))) ∧ ((r2 = 0) → (V mX12_times k n 20 [none, none, none, none, none] [] x Z'1 Q)))))))))))) :
    V mX12_times k n 0 [some (r_ a0), some (i_ v1), some (i_ v2), some (i_ v3), some (i_ v4)] [] x Z Q :=
  V_iload_n dX12_times_0 rfl (V_bipush dX12_times_1 rfl (V_bipush dX12_times_3 rfl (V_callS (k' := 0) (n' := 0) [i_ v3, i_ (-99), i_ 99] [] okX12_isIn lm_12_129 lsX12_isIn (Nat.le_of_ble_eq_true rfl) (Nat.le_of_ble_eq_true rfl) (Nat.le_of_ble_eq_true rfl) (cat_of rfl) (Nat.le_of_ble_eq_true rfl) (Nat.zero_le _) (Nat.zero_le _) rfl dX12_times_5 (sp_X12_isIn  h.1 (fun r1 p1 => V_if_eq (tgt := 20) dX12_times_8 rfl (h.2 r1 p1).1 (fun c1 => V_msk [false, false, false, false, false] rfl ((h.2 r1 p1).2.1 c1)) (fun c1 => V_aload_n dX12_times_11 rfl (V_iload_n dX12_times_12 rfl (V_iload_n dX12_times_13 rfl (Exists.elim ((h.2 r1 p1).2.2 c1) (fun g1 w1 => V_callV (k' := 0) (n' := 0) (t := 12) (q := (RX12, TX12, 46)) [i_ v1, i_ v2] [] okX12_isAsked o_a0.1 rfl rfl lm_12_345 liX12_isAsked lqX12_isAsked (Nat.le_of_ble_eq_true rfl) (Nat.le_of_ble_eq_true rfl) (Nat.le_of_ble_eq_true rfl) (cat_of rfl) (Nat.le_of_ble_eq_true rfl) (Nat.zero_le _) (Nat.zero_le _) rfl dX12_times_14 (sp_X12_isAsked o_a0 w1.1 w1.2.1 w1.2.2.1 w1.2.2.2.1 (fun Z'1 r2 p2 => V_if_ne (tgt := 22) dX12_times_17 rfl (w1.2.2.2.2 Z'1 r2 p2).1 (fun c2 => V_aload_n dX12_times_22 rfl (V_sipush dX12_times_23 rfl (Exists.elim ((w1.2.2.2.2 Z'1 r2 p2).2.1 c2) (fun g2 w2 => Exists.elim w2 (fun g3 w3 => Exists.elim w3 (fun g4 w4 => Exists.elim w4 (fun g5 w5 => Exists.elim w5 (fun g6 w6 => V_callV (k' := 0) (n' := 0) (t := 12) (q := (RX12, TX12, 46)) [i_ 2900] [] okX12_classOf o_a0.1 rfl rfl lm_12_387 liX12_classOf lqX12_classOf (Nat.le_of_ble_eq_true rfl) (Nat.le_of_ble_eq_true rfl) (Nat.le_of_ble_eq_true rfl) (cat_of rfl) (Nat.le_of_ble_eq_true rfl) (Nat.zero_le _) (Nat.zero_le _) rfl dX12_times_26 (sp_X12_classOf o_a0 w6.1 w6.2.1 w6.2.2.1 w6.2.2.2.1 (fun Z'2 p3 => V_aload_n dX12_times_29 rfl (V_sipush dX12_times_30 rfl (V_iload_n dX12_times_33 rfl (V_sipush dX12_times_34 rfl (Exists.elim (w6.2.2.2.2 Z'2 p3) (fun g7 w7 => Exists.elim w7 (fun g8 w8 => Exists.elim w8 (fun g9 w9 => V_callV (k' := 0) (n' := 0) (t := 12) (q := (RX12, TX12, 46)) [i_ 2900, i_ v3, i_ 2910] [] okX12_timesOf o_a0.1 rfl rfl lm_12_384 liX12_timesOf lqX12_timesOf (Nat.le_of_ble_eq_true rfl) (Nat.le_of_ble_eq_true rfl) (Nat.le_of_ble_eq_true rfl) (cat_of rfl) (Nat.le_of_ble_eq_true rfl) (Nat.zero_le _) (Nat.zero_le _) rfl dX12_times_37 (sp_X12_timesOf o_a0 w9.1 w9.2.1 w9.2.2.1 w9.2.2.2.1 w9.2.2.2.2.1 (fun Z'3 p4 => V_aload_n dX12_times_40 rfl (V_sipush dX12_times_41 rfl (V_iload dX12_times_44 rfl (Exists.elim (w9.2.2.2.2.2 Z'3 p4) (fun g10 w10 => Exists.elim w10 (fun g11 w11 => Exists.elim w11 (fun g12 w12 => V_callV (k' := 0) (n' := 0) (t := 12) (q := (RX12, TX12, 46)) [i_ 2910, i_ v4] [] okX12_toldOf o_a0.1 rfl rfl lm_12_390 liX12_toldOf lqX12_toldOf (Nat.le_of_ble_eq_true rfl) (Nat.le_of_ble_eq_true rfl) (Nat.le_of_ble_eq_true rfl) (cat_of rfl) (Nat.le_of_ble_eq_true rfl) (Nat.zero_le _) (Nat.zero_le _) rfl dX12_times_46 (sp_X12_toldOf o_a0 w12.1 w12.2.1 w12.2.2.1 w12.2.2.2.1 w12.2.2.2.2.1 (V_iret (ty := .int) dX12_times_49 rfl rfl w12.2.2.2.2.2))))))))))))))))))))))))))) (fun c2 => V_msk [false, false, false, false, false] rfl ((w1.2.2.2.2 Z'1 r2 p2).2.2 c2))))))))))))))
set_option maxRecDepth 20000 in
theorem b_X12_times_20 {k n : Nat} {x : Wx} {Z : Zt} {Q : Option Value → Wx → Zt → Prop}  
    (h : Q (some (i_ (-1))) x Z) :
    V mX12_times k n 20 [none, none, none, none, none] [] x Z Q :=
  V_iconst dX12_times_20 (V_iret (ty := .int) dX12_times_21 rfl rfl h)
theorem dX12_areTwo_0 : decode cX12_areTwo 0 = .ok (.aload_n 0, 1) := by decide +kernel
theorem dX12_areTwo_1 : decode cX12_areTwo 1 = .ok (.iload_n 1, 1) := by decide +kernel
theorem dX12_areTwo_2 : decode cX12_areTwo 2 = .ok (.iload_n 2, 1) := by decide +kernel
theorem dX12_areTwo_3 : decode cX12_areTwo 3 = .ok (.invokevirtual 345, 3) := by decide +kernel
theorem dX12_areTwo_6 : decode cX12_areTwo 6 = .ok (.ifCond .ne 5, 3) := by decide +kernel
theorem dX12_areTwo_9 : decode cX12_areTwo 9 = .ok (.iconst 0, 1) := by decide +kernel
theorem dX12_areTwo_10 : decode cX12_areTwo 10 = .ok (.ireturn, 1) := by decide +kernel
theorem dX12_areTwo_11 : decode cX12_areTwo 11 = .ok (.aload_n 0, 1) := by decide +kernel
theorem dX12_areTwo_12 : decode cX12_areTwo 12 = .ok (.aload_n 0, 1) := by decide +kernel
theorem dX12_areTwo_13 : decode cX12_areTwo 13 = .ok (.invokevirtual 348, 3) := by decide +kernel
theorem dX12_areTwo_16 : decode cX12_areTwo 16 = .ok (.putfield 393, 3) := by decide +kernel
theorem dX12_areTwo_19 : decode cX12_areTwo 19 = .ok (.aload_n 0, 1) := by decide +kernel
theorem dX12_areTwo_20 : decode cX12_areTwo 20 = .ok (.sipush 2900, 3) := by decide +kernel
theorem dX12_areTwo_23 : decode cX12_areTwo 23 = .ok (.invokevirtual 387, 3) := by decide +kernel
theorem dX12_areTwo_26 : decode cX12_areTwo 26 = .ok (.aload_n 0, 1) := by decide +kernel
theorem dX12_areTwo_27 : decode cX12_areTwo 27 = .ok (.iload_n 3, 1) := by decide +kernel
theorem dX12_areTwo_28 : decode cX12_areTwo 28 = .ok (.iconst 1, 1) := by decide +kernel
theorem dX12_areTwo_29 : decode cX12_areTwo 29 = .ok (.invokevirtual 300, 3) := by decide +kernel
theorem dX12_areTwo_32 : decode cX12_areTwo 32 = .ok (.ifCond .ne 5, 3) := by decide +kernel
theorem dX12_areTwo_35 : decode cX12_areTwo 35 = .ok (.iconst 0, 1) := by decide +kernel
theorem dX12_areTwo_36 : decode cX12_areTwo 36 = .ok (.ireturn, 1) := by decide +kernel
theorem dX12_areTwo_37 : decode cX12_areTwo 37 = .ok (.aload_n 0, 1) := by decide +kernel
theorem dX12_areTwo_38 : decode cX12_areTwo 38 = .ok (.sipush 2905, 3) := by decide +kernel
theorem dX12_areTwo_41 : decode cX12_areTwo 41 = .ok (.invokevirtual 387, 3) := by decide +kernel
theorem dX12_areTwo_44 : decode cX12_areTwo 44 = .ok (.iconst 1, 1) := by decide +kernel
theorem dX12_areTwo_45 : decode cX12_areTwo 45 = .ok (.ireturn, 1) := by decide +kernel
set_option maxRecDepth 20000 in
theorem b_X12_areTwo_0 {k n : Nat} {x : Wx} {Z : Zt} {Q : Option Value → Wx → Zt → Prop} {a0 : Nat} {v1 : Int} {v2 : Int} {v3 : Int} (o_a0 : Is12 x a0)
    (h : ∃ g1 : Td, (MT (Z (a0 + 1)) g1 ∧ TdV g1 ∧ Rg v1 ∧ Rg v2 ∧ (∀ (Z'1 : Zt) (r1 : Int), (AsK a0 g1 v1 v2 Z Z'1 r1) → (Rg r1 ∧ (((r1 ≠ 0) → (∃ g2 : Int, (∃ g3 : Nat → Int, (∃ g4 : Nat → Int, (MSq Z'1 a0 g2 g3 g4 ∧ (∀ Z1 : Zt, Z1 = up Z'1 a0 35 (g2 + smT 169 g3) → (∃ g5 : Int, (∃ g6 : Int, (∃ g7 : Nat → Int, (∃ g8 : Nat → Int, (∃ g9 : Nat → Int, (MF Z1 a0 g5 g7 ∧ MSq Z1 a0 g6 g8 g9 ∧ (∀ j : Nat, j < 169 → -2000 ≤ g8 j ∧ g8 j ≤ 2000) ∧ (0 ≤ (2900 : Int) ∧ ((2900 : Int) + 5 ≤ 2915 ∨ 2940 ≤ (2900 : Int)) ∧ (2900 : Int) ≤ 2995) ∧ (∀ (Z'2 : Zt), (KC Z'2 a0 (2900 : Int).toNat (mCl g5 g7 g8) ∧ MF Z'2 a0 g5 g7 ∧ CG a0 (ClP (2900 : Int).toNat) Z1 Z'2) → (∃ g10 : Td, (∃ g11 : Int, (∃ g12 : Nat → Int, (MT (Z'2 (a0 + 1)) g10 ∧ TdV g10 ∧ MF Z'2 a0 g11 g12 ∧ Rg v3 ∧ ((1 : Int) = 1 ∨ (1 : Int) = -1) ∧ (∀ (Z'3 : Zt) (r2 : Int), (TkS a0 g10 g11 g12 v3 (1 : Int) Z'2 Z'3 r2) → (Rg r2 ∧ (((r2 ≠ 0) → (∃ g13 : Int, (∃ g14 : Int, (∃ g15 : Nat → Int, (∃ g16 : Nat → Int, (∃ g17 : Nat → Int, (MF Z'3 a0 g13 g15 ∧ MSq Z'3 a0 g14 g16 g17 ∧ (∀ j : Nat, j < 169 → -2000 ≤ g16 j ∧ g16 j ≤ 2000) ∧ (0 ≤ (2905 : Int) ∧ ((2905 : Int) + 5 ≤ 2915 ∨ 2940 ≤ (2905 : Int)) ∧ (2905 : Int) ≤ 2995) ∧ (∀ (Z'4 : Zt), (KC Z'4 a0 (2905 : Int).toNat (mCl g13 g15 g16) ∧ MF Z'4 a0 g13 g15 ∧ CG a0 (ClP (2905 : Int).toNat) Z'3 Z'4) → (Q (some (i_ 1)) x Z'4))))))))) ∧ ((r2 = 0) → (Q (some (i_ 0)) x Z'3)))))))))))))))))))))) ∧ ((r1 = 0) → (Q (some (i_ 0)) x Z'1))))))) :
    V mX12_areTwo k n 0 [some (r_ a0), some (i_ v1), some (i_ v2), some (i_ v3)] [] x Z Q :=
  V_aload_n dX12_areTwo_0 rfl (V_iload_n dX12_areTwo_1 rfl (V_iload_n dX12_areTwo_2 rfl (Exists.elim h (fun g1 w1 => V_callV (k' := 0) (n' := 0) (t := 12) (q := (RX12, TX12, 46)) [i_ v1, i_ v2] [] okX12_isAsked o_a0.1 rfl rfl lm_12_345 liX12_isAsked lqX12_isAsked (Nat.le_of_ble_eq_true rfl) (Nat.le_of_ble_eq_true rfl) (Nat.le_of_ble_eq_true rfl) (cat_of rfl) (Nat.le_of_ble_eq_true rfl) (Nat.zero_le _) (Nat.zero_le _) rfl dX12_areTwo_3 (sp_X12_isAsked o_a0 w1.1 w1.2.1 w1.2.2.1 w1.2.2.2.1 (fun Z'1 r1 p1 => V_if_ne (tgt := 11) dX12_areTwo_6 rfl (w1.2.2.2.2 Z'1 r1 p1).1 (fun c1 => V_aload_n dX12_areTwo_11 rfl (V_aload_n dX12_areTwo_12 rfl (Exists.elim ((w1.2.2.2.2 Z'1 r1 p1).2.1 c1) (fun g2 w2 => Exists.elim w2 (fun g3 w3 => Exists.elim w3 (fun g4 w4 => V_callV (k' := 0) (n' := 0) (t := 12) (q := (RX12, TX12, 46)) [] [r_ a0] okX12_degree o_a0.1 rfl rfl lm_12_348 liX12_degree lqX12_degree (Nat.le_of_ble_eq_true rfl) (Nat.le_of_ble_eq_true rfl) (Nat.le_of_ble_eq_true rfl) (cat_of rfl) (Nat.le_of_ble_eq_true rfl) (Nat.zero_le _) (Nat.zero_le _) rfl dX12_areTwo_13 (sp_X12_degree o_a0 w4.1 (P_12_35 o_a0.1 lf_12_393 dX12_areTwo_16 (V_nmZ (fun Z1 eZ1 => V_aload_n dX12_areTwo_19 rfl (V_sipush dX12_areTwo_20 rfl (Exists.elim (w4.2 Z1 eZ1) (fun g5 w5 => Exists.elim w5 (fun g6 w6 => Exists.elim w6 (fun g7 w7 => Exists.elim w7 (fun g8 w8 => Exists.elim w8 (fun g9 w9 => V_callV (k' := 0) (n' := 0) (t := 12) (q := (RX12, TX12, 46)) [i_ 2900] [] okX12_classOf o_a0.1 rfl rfl lm_12_387 liX12_classOf lqX12_classOf (Nat.le_of_ble_eq_true rfl) (Nat.le_of_ble_eq_true rfl) (Nat.le_of_ble_eq_true rfl) (cat_of rfl) (Nat.le_of_ble_eq_true rfl) (Nat.zero_le _) (Nat.zero_le _) rfl dX12_areTwo_23 (sp_X12_classOf o_a0 w9.1 w9.2.1 w9.2.2.1 w9.2.2.2.1 (fun Z'2 p2 => V_aload_n dX12_areTwo_26 rfl (V_iload_n dX12_areTwo_27 rfl (V_iconst dX12_areTwo_28 (Exists.elim (w9.2.2.2.2 Z'2 p2) (fun g10 w10 => Exists.elim w10 (fun g11 w11 => Exists.elim w11 (fun g12 w12 => V_callV (k' := 0) (n' := 0) (t := 12) (q := (RX12, TX12, 46)) [i_ v3, i_ 1] [] okX12_takesSum o_a0.1 rfl rfl lm_12_300 liX12_takesSum lqX12_takesSum (Nat.le_of_ble_eq_true rfl) (Nat.le_of_ble_eq_true rfl) (Nat.le_of_ble_eq_true rfl) (cat_of rfl) (Nat.le_of_ble_eq_true rfl) (Nat.zero_le _) (Nat.zero_le _) rfl dX12_areTwo_29 (sp_X12_takesSum o_a0 w12.1 w12.2.1 w12.2.2.1 w12.2.2.2.1 w12.2.2.2.2.1 (fun Z'3 r2 p3 => V_if_ne (tgt := 37) dX12_areTwo_32 rfl (w12.2.2.2.2.2 Z'3 r2 p3).1 (fun c2 => V_aload_n dX12_areTwo_37 rfl (V_sipush dX12_areTwo_38 rfl (Exists.elim ((w12.2.2.2.2.2 Z'3 r2 p3).2.1 c2) (fun g13 w13 => Exists.elim w13 (fun g14 w14 => Exists.elim w14 (fun g15 w15 => Exists.elim w15 (fun g16 w16 => Exists.elim w16 (fun g17 w17 => V_callV (k' := 0) (n' := 0) (t := 12) (q := (RX12, TX12, 46)) [i_ 2905] [] okX12_classOf o_a0.1 rfl rfl lm_12_387 liX12_classOf lqX12_classOf (Nat.le_of_ble_eq_true rfl) (Nat.le_of_ble_eq_true rfl) (Nat.le_of_ble_eq_true rfl) (cat_of rfl) (Nat.le_of_ble_eq_true rfl) (Nat.zero_le _) (Nat.zero_le _) rfl dX12_areTwo_41 (sp_X12_classOf o_a0 w17.1 w17.2.1 w17.2.2.1 w17.2.2.2.1 (fun Z'4 p4 => V_iconst dX12_areTwo_44 (V_iret (ty := .boolean) dX12_areTwo_45 rfl rfl (w17.2.2.2.2 Z'4 p4)))))))))))) (fun c2 => V_iconst dX12_areTwo_35 (V_iret (ty := .boolean) dX12_areTwo_36 rfl rfl ((w12.2.2.2.2.2 Z'3 r2 p3).2.2 c2)))))))))))))))))))))))))))))) (fun c1 => V_iconst dX12_areTwo_9 (V_iret (ty := .boolean) dX12_areTwo_10 rfl rfl ((w1.2.2.2.2 Z'1 r1 p1).2.2 c1)))))))))
/-- the class of a sum, as the reference finds it -/
def Td.mK (T : Td) (c s : Nat) : UV := mCl (T.p c) (T.F c) (rO (T.rw (2 + s)) 1)
def mATimes (T : Td) (c s m w : Int) : Int := if fitB T c s = true ∧ (-99 ≤ m ∧ m ≤ 99) ∧ 0 ≤ w ∧ w ≤ 4 then ptV (tmT (T.p c.toNat) (T.F c.toNat) (T.mK c.toNat s.toNat) m) w else -1
theorem rO_rg {r : Nat → Int} (hr : SumR r) : ∀ j : Nat, j < 169 → -2000 ≤ rO r 1 j ∧ rO r 1 j ≤ 2000 := fun j hj => by
  have h0 := hr.1
  have h1 := ab_one (Int.le_trans (mOf_ab hr (Or.inl rfl) (r 0).toNat (by omega)) (show 5 * (((r 0).toNat : Nat) : Int) ≤ 40 by omega)) hj
  unfold abF at h1
  unfold rO
  omega
theorem sp_X12_times {k n : Nat} {x : Wx} {Z : Zt} {Q : Option Value → Wx → Zt → Prop} {b : Nat} {c s m w : Int} {S : Ab} (hI : MI x Z b S) (hV : AbV S) (hc : Rg c) (hs : Rg s) (hm : Rg m) (hw : Rg w) (h : RAm b x Z Q (mATimes S.nw c s m w)) : V mX12_times k n 0 [some (r_ b), some (i_ c), some (i_ s), some (i_ m), some (i_ w)] [] x Z Q := by
  obtain ⟨o, hT, _⟩ := id hI
  unfold mATimes at h
  have no : ∀ Z' : Zt, Mq b Z Z' → ¬ (fitB S.nw c s = true ∧ (-99 ≤ m ∧ m ≤ 99) ∧ 0 ≤ w ∧ w ≤ 4) → V mX12_times k n 20 [none, none, none, none, none] [] x Z' Q := fun Z' h1 h2 => b_X12_times_20 (by rw [if_neg h2] at h; exact h Z' h1)
  refine b_X12_times_0 o ⟨⟨hm, ⟨by decide, by decide⟩, ⟨by decide, by decide⟩⟩, fun r1 h1 => ⟨⟨by omega, by omega⟩, fun c1 => no Z Mq.rf (by omega), fun c1 => ⟨S.nw, hT, hV.1, hc, hs, fun Z1 r2 hk => ⟨by rw [hk.1]; exact bI_rg _, fun c2 => ?_, fun c2 => no Z1 hk.2.1 (fun e => ?_)⟩⟩⟩⟩
  · have hf := bI_1 (hk.1 ▸ c2)
    obtain ⟨hF, hS⟩ := hk.2.2 hf
    have hSR := fit_sum hV.1 hf
    have hgn := hF.2.1.2.2.2.2
    refine ⟨_, _, _, _, _, hF, hS, rO_rg hSR, by decide, fun Z2 hz2 => ⟨_, _, _, hz2.2.1, mCl_ok hF.2.1 _, hz2.1, ⟨by decide, by decide⟩, ⟨by omega, by omega⟩, fun Z3 hz3 => ⟨_, _, _, ⟨hF.2.1.1, by omega⟩, tmT_ok hF.2.1 (mCl_ok hF.2.1 _) m, by decide, hw, hz3.1, ?_⟩⟩⟩
    have q3 : Mq b Z Z3 := hk.2.1.tr (hz2.2.2.mq.tr hz3.2.2.mq)
    by_cases cw : 0 ≤ w ∧ w ≤ 4
    · rw [if_pos cw]
      rw [if_pos ⟨hf, by omega, cw⟩] at h
      exact h Z3 q3
    · rw [if_neg cw]
      rw [if_neg (fun e => cw e.2.2)] at h
      exact h Z3 q3
  · have := bI_0 (hk.1 ▸ c2)
    rw [this] at e
    exact absurd e.1 (by decide)
def Ar2 (b : Nat) (T : Td) (c s t : Int) (Z Z' : Zt) (r : Int) : Prop := r = bI (fitB T c s && fitB T c t) ∧ Mq b Z Z' ∧ ((fitB T c s && fitB T c t) = true → MF Z' b (T.p c.toNat) (T.F c.toNat) ∧ KC Z' b 2900 (T.mK c.toNat s.toNat) ∧ KC Z' b 2905 (T.mK c.toNat t.toNat) ∧ Z' b 35 = sdeg (T.rw (2 + s.toNat)) (T.rw (2 + s.toNat) 0).toNat ∧ MSq Z' b (T.rw (2 + t.toNat) 1) (rO (T.rw (2 + t.toNat)) 1) (rT (T.rw (2 + t.toNat))))
theorem rO_deg {r : Nat → Int} (hr : SumR r) : r 1 + smT 169 (rO r 1) = sdeg r (r 0).toNat := by
  have h0 := hr.1
  have := mOf_sm (t := 1) hr (r 0).toNat (by omega)
  unfold rO
  omega
theorem sp_X12_areTwo {k n : Nat} {x : Wx} {Z : Zt} {Q : Option Value → Wx → Zt → Prop} {b : Nat} {c s t : Int} (o : Is12 x b) {T : Td} (hT : MT (Z (b + 1)) T) (hV : TdV T) (hc : Rg c ∧ Rg s ∧ Rg t) (h : ∀ (Z' : Zt) (r : Int), Ar2 b T c s t Z Z' r → Q (some (i_ r)) x Z') : V mX12_areTwo k n 0 [some (r_ b), some (i_ c), some (i_ s), some (i_ t)] [] x Z Q := by
  refine b_X12_areTwo_0 o ⟨T, hT, hV, hc.1, hc.2.1, fun Z1 r1 hk => ⟨by rw [hk.1]; exact bI_rg _, fun c1 => ?_, fun c1 => ?_⟩⟩
  · have hf := bI_1 (hk.1 ▸ c1)
    obtain ⟨hF, hS⟩ := hk.2.2 hf
    have hSR := fit_sum hV hf
    refine ⟨_, _, _, hS, fun Z2 e2 => ?_⟩
    have r2 : ∀ d : Nat, d ≠ b → Z2 d = Z1 d := fun d hd => by rw [e2, up_row _ _ _ _ _ hd]
    have rb : ∀ i : Nat, i ≠ 35 → Z2 b i = Z1 b i := fun i hi => by rw [e2, up_at, if_neg hi]
    have e35 : Z2 b 35 = sdeg (T.rw (2 + s.toNat)) (T.rw (2 + s.toNat) 0).toNat := by rw [e2, up_self]; exact rO_deg hSR
    have F2 : MF Z2 b (T.p c.toNat) (T.F c.toNat) := by
      obtain ⟨h1, h2, P, h3, h4⟩ := hF
      exact ⟨h1.kept ⟨rb _ (by decide), rb _ (by decide), rb _ (by decide)⟩ (r2 _ (by omega)) (r2 _ (by omega)), h2, P, h3.kept (r2 _ (by omega)), h4⟩
    have S2 : MSq Z2 b (T.rw (2 + s.toNat) 1) (rO (T.rw (2 + s.toNat)) 1) (rT (T.rw (2 + s.toNat))) := ⟨by rw [rb _ (by decide)]; exact hS.1, fun j hj => by rw [r2 _ (by omega)]; exact hS.2.1 j hj, fun j hj => by rw [r2 _ (by omega)]; exact hS.2.2 j hj⟩
    have q2 : Mq b Z Z2 := hk.2.1.tr ⟨r2 _ (by omega), r2 _ (by omega), fun d hd => r2 d (by omega)⟩
    refine ⟨_, _, _, _, _, F2, S2, rO_rg hSR, by decide, fun Z3 hz3 => ?_⟩
    have q3 := q2.tr hz3.2.2.mq
    refine ⟨T, _, _, by rw [q3.1]; exact hT, hV, hz3.2.1, hc.2.2, Or.inl rfl, fun Z4 r4 h4 => ?_⟩
    obtain ⟨h4, sf⟩ := h4
    have F4 := hz3.2.1.sf sf
    have q4 := q3.tr sf.mq
    have eL : T.L c.toNat = pall (T.p c.toNat) (T.F c.toNat) := rfl
    have hfc := fitB_c.mp hf
    rcases h4 with ⟨e4, e5, e6⟩ | ⟨e4, e5⟩
    · have hf2 : fitB T c t = true := fitB_c.mpr ⟨hfc.1, e5.1, by rw [eL]; exact e5.2⟩
      have hSR2 := fit_sum hV hf2
      rw [Int.one_mul] at e6
      refine ⟨⟨by omega, by omega⟩, fun c4 => ⟨_, _, _, _, _, F4, e6, rO_rg hSR2, by decide, fun Z5 hz5 => h Z5 1 ⟨by rw [hf, hf2]; rfl, q4.tr hz5.2.2.mq, fun _ => ⟨hz5.2.1, ?_, hz5.1, ?_, e6.cg hz5.2.2⟩⟩⟩, fun c4 => by omega⟩
      · have k4 : KC Z4 b 2900 (T.mK c.toNat s.toNat) := hz3.1.ro (sf.1 _ (by omega) (by omega) (by omega))
        exact k4.cg hz5.2.2 (fun i hi => ⟨by omega, by show 2900 + i < 2905 ∨ 2905 + 5 ≤ 2900 + i; omega⟩)
      · rw [hz5.2.2.1 b (by omega) (by omega), sf.2 _ (by decide), hz3.2.2.1 b (by omega) (by omega)]; exact e35
    · have hf2 : fitB T c t = false := by
        cases hh : fitB T c t
        · rfl
        · exact absurd (⟨(fitB_c.mp hh).2.1, (fitB_c.mp hh).2.2⟩ : _ ∧ _) e5
      refine ⟨⟨by omega, by omega⟩, fun c4 => by omega, fun c4 => h Z4 0 ⟨by rw [hf2, Bool.and_false]; rfl, q4, fun e => by rw [hf2, Bool.and_false] at e; exact absurd e (by decide)⟩⟩
  · have e0 := bI_0 (hk.1 ▸ c1)
    exact h Z1 0 ⟨by rw [e0]; rfl, hk.2.1, fun e => by rw [e0, Bool.false_and] at e; exact absurd e (by decide)⟩
