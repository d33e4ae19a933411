/-! ===== the reference: added, same, orderOf, log ===== -/
theorem dX12_added_0 : decode cX12_added 0 = .ok (.aload_n 0, 1) := by decide +kernel
theorem dX12_added_1 : decode cX12_added 1 = .ok (.iload_n 1, 1) := by decide +kernel
theorem dX12_added_2 : decode cX12_added 2 = .ok (.iload_n 2, 1) := by decide +kernel
theorem dX12_added_3 : decode cX12_added 3 = .ok (.iload_n 3, 1) := by decide +kernel
theorem dX12_added_4 : decode cX12_added 4 = .ok (.invokevirtual 396, 3) := by decide +kernel
theorem dX12_added_7 : decode cX12_added 7 = .ok (.ifCond .ne 5, 3) := by decide +kernel
theorem dX12_added_10 : decode cX12_added 10 = .ok (.iconst (-1), 1) := by decide +kernel
theorem dX12_added_11 : decode cX12_added 11 = .ok (.ireturn, 1) := by decide +kernel
theorem dX12_added_12 : decode cX12_added 12 = .ok (.aload_n 0, 1) := by decide +kernel
theorem dX12_added_13 : decode cX12_added 13 = .ok (.sipush 2900, 3) := by decide +kernel
theorem dX12_added_16 : decode cX12_added 16 = .ok (.sipush 2905, 3) := by decide +kernel
theorem dX12_added_19 : decode cX12_added 19 = .ok (.sipush 2910, 3) := by decide +kernel
theorem dX12_added_22 : decode cX12_added 22 = .ok (.invokevirtual 381, 3) := by decide +kernel
theorem dX12_added_25 : decode cX12_added 25 = .ok (.aload_n 0, 1) := by decide +kernel
theorem dX12_added_26 : decode cX12_added 26 = .ok (.sipush 2910, 3) := by decide +kernel
theorem dX12_added_29 : decode cX12_added 29 = .ok (.iload 4, 2) := by decide +kernel
theorem dX12_added_31 : decode cX12_added 31 = .ok (.invokevirtual 390, 3) := by decide +kernel
theorem dX12_added_34 : decode cX12_added 34 = .ok (.ireturn, 1) := by decide +kernel
set_option maxRecDepth 20000 in
theorem b_X12_added_0 {k n : Nat} {x : Wx} {Z : Zt} {Q : Option Value → Wx → Zt → Prop} {a0 : Nat} {v1 : Int} {v2 : Int} {v3 : Int} {v4 : Int} (o_a0 : Is12 x a0)
    (h : ∃ g1 : Td, (MT (Z (a0 + 1)) g1 ∧ TdV g1 ∧ (Rg v1 ∧ Rg v2 ∧ Rg v3) ∧ (∀ (Z'1 : Zt) (r1 : Int), (Ar2 a0 g1 v1 v2 v3 Z Z'1 r1) → (Rg r1 ∧ (((r1 ≠ 0) → (∃ g2 : Int, (∃ g3 : Nat → Int, (∃ g4 : UV, (∃ g5 : UV, (MF Z'1 a0 g2 g3 ∧ (RP g2 (gen g3) g4 ∧ RP g2 (gen g3) g5) ∧ (((0 ≤ (2900 : Int) ∧ (2900 : Int) ≤ 2995) ∧ (0 ≤ (2905 : Int) ∧ (2905 : Int) ≤ 2995)) ∧ (0 ≤ (2910 : Int) ∧ (2910 : Int) ≤ 2995)) ∧ (KC Z'1 a0 (2900 : Int).toNat g4 ∧ KC Z'1 a0 (2905 : Int).toNat g5) ∧ (∀ (Z'2 : Zt), (KC Z'2 a0 (2910 : Int).toNat (cplus g2 g3 (gen g3) g4 g5) ∧ MF Z'2 a0 g2 g3 ∧ TgF a0 (2910 : Int).toNat Z'1 Z'2) → (∃ g6 : Int, (∃ g7 : Int, (∃ g8 : UV, ((IsP g6 ∧ g7 ≤ 2) ∧ RP g6 g7 g8 ∧ (0 ≤ (2910 : Int) ∧ (2910 : Int) ≤ 2995) ∧ Rg v4 ∧ KC Z'2 a0 (2910 : Int).toNat g8 ∧ (Q (some (i_ (if 0 ≤ v4 ∧ v4 ≤ 4 then ptV g8 v4 else -1))) x Z'2)))))))))))) ∧ ((r1 = 0) → (Q (some (i_ (-1))) x Z'1))))))) :
    V mX12_added k n 0 [some (r_ a0), some (i_ v1), some (i_ v2), some (i_ v3), some (i_ v4)] [] x Z Q :=
  V_aload_n dX12_added_0 rfl (V_iload_n dX12_added_1 rfl (V_iload_n dX12_added_2 rfl (V_iload_n dX12_added_3 rfl (Exists.elim h (fun g1 w1 => V_callV (k' := 0) (n' := 0) (t := 12) (q := (RX12, TX12, 46)) [i_ v1, i_ v2, i_ v3] [] okX12_areTwo o_a0.1 rfl rfl lm_12_396 liX12_areTwo lqX12_areTwo (Nat.le_of_ble_eq_true rfl) (Nat.le_of_ble_eq_true rfl) (Nat.le_of_ble_eq_true rfl) (cat_of rfl) (Nat.le_of_ble_eq_true rfl) (Nat.zero_le _) (Nat.zero_le _) rfl dX12_added_4 (sp_X12_areTwo o_a0 w1.1 w1.2.1 w1.2.2.1 (fun Z'1 r1 p1 => V_if_ne (tgt := 12) dX12_added_7 rfl (w1.2.2.2 Z'1 r1 p1).1 (fun c1 => V_aload_n dX12_added_12 rfl (V_sipush dX12_added_13 rfl (V_sipush dX12_added_16 rfl (V_sipush dX12_added_19 rfl (Exists.elim ((w1.2.2.2 Z'1 r1 p1).2.1 c1) (fun g2 w2 => Exists.elim w2 (fun g3 w3 => Exists.elim w3 (fun g4 w4 => Exists.elim w4 (fun g5 w5 => V_callV (k' := 0) (n' := 0) (t := 12) (q := (RX12, TX12, 46)) [i_ 2900, i_ 2905, i_ 2910] [] okX12_together o_a0.1 rfl rfl lm_12_381 liX12_together lqX12_together (Nat.le_of_ble_eq_true rfl) (Nat.le_of_ble_eq_true rfl) (Nat.le_of_ble_eq_true rfl) (cat_of rfl) (Nat.le_of_ble_eq_true rfl) (Nat.zero_le _) (Nat.zero_le _) rfl dX12_added_22 (sp_X12_together o_a0 w5.1 w5.2.1 w5.2.2.1 w5.2.2.2.1 (fun Z'2 p2 => V_aload_n dX12_added_25 rfl (V_sipush dX12_added_26 rfl (V_iload dX12_added_29 rfl (Exists.elim (w5.2.2.2.2 Z'2 p2) (fun g6 w6 => Exists.elim w6 (fun g7 w7 => Exists.elim w7 (fun g8 w8 => V_callV (k' := 0) (n' := 0) (t := 12) (q := (RX12, TX12, 46)) [i_ 2910, i_ v4] [] okX12_toldOf o_a0.1 rfl rfl lm_12_390 liX12_toldOf lqX12_toldOf (Nat.le_of_ble_eq_true rfl) (Nat.le_of_ble_eq_true rfl) (Nat.le_of_ble_eq_true rfl) (cat_of rfl) (Nat.le_of_ble_eq_true rfl) (Nat.zero_le _) (Nat.zero_le _) rfl dX12_added_31 (sp_X12_toldOf o_a0 w8.1 w8.2.1 w8.2.2.1 w8.2.2.2.1 w8.2.2.2.2.1 (V_iret (ty := .int) dX12_added_34 rfl rfl w8.2.2.2.2.2))))))))))))))))))) (fun c1 => V_iconst dX12_added_10 (V_iret (ty := .int) dX12_added_11 rfl rfl ((w1.2.2.2 Z'1 r1 p1).2.2 c1))))))))))
theorem dX12_same_0 : decode cX12_same 0 = .ok (.aload_n 0, 1) := by decide +kernel
theorem dX12_same_1 : decode cX12_same 1 = .ok (.iload_n 1, 1) := by decide +kernel
theorem dX12_same_2 : decode cX12_same 2 = .ok (.iload_n 2, 1) := by decide +kernel
theorem dX12_same_3 : decode cX12_same 3 = .ok (.iload_n 3, 1) := by decide +kernel
theorem dX12_same_4 : decode cX12_same 4 = .ok (.invokevirtual 396, 3) := by decide +kernel
theorem dX12_same_7 : decode cX12_same 7 = .ok (.ifCond .eq 31, 3) := by decide +kernel
theorem dX12_same_10 : decode cX12_same 10 = .ok (.aload_n 0, 1) := by decide +kernel
theorem dX12_same_11 : decode cX12_same 11 = .ok (.invokevirtual 348, 3) := by decide +kernel
theorem dX12_same_14 : decode cX12_same 14 = .ok (.aload_n 0, 1) := by decide +kernel
theorem dX12_same_15 : decode cX12_same 15 = .ok (.getfield 393, 3) := by decide +kernel
theorem dX12_same_18 : decode cX12_same 18 = .ok (.if_icmp .ne 20, 3) := by decide +kernel
theorem dX12_same_21 : decode cX12_same 21 = .ok (.aload_n 0, 1) := by decide +kernel
theorem dX12_same_22 : decode cX12_same 22 = .ok (.sipush 2900, 3) := by decide +kernel
theorem dX12_same_25 : decode cX12_same 25 = .ok (.sipush 2905, 3) := by decide +kernel
theorem dX12_same_28 : decode cX12_same 28 = .ok (.invokevirtual 402, 3) := by decide +kernel
theorem dX12_same_31 : decode cX12_same 31 = .ok (.ifCond .eq 7, 3) := by decide +kernel
theorem dX12_same_34 : decode cX12_same 34 = .ok (.iconst 1, 1) := by decide +kernel
theorem dX12_same_35 : decode cX12_same 35 = .ok (.goto 4, 3) := by decide +kernel
theorem dX12_same_38 : decode cX12_same 38 = .ok (.iconst 0, 1) := by decide +kernel
theorem dX12_same_39 : decode cX12_same 39 = .ok (.ireturn, 1) := by decide +kernel
set_option maxRecDepth 20000 in
theorem b_X12_same_0 {k n : Nat} {x : Wx} {Z : Zt} {Q : Option Value → Wx → Zt → Prop} {a0 : Nat} {v1 : Int} {v2 : Int} {v3 : Int} (o_a0 : Is12 x a0)
    (h : ∃ g1 : Td, (MT (Z (a0 + 1)) g1 ∧ TdV g1 ∧ (Rg v1 ∧ Rg v2 ∧ Rg v3) ∧ (∀ (Z'1 : Zt) (r1 : Int), (Ar2 a0 g1 v1 v2 v3 Z Z'1 r1) → (Rg r1 ∧ (((r1 = 0) → (V mX12_same k n 38 [none, none, none, none] [] x Z'1 Q)) ∧ ((r1 ≠ 0) → (∃ g2 : Int, (∃ g3 : Nat → Int, (∃ g4 : Nat → Int, (MSq Z'1 a0 g2 g3 g4 ∧ (Rg (g2 + smT 169 g3) ∧ Rg (Z'1 a0 35) ∧ (((g2 + smT 169 g3 ≠ Z'1 a0 35) → (V mX12_same k n 38 [none, none, none, none] [] x Z'1 Q)) ∧ ((g2 + smT 169 g3 = Z'1 a0 35) → (∃ g5 : Int, (∃ g6 : Int, (∃ g7 : UV, (∃ g8 : UV, ((IsP g5 ∧ g6 ≤ 2) ∧ (RP g5 g6 g7 ∧ RP g5 g6 g8) ∧ ((0 ≤ (2900 : Int) ∧ (2900 : Int) ≤ 2995) ∧ (0 ≤ (2905 : Int) ∧ (2905 : Int) ≤ 2995)) ∧ (KC Z'1 a0 (2900 : Int).toNat g7 ∧ KC Z'1 a0 (2905 : Int).toNat g8) ∧ (∀ (r2 : Int), (((r2 = 1 ∧ g7 = g8) ∨ (r2 = 0 ∧ g7 ≠ g8))) → (Rg r2 ∧ (((r2 = 0) → (V mX12_same k n 38 [none, none, none, none] [] x Z'1 Q)) ∧ ((r2 ≠ 0) → (Q (some (i_ 1)) x Z'1))))))))))))))))))))))) :
    V mX12_same k n 0 [some (r_ a0), some (i_ v1), some (i_ v2), some (i_ v3)] [] x Z Q :=
  V_aload_n dX12_same_0 rfl (V_iload_n dX12_same_1 rfl (V_iload_n dX12_same_2 rfl (V_iload_n dX12_same_3 rfl (Exists.elim h (fun g1 w1 => V_callV (k' := 0) (n' := 0) (t := 12) (q := (RX12, TX12, 46)) [i_ v1, i_ v2, i_ v3] [] okX12_areTwo o_a0.1 rfl rfl lm_12_396 liX12_areTwo lqX12_areTwo (Nat.le_of_ble_eq_true rfl) (Nat.le_of_ble_eq_true rfl) (Nat.le_of_ble_eq_true rfl) (cat_of rfl) (Nat.le_of_ble_eq_true rfl) (Nat.zero_le _) (Nat.zero_le _) rfl dX12_same_4 (sp_X12_areTwo o_a0 w1.1 w1.2.1 w1.2.2.1 (fun Z'1 r1 p1 => V_if_eq (tgt := 38) dX12_same_7 rfl (w1.2.2.2 Z'1 r1 p1).1 (fun c1 => V_msk [false, false, false, false] rfl ((w1.2.2.2 Z'1 r1 p1).2.1 c1)) (fun c1 => V_aload_n dX12_same_10 rfl (Exists.elim ((w1.2.2.2 Z'1 r1 p1).2.2 c1) (fun g2 w2 => Exists.elim w2 (fun g3 w3 => Exists.elim w3 (fun g4 w4 => V_callV (k' := 0) (n' := 0) (t := 12) (q := (RX12, TX12, 46)) [] [] okX12_degree o_a0.1 rfl rfl lm_12_348 liX12_degree lqX12_degree (Nat.le_of_ble_eq_true rfl) (Nat.le_of_ble_eq_true rfl) (Nat.le_of_ble_eq_true rfl) (cat_of rfl) (Nat.le_of_ble_eq_true rfl) (Nat.zero_le _) (Nat.zero_le _) rfl dX12_same_11 (sp_X12_degree o_a0 w4.1 (V_aload_n dX12_same_14 rfl (G_12_35 o_a0.1 lf_12_393 dX12_same_15 (V_icmp_ne (tgt := 38) dX12_same_18 rfl w4.2.1 w4.2.2.1 (fun c2 => V_msk [false, false, false, false] rfl (w4.2.2.2.1 c2)) (fun c2 => V_aload_n dX12_same_21 rfl (V_sipush dX12_same_22 rfl (V_sipush dX12_same_25 rfl (Exists.elim (w4.2.2.2.2 c2) (fun g5 w5 => Exists.elim w5 (fun g6 w6 => Exists.elim w6 (fun g7 w7 => Exists.elim w7 (fun g8 w8 => V_callV (k' := 0) (n' := 0) (t := 12) (q := (RX12, TX12, 46)) [i_ 2900, i_ 2905] [] okX12_areAlike o_a0.1 rfl rfl lm_12_402 liX12_areAlike lqX12_areAlike (Nat.le_of_ble_eq_true rfl) (Nat.le_of_ble_eq_true rfl) (Nat.le_of_ble_eq_true rfl) (cat_of rfl) (Nat.le_of_ble_eq_true rfl) (Nat.zero_le _) (Nat.zero_le _) rfl dX12_same_28 (sp_X12_areAlike o_a0 w8.1 w8.2.1 w8.2.2.1 w8.2.2.2.1 (fun r2 p2 => V_if_eq (tgt := 38) dX12_same_31 rfl (w8.2.2.2.2 r2 p2).1 (fun c3 => V_msk [false, false, false, false] rfl ((w8.2.2.2.2 r2 p2).2.1 c3)) (fun c3 => V_iconst dX12_same_34 (V_goto (tgt := 39) dX12_same_35 rfl (V_iret (ty := .boolean) dX12_same_39 rfl rfl ((w8.2.2.2.2 r2 p2).2.2 c3))))))))))))))))))))))))))))))
set_option maxRecDepth 20000 in
theorem b_X12_same_38 {k n : Nat} {x : Wx} {Z : Zt} {Q : Option Value → Wx → Zt → Prop}  
    (h : Q (some (i_ 0)) x Z) :
    V mX12_same k n 38 [none, none, none, none] [] x Z Q :=
  V_iconst dX12_same_38 (V_iret (ty := .boolean) dX12_same_39 rfl rfl h)
theorem dX12_orderOf_0 : decode cX12_orderOf 0 = .ok (.aload_n 0, 1) := by decide +kernel
theorem dX12_orderOf_1 : decode cX12_orderOf 1 = .ok (.iload_n 1, 1) := by decide +kernel
theorem dX12_orderOf_2 : decode cX12_orderOf 2 = .ok (.iload_n 2, 1) := by decide +kernel
theorem dX12_orderOf_3 : decode cX12_orderOf 3 = .ok (.invokevirtual 345, 3) := by decide +kernel
theorem dX12_orderOf_6 : decode cX12_orderOf 6 = .ok (.ifCond .ne 5, 3) := by decide +kernel
theorem dX12_orderOf_9 : decode cX12_orderOf 9 = .ok (.iconst (-1), 1) := by decide +kernel
theorem dX12_orderOf_10 : decode cX12_orderOf 10 = .ok (.ireturn, 1) := by decide +kernel
theorem dX12_orderOf_11 : decode cX12_orderOf 11 = .ok (.aload_n 0, 1) := by decide +kernel
theorem dX12_orderOf_12 : decode cX12_orderOf 12 = .ok (.sipush 2900, 3) := by decide +kernel
theorem dX12_orderOf_15 : decode cX12_orderOf 15 = .ok (.invokevirtual 387, 3) := by decide +kernel
theorem dX12_orderOf_18 : decode cX12_orderOf 18 = .ok (.aload_n 0, 1) := by decide +kernel
theorem dX12_orderOf_19 : decode cX12_orderOf 19 = .ok (.sipush 2900, 3) := by decide +kernel
theorem dX12_orderOf_22 : decode cX12_orderOf 22 = .ok (.sipush 2910, 3) := by decide +kernel
theorem dX12_orderOf_25 : decode cX12_orderOf 25 = .ok (.invokevirtual 375, 3) := by decide +kernel
theorem dX12_orderOf_28 : decode cX12_orderOf 28 = .ok (.iconst 1, 1) := by decide +kernel
theorem dX12_orderOf_29 : decode cX12_orderOf 29 = .ok (.istore_n 3, 1) := by decide +kernel
theorem dX12_orderOf_30 : decode cX12_orderOf 30 = .ok (.aload_n 0, 1) := by decide +kernel
theorem dX12_orderOf_31 : decode cX12_orderOf 31 = .ok (.sipush 2910, 3) := by decide +kernel
theorem dX12_orderOf_34 : decode cX12_orderOf 34 = .ok (.invokevirtual 399, 3) := by decide +kernel
theorem dX12_orderOf_37 : decode cX12_orderOf 37 = .ok (.ifCond .ne 22, 3) := by decide +kernel
theorem dX12_orderOf_40 : decode cX12_orderOf 40 = .ok (.aload_n 0, 1) := by decide +kernel
theorem dX12_orderOf_41 : decode cX12_orderOf 41 = .ok (.sipush 2910, 3) := by decide +kernel
theorem dX12_orderOf_44 : decode cX12_orderOf 44 = .ok (.sipush 2900, 3) := by decide +kernel
theorem dX12_orderOf_47 : decode cX12_orderOf 47 = .ok (.sipush 2910, 3) := by decide +kernel
theorem dX12_orderOf_50 : decode cX12_orderOf 50 = .ok (.invokevirtual 381, 3) := by decide +kernel
theorem dX12_orderOf_53 : decode cX12_orderOf 53 = .ok (.iinc 3 1, 3) := by decide +kernel
theorem dX12_orderOf_56 : decode cX12_orderOf 56 = .ok (.goto (-26), 3) := by decide +kernel
theorem dX12_orderOf_59 : decode cX12_orderOf 59 = .ok (.iload_n 3, 1) := by decide +kernel
theorem dX12_orderOf_60 : decode cX12_orderOf 60 = .ok (.ireturn, 1) := by decide +kernel
set_option maxRecDepth 20000 in
theorem b_X12_orderOf_0 {k n : Nat} {x : Wx} {Z : Zt} {Q : Option Value → Wx → Zt → Prop} {a0 : Nat} {v1 : Int} {v2 : Int} (o_a0 : Is12 x a0)
    (h : ∃ g1 : Td, (MT (Z (a0 + 1)) g1 ∧ TdV g1 ∧ Rg v1 ∧ Rg v2 ∧ (∀ (Z'1 : Zt) (r1 : Int), (AsK a0 g1 v1 v2 Z Z'1 r1) → (Rg r1 ∧ (((r1 ≠ 0) → (∃ g2 : Int, (∃ g3 : Int, (∃ g4 : Nat → Int, (∃ g5 : Nat → Int, (∃ g6 : Nat → Int, (MF Z'1 a0 g2 g4 ∧ MSq Z'1 a0 g3 g5 g6 ∧ (∀ j : Nat, j < 169 → -2000 ≤ g5 j ∧ g5 j ≤ 2000) ∧ (0 ≤ (2900 : Int) ∧ ((2900 : Int) + 5 ≤ 2915 ∨ 2940 ≤ (2900 : Int)) ∧ (2900 : Int) ≤ 2995) ∧ (∀ (Z'2 : Zt), (KC Z'2 a0 (2900 : Int).toNat (mCl g2 g4 g5) ∧ MF Z'2 a0 g2 g4 ∧ CG a0 (ClP (2900 : Int).toNat) Z'1 Z'2) → (∃ g7 : UV, (((0 ≤ (2900 : Int) ∧ (2900 : Int) ≤ 2995) ∧ (0 ≤ (2910 : Int) ∧ (2910 : Int) ≤ 2995) ∧ ((2900 : Int) + 5 ≤ (2910 : Int) ∨ (2910 : Int) + 5 ≤ (2900 : Int))) ∧ KC Z'2 a0 (2900 : Int).toNat g7 ∧ (∀ (Z'3 : Zt), (KC Z'3 a0 (2910 : Int).toNat g7 ∧ KF a0 (2910 : Int).toNat Z'2 Z'3) → (V mX12_orderOf k n 30 [some (r_ a0), none, none, some (i_ 1)] [] x Z'3 Q)))))))))))) ∧ ((r1 = 0) → (Q (some (i_ (-1))) x Z'1))))))) :
    V mX12_orderOf k n 0 [some (r_ a0), some (i_ v1), some (i_ v2), none] [] x Z Q :=
  V_aload_n dX12_orderOf_0 rfl (V_iload_n dX12_orderOf_1 rfl (V_iload_n dX12_orderOf_2 rfl (Exists.elim h (fun g1 w1 => V_callV (k' := 0) (n' := 0) (t := 12) (q := (RX12, TX12, 46)) [i_ v1, i_ v2] [] okX12_isAsked o_a0.1 rfl rfl lm_12_345 liX12_isAsked lqX12_isAsked (Nat.le_of_ble_eq_true rfl) (Nat.le_of_ble_eq_true rfl) (Nat.le_of_ble_eq_true rfl) (cat_of rfl) (Nat.le_of_ble_eq_true rfl) (Nat.zero_le _) (Nat.zero_le _) rfl dX12_orderOf_3 (sp_X12_isAsked o_a0 w1.1 w1.2.1 w1.2.2.1 w1.2.2.2.1 (fun Z'1 r1 p1 => V_if_ne (tgt := 11) dX12_orderOf_6 rfl (w1.2.2.2.2 Z'1 r1 p1).1 (fun c1 => V_aload_n dX12_orderOf_11 rfl (V_sipush dX12_orderOf_12 rfl (Exists.elim ((w1.2.2.2.2 Z'1 r1 p1).2.1 c1) (fun g2 w2 => Exists.elim w2 (fun g3 w3 => Exists.elim w3 (fun g4 w4 => Exists.elim w4 (fun g5 w5 => Exists.elim w5 (fun g6 w6 => V_callV (k' := 0) (n' := 0) (t := 12) (q := (RX12, TX12, 46)) [i_ 2900] [] okX12_classOf o_a0.1 rfl rfl lm_12_387 liX12_classOf lqX12_classOf (Nat.le_of_ble_eq_true rfl) (Nat.le_of_ble_eq_true rfl) (Nat.le_of_ble_eq_true rfl) (cat_of rfl) (Nat.le_of_ble_eq_true rfl) (Nat.zero_le _) (Nat.zero_le _) rfl dX12_orderOf_15 (sp_X12_classOf o_a0 w6.1 w6.2.1 w6.2.2.1 w6.2.2.2.1 (fun Z'2 p2 => V_aload_n dX12_orderOf_18 rfl (V_sipush dX12_orderOf_19 rfl (V_sipush dX12_orderOf_22 rfl (Exists.elim (w6.2.2.2.2 Z'2 p2) (fun g7 w7 => V_callV (k' := 0) (n' := 0) (t := 12) (q := (RX12, TX12, 46)) [i_ 2900, i_ 2910] [] okX12_copiesClass o_a0.1 rfl rfl lm_12_375 liX12_copiesClass lqX12_copiesClass (Nat.le_of_ble_eq_true rfl) (Nat.le_of_ble_eq_true rfl) (Nat.le_of_ble_eq_true rfl) (cat_of rfl) (Nat.le_of_ble_eq_true rfl) (Nat.zero_le _) (Nat.zero_le _) rfl dX12_orderOf_25 (sp_X12_copiesClass o_a0 w7.1 w7.2.1 (fun Z'3 p3 => V_iconst dX12_orderOf_28 (V_istore_n (lv' := [some (r_ a0), some (i_ v1), some (i_ v2), some (i_ 1)]) dX12_orderOf_29 (Nat.le_of_ble_eq_true rfl) rfl (V_msk [true, false, false, true] rfl (w7.2.2 Z'3 p3))))))))))))))))))) (fun c1 => V_iconst dX12_orderOf_9 (V_iret (ty := .int) dX12_orderOf_10 rfl rfl ((w1.2.2.2.2 Z'1 r1 p1).2.2 c1)))))))))
set_option maxRecDepth 20000 in
theorem b_X12_orderOf_30 {k n : Nat} {x : Wx} {Z : Zt} {Q : Option Value → Wx → Zt → Prop} {a0 : Nat} {v3 : Int} (o_a0 : Is12 x a0)
    (h : ∃ g1 : UV, ((0 ≤ (2910 : Int) ∧ (2910 : Int) ≤ 2995) ∧ KC Z a0 (2910 : Int).toNat g1 ∧ (Rg (if pd g1.1 = 0 then (1 : Int) else 0) ∧ ((((if pd g1.1 = 0 then (1 : Int) else 0) ≠ 0) → (Q (some (i_ v3)) x Z)) ∧ (((if pd g1.1 = 0 then (1 : Int) else 0) = 0) → (∃ g2 : Int, (∃ g3 : Nat → Int, (∃ g4 : UV, (∃ g5 : UV, (MF Z a0 g2 g3 ∧ (RP g2 (gen g3) g4 ∧ RP g2 (gen g3) g5) ∧ (((0 ≤ (2910 : Int) ∧ (2910 : Int) ≤ 2995) ∧ (0 ≤ (2900 : Int) ∧ (2900 : Int) ≤ 2995)) ∧ (0 ≤ (2910 : Int) ∧ (2910 : Int) ≤ 2995)) ∧ (KC Z a0 (2910 : Int).toNat g4 ∧ KC Z a0 (2900 : Int).toNat g5) ∧ (∀ (Z'1 : Zt), (KC Z'1 a0 (2910 : Int).toNat (cplus g2 g3 (gen g3) g4 g5) ∧ MF Z'1 a0 g2 g3 ∧ TgF a0 (2910 : Int).toNat Z Z'1) → (V mX12_orderOf k n 30 [some (r_ a0), none, none, some (i_ (v3 + 1))] [] x Z'1 Q)))))))))))) :
    V mX12_orderOf k n 30 [some (r_ a0), none, none, some (i_ v3)] [] x Z Q :=
  V_aload_n dX12_orderOf_30 rfl (V_sipush dX12_orderOf_31 rfl (Exists.elim h (fun g1 w1 => V_callV (k' := 0) (n' := 0) (t := 12) (q := (RX12, TX12, 46)) [i_ 2910] [] okX12_isNone o_a0.1 rfl rfl lm_12_399 liX12_isNone lqX12_isNone (Nat.le_of_ble_eq_true rfl) (Nat.le_of_ble_eq_true rfl) (Nat.le_of_ble_eq_true rfl) (cat_of rfl) (Nat.le_of_ble_eq_true rfl) (Nat.zero_le _) (Nat.zero_le _) rfl dX12_orderOf_34 (sp_X12_isNone o_a0 w1.1 w1.2.1 (V_if_ne (tgt := 59) dX12_orderOf_37 rfl w1.2.2.1 (fun c1 => V_iload_n dX12_orderOf_59 rfl (V_iret (ty := .int) dX12_orderOf_60 rfl rfl (w1.2.2.2.1 c1))) (fun c1 => V_aload_n dX12_orderOf_40 rfl (V_sipush dX12_orderOf_41 rfl (V_sipush dX12_orderOf_44 rfl (V_sipush dX12_orderOf_47 rfl (Exists.elim (w1.2.2.2.2 c1) (fun g2 w2 => Exists.elim w2 (fun g3 w3 => Exists.elim w3 (fun g4 w4 => Exists.elim w4 (fun g5 w5 => V_callV (k' := 0) (n' := 0) (t := 12) (q := (RX12, TX12, 46)) [i_ 2910, i_ 2900, i_ 2910] [] okX12_together o_a0.1 rfl rfl lm_12_381 liX12_together lqX12_together (Nat.le_of_ble_eq_true rfl) (Nat.le_of_ble_eq_true rfl) (Nat.le_of_ble_eq_true rfl) (cat_of rfl) (Nat.le_of_ble_eq_true rfl) (Nat.zero_le _) (Nat.zero_le _) rfl dX12_orderOf_50 (sp_X12_together o_a0 w5.1 w5.2.1 w5.2.2.1 w5.2.2.2.1 (fun Z'1 p1 => V_iinc (lv' := [some (r_ a0), none, none, some (i_ (v3 + 1))]) dX12_orderOf_53 rfl (Nat.le_of_ble_eq_true rfl) rfl (V_goto (tgt := 30) dX12_orderOf_56 rfl (V_msk [true, false, false, true] rfl (w5.2.2.2.2 Z'1 p1)))))))))))))))))))
theorem dX12_log_0 : decode cX12_log 0 = .ok (.aload_n 0, 1) := by decide +kernel
theorem dX12_log_1 : decode cX12_log 1 = .ok (.iload_n 1, 1) := by decide +kernel
theorem dX12_log_2 : decode cX12_log 2 = .ok (.iload_n 2, 1) := by decide +kernel
theorem dX12_log_3 : decode cX12_log 3 = .ok (.iload_n 3, 1) := by decide +kernel
theorem dX12_log_4 : decode cX12_log 4 = .ok (.invokevirtual 396, 3) := by decide +kernel
theorem dX12_log_7 : decode cX12_log 7 = .ok (.ifCond .ne 5, 3) := by decide +kernel
theorem dX12_log_10 : decode cX12_log 10 = .ok (.iconst (-1), 1) := by decide +kernel
theorem dX12_log_11 : decode cX12_log 11 = .ok (.ireturn, 1) := by decide +kernel
theorem dX12_log_12 : decode cX12_log 12 = .ok (.aload_n 0, 1) := by decide +kernel
theorem dX12_log_13 : decode cX12_log 13 = .ok (.sipush 2910, 3) := by decide +kernel
theorem dX12_log_16 : decode cX12_log 16 = .ok (.invokevirtual 360, 3) := by decide +kernel
theorem dX12_log_19 : decode cX12_log 19 = .ok (.iconst 0, 1) := by decide +kernel
theorem dX12_log_20 : decode cX12_log 20 = .ok (.istore 4, 2) := by decide +kernel
theorem dX12_log_22 : decode cX12_log 22 = .ok (.aload_n 0, 1) := by decide +kernel
theorem dX12_log_23 : decode cX12_log 23 = .ok (.sipush 2910, 3) := by decide +kernel
theorem dX12_log_26 : decode cX12_log 26 = .ok (.sipush 2905, 3) := by decide +kernel
theorem dX12_log_29 : decode cX12_log 29 = .ok (.invokevirtual 402, 3) := by decide +kernel
theorem dX12_log_32 : decode cX12_log 32 = .ok (.ifCond .ne 31, 3) := by decide +kernel
theorem dX12_log_35 : decode cX12_log 35 = .ok (.aload_n 0, 1) := by decide +kernel
theorem dX12_log_36 : decode cX12_log 36 = .ok (.sipush 2910, 3) := by decide +kernel
theorem dX12_log_39 : decode cX12_log 39 = .ok (.sipush 2900, 3) := by decide +kernel
theorem dX12_log_42 : decode cX12_log 42 = .ok (.sipush 2910, 3) := by decide +kernel
theorem dX12_log_45 : decode cX12_log 45 = .ok (.invokevirtual 381, 3) := by decide +kernel
theorem dX12_log_48 : decode cX12_log 48 = .ok (.iinc 4 1, 3) := by decide +kernel
theorem dX12_log_51 : decode cX12_log 51 = .ok (.aload_n 0, 1) := by decide +kernel
theorem dX12_log_52 : decode cX12_log 52 = .ok (.sipush 2910, 3) := by decide +kernel
theorem dX12_log_55 : decode cX12_log 55 = .ok (.invokevirtual 399, 3) := by decide +kernel
theorem dX12_log_58 : decode cX12_log 58 = .ok (.ifCond .eq (-36), 3) := by decide +kernel
theorem dX12_log_61 : decode cX12_log 61 = .ok (.iconst (-1), 1) := by decide +kernel
theorem dX12_log_62 : decode cX12_log 62 = .ok (.ireturn, 1) := by decide +kernel
theorem dX12_log_63 : decode cX12_log 63 = .ok (.iload 4, 2) := by decide +kernel
theorem dX12_log_65 : decode cX12_log 65 = .ok (.ireturn, 1) := by decide +kernel
set_option maxRecDepth 20000 in
theorem b_X12_log_0 {k n : Nat} {x : Wx} {Z : Zt} {Q : Option Value → Wx → Zt → Prop} {a0 : Nat} {v1 : Int} {v2 : Int} {v3 : Int} (o_a0 : Is12 x a0)
    (h : ∃ g1 : Td, (MT (Z (a0 + 1)) g1 ∧ TdV g1 ∧ (Rg v1 ∧ Rg v2 ∧ Rg v3) ∧ (∀ (Z'1 : Zt) (r1 : Int), (Ar2 a0 g1 v1 v2 v3 Z Z'1 r1) → (Rg r1 ∧ (((r1 ≠ 0) → ((0 ≤ (2910 : Int) ∧ (2910 : Int) ≤ 2995) ∧ (∀ (Z'2 : Zt), ((∀ i : Nat, i < 5 → Z'2 (a0 + 20) ((2910 : Int).toNat + i) = 0) ∧ KF a0 (2910 : Int).toNat Z'1 Z'2) → (V mX12_log k n 22 [some (r_ a0), none, none, none, some (i_ 0)] [] x Z'2 Q)))) ∧ ((r1 = 0) → (Q (some (i_ (-1))) x Z'1))))))) :
    V mX12_log k n 0 [some (r_ a0), some (i_ v1), some (i_ v2), some (i_ v3), none] [] x Z Q :=
  V_aload_n dX12_log_0 rfl (V_iload_n dX12_log_1 rfl (V_iload_n dX12_log_2 rfl (V_iload_n dX12_log_3 rfl (Exists.elim h (fun g1 w1 => V_callV (k' := 0) (n' := 0) (t := 12) (q := (RX12, TX12, 46)) [i_ v1, i_ v2, i_ v3] [] okX12_areTwo o_a0.1 rfl rfl lm_12_396 liX12_areTwo lqX12_areTwo (Nat.le_of_ble_eq_true rfl) (Nat.le_of_ble_eq_true rfl) (Nat.le_of_ble_eq_true rfl) (cat_of rfl) (Nat.le_of_ble_eq_true rfl) (Nat.zero_le _) (Nat.zero_le _) rfl dX12_log_4 (sp_X12_areTwo o_a0 w1.1 w1.2.1 w1.2.2.1 (fun Z'1 r1 p1 => V_if_ne (tgt := 12) dX12_log_7 rfl (w1.2.2.2 Z'1 r1 p1).1 (fun c1 => V_aload_n dX12_log_12 rfl (V_sipush dX12_log_13 rfl (V_callV (k' := 0) (n' := 0) (t := 12) (q := (RX12, TX12, 46)) [i_ 2910] [] okX12_noClass o_a0.1 rfl rfl lm_12_360 liX12_noClass lqX12_noClass (Nat.le_of_ble_eq_true rfl) (Nat.le_of_ble_eq_true rfl) (Nat.le_of_ble_eq_true rfl) (cat_of rfl) (Nat.le_of_ble_eq_true rfl) (Nat.zero_le _) (Nat.zero_le _) rfl dX12_log_16 (sp_X12_noClass o_a0 ((w1.2.2.2 Z'1 r1 p1).2.1 c1).1 (fun Z'2 p2 => V_iconst dX12_log_19 (V_istore (lv' := [some (r_ a0), some (i_ v1), some (i_ v2), some (i_ v3), some (i_ 0)]) dX12_log_20 (Nat.le_of_ble_eq_true rfl) rfl (V_msk [true, false, false, false, true] rfl (((w1.2.2.2 Z'1 r1 p1).2.1 c1).2 Z'2 p2)))))))) (fun c1 => V_iconst dX12_log_10 (V_iret (ty := .int) dX12_log_11 rfl rfl ((w1.2.2.2 Z'1 r1 p1).2.2 c1))))))))))
set_option maxRecDepth 20000 in
theorem b_X12_log_22 {k n : Nat} {x : Wx} {Z : Zt} {Q : Option Value → Wx → Zt → Prop} {a0 : Nat} {v4 : Int} (o_a0 : Is12 x a0)
    (h : ∃ g1 : Int, (∃ g2 : Int, (∃ g3 : UV, (∃ g4 : UV, ((IsP g1 ∧ g2 ≤ 2) ∧ (RP g1 g2 g3 ∧ RP g1 g2 g4) ∧ ((0 ≤ (2910 : Int) ∧ (2910 : Int) ≤ 2995) ∧ (0 ≤ (2905 : Int) ∧ (2905 : Int) ≤ 2995)) ∧ (KC Z a0 (2910 : Int).toNat g3 ∧ KC Z a0 (2905 : Int).toNat g4) ∧ (∀ (r1 : Int), (((r1 = 1 ∧ g3 = g4) ∨ (r1 = 0 ∧ g3 ≠ g4))) → (Rg r1 ∧ (((r1 ≠ 0) → (Q (some (i_ v4)) x Z)) ∧ ((r1 = 0) → (∃ g5 : Int, (∃ g6 : Nat → Int, (∃ g7 : UV, (∃ g8 : UV, (MF Z a0 g5 g6 ∧ (RP g5 (gen g6) g7 ∧ RP g5 (gen g6) g8) ∧ (((0 ≤ (2910 : Int) ∧ (2910 : Int) ≤ 2995) ∧ (0 ≤ (2900 : Int) ∧ (2900 : Int) ≤ 2995)) ∧ (0 ≤ (2910 : Int) ∧ (2910 : Int) ≤ 2995)) ∧ (KC Z a0 (2910 : Int).toNat g7 ∧ KC Z a0 (2900 : Int).toNat g8) ∧ (∀ (Z'1 : Zt), (KC Z'1 a0 (2910 : Int).toNat (cplus g5 g6 (gen g6) g7 g8) ∧ MF Z'1 a0 g5 g6 ∧ TgF a0 (2910 : Int).toNat Z Z'1) → (∃ g9 : UV, ((0 ≤ (2910 : Int) ∧ (2910 : Int) ≤ 2995) ∧ KC Z'1 a0 (2910 : Int).toNat g9 ∧ (Rg (if pd g9.1 = 0 then (1 : Int) else 0) ∧ ((((if pd g9.1 = 0 then (1 : Int) else 0) = 0) → (V mX12_log k n 22 [some (r_ a0), none, none, none, some (i_ (v4 + 1))] [] x Z'1 Q)) ∧ (((if pd g9.1 = 0 then (1 : Int) else 0) ≠ 0) → (Q (some (i_ (-1))) x Z'1))))))))))))))))))))) :
    V mX12_log k n 22 [some (r_ a0), none, none, none, some (i_ v4)] [] x Z Q :=
  V_aload_n dX12_log_22 rfl (V_sipush dX12_log_23 rfl (V_sipush dX12_log_26 rfl (Exists.elim h (fun g1 w1 => Exists.elim w1 (fun g2 w2 => Exists.elim w2 (fun g3 w3 => Exists.elim w3 (fun g4 w4 => V_callV (k' := 0) (n' := 0) (t := 12) (q := (RX12, TX12, 46)) [i_ 2910, i_ 2905] [] okX12_areAlike o_a0.1 rfl rfl lm_12_402 liX12_areAlike lqX12_areAlike (Nat.le_of_ble_eq_true rfl) (Nat.le_of_ble_eq_true rfl) (Nat.le_of_ble_eq_true rfl) (cat_of rfl) (Nat.le_of_ble_eq_true rfl) (Nat.zero_le _) (Nat.zero_le _) rfl dX12_log_29 (sp_X12_areAlike o_a0 w4.1 w4.2.1 w4.2.2.1 w4.2.2.2.1 (fun r1 p1 => V_if_ne (tgt := 63) dX12_log_32 rfl (w4.2.2.2.2 r1 p1).1 (fun c1 => V_iload dX12_log_63 rfl (V_iret (ty := .int) dX12_log_65 rfl rfl ((w4.2.2.2.2 r1 p1).2.1 c1))) (fun c1 => V_aload_n dX12_log_35 rfl (V_sipush dX12_log_36 rfl (V_sipush dX12_log_39 rfl (V_sipush dX12_log_42 rfl (Exists.elim ((w4.2.2.2.2 r1 p1).2.2 c1) (fun g5 w5 => Exists.elim w5 (fun g6 w6 => Exists.elim w6 (fun g7 w7 => Exists.elim w7 (fun g8 w8 => V_callV (k' := 0) (n' := 0) (t := 12) (q := (RX12, TX12, 46)) [i_ 2910, i_ 2900, i_ 2910] [] okX12_together o_a0.1 rfl rfl lm_12_381 liX12_together lqX12_together (Nat.le_of_ble_eq_true rfl) (Nat.le_of_ble_eq_true rfl) (Nat.le_of_ble_eq_true rfl) (cat_of rfl) (Nat.le_of_ble_eq_true rfl) (Nat.zero_le _) (Nat.zero_le _) rfl dX12_log_45 (sp_X12_together o_a0 w8.1 w8.2.1 w8.2.2.1 w8.2.2.2.1 (fun Z'1 p2 => V_iinc (lv' := [some (r_ a0), none, none, none, some (i_ (v4 + 1))]) dX12_log_48 rfl (Nat.le_of_ble_eq_true rfl) rfl (V_aload_n dX12_log_51 rfl (V_sipush dX12_log_52 rfl (Exists.elim (w8.2.2.2.2 Z'1 p2) (fun g9 w9 => V_callV (k' := 0) (n' := 0) (t := 12) (q := (RX12, TX12, 46)) [i_ 2910] [] okX12_isNone o_a0.1 rfl rfl lm_12_399 liX12_isNone lqX12_isNone (Nat.le_of_ble_eq_true rfl) (Nat.le_of_ble_eq_true rfl) (Nat.le_of_ble_eq_true rfl) (cat_of rfl) (Nat.le_of_ble_eq_true rfl) (Nat.zero_le _) (Nat.zero_le _) rfl dX12_log_55 (sp_X12_isNone o_a0 w9.1 w9.2.1 (V_if_eq (tgt := 22) dX12_log_58 rfl w9.2.2.1 (fun c2 => V_msk [true, false, false, false, true] rfl (w9.2.2.2.1 c2)) (fun c2 => V_iconst dX12_log_61 (V_iret (ty := .int) dX12_log_62 rfl rfl (w9.2.2.2.2 c2)))))))))))))))))))))))))))))
def mAAdded (T : Td) (c s t w : Int) : Int := if (fitB T c s && fitB T c t) = true ∧ 0 ≤ w ∧ w ≤ 4 then ptV (cplus (T.p c.toNat) (T.F c.toNat) (T.g c.toNat) (T.mK c.toNat s.toNat) (T.mK c.toNat t.toNat)) w else -1
theorem TgF.mq {b c : Nat} {Z Z1 : Zt} (h : TgF b c Z Z1) : Mq b Z Z1 := ⟨h.1 _ (by omega) (by omega), h.1 _ (by omega) (by omega), fun c hc => h.1 c (by omega) (by omega)⟩
theorem KF.mq {b c : Nat} {Z Z1 : Zt} (h : KF b c Z Z1) : Mq b Z Z1 := ⟨h.1 _ (by omega), h.1 _ (by omega), fun c hc => h.1 c (by omega)⟩
theorem sp_X12_added {k n : Nat} {x : Wx} {Z : Zt} {Q : Option Value → Wx → Zt → Prop} {b : Nat} {c s t w : Int} {S : Ab} (hI : MI x Z b S) (hV : AbV S) (hc : Rg c) (hs : Rg s) (ht : Rg t) (hw : Rg w) (h : RAm b x Z Q (mAAdded S.nw c s t w)) : V mX12_added k n 0 [some (r_ b), some (i_ c), some (i_ s), some (i_ t), some (i_ w)] [] x Z Q := by
  obtain ⟨o, hT, _⟩ := id hI
  unfold mAAdded at h
  refine b_X12_added_0 o ⟨S.nw, hT, hV.1, ⟨hc, hs, ht⟩, fun Z1 r1 hk => ⟨by rw [hk.1]; exact bI_rg _, fun c1 => ?_, fun c1 => ?_⟩⟩
  · have hf := bI_1 (hk.1 ▸ c1)
    obtain ⟨hF, k1, k2, _, _⟩ := hk.2.2 hf
    have hC := hF.2.1
    have hgn := hC.2.2.2.2
    have a1 : RP (S.nw.p c.toNat) (gen (S.nw.F c.toNat)) (S.nw.mK c.toNat s.toNat) := mCl_ok hC _
    have a2 : RP (S.nw.p c.toNat) (gen (S.nw.F c.toNat)) (S.nw.mK c.toNat t.toNat) := mCl_ok hC _
    refine ⟨_, _, _, _, hF, ⟨a1, a2⟩, ⟨⟨by decide, by decide⟩, by decide⟩, ⟨k1, k2⟩, fun Z2 hz2 => ⟨_, _, _, ⟨hC.1, by omega⟩, cplus_ok hC a1 a2, by decide, hw, hz2.1, ?_⟩⟩
    have q2 := hk.2.1.tr hz2.2.2.mq
    by_cases cw : 0 ≤ w ∧ w ≤ 4
    · rw [if_pos cw]
      rw [if_pos ⟨hf, cw⟩] at h
      exact h Z2 q2
    · rw [if_neg cw]
      rw [if_neg (fun e => cw e.2)] at h
      exact h Z2 q2
  · have e0 := bI_0 (hk.1 ▸ c1)
    rw [if_neg (fun e => by rw [e0] at e; exact absurd e.1 (by decide))] at h
    exact h Z1 hk.2.1
def mASame (T : Td) (c s t : Int) : Prop := (fitB T c s && fitB T c t) = true ∧ T.mK c.toNat s.toNat = T.mK c.toNat t.toNat ∧ sdeg (T.rw (2 + s.toNat)) (T.rw (2 + s.toNat) 0).toNat = sdeg (T.rw (2 + t.toNat)) (T.rw (2 + t.toNat) 0).toNat
theorem sp_X12_same {k n : Nat} {x : Wx} {Z : Zt} {Q : Option Value → Wx → Zt → Prop} {b : Nat} {c s t : Int} {S : Ab} (hI : MI x Z b S) (hV : AbV S) (hc : Rg c) (hs : Rg s) (ht : Rg t) (h : ∀ (Z' : Zt) (r : Int), (r = 0 ∨ r = 1) → (r = 1 ↔ mASame S.nw c s t) → Mq b Z Z' → Q (some (i_ r)) x Z') : V mX12_same k n 0 [some (r_ b), some (i_ c), some (i_ s), some (i_ t)] [] x Z Q := by
  obtain ⟨o, hT, _⟩ := id hI
  have no : ∀ Z' : Zt, Mq b Z Z' → ¬ mASame S.nw c s t → V mX12_same k n 38 [none, none, none, none] [] x Z' Q := fun Z' q hn => b_X12_same_38 (h Z' 0 (Or.inl rfl) ⟨fun e => by omega, fun e => absurd e hn⟩ q)
  refine b_X12_same_0 o ⟨S.nw, hT, hV.1, ⟨hc, hs, ht⟩, fun Z1 r1 hk => ⟨by rw [hk.1]; exact bI_rg _, fun c1 => ?_, fun c1 => ?_⟩⟩
  · have e0 := bI_0 (hk.1 ▸ c1)
    exact no Z1 hk.2.1 (fun e => by have := e.1; rw [e0] at this; exact absurd this (by decide))
  · have hf := bI_1 (hk.1 ▸ c1)
    obtain ⟨hF, k1, k2, e35, hS⟩ := hk.2.2 hf
    have hC := hF.2.1
    have hgn := hC.2.2.2.2
    rw [Bool.and_eq_true] at hf
    have a1 : RP (S.nw.p c.toNat) (gen (S.nw.F c.toNat)) (S.nw.mK c.toNat s.toNat) := mCl_ok hC _
    have a2 : RP (S.nw.p c.toNat) (gen (S.nw.F c.toNat)) (S.nw.mK c.toNat t.toNat) := mCl_ok hC _
    have s1 := fit_sum hV.1 hf.1
    have s2 := fit_sum hV.1 hf.2
    have d1 := sdeg_rg s1 (S.nw.rw (2 + s.toNat) 0).toNat (by have := s1.1; omega)
    have d2 := sdeg_rg s2 (S.nw.rw (2 + t.toNat) 0).toNat (by have := s2.1; omega)
    have ed := rO_deg s2
    have n1 := s1.1
    have n2 := s2.1
    refine ⟨_, _, _, hS, ?_⟩
    rw [e35, ed]
    refine ⟨⟨by omega, by omega⟩, ⟨by omega, by omega⟩, fun c2 => no Z1 hk.2.1 (fun e => c2 e.2.2.symm), fun c2 => ⟨_, _, _, _, ⟨hC.1, by omega⟩, ⟨a1, a2⟩, ⟨by decide, by decide⟩, ⟨k1, k2⟩, fun r2 h2 => ?_⟩⟩
    rcases h2 with ⟨e2, e3⟩ | ⟨e2, e3⟩
    · exact ⟨⟨by omega, by omega⟩, fun c3 => by omega, fun _ => h Z1 1 (Or.inr rfl) ⟨fun _ => ⟨by rw [hf.1, hf.2]; rfl, e3, c2.symm⟩, fun _ => rfl⟩ hk.2.1⟩
    · exact ⟨⟨by omega, by omega⟩, fun _ => no Z1 hk.2.1 (fun e => e3 e.2.1), fun c3 => by omega⟩
/-- orders, where so many steps come to the end -/
def mAOrderOf (T : Td) (N : Nat) (c s : Int) : Int := if fitB T c s = true then ordF (T.p c.toNat) (T.F c.toNat) (T.g c.toNat) (T.mK c.toNat s.toNat) N 1 (T.mK c.toNat s.toNat) else -1
theorem sp_X12_orderOf {k n : Nat} {x : Wx} {Z : Zt} {Q : Option Value → Wx → Zt → Prop} {b : Nat} {c s : Int} {S : Ab} (hI : MI x Z b S) (hV : AbV S) (hc : Rg c) (hs : Rg s) (N : Nat) (hN : N ≤ 1000) (hE : fitB S.nw c s = true → pd (addN (S.nw.p c.toNat) (S.nw.F c.toNat) (S.nw.g c.toNat) (S.nw.mK c.toNat s.toNat) N (S.nw.mK c.toNat s.toNat)).1 ≤ 0) (h : RAm b x Z Q (mAOrderOf S.nw N c s)) : V mX12_orderOf k n 0 [some (r_ b), some (i_ c), some (i_ s), none] [] x Z Q := by
  obtain ⟨o, hT, _⟩ := id hI
  unfold mAOrderOf at h
  refine b_X12_orderOf_0 o ⟨S.nw, hT, hV.1, hc, hs, fun Z1 r1 hk => ⟨by rw [hk.1]; exact bI_rg _, fun c1 => ?_, fun c1 => ?_⟩⟩
  · have hf := bI_1 (hk.1 ▸ c1)
    obtain ⟨hF, hS⟩ := hk.2.2 hf
    have hSR := fit_sum hV.1 hf
    have hC := hF.2.1
    have hgn := hC.2.2.2.2
    have hE := hE hf
    rw [if_pos hf] at h
    have eg : S.nw.g c.toNat = gen (S.nw.F c.toNat) := rfl
    rw [eg] at h hE
    obtain ⟨A, hA'⟩ : ∃ A : UV, S.nw.mK c.toNat s.toNat = A := ⟨_, rfl⟩
    rw [hA'] at h hE
    have hA : RP (S.nw.p c.toNat) (gen (S.nw.F c.toNat)) A := by rw [← hA']; exact mCl_ok hC _
    obtain ⟨p, hp'⟩ : ∃ p : Int, S.nw.p c.toNat = p := ⟨_, rfl⟩
    obtain ⟨F, hF'⟩ : ∃ F : Nat → Int, S.nw.F c.toNat = F := ⟨_, rfl⟩
    rw [hp', hF'] at hA hE h hF hC
    rw [hF'] at hgn
    have eA : mCl p F (rO (S.nw.rw (2 + s.toNat)) 1) = A := by rw [← hA', ← hp', ← hF']; rfl
    have t10 : (2910 : Int).toNat = 2910 := rfl
    obtain ⟨R, hR⟩ : ∃ R : Int, ordF p F (gen F) A N 1 A = R := ⟨_, rfl⟩
    rw [hR] at h
    have lp : ∀ (m : Nat) (q : Int) (W : UV) (Z2 : Zt), 1 ≤ q → q + m ≤ 1001 → KC Z2 b 2910 W → KC Z2 b 2900 A → RP p (gen F) W → MF Z2 b p F → Mq b Z Z2 → pd (addN p F (gen F) A m W).1 ≤ 0 → ordF p F (gen F) A m q W = R → V mX12_orderOf k n 30 [some (r_ b), none, none, some (i_ q)] [] x Z2 Q := by
      intro m
      induction m with
      | zero =>
        intro q W Z2 h1 h2 k1 k2 rW f2 q2 he hr
        have hr : q = R := hr
        have he : pd W.1 ≤ 0 := he
        have w0 := rW.2.2.1
        rw [← hr] at h
        exact b_X12_orderOf_30 o ⟨W, by decide, k1, by rw [if_pos (by omega)]; exact ⟨by decide, by decide⟩, fun _ => h Z2 q2, fun cc => by rw [if_pos (by omega)] at cc; omega⟩
      | succ m ih =>
        intro q W Z2 h1 h2 k1 k2 rW f2 q2 he hr
        have w0 := rW.2.2.1
        unfold ordF at hr
        have he : pd (addN p F (gen F) A m (cplus p F (gen F) W A)).1 ≤ 0 := he
        by_cases cw : pd W.1 = 0
        · rw [if_pos (by omega)] at hr
          refine b_X12_orderOf_30 o ⟨W, by decide, k1, by rw [if_pos cw]; exact ⟨by decide, by decide⟩, fun _ => ?_, fun cc => by rw [if_pos cw] at cc; omega⟩
          rw [hr]; exact h Z2 q2
        · rw [if_neg (by omega)] at hr
          refine b_X12_orderOf_30 o ⟨W, by decide, k1, by rw [if_neg cw]; exact ⟨by decide, by decide⟩, fun cc => by rw [if_neg cw] at cc; omega, fun _ => ⟨p, F, W, A, f2, ⟨rW, hA⟩, ⟨⟨by decide, by decide⟩, by decide⟩, ⟨k1, k2⟩, fun Z3 hz3 => ih (q + 1) _ Z3 (by omega) (by omega) hz3.1 (fun i hi => by rw [hz3.2.2.2 _ (by rw [t10]; omega)]; exact k2 i hi) (cplus_ok hC rW hA) hz3.2.1 (q2.tr hz3.2.2.mq) he hr⟩⟩
    refine ⟨p, _, F, _, _, hF, hS, rO_rg hSR, by decide, fun Z2 hz2 => ?_⟩
    have k2 : KC Z2 b 2900 A := by rw [← eA]; exact hz2.1
    refine ⟨A, ⟨by decide, by decide, by decide⟩, k2, fun Z3 hz3 => lp N 1 A Z3 (by omega) (by omega) hz3.1 (k2.kf hz3.2 (by rw [t10]; omega)) hA (hz2.2.1.kf hz3.2) (hk.2.1.tr (hz2.2.2.mq.tr hz3.2.mq)) hE hR⟩
  · have e0 := bI_0 (hk.1 ▸ c1)
    rw [if_neg (fun e => by rw [e0] at e; exact absurd e (by decide))] at h
    exact h Z1 hk.2.1
noncomputable def logM (p : Int) (F : Nat → Int) (g : Int) (P T : UV) : Nat → Int → UV → Int
  | 0, _, _ => -1
  | m + 1, n, W => @ite _ (W = T) (Classical.propDecidable _) n (if pd (cplus p F g W P).1 ≤ 0 then -1 else logM p F g P T m (n + 1) (cplus p F g W P))
noncomputable def mALog (T : Td) (N : Nat) (c s t : Int) : Int := if (fitB T c s && fitB T c t) = true then logM (T.p c.toNat) (T.F c.toNat) (T.g c.toNat) (T.mK c.toNat s.toNat) (T.mK c.toNat t.toNat) N 0 czero else -1
theorem sp_X12_log {k n : Nat} {x : Wx} {Z : Zt} {Q : Option Value → Wx → Zt → Prop} {b : Nat} {c s t : Int} {S : Ab} (hI : MI x Z b S) (hV : AbV S) (hc : Rg c) (hs : Rg s) (ht : Rg t) (N : Nat) (hN : 1 ≤ N ∧ N ≤ 1000) (hE : (fitB S.nw c s && fitB S.nw c t) = true → pd (addN (S.nw.p c.toNat) (S.nw.F c.toNat) (S.nw.g c.toNat) (S.nw.mK c.toNat s.toNat) N czero).1 ≤ 0) (h : RAm b x Z Q (mALog S.nw N c s t)) : V mX12_log k n 0 [some (r_ b), some (i_ c), some (i_ s), some (i_ t), none] [] x Z Q := by
  obtain ⟨o, hT, _⟩ := id hI
  unfold mALog at h
  refine b_X12_log_0 o ⟨S.nw, hT, hV.1, ⟨hc, hs, ht⟩, fun Z1 r1 hk => ⟨by rw [hk.1]; exact bI_rg _, fun c1 => ?_, fun c1 => ?_⟩⟩
  · have hf := bI_1 (hk.1 ▸ c1)
    obtain ⟨hF, k1, k2, _, _⟩ := hk.2.2 hf
    have hC := hF.2.1
    have hgn := hC.2.2.2.2
    have hE := hE hf
    rw [if_pos hf] at h
    have eg : S.nw.g c.toNat = gen (S.nw.F c.toNat) := rfl
    rw [eg] at h hE
    have hA : RP (S.nw.p c.toNat) (gen (S.nw.F c.toNat)) (S.nw.mK c.toNat s.toNat) := mCl_ok hC _
    have hB : RP (S.nw.p c.toNat) (gen (S.nw.F c.toNat)) (S.nw.mK c.toNat t.toNat) := mCl_ok hC _
    generalize S.nw.mK c.toNat s.toNat = A at h hE hA k1
    generalize S.nw.mK c.toNat t.toNat = B at h hB k2
    have q1 := hk.2.1
    clear hk hf
    generalize S.nw.p c.toNat = p at hA hB hE h hF hC
    generalize S.nw.F c.toNat = F at hA hB hE h hF hC hgn
    have t10 : (2910 : Int).toNat = 2910 := rfl
    obtain ⟨R, hR⟩ : ∃ R : Int, logM p F (gen F) A B N 0 czero = R := ⟨_, rfl⟩
    rw [hR] at h
    have lp : ∀ (m : Nat) (q : Int) (W : UV) (Z2 : Zt), 0 ≤ q → q + m ≤ 1000 → KC Z2 b 2910 W → KC Z2 b 2900 A → KC Z2 b 2905 B → RP p (gen F) W → MF Z2 b p F → Mq b Z Z2 → (1 ≤ m ∧ pd (addN p F (gen F) A m W).1 ≤ 0) → logM p F (gen F) A B m q W = R → V mX12_log k n 22 [some (r_ b), none, none, none, some (i_ q)] [] x Z2 Q := by
      intro m
      induction m with
      | zero => intro q W Z2 h1 h2 k1 k2 k3 rW f2 q2 he hr; omega
      | succ m ih =>
        intro q W Z2 h1 h2 k1 k2 k3 rW f2 q2 he hr
        unfold logM at hr
        have he : pd (addN p F (gen F) A m (cplus p F (gen F) W A)).1 ≤ 0 := he.2
        have rW2 := cplus_ok hC rW hA
        have w0 := rW2.2.2.1
        refine b_X12_log_22 o ⟨p, gen F, W, B, ⟨hC.1, by omega⟩, ⟨rW, hB⟩, ⟨by decide, by decide⟩, ⟨k1, k3⟩, fun r2 h3 => ?_⟩
        rcases h3 with ⟨e2, e3⟩ | ⟨e2, e3⟩
        · rw [if_pos e3] at hr
          exact ⟨⟨by omega, by omega⟩, fun _ => by rw [hr]; exact h Z2 q2, fun cc => by omega⟩
        · rw [if_neg e3] at hr
          refine ⟨⟨by omega, by omega⟩, fun cc => by omega, fun _ => ⟨p, F, W, A, f2, ⟨rW, hA⟩, ⟨⟨by decide, by decide⟩, by decide⟩, ⟨k1, k2⟩, fun Z3 hz3 => ⟨_, by decide, hz3.1, ?_⟩⟩⟩
          have q3 := q2.tr hz3.2.2.mq
          by_cases cw : pd (cplus p F (gen F) W A).1 = 0
          · rw [if_pos (by omega)] at hr
            refine ⟨by rw [if_pos cw]; exact ⟨by decide, by decide⟩, fun cc => by rw [if_pos cw] at cc; omega, fun _ => ?_⟩
            rw [hr]; exact h Z3 q3
          · rw [if_neg (by omega)] at hr
            refine ⟨by rw [if_neg cw]; exact ⟨by decide, by decide⟩, fun _ => ?_, fun cc => by rw [if_neg cw] at cc; omega⟩
            refine ih (q + 1) _ Z3 (by omega) (by omega) hz3.1 (fun i hi => by rw [hz3.2.2.2 _ (by rw [t10]; omega)]; exact k2 i hi) (fun i hi => by rw [hz3.2.2.2 _ (by rw [t10]; omega)]; exact k3 i hi) rW2 hz3.2.1 q3 ⟨?_, he⟩ hr
            cases m with
            | zero => have he : pd (cplus p F (gen F) W A).1 ≤ 0 := he; omega
            | succ m => omega
    exact ⟨by decide, fun Z2 hz2 => lp N 0 czero Z2 (by omega) (by omega) (KC.z hC.1 (g := gen F) (by omega) hz2.1) (k1.kf hz2.2 (by rw [t10]; omega)) (k2.kf hz2.2 (by rw [t10]; omega)) (czero_ok hC.1 (by omega)) (hF.kf hz2.2) (q1.tr hz2.2.mq) ⟨hN.1, hE⟩ hR⟩
  · have e0 := bI_0 (hk.1 ▸ c1)
    rw [if_neg (fun e => by rw [e0] at e; exact absurd e (by decide))] at h
    exact h Z1 hk.2.1
