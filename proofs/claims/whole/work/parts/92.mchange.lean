/-! ===== the reference: change, like ===== -/
theorem dX12_moves_0 : decode cX12_moves 0 = .ok (.aload_n 0, 1) := by decide +kernel
theorem dX12_moves_1 : decode cX12_moves 1 = .ok (.iload 4, 2) := by decide +kernel
theorem dX12_moves_3 : decode cX12_moves 3 = .ok (.invokevirtual 188, 3) := by decide +kernel
theorem dX12_moves_6 : decode cX12_moves 6 = .ok (.aload_n 0, 1) := by decide +kernel
theorem dX12_moves_7 : decode cX12_moves 7 = .ok (.iload_n 1, 1) := by decide +kernel
theorem dX12_moves_8 : decode cX12_moves 8 = .ok (.invokevirtual 192, 3) := by decide +kernel
theorem dX12_moves_11 : decode cX12_moves 11 = .ok (.istore 5, 2) := by decide +kernel
theorem dX12_moves_13 : decode cX12_moves 13 = .ok (.iload 5, 2) := by decide +kernel
theorem dX12_moves_15 : decode cX12_moves 15 = .ok (.ifCond .lt 72, 3) := by decide +kernel
theorem dX12_moves_18 : decode cX12_moves 18 = .ok (.aload_n 0, 1) := by decide +kernel
theorem dX12_moves_19 : decode cX12_moves 19 = .ok (.bipush 21, 2) := by decide +kernel
theorem dX12_moves_21 : decode cX12_moves 21 = .ok (.invokevirtual 188, 3) := by decide +kernel
theorem dX12_moves_24 : decode cX12_moves 24 = .ok (.aload_n 0, 1) := by decide +kernel
theorem dX12_moves_25 : decode cX12_moves 25 = .ok (.bipush 21, 2) := by decide +kernel
theorem dX12_moves_27 : decode cX12_moves 27 = .ok (.iload 4, 2) := by decide +kernel
theorem dX12_moves_29 : decode cX12_moves 29 = .ok (.iload_n 3, 1) := by decide +kernel
theorem dX12_moves_30 : decode cX12_moves 30 = .ok (.iconst 0, 1) := by decide +kernel
theorem dX12_moves_31 : decode cX12_moves 31 = .ok (.invokevirtual 195, 3) := by decide +kernel
theorem dX12_moves_34 : decode cX12_moves 34 = .ok (.aload_n 0, 1) := by decide +kernel
theorem dX12_moves_35 : decode cX12_moves 35 = .ok (.bipush 21, 2) := by decide +kernel
theorem dX12_moves_37 : decode cX12_moves 37 = .ok (.iload 4, 2) := by decide +kernel
theorem dX12_moves_39 : decode cX12_moves 39 = .ok (.iload_n 2, 1) := by decide +kernel
theorem dX12_moves_40 : decode cX12_moves 40 = .ok (.iconst 1, 1) := by decide +kernel
theorem dX12_moves_41 : decode cX12_moves 41 = .ok (.invokevirtual 195, 3) := by decide +kernel
theorem dX12_moves_44 : decode cX12_moves 44 = .ok (.aload_n 0, 1) := by decide +kernel
theorem dX12_moves_45 : decode cX12_moves 45 = .ok (.bipush 21, 2) := by decide +kernel
theorem dX12_moves_47 : decode cX12_moves 47 = .ok (.iload 4, 2) := by decide +kernel
theorem dX12_moves_49 : decode cX12_moves 49 = .ok (.invokevirtual 199, 3) := by decide +kernel
theorem dX12_moves_52 : decode cX12_moves 52 = .ok (.aload_n 0, 1) := by decide +kernel
theorem dX12_moves_53 : decode cX12_moves 53 = .ok (.getfield 20, 3) := by decide +kernel
theorem dX12_moves_56 : decode cX12_moves 56 = .ok (.bipush 24, 2) := by decide +kernel
theorem dX12_moves_58 : decode cX12_moves 58 = .ok (.iload 4, 2) := by decide +kernel
theorem dX12_moves_60 : decode cX12_moves 60 = .ok (.imul, 1) := by decide +kernel
theorem dX12_moves_61 : decode cX12_moves 61 = .ok (.aload_n 0, 1) := by decide +kernel
theorem dX12_moves_62 : decode cX12_moves 62 = .ok (.aload_n 0, 1) := by decide +kernel
theorem dX12_moves_63 : decode cX12_moves 63 = .ok (.iload 4, 2) := by decide +kernel
theorem dX12_moves_65 : decode cX12_moves 65 = .ok (.iconst 0, 1) := by decide +kernel
theorem dX12_moves_66 : decode cX12_moves 66 = .ok (.invokevirtual 185, 3) := by decide +kernel
theorem dX12_moves_69 : decode cX12_moves 69 = .ok (.aload_n 0, 1) := by decide +kernel
theorem dX12_moves_70 : decode cX12_moves 70 = .ok (.iload_n 1, 1) := by decide +kernel
theorem dX12_moves_71 : decode cX12_moves 71 = .ok (.iload 5, 2) := by decide +kernel
theorem dX12_moves_73 : decode cX12_moves 73 = .ok (.invokevirtual 185, 3) := by decide +kernel
theorem dX12_moves_76 : decode cX12_moves 76 = .ok (.iadd, 1) := by decide +kernel
theorem dX12_moves_77 : decode cX12_moves 77 = .ok (.invokevirtual 182, 3) := by decide +kernel
theorem dX12_moves_80 : decode cX12_moves 80 = .ok (.iastore, 1) := by decide +kernel
theorem dX12_moves_81 : decode cX12_moves 81 = .ok (.iinc 5 (-1), 3) := by decide +kernel
theorem dX12_moves_84 : decode cX12_moves 84 = .ok (.goto (-71), 3) := by decide +kernel
theorem dX12_moves_87 : decode cX12_moves 87 = .ok (.return_, 1) := by decide +kernel
set_option maxRecDepth 20000 in
theorem b_X12_moves_0 {k n : Nat} {x : Wx} {Z : Zt} {Q : Option Value → Wx → Zt → Prop} {a0 : Nat} {v1 : Int} {v2 : Int} {v3 : Int} {v4 : Int} (o_a0 : Is12 x a0)
    (h : ∃ g1 : Nat → Nat → Int, (MS Z a0 g1 ∧ (0 ≤ v4 ∧ v4 < 27) ∧ (∀ (Z'1 : Zt), (MS Z'1 a0 (updP g1 v4.toNat pzero) ∧ Oth Z Z'1 (O4 a0)) → (∃ g2 : Nat → Nat → Int, (MS Z'1 a0 g2 ∧ (0 ≤ v1 ∧ v1 < 27) ∧ (∀ i : Nat, i < 24 → Rg (g2 v1.toNat i)) ∧ (V mX12_moves k n 13 [some (r_ a0), some (i_ v1), some (i_ v2), some (i_ v3), some (i_ v4), some (i_ (pd (g2 v1.toNat)))] [] x Z'1 Q)))))) :
    V mX12_moves k n 0 [some (r_ a0), some (i_ v1), some (i_ v2), some (i_ v3), some (i_ v4), none] [] x Z Q :=
  V_aload_n dX12_moves_0 rfl (V_iload dX12_moves_1 rfl (Exists.elim h (fun g1 w1 => V_callV (k' := 0) (n' := 0) (t := 12) (q := (RX12, TX12, 46)) [i_ v4] [] okX12_zero o_a0.1 rfl rfl lm_12_188 liX12_zero lqX12_zero (Nat.le_of_ble_eq_true rfl) (Nat.le_of_ble_eq_true rfl) (Nat.le_of_ble_eq_true rfl) (cat_of rfl) (Nat.le_of_ble_eq_true rfl) (Nat.zero_le _) (Nat.zero_le _) rfl dX12_moves_3 (sp_X12_zero o_a0 w1.1 w1.2.1 (fun Z'1 p1 => V_aload_n dX12_moves_6 rfl (V_iload_n dX12_moves_7 rfl (Exists.elim (w1.2.2 Z'1 p1) (fun g2 w2 => V_callV (k' := 0) (n' := 0) (t := 12) (q := (RX12, TX12, 46)) [i_ v1] [] okX12_deg o_a0.1 rfl rfl lm_12_192 liX12_deg lqX12_deg (Nat.le_of_ble_eq_true rfl) (Nat.le_of_ble_eq_true rfl) (Nat.le_of_ble_eq_true rfl) (cat_of rfl) (Nat.le_of_ble_eq_true rfl) (Nat.zero_le _) (Nat.zero_le _) rfl dX12_moves_8 (sp_X12_deg o_a0 w2.1 w2.2.1 w2.2.2.1 (V_istore (lv' := [some (r_ a0), some (i_ v1), some (i_ v2), some (i_ v3), some (i_ v4), some (i_ (pd (g2 v1.toNat)))]) dX12_moves_11 (Nat.le_of_ble_eq_true rfl) rfl (V_msk [true, true, true, true, true, true] rfl w2.2.2.2)))))))))))
set_option maxRecDepth 20000 in
theorem b_X12_moves_13 {k n : Nat} {x : Wx} {Z : Zt} {Q : Option Value → Wx → Zt → Prop} {a0 : Nat} {v1 : Int} {v2 : Int} {v3 : Int} {v4 : Int} {v5 : Int} (o_a0 : Is12 x a0)
    (h : Rg v5 ∧ (((v5 < 0) → (Q none x Z)) ∧ ((0 ≤ v5) → (∃ g1 : Nat → Nat → Int, (MS Z a0 g1 ∧ (0 ≤ (21 : Int) ∧ (21 : Int) < 27) ∧ (∀ (Z'1 : Zt), (MS Z'1 a0 (updP g1 (21 : Int).toNat pzero) ∧ Oth Z Z'1 (O4 a0)) → (∃ g2 : Nat → Nat → Int, (∃ g3 : Int, ((IsP g3 ∧ Z'1 a0 11 = g3) ∧ MS Z'1 a0 g2 ∧ ((0 ≤ (21 : Int) ∧ (21 : Int) < 27) ∧ (0 ≤ v4 ∧ v4 < 27) ∧ (21 : Int) ≠ v4) ∧ ((-100 ≤ v3 ∧ v3 ≤ 100) ∧ 0 ≤ (0 : Int) ∧ (0 : Int) ≤ 24) ∧ InP g3 (g2 (21 : Int).toNat) ∧ InP g3 (g2 v4.toNat) ∧ (∀ (Z'2 : Zt), (MS Z'2 a0 (updP g2 (21 : Int).toNat (pads g3 (g2 (21 : Int).toNat) (g2 v4.toNat) v3 (0 : Int).toNat)) ∧ Oth Z'1 Z'2 (O4 a0)) → (∃ g4 : Nat → Nat → Int, (∃ g5 : Int, ((IsP g5 ∧ Z'2 a0 11 = g5) ∧ MS Z'2 a0 g4 ∧ ((0 ≤ (21 : Int) ∧ (21 : Int) < 27) ∧ (0 ≤ v4 ∧ v4 < 27) ∧ (21 : Int) ≠ v4) ∧ ((-100 ≤ v2 ∧ v2 ≤ 100) ∧ 0 ≤ (1 : Int) ∧ (1 : Int) ≤ 24) ∧ InP g5 (g4 (21 : Int).toNat) ∧ InP g5 (g4 v4.toNat) ∧ (∀ (Z'3 : Zt), (MS Z'3 a0 (updP g4 (21 : Int).toNat (pads g5 (g4 (21 : Int).toNat) (g4 v4.toNat) v2 (1 : Int).toNat)) ∧ Oth Z'2 Z'3 (O4 a0)) → (∃ g6 : Nat → Nat → Int, (MS Z'3 a0 g6 ∧ (0 ≤ v4 ∧ v4 < 27) ∧ (0 ≤ (21 : Int) ∧ (21 : Int) < 27) ∧ (∀ (Z'4 : Zt), (MS Z'4 a0 (updP g6 v4.toNat (g6 (21 : Int).toNat)) ∧ Oth Z'3 Z'4 (O4 a0)) → ((0 ≤ 24 * v4 + (0 : Int) ∧ 24 * v4 + (0 : Int) < 648) ∧ ((0 ≤ 24 * v1 + v5 ∧ 24 * v1 + v5 < 648) ∧ (Rg ((Z'4 (a0 + 4) (24 * v4 + (0 : Int)).toNat) + (Z'4 (a0 + 4) (24 * v1 + v5).toNat)) ∧ 0 < Z'4 a0 11 ∧ Z'4 a0 11 ≤ 13 ∧ (0 ≤ 24 * v4 ∧ 24 * v4 < 648 ∧ (∀ Z1 : Zt, Z1 = up Z'4 (a0 + 4) (24 * v4).toNat (((Z'4 (a0 + 4) (24 * v4 + (0 : Int)).toNat) + (Z'4 (a0 + 4) (24 * v1 + v5).toNat)) % Z'4 a0 11) → (V mX12_moves k n 13 [some (r_ a0), some (i_ v1), some (i_ v2), some (i_ v3), some (i_ v4), some (i_ (v5 + (-1)))] [] x Z1 Q))))))))))))))))))))))) :
    V mX12_moves k n 13 [some (r_ a0), some (i_ v1), some (i_ v2), some (i_ v3), some (i_ v4), some (i_ v5)] [] x Z Q :=
  V_iload dX12_moves_13 rfl (V_if_lt (tgt := 87) dX12_moves_15 rfl h.1 (fun c1 => V_ret dX12_moves_87 rfl (h.2.1 c1)) (fun c1 => V_aload_n dX12_moves_18 rfl (V_bipush dX12_moves_19 rfl (Exists.elim (h.2.2 c1) (fun g1 w1 => V_callV (k' := 0) (n' := 0) (t := 12) (q := (RX12, TX12, 46)) [i_ 21] [] okX12_zero o_a0.1 rfl rfl lm_12_188 liX12_zero lqX12_zero (Nat.le_of_ble_eq_true rfl) (Nat.le_of_ble_eq_true rfl) (Nat.le_of_ble_eq_true rfl) (cat_of rfl) (Nat.le_of_ble_eq_true rfl) (Nat.zero_le _) (Nat.zero_le _) rfl dX12_moves_21 (sp_X12_zero o_a0 w1.1 w1.2.1 (fun Z'1 p1 => V_aload_n dX12_moves_24 rfl (V_bipush dX12_moves_25 rfl (V_iload dX12_moves_27 rfl (V_iload_n dX12_moves_29 rfl (V_iconst dX12_moves_30 (Exists.elim (w1.2.2 Z'1 p1) (fun g2 w2 => Exists.elim w2 (fun g3 w3 => V_callV (k' := 0) (n' := 0) (t := 12) (q := (RX12, TX12, 46)) [i_ 21, i_ v4, i_ v3, i_ 0] [] okX12_adds o_a0.1 rfl rfl lm_12_195 liX12_adds lqX12_adds (Nat.le_of_ble_eq_true rfl) (Nat.le_of_ble_eq_true rfl) (Nat.le_of_ble_eq_true rfl) (cat_of rfl) (Nat.le_of_ble_eq_true rfl) (Nat.zero_le _) (Nat.zero_le _) rfl dX12_moves_31 (sp_X12_adds o_a0 w3.1 w3.2.1 w3.2.2.1 w3.2.2.2.1 w3.2.2.2.2.1 w3.2.2.2.2.2.1 (fun Z'2 p2 => V_aload_n dX12_moves_34 rfl (V_bipush dX12_moves_35 rfl (V_iload dX12_moves_37 rfl (V_iload_n dX12_moves_39 rfl (V_iconst dX12_moves_40 (Exists.elim (w3.2.2.2.2.2.2 Z'2 p2) (fun g4 w4 => Exists.elim w4 (fun g5 w5 => V_callV (k' := 0) (n' := 0) (t := 12) (q := (RX12, TX12, 46)) [i_ 21, i_ v4, i_ v2, i_ 1] [] okX12_adds o_a0.1 rfl rfl lm_12_195 liX12_adds lqX12_adds (Nat.le_of_ble_eq_true rfl) (Nat.le_of_ble_eq_true rfl) (Nat.le_of_ble_eq_true rfl) (cat_of rfl) (Nat.le_of_ble_eq_true rfl) (Nat.zero_le _) (Nat.zero_le _) rfl dX12_moves_41 (sp_X12_adds o_a0 w5.1 w5.2.1 w5.2.2.1 w5.2.2.2.1 w5.2.2.2.2.1 w5.2.2.2.2.2.1 (fun Z'3 p3 => V_aload_n dX12_moves_44 rfl (V_bipush dX12_moves_45 rfl (V_iload dX12_moves_47 rfl (Exists.elim (w5.2.2.2.2.2.2 Z'3 p3) (fun g6 w6 => V_callV (k' := 0) (n' := 0) (t := 12) (q := (RX12, TX12, 46)) [i_ 21, i_ v4] [] okX12_copy o_a0.1 rfl rfl lm_12_199 liX12_copy lqX12_copy (Nat.le_of_ble_eq_true rfl) (Nat.le_of_ble_eq_true rfl) (Nat.le_of_ble_eq_true rfl) (cat_of rfl) (Nat.le_of_ble_eq_true rfl) (Nat.zero_le _) (Nat.zero_le _) rfl dX12_moves_49 (sp_X12_copy o_a0 w6.1 w6.2.1 w6.2.2.1 (fun Z'4 p4 => V_aload_n dX12_moves_52 rfl (G_12_10 o_a0.1 o_a0.qR10 lf_12_20 dX12_moves_53 (V_bipush dX12_moves_56 rfl (V_iload dX12_moves_58 rfl (V_imul dX12_moves_60 (V_aload_n dX12_moves_61 rfl (V_aload_n dX12_moves_62 rfl (V_iload dX12_moves_63 rfl (V_iconst dX12_moves_65 (V_callV (k' := 0) (n' := 0) (t := 12) (q := (RX12, TX12, 46)) [i_ v4, i_ 0] [r_ a0, i_ (24 * v4), r_ (a0 + 4)] okX12_at o_a0.1 rfl rfl lm_12_185 liX12_at lqX12_at (Nat.le_of_ble_eq_true rfl) (Nat.le_of_ble_eq_true rfl) (Nat.le_of_ble_eq_true rfl) (cat_of rfl) (Nat.le_of_ble_eq_true rfl) (Nat.zero_le _) (Nat.zero_le _) rfl dX12_moves_66 (sp_X12_at o_a0 (w6.2.2.2 Z'4 p4).1 (V_aload_n dX12_moves_69 rfl (V_iload_n dX12_moves_70 rfl (V_iload dX12_moves_71 rfl (V_callV (k' := 0) (n' := 0) (t := 12) (q := (RX12, TX12, 46)) [i_ v1, i_ v5] [i_ (Z'4 (a0 + 4) (24 * v4 + (0 : Int)).toNat), r_ a0, i_ (24 * v4), r_ (a0 + 4)] okX12_at o_a0.1 rfl rfl lm_12_185 liX12_at lqX12_at (Nat.le_of_ble_eq_true rfl) (Nat.le_of_ble_eq_true rfl) (Nat.le_of_ble_eq_true rfl) (cat_of rfl) (Nat.le_of_ble_eq_true rfl) (Nat.zero_le _) (Nat.zero_le _) rfl dX12_moves_73 (sp_X12_at o_a0 (w6.2.2.2 Z'4 p4).2.1 (V_iadd dX12_moves_76 (V_callV (k' := 0) (n' := 0) (t := 12) (q := (RX12, TX12, 46)) [i_ ((Z'4 (a0 + 4) (24 * v4 + (0 : Int)).toNat) + (Z'4 (a0 + 4) (24 * v1 + v5).toNat))] [i_ (24 * v4), r_ (a0 + 4)] okX12_mod o_a0.1 rfl rfl lm_12_182 liX12_mod lqX12_mod (Nat.le_of_ble_eq_true rfl) (Nat.le_of_ble_eq_true rfl) (Nat.le_of_ble_eq_true rfl) (cat_of rfl) (Nat.le_of_ble_eq_true rfl) (Nat.zero_le _) (Nat.zero_le _) rfl dX12_moves_77 (sp_X12_mod o_a0 (w6.2.2.2 Z'4 p4).2.2.1 (w6.2.2.2 Z'4 p4).2.2.2.1 (w6.2.2.2 Z'4 p4).2.2.2.2.1 (V_iast (t := 100) o_a0.qK10 (by decide) (by decide) rfl (w6.2.2.2 Z'4 p4).2.2.2.2.2.1 (w6.2.2.2 Z'4 p4).2.2.2.2.2.2.1 (Nat.le_of_ble_eq_true rfl) dX12_moves_80 (V_nmZ (fun Z1 eZ1 => V_iinc (lv' := [some (r_ a0), some (i_ v1), some (i_ v2), some (i_ v3), some (i_ v4), some (i_ (v5 + (-1)))]) dX12_moves_81 rfl (Nat.le_of_ble_eq_true rfl) rfl (V_goto (tgt := 13) dX12_moves_84 rfl (V_msk [true, true, true, true, true, true] rfl ((w6.2.2.2 Z'4 p4).2.2.2.2.2.2.2 Z1 eZ1)))))))))))))))))))))))))))))))))))))))))))))))))))))))
theorem dX12_isTimes_0 : decode cX12_isTimes 0 = .ok (.iconst 1, 1) := by decide +kernel
theorem dX12_isTimes_1 : decode cX12_isTimes 1 = .ok (.istore 4, 2) := by decide +kernel
theorem dX12_isTimes_3 : decode cX12_isTimes 3 = .ok (.iconst 0, 1) := by decide +kernel
theorem dX12_isTimes_4 : decode cX12_isTimes 4 = .ok (.istore 5, 2) := by decide +kernel
theorem dX12_isTimes_6 : decode cX12_isTimes 6 = .ok (.iload 5, 2) := by decide +kernel
theorem dX12_isTimes_8 : decode cX12_isTimes 8 = .ok (.bipush 6, 2) := by decide +kernel
theorem dX12_isTimes_10 : decode cX12_isTimes 10 = .ok (.if_icmp .ge 44, 3) := by decide +kernel
theorem dX12_isTimes_13 : decode cX12_isTimes 13 = .ok (.iload 4, 2) := by decide +kernel
theorem dX12_isTimes_15 : decode cX12_isTimes 15 = .ok (.ifCond .eq 30, 3) := by decide +kernel
theorem dX12_isTimes_18 : decode cX12_isTimes 18 = .ok (.aload_n 0, 1) := by decide +kernel
theorem dX12_isTimes_19 : decode cX12_isTimes 19 = .ok (.iload_n 1, 1) := by decide +kernel
theorem dX12_isTimes_20 : decode cX12_isTimes 20 = .ok (.iload 5, 2) := by decide +kernel
theorem dX12_isTimes_22 : decode cX12_isTimes 22 = .ok (.invokevirtual 185, 3) := by decide +kernel
theorem dX12_isTimes_25 : decode cX12_isTimes 25 = .ok (.aload_n 0, 1) := by decide +kernel
theorem dX12_isTimes_26 : decode cX12_isTimes 26 = .ok (.iload_n 3, 1) := by decide +kernel
theorem dX12_isTimes_27 : decode cX12_isTimes 27 = .ok (.aload_n 0, 1) := by decide +kernel
theorem dX12_isTimes_28 : decode cX12_isTimes 28 = .ok (.iload_n 2, 1) := by decide +kernel
theorem dX12_isTimes_29 : decode cX12_isTimes 29 = .ok (.iload 5, 2) := by decide +kernel
theorem dX12_isTimes_31 : decode cX12_isTimes 31 = .ok (.invokevirtual 185, 3) := by decide +kernel
theorem dX12_isTimes_34 : decode cX12_isTimes 34 = .ok (.imul, 1) := by decide +kernel
theorem dX12_isTimes_35 : decode cX12_isTimes 35 = .ok (.invokevirtual 182, 3) := by decide +kernel
theorem dX12_isTimes_38 : decode cX12_isTimes 38 = .ok (.if_icmp .ne 7, 3) := by decide +kernel
theorem dX12_isTimes_41 : decode cX12_isTimes 41 = .ok (.iconst 1, 1) := by decide +kernel
theorem dX12_isTimes_42 : decode cX12_isTimes 42 = .ok (.goto 4, 3) := by decide +kernel
theorem dX12_isTimes_45 : decode cX12_isTimes 45 = .ok (.iconst 0, 1) := by decide +kernel
theorem dX12_isTimes_46 : decode cX12_isTimes 46 = .ok (.istore 4, 2) := by decide +kernel
theorem dX12_isTimes_48 : decode cX12_isTimes 48 = .ok (.iinc 5 1, 3) := by decide +kernel
theorem dX12_isTimes_51 : decode cX12_isTimes 51 = .ok (.goto (-45), 3) := by decide +kernel
theorem dX12_isTimes_54 : decode cX12_isTimes 54 = .ok (.iload 4, 2) := by decide +kernel
theorem dX12_isTimes_56 : decode cX12_isTimes 56 = .ok (.ireturn, 1) := by decide +kernel
set_option maxRecDepth 20000 in
theorem b_X12_isTimes_0 {k n : Nat} {x : Wx} {Z : Zt} {Q : Option Value → Wx → Zt → Prop} {a0 : Nat} {v1 : Int} {v2 : Int} {v3 : Int} 
    (h : V mX12_isTimes k n 6 [some (r_ a0), some (i_ v1), some (i_ v2), some (i_ v3), some (i_ 1), some (i_ 0)] [] x Z Q) :
    V mX12_isTimes k n 0 [some (r_ a0), some (i_ v1), some (i_ v2), some (i_ v3), none, none] [] x Z Q :=
  V_iconst dX12_isTimes_0 (V_istore (lv' := [some (r_ a0), some (i_ v1), some (i_ v2), some (i_ v3), some (i_ 1), none]) dX12_isTimes_1 (Nat.le_of_ble_eq_true rfl) rfl (V_iconst dX12_isTimes_3 (V_istore (lv' := [some (r_ a0), some (i_ v1), some (i_ v2), some (i_ v3), some (i_ 1), some (i_ 0)]) dX12_isTimes_4 (Nat.le_of_ble_eq_true rfl) rfl (V_msk [true, true, true, true, true, true] rfl h))))
set_option maxRecDepth 20000 in
theorem b_X12_isTimes_6 {k n : Nat} {x : Wx} {Z : Zt} {Q : Option Value → Wx → Zt → Prop} {a0 : Nat} {v1 : Int} {v2 : Int} {v3 : Int} {v4 : Int} {v5 : Int} (o_a0 : Is12 x a0)
    (h : Rg v5 ∧ (((6 ≤ v5) → ((v4 = 0 ∨ v4 = 1) ∧ (Q (some (i_ v4)) x Z))) ∧ ((v5 < 6) → (Rg v4 ∧ (((v4 = 0) → (V mX12_isTimes k n 45 [some (r_ a0), some (i_ v1), some (i_ v2), some (i_ v3), none, some (i_ v5)] [] x Z Q)) ∧ ((v4 ≠ 0) → ((0 ≤ 24 * v1 + v5 ∧ 24 * v1 + v5 < 648) ∧ ((0 ≤ 24 * v2 + v5 ∧ 24 * v2 + v5 < 648) ∧ (Rg (v3 * (Z (a0 + 4) (24 * v2 + v5).toNat)) ∧ 0 < Z a0 11 ∧ Z a0 11 ≤ 13 ∧ (Rg (Z (a0 + 4) (24 * v1 + v5).toNat) ∧ Rg ((v3 * (Z (a0 + 4) (24 * v2 + v5).toNat)) % Z a0 11) ∧ (((Z (a0 + 4) (24 * v1 + v5).toNat ≠ (v3 * (Z (a0 + 4) (24 * v2 + v5).toNat)) % Z a0 11) → (V mX12_isTimes k n 45 [some (r_ a0), some (i_ v1), some (i_ v2), some (i_ v3), none, some (i_ v5)] [] x Z Q)) ∧ ((Z (a0 + 4) (24 * v1 + v5).toNat = (v3 * (Z (a0 + 4) (24 * v2 + v5).toNat)) % Z a0 11) → (V mX12_isTimes k n 46 [some (r_ a0), some (i_ v1), some (i_ v2), some (i_ v3), none, some (i_ v5)] [i_ 1] x Z Q))))))))))))) :
    V mX12_isTimes k n 6 [some (r_ a0), some (i_ v1), some (i_ v2), some (i_ v3), some (i_ v4), some (i_ v5)] [] x Z Q :=
  V_iload dX12_isTimes_6 rfl (V_bipush dX12_isTimes_8 rfl (V_icmp_ge (tgt := 54) dX12_isTimes_10 rfl h.1 (rg_c rfl) (fun c1 => V_iload dX12_isTimes_54 rfl (V_iret (ty := .boolean) dX12_isTimes_56 rfl (nar_z (h.2.1 c1).1) (h.2.1 c1).2)) (fun c1 => V_iload dX12_isTimes_13 rfl (V_if_eq (tgt := 45) dX12_isTimes_15 rfl (h.2.2 c1).1 (fun c2 => V_msk [true, true, true, true, false, true] rfl ((h.2.2 c1).2.1 c2)) (fun c2 => V_aload_n dX12_isTimes_18 rfl (V_iload_n dX12_isTimes_19 rfl (V_iload dX12_isTimes_20 rfl (V_callV (k' := 0) (n' := 0) (t := 12) (q := (RX12, TX12, 46)) [i_ v1, i_ v5] [] okX12_at o_a0.1 rfl rfl lm_12_185 liX12_at lqX12_at (Nat.le_of_ble_eq_true rfl) (Nat.le_of_ble_eq_true rfl) (Nat.le_of_ble_eq_true rfl) (cat_of rfl) (Nat.le_of_ble_eq_true rfl) (Nat.zero_le _) (Nat.zero_le _) rfl dX12_isTimes_22 (sp_X12_at o_a0 ((h.2.2 c1).2.2 c2).1 (V_aload_n dX12_isTimes_25 rfl (V_iload_n dX12_isTimes_26 rfl (V_aload_n dX12_isTimes_27 rfl (V_iload_n dX12_isTimes_28 rfl (V_iload dX12_isTimes_29 rfl (V_callV (k' := 0) (n' := 0) (t := 12) (q := (RX12, TX12, 46)) [i_ v2, i_ v5] [i_ v3, r_ a0, i_ (Z (a0 + 4) (24 * v1 + v5).toNat)] okX12_at o_a0.1 rfl rfl lm_12_185 liX12_at lqX12_at (Nat.le_of_ble_eq_true rfl) (Nat.le_of_ble_eq_true rfl) (Nat.le_of_ble_eq_true rfl) (cat_of rfl) (Nat.le_of_ble_eq_true rfl) (Nat.zero_le _) (Nat.zero_le _) rfl dX12_isTimes_31 (sp_X12_at o_a0 ((h.2.2 c1).2.2 c2).2.1 (V_imul dX12_isTimes_34 (V_callV (k' := 0) (n' := 0) (t := 12) (q := (RX12, TX12, 46)) [i_ (v3 * (Z (a0 + 4) (24 * v2 + v5).toNat))] [i_ (Z (a0 + 4) (24 * v1 + v5).toNat)] okX12_mod o_a0.1 rfl rfl lm_12_182 liX12_mod lqX12_mod (Nat.le_of_ble_eq_true rfl) (Nat.le_of_ble_eq_true rfl) (Nat.le_of_ble_eq_true rfl) (cat_of rfl) (Nat.le_of_ble_eq_true rfl) (Nat.zero_le _) (Nat.zero_le _) rfl dX12_isTimes_35 (sp_X12_mod o_a0 ((h.2.2 c1).2.2 c2).2.2.1 ((h.2.2 c1).2.2 c2).2.2.2.1 ((h.2.2 c1).2.2 c2).2.2.2.2.1 (V_icmp_ne (tgt := 45) dX12_isTimes_38 rfl ((h.2.2 c1).2.2 c2).2.2.2.2.2.1 ((h.2.2 c1).2.2 c2).2.2.2.2.2.2.1 (fun c3 => V_msk [true, true, true, true, false, true] rfl (((h.2.2 c1).2.2 c2).2.2.2.2.2.2.2.1 c3)) (fun c3 => V_iconst dX12_isTimes_41 (V_goto (tgt := 46) dX12_isTimes_42 rfl (V_msk [true, true, true, true, false, true] rfl (((h.2.2 c1).2.2 c2).2.2.2.2.2.2.2.2 c3))))))))))))))))))))))))
set_option maxRecDepth 20000 in
theorem b_X12_isTimes_45 {k n : Nat} {x : Wx} {Z : Zt} {Q : Option Value → Wx → Zt → Prop} {a0 : Nat} {v1 : Int} {v2 : Int} {v3 : Int} {v5 : Int} 
    (h : V mX12_isTimes k n 46 [some (r_ a0), some (i_ v1), some (i_ v2), some (i_ v3), none, some (i_ v5)] [i_ 0] x Z Q) :
    V mX12_isTimes k n 45 [some (r_ a0), some (i_ v1), some (i_ v2), some (i_ v3), none, some (i_ v5)] [] x Z Q :=
  V_iconst dX12_isTimes_45 (V_msk [true, true, true, true, false, true] rfl h)
set_option maxRecDepth 20000 in
theorem b_X12_isTimes_46 {k n : Nat} {x : Wx} {Z : Zt} {Q : Option Value → Wx → Zt → Prop} {a0 : Nat} {v1 : Int} {v2 : Int} {v3 : Int} {v5 : Int} {t0 : Int} 
    (h : V mX12_isTimes k n 6 [some (r_ a0), some (i_ v1), some (i_ v2), some (i_ v3), some (i_ t0), some (i_ (v5 + 1))] [] x Z Q) :
    V mX12_isTimes k n 46 [some (r_ a0), some (i_ v1), some (i_ v2), some (i_ v3), none, some (i_ v5)] [i_ t0] x Z Q :=
  V_istore (lv' := [some (r_ a0), some (i_ v1), some (i_ v2), some (i_ v3), some (i_ t0), some (i_ v5)]) dX12_isTimes_46 (Nat.le_of_ble_eq_true rfl) rfl (V_iinc (lv' := [some (r_ a0), some (i_ v1), some (i_ v2), some (i_ v3), some (i_ t0), some (i_ (v5 + 1))]) dX12_isTimes_48 rfl (Nat.le_of_ble_eq_true rfl) rfl (V_goto (tgt := 6) dX12_isTimes_51 rfl (V_msk [true, true, true, true, true, true] rfl h)))
theorem sp_X12_moves {k n : Nat} {x : Wx} {Z : Zt} {Q : Option Value → Wx → Zt → Prop} {b : Nat} {u A B w : Int} (o : Is12 x b) {P : Nat → Nat → Int} {p : Int} (hp : IsP p ∧ Z b 11 = p) (hP : MS Z b P) (hu : ((0 ≤ u ∧ u < 27) ∧ u ≠ 21) ∧ ((0 ≤ w ∧ w < 27) ∧ w ≠ 21) ∧ u ≠ w) (hA : (0 ≤ A ∧ A < p) ∧ (0 ≤ B ∧ B < p)) (hF : InP p (P u.toNat) ∧ Fin (P u.toNat)) (h : ∀ (Z' : Zt) (P' : Nat → Nat → Int), (MS Z' b P' ∧ Oth Z Z' (O4 b) ∧ P' w.toNat = mvd p A B (P u.toNat) ∧ (∀ q : Nat, q ≠ 21 → q ≠ w.toNat → P' q = P q)) → Q none x Z') : V mX12_moves k n 0 [some (r_ b), some (i_ u), some (i_ A), some (i_ B), some (i_ w), none] [] x Z Q := by
  obtain ⟨hp, hb⟩ := hp
  have hpr := hp.rg
  obtain ⟨F, hFF⟩ : ∃ F : Nat → Int, P u.toNat = F := ⟨_, rfl⟩
  rw [hFF] at hF h
  obtain ⟨iF, fF⟩ := hF
  have lp : ∀ (M : Nat) (P1 : Nat → Nat → Int) (Z1 : Zt) (g : Nat → Int), M ≤ 24 → MS Z1 b P1 → Oth Z Z1 (O4 b) → P1 w.toNat = g → InP p g → (∀ q : Nat, q ≠ 21 → q ≠ w.toNat → P1 q = P q) → mvN p A B F M g = mvd p A B F → V mX12_moves k n 13 [some (r_ b), some (i_ u), some (i_ A), some (i_ B), some (i_ w), some (i_ ((M : Int) - 1))] [] x Z1 Q := by
    intro M
    induction M with
    | zero =>
      intro P1 Z1 g hM m1 o1 hw hg hq he
      refine b_X12_moves_13 o ⟨⟨by omega, by omega⟩, fun _ => h Z1 P1 ⟨m1, o1, by rw [hw]; exact he, hq⟩, fun c => by omega⟩
    | succ M ih =>
      intro P1 Z1 g hM m1 o1 hw hg hq he
      have b1 : Z1 b 11 = p := by rw [o1 b (by show ¬ (b = b + 4); omega)]; exact hb
      have nw : w.toNat ≠ 21 := by omega
      have nu : u.toNat ≠ 21 := by omega
      have nuw : u.toNat ≠ w.toNat := by omega
      refine b_X12_moves_13 o ⟨⟨by omega, by omega⟩, fun c => by omega, fun _ => ⟨P1, m1, by decide, fun Z2 hz2 => ?_⟩⟩
      have e21 : (21 : Int).toNat = 21 := rfl
      rw [e21] at hz2 ⊢
      have b2 : Z2 b 11 = p := by rw [hz2.2 b (by show ¬ (b = b + 4); omega)]; exact b1
      refine ⟨updP P1 21 pzero, p, ⟨hp, b2⟩, hz2.1, ⟨by decide, by omega, by omega⟩, ⟨by omega, by decide, by decide⟩, ?_, ?_, fun Z3 hz3 => ?_⟩
      · rw [updP_s]; intro i; show (0 : Int) ≤ 0 ∧ 0 < p; omega
      · rw [updP_n _ _ nw, hw]; exact hg
      rw [updP_s, updP_n _ _ nw, hw, updP_2] at hz3
      have z0 : (0 : Int).toNat = 0 := rfl
      have z1 : (1 : Int).toNat = 1 := rfl
      rw [z0] at hz3
      have b3 : Z3 b 11 = p := by rw [hz3.2 b (by show ¬ (b = b + 4); omega)]; exact b2
      have iz : InP p (pzero : Nat → Int) := fun i => by show (0 : Int) ≤ 0 ∧ 0 < p; omega
      have i1 : InP p (pads p pzero g B 0) := pads0_in (by omega) iz
      refine ⟨updP P1 21 (pads p pzero g B 0), p, ⟨hp, b3⟩, hz3.1, ⟨by decide, by omega, by omega⟩, ⟨by omega, by decide, by decide⟩, ?_, ?_, fun Z4 hz4 => ?_⟩
      · rw [updP_s]; exact i1
      · rw [updP_n _ _ nw, hw]; exact hg
      rw [updP_s, updP_n _ _ nw, hw, updP_2, z1] at hz4
      have b4 : Z4 b 11 = p := by rw [hz4.2 b (by show ¬ (b = b + 4); omega)]; exact b3
      have i2 : InP p (pads p (pads p pzero g B 0) g A 1) := pads0_in (by omega) i1
      refine ⟨updP P1 21 (pads p (pads p pzero g B 0) g A 1), hz4.1, by omega, by decide, fun Z5 hz5 => ?_⟩
      rw [updP_s] at hz5
      have b5 : Z5 b 11 = p := by rw [hz5.2 b (by show ¬ (b = b + 4); omega)]; exact b4
      have q1 := hz5.1.at (u := w) (i := 0) (by omega) (by decide)
      rw [updP_s, z0] at q1
      have q2 := hz5.1.at (u := u) (i := ((M + 1 : Nat) : Int) - 1) (by omega) (by omega)
      rw [updP_n _ _ nuw, updP_n _ _ nu, hq _ nu nuw, hFF, show (((M + 1 : Nat) : Int) - 1).toNat = M from by omega] at q2
      have v1 := i2 0
      have v2 := iF M
      rw [q1, q2, b5]
      refine ⟨by omega, by omega, ⟨by omega, by omega⟩, by omega, by omega, by omega, by omega, fun Z6 e6 => ?_⟩
      rw [show 24 * w = 24 * w + 0 from by omega] at e6
      have g6 := hz5.1.put (u := w) (i := 0) (by omega) (by decide) e6
      rw [z0] at g6
      have he' : mvN p A B F M (mvS p A B (F M) g) = mvd p A B F := he
      have m6 : MS Z6 b (updP (updP P1 21 (pads p (pads p pzero g B 0) g A 1)) w.toNat (mvS p A B (F M) g)) := g6.1.eq (fun q i hq2 hi => by
        unfold putP
        rw [updP_2, updP_s]
        unfold updP
        by_cases cq : q = w.toNat
        · rw [if_pos cq, if_pos cq]
          show (if i = 0 then (pads p (pads p pzero g B 0) g A 1 0 + F M) % p else pads p (pads p pzero g B 0) g A 1 i) = mvS p A B (F M) g i
          unfold mvS
          by_cases ci : i = 0
          · rw [if_pos ci, if_pos ci]
            have e1 : pads p (pads p pzero g B 0) g A 1 0 = (B * g 0) % p := by
              unfold pads
              rw [if_neg (by omega), if_pos (by omega)]
              show (0 + B * g (0 - 0)) % p = _
              rw [Int.zero_add]
            rw [e1, Int.emod_add_emod]
          · rw [if_neg ci, if_neg ci]
            unfold pads
            rw [if_pos (by omega), if_pos (by omega)]
            show ((0 + B * g (i - 0)) % p + A * g (i - 1)) % p = _
            rw [Int.zero_add, Nat.sub_zero, Int.emod_add_emod]
        · rw [if_neg cq, if_neg cq])
      rw [show ((M + 1 : Nat) : Int) - 1 + (-1) = (M : Int) - 1 from by omega]
      refine ih _ Z6 (mvS p A B (F M) g) (by omega) m6 ?_ (by rw [updP_s]) (fun j => mvS_rg (by omega) _ _ _ _ j) (fun q hq1 hq2 => by rw [updP_n _ _ hq2, updP_n _ _ hq1]; exact hq q hq1 hq2) he'
      exact o1.tr (hz2.2.tr (hz3.2.tr (hz4.2.tr (hz5.2.tr g6.2))))
  refine b_X12_moves_0 o ⟨P, hP, by omega, fun Z1 hz1 => ⟨_, hz1.1, by omega, ?_, ?_⟩⟩
  · rw [updP_n _ _ (show u.toNat ≠ w.toNat by omega), hFF]
    intro i hi; have := iF i; exact ⟨by omega, by omega⟩
  · rw [updP_n _ _ (show u.toNat ≠ w.toNat by omega), hFF]
    have h1 := pd_ge F
    have h2 := pd_lt F
    have := lp (pd F + 1).toNat (updP P w.toNat pzero) Z1 pzero (by omega) hz1.1 hz1.2 (updP_s _ _ _) (fun i => by show (0 : Int) ≤ 0 ∧ 0 < p; omega) (fun q _ hq => updP_n _ _ hq) ?_
    · rw [show (((pd F + 1).toNat : Nat) : Int) - 1 = pd F from by omega] at this; exact this
    · unfold mvd
      have hz := mvN_0 (p := p) (A := A) (B := B) (F := F) (24 - (pd F + 1).toNat) (pd F + 1).toNat (fun i h3 h4 => pd_hi fF i (by omega))
      rw [show (pd F + 1).toNat + (24 - (pd F + 1).toNat) = 24 from by omega] at hz
      exact hz.symm
theorem sp_X12_isTimes {k n : Nat} {x : Wx} {Z : Zt} {Q : Option Value → Wx → Zt → Prop} {b : Nat} {u w c : Int} (o : Is12 x b) {P : Nat → Nat → Int} {p : Int} (hp : IsP p ∧ Z b 11 = p) (hP : MS Z b P) (hu : (0 ≤ u ∧ u < 27) ∧ (0 ≤ w ∧ w < 27)) (hc : 0 ≤ c ∧ c < p) (hF : InP p (P u.toNat) ∧ InP p (P w.toNat)) (h : Q (some (i_ (bI (isMv p c (P w.toNat) (P u.toNat) 6 0)))) x Z) : V mX12_isTimes k n 0 [some (r_ b), some (i_ u), some (i_ w), some (i_ c), none, none] [] x Z Q := by
  obtain ⟨hp, hb⟩ := hp
  have hpr := hp.rg
  generalize hR : isMv p c (P w.toNat) (P u.toNat) 6 0 = R at h
  have lp : ∀ (m i : Nat) (v : Int), i + m = 6 → (v = 1 ∧ isMv p c (P w.toNat) (P u.toNat) m i = R) ∨ (v = 0 ∧ R = false) → V mX12_isTimes k n 6 [some (r_ b), some (i_ u), some (i_ w), some (i_ c), some (i_ v), some (i_ (i : Int))] [] x Z Q := by
    intro m
    induction m with
    | zero =>
      intro i v hi hv
      refine b_X12_isTimes_6 o ⟨⟨by omega, by omega⟩, fun _ => ⟨by omega, ?_⟩, fun c2 => by omega⟩
      rcases hv with ⟨e1, e2⟩ | ⟨e1, e2⟩
      · rw [← e2] at h; rw [e1]; exact h
      · rw [e2] at h; rw [e1]; exact h
    | succ m ih =>
      intro i v hi hv
      have q1 := hP.at (u := u) (i := (i : Int)) hu.1 (by omega)
      have q2 := hP.at (u := w) (i := (i : Int)) hu.2 (by omega)
      rw [Int.toNat_natCast] at q1 q2
      have f1 := hF.1 i
      have f2 := hF.2 i
      have q3 := mul13 (a := c) (b := P w.toNat i) ⟨hc.1, by omega⟩ ⟨f2.1, by omega⟩
      have q4 := emr (c * P w.toNat i) (p := p) (by omega)
      refine b_X12_isTimes_6 o ?_
      rw [q1, q2, hb]
      refine ⟨⟨by omega, by omega⟩, fun c2 => by omega, fun _ => ⟨⟨by omega, by omega⟩, fun c3 => b_X12_isTimes_45 (b_X12_isTimes_46 (ih (i + 1) 0 (by omega) (Or.inr ⟨rfl, ?_⟩))), fun c3 => ⟨by omega, by omega, ⟨by omega, by omega⟩, by omega, by omega, ⟨by omega, by omega⟩, ⟨by omega, by omega⟩, fun c4 => b_X12_isTimes_45 (b_X12_isTimes_46 (ih (i + 1) 0 (by omega) (Or.inr ⟨rfl, ?_⟩))), fun c4 => b_X12_isTimes_46 (ih (i + 1) 1 (by omega) (Or.inl ⟨rfl, ?_⟩))⟩⟩⟩
      · rcases hv with e | e
        · omega
        · exact e.2
      · rcases hv with e | e
        · have := e.2
          unfold isMv at this
          rw [if_neg c4] at this; exact this.symm
        · exact e.2
      · rcases hv with e | e
        · have := e.2
          unfold isMv at this
          rw [if_pos c4] at this; exact this
        · omega
  exact b_X12_isTimes_0 (lp 6 0 1 rfl (Or.inl ⟨rfl, hR⟩))
theorem dX12_change_0 : decode cX12_change 0 = .ok (.aload_n 0, 1) := by decide +kernel
theorem dX12_change_1 : decode cX12_change 1 = .ok (.iload_n 1, 1) := by decide +kernel
theorem dX12_change_2 : decode cX12_change 2 = .ok (.invokevirtual 249, 3) := by decide +kernel
theorem dX12_change_5 : decode cX12_change 5 = .ok (.ifCond .eq 28, 3) := by decide +kernel
theorem dX12_change_8 : decode cX12_change 8 = .ok (.iload_n 2, 1) := by decide +kernel
theorem dX12_change_9 : decode cX12_change 9 = .ok (.iconst (-1), 1) := by decide +kernel
theorem dX12_change_10 : decode cX12_change 10 = .ok (.if_icmp .ne 10, 3) := by decide +kernel
theorem dX12_change_13 : decode cX12_change 13 = .ok (.iload_n 3, 1) := by decide +kernel
theorem dX12_change_14 : decode cX12_change 14 = .ok (.ifCond .eq 21, 3) := by decide +kernel
theorem dX12_change_17 : decode cX12_change 17 = .ok (.goto 16, 3) := by decide +kernel
theorem dX12_change_20 : decode cX12_change 20 = .ok (.iload_n 2, 1) := by decide +kernel
theorem dX12_change_21 : decode cX12_change 21 = .ok (.ifCond .lt 12, 3) := by decide +kernel
theorem dX12_change_24 : decode cX12_change 24 = .ok (.iload_n 3, 1) := by decide +kernel
theorem dX12_change_25 : decode cX12_change 25 = .ok (.iconst 0, 1) := by decide +kernel
theorem dX12_change_26 : decode cX12_change 26 = .ok (.iconst 2, 1) := by decide +kernel
theorem dX12_change_27 : decode cX12_change 27 = .ok (.invokestatic 129, 3) := by decide +kernel
theorem dX12_change_30 : decode cX12_change 30 = .ok (.ifCond .ne 5, 3) := by decide +kernel
theorem dX12_change_33 : decode cX12_change 33 = .ok (.iconst (-1), 1) := by decide +kernel
theorem dX12_change_34 : decode cX12_change 34 = .ok (.ireturn, 1) := by decide +kernel
theorem dX12_change_35 : decode cX12_change 35 = .ok (.iconst 0, 1) := by decide +kernel
theorem dX12_change_36 : decode cX12_change 36 = .ok (.istore 4, 2) := by decide +kernel
theorem dX12_change_38 : decode cX12_change 38 = .ok (.iconst 1, 1) := by decide +kernel
theorem dX12_change_39 : decode cX12_change 39 = .ok (.istore 5, 2) := by decide +kernel
theorem dX12_change_41 : decode cX12_change 41 = .ok (.iload 5, 2) := by decide +kernel
theorem dX12_change_43 : decode cX12_change 43 = .ok (.aload_n 0, 1) := by decide +kernel
theorem dX12_change_44 : decode cX12_change 44 = .ok (.getfield 179, 3) := by decide +kernel
theorem dX12_change_47 : decode cX12_change 47 = .ok (.if_icmp .ge 109, 3) := by decide +kernel
theorem dX12_change_50 : decode cX12_change 50 = .ok (.iconst 0, 1) := by decide +kernel
theorem dX12_change_51 : decode cX12_change 51 = .ok (.istore 6, 2) := by decide +kernel
theorem dX12_change_53 : decode cX12_change 53 = .ok (.iload 6, 2) := by decide +kernel
theorem dX12_change_55 : decode cX12_change 55 = .ok (.aload_n 0, 1) := by decide +kernel
theorem dX12_change_56 : decode cX12_change 56 = .ok (.getfield 179, 3) := by decide +kernel
theorem dX12_change_59 : decode cX12_change 59 = .ok (.if_icmp .ge 91, 3) := by decide +kernel
theorem dX12_change_62 : decode cX12_change 62 = .ok (.aload_n 0, 1) := by decide +kernel
theorem dX12_change_63 : decode cX12_change 63 = .ok (.iconst 0, 1) := by decide +kernel
theorem dX12_change_64 : decode cX12_change 64 = .ok (.iload 5, 2) := by decide +kernel
theorem dX12_change_66 : decode cX12_change 66 = .ok (.iload 6, 2) := by decide +kernel
theorem dX12_change_68 : decode cX12_change 68 = .ok (.bipush 22, 2) := by decide +kernel
theorem dX12_change_70 : decode cX12_change 70 = .ok (.invokevirtual 417, 3) := by decide +kernel
theorem dX12_change_73 : decode cX12_change 73 = .ok (.iconst 1, 1) := by decide +kernel
theorem dX12_change_74 : decode cX12_change 74 = .ok (.istore 7, 2) := by decide +kernel
theorem dX12_change_76 : decode cX12_change 76 = .ok (.iload 7, 2) := by decide +kernel
theorem dX12_change_78 : decode cX12_change 78 = .ok (.aload_n 0, 1) := by decide +kernel
theorem dX12_change_79 : decode cX12_change 79 = .ok (.getfield 179, 3) := by decide +kernel
theorem dX12_change_82 : decode cX12_change 82 = .ok (.if_icmp .ge 62, 3) := by decide +kernel
theorem dX12_change_85 : decode cX12_change 85 = .ok (.aload_n 0, 1) := by decide +kernel
theorem dX12_change_86 : decode cX12_change 86 = .ok (.bipush 22, 2) := by decide +kernel
theorem dX12_change_88 : decode cX12_change 88 = .ok (.iconst 0, 1) := by decide +kernel
theorem dX12_change_89 : decode cX12_change 89 = .ok (.aload_n 0, 1) := by decide +kernel
theorem dX12_change_90 : decode cX12_change 90 = .ok (.iload 7, 2) := by decide +kernel
theorem dX12_change_92 : decode cX12_change 92 = .ok (.iload 7, 2) := by decide +kernel
theorem dX12_change_94 : decode cX12_change 94 = .ok (.imul, 1) := by decide +kernel
theorem dX12_change_95 : decode cX12_change 95 = .ok (.invokevirtual 182, 3) := by decide +kernel
theorem dX12_change_98 : decode cX12_change 98 = .ok (.invokevirtual 420, 3) := by decide +kernel
theorem dX12_change_101 : decode cX12_change 101 = .ok (.ifCond .ne 6, 3) := by decide +kernel
theorem dX12_change_104 : decode cX12_change 104 = .ok (.goto 34, 3) := by decide +kernel
theorem dX12_change_107 : decode cX12_change 107 = .ok (.iload 4, 2) := by decide +kernel
theorem dX12_change_109 : decode cX12_change 109 = .ok (.iload_n 2, 1) := by decide +kernel
theorem dX12_change_110 : decode cX12_change 110 = .ok (.if_icmp .ne 25, 3) := by decide +kernel
theorem dX12_change_113 : decode cX12_change 113 = .ok (.iload_n 3, 1) := by decide +kernel
theorem dX12_change_114 : decode cX12_change 114 = .ok (.ifCond .ne 8, 3) := by decide +kernel
theorem dX12_change_117 : decode cX12_change 117 = .ok (.iload 5, 2) := by decide +kernel
theorem dX12_change_119 : decode cX12_change 119 = .ok (.goto 15, 3) := by decide +kernel
theorem dX12_change_122 : decode cX12_change 122 = .ok (.iload_n 3, 1) := by decide +kernel
theorem dX12_change_123 : decode cX12_change 123 = .ok (.iconst 1, 1) := by decide +kernel
theorem dX12_change_124 : decode cX12_change 124 = .ok (.if_icmp .ne 8, 3) := by decide +kernel
theorem dX12_change_127 : decode cX12_change 127 = .ok (.iload 6, 2) := by decide +kernel
theorem dX12_change_129 : decode cX12_change 129 = .ok (.goto 5, 3) := by decide +kernel
theorem dX12_change_132 : decode cX12_change 132 = .ok (.iload 7, 2) := by decide +kernel
theorem dX12_change_134 : decode cX12_change 134 = .ok (.ireturn, 1) := by decide +kernel
theorem dX12_change_135 : decode cX12_change 135 = .ok (.iinc 4 1, 3) := by decide +kernel
theorem dX12_change_138 : decode cX12_change 138 = .ok (.iinc 7 1, 3) := by decide +kernel
theorem dX12_change_141 : decode cX12_change 141 = .ok (.goto (-65), 3) := by decide +kernel
theorem dX12_change_144 : decode cX12_change 144 = .ok (.iinc 6 1, 3) := by decide +kernel
theorem dX12_change_147 : decode cX12_change 147 = .ok (.goto (-94), 3) := by decide +kernel
theorem dX12_change_150 : decode cX12_change 150 = .ok (.iinc 5 1, 3) := by decide +kernel
theorem dX12_change_153 : decode cX12_change 153 = .ok (.goto (-112), 3) := by decide +kernel
theorem dX12_change_156 : decode cX12_change 156 = .ok (.iload_n 2, 1) := by decide +kernel
theorem dX12_change_157 : decode cX12_change 157 = .ok (.iconst (-1), 1) := by decide +kernel
theorem dX12_change_158 : decode cX12_change 158 = .ok (.if_icmp .ne 8, 3) := by decide +kernel
theorem dX12_change_161 : decode cX12_change 161 = .ok (.iload 4, 2) := by decide +kernel
theorem dX12_change_163 : decode cX12_change 163 = .ok (.goto 4, 3) := by decide +kernel
theorem dX12_change_166 : decode cX12_change 166 = .ok (.iconst (-1), 1) := by decide +kernel
theorem dX12_change_167 : decode cX12_change 167 = .ok (.ireturn, 1) := by decide +kernel
set_option maxRecDepth 20000 in
theorem b_X12_change_0 {k n : Nat} {x : Wx} {Z : Zt} {Q : Option Value → Wx → Zt → Prop} {a0 : Nat} {v1 : Int} {v2 : Int} {v3 : Int} (o_a0 : Is12 x a0)
    (h : ∃ g1 : Nat → Nat → Int, (∃ g2 : Td, (MT (Z (a0 + 1)) g2 ∧ TdV g2 ∧ MS Z a0 g1 ∧ Rg v1 ∧ (∀ (Z'1 : Zt) (P'1 : Nat → Nat → Int) (r1 : Int), (TkC a0 g2 v1 Z Z'1 g1 P'1 r1) → (Rg r1 ∧ (((r1 = 0) → (V mX12_change k n 33 [none, none, none, none, none, none, none, none] [] x Z'1 Q)) ∧ ((r1 ≠ 0) → (Rg v2 ∧ (((v2 ≠ (-1)) → (((v2 < 0) → (V mX12_change k n 33 [none, none, none, none, none, none, none, none] [] x Z'1 Q)) ∧ ((0 ≤ v2) → ((Rg v3 ∧ Rg (0 : Int) ∧ Rg (2 : Int)) ∧ (∀ (r2 : Int), (((r2 = 1 ∧ (0 : Int) ≤ v3 ∧ v3 ≤ (2 : Int)) ∨ (r2 = 0 ∧ (v3 < (0 : Int) ∨ (2 : Int) < v3)))) → (Rg r2 ∧ (((r2 ≠ 0) → (V mX12_change k n 35 [some (r_ a0), none, some (i_ v2), some (i_ v3), none, none, none, none] [] x Z'1 Q)) ∧ ((r2 = 0) → (V mX12_change k n 33 [none, none, none, none, none, none, none, none] [] x Z'1 Q))))))))) ∧ ((v2 = (-1)) → (Rg v3 ∧ (((v3 = 0) → (V mX12_change k n 35 [some (r_ a0), none, some (i_ v2), some (i_ v3), none, none, none, none] [] x Z'1 Q)) ∧ ((v3 ≠ 0) → (V mX12_change k n 33 [none, none, none, none, none, none, none, none] [] x Z'1 Q)))))))))))))) :
    V mX12_change k n 0 [some (r_ a0), some (i_ v1), some (i_ v2), some (i_ v3), none, none, none, none] [] x Z Q :=
  V_aload_n dX12_change_0 rfl (V_iload_n dX12_change_1 rfl (Exists.elim h (fun g1 w1 => Exists.elim w1 (fun g2 w2 => V_callV (k' := 0) (n' := 0) (t := 12) (q := (RX12, TX12, 46)) [i_ v1] [] okX12_takesCurve o_a0.1 rfl rfl lm_12_249 liX12_takesCurve lqX12_takesCurve (Nat.le_of_ble_eq_true rfl) (Nat.le_of_ble_eq_true rfl) (Nat.le_of_ble_eq_true rfl) (cat_of rfl) (Nat.le_of_ble_eq_true rfl) (Nat.zero_le _) (Nat.zero_le _) rfl dX12_change_2 (w_X12_takesCurve o_a0 w2.1 w2.2.1 w2.2.2.1 w2.2.2.2.1 (fun Z'1 P'1 r1 p1 => V_if_eq (tgt := 33) dX12_change_5 rfl (w2.2.2.2.2 Z'1 P'1 r1 p1).1 (fun c1 => V_msk [false, false, false, false, false, false, false, false] rfl ((w2.2.2.2.2 Z'1 P'1 r1 p1).2.1 c1)) (fun c1 => V_iload_n dX12_change_8 rfl (V_iconst dX12_change_9 (V_icmp_ne (tgt := 20) dX12_change_10 rfl ((w2.2.2.2.2 Z'1 P'1 r1 p1).2.2 c1).1 (rg_c rfl) (fun c2 => V_iload_n dX12_change_20 rfl (V_if_lt (tgt := 33) dX12_change_21 rfl ((w2.2.2.2.2 Z'1 P'1 r1 p1).2.2 c1).1 (fun c3 => V_msk [false, false, false, false, false, false, false, false] rfl ((((w2.2.2.2.2 Z'1 P'1 r1 p1).2.2 c1).2.1 c2).1 c3)) (fun c3 => V_iload_n dX12_change_24 rfl (V_iconst dX12_change_25 (V_iconst dX12_change_26 (V_callS (k' := 0) (n' := 0) [i_ v3, i_ 0, i_ 2] [] okX12_isIn lm_12_129 lsX12_isIn (Nat.le_of_ble_eq_true rfl) (Nat.le_of_ble_eq_true rfl) (Nat.le_of_ble_eq_true rfl) (cat_of rfl) (Nat.le_of_ble_eq_true rfl) (Nat.zero_le _) (Nat.zero_le _) rfl dX12_change_27 (sp_X12_isIn  ((((w2.2.2.2.2 Z'1 P'1 r1 p1).2.2 c1).2.1 c2).2 c3).1 (fun r2 p2 => V_if_ne (tgt := 35) dX12_change_30 rfl (((((w2.2.2.2.2 Z'1 P'1 r1 p1).2.2 c1).2.1 c2).2 c3).2 r2 p2).1 (fun c4 => V_msk [true, false, true, true, false, false, false, false] rfl ((((((w2.2.2.2.2 Z'1 P'1 r1 p1).2.2 c1).2.1 c2).2 c3).2 r2 p2).2.1 c4)) (fun c4 => V_msk [false, false, false, false, false, false, false, false] rfl ((((((w2.2.2.2.2 Z'1 P'1 r1 p1).2.2 c1).2.1 c2).2 c3).2 r2 p2).2.2 c4)))))))))) (fun c2 => V_iload_n dX12_change_13 rfl (V_if_eq (tgt := 35) dX12_change_14 rfl (((w2.2.2.2.2 Z'1 P'1 r1 p1).2.2 c1).2.2 c2).1 (fun c5 => V_msk [true, false, true, true, false, false, false, false] rfl ((((w2.2.2.2.2 Z'1 P'1 r1 p1).2.2 c1).2.2 c2).2.1 c5)) (fun c5 => V_goto (tgt := 33) dX12_change_17 rfl (V_msk [false, false, false, false, false, false, false, false] rfl ((((w2.2.2.2.2 Z'1 P'1 r1 p1).2.2 c1).2.2 c2).2.2 c5))))))))))))))
set_option maxRecDepth 20000 in
theorem b_X12_change_33 {k n : Nat} {x : Wx} {Z : Zt} {Q : Option Value → Wx → Zt → Prop}  
    (h : Q (some (i_ (-1))) x Z) :
    V mX12_change k n 33 [none, none, none, none, none, none, none, none] [] x Z Q :=
  V_iconst dX12_change_33 (V_iret (ty := .int) dX12_change_34 rfl rfl h)
set_option maxRecDepth 20000 in
theorem b_X12_change_35 {k n : Nat} {x : Wx} {Z : Zt} {Q : Option Value → Wx → Zt → Prop} {a0 : Nat} {v2 : Int} {v3 : Int} 
    (h : V mX12_change k n 41 [some (r_ a0), none, some (i_ v2), some (i_ v3), some (i_ 0), some (i_ 1), none, none] [] x Z Q) :
    V mX12_change k n 35 [some (r_ a0), none, some (i_ v2), some (i_ v3), none, none, none, none] [] x Z Q :=
  V_iconst dX12_change_35 (V_istore (lv' := [some (r_ a0), none, some (i_ v2), some (i_ v3), some (i_ 0), none, none, none]) dX12_change_36 (Nat.le_of_ble_eq_true rfl) rfl (V_iconst dX12_change_38 (V_istore (lv' := [some (r_ a0), none, some (i_ v2), some (i_ v3), some (i_ 0), some (i_ 1), none, none]) dX12_change_39 (Nat.le_of_ble_eq_true rfl) rfl (V_msk [true, false, true, true, true, true, false, false] rfl h))))
set_option maxRecDepth 20000 in
theorem b_X12_change_41 {k n : Nat} {x : Wx} {Z : Zt} {Q : Option Value → Wx → Zt → Prop} {a0 : Nat} {v2 : Int} {v3 : Int} {v4 : Int} {v5 : Int} (o_a0 : Is12 x a0)
    (h : Rg v5 ∧ Rg (Z a0 11) ∧ (((Z a0 11 ≤ v5) → (Rg v2 ∧ (((v2 ≠ (-1)) → (Q (some (i_ (-1))) x Z)) ∧ ((v2 = (-1)) → (Q (some (i_ v4)) x Z))))) ∧ ((v5 < Z a0 11) → (V mX12_change k n 53 [some (r_ a0), none, some (i_ v2), some (i_ v3), some (i_ v4), some (i_ v5), some (i_ 0), none] [] x Z Q)))) :
    V mX12_change k n 41 [some (r_ a0), none, some (i_ v2), some (i_ v3), some (i_ v4), some (i_ v5), none, none] [] x Z Q :=
  V_iload dX12_change_41 rfl (V_aload_n dX12_change_43 rfl (G_12_11 o_a0.1 lf_12_179 dX12_change_44 (V_icmp_ge (tgt := 156) dX12_change_47 rfl h.1 h.2.1 (fun c1 => V_iload_n dX12_change_156 rfl (V_iconst dX12_change_157 (V_icmp_ne (tgt := 166) dX12_change_158 rfl (h.2.2.1 c1).1 (rg_c rfl) (fun c2 => V_iconst dX12_change_166 (V_iret (ty := .int) dX12_change_167 rfl rfl ((h.2.2.1 c1).2.1 c2))) (fun c2 => V_iload dX12_change_161 rfl (V_goto (tgt := 167) dX12_change_163 rfl (V_iret (ty := .int) dX12_change_167 rfl rfl ((h.2.2.1 c1).2.2 c2))))))) (fun c1 => V_iconst dX12_change_50 (V_istore (lv' := [some (r_ a0), none, some (i_ v2), some (i_ v3), some (i_ v4), some (i_ v5), some (i_ 0), none]) dX12_change_51 (Nat.le_of_ble_eq_true rfl) rfl (V_msk [true, false, true, true, true, true, true, false] rfl (h.2.2.2 c1)))))))
set_option maxRecDepth 20000 in
theorem b_X12_change_53 {k n : Nat} {x : Wx} {Z : Zt} {Q : Option Value → Wx → Zt → Prop} {a0 : Nat} {v2 : Int} {v3 : Int} {v4 : Int} {v5 : Int} {v6 : Int} (o_a0 : Is12 x a0)
    (h : Rg v6 ∧ Rg (Z a0 11) ∧ (((Z a0 11 ≤ v6) → (V mX12_change k n 41 [some (r_ a0), none, some (i_ v2), some (i_ v3), some (i_ v4), some (i_ (v5 + 1)), none, none] [] x Z Q)) ∧ ((v6 < Z a0 11) → (∃ g1 : Nat → Nat → Int, (∃ g2 : Int, ((IsP g2 ∧ Z a0 11 = g2) ∧ MS Z a0 g1 ∧ ((((0 : Int) ≤ (0 : Int) ∧ (0 : Int) < 27) ∧ (0 : Int) ≠ 21) ∧ (((0 : Int) ≤ (22 : Int) ∧ (22 : Int) < 27) ∧ (22 : Int) ≠ 21) ∧ (0 : Int) ≠ (22 : Int)) ∧ ((0 ≤ v5 ∧ v5 < g2) ∧ (0 ≤ v6 ∧ v6 < g2)) ∧ (InP g2 (g1 (0 : Int).toNat) ∧ Fin (g1 (0 : Int).toNat)) ∧ (∀ (Z'1 : Zt) (P'1 : Nat → Nat → Int), (MS Z'1 a0 P'1 ∧ Oth Z Z'1 (O4 a0) ∧ P'1 (22 : Int).toNat = mvd g2 v5 v6 (g1 (0 : Int).toNat) ∧ (∀ q : Nat, q ≠ 21 → q ≠ (22 : Int).toNat → P'1 q = g1 q)) → (V mX12_change k n 76 [some (r_ a0), none, some (i_ v2), some (i_ v3), some (i_ v4), some (i_ v5), some (i_ v6), some (i_ 1)] [] x Z'1 Q)))))))) :
    V mX12_change k n 53 [some (r_ a0), none, some (i_ v2), some (i_ v3), some (i_ v4), some (i_ v5), some (i_ v6), none] [] x Z Q :=
  V_iload dX12_change_53 rfl (V_aload_n dX12_change_55 rfl (G_12_11 o_a0.1 lf_12_179 dX12_change_56 (V_icmp_ge (tgt := 150) dX12_change_59 rfl h.1 h.2.1 (fun c1 => V_iinc (lv' := [some (r_ a0), none, some (i_ v2), some (i_ v3), some (i_ v4), some (i_ (v5 + 1)), some (i_ v6), none]) dX12_change_150 rfl (Nat.le_of_ble_eq_true rfl) rfl (V_goto (tgt := 41) dX12_change_153 rfl (V_msk [true, false, true, true, true, true, false, false] rfl (h.2.2.1 c1)))) (fun c1 => V_aload_n dX12_change_62 rfl (V_iconst dX12_change_63 (V_iload dX12_change_64 rfl (V_iload dX12_change_66 rfl (V_bipush dX12_change_68 rfl (Exists.elim (h.2.2.2 c1) (fun g1 w1 => Exists.elim w1 (fun g2 w2 => V_callV (k' := 0) (n' := 0) (t := 12) (q := (RX12, TX12, 46)) [i_ 0, i_ v5, i_ v6, i_ 22] [] okX12_moves o_a0.1 rfl rfl lm_12_417 liX12_moves lqX12_moves (Nat.le_of_ble_eq_true rfl) (Nat.le_of_ble_eq_true rfl) (Nat.le_of_ble_eq_true rfl) (cat_of rfl) (Nat.le_of_ble_eq_true rfl) (Nat.zero_le _) (Nat.zero_le _) rfl dX12_change_70 (sp_X12_moves o_a0 w2.1 w2.2.1 w2.2.2.1 w2.2.2.2.1 w2.2.2.2.2.1 (fun Z'1 P'1 p1 => V_iconst dX12_change_73 (V_istore (lv' := [some (r_ a0), none, some (i_ v2), some (i_ v3), some (i_ v4), some (i_ v5), some (i_ v6), some (i_ 1)]) dX12_change_74 (Nat.le_of_ble_eq_true rfl) rfl (V_msk [true, false, true, true, true, true, true, true] rfl (w2.2.2.2.2.2 Z'1 P'1 p1))))))))))))))))
set_option maxRecDepth 20000 in
theorem b_X12_change_76 {k n : Nat} {x : Wx} {Z : Zt} {Q : Option Value → Wx → Zt → Prop} {a0 : Nat} {v2 : Int} {v3 : Int} {v4 : Int} {v5 : Int} {v6 : Int} {v7 : Int} (o_a0 : Is12 x a0)
    (h : Rg v7 ∧ Rg (Z a0 11) ∧ (((Z a0 11 ≤ v7) → (V mX12_change k n 53 [some (r_ a0), none, some (i_ v2), some (i_ v3), some (i_ v4), some (i_ v5), some (i_ (v6 + 1)), none] [] x Z Q)) ∧ ((v7 < Z a0 11) → (Rg (v7 * v7) ∧ 0 < Z a0 11 ∧ Z a0 11 ≤ 13 ∧ (∃ g1 : Nat → Nat → Int, (∃ g2 : Int, ((IsP g2 ∧ Z a0 11 = g2) ∧ MS Z a0 g1 ∧ (((0 : Int) ≤ (22 : Int) ∧ (22 : Int) < 27) ∧ ((0 : Int) ≤ (0 : Int) ∧ (0 : Int) < 27)) ∧ (0 ≤ ((v7 * v7) % Z a0 11) ∧ ((v7 * v7) % Z a0 11) < g2) ∧ (InP g2 (g1 (22 : Int).toNat) ∧ InP g2 (g1 (0 : Int).toNat)) ∧ (Rg (bI (isMv g2 ((v7 * v7) % Z a0 11) (g1 (0 : Int).toNat) (g1 (22 : Int).toNat) 6 0)) ∧ (((bI (isMv g2 ((v7 * v7) % Z a0 11) (g1 (0 : Int).toNat) (g1 (22 : Int).toNat) 6 0) ≠ 0) → (Rg v4 ∧ Rg v2 ∧ (((v4 ≠ v2) → (V mX12_change k n 138 [some (r_ a0), none, some (i_ v2), some (i_ v3), some (i_ (v4 + 1)), some (i_ v5), some (i_ v6), some (i_ v7)] [] x Z Q)) ∧ ((v4 = v2) → (Rg v3 ∧ (((v3 ≠ 0) → (((v3 ≠ 1) → (Q (some (i_ v7)) x Z)) ∧ ((v3 = 1) → (Q (some (i_ v6)) x Z)))) ∧ ((v3 = 0) → (Q (some (i_ v5)) x Z)))))))) ∧ ((bI (isMv g2 ((v7 * v7) % Z a0 11) (g1 (0 : Int).toNat) (g1 (22 : Int).toNat) 6 0) = 0) → (V mX12_change k n 138 [some (r_ a0), none, some (i_ v2), some (i_ v3), some (i_ v4), some (i_ v5), some (i_ v6), some (i_ v7)] [] x Z Q))))))))))) :
    V mX12_change k n 76 [some (r_ a0), none, some (i_ v2), some (i_ v3), some (i_ v4), some (i_ v5), some (i_ v6), some (i_ v7)] [] x Z Q :=
  V_iload dX12_change_76 rfl (V_aload_n dX12_change_78 rfl (G_12_11 o_a0.1 lf_12_179 dX12_change_79 (V_icmp_ge (tgt := 144) dX12_change_82 rfl h.1 h.2.1 (fun c1 => V_iinc (lv' := [some (r_ a0), none, some (i_ v2), some (i_ v3), some (i_ v4), some (i_ v5), some (i_ (v6 + 1)), some (i_ v7)]) dX12_change_144 rfl (Nat.le_of_ble_eq_true rfl) rfl (V_goto (tgt := 53) dX12_change_147 rfl (V_msk [true, false, true, true, true, true, true, false] rfl (h.2.2.1 c1)))) (fun c1 => V_aload_n dX12_change_85 rfl (V_bipush dX12_change_86 rfl (V_iconst dX12_change_88 (V_aload_n dX12_change_89 rfl (V_iload dX12_change_90 rfl (V_iload dX12_change_92 rfl (V_imul dX12_change_94 (V_callV (k' := 0) (n' := 0) (t := 12) (q := (RX12, TX12, 46)) [i_ (v7 * v7)] [i_ 0, i_ 22, r_ a0] okX12_mod o_a0.1 rfl rfl lm_12_182 liX12_mod lqX12_mod (Nat.le_of_ble_eq_true rfl) (Nat.le_of_ble_eq_true rfl) (Nat.le_of_ble_eq_true rfl) (cat_of rfl) (Nat.le_of_ble_eq_true rfl) (Nat.zero_le _) (Nat.zero_le _) rfl dX12_change_95 (sp_X12_mod o_a0 (h.2.2.2 c1).1 (h.2.2.2 c1).2.1 (h.2.2.2 c1).2.2.1 (Exists.elim (h.2.2.2 c1).2.2.2 (fun g1 w1 => Exists.elim w1 (fun g2 w2 => V_callV (k' := 0) (n' := 0) (t := 12) (q := (RX12, TX12, 46)) [i_ 22, i_ 0, i_ ((v7 * v7) % Z a0 11)] [] okX12_isTimes o_a0.1 rfl rfl lm_12_420 liX12_isTimes lqX12_isTimes (Nat.le_of_ble_eq_true rfl) (Nat.le_of_ble_eq_true rfl) (Nat.le_of_ble_eq_true rfl) (cat_of rfl) (Nat.le_of_ble_eq_true rfl) (Nat.zero_le _) (Nat.zero_le _) rfl dX12_change_98 (sp_X12_isTimes o_a0 w2.1 w2.2.1 w2.2.2.1 w2.2.2.2.1 w2.2.2.2.2.1 (V_if_ne (tgt := 107) dX12_change_101 rfl w2.2.2.2.2.2.1 (fun c2 => V_iload dX12_change_107 rfl (V_iload_n dX12_change_109 rfl (V_icmp_ne (tgt := 135) dX12_change_110 rfl (w2.2.2.2.2.2.2.1 c2).1 (w2.2.2.2.2.2.2.1 c2).2.1 (fun c3 => V_iinc (lv' := [some (r_ a0), none, some (i_ v2), some (i_ v3), some (i_ (v4 + 1)), some (i_ v5), some (i_ v6), some (i_ v7)]) dX12_change_135 rfl (Nat.le_of_ble_eq_true rfl) rfl (V_msk [true, false, true, true, true, true, true, true] rfl ((w2.2.2.2.2.2.2.1 c2).2.2.1 c3))) (fun c3 => V_iload_n dX12_change_113 rfl (V_if_ne (tgt := 122) dX12_change_114 rfl ((w2.2.2.2.2.2.2.1 c2).2.2.2 c3).1 (fun c4 => V_iload_n dX12_change_122 rfl (V_iconst dX12_change_123 (V_icmp_ne (tgt := 132) dX12_change_124 rfl ((w2.2.2.2.2.2.2.1 c2).2.2.2 c3).1 (rg_c rfl) (fun c5 => V_iload dX12_change_132 rfl (V_iret (ty := .int) dX12_change_134 rfl rfl ((((w2.2.2.2.2.2.2.1 c2).2.2.2 c3).2.1 c4).1 c5))) (fun c5 => V_iload dX12_change_127 rfl (V_goto (tgt := 134) dX12_change_129 rfl (V_iret (ty := .int) dX12_change_134 rfl rfl ((((w2.2.2.2.2.2.2.1 c2).2.2.2 c3).2.1 c4).2 c5))))))) (fun c4 => V_iload dX12_change_117 rfl (V_goto (tgt := 134) dX12_change_119 rfl (V_iret (ty := .int) dX12_change_134 rfl rfl (((w2.2.2.2.2.2.2.1 c2).2.2.2 c3).2.2 c4))))))))) (fun c2 => V_goto (tgt := 138) dX12_change_104 rfl (V_msk [true, false, true, true, true, true, true, true] rfl (w2.2.2.2.2.2.2.2 c2))))))))))))))))))))
set_option maxRecDepth 20000 in
theorem b_X12_change_138 {k n : Nat} {x : Wx} {Z : Zt} {Q : Option Value → Wx → Zt → Prop} {a0 : Nat} {v2 : Int} {v3 : Int} {v4 : Int} {v5 : Int} {v6 : Int} {v7 : Int} 
    (h : V mX12_change k n 76 [some (r_ a0), none, some (i_ v2), some (i_ v3), some (i_ v4), some (i_ v5), some (i_ v6), some (i_ (v7 + 1))] [] x Z Q) :
    V mX12_change k n 138 [some (r_ a0), none, some (i_ v2), some (i_ v3), some (i_ v4), some (i_ v5), some (i_ v6), some (i_ v7)] [] x Z Q :=
  V_iinc (lv' := [some (r_ a0), none, some (i_ v2), some (i_ v3), some (i_ v4), some (i_ v5), some (i_ v6), some (i_ (v7 + 1))]) dX12_change_138 rfl (Nat.le_of_ble_eq_true rfl) rfl (V_goto (tgt := 76) dX12_change_141 rfl (V_msk [true, false, true, true, true, true, true, true] rfl h))
theorem dX12_like_0 : decode cX12_like 0 = .ok (.aload_n 0, 1) := by decide +kernel
theorem dX12_like_1 : decode cX12_like 1 = .ok (.iconst 0, 1) := by decide +kernel
theorem dX12_like_2 : decode cX12_like 2 = .ok (.iload_n 1, 1) := by decide +kernel
theorem dX12_like_3 : decode cX12_like 3 = .ok (.invokevirtual 156, 3) := by decide +kernel
theorem dX12_like_6 : decode cX12_like 6 = .ok (.ifCond .eq 62, 3) := by decide +kernel
theorem dX12_like_9 : decode cX12_like 9 = .ok (.aload_n 0, 1) := by decide +kernel
theorem dX12_like_10 : decode cX12_like 10 = .ok (.iconst 0, 1) := by decide +kernel
theorem dX12_like_11 : decode cX12_like 11 = .ok (.iload_n 2, 1) := by decide +kernel
theorem dX12_like_12 : decode cX12_like 12 = .ok (.invokevirtual 156, 3) := by decide +kernel
theorem dX12_like_15 : decode cX12_like 15 = .ok (.ifCond .eq 53, 3) := by decide +kernel
theorem dX12_like_18 : decode cX12_like 18 = .ok (.aload_n 0, 1) := by decide +kernel
theorem dX12_like_19 : decode cX12_like 19 = .ok (.getfield 7, 3) := by decide +kernel
theorem dX12_like_22 : decode cX12_like 22 = .ok (.iconst 0, 1) := by decide +kernel
theorem dX12_like_23 : decode cX12_like 23 = .ok (.iload_n 1, 1) := by decide +kernel
theorem dX12_like_24 : decode cX12_like 24 = .ok (.invokestatic 176, 3) := by decide +kernel
theorem dX12_like_27 : decode cX12_like 27 = .ok (.iaload, 1) := by decide +kernel
theorem dX12_like_28 : decode cX12_like 28 = .ok (.aload_n 0, 1) := by decide +kernel
theorem dX12_like_29 : decode cX12_like 29 = .ok (.getfield 7, 3) := by decide +kernel
theorem dX12_like_32 : decode cX12_like 32 = .ok (.iconst 0, 1) := by decide +kernel
theorem dX12_like_33 : decode cX12_like 33 = .ok (.iload_n 2, 1) := by decide +kernel
theorem dX12_like_34 : decode cX12_like 34 = .ok (.invokestatic 176, 3) := by decide +kernel
theorem dX12_like_37 : decode cX12_like 37 = .ok (.iaload, 1) := by decide +kernel
theorem dX12_like_38 : decode cX12_like 38 = .ok (.if_icmp .ne 30, 3) := by decide +kernel
theorem dX12_like_41 : decode cX12_like 41 = .ok (.aload_n 0, 1) := by decide +kernel
theorem dX12_like_42 : decode cX12_like 42 = .ok (.getfield 7, 3) := by decide +kernel
theorem dX12_like_45 : decode cX12_like 45 = .ok (.iconst 0, 1) := by decide +kernel
theorem dX12_like_46 : decode cX12_like 46 = .ok (.iload_n 1, 1) := by decide +kernel
theorem dX12_like_47 : decode cX12_like 47 = .ok (.invokestatic 176, 3) := by decide +kernel
theorem dX12_like_50 : decode cX12_like 50 = .ok (.iconst 1, 1) := by decide +kernel
theorem dX12_like_51 : decode cX12_like 51 = .ok (.iadd, 1) := by decide +kernel
theorem dX12_like_52 : decode cX12_like 52 = .ok (.iaload, 1) := by decide +kernel
theorem dX12_like_53 : decode cX12_like 53 = .ok (.aload_n 0, 1) := by decide +kernel
theorem dX12_like_54 : decode cX12_like 54 = .ok (.getfield 7, 3) := by decide +kernel
theorem dX12_like_57 : decode cX12_like 57 = .ok (.iconst 0, 1) := by decide +kernel
theorem dX12_like_58 : decode cX12_like 58 = .ok (.iload_n 2, 1) := by decide +kernel
theorem dX12_like_59 : decode cX12_like 59 = .ok (.invokestatic 176, 3) := by decide +kernel
theorem dX12_like_62 : decode cX12_like 62 = .ok (.iconst 1, 1) := by decide +kernel
theorem dX12_like_63 : decode cX12_like 63 = .ok (.iadd, 1) := by decide +kernel
theorem dX12_like_64 : decode cX12_like 64 = .ok (.iaload, 1) := by decide +kernel
theorem dX12_like_65 : decode cX12_like 65 = .ok (.if_icmp .eq 5, 3) := by decide +kernel
theorem dX12_like_68 : decode cX12_like 68 = .ok (.iconst 0, 1) := by decide +kernel
theorem dX12_like_69 : decode cX12_like 69 = .ok (.ireturn, 1) := by decide +kernel
theorem dX12_like_70 : decode cX12_like 70 = .ok (.aload_n 0, 1) := by decide +kernel
theorem dX12_like_71 : decode cX12_like 71 = .ok (.iload_n 2, 1) := by decide +kernel
theorem dX12_like_72 : decode cX12_like 72 = .ok (.invokevirtual 249, 3) := by decide +kernel
theorem dX12_like_75 : decode cX12_like 75 = .ok (.istore_n 3, 1) := by decide +kernel
theorem dX12_like_76 : decode cX12_like 76 = .ok (.aload_n 0, 1) := by decide +kernel
theorem dX12_like_77 : decode cX12_like 77 = .ok (.iconst 0, 1) := by decide +kernel
theorem dX12_like_78 : decode cX12_like 78 = .ok (.bipush 24, 2) := by decide +kernel
theorem dX12_like_80 : decode cX12_like 80 = .ok (.invokevirtual 199, 3) := by decide +kernel
theorem dX12_like_83 : decode cX12_like 83 = .ok (.aload_n 0, 1) := by decide +kernel
theorem dX12_like_84 : decode cX12_like 84 = .ok (.iload_n 1, 1) := by decide +kernel
theorem dX12_like_85 : decode cX12_like 85 = .ok (.invokevirtual 249, 3) := by decide +kernel
theorem dX12_like_88 : decode cX12_like 88 = .ok (.istore_n 3, 1) := by decide +kernel
theorem dX12_like_89 : decode cX12_like 89 = .ok (.iconst 0, 1) := by decide +kernel
theorem dX12_like_90 : decode cX12_like 90 = .ok (.istore_n 3, 1) := by decide +kernel
theorem dX12_like_91 : decode cX12_like 91 = .ok (.iconst 1, 1) := by decide +kernel
theorem dX12_like_92 : decode cX12_like 92 = .ok (.istore 4, 2) := by decide +kernel
theorem dX12_like_94 : decode cX12_like 94 = .ok (.iload 4, 2) := by decide +kernel
theorem dX12_like_96 : decode cX12_like 96 = .ok (.aload_n 0, 1) := by decide +kernel
theorem dX12_like_97 : decode cX12_like 97 = .ok (.getfield 179, 3) := by decide +kernel
theorem dX12_like_100 : decode cX12_like 100 = .ok (.if_icmp .ge 86, 3) := by decide +kernel
theorem dX12_like_103 : decode cX12_like 103 = .ok (.iconst 0, 1) := by decide +kernel
theorem dX12_like_104 : decode cX12_like 104 = .ok (.istore 5, 2) := by decide +kernel
theorem dX12_like_106 : decode cX12_like 106 = .ok (.iload 5, 2) := by decide +kernel
theorem dX12_like_108 : decode cX12_like 108 = .ok (.aload_n 0, 1) := by decide +kernel
theorem dX12_like_109 : decode cX12_like 109 = .ok (.getfield 179, 3) := by decide +kernel
theorem dX12_like_112 : decode cX12_like 112 = .ok (.if_icmp .ge 68, 3) := by decide +kernel
theorem dX12_like_115 : decode cX12_like 115 = .ok (.aload_n 0, 1) := by decide +kernel
theorem dX12_like_116 : decode cX12_like 116 = .ok (.bipush 24, 2) := by decide +kernel
theorem dX12_like_118 : decode cX12_like 118 = .ok (.iload 4, 2) := by decide +kernel
theorem dX12_like_120 : decode cX12_like 120 = .ok (.iload 5, 2) := by decide +kernel
theorem dX12_like_122 : decode cX12_like 122 = .ok (.bipush 22, 2) := by decide +kernel
theorem dX12_like_124 : decode cX12_like 124 = .ok (.invokevirtual 417, 3) := by decide +kernel
theorem dX12_like_127 : decode cX12_like 127 = .ok (.iconst 1, 1) := by decide +kernel
theorem dX12_like_128 : decode cX12_like 128 = .ok (.istore 6, 2) := by decide +kernel
theorem dX12_like_130 : decode cX12_like 130 = .ok (.iload 6, 2) := by decide +kernel
theorem dX12_like_132 : decode cX12_like 132 = .ok (.aload_n 0, 1) := by decide +kernel
theorem dX12_like_133 : decode cX12_like 133 = .ok (.getfield 179, 3) := by decide +kernel
theorem dX12_like_136 : decode cX12_like 136 = .ok (.if_icmp .ge 38, 3) := by decide +kernel
theorem dX12_like_139 : decode cX12_like 139 = .ok (.iload_n 3, 1) := by decide +kernel
theorem dX12_like_140 : decode cX12_like 140 = .ok (.ifCond .ne 22, 3) := by decide +kernel
theorem dX12_like_143 : decode cX12_like 143 = .ok (.aload_n 0, 1) := by decide +kernel
theorem dX12_like_144 : decode cX12_like 144 = .ok (.bipush 22, 2) := by decide +kernel
theorem dX12_like_146 : decode cX12_like 146 = .ok (.iconst 0, 1) := by decide +kernel
theorem dX12_like_147 : decode cX12_like 147 = .ok (.aload_n 0, 1) := by decide +kernel
theorem dX12_like_148 : decode cX12_like 148 = .ok (.iload 6, 2) := by decide +kernel
theorem dX12_like_150 : decode cX12_like 150 = .ok (.iload 6, 2) := by decide +kernel
theorem dX12_like_152 : decode cX12_like 152 = .ok (.imul, 1) := by decide +kernel
theorem dX12_like_153 : decode cX12_like 153 = .ok (.invokevirtual 182, 3) := by decide +kernel
theorem dX12_like_156 : decode cX12_like 156 = .ok (.invokevirtual 420, 3) := by decide +kernel
theorem dX12_like_159 : decode cX12_like 159 = .ok (.ifCond .eq 7, 3) := by decide +kernel
theorem dX12_like_162 : decode cX12_like 162 = .ok (.iconst 1, 1) := by decide +kernel
theorem dX12_like_163 : decode cX12_like 163 = .ok (.goto 4, 3) := by decide +kernel
theorem dX12_like_166 : decode cX12_like 166 = .ok (.iconst 0, 1) := by decide +kernel
theorem dX12_like_167 : decode cX12_like 167 = .ok (.istore_n 3, 1) := by decide +kernel
theorem dX12_like_168 : decode cX12_like 168 = .ok (.iinc 6 1, 3) := by decide +kernel
theorem dX12_like_171 : decode cX12_like 171 = .ok (.goto (-41), 3) := by decide +kernel
theorem dX12_like_174 : decode cX12_like 174 = .ok (.iinc 5 1, 3) := by decide +kernel
theorem dX12_like_177 : decode cX12_like 177 = .ok (.goto (-71), 3) := by decide +kernel
theorem dX12_like_180 : decode cX12_like 180 = .ok (.iinc 4 1, 3) := by decide +kernel
theorem dX12_like_183 : decode cX12_like 183 = .ok (.goto (-89), 3) := by decide +kernel
theorem dX12_like_186 : decode cX12_like 186 = .ok (.iload_n 3, 1) := by decide +kernel
theorem dX12_like_187 : decode cX12_like 187 = .ok (.ireturn, 1) := by decide +kernel
set_option maxRecDepth 20000 in
theorem b_X12_like_0 {k n : Nat} {x : Wx} {Z : Zt} {Q : Option Value → Wx → Zt → Prop} {a0 : Nat} {v1 : Int} {v2 : Int} (o_a0 : Is12 x a0)
    (h : (0 ≤ (0 : Int) ∧ (0 : Int) < 3) ∧ Rg v1 ∧ Rg (Z (a0 + 1) (0 : Int).toNat - 1) ∧ (∀ (r1 : Int), (((r1 = 1 ∧ 0 ≤ v1 ∧ v1 < Z (a0 + 1) (0 : Int).toNat) ∨ (r1 = 0 ∧ (v1 < 0 ∨ Z (a0 + 1) (0 : Int).toNat ≤ v1)))) → (Rg r1 ∧ (((r1 = 0) → (V mX12_like k n 68 [none, none, none, none, none, none, none] [] x Z Q)) ∧ ((r1 ≠ 0) → (Rg v2 ∧ (∀ (r2 : Int), (((r2 = 1 ∧ 0 ≤ v2 ∧ v2 < Z (a0 + 1) (0 : Int).toNat) ∨ (r2 = 0 ∧ (v2 < 0 ∨ Z (a0 + 1) (0 : Int).toNat ≤ v2)))) → (Rg r2 ∧ (((r2 = 0) → (V mX12_like k n 68 [none, none, none, none, none, none, none] [] x Z Q)) ∧ ((r2 ≠ 0) → (Rg (0 : Int) ∧ (0 ≤ plcO (0 : Int) v1 ∧ plcO (0 : Int) v1 < 2912 ∧ (0 ≤ plcO (0 : Int) v2 ∧ plcO (0 : Int) v2 < 2912 ∧ (Rg (Z (a0 + 1) (plcO (0 : Int) v1).toNat) ∧ Rg (Z (a0 + 1) (plcO (0 : Int) v2).toNat) ∧ (((Z (a0 + 1) (plcO (0 : Int) v1).toNat ≠ Z (a0 + 1) (plcO (0 : Int) v2).toNat) → (V mX12_like k n 68 [none, none, none, none, none, none, none] [] x Z Q)) ∧ ((Z (a0 + 1) (plcO (0 : Int) v1).toNat = Z (a0 + 1) (plcO (0 : Int) v2).toNat) → (0 ≤ (plcO (0 : Int) v1) + 1 ∧ (plcO (0 : Int) v1) + 1 < 2912 ∧ (0 ≤ (plcO (0 : Int) v2) + 1 ∧ (plcO (0 : Int) v2) + 1 < 2912 ∧ (Rg (Z (a0 + 1) ((plcO (0 : Int) v1) + 1).toNat) ∧ Rg (Z (a0 + 1) ((plcO (0 : Int) v2) + 1).toNat) ∧ (((Z (a0 + 1) ((plcO (0 : Int) v1) + 1).toNat = Z (a0 + 1) ((plcO (0 : Int) v2) + 1).toNat) → (∃ g1 : Nat → Nat → Int, (∃ g2 : Td, (MT (Z (a0 + 1)) g2 ∧ TdV g2 ∧ MS Z a0 g1 ∧ Rg v2 ∧ (∀ (Z'1 : Zt) (P'1 : Nat → Nat → Int) (r3 : Int), (TkC a0 g2 v2 Z Z'1 g1 P'1 r3) → (∃ g3 : Nat → Nat → Int, (MS Z'1 a0 g3 ∧ (0 ≤ (24 : Int) ∧ (24 : Int) < 27) ∧ (0 ≤ (0 : Int) ∧ (0 : Int) < 27) ∧ (∀ (Z'2 : Zt), (MS Z'2 a0 (updP g3 (24 : Int).toNat (g3 (0 : Int).toNat)) ∧ Oth Z'1 Z'2 (O4 a0)) → (∃ g4 : Nat → Nat → Int, (∃ g5 : Td, (MT (Z'2 (a0 + 1)) g5 ∧ TdV g5 ∧ MS Z'2 a0 g4 ∧ Rg v1 ∧ (∀ (Z'3 : Zt) (P'2 : Nat → Nat → Int) (r4 : Int), (TkC a0 g5 v1 Z'2 Z'3 g4 P'2 r4) → (V mX12_like k n 94 [some (r_ a0), none, none, some (i_ 0), some (i_ 1), none, none] [] x Z'3 Q))))))))))))) ∧ ((Z (a0 + 1) ((plcO (0 : Int) v1) + 1).toNat ≠ Z (a0 + 1) ((plcO (0 : Int) v2) + 1).toNat) → (V mX12_like k n 68 [none, none, none, none, none, none, none] [] x Z Q)))))))))))))))))))))) :
    V mX12_like k n 0 [some (r_ a0), some (i_ v1), some (i_ v2), none, none, none, none] [] x Z Q :=
  V_aload_n dX12_like_0 rfl (V_iconst dX12_like_1 (V_iload_n dX12_like_2 rfl (V_callV (k' := 0) (n' := 0) (t := 12) (q := (RX12, TX12, 46)) [i_ 0, i_ v1] [] okX12_isOf o_a0.1 rfl rfl lm_12_156 liX12_isOf lqX12_isOf (Nat.le_of_ble_eq_true rfl) (Nat.le_of_ble_eq_true rfl) (Nat.le_of_ble_eq_true rfl) (cat_of rfl) (Nat.le_of_ble_eq_true rfl) (Nat.zero_le _) (Nat.zero_le _) rfl dX12_like_3 (sp_X12_isOf o_a0 h.1 h.2.1 h.2.2.1 (fun r1 p1 => V_if_eq (tgt := 68) dX12_like_6 rfl (h.2.2.2 r1 p1).1 (fun c1 => V_msk [false, false, false, false, false, false, false] rfl ((h.2.2.2 r1 p1).2.1 c1)) (fun c1 => V_aload_n dX12_like_9 rfl (V_iconst dX12_like_10 (V_iload_n dX12_like_11 rfl (V_callV (k' := 0) (n' := 0) (t := 12) (q := (RX12, TX12, 46)) [i_ 0, i_ v2] [] okX12_isOf o_a0.1 rfl rfl lm_12_156 liX12_isOf lqX12_isOf (Nat.le_of_ble_eq_true rfl) (Nat.le_of_ble_eq_true rfl) (Nat.le_of_ble_eq_true rfl) (cat_of rfl) (Nat.le_of_ble_eq_true rfl) (Nat.zero_le _) (Nat.zero_le _) rfl dX12_like_12 (sp_X12_isOf o_a0 h.1 ((h.2.2.2 r1 p1).2.2 c1).1 h.2.2.1 (fun r2 p2 => V_if_eq (tgt := 68) dX12_like_15 rfl (((h.2.2.2 r1 p1).2.2 c1).2 r2 p2).1 (fun c2 => V_msk [false, false, false, false, false, false, false] rfl ((((h.2.2.2 r1 p1).2.2 c1).2 r2 p2).2.1 c2)) (fun c2 => V_aload_n dX12_like_18 rfl (G_12_0 o_a0.1 o_a0.qR0 lf_12_7 dX12_like_19 (V_iconst dX12_like_22 (V_iload_n dX12_like_23 rfl (V_callS (k' := 0) (n' := 0) [i_ 0, i_ v1] [r_ (a0 + 1)] okX12_placeOf lm_12_176 lsX12_placeOf (Nat.le_of_ble_eq_true rfl) (Nat.le_of_ble_eq_true rfl) (Nat.le_of_ble_eq_true rfl) (cat_of rfl) (Nat.le_of_ble_eq_true rfl) (Nat.zero_le _) (Nat.zero_le _) rfl dX12_like_24 (sp_X12_placeOf  ((((h.2.2.2 r1 p1).2.2 c1).2 r2 p2).2.2 c2).1 (V_iald (t := 100) o_a0.qK0 (by decide) rfl ((((h.2.2.2 r1 p1).2.2 c1).2 r2 p2).2.2 c2).2.1 ((((h.2.2.2 r1 p1).2.2 c1).2 r2 p2).2.2 c2).2.2.1 (Nat.le_of_ble_eq_true rfl) dX12_like_27 (V_aload_n dX12_like_28 rfl (G_12_0 o_a0.1 o_a0.qR0 lf_12_7 dX12_like_29 (V_iconst dX12_like_32 (V_iload_n dX12_like_33 rfl (V_callS (k' := 0) (n' := 0) [i_ 0, i_ v2] [r_ (a0 + 1), i_ (Z (a0 + 1) (plcO (0 : Int) v1).toNat)] okX12_placeOf lm_12_176 lsX12_placeOf (Nat.le_of_ble_eq_true rfl) (Nat.le_of_ble_eq_true rfl) (Nat.le_of_ble_eq_true rfl) (cat_of rfl) (Nat.le_of_ble_eq_true rfl) (Nat.zero_le _) (Nat.zero_le _) rfl dX12_like_34 (sp_X12_placeOf  ((((h.2.2.2 r1 p1).2.2 c1).2 r2 p2).2.2 c2).1 (V_iald (t := 100) o_a0.qK0 (by decide) rfl ((((h.2.2.2 r1 p1).2.2 c1).2 r2 p2).2.2 c2).2.2.2.1 ((((h.2.2.2 r1 p1).2.2 c1).2 r2 p2).2.2 c2).2.2.2.2.1 (Nat.le_of_ble_eq_true rfl) dX12_like_37 (V_icmp_ne (tgt := 68) dX12_like_38 rfl ((((h.2.2.2 r1 p1).2.2 c1).2 r2 p2).2.2 c2).2.2.2.2.2.1 ((((h.2.2.2 r1 p1).2.2 c1).2 r2 p2).2.2 c2).2.2.2.2.2.2.1 (fun c3 => V_msk [false, false, false, false, false, false, false] rfl (((((h.2.2.2 r1 p1).2.2 c1).2 r2 p2).2.2 c2).2.2.2.2.2.2.2.1 c3)) (fun c3 => V_aload_n dX12_like_41 rfl (G_12_0 o_a0.1 o_a0.qR0 lf_12_7 dX12_like_42 (V_iconst dX12_like_45 (V_iload_n dX12_like_46 rfl (V_callS (k' := 0) (n' := 0) [i_ 0, i_ v1] [r_ (a0 + 1)] okX12_placeOf lm_12_176 lsX12_placeOf (Nat.le_of_ble_eq_true rfl) (Nat.le_of_ble_eq_true rfl) (Nat.le_of_ble_eq_true rfl) (cat_of rfl) (Nat.le_of_ble_eq_true rfl) (Nat.zero_le _) (Nat.zero_le _) rfl dX12_like_47 (sp_X12_placeOf  ((((h.2.2.2 r1 p1).2.2 c1).2 r2 p2).2.2 c2).1 (V_iconst dX12_like_50 (V_iadd dX12_like_51 (V_iald (t := 100) o_a0.qK0 (by decide) rfl (((((h.2.2.2 r1 p1).2.2 c1).2 r2 p2).2.2 c2).2.2.2.2.2.2.2.2 c3).1 (((((h.2.2.2 r1 p1).2.2 c1).2 r2 p2).2.2 c2).2.2.2.2.2.2.2.2 c3).2.1 (Nat.le_of_ble_eq_true rfl) dX12_like_52 (V_aload_n dX12_like_53 rfl (G_12_0 o_a0.1 o_a0.qR0 lf_12_7 dX12_like_54 (V_iconst dX12_like_57 (V_iload_n dX12_like_58 rfl (V_callS (k' := 0) (n' := 0) [i_ 0, i_ v2] [r_ (a0 + 1), i_ (Z (a0 + 1) ((plcO (0 : Int) v1) + 1).toNat)] okX12_placeOf lm_12_176 lsX12_placeOf (Nat.le_of_ble_eq_true rfl) (Nat.le_of_ble_eq_true rfl) (Nat.le_of_ble_eq_true rfl) (cat_of rfl) (Nat.le_of_ble_eq_true rfl) (Nat.zero_le _) (Nat.zero_le _) rfl dX12_like_59 (sp_X12_placeOf  ((((h.2.2.2 r1 p1).2.2 c1).2 r2 p2).2.2 c2).1 (V_iconst dX12_like_62 (V_iadd dX12_like_63 (V_iald (t := 100) o_a0.qK0 (by decide) rfl (((((h.2.2.2 r1 p1).2.2 c1).2 r2 p2).2.2 c2).2.2.2.2.2.2.2.2 c3).2.2.1 (((((h.2.2.2 r1 p1).2.2 c1).2 r2 p2).2.2 c2).2.2.2.2.2.2.2.2 c3).2.2.2.1 (Nat.le_of_ble_eq_true rfl) dX12_like_64 (V_icmp_eq (tgt := 70) dX12_like_65 rfl (((((h.2.2.2 r1 p1).2.2 c1).2 r2 p2).2.2 c2).2.2.2.2.2.2.2.2 c3).2.2.2.2.1 (((((h.2.2.2 r1 p1).2.2 c1).2 r2 p2).2.2 c2).2.2.2.2.2.2.2.2 c3).2.2.2.2.2.1 (fun c4 => V_aload_n dX12_like_70 rfl (V_iload_n dX12_like_71 rfl (Exists.elim ((((((h.2.2.2 r1 p1).2.2 c1).2 r2 p2).2.2 c2).2.2.2.2.2.2.2.2 c3).2.2.2.2.2.2.1 c4) (fun g1 w1 => Exists.elim w1 (fun g2 w2 => V_callV (k' := 0) (n' := 0) (t := 12) (q := (RX12, TX12, 46)) [i_ v2] [] okX12_takesCurve o_a0.1 rfl rfl lm_12_249 liX12_takesCurve lqX12_takesCurve (Nat.le_of_ble_eq_true rfl) (Nat.le_of_ble_eq_true rfl) (Nat.le_of_ble_eq_true rfl) (cat_of rfl) (Nat.le_of_ble_eq_true rfl) (Nat.zero_le _) (Nat.zero_le _) rfl dX12_like_72 (w_X12_takesCurve o_a0 w2.1 w2.2.1 w2.2.2.1 w2.2.2.2.1 (fun Z'1 P'1 r3 p3 => V_istore_n (lv' := [some (r_ a0), some (i_ v1), some (i_ v2), some (i_ r3), none, none, none]) dX12_like_75 (Nat.le_of_ble_eq_true rfl) rfl (V_aload_n dX12_like_76 rfl (V_iconst dX12_like_77 (V_bipush dX12_like_78 rfl (Exists.elim (w2.2.2.2.2 Z'1 P'1 r3 p3) (fun g3 w3 => V_callV (k' := 0) (n' := 0) (t := 12) (q := (RX12, TX12, 46)) [i_ 0, i_ 24] [] okX12_copy o_a0.1 rfl rfl lm_12_199 liX12_copy lqX12_copy (Nat.le_of_ble_eq_true rfl) (Nat.le_of_ble_eq_true rfl) (Nat.le_of_ble_eq_true rfl) (cat_of rfl) (Nat.le_of_ble_eq_true rfl) (Nat.zero_le _) (Nat.zero_le _) rfl dX12_like_80 (sp_X12_copy o_a0 w3.1 w3.2.1 w3.2.2.1 (fun Z'2 p4 => V_aload_n dX12_like_83 rfl (V_iload_n dX12_like_84 rfl (Exists.elim (w3.2.2.2 Z'2 p4) (fun g4 w4 => Exists.elim w4 (fun g5 w5 => V_callV (k' := 0) (n' := 0) (t := 12) (q := (RX12, TX12, 46)) [i_ v1] [] okX12_takesCurve o_a0.1 rfl rfl lm_12_249 liX12_takesCurve lqX12_takesCurve (Nat.le_of_ble_eq_true rfl) (Nat.le_of_ble_eq_true rfl) (Nat.le_of_ble_eq_true rfl) (cat_of rfl) (Nat.le_of_ble_eq_true rfl) (Nat.zero_le _) (Nat.zero_le _) rfl dX12_like_85 (w_X12_takesCurve o_a0 w5.1 w5.2.1 w5.2.2.1 w5.2.2.2.1 (fun Z'3 P'2 r4 p5 => V_istore_n (lv' := [some (r_ a0), some (i_ v1), some (i_ v2), some (i_ r4), none, none, none]) dX12_like_88 (Nat.le_of_ble_eq_true rfl) rfl (V_iconst dX12_like_89 (V_istore_n (lv' := [some (r_ a0), some (i_ v1), some (i_ v2), some (i_ 0), none, none, none]) dX12_like_90 (Nat.le_of_ble_eq_true rfl) rfl (V_iconst dX12_like_91 (V_istore (lv' := [some (r_ a0), some (i_ v1), some (i_ v2), some (i_ 0), some (i_ 1), none, none]) dX12_like_92 (Nat.le_of_ble_eq_true rfl) rfl (V_msk [true, false, false, true, true, false, false] rfl (w5.2.2.2.2 Z'3 P'2 r4 p5)))))))))))))))))))))))))) (fun c4 => V_msk [false, false, false, false, false, false, false] rfl ((((((h.2.2.2 r1 p1).2.2 c1).2 r2 p2).2.2 c2).2.2.2.2.2.2.2.2 c3).2.2.2.2.2.2.2 c4)))))))))))))))))))))))))))))))))))))))))))))))
set_option maxRecDepth 20000 in
theorem b_X12_like_68 {k n : Nat} {x : Wx} {Z : Zt} {Q : Option Value → Wx → Zt → Prop}  
    (h : Q (some (i_ 0)) x Z) :
    V mX12_like k n 68 [none, none, none, none, none, none, none] [] x Z Q :=
  V_iconst dX12_like_68 (V_iret (ty := .boolean) dX12_like_69 rfl rfl h)
set_option maxRecDepth 20000 in
theorem b_X12_like_94 {k n : Nat} {x : Wx} {Z : Zt} {Q : Option Value → Wx → Zt → Prop} {a0 : Nat} {v3 : Int} {v4 : Int} (o_a0 : Is12 x a0)
    (h : Rg v4 ∧ Rg (Z a0 11) ∧ (((Z a0 11 ≤ v4) → ((v3 = 0 ∨ v3 = 1) ∧ (Q (some (i_ v3)) x Z))) ∧ ((v4 < Z a0 11) → (V mX12_like k n 106 [some (r_ a0), none, none, some (i_ v3), some (i_ v4), some (i_ 0), none] [] x Z Q)))) :
    V mX12_like k n 94 [some (r_ a0), none, none, some (i_ v3), some (i_ v4), none, none] [] x Z Q :=
  V_iload dX12_like_94 rfl (V_aload_n dX12_like_96 rfl (G_12_11 o_a0.1 lf_12_179 dX12_like_97 (V_icmp_ge (tgt := 186) dX12_like_100 rfl h.1 h.2.1 (fun c1 => V_iload_n dX12_like_186 rfl (V_iret (ty := .boolean) dX12_like_187 rfl (nar_z (h.2.2.1 c1).1) (h.2.2.1 c1).2)) (fun c1 => V_iconst dX12_like_103 (V_istore (lv' := [some (r_ a0), none, none, some (i_ v3), some (i_ v4), some (i_ 0), none]) dX12_like_104 (Nat.le_of_ble_eq_true rfl) rfl (V_msk [true, false, false, true, true, true, false] rfl (h.2.2.2 c1)))))))
set_option maxRecDepth 20000 in
theorem b_X12_like_106 {k n : Nat} {x : Wx} {Z : Zt} {Q : Option Value → Wx → Zt → Prop} {a0 : Nat} {v3 : Int} {v4 : Int} {v5 : Int} (o_a0 : Is12 x a0)
    (h : Rg v5 ∧ Rg (Z a0 11) ∧ (((Z a0 11 ≤ v5) → (V mX12_like k n 94 [some (r_ a0), none, none, some (i_ v3), some (i_ (v4 + 1)), none, none] [] x Z Q)) ∧ ((v5 < Z a0 11) → (∃ g1 : Nat → Nat → Int, (∃ g2 : Int, ((IsP g2 ∧ Z a0 11 = g2) ∧ MS Z a0 g1 ∧ ((((0 : Int) ≤ (24 : Int) ∧ (24 : Int) < 27) ∧ (24 : Int) ≠ 21) ∧ (((0 : Int) ≤ (22 : Int) ∧ (22 : Int) < 27) ∧ (22 : Int) ≠ 21) ∧ (24 : Int) ≠ (22 : Int)) ∧ ((0 ≤ v4 ∧ v4 < g2) ∧ (0 ≤ v5 ∧ v5 < g2)) ∧ (InP g2 (g1 (24 : Int).toNat) ∧ Fin (g1 (24 : Int).toNat)) ∧ (∀ (Z'1 : Zt) (P'1 : Nat → Nat → Int), (MS Z'1 a0 P'1 ∧ Oth Z Z'1 (O4 a0) ∧ P'1 (22 : Int).toNat = mvd g2 v4 v5 (g1 (24 : Int).toNat) ∧ (∀ q : Nat, q ≠ 21 → q ≠ (22 : Int).toNat → P'1 q = g1 q)) → (V mX12_like k n 130 [some (r_ a0), none, none, some (i_ v3), some (i_ v4), some (i_ v5), some (i_ 1)] [] x Z'1 Q)))))))) :
    V mX12_like k n 106 [some (r_ a0), none, none, some (i_ v3), some (i_ v4), some (i_ v5), none] [] x Z Q :=
  V_iload dX12_like_106 rfl (V_aload_n dX12_like_108 rfl (G_12_11 o_a0.1 lf_12_179 dX12_like_109 (V_icmp_ge (tgt := 180) dX12_like_112 rfl h.1 h.2.1 (fun c1 => V_iinc (lv' := [some (r_ a0), none, none, some (i_ v3), some (i_ (v4 + 1)), some (i_ v5), none]) dX12_like_180 rfl (Nat.le_of_ble_eq_true rfl) rfl (V_goto (tgt := 94) dX12_like_183 rfl (V_msk [true, false, false, true, true, false, false] rfl (h.2.2.1 c1)))) (fun c1 => V_aload_n dX12_like_115 rfl (V_bipush dX12_like_116 rfl (V_iload dX12_like_118 rfl (V_iload dX12_like_120 rfl (V_bipush dX12_like_122 rfl (Exists.elim (h.2.2.2 c1) (fun g1 w1 => Exists.elim w1 (fun g2 w2 => V_callV (k' := 0) (n' := 0) (t := 12) (q := (RX12, TX12, 46)) [i_ 24, i_ v4, i_ v5, i_ 22] [] okX12_moves o_a0.1 rfl rfl lm_12_417 liX12_moves lqX12_moves (Nat.le_of_ble_eq_true rfl) (Nat.le_of_ble_eq_true rfl) (Nat.le_of_ble_eq_true rfl) (cat_of rfl) (Nat.le_of_ble_eq_true rfl) (Nat.zero_le _) (Nat.zero_le _) rfl dX12_like_124 (sp_X12_moves o_a0 w2.1 w2.2.1 w2.2.2.1 w2.2.2.2.1 w2.2.2.2.2.1 (fun Z'1 P'1 p1 => V_iconst dX12_like_127 (V_istore (lv' := [some (r_ a0), none, none, some (i_ v3), some (i_ v4), some (i_ v5), some (i_ 1)]) dX12_like_128 (Nat.le_of_ble_eq_true rfl) rfl (V_msk [true, false, false, true, true, true, true] rfl (w2.2.2.2.2.2 Z'1 P'1 p1))))))))))))))))
set_option maxRecDepth 20000 in
theorem b_X12_like_130 {k n : Nat} {x : Wx} {Z : Zt} {Q : Option Value → Wx → Zt → Prop} {a0 : Nat} {v3 : Int} {v4 : Int} {v5 : Int} {v6 : Int} (o_a0 : Is12 x a0)
    (h : Rg v6 ∧ Rg (Z a0 11) ∧ (((Z a0 11 ≤ v6) → (V mX12_like k n 106 [some (r_ a0), none, none, some (i_ v3), some (i_ v4), some (i_ (v5 + 1)), none] [] x Z Q)) ∧ ((v6 < Z a0 11) → (Rg v3 ∧ (((v3 ≠ 0) → (V mX12_like k n 162 [some (r_ a0), none, none, none, some (i_ v4), some (i_ v5), some (i_ v6)] [] x Z Q)) ∧ ((v3 = 0) → (Rg (v6 * v6) ∧ 0 < Z a0 11 ∧ Z a0 11 ≤ 13 ∧ (∃ g1 : Nat → Nat → Int, (∃ g2 : Int, ((IsP g2 ∧ Z a0 11 = g2) ∧ MS Z a0 g1 ∧ (((0 : Int) ≤ (22 : Int) ∧ (22 : Int) < 27) ∧ ((0 : Int) ≤ (0 : Int) ∧ (0 : Int) < 27)) ∧ (0 ≤ ((v6 * v6) % Z a0 11) ∧ ((v6 * v6) % Z a0 11) < g2) ∧ (InP g2 (g1 (22 : Int).toNat) ∧ InP g2 (g1 (0 : Int).toNat)) ∧ (Rg (bI (isMv g2 ((v6 * v6) % Z a0 11) (g1 (0 : Int).toNat) (g1 (22 : Int).toNat) 6 0)) ∧ (((bI (isMv g2 ((v6 * v6) % Z a0 11) (g1 (0 : Int).toNat) (g1 (22 : Int).toNat) 6 0) = 0) → (V mX12_like k n 167 [some (r_ a0), none, none, none, some (i_ v4), some (i_ v5), some (i_ v6)] [i_ 0] x Z Q)) ∧ ((bI (isMv g2 ((v6 * v6) % Z a0 11) (g1 (0 : Int).toNat) (g1 (22 : Int).toNat) 6 0) ≠ 0) → (V mX12_like k n 162 [some (r_ a0), none, none, none, some (i_ v4), some (i_ v5), some (i_ v6)] [] x Z Q)))))))))))))) :
    V mX12_like k n 130 [some (r_ a0), none, none, some (i_ v3), some (i_ v4), some (i_ v5), some (i_ v6)] [] x Z Q :=
  V_iload dX12_like_130 rfl (V_aload_n dX12_like_132 rfl (G_12_11 o_a0.1 lf_12_179 dX12_like_133 (V_icmp_ge (tgt := 174) dX12_like_136 rfl h.1 h.2.1 (fun c1 => V_iinc (lv' := [some (r_ a0), none, none, some (i_ v3), some (i_ v4), some (i_ (v5 + 1)), some (i_ v6)]) dX12_like_174 rfl (Nat.le_of_ble_eq_true rfl) rfl (V_goto (tgt := 106) dX12_like_177 rfl (V_msk [true, false, false, true, true, true, false] rfl (h.2.2.1 c1)))) (fun c1 => V_iload_n dX12_like_139 rfl (V_if_ne (tgt := 162) dX12_like_140 rfl (h.2.2.2 c1).1 (fun c2 => V_msk [true, false, false, false, true, true, true] rfl ((h.2.2.2 c1).2.1 c2)) (fun c2 => V_aload_n dX12_like_143 rfl (V_bipush dX12_like_144 rfl (V_iconst dX12_like_146 (V_aload_n dX12_like_147 rfl (V_iload dX12_like_148 rfl (V_iload dX12_like_150 rfl (V_imul dX12_like_152 (V_callV (k' := 0) (n' := 0) (t := 12) (q := (RX12, TX12, 46)) [i_ (v6 * v6)] [i_ 0, i_ 22, r_ a0] okX12_mod o_a0.1 rfl rfl lm_12_182 liX12_mod lqX12_mod (Nat.le_of_ble_eq_true rfl) (Nat.le_of_ble_eq_true rfl) (Nat.le_of_ble_eq_true rfl) (cat_of rfl) (Nat.le_of_ble_eq_true rfl) (Nat.zero_le _) (Nat.zero_le _) rfl dX12_like_153 (sp_X12_mod o_a0 ((h.2.2.2 c1).2.2 c2).1 ((h.2.2.2 c1).2.2 c2).2.1 ((h.2.2.2 c1).2.2 c2).2.2.1 (Exists.elim ((h.2.2.2 c1).2.2 c2).2.2.2 (fun g1 w1 => Exists.elim w1 (fun g2 w2 => V_callV (k' := 0) (n' := 0) (t := 12) (q := (RX12, TX12, 46)) [i_ 22, i_ 0, i_ ((v6 * v6) % Z a0 11)] [] okX12_isTimes o_a0.1 rfl rfl lm_12_420 liX12_isTimes lqX12_isTimes (Nat.le_of_ble_eq_true rfl) (Nat.le_of_ble_eq_true rfl) (Nat.le_of_ble_eq_true rfl) (cat_of rfl) (Nat.le_of_ble_eq_true rfl) (Nat.zero_le _) (Nat.zero_le _) rfl dX12_like_156 (sp_X12_isTimes o_a0 w2.1 w2.2.1 w2.2.2.1 w2.2.2.2.1 w2.2.2.2.2.1 (V_if_eq (tgt := 166) dX12_like_159 rfl w2.2.2.2.2.2.1 (fun c3 => V_iconst dX12_like_166 (V_msk [true, false, false, false, true, true, true] rfl (w2.2.2.2.2.2.2.1 c3))) (fun c3 => V_msk [true, false, false, false, true, true, true] rfl (w2.2.2.2.2.2.2.2 c3)))))))))))))))))))))
set_option maxRecDepth 20000 in
theorem b_X12_like_162 {k n : Nat} {x : Wx} {Z : Zt} {Q : Option Value → Wx → Zt → Prop} {a0 : Nat} {v4 : Int} {v5 : Int} {v6 : Int} 
    (h : V mX12_like k n 167 [some (r_ a0), none, none, none, some (i_ v4), some (i_ v5), some (i_ v6)] [i_ 1] x Z Q) :
    V mX12_like k n 162 [some (r_ a0), none, none, none, some (i_ v4), some (i_ v5), some (i_ v6)] [] x Z Q :=
  V_iconst dX12_like_162 (V_goto (tgt := 167) dX12_like_163 rfl (V_msk [true, false, false, false, true, true, true] rfl h))
set_option maxRecDepth 20000 in
theorem b_X12_like_167 {k n : Nat} {x : Wx} {Z : Zt} {Q : Option Value → Wx → Zt → Prop} {a0 : Nat} {v4 : Int} {v5 : Int} {v6 : Int} {t0 : Int} 
    (h : V mX12_like k n 130 [some (r_ a0), none, none, some (i_ t0), some (i_ v4), some (i_ v5), some (i_ (v6 + 1))] [] x Z Q) :
    V mX12_like k n 167 [some (r_ a0), none, none, none, some (i_ v4), some (i_ v5), some (i_ v6)] [i_ t0] x Z Q :=
  V_istore_n (lv' := [some (r_ a0), none, none, some (i_ t0), some (i_ v4), some (i_ v5), some (i_ v6)]) dX12_like_167 (Nat.le_of_ble_eq_true rfl) rfl (V_iinc (lv' := [some (r_ a0), none, none, some (i_ t0), some (i_ v4), some (i_ v5), some (i_ (v6 + 1))]) dX12_like_168 rfl (Nat.le_of_ble_eq_true rfl) rfl (V_goto (tgt := 130) dX12_like_171 rfl (V_msk [true, false, false, true, true, true, true] rfl h)))
theorem mvd_in {p : Int} (hp : 0 < p) (A B : Int) (F : Nat → Int) : InP p (mvd p A B F) := fun j => mvd_rg hp A B F j
theorem sp_X12_change {k n : Nat} {x : Wx} {Z : Zt} {Q : Option Value → Wx → Zt → Prop} {b : Nat} {v i w : Int} {S : Ab} (hI : MI x Z b S) (hV : AbV S) (hv : Rg v) (hi : Rg i) (hw : Rg w) (h : RAm b x Z Q (aChange S.nw v i w)) : V mX12_change k n 0 [some (r_ b), some (i_ v), some (i_ i), some (i_ w), none, none, none, none] [] x Z Q := by
  unfold aChange at h
  obtain ⟨o, hT, _⟩ := id hI
  have no : ∀ Z' : Zt, Mq b Z Z' → ¬ ((0 ≤ v ∧ v < S.nw.ct 0) ∧ -1 ≤ i ∧ (0 ≤ w ∧ w ≤ 2) ∧ (i = -1 → w = 0)) → V mX12_change k n 33 [none, none, none, none, none, none, none, none] [] x Z' Q := fun Z' h1 h2 => b_X12_change_33 (by rw [if_neg h2] at h; exact h Z' h1)
  refine b_X12_change_0 o ⟨_, S.nw, hT, hV.1, MS.any, hv, fun Z1 P1 r1 ht => ⟨ht.rg.1, fun c => no Z1 (ht.no c).2 (fun e => (ht.no c).1 e.1), fun c => ?_⟩⟩
  obtain ⟨hc, ⟨hMC, hCF, _⟩, hq1⟩ := ht.yes hV.1 c
  obtain ⟨_, _, _, m1, p10, _⟩ : r1 = 1 ∧ _ := by
    rcases ht with e | e
    · exact e
    · exact absurd e.1 c
  obtain ⟨d, hd⟩ : ∃ d : Nat, v = (d : Int) := ⟨v.toNat, by omega⟩
  rw [hd, Int.toNat_natCast] at p10 hMC hCF
  obtain ⟨p, hp'⟩ : ∃ p : Int, S.nw.p d = p := ⟨_, rfl⟩
  obtain ⟨F, hF'⟩ : ∃ F : Nat → Int, S.nw.F d = F := ⟨_, rfl⟩
  rw [hp', hF'] at hMC hCF
  rw [hF'] at p10
  have hp := hCF.1
  have iF := hCF.2.1
  have fF := hCF.2.2.1
  have hpr := hp.rg
  have b11 : Z1 b 11 = p := hMC.1.1
  have go : -1 ≤ i ∧ (0 ≤ w ∧ w ≤ 2) ∧ (i = -1 → w = 0) → V mX12_change k n 35 [some (r_ b), none, some (i_ i), some (i_ w), none, none, none, none] [] x Z1 Q := by
    intro hr
    rw [if_pos ⟨hc, hr⟩, hd, Int.toNat_natCast, hp', hF'] at h
    generalize hR : sch p i F F = R at h
    have lpC : ∀ (m : Nat) (A B e f : Int) (Z2 : Zt) (P2 : Nat → Nat → Int), 1 ≤ e → e + m = p → (0 ≤ f ∧ f ≤ 3000 - m) → (0 ≤ i → f ≤ i) → MS Z2 b P2 → Mq b Z Z2 → Z2 b 11 = p → P2 0 = F → P2 22 = mvd p A B F → ((scC p i F (mvd p A B F) A B m e f).2.isNone = true → V mX12_change k n 53 [some (r_ b), none, some (i_ i), some (i_ w), some (i_ (scC p i F (mvd p A B F) A B m e f).1), some (i_ A), some (i_ (B + 1)), none] [] x Z2 Q) → ((scC p i F (mvd p A B F) A B m e f).2.isNone = false → scC p i F (mvd p A B F) A B m e f = R) → V mX12_change k n 76 [some (r_ b), none, some (i_ i), some (i_ w), some (i_ f), some (i_ A), some (i_ B), some (i_ e)] [] x Z2 Q := by
      intro m
      induction m with
      | zero =>
        intro A B e f Z2 P2 he hm hf hfi m2 hq eP e0 e22 hn hs
        refine b_X12_change_76 o ?_
        rw [eP]
        exact ⟨⟨by omega, by omega⟩, ⟨by omega, by omega⟩, fun _ => hn rfl, fun c2 => by omega⟩
      | succ m ih =>
        intro A B e f Z2 P2 he hm hf hfi m2 hq eP e0 e22 hn hs
        have q := mul13 (a := e) (b := e) ⟨by omega, by omega⟩ ⟨by omega, by omega⟩
        unfold scC at hn hs
        refine b_X12_change_76 o ?_
        rw [eP]
        refine ⟨⟨by omega, by omega⟩, ⟨by omega, by omega⟩, fun c2 => by omega, fun _ => ⟨⟨by omega, by omega⟩, by omega, by omega, P2, p, ⟨hp, rfl⟩, m2, by decide, emr _ (by omega), ?_, ?_⟩⟩
        · show InP p (P2 22) ∧ InP p (P2 0)
          rw [e22, e0]; exact ⟨mvd_in (by omega) _ _ _, iF⟩
        have t22 : (22 : Int).toNat = 22 := rfl
        have t0 : (0 : Int).toNat = 0 := rfl
        rw [t22, t0, e22, e0]
        refine ⟨bI_rg _, fun c3 => ⟨⟨by omega, by omega⟩, hi, fun c4 => b_X12_change_138 ?_, fun c4 => ?_⟩, fun c3 => b_X12_change_138 ?_⟩
        · rw [if_pos (bI_1 c3), if_pos (by omega)] at hn hs
          exact ih A B (e + 1) (f + 1) Z2 P2 (by omega) (by omega) (by omega) (by omega) m2 hq eP e0 e22 hn hs
        · rw [if_pos (bI_1 c3), if_neg (by omega)] at hs
          have hs' := hs rfl
          rw [← hs'] at h
          unfold chV at h
          rw [if_neg (by omega)] at h
          have h : RAm b x Z Q (if w = 0 then A else if w = 1 then B else e) := h
          refine ⟨hw, fun cw => ⟨fun cw1 => ?_, fun cw1 => ?_⟩, fun cw => ?_⟩
          · rw [if_neg cw, if_neg cw1] at h; exact h Z2 hq
          · rw [if_neg cw, if_pos cw1] at h; exact h Z2 hq
          · rw [if_pos cw] at h; exact h Z2 hq
        · rw [if_neg (by rw [bI_0 c3]; decide)] at hn hs
          exact ih A B (e + 1) f Z2 P2 (by omega) (by omega) (by omega) hfi m2 hq eP e0 e22 hn hs
    have lpB : ∀ (m : Nat) (A B f : Int) (Z2 : Zt) (P2 : Nat → Nat → Int), (1 ≤ A ∧ A < p) → 0 ≤ B → B + m = p → (0 ≤ f ∧ f ≤ 2900 - 12 * m) → (0 ≤ i → f ≤ i) → MS Z2 b P2 → Mq b Z Z2 → Z2 b 11 = p → P2 0 = F → ((scB p i F F A m B f).2.isNone = true → ∀ (Z3 : Zt) (P3 : Nat → Nat → Int), MS Z3 b P3 → Mq b Z Z3 → Z3 b 11 = p → P3 0 = F → V mX12_change k n 41 [some (r_ b), none, some (i_ i), some (i_ w), some (i_ (scB p i F F A m B f).1), some (i_ (A + 1)), none, none] [] x Z3 Q) → ((scB p i F F A m B f).2.isNone = false → scB p i F F A m B f = R) → V mX12_change k n 53 [some (r_ b), none, some (i_ i), some (i_ w), some (i_ f), some (i_ A), some (i_ B), none] [] x Z2 Q := by
      intro m
      induction m with
      | zero =>
        intro A B f Z2 P2 hA hB hm hf hfi m2 hq eP e0 hn hs
        refine b_X12_change_53 o ?_
        rw [eP]
        exact ⟨⟨by omega, by omega⟩, ⟨by omega, by omega⟩, fun _ => hn rfl Z2 P2 m2 hq eP e0, fun c2 => by omega⟩
      | succ m ih =>
        intro A B f Z2 P2 hA hB hm hf hfi m2 hq eP e0 hn hs
        have hr2 := scC_rg (p := p) (k := i) (F := F) (M := mvd p A B F) (A := A) (B := B) (p.toNat - 1) 1 f
        have hr3 := fun (hk : 0 ≤ i) => scC_n (p := p) (F := F) (M := mvd p A B F) (A := A) (B := B) hk (p.toNat - 1) 1 f (hfi hk)
        unfold scB at hn hs
        refine b_X12_change_53 o ?_
        rw [eP]
        refine ⟨⟨by omega, by omega⟩, ⟨by omega, by omega⟩, fun c2 => by omega, fun _ => ⟨P2, p, ⟨hp, rfl⟩, m2, by decide, by omega, ?_, fun Z3 P3 hz3 => ?_⟩⟩
        · show InP p (P2 0) ∧ Fin (P2 0)
          rw [e0]; exact ⟨iF, fF⟩
        obtain ⟨m3, o3, e3, k3⟩ := hz3
        have e3 : P3 22 = mvd p A B (P2 0) := e3
        rw [e0] at e3
        have q3 : Mq b Z Z3 := hq.tr (Mq.o4 o3)
        have eP3 : Z3 b 11 = p := by rw [o3 b (by show ¬ (b = b + 4); omega)]; exact eP
        have e03 : P3 0 = F := by rw [k3 0 (by decide) (by decide)]; exact e0
        refine lpC (p.toNat - 1) A B 1 f Z3 P3 (by omega) (by omega) (by omega) hfi m3 q3 eP3 e03 e3 (fun hN => ?_) (fun hN => ?_)
        · rw [if_pos hN] at hn hs
          exact ih A (B + 1) _ Z3 P3 hA (by omega) (by omega) (by omega) (fun hk => hr3 hk (Option.isNone_iff_eq_none.mp hN)) m3 q3 eP3 e03 hn hs
        · rw [if_neg (by rw [hN]; decide)] at hs
          exact hs hN
    have lpA : ∀ (m : Nat) (A f : Int) (Z2 : Zt) (P2 : Nat → Nat → Int), 1 ≤ A → A + m = p → (0 ≤ f ∧ f ≤ 2700 - 156 * m) → (0 ≤ i → f ≤ i) → MS Z2 b P2 → Mq b Z Z2 → Z2 b 11 = p → P2 0 = F → scA p i F F m A f = R → V mX12_change k n 41 [some (r_ b), none, some (i_ i), some (i_ w), some (i_ f), some (i_ A), none, none] [] x Z2 Q := by
      intro m
      induction m with
      | zero =>
        intro A f Z2 P2 hA hm hf hfi m2 hq eP e0 hs
        have hs : (f, none) = R := hs
        rw [← hs] at h
        unfold chV at h
        refine b_X12_change_41 o ?_
        rw [eP]
        refine ⟨⟨by omega, by omega⟩, ⟨by omega, by omega⟩, fun _ => ⟨hi, fun c2 => ?_, fun c2 => ?_⟩, fun c2 => by omega⟩
        · rw [if_neg c2] at h; exact h Z2 hq
        · rw [if_pos c2] at h; exact h Z2 hq
      | succ m ih =>
        intro A f Z2 P2 hA hm hf hfi m2 hq eP e0 hs
        have hr2 := scB_rg (k := i) hp (F := F) (G := F) (A := A) p.toNat 0 f
        have hr3 := fun (hk : 0 ≤ i) => scB_n (p := p) (F := F) (G := F) (A := A) hk p.toNat 0 f (hfi hk)
        unfold scA at hs
        refine b_X12_change_41 o ?_
        rw [eP]
        refine ⟨⟨by omega, by omega⟩, ⟨by omega, by omega⟩, fun c2 => by omega, fun _ => ?_⟩
        refine lpB p.toNat A 0 f Z2 P2 (by omega) (by omega) (by omega) (by omega) hfi m2 hq eP e0 (fun hN Z3 P3 g1 g2 g3 g4 => ?_) (fun hN => ?_)
        · rw [if_pos hN] at hs
          exact ih (A + 1) _ Z3 P3 (by omega) (by omega) (by omega) (fun hk => hr3 hk (Option.isNone_iff_eq_none.mp hN)) g1 g2 g3 g4 hs
        · rw [if_neg (by rw [hN]; decide)] at hs
          exact hs
    exact b_X12_change_35 (lpA (p.toNat - 1) 1 0 Z1 P1 (by omega) (by omega) (by omega) (fun hk => hk) m1 hq1 b11 p10 hR)
  exact ⟨hi, fun c2 => ⟨fun c3 => no Z1 hq1 (by omega), fun c3 => ⟨⟨hw, rg_z, ⟨by decide, by decide⟩⟩, fun r2 h2 => ⟨⟨by omega, by omega⟩, fun c4 => go (by omega), fun c4 => no Z1 hq1 (by omega)⟩⟩⟩, fun c2 => ⟨hw, fun c3 => go (by omega), fun c3 => no Z1 hq1 (by omega)⟩⟩
