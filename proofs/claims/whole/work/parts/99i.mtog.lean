theorem dX12_stores_0 : decode cX12_stores 0 = .ok (.aload_n 0, 1) := by decide +kernel
theorem dX12_stores_1 : decode cX12_stores 1 = .ok (.iload_n 3, 1) := by decide +kernel
theorem dX12_stores_2 : decode cX12_stores 2 = .ok (.invokevirtual 360, 3) := by decide +kernel
theorem dX12_stores_5 : decode cX12_stores 5 = .ok (.aload_n 0, 1) := by decide +kernel
theorem dX12_stores_6 : decode cX12_stores 6 = .ok (.getfield 69, 3) := by decide +kernel
theorem dX12_stores_9 : decode cX12_stores 9 = .ok (.iload_n 3, 1) := by decide +kernel
theorem dX12_stores_10 : decode cX12_stores 10 = .ok (.aload_n 0, 1) := by decide +kernel
theorem dX12_stores_11 : decode cX12_stores 11 = .ok (.iload_n 1, 1) := by decide +kernel
theorem dX12_stores_12 : decode cX12_stores 12 = .ok (.invokevirtual 192, 3) := by decide +kernel
theorem dX12_stores_15 : decode cX12_stores 15 = .ok (.iastore, 1) := by decide +kernel
theorem dX12_stores_16 : decode cX12_stores 16 = .ok (.iconst 0, 1) := by decide +kernel
theorem dX12_stores_17 : decode cX12_stores 17 = .ok (.istore 4, 2) := by decide +kernel
theorem dX12_stores_19 : decode cX12_stores 19 = .ok (.iload 4, 2) := by decide +kernel
theorem dX12_stores_21 : decode cX12_stores 21 = .ok (.aload_n 0, 1) := by decide +kernel
theorem dX12_stores_22 : decode cX12_stores 22 = .ok (.getfield 69, 3) := by decide +kernel
theorem dX12_stores_25 : decode cX12_stores 25 = .ok (.iload_n 3, 1) := by decide +kernel
theorem dX12_stores_26 : decode cX12_stores 26 = .ok (.iaload, 1) := by decide +kernel
theorem dX12_stores_27 : decode cX12_stores 27 = .ok (.if_icmp .ge 45, 3) := by decide +kernel
theorem dX12_stores_30 : decode cX12_stores 30 = .ok (.aload_n 0, 1) := by decide +kernel
theorem dX12_stores_31 : decode cX12_stores 31 = .ok (.getfield 69, 3) := by decide +kernel
theorem dX12_stores_34 : decode cX12_stores 34 = .ok (.iload_n 3, 1) := by decide +kernel
theorem dX12_stores_35 : decode cX12_stores 35 = .ok (.iconst 1, 1) := by decide +kernel
theorem dX12_stores_36 : decode cX12_stores 36 = .ok (.iadd, 1) := by decide +kernel
theorem dX12_stores_37 : decode cX12_stores 37 = .ok (.iload 4, 2) := by decide +kernel
theorem dX12_stores_39 : decode cX12_stores 39 = .ok (.iadd, 1) := by decide +kernel
theorem dX12_stores_40 : decode cX12_stores 40 = .ok (.aload_n 0, 1) := by decide +kernel
theorem dX12_stores_41 : decode cX12_stores 41 = .ok (.iload_n 1, 1) := by decide +kernel
theorem dX12_stores_42 : decode cX12_stores 42 = .ok (.iload 4, 2) := by decide +kernel
theorem dX12_stores_44 : decode cX12_stores 44 = .ok (.invokevirtual 185, 3) := by decide +kernel
theorem dX12_stores_47 : decode cX12_stores 47 = .ok (.iastore, 1) := by decide +kernel
theorem dX12_stores_48 : decode cX12_stores 48 = .ok (.aload_n 0, 1) := by decide +kernel
theorem dX12_stores_49 : decode cX12_stores 49 = .ok (.getfield 69, 3) := by decide +kernel
theorem dX12_stores_52 : decode cX12_stores 52 = .ok (.iload_n 3, 1) := by decide +kernel
theorem dX12_stores_53 : decode cX12_stores 53 = .ok (.iconst 3, 1) := by decide +kernel
theorem dX12_stores_54 : decode cX12_stores 54 = .ok (.iadd, 1) := by decide +kernel
theorem dX12_stores_55 : decode cX12_stores 55 = .ok (.iload 4, 2) := by decide +kernel
theorem dX12_stores_57 : decode cX12_stores 57 = .ok (.iadd, 1) := by decide +kernel
theorem dX12_stores_58 : decode cX12_stores 58 = .ok (.aload_n 0, 1) := by decide +kernel
theorem dX12_stores_59 : decode cX12_stores 59 = .ok (.iload_n 2, 1) := by decide +kernel
theorem dX12_stores_60 : decode cX12_stores 60 = .ok (.iload 4, 2) := by decide +kernel
theorem dX12_stores_62 : decode cX12_stores 62 = .ok (.invokevirtual 185, 3) := by decide +kernel
theorem dX12_stores_65 : decode cX12_stores 65 = .ok (.iastore, 1) := by decide +kernel
theorem dX12_stores_66 : decode cX12_stores 66 = .ok (.iinc 4 1, 3) := by decide +kernel
theorem dX12_stores_69 : decode cX12_stores 69 = .ok (.goto (-50), 3) := by decide +kernel
theorem dX12_stores_72 : decode cX12_stores 72 = .ok (.return_, 1) := by decide +kernel
set_option maxRecDepth 20000 in
theorem b_X12_stores_0 {k n : Nat} {x : Wx} {Z : Zt} {Q : Option Value → Wx → Zt → Prop} {a0 : Nat} {v1 : Int} {v2 : Int} {v3 : Int} (o_a0 : Is12 x a0)
    (h : (0 ≤ v3 ∧ v3 ≤ 2995) ∧ (∀ (Z'1 : Zt), ((∀ i : Nat, i < 5 → Z'1 (a0 + 20) (v3.toNat + i) = 0) ∧ KF a0 v3.toNat Z Z'1) → (∃ g1 : Nat → Nat → Int, (MS Z'1 a0 g1 ∧ (0 ≤ v1 ∧ v1 < 27) ∧ (∀ i : Nat, i < 24 → Rg (g1 v1.toNat i)) ∧ (0 ≤ v3 ∧ v3 < 3000 ∧ (∀ Z1 : Zt, Z1 = up Z'1 (a0 + 20) v3.toNat (pd (g1 v1.toNat)) → (V mX12_stores k n 19 [some (r_ a0), some (i_ v1), some (i_ v2), some (i_ v3), some (i_ 0)] [] x Z1 Q))))))) :
    V mX12_stores k n 0 [some (r_ a0), some (i_ v1), some (i_ v2), some (i_ v3), none] [] x Z Q :=
  V_aload_n dX12_stores_0 rfl (V_iload_n dX12_stores_1 rfl (V_callV (k' := 0) (n' := 0) (t := 12) (q := (RX12, TX12, 46)) [i_ v3] [] okX12_noClass o_a0.1 rfl rfl lm_12_360 liX12_noClass lqX12_noClass (Nat.le_of_ble_eq_true rfl) (Nat.le_of_ble_eq_true rfl) (Nat.le_of_ble_eq_true rfl) (cat_of rfl) (Nat.le_of_ble_eq_true rfl) (Nat.zero_le _) (Nat.zero_le _) rfl dX12_stores_2 (sp_X12_noClass o_a0 h.1 (fun Z'1 p1 => V_aload_n dX12_stores_5 rfl (G_12_34 o_a0.1 o_a0.qR34 lf_12_69 dX12_stores_6 (V_iload_n dX12_stores_9 rfl (V_aload_n dX12_stores_10 rfl (V_iload_n dX12_stores_11 rfl (Exists.elim (h.2 Z'1 p1) (fun g1 w1 => V_callV (k' := 0) (n' := 0) (t := 12) (q := (RX12, TX12, 46)) [i_ v1] [i_ v3, r_ (a0 + 20)] okX12_deg o_a0.1 rfl rfl lm_12_192 liX12_deg lqX12_deg (Nat.le_of_ble_eq_true rfl) (Nat.le_of_ble_eq_true rfl) (Nat.le_of_ble_eq_true rfl) (cat_of rfl) (Nat.le_of_ble_eq_true rfl) (Nat.zero_le _) (Nat.zero_le _) rfl dX12_stores_12 (sp_X12_deg o_a0 w1.1 w1.2.1 w1.2.2.1 (V_iast (t := 100) o_a0.qK34 (by decide) (by decide) rfl w1.2.2.2.1 w1.2.2.2.2.1 (Nat.le_of_ble_eq_true rfl) dX12_stores_15 (V_nmZ (fun Z1 eZ1 => V_iconst dX12_stores_16 (V_istore (lv' := [some (r_ a0), some (i_ v1), some (i_ v2), some (i_ v3), some (i_ 0)]) dX12_stores_17 (Nat.le_of_ble_eq_true rfl) rfl (V_msk [true, true, true, true, true] rfl (w1.2.2.2.2.2 Z1 eZ1)))))))))))))))))
set_option maxRecDepth 20000 in
theorem b_X12_stores_19 {k n : Nat} {x : Wx} {Z : Zt} {Q : Option Value → Wx → Zt → Prop} {a0 : Nat} {v1 : Int} {v2 : Int} {v3 : Int} {v4 : Int} (o_a0 : Is12 x a0)
    (h : 0 ≤ v3 ∧ v3 < 3000 ∧ (Rg v4 ∧ Rg (Z (a0 + 20) v3.toNat) ∧ (((Z (a0 + 20) v3.toNat ≤ v4) → (Q none x Z)) ∧ ((v4 < Z (a0 + 20) v3.toNat) → ((0 ≤ 24 * v1 + v4 ∧ 24 * v1 + v4 < 648) ∧ (0 ≤ (v3 + 1) + v4 ∧ (v3 + 1) + v4 < 3000 ∧ (∀ Z1 : Zt, Z1 = up Z (a0 + 20) ((v3 + 1) + v4).toNat (Z (a0 + 4) (24 * v1 + v4).toNat) → ((0 ≤ 24 * v2 + v4 ∧ 24 * v2 + v4 < 648) ∧ (0 ≤ (v3 + 3) + v4 ∧ (v3 + 3) + v4 < 3000 ∧ (∀ Z2 : Zt, Z2 = up Z1 (a0 + 20) ((v3 + 3) + v4).toNat (Z1 (a0 + 4) (24 * v2 + v4).toNat) → (V mX12_stores k n 19 [some (r_ a0), some (i_ v1), some (i_ v2), some (i_ v3), some (i_ (v4 + 1))] [] x Z2 Q))))))))))) :
    V mX12_stores k n 19 [some (r_ a0), some (i_ v1), some (i_ v2), some (i_ v3), some (i_ v4)] [] x Z Q :=
  V_iload dX12_stores_19 rfl (V_aload_n dX12_stores_21 rfl (G_12_34 o_a0.1 o_a0.qR34 lf_12_69 dX12_stores_22 (V_iload_n dX12_stores_25 rfl (V_iald (t := 100) o_a0.qK34 (by decide) rfl h.1 h.2.1 (Nat.le_of_ble_eq_true rfl) dX12_stores_26 (V_icmp_ge (tgt := 72) dX12_stores_27 rfl h.2.2.1 h.2.2.2.1 (fun c1 => V_ret dX12_stores_72 rfl (h.2.2.2.2.1 c1)) (fun c1 => V_aload_n dX12_stores_30 rfl (G_12_34 o_a0.1 o_a0.qR34 lf_12_69 dX12_stores_31 (V_iload_n dX12_stores_34 rfl (V_iconst dX12_stores_35 (V_iadd dX12_stores_36 (V_iload dX12_stores_37 rfl (V_iadd dX12_stores_39 (V_aload_n dX12_stores_40 rfl (V_iload_n dX12_stores_41 rfl (V_iload dX12_stores_42 rfl (V_callV (k' := 0) (n' := 0) (t := 12) (q := (RX12, TX12, 46)) [i_ v1, i_ v4] [i_ ((v3 + 1) + v4), r_ (a0 + 20)] okX12_at o_a0.1 rfl rfl lm_12_185 liX12_at lqX12_at (Nat.le_of_ble_eq_true rfl) (Nat.le_of_ble_eq_true rfl) (Nat.le_of_ble_eq_true rfl) (cat_of rfl) (Nat.le_of_ble_eq_true rfl) (Nat.zero_le _) (Nat.zero_le _) rfl dX12_stores_44 (sp_X12_at o_a0 (h.2.2.2.2.2 c1).1 (V_iast (t := 100) o_a0.qK34 (by decide) (by decide) rfl (h.2.2.2.2.2 c1).2.1 (h.2.2.2.2.2 c1).2.2.1 (Nat.le_of_ble_eq_true rfl) dX12_stores_47 (V_nmZ (fun Z1 eZ1 => V_aload_n dX12_stores_48 rfl (G_12_34 o_a0.1 o_a0.qR34 lf_12_69 dX12_stores_49 (V_iload_n dX12_stores_52 rfl (V_iconst dX12_stores_53 (V_iadd dX12_stores_54 (V_iload dX12_stores_55 rfl (V_iadd dX12_stores_57 (V_aload_n dX12_stores_58 rfl (V_iload_n dX12_stores_59 rfl (V_iload dX12_stores_60 rfl (V_callV (k' := 0) (n' := 0) (t := 12) (q := (RX12, TX12, 46)) [i_ v2, i_ v4] [i_ ((v3 + 3) + v4), r_ (a0 + 20)] okX12_at o_a0.1 rfl rfl lm_12_185 liX12_at lqX12_at (Nat.le_of_ble_eq_true rfl) (Nat.le_of_ble_eq_true rfl) (Nat.le_of_ble_eq_true rfl) (cat_of rfl) (Nat.le_of_ble_eq_true rfl) (Nat.zero_le _) (Nat.zero_le _) rfl dX12_stores_62 (sp_X12_at o_a0 ((h.2.2.2.2.2 c1).2.2.2 Z1 eZ1).1 (V_iast (t := 100) o_a0.qK34 (by decide) (by decide) rfl ((h.2.2.2.2.2 c1).2.2.2 Z1 eZ1).2.1 ((h.2.2.2.2.2 c1).2.2.2 Z1 eZ1).2.2.1 (Nat.le_of_ble_eq_true rfl) dX12_stores_65 (V_nmZ (fun Z2 eZ2 => V_iinc (lv' := [some (r_ a0), some (i_ v1), some (i_ v2), some (i_ v3), some (i_ (v4 + 1))]) dX12_stores_66 rfl (Nat.le_of_ble_eq_true rfl) rfl (V_goto (tgt := 19) dX12_stores_69 rfl (V_msk [true, true, true, true, true] rfl (((h.2.2.2.2.2 c1).2.2.2 Z1 eZ1).2.2.2 Z2 eZ2)))))))))))))))))))))))))))))))))))))
theorem dX12_adds3_0 : decode cX12_adds3 0 = .ok (.aload_n 0, 1) := by decide +kernel
theorem dX12_adds3_1 : decode cX12_adds3 1 = .ok (.iload_n 1, 1) := by decide +kernel
theorem dX12_adds3_2 : decode cX12_adds3 2 = .ok (.iload_n 2, 1) := by decide +kernel
theorem dX12_adds3_3 : decode cX12_adds3 3 = .ok (.bipush 22, 2) := by decide +kernel
theorem dX12_adds3_5 : decode cX12_adds3 5 = .ok (.invokevirtual 215, 3) := by decide +kernel
theorem dX12_adds3_8 : decode cX12_adds3 8 = .ok (.aload_n 0, 1) := by decide +kernel
theorem dX12_adds3_9 : decode cX12_adds3 9 = .ok (.bipush 22, 2) := by decide +kernel
theorem dX12_adds3_11 : decode cX12_adds3 11 = .ok (.iload_n 3, 1) := by decide +kernel
theorem dX12_adds3_12 : decode cX12_adds3 12 = .ok (.bipush 23, 2) := by decide +kernel
theorem dX12_adds3_14 : decode cX12_adds3 14 = .ok (.invokevirtual 215, 3) := by decide +kernel
theorem dX12_adds3_17 : decode cX12_adds3 17 = .ok (.aload_n 0, 1) := by decide +kernel
theorem dX12_adds3_18 : decode cX12_adds3 18 = .ok (.bipush 23, 2) := by decide +kernel
theorem dX12_adds3_20 : decode cX12_adds3 20 = .ok (.iload 4, 2) := by decide +kernel
theorem dX12_adds3_22 : decode cX12_adds3 22 = .ok (.bipush 22, 2) := by decide +kernel
theorem dX12_adds3_24 : decode cX12_adds3 24 = .ok (.invokevirtual 215, 3) := by decide +kernel
theorem dX12_adds3_27 : decode cX12_adds3 27 = .ok (.aload_n 0, 1) := by decide +kernel
theorem dX12_adds3_28 : decode cX12_adds3 28 = .ok (.bipush 6, 2) := by decide +kernel
theorem dX12_adds3_30 : decode cX12_adds3 30 = .ok (.bipush 22, 2) := by decide +kernel
theorem dX12_adds3_32 : decode cX12_adds3 32 = .ok (.iconst 1, 1) := by decide +kernel
theorem dX12_adds3_33 : decode cX12_adds3 33 = .ok (.iconst 0, 1) := by decide +kernel
theorem dX12_adds3_34 : decode cX12_adds3 34 = .ok (.invokevirtual 195, 3) := by decide +kernel
theorem dX12_adds3_37 : decode cX12_adds3 37 = .ok (.return_, 1) := by decide +kernel
set_option maxRecDepth 20000 in
theorem b_X12_adds3_0 {k n : Nat} {x : Wx} {Z : Zt} {Q : Option Value → Wx → Zt → Prop} {a0 : Nat} {v1 : Int} {v2 : Int} {v3 : Int} {v4 : Int} (o_a0 : Is12 x a0)
    (h : ∃ g1 : Nat → Nat → Int, (∃ g2 : Int, ((IsP g2 ∧ Z a0 11 = g2) ∧ MS Z a0 g1 ∧ ((0 ≤ v1 ∧ v1 < 27) ∧ (0 ≤ v2 ∧ v2 < 27) ∧ (0 ≤ (22 : Int) ∧ (22 : Int) < 27) ∧ (22 : Int) ≠ v1 ∧ (22 : Int) ≠ v2) ∧ (InP g2 (g1 v1.toNat) ∧ Fin (g1 v1.toNat)) ∧ InP g2 (g1 v2.toNat) ∧ (∀ (Z'1 : Zt), (MS Z'1 a0 (updP g1 (22 : Int).toNat (pmul g2 (g1 v1.toNat) (g1 v2.toNat))) ∧ Oth Z Z'1 (O4 a0)) → (∃ g3 : Nat → Nat → Int, (∃ g4 : Int, ((IsP g4 ∧ Z'1 a0 11 = g4) ∧ MS Z'1 a0 g3 ∧ ((0 ≤ (22 : Int) ∧ (22 : Int) < 27) ∧ (0 ≤ v3 ∧ v3 < 27) ∧ (0 ≤ (23 : Int) ∧ (23 : Int) < 27) ∧ (23 : Int) ≠ (22 : Int) ∧ (23 : Int) ≠ v3) ∧ (InP g4 (g3 (22 : Int).toNat) ∧ Fin (g3 (22 : Int).toNat)) ∧ InP g4 (g3 v3.toNat) ∧ (∀ (Z'2 : Zt), (MS Z'2 a0 (updP g3 (23 : Int).toNat (pmul g4 (g3 (22 : Int).toNat) (g3 v3.toNat))) ∧ Oth Z'1 Z'2 (O4 a0)) → (∃ g5 : Nat → Nat → Int, (∃ g6 : Int, ((IsP g6 ∧ Z'2 a0 11 = g6) ∧ MS Z'2 a0 g5 ∧ ((0 ≤ (23 : Int) ∧ (23 : Int) < 27) ∧ (0 ≤ v4 ∧ v4 < 27) ∧ (0 ≤ (22 : Int) ∧ (22 : Int) < 27) ∧ (22 : Int) ≠ (23 : Int) ∧ (22 : Int) ≠ v4) ∧ (InP g6 (g5 (23 : Int).toNat) ∧ Fin (g5 (23 : Int).toNat)) ∧ InP g6 (g5 v4.toNat) ∧ (∀ (Z'3 : Zt), (MS Z'3 a0 (updP g5 (22 : Int).toNat (pmul g6 (g5 (23 : Int).toNat) (g5 v4.toNat))) ∧ Oth Z'2 Z'3 (O4 a0)) → (∃ g7 : Nat → Nat → Int, (∃ g8 : Int, ((IsP g8 ∧ Z'3 a0 11 = g8) ∧ MS Z'3 a0 g7 ∧ ((0 ≤ (6 : Int) ∧ (6 : Int) < 27) ∧ (0 ≤ (22 : Int) ∧ (22 : Int) < 27) ∧ (6 : Int) ≠ (22 : Int)) ∧ ((-100 ≤ (1 : Int) ∧ (1 : Int) ≤ 100) ∧ 0 ≤ (0 : Int) ∧ (0 : Int) ≤ 24) ∧ InP g8 (g7 (6 : Int).toNat) ∧ InP g8 (g7 (22 : Int).toNat) ∧ (∀ (Z'4 : Zt), (MS Z'4 a0 (updP g7 (6 : Int).toNat (pads g8 (g7 (6 : Int).toNat) (g7 (22 : Int).toNat) (1 : Int) (0 : Int).toNat)) ∧ Oth Z'3 Z'4 (O4 a0)) → (Q none x Z'4))))))))))))))))) :
    V mX12_adds3 k n 0 [some (r_ a0), some (i_ v1), some (i_ v2), some (i_ v3), some (i_ v4)] [] x Z Q :=
  V_aload_n dX12_adds3_0 rfl (V_iload_n dX12_adds3_1 rfl (V_iload_n dX12_adds3_2 rfl (V_bipush dX12_adds3_3 rfl (Exists.elim h (fun g1 w1 => Exists.elim w1 (fun g2 w2 => V_callV (k' := 0) (n' := 0) (t := 12) (q := (RX12, TX12, 46)) [i_ v1, i_ v2, i_ 22] [] okX12_product o_a0.1 rfl rfl lm_12_215 liX12_product lqX12_product (Nat.le_of_ble_eq_true rfl) (Nat.le_of_ble_eq_true rfl) (Nat.le_of_ble_eq_true rfl) (cat_of rfl) (Nat.le_of_ble_eq_true rfl) (Nat.zero_le _) (Nat.zero_le _) rfl dX12_adds3_5 (sp_X12_product o_a0 w2.1 w2.2.1 w2.2.2.1 w2.2.2.2.1 w2.2.2.2.2.1 (fun Z'1 p1 => V_aload_n dX12_adds3_8 rfl (V_bipush dX12_adds3_9 rfl (V_iload_n dX12_adds3_11 rfl (V_bipush dX12_adds3_12 rfl (Exists.elim (w2.2.2.2.2.2 Z'1 p1) (fun g3 w3 => Exists.elim w3 (fun g4 w4 => V_callV (k' := 0) (n' := 0) (t := 12) (q := (RX12, TX12, 46)) [i_ 22, i_ v3, i_ 23] [] okX12_product o_a0.1 rfl rfl lm_12_215 liX12_product lqX12_product (Nat.le_of_ble_eq_true rfl) (Nat.le_of_ble_eq_true rfl) (Nat.le_of_ble_eq_true rfl) (cat_of rfl) (Nat.le_of_ble_eq_true rfl) (Nat.zero_le _) (Nat.zero_le _) rfl dX12_adds3_14 (sp_X12_product o_a0 w4.1 w4.2.1 w4.2.2.1 w4.2.2.2.1 w4.2.2.2.2.1 (fun Z'2 p2 => V_aload_n dX12_adds3_17 rfl (V_bipush dX12_adds3_18 rfl (V_iload dX12_adds3_20 rfl (V_bipush dX12_adds3_22 rfl (Exists.elim (w4.2.2.2.2.2 Z'2 p2) (fun g5 w5 => Exists.elim w5 (fun g6 w6 => V_callV (k' := 0) (n' := 0) (t := 12) (q := (RX12, TX12, 46)) [i_ 23, i_ v4, i_ 22] [] okX12_product o_a0.1 rfl rfl lm_12_215 liX12_product lqX12_product (Nat.le_of_ble_eq_true rfl) (Nat.le_of_ble_eq_true rfl) (Nat.le_of_ble_eq_true rfl) (cat_of rfl) (Nat.le_of_ble_eq_true rfl) (Nat.zero_le _) (Nat.zero_le _) rfl dX12_adds3_24 (sp_X12_product o_a0 w6.1 w6.2.1 w6.2.2.1 w6.2.2.2.1 w6.2.2.2.2.1 (fun Z'3 p3 => V_aload_n dX12_adds3_27 rfl (V_bipush dX12_adds3_28 rfl (V_bipush dX12_adds3_30 rfl (V_iconst dX12_adds3_32 (V_iconst dX12_adds3_33 (Exists.elim (w6.2.2.2.2.2 Z'3 p3) (fun g7 w7 => Exists.elim w7 (fun g8 w8 => V_callV (k' := 0) (n' := 0) (t := 12) (q := (RX12, TX12, 46)) [i_ 6, i_ 22, i_ 1, i_ 0] [] okX12_adds o_a0.1 rfl rfl lm_12_195 liX12_adds lqX12_adds (Nat.le_of_ble_eq_true rfl) (Nat.le_of_ble_eq_true rfl) (Nat.le_of_ble_eq_true rfl) (cat_of rfl) (Nat.le_of_ble_eq_true rfl) (Nat.zero_le _) (Nat.zero_le _) rfl dX12_adds3_34 (sp_X12_adds o_a0 w8.1 w8.2.1 w8.2.2.1 w8.2.2.2.1 w8.2.2.2.2.1 w8.2.2.2.2.2.1 (fun Z'4 p4 => V_ret dX12_adds3_37 rfl (w8.2.2.2.2.2.2 Z'4 p4))))))))))))))))))))))))))))))))))
theorem dX12_reduces_0 : decode cX12_reduces 0 = .ok (.aload_n 0, 1) := by decide +kernel
theorem dX12_reduces_1 : decode cX12_reduces 1 = .ok (.iconst 5, 1) := by decide +kernel
theorem dX12_reduces_2 : decode cX12_reduces 2 = .ok (.invokevirtual 192, 3) := by decide +kernel
theorem dX12_reduces_5 : decode cX12_reduces 5 = .ok (.aload_n 0, 1) := by decide +kernel
theorem dX12_reduces_6 : decode cX12_reduces 6 = .ok (.getfield 221, 3) := by decide +kernel
theorem dX12_reduces_9 : decode cX12_reduces 9 = .ok (.if_icmp .le 86, 3) := by decide +kernel
theorem dX12_reduces_12 : decode cX12_reduces 12 = .ok (.aload_n 0, 1) := by decide +kernel
theorem dX12_reduces_13 : decode cX12_reduces 13 = .ok (.bipush 6, 2) := by decide +kernel
theorem dX12_reduces_15 : decode cX12_reduces 15 = .ok (.bipush 6, 2) := by decide +kernel
theorem dX12_reduces_17 : decode cX12_reduces 17 = .ok (.bipush 22, 2) := by decide +kernel
theorem dX12_reduces_19 : decode cX12_reduces 19 = .ok (.invokevirtual 215, 3) := by decide +kernel
theorem dX12_reduces_22 : decode cX12_reduces 22 = .ok (.aload_n 0, 1) := by decide +kernel
theorem dX12_reduces_23 : decode cX12_reduces 23 = .ok (.iconst 0, 1) := by decide +kernel
theorem dX12_reduces_24 : decode cX12_reduces 24 = .ok (.bipush 23, 2) := by decide +kernel
theorem dX12_reduces_26 : decode cX12_reduces 26 = .ok (.invokevirtual 199, 3) := by decide +kernel
theorem dX12_reduces_29 : decode cX12_reduces 29 = .ok (.aload_n 0, 1) := by decide +kernel
theorem dX12_reduces_30 : decode cX12_reduces 30 = .ok (.bipush 23, 2) := by decide +kernel
theorem dX12_reduces_32 : decode cX12_reduces 32 = .ok (.bipush 22, 2) := by decide +kernel
theorem dX12_reduces_34 : decode cX12_reduces 34 = .ok (.iconst (-1), 1) := by decide +kernel
theorem dX12_reduces_35 : decode cX12_reduces 35 = .ok (.iconst 0, 1) := by decide +kernel
theorem dX12_reduces_36 : decode cX12_reduces 36 = .ok (.invokevirtual 195, 3) := by decide +kernel
theorem dX12_reduces_39 : decode cX12_reduces 39 = .ok (.aload_n 0, 1) := by decide +kernel
theorem dX12_reduces_40 : decode cX12_reduces 40 = .ok (.bipush 23, 2) := by decide +kernel
theorem dX12_reduces_42 : decode cX12_reduces 42 = .ok (.iconst 5, 1) := by decide +kernel
theorem dX12_reduces_43 : decode cX12_reduces 43 = .ok (.bipush 16, 2) := by decide +kernel
theorem dX12_reduces_45 : decode cX12_reduces 45 = .ok (.bipush 17, 2) := by decide +kernel
theorem dX12_reduces_47 : decode cX12_reduces 47 = .ok (.invokevirtual 205, 3) := by decide +kernel
theorem dX12_reduces_50 : decode cX12_reduces 50 = .ok (.aload_n 0, 1) := by decide +kernel
theorem dX12_reduces_51 : decode cX12_reduces 51 = .ok (.bipush 16, 2) := by decide +kernel
theorem dX12_reduces_53 : decode cX12_reduces 53 = .ok (.iconst 5, 1) := by decide +kernel
theorem dX12_reduces_54 : decode cX12_reduces 54 = .ok (.invokevirtual 199, 3) := by decide +kernel
theorem dX12_reduces_57 : decode cX12_reduces 57 = .ok (.aload_n 0, 1) := by decide +kernel
theorem dX12_reduces_58 : decode cX12_reduces 58 = .ok (.bipush 23, 2) := by decide +kernel
theorem dX12_reduces_60 : decode cX12_reduces 60 = .ok (.invokevirtual 188, 3) := by decide +kernel
theorem dX12_reduces_63 : decode cX12_reduces 63 = .ok (.aload_n 0, 1) := by decide +kernel
theorem dX12_reduces_64 : decode cX12_reduces 64 = .ok (.bipush 23, 2) := by decide +kernel
theorem dX12_reduces_66 : decode cX12_reduces 66 = .ok (.bipush 6, 2) := by decide +kernel
theorem dX12_reduces_68 : decode cX12_reduces 68 = .ok (.iconst (-1), 1) := by decide +kernel
theorem dX12_reduces_69 : decode cX12_reduces 69 = .ok (.iconst 0, 1) := by decide +kernel
theorem dX12_reduces_70 : decode cX12_reduces 70 = .ok (.invokevirtual 195, 3) := by decide +kernel
theorem dX12_reduces_73 : decode cX12_reduces 73 = .ok (.aload_n 0, 1) := by decide +kernel
theorem dX12_reduces_74 : decode cX12_reduces 74 = .ok (.bipush 23, 2) := by decide +kernel
theorem dX12_reduces_76 : decode cX12_reduces 76 = .ok (.iconst 5, 1) := by decide +kernel
theorem dX12_reduces_77 : decode cX12_reduces 77 = .ok (.bipush 16, 2) := by decide +kernel
theorem dX12_reduces_79 : decode cX12_reduces 79 = .ok (.bipush 17, 2) := by decide +kernel
theorem dX12_reduces_81 : decode cX12_reduces 81 = .ok (.invokevirtual 205, 3) := by decide +kernel
theorem dX12_reduces_84 : decode cX12_reduces 84 = .ok (.aload_n 0, 1) := by decide +kernel
theorem dX12_reduces_85 : decode cX12_reduces 85 = .ok (.bipush 17, 2) := by decide +kernel
theorem dX12_reduces_87 : decode cX12_reduces 87 = .ok (.bipush 6, 2) := by decide +kernel
theorem dX12_reduces_89 : decode cX12_reduces 89 = .ok (.invokevirtual 199, 3) := by decide +kernel
theorem dX12_reduces_92 : decode cX12_reduces 92 = .ok (.goto (-92), 3) := by decide +kernel
theorem dX12_reduces_95 : decode cX12_reduces 95 = .ok (.aload_n 0, 1) := by decide +kernel
theorem dX12_reduces_96 : decode cX12_reduces 96 = .ok (.aload_n 0, 1) := by decide +kernel
theorem dX12_reduces_97 : decode cX12_reduces 97 = .ok (.iconst 5, 1) := by decide +kernel
theorem dX12_reduces_98 : decode cX12_reduces 98 = .ok (.aload_n 0, 1) := by decide +kernel
theorem dX12_reduces_99 : decode cX12_reduces 99 = .ok (.iconst 5, 1) := by decide +kernel
theorem dX12_reduces_100 : decode cX12_reduces 100 = .ok (.invokevirtual 192, 3) := by decide +kernel
theorem dX12_reduces_103 : decode cX12_reduces 103 = .ok (.invokevirtual 185, 3) := by decide +kernel
theorem dX12_reduces_106 : decode cX12_reduces 106 = .ok (.invokevirtual 202, 3) := by decide +kernel
theorem dX12_reduces_109 : decode cX12_reduces 109 = .ok (.istore_n 1, 1) := by decide +kernel
theorem dX12_reduces_110 : decode cX12_reduces 110 = .ok (.aload_n 0, 1) := by decide +kernel
theorem dX12_reduces_111 : decode cX12_reduces 111 = .ok (.iconst 5, 1) := by decide +kernel
theorem dX12_reduces_112 : decode cX12_reduces 112 = .ok (.iload_n 1, 1) := by decide +kernel
theorem dX12_reduces_113 : decode cX12_reduces 113 = .ok (.bipush 22, 2) := by decide +kernel
theorem dX12_reduces_115 : decode cX12_reduces 115 = .ok (.invokevirtual 211, 3) := by decide +kernel
theorem dX12_reduces_118 : decode cX12_reduces 118 = .ok (.aload_n 0, 1) := by decide +kernel
theorem dX12_reduces_119 : decode cX12_reduces 119 = .ok (.bipush 22, 2) := by decide +kernel
theorem dX12_reduces_121 : decode cX12_reduces 121 = .ok (.iconst 5, 1) := by decide +kernel
theorem dX12_reduces_122 : decode cX12_reduces 122 = .ok (.invokevirtual 199, 3) := by decide +kernel
theorem dX12_reduces_125 : decode cX12_reduces 125 = .ok (.return_, 1) := by decide +kernel
set_option maxRecDepth 20000 in
theorem b_X12_reduces_0 {k n : Nat} {x : Wx} {Z : Zt} {Q : Option Value → Wx → Zt → Prop} {a0 : Nat} (o_a0 : Is12 x a0)
    (h : ∃ g1 : Nat → Nat → Int, (MS Z a0 g1 ∧ (0 ≤ (5 : Int) ∧ (5 : Int) < 27) ∧ (∀ i : Nat, i < 24 → Rg (g1 (5 : Int).toNat i)) ∧ (Rg (pd (g1 (5 : Int).toNat)) ∧ Rg (Z a0 12) ∧ (((pd (g1 (5 : Int).toNat) ≤ Z a0 12) → (∃ g2 : Nat → Nat → Int, (MS Z a0 g2 ∧ (0 ≤ (5 : Int) ∧ (5 : Int) < 27) ∧ (∀ i : Nat, i < 24 → Rg (g2 (5 : Int).toNat i)) ∧ ((0 ≤ 24 * (5 : Int) + (pd (g2 (5 : Int).toNat)) ∧ 24 * (5 : Int) + (pd (g2 (5 : Int).toNat)) < 648) ∧ (∃ g3 : Int, ((IsP g3 ∧ Z a0 11 = g3) ∧ (0 < (Z (a0 + 4) (24 * (5 : Int) + (pd (g2 (5 : Int).toNat))).toNat) ∧ (Z (a0 + 4) (24 * (5 : Int) + (pd (g2 (5 : Int).toNat))).toNat) < g3) ∧ (∀ i1 : Int, i1 = inv g3 (Z (a0 + 4) (24 * (5 : Int) + (pd (g2 (5 : Int).toNat))).toNat) → (∃ g4 : Nat → Nat → Int, (∃ g5 : Int, ((IsP g5 ∧ Z a0 11 = g5) ∧ MS Z a0 g4 ∧ ((0 ≤ (5 : Int) ∧ (5 : Int) < 27) ∧ (0 ≤ (22 : Int) ∧ (22 : Int) < 27) ∧ (22 : Int) ≠ (5 : Int)) ∧ (-100 ≤ i1 ∧ i1 ≤ 100) ∧ InP g5 (g4 (5 : Int).toNat) ∧ (∀ (Z'1 : Zt), (MS Z'1 a0 (updP g4 (22 : Int).toNat (pscl g5 (g4 (5 : Int).toNat) i1)) ∧ Oth Z Z'1 (O4 a0)) → (∃ g6 : Nat → Nat → Int, (MS Z'1 a0 g6 ∧ (0 ≤ (5 : Int) ∧ (5 : Int) < 27) ∧ (0 ≤ (22 : Int) ∧ (22 : Int) < 27) ∧ (∀ (Z'2 : Zt), (MS Z'2 a0 (updP g6 (5 : Int).toNat (g6 (22 : Int).toNat)) ∧ Oth Z'1 Z'2 (O4 a0)) → (Q none x Z'2))))))))))))))) ∧ ((Z a0 12 < pd (g1 (5 : Int).toNat)) → (∃ g7 : Nat → Nat → Int, (∃ g8 : Int, ((IsP g8 ∧ Z a0 11 = g8) ∧ MS Z a0 g7 ∧ ((0 ≤ (6 : Int) ∧ (6 : Int) < 27) ∧ (0 ≤ (6 : Int) ∧ (6 : Int) < 27) ∧ (0 ≤ (22 : Int) ∧ (22 : Int) < 27) ∧ (22 : Int) ≠ (6 : Int) ∧ (22 : Int) ≠ (6 : Int)) ∧ (InP g8 (g7 (6 : Int).toNat) ∧ Fin (g7 (6 : Int).toNat)) ∧ InP g8 (g7 (6 : Int).toNat) ∧ (∀ (Z'3 : Zt), (MS Z'3 a0 (updP g7 (22 : Int).toNat (pmul g8 (g7 (6 : Int).toNat) (g7 (6 : Int).toNat))) ∧ Oth Z Z'3 (O4 a0)) → (∃ g9 : Nat → Nat → Int, (MS Z'3 a0 g9 ∧ (0 ≤ (23 : Int) ∧ (23 : Int) < 27) ∧ (0 ≤ (0 : Int) ∧ (0 : Int) < 27) ∧ (∀ (Z'4 : Zt), (MS Z'4 a0 (updP g9 (23 : Int).toNat (g9 (0 : Int).toNat)) ∧ Oth Z'3 Z'4 (O4 a0)) → (∃ g10 : Nat → Nat → Int, (∃ g11 : Int, ((IsP g11 ∧ Z'4 a0 11 = g11) ∧ MS Z'4 a0 g10 ∧ ((0 ≤ (23 : Int) ∧ (23 : Int) < 27) ∧ (0 ≤ (22 : Int) ∧ (22 : Int) < 27) ∧ (23 : Int) ≠ (22 : Int)) ∧ ((-100 ≤ (-1 : Int) ∧ (-1 : Int) ≤ 100) ∧ 0 ≤ (0 : Int) ∧ (0 : Int) ≤ 24) ∧ InP g11 (g10 (23 : Int).toNat) ∧ InP g11 (g10 (22 : Int).toNat) ∧ (∀ (Z'5 : Zt), (MS Z'5 a0 (updP g10 (23 : Int).toNat (pads g11 (g10 (23 : Int).toNat) (g10 (22 : Int).toNat) (-1 : Int) (0 : Int).toNat)) ∧ Oth Z'4 Z'5 (O4 a0)) → (∃ g12 : Nat → Nat → Int, (∃ g13 : Int, ((IsP g13 ∧ Z'5 a0 11 = g13) ∧ MS Z'5 a0 g12 ∧ (((0 ≤ (23 : Int) ∧ (23 : Int) < 27) ∧ (0 ≤ (5 : Int) ∧ (5 : Int) < 27) ∧ (0 ≤ (16 : Int) ∧ (16 : Int) < 27) ∧ (0 ≤ (17 : Int) ∧ (17 : Int) < 27)) ∧ (16 : Int) ≠ (23 : Int) ∧ (16 : Int) ≠ (5 : Int) ∧ (17 : Int) ≠ (23 : Int) ∧ (17 : Int) ≠ (5 : Int) ∧ (16 : Int) ≠ (17 : Int)) ∧ (InP g13 (g12 (23 : Int).toNat) ∧ Fin (g12 (23 : Int).toNat)) ∧ (InP g13 (g12 (5 : Int).toNat) ∧ 0 ≤ pd (g12 (5 : Int).toNat)) ∧ (∀ (Z'6 : Zt), (MS Z'6 a0 (updP (updP g12 (16 : Int).toNat (dvQ g13 (g12 (23 : Int).toNat) (g12 (5 : Int).toNat))) (17 : Int).toNat (dvR g13 (g12 (23 : Int).toNat) (g12 (5 : Int).toNat))) ∧ Oth Z'5 Z'6 (O4 a0)) → (∃ g14 : Nat → Nat → Int, (MS Z'6 a0 g14 ∧ (0 ≤ (5 : Int) ∧ (5 : Int) < 27) ∧ (0 ≤ (16 : Int) ∧ (16 : Int) < 27) ∧ (∀ (Z'7 : Zt), (MS Z'7 a0 (updP g14 (5 : Int).toNat (g14 (16 : Int).toNat)) ∧ Oth Z'6 Z'7 (O4 a0)) → (∃ g15 : Nat → Nat → Int, (MS Z'7 a0 g15 ∧ (0 ≤ (23 : Int) ∧ (23 : Int) < 27) ∧ (∀ (Z'8 : Zt), (MS Z'8 a0 (updP g15 (23 : Int).toNat pzero) ∧ Oth Z'7 Z'8 (O4 a0)) → (∃ g16 : Nat → Nat → Int, (∃ g17 : Int, ((IsP g17 ∧ Z'8 a0 11 = g17) ∧ MS Z'8 a0 g16 ∧ ((0 ≤ (23 : Int) ∧ (23 : Int) < 27) ∧ (0 ≤ (6 : Int) ∧ (6 : Int) < 27) ∧ (23 : Int) ≠ (6 : Int)) ∧ ((-100 ≤ (-1 : Int) ∧ (-1 : Int) ≤ 100) ∧ 0 ≤ (0 : Int) ∧ (0 : Int) ≤ 24) ∧ InP g17 (g16 (23 : Int).toNat) ∧ InP g17 (g16 (6 : Int).toNat) ∧ (∀ (Z'9 : Zt), (MS Z'9 a0 (updP g16 (23 : Int).toNat (pads g17 (g16 (23 : Int).toNat) (g16 (6 : Int).toNat) (-1 : Int) (0 : Int).toNat)) ∧ Oth Z'8 Z'9 (O4 a0)) → (∃ g18 : Nat → Nat → Int, (∃ g19 : Int, ((IsP g19 ∧ Z'9 a0 11 = g19) ∧ MS Z'9 a0 g18 ∧ (((0 ≤ (23 : Int) ∧ (23 : Int) < 27) ∧ (0 ≤ (5 : Int) ∧ (5 : Int) < 27) ∧ (0 ≤ (16 : Int) ∧ (16 : Int) < 27) ∧ (0 ≤ (17 : Int) ∧ (17 : Int) < 27)) ∧ (16 : Int) ≠ (23 : Int) ∧ (16 : Int) ≠ (5 : Int) ∧ (17 : Int) ≠ (23 : Int) ∧ (17 : Int) ≠ (5 : Int) ∧ (16 : Int) ≠ (17 : Int)) ∧ (InP g19 (g18 (23 : Int).toNat) ∧ Fin (g18 (23 : Int).toNat)) ∧ (InP g19 (g18 (5 : Int).toNat) ∧ 0 ≤ pd (g18 (5 : Int).toNat)) ∧ (∀ (Z'10 : Zt), (MS Z'10 a0 (updP (updP g18 (16 : Int).toNat (dvQ g19 (g18 (23 : Int).toNat) (g18 (5 : Int).toNat))) (17 : Int).toNat (dvR g19 (g18 (23 : Int).toNat) (g18 (5 : Int).toNat))) ∧ Oth Z'9 Z'10 (O4 a0)) → (∃ g20 : Nat → Nat → Int, (MS Z'10 a0 g20 ∧ (0 ≤ (6 : Int) ∧ (6 : Int) < 27) ∧ (0 ≤ (17 : Int) ∧ (17 : Int) < 27) ∧ (∀ (Z'11 : Zt), (MS Z'11 a0 (updP g20 (6 : Int).toNat (g20 (17 : Int).toNat)) ∧ Oth Z'10 Z'11 (O4 a0)) → (V mX12_reduces k n 0 [some (r_ a0), none] [] x Z'11 Q)))))))))))))))))))))))))))))))))))))) :
    V mX12_reduces k n 0 [some (r_ a0), none] [] x Z Q :=
  V_aload_n dX12_reduces_0 rfl (V_iconst dX12_reduces_1 (Exists.elim h (fun g1 w1 => V_callV (k' := 0) (n' := 0) (t := 12) (q := (RX12, TX12, 46)) [i_ 5] [] okX12_deg o_a0.1 rfl rfl lm_12_192 liX12_deg lqX12_deg (Nat.le_of_ble_eq_true rfl) (Nat.le_of_ble_eq_true rfl) (Nat.le_of_ble_eq_true rfl) (cat_of rfl) (Nat.le_of_ble_eq_true rfl) (Nat.zero_le _) (Nat.zero_le _) rfl dX12_reduces_2 (sp_X12_deg o_a0 w1.1 w1.2.1 w1.2.2.1 (V_aload_n dX12_reduces_5 rfl (G_12_12 o_a0.1 lf_12_221 dX12_reduces_6 (V_icmp_le (tgt := 95) dX12_reduces_9 rfl w1.2.2.2.1 w1.2.2.2.2.1 (fun c1 => V_aload_n dX12_reduces_95 rfl (V_aload_n dX12_reduces_96 rfl (V_iconst dX12_reduces_97 (V_aload_n dX12_reduces_98 rfl (V_iconst dX12_reduces_99 (Exists.elim (w1.2.2.2.2.2.1 c1) (fun g2 w2 => V_callV (k' := 0) (n' := 0) (t := 12) (q := (RX12, TX12, 46)) [i_ 5] [i_ 5, r_ a0, r_ a0] okX12_deg o_a0.1 rfl rfl lm_12_192 liX12_deg lqX12_deg (Nat.le_of_ble_eq_true rfl) (Nat.le_of_ble_eq_true rfl) (Nat.le_of_ble_eq_true rfl) (cat_of rfl) (Nat.le_of_ble_eq_true rfl) (Nat.zero_le _) (Nat.zero_le _) rfl dX12_reduces_100 (sp_X12_deg o_a0 w2.1 w2.2.1 w2.2.2.1 (V_callV (k' := 0) (n' := 0) (t := 12) (q := (RX12, TX12, 46)) [i_ 5, i_ (pd (g2 (5 : Int).toNat))] [r_ a0] okX12_at o_a0.1 rfl rfl lm_12_185 liX12_at lqX12_at (Nat.le_of_ble_eq_true rfl) (Nat.le_of_ble_eq_true rfl) (Nat.le_of_ble_eq_true rfl) (cat_of rfl) (Nat.le_of_ble_eq_true rfl) (Nat.zero_le _) (Nat.zero_le _) rfl dX12_reduces_103 (sp_X12_at o_a0 w2.2.2.2.1 (Exists.elim w2.2.2.2.2 (fun g3 w3 => V_callV (k' := 0) (n' := 0) (t := 12) (q := (RX12, TX12, 46)) [i_ (Z (a0 + 4) (24 * (5 : Int) + (pd (g2 (5 : Int).toNat))).toNat)] [] okX12_inverse o_a0.1 rfl rfl lm_12_202 liX12_inverse lqX12_inverse (Nat.le_of_ble_eq_true rfl) (Nat.le_of_ble_eq_true rfl) (Nat.le_of_ble_eq_true rfl) (cat_of rfl) (Nat.le_of_ble_eq_true rfl) (Nat.zero_le _) (Nat.zero_le _) rfl dX12_reduces_106 (sp_X12_inverse o_a0 w3.1 w3.2.1 (V_nmi (fun i1 ei1 => V_istore_n (lv' := [some (r_ a0), some (i_ i1)]) dX12_reduces_109 (Nat.le_of_ble_eq_true rfl) rfl (V_aload_n dX12_reduces_110 rfl (V_iconst dX12_reduces_111 (V_iload_n dX12_reduces_112 rfl (V_bipush dX12_reduces_113 rfl (Exists.elim (w3.2.2 i1 ei1) (fun g4 w4 => Exists.elim w4 (fun g5 w5 => V_callV (k' := 0) (n' := 0) (t := 12) (q := (RX12, TX12, 46)) [i_ 5, i_ i1, i_ 22] [] okX12_scaled o_a0.1 rfl rfl lm_12_211 liX12_scaled lqX12_scaled (Nat.le_of_ble_eq_true rfl) (Nat.le_of_ble_eq_true rfl) (Nat.le_of_ble_eq_true rfl) (cat_of rfl) (Nat.le_of_ble_eq_true rfl) (Nat.zero_le _) (Nat.zero_le _) rfl dX12_reduces_115 (sp_X12_scaled o_a0 w5.1 w5.2.1 w5.2.2.1 w5.2.2.2.1 w5.2.2.2.2.1 (fun Z'1 p1 => V_aload_n dX12_reduces_118 rfl (V_bipush dX12_reduces_119 rfl (V_iconst dX12_reduces_121 (Exists.elim (w5.2.2.2.2.2 Z'1 p1) (fun g6 w6 => V_callV (k' := 0) (n' := 0) (t := 12) (q := (RX12, TX12, 46)) [i_ 22, i_ 5] [] okX12_copy o_a0.1 rfl rfl lm_12_199 liX12_copy lqX12_copy (Nat.le_of_ble_eq_true rfl) (Nat.le_of_ble_eq_true rfl) (Nat.le_of_ble_eq_true rfl) (cat_of rfl) (Nat.le_of_ble_eq_true rfl) (Nat.zero_le _) (Nat.zero_le _) rfl dX12_reduces_122 (sp_X12_copy o_a0 w6.1 w6.2.1 w6.2.2.1 (fun Z'2 p2 => V_ret dX12_reduces_125 rfl (w6.2.2.2 Z'2 p2))))))))))))))))))))))))))))))) (fun c1 => V_aload_n dX12_reduces_12 rfl (V_bipush dX12_reduces_13 rfl (V_bipush dX12_reduces_15 rfl (V_bipush dX12_reduces_17 rfl (Exists.elim (w1.2.2.2.2.2.2 c1) (fun g7 w7 => Exists.elim w7 (fun g8 w8 => V_callV (k' := 0) (n' := 0) (t := 12) (q := (RX12, TX12, 46)) [i_ 6, i_ 6, i_ 22] [] okX12_product o_a0.1 rfl rfl lm_12_215 liX12_product lqX12_product (Nat.le_of_ble_eq_true rfl) (Nat.le_of_ble_eq_true rfl) (Nat.le_of_ble_eq_true rfl) (cat_of rfl) (Nat.le_of_ble_eq_true rfl) (Nat.zero_le _) (Nat.zero_le _) rfl dX12_reduces_19 (sp_X12_product o_a0 w8.1 w8.2.1 w8.2.2.1 w8.2.2.2.1 w8.2.2.2.2.1 (fun Z'3 p3 => V_aload_n dX12_reduces_22 rfl (V_iconst dX12_reduces_23 (V_bipush dX12_reduces_24 rfl (Exists.elim (w8.2.2.2.2.2 Z'3 p3) (fun g9 w9 => V_callV (k' := 0) (n' := 0) (t := 12) (q := (RX12, TX12, 46)) [i_ 0, i_ 23] [] okX12_copy o_a0.1 rfl rfl lm_12_199 liX12_copy lqX12_copy (Nat.le_of_ble_eq_true rfl) (Nat.le_of_ble_eq_true rfl) (Nat.le_of_ble_eq_true rfl) (cat_of rfl) (Nat.le_of_ble_eq_true rfl) (Nat.zero_le _) (Nat.zero_le _) rfl dX12_reduces_26 (sp_X12_copy o_a0 w9.1 w9.2.1 w9.2.2.1 (fun Z'4 p4 => V_aload_n dX12_reduces_29 rfl (V_bipush dX12_reduces_30 rfl (V_bipush dX12_reduces_32 rfl (V_iconst dX12_reduces_34 (V_iconst dX12_reduces_35 (Exists.elim (w9.2.2.2 Z'4 p4) (fun g10 w10 => Exists.elim w10 (fun g11 w11 => V_callV (k' := 0) (n' := 0) (t := 12) (q := (RX12, TX12, 46)) [i_ 23, i_ 22, i_ (-1), i_ 0] [] okX12_adds o_a0.1 rfl rfl lm_12_195 liX12_adds lqX12_adds (Nat.le_of_ble_eq_true rfl) (Nat.le_of_ble_eq_true rfl) (Nat.le_of_ble_eq_true rfl) (cat_of rfl) (Nat.le_of_ble_eq_true rfl) (Nat.zero_le _) (Nat.zero_le _) rfl dX12_reduces_36 (sp_X12_adds o_a0 w11.1 w11.2.1 w11.2.2.1 w11.2.2.2.1 w11.2.2.2.2.1 w11.2.2.2.2.2.1 (fun Z'5 p5 => V_aload_n dX12_reduces_39 rfl (V_bipush dX12_reduces_40 rfl (V_iconst dX12_reduces_42 (V_bipush dX12_reduces_43 rfl (V_bipush dX12_reduces_45 rfl (Exists.elim (w11.2.2.2.2.2.2 Z'5 p5) (fun g12 w12 => Exists.elim w12 (fun g13 w13 => V_callV (k' := 0) (n' := 0) (t := 12) (q := (RX12, TX12, 46)) [i_ 23, i_ 5, i_ 16, i_ 17] [] okX12_divides o_a0.1 rfl rfl lm_12_205 liX12_divides lqX12_divides (Nat.le_of_ble_eq_true rfl) (Nat.le_of_ble_eq_true rfl) (Nat.le_of_ble_eq_true rfl) (cat_of rfl) (Nat.le_of_ble_eq_true rfl) (Nat.zero_le _) (Nat.zero_le _) rfl dX12_reduces_47 (sp_X12_divides o_a0 w13.1 w13.2.1 w13.2.2.1 w13.2.2.2.1 w13.2.2.2.2.1 (fun Z'6 p6 => V_aload_n dX12_reduces_50 rfl (V_bipush dX12_reduces_51 rfl (V_iconst dX12_reduces_53 (Exists.elim (w13.2.2.2.2.2 Z'6 p6) (fun g14 w14 => V_callV (k' := 0) (n' := 0) (t := 12) (q := (RX12, TX12, 46)) [i_ 16, i_ 5] [] okX12_copy o_a0.1 rfl rfl lm_12_199 liX12_copy lqX12_copy (Nat.le_of_ble_eq_true rfl) (Nat.le_of_ble_eq_true rfl) (Nat.le_of_ble_eq_true rfl) (cat_of rfl) (Nat.le_of_ble_eq_true rfl) (Nat.zero_le _) (Nat.zero_le _) rfl dX12_reduces_54 (sp_X12_copy o_a0 w14.1 w14.2.1 w14.2.2.1 (fun Z'7 p7 => V_aload_n dX12_reduces_57 rfl (V_bipush dX12_reduces_58 rfl (Exists.elim (w14.2.2.2 Z'7 p7) (fun g15 w15 => V_callV (k' := 0) (n' := 0) (t := 12) (q := (RX12, TX12, 46)) [i_ 23] [] okX12_zero o_a0.1 rfl rfl lm_12_188 liX12_zero lqX12_zero (Nat.le_of_ble_eq_true rfl) (Nat.le_of_ble_eq_true rfl) (Nat.le_of_ble_eq_true rfl) (cat_of rfl) (Nat.le_of_ble_eq_true rfl) (Nat.zero_le _) (Nat.zero_le _) rfl dX12_reduces_60 (sp_X12_zero o_a0 w15.1 w15.2.1 (fun Z'8 p8 => V_aload_n dX12_reduces_63 rfl (V_bipush dX12_reduces_64 rfl (V_bipush dX12_reduces_66 rfl (V_iconst dX12_reduces_68 (V_iconst dX12_reduces_69 (Exists.elim (w15.2.2 Z'8 p8) (fun g16 w16 => Exists.elim w16 (fun g17 w17 => V_callV (k' := 0) (n' := 0) (t := 12) (q := (RX12, TX12, 46)) [i_ 23, i_ 6, i_ (-1), i_ 0] [] okX12_adds o_a0.1 rfl rfl lm_12_195 liX12_adds lqX12_adds (Nat.le_of_ble_eq_true rfl) (Nat.le_of_ble_eq_true rfl) (Nat.le_of_ble_eq_true rfl) (cat_of rfl) (Nat.le_of_ble_eq_true rfl) (Nat.zero_le _) (Nat.zero_le _) rfl dX12_reduces_70 (sp_X12_adds o_a0 w17.1 w17.2.1 w17.2.2.1 w17.2.2.2.1 w17.2.2.2.2.1 w17.2.2.2.2.2.1 (fun Z'9 p9 => V_aload_n dX12_reduces_73 rfl (V_bipush dX12_reduces_74 rfl (V_iconst dX12_reduces_76 (V_bipush dX12_reduces_77 rfl (V_bipush dX12_reduces_79 rfl (Exists.elim (w17.2.2.2.2.2.2 Z'9 p9) (fun g18 w18 => Exists.elim w18 (fun g19 w19 => V_callV (k' := 0) (n' := 0) (t := 12) (q := (RX12, TX12, 46)) [i_ 23, i_ 5, i_ 16, i_ 17] [] okX12_divides o_a0.1 rfl rfl lm_12_205 liX12_divides lqX12_divides (Nat.le_of_ble_eq_true rfl) (Nat.le_of_ble_eq_true rfl) (Nat.le_of_ble_eq_true rfl) (cat_of rfl) (Nat.le_of_ble_eq_true rfl) (Nat.zero_le _) (Nat.zero_le _) rfl dX12_reduces_81 (sp_X12_divides o_a0 w19.1 w19.2.1 w19.2.2.1 w19.2.2.2.1 w19.2.2.2.2.1 (fun Z'10 p10 => V_aload_n dX12_reduces_84 rfl (V_bipush dX12_reduces_85 rfl (V_bipush dX12_reduces_87 rfl (Exists.elim (w19.2.2.2.2.2 Z'10 p10) (fun g20 w20 => V_callV (k' := 0) (n' := 0) (t := 12) (q := (RX12, TX12, 46)) [i_ 17, i_ 6] [] okX12_copy o_a0.1 rfl rfl lm_12_199 liX12_copy lqX12_copy (Nat.le_of_ble_eq_true rfl) (Nat.le_of_ble_eq_true rfl) (Nat.le_of_ble_eq_true rfl) (cat_of rfl) (Nat.le_of_ble_eq_true rfl) (Nat.zero_le _) (Nat.zero_le _) rfl dX12_reduces_89 (sp_X12_copy o_a0 w20.1 w20.2.1 w20.2.2.1 (fun Z'11 p11 => V_goto (tgt := 0) dX12_reduces_92 rfl (V_msk [true, false] rfl (w20.2.2.2 Z'11 p11)))))))))))))))))))))))))))))))))))))))))))))))))))))))))))))))))))))))))))))
/-! ===== the reference: classes together ===== -/
theorem sp_X12_loads {k n : Nat} {x : Wx} {Z : Zt} {Q : Option Value → Wx → Zt → Prop} {b : Nat} {c u v : Int} (o : Is12 x b) {P : Nat → Nat → Int} {p g : Int} {A : UV} (hP : MS Z b P) (hp : IsP p ∧ g ≤ 2) (hA : RP p g A) (hc : 0 ≤ c ∧ c ≤ 2995) (hK : KC Z b c.toNat A) (hu : (0 ≤ u ∧ u < 27) ∧ (0 ≤ v ∧ v < 27) ∧ u ≠ v) (h : ∀ Z' : Zt, (MS Z' b (updP (updP P u.toNat A.1) v.toNat A.2) ∧ Oth Z Z' (O4 b)) → Q none x Z') : V mX12_loads k n 0 [some (r_ b), some (i_ c), some (i_ u), some (i_ v), none] [] x Z Q := by
  obtain ⟨c', rfl⟩ : ∃ c' : Nat, c = (c' : Int) := ⟨c.toNat, by omega⟩
  obtain ⟨u', rfl⟩ : ∃ u' : Nat, u = (u' : Int) := ⟨u.toNat, by omega⟩
  obtain ⟨v', rfl⟩ : ∃ v' : Nat, v = (v' : Int) := ⟨v.toNat, by omega⟩
  rw [Int.toNat_natCast] at hK
  rw [Int.toNat_natCast, Int.toNat_natCast] at h
  obtain ⟨⟨_, fa⟩, ⟨_, fa2⟩, a0, a1, a2, a3⟩ := id hA
  obtain ⟨d, hd⟩ : ∃ d : Nat, pd A.1 = (d : Int) := ⟨(pd A.1).toNat, by omega⟩
  have hd2 : d ≤ 2 := by omega
  rw [hd] at a3
  rw [Int.toNat_natCast] at a3
  have e0 : Z (b + 20) c' = (d : Int) := by rw [← hd]; exact hK 0 (by decide)
  have nuv : u' ≠ v' := by omega
  have k1 : ∀ i : Nat, i < d → Z (b + 20) (c' + 1 + i) = A.1 i := fun i hi => by
    have hc : i = 0 ∨ i = 1 := by omega
    rcases hc with rfl | rfl
    · have e : Z (b + 20) (c' + 1) = (if 0 < pd A.1 then A.1 0 else 0) := hK 1 (by decide)
      rw [if_pos (by omega)] at e; exact e
    · have e : Z (b + 20) (c' + 2) = (if 1 < pd A.1 then A.1 1 else 0) := hK 2 (by decide)
      rw [if_pos (by omega)] at e; exact e
  have k3 : ∀ i : Nat, i < d → Z (b + 20) (c' + 3 + i) = A.2 i := fun i hi => by
    have hc : i = 0 ∨ i = 1 := by omega
    rcases hc with rfl | rfl
    · exact hK 3 (by decide)
    · exact hK 4 (by decide)
  have lp : ∀ (m i : Nat) (Z1 : Zt), i + m = d → Oth Z Z1 (O4 b) → MS Z1 b (updP (updP P u' (fun j => if j < i ∨ j = d then A.1 j else 0)) v' (fun j => if j < i then A.2 j else 0)) → V mX12_loads k n 30 [some (r_ b), some (i_ (c' : Int)), some (i_ (u' : Int)), some (i_ (v' : Int)), some (i_ (i : Int))] [] x Z1 Q := by
    intro m
    induction m with
    | zero =>
      intro i Z1 hi ho hm
      have e20 : Z1 (b + 20) = Z (b + 20) := ho _ (by show ¬ (b + 20 = b + 4); omega)
      refine b_X12_loads_30 o ?_
      rw [Int.toNat_natCast, e20, e0]
      refine ⟨by omega, by omega, ⟨by omega, by omega⟩, ⟨by omega, by omega⟩, fun _ => h Z1 ⟨hm.eq (fun q j hq hj => ?_), ho⟩, fun cc => by omega⟩
      unfold updP
      by_cases cv2 : q = v'
      · rw [if_pos cv2, if_pos cv2]
        show (if j < i then A.2 j else 0) = A.2 j
        by_cases cj : j < i
        · rw [if_pos cj]
        · rw [if_neg cj, pd_hi fa2 j (by omega)]
      · rw [if_neg cv2, if_neg cv2]
        by_cases cu : q = u'
        · rw [if_pos cu, if_pos cu]
          show (if j < i ∨ j = d then A.1 j else 0) = A.1 j
          by_cases cj : j < i ∨ j = d
          · rw [if_pos cj]
          · rw [if_neg cj, pd_hi fa j (by omega)]
        · rw [if_neg cu, if_neg cu]
    | succ m ih =>
      intro i Z1 hi ho hm
      have e20 : Z1 (b + 20) = Z (b + 20) := ho _ (by show ¬ (b + 20 = b + 4); omega)
      refine b_X12_loads_30 o ?_
      rw [Int.toNat_natCast, e20, e0, show ((c' : Int) + 1 + (i : Int)).toNat = c' + 1 + i from by omega, k1 i (by omega)]
      refine ⟨by omega, by omega, ⟨by omega, by omega⟩, ⟨by omega, by omega⟩, fun cc => by omega, fun _ => ⟨by omega, by omega, by omega, by omega, fun Z2 e2 => ?_⟩⟩
      have g2 := hm.put (u := (u' : Int)) (i := (i : Int)) (by omega) (by omega) e2
      have e202 : Z2 (b + 20) = Z (b + 20) := (g2.2 _ (by show ¬ (b + 20 = b + 4); omega)).trans e20
      rw [e202, show ((c' : Int) + 3 + (i : Int)).toNat = c' + 3 + i from by omega, k3 i (by omega)]
      refine ⟨by omega, by omega, by omega, by omega, fun Z3 e3 => ?_⟩
      have g3 := g2.1.put (u := (v' : Int)) (i := (i : Int)) (by omega) (by omega) e3
      have := ih (i + 1) Z3 (by omega) (ho.tr (g2.2.tr g3.2)) (g3.1.eq (fun q j hq hj => ?_))
      · exact this
      · rw [Int.toNat_natCast, Int.toNat_natCast, Int.toNat_natCast]
        unfold putP
        by_cases cv2 : q = v'
        · subst cv2
          rw [updP_s, updP_s, updP_n _ _ (fun e => nuv e.symm), updP_s]
          show (if j = i then A.2 i else (if j < i then A.2 j else 0)) = (if j < i + 1 then A.2 j else 0)
          by_cases cj : j = i
          · rw [if_pos cj, if_pos (by omega), cj]
          · rw [if_neg cj]
            by_cases cl : j < i
            · rw [if_pos cl, if_pos (by omega)]
            · rw [if_neg cl, if_neg (by omega)]
        · by_cases cu : q = u'
          · subst cu
            rw [updP_n _ _ cv2, updP_s, updP_n _ _ cv2, updP_s, updP_n _ _ cv2, updP_s]
            show (if j = i then A.1 i else (if j < i ∨ j = d then A.1 j else 0)) = (if j < i + 1 ∨ j = d then A.1 j else 0)
            by_cases cj : j = i
            · rw [if_pos cj, if_pos (by omega), cj]
            · rw [if_neg cj]
              by_cases cl : j < i ∨ j = d
              · rw [if_pos cl, if_pos (by omega)]
              · rw [if_neg cl, if_neg (by omega)]
          · rw [updP_n _ _ cv2, updP_n _ _ cu, updP_n _ _ cv2, updP_n _ _ cu, updP_n _ _ cv2, updP_n _ _ cu]
  refine b_X12_loads_0 o ⟨P, hP, hu.1, fun Z1 hz1 => ⟨_, hz1.1, hu.2.1, fun Z2 hz2 => ?_⟩⟩
  have o2 := hz1.2.tr hz2.2
  have e20 : Z2 (b + 20) = Z (b + 20) := o2 _ (by show ¬ (b + 20 = b + 4); omega)
  rw [Int.toNat_natCast c', e20, e0]
  refine ⟨by omega, by omega, by omega, by omega, fun Z3 e3 => ?_⟩
  have g3 := hz2.1.put (u := (u' : Int)) (i := (d : Int)) (by omega) (by omega) e3
  rw [Int.toNat_natCast, Int.toNat_natCast, Int.toNat_natCast] at g3
  have := lp d 0 Z3 (by omega) (o2.tr g3.2) (g3.1.eq (fun q j hq hj => ?_))
  · exact this
  · unfold putP
    by_cases cv2 : q = v'
    · subst cv2
      rw [updP_n _ _ (fun e => nuv e.symm), updP_s, updP_s]
      show pzero j = (if j < 0 then A.2 j else 0)
      rw [if_neg (by omega)]; rfl
    · by_cases cu : q = u'
      · subst cu
        rw [updP_s, updP_n _ _ cv2, updP_s, updP_n _ _ cv2, updP_s]
        show (if j = d then 1 else pzero j) = (if j < 0 ∨ j = d then A.1 j else 0)
        by_cases cj : j = d
        · rw [if_pos cj, if_pos (Or.inr cj), cj, a3]
        · rw [if_neg cj, if_neg (by omega)]; rfl
      · rw [updP_n _ _ cu, updP_n _ _ cv2, updP_n _ _ cu, updP_n _ _ cv2, updP_n _ _ cu]
theorem sp_X12_stores {k n : Nat} {x : Wx} {Z : Zt} {Q : Option Value → Wx → Zt → Prop} {b : Nat} {u v c : Int} (o : Is12 x b) {P : Nat → Nat → Int} {p g : Int} (hP : MS Z b P) (hp : IsP p ∧ g ≤ 2) (hu : (0 ≤ u ∧ u < 27) ∧ (0 ≤ v ∧ v < 27)) (hA : RP p g (P u.toNat, P v.toNat)) (hc : 0 ≤ c ∧ c ≤ 2995) (h : ∀ Z' : Zt, (KC Z' b c.toNat (P u.toNat, P v.toNat) ∧ KF b c.toNat Z Z') → Q none x Z') : V mX12_stores k n 0 [some (r_ b), some (i_ u), some (i_ v), some (i_ c), none] [] x Z Q := by
  obtain ⟨c', rfl⟩ : ∃ c' : Nat, c = (c' : Int) := ⟨c.toNat, by omega⟩
  rw [Int.toNat_natCast] at h
  have hpr := hp.1.rg
  obtain ⟨⟨ia, fa⟩, ⟨ib, fb⟩, a0, a1, a2, a3⟩ := id hA
  obtain ⟨U, hU⟩ : ∃ U : Nat → Int, P u.toNat = U := ⟨_, rfl⟩
  obtain ⟨W, hW⟩ : ∃ W : Nat → Int, P v.toNat = W := ⟨_, rfl⟩
  have ia : InP p (P u.toNat) := ia
  have fa : Fin (P u.toNat) := fa
  have a0 : 0 ≤ pd (P u.toNat) := a0
  have a1 : pd (P u.toNat) ≤ g := a1
  have a2 : pd (P v.toNat) < pd (P u.toNat) := a2
  have fb : Fin (P v.toNat) := fb
  rw [hU] at ia fa a0 a1 a2
  rw [hW] at fb a2
  rw [hU, hW] at h
  obtain ⟨d, hd⟩ : ∃ d : Nat, pd U = (d : Int) := ⟨(pd U).toNat, by omega⟩
  have kc : ∀ i : Nat, i < 5 → kcl (U, W) i = if i = 0 then (d : Int) else if i = 1 then (if 0 < d then U 0 else 0) else if i = 2 then (if 1 < d then U 1 else 0) else if i = 3 then (if 0 < d then W 0 else 0) else (if 1 < d then W 1 else 0) := fun i hi => by
    show (if i = 0 then pd U else if i = 1 then (if 0 < pd U then U 0 else 0) else if i = 2 then (if 1 < pd U then U 1 else 0) else if i = 3 then W 0 else W 1) = _
    have w0 : (if 0 < d then W 0 else 0) = W 0 := by
      by_cases c0 : 0 < d
      · rw [if_pos c0]
      · rw [if_neg c0, pd_hi fb 0 (by omega)]
    have w1 : (if 1 < d then W 1 else 0) = W 1 := by
      by_cases c0 : 1 < d
      · rw [if_pos c0]
      · rw [if_neg c0, pd_hi fb 1 (by omega)]
    have u0 : (if 0 < pd U then U 0 else 0) = (if 0 < d then U 0 else 0) := by
      by_cases c0 : 0 < d
      · rw [if_pos c0, if_pos (by omega)]
      · rw [if_neg c0, if_neg (by omega)]
    have u1 : (if 1 < pd U then U 1 else 0) = (if 1 < d then U 1 else 0) := by
      by_cases c0 : 1 < d
      · rw [if_pos c0, if_pos (by omega)]
      · rw [if_neg c0, if_neg (by omega)]
    rw [w0, w1, u0, u1, hd]
  have lp : ∀ (m i : Nat) (Z1 : Zt), i + m = d → KF b c' Z Z1 → (∀ j : Nat, j < 5 → Z1 (b + 20) (c' + j) = if j = 0 then (d : Int) else if j = 1 then (if 0 < i then U 0 else 0) else if j = 2 then (if 1 < i then U 1 else 0) else if j = 3 then (if 0 < i then W 0 else 0) else (if 1 < i then W 1 else 0)) → V mX12_stores k n 19 [some (r_ b), some (i_ u), some (i_ v), some (i_ (c' : Int)), some (i_ (i : Int))] [] x Z1 Q := by
    intro m
    induction m with
    | zero =>
      intro i Z1 hi hf hz
      have e0 : Z1 (b + 20) c' = (d : Int) := hz 0 (by decide)
      have ei : i = d := by omega
      subst ei
      refine b_X12_stores_19 o ?_
      rw [Int.toNat_natCast, e0]
      refine ⟨by omega, by omega, ⟨by omega, by omega⟩, ⟨by omega, by omega⟩, fun _ => h Z1 ⟨fun j hj => ?_, hf⟩, fun cc => by omega⟩
      rw [hz j hj, kc j hj]
    | succ m ih =>
      intro i Z1 hi hf hz
      have e0 : Z1 (b + 20) c' = (d : Int) := hz 0 (by decide)
      have m1 : MS Z1 b P := hP.kept (hf.1 _ (by omega))
      have ea := m1.at (u := u) (i := (i : Int)) hu.1 (by omega)
      rw [Int.toNat_natCast, hU] at ea
      refine b_X12_stores_19 o ?_
      rw [Int.toNat_natCast, e0, ea]
      refine ⟨by omega, by omega, ⟨by omega, by omega⟩, ⟨by omega, by omega⟩, fun cc => by omega, fun _ => ⟨by omega, by omega, by omega, fun Z2 e2 => ?_⟩⟩
      rw [show ((c' : Int) + 1 + (i : Int)).toNat = c' + (1 + i) from by omega] at e2
      have f2 := hf.tr (KF.put (c := c') (i := 1 + i) (by omega) e2)
      have m2 : MS Z2 b P := hP.kept (f2.1 _ (by omega))
      have eb := m2.at (u := v) (i := (i : Int)) hu.2 (by omega)
      rw [Int.toNat_natCast, hW] at eb
      rw [eb]
      refine ⟨by omega, by omega, by omega, fun Z3 e3 => ?_⟩
      rw [show ((c' : Int) + 3 + (i : Int)).toNat = c' + (3 + i) from by omega] at e3
      have := ih (i + 1) Z3 (by omega) (f2.tr (KF.put (c := c') (i := 3 + i) (by omega) e3)) (fun j hj => ?_)
      · exact this
      · rw [e3, up_at, e2, up_at, hz j hj]
        have hi2 : i = 0 ∨ i = 1 := by omega
        have hj5 : j = 0 ∨ j = 1 ∨ j = 2 ∨ j = 3 ∨ j = 4 := by omega
        rcases hi2 with rfl | rfl
        · rcases hj5 with rfl | rfl | rfl | rfl | rfl
          · rw [if_neg (by omega), if_neg (by omega)]; rfl
          · rw [if_neg (by omega), if_pos (by omega)]; rfl
          · rw [if_neg (by omega), if_neg (by omega)]; rfl
          · rw [if_pos (by omega)]; rfl
          · rw [if_neg (by omega), if_neg (by omega)]; rfl
        · rcases hj5 with rfl | rfl | rfl | rfl | rfl
          · rw [if_neg (by omega), if_neg (by omega)]; rfl
          · rw [if_neg (by omega), if_neg (by omega)]; rfl
          · rw [if_neg (by omega), if_pos (by omega)]; rfl
          · rw [if_neg (by omega), if_neg (by omega)]; rfl
          · rw [if_pos (by omega)]; rfl
  refine b_X12_stores_0 o ⟨hc, fun Z1 hz1 => ?_⟩
  rw [Int.toNat_natCast] at hz1
  have m1 : MS Z1 b P := hP.kept (hz1.2.1 _ (by omega))
  refine ⟨P, m1, hu.1, ?_, by omega, by omega, fun Z2 e2 => ?_⟩
  · rw [hU]; intro i hi; have := ia i; exact ⟨by omega, by omega⟩
  · rw [hU, hd, Int.toNat_natCast] at e2
    have := lp d 0 Z2 (by omega) (hz1.2.tr (KF.put (c := c') (i := 0) (by omega) e2)) (fun j hj => ?_)
    · exact this
    · rw [e2, up_at]
      by_cases cj : j = 0
      · rw [if_pos (by omega), if_pos cj]
      · rw [if_neg (by omega), if_neg cj, hz1.1 j hj]
        have hj5 : j = 1 ∨ j = 2 ∨ j = 3 ∨ j = 4 := by omega
        rcases hj5 with rfl | rfl | rfl | rfl
        · rfl
        · rfl
        · rfl
        · rfl
theorem sp_X12_adds3 {k n : Nat} {x : Wx} {Z : Zt} {Q : Option Value → Wx → Zt → Prop} {b : Nat} {a c d e : Int} (o : Is12 x b) {P : Nat → Nat → Int} {p : Int} (hp : IsP p ∧ Z b 11 = p) (hP : MS Z b P) (hu : ((0 ≤ a ∧ a < 21) ∧ (0 ≤ c ∧ c < 21)) ∧ ((0 ≤ d ∧ d < 21) ∧ (0 ≤ e ∧ e < 21))) (hi : (InP p (P a.toNat) ∧ InP p (P c.toNat)) ∧ (InP p (P d.toNat) ∧ InP p (P e.toNat)) ∧ InP p (P 6)) (hf : Fin (P a.toNat) ∧ Fin (pmul p (P a.toNat) (P c.toNat)) ∧ Fin (pmul p (pmul p (P a.toNat) (P c.toNat)) (P d.toNat))) (h : ∀ (Z' : Zt) (P' : Nat → Nat → Int), (MS Z' b P' ∧ Oth Z Z' (O4 b) ∧ P' 6 = padd p (P 6) (pmul p (pmul p (pmul p (P a.toNat) (P c.toNat)) (P d.toNat)) (P e.toNat)) 1 ∧ (∀ q : Nat, q ≠ 6 → q ≠ 22 → q ≠ 23 → P' q = P q)) → Q none x Z') : V mX12_adds3 k n 0 [some (r_ b), some (i_ a), some (i_ c), some (i_ d), some (i_ e)] [] x Z Q := by
  obtain ⟨hp, hb⟩ := hp
  have hpr := hp.rg
  obtain ⟨⟨ia, ic⟩, ⟨id_, ie⟩, i6⟩ := hi
  have eb : ∀ Z1 : Zt, Oth Z Z1 (O4 b) → Z1 b 11 = p := fun Z1 ho => by rw [ho b (by show ¬ (b = b + 4); omega)]; exact hb
  have t22 : (22 : Int).toNat = 22 := rfl
  have t23 : (23 : Int).toNat = 23 := rfl
  have t6 : (6 : Int).toNat = 6 := rfl
  have t0 : (0 : Int).toNat = 0 := rfl
  refine b_X12_adds3_0 o ?_
  rw [t22, t23, t6, t0]
  refine ⟨P, p, ⟨hp, hb⟩, hP, by omega, ⟨ia, hf.1⟩, ic, fun Z1 hz1 => ?_⟩
  have nd : d.toNat ≠ 22 := by omega
  have ne : e.toNat ≠ 22 := by omega
  have ne3 : e.toNat ≠ 23 := by omega
  refine ⟨_, p, ⟨hp, eb Z1 hz1.2⟩, hz1.1, by omega, ?_, ?_, fun Z2 hz2 => ?_⟩
  · rw [updP_s]; exact ⟨pmul_in (by omega), hf.2.1⟩
  · rw [updP_n _ _ nd]; exact id_
  rw [updP_s, updP_n _ _ nd] at hz2
  have o2 := hz1.2.tr hz2.2
  refine ⟨_, p, ⟨hp, eb Z2 o2⟩, hz2.1, by omega, ?_, ?_, fun Z3 hz3 => ?_⟩
  · rw [updP_s]; exact ⟨pmul_in (by omega), hf.2.2⟩
  · rw [updP_n _ _ ne3, updP_n _ _ ne]; exact ie
  rw [updP_s, updP_n _ _ ne3, updP_n _ _ ne] at hz3
  have o3 := o2.tr hz3.2
  refine ⟨_, p, ⟨hp, eb Z3 o3⟩, hz3.1, by decide, by decide, ?_, ?_, fun Z4 hz4 => ?_⟩
  · rw [updP_n _ _ (by decide), updP_n _ _ (by decide), updP_n _ _ (by decide)]; exact i6
  · rw [updP_s]; exact pmul_in (by omega)
  rw [updP_n _ _ (show (6 : Nat) ≠ 22 by decide), updP_n _ _ (show (6 : Nat) ≠ 23 by decide), updP_n _ _ (show (6 : Nat) ≠ 22 by decide), updP_s] at hz4
  refine h Z4 (updP (updP (updP (updP P 22 (pmul p (P a.toNat) (P c.toNat))) 23 (pmul p (pmul p (P a.toNat) (P c.toNat)) (P d.toNat))) 22 (pmul p (pmul p (pmul p (P a.toNat) (P c.toNat)) (P d.toNat)) (P e.toNat))) 6 (padd p (P 6) (pmul p (pmul p (pmul p (P a.toNat) (P c.toNat)) (P d.toNat)) (P e.toNat)) 1)) ⟨hz4.1.eq (fun q i hq hi => ?_), o3.tr hz4.2, updP_s _ _ _, fun q q1 q2 q3 => by rw [updP_n _ _ q1, updP_n _ _ q2, updP_n _ _ q3, updP_n _ _ q2]⟩
  by_cases cq : q = 6
  · subst cq
    rw [updP_s, updP_s]; exact pads0 i hi
  · rw [updP_n _ _ cq, updP_n _ _ cq]
theorem sp_X12_reduces {k n : Nat} {x : Wx} {Z : Zt} {Q : Option Value → Wx → Zt → Prop} {b : Nat} (o : Is12 x b) {P : Nat → Nat → Int} {p g : Int} {F : Nat → Int} (hp : CF p g F ∧ Z b 11 = p) (hg : Z b 12 = g) (hP : MS Z b P) (h0 : P 0 = F) (hQ : RQ p g (P 5, P 6)) (h : ∀ (Z' : Zt) (P' : Nat → Nat → Int), (MS Z' b P' ∧ Oth Z Z' (O4 b) ∧ (P' 5, P' 6) = mnc p (rdn p F g 4 (P 5, P 6)) ∧ (∀ q : Nat, q ≠ 5 → q ≠ 6 → q ≠ 16 → q ≠ 17 → q ≠ 22 → q ≠ 23 → P' q = P q)) → Q none x Z') : V mX12_reduces k n 0 [some (r_ b), none] [] x Z Q := by
  obtain ⟨hC, hb⟩ := hp
  have hp := hC.1
  have hpr := hp.rg
  have hgr := hC.2.2.2.2
  have eb : ∀ Z1 : Zt, Oth Z Z1 (O4 b) → Z1 b 11 = p := fun Z1 ho => by rw [ho b (by show ¬ (b = b + 4); omega)]; exact hb
  have eg : ∀ Z1 : Zt, Oth Z Z1 (O4 b) → Z1 b 12 = g := fun Z1 ho => by rw [ho b (by show ¬ (b = b + 4); omega)]; exact hg
  have t0 : (0 : Int).toNat = 0 := rfl
  have t5 : (5 : Int).toNat = 5 := rfl
  have t6 : (6 : Int).toNat = 6 := rfl
  have t16 : (16 : Int).toNat = 16 := rfl
  have t17 : (17 : Int).toNat = 17 := rfl
  have t22 : (22 : Int).toNat = 22 := rfl
  have t23 : (23 : Int).toNat = 23 := rfl
  have rgI : ∀ f : Nat → Int, InP p f → ∀ i : Nat, i < 24 → Rg (f i) := fun f h i _ => by have := h i; exact ⟨by omega, by omega⟩
  -- the end: a lead of 1
  have fin : ∀ (Z1 : Zt) (P1 : Nat → Nat → Int) (A : UV), MS Z1 b P1 → Oth Z Z1 (O4 b) → P1 5 = A.1 → P1 6 = A.2 → RQ p g A → pd A.1 ≤ g → A = rdn p F g 4 (P 5, P 6) → (∀ q : Nat, q ≠ 5 → q ≠ 6 → q ≠ 16 → q ≠ 17 → q ≠ 22 → q ≠ 23 → P1 q = P q) → V mX12_reduces k n 0 [some (r_ b), none] [] x Z1 Q := by
    intro Z1 P1 A m1 o1 e5 e6 hA hle he hk
    obtain ⟨⟨ia, fa⟩, _, a0, _, _⟩ := id hA
    have hl := pd_lead ia a0
    have hlt := pd_lt A.1
    have ea := m1.at (u := 5) (i := pd A.1) (by decide) (by omega)
    rw [t5, e5] at ea
    have hir := inv_rg hp hl
    refine b_X12_reduces_0 o ?_
    rw [t5, t22, eg Z1 o1]
    refine ⟨P1, m1, by decide, by rw [e5]; exact rgI _ ia, ?_⟩
    rw [e5]
    refine ⟨⟨by omega, by omega⟩, ⟨by omega, by omega⟩, fun _ => ⟨P1, m1, by decide, by rw [e5]; exact rgI _ ia, ?_⟩, fun cc => by omega⟩
    rw [e5, ea]
    refine ⟨by omega, p, ⟨hp, eb Z1 o1⟩, hl, fun i1 hi1 => ⟨P1, p, ⟨hp, eb Z1 o1⟩, m1, by decide, by omega, by rw [e5]; exact ia, fun Z2 hz2 => ⟨_, hz2.1, by decide, by decide, fun Z3 hz3 => ?_⟩⟩⟩
    rw [updP_s, e5, hi1] at hz3
    refine h Z3 _ ⟨hz3.1, o1.tr (hz2.2.tr hz3.2), ?_, fun q q1 q2 q3 q4 q5 q6 => by rw [updP_n _ _ q1, updP_n _ _ q5]; exact hk q q1 q2 q3 q4 q5 q6⟩
    rw [← he, updP_s, updP_n _ _ (show (6 : Nat) ≠ 5 by decide), updP_n _ _ (show (6 : Nat) ≠ 22 by decide), e6]; rfl
  by_cases cg : pd (P 5) ≤ g
  · exact fin Z P (P 5, P 6) hP Oth.rf rfl rfl hQ cg (rdn_stop cg 4).symm (fun _ _ _ _ _ _ _ => rfl)
  · obtain ⟨⟨iN, fN⟩, hdd, hQ2, hle⟩ := rstep_ok hC hQ (by show g < pd (P 5); omega)
    obtain ⟨⟨ia, fa⟩, ⟨iv, fv⟩, a0, a4, a2⟩ := id hQ
    have ia : InP p (P 5) := ia
    have fa : Fin (P 5) := fa
    have iv : InP p (P 6) := iv
    have fv : Fin (P 6) := fv
    have a0 : 0 ≤ pd (P 5) := a0
    have iN : InP p (padd p F (pmul p (P 6) (P 6)) (-1)) := iN
    have fN : Fin (padd p F (pmul p (P 6) (P 6)) (-1)) := fN
    have hge := pd_ge (P 5)
    have hlt := pd_lt (P 5)
    obtain ⟨⟨jU, fU⟩, _, u0, _, _⟩ := id hQ2
    have jU : InP p (dvQ p (padd p F (pmul p (P 6) (P 6)) (-1)) (P 5)) := jU
    have u0 : 0 ≤ pd (dvQ p (padd p F (pmul p (P 6) (P 6)) (-1)) (P 5)) := u0
    refine b_X12_reduces_0 o ?_
    rw [t5, t22, hg, t0, t6, t16, t17, t23]
    refine ⟨P, hP, by decide, rgI _ ia, ⟨by omega, by omega⟩, ⟨by omega, by omega⟩, fun cc => by omega, fun _ => ⟨P, p, ⟨hp, hb⟩, hP, by decide, ⟨iv, fv⟩, iv, fun Z1 hz1 => ⟨_, hz1.1, by decide, by decide, fun Z2 hz2 => ?_⟩⟩⟩
    rw [updP_n _ _ (show (0 : Nat) ≠ 22 by decide), h0] at hz2
    have o2 := hz1.2.tr hz2.2
    refine ⟨_, p, ⟨hp, eb Z2 o2⟩, hz2.1, by decide, by decide, ?_, ?_, fun Z3 hz3 => ?_⟩
    · rw [updP_s]; exact hC.2.1
    · rw [updP_n _ _ (by decide), updP_s]; exact pmul_in (by omega)
    rw [updP_s, updP_n _ _ (show (22 : Nat) ≠ 23 by decide), updP_s, updP_2] at hz3
    have o3 := o2.tr hz3.2
    have m3 : MS Z3 b (updP (updP P 22 (pmul p (P 6) (P 6))) 23 (padd p F (pmul p (P 6) (P 6)) (-1))) := hz3.1.eq (fun q i hq hi => by
      by_cases cq : q = 23
      · subst cq; rw [updP_s, updP_s]; exact pads0 i hi
      · rw [updP_n _ _ cq, updP_n _ _ cq])
    refine ⟨_, p, ⟨hp, eb Z3 o3⟩, m3, by decide, ?_, ?_, fun Z4 hz4 => ?_⟩
    · rw [updP_s]; exact ⟨iN, fN⟩
    · rw [updP_n _ _ (by decide), updP_n _ _ (by decide)]; exact ⟨ia, a0⟩
    rw [updP_s, updP_n _ _ (show (5 : Nat) ≠ 23 by decide), updP_n _ _ (show (5 : Nat) ≠ 22 by decide)] at hz4
    have o4 := o3.tr hz4.2
    obtain ⟨U, hU⟩ : ∃ U : Nat → Int, dvQ p (padd p F (pmul p (P 6) (P 6)) (-1)) (P 5) = U := ⟨_, rfl⟩
    obtain ⟨R, hR⟩ : ∃ R : Nat → Int, dvR p (padd p F (pmul p (P 6) (P 6)) (-1)) (P 5) = R := ⟨_, rfl⟩
    rw [hU] at jU u0
    rw [hU, hR] at hz4
    refine ⟨_, hz4.1, by decide, by decide, fun Z5 hz5 => ⟨_, hz5.1, by decide, fun Z6 hz6 => ?_⟩⟩
    rw [updP_n _ _ (show (16 : Nat) ≠ 17 by decide), updP_s] at hz5 hz6
    have o6 := o4.tr (hz5.2.tr hz6.2)
    refine ⟨_, p, ⟨hp, eb Z6 o6⟩, hz6.1, by decide, by decide, ?_, ?_, fun Z7 hz7 => ?_⟩
    · rw [updP_s]; intro i; show (0 : Int) ≤ 0 ∧ 0 < p; omega
    · rw [updP_n _ _ (by decide), updP_n _ _ (by decide), updP_n _ _ (by decide), updP_n _ _ (by decide), updP_n _ _ (by decide), updP_n _ _ (by decide)]; exact iv
    rw [updP_s, updP_n _ _ (show (6 : Nat) ≠ 23 by decide), updP_n _ _ (show (6 : Nat) ≠ 5 by decide), updP_n _ _ (show (6 : Nat) ≠ 17 by decide), updP_n _ _ (show (6 : Nat) ≠ 16 by decide), updP_n _ _ (show (6 : Nat) ≠ 23 by decide), updP_n _ _ (show (6 : Nat) ≠ 22 by decide), updP_2] at hz7
    have o7 := o6.tr hz7.2
    have m7 : MS Z7 b (updP (updP (updP (updP (updP (updP P 22 (pmul p (P 6) (P 6))) 23 (padd p F (pmul p (P 6) (P 6)) (-1))) 16 U) 17 R) 5 U) 23 (pscl p (P 6) (-1))) := hz7.1.eq (fun q i hq hi => by
      by_cases cq : q = 23
      · subst cq
        rw [updP_s, updP_s]
        unfold pads pscl
        rw [if_pos ⟨Nat.zero_le _, hi⟩]
        show (0 + -1 * P 6 (i - 0)) % p = (P 6 i * -1) % p
        rw [Int.zero_add, Nat.sub_zero, Int.mul_comm]
      · rw [updP_n _ _ cq, updP_n _ _ cq])
    have iS : InP p (pscl p (P 6) (-1)) := pscl_in (by omega)
    have fS : Fin (pscl p (P 6) (-1)) := fun i hi => by show P 6 i * -1 % p = 0; rw [fv i hi]; simp
    refine ⟨_, p, ⟨hp, eb Z7 o7⟩, m7, by decide, ?_, ?_, fun Z8 hz8 => ⟨_, hz8.1, by decide, by decide, fun Z9 hz9 => ?_⟩⟩
    · rw [updP_s]; exact ⟨iS, fS⟩
    · rw [updP_n _ _ (by decide), updP_s]; exact ⟨jU, u0⟩
    rw [updP_s, updP_s, updP_n _ _ (show (5 : Nat) ≠ 23 by decide), updP_s] at hz9
    have o9 := o7.tr (hz8.2.tr hz9.2)
    refine fin Z9 _ (rstep p F (P 5, P 6)) hz9.1 o9 ?_ ?_ hQ2 hle ?_ (fun q q1 q2 q3 q4 q5 q6 => ?_)
    · rw [updP_n _ _ (by decide), updP_n _ _ (by decide), updP_n _ _ (by decide), updP_n _ _ (by decide), updP_s]; exact hU.symm
    · rw [updP_s, ← hU]; rfl
    · show _ = (if pd (P 5) ≤ g then _ else rdn p F g 3 (rstep p F (P 5, P 6)))
      rw [if_neg cg, rdn_stop hle 3]
    · rw [updP_n _ _ q2, updP_n _ _ q4, updP_n _ _ q3, updP_n _ _ q6, updP_n _ _ q1, updP_n _ _ q4, updP_n _ _ q3, updP_n _ _ q6, updP_n _ _ q5]
