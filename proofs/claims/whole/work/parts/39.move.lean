theorem dX2_move_0 : decode cX2_move 0 = .ok (.aload_n 0, 1) := by decide +kernel
theorem dX2_move_1 : decode cX2_move 1 = .ok (.getfield 48, 3) := by decide +kernel
theorem dX2_move_4 : decode cX2_move 4 = .ok (.iconst 0, 1) := by decide +kernel
theorem dX2_move_5 : decode cX2_move 5 = .ok (.invokestatic 112, 3) := by decide +kernel
theorem dX2_move_8 : decode cX2_move 8 = .ok (.aload_n 1, 1) := by decide +kernel
theorem dX2_move_9 : decode cX2_move 9 = .ok (.getfield 65, 3) := by decide +kernel
theorem dX2_move_12 : decode cX2_move 12 = .ok (.istore 4, 2) := by decide +kernel
theorem dX2_move_14 : decode cX2_move 14 = .ok (.iload 4, 2) := by decide +kernel
theorem dX2_move_16 : decode cX2_move 16 = .ok (.ifCond .lt 92, 3) := by decide +kernel
theorem dX2_move_19 : decode cX2_move 19 = .ok (.aload_n 0, 1) := by decide +kernel
theorem dX2_move_20 : decode cX2_move 20 = .ok (.getfield 48, 3) := by decide +kernel
theorem dX2_move_23 : decode cX2_move 23 = .ok (.arraylength, 1) := by decide +kernel
theorem dX2_move_24 : decode cX2_move 24 = .ok (.iconst 1, 1) := by decide +kernel
theorem dX2_move_25 : decode cX2_move 25 = .ok (.isub, 1) := by decide +kernel
theorem dX2_move_26 : decode cX2_move 26 = .ok (.istore 5, 2) := by decide +kernel
theorem dX2_move_28 : decode cX2_move 28 = .ok (.iload 5, 2) := by decide +kernel
theorem dX2_move_30 : decode cX2_move 30 = .ok (.ifCond .le 44, 3) := by decide +kernel
theorem dX2_move_33 : decode cX2_move 33 = .ok (.aload_n 0, 1) := by decide +kernel
theorem dX2_move_34 : decode cX2_move 34 = .ok (.getfield 48, 3) := by decide +kernel
theorem dX2_move_37 : decode cX2_move 37 = .ok (.iload 5, 2) := by decide +kernel
theorem dX2_move_39 : decode cX2_move 39 = .ok (.aload_n 0, 1) := by decide +kernel
theorem dX2_move_40 : decode cX2_move 40 = .ok (.getfield 12, 3) := by decide +kernel
theorem dX2_move_43 : decode cX2_move 43 = .ok (.iload_n 3, 1) := by decide +kernel
theorem dX2_move_44 : decode cX2_move 44 = .ok (.aload_n 0, 1) := by decide +kernel
theorem dX2_move_45 : decode cX2_move 45 = .ok (.getfield 48, 3) := by decide +kernel
theorem dX2_move_48 : decode cX2_move 48 = .ok (.iload 5, 2) := by decide +kernel
theorem dX2_move_50 : decode cX2_move 50 = .ok (.iaload, 1) := by decide +kernel
theorem dX2_move_51 : decode cX2_move 51 = .ok (.imul, 1) := by decide +kernel
theorem dX2_move_52 : decode cX2_move 52 = .ok (.iload_n 2, 1) := by decide +kernel
theorem dX2_move_53 : decode cX2_move 53 = .ok (.aload_n 0, 1) := by decide +kernel
theorem dX2_move_54 : decode cX2_move 54 = .ok (.getfield 48, 3) := by decide +kernel
theorem dX2_move_57 : decode cX2_move 57 = .ok (.iload 5, 2) := by decide +kernel
theorem dX2_move_59 : decode cX2_move 59 = .ok (.iconst 1, 1) := by decide +kernel
theorem dX2_move_60 : decode cX2_move 60 = .ok (.isub, 1) := by decide +kernel
theorem dX2_move_61 : decode cX2_move 61 = .ok (.iaload, 1) := by decide +kernel
theorem dX2_move_62 : decode cX2_move 62 = .ok (.imul, 1) := by decide +kernel
theorem dX2_move_63 : decode cX2_move 63 = .ok (.iadd, 1) := by decide +kernel
theorem dX2_move_64 : decode cX2_move 64 = .ok (.invokevirtual 109, 3) := by decide +kernel
theorem dX2_move_67 : decode cX2_move 67 = .ok (.iastore, 1) := by decide +kernel
theorem dX2_move_68 : decode cX2_move 68 = .ok (.iinc 5 (-1), 3) := by decide +kernel
theorem dX2_move_71 : decode cX2_move 71 = .ok (.goto (-43), 3) := by decide +kernel
theorem dX2_move_74 : decode cX2_move 74 = .ok (.aload_n 0, 1) := by decide +kernel
theorem dX2_move_75 : decode cX2_move 75 = .ok (.getfield 48, 3) := by decide +kernel
theorem dX2_move_78 : decode cX2_move 78 = .ok (.iconst 0, 1) := by decide +kernel
theorem dX2_move_79 : decode cX2_move 79 = .ok (.aload_n 0, 1) := by decide +kernel
theorem dX2_move_80 : decode cX2_move 80 = .ok (.getfield 12, 3) := by decide +kernel
theorem dX2_move_83 : decode cX2_move 83 = .ok (.iload_n 3, 1) := by decide +kernel
theorem dX2_move_84 : decode cX2_move 84 = .ok (.aload_n 0, 1) := by decide +kernel
theorem dX2_move_85 : decode cX2_move 85 = .ok (.getfield 48, 3) := by decide +kernel
theorem dX2_move_88 : decode cX2_move 88 = .ok (.iconst 0, 1) := by decide +kernel
theorem dX2_move_89 : decode cX2_move 89 = .ok (.iaload, 1) := by decide +kernel
theorem dX2_move_90 : decode cX2_move 90 = .ok (.imul, 1) := by decide +kernel
theorem dX2_move_91 : decode cX2_move 91 = .ok (.aload_n 1, 1) := by decide +kernel
theorem dX2_move_92 : decode cX2_move 92 = .ok (.iload 4, 2) := by decide +kernel
theorem dX2_move_94 : decode cX2_move 94 = .ok (.invokevirtual 105, 3) := by decide +kernel
theorem dX2_move_97 : decode cX2_move 97 = .ok (.iadd, 1) := by decide +kernel
theorem dX2_move_98 : decode cX2_move 98 = .ok (.invokevirtual 109, 3) := by decide +kernel
theorem dX2_move_101 : decode cX2_move 101 = .ok (.iastore, 1) := by decide +kernel
theorem dX2_move_102 : decode cX2_move 102 = .ok (.iinc 4 (-1), 3) := by decide +kernel
theorem dX2_move_105 : decode cX2_move 105 = .ok (.goto (-91), 3) := by decide +kernel
theorem dX2_move_108 : decode cX2_move 108 = .ok (.return_, 1) := by decide +kernel
set_option maxRecDepth 20000 in
theorem b_X2_move_0 {k n : Nat} {x : Wx} {Z : Zt} {Q : Option Value → Wx → Zt → Prop} {a0 : Nat} {a1 : Nat} {v2 : Int} {v3 : Int} (o_a0 : Is2 x a0) (o_a1 : Is7 x a1)
    (h : ∀ Z1 : Zt, Z1 = fillZ Z (a0 + 13) 6 (0 : Int) → (V mX2_move k n 14 [some (r_ a0), some (r_ a1), some (i_ v2), some (i_ v3), some (i_ (Z1 a1 0)), none] [] x Z1 Q)) :
    V mX2_move k n 0 [some (r_ a0), some (r_ a1), some (i_ v2), some (i_ v3), none, none] [] x Z Q :=
  V_aload_n dX2_move_0 rfl (G_2_11 o_a0.1 o_a0.2.2.2.2.2.2.2.2.2.2.2.2.2.2.2.2.2.2.2.1 lf_2_48 dX2_move_1 (V_iconst dX2_move_4 (V_callS (k' := 0) (n' := 0) [r_ (a0 + 13), i_ 0] [] okJ7_fill_53178 lm_2_112 lsJ7_fill_53178 (Nat.le_of_ble_eq_true rfl) (Nat.le_of_ble_eq_true rfl) (Nat.le_of_ble_eq_true rfl) (cat_of rfl) (Nat.le_of_ble_eq_true rfl) (Nat.zero_le _) (Nat.zero_le _) rfl dX2_move_5 (sp_J7_fill_53178 o_a0.2.2.2.2.2.2.2.2.2.2.2.2.2.2.2.2.2.2.2.2.1 (Nat.le_of_ble_eq_true rfl)  (V_nmZ (fun Z1 eZ1 => V_aload_n dX2_move_8 rfl (G_7_0 o_a1.1 lf_2_65 dX2_move_9 (V_istore (lv' := [some (r_ a0), some (r_ a1), some (i_ v2), some (i_ v3), some (i_ (Z1 a1 0)), none]) dX2_move_12 (Nat.le_of_ble_eq_true rfl) rfl (V_msk [true, true, true, true, true, false] rfl (h Z1 eZ1))))))))))
set_option maxRecDepth 20000 in
theorem b_X2_move_14 {k n : Nat} {x : Wx} {Z : Zt} {Q : Option Value → Wx → Zt → Prop} {a0 : Nat} {a1 : Nat} {v2 : Int} {v3 : Int} {v4 : Int} (o_a0 : Is2 x a0)
    (h : Rg v4 ∧ (((v4 < 0) → (Q none x Z)) ∧ ((0 ≤ v4) → (V mX2_move k n 28 [some (r_ a0), some (r_ a1), some (i_ v2), some (i_ v3), some (i_ v4), some (i_ (6 - 1))] [] x Z Q)))) :
    V mX2_move k n 14 [some (r_ a0), some (r_ a1), some (i_ v2), some (i_ v3), some (i_ v4), none] [] x Z Q :=
  V_iload dX2_move_14 rfl (V_if_lt (tgt := 108) dX2_move_16 rfl h.1 (fun c1 => V_ret dX2_move_108 rfl (h.2.1 c1)) (fun c1 => V_aload_n dX2_move_19 rfl (G_2_11 o_a0.1 o_a0.2.2.2.2.2.2.2.2.2.2.2.2.2.2.2.2.2.2.2.1 lf_2_48 dX2_move_20 (V_alen (t := 100) o_a0.2.2.2.2.2.2.2.2.2.2.2.2.2.2.2.2.2.2.2.2.1 (by decide) (Nat.le_of_ble_eq_true rfl) dX2_move_23 (V_iconst dX2_move_24 (V_isub dX2_move_25 (V_istore (lv' := [some (r_ a0), some (r_ a1), some (i_ v2), some (i_ v3), some (i_ v4), some (i_ (6 - 1))]) dX2_move_26 (Nat.le_of_ble_eq_true rfl) rfl (V_msk [true, true, true, true, true, true] rfl (h.2.2 c1)))))))))
set_option maxRecDepth 20000 in
theorem b_X2_move_28 {k n : Nat} {x : Wx} {Z : Zt} {Q : Option Value → Wx → Zt → Prop} {a0 : Nat} {a1 : Nat} {v2 : Int} {v3 : Int} {v4 : Int} {v5 : Int} (o_a0 : Is2 x a0) (o_a1 : Is7 x a1)
    (h : Rg v5 ∧ (((v5 ≤ 0) → (0 ≤ v4 ∧ v4 < 10 ∧ (Rg ((v3 * (Z (a0 + 13) 0)) + (Z (a1 + 1) (Int.toNat v4))) ∧ 2 ≤ Z (a0 + 1) 0 ∧ Z (a0 + 1) 0 ≤ 13 ∧ (∀ Z1 : Zt, Z1 = up Z (a0 + 13) 0 (((v3 * (Z (a0 + 13) 0)) + (Z (a1 + 1) (Int.toNat v4))) % Z (a0 + 1) 0) → (V mX2_move k n 14 [some (r_ a0), some (r_ a1), some (i_ v2), some (i_ v3), some (i_ (v4 + (-1))), none] [] x Z1 Q))))) ∧ ((0 < v5) → (0 ≤ v5 ∧ v5 < 6 ∧ (0 ≤ v5 - 1 ∧ v5 - 1 < 6 ∧ (Rg ((v3 * (Z (a0 + 13) v5.toNat)) + (v2 * (Z (a0 + 13) (v5 - 1).toNat))) ∧ 2 ≤ Z (a0 + 1) 0 ∧ Z (a0 + 1) 0 ≤ 13 ∧ (∀ Z2 : Zt, Z2 = up Z (a0 + 13) v5.toNat (((v3 * (Z (a0 + 13) v5.toNat)) + (v2 * (Z (a0 + 13) (v5 - 1).toNat))) % Z (a0 + 1) 0) → (V mX2_move k n 28 [some (r_ a0), some (r_ a1), some (i_ v2), some (i_ v3), some (i_ v4), some (i_ (v5 + (-1)))] [] x Z2 Q)))))))) :
    V mX2_move k n 28 [some (r_ a0), some (r_ a1), some (i_ v2), some (i_ v3), some (i_ v4), some (i_ v5)] [] x Z Q :=
  V_iload dX2_move_28 rfl (V_if_le (tgt := 74) dX2_move_30 rfl h.1 (fun c1 => V_aload_n dX2_move_74 rfl (G_2_11 o_a0.1 o_a0.2.2.2.2.2.2.2.2.2.2.2.2.2.2.2.2.2.2.2.1 lf_2_48 dX2_move_75 (V_iconst dX2_move_78 (V_aload_n dX2_move_79 rfl (G_2_0 o_a0.1 o_a0.2.1 lf_2_12 dX2_move_80 (V_iload_n dX2_move_83 rfl (V_aload_n dX2_move_84 rfl (G_2_11 o_a0.1 o_a0.2.2.2.2.2.2.2.2.2.2.2.2.2.2.2.2.2.2.2.1 lf_2_48 dX2_move_85 (V_iconst dX2_move_88 (V_iald (t := 100) o_a0.2.2.2.2.2.2.2.2.2.2.2.2.2.2.2.2.2.2.2.2.1 (by decide) rfl (by decide) (by decide) (Nat.le_of_ble_eq_true rfl) dX2_move_89 (V_imul dX2_move_90 (V_aload_n dX2_move_91 rfl (V_iload dX2_move_92 rfl (V_callV (k' := 0) (n' := 0) (t := 7) (q := (RX7, TX7, 2)) [i_ v4] [i_ (v3 * (Z (a0 + 13) 0)), r_ (a0 + 1), i_ 0, r_ (a0 + 13)] okX7_at o_a1.1 rfl rfl lm_2_105 liX7_at lqX7_at (Nat.le_of_ble_eq_true rfl) (Nat.le_of_ble_eq_true rfl) (Nat.le_of_ble_eq_true rfl) (cat_of rfl) (Nat.le_of_ble_eq_true rfl) (Nat.zero_le _) (Nat.zero_le _) rfl dX2_move_94 (sp_X7_at o_a1 (h.2.1 c1).1 (h.2.1 c1).2.1 (V_iadd dX2_move_97 (V_callV (k' := 0) (n' := 0) (t := 4) (q := (RX4, TX4, 4)) [i_ ((v3 * (Z (a0 + 13) 0)) + (Z (a1 + 1) (Int.toNat v4)))] [i_ 0, r_ (a0 + 13)] okX4_rem o_a0.2.2.1.1 rfl rfl lm_2_109 liX4_rem lqX4_rem (Nat.le_of_ble_eq_true rfl) (Nat.le_of_ble_eq_true rfl) (Nat.le_of_ble_eq_true rfl) (cat_of rfl) (Nat.le_of_ble_eq_true rfl) (Nat.zero_le _) (Nat.zero_le _) rfl dX2_move_98 (sp_X4_rem o_a0.2.2.1 (h.2.1 c1).2.2.1 (h.2.1 c1).2.2.2.1 (h.2.1 c1).2.2.2.2.1 (V_iast (t := 100) o_a0.2.2.2.2.2.2.2.2.2.2.2.2.2.2.2.2.2.2.2.2.1 (by decide) (by decide) rfl (by decide) (by decide) (Nat.le_of_ble_eq_true rfl) dX2_move_101 (V_nmZ (fun Z1 eZ1 => V_iinc (lv' := [some (r_ a0), some (r_ a1), some (i_ v2), some (i_ v3), some (i_ (v4 + (-1))), some (i_ v5)]) dX2_move_102 rfl (Nat.le_of_ble_eq_true rfl) rfl (V_goto (tgt := 14) dX2_move_105 rfl (V_msk [true, true, true, true, true, false] rfl ((h.2.1 c1).2.2.2.2.2 Z1 eZ1)))))))))))))))))))))))) (fun c1 => V_aload_n dX2_move_33 rfl (G_2_11 o_a0.1 o_a0.2.2.2.2.2.2.2.2.2.2.2.2.2.2.2.2.2.2.2.1 lf_2_48 dX2_move_34 (V_iload dX2_move_37 rfl (V_aload_n dX2_move_39 rfl (G_2_0 o_a0.1 o_a0.2.1 lf_2_12 dX2_move_40 (V_iload_n dX2_move_43 rfl (V_aload_n dX2_move_44 rfl (G_2_11 o_a0.1 o_a0.2.2.2.2.2.2.2.2.2.2.2.2.2.2.2.2.2.2.2.1 lf_2_48 dX2_move_45 (V_iload dX2_move_48 rfl (V_iald (t := 100) o_a0.2.2.2.2.2.2.2.2.2.2.2.2.2.2.2.2.2.2.2.2.1 (by decide) rfl (h.2.2 c1).1 (h.2.2 c1).2.1 (Nat.le_of_ble_eq_true rfl) dX2_move_50 (V_imul dX2_move_51 (V_iload_n dX2_move_52 rfl (V_aload_n dX2_move_53 rfl (G_2_11 o_a0.1 o_a0.2.2.2.2.2.2.2.2.2.2.2.2.2.2.2.2.2.2.2.1 lf_2_48 dX2_move_54 (V_iload dX2_move_57 rfl (V_iconst dX2_move_59 (V_isub dX2_move_60 (V_iald (t := 100) o_a0.2.2.2.2.2.2.2.2.2.2.2.2.2.2.2.2.2.2.2.2.1 (by decide) rfl (h.2.2 c1).2.2.1 (h.2.2 c1).2.2.2.1 (Nat.le_of_ble_eq_true rfl) dX2_move_61 (V_imul dX2_move_62 (V_iadd dX2_move_63 (V_callV (k' := 0) (n' := 0) (t := 4) (q := (RX4, TX4, 4)) [i_ ((v3 * (Z (a0 + 13) v5.toNat)) + (v2 * (Z (a0 + 13) (v5 - 1).toNat)))] [i_ v5, r_ (a0 + 13)] okX4_rem o_a0.2.2.1.1 rfl rfl lm_2_109 liX4_rem lqX4_rem (Nat.le_of_ble_eq_true rfl) (Nat.le_of_ble_eq_true rfl) (Nat.le_of_ble_eq_true rfl) (cat_of rfl) (Nat.le_of_ble_eq_true rfl) (Nat.zero_le _) (Nat.zero_le _) rfl dX2_move_64 (sp_X4_rem o_a0.2.2.1 (h.2.2 c1).2.2.2.2.1 (h.2.2 c1).2.2.2.2.2.1 (h.2.2 c1).2.2.2.2.2.2.1 (V_iast (t := 100) o_a0.2.2.2.2.2.2.2.2.2.2.2.2.2.2.2.2.2.2.2.2.1 (by decide) (by decide) rfl (h.2.2 c1).1 (h.2.2 c1).2.1 (Nat.le_of_ble_eq_true rfl) dX2_move_67 (V_nmZ (fun Z2 eZ2 => V_iinc (lv' := [some (r_ a0), some (r_ a1), some (i_ v2), some (i_ v3), some (i_ v4), some (i_ (v5 + (-1)))]) dX2_move_68 rfl (Nat.le_of_ble_eq_true rfl) rfl (V_goto (tgt := 28) dX2_move_71 rfl (V_msk [true, true, true, true, true, true] rfl ((h.2.2 c1).2.2.2.2.2.2.2 Z2 eZ2)))))))))))))))))))))))))))))
theorem dX2_isMovedTo_0 : decode cX2_isMovedTo 0 = .ok (.iconst 0, 1) := by decide +kernel
theorem dX2_isMovedTo_1 : decode cX2_isMovedTo 1 = .ok (.istore_n 2, 1) := by decide +kernel
theorem dX2_isMovedTo_2 : decode cX2_isMovedTo 2 = .ok (.iload_n 2, 1) := by decide +kernel
theorem dX2_isMovedTo_3 : decode cX2_isMovedTo 3 = .ok (.aload_n 0, 1) := by decide +kernel
theorem dX2_isMovedTo_4 : decode cX2_isMovedTo 4 = .ok (.getfield 48, 3) := by decide +kernel
theorem dX2_isMovedTo_7 : decode cX2_isMovedTo 7 = .ok (.arraylength, 1) := by decide +kernel
theorem dX2_isMovedTo_8 : decode cX2_isMovedTo 8 = .ok (.if_icmp .ge 37, 3) := by decide +kernel
theorem dX2_isMovedTo_11 : decode cX2_isMovedTo 11 = .ok (.aload_n 0, 1) := by decide +kernel
theorem dX2_isMovedTo_12 : decode cX2_isMovedTo 12 = .ok (.getfield 48, 3) := by decide +kernel
theorem dX2_isMovedTo_15 : decode cX2_isMovedTo 15 = .ok (.iload_n 2, 1) := by decide +kernel
theorem dX2_isMovedTo_16 : decode cX2_isMovedTo 16 = .ok (.iaload, 1) := by decide +kernel
theorem dX2_isMovedTo_17 : decode cX2_isMovedTo 17 = .ok (.aload_n 0, 1) := by decide +kernel
theorem dX2_isMovedTo_18 : decode cX2_isMovedTo 18 = .ok (.getfield 12, 3) := by decide +kernel
theorem dX2_isMovedTo_21 : decode cX2_isMovedTo 21 = .ok (.iload_n 1, 1) := by decide +kernel
theorem dX2_isMovedTo_22 : decode cX2_isMovedTo 22 = .ok (.aload_n 0, 1) := by decide +kernel
theorem dX2_isMovedTo_23 : decode cX2_isMovedTo 23 = .ok (.getfield 21, 3) := by decide +kernel
theorem dX2_isMovedTo_26 : decode cX2_isMovedTo 26 = .ok (.iload_n 2, 1) := by decide +kernel
theorem dX2_isMovedTo_27 : decode cX2_isMovedTo 27 = .ok (.invokevirtual 105, 3) := by decide +kernel
theorem dX2_isMovedTo_30 : decode cX2_isMovedTo 30 = .ok (.imul, 1) := by decide +kernel
theorem dX2_isMovedTo_31 : decode cX2_isMovedTo 31 = .ok (.invokevirtual 109, 3) := by decide +kernel
theorem dX2_isMovedTo_34 : decode cX2_isMovedTo 34 = .ok (.if_icmp .eq 5, 3) := by decide +kernel
theorem dX2_isMovedTo_37 : decode cX2_isMovedTo 37 = .ok (.iconst 0, 1) := by decide +kernel
theorem dX2_isMovedTo_38 : decode cX2_isMovedTo 38 = .ok (.ireturn, 1) := by decide +kernel
theorem dX2_isMovedTo_39 : decode cX2_isMovedTo 39 = .ok (.iinc 2 1, 3) := by decide +kernel
theorem dX2_isMovedTo_42 : decode cX2_isMovedTo 42 = .ok (.goto (-40), 3) := by decide +kernel
theorem dX2_isMovedTo_45 : decode cX2_isMovedTo 45 = .ok (.iconst 1, 1) := by decide +kernel
theorem dX2_isMovedTo_46 : decode cX2_isMovedTo 46 = .ok (.ireturn, 1) := by decide +kernel
set_option maxRecDepth 20000 in
theorem b_X2_isMovedTo_0 {k n : Nat} {x : Wx} {Z : Zt} {Q : Option Value → Wx → Zt → Prop} {a0 : Nat} {v1 : Int} 
    (h : V mX2_isMovedTo k n 2 [some (r_ a0), some (i_ v1), some (i_ 0)] [] x Z Q) :
    V mX2_isMovedTo k n 0 [some (r_ a0), some (i_ v1), none] [] x Z Q :=
  V_iconst dX2_isMovedTo_0 (V_istore_n (lv' := [some (r_ a0), some (i_ v1), some (i_ 0)]) dX2_isMovedTo_1 (Nat.le_of_ble_eq_true rfl) rfl (V_msk [true, true, true] rfl h))
set_option maxRecDepth 20000 in
theorem b_X2_isMovedTo_2 {k n : Nat} {x : Wx} {Z : Zt} {Q : Option Value → Wx → Zt → Prop} {a0 : Nat} {v1 : Int} {v2 : Int} (o_a0 : Is2 x a0)
    (h : Rg v2 ∧ (((6 ≤ v2) → (Q (some (i_ 1)) x Z)) ∧ ((v2 < 6) → (0 ≤ v2 ∧ (v2 < 10 ∧ (Rg (v1 * (Z ((a0 + 4) + 1) (Int.toNat v2))) ∧ 2 ≤ Z (a0 + 1) 0 ∧ Z (a0 + 1) 0 ≤ 13 ∧ (Rg (Z (a0 + 13) v2.toNat) ∧ Rg ((v1 * (Z ((a0 + 4) + 1) (Int.toNat v2))) % Z (a0 + 1) 0) ∧ (((Z (a0 + 13) v2.toNat = (v1 * (Z ((a0 + 4) + 1) (Int.toNat v2))) % Z (a0 + 1) 0) → (V mX2_isMovedTo k n 2 [some (r_ a0), some (i_ v1), some (i_ (v2 + 1))] [] x Z Q)) ∧ ((Z (a0 + 13) v2.toNat ≠ (v1 * (Z ((a0 + 4) + 1) (Int.toNat v2))) % Z (a0 + 1) 0) → (Q (some (i_ 0)) x Z)))))))))) :
    V mX2_isMovedTo k n 2 [some (r_ a0), some (i_ v1), some (i_ v2)] [] x Z Q :=
  V_iload_n dX2_isMovedTo_2 rfl (V_aload_n dX2_isMovedTo_3 rfl (G_2_11 o_a0.1 o_a0.2.2.2.2.2.2.2.2.2.2.2.2.2.2.2.2.2.2.2.1 lf_2_48 dX2_isMovedTo_4 (V_alen (t := 100) o_a0.2.2.2.2.2.2.2.2.2.2.2.2.2.2.2.2.2.2.2.2.1 (by decide) (Nat.le_of_ble_eq_true rfl) dX2_isMovedTo_7 (V_icmp_ge (tgt := 45) dX2_isMovedTo_8 rfl h.1 (rg_c rfl) (fun c1 => V_iconst dX2_isMovedTo_45 (V_iret (ty := .boolean) dX2_isMovedTo_46 rfl rfl (h.2.1 c1))) (fun c1 => V_aload_n dX2_isMovedTo_11 rfl (G_2_11 o_a0.1 o_a0.2.2.2.2.2.2.2.2.2.2.2.2.2.2.2.2.2.2.2.1 lf_2_48 dX2_isMovedTo_12 (V_iload_n dX2_isMovedTo_15 rfl (V_iald (t := 100) o_a0.2.2.2.2.2.2.2.2.2.2.2.2.2.2.2.2.2.2.2.2.1 (by decide) rfl (h.2.2 c1).1 c1 (Nat.le_of_ble_eq_true rfl) dX2_isMovedTo_16 (V_aload_n dX2_isMovedTo_17 rfl (G_2_0 o_a0.1 o_a0.2.1 lf_2_12 dX2_isMovedTo_18 (V_iload_n dX2_isMovedTo_21 rfl (V_aload_n dX2_isMovedTo_22 rfl (G_2_1 o_a0.1 o_a0.2.2.2.1 lf_2_21 dX2_isMovedTo_23 (V_iload_n dX2_isMovedTo_26 rfl (V_callV (k' := 0) (n' := 0) (t := 7) (q := (RX7, TX7, 2)) [i_ v2] [i_ v1, r_ (a0 + 1), i_ (Z (a0 + 13) v2.toNat)] okX7_at o_a0.2.2.2.2.1.1 rfl rfl lm_2_105 liX7_at lqX7_at (Nat.le_of_ble_eq_true rfl) (Nat.le_of_ble_eq_true rfl) (Nat.le_of_ble_eq_true rfl) (cat_of rfl) (Nat.le_of_ble_eq_true rfl) (Nat.zero_le _) (Nat.zero_le _) rfl dX2_isMovedTo_27 (sp_X7_at o_a0.2.2.2.2.1 (h.2.2 c1).1 (h.2.2 c1).2.1 (V_imul dX2_isMovedTo_30 (V_callV (k' := 0) (n' := 0) (t := 4) (q := (RX4, TX4, 4)) [i_ (v1 * (Z ((a0 + 4) + 1) (Int.toNat v2)))] [i_ (Z (a0 + 13) v2.toNat)] okX4_rem o_a0.2.2.1.1 rfl rfl lm_2_109 liX4_rem lqX4_rem (Nat.le_of_ble_eq_true rfl) (Nat.le_of_ble_eq_true rfl) (Nat.le_of_ble_eq_true rfl) (cat_of rfl) (Nat.le_of_ble_eq_true rfl) (Nat.zero_le _) (Nat.zero_le _) rfl dX2_isMovedTo_31 (sp_X4_rem o_a0.2.2.1 (h.2.2 c1).2.2.1 (h.2.2 c1).2.2.2.1 (h.2.2 c1).2.2.2.2.1 (V_icmp_eq (tgt := 39) dX2_isMovedTo_34 rfl (h.2.2 c1).2.2.2.2.2.1 (h.2.2 c1).2.2.2.2.2.2.1 (fun c2 => V_iinc (lv' := [some (r_ a0), some (i_ v1), some (i_ (v2 + 1))]) dX2_isMovedTo_39 rfl (Nat.le_of_ble_eq_true rfl) rfl (V_goto (tgt := 2) dX2_isMovedTo_42 rfl (V_msk [true, true, true] rfl ((h.2.2 c1).2.2.2.2.2.2.2.1 c2)))) (fun c2 => V_iconst dX2_isMovedTo_37 (V_iret (ty := .boolean) dX2_isMovedTo_38 rfl rfl ((h.2.2 c1).2.2.2.2.2.2.2.2 c2)))))))))))))))))))))))
theorem dX2_nextPower_0 : decode cX2_nextPower 0 = .ok (.aload_n 0, 1) := by decide +kernel
theorem dX2_nextPower_1 : decode cX2_nextPower 1 = .ok (.getfield 142, 3) := by decide +kernel
theorem dX2_nextPower_4 : decode cX2_nextPower 4 = .ok (.iconst 1, 1) := by decide +kernel
theorem dX2_nextPower_5 : decode cX2_nextPower 5 = .ok (.isub, 1) := by decide +kernel
theorem dX2_nextPower_6 : decode cX2_nextPower 6 = .ok (.istore_n 1, 1) := by decide +kernel
theorem dX2_nextPower_7 : decode cX2_nextPower 7 = .ok (.iload_n 1, 1) := by decide +kernel
theorem dX2_nextPower_8 : decode cX2_nextPower 8 = .ok (.ifCond .lt 94, 3) := by decide +kernel
theorem dX2_nextPower_11 : decode cX2_nextPower 11 = .ok (.iload_n 1, 1) := by decide +kernel
theorem dX2_nextPower_12 : decode cX2_nextPower 12 = .ok (.aload_n 0, 1) := by decide +kernel
theorem dX2_nextPower_13 : decode cX2_nextPower 13 = .ok (.getfield 148, 3) := by decide +kernel
theorem dX2_nextPower_16 : decode cX2_nextPower 16 = .ok (.isub, 1) := by decide +kernel
theorem dX2_nextPower_17 : decode cX2_nextPower 17 = .ok (.istore_n 2, 1) := by decide +kernel
theorem dX2_nextPower_18 : decode cX2_nextPower 18 = .ok (.aload_n 0, 1) := by decide +kernel
theorem dX2_nextPower_19 : decode cX2_nextPower 19 = .ok (.getfield 51, 3) := by decide +kernel
theorem dX2_nextPower_22 : decode cX2_nextPower 22 = .ok (.iload_n 1, 1) := by decide +kernel
theorem dX2_nextPower_23 : decode cX2_nextPower 23 = .ok (.aload_n 0, 1) := by decide +kernel
theorem dX2_nextPower_24 : decode cX2_nextPower 24 = .ok (.getfield 12, 3) := by decide +kernel
theorem dX2_nextPower_27 : decode cX2_nextPower 27 = .ok (.aload_n 0, 1) := by decide +kernel
theorem dX2_nextPower_28 : decode cX2_nextPower 28 = .ok (.getfield 51, 3) := by decide +kernel
theorem dX2_nextPower_31 : decode cX2_nextPower 31 = .ok (.iload_n 1, 1) := by decide +kernel
theorem dX2_nextPower_32 : decode cX2_nextPower 32 = .ok (.iaload, 1) := by decide +kernel
theorem dX2_nextPower_33 : decode cX2_nextPower 33 = .ok (.aload_n 0, 1) := by decide +kernel
theorem dX2_nextPower_34 : decode cX2_nextPower 34 = .ok (.getfield 145, 3) := by decide +kernel
theorem dX2_nextPower_37 : decode cX2_nextPower 37 = .ok (.imul, 1) := by decide +kernel
theorem dX2_nextPower_38 : decode cX2_nextPower 38 = .ok (.iload_n 2, 1) := by decide +kernel
theorem dX2_nextPower_39 : decode cX2_nextPower 39 = .ok (.ifCond .lt 12, 3) := by decide +kernel
theorem dX2_nextPower_42 : decode cX2_nextPower 42 = .ok (.aload_n 0, 1) := by decide +kernel
theorem dX2_nextPower_43 : decode cX2_nextPower 43 = .ok (.getfield 51, 3) := by decide +kernel
theorem dX2_nextPower_46 : decode cX2_nextPower 46 = .ok (.iload_n 2, 1) := by decide +kernel
theorem dX2_nextPower_47 : decode cX2_nextPower 47 = .ok (.iaload, 1) := by decide +kernel
theorem dX2_nextPower_48 : decode cX2_nextPower 48 = .ok (.goto 4, 3) := by decide +kernel
theorem dX2_nextPower_51 : decode cX2_nextPower 51 = .ok (.iconst 0, 1) := by decide +kernel
theorem dX2_nextPower_52 : decode cX2_nextPower 52 = .ok (.iadd, 1) := by decide +kernel
theorem dX2_nextPower_53 : decode cX2_nextPower 53 = .ok (.invokevirtual 109, 3) := by decide +kernel
theorem dX2_nextPower_56 : decode cX2_nextPower 56 = .ok (.iastore, 1) := by decide +kernel
theorem dX2_nextPower_57 : decode cX2_nextPower 57 = .ok (.aload_n 0, 1) := by decide +kernel
theorem dX2_nextPower_58 : decode cX2_nextPower 58 = .ok (.getfield 54, 3) := by decide +kernel
theorem dX2_nextPower_61 : decode cX2_nextPower 61 = .ok (.iload_n 1, 1) := by decide +kernel
theorem dX2_nextPower_62 : decode cX2_nextPower 62 = .ok (.aload_n 0, 1) := by decide +kernel
theorem dX2_nextPower_63 : decode cX2_nextPower 63 = .ok (.getfield 12, 3) := by decide +kernel
theorem dX2_nextPower_66 : decode cX2_nextPower 66 = .ok (.aload_n 0, 1) := by decide +kernel
theorem dX2_nextPower_67 : decode cX2_nextPower 67 = .ok (.getfield 54, 3) := by decide +kernel
theorem dX2_nextPower_70 : decode cX2_nextPower 70 = .ok (.iload_n 1, 1) := by decide +kernel
theorem dX2_nextPower_71 : decode cX2_nextPower 71 = .ok (.iaload, 1) := by decide +kernel
theorem dX2_nextPower_72 : decode cX2_nextPower 72 = .ok (.aload_n 0, 1) := by decide +kernel
theorem dX2_nextPower_73 : decode cX2_nextPower 73 = .ok (.getfield 145, 3) := by decide +kernel
theorem dX2_nextPower_76 : decode cX2_nextPower 76 = .ok (.imul, 1) := by decide +kernel
theorem dX2_nextPower_77 : decode cX2_nextPower 77 = .ok (.iload_n 2, 1) := by decide +kernel
theorem dX2_nextPower_78 : decode cX2_nextPower 78 = .ok (.ifCond .lt 12, 3) := by decide +kernel
theorem dX2_nextPower_81 : decode cX2_nextPower 81 = .ok (.aload_n 0, 1) := by decide +kernel
theorem dX2_nextPower_82 : decode cX2_nextPower 82 = .ok (.getfield 54, 3) := by decide +kernel
theorem dX2_nextPower_85 : decode cX2_nextPower 85 = .ok (.iload_n 2, 1) := by decide +kernel
theorem dX2_nextPower_86 : decode cX2_nextPower 86 = .ok (.iaload, 1) := by decide +kernel
theorem dX2_nextPower_87 : decode cX2_nextPower 87 = .ok (.goto 4, 3) := by decide +kernel
theorem dX2_nextPower_90 : decode cX2_nextPower 90 = .ok (.iconst 0, 1) := by decide +kernel
theorem dX2_nextPower_91 : decode cX2_nextPower 91 = .ok (.iadd, 1) := by decide +kernel
theorem dX2_nextPower_92 : decode cX2_nextPower 92 = .ok (.invokevirtual 109, 3) := by decide +kernel
theorem dX2_nextPower_95 : decode cX2_nextPower 95 = .ok (.iastore, 1) := by decide +kernel
theorem dX2_nextPower_96 : decode cX2_nextPower 96 = .ok (.iinc 1 (-1), 3) := by decide +kernel
theorem dX2_nextPower_99 : decode cX2_nextPower 99 = .ok (.goto (-92), 3) := by decide +kernel
theorem dX2_nextPower_102 : decode cX2_nextPower 102 = .ok (.return_, 1) := by decide +kernel
set_option maxRecDepth 20000 in
theorem b_X2_nextPower_0 {k n : Nat} {x : Wx} {Z : Zt} {Q : Option Value → Wx → Zt → Prop} {a0 : Nat} (o_a0 : Is2 x a0)
    (h : V mX2_nextPower k n 7 [some (r_ a0), some (i_ ((Z a0 14) - 1)), none] [] x Z Q) :
    V mX2_nextPower k n 0 [some (r_ a0), none, none] [] x Z Q :=
  V_aload_n dX2_nextPower_0 rfl (G_2_14 o_a0.1 lf_2_142 dX2_nextPower_1 (V_iconst dX2_nextPower_4 (V_isub dX2_nextPower_5 (V_istore_n (lv' := [some (r_ a0), some (i_ ((Z a0 14) - 1)), none]) dX2_nextPower_6 (Nat.le_of_ble_eq_true rfl) rfl (V_msk [true, true, false] rfl h)))))
set_option maxRecDepth 20000 in
theorem b_X2_nextPower_7 {k n : Nat} {x : Wx} {Z : Zt} {Q : Option Value → Wx → Zt → Prop} {a0 : Nat} {v1 : Int} (o_a0 : Is2 x a0)
    (h : Rg v1 ∧ (((v1 < 0) → (Q none x Z)) ∧ ((0 ≤ v1) → (v1 < 40 ∧ (Rg (v1 - (Z a0 15)) ∧ (((v1 - (Z a0 15) < 0) → (V mX2_nextPower k n 52 [some (r_ a0), some (i_ v1), some (i_ (v1 - (Z a0 15)))] [i_ 0, i_ ((Z (a0 + 14) v1.toNat) * (Z a0 16)), r_ (a0 + 1), i_ v1, r_ (a0 + 14)] x Z Q)) ∧ ((0 ≤ v1 - (Z a0 15)) → (v1 - (Z a0 15) < 40 ∧ (V mX2_nextPower k n 52 [some (r_ a0), some (i_ v1), some (i_ (v1 - (Z a0 15)))] [i_ (Z (a0 + 14) (v1 - (Z a0 15)).toNat), i_ ((Z (a0 + 14) v1.toNat) * (Z a0 16)), r_ (a0 + 1), i_ v1, r_ (a0 + 14)] x Z Q))))))))) :
    V mX2_nextPower k n 7 [some (r_ a0), some (i_ v1), none] [] x Z Q :=
  V_iload_n dX2_nextPower_7 rfl (V_if_lt (tgt := 102) dX2_nextPower_8 rfl h.1 (fun c1 => V_ret dX2_nextPower_102 rfl (h.2.1 c1)) (fun c1 => V_iload_n dX2_nextPower_11 rfl (V_aload_n dX2_nextPower_12 rfl (G_2_15 o_a0.1 lf_2_148 dX2_nextPower_13 (V_isub dX2_nextPower_16 (V_istore_n (lv' := [some (r_ a0), some (i_ v1), some (i_ (v1 - (Z a0 15)))]) dX2_nextPower_17 (Nat.le_of_ble_eq_true rfl) rfl (V_aload_n dX2_nextPower_18 rfl (G_2_12 o_a0.1 o_a0.2.2.2.2.2.2.2.2.2.2.2.2.2.2.2.2.2.2.2.2.2.1 lf_2_51 dX2_nextPower_19 (V_iload_n dX2_nextPower_22 rfl (V_aload_n dX2_nextPower_23 rfl (G_2_0 o_a0.1 o_a0.2.1 lf_2_12 dX2_nextPower_24 (V_aload_n dX2_nextPower_27 rfl (G_2_12 o_a0.1 o_a0.2.2.2.2.2.2.2.2.2.2.2.2.2.2.2.2.2.2.2.2.2.1 lf_2_51 dX2_nextPower_28 (V_iload_n dX2_nextPower_31 rfl (V_iald (t := 100) o_a0.2.2.2.2.2.2.2.2.2.2.2.2.2.2.2.2.2.2.2.2.2.2.1 (by decide) rfl c1 (h.2.2 c1).1 (Nat.le_of_ble_eq_true rfl) dX2_nextPower_32 (V_aload_n dX2_nextPower_33 rfl (G_2_16 o_a0.1 lf_2_145 dX2_nextPower_34 (V_imul dX2_nextPower_37 (V_iload_n dX2_nextPower_38 rfl (V_if_lt (tgt := 51) dX2_nextPower_39 rfl (h.2.2 c1).2.1 (fun c2 => V_iconst dX2_nextPower_51 (V_msk [true, true, true] rfl ((h.2.2 c1).2.2.1 c2))) (fun c2 => V_aload_n dX2_nextPower_42 rfl (G_2_12 o_a0.1 o_a0.2.2.2.2.2.2.2.2.2.2.2.2.2.2.2.2.2.2.2.2.2.1 lf_2_51 dX2_nextPower_43 (V_iload_n dX2_nextPower_46 rfl (V_iald (t := 100) o_a0.2.2.2.2.2.2.2.2.2.2.2.2.2.2.2.2.2.2.2.2.2.2.1 (by decide) rfl c2 ((h.2.2 c1).2.2.2 c2).1 (Nat.le_of_ble_eq_true rfl) dX2_nextPower_47 (V_goto (tgt := 52) dX2_nextPower_48 rfl (V_msk [true, true, true] rfl ((h.2.2 c1).2.2.2 c2).2))))))))))))))))))))))))))
set_option maxRecDepth 20000 in
theorem b_X2_nextPower_52 {k n : Nat} {x : Wx} {Z : Zt} {Q : Option Value → Wx → Zt → Prop} {a0 : Nat} {v1 : Int} {v2 : Int} {b0_ : Nat} {t1 : Int} {b2_ : Nat} {t3 : Int} {t4 : Int} (o_b2 : Is4 x b2_) (o_a0 : Is2 x a0) (s_b0 : x.1 b0_ = some (100, 40))
    (h : Rg (t3 + t4) ∧ 2 ≤ Z b2_ 0 ∧ Z b2_ 0 ≤ 13 ∧ (0 ≤ t1 ∧ t1 < 40 ∧ (∀ Z1 : Zt, Z1 = up Z b0_ t1.toNat ((t3 + t4) % Z b2_ 0) → (0 ≤ v1 ∧ v1 < 40 ∧ (Rg v2 ∧ (((v2 < 0) → (V mX2_nextPower k n 91 [some (r_ a0), some (i_ v1), none] [i_ 0, i_ ((Z1 (a0 + 15) v1.toNat) * (Z1 a0 16)), r_ (a0 + 1), i_ v1, r_ (a0 + 15)] x Z1 Q)) ∧ ((0 ≤ v2) → (v2 < 40 ∧ (V mX2_nextPower k n 91 [some (r_ a0), some (i_ v1), none] [i_ (Z1 (a0 + 15) v2.toNat), i_ ((Z1 (a0 + 15) v1.toNat) * (Z1 a0 16)), r_ (a0 + 1), i_ v1, r_ (a0 + 15)] x Z1 Q))))))))) :
    V mX2_nextPower k n 52 [some (r_ a0), some (i_ v1), some (i_ v2)] [i_ t4, i_ t3, r_ b2_, i_ t1, r_ b0_] x Z Q :=
  V_iadd dX2_nextPower_52 (V_callV (k' := 0) (n' := 0) (t := 4) (q := (RX4, TX4, 4)) [i_ (t3 + t4)] [i_ t1, r_ b0_] okX4_rem o_b2.1 rfl rfl lm_2_109 liX4_rem lqX4_rem (Nat.le_of_ble_eq_true rfl) (Nat.le_of_ble_eq_true rfl) (Nat.le_of_ble_eq_true rfl) (cat_of rfl) (Nat.le_of_ble_eq_true rfl) (Nat.zero_le _) (Nat.zero_le _) rfl dX2_nextPower_53 (sp_X4_rem o_b2 h.1 h.2.1 h.2.2.1 (V_iast (t := 100) s_b0 (by decide) (by decide) rfl h.2.2.2.1 h.2.2.2.2.1 (Nat.le_of_ble_eq_true rfl) dX2_nextPower_56 (V_nmZ (fun Z1 eZ1 => V_aload_n dX2_nextPower_57 rfl (G_2_13 o_a0.1 o_a0.2.2.2.2.2.2.2.2.2.2.2.2.2.2.2.2.2.2.2.2.2.2.2.1 lf_2_54 dX2_nextPower_58 (V_iload_n dX2_nextPower_61 rfl (V_aload_n dX2_nextPower_62 rfl (G_2_0 o_a0.1 o_a0.2.1 lf_2_12 dX2_nextPower_63 (V_aload_n dX2_nextPower_66 rfl (G_2_13 o_a0.1 o_a0.2.2.2.2.2.2.2.2.2.2.2.2.2.2.2.2.2.2.2.2.2.2.2.1 lf_2_54 dX2_nextPower_67 (V_iload_n dX2_nextPower_70 rfl (V_iald (t := 100) o_a0.2.2.2.2.2.2.2.2.2.2.2.2.2.2.2.2.2.2.2.2.2.2.2.2 (by decide) rfl (h.2.2.2.2.2 Z1 eZ1).1 (h.2.2.2.2.2 Z1 eZ1).2.1 (Nat.le_of_ble_eq_true rfl) dX2_nextPower_71 (V_aload_n dX2_nextPower_72 rfl (G_2_16 o_a0.1 lf_2_145 dX2_nextPower_73 (V_imul dX2_nextPower_76 (V_iload_n dX2_nextPower_77 rfl (V_if_lt (tgt := 90) dX2_nextPower_78 rfl (h.2.2.2.2.2 Z1 eZ1).2.2.1 (fun c1 => V_iconst dX2_nextPower_90 (V_msk [true, true, false] rfl ((h.2.2.2.2.2 Z1 eZ1).2.2.2.1 c1))) (fun c1 => V_aload_n dX2_nextPower_81 rfl (G_2_13 o_a0.1 o_a0.2.2.2.2.2.2.2.2.2.2.2.2.2.2.2.2.2.2.2.2.2.2.2.1 lf_2_54 dX2_nextPower_82 (V_iload_n dX2_nextPower_85 rfl (V_iald (t := 100) o_a0.2.2.2.2.2.2.2.2.2.2.2.2.2.2.2.2.2.2.2.2.2.2.2.2 (by decide) rfl c1 ((h.2.2.2.2.2 Z1 eZ1).2.2.2.2 c1).1 (Nat.le_of_ble_eq_true rfl) dX2_nextPower_86 (V_goto (tgt := 91) dX2_nextPower_87 rfl (V_msk [true, true, false] rfl ((h.2.2.2.2.2 Z1 eZ1).2.2.2.2 c1).2))))))))))))))))))))))))
set_option maxRecDepth 20000 in
theorem b_X2_nextPower_91 {k n : Nat} {x : Wx} {Z : Zt} {Q : Option Value → Wx → Zt → Prop} {a0 : Nat} {v1 : Int} {b0_ : Nat} {t1 : Int} {b2_ : Nat} {t3 : Int} {t4 : Int} (o_b2 : Is4 x b2_) (s_b0 : x.1 b0_ = some (100, 40))
    (h : Rg (t3 + t4) ∧ 2 ≤ Z b2_ 0 ∧ Z b2_ 0 ≤ 13 ∧ (0 ≤ t1 ∧ t1 < 40 ∧ (∀ Z1 : Zt, Z1 = up Z b0_ t1.toNat ((t3 + t4) % Z b2_ 0) → (V mX2_nextPower k n 7 [some (r_ a0), some (i_ (v1 + (-1))), none] [] x Z1 Q)))) :
    V mX2_nextPower k n 91 [some (r_ a0), some (i_ v1), none] [i_ t4, i_ t3, r_ b2_, i_ t1, r_ b0_] x Z Q :=
  V_iadd dX2_nextPower_91 (V_callV (k' := 0) (n' := 0) (t := 4) (q := (RX4, TX4, 4)) [i_ (t3 + t4)] [i_ t1, r_ b0_] okX4_rem o_b2.1 rfl rfl lm_2_109 liX4_rem lqX4_rem (Nat.le_of_ble_eq_true rfl) (Nat.le_of_ble_eq_true rfl) (Nat.le_of_ble_eq_true rfl) (cat_of rfl) (Nat.le_of_ble_eq_true rfl) (Nat.zero_le _) (Nat.zero_le _) rfl dX2_nextPower_92 (sp_X4_rem o_b2 h.1 h.2.1 h.2.2.1 (V_iast (t := 100) s_b0 (by decide) (by decide) rfl h.2.2.2.1 h.2.2.2.2.1 (Nat.le_of_ble_eq_true rfl) dX2_nextPower_95 (V_nmZ (fun Z1 eZ1 => V_iinc (lv' := [some (r_ a0), some (i_ (v1 + (-1))), none]) dX2_nextPower_96 rfl (Nat.le_of_ble_eq_true rfl) rfl (V_goto (tgt := 7) dX2_nextPower_99 rfl (V_msk [true, true, false] rfl (h.2.2.2.2.2 Z1 eZ1))))))))
/-! ===== Curve: F moved, and how powers of x begin at a point ===== -/
def mvS (p A B c : Int) (m : Nat → Int) : Nat → Int := fun j => if j = 0 then (B * m 0 + c) % p else (B * m j + A * m (j - 1)) % p
def mvN (p A B : Int) (F : Nat → Int) : Nat → (Nat → Int) → Nat → Int
  | 0, m => m
  | n + 1, m => mvN p A B F n (mvS p A B (F n) m)
/-- F(A x + B) -/
def mvd (p A B : Int) (F : Nat → Int) : Nat → Int := mvN p A B F 24 (fun _ => 0)
theorem mvS_0 (p A B : Int) : mvS p A B 0 (fun _ => 0) = fun _ => 0 := funext fun j => by
  unfold mvS
  split
  · rw [Int.mul_zero, Int.zero_add, Int.zero_emod]
  · rw [Int.mul_zero, Int.mul_zero, Int.zero_add, Int.zero_emod]
theorem mvN_0 {p A B : Int} {F : Nat → Int} : ∀ (m n : Nat), (∀ i : Nat, n ≤ i → i < n + m → F i = 0) → mvN p A B F (n + m) (fun _ => 0) = mvN p A B F n (fun _ => 0)
  | 0, n, _ => rfl
  | m + 1, n, h => by
    show mvN p A B F (n + m) (mvS p A B (F (n + m)) (fun _ => 0)) = _
    rw [h (n + m) (by omega) (by omega), mvS_0]
    exact mvN_0 m n (fun i h1 h2 => h i h1 (by omega))
theorem mvS_rg {p : Int} (hp : 0 < p) (A B c : Int) (m : Nat → Int) (j : Nat) : 0 ≤ mvS p A B c m j ∧ mvS p A B c m j < p := by
  unfold mvS
  split <;> exact emr _ hp
theorem mvN_rg {p : Int} (hp : 0 < p) {A B : Int} {F : Nat → Int} : ∀ (n : Nat) (m : Nat → Int), (∀ j, 0 ≤ m j ∧ m j < p) → ∀ j, 0 ≤ mvN p A B F n m j ∧ mvN p A B F n m j < p
  | 0, _, h => h
  | n + 1, m, _ => mvN_rg hp n _ (fun j => mvS_rg hp A B (F n) m j)
theorem mvd_rg {p : Int} (hp : 0 < p) (A B : Int) (F : Nat → Int) (j : Nat) : 0 ≤ mvd p A B F j ∧ mvd p A B F j < p := mvN_rg hp 24 _ (fun _ => ⟨Int.le_refl 0, hp⟩) j
theorem sp_X2_move {k n : Nat} {x : Wx} {Z : Zt} {Q : Option Value → Wx → Zt → Prop} {a l : Nat} {A B : Int} (o : Is2 x a) (ol : Is7 x l) {p : Int} {F : Nat → Int} (hp : IsP p) (hfl : Z (a + 1) 0 = p) (hF : PA Z l p F) (hA : 0 ≤ A ∧ A < p) (hB : 0 ≤ B ∧ B < p) (h : ∀ Z' : Zt, ((∀ j : Nat, j < 6 → Z' (a + 13) j = mvd p A B F j) ∧ Oth Z Z' (fun b => b = a + 13)) → Q none x Z') : V mX2_move k n 0 [some (r_ a), some (r_ l), some (i_ A), some (i_ B), none, none] [] x Z Q := by
  have hpr := hp.rg
  have sM : x.1 (a + 13) = some (100, 6) := o.2.2.2.2.2.2.2.2.2.2.2.2.2.2.2.2.2.2.2.2.1
  have nl : l ≠ a + 13 := fun e => by have := ol.1; rw [e, sM] at this; cases this
  have nl1 : l + 1 ≠ a + 13 := fun e => by have := ol.2.2; rw [e, sM] at this; cases this
  have lp2 : ∀ (t : Nat) (c : Nat) (v : Int) (m : Nat → Int) (Z1 : Zt), t ≤ 5 → v = c → c < 10 → (∀ j, 0 ≤ m j ∧ m j < p) → Oth Z Z1 (fun b => b = a + 13) → (∀ i : Nat, i < 6 → Z1 (a + 13) i = if t < i then mvS p A B (F c) m i else m i) → (∀ Z2 : Zt, Oth Z Z2 (fun b => b = a + 13) → (∀ i : Nat, i < 6 → Z2 (a + 13) i = mvS p A B (F c) m i) → V mX2_move k n 14 [some (r_ a), some (r_ l), some (i_ A), some (i_ B), some (i_ (v + (-1))), none] [] x Z2 Q) → V mX2_move k n 28 [some (r_ a), some (r_ l), some (i_ A), some (i_ B), some (i_ v), some (i_ t)] [] x Z1 Q := by
    intro t
    induction t with
    | zero =>
      intro c v m Z1 ht hv hc hm ho hz hn
      have e0 : Z1 (a + 13) 0 = m 0 := by rw [hz 0 (by decide), if_neg (by decide)]
      have eF : Z1 (l + 1) (Int.toNat v) = F c := by rw [ho (l + 1) nl1, show v.toNat = c by omega]; exact hF.1 c hc
      have eP : Z1 (a + 1) 0 = p := by rw [ho (a + 1) (by omega)]; exact hfl
      have q := mul13 (a := B) (b := m 0) ⟨hB.1, by omega⟩ ⟨(hm 0).1, by have := (hm 0).2; omega⟩
      have hFr := hF.2.2.1 c
      refine b_X2_move_28 o ol ?_
      rw [e0, eF, eP]
      refine ⟨⟨by decide, by decide⟩, fun _ => ⟨by omega, by omega, ⟨by omega, by omega⟩, by omega, by omega, fun Z2 e2 => hn Z2 (fun b hb => ?_) (fun i hi => ?_)⟩, fun c2 => by omega⟩
      · rw [e2, up_row _ _ _ _ _ hb]; exact ho b hb
      · rw [e2, up_at]
        by_cases c2 : i = 0
        · rw [if_pos c2, c2]; unfold mvS; rw [if_pos rfl]
        · rw [if_neg c2, hz i hi, if_pos (by omega)]
    | succ t ih =>
      intro c v m Z1 ht hv hc hm ho hz hn
      have e0 : Z1 (a + 13) (((t + 1 : Nat) : Int)).toNat = m (t + 1) := by rw [Int.toNat_natCast, hz (t + 1) (by omega), if_neg (by omega)]
      have e1 : Z1 (a + 13) ((((t + 1 : Nat) : Int)) - 1).toNat = m t := by rw [show ((((t + 1 : Nat) : Int)) - 1).toNat = t by omega, hz t (by omega), if_neg (by omega)]
      have eP : Z1 (a + 1) 0 = p := by rw [ho (a + 1) (by omega)]; exact hfl
      have q1 := mul13 (a := B) (b := m (t + 1)) ⟨hB.1, by omega⟩ ⟨(hm (t + 1)).1, by have := (hm (t + 1)).2; omega⟩
      have q2 := mul13 (a := A) (b := m t) ⟨hA.1, by omega⟩ ⟨(hm t).1, by have := (hm t).2; omega⟩
      refine b_X2_move_28 o ol ?_
      rw [e0, e1, eP]
      refine ⟨⟨by omega, by omega⟩, fun c2 => by omega, fun _ => ⟨by omega, by omega, by omega, by omega, ⟨by omega, by omega⟩, by omega, by omega, fun Z2 e2 => ?_⟩⟩
      rw [show (((t + 1 : Nat) : Int)) + (-1) = (t : Int) by omega]
      refine ih c v m Z2 (by omega) hv hc hm (fun b hb => ?_) (fun i hi => ?_) hn
      · rw [e2, up_row _ _ _ _ _ hb]; exact ho b hb
      · rw [e2, Int.toNat_natCast, up_at]
        by_cases c2 : i = t + 1
        · rw [if_pos c2, if_pos (by omega), c2]; unfold mvS; rw [if_neg (by omega), Nat.add_sub_cancel]
        · rw [if_neg c2, hz i hi]
          by_cases c3 : t + 1 < i
          · rw [if_pos c3, if_pos (by omega)]
          · rw [if_neg c3, if_neg (by omega)]
  have lp1 : ∀ (c : Nat) (v : Int) (m : Nat → Int) (Z1 : Zt), v + 1 = c → c ≤ 10 → (∀ j, 0 ≤ m j ∧ m j < p) → Oth Z Z1 (fun b => b = a + 13) → (∀ i : Nat, i < 6 → Z1 (a + 13) i = m i) → mvN p A B F c m = mvd p A B F → V mX2_move k n 14 [some (r_ a), some (r_ l), some (i_ A), some (i_ B), some (i_ v), none] [] x Z1 Q := by
    intro c
    induction c with
    | zero =>
      intro v m Z1 hv hc hm ho hz he
      refine b_X2_move_14 o ⟨⟨by omega, by omega⟩, fun _ => h Z1 ⟨fun j hj => ?_, ho⟩, fun c2 => by omega⟩
      rw [hz j hj, ← he]; rfl
    | succ c ih =>
      intro v m Z1 hv hc hm ho hz he
      refine b_X2_move_14 o ⟨⟨by omega, by omega⟩, fun c2 => by omega, fun _ => ?_⟩
      rw [show (6 : Int) - 1 = ((5 : Nat) : Int) from rfl]
      refine lp2 5 c v m Z1 (by decide) (by omega) (by omega) hm ho (fun i hi => ?_) (fun Z2 ho2 hz2 => ih (v + (-1)) _ Z2 (by omega) (by omega) (fun j => mvS_rg (by omega) A B (F c) m j) ho2 hz2 he)
      rw [hz i hi, if_neg (by omega)]
  refine b_X2_move_0 o ol fun Z1 e1 => ?_
  have hd1 := dg_lt F 10
  have hd2 := dg_ge F 10
  have o1 : Oth Z Z1 (fun b => b = a + 13) := fun b hb => by
    rw [e1]; funext i; unfold fillZ; rw [if_neg (fun e => hb e.1)]
  have e4 : Z1 l 0 = dg F 10 := by rw [o1 l nl]; exact hF.2.2.2
  rw [e4]
  refine lp1 (dg F 10 + 1).toNat (dg F 10) (fun _ => 0) Z1 (by omega) (by omega) (fun _ => ⟨Int.le_refl 0, by show (0 : Int) < p; omega⟩) o1 (fun i hi => ?_) ?_
  · rw [e1]; unfold fillZ; rw [if_pos ⟨rfl, hi⟩]
  · unfold mvd
    rw [show 24 = (dg F 10 + 1).toNat + (24 - (dg F 10 + 1).toNat) by omega]
    symm
    apply mvN_0
    intro i h3 h4
    by_cases c : i < 10
    · exact dg_above F 10 i (by omega) c
    · exact hF.2.1 i (by omega)
def isMv (p c : Int) (F M : Nat → Int) : Nat → Nat → Bool
  | 0, _ => true
  | m + 1, i => if M i = c * F i % p then isMv p c F M m (i + 1) else false
theorem sp_X2_isMovedTo {k n : Nat} {x : Wx} {Z : Zt} {Q : Option Value → Wx → Zt → Prop} {a : Nat} {c : Int} (o : Is2 x a) {p : Int} {F : Nat → Int} (hp : IsP p) (hfl : Z (a + 1) 0 = p) (hF : PA Z (a + 4) p F) (hc : 0 ≤ c ∧ c < p) (hm : ∀ j : Nat, j < 6 → 0 ≤ Z (a + 13) j ∧ Z (a + 13) j < p) (h : Q (some (i_ (bI (isMv p c F (Z (a + 13)) 6 0)))) x Z) : V mX2_isMovedTo k n 0 [some (r_ a), some (i_ c), none] [] x Z Q := by
  have hpr := hp.rg
  generalize hR : isMv p c F (Z (a + 13)) 6 0 = R at h
  have lp : ∀ (m i : Nat) (v : Int), v = i → i + m = 6 → isMv p c F (Z (a + 13)) m i = R → V mX2_isMovedTo k n 2 [some (r_ a), some (i_ c), some (i_ v)] [] x Z Q := by
    intro m
    induction m with
    | zero =>
      intro i v hv hi he
      refine b_X2_isMovedTo_2 o ⟨⟨by omega, by omega⟩, fun _ => ?_, fun c2 => by omega⟩
      rw [← he] at h; exact h
    | succ m ih =>
      intro i v hv hi he
      have eF : Z (a + 4 + 1) (Int.toNat v) = F i := by rw [show v.toNat = i by omega]; exact hF.1 i (by omega)
      have hFr := hF.2.2.1 i
      have q := mul13 (a := c) (b := F i) ⟨hc.1, by omega⟩ ⟨hFr.1, by omega⟩
      have q2 := emr (c * F i) (p := p) (by omega)
      have q3 := hm i (by omega)
      unfold isMv at he
      refine b_X2_isMovedTo_2 o ?_
      rw [eF, hfl, show v.toNat = i by omega]
      refine ⟨⟨by omega, by omega⟩, fun c2 => by omega, fun _ => ⟨by omega, by omega, ⟨by omega, by omega⟩, by omega, by omega, ⟨by omega, by omega⟩, ⟨by omega, by omega⟩, fun c3 => ih (i + 1) (v + 1) (by omega) (by omega) ?_, fun c3 => ?_⟩⟩
      · rw [if_pos c3] at he; exact he
      · rw [if_neg c3] at he
        rw [← he] at h; exact h
  exact b_X2_isMovedTo_0 (lp 6 0 0 rfl rfl hR)
/-- the next power of x, begun at X -/
def npw (p X : Int) (sh : Nat) (f : Nat → Int) : Nat → Int := fun i => (f i * X + (if sh ≤ i then f (i - sh) else 0)) % p
theorem sp_X2_nextPower {k n : Nat} {x : Wx} {Z : Zt} {Q : Option Value → Wx → Zt → Prop} {a : Nat} (o : Is2 x a) {p : Int} (hp : IsP p) (hfl : Z (a + 1) 0 = p) (ht : 0 ≤ Z a 14 ∧ Z a 14 ≤ 40) (hs : 1 ≤ Z a 15 ∧ Z a 15 ≤ 2) (hX : 0 ≤ Z a 16 ∧ Z a 16 < p) (h1 : ∀ i : Nat, i < 40 → 0 ≤ Z (a + 14) i ∧ Z (a + 14) i < p) (h2 : ∀ i : Nat, i < 40 → 0 ≤ Z (a + 15) i ∧ Z (a + 15) i < p) (h : ∀ Z' : Zt, ((∀ i : Nat, i < 40 → Z' (a + 14) i = (if (i : Int) < Z a 14 then npw p (Z a 16) (Z a 15).toNat (Z (a + 14)) i else Z (a + 14) i) ∧ Z' (a + 15) i = (if (i : Int) < Z a 14 then npw p (Z a 16) (Z a 15).toNat (Z (a + 15)) i else Z (a + 15) i)) ∧ Oth Z Z' (fun b => b = a + 14 ∨ b = a + 15)) → Q none x Z') : V mX2_nextPower k n 0 [some (r_ a), none, none] [] x Z Q := by
  have hpr := hp.rg
  have lp : ∀ (m : Nat) (v : Int) (Z1 : Zt), v + 1 = m → (m : Int) ≤ Z a 14 → Oth Z Z1 (fun b => b = a + 14 ∨ b = a + 15) → (∀ i : Nat, i < 40 → Z1 (a + 14) i = (if m ≤ i ∧ (i : Int) < Z a 14 then npw p (Z a 16) (Z a 15).toNat (Z (a + 14)) i else Z (a + 14) i) ∧ Z1 (a + 15) i = (if m ≤ i ∧ (i : Int) < Z a 14 then npw p (Z a 16) (Z a 15).toNat (Z (a + 15)) i else Z (a + 15) i)) → V mX2_nextPower k n 7 [some (r_ a), some (i_ v), none] [] x Z1 Q := by
    intro m
    induction m with
    | zero =>
      intro v Z1 hv hm ho hz
      refine b_X2_nextPower_7 o ⟨⟨by omega, by omega⟩, fun _ => h Z1 ⟨fun i hi => ?_, ho⟩, fun c2 => by omega⟩
      have := hz i hi
      by_cases c : (i : Int) < Z a 14
      · rw [if_pos c, if_pos c]
        rw [if_pos ⟨Nat.zero_le i, c⟩, if_pos ⟨Nat.zero_le i, c⟩] at this
        exact this
      · rw [if_neg c, if_neg c]
        rw [if_neg (fun e => c e.2), if_neg (fun e => c e.2)] at this
        exact this
    | succ m ih =>
      intro v Z1 hv hm ho hz
      have ea : Z1 a = Z a := ho a (by omega)
      have eP : Z1 (a + 1) 0 = p := by rw [ho (a + 1) (by omega)]; exact hfl
      have hvm : v.toNat = m := by omega
      have old : ∀ i : Nat, i ≤ m → Z1 (a + 14) i = Z (a + 14) i ∧ Z1 (a + 15) i = Z (a + 15) i := fun i hi => by
        have := hz i (by omega)
        rw [if_neg (by omega), if_neg (by omega)] at this
        exact this
      have b14 := fun (i : Nat) (hi : i ≤ m) => h1 i (by omega)
      have b15 := fun (i : Nat) (hi : i ≤ m) => h2 i (by omega)
      have q1 := mul13 (a := Z (a + 14) m) (b := Z a 16) ⟨(b14 m (by omega)).1, by have := (b14 m (by omega)).2; omega⟩ ⟨hX.1, by omega⟩
      have q2 := mul13 (a := Z (a + 15) m) (b := Z a 16) ⟨(b15 m (by omega)).1, by have := (b15 m (by omega)).2; omega⟩ ⟨hX.1, by omega⟩
      have fin : ∀ (u w : Int), u = (if (Z a 15).toNat ≤ m then Z (a + 14) (m - (Z a 15).toNat) else 0) → w = (if (Z a 15).toNat ≤ m then Z (a + 15) (m - (Z a 15).toNat) else 0) → ∀ Z2 Z3 : Zt, Z2 = up Z1 (a + 14) m ((Z (a + 14) m * Z a 16 + u) % p) → Z3 = up Z2 (a + 15) m ((Z (a + 15) m * Z a 16 + w) % p) → V mX2_nextPower k n 7 [some (r_ a), some (i_ (v + (-1))), none] [] x Z3 Q := by
        intro u w hu hw Z2 Z3 e2 e3
        refine ih (v + (-1)) Z3 (by omega) (by omega) (fun b hb => ?_) (fun i hi => ?_)
        · have hb1 : b ≠ a + 14 := fun e => hb (Or.inl e)
          have hb2 : b ≠ a + 15 := fun e => hb (Or.inr e)
          rw [e3, up_row _ _ _ _ _ hb2, e2, up_row _ _ _ _ _ hb1]; exact ho b hb
        · have hzi := hz i hi
          rw [e3, up_row _ _ _ _ (a + 14) (by omega), up_at, e2, up_row _ _ _ _ (a + 15) (by omega), up_at]
          by_cases c : i = m
          · rw [if_pos c, if_pos c, if_pos ⟨by omega, by omega⟩, if_pos ⟨by omega, by omega⟩, c, hu, hw]
            exact ⟨rfl, rfl⟩
          · rw [if_neg c, if_neg c]
            by_cases c2 : m + 1 ≤ i ∧ (i : Int) < Z a 14
            · rw [if_pos c2, if_pos c2] at hzi
              rw [if_pos ⟨by omega, c2.2⟩, if_pos ⟨by omega, c2.2⟩]; exact hzi
            · rw [if_neg c2, if_neg c2] at hzi
              rw [if_neg (by omega), if_neg (by omega)]; exact hzi
      have oF : Is4 x (a + 1) := o.2.2.1
      have s14 : x.1 (a + 14) = some (100, 40) := o.2.2.2.2.2.2.2.2.2.2.2.2.2.2.2.2.2.2.2.2.2.2.1
      have s15 : x.1 (a + 15) = some (100, 40) := o.2.2.2.2.2.2.2.2.2.2.2.2.2.2.2.2.2.2.2.2.2.2.2.2
      have go : ∀ (u : Int), u = (if (Z a 15).toNat ≤ m then Z (a + 14) (m - (Z a 15).toNat) else 0) → V mX2_nextPower k n 52 [some (r_ a), some (i_ v), some (i_ (v - Z a 15))] [i_ u, i_ (Z (a + 14) m * Z a 16), r_ (a + 1), i_ v, r_ (a + 14)] x Z1 Q := by
        intro u hu
        have hur : 0 ≤ u ∧ u ≤ 13 := by
          rw [hu]
          by_cases c : (Z a 15).toNat ≤ m
          · rw [if_pos c]; have := b14 (m - (Z a 15).toNat) (by omega); omega
          · rw [if_neg c]; decide
        refine b_X2_nextPower_52 oF o s14 ?_
        rw [eP, hvm]
        refine ⟨⟨by omega, by omega⟩, by omega, by omega, by omega, by omega, fun Z2 e2 => ?_⟩
        have e2a : Z2 a = Z a := by rw [e2, up_row _ _ _ _ _ (by omega)]; exact ea
        have e215 : Z2 (a + 15) = Z1 (a + 15) := by rw [e2, up_row _ _ _ _ _ (by omega)]
        have e2P : Z2 (a + 1) 0 = p := by rw [e2, up_row _ _ _ _ _ (by omega)]; exact eP
        rw [e2a, e215, (old m (by omega)).2]
        refine ⟨by omega, by omega, ⟨by omega, by omega⟩, fun c => b_X2_nextPower_91 oF s15 ?_, fun c => ⟨by omega, b_X2_nextPower_91 oF s15 ?_⟩⟩
        · rw [e2P, hvm]
          refine ⟨⟨by omega, by omega⟩, by omega, by omega, by omega, by omega, fun Z3 e3 => fin u 0 hu ?_ Z2 Z3 e2 e3⟩
          rw [if_neg (by omega)]
        · have hw : Z1 (a + 15) (v - Z a 15).toNat = Z (a + 15) (m - (Z a 15).toNat) := by
            rw [show (v - Z a 15).toNat = m - (Z a 15).toNat by omega]; exact (old _ (by omega)).2
          have := b15 (m - (Z a 15).toNat) (by omega)
          rw [e2P, hvm, hw]
          refine ⟨⟨by omega, by omega⟩, by omega, by omega, by omega, by omega, fun Z3 e3 => fin u _ hu ?_ Z2 Z3 e2 e3⟩
          rw [if_pos (by omega)]
      refine b_X2_nextPower_7 o ?_
      rw [ea, hvm, (old m (by omega)).1]
      refine ⟨⟨by omega, by omega⟩, fun c2 => by omega, fun _ => ⟨by omega, ⟨by omega, by omega⟩, fun c => go 0 ?_, fun c => ⟨by omega, ?_⟩⟩⟩
      · rw [if_neg (by omega)]
      · rw [show (v - Z a 15).toNat = m - (Z a 15).toNat by omega, (old _ (by omega)).1]
        refine go _ ?_
        rw [if_pos (by omega)]
  refine b_X2_nextPower_0 o (lp (Z a 14).toNat (Z a 14 - 1) Z (by omega) (by omega) Oth.rf (fun i hi => ?_))
  rw [if_neg (by omega), if_neg (by omega)]
  exact ⟨rfl, rfl⟩
